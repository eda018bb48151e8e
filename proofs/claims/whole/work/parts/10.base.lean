/-! states, worlds, calls over a whole world -/
/-- the system's numbers, its cells' words, its buffer's bytes -/
abbrev fk_C : Type := (Nat → Int32) × (Nat → Int32) × (Nat → Int32)
/-- the reference's numbers, cells, field's bytes, buffer's bytes -/
abbrev fk_M : Type := (Nat → Int32) × (Nat → Int32) × (Nat → Int32) × (Nat → Int32)
def fk_cW (q : Nat → Nat) (k : Nat → ClassId) (z : fk_C) : va_W := [
  (q 0, .inr (5, [.ref (q 1), .ref (q 3), .ref (q 4), .ref (q 6)])),
  (q 1, .inr (1, [.ref (q 2), .int (z.1 0), .int (z.1 1), .int (z.1 2)])),
  (q 2, .inl (k 0, 600, .inl z.2.1)),
  (q 3, .inr (2, [.int (z.1 3), .int (z.1 4), .int (z.1 5), .int (z.1 6), .int (z.1 7), .int (z.1 8), .int (z.1 9), .int (z.1 10), .int (z.1 11), .int (z.1 12), .int (z.1 13), .int (z.1 14), .int (z.1 15), .int (z.1 16)])),
  (q 4, .inr (0, [.ref (q 1), .ref (q 3), .ref (q 5), .int (z.1 17), .int (z.1 18), .int (z.1 19), .int (z.1 20), .int (z.1 21), .int (z.1 22), .int (z.1 23), .int (z.1 24), .int (z.1 25)])),
  (q 5, .inr (4, [.int (z.1 26), .int (z.1 27), .int (z.1 28), .int (z.1 29), .int (z.1 30), .int (z.1 31), .int (z.1 32)])),
  (q 6, .inr (3, [.ref (q 7), .int (z.1 33), .int (z.1 34)])),
  (q 7, .inl (k 1, 200, .inl z.2.2))]
def fk_mW (q : Nat → Nat) (k : Nat → ClassId) (z : fk_M) : va_W := [
  (q 0, .inr (6, [.ref (q 1), .int (z.1 1), .int (z.1 2), .int (z.1 3), .int (z.1 4), .int (z.1 5), .int (z.1 6), .int (z.1 7), .int (z.1 8), .int (z.1 9), .int (z.1 10), .ref (q 2), .int (z.1 12), .int (z.1 13), .int (z.1 14), .int (z.1 15), .int (z.1 16), .int (z.1 17), .int (z.1 18), .int (z.1 19), .int (z.1 20), .int (z.1 21), .int (z.1 22), .int (z.1 23), .int (z.1 24), .int (z.1 25), .int (z.1 26), .int (z.1 27), .int (z.1 28), .int (z.1 29), .int (z.1 30), .ref (q 3)])),
  (q 1, .inl (k 0, 9600, .inl z.2.1)),
  (q 2, .inl (k 1, 40, .inl z.2.2.1)),
  (q 3, .inl (k 2, 200, .inl z.2.2.2))]
abbrev fk_cT (k : Nat → ClassId) : List (ClassId × FieldType) := [(k 0, .int), (k 1, .int)]
abbrev fk_mT (k : Nat → ClassId) : List (ClassId × FieldType) := [(k 0, .boolean), (k 1, .int), (k 2, .int)]
/-- the links of private members among nest mates -/
def fk_nf : List (String × Nat × String × String × String × String) := [
  (RX0, 61, "FloppyDesk$Disk", "isProtected", "Z", "FloppyDesk"),
  (RX0, 101, "FloppyDesk$Disk", "headTrack", "I", "FloppyDesk"),
  (RX0, 130, "FloppyDesk$Reader", "fieldStart", "I", "FloppyDesk"),
  (RX0, 136, "FloppyDesk$Reader", "latestByte", "I", "FloppyDesk"),
  (RX0, 145, "FloppyDesk$Reader", "idTrack", "I", "FloppyDesk"),
  (RX0, 154, "FloppyDesk$Reader", "idSector", "I", "FloppyDesk"),
  (RX0, 157, "FloppyDesk$Writer", "cellsLeft", "I", "FloppyDesk"),
  (RX0, 172, "FloppyDesk$Writer", "count", "I", "FloppyDesk"),
  (RX0, 175, "FloppyDesk$Reader", "dataSize", "I", "FloppyDesk"),
  (RX0, 178, "FloppyDesk$Writer", "isLowCheckDue", "Z", "FloppyDesk"),
  (RX5, 53, "FloppyDesk$Controller", "track", "I", "FloppyDesk"),
  (RX5, 57, "FloppyDesk$Controller", "sector", "I", "FloppyDesk"),
  (RX5, 75, "FloppyDesk$Controller", "latest", "I", "FloppyDesk"),
  (RX5, 90, "FloppyDesk$Store", "size", "I", "FloppyDesk"),
  (RX5, 97, "FloppyDesk$Disk", "isProtected", "Z", "FloppyDesk"),
  (RX5, 109, "FloppyDesk$Controller", "status", "I", "FloppyDesk"),
  (RX5, 112, "FloppyDesk$Controller", "data", "I", "FloppyDesk"),
  (RX5, 115, "FloppyDesk$Disk", "headTrack", "I", "FloppyDesk"),
  (RX5, 118, "FloppyDesk$Disk", "place", "I", "FloppyDesk"),
  (RX5, 121, "FloppyDesk$Reader", "inStep", "Z", "FloppyDesk")]
def fk_nm : List (String × Nat × MethodName × String) := [(RX0, 21, yX4_init, "FloppyDesk"), (RX4, 32, yX5_checkWith, "FloppyDesk"), (RX2, 57, yX5_checkWith, "FloppyDesk")]
def fk_N (U : State) : Prop := (∀ x ∈ fk_nf, va_Nw (.fieldLinkNest x.1 x.2.1 x.2.2.1 x.2.2.2.1 x.2.2.2.2.1 x.2.2.2.2.2) U) ∧ ∀ x ∈ fk_nm, va_Nw (.methodLinkNest x.1 x.2.1 x.2.2.1 x.2.2.2) U
theorem fk_N.warm {s U : State} (h : fk_N s) (hW : s.WarmedH U.vm) : fk_N U := ⟨fun x hx => va_Nw.warmF hW (h.1 x hx), fun x hx => va_Nw.warmM hW (h.2 x hx)⟩
theorem fk_N.same {u U : State} (h : fk_N u) (e : u.vm = U.vm) : fk_N U := ⟨fun x hx => va_Nw.same rfl e (h.1 x hx), fun x hx => va_Nw.same rfl e (h.2 x hx)⟩
theorem fk_N.f {s : State} (h : fk_N s) (i : Nat) {args : Array Value} {a b n d o : String} {j : Nat} (hx : fk_nf[i]? = some (a, j, b, n, d, o)) : (Cond.fieldLinkNest a j b n d o).before args s = true := va_Nw.use rfl (h.1 (a, j, b, n, d, o) (List.mem_of_getElem? hx))
theorem fk_N.m {s : State} (h : fk_N s) (i : Nat) {a o : String} {y : MethodName} {j : Nat} (hx : fk_nm[i]? = some (a, j, y, o)) : va_Nw (.methodLinkNest a j y o) s := h.2 (a, j, y, o) (List.mem_of_getElem? hx)
def fk_Pre {S : Type} (G : va_G) (Wd : S → va_W) (T : List (ClassId × FieldType)) (sz : Nat) (z : S) (U : State) : Prop := U.heap.size = sz ∧ va_P G vwCl (Wd z) U.heap ∧ va_K G vwCl T U ∧ va_D (fun _ => True) (Wd z) ∧ fk_N U
def fk_At {S : Type} (G : va_G) (Wd : S → va_W) (T : List (ClassId × FieldType)) (A : Nat → Prop) (z : S) (t : State) : Prop := va_P G vwCl (Wd z) t.heap ∧ va_K G vwCl T t ∧ va_D A (Wd z)
theorem fk_blind {S : Type} {G : va_G} {Wd : S → va_W} {T : List (ClassId × FieldType)} {sz : Nat} {z : S} (av : List Value) : FrameBlind (va_Pc av (fk_Pre G Wd T sz z)) := fun a U g mk q => ⟨q.1, q.2.1, q.2.2.1, va_K.moved (u := U) (U := U.calling g mk a) (Vm.Alike.refl U.vm) q.2.2.2.1, q.2.2.2.2.1, fk_N.same q.2.2.2.2.2 rfl⟩
/-- the contract of a method that answers an int and may change the world -/
abbrev fk_Mi {S : Type} (l : Launch) (y : MethodName) (ws : List Cond) (rm : Room) (G : va_G) (Wd : S → va_W) (T : List (ClassId × FieldType)) (av : List Value) (sz : Nat) (z : S) (v : Int32 × S) : Prop :=
  Met l y ws rm (va_Pc av (fk_Pre G Wd T sz z)) (va_Qi (fun r z1 => (r, z1) = v) (fk_At G Wd T (va_A (Wd z) sz)) (va_A (Wd z) sz)) 0 0 (va_A (Wd z) sz)
/-- of one that answers nothing -/
abbrev fk_Mv {S : Type} (l : Launch) (y : MethodName) (ws : List Cond) (rm : Room) (G : va_G) (Wd : S → va_W) (T : List (ClassId × FieldType)) (av : List Value) (sz : Nat) (z v : S) : Prop :=
  Met l y ws rm (va_Pc av (fk_Pre G Wd T sz z)) (va_Qv (fun z1 => z1 = v) (fk_At G Wd T (va_A (Wd z) sz)) (va_A (Wd z) sz)) 0 0 (va_A (Wd z) sz)
/-- of one that answers an int and leaves the world as it is -/
abbrev fk_Mp {S : Type} (l : Launch) (y : MethodName) (ws : List Cond) (rm : Room) (G : va_G) (Wd : S → va_W) (T : List (ClassId × FieldType)) (av : List Value) (sz : Nat) (z : S) (v : Int32) : Prop :=
  Met l y ws rm (va_Pc av (fk_Pre G Wd T sz z)) (va_Qi (fun r (_ : Unit) => r = v) (fun _ => fk_At G Wd T (va_A (Wd z) sz) z) (va_A (Wd z) sz)) 0 0 (va_A (Wd z) sz)
section FK
variable {p : Program} {l : Launch} {e : Env} {R : Room} {s : State} {m : MethodId} {args : Array Value} {below : List Frame} {meth : Method} {c : Code} {H : Heap} {locs : List Loc} {cells slots : Nat} {Q : State → Prop} {cc bytes : ByteArray} {pc nL maxL n index : Nat} {ls : Array Slot} {rest st0 As : List Value} {ret : Option FieldType} {ws Ts : List Cond} {rm : Room} {own C host : String} {y : MethodName} {b : Addr} {S : Type} {G : va_G} {Wd : S → va_W} {T : List (ClassId × FieldType)} {z : S} {A : Nat → Prop}
theorem fk_free (hD : va_D A (Wd z)) (hS : va_S A s.heap H locs) (hA : ∀ q, s.heap.size ≤ q → A q) : ∀ q, va_A (Wd z) H.size q → A q := by
  intro q h
  rcases h with ⟨k, e, h⟩ | h
  · exact hD.2 k (q, e) h
  · exact hA q (Nat.le_trans hS.1 h)
theorem fk_Vi {v : Int32 × S} (F : CallFix p m c cc nL s args Ts own) (hM : fk_Mi l y ws rm G Wd T (.ref b :: As) H.size z v) (cw : CallW R s args own C index y bytes maxL ret ws rm 0 0 n) (hrv : ∃ cell : Cell, H[b]? = some cell ∧ cell.vm.isStatics = false ∧ s.vm.findClass C = some cell.cls)
    (hK : va_K G vwCl T s) (hP : va_P G vwCl (Wd z) H) (hD : va_D A (Wd z)) (hS : va_S A s.heap H locs) (hA : ∀ q, s.heap.size ≤ q → A q) (hN : fk_N s)
    (hn : As.length = n) (hsize : ls.size = nL) (hstack : st0 = As.reverse ++ .ref b :: rest) (hW : (rest.map fun v => v.category).sum ≤ 8) (hdg : decode cc pc = .ok (.invokevirtual index, 3)) (hR : cells ≤ R.cells ∧ slots ≤ R.slots)
    (kk : ∀ (r : Int32) (z1 : S) (H1 : Heap) (locs1 : List Loc), (r, z1) = v → va_P G vwCl (Wd z1) H1 → va_D A (Wd z1) → va_S A s.heap H1 locs1 → W p l e R s m args below meth c H1 locs1 cells slots Q (F0 m (pc + 3) ls (.int r :: rest))) : W p l e R s m args below meth c H locs cells slots Q (F0 m pc ls st0) := by
  subst hstack
  have hFc := fk_free hD hS hA
  refine va_calli (va_runV (g := F0 m pc ls (As.reverse ++ .ref b :: rest)) (As := As) (rest := rest) F hM cw ⟨fk_blind _, hrv, fun U hU hW => ⟨rfl, by rw [hU], by rw [hU]; exact hP, va_K.moved hW.alike hK, hD.weaken (fun _ _ _ _ => trivial), hN.warm hW⟩⟩ rfl hn hsize rfl (lv_room hW) hdg hR) hS (fun q _ h => hFc q h) hFc (fun r u t H1 locs1 ht hvm hw hB hz1 hk1 hS1 => ?_)
  obtain ⟨hP1, hK1, hD1⟩ := hB
  rw [ht] at hP1
  exact kk r u H1 locs1 hw hP1 (hD1.weaken (fun _ q _ h => hFc q.1 h)) hS1
theorem fk_Vp {v : Int32} (F : CallFix p m c cc nL s args Ts own) (hM : fk_Mp l y ws rm G Wd T (.ref b :: As) H.size z v) (cw : CallW R s args own C index y bytes maxL ret ws rm 0 0 n) (hrv : ∃ cell : Cell, H[b]? = some cell ∧ cell.vm.isStatics = false ∧ s.vm.findClass C = some cell.cls)
    (hK : va_K G vwCl T s) (hP : va_P G vwCl (Wd z) H) (hD : va_D A (Wd z)) (hS : va_S A s.heap H locs) (hA : ∀ q, s.heap.size ≤ q → A q) (hN : fk_N s)
    (hn : As.length = n) (hsize : ls.size = nL) (hstack : st0 = As.reverse ++ .ref b :: rest) (hW : (rest.map fun v => v.category).sum ≤ 8) (hdg : decode cc pc = .ok (.invokevirtual index, 3)) (hR : cells ≤ R.cells ∧ slots ≤ R.slots)
    (kk : ∀ (H1 : Heap) (locs1 : List Loc), va_P G vwCl (Wd z) H1 → va_D A (Wd z) → va_S A s.heap H1 locs1 → W p l e R s m args below meth c H1 locs1 cells slots Q (F0 m (pc + 3) ls (.int v :: rest))) : W p l e R s m args below meth c H locs cells slots Q (F0 m pc ls st0) := by
  subst hstack
  have hFc := fk_free hD hS hA
  refine va_calli (va_runV (g := F0 m pc ls (As.reverse ++ .ref b :: rest)) (As := As) (rest := rest) F hM cw ⟨fk_blind _, hrv, fun U hU hW => ⟨rfl, by rw [hU], by rw [hU]; exact hP, va_K.moved hW.alike hK, hD.weaken (fun _ _ _ _ => trivial), hN.warm hW⟩⟩ rfl hn hsize rfl (lv_room hW) hdg hR) hS (fun q _ h => hFc q h) hFc (fun r u t H1 locs1 ht hvm hw hB hz1 hk1 hS1 => ?_)
  obtain ⟨hP1, hK1, hD1⟩ := hB
  rw [ht] at hP1
  subst hw
  exact kk H1 locs1 hP1 hD hS1
theorem fk_Vv {v : S} (F : CallFix p m c cc nL s args Ts own) (hM : fk_Mv l y ws rm G Wd T (.ref b :: As) H.size z v) (cw : CallW R s args own C index y bytes maxL ret ws rm 0 0 n) (hrv : ∃ cell : Cell, H[b]? = some cell ∧ cell.vm.isStatics = false ∧ s.vm.findClass C = some cell.cls)
    (hK : va_K G vwCl T s) (hP : va_P G vwCl (Wd z) H) (hD : va_D A (Wd z)) (hS : va_S A s.heap H locs) (hA : ∀ q, s.heap.size ≤ q → A q) (hN : fk_N s)
    (hn : As.length = n) (hsize : ls.size = nL) (hstack : st0 = As.reverse ++ .ref b :: rest) (hW : (rest.map fun v => v.category).sum ≤ 8) (hdg : decode cc pc = .ok (.invokevirtual index, 3)) (hR : cells ≤ R.cells ∧ slots ≤ R.slots)
    (kk : ∀ (z1 : S) (H1 : Heap) (locs1 : List Loc), z1 = v → va_P G vwCl (Wd z1) H1 → va_D A (Wd z1) → va_S A s.heap H1 locs1 → W p l e R s m args below meth c H1 locs1 cells slots Q (F0 m (pc + 3) ls rest)) : W p l e R s m args below meth c H locs cells slots Q (F0 m pc ls st0) := by
  subst hstack
  have hFc := fk_free hD hS hA
  refine va_callv (va_runV (g := F0 m pc ls (As.reverse ++ .ref b :: rest)) (As := As) (rest := rest) F hM cw ⟨fk_blind _, hrv, fun U hU hW => ⟨rfl, by rw [hU], by rw [hU]; exact hP, va_K.moved hW.alike hK, hD.weaken (fun _ _ _ _ => trivial), hN.warm hW⟩⟩ rfl hn hsize rfl (lv_room hW) hdg hR) hS (fun q _ h => hFc q h) hFc (fun u t H1 locs1 ht hvm hw hB hz1 hk1 hS1 => ?_)
  obtain ⟨hP1, hK1, hD1⟩ := hB
  rw [ht] at hP1
  exact kk u H1 locs1 hw hP1 (hD1.weaken (fun _ q _ h => hFc q.1 h)) hS1
theorem fk_Sp {v : Int32} (F : CallFix p m c cc nL s args Ts own) (hM : fk_Mp l y ws rm G Wd T As H.size z v) (cw : CallB R s args own index y bytes maxL ret ws rm 0 0 n ∧ (Cond.static y).before args s = true)
    (hK : va_K G vwCl T s) (hP : va_P G vwCl (Wd z) H) (hD : va_D A (Wd z)) (hS : va_S A s.heap H locs) (hA : ∀ q, s.heap.size ≤ q → A q) (hN : fk_N s)
    (hn : As.length = n) (hsize : ls.size = nL) (hstack : st0 = As.reverse ++ rest) (hW : (rest.map fun v => v.category).sum ≤ 8) (hdg : decode cc pc = .ok (.invokestatic index, 3)) (hR : cells ≤ R.cells ∧ slots ≤ R.slots)
    (kk : ∀ (H1 : Heap) (locs1 : List Loc), va_P G vwCl (Wd z) H1 → va_D A (Wd z) → va_S A s.heap H1 locs1 → W p l e R s m args below meth c H1 locs1 cells slots Q (F0 m (pc + 3) ls (.int v :: rest))) : W p l e R s m args below meth c H locs cells slots Q (F0 m pc ls st0) := by
  subst hstack
  have hFc := fk_free hD hS hA
  refine va_calli (va_runS (g := F0 m pc ls (As.reverse ++ rest)) (As := As) (rest := rest) F hM cw ⟨fk_blind _, fun U hU hW => ⟨rfl, by rw [hU], by rw [hU]; exact hP, va_K.moved hW.alike hK, hD.weaken (fun _ _ _ _ => trivial), hN.warm hW⟩⟩ rfl hn hsize rfl (lv_room hW) hdg hR) hS (fun q _ h => hFc q h) hFc (fun r u t H1 locs1 ht hvm hw hB hz1 hk1 hS1 => ?_)
  obtain ⟨hP1, hK1, hD1⟩ := hB
  rw [ht] at hP1
  subst hw
  exact kk H1 locs1 hP1 hD hS1
theorem fk_Np {v : Int32} (F : CallFix p m c cc nL s args Ts own) (hM : fk_Mp l y ws rm G Wd T As H.size z v) (cw : va_CN R s args own index y host bytes maxL ret ws rm 0 0 n ∧ (Cond.static y).before args s = true ∧ True)
    (hK : va_K G vwCl T s) (hP : va_P G vwCl (Wd z) H) (hD : va_D A (Wd z)) (hS : va_S A s.heap H locs) (hA : ∀ q, s.heap.size ≤ q → A q) (hN : fk_N s)
    (hn : As.length = n) (hsize : ls.size = nL) (hstack : st0 = As.reverse ++ rest) (hW : (rest.map fun v => v.category).sum ≤ 8) (hdg : decode cc pc = .ok (.invokestatic index, 3)) (hR : cells ≤ R.cells ∧ slots ≤ R.slots)
    (kk : ∀ (H1 : Heap) (locs1 : List Loc), va_P G vwCl (Wd z) H1 → va_D A (Wd z) → va_S A s.heap H1 locs1 → W p l e R s m args below meth c H1 locs1 cells slots Q (F0 m (pc + 3) ls (.int v :: rest))) : W p l e R s m args below meth c H locs cells slots Q (F0 m pc ls st0) := by
  subst hstack
  have hFc := fk_free hD hS hA
  refine va_calli (va_runSN (g := F0 m pc ls (As.reverse ++ rest)) (As := As) (rest := rest) F hM cw ⟨fk_blind _, fun U hU hW => ⟨rfl, by rw [hU], by rw [hU]; exact hP, va_K.moved hW.alike hK, hD.weaken (fun _ _ _ _ => trivial), hN.warm hW⟩⟩ rfl hn hsize rfl (lv_room hW) hdg hR) hS (fun q _ h => hFc q h) hFc (fun r u t H1 locs1 ht hvm hw hB hz1 hk1 hS1 => ?_)
  obtain ⟨hP1, hK1, hD1⟩ := hB
  rw [ht] at hP1
  subst hw
  exact kk H1 locs1 hP1 hD hS1
/-- ends -/
theorem fk_iret {rt : FieldType} {V : Int32 × S} {v : Int32} (hx : p.tables.exec = Jvm.exec) (hb : c.code = cc) (hr : meth.sig.returnType = some rt) (hlk : meth.locks = false) (hK : va_K G vwCl T s) (hP : va_P G vwCl (Wd z) H) (hD : va_D A (Wd z)) (hS : va_S A s.heap H locs) (hn : narrow rt (.int v) = .int v) (hV : (v, z) = V) (hdg : decode cc pc = .ok (.ireturn, 1)) : W p l e R s m args below meth c H locs cells slots (MQ below (va_Qi (fun r z1 => (r, z1) = V) (fk_At G Wd T A) A) args s cells slots A) (F0 m pc ls [.int v]) :=
  W.zret hx hb hr hn (fun t ht hW => ⟨⟨v, z, rfl, hV, by rw [ht]; exact hP, va_K.moved hW.alike hK, hD⟩, hS.F ht⟩) hS.2.2 hdg hlk
theorem fk_pret {rt : FieldType} {V v : Int32} (hx : p.tables.exec = Jvm.exec) (hb : c.code = cc) (hr : meth.sig.returnType = some rt) (hlk : meth.locks = false) (hK : va_K G vwCl T s) (hP : va_P G vwCl (Wd z) H) (hD : va_D A (Wd z)) (hS : va_S A s.heap H locs) (hn : narrow rt (.int v) = .int v) (hV : v = V) (hdg : decode cc pc = .ok (.ireturn, 1)) : W p l e R s m args below meth c H locs cells slots (MQ below (va_Qi (fun r (_ : Unit) => r = V) (fun _ => fk_At G Wd T A z) A) args s cells slots A) (F0 m pc ls [.int v]) :=
  W.zret hx hb hr hn (fun t ht hW => ⟨⟨v, (), rfl, hV, by rw [ht]; exact hP, va_K.moved hW.alike hK, hD⟩, hS.F ht⟩) hS.2.2 hdg hlk
theorem fk_vret {V : S} (hx : p.tables.exec = Jvm.exec) (hb : c.code = cc) (hr : meth.sig.returnType = none) (hlk : meth.locks = false) (hK : va_K G vwCl T s) (hP : va_P G vwCl (Wd z) H) (hD : va_D A (Wd z)) (hS : va_S A s.heap H locs) (hV : z = V) (hdg : decode cc pc = .ok (.return_, 1)) : W p l e R s m args below meth c H locs cells slots (MQ below (va_Qv (fun z1 => z1 = V) (fk_At G Wd T A) A) args s cells slots A) (F0 m pc ls []) :=
  W.vret hx hb hr (fun t ht hW => ⟨⟨z, rfl, hV, by rw [ht]; exact hP, va_K.moved hW.alike hK, hD⟩, hS.F ht⟩) hS.2.2 hdg hlk
end FK
/-- the head of a method -/
theorem fk_head {l : Launch} {y : MethodName} {ws ws' : List Cond} {rm : Room} {S : Type} {G : va_G} {Wd : S → va_W} {T : List (ClassId × FieldType)} {av : List Value} {z : S} {QQ : (Nat → Prop) → Array Value → State → Outcome → State → Prop} {cc : ByteArray} {maxL : Nat} {ret : Option FieldType} (hy : plainName y.cls = true) (hw : ws = Cond.code y cc maxL ret :: ws') (hav : (lg_sl av).length ≤ maxL)
    (body : ∀ (p : Program) (e : Env) (s : State) (m : MethodId) (below : List Frame) (meth : Method) (c : Code) (A : Nat → Prop) (ls : Array Slot), p.tables.exec = Jvm.exec → c.code = cc → meth.sig.returnType = ret → meth.locks = false → c.maxLocals = maxL → s.vm.findClass y.cls = some m.cls → (∀ w ∈ ws, w.before av.toArray s = true) → va_K G vwCl T s → fk_N s → (∀ q, s.heap.size ≤ q → A q) → va_P G vwCl (Wd z) s.heap → va_D A (Wd z) → va_S A s.heap s.heap [] → lv_has ls maxL (lv_args 0 av) →
      W p l e rm s m av.toArray below meth c s.heap [] 0 0 (MQ below (QQ A) av.toArray s 0 0 A) (F0 m 0 ls [])) (sz : Nat) :
    Met l y ws rm (va_Pc av (fk_Pre G Wd T sz z)) (QQ (va_A (Wd z) sz)) 0 0 (va_A (Wd z) sz) := by
  refine Met.ofW (cc := cc) (maxL := maxL) (ret := ret) hy hw ?_
  intro p e s m args below meth c s₁ B hml hv
  obtain ⟨rfl, hsz, hP, hK, hD0, hN⟩ := hv
  subst hsz
  rw [lg_entry_eq]
  exact body p e s m below meth c _ _ B.exec B.bytes B.returns B.notSynchronized hml (findClass_of_methodNamed B.named) (atoms_spec (ws := ws) B.pre) hK hN (fun q h => Or.inr h) hP (hD0.self (sz := s.heap.size)) va_S.rf (lv_entry av hav)
theorem fk_nb {x : Int32} (h : x = 0 ∨ x = 1) : narrow .boolean (.int x) = .int x := by rcases h with rfl | rfl <;> rfl
theorem fk_fb {x : Int32} (h : x = 0 ∨ x = 1) : fits .boolean (.int x) = true := by rcases h with rfl | rfl <;> rfl
/-- a counter that goes up -/
theorem fk_up {N j : Nat} {x M : Int32} (hx : x = nI j) (hM : M = nI N) (hj : j < 2 ^ 31) (h : ¬ M ≤ x) : j < N := by
  rcases Nat.lt_or_ge j N with q | q
  · exact q
  · exact absurd (by rw [hx, hM]; exact nI_le q hj) h
theorem fk_up1 {j : Nat} {x : Int32} (hx : x = nI j) : x + 1 = nI (j + 1) := by rw [hx]; exact nI_1 j
/-- a counter that goes down -/
theorem fk_dn {j : Nat} {x : Int32} (hx : x = nI j - 1) (h : ¬ x < 0) : ∃ i, j = i + 1 ∧ x = nI i := by
  cases j with
  | zero => exact absurd (by rw [hx]; decide) h
  | succ i => exact ⟨i, rfl, by rw [hx]; exact nI_pred i⟩
theorem fk_dn1 {j : Nat} {x : Int32} (hx : x = nI j) : x + (-1) = nI j - 1 := by rw [hx]; exact (Int32.sub_eq_add_neg _ _).symm
