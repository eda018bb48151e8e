/-! calls that take one of two worlds -/
theorem fk_Dl {A : Nat → Prop} {a b : va_W} (h : va_D A (a ++ b)) : va_D A a := by
  have k : ∀ (i : Nat) (p : Nat × va_E), a[i]? = some p → (a ++ b)[i]? = some p := fun i p h => by rw [List.getElem?_append_left (List.getElem?_eq_some_iff.mp h).1]; exact h
  exact ⟨fun i j p q h1 h2 => h.1 i j p q (k i p h1) (k j q h2), fun i q h1 => h.2 i q (k i q h1)⟩
theorem fk_Dk {a b : va_W} {j : Nat} {q : Nat × va_E} (h : b[j]? = some q) : (a ++ b)[a.length + j]? = some q := by rw [List.getElem?_append_right (by omega), Nat.add_sub_cancel_left]; exact h
theorem fk_Dr {A : Nat → Prop} {a b : va_W} (h : va_D A (a ++ b)) : va_D A b :=
  ⟨fun i j p q h1 h2 e => by have := h.1 _ _ p q (fk_Dk h1) (fk_Dk h2) e; omega, fun i q h1 => h.2 _ q (fk_Dk h1)⟩
theorem fk_Dx {A : Nat → Prop} {a b : va_W} (h : va_D A (a ++ b)) {i j : Nat} {p q : Nat × va_E} (h1 : a[i]? = some p) (h2 : b[j]? = some q) : p.1 ≠ q.1 := by
  intro e
  have hi := (List.getElem?_eq_some_iff.mp h1).1
  have := h.1 _ _ p q (by rw [List.getElem?_append_left hi]; exact h1) (fk_Dk h2) e
  omega
theorem fk_Dw {A : Nat → Prop} {a b : va_W} (h : va_D A (a ++ b)) : va_D A (b ++ a) := va_D.app (fk_Dr h) (fk_Dl h) (fun _ _ _ _ h1 h2 e => fk_Dx h h2 h1 e.symm)
section F2
variable {p : Program} {l : Launch} {e : Env} {R : Room} {s : State} {m : MethodId} {args : Array Value} {below : List Frame} {meth : Method} {c : Code} {H : Heap} {locs : List Loc} {cells slots : Nat} {Q : State → Prop} {cc bytes : ByteArray} {pc nL maxL n index : Nat} {ls : Array Slot} {rest st0 As : List Value} {ret : Option FieldType} {ws Ts : List Cond} {rm : Room} {own C : String} {y : MethodName} {b : Addr} {S : Type} {G : va_G} {Wd : S → va_W} {T : List (ClassId × FieldType)} {z : S} {A : Nat → Prop} {wr : va_W}
theorem fk_2k {A1 : Nat → Prop} {w1 : va_W} {H1 : Heap} (hPr : va_P G vwCl wr H) (hD : va_D A (Wd z ++ wr)) (hFc : ∀ q, va_A (Wd z) H.size q → A q) (hk1 : ∀ q : Nat, q < H.size → ¬ va_A (Wd z) H.size q → H1[q]? = H[q]?) (hD1 : va_D (va_A (Wd z) H.size) w1) : va_P G vwCl wr H1 ∧ va_D A (w1 ++ wr) := by
  have hno : ∀ (k : Nat) (q : Nat × va_E), wr[k]? = some q → ¬ va_A (Wd z) H.size q.1 := by
    intro k q hq h
    rcases h with ⟨k2, e2, h⟩ | h
    · exact fk_Dx hD h hq rfl
    · exact absurd (hPr k q hq).lt (Nat.not_lt.mpr h)
  refine ⟨hPr.kept (fun k q hq => hk1 q.1 (hPr k q hq).lt (hno k q hq)), va_D.app (hD1.weaken (fun _ q _ h => hFc q.1 h)) (fk_Dr hD) (fun i j x y h1 h2 e => hno j y h2 ?_)⟩
  rw [← e]
  exact hD1.2 i x h1
theorem fk_2i {v : Int32 × S} (F : CallFix p m c cc nL s args Ts own) (hM : fk_Mi l y ws rm G Wd T (.ref b :: As) H.size z v) (cw : CallW R s args own C index y bytes maxL ret ws rm 0 0 n) (hrv : ∃ cell : Cell, H[b]? = some cell ∧ cell.vm.isStatics = false ∧ s.vm.findClass C = some cell.cls)
    (hK : va_K G vwCl T s) (hP : va_P G vwCl (Wd z) H) (hPr : va_P G vwCl wr H) (hD : va_D A (Wd z ++ wr)) (hS : va_S A s.heap H locs) (hA : ∀ q, s.heap.size ≤ q → A q) (hN : fk_N s)
    (hn : As.length = n) (hsize : ls.size = nL) (hstack : st0 = As.reverse ++ .ref b :: rest) (hW : (rest.map fun v => v.category).sum ≤ 8) (hdg : decode cc pc = .ok (.invokevirtual index, 3)) (hR : cells ≤ R.cells ∧ slots ≤ R.slots)
    (kk : ∀ (r : Int32) (z1 : S) (H1 : Heap) (locs1 : List Loc), (r, z1) = v → va_P G vwCl (Wd z1) H1 → va_P G vwCl wr H1 → va_D A (Wd z1 ++ wr) → va_S A s.heap H1 locs1 → W p l e R s m args below meth c H1 locs1 cells slots Q (F0 m (pc + 3) ls (.int r :: rest))) : W p l e R s m args below meth c H locs cells slots Q (F0 m pc ls st0) := by
  subst hstack
  have hDz := fk_Dl hD
  have hFc := fk_free hDz hS hA
  refine va_calli (va_runV (g := F0 m pc ls (As.reverse ++ .ref b :: rest)) (As := As) (rest := rest) F hM cw ⟨fk_blind _, hrv, fun U hU hW => ⟨rfl, by rw [hU], by rw [hU]; exact hP, va_K.moved hW.alike hK, hDz.weaken (fun _ _ _ _ => trivial), hN.warm hW⟩⟩ rfl hn hsize rfl (lv_room hW) hdg hR) hS (fun q _ h => hFc q h) hFc (fun r u t H1 locs1 ht hvm hw hB hz1 hk1 hS1 => ?_)
  obtain ⟨hP1, hK1, hD1⟩ := hB
  rw [ht] at hP1
  obtain ⟨hP2, hD2⟩ := fk_2k (A1 := A) hPr hD hFc hk1 hD1
  exact kk r u H1 locs1 hw hP1 hP2 hD2 hS1
theorem fk_2v {v : S} (F : CallFix p m c cc nL s args Ts own) (hM : fk_Mv l y ws rm G Wd T (.ref b :: As) H.size z v) (cw : CallW R s args own C index y bytes maxL ret ws rm 0 0 n) (hrv : ∃ cell : Cell, H[b]? = some cell ∧ cell.vm.isStatics = false ∧ s.vm.findClass C = some cell.cls)
    (hK : va_K G vwCl T s) (hP : va_P G vwCl (Wd z) H) (hPr : va_P G vwCl wr H) (hD : va_D A (Wd z ++ wr)) (hS : va_S A s.heap H locs) (hA : ∀ q, s.heap.size ≤ q → A q) (hN : fk_N s)
    (hn : As.length = n) (hsize : ls.size = nL) (hstack : st0 = As.reverse ++ .ref b :: rest) (hW : (rest.map fun v => v.category).sum ≤ 8) (hdg : decode cc pc = .ok (.invokevirtual index, 3)) (hR : cells ≤ R.cells ∧ slots ≤ R.slots)
    (kk : ∀ (z1 : S) (H1 : Heap) (locs1 : List Loc), z1 = v → va_P G vwCl (Wd z1) H1 → va_P G vwCl wr H1 → va_D A (Wd z1 ++ wr) → va_S A s.heap H1 locs1 → W p l e R s m args below meth c H1 locs1 cells slots Q (F0 m (pc + 3) ls rest)) : W p l e R s m args below meth c H locs cells slots Q (F0 m pc ls st0) := by
  subst hstack
  have hDz := fk_Dl hD
  have hFc := fk_free hDz hS hA
  refine va_callv (va_runV (g := F0 m pc ls (As.reverse ++ .ref b :: rest)) (As := As) (rest := rest) F hM cw ⟨fk_blind _, hrv, fun U hU hW => ⟨rfl, by rw [hU], by rw [hU]; exact hP, va_K.moved hW.alike hK, hDz.weaken (fun _ _ _ _ => trivial), hN.warm hW⟩⟩ rfl hn hsize rfl (lv_room hW) hdg hR) hS (fun q _ h => hFc q h) hFc (fun u t H1 locs1 ht hvm hw hB hz1 hk1 hS1 => ?_)
  obtain ⟨hP1, hK1, hD1⟩ := hB
  rw [ht] at hP1
  obtain ⟨hP2, hD2⟩ := fk_2k (A1 := A) hPr hD hFc hk1 hD1
  exact kk u H1 locs1 hw hP1 hP2 hD2 hS1
theorem fk_2p {v : Int32} (F : CallFix p m c cc nL s args Ts own) (hM : fk_Mp l y ws rm G Wd T (.ref b :: As) H.size z v) (cw : CallW R s args own C index y bytes maxL ret ws rm 0 0 n) (hrv : ∃ cell : Cell, H[b]? = some cell ∧ cell.vm.isStatics = false ∧ s.vm.findClass C = some cell.cls)
    (hK : va_K G vwCl T s) (hP : va_P G vwCl (Wd z) H) (hPr : va_P G vwCl wr H) (hD : va_D A (Wd z ++ wr)) (hS : va_S A s.heap H locs) (hA : ∀ q, s.heap.size ≤ q → A q) (hN : fk_N s)
    (hn : As.length = n) (hsize : ls.size = nL) (hstack : st0 = As.reverse ++ .ref b :: rest) (hW : (rest.map fun v => v.category).sum ≤ 8) (hdg : decode cc pc = .ok (.invokevirtual index, 3)) (hR : cells ≤ R.cells ∧ slots ≤ R.slots)
    (kk : ∀ (H1 : Heap) (locs1 : List Loc), va_P G vwCl (Wd z) H1 → va_P G vwCl wr H1 → va_D A (Wd z ++ wr) → va_S A s.heap H1 locs1 → W p l e R s m args below meth c H1 locs1 cells slots Q (F0 m (pc + 3) ls (.int v :: rest))) : W p l e R s m args below meth c H locs cells slots Q (F0 m pc ls st0) := by
  subst hstack
  have hDz := fk_Dl hD
  have hFc := fk_free hDz hS hA
  refine va_calli (va_runV (g := F0 m pc ls (As.reverse ++ .ref b :: rest)) (As := As) (rest := rest) F hM cw ⟨fk_blind _, hrv, fun U hU hW => ⟨rfl, by rw [hU], by rw [hU]; exact hP, va_K.moved hW.alike hK, hDz.weaken (fun _ _ _ _ => trivial), hN.warm hW⟩⟩ rfl hn hsize rfl (lv_room hW) hdg hR) hS (fun q _ h => hFc q h) hFc (fun r u t H1 locs1 ht hvm hw hB hz1 hk1 hS1 => ?_)
  obtain ⟨hP1, hK1, hD1⟩ := hB
  rw [ht] at hP1
  obtain ⟨hP2, hD2⟩ := fk_2k (A1 := A) hPr hD hFc hk1 hD1
  subst hw
  exact kk H1 locs1 hP1 hP2 hD2 hS1
end F2
