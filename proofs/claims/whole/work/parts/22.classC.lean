-- FloppyDesk$Store.makeEmpty()V
def fX3_makeEmpty (z0 : fk_C) : fk_C :=
  (upd (upd z0.1 33 0) 34 0, z0.2)
set_option maxHeartbeats 4000000 in
set_option maxRecDepth 100000 in
theorem c_X3_makeEmpty (l : Launch) (G : va_G) (q : Nat → Nat) (k : Nat → ClassId) (sz : Nat) (z0 : fk_C) : fk_Mv l yX3_makeEmpty wsX3_makeEmpty ({ frames := 0, cells := 0, slots := 0, locals := 0 } : Room) G (fk_cW q k) (fk_cT k) [.ref (q 6)] sz z0 (fX3_makeEmpty z0) := by
  refine fk_head (cc := cX3_makeEmpty) (maxL := 1) (ret := none) (QQ := fun A => va_Qv (fun z1 => z1 = fX3_makeEmpty z0) (fk_At G (fk_cW q k) (fk_cT k) A) A) (by decide) rfl (Nat.le_of_ble_eq_true rfl) ?_ sz
  intro p e s m below meth c A ls hx hb hr hlk hml hown hts hK hN hA hP hD hS hl
  have hown : s.vm.findClass RX3 = some m.cls := hown
  have F9 : CallFix p m c cX3_makeEmpty 1 s ([.ref (q 6)] : List Value).toArray wsX3_makeEmpty RX3 := ⟨hx, hb, hml, hown, hts⟩
  have hl : lv_has ls 1 [(0, .ref (q 6))] := hl
  have hfl_15 := hts (.fieldLink RX3 15 "FloppyDesk$Store" "size" "I") (by decide +kernel)
  have hfl_19 := hts (.fieldLink RX3 19 "FloppyDesk$Store" "next" "I") (by decide +kernel)
  have hi_3 : ∀ w ∈ u_ws RX3 TX3 3, w ∈ wsX3_makeEmpty := by decide +kernel
  refine lv_aload_n hx hb dX3_makeEmpty_0 rfl (lv_at hl 0 rfl) ?_
  refine lv_iconst (v := 0) hx hb dX3_makeEmpty_1 (by decide) ?_
  refine va_put (D := G) (ci := 3) (v := .int 0) (ty := .int) (C := RX3) (T := TX3) (N := 3) hx hb hts hi_3 tyX3 tyX3_ok nmX3 hown hK hP hD hS 6 rfl rfl 1 (by decide) hfl_15 (fun _ h9 => h9) rfl (by decide +kernel) rfl rfl (Nat.le_of_ble_eq_true rfl) dX3_makeEmpty_2 (fun H locs hP hD hS => ?_)
  have hP : va_P G vwCl ((fk_cW q k) (upd z0.1 33 0, z0.2)) H := hP
  have hD : va_D A ((fk_cW q k) (upd z0.1 33 0, z0.2)) := hD
  refine lv_aload_n hx hb dX3_makeEmpty_5 rfl (lv_at hl 0 rfl) ?_
  refine lv_iconst (v := 0) hx hb dX3_makeEmpty_6 (by decide) ?_
  refine va_put (D := G) (ci := 3) (v := .int 0) (ty := .int) (C := RX3) (T := TX3) (N := 3) hx hb hts hi_3 tyX3 tyX3_ok nmX3 hown hK hP hD hS 6 rfl rfl 2 (by decide) hfl_19 (fun _ h9 => h9) rfl (by decide +kernel) rfl rfl (Nat.le_of_ble_eq_true rfl) dX3_makeEmpty_7 (fun H locs hP hD hS => ?_)
  have hP : va_P G vwCl ((fk_cW q k) (upd (upd z0.1 33 0) 34 0, z0.2)) H := hP
  have hD : va_D A ((fk_cW q k) (upd (upd z0.1 33 0) 34 0, z0.2)) := hD
  exact fk_vret hx hb hr hlk hK hP hD hS (Eq.symm (by rw [fX3_makeEmpty] <;> rfl)) dX3_makeEmpty_10
-- FloppyDesk$Store.hasRoomFor(I)Z
def fX3_hasRoomFor (z0 : fk_C) (a1 : Int32) : Int32 :=
  (if (200 - (z0.1 33)) < a1 then 0 else 1)
set_option maxHeartbeats 4000000 in
set_option maxRecDepth 100000 in
theorem c_X3_hasRoomFor (l : Launch) (G : va_G) (q : Nat → Nat) (k : Nat → ClassId) (sz : Nat) (z0 : fk_C) (a1 : Int32) : fk_Mp l yX3_hasRoomFor wsX3_hasRoomFor ({ frames := 0, cells := 0, slots := 0, locals := 0 } : Room) G (fk_cW q k) (fk_cT k) [.ref (q 6), .int a1] sz z0 (fX3_hasRoomFor z0 a1) := by
  refine fk_head (cc := cX3_hasRoomFor) (maxL := 2) (ret := (some .boolean)) (QQ := fun A => va_Qi (fun r (_ : Unit) => r = fX3_hasRoomFor z0 a1) (fun _ => fk_At G (fk_cW q k) (fk_cT k) A z0) A) (by decide) rfl (Nat.le_of_ble_eq_true rfl) ?_ sz
  intro p e s m below meth c A ls hx hb hr hlk hml hown hts hK hN hA hP hD hS hl
  have hown : s.vm.findClass RX3 = some m.cls := hown
  have F9 : CallFix p m c cX3_hasRoomFor 2 s ([.ref (q 6), .int a1] : List Value).toArray wsX3_hasRoomFor RX3 := ⟨hx, hb, hml, hown, hts⟩
  have hl : lv_has ls 2 [(0, .ref (q 6)), (1, .int a1)] := hl
  have hfl_15 := hts (.fieldLink RX3 15 "FloppyDesk$Store" "size" "I") (by decide +kernel)
  have hi_3 : ∀ w ∈ u_ws RX3 TX3 3, w ∈ wsX3_hasRoomFor := by decide +kernel
  refine lv_iload_n hx hb dX3_hasRoomFor_0 rfl (lv_at hl 1 rfl) ?_
  refine lv_sipush (v := 200) hx hb dX3_hasRoomFor_1 (by decide) ?_
  refine lv_aload_n hx hb dX3_hasRoomFor_4 rfl (lv_at hl 0 rfl) ?_
  refine va_get (D := G) (ci := 3) (v := .int (z0.1 33)) (C := RX3) (T := TX3) (N := 3) hx hb hts hi_3 hown hK hP 6 rfl rfl 1 (by decide) hfl_15 (fun _ h9 => h9) rfl dX3_hasRoomFor_5 ?_
  refine lv_isub hx hb dX3_hasRoomFor_8 ?_
  refine lv_icmp_gt (tgt := 16) hx hb dX3_hasRoomFor_9 (by decide) (fun c9 => ?_) (fun c9 => ?_)
  · refine lv_iconst (v := 0) hx hb dX3_hasRoomFor_16 (by decide) ?_
    exact fk_pret hx hb hr hlk hK hP hD hS rfl (Eq.symm (by rw [fX3_hasRoomFor, if_pos c9] <;> rfl)) dX3_hasRoomFor_17
  · refine lv_iconst (v := 1) hx hb dX3_hasRoomFor_12 (by decide) ?_
    refine lv_goto (tgt := 17) hx hb dX3_hasRoomFor_13 (by decide) ?_
    exact fk_pret hx hb hr hlk hK hP hD hS rfl (Eq.symm (by rw [fX3_hasRoomFor, if_neg c9] <;> rfl)) dX3_hasRoomFor_17
-- FloppyDesk$Store.append(I)V
def fX3_append (z0 : fk_C) (a1 : Int32) : fk_C :=
  (if (z0.1 33) < 0 then z0 else (if 200 ≤ (z0.1 33) then z0 else (upd z0.1 33 ((z0.1 33) + 1), z0.2.1, upd z0.2.2 (z0.1 33).toNatClampNeg a1)))
set_option maxHeartbeats 4000000 in
set_option maxRecDepth 100000 in
theorem c_X3_append (l : Launch) (G : va_G) (q : Nat → Nat) (k : Nat → ClassId) (sz : Nat) (z0 : fk_C) (a1 : Int32) : fk_Mv l yX3_append wsX3_append ({ frames := 0, cells := 0, slots := 0, locals := 0 } : Room) G (fk_cW q k) (fk_cT k) [.ref (q 6), .int a1] sz z0 (fX3_append z0 a1) := by
  refine fk_head (cc := cX3_append) (maxL := 2) (ret := none) (QQ := fun A => va_Qv (fun z1 => z1 = fX3_append z0 a1) (fk_At G (fk_cW q k) (fk_cT k) A) A) (by decide) rfl (Nat.le_of_ble_eq_true rfl) ?_ sz
  intro p e s m below meth c A ls hx hb hr hlk hml hown hts hK hN hA hP hD hS hl
  have hown : s.vm.findClass RX3 = some m.cls := hown
  have F9 : CallFix p m c cX3_append 2 s ([.ref (q 6), .int a1] : List Value).toArray wsX3_append RX3 := ⟨hx, hb, hml, hown, hts⟩
  have hl : lv_has ls 2 [(0, .ref (q 6)), (1, .int a1)] := hl
  have hfl_11 := hts (.fieldLink RX3 11 "FloppyDesk$Store" "bytes" "[I") (by decide +kernel)
  have hfl_15 := hts (.fieldLink RX3 15 "FloppyDesk$Store" "size" "I") (by decide +kernel)
  have hi_3 : ∀ w ∈ u_ws RX3 TX3 3, w ∈ wsX3_append := by decide +kernel
  refine lv_aload_n hx hb dX3_append_0 rfl (lv_at hl 0 rfl) ?_
  refine va_get (D := G) (ci := 3) (v := .int (z0.1 33)) (C := RX3) (T := TX3) (N := 3) hx hb hts hi_3 hown hK hP 6 rfl rfl 1 (by decide) hfl_15 (fun _ h9 => h9) rfl dX3_append_1 ?_
  refine lv_if_lt (tgt := 37) hx hb dX3_append_4 (by decide) (fun c4 => ?_) (fun c4 => ?_)
  · exact fk_vret hx hb hr hlk hK hP hD hS (Eq.symm (by rw [fX3_append, if_pos c4] <;> rfl)) dX3_append_37
  · refine lv_aload_n hx hb dX3_append_7 rfl (lv_at hl 0 rfl) ?_
    refine va_get (D := G) (ci := 3) (v := .int (z0.1 33)) (C := RX3) (T := TX3) (N := 3) hx hb hts hi_3 hown hK hP 6 rfl rfl 1 (by decide) hfl_15 (fun _ h9 => h9) rfl dX3_append_8 ?_
    refine lv_sipush (v := 200) hx hb dX3_append_11 (by decide) ?_
    refine lv_icmp_ge (tgt := 37) hx hb dX3_append_14 (by decide) (fun c14 => ?_) (fun c14 => ?_)
    · exact fk_vret hx hb hr hlk hK hP hD hS (Eq.symm (by rw [fX3_append, if_neg c4, if_pos c14] <;> rfl)) dX3_append_37
    · refine lv_aload_n hx hb dX3_append_17 rfl (lv_at hl 0 rfl) ?_
      refine va_get (D := G) (ci := 3) (v := .ref (q 7)) (C := RX3) (T := TX3) (N := 3) hx hb hts hi_3 hown hK hP 6 rfl rfl 0 (by decide) hfl_11 (fun _ h9 => h9) rfl dX3_append_18 ?_
      refine lv_aload_n hx hb dX3_append_21 rfl (lv_at hl 0 rfl) ?_
      refine va_get (D := G) (ci := 3) (v := .int (z0.1 33)) (C := RX3) (T := TX3) (N := 3) hx hb hts hi_3 hown hK hP 6 rfl rfl 1 (by decide) hfl_15 (fun _ h9 => h9) rfl dX3_append_22 ?_
      refine lv_iload_n hx hb dX3_append_25 rfl (lv_at hl 1 rfl) ?_
      have hin_26 : vp_in (z0.1 33) 200 := by exact fk_in3 c4 c14
      refine va_iast (f := z0.2.2) (x := a1) hx hb hK hP hD hS 7 1 rfl rfl hin_26 dX3_append_26 (fun H locs hP hD hS => ?_)
      have hP : va_P G vwCl ((fk_cW q k) (z0.1, z0.2.1, upd z0.2.2 (z0.1 33).toNatClampNeg a1)) H := hP
      have hD : va_D A ((fk_cW q k) (z0.1, z0.2.1, upd z0.2.2 (z0.1 33).toNatClampNeg a1)) := hD
      refine lv_aload_n hx hb dX3_append_27 rfl (lv_at hl 0 rfl) ?_
      refine lv_dup hx hb dX3_append_28 rfl ?_
      refine va_get (D := G) (ci := 3) (v := .int (z0.1 33)) (C := RX3) (T := TX3) (N := 3) hx hb hts hi_3 hown hK hP 6 rfl rfl 1 (by decide) hfl_15 (fun _ h9 => h9) rfl dX3_append_29 ?_
      refine lv_iconst (v := 1) hx hb dX3_append_32 (by decide) ?_
      refine lv_iadd hx hb dX3_append_33 ?_
      refine va_put (D := G) (ci := 3) (v := .int ((z0.1 33) + 1)) (ty := .int) (C := RX3) (T := TX3) (N := 3) hx hb hts hi_3 tyX3 tyX3_ok nmX3 hown hK hP hD hS 6 rfl rfl 1 (by decide) hfl_15 (fun _ h9 => h9) rfl (by decide +kernel) rfl rfl (Nat.le_of_ble_eq_true rfl) dX3_append_34 (fun H locs hP hD hS => ?_)
      have hP : va_P G vwCl ((fk_cW q k) (upd z0.1 33 ((z0.1 33) + 1), z0.2.1, upd z0.2.2 (z0.1 33).toNatClampNeg a1)) H := hP
      have hD : va_D A ((fk_cW q k) (upd z0.1 33 ((z0.1 33) + 1), z0.2.1, upd z0.2.2 (z0.1 33).toNatClampNeg a1)) := hD
      exact fk_vret hx hb hr hlk hK hP hD hS (Eq.symm (by rw [fX3_append, if_neg c4, if_neg c14] <;> rfl)) dX3_append_37
-- FloppyDesk$Store.byteAt(I)I
def fX3_byteAt (z0 : fk_C) (a1 : Int32) : Int32 :=
  (if a1 < 0 then (-1) else (if (z0.1 33) ≤ a1 then (-1) else (if a1 < 200 then z0.2.2 a1.toNatClampNeg else (-1))))
set_option maxHeartbeats 4000000 in
set_option maxRecDepth 100000 in
theorem c_X3_byteAt (l : Launch) (G : va_G) (q : Nat → Nat) (k : Nat → ClassId) (sz : Nat) (z0 : fk_C) (a1 : Int32) : fk_Mp l yX3_byteAt wsX3_byteAt ({ frames := 0, cells := 0, slots := 0, locals := 0 } : Room) G (fk_cW q k) (fk_cT k) [.ref (q 6), .int a1] sz z0 (fX3_byteAt z0 a1) := by
  refine fk_head (cc := cX3_byteAt) (maxL := 2) (ret := (some .int)) (QQ := fun A => va_Qi (fun r (_ : Unit) => r = fX3_byteAt z0 a1) (fun _ => fk_At G (fk_cW q k) (fk_cT k) A z0) A) (by decide) rfl (Nat.le_of_ble_eq_true rfl) ?_ sz
  intro p e s m below meth c A ls hx hb hr hlk hml hown hts hK hN hA hP hD hS hl
  have hown : s.vm.findClass RX3 = some m.cls := hown
  have F9 : CallFix p m c cX3_byteAt 2 s ([.ref (q 6), .int a1] : List Value).toArray wsX3_byteAt RX3 := ⟨hx, hb, hml, hown, hts⟩
  have hl : lv_has ls 2 [(0, .ref (q 6)), (1, .int a1)] := hl
  have hfl_11 := hts (.fieldLink RX3 11 "FloppyDesk$Store" "bytes" "[I") (by decide +kernel)
  have hfl_15 := hts (.fieldLink RX3 15 "FloppyDesk$Store" "size" "I") (by decide +kernel)
  have hi_3 : ∀ w ∈ u_ws RX3 TX3 3, w ∈ wsX3_byteAt := by decide +kernel
  refine lv_iload_n hx hb dX3_byteAt_0 rfl (lv_at hl 1 rfl) ?_
  refine lv_if_lt (tgt := 19) hx hb dX3_byteAt_1 (by decide) (fun c1 => ?_) (fun c1 => ?_)
  · refine lv_iconst (v := (-1)) hx hb dX3_byteAt_19 (by decide) ?_
    exact fk_pret hx hb hr hlk hK hP hD hS rfl (Eq.symm (by rw [fX3_byteAt, if_pos c1] <;> rfl)) dX3_byteAt_20
  · refine lv_iload_n hx hb dX3_byteAt_4 rfl (lv_at hl 1 rfl) ?_
    refine lv_aload_n hx hb dX3_byteAt_5 rfl (lv_at hl 0 rfl) ?_
    refine va_get (D := G) (ci := 3) (v := .int (z0.1 33)) (C := RX3) (T := TX3) (N := 3) hx hb hts hi_3 hown hK hP 6 rfl rfl 1 (by decide) hfl_15 (fun _ h9 => h9) rfl dX3_byteAt_6 ?_
    refine lv_icmp_ge (tgt := 19) hx hb dX3_byteAt_9 (by decide) (fun c9 => ?_) (fun c9 => ?_)
    · refine lv_iconst (v := (-1)) hx hb dX3_byteAt_19 (by decide) ?_
      exact fk_pret hx hb hr hlk hK hP hD hS rfl (Eq.symm (by rw [fX3_byteAt, if_neg c1, if_pos c9] <;> rfl)) dX3_byteAt_20
    · refine lv_iload_n hx hb dX3_byteAt_12 rfl (lv_at hl 1 rfl) ?_
      refine lv_sipush (v := 200) hx hb dX3_byteAt_13 (by decide) ?_
      refine lv_icmp_lt (tgt := 21) hx hb dX3_byteAt_16 (by decide) (fun c16 => ?_) (fun c16 => ?_)
      · refine lv_aload_n hx hb dX3_byteAt_21 rfl (lv_at hl 0 rfl) ?_
        refine va_get (D := G) (ci := 3) (v := .ref (q 7)) (C := RX3) (T := TX3) (N := 3) hx hb hts hi_3 hown hK hP 6 rfl rfl 0 (by decide) hfl_11 (fun _ h9 => h9) rfl dX3_byteAt_22 ?_
        refine lv_iload_n hx hb dX3_byteAt_25 rfl (lv_at hl 1 rfl) ?_
        have hin_26 : vp_in a1 200 := by exact fk_in4 c1 c16
        refine va_iald (f := z0.2.2) hx hb hK hP 7 1 rfl rfl hin_26 dX3_byteAt_26 ?_
        exact fk_pret hx hb hr hlk hK hP hD hS rfl (Eq.symm (by rw [fX3_byteAt, if_neg c1, if_neg c9, if_pos c16] <;> rfl)) dX3_byteAt_27
      · refine lv_iconst (v := (-1)) hx hb dX3_byteAt_19 (by decide) ?_
        exact fk_pret hx hb hr hlk hK hP hD hS rfl (Eq.symm (by rw [fX3_byteAt, if_neg c1, if_neg c9, if_neg c16] <;> rfl)) dX3_byteAt_20
-- FloppyDesk$Store.nextByte()I
def fX3_nextByte (z0 : fk_C) : Int32 × fk_C :=
  (if (fX3_byteAt z0 (z0.1 34)) = (-1) then (0, z0) else (fX3_byteAt z0 (z0.1 34), (upd z0.1 34 ((z0.1 34) + 1), z0.2)))
set_option maxHeartbeats 4000000 in
set_option maxRecDepth 100000 in
theorem c_X3_nextByte (l : Launch) (G : va_G) (q : Nat → Nat) (k : Nat → ClassId) (sz : Nat) (z0 : fk_C) : fk_Mi l yX3_nextByte wsX3_nextByte ({ frames := 1, cells := 0, slots := 0, locals := 21 } : Room) G (fk_cW q k) (fk_cT k) [.ref (q 6)] sz z0 (fX3_nextByte z0) := by
  refine fk_head (cc := cX3_nextByte) (maxL := 2) (ret := (some .int)) (QQ := fun A => va_Qi (fun r z1 => (r, z1) = fX3_nextByte z0) (fk_At G (fk_cW q k) (fk_cT k) A) A) (by decide) rfl (Nat.le_of_ble_eq_true rfl) ?_ sz
  intro p e s m below meth c A ls hx hb hr hlk hml hown hts hK hN hA hP hD hS hl
  have hown : s.vm.findClass RX3 = some m.cls := hown
  have F9 : CallFix p m c cX3_nextByte 2 s ([.ref (q 6)] : List Value).toArray wsX3_nextByte RX3 := ⟨hx, hb, hml, hown, hts⟩
  have hl : lv_has ls 2 [(0, .ref (q 6))] := hl
  have hfl_19 := hts (.fieldLink RX3 19 "FloppyDesk$Store" "next" "I") (by decide +kernel)
  have hi_3 : ∀ w ∈ u_ws RX3 TX3 3, w ∈ wsX3_nextByte := by decide +kernel
  refine lv_aload_n hx hb dX3_nextByte_0 rfl (lv_at hl 0 rfl) ?_
  refine lv_aload_n hx hb dX3_nextByte_1 rfl (lv_at hl 0 rfl) ?_
  refine va_get (D := G) (ci := 3) (v := .int (z0.1 34)) (C := RX3) (T := TX3) (N := 3) hx hb hts hi_3 hown hK hP 6 rfl rfl 2 (by decide) hfl_19 (fun _ h9 => h9) rfl dX3_nextByte_2 ?_
  refine fk_Vp (Wd := (fk_cW q k)) (z := z0) (As := [.int (z0.1 34)]) (rest := []) F9 (c_X3_byteAt l G q k _ z0 (z0.1 34)) (cwV 1 hts gX3_nextByte_X3_byteAt rfl rfl rfl (by decide +kernel) ⟨Nat.le_of_ble_eq_true rfl, Nat.le_of_ble_eq_true rfl⟩) (va_recv hK hP (ci := 3) (q0 := 6) rfl rfl) hK hP hD hS hA hN rfl hl.1 rfl (Nat.le_of_ble_eq_true rfl) dX3_nextByte_5 ⟨Nat.zero_le _, Nat.zero_le _⟩ (fun H locs hP hD hS => ?_)
  refine lv_istore_n (lv' := [(1, .int (fX3_byteAt z0 (z0.1 34))), (0, .ref (q 6))]) hx hb dX3_nextByte_8 rfl hl (by decide) rfl (fun ls hl => ?_)
  refine lv_iload_n hx hb dX3_nextByte_9 rfl (lv_at hl 0 rfl) ?_
  refine lv_iconst (v := (-1)) hx hb dX3_nextByte_10 (by decide) ?_
  refine lv_icmp_ne (tgt := 16) hx hb dX3_nextByte_11 (by decide) (fun c11 => ?_) (fun c11 => ?_)
  · refine lv_aload_n hx hb dX3_nextByte_16 rfl (lv_at hl 1 rfl) ?_
    refine lv_dup hx hb dX3_nextByte_17 rfl ?_
    refine va_get (D := G) (ci := 3) (v := .int (z0.1 34)) (C := RX3) (T := TX3) (N := 3) hx hb hts hi_3 hown hK hP 6 rfl rfl 2 (by decide) hfl_19 (fun _ h9 => h9) rfl dX3_nextByte_18 ?_
    refine lv_iconst (v := 1) hx hb dX3_nextByte_21 (by decide) ?_
    refine lv_iadd hx hb dX3_nextByte_22 ?_
    refine va_put (D := G) (ci := 3) (v := .int ((z0.1 34) + 1)) (ty := .int) (C := RX3) (T := TX3) (N := 3) hx hb hts hi_3 tyX3 tyX3_ok nmX3 hown hK hP hD hS 6 rfl rfl 2 (by decide) hfl_19 (fun _ h9 => h9) rfl (by decide +kernel) rfl rfl (Nat.le_of_ble_eq_true rfl) dX3_nextByte_23 (fun H locs hP hD hS => ?_)
    have hP : va_P G vwCl ((fk_cW q k) (upd z0.1 34 ((z0.1 34) + 1), z0.2)) H := hP
    have hD : va_D A ((fk_cW q k) (upd z0.1 34 ((z0.1 34) + 1), z0.2)) := hD
    refine lv_iload_n hx hb dX3_nextByte_26 rfl (lv_at hl 0 rfl) ?_
    exact fk_iret hx hb hr hlk hK hP hD hS rfl (Eq.symm (by rw [fX3_nextByte, if_neg c11] <;> rfl)) dX3_nextByte_27
  · refine lv_iconst (v := 0) hx hb dX3_nextByte_14 (by decide) ?_
    exact fk_iret hx hb hr hlk hK hP hD hS rfl (Eq.symm (by rw [fX3_nextByte, if_pos c11] <;> rfl)) dX3_nextByte_15
-- FloppyDesk.command(IZ)Z
theorem fX0_begin_103_b (z : fk_C) (x : Int32) : (fX0_begin_103 z x).1 = 1 := by
  unfold fX0_begin_103
  repeat' split
  all_goals rfl
theorem fX0_begin_84_b (z : fk_C) (x : Int32) : (fX0_begin_84 z x).1 = 1 := by
  unfold fX0_begin_84
  split
  · exact fX0_begin_103_b _ _
  · rfl
theorem fX0_begin_74_b (z : fk_C) (x : Int32) : (fX0_begin_74 z x).1 = 1 := by
  unfold fX0_begin_74
  split
  · exact fX0_begin_84_b _ _
  · split
    · exact fX0_begin_84_b _ _
    · exact fX0_begin_103_b _ _
theorem fX0_begin_b (z : fk_C) (a1 a2 : Int32) : (fX0_begin z a1 a2).1 = 0 ∨ (fX0_begin z a1 a2).1 = 1 := by
  unfold fX0_begin
  split
  · exact Or.inl rfl
  · split
    · exact Or.inl rfl
    · split
      · refine Or.inr ?_
        unfold fX0_begin_c2 fX0_begin_c3
        split <;> exact fX0_begin_74_b _ _
      · exact Or.inl rfl
def fX5_command (z0 : fk_C) (a1 : Int32) (a2 : Int32) : Int32 × fk_C :=
  fX0_begin z0 a1 a2
set_option maxHeartbeats 4000000 in
set_option maxRecDepth 100000 in
theorem c_X5_command (l : Launch) (G : va_G) (q : Nat → Nat) (k : Nat → ClassId) (sz : Nat) (z0 : fk_C) (a1 : Int32) (a2 : Int32) (hb_a2 : a2 = 0 ∨ a2 = 1) : fk_Mi l yX5_command wsX5_command ({ frames := 4, cells := 0, slots := 0, locals := 83 } : Room) G (fk_cW q k) (fk_cT k) [.ref (q 0), .int a1, .int a2] sz z0 (fX5_command z0 a1 a2) := by
  refine fk_head (cc := cX5_command) (maxL := 3) (ret := (some .boolean)) (QQ := fun A => va_Qi (fun r z1 => (r, z1) = fX5_command z0 a1 a2) (fk_At G (fk_cW q k) (fk_cT k) A) A) (by decide) rfl (Nat.le_of_ble_eq_true rfl) ?_ sz
  intro p e s m below meth c A ls hx hb hr hlk hml hown hts hK hN hA hP hD hS hl
  have hown : s.vm.findClass RX5 = some m.cls := hown
  have F9 : CallFix p m c cX5_command 3 s ([.ref (q 0), .int a1, .int a2] : List Value).toArray wsX5_command RX5 := ⟨hx, hb, hml, hown, hts⟩
  have hl : lv_has ls 3 [(0, .ref (q 0)), (1, .int a1), (2, .int a2)] := hl
  have hfl_28 := hts (.fieldLink RX5 28 "FloppyDesk" "controller" "LFloppyDesk$Controller;") (by decide +kernel)
  have hi_5 : ∀ w ∈ u_ws RX5 TX5 4, w ∈ wsX5_command := by decide +kernel
  refine lv_aload_n hx hb dX5_command_0 rfl (lv_at hl 0 rfl) ?_
  refine va_get (D := G) (ci := 5) (v := .ref (q 4)) (C := RX5) (T := TX5) (N := 4) hx hb hts hi_5 hown hK hP 0 rfl rfl 2 (by decide) hfl_28 (fun _ h9 => h9) rfl dX5_command_1 ?_
  refine lv_iload_n hx hb dX5_command_4 rfl (lv_at hl 1 rfl) ?_
  refine lv_iload_n hx hb dX5_command_5 rfl (lv_at hl 2 rfl) ?_
  have hl := lv_sub hl [] (l' := []) rfl
  refine fk_Vi (Wd := (fk_cW q k)) (z := z0) (As := [.int a1, .int a2]) (rest := []) F9 (c_X0_begin l G q k _ z0 a1 a2 hb_a2) (cwV 2 hts gX5_command_X0_begin rfl rfl rfl (by decide +kernel) ⟨Nat.le_of_ble_eq_true rfl, Nat.le_of_ble_eq_true rfl⟩) (va_recv hK hP (ci := 0) (q0 := 4) rfl rfl) hK hP hD hS hA hN rfl hl.1 rfl (Nat.le_of_ble_eq_true rfl) dX5_command_6 ⟨Nat.zero_le _, Nat.zero_le _⟩ (fun r6 z H locs hw hP hD hS => ?_)
  exact fk_iret hx hb hr hlk hK hP hD hS (fk_nb (by have h9 := fX0_begin_b z0 a1 a2; rw [← hw] at h9; exact h9)) (hw.trans (Eq.symm (by rw [fX5_command] <;> rfl))) dX5_command_9
-- FloppyDesk.force()Z
def fX5_force_c1 (z : fk_C) : Int32 × fk_C :=
  (1, z)
def fX5_force (z0 : fk_C) : Int32 × fk_C :=
  (if (fX0_has z0 1) = 0 then (0, z0) else fX5_force_c1 (fX0_end z0))
set_option maxHeartbeats 4000000 in
set_option maxRecDepth 100000 in
theorem c_X5_force (l : Launch) (G : va_G) (q : Nat → Nat) (k : Nat → ClassId) (sz : Nat) (z0 : fk_C) : fk_Mi l yX5_force wsX5_force ({ frames := 2, cells := 0, slots := 0, locals := 40 } : Room) G (fk_cW q k) (fk_cT k) [.ref (q 0)] sz z0 (fX5_force z0) := by
  refine fk_head (cc := cX5_force) (maxL := 1) (ret := (some .boolean)) (QQ := fun A => va_Qi (fun r z1 => (r, z1) = fX5_force z0) (fk_At G (fk_cW q k) (fk_cT k) A) A) (by decide) rfl (Nat.le_of_ble_eq_true rfl) ?_ sz
  intro p e s m below meth c A ls hx hb hr hlk hml hown hts hK hN hA hP hD hS hl
  have hown : s.vm.findClass RX5 = some m.cls := hown
  have F9 : CallFix p m c cX5_force 1 s ([.ref (q 0)] : List Value).toArray wsX5_force RX5 := ⟨hx, hb, hml, hown, hts⟩
  have hl : lv_has ls 1 [(0, .ref (q 0))] := hl
  have hfl_28 := hts (.fieldLink RX5 28 "FloppyDesk" "controller" "LFloppyDesk$Controller;") (by decide +kernel)
  have hi_5 : ∀ w ∈ u_ws RX5 TX5 4, w ∈ wsX5_force := by decide +kernel
  refine lv_aload_n hx hb dX5_force_0 rfl (lv_at hl 0 rfl) ?_
  refine va_get (D := G) (ci := 5) (v := .ref (q 4)) (C := RX5) (T := TX5) (N := 4) hx hb hts hi_5 hown hK hP 0 rfl rfl 2 (by decide) hfl_28 (fun _ h9 => h9) rfl dX5_force_1 ?_
  refine lv_iconst (v := 1) hx hb dX5_force_4 (by decide) ?_
  refine fk_Vp (Wd := (fk_cW q k)) (z := z0) (As := [.int 1]) (rest := []) F9 (c_X0_has l G q k _ z0 1) (cwV 1 hts gX5_force_X0_has rfl rfl rfl (by decide +kernel) ⟨Nat.le_of_ble_eq_true rfl, Nat.le_of_ble_eq_true rfl⟩) (va_recv hK hP (ci := 0) (q0 := 4) rfl rfl) hK hP hD hS hA hN rfl hl.1 rfl (Nat.le_of_ble_eq_true rfl) dX5_force_5 ⟨Nat.zero_le _, Nat.zero_le _⟩ (fun H locs hP hD hS => ?_)
  refine lv_if_ne (tgt := 13) hx hb dX5_force_8 (by decide) (fun c8 => ?_) (fun c8 => ?_)
  · refine lv_aload_n hx hb dX5_force_13 rfl (lv_at hl 0 rfl) ?_
    refine va_get (D := G) (ci := 5) (v := .ref (q 4)) (C := RX5) (T := TX5) (N := 4) hx hb hts hi_5 hown hK hP 0 rfl rfl 2 (by decide) hfl_28 (fun _ h9 => h9) rfl dX5_force_14 ?_
    have hl := lv_sub hl [] (l' := []) rfl
    refine fk_Vv (Wd := (fk_cW q k)) (z := z0) (As := []) (rest := []) F9 (c_X0_end l G q k _ z0) (cwV 0 hts gX5_force_X0_end rfl rfl rfl (by decide +kernel) ⟨Nat.le_of_ble_eq_true rfl, Nat.le_of_ble_eq_true rfl⟩) (va_recv hK hP (ci := 0) (q0 := 4) rfl rfl) hK hP hD hS hA hN rfl hl.1 rfl (Nat.le_of_ble_eq_true rfl) dX5_force_17 ⟨Nat.zero_le _, Nat.zero_le _⟩ (fun z H locs hw hP hD hS => ?_)
    have hf : fX5_force z0 = fX5_force_c1 z := by rw [fX5_force, if_neg c8, ← hw] <;> rfl
    refine lv_iconst (v := 1) hx hb dX5_force_20 (by decide) ?_
    exact fk_iret hx hb hr hlk hK hP hD hS rfl (Eq.symm (by rw [hf, fX5_force_c1] <;> rfl)) dX5_force_21
  · refine lv_iconst (v := 0) hx hb dX5_force_11 (by decide) ?_
    exact fk_iret hx hb hr hlk hK hP hD hS rfl (Eq.symm (by rw [fX5_force, if_pos c8] <;> rfl)) dX5_force_12
-- FloppyDesk.isByte(I)Z
def fX5_isByte (a1 : Int32) : Int32 :=
  (if a1 < 0 then 0 else (if 255 < a1 then 0 else 1))
set_option maxHeartbeats 4000000 in
set_option maxRecDepth 100000 in
theorem c_X5_isByte (l : Launch) (G : va_G) (q : Nat → Nat) (k : Nat → ClassId) (sz : Nat) (z0 : fk_C) (a1 : Int32) : fk_Mp l yX5_isByte wsX5_isByte ({ frames := 0, cells := 0, slots := 0, locals := 0 } : Room) G (fk_cW q k) (fk_cT k) [.int a1] sz z0 (fX5_isByte a1) := by
  refine fk_head (cc := cX5_isByte) (maxL := 1) (ret := (some .boolean)) (QQ := fun A => va_Qi (fun r (_ : Unit) => r = fX5_isByte a1) (fun _ => fk_At G (fk_cW q k) (fk_cT k) A z0) A) (by decide) rfl (Nat.le_of_ble_eq_true rfl) ?_ sz
  intro p e s m below meth c A ls hx hb hr hlk hml hown hts hK hN hA hP hD hS hl
  have hown : s.vm.findClass RX5 = some m.cls := hown
  have F9 : CallFix p m c cX5_isByte 1 s ([.int a1] : List Value).toArray wsX5_isByte RX5 := ⟨hx, hb, hml, hown, hts⟩
  have hl : lv_has ls 1 [(0, .int a1)] := hl
  refine lv_iload_n hx hb dX5_isByte_0 rfl (lv_at hl 0 rfl) ?_
  refine lv_if_lt (tgt := 15) hx hb dX5_isByte_1 (by decide) (fun c1 => ?_) (fun c1 => ?_)
  · refine lv_iconst (v := 0) hx hb dX5_isByte_15 (by decide) ?_
    exact fk_pret hx hb hr hlk hK hP hD hS rfl (Eq.symm (by rw [fX5_isByte, if_pos c1] <;> rfl)) dX5_isByte_16
  · refine lv_iload_n hx hb dX5_isByte_4 rfl (lv_at hl 0 rfl) ?_
    refine lv_sipush (v := 255) hx hb dX5_isByte_5 (by decide) ?_
    refine lv_icmp_gt (tgt := 15) hx hb dX5_isByte_8 (by decide) (fun c8 => ?_) (fun c8 => ?_)
    · refine lv_iconst (v := 0) hx hb dX5_isByte_15 (by decide) ?_
      exact fk_pret hx hb hr hlk hK hP hD hS rfl (Eq.symm (by rw [fX5_isByte, if_neg c1, if_pos c8] <;> rfl)) dX5_isByte_16
    · refine lv_iconst (v := 1) hx hb dX5_isByte_11 (by decide) ?_
      refine lv_goto (tgt := 16) hx hb dX5_isByte_12 (by decide) ?_
      exact fk_pret hx hb hr hlk hK hP hD hS rfl (Eq.symm (by rw [fX5_isByte, if_neg c1, if_neg c8] <;> rfl)) dX5_isByte_16
-- FloppyDesk.set(II)Z
def fX5_set (z0 : fk_C) (a1 : Int32) (a2 : Int32) : Int32 × fk_C :=
  (if (fX5_isByte a2) = 0 then (0, z0) else (if (fX0_has z0 1) = 0 then (if a1 = 0 then (1, (upd z0.1 18 a2, z0.2)) else (if a1 = 1 then (1, (upd z0.1 19 a2, z0.2)) else (0, z0))) else (0, z0)))
set_option maxHeartbeats 4000000 in
set_option maxRecDepth 100000 in
theorem c_X5_set (l : Launch) (G : va_G) (q : Nat → Nat) (k : Nat → ClassId) (sz : Nat) (z0 : fk_C) (a1 : Int32) (a2 : Int32) : fk_Mi l yX5_set wsX5_set ({ frames := 1, cells := 0, slots := 0, locals := 21 } : Room) G (fk_cW q k) (fk_cT k) [.ref (q 0), .int a1, .int a2] sz z0 (fX5_set z0 a1 a2) := by
  refine fk_head (cc := cX5_set) (maxL := 3) (ret := (some .boolean)) (QQ := fun A => va_Qi (fun r z1 => (r, z1) = fX5_set z0 a1 a2) (fk_At G (fk_cW q k) (fk_cT k) A) A) (by decide) rfl (Nat.le_of_ble_eq_true rfl) ?_ sz
  intro p e s m below meth c A ls hx hb hr hlk hml hown hts hK hN hA hP hD hS hl
  have hown : s.vm.findClass RX5 = some m.cls := hown
  have F9 : CallFix p m c cX5_set 3 s ([.ref (q 0), .int a1, .int a2] : List Value).toArray wsX5_set RX5 := ⟨hx, hb, hml, hown, hts⟩
  have hl : lv_has ls 3 [(0, .ref (q 0)), (1, .int a1), (2, .int a2)] := hl
  have hfl_28 := hts (.fieldLink RX5 28 "FloppyDesk" "controller" "LFloppyDesk$Controller;") (by decide +kernel)
  have hi_0 : ∀ w ∈ u_ws RX0 TX0 12, w ∈ wsX5_set := by decide +kernel
  have hi_5 : ∀ w ∈ u_ws RX5 TX5 4, w ∈ wsX5_set := by decide +kernel
  refine lv_iload_n hx hb dX5_set_0 rfl (lv_at hl 2 rfl) ?_
  refine fk_Sp (Wd := (fk_cW q k)) (z := z0) (As := [.int a2]) (rest := []) F9 (c_X5_isByte l G q k _ z0 a2) (va_cwS 1 hts gX5_set_X5_isByte rfl rfl rfl (by decide +kernel) ⟨Nat.le_of_ble_eq_true rfl, Nat.le_of_ble_eq_true rfl⟩) hK hP hD hS hA hN rfl hl.1 rfl (Nat.le_of_ble_eq_true rfl) dX5_set_1 ⟨Nat.zero_le _, Nat.zero_le _⟩ (fun H locs hP hD hS => ?_)
  refine lv_if_eq (tgt := 18) hx hb dX5_set_4 (by decide) (fun c4 => ?_) (fun c4 => ?_)
  · refine lv_iconst (v := 0) hx hb dX5_set_18 (by decide) ?_
    exact fk_iret hx hb hr hlk hK hP hD hS rfl (Eq.symm (by rw [fX5_set, if_pos c4] <;> rfl)) dX5_set_19
  · refine lv_aload_n hx hb dX5_set_7 rfl (lv_at hl 0 rfl) ?_
    refine va_get (D := G) (ci := 5) (v := .ref (q 4)) (C := RX5) (T := TX5) (N := 4) hx hb hts hi_5 hown hK hP 0 rfl rfl 2 (by decide) hfl_28 (fun _ h9 => h9) rfl dX5_set_8 ?_
    refine lv_iconst (v := 1) hx hb dX5_set_11 (by decide) ?_
    refine fk_Vp (Wd := (fk_cW q k)) (z := z0) (As := [.int 1]) (rest := []) F9 (c_X0_has l G q k _ z0 1) (cwV 1 hts gX5_set_X0_has rfl rfl rfl (by decide +kernel) ⟨Nat.le_of_ble_eq_true rfl, Nat.le_of_ble_eq_true rfl⟩) (va_recv hK hP (ci := 0) (q0 := 4) rfl rfl) hK hP hD hS hA hN rfl hl.1 rfl (Nat.le_of_ble_eq_true rfl) dX5_set_12 ⟨Nat.zero_le _, Nat.zero_le _⟩ (fun H locs hP hD hS => ?_)
    refine lv_if_eq (tgt := 20) hx hb dX5_set_15 (by decide) (fun c15 => ?_) (fun c15 => ?_)
    · refine lv_iload_n hx hb dX5_set_20 rfl (lv_at hl 1 rfl) ?_
      refine lv_if_ne (tgt := 34) hx hb dX5_set_21 (by decide) (fun c21 => ?_) (fun c21 => ?_)
      · refine lv_iload_n hx hb dX5_set_34 rfl (lv_at hl 1 rfl) ?_
        refine lv_iconst (v := 1) hx hb dX5_set_35 (by decide) ?_
        refine lv_icmp_ne (tgt := 49) hx hb dX5_set_36 (by decide) (fun c36 => ?_) (fun c36 => ?_)
        · refine lv_iconst (v := 0) hx hb dX5_set_49 (by decide) ?_
          exact fk_iret hx hb hr hlk hK hP hD hS rfl (Eq.symm (by rw [fX5_set, if_neg c4, if_pos c15, if_neg c21, if_neg c36] <;> rfl)) dX5_set_50
        · refine lv_aload_n hx hb dX5_set_39 rfl (lv_at hl 0 rfl) ?_
          refine va_get (D := G) (ci := 5) (v := .ref (q 4)) (C := RX5) (T := TX5) (N := 4) hx hb hts hi_5 hown hK hP 0 rfl rfl 2 (by decide) hfl_28 (fun _ h9 => h9) rfl dX5_set_40 ?_
          refine lv_iload_n hx hb dX5_set_43 rfl (lv_at hl 2 rfl) ?_
          refine va_putN (D := G) (ci := 0) (v := .int a2) (ty := .int) (C := RX0) (T := TX0) (N := 12) hx hb hts hi_0 tyX0 tyX0_ok nmX0 hown hK hP hD hS 4 rfl rfl 5 (by decide) (hN.f 11 rfl) (fun _ h9 => h9) rfl (by decide +kernel) rfl rfl (Nat.le_of_ble_eq_true rfl) dX5_set_44 (fun H locs hP hD hS => ?_)
          have hP : va_P G vwCl ((fk_cW q k) (upd z0.1 19 a2, z0.2)) H := hP
          have hD : va_D A ((fk_cW q k) (upd z0.1 19 a2, z0.2)) := hD
          refine lv_iconst (v := 1) hx hb dX5_set_47 (by decide) ?_
          exact fk_iret hx hb hr hlk hK hP hD hS rfl (Eq.symm (by rw [fX5_set, if_neg c4, if_pos c15, if_neg c21, if_pos c36] <;> rfl)) dX5_set_48
      · refine lv_aload_n hx hb dX5_set_24 rfl (lv_at hl 0 rfl) ?_
        refine va_get (D := G) (ci := 5) (v := .ref (q 4)) (C := RX5) (T := TX5) (N := 4) hx hb hts hi_5 hown hK hP 0 rfl rfl 2 (by decide) hfl_28 (fun _ h9 => h9) rfl dX5_set_25 ?_
        refine lv_iload_n hx hb dX5_set_28 rfl (lv_at hl 2 rfl) ?_
        refine va_putN (D := G) (ci := 0) (v := .int a2) (ty := .int) (C := RX0) (T := TX0) (N := 12) hx hb hts hi_0 tyX0 tyX0_ok nmX0 hown hK hP hD hS 4 rfl rfl 4 (by decide) (hN.f 10 rfl) (fun _ h9 => h9) rfl (by decide +kernel) rfl rfl (Nat.le_of_ble_eq_true rfl) dX5_set_29 (fun H locs hP hD hS => ?_)
        have hP : va_P G vwCl ((fk_cW q k) (upd z0.1 18 a2, z0.2)) H := hP
        have hD : va_D A ((fk_cW q k) (upd z0.1 18 a2, z0.2)) := hD
        refine lv_iconst (v := 1) hx hb dX5_set_32 (by decide) ?_
        exact fk_iret hx hb hr hlk hK hP hD hS rfl (Eq.symm (by rw [fX5_set, if_neg c4, if_pos c15, if_pos c21] <;> rfl)) dX5_set_33
    · refine lv_iconst (v := 0) hx hb dX5_set_18 (by decide) ?_
      exact fk_iret hx hb hr hlk hK hP hD hS rfl (Eq.symm (by rw [fX5_set, if_neg c4, if_neg c15] <;> rfl)) dX5_set_19
-- FloppyDesk.give(I)Z
def fX5_give_c1 (z : fk_C) : Int32 × fk_C :=
  (1, z)
def fX5_give (z0 : fk_C) (a1 : Int32) : Int32 × fk_C :=
  (if (fX5_isByte a1) = 0 then (0, z0) else fX5_give_c1 (fX0_acceptData z0 a1))
set_option maxHeartbeats 4000000 in
set_option maxRecDepth 100000 in
theorem c_X5_give (l : Launch) (G : va_G) (q : Nat → Nat) (k : Nat → ClassId) (sz : Nat) (z0 : fk_C) (a1 : Int32) : fk_Mi l yX5_give wsX5_give ({ frames := 1, cells := 0, slots := 0, locals := 21 } : Room) G (fk_cW q k) (fk_cT k) [.ref (q 0), .int a1] sz z0 (fX5_give z0 a1) := by
  refine fk_head (cc := cX5_give) (maxL := 2) (ret := (some .boolean)) (QQ := fun A => va_Qi (fun r z1 => (r, z1) = fX5_give z0 a1) (fk_At G (fk_cW q k) (fk_cT k) A) A) (by decide) rfl (Nat.le_of_ble_eq_true rfl) ?_ sz
  intro p e s m below meth c A ls hx hb hr hlk hml hown hts hK hN hA hP hD hS hl
  have hown : s.vm.findClass RX5 = some m.cls := hown
  have F9 : CallFix p m c cX5_give 2 s ([.ref (q 0), .int a1] : List Value).toArray wsX5_give RX5 := ⟨hx, hb, hml, hown, hts⟩
  have hl : lv_has ls 2 [(0, .ref (q 0)), (1, .int a1)] := hl
  have hfl_28 := hts (.fieldLink RX5 28 "FloppyDesk" "controller" "LFloppyDesk$Controller;") (by decide +kernel)
  have hi_5 : ∀ w ∈ u_ws RX5 TX5 4, w ∈ wsX5_give := by decide +kernel
  refine lv_iload_n hx hb dX5_give_0 rfl (lv_at hl 1 rfl) ?_
  refine fk_Sp (Wd := (fk_cW q k)) (z := z0) (As := [.int a1]) (rest := []) F9 (c_X5_isByte l G q k _ z0 a1) (va_cwS 1 hts gX5_give_X5_isByte rfl rfl rfl (by decide +kernel) ⟨Nat.le_of_ble_eq_true rfl, Nat.le_of_ble_eq_true rfl⟩) hK hP hD hS hA hN rfl hl.1 rfl (Nat.le_of_ble_eq_true rfl) dX5_give_1 ⟨Nat.zero_le _, Nat.zero_le _⟩ (fun H locs hP hD hS => ?_)
  refine lv_if_ne (tgt := 9) hx hb dX5_give_4 (by decide) (fun c4 => ?_) (fun c4 => ?_)
  · refine lv_aload_n hx hb dX5_give_9 rfl (lv_at hl 0 rfl) ?_
    refine va_get (D := G) (ci := 5) (v := .ref (q 4)) (C := RX5) (T := TX5) (N := 4) hx hb hts hi_5 hown hK hP 0 rfl rfl 2 (by decide) hfl_28 (fun _ h9 => h9) rfl dX5_give_10 ?_
    refine lv_iload_n hx hb dX5_give_13 rfl (lv_at hl 1 rfl) ?_
    have hl := lv_sub hl [] (l' := []) rfl
    refine fk_Vv (Wd := (fk_cW q k)) (z := z0) (As := [.int a1]) (rest := []) F9 (c_X0_acceptData l G q k _ z0 a1) (cwV 1 hts gX5_give_X0_acceptData rfl rfl rfl (by decide +kernel) ⟨Nat.le_of_ble_eq_true rfl, Nat.le_of_ble_eq_true rfl⟩) (va_recv hK hP (ci := 0) (q0 := 4) rfl rfl) hK hP hD hS hA hN rfl hl.1 rfl (Nat.le_of_ble_eq_true rfl) dX5_give_14 ⟨Nat.zero_le _, Nat.zero_le _⟩ (fun z H locs hw hP hD hS => ?_)
    have hf : fX5_give z0 a1 = fX5_give_c1 z := by rw [fX5_give, if_neg c4, ← hw] <;> rfl
    refine lv_iconst (v := 1) hx hb dX5_give_17 (by decide) ?_
    exact fk_iret hx hb hr hlk hK hP hD hS rfl (Eq.symm (by rw [hf, fX5_give_c1] <;> rfl)) dX5_give_18
  · refine lv_iconst (v := 0) hx hb dX5_give_7 (by decide) ?_
    exact fk_iret hx hb hr hlk hK hP hD hS rfl (Eq.symm (by rw [fX5_give, if_pos c4] <;> rfl)) dX5_give_8
-- FloppyDesk.take()I
def fX5_take (z0 : fk_C) : Int32 × fk_C :=
  fX0_handOutData z0
set_option maxHeartbeats 4000000 in
set_option maxRecDepth 100000 in
theorem c_X5_take (l : Launch) (G : va_G) (q : Nat → Nat) (k : Nat → ClassId) (sz : Nat) (z0 : fk_C) : fk_Mi l yX5_take wsX5_take ({ frames := 1, cells := 0, slots := 0, locals := 20 } : Room) G (fk_cW q k) (fk_cT k) [.ref (q 0)] sz z0 (fX5_take z0) := by
  refine fk_head (cc := cX5_take) (maxL := 1) (ret := (some .int)) (QQ := fun A => va_Qi (fun r z1 => (r, z1) = fX5_take z0) (fk_At G (fk_cW q k) (fk_cT k) A) A) (by decide) rfl (Nat.le_of_ble_eq_true rfl) ?_ sz
  intro p e s m below meth c A ls hx hb hr hlk hml hown hts hK hN hA hP hD hS hl
  have hown : s.vm.findClass RX5 = some m.cls := hown
  have F9 : CallFix p m c cX5_take 1 s ([.ref (q 0)] : List Value).toArray wsX5_take RX5 := ⟨hx, hb, hml, hown, hts⟩
  have hl : lv_has ls 1 [(0, .ref (q 0))] := hl
  have hfl_28 := hts (.fieldLink RX5 28 "FloppyDesk" "controller" "LFloppyDesk$Controller;") (by decide +kernel)
  have hi_5 : ∀ w ∈ u_ws RX5 TX5 4, w ∈ wsX5_take := by decide +kernel
  refine lv_aload_n hx hb dX5_take_0 rfl (lv_at hl 0 rfl) ?_
  refine va_get (D := G) (ci := 5) (v := .ref (q 4)) (C := RX5) (T := TX5) (N := 4) hx hb hts hi_5 hown hK hP 0 rfl rfl 2 (by decide) hfl_28 (fun _ h9 => h9) rfl dX5_take_1 ?_
  have hl := lv_sub hl [] (l' := []) rfl
  refine fk_Vi (Wd := (fk_cW q k)) (z := z0) (As := []) (rest := []) F9 (c_X0_handOutData l G q k _ z0) (cwV 0 hts gX5_take_X0_handOutData rfl rfl rfl (by decide +kernel) ⟨Nat.le_of_ble_eq_true rfl, Nat.le_of_ble_eq_true rfl⟩) (va_recv hK hP (ci := 0) (q0 := 4) rfl rfl) hK hP hD hS hA hN rfl hl.1 rfl (Nat.le_of_ble_eq_true rfl) dX5_take_4 ⟨Nat.zero_le _, Nat.zero_le _⟩ (fun r4 z H locs hw hP hD hS => ?_)
  exact fk_iret hx hb hr hlk hK hP hD hS rfl (hw.trans (Eq.symm (by rw [fX5_take] <;> rfl))) dX5_take_7
-- FloppyDesk.run(I)I
def fX5_run_35 (kont : fk_C → Int32 → Int32 → Int32 → Int32 × fk_C) (z : fk_C) (x1 : Int32) (x2 : Int32) (x3 : Int32) : Int32 × fk_C :=
  kont z x1 x2 (x3 + 1)
def fX5_run_c1 (kont : fk_C → Int32 → Int32 → Int32 → Int32 × fk_C) (z : fk_C) (r26 : Int32) (x1 : Int32) (x2 : Int32) (x3 : Int32) : Int32 × fk_C :=
  (if r26 = 0 then fX5_run_35 kont z x1 x2 x3 else fX5_run_35 kont z x1 (x2 + 1) x3)
def fX5_run_17 : Nat → fk_C → Int32 → Int32 → Int32 → Int32 × fk_C
  | 0, z, x1, x2, x3 => (0, z)
  | n + 1, z, x1, x2, x3 =>
  (if x1 ≤ x3 then (x2, z) else fX5_run_c1 (fX5_run_17 n) ((fX0_passByteTime z).2) (fX0_passByteTime z).1 x1 x2 x3)
def fX5_run (z0 : fk_C) (a1 : Int32) : Int32 × fk_C :=
  (if a1 < 0 then ((-1), z0) else (if a1 ≤ 200 then fX5_run_17 201 z0 a1 0 0 else ((-1), z0)))
set_option maxHeartbeats 4000000 in
set_option maxRecDepth 100000 in
theorem c_X5_run (l : Launch) (G : va_G) (q : Nat → Nat) (k : Nat → ClassId) (sz : Nat) (z0 : fk_C) (a1 : Int32) : fk_Mi l yX5_run wsX5_run ({ frames := 6, cells := 0, slots := 0, locals := 132 } : Room) G (fk_cW q k) (fk_cT k) [.ref (q 0), .int a1] sz z0 (fX5_run z0 a1) := by
  refine fk_head (cc := cX5_run) (maxL := 4) (ret := (some .int)) (QQ := fun A => va_Qi (fun r z1 => (r, z1) = fX5_run z0 a1) (fk_At G (fk_cW q k) (fk_cT k) A) A) (by decide) rfl (Nat.le_of_ble_eq_true rfl) ?_ sz
  intro p e s m below meth c A ls hx hb hr hlk hml hown hts hK hN hA hP hD hS hl
  have hown : s.vm.findClass RX5 = some m.cls := hown
  have F9 : CallFix p m c cX5_run 4 s ([.ref (q 0), .int a1] : List Value).toArray wsX5_run RX5 := ⟨hx, hb, hml, hown, hts⟩
  have hl : lv_has ls 4 [(0, .ref (q 0)), (1, .int a1)] := hl
  have hfl_28 := hts (.fieldLink RX5 28 "FloppyDesk" "controller" "LFloppyDesk$Controller;") (by decide +kernel)
  have hi_5 : ∀ w ∈ u_ws RX5 TX5 4, w ∈ wsX5_run := by decide +kernel
  have h17 : ∀ (n : Nat) (N : Nat) (j : Nat) (z : fk_C) (x1 : Int32) (x2 : Int32) (x3 : Int32) (H : Heap) (locs : List Loc) (ls : Array Slot), fX5_run z0 a1 = fX5_run_17 n z x1 x2 x3 → (x3 = nI j) → (j ≤ N) → (N + 1 ≤ j + n) → (x1 = nI N) → (N ≤ 200) → va_P G vwCl ((fk_cW q k) z) H → va_D A ((fk_cW q k) z) → va_S A s.heap H locs → lv_has ls 4 [(0, .ref (q 0)), (1, .int x1), (2, .int x2), (3, .int x3)] → W p l e ({ frames := 6, cells := 0, slots := 0, locals := 132 } : Room) s m ([.ref (q 0), .int a1] : List Value).toArray below meth c H locs 0 0 (MQ below (va_Qi (fun r z1 => (r, z1) = fX5_run z0 a1) (fk_At G (fk_cW q k) (fk_cT k) A) A) ([.ref (q 0), .int a1] : List Value).toArray s 0 0 A) (F0 m 17 ls []) := by
    intro n N
    induction n with
    | zero =>
      intro j z x1 x2 x3 H locs ls hf hj hjN hfu hxN hNle hP hD hS hl
      exact absurd hfu (by omega)
    | succ n ih =>
      intro j z x1 x2 x3 H locs ls hf hj hjN hfu hxN hNle hP hD hS hl
      have h35 : ∀ (z : fk_C) (x2 : Int32) (H : Heap) (locs : List Loc) (ls : Array Slot), fX5_run z0 a1 = fX5_run_35 (fX5_run_17 n) z x1 x2 x3 → (j < N) → va_P G vwCl ((fk_cW q k) z) H → va_D A ((fk_cW q k) z) → va_S A s.heap H locs → lv_has ls 4 [(0, .ref (q 0)), (1, .int x1), (2, .int x2), (3, .int x3)] → W p l e ({ frames := 6, cells := 0, slots := 0, locals := 132 } : Room) s m ([.ref (q 0), .int a1] : List Value).toArray below meth c H locs 0 0 (MQ below (va_Qi (fun r z1 => (r, z1) = fX5_run z0 a1) (fk_At G (fk_cW q k) (fk_cT k) A) A) ([.ref (q 0), .int a1] : List Value).toArray s 0 0 A) (F0 m 35 ls []) := by
        intro z x2 H locs ls hf hlt hP hD hS hl
        refine lv_iinc (v := x3 + 1) (lv' := [(3, .int (x3 + 1)), (0, .ref (q 0)), (1, .int x1), (2, .int x2)]) hx hb dX5_run_35 hl (k := 3) rfl (by rfl) (by decide) rfl (fun ls hl => ?_)
        refine lv_goto (tgt := 17) hx hb dX5_run_38 (by decide) ?_
        exact ih (j + 1) z x1 x2 (x3 + 1) _ _ ls (by rw [hf, fX5_run_35] <;> rfl) (fk_up1 hj) (by omega) (by omega) hxN hNle hP hD hS (lv_sub hl [1, 2, 3, 0] rfl)
      refine lv_iload_n hx hb dX5_run_17 rfl (lv_at hl 3 rfl) ?_
      refine lv_iload_n hx hb dX5_run_18 rfl (lv_at hl 1 rfl) ?_
      refine lv_icmp_ge (tgt := 41) hx hb dX5_run_19 (by decide) (fun c19 => ?_) (fun c19 => ?_)
      · refine lv_iload_n hx hb dX5_run_41 rfl (lv_at hl 2 rfl) ?_
        exact fk_iret hx hb hr hlk hK hP hD hS rfl (Eq.symm (by rw [hf, fX5_run_17, if_pos c19] <;> rfl)) dX5_run_42
      · have hlt : j < N := fk_up hj hxN (by omega) c19
        refine lv_aload_n hx hb dX5_run_22 rfl (lv_at hl 0 rfl) ?_
        refine va_get (D := G) (ci := 5) (v := .ref (q 4)) (C := RX5) (T := TX5) (N := 4) hx hb hts hi_5 hown hK hP 0 rfl rfl 2 (by decide) hfl_28 (fun _ h9 => h9) rfl dX5_run_23 ?_
        refine fk_Vi (Wd := (fk_cW q k)) (z := z) (As := []) (rest := []) F9 (c_X0_passByteTime l G q k _ z) (cwV 0 hts gX5_run_X0_passByteTime rfl rfl rfl (by decide +kernel) ⟨Nat.le_of_ble_eq_true rfl, Nat.le_of_ble_eq_true rfl⟩) (va_recv hK hP (ci := 0) (q0 := 4) rfl rfl) hK hP hD hS hA hN rfl hl.1 rfl (Nat.le_of_ble_eq_true rfl) dX5_run_26 ⟨Nat.zero_le _, Nat.zero_le _⟩ (fun r26 z H locs hw hP hD hS => ?_)
        have hf : fX5_run z0 a1 = fX5_run_c1 (fX5_run_17 n) z r26 x1 x2 x3 := by rw [hf, fX5_run_17, if_neg c19, ← hw] <;> rfl
        refine lv_if_eq (tgt := 35) hx hb dX5_run_29 (by decide) (fun c29 => ?_) (fun c29 => ?_)
        · exact h35 z x2 _ _ ls (by rw [hf, fX5_run_c1, if_pos c29] <;> rfl) hlt hP hD hS (lv_sub hl [0, 1, 2, 3] rfl)
        · refine lv_iinc (v := x2 + 1) (lv' := [(2, .int (x2 + 1)), (0, .ref (q 0)), (1, .int x1), (3, .int x3)]) hx hb dX5_run_32 hl (k := 2) rfl (by rfl) (by decide) rfl (fun ls hl => ?_)
          exact h35 z (x2 + 1) _ _ ls (by rw [hf, fX5_run_c1, if_neg c29] <;> rfl) hlt hP hD hS (lv_sub hl [1, 2, 0, 3] rfl)
  refine lv_iload_n hx hb dX5_run_0 rfl (lv_at hl 1 rfl) ?_
  refine lv_if_lt (tgt := 11) hx hb dX5_run_1 (by decide) (fun c1 => ?_) (fun c1 => ?_)
  · refine lv_iconst (v := (-1)) hx hb dX5_run_11 (by decide) ?_
    exact fk_iret hx hb hr hlk hK hP hD hS rfl (Eq.symm (by rw [fX5_run, if_pos c1] <;> rfl)) dX5_run_12
  · refine lv_iload_n hx hb dX5_run_4 rfl (lv_at hl 1 rfl) ?_
    refine lv_sipush (v := 200) hx hb dX5_run_5 (by decide) ?_
    refine lv_icmp_le (tgt := 13) hx hb dX5_run_8 (by decide) (fun c8 => ?_) (fun c8 => ?_)
    · refine lv_iconst (v := 0) hx hb dX5_run_13 (by decide) ?_
      refine lv_istore_n (lv' := [(2, .int 0), (0, .ref (q 0)), (1, .int a1)]) hx hb dX5_run_14 rfl hl (by decide) rfl (fun ls hl => ?_)
      refine lv_iconst (v := 0) hx hb dX5_run_15 (by decide) ?_
      refine lv_istore_n (lv' := [(3, .int 0), (2, .int 0), (0, .ref (q 0)), (1, .int a1)]) hx hb dX5_run_16 rfl hl (by decide) rfl (fun ls hl => ?_)
      obtain ⟨N, hN1, hN2⟩ := nI_of2 (x := a1) (M := 200) (n := 200) (by decide) c1 c8
      exact h17 201 N 0 z0 a1 0 0 _ _ ls (by rw [fX5_run, if_neg c1, if_pos c8] <;> rfl) (by decide) (by omega) (by omega) hN2 hN1 hP hD hS (lv_sub hl [2, 3, 1, 0] rfl)
    · refine lv_iconst (v := (-1)) hx hb dX5_run_11 (by decide) ?_
      exact fk_iret hx hb hr hlk hK hP hD hS rfl (Eq.symm (by rw [fX5_run, if_neg c1, if_neg c8] <;> rfl)) dX5_run_12
-- FloppyDesk.serveOneByte()V
def fX5_serveOneByte_c1 (z : fk_C) (r30 : Int32) : fk_C :=
  fX3_append z r30
def fX5_serveOneByte_c2 (z : fk_C) (r47 : Int32) : fk_C :=
  fX0_acceptData z r47
def fX5_serveOneByte_c3 (z : fk_C) (r30 : Int32) : fk_C :=
  fX3_append z r30
def fX5_serveOneByte (z0 : fk_C) : fk_C :=
  (if (z0.1 21) = 2 then fX5_serveOneByte_c1 ((fX0_handOutData z0).2) (fX0_handOutData z0).1 else (if (z0.1 21) = 4 then fX5_serveOneByte_c3 ((fX0_handOutData z0).2) (fX0_handOutData z0).1 else fX5_serveOneByte_c2 ((fX3_nextByte z0).2) (fX3_nextByte z0).1))
set_option maxHeartbeats 4000000 in
set_option maxRecDepth 100000 in
theorem c_X5_serveOneByte (l : Launch) (G : va_G) (q : Nat → Nat) (k : Nat → ClassId) (sz : Nat) (z0 : fk_C) : fk_Mv l yX5_serveOneByte wsX5_serveOneByte ({ frames := 2, cells := 0, slots := 0, locals := 42 } : Room) G (fk_cW q k) (fk_cT k) [.ref (q 0)] sz z0 (fX5_serveOneByte z0) := by
  refine fk_head (cc := cX5_serveOneByte) (maxL := 1) (ret := none) (QQ := fun A => va_Qv (fun z1 => z1 = fX5_serveOneByte z0) (fk_At G (fk_cW q k) (fk_cT k) A) A) (by decide) rfl (Nat.le_of_ble_eq_true rfl) ?_ sz
  intro p e s m below meth c A ls hx hb hr hlk hml hown hts hK hN hA hP hD hS hl
  have hown : s.vm.findClass RX5 = some m.cls := hown
  have F9 : CallFix p m c cX5_serveOneByte 1 s ([.ref (q 0)] : List Value).toArray wsX5_serveOneByte RX5 := ⟨hx, hb, hml, hown, hts⟩
  have hl : lv_has ls 1 [(0, .ref (q 0))] := hl
  have hfl_28 := hts (.fieldLink RX5 28 "FloppyDesk" "controller" "LFloppyDesk$Controller;") (by decide +kernel)
  have hfl_35 := hts (.fieldLink RX5 35 "FloppyDesk" "store" "LFloppyDesk$Store;") (by decide +kernel)
  have hi_0 : ∀ w ∈ u_ws RX0 TX0 12, w ∈ wsX5_serveOneByte := by decide +kernel
  have hi_5 : ∀ w ∈ u_ws RX5 TX5 4, w ∈ wsX5_serveOneByte := by decide +kernel
  refine lv_aload_n hx hb dX5_serveOneByte_0 rfl (lv_at hl 0 rfl) ?_
  refine va_get (D := G) (ci := 5) (v := .ref (q 4)) (C := RX5) (T := TX5) (N := 4) hx hb hts hi_5 hown hK hP 0 rfl rfl 2 (by decide) hfl_28 (fun _ h9 => h9) rfl dX5_serveOneByte_1 ?_
  refine va_getN (D := G) (ci := 0) (v := .int (z0.1 21)) (C := RX0) (T := TX0) (N := 12) hx hb hts hi_0 hown hK hP 4 rfl rfl 7 (by decide) (hN.f 12 rfl) (fun _ h9 => h9) rfl dX5_serveOneByte_4 ?_
  refine lv_iconst (v := 2) hx hb dX5_serveOneByte_7 (by decide) ?_
  refine lv_icmp_eq (tgt := 22) hx hb dX5_serveOneByte_8 (by decide) (fun c8 => ?_) (fun c8 => ?_)
  · refine lv_aload_n hx hb dX5_serveOneByte_22 rfl (lv_at hl 0 rfl) ?_
    refine va_get (D := G) (ci := 5) (v := .ref (q 6)) (C := RX5) (T := TX5) (N := 4) hx hb hts hi_5 hown hK hP 0 rfl rfl 3 (by decide) hfl_35 (fun _ h9 => h9) rfl dX5_serveOneByte_23 ?_
    refine lv_aload_n hx hb dX5_serveOneByte_26 rfl (lv_at hl 0 rfl) ?_
    refine va_get (D := G) (ci := 5) (v := .ref (q 4)) (C := RX5) (T := TX5) (N := 4) hx hb hts hi_5 hown hK hP 0 rfl rfl 2 (by decide) hfl_28 (fun _ h9 => h9) rfl dX5_serveOneByte_27 ?_
    have hl := lv_sub hl [] (l' := []) rfl
    refine fk_Vi (Wd := (fk_cW q k)) (z := z0) (As := []) (rest := [.ref (q 6)]) F9 (c_X0_handOutData l G q k _ z0) (cwV 0 hts gX5_serveOneByte_X0_handOutData rfl rfl rfl (by decide +kernel) ⟨Nat.le_of_ble_eq_true rfl, Nat.le_of_ble_eq_true rfl⟩) (va_recv hK hP (ci := 0) (q0 := 4) rfl rfl) hK hP hD hS hA hN rfl hl.1 rfl (Nat.le_of_ble_eq_true rfl) dX5_serveOneByte_30 ⟨Nat.zero_le _, Nat.zero_le _⟩ (fun r30 z H locs hw hP hD hS => ?_)
    have hf : fX5_serveOneByte z0 = fX5_serveOneByte_c1 z r30 := by rw [fX5_serveOneByte, if_pos c8, ← hw] <;> rfl
    refine fk_Vv (Wd := (fk_cW q k)) (z := z) (As := [.int r30]) (rest := []) F9 (c_X3_append l G q k _ z r30) (cwV 1 hts gX5_serveOneByte_X3_append rfl rfl rfl (by decide +kernel) ⟨Nat.le_of_ble_eq_true rfl, Nat.le_of_ble_eq_true rfl⟩) (va_recv hK hP (ci := 3) (q0 := 6) rfl rfl) hK hP hD hS hA hN rfl hl.1 rfl (Nat.le_of_ble_eq_true rfl) dX5_serveOneByte_33 ⟨Nat.zero_le _, Nat.zero_le _⟩ (fun z H locs hw hP hD hS => ?_)
    refine lv_goto (tgt := 53) hx hb dX5_serveOneByte_36 (by decide) ?_
    exact fk_vret hx hb hr hlk hK hP hD hS (hw.trans (Eq.symm (by rw [hf, fX5_serveOneByte_c1] <;> rfl))) dX5_serveOneByte_53
  · refine lv_aload_n hx hb dX5_serveOneByte_11 rfl (lv_at hl 0 rfl) ?_
    refine va_get (D := G) (ci := 5) (v := .ref (q 4)) (C := RX5) (T := TX5) (N := 4) hx hb hts hi_5 hown hK hP 0 rfl rfl 2 (by decide) hfl_28 (fun _ h9 => h9) rfl dX5_serveOneByte_12 ?_
    refine va_getN (D := G) (ci := 0) (v := .int (z0.1 21)) (C := RX0) (T := TX0) (N := 12) hx hb hts hi_0 hown hK hP 4 rfl rfl 7 (by decide) (hN.f 12 rfl) (fun _ h9 => h9) rfl dX5_serveOneByte_15 ?_
    refine lv_iconst (v := 4) hx hb dX5_serveOneByte_18 (by decide) ?_
    refine lv_icmp_ne (tgt := 39) hx hb dX5_serveOneByte_19 (by decide) (fun c19 => ?_) (fun c19 => ?_)
    · refine lv_aload_n hx hb dX5_serveOneByte_39 rfl (lv_at hl 0 rfl) ?_
      refine va_get (D := G) (ci := 5) (v := .ref (q 4)) (C := RX5) (T := TX5) (N := 4) hx hb hts hi_5 hown hK hP 0 rfl rfl 2 (by decide) hfl_28 (fun _ h9 => h9) rfl dX5_serveOneByte_40 ?_
      refine lv_aload_n hx hb dX5_serveOneByte_43 rfl (lv_at hl 0 rfl) ?_
      refine va_get (D := G) (ci := 5) (v := .ref (q 6)) (C := RX5) (T := TX5) (N := 4) hx hb hts hi_5 hown hK hP 0 rfl rfl 3 (by decide) hfl_35 (fun _ h9 => h9) rfl dX5_serveOneByte_44 ?_
      have hl := lv_sub hl [] (l' := []) rfl
      refine fk_Vi (Wd := (fk_cW q k)) (z := z0) (As := []) (rest := [.ref (q 4)]) F9 (c_X3_nextByte l G q k _ z0) (cwV 0 hts gX5_serveOneByte_X3_nextByte rfl rfl rfl (by decide +kernel) ⟨Nat.le_of_ble_eq_true rfl, Nat.le_of_ble_eq_true rfl⟩) (va_recv hK hP (ci := 3) (q0 := 6) rfl rfl) hK hP hD hS hA hN rfl hl.1 rfl (Nat.le_of_ble_eq_true rfl) dX5_serveOneByte_47 ⟨Nat.zero_le _, Nat.zero_le _⟩ (fun r47 z H locs hw hP hD hS => ?_)
      have hf : fX5_serveOneByte z0 = fX5_serveOneByte_c2 z r47 := by rw [fX5_serveOneByte, if_neg c8, if_neg c19, ← hw] <;> rfl
      refine fk_Vv (Wd := (fk_cW q k)) (z := z) (As := [.int r47]) (rest := []) F9 (c_X0_acceptData l G q k _ z r47) (cwV 1 hts gX5_serveOneByte_X0_acceptData rfl rfl rfl (by decide +kernel) ⟨Nat.le_of_ble_eq_true rfl, Nat.le_of_ble_eq_true rfl⟩) (va_recv hK hP (ci := 0) (q0 := 4) rfl rfl) hK hP hD hS hA hN rfl hl.1 rfl (Nat.le_of_ble_eq_true rfl) dX5_serveOneByte_50 ⟨Nat.zero_le _, Nat.zero_le _⟩ (fun z H locs hw hP hD hS => ?_)
      exact fk_vret hx hb hr hlk hK hP hD hS (hw.trans (Eq.symm (by rw [hf, fX5_serveOneByte_c2] <;> rfl))) dX5_serveOneByte_53
    · refine lv_aload_n hx hb dX5_serveOneByte_22 rfl (lv_at hl 0 rfl) ?_
      refine va_get (D := G) (ci := 5) (v := .ref (q 6)) (C := RX5) (T := TX5) (N := 4) hx hb hts hi_5 hown hK hP 0 rfl rfl 3 (by decide) hfl_35 (fun _ h9 => h9) rfl dX5_serveOneByte_23 ?_
      refine lv_aload_n hx hb dX5_serveOneByte_26 rfl (lv_at hl 0 rfl) ?_
      refine va_get (D := G) (ci := 5) (v := .ref (q 4)) (C := RX5) (T := TX5) (N := 4) hx hb hts hi_5 hown hK hP 0 rfl rfl 2 (by decide) hfl_28 (fun _ h9 => h9) rfl dX5_serveOneByte_27 ?_
      have hl := lv_sub hl [] (l' := []) rfl
      refine fk_Vi (Wd := (fk_cW q k)) (z := z0) (As := []) (rest := [.ref (q 6)]) F9 (c_X0_handOutData l G q k _ z0) (cwV 0 hts gX5_serveOneByte_X0_handOutData rfl rfl rfl (by decide +kernel) ⟨Nat.le_of_ble_eq_true rfl, Nat.le_of_ble_eq_true rfl⟩) (va_recv hK hP (ci := 0) (q0 := 4) rfl rfl) hK hP hD hS hA hN rfl hl.1 rfl (Nat.le_of_ble_eq_true rfl) dX5_serveOneByte_30 ⟨Nat.zero_le _, Nat.zero_le _⟩ (fun r30 z H locs hw hP hD hS => ?_)
      have hf : fX5_serveOneByte z0 = fX5_serveOneByte_c3 z r30 := by rw [fX5_serveOneByte, if_neg c8, if_pos c19, ← hw] <;> rfl
      refine fk_Vv (Wd := (fk_cW q k)) (z := z) (As := [.int r30]) (rest := []) F9 (c_X3_append l G q k _ z r30) (cwV 1 hts gX5_serveOneByte_X3_append rfl rfl rfl (by decide +kernel) ⟨Nat.le_of_ble_eq_true rfl, Nat.le_of_ble_eq_true rfl⟩) (va_recv hK hP (ci := 3) (q0 := 6) rfl rfl) hK hP hD hS hA hN rfl hl.1 rfl (Nat.le_of_ble_eq_true rfl) dX5_serveOneByte_33 ⟨Nat.zero_le _, Nat.zero_le _⟩ (fun z H locs hw hP hD hS => ?_)
      refine lv_goto (tgt := 53) hx hb dX5_serveOneByte_36 (by decide) ?_
      exact fk_vret hx hb hr hlk hK hP hD hS (hw.trans (Eq.symm (by rw [hf, fX5_serveOneByte_c3] <;> rfl))) dX5_serveOneByte_53
-- FloppyDesk.serve(I)I
def fX5_serve_48 (kont : fk_C → Int32 → Int32 → Int32 → Int32 × fk_C) (z : fk_C) (x1 : Int32) (x2 : Int32) (x3 : Int32) : Int32 × fk_C :=
  kont z x1 x2 (x3 + 1)
def fX5_serve_c2 (kont : fk_C → Int32 → Int32 → Int32 → Int32 × fk_C) (z : fk_C) (x1 : Int32) (x2 : Int32) (x3 : Int32) : Int32 × fk_C :=
  fX5_serve_48 kont z x1 (x2 + 1) x3
def fX5_serve_c1 (kont : fk_C → Int32 → Int32 → Int32 → Int32 × fk_C) (z : fk_C) (r26 : Int32) (x1 : Int32) (x2 : Int32) (x3 : Int32) : Int32 × fk_C :=
  (if (fX0_has z 2) = 0 then fX5_serve_48 kont z x1 x2 x3 else fX5_serve_c2 kont (fX5_serveOneByte z) x1 x2 x3)
def fX5_serve_17 : Nat → fk_C → Int32 → Int32 → Int32 → Int32 × fk_C
  | 0, z, x1, x2, x3 => (0, z)
  | n + 1, z, x1, x2, x3 =>
  (if x1 ≤ x3 then (x2, z) else fX5_serve_c1 (fX5_serve_17 n) ((fX0_passByteTime z).2) (fX0_passByteTime z).1 x1 x2 x3)
def fX5_serve (z0 : fk_C) (a1 : Int32) : Int32 × fk_C :=
  (if a1 < 0 then ((-1), z0) else (if a1 ≤ 200 then fX5_serve_17 201 z0 a1 0 0 else ((-1), z0)))
set_option maxHeartbeats 4000000 in
set_option maxRecDepth 100000 in
theorem c_X5_serve (l : Launch) (G : va_G) (q : Nat → Nat) (k : Nat → ClassId) (sz : Nat) (z0 : fk_C) (a1 : Int32) : fk_Mi l yX5_serve wsX5_serve ({ frames := 6, cells := 0, slots := 0, locals := 132 } : Room) G (fk_cW q k) (fk_cT k) [.ref (q 0), .int a1] sz z0 (fX5_serve z0 a1) := by
  refine fk_head (cc := cX5_serve) (maxL := 4) (ret := (some .int)) (QQ := fun A => va_Qi (fun r z1 => (r, z1) = fX5_serve z0 a1) (fk_At G (fk_cW q k) (fk_cT k) A) A) (by decide) rfl (Nat.le_of_ble_eq_true rfl) ?_ sz
  intro p e s m below meth c A ls hx hb hr hlk hml hown hts hK hN hA hP hD hS hl
  have hown : s.vm.findClass RX5 = some m.cls := hown
  have F9 : CallFix p m c cX5_serve 4 s ([.ref (q 0), .int a1] : List Value).toArray wsX5_serve RX5 := ⟨hx, hb, hml, hown, hts⟩
  have hl : lv_has ls 4 [(0, .ref (q 0)), (1, .int a1)] := hl
  have hfl_28 := hts (.fieldLink RX5 28 "FloppyDesk" "controller" "LFloppyDesk$Controller;") (by decide +kernel)
  have hi_5 : ∀ w ∈ u_ws RX5 TX5 4, w ∈ wsX5_serve := by decide +kernel
  have h17 : ∀ (n : Nat) (N : Nat) (j : Nat) (z : fk_C) (x1 : Int32) (x2 : Int32) (x3 : Int32) (H : Heap) (locs : List Loc) (ls : Array Slot), fX5_serve z0 a1 = fX5_serve_17 n z x1 x2 x3 → (x3 = nI j) → (j ≤ N) → (N + 1 ≤ j + n) → (x1 = nI N) → (N ≤ 200) → va_P G vwCl ((fk_cW q k) z) H → va_D A ((fk_cW q k) z) → va_S A s.heap H locs → lv_has ls 4 [(0, .ref (q 0)), (1, .int x1), (2, .int x2), (3, .int x3)] → W p l e ({ frames := 6, cells := 0, slots := 0, locals := 132 } : Room) s m ([.ref (q 0), .int a1] : List Value).toArray below meth c H locs 0 0 (MQ below (va_Qi (fun r z1 => (r, z1) = fX5_serve z0 a1) (fk_At G (fk_cW q k) (fk_cT k) A) A) ([.ref (q 0), .int a1] : List Value).toArray s 0 0 A) (F0 m 17 ls []) := by
    intro n N
    induction n with
    | zero =>
      intro j z x1 x2 x3 H locs ls hf hj hjN hfu hxN hNle hP hD hS hl
      exact absurd hfu (by omega)
    | succ n ih =>
      intro j z x1 x2 x3 H locs ls hf hj hjN hfu hxN hNle hP hD hS hl
      have h48 : ∀ (z : fk_C) (x2 : Int32) (H : Heap) (locs : List Loc) (ls : Array Slot), fX5_serve z0 a1 = fX5_serve_48 (fX5_serve_17 n) z x1 x2 x3 → (j < N) → va_P G vwCl ((fk_cW q k) z) H → va_D A ((fk_cW q k) z) → va_S A s.heap H locs → lv_has ls 4 [(0, .ref (q 0)), (1, .int x1), (2, .int x2), (3, .int x3)] → W p l e ({ frames := 6, cells := 0, slots := 0, locals := 132 } : Room) s m ([.ref (q 0), .int a1] : List Value).toArray below meth c H locs 0 0 (MQ below (va_Qi (fun r z1 => (r, z1) = fX5_serve z0 a1) (fk_At G (fk_cW q k) (fk_cT k) A) A) ([.ref (q 0), .int a1] : List Value).toArray s 0 0 A) (F0 m 48 ls []) := by
        intro z x2 H locs ls hf hlt hP hD hS hl
        refine lv_iinc (v := x3 + 1) (lv' := [(3, .int (x3 + 1)), (0, .ref (q 0)), (1, .int x1), (2, .int x2)]) hx hb dX5_serve_48 hl (k := 3) rfl (by rfl) (by decide) rfl (fun ls hl => ?_)
        refine lv_goto (tgt := 17) hx hb dX5_serve_51 (by decide) ?_
        exact ih (j + 1) z x1 x2 (x3 + 1) _ _ ls (by rw [hf, fX5_serve_48] <;> rfl) (fk_up1 hj) (by omega) (by omega) hxN hNle hP hD hS (lv_sub hl [1, 2, 3, 0] rfl)
      refine lv_iload_n hx hb dX5_serve_17 rfl (lv_at hl 3 rfl) ?_
      refine lv_iload_n hx hb dX5_serve_18 rfl (lv_at hl 1 rfl) ?_
      refine lv_icmp_ge (tgt := 54) hx hb dX5_serve_19 (by decide) (fun c19 => ?_) (fun c19 => ?_)
      · refine lv_iload_n hx hb dX5_serve_54 rfl (lv_at hl 2 rfl) ?_
        exact fk_iret hx hb hr hlk hK hP hD hS rfl (Eq.symm (by rw [hf, fX5_serve_17, if_pos c19] <;> rfl)) dX5_serve_55
      · have hlt : j < N := fk_up hj hxN (by omega) c19
        refine lv_aload_n hx hb dX5_serve_22 rfl (lv_at hl 0 rfl) ?_
        refine va_get (D := G) (ci := 5) (v := .ref (q 4)) (C := RX5) (T := TX5) (N := 4) hx hb hts hi_5 hown hK hP 0 rfl rfl 2 (by decide) hfl_28 (fun _ h9 => h9) rfl dX5_serve_23 ?_
        refine fk_Vi (Wd := (fk_cW q k)) (z := z) (As := []) (rest := []) F9 (c_X0_passByteTime l G q k _ z) (cwV 0 hts gX5_serve_X0_passByteTime rfl rfl rfl (by decide +kernel) ⟨Nat.le_of_ble_eq_true rfl, Nat.le_of_ble_eq_true rfl⟩) (va_recv hK hP (ci := 0) (q0 := 4) rfl rfl) hK hP hD hS hA hN rfl hl.1 rfl (Nat.le_of_ble_eq_true rfl) dX5_serve_26 ⟨Nat.zero_le _, Nat.zero_le _⟩ (fun r26 z H locs hw hP hD hS => ?_)
        have hf : fX5_serve z0 a1 = fX5_serve_c1 (fX5_serve_17 n) z r26 x1 x2 x3 := by rw [hf, fX5_serve_17, if_neg c19, ← hw] <;> rfl
        refine lv_pop hx hb dX5_serve_29 rfl ?_
        refine lv_aload_n hx hb dX5_serve_30 rfl (lv_at hl 0 rfl) ?_
        refine va_get (D := G) (ci := 5) (v := .ref (q 4)) (C := RX5) (T := TX5) (N := 4) hx hb hts hi_5 hown hK hP 0 rfl rfl 2 (by decide) hfl_28 (fun _ h9 => h9) rfl dX5_serve_31 ?_
        refine lv_iconst (v := 2) hx hb dX5_serve_34 (by decide) ?_
        refine fk_Vp (Wd := (fk_cW q k)) (z := z) (As := [.int 2]) (rest := []) F9 (c_X0_has l G q k _ z 2) (cwV 1 hts gX5_serve_X0_has rfl rfl rfl (by decide +kernel) ⟨Nat.le_of_ble_eq_true rfl, Nat.le_of_ble_eq_true rfl⟩) (va_recv hK hP (ci := 0) (q0 := 4) rfl rfl) hK hP hD hS hA hN rfl hl.1 rfl (Nat.le_of_ble_eq_true rfl) dX5_serve_35 ⟨Nat.zero_le _, Nat.zero_le _⟩ (fun H locs hP hD hS => ?_)
        refine lv_if_eq (tgt := 48) hx hb dX5_serve_38 (by decide) (fun c38 => ?_) (fun c38 => ?_)
        · exact h48 z x2 _ _ ls (by rw [hf, fX5_serve_c1, if_pos c38] <;> rfl) hlt hP hD hS (lv_sub hl [0, 1, 2, 3] rfl)
        · refine lv_aload_n hx hb dX5_serve_41 rfl (lv_at hl 0 rfl) ?_
          refine fk_Vv (Wd := (fk_cW q k)) (z := z) (As := []) (rest := []) F9 (c_X5_serveOneByte l G q k _ z) (cwV 0 hts gX5_serve_X5_serveOneByte rfl rfl rfl (by decide +kernel) ⟨Nat.le_of_ble_eq_true rfl, Nat.le_of_ble_eq_true rfl⟩) (va_recv hK hP (ci := 5) (q0 := 0) rfl rfl) hK hP hD hS hA hN rfl hl.1 rfl (Nat.le_of_ble_eq_true rfl) dX5_serve_42 ⟨Nat.zero_le _, Nat.zero_le _⟩ (fun z H locs hw hP hD hS => ?_)
          have hf : fX5_serve z0 a1 = fX5_serve_c2 (fX5_serve_17 n) z x1 x2 x3 := by rw [hf, fX5_serve_c1, if_neg c38, ← hw] <;> rfl
          refine lv_iinc (v := x2 + 1) (lv' := [(2, .int (x2 + 1)), (0, .ref (q 0)), (1, .int x1), (3, .int x3)]) hx hb dX5_serve_45 hl (k := 2) rfl (by rfl) (by decide) rfl (fun ls hl => ?_)
          exact h48 z (x2 + 1) _ _ ls (by rw [hf, fX5_serve_c2] <;> rfl) hlt hP hD hS (lv_sub hl [1, 2, 0, 3] rfl)
  refine lv_iload_n hx hb dX5_serve_0 rfl (lv_at hl 1 rfl) ?_
  refine lv_if_lt (tgt := 11) hx hb dX5_serve_1 (by decide) (fun c1 => ?_) (fun c1 => ?_)
  · refine lv_iconst (v := (-1)) hx hb dX5_serve_11 (by decide) ?_
    exact fk_iret hx hb hr hlk hK hP hD hS rfl (Eq.symm (by rw [fX5_serve, if_pos c1] <;> rfl)) dX5_serve_12
  · refine lv_iload_n hx hb dX5_serve_4 rfl (lv_at hl 1 rfl) ?_
    refine lv_sipush (v := 200) hx hb dX5_serve_5 (by decide) ?_
    refine lv_icmp_le (tgt := 13) hx hb dX5_serve_8 (by decide) (fun c8 => ?_) (fun c8 => ?_)
    · refine lv_iconst (v := 0) hx hb dX5_serve_13 (by decide) ?_
      refine lv_istore_n (lv' := [(2, .int 0), (0, .ref (q 0)), (1, .int a1)]) hx hb dX5_serve_14 rfl hl (by decide) rfl (fun ls hl => ?_)
      refine lv_iconst (v := 0) hx hb dX5_serve_15 (by decide) ?_
      refine lv_istore_n (lv' := [(3, .int 0), (2, .int 0), (0, .ref (q 0)), (1, .int a1)]) hx hb dX5_serve_16 rfl hl (by decide) rfl (fun ls hl => ?_)
      obtain ⟨N, hN1, hN2⟩ := nI_of2 (x := a1) (M := 200) (n := 200) (by decide) c1 c8
      exact h17 201 N 0 z0 a1 0 0 _ _ ls (by rw [fX5_serve, if_neg c1, if_pos c8] <;> rfl) (by decide) (by omega) (by omega) hN2 hN1 hP hD hS (lv_sub hl [2, 3, 1, 0] rfl)
    · refine lv_iconst (v := (-1)) hx hb dX5_serve_11 (by decide) ?_
      exact fk_iret hx hb hr hlk hK hP hD hS rfl (Eq.symm (by rw [fX5_serve, if_neg c1, if_neg c8] <;> rfl)) dX5_serve_12
-- FloppyDesk.clear()V
def fX5_clear (z0 : fk_C) : fk_C :=
  fX3_makeEmpty z0
set_option maxHeartbeats 4000000 in
set_option maxRecDepth 100000 in
theorem c_X5_clear (l : Launch) (G : va_G) (q : Nat → Nat) (k : Nat → ClassId) (sz : Nat) (z0 : fk_C) : fk_Mv l yX5_clear wsX5_clear ({ frames := 1, cells := 0, slots := 0, locals := 20 } : Room) G (fk_cW q k) (fk_cT k) [.ref (q 0)] sz z0 (fX5_clear z0) := by
  refine fk_head (cc := cX5_clear) (maxL := 1) (ret := none) (QQ := fun A => va_Qv (fun z1 => z1 = fX5_clear z0) (fk_At G (fk_cW q k) (fk_cT k) A) A) (by decide) rfl (Nat.le_of_ble_eq_true rfl) ?_ sz
  intro p e s m below meth c A ls hx hb hr hlk hml hown hts hK hN hA hP hD hS hl
  have hown : s.vm.findClass RX5 = some m.cls := hown
  have F9 : CallFix p m c cX5_clear 1 s ([.ref (q 0)] : List Value).toArray wsX5_clear RX5 := ⟨hx, hb, hml, hown, hts⟩
  have hl : lv_has ls 1 [(0, .ref (q 0))] := hl
  have hfl_35 := hts (.fieldLink RX5 35 "FloppyDesk" "store" "LFloppyDesk$Store;") (by decide +kernel)
  have hi_5 : ∀ w ∈ u_ws RX5 TX5 4, w ∈ wsX5_clear := by decide +kernel
  refine lv_aload_n hx hb dX5_clear_0 rfl (lv_at hl 0 rfl) ?_
  refine va_get (D := G) (ci := 5) (v := .ref (q 6)) (C := RX5) (T := TX5) (N := 4) hx hb hts hi_5 hown hK hP 0 rfl rfl 3 (by decide) hfl_35 (fun _ h9 => h9) rfl dX5_clear_1 ?_
  have hl := lv_sub hl [] (l' := []) rfl
  refine fk_Vv (Wd := (fk_cW q k)) (z := z0) (As := []) (rest := []) F9 (c_X3_makeEmpty l G q k _ z0) (cwV 0 hts gX5_clear_X3_makeEmpty rfl rfl rfl (by decide +kernel) ⟨Nat.le_of_ble_eq_true rfl, Nat.le_of_ble_eq_true rfl⟩) (va_recv hK hP (ci := 3) (q0 := 6) rfl rfl) hK hP hD hS hA hN rfl hl.1 rfl (Nat.le_of_ble_eq_true rfl) dX5_clear_4 ⟨Nat.zero_le _, Nat.zero_le _⟩ (fun z H locs hw hP hD hS => ?_)
  exact fk_vret hx hb hr hlk hK hP hD hS (hw.trans (Eq.symm (by rw [fX5_clear] <;> rfl))) dX5_clear_7
-- FloppyDesk.fill(II)Z
def fX5_fill_c1 (kont : fk_C → Int32 → Int32 → Int32 → Int32 × fk_C) (z : fk_C) (x1 : Int32) (x2 : Int32) (x3 : Int32) : Int32 × fk_C :=
  kont z x1 x2 (x3 + 1)
def fX5_fill_33 : Nat → fk_C → Int32 → Int32 → Int32 → Int32 × fk_C
  | 0, z, x1, x2, x3 => (0, z)
  | n + 1, z, x1, x2, x3 =>
  (if x2 ≤ x3 then (1, z) else fX5_fill_c1 (fX5_fill_33 n) (fX3_append z x1) x1 x2 x3)
def fX5_fill (z0 : fk_C) (a1 : Int32) (a2 : Int32) : Int32 × fk_C :=
  (if (fX5_isByte a1) = 0 then (0, z0) else (if a2 < 1 then (0, z0) else (if 100 < a2 then (0, z0) else (if (fX3_hasRoomFor z0 a2) = 0 then (0, z0) else fX5_fill_33 101 z0 a1 a2 0))))
set_option maxHeartbeats 4000000 in
set_option maxRecDepth 100000 in
theorem c_X5_fill (l : Launch) (G : va_G) (q : Nat → Nat) (k : Nat → ClassId) (sz : Nat) (z0 : fk_C) (a1 : Int32) (a2 : Int32) : fk_Mi l yX5_fill wsX5_fill ({ frames := 1, cells := 0, slots := 0, locals := 21 } : Room) G (fk_cW q k) (fk_cT k) [.ref (q 0), .int a1, .int a2] sz z0 (fX5_fill z0 a1 a2) := by
  refine fk_head (cc := cX5_fill) (maxL := 4) (ret := (some .boolean)) (QQ := fun A => va_Qi (fun r z1 => (r, z1) = fX5_fill z0 a1 a2) (fk_At G (fk_cW q k) (fk_cT k) A) A) (by decide) rfl (Nat.le_of_ble_eq_true rfl) ?_ sz
  intro p e s m below meth c A ls hx hb hr hlk hml hown hts hK hN hA hP hD hS hl
  have hown : s.vm.findClass RX5 = some m.cls := hown
  have F9 : CallFix p m c cX5_fill 4 s ([.ref (q 0), .int a1, .int a2] : List Value).toArray wsX5_fill RX5 := ⟨hx, hb, hml, hown, hts⟩
  have hl : lv_has ls 4 [(0, .ref (q 0)), (1, .int a1), (2, .int a2)] := hl
  have hfl_35 := hts (.fieldLink RX5 35 "FloppyDesk" "store" "LFloppyDesk$Store;") (by decide +kernel)
  have hi_5 : ∀ w ∈ u_ws RX5 TX5 4, w ∈ wsX5_fill := by decide +kernel
  have h33 : ∀ (n : Nat) (N : Nat) (j : Nat) (z : fk_C) (x1 : Int32) (x2 : Int32) (x3 : Int32) (H : Heap) (locs : List Loc) (ls : Array Slot), fX5_fill z0 a1 a2 = fX5_fill_33 n z x1 x2 x3 → (x3 = nI j) → (j ≤ N) → (N + 1 ≤ j + n) → (x2 = nI N) → (N ≤ 100) → va_P G vwCl ((fk_cW q k) z) H → va_D A ((fk_cW q k) z) → va_S A s.heap H locs → lv_has ls 4 [(0, .ref (q 0)), (1, .int x1), (2, .int x2), (3, .int x3)] → W p l e ({ frames := 1, cells := 0, slots := 0, locals := 21 } : Room) s m ([.ref (q 0), .int a1, .int a2] : List Value).toArray below meth c H locs 0 0 (MQ below (va_Qi (fun r z1 => (r, z1) = fX5_fill z0 a1 a2) (fk_At G (fk_cW q k) (fk_cT k) A) A) ([.ref (q 0), .int a1, .int a2] : List Value).toArray s 0 0 A) (F0 m 33 ls []) := by
    intro n N
    induction n with
    | zero =>
      intro j z x1 x2 x3 H locs ls hf hj hjN hfu hxN hNle hP hD hS hl
      exact absurd hfu (by omega)
    | succ n ih =>
      intro j z x1 x2 x3 H locs ls hf hj hjN hfu hxN hNle hP hD hS hl
      refine lv_iload_n hx hb dX5_fill_33 rfl (lv_at hl 3 rfl) ?_
      refine lv_iload_n hx hb dX5_fill_34 rfl (lv_at hl 2 rfl) ?_
      refine lv_icmp_ge (tgt := 52) hx hb dX5_fill_35 (by decide) (fun c35 => ?_) (fun c35 => ?_)
      · refine lv_iconst (v := 1) hx hb dX5_fill_52 (by decide) ?_
        exact fk_iret hx hb hr hlk hK hP hD hS rfl (Eq.symm (by rw [hf, fX5_fill_33, if_pos c35] <;> rfl)) dX5_fill_53
      · have hlt : j < N := fk_up hj hxN (by omega) c35
        refine lv_aload_n hx hb dX5_fill_38 rfl (lv_at hl 0 rfl) ?_
        refine va_get (D := G) (ci := 5) (v := .ref (q 6)) (C := RX5) (T := TX5) (N := 4) hx hb hts hi_5 hown hK hP 0 rfl rfl 3 (by decide) hfl_35 (fun _ h9 => h9) rfl dX5_fill_39 ?_
        refine lv_iload_n hx hb dX5_fill_42 rfl (lv_at hl 1 rfl) ?_
        refine fk_Vv (Wd := (fk_cW q k)) (z := z) (As := [.int x1]) (rest := []) F9 (c_X3_append l G q k _ z x1) (cwV 1 hts gX5_fill_X3_append rfl rfl rfl (by decide +kernel) ⟨Nat.le_of_ble_eq_true rfl, Nat.le_of_ble_eq_true rfl⟩) (va_recv hK hP (ci := 3) (q0 := 6) rfl rfl) hK hP hD hS hA hN rfl hl.1 rfl (Nat.le_of_ble_eq_true rfl) dX5_fill_43 ⟨Nat.zero_le _, Nat.zero_le _⟩ (fun z H locs hw hP hD hS => ?_)
        have hf : fX5_fill z0 a1 a2 = fX5_fill_c1 (fX5_fill_33 n) z x1 x2 x3 := by rw [hf, fX5_fill_33, if_neg c35, ← hw] <;> rfl
        refine lv_iinc (v := x3 + 1) (lv' := [(3, .int (x3 + 1)), (0, .ref (q 0)), (1, .int x1), (2, .int x2)]) hx hb dX5_fill_46 hl (k := 3) rfl (by rfl) (by decide) rfl (fun ls hl => ?_)
        refine lv_goto (tgt := 33) hx hb dX5_fill_49 (by decide) ?_
        exact ih (j + 1) z x1 x2 (x3 + 1) _ _ ls (by rw [hf, fX5_fill_c1] <;> rfl) (fk_up1 hj) (by omega) (by omega) hxN hNle hP hD hS (lv_sub hl [1, 2, 3, 0] rfl)
  refine lv_iload_n hx hb dX5_fill_0 rfl (lv_at hl 1 rfl) ?_
  refine fk_Sp (Wd := (fk_cW q k)) (z := z0) (As := [.int a1]) (rest := []) F9 (c_X5_isByte l G q k _ z0 a1) (va_cwS 1 hts gX5_fill_X5_isByte rfl rfl rfl (by decide +kernel) ⟨Nat.le_of_ble_eq_true rfl, Nat.le_of_ble_eq_true rfl⟩) hK hP hD hS hA hN rfl hl.1 rfl (Nat.le_of_ble_eq_true rfl) dX5_fill_1 ⟨Nat.zero_le _, Nat.zero_le _⟩ (fun H locs hP hD hS => ?_)
  refine lv_if_eq (tgt := 29) hx hb dX5_fill_4 (by decide) (fun c4 => ?_) (fun c4 => ?_)
  · refine lv_iconst (v := 0) hx hb dX5_fill_29 (by decide) ?_
    exact fk_iret hx hb hr hlk hK hP hD hS rfl (Eq.symm (by rw [fX5_fill, if_pos c4] <;> rfl)) dX5_fill_30
  · refine lv_iload_n hx hb dX5_fill_7 rfl (lv_at hl 2 rfl) ?_
    refine lv_iconst (v := 1) hx hb dX5_fill_8 (by decide) ?_
    refine lv_icmp_lt (tgt := 29) hx hb dX5_fill_9 (by decide) (fun c9 => ?_) (fun c9 => ?_)
    · refine lv_iconst (v := 0) hx hb dX5_fill_29 (by decide) ?_
      exact fk_iret hx hb hr hlk hK hP hD hS rfl (Eq.symm (by rw [fX5_fill, if_neg c4, if_pos c9] <;> rfl)) dX5_fill_30
    · refine lv_iload_n hx hb dX5_fill_12 rfl (lv_at hl 2 rfl) ?_
      refine lv_bipush (v := 100) hx hb dX5_fill_13 (by decide) ?_
      refine lv_icmp_gt (tgt := 29) hx hb dX5_fill_15 (by decide) (fun c15 => ?_) (fun c15 => ?_)
      · refine lv_iconst (v := 0) hx hb dX5_fill_29 (by decide) ?_
        exact fk_iret hx hb hr hlk hK hP hD hS rfl (Eq.symm (by rw [fX5_fill, if_neg c4, if_neg c9, if_pos c15] <;> rfl)) dX5_fill_30
      · refine lv_aload_n hx hb dX5_fill_18 rfl (lv_at hl 0 rfl) ?_
        refine va_get (D := G) (ci := 5) (v := .ref (q 6)) (C := RX5) (T := TX5) (N := 4) hx hb hts hi_5 hown hK hP 0 rfl rfl 3 (by decide) hfl_35 (fun _ h9 => h9) rfl dX5_fill_19 ?_
        refine lv_iload_n hx hb dX5_fill_22 rfl (lv_at hl 2 rfl) ?_
        refine fk_Vp (Wd := (fk_cW q k)) (z := z0) (As := [.int a2]) (rest := []) F9 (c_X3_hasRoomFor l G q k _ z0 a2) (cwV 1 hts gX5_fill_X3_hasRoomFor rfl rfl rfl (by decide +kernel) ⟨Nat.le_of_ble_eq_true rfl, Nat.le_of_ble_eq_true rfl⟩) (va_recv hK hP (ci := 3) (q0 := 6) rfl rfl) hK hP hD hS hA hN rfl hl.1 rfl (Nat.le_of_ble_eq_true rfl) dX5_fill_23 ⟨Nat.zero_le _, Nat.zero_le _⟩ (fun H locs hP hD hS => ?_)
        refine lv_if_ne (tgt := 31) hx hb dX5_fill_26 (by decide) (fun c26 => ?_) (fun c26 => ?_)
        · refine lv_iconst (v := 0) hx hb dX5_fill_31 (by decide) ?_
          refine lv_istore_n (lv' := [(3, .int 0), (0, .ref (q 0)), (1, .int a1), (2, .int a2)]) hx hb dX5_fill_32 rfl hl (by decide) rfl (fun ls hl => ?_)
          obtain ⟨N, hN1, hN2⟩ := fk_cnt c9 c15
          exact h33 101 N 0 z0 a1 a2 0 _ _ ls (by rw [fX5_fill, if_neg c4, if_neg c9, if_neg c15, if_neg c26] <;> rfl) (by decide) (by omega) (by omega) hN2 hN1 hP hD hS (lv_sub hl [1, 2, 3, 0] rfl)
        · refine lv_iconst (v := 0) hx hb dX5_fill_29 (by decide) ?_
          exact fk_iret hx hb hr hlk hK hP hD hS rfl (Eq.symm (by rw [fX5_fill, if_neg c4, if_neg c9, if_neg c15, if_pos c26] <;> rfl)) dX5_fill_30
-- FloppyDesk.buffer(I)I
def fX5_buffer (z0 : fk_C) (a1 : Int32) : Int32 :=
  (if a1 = (-1) then z0.1 33 else fX3_byteAt z0 a1)
set_option maxHeartbeats 4000000 in
set_option maxRecDepth 100000 in
theorem c_X5_buffer (l : Launch) (G : va_G) (q : Nat → Nat) (k : Nat → ClassId) (sz : Nat) (z0 : fk_C) (a1 : Int32) : fk_Mp l yX5_buffer wsX5_buffer ({ frames := 1, cells := 0, slots := 0, locals := 21 } : Room) G (fk_cW q k) (fk_cT k) [.ref (q 0), .int a1] sz z0 (fX5_buffer z0 a1) := by
  refine fk_head (cc := cX5_buffer) (maxL := 2) (ret := (some .int)) (QQ := fun A => va_Qi (fun r (_ : Unit) => r = fX5_buffer z0 a1) (fun _ => fk_At G (fk_cW q k) (fk_cT k) A z0) A) (by decide) rfl (Nat.le_of_ble_eq_true rfl) ?_ sz
  intro p e s m below meth c A ls hx hb hr hlk hml hown hts hK hN hA hP hD hS hl
  have hown : s.vm.findClass RX5 = some m.cls := hown
  have F9 : CallFix p m c cX5_buffer 2 s ([.ref (q 0), .int a1] : List Value).toArray wsX5_buffer RX5 := ⟨hx, hb, hml, hown, hts⟩
  have hl : lv_has ls 2 [(0, .ref (q 0)), (1, .int a1)] := hl
  have hfl_35 := hts (.fieldLink RX5 35 "FloppyDesk" "store" "LFloppyDesk$Store;") (by decide +kernel)
  have hi_3 : ∀ w ∈ u_ws RX3 TX3 3, w ∈ wsX5_buffer := by decide +kernel
  have hi_5 : ∀ w ∈ u_ws RX5 TX5 4, w ∈ wsX5_buffer := by decide +kernel
  refine lv_iload_n hx hb dX5_buffer_0 rfl (lv_at hl 1 rfl) ?_
  refine lv_iconst (v := (-1)) hx hb dX5_buffer_1 (by decide) ?_
  refine lv_icmp_ne (tgt := 15) hx hb dX5_buffer_2 (by decide) (fun c2 => ?_) (fun c2 => ?_)
  · refine lv_aload_n hx hb dX5_buffer_15 rfl (lv_at hl 0 rfl) ?_
    refine va_get (D := G) (ci := 5) (v := .ref (q 6)) (C := RX5) (T := TX5) (N := 4) hx hb hts hi_5 hown hK hP 0 rfl rfl 3 (by decide) hfl_35 (fun _ h9 => h9) rfl dX5_buffer_16 ?_
    refine lv_iload_n hx hb dX5_buffer_19 rfl (lv_at hl 1 rfl) ?_
    refine fk_Vp (Wd := (fk_cW q k)) (z := z0) (As := [.int a1]) (rest := []) F9 (c_X3_byteAt l G q k _ z0 a1) (cwV 1 hts gX5_buffer_X3_byteAt rfl rfl rfl (by decide +kernel) ⟨Nat.le_of_ble_eq_true rfl, Nat.le_of_ble_eq_true rfl⟩) (va_recv hK hP (ci := 3) (q0 := 6) rfl rfl) hK hP hD hS hA hN rfl hl.1 rfl (Nat.le_of_ble_eq_true rfl) dX5_buffer_20 ⟨Nat.zero_le _, Nat.zero_le _⟩ (fun H locs hP hD hS => ?_)
    exact fk_pret hx hb hr hlk hK hP hD hS rfl (Eq.symm (by rw [fX5_buffer, if_neg c2] <;> rfl)) dX5_buffer_23
  · refine lv_aload_n hx hb dX5_buffer_5 rfl (lv_at hl 0 rfl) ?_
    refine va_get (D := G) (ci := 5) (v := .ref (q 6)) (C := RX5) (T := TX5) (N := 4) hx hb hts hi_5 hown hK hP 0 rfl rfl 3 (by decide) hfl_35 (fun _ h9 => h9) rfl dX5_buffer_6 ?_
    refine va_getN (D := G) (ci := 3) (v := .int (z0.1 33)) (C := RX3) (T := TX3) (N := 3) hx hb hts hi_3 hown hK hP 6 rfl rfl 1 (by decide) (hN.f 13 rfl) (fun _ h9 => h9) rfl dX5_buffer_9 ?_
    refine lv_goto (tgt := 23) hx hb dX5_buffer_12 (by decide) ?_
    exact fk_pret hx hb hr hlk hK hP hD hS rfl (Eq.symm (by rw [fX5_buffer, if_pos c2] <;> rfl)) dX5_buffer_23
-- FloppyDesk.protect(Z)V
def fX5_protect (z0 : fk_C) (a1 : Int32) : fk_C :=
  (upd z0.1 0 a1, z0.2)
set_option maxHeartbeats 4000000 in
set_option maxRecDepth 100000 in
theorem c_X5_protect (l : Launch) (G : va_G) (q : Nat → Nat) (k : Nat → ClassId) (sz : Nat) (z0 : fk_C) (a1 : Int32) (hb_a1 : a1 = 0 ∨ a1 = 1) : fk_Mv l yX5_protect wsX5_protect ({ frames := 0, cells := 0, slots := 0, locals := 0 } : Room) G (fk_cW q k) (fk_cT k) [.ref (q 0), .int a1] sz z0 (fX5_protect z0 a1) := by
  refine fk_head (cc := cX5_protect) (maxL := 2) (ret := none) (QQ := fun A => va_Qv (fun z1 => z1 = fX5_protect z0 a1) (fk_At G (fk_cW q k) (fk_cT k) A) A) (by decide) rfl (Nat.le_of_ble_eq_true rfl) ?_ sz
  intro p e s m below meth c A ls hx hb hr hlk hml hown hts hK hN hA hP hD hS hl
  have hown : s.vm.findClass RX5 = some m.cls := hown
  have F9 : CallFix p m c cX5_protect 2 s ([.ref (q 0), .int a1] : List Value).toArray wsX5_protect RX5 := ⟨hx, hb, hml, hown, hts⟩
  have hl : lv_has ls 2 [(0, .ref (q 0)), (1, .int a1)] := hl
  have hfl_10 := hts (.fieldLink RX5 10 "FloppyDesk" "disk" "LFloppyDesk$Disk;") (by decide +kernel)
  have hi_1 : ∀ w ∈ u_ws RX1 TX1 4, w ∈ wsX5_protect := by decide +kernel
  have hi_5 : ∀ w ∈ u_ws RX5 TX5 4, w ∈ wsX5_protect := by decide +kernel
  refine lv_aload_n hx hb dX5_protect_0 rfl (lv_at hl 0 rfl) ?_
  refine va_get (D := G) (ci := 5) (v := .ref (q 1)) (C := RX5) (T := TX5) (N := 4) hx hb hts hi_5 hown hK hP 0 rfl rfl 0 (by decide) hfl_10 (fun _ h9 => h9) rfl dX5_protect_1 ?_
  refine lv_iload_n hx hb dX5_protect_4 rfl (lv_at hl 1 rfl) ?_
  refine va_putN (D := G) (ci := 1) (v := .int a1) (ty := .boolean) (C := RX1) (T := TX1) (N := 4) hx hb hts hi_1 tyX1 tyX1_ok nmX1 hown hK hP hD hS 1 rfl rfl 1 (by decide) (hN.f 14 rfl) (fun _ h9 => h9) rfl (by decide +kernel) (fk_nb hb_a1) (fk_fb hb_a1) (Nat.le_of_ble_eq_true rfl) dX5_protect_5 (fun H locs hP hD hS => ?_)
  have hP : va_P G vwCl ((fk_cW q k) (upd z0.1 0 a1, z0.2)) H := hP
  have hD : va_D A ((fk_cW q k) (upd z0.1 0 a1, z0.2)) := hD
  exact fk_vret hx hb hr hlk hK hP hD hS (Eq.symm (by rw [fX5_protect] <;> rfl)) dX5_protect_8
-- FloppyDesk.spoil(II)Z
theorem fX1_turnOver_b (z : fk_C) (a1 a2 : Int32) : (fX1_turnOver z a1 a2).1 = 0 ∨ (fX1_turnOver z a1 a2).1 = 1 := by
  simp only [fX1_turnOver]
  repeat' split
  all_goals first | exact Or.inl rfl | exact Or.inr rfl
def fX5_spoil (z0 : fk_C) (a1 : Int32) (a2 : Int32) : Int32 × fk_C :=
  fX1_turnOver z0 a1 a2
set_option maxHeartbeats 4000000 in
set_option maxRecDepth 100000 in
theorem c_X5_spoil (l : Launch) (G : va_G) (q : Nat → Nat) (k : Nat → ClassId) (sz : Nat) (z0 : fk_C) (a1 : Int32) (a2 : Int32) : fk_Mi l yX5_spoil wsX5_spoil ({ frames := 1, cells := 0, slots := 0, locals := 22 } : Room) G (fk_cW q k) (fk_cT k) [.ref (q 0), .int a1, .int a2] sz z0 (fX5_spoil z0 a1 a2) := by
  refine fk_head (cc := cX5_spoil) (maxL := 3) (ret := (some .boolean)) (QQ := fun A => va_Qi (fun r z1 => (r, z1) = fX5_spoil z0 a1 a2) (fk_At G (fk_cW q k) (fk_cT k) A) A) (by decide) rfl (Nat.le_of_ble_eq_true rfl) ?_ sz
  intro p e s m below meth c A ls hx hb hr hlk hml hown hts hK hN hA hP hD hS hl
  have hown : s.vm.findClass RX5 = some m.cls := hown
  have F9 : CallFix p m c cX5_spoil 3 s ([.ref (q 0), .int a1, .int a2] : List Value).toArray wsX5_spoil RX5 := ⟨hx, hb, hml, hown, hts⟩
  have hl : lv_has ls 3 [(0, .ref (q 0)), (1, .int a1), (2, .int a2)] := hl
  have hfl_10 := hts (.fieldLink RX5 10 "FloppyDesk" "disk" "LFloppyDesk$Disk;") (by decide +kernel)
  have hi_5 : ∀ w ∈ u_ws RX5 TX5 4, w ∈ wsX5_spoil := by decide +kernel
  refine lv_aload_n hx hb dX5_spoil_0 rfl (lv_at hl 0 rfl) ?_
  refine va_get (D := G) (ci := 5) (v := .ref (q 1)) (C := RX5) (T := TX5) (N := 4) hx hb hts hi_5 hown hK hP 0 rfl rfl 0 (by decide) hfl_10 (fun _ h9 => h9) rfl dX5_spoil_1 ?_
  refine lv_iload_n hx hb dX5_spoil_4 rfl (lv_at hl 1 rfl) ?_
  refine lv_iload_n hx hb dX5_spoil_5 rfl (lv_at hl 2 rfl) ?_
  have hl := lv_sub hl [] (l' := []) rfl
  refine fk_Vi (Wd := (fk_cW q k)) (z := z0) (As := [.int a1, .int a2]) (rest := []) F9 (c_X1_turnOver l G q k _ z0 a1 a2) (cwV 2 hts gX5_spoil_X1_turnOver rfl rfl rfl (by decide +kernel) ⟨Nat.le_of_ble_eq_true rfl, Nat.le_of_ble_eq_true rfl⟩) (va_recv hK hP (ci := 1) (q0 := 1) rfl rfl) hK hP hD hS hA hN rfl hl.1 rfl (Nat.le_of_ble_eq_true rfl) dX5_spoil_6 ⟨Nat.zero_le _, Nat.zero_le _⟩ (fun r6 z H locs hw hP hD hS => ?_)
  exact fk_iret hx hb hr hlk hK hP hD hS (fk_nb (by have h9 := fX1_turnOver_b z0 a1 a2; rw [← hw] at h9; exact h9)) (hw.trans (Eq.symm (by rw [fX5_spoil] <;> rfl))) dX5_spoil_9
-- FloppyDesk.cells(II)I
def fX5_cells (z0 : fk_C) (a1 : Int32) (a2 : Int32) : Int32 :=
  fX1_wordAt z0 a1 a2
set_option maxHeartbeats 4000000 in
set_option maxRecDepth 100000 in
theorem c_X5_cells (l : Launch) (G : va_G) (q : Nat → Nat) (k : Nat → ClassId) (sz : Nat) (z0 : fk_C) (a1 : Int32) (a2 : Int32) : fk_Mp l yX5_cells wsX5_cells ({ frames := 1, cells := 0, slots := 0, locals := 22 } : Room) G (fk_cW q k) (fk_cT k) [.ref (q 0), .int a1, .int a2] sz z0 (fX5_cells z0 a1 a2) := by
  refine fk_head (cc := cX5_cells) (maxL := 3) (ret := (some .int)) (QQ := fun A => va_Qi (fun r (_ : Unit) => r = fX5_cells z0 a1 a2) (fun _ => fk_At G (fk_cW q k) (fk_cT k) A z0) A) (by decide) rfl (Nat.le_of_ble_eq_true rfl) ?_ sz
  intro p e s m below meth c A ls hx hb hr hlk hml hown hts hK hN hA hP hD hS hl
  have hown : s.vm.findClass RX5 = some m.cls := hown
  have F9 : CallFix p m c cX5_cells 3 s ([.ref (q 0), .int a1, .int a2] : List Value).toArray wsX5_cells RX5 := ⟨hx, hb, hml, hown, hts⟩
  have hl : lv_has ls 3 [(0, .ref (q 0)), (1, .int a1), (2, .int a2)] := hl
  have hfl_10 := hts (.fieldLink RX5 10 "FloppyDesk" "disk" "LFloppyDesk$Disk;") (by decide +kernel)
  have hi_5 : ∀ w ∈ u_ws RX5 TX5 4, w ∈ wsX5_cells := by decide +kernel
  refine lv_aload_n hx hb dX5_cells_0 rfl (lv_at hl 0 rfl) ?_
  refine va_get (D := G) (ci := 5) (v := .ref (q 1)) (C := RX5) (T := TX5) (N := 4) hx hb hts hi_5 hown hK hP 0 rfl rfl 0 (by decide) hfl_10 (fun _ h9 => h9) rfl dX5_cells_1 ?_
  refine lv_iload_n hx hb dX5_cells_4 rfl (lv_at hl 1 rfl) ?_
  refine lv_iload_n hx hb dX5_cells_5 rfl (lv_at hl 2 rfl) ?_
  refine fk_Vp (Wd := (fk_cW q k)) (z := z0) (As := [.int a1, .int a2]) (rest := []) F9 (c_X1_wordAt l G q k _ z0 a1 a2) (cwV 2 hts gX5_cells_X1_wordAt rfl rfl rfl (by decide +kernel) ⟨Nat.le_of_ble_eq_true rfl, Nat.le_of_ble_eq_true rfl⟩) (va_recv hK hP (ci := 1) (q0 := 1) rfl rfl) hK hP hD hS hA hN rfl hl.1 rfl (Nat.le_of_ble_eq_true rfl) dX5_cells_6 ⟨Nat.zero_le _, Nat.zero_le _⟩ (fun H locs hP hD hS => ?_)
  exact fk_pret hx hb hr hlk hK hP hD hS rfl (Eq.symm (by rw [fX5_cells] <;> rfl)) dX5_cells_9
-- FloppyDesk.look(I)I
def fX5_look (z0 : fk_C) (a1 : Int32) : Int32 :=
  (if a1 = 0 then z0.1 17 else if a1 = 1 then z0.1 18 else if a1 = 2 then z0.1 19 else if a1 = 3 then z0.1 20 else if a1 = 4 then z0.1 1 else if a1 = 5 then z0.1 2 else if a1 = 6 then (if (z0.1 4) = 0 then 0 else 1) else if a1 = 7 then z0.1 21 else (-1))
set_option maxHeartbeats 4000000 in
set_option maxRecDepth 100000 in
theorem c_X5_look (l : Launch) (G : va_G) (q : Nat → Nat) (k : Nat → ClassId) (sz : Nat) (z0 : fk_C) (a1 : Int32) : fk_Mp l yX5_look wsX5_look ({ frames := 0, cells := 0, slots := 0, locals := 0 } : Room) G (fk_cW q k) (fk_cT k) [.ref (q 0), .int a1] sz z0 (fX5_look z0 a1) := by
  refine fk_head (cc := cX5_look) (maxL := 2) (ret := (some .int)) (QQ := fun A => va_Qi (fun r (_ : Unit) => r = fX5_look z0 a1) (fun _ => fk_At G (fk_cW q k) (fk_cT k) A z0) A) (by decide) rfl (Nat.le_of_ble_eq_true rfl) ?_ sz
  intro p e s m below meth c A ls hx hb hr hlk hml hown hts hK hN hA hP hD hS hl
  have hown : s.vm.findClass RX5 = some m.cls := hown
  have F9 : CallFix p m c cX5_look 2 s ([.ref (q 0), .int a1] : List Value).toArray wsX5_look RX5 := ⟨hx, hb, hml, hown, hts⟩
  have hl : lv_has ls 2 [(0, .ref (q 0)), (1, .int a1)] := hl
  have hfl_10 := hts (.fieldLink RX5 10 "FloppyDesk" "disk" "LFloppyDesk$Disk;") (by decide +kernel)
  have hfl_19 := hts (.fieldLink RX5 19 "FloppyDesk" "reader" "LFloppyDesk$Reader;") (by decide +kernel)
  have hfl_28 := hts (.fieldLink RX5 28 "FloppyDesk" "controller" "LFloppyDesk$Controller;") (by decide +kernel)
  have hi_0 : ∀ w ∈ u_ws RX0 TX0 12, w ∈ wsX5_look := by decide +kernel
  have hi_1 : ∀ w ∈ u_ws RX1 TX1 4, w ∈ wsX5_look := by decide +kernel
  have hi_2 : ∀ w ∈ u_ws RX2 TX2 14, w ∈ wsX5_look := by decide +kernel
  have hi_5 : ∀ w ∈ u_ws RX5 TX5 4, w ∈ wsX5_look := by decide +kernel
  refine lv_iload_n hx hb dX5_look_0 rfl (lv_at hl 1 rfl) ?_
  by_cases c1_0 : a1 = 0
  · refine lv_tableIn (tgt := 48) hx hb dX5_look_1 (by rw [c1_0]; decide) (by rw [c1_0]; decide) (off := 47) (by rw [c1_0]; decide) (by decide) ?_
    refine lv_aload_n hx hb dX5_look_48 rfl (lv_at hl 0 rfl) ?_
    refine va_get (D := G) (ci := 5) (v := .ref (q 4)) (C := RX5) (T := TX5) (N := 4) hx hb hts hi_5 hown hK hP 0 rfl rfl 2 (by decide) hfl_28 (fun _ h9 => h9) rfl dX5_look_49 ?_
    refine va_getN (D := G) (ci := 0) (v := .int (z0.1 17)) (C := RX0) (T := TX0) (N := 12) hx hb hts hi_0 hown hK hP 4 rfl rfl 3 (by decide) (hN.f 15 rfl) (fun _ h9 => h9) rfl dX5_look_52 ?_
    exact fk_pret hx hb hr hlk hK hP hD hS rfl (Eq.symm (by rw [fX5_look, if_pos c1_0] <;> rfl)) dX5_look_55
  by_cases c1_1 : a1 = 1
  · refine lv_tableIn (tgt := 56) hx hb dX5_look_1 (by rw [c1_1]; decide) (by rw [c1_1]; decide) (off := 55) (by rw [c1_1]; decide) (by decide) ?_
    refine lv_aload_n hx hb dX5_look_56 rfl (lv_at hl 0 rfl) ?_
    refine va_get (D := G) (ci := 5) (v := .ref (q 4)) (C := RX5) (T := TX5) (N := 4) hx hb hts hi_5 hown hK hP 0 rfl rfl 2 (by decide) hfl_28 (fun _ h9 => h9) rfl dX5_look_57 ?_
    refine va_getN (D := G) (ci := 0) (v := .int (z0.1 18)) (C := RX0) (T := TX0) (N := 12) hx hb hts hi_0 hown hK hP 4 rfl rfl 4 (by decide) (hN.f 10 rfl) (fun _ h9 => h9) rfl dX5_look_60 ?_
    exact fk_pret hx hb hr hlk hK hP hD hS rfl (Eq.symm (by rw [fX5_look, if_neg c1_0, if_pos c1_1] <;> rfl)) dX5_look_63
  by_cases c1_2 : a1 = 2
  · refine lv_tableIn (tgt := 64) hx hb dX5_look_1 (by rw [c1_2]; decide) (by rw [c1_2]; decide) (off := 63) (by rw [c1_2]; decide) (by decide) ?_
    refine lv_aload_n hx hb dX5_look_64 rfl (lv_at hl 0 rfl) ?_
    refine va_get (D := G) (ci := 5) (v := .ref (q 4)) (C := RX5) (T := TX5) (N := 4) hx hb hts hi_5 hown hK hP 0 rfl rfl 2 (by decide) hfl_28 (fun _ h9 => h9) rfl dX5_look_65 ?_
    refine va_getN (D := G) (ci := 0) (v := .int (z0.1 19)) (C := RX0) (T := TX0) (N := 12) hx hb hts hi_0 hown hK hP 4 rfl rfl 5 (by decide) (hN.f 11 rfl) (fun _ h9 => h9) rfl dX5_look_68 ?_
    exact fk_pret hx hb hr hlk hK hP hD hS rfl (Eq.symm (by rw [fX5_look, if_neg c1_0, if_neg c1_1, if_pos c1_2] <;> rfl)) dX5_look_71
  by_cases c1_3 : a1 = 3
  · refine lv_tableIn (tgt := 72) hx hb dX5_look_1 (by rw [c1_3]; decide) (by rw [c1_3]; decide) (off := 71) (by rw [c1_3]; decide) (by decide) ?_
    refine lv_aload_n hx hb dX5_look_72 rfl (lv_at hl 0 rfl) ?_
    refine va_get (D := G) (ci := 5) (v := .ref (q 4)) (C := RX5) (T := TX5) (N := 4) hx hb hts hi_5 hown hK hP 0 rfl rfl 2 (by decide) hfl_28 (fun _ h9 => h9) rfl dX5_look_73 ?_
    refine va_getN (D := G) (ci := 0) (v := .int (z0.1 20)) (C := RX0) (T := TX0) (N := 12) hx hb hts hi_0 hown hK hP 4 rfl rfl 6 (by decide) (hN.f 16 rfl) (fun _ h9 => h9) rfl dX5_look_76 ?_
    exact fk_pret hx hb hr hlk hK hP hD hS rfl (Eq.symm (by rw [fX5_look, if_neg c1_0, if_neg c1_1, if_neg c1_2, if_pos c1_3] <;> rfl)) dX5_look_79
  by_cases c1_4 : a1 = 4
  · refine lv_tableIn (tgt := 80) hx hb dX5_look_1 (by rw [c1_4]; decide) (by rw [c1_4]; decide) (off := 79) (by rw [c1_4]; decide) (by decide) ?_
    refine lv_aload_n hx hb dX5_look_80 rfl (lv_at hl 0 rfl) ?_
    refine va_get (D := G) (ci := 5) (v := .ref (q 1)) (C := RX5) (T := TX5) (N := 4) hx hb hts hi_5 hown hK hP 0 rfl rfl 0 (by decide) hfl_10 (fun _ h9 => h9) rfl dX5_look_81 ?_
    refine va_getN (D := G) (ci := 1) (v := .int (z0.1 1)) (C := RX1) (T := TX1) (N := 4) hx hb hts hi_1 hown hK hP 1 rfl rfl 2 (by decide) (hN.f 17 rfl) (fun _ h9 => h9) rfl dX5_look_84 ?_
    exact fk_pret hx hb hr hlk hK hP hD hS rfl (Eq.symm (by rw [fX5_look, if_neg c1_0, if_neg c1_1, if_neg c1_2, if_neg c1_3, if_pos c1_4] <;> rfl)) dX5_look_87
  by_cases c1_5 : a1 = 5
  · refine lv_tableIn (tgt := 88) hx hb dX5_look_1 (by rw [c1_5]; decide) (by rw [c1_5]; decide) (off := 87) (by rw [c1_5]; decide) (by decide) ?_
    refine lv_aload_n hx hb dX5_look_88 rfl (lv_at hl 0 rfl) ?_
    refine va_get (D := G) (ci := 5) (v := .ref (q 1)) (C := RX5) (T := TX5) (N := 4) hx hb hts hi_5 hown hK hP 0 rfl rfl 0 (by decide) hfl_10 (fun _ h9 => h9) rfl dX5_look_89 ?_
    refine va_getN (D := G) (ci := 1) (v := .int (z0.1 2)) (C := RX1) (T := TX1) (N := 4) hx hb hts hi_1 hown hK hP 1 rfl rfl 3 (by decide) (hN.f 18 rfl) (fun _ h9 => h9) rfl dX5_look_92 ?_
    exact fk_pret hx hb hr hlk hK hP hD hS rfl (Eq.symm (by rw [fX5_look, if_neg c1_0, if_neg c1_1, if_neg c1_2, if_neg c1_3, if_neg c1_4, if_pos c1_5] <;> rfl)) dX5_look_95
  by_cases c1_6 : a1 = 6
  · refine lv_tableIn (tgt := 96) hx hb dX5_look_1 (by rw [c1_6]; decide) (by rw [c1_6]; decide) (off := 95) (by rw [c1_6]; decide) (by decide) ?_
    refine lv_aload_n hx hb dX5_look_96 rfl (lv_at hl 0 rfl) ?_
    refine va_get (D := G) (ci := 5) (v := .ref (q 3)) (C := RX5) (T := TX5) (N := 4) hx hb hts hi_5 hown hK hP 0 rfl rfl 1 (by decide) hfl_19 (fun _ h9 => h9) rfl dX5_look_97 ?_
    refine va_getN (D := G) (ci := 2) (v := .int (z0.1 4)) (C := RX2) (T := TX2) (N := 14) hx hb hts hi_2 hown hK hP 3 rfl rfl 1 (by decide) (hN.f 19 rfl) (fun _ h9 => h9) rfl dX5_look_100 ?_
    refine lv_if_eq (tgt := 110) hx hb dX5_look_103 (by decide) (fun c103 => ?_) (fun c103 => ?_)
    · refine lv_iconst (v := 0) hx hb dX5_look_110 (by decide) ?_
      exact fk_pret hx hb hr hlk hK hP hD hS rfl (Eq.symm (by rw [fX5_look, if_neg c1_0, if_neg c1_1, if_neg c1_2, if_neg c1_3, if_neg c1_4, if_neg c1_5, if_pos c1_6, if_pos c103] <;> rfl)) dX5_look_111
    · refine lv_iconst (v := 1) hx hb dX5_look_106 (by decide) ?_
      refine lv_goto (tgt := 111) hx hb dX5_look_107 (by decide) ?_
      exact fk_pret hx hb hr hlk hK hP hD hS rfl (Eq.symm (by rw [fX5_look, if_neg c1_0, if_neg c1_1, if_neg c1_2, if_neg c1_3, if_neg c1_4, if_neg c1_5, if_pos c1_6, if_neg c103] <;> rfl)) dX5_look_111
  by_cases c1_7 : a1 = 7
  · refine lv_tableIn (tgt := 112) hx hb dX5_look_1 (by rw [c1_7]; decide) (by rw [c1_7]; decide) (off := 111) (by rw [c1_7]; decide) (by decide) ?_
    refine lv_aload_n hx hb dX5_look_112 rfl (lv_at hl 0 rfl) ?_
    refine va_get (D := G) (ci := 5) (v := .ref (q 4)) (C := RX5) (T := TX5) (N := 4) hx hb hts hi_5 hown hK hP 0 rfl rfl 2 (by decide) hfl_28 (fun _ h9 => h9) rfl dX5_look_113 ?_
    refine va_getN (D := G) (ci := 0) (v := .int (z0.1 21)) (C := RX0) (T := TX0) (N := 12) hx hb hts hi_0 hown hK hP 4 rfl rfl 7 (by decide) (hN.f 12 rfl) (fun _ h9 => h9) rfl dX5_look_116 ?_
    exact fk_pret hx hb hr hlk hK hP hD hS rfl (Eq.symm (by rw [fX5_look, if_neg c1_0, if_neg c1_1, if_neg c1_2, if_neg c1_3, if_neg c1_4, if_neg c1_5, if_neg c1_6, if_pos c1_7] <;> rfl)) dX5_look_119
  have e1_0 := lv_neT c1_0 (a := 0) (by decide)
  have e1_1 := lv_neT c1_1 (a := 1) (by decide)
  have e1_2 := lv_neT c1_2 (a := 2) (by decide)
  have e1_3 := lv_neT c1_3 (a := 3) (by decide)
  have e1_4 := lv_neT c1_4 (a := 4) (by decide)
  have e1_5 := lv_neT c1_5 (a := 5) (by decide)
  have e1_6 := lv_neT c1_6 (a := 6) (by decide)
  have e1_7 := lv_neT c1_7 (a := 7) (by decide)
  refine lv_tableOut (tgt := 120) hx hb dX5_look_1 (by omega) (by decide) ?_
  refine lv_iconst (v := (-1)) hx hb dX5_look_120 (by decide) ?_
  exact fk_pret hx hb hr hlk hK hP hD hS rfl (Eq.symm (by rw [fX5_look, if_neg c1_0, if_neg c1_1, if_neg c1_2, if_neg c1_3, if_neg c1_4, if_neg c1_5, if_neg c1_6, if_neg c1_7] <;> rfl)) dX5_look_121
