-- FloppyDeskModel.startWriting(I)V
set_option maxHeartbeats 4000000 in
set_option maxRecDepth 100000 in
theorem c_X6_startWriting (l : Launch) (G : va_G) (q : Nat → Nat) (k : Nat → ClassId) (sz : Nat) (z0 : fk_M) (a1 : Int32) : fk_Mv l yX6_startWriting wsX6_startWriting ({ frames := 1, cells := 0, slots := 0, locals := 20 } : Room) G (fk_mW q k) (fk_mT k) [.ref (q 0), .int a1] sz z0 (fX6_startWriting z0 a1) := by
  refine fk_head (cc := cX6_startWriting) (maxL := 2) (ret := none) (QQ := fun A => va_Qv (fun z1 => z1 = fX6_startWriting z0 a1) (fk_At G (fk_mW q k) (fk_mT k) A) A) (by decide) rfl (Nat.le_of_ble_eq_true rfl) ?_ sz
  intro p e s m below meth c A ls hx hb hr hlk hml hown hts hK hN hA hP hD hS hl
  have hown : s.vm.findClass RX6 = some m.cls := hown
  have F9 : CallFix p m c cX6_startWriting 2 s ([.ref (q 0), .int a1] : List Value).toArray wsX6_startWriting RX6 := ⟨hx, hb, hml, hown, hts⟩
  have hl : lv_has ls 2 [(0, .ref (q 0)), (1, .int a1)] := hl
  have hcst_27 := hts (.constant RX6 27 65535) (by decide +kernel)
  have hfl_55 := hts (.fieldLink RX6 55 "FloppyDeskModel" "phase" "I") (by decide +kernel)
  have hfl_116 := hts (.fieldLink RX6 116 "FloppyDeskModel" "written" "I") (by decide +kernel)
  have hfl_119 := hts (.fieldLink RX6 119 "FloppyDeskModel" "which" "I") (by decide +kernel)
  have hfl_122 := hts (.fieldLink RX6 122 "FloppyDeskModel" "lastBit" "I") (by decide +kernel)
  have hfl_125 := hts (.fieldLink RX6 125 "FloppyDeskModel" "sum" "I") (by decide +kernel)
  have hfl_128 := hts (.fieldLink RX6 128 "FloppyDeskModel" "lastMark" "Z") (by decide +kernel)
  have hfl_131 := hts (.fieldLink RX6 131 "FloppyDeskModel" "second" "I") (by decide +kernel)
  have hi_6 : ∀ w ∈ u_ws RX6 TX6 32, w ∈ wsX6_startWriting := by decide +kernel
  refine lv_aload_n hx hb dX6_startWriting_0 rfl (lv_at hl 0 rfl) ?_
  refine lv_iload_n hx hb dX6_startWriting_1 rfl (lv_at hl 1 rfl) ?_
  refine va_put (D := G) (ci := 6) (v := .int a1) (ty := .int) (C := RX6) (T := TX6) (N := 32) hx hb hts hi_6 tyX6 tyX6_ok nmX6 hown hK hP hD hS 0 rfl rfl 19 (by decide) hfl_55 (fun _ h9 => h9) rfl (by decide +kernel) rfl rfl (Nat.le_of_ble_eq_true rfl) dX6_startWriting_2 (fun H locs hP hD hS => ?_)
  have hP : va_P G vwCl ((fk_mW q k) (upd z0.1 19 a1, z0.2)) H := hP
  have hD : va_D A ((fk_mW q k) (upd z0.1 19 a1, z0.2)) := hD
  refine lv_aload_n hx hb dX6_startWriting_5 rfl (lv_at hl 0 rfl) ?_
  have hl := lv_sub hl [0] (l' := [(0, .ref (q 0))]) rfl
  refine fk_Vv (Wd := (fk_mW q k)) (z := (upd z0.1 19 a1, z0.2)) (As := []) (rest := []) F9 (c_X6_reset l G q k _ (upd z0.1 19 a1, z0.2)) (cwV 0 hts gX6_startWriting_X6_reset rfl rfl rfl (by decide +kernel) ⟨Nat.le_of_ble_eq_true rfl, Nat.le_of_ble_eq_true rfl⟩) (va_recv hK hP (ci := 6) (q0 := 0) rfl rfl) hK hP hD hS hA hN rfl hl.1 rfl (Nat.le_of_ble_eq_true rfl) dX6_startWriting_6 ⟨Nat.zero_le _, Nat.zero_le _⟩ (fun z H locs hw hP hD hS => ?_)
  have hf : fX6_startWriting z0 a1 = fX6_startWriting_c1 z := by rw [fX6_startWriting, ← hw] <;> rfl
  refine lv_aload_n hx hb dX6_startWriting_9 rfl (lv_at hl 0 rfl) ?_
  refine lv_iconst (v := 0) hx hb dX6_startWriting_10 (by decide) ?_
  refine va_put (D := G) (ci := 6) (v := .int 0) (ty := .int) (C := RX6) (T := TX6) (N := 32) hx hb hts hi_6 tyX6 tyX6_ok nmX6 hown hK hP hD hS 0 rfl rfl 23 (by decide) hfl_116 (fun _ h9 => h9) rfl (by decide +kernel) rfl rfl (Nat.le_of_ble_eq_true rfl) dX6_startWriting_11 (fun H locs hP hD hS => ?_)
  have hP : va_P G vwCl ((fk_mW q k) (upd z.1 23 0, z.2)) H := hP
  have hD : va_D A ((fk_mW q k) (upd z.1 23 0, z.2)) := hD
  refine lv_aload_n hx hb dX6_startWriting_14 rfl (lv_at hl 0 rfl) ?_
  refine lv_iconst (v := 0) hx hb dX6_startWriting_15 (by decide) ?_
  refine va_put (D := G) (ci := 6) (v := .int 0) (ty := .int) (C := RX6) (T := TX6) (N := 32) hx hb hts hi_6 tyX6 tyX6_ok nmX6 hown hK hP hD hS 0 rfl rfl 24 (by decide) hfl_119 (fun _ h9 => h9) rfl (by decide +kernel) rfl rfl (Nat.le_of_ble_eq_true rfl) dX6_startWriting_16 (fun H locs hP hD hS => ?_)
  have hP : va_P G vwCl ((fk_mW q k) (upd (upd z.1 23 0) 24 0, z.2)) H := hP
  have hD : va_D A ((fk_mW q k) (upd (upd z.1 23 0) 24 0, z.2)) := hD
  refine lv_aload_n hx hb dX6_startWriting_19 rfl (lv_at hl 0 rfl) ?_
  refine lv_iconst (v := 0) hx hb dX6_startWriting_20 (by decide) ?_
  refine va_put (D := G) (ci := 6) (v := .int 0) (ty := .int) (C := RX6) (T := TX6) (N := 32) hx hb hts hi_6 tyX6 tyX6_ok nmX6 hown hK hP hD hS 0 rfl rfl 25 (by decide) hfl_122 (fun _ h9 => h9) rfl (by decide +kernel) rfl rfl (Nat.le_of_ble_eq_true rfl) dX6_startWriting_21 (fun H locs hP hD hS => ?_)
  have hP : va_P G vwCl ((fk_mW q k) (upd (upd (upd z.1 23 0) 24 0) 25 0, z.2)) H := hP
  have hD : va_D A ((fk_mW q k) (upd (upd (upd z.1 23 0) 24 0) 25 0, z.2)) := hD
  refine lv_aload_n hx hb dX6_startWriting_24 rfl (lv_at hl 0 rfl) ?_
  refine lv_ldc (own := RX6) (v := 65535) hx hb hown hcst_27 dX6_startWriting_25 ?_
  refine va_put (D := G) (ci := 6) (v := .int 65535) (ty := .int) (C := RX6) (T := TX6) (N := 32) hx hb hts hi_6 tyX6 tyX6_ok nmX6 hown hK hP hD hS 0 rfl rfl 26 (by decide) hfl_125 (fun _ h9 => h9) rfl (by decide +kernel) rfl rfl (Nat.le_of_ble_eq_true rfl) dX6_startWriting_27 (fun H locs hP hD hS => ?_)
  have hP : va_P G vwCl ((fk_mW q k) (upd (upd (upd (upd z.1 23 0) 24 0) 25 0) 26 65535, z.2)) H := hP
  have hD : va_D A ((fk_mW q k) (upd (upd (upd (upd z.1 23 0) 24 0) 25 0) 26 65535, z.2)) := hD
  refine lv_aload_n hx hb dX6_startWriting_30 rfl (lv_at hl 0 rfl) ?_
  refine lv_iconst (v := 0) hx hb dX6_startWriting_31 (by decide) ?_
  refine va_put (D := G) (ci := 6) (v := .int 0) (ty := .boolean) (C := RX6) (T := TX6) (N := 32) hx hb hts hi_6 tyX6 tyX6_ok nmX6 hown hK hP hD hS 0 rfl rfl 27 (by decide) hfl_128 (fun _ h9 => h9) rfl (by decide +kernel) rfl rfl (Nat.le_of_ble_eq_true rfl) dX6_startWriting_32 (fun H locs hP hD hS => ?_)
  have hP : va_P G vwCl ((fk_mW q k) (upd (upd (upd (upd (upd z.1 23 0) 24 0) 25 0) 26 65535) 27 0, z.2)) H := hP
  have hD : va_D A ((fk_mW q k) (upd (upd (upd (upd (upd z.1 23 0) 24 0) 25 0) 26 65535) 27 0, z.2)) := hD
  refine lv_aload_n hx hb dX6_startWriting_35 rfl (lv_at hl 0 rfl) ?_
  refine lv_iconst (v := (-1)) hx hb dX6_startWriting_36 (by decide) ?_
  refine va_put (D := G) (ci := 6) (v := .int (-1)) (ty := .int) (C := RX6) (T := TX6) (N := 32) hx hb hts hi_6 tyX6 tyX6_ok nmX6 hown hK hP hD hS 0 rfl rfl 28 (by decide) hfl_131 (fun _ h9 => h9) rfl (by decide +kernel) rfl rfl (Nat.le_of_ble_eq_true rfl) dX6_startWriting_37 (fun H locs hP hD hS => ?_)
  have hP : va_P G vwCl ((fk_mW q k) (upd (upd (upd (upd (upd (upd z.1 23 0) 24 0) 25 0) 26 65535) 27 0) 28 (-1), z.2)) H := hP
  have hD : va_D A ((fk_mW q k) (upd (upd (upd (upd (upd (upd z.1 23 0) 24 0) 25 0) 26 65535) 27 0) 28 (-1), z.2)) := hD
  exact fk_vret hx hb hr hlk hK hP hD hS (Eq.symm (by rw [hf, fX6_startWriting_c1] <;> rfl)) dX6_startWriting_40
-- FloppyDeskModel.coded(I)I
set_option maxHeartbeats 4000000 in
set_option maxRecDepth 100000 in
theorem c_X6_coded (l : Launch) (G : va_G) (q : Nat → Nat) (k : Nat → ClassId) (sz : Nat) (z0 : fk_M) (a1 : Int32) : fk_Mp l yX6_coded wsX6_coded ({ frames := 0, cells := 0, slots := 0, locals := 0 } : Room) G (fk_mW q k) (fk_mT k) [.ref (q 0), .int a1] sz z0 (fX6_coded z0 a1) := by
  refine fk_head (cc := cX6_coded) (maxL := 6) (ret := (some .int)) (QQ := fun A => va_Qi (fun r (_ : Unit) => r = fX6_coded z0 a1) (fun _ => fk_At G (fk_mW q k) (fk_mT k) A z0) A) (by decide) rfl (Nat.le_of_ble_eq_true rfl) ?_ sz
  intro p e s m below meth c A ls hx hb hr hlk hml hown hts hK hN hA hP hD hS hl
  have hown : s.vm.findClass RX6 = some m.cls := hown
  have F9 : CallFix p m c cX6_coded 6 s ([.ref (q 0), .int a1] : List Value).toArray wsX6_coded RX6 := ⟨hx, hb, hml, hown, hts⟩
  have hl : lv_has ls 6 [(0, .ref (q 0)), (1, .int a1)] := hl
  have hfl_122 := hts (.fieldLink RX6 122 "FloppyDeskModel" "lastBit" "I") (by decide +kernel)
  have hi_6 : ∀ w ∈ u_ws RX6 TX6 32, w ∈ wsX6_coded := by decide +kernel
  have h11 : ∀ (n : Nat) (j : Nat) (x1 : Int32) (x2 : Int32) (x3 : Int32) (x4 : Int32) (H : Heap) (locs : List Loc) (ls : Array Slot), fX6_coded z0 a1 = fX6_coded_11 n z0 x1 x2 x3 x4 → (x4 = nI j - 1) → (j < n) → va_P G vwCl ((fk_mW q k) z0) H → va_D A ((fk_mW q k) z0) → va_S A s.heap H locs → lv_has ls 6 [(1, .int x1), (2, .int x2), (3, .int x3), (4, .int x4)] → W p l e ({ frames := 0, cells := 0, slots := 0, locals := 0 } : Room) s m ([.ref (q 0), .int a1] : List Value).toArray below meth c H locs 0 0 (MQ below (va_Qi (fun r (_ : Unit) => r = fX6_coded z0 a1) (fun _ => fk_At G (fk_mW q k) (fk_mT k) A z0) A) ([.ref (q 0), .int a1] : List Value).toArray s 0 0 A) (F0 m 11 ls []) := by
    intro n
    induction n with
    | zero =>
      intro j x1 x2 x3 x4 H locs ls hf hj hfu hP hD hS hl
      exact absurd hfu (by omega)
    | succ n ih =>
      intro j x1 x2 x3 x4 H locs ls hf hj hfu hP hD hS hl
      have h39 : ∀ (x5 : Int32) (s0 : Int32) (s1 : Int32) (H : Heap) (locs : List Loc) (ls : Array Slot), fX6_coded z0 a1 = fX6_coded_39 (fX6_coded_11 n) z0 x1 x4 x5 s0 s1 → (∃ i, j = i + 1 ∧ x4 = nI i) → va_P G vwCl ((fk_mW q k) z0) H → va_D A ((fk_mW q k) z0) → va_S A s.heap H locs → lv_has ls 6 [(1, .int x1), (4, .int x4), (5, .int x5)] → W p l e ({ frames := 0, cells := 0, slots := 0, locals := 0 } : Room) s m ([.ref (q 0), .int a1] : List Value).toArray below meth c H locs 0 0 (MQ below (va_Qi (fun r (_ : Unit) => r = fX6_coded z0 a1) (fun _ => fk_At G (fk_mW q k) (fk_mT k) A z0) A) ([.ref (q 0), .int a1] : List Value).toArray s 0 0 A) (F0 m 39 ls [.int s1, .int s0]) := by
        intro x5 s0 s1 H locs ls hf hlt hP hD hS hl
        refine lv_ior hx hb dX6_coded_39 ?_
        refine lv_iload hx hb dX6_coded_40 (lv_at hl 2 rfl) ?_
        refine lv_ior hx hb dX6_coded_42 ?_
        refine lv_istore_n (lv' := [(2, .int ((s0 ||| s1) ||| x5)), (1, .int x1), (4, .int x4), (5, .int x5)]) hx hb dX6_coded_43 rfl hl (by decide) rfl (fun ls hl => ?_)
        refine lv_iload hx hb dX6_coded_44 (lv_at hl 3 rfl) ?_
        refine lv_istore_n (lv' := [(3, .int x5), (2, .int ((s0 ||| s1) ||| x5)), (1, .int x1), (4, .int x4), (5, .int x5)]) hx hb dX6_coded_46 rfl hl (by decide) rfl (fun ls hl => ?_)
        refine lv_iinc (v := x4 + (-1)) (lv' := [(4, .int (x4 + (-1))), (3, .int x5), (2, .int ((s0 ||| s1) ||| x5)), (1, .int x1), (5, .int x5)]) hx hb dX6_coded_47 hl (k := 3) rfl (by rfl) (by decide) rfl (fun ls hl => ?_)
        refine lv_goto (tgt := 11) hx hb dX6_coded_50 (by decide) ?_
        obtain ⟨i, hi8, hi9⟩ := hlt
        exact ih i x1 ((s0 ||| s1) ||| x5) x5 (x4 + (-1)) _ _ ls (by rw [hf, fX6_coded_39] <;> rfl) (fk_dn1 hi9) (by omega) hP hD hS (lv_sub hl [3, 2, 1, 0] rfl)
      refine lv_iload hx hb dX6_coded_11 (lv_at hl 3 rfl) ?_
      refine lv_if_lt (tgt := 53) hx hb dX6_coded_13 (by decide) (fun c13 => ?_) (fun c13 => ?_)
      · refine lv_iload_n hx hb dX6_coded_53 rfl (lv_at hl 1 rfl) ?_
        exact fk_pret hx hb hr hlk hK hP hD hS rfl (Eq.symm (by rw [hf, fX6_coded_11, if_pos c13] <;> rfl)) dX6_coded_54
      · have hlt := fk_dn hj c13
        refine lv_iload_n hx hb dX6_coded_16 rfl (lv_at hl 0 rfl) ?_
        refine lv_iload hx hb dX6_coded_17 (lv_at hl 3 rfl) ?_
        refine lv_ishr hx hb dX6_coded_19 ?_
        refine lv_iconst (v := 1) hx hb dX6_coded_20 (by decide) ?_
        refine lv_iand hx hb dX6_coded_21 ?_
        refine lv_istore (lv' := [(5, .int ((x1 >>> (x4 &&& 31)) &&& 1)), (1, .int x1), (2, .int x2), (3, .int x3), (4, .int x4)]) hx hb dX6_coded_22 hl (by decide) rfl (fun ls hl => ?_)
        refine lv_iload_n hx hb dX6_coded_24 rfl (lv_at hl 2 rfl) ?_
        refine lv_iconst (v := 2) hx hb dX6_coded_25 (by decide) ?_
        refine lv_ishl hx hb dX6_coded_26 ?_
        refine lv_iload_n hx hb dX6_coded_27 rfl (lv_at hl 3 rfl) ?_
        refine lv_iload hx hb dX6_coded_28 (lv_at hl 0 rfl) ?_
        refine lv_iadd hx hb dX6_coded_30 ?_
        refine lv_if_ne (tgt := 38) hx hb dX6_coded_31 (by decide) (fun c31 => ?_) (fun c31 => ?_)
        · refine lv_iconst (v := 0) hx hb dX6_coded_38 (by decide) ?_
          exact h39 ((x1 >>> (x4 &&& 31)) &&& 1) (x2 <<< ((2 : Int32) &&& 31)) 0 _ _ ls (by rw [hf, fX6_coded_11, if_neg c13, if_neg c31] <;> rfl) hlt hP hD hS (lv_sub hl [1, 4, 0] rfl)
        · refine lv_iconst (v := 2) hx hb dX6_coded_34 (by decide) ?_
          refine lv_goto (tgt := 39) hx hb dX6_coded_35 (by decide) ?_
          exact h39 ((x1 >>> (x4 &&& 31)) &&& 1) (x2 <<< ((2 : Int32) &&& 31)) 2 _ _ ls (by rw [hf, fX6_coded_11, if_neg c13, if_pos c31] <;> rfl) hlt hP hD hS (lv_sub hl [1, 4, 0] rfl)
  refine lv_iconst (v := 0) hx hb dX6_coded_0 (by decide) ?_
  refine lv_istore_n (lv' := [(2, .int 0), (0, .ref (q 0)), (1, .int a1)]) hx hb dX6_coded_1 rfl hl (by decide) rfl (fun ls hl => ?_)
  refine lv_aload_n hx hb dX6_coded_2 rfl (lv_at hl 1 rfl) ?_
  refine va_get (D := G) (ci := 6) (v := .int (z0.1 25)) (C := RX6) (T := TX6) (N := 32) hx hb hts hi_6 hown hK hP 0 rfl rfl 25 (by decide) hfl_122 (fun _ h9 => h9) rfl dX6_coded_3 ?_
  refine lv_istore_n (lv' := [(3, .int (z0.1 25)), (2, .int 0), (0, .ref (q 0)), (1, .int a1)]) hx hb dX6_coded_6 rfl hl (by decide) rfl (fun ls hl => ?_)
  refine lv_bipush (v := 7) hx hb dX6_coded_7 (by decide) ?_
  refine lv_istore (lv' := [(4, .int 7), (3, .int (z0.1 25)), (2, .int 0), (0, .ref (q 0)), (1, .int a1)]) hx hb dX6_coded_9 hl (by decide) rfl (fun ls hl => ?_)
  exact h11 9 8 a1 0 (z0.1 25) 7 _ _ ls (by rw [fX6_coded] <;> rfl) (by decide) (by omega) hP hD hS (lv_sub hl [4, 2, 1, 0] rfl)
-- FloppyDeskModel.write(I)V
set_option maxHeartbeats 4000000 in
set_option maxRecDepth 100000 in
theorem c_X6_write (l : Launch) (G : va_G) (q : Nat → Nat) (k : Nat → ClassId) (sz : Nat) (z0 : fk_M) (a1 : Int32) : fk_Mv l yX6_write wsX6_write ({ frames := 1, cells := 0, slots := 0, locals := 25 } : Room) G (fk_mW q k) (fk_mT k) [.ref (q 0), .int a1] sz z0 (fX6_write z0 a1) := by
  refine fk_head (cc := cX6_write) (maxL := 2) (ret := none) (QQ := fun A => va_Qv (fun z1 => z1 = fX6_write z0 a1) (fk_At G (fk_mW q k) (fk_mT k) A) A) (by decide) rfl (Nat.le_of_ble_eq_true rfl) ?_ sz
  intro p e s m below meth c A ls hx hb hr hlk hml hown hts hK hN hA hP hD hS hl
  have hown : s.vm.findClass RX6 = some m.cls := hown
  have F9 : CallFix p m c cX6_write 2 s ([.ref (q 0), .int a1] : List Value).toArray wsX6_write RX6 := ⟨hx, hb, hml, hown, hts⟩
  have hl : lv_has ls 2 [(0, .ref (q 0)), (1, .int a1)] := hl
  have hfl_122 := hts (.fieldLink RX6 122 "FloppyDeskModel" "lastBit" "I") (by decide +kernel)
  have hfl_138 := hts (.fieldLink RX6 138 "FloppyDeskModel" "pattern" "I") (by decide +kernel)
  have hi_6 : ∀ w ∈ u_ws RX6 TX6 32, w ∈ wsX6_write := by decide +kernel
  refine lv_aload_n hx hb dX6_write_0 rfl (lv_at hl 0 rfl) ?_
  refine lv_aload_n hx hb dX6_write_1 rfl (lv_at hl 0 rfl) ?_
  refine lv_iload_n hx hb dX6_write_2 rfl (lv_at hl 1 rfl) ?_
  refine fk_Vp (Wd := (fk_mW q k)) (z := z0) (As := [.int a1]) (rest := [.ref (q 0)]) F9 (c_X6_coded l G q k _ z0 a1) (cwV 1 hts gX6_write_X6_coded rfl rfl rfl (by decide +kernel) ⟨Nat.le_of_ble_eq_true rfl, Nat.le_of_ble_eq_true rfl⟩) (va_recv hK hP (ci := 6) (q0 := 0) rfl rfl) hK hP hD hS hA hN rfl hl.1 rfl (Nat.le_of_ble_eq_true rfl) dX6_write_3 ⟨Nat.zero_le _, Nat.zero_le _⟩ (fun H locs hP hD hS => ?_)
  refine va_put (D := G) (ci := 6) (v := .int (fX6_coded z0 a1)) (ty := .int) (C := RX6) (T := TX6) (N := 32) hx hb hts hi_6 tyX6 tyX6_ok nmX6 hown hK hP hD hS 0 rfl rfl 22 (by decide) hfl_138 (fun _ h9 => h9) rfl (by decide +kernel) rfl rfl (Nat.le_of_ble_eq_true rfl) dX6_write_6 (fun H locs hP hD hS => ?_)
  have hP : va_P G vwCl ((fk_mW q k) (upd z0.1 22 (fX6_coded z0 a1), z0.2)) H := hP
  have hD : va_D A ((fk_mW q k) (upd z0.1 22 (fX6_coded z0 a1), z0.2)) := hD
  refine lv_aload_n hx hb dX6_write_9 rfl (lv_at hl 0 rfl) ?_
  refine lv_iload_n hx hb dX6_write_10 rfl (lv_at hl 1 rfl) ?_
  refine lv_iconst (v := 1) hx hb dX6_write_11 (by decide) ?_
  refine lv_iand hx hb dX6_write_12 ?_
  refine va_put (D := G) (ci := 6) (v := .int (a1 &&& 1)) (ty := .int) (C := RX6) (T := TX6) (N := 32) hx hb hts hi_6 tyX6 tyX6_ok nmX6 hown hK hP hD hS 0 rfl rfl 25 (by decide) hfl_122 (fun _ h9 => h9) rfl (by decide +kernel) rfl rfl (Nat.le_of_ble_eq_true rfl) dX6_write_13 (fun H locs hP hD hS => ?_)
  have hP : va_P G vwCl ((fk_mW q k) (upd (upd z0.1 22 (fX6_coded z0 a1)) 25 (a1 &&& 1), z0.2)) H := hP
  have hD : va_D A ((fk_mW q k) (upd (upd z0.1 22 (fX6_coded z0 a1)) 25 (a1 &&& 1), z0.2)) := hD
  exact fk_vret hx hb hr hlk hK hP hD hS (Eq.symm (by rw [fX6_write] <;> rfl)) dX6_write_16
-- FloppyDeskModel.writeMark()V
set_option maxHeartbeats 4000000 in
set_option maxRecDepth 100000 in
theorem c_X6_writeMark (l : Launch) (G : va_G) (q : Nat → Nat) (k : Nat → ClassId) (sz : Nat) (z0 : fk_M) : fk_Mv l yX6_writeMark wsX6_writeMark ({ frames := 0, cells := 0, slots := 0, locals := 0 } : Room) G (fk_mW q k) (fk_mT k) [.ref (q 0)] sz z0 (fX6_writeMark z0) := by
  refine fk_head (cc := cX6_writeMark) (maxL := 1) (ret := none) (QQ := fun A => va_Qv (fun z1 => z1 = fX6_writeMark z0) (fk_At G (fk_mW q k) (fk_mT k) A) A) (by decide) rfl (Nat.le_of_ble_eq_true rfl) ?_ sz
  intro p e s m below meth c A ls hx hb hr hlk hml hown hts hK hN hA hP hD hS hl
  have hown : s.vm.findClass RX6 = some m.cls := hown
  have F9 : CallFix p m c cX6_writeMark 1 s ([.ref (q 0)] : List Value).toArray wsX6_writeMark RX6 := ⟨hx, hb, hml, hown, hts⟩
  have hl : lv_has ls 1 [(0, .ref (q 0))] := hl
  have hfl_122 := hts (.fieldLink RX6 122 "FloppyDeskModel" "lastBit" "I") (by decide +kernel)
  have hfl_138 := hts (.fieldLink RX6 138 "FloppyDeskModel" "pattern" "I") (by decide +kernel)
  have hi_6 : ∀ w ∈ u_ws RX6 TX6 32, w ∈ wsX6_writeMark := by decide +kernel
  refine lv_aload_n hx hb dX6_writeMark_0 rfl (lv_at hl 0 rfl) ?_
  refine lv_sipush (v := 17545) hx hb dX6_writeMark_1 (by decide) ?_
  refine va_put (D := G) (ci := 6) (v := .int 17545) (ty := .int) (C := RX6) (T := TX6) (N := 32) hx hb hts hi_6 tyX6 tyX6_ok nmX6 hown hK hP hD hS 0 rfl rfl 22 (by decide) hfl_138 (fun _ h9 => h9) rfl (by decide +kernel) rfl rfl (Nat.le_of_ble_eq_true rfl) dX6_writeMark_4 (fun H locs hP hD hS => ?_)
  have hP : va_P G vwCl ((fk_mW q k) (upd z0.1 22 17545, z0.2)) H := hP
  have hD : va_D A ((fk_mW q k) (upd z0.1 22 17545, z0.2)) := hD
  refine lv_aload_n hx hb dX6_writeMark_7 rfl (lv_at hl 0 rfl) ?_
  refine lv_iconst (v := 1) hx hb dX6_writeMark_8 (by decide) ?_
  refine va_put (D := G) (ci := 6) (v := .int 1) (ty := .int) (C := RX6) (T := TX6) (N := 32) hx hb hts hi_6 tyX6 tyX6_ok nmX6 hown hK hP hD hS 0 rfl rfl 25 (by decide) hfl_122 (fun _ h9 => h9) rfl (by decide +kernel) rfl rfl (Nat.le_of_ble_eq_true rfl) dX6_writeMark_9 (fun H locs hP hD hS => ?_)
  have hP : va_P G vwCl ((fk_mW q k) (upd (upd z0.1 22 17545) 25 1, z0.2)) H := hP
  have hD : va_D A ((fk_mW q k) (upd (upd z0.1 22 17545) 25 1, z0.2)) := hD
  exact fk_vret hx hb hr hlk hK hP hD hS (Eq.symm (by rw [fX6_writeMark] <;> rfl)) dX6_writeMark_12
-- FloppyDeskModel.sectorByte()V
set_option maxHeartbeats 4000000 in
set_option maxRecDepth 100000 in
theorem c_X6_sectorByte (l : Launch) (G : va_G) (q : Nat → Nat) (k : Nat → ClassId) (sz : Nat) (z0 : fk_M) : fk_Mv l yX6_sectorByte wsX6_sectorByte ({ frames := 2, cells := 0, slots := 0, locals := 46 } : Room) G (fk_mW q k) (fk_mT k) [.ref (q 0)] sz z0 (fX6_sectorByte z0) := by
  refine fk_head (cc := cX6_sectorByte) (maxL := 4) (ret := none) (QQ := fun A => va_Qv (fun z1 => z1 = fX6_sectorByte z0) (fk_At G (fk_mW q k) (fk_mT k) A) A) (by decide) rfl (Nat.le_of_ble_eq_true rfl) ?_ sz
  intro p e s m below meth c A ls hx hb hr hlk hml hown hts hK hN hA hP hD hS hl
  have hown : s.vm.findClass RX6 = some m.cls := hown
  have F9 : CallFix p m c cX6_sectorByte 4 s ([.ref (q 0)] : List Value).toArray wsX6_sectorByte RX6 := ⟨hx, hb, hml, hown, hts⟩
  have hl : lv_has ls 4 [(0, .ref (q 0))] := hl
  have hfl_17 := hts (.fieldLink RX6 17 "FloppyDeskModel" "dataSize" "I") (by decide +kernel)
  have hfl_119 := hts (.fieldLink RX6 119 "FloppyDeskModel" "which" "I") (by decide +kernel)
  have hfl_125 := hts (.fieldLink RX6 125 "FloppyDeskModel" "sum" "I") (by decide +kernel)
  have hfl_147 := hts (.fieldLink RX6 147 "FloppyDeskModel" "removes" "Z") (by decide +kernel)
  have hi_6 : ∀ w ∈ u_ws RX6 TX6 32, w ∈ wsX6_sectorByte := by decide +kernel
  have h127 : ∀ (z : fk_M) (x3 : Int32) (H : Heap) (locs : List Loc) (ls : Array Slot), fX6_sectorByte z0 = fX6_sectorByte_127 z x3 → va_P G vwCl ((fk_mW q k) z) H → va_D A ((fk_mW q k) z) → va_S A s.heap H locs → lv_has ls 4 [(0, .ref (q 0)), (3, .int x3)] → W p l e ({ frames := 2, cells := 0, slots := 0, locals := 46 } : Room) s m ([.ref (q 0)] : List Value).toArray below meth c H locs 0 0 (MQ below (va_Qv (fun z1 => z1 = fX6_sectorByte z0) (fk_At G (fk_mW q k) (fk_mT k) A) A) ([.ref (q 0)] : List Value).toArray s 0 0 A) (F0 m 127 ls []) := by
    intro z x3 H locs ls hf  hP hD hS hl
    refine lv_aload_n hx hb dX6_sectorByte_127 rfl (lv_at hl 0 rfl) ?_
    refine lv_iload_n hx hb dX6_sectorByte_128 rfl (lv_at hl 1 rfl) ?_
    refine fk_Vv (Wd := (fk_mW q k)) (z := z) (As := [.int x3]) (rest := []) F9 (c_X6_write l G q k _ z x3) (cwV 1 hts gX6_sectorByte_X6_write rfl rfl rfl (by decide +kernel) ⟨Nat.le_of_ble_eq_true rfl, Nat.le_of_ble_eq_true rfl⟩) (va_recv hK hP (ci := 6) (q0 := 0) rfl rfl) hK hP hD hS hA hN rfl hl.1 rfl (Nat.le_of_ble_eq_true rfl) dX6_sectorByte_129 ⟨Nat.zero_le _, Nat.zero_le _⟩ (fun z H locs hw hP hD hS => ?_)
    have hf : fX6_sectorByte z0 = fX6_sectorByte_c1 z x3 := by rw [hf, fX6_sectorByte_127, ← hw] <;> rfl
    refine lv_aload_n hx hb dX6_sectorByte_132 rfl (lv_at hl 0 rfl) ?_
    refine lv_aload_n hx hb dX6_sectorByte_133 rfl (lv_at hl 0 rfl) ?_
    refine va_get (D := G) (ci := 6) (v := .int (z.1 26)) (C := RX6) (T := TX6) (N := 32) hx hb hts hi_6 hown hK hP 0 rfl rfl 26 (by decide) hfl_125 (fun _ h9 => h9) rfl dX6_sectorByte_134 ?_
    refine lv_iload_n hx hb dX6_sectorByte_137 rfl (lv_at hl 1 rfl) ?_
    refine fk_Sp (Wd := (fk_mW q k)) (z := z) (As := [.int (z.1 26), .int x3]) (rest := [.ref (q 0)]) F9 (c_X6_step l G q k _ z (z.1 26) x3) (va_cwS 2 hts gX6_sectorByte_X6_step rfl rfl rfl (by decide +kernel) ⟨Nat.le_of_ble_eq_true rfl, Nat.le_of_ble_eq_true rfl⟩) hK hP hD hS hA hN rfl hl.1 rfl (Nat.le_of_ble_eq_true rfl) dX6_sectorByte_138 ⟨Nat.zero_le _, Nat.zero_le _⟩ (fun H locs hP hD hS => ?_)
    refine lv_topi (fun y138 ey138 => ?_)
    refine va_put (D := G) (ci := 6) (v := .int y138) (ty := .int) (C := RX6) (T := TX6) (N := 32) hx hb hts hi_6 tyX6 tyX6_ok nmX6 hown hK hP hD hS 0 rfl rfl 26 (by decide) hfl_125 (fun _ h9 => h9) rfl (by decide +kernel) rfl rfl (Nat.le_of_ble_eq_true rfl) dX6_sectorByte_141 (fun H locs hP hD hS => ?_)
    have hP : va_P G vwCl ((fk_mW q k) (upd z.1 26 y138, z.2)) H := hP
    have hD : va_D A ((fk_mW q k) (upd z.1 26 y138, z.2)) := hD
    refine lv_goto (tgt := 186) hx hb dX6_sectorByte_144 (by decide) ?_
    refine lv_aload_n hx hb dX6_sectorByte_186 rfl (lv_at hl 0 rfl) ?_
    refine lv_dup hx hb dX6_sectorByte_187 rfl ?_
    refine va_get (D := G) (ci := 6) (v := .int (z.1 24)) (C := RX6) (T := TX6) (N := 32) hx hb hts hi_6 hown hK hP 0 rfl rfl 24 (by decide) hfl_119 (fun _ h9 => h9) rfl dX6_sectorByte_188 ?_
    refine lv_iconst (v := 1) hx hb dX6_sectorByte_191 (by decide) ?_
    refine lv_iadd hx hb dX6_sectorByte_192 ?_
    refine va_put (D := G) (ci := 6) (v := .int ((z.1 24) + 1)) (ty := .int) (C := RX6) (T := TX6) (N := 32) hx hb hts hi_6 tyX6 tyX6_ok nmX6 hown hK hP hD hS 0 rfl rfl 24 (by decide) hfl_119 (fun _ h9 => h9) rfl (by decide +kernel) rfl rfl (Nat.le_of_ble_eq_true rfl) dX6_sectorByte_193 (fun H locs hP hD hS => ?_)
    have hP : va_P G vwCl ((fk_mW q k) (upd (upd z.1 26 y138) 24 ((z.1 24) + 1), z.2)) H := hP
    have hD : va_D A ((fk_mW q k) (upd (upd z.1 26 y138) 24 ((z.1 24) + 1), z.2)) := hD
    exact fk_vret hx hb hr hlk hK hP hD hS (Eq.symm (by rw [ey138, hf, fX6_sectorByte_c1] <;> rfl)) dX6_sectorByte_196
  have h84 : ∀ (z : fk_M) (s0 : Int32) (H : Heap) (locs : List Loc) (ls : Array Slot), fX6_sectorByte z0 = fX6_sectorByte_84 z s0 → va_P G vwCl ((fk_mW q k) z) H → va_D A ((fk_mW q k) z) → va_S A s.heap H locs → lv_has ls 4 [(0, .ref (q 0))] → W p l e ({ frames := 2, cells := 0, slots := 0, locals := 46 } : Room) s m ([.ref (q 0)] : List Value).toArray below meth c H locs 0 0 (MQ below (va_Qv (fun z1 => z1 = fX6_sectorByte z0) (fk_At G (fk_mW q k) (fk_mT k) A) A) ([.ref (q 0)] : List Value).toArray s 0 0 A) (F0 m 84 ls [.int s0]) := by
    intro z s0 H locs ls hf  hP hD hS hl
    refine lv_istore_n (lv' := [(3, .int s0), (0, .ref (q 0))]) hx hb dX6_sectorByte_84 rfl hl (by decide) rfl (fun ls hl => ?_)
    refine lv_aload_n hx hb dX6_sectorByte_85 rfl (lv_at hl 1 rfl) ?_
    refine lv_iload_n hx hb dX6_sectorByte_86 rfl (lv_at hl 0 rfl) ?_
    refine fk_Vv (Wd := (fk_mW q k)) (z := z) (As := [.int s0]) (rest := []) F9 (c_X6_write l G q k _ z s0) (cwV 1 hts gX6_sectorByte_X6_write rfl rfl rfl (by decide +kernel) ⟨Nat.le_of_ble_eq_true rfl, Nat.le_of_ble_eq_true rfl⟩) (va_recv hK hP (ci := 6) (q0 := 0) rfl rfl) hK hP hD hS hA hN rfl hl.1 rfl (Nat.le_of_ble_eq_true rfl) dX6_sectorByte_87 ⟨Nat.zero_le _, Nat.zero_le _⟩ (fun z H locs hw hP hD hS => ?_)
    have hf : fX6_sectorByte z0 = fX6_sectorByte_c2 z s0 := by rw [hf, fX6_sectorByte_84, ← hw] <;> rfl
    refine lv_aload_n hx hb dX6_sectorByte_90 rfl (lv_at hl 1 rfl) ?_
    refine lv_aload_n hx hb dX6_sectorByte_91 rfl (lv_at hl 1 rfl) ?_
    refine va_get (D := G) (ci := 6) (v := .int (z.1 26)) (C := RX6) (T := TX6) (N := 32) hx hb hts hi_6 hown hK hP 0 rfl rfl 26 (by decide) hfl_125 (fun _ h9 => h9) rfl dX6_sectorByte_92 ?_
    refine lv_iload_n hx hb dX6_sectorByte_95 rfl (lv_at hl 0 rfl) ?_
    refine fk_Sp (Wd := (fk_mW q k)) (z := z) (As := [.int (z.1 26), .int s0]) (rest := [.ref (q 0)]) F9 (c_X6_step l G q k _ z (z.1 26) s0) (va_cwS 2 hts gX6_sectorByte_X6_step rfl rfl rfl (by decide +kernel) ⟨Nat.le_of_ble_eq_true rfl, Nat.le_of_ble_eq_true rfl⟩) hK hP hD hS hA hN rfl hl.1 rfl (Nat.le_of_ble_eq_true rfl) dX6_sectorByte_96 ⟨Nat.zero_le _, Nat.zero_le _⟩ (fun H locs hP hD hS => ?_)
    refine lv_topi (fun y96 ey96 => ?_)
    refine va_put (D := G) (ci := 6) (v := .int y96) (ty := .int) (C := RX6) (T := TX6) (N := 32) hx hb hts hi_6 tyX6 tyX6_ok nmX6 hown hK hP hD hS 0 rfl rfl 26 (by decide) hfl_125 (fun _ h9 => h9) rfl (by decide +kernel) rfl rfl (Nat.le_of_ble_eq_true rfl) dX6_sectorByte_99 (fun H locs hP hD hS => ?_)
    have hP : va_P G vwCl ((fk_mW q k) (upd z.1 26 y96, z.2)) H := hP
    have hD : va_D A ((fk_mW q k) (upd z.1 26 y96, z.2)) := hD
    refine lv_goto (tgt := 186) hx hb dX6_sectorByte_102 (by decide) ?_
    refine lv_aload_n hx hb dX6_sectorByte_186 rfl (lv_at hl 1 rfl) ?_
    refine lv_dup hx hb dX6_sectorByte_187 rfl ?_
    refine va_get (D := G) (ci := 6) (v := .int (z.1 24)) (C := RX6) (T := TX6) (N := 32) hx hb hts hi_6 hown hK hP 0 rfl rfl 24 (by decide) hfl_119 (fun _ h9 => h9) rfl dX6_sectorByte_188 ?_
    refine lv_iconst (v := 1) hx hb dX6_sectorByte_191 (by decide) ?_
    refine lv_iadd hx hb dX6_sectorByte_192 ?_
    refine va_put (D := G) (ci := 6) (v := .int ((z.1 24) + 1)) (ty := .int) (C := RX6) (T := TX6) (N := 32) hx hb hts hi_6 tyX6 tyX6_ok nmX6 hown hK hP hD hS 0 rfl rfl 24 (by decide) hfl_119 (fun _ h9 => h9) rfl (by decide +kernel) rfl rfl (Nat.le_of_ble_eq_true rfl) dX6_sectorByte_193 (fun H locs hP hD hS => ?_)
    have hP : va_P G vwCl ((fk_mW q k) (upd (upd z.1 26 y96) 24 ((z.1 24) + 1), z.2)) H := hP
    have hD : va_D A ((fk_mW q k) (upd (upd z.1 26 y96) 24 ((z.1 24) + 1), z.2)) := hD
    exact fk_vret hx hb hr hlk hK hP hD hS (Eq.symm (by rw [ey96, hf, fX6_sectorByte_c2] <;> rfl)) dX6_sectorByte_196
  refine lv_aload_n hx hb dX6_sectorByte_0 rfl (lv_at hl 0 rfl) ?_
  refine va_get (D := G) (ci := 6) (v := .int (z0.1 12)) (C := RX6) (T := TX6) (N := 32) hx hb hts hi_6 hown hK hP 0 rfl rfl 12 (by decide) hfl_17 (fun _ h9 => h9) rfl dX6_sectorByte_1 ?_
  refine lv_istore_n (lv' := [(1, .int (z0.1 12)), (0, .ref (q 0))]) hx hb dX6_sectorByte_4 rfl hl (by decide) rfl (fun ls hl => ?_)
  refine lv_aload_n hx hb dX6_sectorByte_5 rfl (lv_at hl 1 rfl) ?_
  refine va_get (D := G) (ci := 6) (v := .int (z0.1 24)) (C := RX6) (T := TX6) (N := 32) hx hb hts hi_6 hown hK hP 0 rfl rfl 24 (by decide) hfl_119 (fun _ h9 => h9) rfl dX6_sectorByte_6 ?_
  refine lv_bipush (v := 8) hx hb dX6_sectorByte_9 (by decide) ?_
  refine lv_isub hx hb dX6_sectorByte_11 ?_
  refine lv_istore_n (lv' := [(2, .int ((z0.1 24) - 8)), (1, .int (z0.1 12)), (0, .ref (q 0))]) hx hb dX6_sectorByte_12 rfl hl (by decide) rfl (fun ls hl => ?_)
  refine lv_aload_n hx hb dX6_sectorByte_13 rfl (lv_at hl 2 rfl) ?_
  refine va_get (D := G) (ci := 6) (v := .int (z0.1 24)) (C := RX6) (T := TX6) (N := 32) hx hb hts hi_6 hown hK hP 0 rfl rfl 24 (by decide) hfl_119 (fun _ h9 => h9) rfl dX6_sectorByte_14 ?_
  refine lv_iconst (v := 4) hx hb dX6_sectorByte_17 (by decide) ?_
  refine lv_icmp_ge (tgt := 29) hx hb dX6_sectorByte_18 (by decide) (fun c18 => ?_) (fun c18 => ?_)
  · refine lv_aload_n hx hb dX6_sectorByte_29 rfl (lv_at hl 2 rfl) ?_
    refine va_get (D := G) (ci := 6) (v := .int (z0.1 24)) (C := RX6) (T := TX6) (N := 32) hx hb hts hi_6 hown hK hP 0 rfl rfl 24 (by decide) hfl_119 (fun _ h9 => h9) rfl dX6_sectorByte_30 ?_
    refine lv_bipush (v := 7) hx hb dX6_sectorByte_33 (by decide) ?_
    refine lv_icmp_ge (tgt := 59) hx hb dX6_sectorByte_35 (by decide) (fun c35 => ?_) (fun c35 => ?_)
    · refine lv_aload_n hx hb dX6_sectorByte_59 rfl (lv_at hl 2 rfl) ?_
      refine va_get (D := G) (ci := 6) (v := .int (z0.1 24)) (C := RX6) (T := TX6) (N := 32) hx hb hts hi_6 hown hK hP 0 rfl rfl 24 (by decide) hfl_119 (fun _ h9 => h9) rfl dX6_sectorByte_60 ?_
      refine lv_bipush (v := 7) hx hb dX6_sectorByte_63 (by decide) ?_
      refine lv_icmp_ne (tgt := 105) hx hb dX6_sectorByte_65 (by decide) (fun c65 => ?_) (fun c65 => ?_)
      · refine lv_iload_n hx hb dX6_sectorByte_105 rfl (lv_at hl 0 rfl) ?_
        refine lv_iload_n hx hb dX6_sectorByte_106 rfl (lv_at hl 1 rfl) ?_
        refine lv_icmp_ge (tgt := 147) hx hb dX6_sectorByte_107 (by decide) (fun c107 => ?_) (fun c107 => ?_)
        · refine lv_aload_n hx hb dX6_sectorByte_147 rfl (lv_at hl 2 rfl) ?_
          refine lv_iload_n hx hb dX6_sectorByte_148 rfl (lv_at hl 0 rfl) ?_
          refine lv_iload_n hx hb dX6_sectorByte_149 rfl (lv_at hl 1 rfl) ?_
          refine lv_icmp_ne (tgt := 163) hx hb dX6_sectorByte_150 (by decide) (fun c150 => ?_) (fun c150 => ?_)
          · refine lv_iload_n hx hb dX6_sectorByte_163 rfl (lv_at hl 0 rfl) ?_
            refine lv_iload_n hx hb dX6_sectorByte_164 rfl (lv_at hl 1 rfl) ?_
            refine lv_iconst (v := 1) hx hb dX6_sectorByte_165 (by decide) ?_
            refine lv_iadd hx hb dX6_sectorByte_166 ?_
            refine lv_icmp_ne (tgt := 181) hx hb dX6_sectorByte_167 (by decide) (fun c167 => ?_) (fun c167 => ?_)
            · refine lv_bipush (v := 78) hx hb dX6_sectorByte_181 (by decide) ?_
              have hl := lv_sub hl [2] (l' := [(0, .ref (q 0))]) rfl
              refine fk_Vv (Wd := (fk_mW q k)) (z := z0) (As := [.int 78]) (rest := []) F9 (c_X6_write l G q k _ z0 78) (cwV 1 hts gX6_sectorByte_X6_write rfl rfl rfl (by decide +kernel) ⟨Nat.le_of_ble_eq_true rfl, Nat.le_of_ble_eq_true rfl⟩) (va_recv hK hP (ci := 6) (q0 := 0) rfl rfl) hK hP hD hS hA hN rfl hl.1 rfl (Nat.le_of_ble_eq_true rfl) dX6_sectorByte_183 ⟨Nat.zero_le _, Nat.zero_le _⟩ (fun z H locs hw hP hD hS => ?_)
              have hf : fX6_sectorByte z0 = fX6_sectorByte_c3 z := by rw [fX6_sectorByte, if_pos c18, if_pos c35, if_neg c65, if_pos c107, if_neg c150, if_neg c167, ← hw] <;> rfl
              refine lv_aload_n hx hb dX6_sectorByte_186 rfl (lv_at hl 0 rfl) ?_
              refine lv_dup hx hb dX6_sectorByte_187 rfl ?_
              refine va_get (D := G) (ci := 6) (v := .int (z.1 24)) (C := RX6) (T := TX6) (N := 32) hx hb hts hi_6 hown hK hP 0 rfl rfl 24 (by decide) hfl_119 (fun _ h9 => h9) rfl dX6_sectorByte_188 ?_
              refine lv_iconst (v := 1) hx hb dX6_sectorByte_191 (by decide) ?_
              refine lv_iadd hx hb dX6_sectorByte_192 ?_
              refine va_put (D := G) (ci := 6) (v := .int ((z.1 24) + 1)) (ty := .int) (C := RX6) (T := TX6) (N := 32) hx hb hts hi_6 tyX6 tyX6_ok nmX6 hown hK hP hD hS 0 rfl rfl 24 (by decide) hfl_119 (fun _ h9 => h9) rfl (by decide +kernel) rfl rfl (Nat.le_of_ble_eq_true rfl) dX6_sectorByte_193 (fun H locs hP hD hS => ?_)
              have hP : va_P G vwCl ((fk_mW q k) (upd z.1 24 ((z.1 24) + 1), z.2)) H := hP
              have hD : va_D A ((fk_mW q k) (upd z.1 24 ((z.1 24) + 1), z.2)) := hD
              exact fk_vret hx hb hr hlk hK hP hD hS (Eq.symm (by rw [hf, fX6_sectorByte_c3] <;> rfl)) dX6_sectorByte_196
            · refine lv_aload_n hx hb dX6_sectorByte_170 rfl (lv_at hl 2 rfl) ?_
              refine va_get (D := G) (ci := 6) (v := .int (z0.1 26)) (C := RX6) (T := TX6) (N := 32) hx hb hts hi_6 hown hK hP 0 rfl rfl 26 (by decide) hfl_125 (fun _ h9 => h9) rfl dX6_sectorByte_171 ?_
              refine lv_sipush (v := 255) hx hb dX6_sectorByte_174 (by decide) ?_
              refine lv_iand hx hb dX6_sectorByte_177 ?_
              refine lv_goto (tgt := 183) hx hb dX6_sectorByte_178 (by decide) ?_
              have hl := lv_sub hl [2] (l' := [(0, .ref (q 0))]) rfl
              refine fk_Vv (Wd := (fk_mW q k)) (z := z0) (As := [.int ((z0.1 26) &&& 255)]) (rest := []) F9 (c_X6_write l G q k _ z0 ((z0.1 26) &&& 255)) (cwV 1 hts gX6_sectorByte_X6_write rfl rfl rfl (by decide +kernel) ⟨Nat.le_of_ble_eq_true rfl, Nat.le_of_ble_eq_true rfl⟩) (va_recv hK hP (ci := 6) (q0 := 0) rfl rfl) hK hP hD hS hA hN rfl hl.1 rfl (Nat.le_of_ble_eq_true rfl) dX6_sectorByte_183 ⟨Nat.zero_le _, Nat.zero_le _⟩ (fun z H locs hw hP hD hS => ?_)
              have hf : fX6_sectorByte z0 = fX6_sectorByte_c4 z := by rw [fX6_sectorByte, if_pos c18, if_pos c35, if_neg c65, if_pos c107, if_neg c150, if_pos c167, ← hw] <;> rfl
              refine lv_aload_n hx hb dX6_sectorByte_186 rfl (lv_at hl 0 rfl) ?_
              refine lv_dup hx hb dX6_sectorByte_187 rfl ?_
              refine va_get (D := G) (ci := 6) (v := .int (z.1 24)) (C := RX6) (T := TX6) (N := 32) hx hb hts hi_6 hown hK hP 0 rfl rfl 24 (by decide) hfl_119 (fun _ h9 => h9) rfl dX6_sectorByte_188 ?_
              refine lv_iconst (v := 1) hx hb dX6_sectorByte_191 (by decide) ?_
              refine lv_iadd hx hb dX6_sectorByte_192 ?_
              refine va_put (D := G) (ci := 6) (v := .int ((z.1 24) + 1)) (ty := .int) (C := RX6) (T := TX6) (N := 32) hx hb hts hi_6 tyX6 tyX6_ok nmX6 hown hK hP hD hS 0 rfl rfl 24 (by decide) hfl_119 (fun _ h9 => h9) rfl (by decide +kernel) rfl rfl (Nat.le_of_ble_eq_true rfl) dX6_sectorByte_193 (fun H locs hP hD hS => ?_)
              have hP : va_P G vwCl ((fk_mW q k) (upd z.1 24 ((z.1 24) + 1), z.2)) H := hP
              have hD : va_D A ((fk_mW q k) (upd z.1 24 ((z.1 24) + 1), z.2)) := hD
              exact fk_vret hx hb hr hlk hK hP hD hS (Eq.symm (by rw [hf, fX6_sectorByte_c4] <;> rfl)) dX6_sectorByte_196
          · refine lv_aload_n hx hb dX6_sectorByte_153 rfl (lv_at hl 2 rfl) ?_
            refine va_get (D := G) (ci := 6) (v := .int (z0.1 26)) (C := RX6) (T := TX6) (N := 32) hx hb hts hi_6 hown hK hP 0 rfl rfl 26 (by decide) hfl_125 (fun _ h9 => h9) rfl dX6_sectorByte_154 ?_
            refine lv_bipush (v := 8) hx hb dX6_sectorByte_157 (by decide) ?_
            refine lv_ishr hx hb dX6_sectorByte_159 ?_
            refine lv_goto (tgt := 183) hx hb dX6_sectorByte_160 (by decide) ?_
            have hl := lv_sub hl [2] (l' := [(0, .ref (q 0))]) rfl
            refine fk_Vv (Wd := (fk_mW q k)) (z := z0) (As := [.int ((z0.1 26) >>> ((8 : Int32) &&& 31))]) (rest := []) F9 (c_X6_write l G q k _ z0 ((z0.1 26) >>> ((8 : Int32) &&& 31))) (cwV 1 hts gX6_sectorByte_X6_write rfl rfl rfl (by decide +kernel) ⟨Nat.le_of_ble_eq_true rfl, Nat.le_of_ble_eq_true rfl⟩) (va_recv hK hP (ci := 6) (q0 := 0) rfl rfl) hK hP hD hS hA hN rfl hl.1 rfl (Nat.le_of_ble_eq_true rfl) dX6_sectorByte_183 ⟨Nat.zero_le _, Nat.zero_le _⟩ (fun z H locs hw hP hD hS => ?_)
            have hf : fX6_sectorByte z0 = fX6_sectorByte_c5 z := by rw [fX6_sectorByte, if_pos c18, if_pos c35, if_neg c65, if_pos c107, if_pos c150, ← hw] <;> rfl
            refine lv_aload_n hx hb dX6_sectorByte_186 rfl (lv_at hl 0 rfl) ?_
            refine lv_dup hx hb dX6_sectorByte_187 rfl ?_
            refine va_get (D := G) (ci := 6) (v := .int (z.1 24)) (C := RX6) (T := TX6) (N := 32) hx hb hts hi_6 hown hK hP 0 rfl rfl 24 (by decide) hfl_119 (fun _ h9 => h9) rfl dX6_sectorByte_188 ?_
            refine lv_iconst (v := 1) hx hb dX6_sectorByte_191 (by decide) ?_
            refine lv_iadd hx hb dX6_sectorByte_192 ?_
            refine va_put (D := G) (ci := 6) (v := .int ((z.1 24) + 1)) (ty := .int) (C := RX6) (T := TX6) (N := 32) hx hb hts hi_6 tyX6 tyX6_ok nmX6 hown hK hP hD hS 0 rfl rfl 24 (by decide) hfl_119 (fun _ h9 => h9) rfl (by decide +kernel) rfl rfl (Nat.le_of_ble_eq_true rfl) dX6_sectorByte_193 (fun H locs hP hD hS => ?_)
            have hP : va_P G vwCl ((fk_mW q k) (upd z.1 24 ((z.1 24) + 1), z.2)) H := hP
            have hD : va_D A ((fk_mW q k) (upd z.1 24 ((z.1 24) + 1), z.2)) := hD
            exact fk_vret hx hb hr hlk hK hP hD hS (Eq.symm (by rw [hf, fX6_sectorByte_c5] <;> rfl)) dX6_sectorByte_196
        · refine lv_aload_n hx hb dX6_sectorByte_110 rfl (lv_at hl 2 rfl) ?_
          obtain ⟨y111_x2, ey111_x2⟩ : ∃ y9 : Int32, y9 = (z0.1 24) - 8 := ⟨_, rfl⟩
          obtain ⟨y111_x1, ey111_x1⟩ : ∃ y9 : Int32, y9 = z0.1 12 := ⟨_, rfl⟩
          have hl : lv_has ls 4 [(2, .int y111_x2), (1, .int y111_x1), (0, .ref (q 0))] := by rw [ey111_x2, ey111_x1]; exact hl
          refine fk_Vi (Wd := (fk_mW q k)) (z := z0) (As := []) (rest := []) F9 (c_X6_ask l G q k _ z0) (cwV 0 hts gX6_sectorByte_X6_ask rfl rfl rfl (by decide +kernel) ⟨Nat.le_of_ble_eq_true rfl, Nat.le_of_ble_eq_true rfl⟩) (va_recv hK hP (ci := 6) (q0 := 0) rfl rfl) hK hP hD hS hA hN rfl hl.1 rfl (Nat.le_of_ble_eq_true rfl) dX6_sectorByte_111 ⟨Nat.zero_le _, Nat.zero_le _⟩ (fun r111 z H locs hw hP hD hS => ?_)
          have hf : fX6_sectorByte z0 = fX6_sectorByte_c6 z r111 y111_x2 y111_x1 := by rw [ey111_x2, ey111_x1, fX6_sectorByte, if_pos c18, if_pos c35, if_neg c65, if_neg c107, ← hw] <;> rfl
          refine lv_istore_n (lv' := [(3, .int r111), (2, .int y111_x2), (1, .int y111_x1), (0, .ref (q 0))]) hx hb dX6_sectorByte_114 rfl hl (by decide) rfl (fun ls hl => ?_)
          refine lv_iload_n hx hb dX6_sectorByte_115 rfl (lv_at hl 1 rfl) ?_
          refine lv_iconst (v := 1) hx hb dX6_sectorByte_116 (by decide) ?_
          refine lv_iadd hx hb dX6_sectorByte_117 ?_
          refine lv_iload_n hx hb dX6_sectorByte_118 rfl (lv_at hl 2 rfl) ?_
          refine lv_icmp_ge (tgt := 127) hx hb dX6_sectorByte_119 (by decide) (fun c119 => ?_) (fun c119 => ?_)
          · exact h127 z r111 _ _ ls (by rw [hf, fX6_sectorByte_c6, if_pos c119] <;> rfl) hP hD hS (lv_sub hl [3, 0] rfl)
          · refine lv_aload_n hx hb dX6_sectorByte_122 rfl (lv_at hl 3 rfl) ?_
            refine lv_iconst (v := 2) hx hb dX6_sectorByte_123 (by decide) ?_
            have hl := lv_sub hl [0, 3] (l' := [(3, .int r111), (0, .ref (q 0))]) rfl
            refine fk_Vv (Wd := (fk_mW q k)) (z := z) (As := [.int 2]) (rest := []) F9 (c_X6_raise l G q k _ z 2) (cwV 1 hts gX6_sectorByte_X6_raise rfl rfl rfl (by decide +kernel) ⟨Nat.le_of_ble_eq_true rfl, Nat.le_of_ble_eq_true rfl⟩) (va_recv hK hP (ci := 6) (q0 := 0) rfl rfl) hK hP hD hS hA hN rfl hl.1 rfl (Nat.le_of_ble_eq_true rfl) dX6_sectorByte_124 ⟨Nat.zero_le _, Nat.zero_le _⟩ (fun z H locs hw hP hD hS => ?_)
            have hf : fX6_sectorByte z0 = fX6_sectorByte_c7 z r111 := by rw [hf, fX6_sectorByte_c6, if_neg c119, ← hw] <;> rfl
            exact h127 z r111 _ _ ls (by rw [hf, fX6_sectorByte_c7] <;> rfl) hP hD hS (lv_sub hl [1, 0] rfl)
      · refine lv_aload_n hx hb dX6_sectorByte_68 rfl (lv_at hl 2 rfl) ?_
        refine va_get (D := G) (ci := 6) (v := .int (z0.1 18)) (C := RX6) (T := TX6) (N := 32) hx hb hts hi_6 hown hK hP 0 rfl rfl 18 (by decide) hfl_147 (fun _ h9 => h9) rfl dX6_sectorByte_69 ?_
        refine lv_if_eq (tgt := 81) hx hb dX6_sectorByte_72 (by decide) (fun c72 => ?_) (fun c72 => ?_)
        · refine lv_sipush (v := 251) hx hb dX6_sectorByte_81 (by decide) ?_
          exact h84 z0 251 _ _ ls (by rw [fX6_sectorByte, if_pos c18, if_pos c35, if_pos c65, if_pos c72] <;> rfl) hP hD hS (lv_sub hl [2] rfl)
        · refine lv_sipush (v := 248) hx hb dX6_sectorByte_75 (by decide) ?_
          refine lv_goto (tgt := 84) hx hb dX6_sectorByte_78 (by decide) ?_
          exact h84 z0 248 _ _ ls (by rw [fX6_sectorByte, if_pos c18, if_pos c35, if_pos c65, if_neg c72] <;> rfl) hP hD hS (lv_sub hl [2] rfl)
    · refine lv_aload_n hx hb dX6_sectorByte_38 rfl (lv_at hl 2 rfl) ?_
      have hl := lv_sub hl [2] (l' := [(0, .ref (q 0))]) rfl
      refine fk_Vv (Wd := (fk_mW q k)) (z := z0) (As := []) (rest := []) F9 (c_X6_writeMark l G q k _ z0) (cwV 0 hts gX6_sectorByte_X6_writeMark rfl rfl rfl (by decide +kernel) ⟨Nat.le_of_ble_eq_true rfl, Nat.le_of_ble_eq_true rfl⟩) (va_recv hK hP (ci := 6) (q0 := 0) rfl rfl) hK hP hD hS hA hN rfl hl.1 rfl (Nat.le_of_ble_eq_true rfl) dX6_sectorByte_39 ⟨Nat.zero_le _, Nat.zero_le _⟩ (fun z H locs hw hP hD hS => ?_)
      have hf : fX6_sectorByte z0 = fX6_sectorByte_c8 z := by rw [fX6_sectorByte, if_pos c18, if_neg c35, ← hw] <;> rfl
      refine lv_aload_n hx hb dX6_sectorByte_42 rfl (lv_at hl 0 rfl) ?_
      refine lv_aload_n hx hb dX6_sectorByte_43 rfl (lv_at hl 0 rfl) ?_
      refine va_get (D := G) (ci := 6) (v := .int (z.1 26)) (C := RX6) (T := TX6) (N := 32) hx hb hts hi_6 hown hK hP 0 rfl rfl 26 (by decide) hfl_125 (fun _ h9 => h9) rfl dX6_sectorByte_44 ?_
      refine lv_sipush (v := 161) hx hb dX6_sectorByte_47 (by decide) ?_
      refine fk_Sp (Wd := (fk_mW q k)) (z := z) (As := [.int (z.1 26), .int 161]) (rest := [.ref (q 0)]) F9 (c_X6_step l G q k _ z (z.1 26) 161) (va_cwS 2 hts gX6_sectorByte_X6_step rfl rfl rfl (by decide +kernel) ⟨Nat.le_of_ble_eq_true rfl, Nat.le_of_ble_eq_true rfl⟩) hK hP hD hS hA hN rfl hl.1 rfl (Nat.le_of_ble_eq_true rfl) dX6_sectorByte_50 ⟨Nat.zero_le _, Nat.zero_le _⟩ (fun H locs hP hD hS => ?_)
      refine lv_topi (fun y50 ey50 => ?_)
      refine va_put (D := G) (ci := 6) (v := .int y50) (ty := .int) (C := RX6) (T := TX6) (N := 32) hx hb hts hi_6 tyX6 tyX6_ok nmX6 hown hK hP hD hS 0 rfl rfl 26 (by decide) hfl_125 (fun _ h9 => h9) rfl (by decide +kernel) rfl rfl (Nat.le_of_ble_eq_true rfl) dX6_sectorByte_53 (fun H locs hP hD hS => ?_)
      have hP : va_P G vwCl ((fk_mW q k) (upd z.1 26 y50, z.2)) H := hP
      have hD : va_D A ((fk_mW q k) (upd z.1 26 y50, z.2)) := hD
      refine lv_goto (tgt := 186) hx hb dX6_sectorByte_56 (by decide) ?_
      refine lv_aload_n hx hb dX6_sectorByte_186 rfl (lv_at hl 0 rfl) ?_
      refine lv_dup hx hb dX6_sectorByte_187 rfl ?_
      refine va_get (D := G) (ci := 6) (v := .int (z.1 24)) (C := RX6) (T := TX6) (N := 32) hx hb hts hi_6 hown hK hP 0 rfl rfl 24 (by decide) hfl_119 (fun _ h9 => h9) rfl dX6_sectorByte_188 ?_
      refine lv_iconst (v := 1) hx hb dX6_sectorByte_191 (by decide) ?_
      refine lv_iadd hx hb dX6_sectorByte_192 ?_
      refine va_put (D := G) (ci := 6) (v := .int ((z.1 24) + 1)) (ty := .int) (C := RX6) (T := TX6) (N := 32) hx hb hts hi_6 tyX6 tyX6_ok nmX6 hown hK hP hD hS 0 rfl rfl 24 (by decide) hfl_119 (fun _ h9 => h9) rfl (by decide +kernel) rfl rfl (Nat.le_of_ble_eq_true rfl) dX6_sectorByte_193 (fun H locs hP hD hS => ?_)
      have hP : va_P G vwCl ((fk_mW q k) (upd (upd z.1 26 y50) 24 ((z.1 24) + 1), z.2)) H := hP
      have hD : va_D A ((fk_mW q k) (upd (upd z.1 26 y50) 24 ((z.1 24) + 1), z.2)) := hD
      exact fk_vret hx hb hr hlk hK hP hD hS (Eq.symm (by rw [ey50, hf, fX6_sectorByte_c8] <;> rfl)) dX6_sectorByte_196
  · refine lv_aload_n hx hb dX6_sectorByte_21 rfl (lv_at hl 2 rfl) ?_
    refine lv_iconst (v := 0) hx hb dX6_sectorByte_22 (by decide) ?_
    have hl := lv_sub hl [2] (l' := [(0, .ref (q 0))]) rfl
    refine fk_Vv (Wd := (fk_mW q k)) (z := z0) (As := [.int 0]) (rest := []) F9 (c_X6_write l G q k _ z0 0) (cwV 1 hts gX6_sectorByte_X6_write rfl rfl rfl (by decide +kernel) ⟨Nat.le_of_ble_eq_true rfl, Nat.le_of_ble_eq_true rfl⟩) (va_recv hK hP (ci := 6) (q0 := 0) rfl rfl) hK hP hD hS hA hN rfl hl.1 rfl (Nat.le_of_ble_eq_true rfl) dX6_sectorByte_23 ⟨Nat.zero_le _, Nat.zero_le _⟩ (fun z H locs hw hP hD hS => ?_)
    have hf : fX6_sectorByte z0 = fX6_sectorByte_c9 z := by rw [fX6_sectorByte, if_neg c18, ← hw] <;> rfl
    refine lv_goto (tgt := 186) hx hb dX6_sectorByte_26 (by decide) ?_
    refine lv_aload_n hx hb dX6_sectorByte_186 rfl (lv_at hl 0 rfl) ?_
    refine lv_dup hx hb dX6_sectorByte_187 rfl ?_
    refine va_get (D := G) (ci := 6) (v := .int (z.1 24)) (C := RX6) (T := TX6) (N := 32) hx hb hts hi_6 hown hK hP 0 rfl rfl 24 (by decide) hfl_119 (fun _ h9 => h9) rfl dX6_sectorByte_188 ?_
    refine lv_iconst (v := 1) hx hb dX6_sectorByte_191 (by decide) ?_
    refine lv_iadd hx hb dX6_sectorByte_192 ?_
    refine va_put (D := G) (ci := 6) (v := .int ((z.1 24) + 1)) (ty := .int) (C := RX6) (T := TX6) (N := 32) hx hb hts hi_6 tyX6 tyX6_ok nmX6 hown hK hP hD hS 0 rfl rfl 24 (by decide) hfl_119 (fun _ h9 => h9) rfl (by decide +kernel) rfl rfl (Nat.le_of_ble_eq_true rfl) dX6_sectorByte_193 (fun H locs hP hD hS => ?_)
    have hP : va_P G vwCl ((fk_mW q k) (upd z.1 24 ((z.1 24) + 1), z.2)) H := hP
    have hD : va_D A ((fk_mW q k) (upd z.1 24 ((z.1 24) + 1), z.2)) := hD
    exact fk_vret hx hb hr hlk hK hP hD hS (Eq.symm (by rw [hf, fX6_sectorByte_c9] <;> rfl)) dX6_sectorByte_196
-- FloppyDeskModel.trackByte()V
set_option maxHeartbeats 4000000 in
set_option maxRecDepth 100000 in
theorem c_X6_trackByte (l : Launch) (G : va_G) (q : Nat → Nat) (k : Nat → ClassId) (sz : Nat) (z0 : fk_M) : fk_Mv l yX6_trackByte wsX6_trackByte ({ frames := 2, cells := 0, slots := 0, locals := 46 } : Room) G (fk_mW q k) (fk_mT k) [.ref (q 0)] sz z0 (fX6_trackByte z0) := by
  refine fk_head (cc := cX6_trackByte) (maxL := 3) (ret := none) (QQ := fun A => va_Qv (fun z1 => z1 = fX6_trackByte z0) (fk_At G (fk_mW q k) (fk_mT k) A) A) (by decide) rfl (Nat.le_of_ble_eq_true rfl) ?_ sz
  intro p e s m below meth c A ls hx hb hr hlk hml hown hts hK hN hA hP hD hS hl
  have hown : s.vm.findClass RX6 = some m.cls := hown
  have F9 : CallFix p m c cX6_trackByte 3 s ([.ref (q 0)] : List Value).toArray wsX6_trackByte RX6 := ⟨hx, hb, hml, hown, hts⟩
  have hl : lv_has ls 3 [(0, .ref (q 0))] := hl
  have hcst_27 := hts (.constant RX6 27 65535) (by decide +kernel)
  have hfl_125 := hts (.fieldLink RX6 125 "FloppyDeskModel" "sum" "I") (by decide +kernel)
  have hfl_128 := hts (.fieldLink RX6 128 "FloppyDeskModel" "lastMark" "Z") (by decide +kernel)
  have hfl_131 := hts (.fieldLink RX6 131 "FloppyDeskModel" "second" "I") (by decide +kernel)
  have hi_6 : ∀ w ∈ u_ws RX6 TX6 32, w ∈ wsX6_trackByte := by decide +kernel
  have h43 : ∀ (z : fk_M) (x1 : Int32) (s0 : Int32) (H : Heap) (locs : List Loc) (ls : Array Slot), fX6_trackByte z0 = fX6_trackByte_43 z x1 s0 → (s0 = 0 ∨ s0 = 1) → va_P G vwCl ((fk_mW q k) z) H → va_D A ((fk_mW q k) z) → va_S A s.heap H locs → lv_has ls 3 [(0, .ref (q 0)), (1, .int x1)] → W p l e ({ frames := 2, cells := 0, slots := 0, locals := 46 } : Room) s m ([.ref (q 0)] : List Value).toArray below meth c H locs 0 0 (MQ below (va_Qv (fun z1 => z1 = fX6_trackByte z0) (fk_At G (fk_mW q k) (fk_mT k) A) A) ([.ref (q 0)] : List Value).toArray s 0 0 A) (F0 m 43 ls [.int s0]) := by
    intro z x1 s0 H locs ls hf hb_s0 hP hD hS hl
    refine lv_istore_n (lv' := [(2, .int s0), (0, .ref (q 0)), (1, .int x1)]) hx hb dX6_trackByte_43 rfl hl (by decide) rfl (fun ls hl => ?_)
    refine lv_iload_n hx hb dX6_trackByte_44 rfl (lv_at hl 0 rfl) ?_
    refine lv_if_eq (tgt := 81) hx hb dX6_trackByte_45 (by decide) (fun c45 => ?_) (fun c45 => ?_)
    · refine lv_iload_n hx hb dX6_trackByte_81 rfl (lv_at hl 2 rfl) ?_
      refine lv_sipush (v := 247) hx hb dX6_trackByte_82 (by decide) ?_
      refine lv_icmp_ne (tgt := 114) hx hb dX6_trackByte_85 (by decide) (fun c85 => ?_) (fun c85 => ?_)
      · refine lv_aload_n hx hb dX6_trackByte_114 rfl (lv_at hl 1 rfl) ?_
        refine lv_iload_n hx hb dX6_trackByte_115 rfl (lv_at hl 2 rfl) ?_
        refine fk_Vv (Wd := (fk_mW q k)) (z := z) (As := [.int x1]) (rest := []) F9 (c_X6_write l G q k _ z x1) (cwV 1 hts gX6_trackByte_X6_write rfl rfl rfl (by decide +kernel) ⟨Nat.le_of_ble_eq_true rfl, Nat.le_of_ble_eq_true rfl⟩) (va_recv hK hP (ci := 6) (q0 := 0) rfl rfl) hK hP hD hS hA hN rfl hl.1 rfl (Nat.le_of_ble_eq_true rfl) dX6_trackByte_116 ⟨Nat.zero_le _, Nat.zero_le _⟩ (fun z H locs hw hP hD hS => ?_)
        have hf : fX6_trackByte z0 = fX6_trackByte_c1 z s0 x1 := by rw [hf, fX6_trackByte_43, if_pos c45, if_neg c85, ← hw] <;> rfl
        refine lv_aload_n hx hb dX6_trackByte_119 rfl (lv_at hl 1 rfl) ?_
        refine lv_aload_n hx hb dX6_trackByte_120 rfl (lv_at hl 1 rfl) ?_
        refine va_get (D := G) (ci := 6) (v := .int (z.1 26)) (C := RX6) (T := TX6) (N := 32) hx hb hts hi_6 hown hK hP 0 rfl rfl 26 (by decide) hfl_125 (fun _ h9 => h9) rfl dX6_trackByte_121 ?_
        refine lv_iload_n hx hb dX6_trackByte_124 rfl (lv_at hl 2 rfl) ?_
        refine fk_Sp (Wd := (fk_mW q k)) (z := z) (As := [.int (z.1 26), .int x1]) (rest := [.ref (q 0)]) F9 (c_X6_step l G q k _ z (z.1 26) x1) (va_cwS 2 hts gX6_trackByte_X6_step rfl rfl rfl (by decide +kernel) ⟨Nat.le_of_ble_eq_true rfl, Nat.le_of_ble_eq_true rfl⟩) hK hP hD hS hA hN rfl hl.1 rfl (Nat.le_of_ble_eq_true rfl) dX6_trackByte_125 ⟨Nat.zero_le _, Nat.zero_le _⟩ (fun H locs hP hD hS => ?_)
        refine lv_topi (fun y125 ey125 => ?_)
        refine va_put (D := G) (ci := 6) (v := .int y125) (ty := .int) (C := RX6) (T := TX6) (N := 32) hx hb hts hi_6 tyX6 tyX6_ok nmX6 hown hK hP hD hS 0 rfl rfl 26 (by decide) hfl_125 (fun _ h9 => h9) rfl (by decide +kernel) rfl rfl (Nat.le_of_ble_eq_true rfl) dX6_trackByte_128 (fun H locs hP hD hS => ?_)
        have hP : va_P G vwCl ((fk_mW q k) (upd z.1 26 y125, z.2)) H := hP
        have hD : va_D A ((fk_mW q k) (upd z.1 26 y125, z.2)) := hD
        refine lv_aload_n hx hb dX6_trackByte_131 rfl (lv_at hl 1 rfl) ?_
        refine lv_iload_n hx hb dX6_trackByte_132 rfl (lv_at hl 0 rfl) ?_
        refine va_put (D := G) (ci := 6) (v := .int s0) (ty := .boolean) (C := RX6) (T := TX6) (N := 32) hx hb hts hi_6 tyX6 tyX6_ok nmX6 hown hK hP hD hS 0 rfl rfl 27 (by decide) hfl_128 (fun _ h9 => h9) rfl (by decide +kernel) (fk_nb hb_s0) (fk_fb hb_s0) (Nat.le_of_ble_eq_true rfl) dX6_trackByte_133 (fun H locs hP hD hS => ?_)
        have hP : va_P G vwCl ((fk_mW q k) (upd (upd z.1 26 y125) 27 s0, z.2)) H := hP
        have hD : va_D A ((fk_mW q k) (upd (upd z.1 26 y125) 27 s0, z.2)) := hD
        exact fk_vret hx hb hr hlk hK hP hD hS (Eq.symm (by rw [ey125, hf, fX6_trackByte_c1] <;> rfl)) dX6_trackByte_136
      · refine lv_aload_n hx hb dX6_trackByte_88 rfl (lv_at hl 1 rfl) ?_
        refine lv_aload_n hx hb dX6_trackByte_89 rfl (lv_at hl 1 rfl) ?_
        refine va_get (D := G) (ci := 6) (v := .int (z.1 26)) (C := RX6) (T := TX6) (N := 32) hx hb hts hi_6 hown hK hP 0 rfl rfl 26 (by decide) hfl_125 (fun _ h9 => h9) rfl dX6_trackByte_90 ?_
        refine lv_bipush (v := 8) hx hb dX6_trackByte_93 (by decide) ?_
        refine lv_ishr hx hb dX6_trackByte_95 ?_
        have hl := lv_sub hl [0, 1] (l' := [(2, .int s0), (0, .ref (q 0))]) rfl
        refine fk_Vv (Wd := (fk_mW q k)) (z := z) (As := [.int ((z.1 26) >>> ((8 : Int32) &&& 31))]) (rest := []) F9 (c_X6_write l G q k _ z ((z.1 26) >>> ((8 : Int32) &&& 31))) (cwV 1 hts gX6_trackByte_X6_write rfl rfl rfl (by decide +kernel) ⟨Nat.le_of_ble_eq_true rfl, Nat.le_of_ble_eq_true rfl⟩) (va_recv hK hP (ci := 6) (q0 := 0) rfl rfl) hK hP hD hS hA hN rfl hl.1 rfl (Nat.le_of_ble_eq_true rfl) dX6_trackByte_96 ⟨Nat.zero_le _, Nat.zero_le _⟩ (fun z H locs hw hP hD hS => ?_)
        have hf : fX6_trackByte z0 = fX6_trackByte_c2 z s0 := by rw [hf, fX6_trackByte_43, if_pos c45, if_pos c85, ← hw] <;> rfl
        refine lv_aload_n hx hb dX6_trackByte_99 rfl (lv_at hl 1 rfl) ?_
        refine lv_aload_n hx hb dX6_trackByte_100 rfl (lv_at hl 1 rfl) ?_
        refine va_get (D := G) (ci := 6) (v := .int (z.1 26)) (C := RX6) (T := TX6) (N := 32) hx hb hts hi_6 hown hK hP 0 rfl rfl 26 (by decide) hfl_125 (fun _ h9 => h9) rfl dX6_trackByte_101 ?_
        refine lv_sipush (v := 255) hx hb dX6_trackByte_104 (by decide) ?_
        refine lv_iand hx hb dX6_trackByte_107 ?_
        refine va_put (D := G) (ci := 6) (v := .int ((z.1 26) &&& 255)) (ty := .int) (C := RX6) (T := TX6) (N := 32) hx hb hts hi_6 tyX6 tyX6_ok nmX6 hown hK hP hD hS 0 rfl rfl 28 (by decide) hfl_131 (fun _ h9 => h9) rfl (by decide +kernel) rfl rfl (Nat.le_of_ble_eq_true rfl) dX6_trackByte_108 (fun H locs hP hD hS => ?_)
        have hP : va_P G vwCl ((fk_mW q k) (upd z.1 28 ((z.1 26) &&& 255), z.2)) H := hP
        have hD : va_D A ((fk_mW q k) (upd z.1 28 ((z.1 26) &&& 255), z.2)) := hD
        refine lv_goto (tgt := 131) hx hb dX6_trackByte_111 (by decide) ?_
        refine lv_aload_n hx hb dX6_trackByte_131 rfl (lv_at hl 1 rfl) ?_
        refine lv_iload_n hx hb dX6_trackByte_132 rfl (lv_at hl 0 rfl) ?_
        refine va_put (D := G) (ci := 6) (v := .int s0) (ty := .boolean) (C := RX6) (T := TX6) (N := 32) hx hb hts hi_6 tyX6 tyX6_ok nmX6 hown hK hP hD hS 0 rfl rfl 27 (by decide) hfl_128 (fun _ h9 => h9) rfl (by decide +kernel) (fk_nb hb_s0) (fk_fb hb_s0) (Nat.le_of_ble_eq_true rfl) dX6_trackByte_133 (fun H locs hP hD hS => ?_)
        have hP : va_P G vwCl ((fk_mW q k) (upd (upd z.1 28 ((z.1 26) &&& 255)) 27 s0, z.2)) H := hP
        have hD : va_D A ((fk_mW q k) (upd (upd z.1 28 ((z.1 26) &&& 255)) 27 s0, z.2)) := hD
        exact fk_vret hx hb hr hlk hK hP hD hS (Eq.symm (by rw [hf, fX6_trackByte_c2] <;> rfl)) dX6_trackByte_136
    · refine lv_aload_n hx hb dX6_trackByte_48 rfl (lv_at hl 1 rfl) ?_
      have hl := lv_sub hl [0, 1] (l' := [(2, .int s0), (0, .ref (q 0))]) rfl
      refine fk_Vv (Wd := (fk_mW q k)) (z := z) (As := []) (rest := []) F9 (c_X6_writeMark l G q k _ z) (cwV 0 hts gX6_trackByte_X6_writeMark rfl rfl rfl (by decide +kernel) ⟨Nat.le_of_ble_eq_true rfl, Nat.le_of_ble_eq_true rfl⟩) (va_recv hK hP (ci := 6) (q0 := 0) rfl rfl) hK hP hD hS hA hN rfl hl.1 rfl (Nat.le_of_ble_eq_true rfl) dX6_trackByte_49 ⟨Nat.zero_le _, Nat.zero_le _⟩ (fun z H locs hw hP hD hS => ?_)
      have hf : fX6_trackByte z0 = fX6_trackByte_c3 z s0 := by rw [hf, fX6_trackByte_43, if_neg c45, ← hw] <;> rfl
      refine lv_aload_n hx hb dX6_trackByte_52 rfl (lv_at hl 1 rfl) ?_
      refine lv_aload_n hx hb dX6_trackByte_53 rfl (lv_at hl 1 rfl) ?_
      refine va_get (D := G) (ci := 6) (v := .int (z.1 27)) (C := RX6) (T := TX6) (N := 32) hx hb hts hi_6 hown hK hP 0 rfl rfl 27 (by decide) hfl_128 (fun _ h9 => h9) rfl dX6_trackByte_54 ?_
      refine lv_if_eq (tgt := 67) hx hb dX6_trackByte_57 (by decide) (fun c57 => ?_) (fun c57 => ?_)
      · refine lv_ldc (own := RX6) (v := 65535) hx hb hown hcst_27 dX6_trackByte_67 ?_
        refine lv_sipush (v := 161) hx hb dX6_trackByte_69 (by decide) ?_
        refine fk_Sp (Wd := (fk_mW q k)) (z := z) (As := [.int 65535, .int 161]) (rest := [.ref (q 0)]) F9 (c_X6_step l G q k _ z 65535 161) (va_cwS 2 hts gX6_trackByte_X6_step rfl rfl rfl (by decide +kernel) ⟨Nat.le_of_ble_eq_true rfl, Nat.le_of_ble_eq_true rfl⟩) hK hP hD hS hA hN rfl hl.1 rfl (Nat.le_of_ble_eq_true rfl) dX6_trackByte_72 ⟨Nat.zero_le _, Nat.zero_le _⟩ (fun H locs hP hD hS => ?_)
        refine lv_topi (fun y72 ey72 => ?_)
        refine va_put (D := G) (ci := 6) (v := .int y72) (ty := .int) (C := RX6) (T := TX6) (N := 32) hx hb hts hi_6 tyX6 tyX6_ok nmX6 hown hK hP hD hS 0 rfl rfl 26 (by decide) hfl_125 (fun _ h9 => h9) rfl (by decide +kernel) rfl rfl (Nat.le_of_ble_eq_true rfl) dX6_trackByte_75 (fun H locs hP hD hS => ?_)
        have hP : va_P G vwCl ((fk_mW q k) (upd z.1 26 y72, z.2)) H := hP
        have hD : va_D A ((fk_mW q k) (upd z.1 26 y72, z.2)) := hD
        refine lv_goto (tgt := 131) hx hb dX6_trackByte_78 (by decide) ?_
        refine lv_aload_n hx hb dX6_trackByte_131 rfl (lv_at hl 1 rfl) ?_
        refine lv_iload_n hx hb dX6_trackByte_132 rfl (lv_at hl 0 rfl) ?_
        refine va_put (D := G) (ci := 6) (v := .int s0) (ty := .boolean) (C := RX6) (T := TX6) (N := 32) hx hb hts hi_6 tyX6 tyX6_ok nmX6 hown hK hP hD hS 0 rfl rfl 27 (by decide) hfl_128 (fun _ h9 => h9) rfl (by decide +kernel) (fk_nb hb_s0) (fk_fb hb_s0) (Nat.le_of_ble_eq_true rfl) dX6_trackByte_133 (fun H locs hP hD hS => ?_)
        have hP : va_P G vwCl ((fk_mW q k) (upd (upd z.1 26 y72) 27 s0, z.2)) H := hP
        have hD : va_D A ((fk_mW q k) (upd (upd z.1 26 y72) 27 s0, z.2)) := hD
        exact fk_vret hx hb hr hlk hK hP hD hS (Eq.symm (by rw [ey72, hf, fX6_trackByte_c3, if_pos c57] <;> rfl)) dX6_trackByte_136
      · refine lv_aload_n hx hb dX6_trackByte_60 rfl (lv_at hl 1 rfl) ?_
        refine va_get (D := G) (ci := 6) (v := .int (z.1 26)) (C := RX6) (T := TX6) (N := 32) hx hb hts hi_6 hown hK hP 0 rfl rfl 26 (by decide) hfl_125 (fun _ h9 => h9) rfl dX6_trackByte_61 ?_
        refine lv_goto (tgt := 69) hx hb dX6_trackByte_64 (by decide) ?_
        refine lv_sipush (v := 161) hx hb dX6_trackByte_69 (by decide) ?_
        refine fk_Sp (Wd := (fk_mW q k)) (z := z) (As := [.int (z.1 26), .int 161]) (rest := [.ref (q 0)]) F9 (c_X6_step l G q k _ z (z.1 26) 161) (va_cwS 2 hts gX6_trackByte_X6_step rfl rfl rfl (by decide +kernel) ⟨Nat.le_of_ble_eq_true rfl, Nat.le_of_ble_eq_true rfl⟩) hK hP hD hS hA hN rfl hl.1 rfl (Nat.le_of_ble_eq_true rfl) dX6_trackByte_72 ⟨Nat.zero_le _, Nat.zero_le _⟩ (fun H locs hP hD hS => ?_)
        refine lv_topi (fun y72 ey72 => ?_)
        refine va_put (D := G) (ci := 6) (v := .int y72) (ty := .int) (C := RX6) (T := TX6) (N := 32) hx hb hts hi_6 tyX6 tyX6_ok nmX6 hown hK hP hD hS 0 rfl rfl 26 (by decide) hfl_125 (fun _ h9 => h9) rfl (by decide +kernel) rfl rfl (Nat.le_of_ble_eq_true rfl) dX6_trackByte_75 (fun H locs hP hD hS => ?_)
        have hP : va_P G vwCl ((fk_mW q k) (upd z.1 26 y72, z.2)) H := hP
        have hD : va_D A ((fk_mW q k) (upd z.1 26 y72, z.2)) := hD
        refine lv_goto (tgt := 131) hx hb dX6_trackByte_78 (by decide) ?_
        refine lv_aload_n hx hb dX6_trackByte_131 rfl (lv_at hl 1 rfl) ?_
        refine lv_iload_n hx hb dX6_trackByte_132 rfl (lv_at hl 0 rfl) ?_
        refine va_put (D := G) (ci := 6) (v := .int s0) (ty := .boolean) (C := RX6) (T := TX6) (N := 32) hx hb hts hi_6 tyX6 tyX6_ok nmX6 hown hK hP hD hS 0 rfl rfl 27 (by decide) hfl_128 (fun _ h9 => h9) rfl (by decide +kernel) (fk_nb hb_s0) (fk_fb hb_s0) (Nat.le_of_ble_eq_true rfl) dX6_trackByte_133 (fun H locs hP hD hS => ?_)
        have hP : va_P G vwCl ((fk_mW q k) (upd (upd z.1 26 y72) 27 s0, z.2)) H := hP
        have hD : va_D A ((fk_mW q k) (upd (upd z.1 26 y72) 27 s0, z.2)) := hD
        exact fk_vret hx hb hr hlk hK hP hD hS (Eq.symm (by rw [ey72, hf, fX6_trackByte_c3, if_neg c57] <;> rfl)) dX6_trackByte_136
  refine lv_aload_n hx hb dX6_trackByte_0 rfl (lv_at hl 0 rfl) ?_
  refine va_get (D := G) (ci := 6) (v := .int (z0.1 28)) (C := RX6) (T := TX6) (N := 32) hx hb hts hi_6 hown hK hP 0 rfl rfl 28 (by decide) hfl_131 (fun _ h9 => h9) rfl dX6_trackByte_1 ?_
  refine lv_if_lt (tgt := 21) hx hb dX6_trackByte_4 (by decide) (fun c4 => ?_) (fun c4 => ?_)
  · refine lv_aload_n hx hb dX6_trackByte_21 rfl (lv_at hl 0 rfl) ?_
    refine fk_Vi (Wd := (fk_mW q k)) (z := z0) (As := []) (rest := []) F9 (c_X6_ask l G q k _ z0) (cwV 0 hts gX6_trackByte_X6_ask rfl rfl rfl (by decide +kernel) ⟨Nat.le_of_ble_eq_true rfl, Nat.le_of_ble_eq_true rfl⟩) (va_recv hK hP (ci := 6) (q0 := 0) rfl rfl) hK hP hD hS hA hN rfl hl.1 rfl (Nat.le_of_ble_eq_true rfl) dX6_trackByte_22 ⟨Nat.zero_le _, Nat.zero_le _⟩ (fun r22 z H locs hw hP hD hS => ?_)
    have hf : fX6_trackByte z0 = fX6_trackByte_c4 z r22 := by rw [fX6_trackByte, if_pos c4, ← hw] <;> rfl
    refine lv_istore_n (lv' := [(1, .int r22), (0, .ref (q 0))]) hx hb dX6_trackByte_25 rfl hl (by decide) rfl (fun ls hl => ?_)
    refine lv_aload_n hx hb dX6_trackByte_26 rfl (lv_at hl 1 rfl) ?_
    refine lv_iconst (v := 2) hx hb dX6_trackByte_27 (by decide) ?_
    refine fk_Vv (Wd := (fk_mW q k)) (z := z) (As := [.int 2]) (rest := []) F9 (c_X6_raise l G q k _ z 2) (cwV 1 hts gX6_trackByte_X6_raise rfl rfl rfl (by decide +kernel) ⟨Nat.le_of_ble_eq_true rfl, Nat.le_of_ble_eq_true rfl⟩) (va_recv hK hP (ci := 6) (q0 := 0) rfl rfl) hK hP hD hS hA hN rfl hl.1 rfl (Nat.le_of_ble_eq_true rfl) dX6_trackByte_28 ⟨Nat.zero_le _, Nat.zero_le _⟩ (fun z H locs hw hP hD hS => ?_)
    have hf : fX6_trackByte z0 = fX6_trackByte_c5 z r22 := by rw [hf, fX6_trackByte_c4, ← hw] <;> rfl
    refine lv_iload_n hx hb dX6_trackByte_31 rfl (lv_at hl 0 rfl) ?_
    refine lv_sipush (v := 245) hx hb dX6_trackByte_32 (by decide) ?_
    refine lv_icmp_ne (tgt := 42) hx hb dX6_trackByte_35 (by decide) (fun c35 => ?_) (fun c35 => ?_)
    · refine lv_iconst (v := 0) hx hb dX6_trackByte_42 (by decide) ?_
      exact h43 z r22 0 _ _ ls (by rw [hf, fX6_trackByte_c5, if_neg c35] <;> rfl) (Or.inl rfl) hP hD hS (lv_sub hl [1, 0] rfl)
    · refine lv_iconst (v := 1) hx hb dX6_trackByte_38 (by decide) ?_
      refine lv_goto (tgt := 43) hx hb dX6_trackByte_39 (by decide) ?_
      exact h43 z r22 1 _ _ ls (by rw [hf, fX6_trackByte_c5, if_pos c35] <;> rfl) (Or.inr rfl) hP hD hS (lv_sub hl [1, 0] rfl)
  · refine lv_aload_n hx hb dX6_trackByte_7 rfl (lv_at hl 0 rfl) ?_
    refine lv_aload_n hx hb dX6_trackByte_8 rfl (lv_at hl 0 rfl) ?_
    refine va_get (D := G) (ci := 6) (v := .int (z0.1 28)) (C := RX6) (T := TX6) (N := 32) hx hb hts hi_6 hown hK hP 0 rfl rfl 28 (by decide) hfl_131 (fun _ h9 => h9) rfl dX6_trackByte_9 ?_
    refine fk_Vv (Wd := (fk_mW q k)) (z := z0) (As := [.int (z0.1 28)]) (rest := []) F9 (c_X6_write l G q k _ z0 (z0.1 28)) (cwV 1 hts gX6_trackByte_X6_write rfl rfl rfl (by decide +kernel) ⟨Nat.le_of_ble_eq_true rfl, Nat.le_of_ble_eq_true rfl⟩) (va_recv hK hP (ci := 6) (q0 := 0) rfl rfl) hK hP hD hS hA hN rfl hl.1 rfl (Nat.le_of_ble_eq_true rfl) dX6_trackByte_12 ⟨Nat.zero_le _, Nat.zero_le _⟩ (fun z H locs hw hP hD hS => ?_)
    have hf : fX6_trackByte z0 = fX6_trackByte_c6 z := by rw [fX6_trackByte, if_neg c4, ← hw] <;> rfl
    refine lv_aload_n hx hb dX6_trackByte_15 rfl (lv_at hl 0 rfl) ?_
    refine lv_iconst (v := (-1)) hx hb dX6_trackByte_16 (by decide) ?_
    refine va_put (D := G) (ci := 6) (v := .int (-1)) (ty := .int) (C := RX6) (T := TX6) (N := 32) hx hb hts hi_6 tyX6 tyX6_ok nmX6 hown hK hP hD hS 0 rfl rfl 28 (by decide) hfl_131 (fun _ h9 => h9) rfl (by decide +kernel) rfl rfl (Nat.le_of_ble_eq_true rfl) dX6_trackByte_17 (fun H locs hP hD hS => ?_)
    have hP : va_P G vwCl ((fk_mW q k) (upd z.1 28 (-1), z.2)) H := hP
    have hD : va_D A ((fk_mW q k) (upd z.1 28 (-1), z.2)) := hD
    exact fk_vret hx hb hr hlk hK hP hD hS (Eq.symm (by rw [hf, fX6_trackByte_c6] <;> rfl)) dX6_trackByte_20
-- FloppyDeskModel.writeCell()V
set_option maxHeartbeats 4000000 in
set_option maxRecDepth 100000 in
theorem c_X6_writeCell (l : Launch) (G : va_G) (q : Nat → Nat) (k : Nat → ClassId) (sz : Nat) (z0 : fk_M) (hI : mI z0) : fk_Mv l yX6_writeCell wsX6_writeCell ({ frames := 3, cells := 0, slots := 0, locals := 69 } : Room) G (fk_mW q k) (fk_mT k) [.ref (q 0)] sz z0 (fX6_writeCell z0) := by
  refine fk_head (cc := cX6_writeCell) (maxL := 1) (ret := none) (QQ := fun A => va_Qv (fun z1 => z1 = fX6_writeCell z0) (fk_At G (fk_mW q k) (fk_mT k) A) A) (by decide) rfl (Nat.le_of_ble_eq_true rfl) ?_ sz
  intro p e s m below meth c A ls hx hb hr hlk hml hown hts hK hN hA hP hD hS hl
  have hown : s.vm.findClass RX6 = some m.cls := hown
  have F9 : CallFix p m c cX6_writeCell 1 s ([.ref (q 0)] : List Value).toArray wsX6_writeCell RX6 := ⟨hx, hb, hml, hown, hts⟩
  have hl : lv_has ls 1 [(0, .ref (q 0))] := hl
  have hfl_7 := hts (.fieldLink RX6 7 "FloppyDeskModel" "cell" "[Z") (by decide +kernel)
  have hfl_17 := hts (.fieldLink RX6 17 "FloppyDeskModel" "dataSize" "I") (by decide +kernel)
  have hfl_55 := hts (.fieldLink RX6 55 "FloppyDeskModel" "phase" "I") (by decide +kernel)
  have hfl_101 := hts (.fieldLink RX6 101 "FloppyDeskModel" "head" "I") (by decide +kernel)
  have hfl_104 := hts (.fieldLink RX6 104 "FloppyDeskModel" "place" "I") (by decide +kernel)
  have hfl_116 := hts (.fieldLink RX6 116 "FloppyDeskModel" "written" "I") (by decide +kernel)
  have hfl_119 := hts (.fieldLink RX6 119 "FloppyDeskModel" "which" "I") (by decide +kernel)
  have hfl_138 := hts (.fieldLink RX6 138 "FloppyDeskModel" "pattern" "I") (by decide +kernel)
  have hi_6 : ∀ w ∈ u_ws RX6 TX6 32, w ∈ wsX6_writeCell := by decide +kernel
  have h88 : ∀ (z : fk_M) (s1 : Int32) (H : Heap) (locs : List Loc) (ls : Array Slot), fX6_writeCell z0 = fX6_writeCell_88 z s1 → va_P G vwCl ((fk_mW q k) z) H → va_D A ((fk_mW q k) z) → va_S A s.heap H locs → lv_has ls 1 [(0, .ref (q 0))] → W p l e ({ frames := 3, cells := 0, slots := 0, locals := 69 } : Room) s m ([.ref (q 0)] : List Value).toArray below meth c H locs 0 0 (MQ below (va_Qv (fun z1 => z1 = fX6_writeCell z0) (fk_At G (fk_mW q k) (fk_mT k) A) A) ([.ref (q 0)] : List Value).toArray s 0 0 A) (F0 m 88 ls [.int s1, .ref (q 0)]) := by
    intro z s1 H locs ls hf  hP hD hS hl
    refine va_put (D := G) (ci := 6) (v := .int s1) (ty := .int) (C := RX6) (T := TX6) (N := 32) hx hb hts hi_6 tyX6 tyX6_ok nmX6 hown hK hP hD hS 0 rfl rfl 23 (by decide) hfl_116 (fun _ h9 => h9) rfl (by decide +kernel) rfl rfl (Nat.le_of_ble_eq_true rfl) dX6_writeCell_88 (fun H locs hP hD hS => ?_)
    have hP : va_P G vwCl ((fk_mW q k) (upd z.1 23 s1, z.2)) H := hP
    have hD : va_D A ((fk_mW q k) (upd z.1 23 s1, z.2)) := hD
    refine lv_aload_n hx hb dX6_writeCell_91 rfl (lv_at hl 0 rfl) ?_
    refine va_get (D := G) (ci := 6) (v := .int (z.1 19)) (C := RX6) (T := TX6) (N := 32) hx hb hts hi_6 hown hK hP 0 rfl rfl 19 (by decide) hfl_55 (fun _ h9 => h9) rfl dX6_writeCell_92 ?_
    refine lv_bipush (v := 6) hx hb dX6_writeCell_95 (by decide) ?_
    refine lv_icmp_ne (tgt := 125) hx hb dX6_writeCell_97 (by decide) (fun c97 => ?_) (fun c97 => ?_)
    · exact fk_vret hx hb hr hlk hK hP hD hS (Eq.symm (by rw [hf, fX6_writeCell_88, if_neg c97] <;> rfl)) dX6_writeCell_125
    · refine lv_aload_n hx hb dX6_writeCell_100 rfl (lv_at hl 0 rfl) ?_
      refine va_get (D := G) (ci := 6) (v := .int s1) (C := RX6) (T := TX6) (N := 32) hx hb hts hi_6 hown hK hP 0 rfl rfl 23 (by decide) hfl_116 (fun _ h9 => h9) rfl dX6_writeCell_101 ?_
      refine lv_if_ne (tgt := 125) hx hb dX6_writeCell_104 (by decide) (fun c104 => ?_) (fun c104 => ?_)
      · exact fk_vret hx hb hr hlk hK hP hD hS (Eq.symm (by rw [hf, fX6_writeCell_88, if_pos c97, if_neg c104] <;> rfl)) dX6_writeCell_125
      · refine lv_aload_n hx hb dX6_writeCell_107 rfl (lv_at hl 0 rfl) ?_
        refine va_get (D := G) (ci := 6) (v := .int (z.1 24)) (C := RX6) (T := TX6) (N := 32) hx hb hts hi_6 hown hK hP 0 rfl rfl 24 (by decide) hfl_119 (fun _ h9 => h9) rfl dX6_writeCell_108 ?_
        refine lv_aload_n hx hb dX6_writeCell_111 rfl (lv_at hl 0 rfl) ?_
        refine va_get (D := G) (ci := 6) (v := .int (z.1 12)) (C := RX6) (T := TX6) (N := 32) hx hb hts hi_6 hown hK hP 0 rfl rfl 12 (by decide) hfl_17 (fun _ h9 => h9) rfl dX6_writeCell_112 ?_
        refine lv_bipush (v := 11) hx hb dX6_writeCell_115 (by decide) ?_
        refine lv_iadd hx hb dX6_writeCell_117 ?_
        refine lv_icmp_ne (tgt := 125) hx hb dX6_writeCell_118 (by decide) (fun c118 => ?_) (fun c118 => ?_)
        · exact fk_vret hx hb hr hlk hK hP hD hS (Eq.symm (by rw [hf, fX6_writeCell_88, if_pos c97, if_pos c104, if_neg c118] <;> rfl)) dX6_writeCell_125
        · refine lv_aload_n hx hb dX6_writeCell_121 rfl (lv_at hl 0 rfl) ?_
          have hl := lv_sub hl [] (l' := []) rfl
          refine fk_Vv (Wd := (fk_mW q k)) (z := (upd z.1 23 s1, z.2)) (As := []) (rest := []) F9 (c_X6_end l G q k _ (upd z.1 23 s1, z.2)) (cwV 0 hts gX6_writeCell_X6_end rfl rfl rfl (by decide +kernel) ⟨Nat.le_of_ble_eq_true rfl, Nat.le_of_ble_eq_true rfl⟩) (va_recv hK hP (ci := 6) (q0 := 0) rfl rfl) hK hP hD hS hA hN rfl hl.1 rfl (Nat.le_of_ble_eq_true rfl) dX6_writeCell_122 ⟨Nat.zero_le _, Nat.zero_le _⟩ (fun z H locs hw hP hD hS => ?_)
          exact fk_vret hx hb hr hlk hK hP hD hS (hw.trans (Eq.symm (by rw [hf, fX6_writeCell_88, if_pos c97, if_pos c104, if_pos c118] <;> rfl))) dX6_writeCell_125
  have h67 : ∀ (z : fk_M) (s1 : Int32) (s2 : Int32) (H : Heap) (locs : List Loc) (ls : Array Slot), fX6_writeCell z0 = fX6_writeCell_67 z s1 s2 → (s2 = 0 ∨ s2 = 1) → (vp_in s1 9600) → va_P G vwCl ((fk_mW q k) z) H → va_D A ((fk_mW q k) z) → va_S A s.heap H locs → lv_has ls 1 [(0, .ref (q 0))] → W p l e ({ frames := 3, cells := 0, slots := 0, locals := 69 } : Room) s m ([.ref (q 0)] : List Value).toArray below meth c H locs 0 0 (MQ below (va_Qv (fun z1 => z1 = fX6_writeCell z0) (fk_At G (fk_mW q k) (fk_mT k) A) A) ([.ref (q 0)] : List Value).toArray s 0 0 A) (F0 m 67 ls [.int s2, .int s1, .ref (q 1)]) := by
    intro z s1 s2 H locs ls hf hb_s2 hin hP hD hS hl
    have hin_67 : vp_in s1 9600 := by exact hin
    refine va_zast (f := z.2.1) (x := s2) hx hb hK hP hD hS 1 0 rfl rfl hin_67 dX6_writeCell_67 (fun H locs hP hD hS => ?_)
    rw [show vp_nar .boolean s2 = s2 from fk_vn hb_s2] at hP hD
    have hP : va_P G vwCl ((fk_mW q k) (z.1, upd z.2.1 s1.toNatClampNeg s2, z.2.2.1, z.2.2.2)) H := hP
    have hD : va_D A ((fk_mW q k) (z.1, upd z.2.1 s1.toNatClampNeg s2, z.2.2.1, z.2.2.2)) := hD
    refine lv_aload_n hx hb dX6_writeCell_68 rfl (lv_at hl 0 rfl) ?_
    refine lv_aload_n hx hb dX6_writeCell_69 rfl (lv_at hl 0 rfl) ?_
    refine va_get (D := G) (ci := 6) (v := .int (z.1 23)) (C := RX6) (T := TX6) (N := 32) hx hb hts hi_6 hown hK hP 0 rfl rfl 23 (by decide) hfl_116 (fun _ h9 => h9) rfl dX6_writeCell_70 ?_
    refine lv_bipush (v := 15) hx hb dX6_writeCell_73 (by decide) ?_
    refine lv_icmp_ne (tgt := 82) hx hb dX6_writeCell_75 (by decide) (fun c75 => ?_) (fun c75 => ?_)
    · refine lv_aload_n hx hb dX6_writeCell_82 rfl (lv_at hl 0 rfl) ?_
      refine va_get (D := G) (ci := 6) (v := .int (z.1 23)) (C := RX6) (T := TX6) (N := 32) hx hb hts hi_6 hown hK hP 0 rfl rfl 23 (by decide) hfl_116 (fun _ h9 => h9) rfl dX6_writeCell_83 ?_
      refine lv_iconst (v := 1) hx hb dX6_writeCell_86 (by decide) ?_
      refine lv_iadd hx hb dX6_writeCell_87 ?_
      exact h88 (z.1, upd z.2.1 s1.toNatClampNeg s2, z.2.2.1, z.2.2.2) ((z.1 23) + 1) _ _ ls (by rw [hf, fX6_writeCell_67, if_neg c75] <;> rfl) hP hD hS (lv_sub hl [0] rfl)
    · refine lv_iconst (v := 0) hx hb dX6_writeCell_78 (by decide) ?_
      refine lv_goto (tgt := 88) hx hb dX6_writeCell_79 (by decide) ?_
      exact h88 (z.1, upd z.2.1 s1.toNatClampNeg s2, z.2.2.1, z.2.2.2) 0 _ _ ls (by rw [hf, fX6_writeCell_67, if_pos c75] <;> rfl) hP hD hS (lv_sub hl [0] rfl)
  have h27 : ∀ (z : fk_M) (H : Heap) (locs : List Loc) (ls : Array Slot), fX6_writeCell z0 = fX6_writeCell_27 z  → (mI z) → va_P G vwCl ((fk_mW q k) z) H → va_D A ((fk_mW q k) z) → va_S A s.heap H locs → lv_has ls 1 [(0, .ref (q 0))] → W p l e ({ frames := 3, cells := 0, slots := 0, locals := 69 } : Room) s m ([.ref (q 0)] : List Value).toArray below meth c H locs 0 0 (MQ below (va_Qv (fun z1 => z1 = fX6_writeCell z0) (fk_At G (fk_mW q k) (fk_mT k) A) A) ([.ref (q 0)] : List Value).toArray s 0 0 A) (F0 m 27 ls []) := by
    intro z H locs ls hf hI hP hD hS hl
    refine lv_aload_n hx hb dX6_writeCell_27 rfl (lv_at hl 0 rfl) ?_
    refine va_get (D := G) (ci := 6) (v := .ref (q 1)) (C := RX6) (T := TX6) (N := 32) hx hb hts hi_6 hown hK hP 0 rfl rfl 0 (by decide) hfl_7 (fun _ h9 => h9) rfl dX6_writeCell_28 ?_
    refine lv_sipush (v := 2400) hx hb dX6_writeCell_31 (by decide) ?_
    refine lv_aload_n hx hb dX6_writeCell_34 rfl (lv_at hl 0 rfl) ?_
    refine va_get (D := G) (ci := 6) (v := .int (z.1 2)) (C := RX6) (T := TX6) (N := 32) hx hb hts hi_6 hown hK hP 0 rfl rfl 2 (by decide) hfl_101 (fun _ h9 => h9) rfl dX6_writeCell_35 ?_
    refine lv_imul hx hb dX6_writeCell_38 ?_
    refine lv_aload_n hx hb dX6_writeCell_39 rfl (lv_at hl 0 rfl) ?_
    refine va_get (D := G) (ci := 6) (v := .int (z.1 3)) (C := RX6) (T := TX6) (N := 32) hx hb hts hi_6 hown hK hP 0 rfl rfl 3 (by decide) hfl_104 (fun _ h9 => h9) rfl dX6_writeCell_40 ?_
    refine lv_iadd hx hb dX6_writeCell_43 ?_
    refine lv_aload_n hx hb dX6_writeCell_44 rfl (lv_at hl 0 rfl) ?_
    refine va_get (D := G) (ci := 6) (v := .int (z.1 22)) (C := RX6) (T := TX6) (N := 32) hx hb hts hi_6 hown hK hP 0 rfl rfl 22 (by decide) hfl_138 (fun _ h9 => h9) rfl dX6_writeCell_45 ?_
    refine lv_bipush (v := 15) hx hb dX6_writeCell_48 (by decide) ?_
    refine lv_aload_n hx hb dX6_writeCell_50 rfl (lv_at hl 0 rfl) ?_
    refine va_get (D := G) (ci := 6) (v := .int (z.1 23)) (C := RX6) (T := TX6) (N := 32) hx hb hts hi_6 hown hK hP 0 rfl rfl 23 (by decide) hfl_116 (fun _ h9 => h9) rfl dX6_writeCell_51 ?_
    refine lv_isub hx hb dX6_writeCell_54 ?_
    refine lv_ishr hx hb dX6_writeCell_55 ?_
    refine lv_iconst (v := 1) hx hb dX6_writeCell_56 (by decide) ?_
    refine lv_iand hx hb dX6_writeCell_57 ?_
    refine lv_iconst (v := 1) hx hb dX6_writeCell_58 (by decide) ?_
    refine lv_icmp_ne (tgt := 66) hx hb dX6_writeCell_59 (by decide) (fun c59 => ?_) (fun c59 => ?_)
    · refine lv_iconst (v := 0) hx hb dX6_writeCell_66 (by decide) ?_
      exact h67 z ((2400 * (z.1 2)) + (z.1 3)) 0 _ _ ls (by rw [hf, fX6_writeCell_27, if_neg c59] <;> rfl) (Or.inl rfl) (mI_cell hI) hP hD hS (lv_sub hl [0] rfl)
    · refine lv_iconst (v := 1) hx hb dX6_writeCell_62 (by decide) ?_
      refine lv_goto (tgt := 67) hx hb dX6_writeCell_63 (by decide) ?_
      exact h67 z ((2400 * (z.1 2)) + (z.1 3)) 1 _ _ ls (by rw [hf, fX6_writeCell_27, if_pos c59] <;> rfl) (Or.inr rfl) (mI_cell hI) hP hD hS (lv_sub hl [0] rfl)
  refine lv_aload_n hx hb dX6_writeCell_0 rfl (lv_at hl 0 rfl) ?_
  refine va_get (D := G) (ci := 6) (v := .int (z0.1 23)) (C := RX6) (T := TX6) (N := 32) hx hb hts hi_6 hown hK hP 0 rfl rfl 23 (by decide) hfl_116 (fun _ h9 => h9) rfl dX6_writeCell_1 ?_
  refine lv_if_ne (tgt := 27) hx hb dX6_writeCell_4 (by decide) (fun c4 => ?_) (fun c4 => ?_)
  · exact h27 z0 _ _ ls (by rw [fX6_writeCell, if_neg c4] <;> rfl) hI hP hD hS (lv_sub hl [0] rfl)
  · refine lv_aload_n hx hb dX6_writeCell_7 rfl (lv_at hl 0 rfl) ?_
    refine va_get (D := G) (ci := 6) (v := .int (z0.1 19)) (C := RX6) (T := TX6) (N := 32) hx hb hts hi_6 hown hK hP 0 rfl rfl 19 (by decide) hfl_55 (fun _ h9 => h9) rfl dX6_writeCell_8 ?_
    refine lv_bipush (v := 6) hx hb dX6_writeCell_11 (by decide) ?_
    refine lv_icmp_ne (tgt := 23) hx hb dX6_writeCell_13 (by decide) (fun c13 => ?_) (fun c13 => ?_)
    · refine lv_aload_n hx hb dX6_writeCell_23 rfl (lv_at hl 0 rfl) ?_
      refine fk_Vv (Wd := (fk_mW q k)) (z := z0) (As := []) (rest := []) F9 (c_X6_trackByte l G q k _ z0) (cwV 0 hts gX6_writeCell_X6_trackByte rfl rfl rfl (by decide +kernel) ⟨Nat.le_of_ble_eq_true rfl, Nat.le_of_ble_eq_true rfl⟩) (va_recv hK hP (ci := 6) (q0 := 0) rfl rfl) hK hP hD hS hA hN rfl hl.1 rfl (Nat.le_of_ble_eq_true rfl) dX6_writeCell_24 ⟨Nat.zero_le _, Nat.zero_le _⟩ (fun z H locs hw hP hD hS => ?_)
      have hf : fX6_writeCell z0 = fX6_writeCell_c1 z := by rw [fX6_writeCell, if_pos c4, if_neg c13, ← hw] <;> rfl
      have hI : mI z := by rw [hw]; exact mI_of (mE_trackByte _) hI
      exact h27 z _ _ ls (by rw [hf, fX6_writeCell_c1] <;> rfl) hI hP hD hS (lv_sub hl [0] rfl)
    · refine lv_aload_n hx hb dX6_writeCell_16 rfl (lv_at hl 0 rfl) ?_
      refine fk_Vv (Wd := (fk_mW q k)) (z := z0) (As := []) (rest := []) F9 (c_X6_sectorByte l G q k _ z0) (cwV 0 hts gX6_writeCell_X6_sectorByte rfl rfl rfl (by decide +kernel) ⟨Nat.le_of_ble_eq_true rfl, Nat.le_of_ble_eq_true rfl⟩) (va_recv hK hP (ci := 6) (q0 := 0) rfl rfl) hK hP hD hS hA hN rfl hl.1 rfl (Nat.le_of_ble_eq_true rfl) dX6_writeCell_17 ⟨Nat.zero_le _, Nat.zero_le _⟩ (fun z H locs hw hP hD hS => ?_)
      have hf : fX6_writeCell z0 = fX6_writeCell_c2 z := by rw [fX6_writeCell, if_pos c4, if_pos c13, ← hw] <;> rfl
      have hI : mI z := by rw [hw]; exact mI_of (mE_sectorByte _) hI
      refine lv_goto (tgt := 27) hx hb dX6_writeCell_20 (by decide) ?_
      exact h27 z _ _ ls (by rw [hf, fX6_writeCell_c2] <;> rfl) hI hP hD hS (lv_sub hl [0] rfl)
-- FloppyDeskModel.index()V
set_option maxHeartbeats 4000000 in
set_option maxRecDepth 100000 in
theorem c_X6_index (l : Launch) (G : va_G) (q : Nat → Nat) (k : Nat → ClassId) (sz : Nat) (z0 : fk_M) : fk_Mv l yX6_index wsX6_index ({ frames := 2, cells := 0, slots := 0, locals := 41 } : Room) G (fk_mW q k) (fk_mT k) [.ref (q 0)] sz z0 (fX6_index z0) := by
  refine fk_head (cc := cX6_index) (maxL := 1) (ret := none) (QQ := fun A => va_Qv (fun z1 => z1 = fX6_index z0) (fk_At G (fk_mW q k) (fk_mT k) A) A) (by decide) rfl (Nat.le_of_ble_eq_true rfl) ?_ sz
  intro p e s m below meth c A ls hx hb hr hlk hml hown hts hK hN hA hP hD hS hl
  have hown : s.vm.findClass RX6 = some m.cls := hown
  have F9 : CallFix p m c cX6_index 1 s ([.ref (q 0)] : List Value).toArray wsX6_index RX6 := ⟨hx, hb, hml, hown, hts⟩
  have hl : lv_has ls 1 [(0, .ref (q 0))] := hl
  have hfl_55 := hts (.fieldLink RX6 55 "FloppyDeskModel" "phase" "I") (by decide +kernel)
  have hfl_160 := hts (.fieldLink RX6 160 "FloppyDeskModel" "indexes" "I") (by decide +kernel)
  have hi_6 : ∀ w ∈ u_ws RX6 TX6 32, w ∈ wsX6_index := by decide +kernel
  refine lv_aload_n hx hb dX6_index_0 rfl (lv_at hl 0 rfl) ?_
  refine lv_dup hx hb dX6_index_1 rfl ?_
  refine va_get (D := G) (ci := 6) (v := .int (z0.1 21)) (C := RX6) (T := TX6) (N := 32) hx hb hts hi_6 hown hK hP 0 rfl rfl 21 (by decide) hfl_160 (fun _ h9 => h9) rfl dX6_index_2 ?_
  refine lv_iconst (v := 1) hx hb dX6_index_5 (by decide) ?_
  refine lv_iadd hx hb dX6_index_6 ?_
  refine va_put (D := G) (ci := 6) (v := .int ((z0.1 21) + 1)) (ty := .int) (C := RX6) (T := TX6) (N := 32) hx hb hts hi_6 tyX6 tyX6_ok nmX6 hown hK hP hD hS 0 rfl rfl 21 (by decide) hfl_160 (fun _ h9 => h9) rfl (by decide +kernel) rfl rfl (Nat.le_of_ble_eq_true rfl) dX6_index_7 (fun H locs hP hD hS => ?_)
  have hP : va_P G vwCl ((fk_mW q k) (upd z0.1 21 ((z0.1 21) + 1), z0.2)) H := hP
  have hD : va_D A ((fk_mW q k) (upd z0.1 21 ((z0.1 21) + 1), z0.2)) := hD
  refine lv_aload_n hx hb dX6_index_10 rfl (lv_at hl 0 rfl) ?_
  refine va_get (D := G) (ci := 6) (v := .int (z0.1 19)) (C := RX6) (T := TX6) (N := 32) hx hb hts hi_6 hown hK hP 0 rfl rfl 19 (by decide) hfl_55 (fun _ h9 => h9) rfl dX6_index_11 ?_
  refine lv_bipush (v := 8) hx hb dX6_index_14 (by decide) ?_
  refine lv_icmp_ne (tgt := 26) hx hb dX6_index_16 (by decide) (fun c16 => ?_) (fun c16 => ?_)
  · refine lv_aload_n hx hb dX6_index_26 rfl (lv_at hl 0 rfl) ?_
    refine va_get (D := G) (ci := 6) (v := .int (z0.1 19)) (C := RX6) (T := TX6) (N := 32) hx hb hts hi_6 hown hK hP 0 rfl rfl 19 (by decide) hfl_55 (fun _ h9 => h9) rfl dX6_index_27 ?_
    refine lv_bipush (v := 7) hx hb dX6_index_30 (by decide) ?_
    refine lv_icmp_ne (tgt := 64) hx hb dX6_index_32 (by decide) (fun c32 => ?_) (fun c32 => ?_)
    · refine lv_aload_n hx hb dX6_index_64 rfl (lv_at hl 0 rfl) ?_
      refine va_get (D := G) (ci := 6) (v := .int ((z0.1 21) + 1)) (C := RX6) (T := TX6) (N := 32) hx hb hts hi_6 hown hK hP 0 rfl rfl 21 (by decide) hfl_160 (fun _ h9 => h9) rfl dX6_index_65 ?_
      refine lv_iconst (v := 5) hx hb dX6_index_68 (by decide) ?_
      refine lv_icmp_ne (tgt := 98) hx hb dX6_index_69 (by decide) (fun c69 => ?_) (fun c69 => ?_)
      · exact fk_vret hx hb hr hlk hK hP hD hS (Eq.symm (by rw [fX6_index, if_neg c16, if_neg c32, if_neg c69] <;> rfl)) dX6_index_98
      · refine lv_aload_n hx hb dX6_index_72 rfl (lv_at hl 0 rfl) ?_
        refine va_get (D := G) (ci := 6) (v := .int (z0.1 19)) (C := RX6) (T := TX6) (N := 32) hx hb hts hi_6 hown hK hP 0 rfl rfl 19 (by decide) hfl_55 (fun _ h9 => h9) rfl dX6_index_73 ?_
        refine lv_iconst (v := 2) hx hb dX6_index_76 (by decide) ?_
        refine lv_icmp_eq (tgt := 88) hx hb dX6_index_77 (by decide) (fun c77 => ?_) (fun c77 => ?_)
        · refine lv_aload_n hx hb dX6_index_88 rfl (lv_at hl 0 rfl) ?_
          refine lv_bipush (v := 16) hx hb dX6_index_89 (by decide) ?_
          refine fk_Vv (Wd := (fk_mW q k)) (z := (upd z0.1 21 ((z0.1 21) + 1), z0.2)) (As := [.int 16]) (rest := []) F9 (c_X6_raise l G q k _ (upd z0.1 21 ((z0.1 21) + 1), z0.2) 16) (cwV 1 hts gX6_index_X6_raise rfl rfl rfl (by decide +kernel) ⟨Nat.le_of_ble_eq_true rfl, Nat.le_of_ble_eq_true rfl⟩) (va_recv hK hP (ci := 6) (q0 := 0) rfl rfl) hK hP hD hS hA hN rfl hl.1 rfl (Nat.le_of_ble_eq_true rfl) dX6_index_91 ⟨Nat.zero_le _, Nat.zero_le _⟩ (fun z H locs hw hP hD hS => ?_)
          have hf : fX6_index z0 = fX6_index_c1 z := by rw [fX6_index, if_neg c16, if_neg c32, if_pos c69, if_pos c77, ← hw] <;> rfl
          refine lv_aload_n hx hb dX6_index_94 rfl (lv_at hl 0 rfl) ?_
          have hl := lv_sub hl [] (l' := []) rfl
          refine fk_Vv (Wd := (fk_mW q k)) (z := z) (As := []) (rest := []) F9 (c_X6_end l G q k _ z) (cwV 0 hts gX6_index_X6_end rfl rfl rfl (by decide +kernel) ⟨Nat.le_of_ble_eq_true rfl, Nat.le_of_ble_eq_true rfl⟩) (va_recv hK hP (ci := 6) (q0 := 0) rfl rfl) hK hP hD hS hA hN rfl hl.1 rfl (Nat.le_of_ble_eq_true rfl) dX6_index_95 ⟨Nat.zero_le _, Nat.zero_le _⟩ (fun z H locs hw hP hD hS => ?_)
          exact fk_vret hx hb hr hlk hK hP hD hS (hw.trans (Eq.symm (by rw [hf, fX6_index_c1] <;> rfl))) dX6_index_98
        · refine lv_aload_n hx hb dX6_index_80 rfl (lv_at hl 0 rfl) ?_
          refine va_get (D := G) (ci := 6) (v := .int (z0.1 19)) (C := RX6) (T := TX6) (N := 32) hx hb hts hi_6 hown hK hP 0 rfl rfl 19 (by decide) hfl_55 (fun _ h9 => h9) rfl dX6_index_81 ?_
          refine lv_iconst (v := 3) hx hb dX6_index_84 (by decide) ?_
          refine lv_icmp_ne (tgt := 98) hx hb dX6_index_85 (by decide) (fun c85 => ?_) (fun c85 => ?_)
          · exact fk_vret hx hb hr hlk hK hP hD hS (Eq.symm (by rw [fX6_index, if_neg c16, if_neg c32, if_pos c69, if_neg c77, if_neg c85] <;> rfl)) dX6_index_98
          · refine lv_aload_n hx hb dX6_index_88 rfl (lv_at hl 0 rfl) ?_
            refine lv_bipush (v := 16) hx hb dX6_index_89 (by decide) ?_
            refine fk_Vv (Wd := (fk_mW q k)) (z := (upd z0.1 21 ((z0.1 21) + 1), z0.2)) (As := [.int 16]) (rest := []) F9 (c_X6_raise l G q k _ (upd z0.1 21 ((z0.1 21) + 1), z0.2) 16) (cwV 1 hts gX6_index_X6_raise rfl rfl rfl (by decide +kernel) ⟨Nat.le_of_ble_eq_true rfl, Nat.le_of_ble_eq_true rfl⟩) (va_recv hK hP (ci := 6) (q0 := 0) rfl rfl) hK hP hD hS hA hN rfl hl.1 rfl (Nat.le_of_ble_eq_true rfl) dX6_index_91 ⟨Nat.zero_le _, Nat.zero_le _⟩ (fun z H locs hw hP hD hS => ?_)
            have hf : fX6_index z0 = fX6_index_c2 z := by rw [fX6_index, if_neg c16, if_neg c32, if_pos c69, if_neg c77, if_pos c85, ← hw] <;> rfl
            refine lv_aload_n hx hb dX6_index_94 rfl (lv_at hl 0 rfl) ?_
            have hl := lv_sub hl [] (l' := []) rfl
            refine fk_Vv (Wd := (fk_mW q k)) (z := z) (As := []) (rest := []) F9 (c_X6_end l G q k _ z) (cwV 0 hts gX6_index_X6_end rfl rfl rfl (by decide +kernel) ⟨Nat.le_of_ble_eq_true rfl, Nat.le_of_ble_eq_true rfl⟩) (va_recv hK hP (ci := 6) (q0 := 0) rfl rfl) hK hP hD hS hA hN rfl hl.1 rfl (Nat.le_of_ble_eq_true rfl) dX6_index_95 ⟨Nat.zero_le _, Nat.zero_le _⟩ (fun z H locs hw hP hD hS => ?_)
            exact fk_vret hx hb hr hlk hK hP hD hS (hw.trans (Eq.symm (by rw [hf, fX6_index_c2] <;> rfl))) dX6_index_98
    · refine lv_aload_n hx hb dX6_index_35 rfl (lv_at hl 0 rfl) ?_
      refine lv_iconst (v := 2) hx hb dX6_index_36 (by decide) ?_
      refine fk_Vp (Wd := (fk_mW q k)) (z := (upd z0.1 21 ((z0.1 21) + 1), z0.2)) (As := [.int 2]) (rest := []) F9 (c_X6_has l G q k _ (upd z0.1 21 ((z0.1 21) + 1), z0.2) 2) (cwV 1 hts gX6_index_X6_has rfl rfl rfl (by decide +kernel) ⟨Nat.le_of_ble_eq_true rfl, Nat.le_of_ble_eq_true rfl⟩) (va_recv hK hP (ci := 6) (q0 := 0) rfl rfl) hK hP hD hS hA hN rfl hl.1 rfl (Nat.le_of_ble_eq_true rfl) dX6_index_37 ⟨Nat.zero_le _, Nat.zero_le _⟩ (fun H locs hP hD hS => ?_)
      refine lv_if_eq (tgt := 55) hx hb dX6_index_40 (by decide) (fun c40 => ?_) (fun c40 => ?_)
      · refine lv_aload_n hx hb dX6_index_55 rfl (lv_at hl 0 rfl) ?_
        refine lv_bipush (v := 8) hx hb dX6_index_56 (by decide) ?_
        have hl := lv_sub hl [] (l' := []) rfl
        refine fk_Vv (Wd := (fk_mW q k)) (z := (upd z0.1 21 ((z0.1 21) + 1), z0.2)) (As := [.int 8]) (rest := []) F9 (c_X6_startWriting l G q k _ (upd z0.1 21 ((z0.1 21) + 1), z0.2) 8) (cwV 1 hts gX6_index_X6_startWriting rfl rfl rfl (by decide +kernel) ⟨Nat.le_of_ble_eq_true rfl, Nat.le_of_ble_eq_true rfl⟩) (va_recv hK hP (ci := 6) (q0 := 0) rfl rfl) hK hP hD hS hA hN rfl hl.1 rfl (Nat.le_of_ble_eq_true rfl) dX6_index_58 ⟨Nat.zero_le _, Nat.zero_le _⟩ (fun z H locs hw hP hD hS => ?_)
        refine lv_goto (tgt := 98) hx hb dX6_index_61 (by decide) ?_
        exact fk_vret hx hb hr hlk hK hP hD hS (hw.trans (Eq.symm (by rw [fX6_index, if_neg c16, if_pos c32, if_pos c40] <;> rfl))) dX6_index_98
      · refine lv_aload_n hx hb dX6_index_43 rfl (lv_at hl 0 rfl) ?_
        refine lv_iconst (v := 4) hx hb dX6_index_44 (by decide) ?_
        refine fk_Vv (Wd := (fk_mW q k)) (z := (upd z0.1 21 ((z0.1 21) + 1), z0.2)) (As := [.int 4]) (rest := []) F9 (c_X6_raise l G q k _ (upd z0.1 21 ((z0.1 21) + 1), z0.2) 4) (cwV 1 hts gX6_index_X6_raise rfl rfl rfl (by decide +kernel) ⟨Nat.le_of_ble_eq_true rfl, Nat.le_of_ble_eq_true rfl⟩) (va_recv hK hP (ci := 6) (q0 := 0) rfl rfl) hK hP hD hS hA hN rfl hl.1 rfl (Nat.le_of_ble_eq_true rfl) dX6_index_45 ⟨Nat.zero_le _, Nat.zero_le _⟩ (fun z H locs hw hP hD hS => ?_)
        have hf : fX6_index z0 = fX6_index_c3 z := by rw [fX6_index, if_neg c16, if_pos c32, if_neg c40, ← hw] <;> rfl
        refine lv_aload_n hx hb dX6_index_48 rfl (lv_at hl 0 rfl) ?_
        have hl := lv_sub hl [] (l' := []) rfl
        refine fk_Vv (Wd := (fk_mW q k)) (z := z) (As := []) (rest := []) F9 (c_X6_end l G q k _ z) (cwV 0 hts gX6_index_X6_end rfl rfl rfl (by decide +kernel) ⟨Nat.le_of_ble_eq_true rfl, Nat.le_of_ble_eq_true rfl⟩) (va_recv hK hP (ci := 6) (q0 := 0) rfl rfl) hK hP hD hS hA hN rfl hl.1 rfl (Nat.le_of_ble_eq_true rfl) dX6_index_49 ⟨Nat.zero_le _, Nat.zero_le _⟩ (fun z H locs hw hP hD hS => ?_)
        refine lv_goto (tgt := 98) hx hb dX6_index_52 (by decide) ?_
        exact fk_vret hx hb hr hlk hK hP hD hS (hw.trans (Eq.symm (by rw [hf, fX6_index_c3] <;> rfl))) dX6_index_98
  · refine lv_aload_n hx hb dX6_index_19 rfl (lv_at hl 0 rfl) ?_
    have hl := lv_sub hl [] (l' := []) rfl
    refine fk_Vv (Wd := (fk_mW q k)) (z := (upd z0.1 21 ((z0.1 21) + 1), z0.2)) (As := []) (rest := []) F9 (c_X6_end l G q k _ (upd z0.1 21 ((z0.1 21) + 1), z0.2)) (cwV 0 hts gX6_index_X6_end rfl rfl rfl (by decide +kernel) ⟨Nat.le_of_ble_eq_true rfl, Nat.le_of_ble_eq_true rfl⟩) (va_recv hK hP (ci := 6) (q0 := 0) rfl rfl) hK hP hD hS hA hN rfl hl.1 rfl (Nat.le_of_ble_eq_true rfl) dX6_index_20 ⟨Nat.zero_le _, Nat.zero_le _⟩ (fun z H locs hw hP hD hS => ?_)
    refine lv_goto (tgt := 98) hx hb dX6_index_23 (by decide) ?_
    exact fk_vret hx hb hr hlk hK hP hD hS (hw.trans (Eq.symm (by rw [fX6_index, if_pos c16] <;> rfl))) dX6_index_98
-- FloppyDeskModel.stepHead()V
set_option maxHeartbeats 4000000 in
set_option maxRecDepth 100000 in
theorem c_X6_stepHead (l : Launch) (G : va_G) (q : Nat → Nat) (k : Nat → ClassId) (sz : Nat) (z0 : fk_M) : fk_Mv l yX6_stepHead wsX6_stepHead ({ frames := 2, cells := 0, slots := 0, locals := 41 } : Room) G (fk_mW q k) (fk_mT k) [.ref (q 0)] sz z0 (fX6_stepHead z0) := by
  refine fk_head (cc := cX6_stepHead) (maxL := 2) (ret := none) (QQ := fun A => va_Qv (fun z1 => z1 = fX6_stepHead z0) (fk_At G (fk_mW q k) (fk_mT k) A) A) (by decide) rfl (Nat.le_of_ble_eq_true rfl) ?_ sz
  intro p e s m below meth c A ls hx hb hr hlk hml hown hts hK hN hA hP hD hS hl
  have hown : s.vm.findClass RX6 = some m.cls := hown
  have F9 : CallFix p m c cX6_stepHead 2 s ([.ref (q 0)] : List Value).toArray wsX6_stepHead RX6 := ⟨hx, hb, hml, hown, hts⟩
  have hl : lv_has ls 2 [(0, .ref (q 0))] := hl
  have hfl_21 := hts (.fieldLink RX6 21 "FloppyDeskModel" "latest" "I") (by decide +kernel)
  have hfl_61 := hts (.fieldLink RX6 61 "FloppyDeskModel" "data" "I") (by decide +kernel)
  have hfl_77 := hts (.fieldLink RX6 77 "FloppyDeskModel" "track" "I") (by decide +kernel)
  have hfl_101 := hts (.fieldLink RX6 101 "FloppyDeskModel" "head" "I") (by decide +kernel)
  have hi_6 : ∀ w ∈ u_ws RX6 TX6 32, w ∈ wsX6_stepHead := by decide +kernel
  have h60 : ∀ (z : fk_M) (s0 : Int32) (H : Heap) (locs : List Loc) (ls : Array Slot), fX6_stepHead z0 = fX6_stepHead_60 z s0 → va_P G vwCl ((fk_mW q k) z) H → va_D A ((fk_mW q k) z) → va_S A s.heap H locs → lv_has ls 2 [(0, .ref (q 0))] → W p l e ({ frames := 2, cells := 0, slots := 0, locals := 41 } : Room) s m ([.ref (q 0)] : List Value).toArray below meth c H locs 0 0 (MQ below (va_Qv (fun z1 => z1 = fX6_stepHead z0) (fk_At G (fk_mW q k) (fk_mT k) A) A) ([.ref (q 0)] : List Value).toArray s 0 0 A) (F0 m 60 ls [.int s0]) := by
    intro z s0 H locs ls hf  hP hD hS hl
    refine lv_istore_n (lv' := [(1, .int s0), (0, .ref (q 0))]) hx hb dX6_stepHead_60 rfl hl (by decide) rfl (fun ls hl => ?_)
    refine lv_aload_n hx hb dX6_stepHead_61 rfl (lv_at hl 1 rfl) ?_
    refine lv_dup hx hb dX6_stepHead_62 rfl ?_
    refine va_get (D := G) (ci := 6) (v := .int (z.1 13)) (C := RX6) (T := TX6) (N := 32) hx hb hts hi_6 hown hK hP 0 rfl rfl 13 (by decide) hfl_77 (fun _ h9 => h9) rfl dX6_stepHead_63 ?_
    refine lv_iload_n hx hb dX6_stepHead_66 rfl (lv_at hl 0 rfl) ?_
    refine lv_iadd hx hb dX6_stepHead_67 ?_
    refine va_put (D := G) (ci := 6) (v := .int ((z.1 13) + s0)) (ty := .int) (C := RX6) (T := TX6) (N := 32) hx hb hts hi_6 tyX6 tyX6_ok nmX6 hown hK hP hD hS 0 rfl rfl 13 (by decide) hfl_77 (fun _ h9 => h9) rfl (by decide +kernel) rfl rfl (Nat.le_of_ble_eq_true rfl) dX6_stepHead_68 (fun H locs hP hD hS => ?_)
    have hP : va_P G vwCl ((fk_mW q k) (upd z.1 13 ((z.1 13) + s0), z.2)) H := hP
    have hD : va_D A ((fk_mW q k) (upd z.1 13 ((z.1 13) + s0), z.2)) := hD
    refine lv_aload_n hx hb dX6_stepHead_71 rfl (lv_at hl 1 rfl) ?_
    refine lv_aload_n hx hb dX6_stepHead_72 rfl (lv_at hl 1 rfl) ?_
    refine va_get (D := G) (ci := 6) (v := .int (z.1 2)) (C := RX6) (T := TX6) (N := 32) hx hb hts hi_6 hown hK hP 0 rfl rfl 2 (by decide) hfl_101 (fun _ h9 => h9) rfl dX6_stepHead_73 ?_
    refine lv_iload_n hx hb dX6_stepHead_76 rfl (lv_at hl 0 rfl) ?_
    refine lv_iadd hx hb dX6_stepHead_77 ?_
    refine lv_if_lt (tgt := 91) hx hb dX6_stepHead_78 (by decide) (fun c78 => ?_) (fun c78 => ?_)
    · refine lv_aload_n hx hb dX6_stepHead_91 rfl (lv_at hl 1 rfl) ?_
      refine va_get (D := G) (ci := 6) (v := .int (z.1 2)) (C := RX6) (T := TX6) (N := 32) hx hb hts hi_6 hown hK hP 0 rfl rfl 2 (by decide) hfl_101 (fun _ h9 => h9) rfl dX6_stepHead_92 ?_
      refine lv_goto (tgt := 104) hx hb dX6_stepHead_95 (by decide) ?_
      refine va_put (D := G) (ci := 6) (v := .int (z.1 2)) (ty := .int) (C := RX6) (T := TX6) (N := 32) hx hb hts hi_6 tyX6 tyX6_ok nmX6 hown hK hP hD hS 0 rfl rfl 2 (by decide) hfl_101 (fun _ h9 => h9) rfl (by decide +kernel) rfl rfl (Nat.le_of_ble_eq_true rfl) dX6_stepHead_104 (fun H locs hP hD hS => ?_)
      have hP : va_P G vwCl ((fk_mW q k) (upd (upd z.1 13 ((z.1 13) + s0)) 2 (z.1 2), z.2)) H := hP
      have hD : va_D A ((fk_mW q k) (upd (upd z.1 13 ((z.1 13) + s0)) 2 (z.1 2), z.2)) := hD
      exact fk_vret hx hb hr hlk hK hP hD hS (Eq.symm (by rw [hf, fX6_stepHead_60, if_pos c78] <;> rfl)) dX6_stepHead_107
    · refine lv_aload_n hx hb dX6_stepHead_81 rfl (lv_at hl 1 rfl) ?_
      refine va_get (D := G) (ci := 6) (v := .int (z.1 2)) (C := RX6) (T := TX6) (N := 32) hx hb hts hi_6 hown hK hP 0 rfl rfl 2 (by decide) hfl_101 (fun _ h9 => h9) rfl dX6_stepHead_82 ?_
      refine lv_iload_n hx hb dX6_stepHead_85 rfl (lv_at hl 0 rfl) ?_
      refine lv_iadd hx hb dX6_stepHead_86 ?_
      refine lv_iconst (v := 3) hx hb dX6_stepHead_87 (by decide) ?_
      refine lv_icmp_le (tgt := 98) hx hb dX6_stepHead_88 (by decide) (fun c88 => ?_) (fun c88 => ?_)
      · refine lv_aload_n hx hb dX6_stepHead_98 rfl (lv_at hl 1 rfl) ?_
        refine va_get (D := G) (ci := 6) (v := .int (z.1 2)) (C := RX6) (T := TX6) (N := 32) hx hb hts hi_6 hown hK hP 0 rfl rfl 2 (by decide) hfl_101 (fun _ h9 => h9) rfl dX6_stepHead_99 ?_
        refine lv_iload_n hx hb dX6_stepHead_102 rfl (lv_at hl 0 rfl) ?_
        refine lv_iadd hx hb dX6_stepHead_103 ?_
        refine va_put (D := G) (ci := 6) (v := .int ((z.1 2) + s0)) (ty := .int) (C := RX6) (T := TX6) (N := 32) hx hb hts hi_6 tyX6 tyX6_ok nmX6 hown hK hP hD hS 0 rfl rfl 2 (by decide) hfl_101 (fun _ h9 => h9) rfl (by decide +kernel) rfl rfl (Nat.le_of_ble_eq_true rfl) dX6_stepHead_104 (fun H locs hP hD hS => ?_)
        have hP : va_P G vwCl ((fk_mW q k) (upd (upd z.1 13 ((z.1 13) + s0)) 2 ((z.1 2) + s0), z.2)) H := hP
        have hD : va_D A ((fk_mW q k) (upd (upd z.1 13 ((z.1 13) + s0)) 2 ((z.1 2) + s0), z.2)) := hD
        exact fk_vret hx hb hr hlk hK hP hD hS (Eq.symm (by rw [hf, fX6_stepHead_60, if_neg c78, if_pos c88] <;> rfl)) dX6_stepHead_107
      · refine lv_aload_n hx hb dX6_stepHead_91 rfl (lv_at hl 1 rfl) ?_
        refine va_get (D := G) (ci := 6) (v := .int (z.1 2)) (C := RX6) (T := TX6) (N := 32) hx hb hts hi_6 hown hK hP 0 rfl rfl 2 (by decide) hfl_101 (fun _ h9 => h9) rfl dX6_stepHead_92 ?_
        refine lv_goto (tgt := 104) hx hb dX6_stepHead_95 (by decide) ?_
        refine va_put (D := G) (ci := 6) (v := .int (z.1 2)) (ty := .int) (C := RX6) (T := TX6) (N := 32) hx hb hts hi_6 tyX6 tyX6_ok nmX6 hown hK hP hD hS 0 rfl rfl 2 (by decide) hfl_101 (fun _ h9 => h9) rfl (by decide +kernel) rfl rfl (Nat.le_of_ble_eq_true rfl) dX6_stepHead_104 (fun H locs hP hD hS => ?_)
        have hP : va_P G vwCl ((fk_mW q k) (upd (upd z.1 13 ((z.1 13) + s0)) 2 (z.1 2), z.2)) H := hP
        have hD : va_D A ((fk_mW q k) (upd (upd z.1 13 ((z.1 13) + s0)) 2 (z.1 2), z.2)) := hD
        exact fk_vret hx hb hr hlk hK hP hD hS (Eq.symm (by rw [hf, fX6_stepHead_60, if_neg c78, if_neg c88] <;> rfl)) dX6_stepHead_107
  have h26 : ∀ (z : fk_M) (H : Heap) (locs : List Loc) (ls : Array Slot), fX6_stepHead z0 = fX6_stepHead_26 z  → va_P G vwCl ((fk_mW q k) z) H → va_D A ((fk_mW q k) z) → va_S A s.heap H locs → lv_has ls 2 [(0, .ref (q 0))] → W p l e ({ frames := 2, cells := 0, slots := 0, locals := 41 } : Room) s m ([.ref (q 0)] : List Value).toArray below meth c H locs 0 0 (MQ below (va_Qv (fun z1 => z1 = fX6_stepHead z0) (fk_At G (fk_mW q k) (fk_mT k) A) A) ([.ref (q 0)] : List Value).toArray s 0 0 A) (F0 m 26 ls []) := by
    intro z H locs ls hf  hP hD hS hl
    refine lv_aload_n hx hb dX6_stepHead_26 rfl (lv_at hl 0 rfl) ?_
    refine va_get (D := G) (ci := 6) (v := .int (z.1 13)) (C := RX6) (T := TX6) (N := 32) hx hb hts hi_6 hown hK hP 0 rfl rfl 13 (by decide) hfl_77 (fun _ h9 => h9) rfl dX6_stepHead_27 ?_
    refine lv_aload_n hx hb dX6_stepHead_30 rfl (lv_at hl 0 rfl) ?_
    refine va_get (D := G) (ci := 6) (v := .int (z.1 15)) (C := RX6) (T := TX6) (N := 32) hx hb hts hi_6 hown hK hP 0 rfl rfl 15 (by decide) hfl_61 (fun _ h9 => h9) rfl dX6_stepHead_31 ?_
    refine lv_icmp_ne (tgt := 44) hx hb dX6_stepHead_34 (by decide) (fun c34 => ?_) (fun c34 => ?_)
    · refine lv_aload_n hx hb dX6_stepHead_44 rfl (lv_at hl 0 rfl) ?_
      refine va_get (D := G) (ci := 6) (v := .int (z.1 13)) (C := RX6) (T := TX6) (N := 32) hx hb hts hi_6 hown hK hP 0 rfl rfl 13 (by decide) hfl_77 (fun _ h9 => h9) rfl dX6_stepHead_45 ?_
      refine lv_aload_n hx hb dX6_stepHead_48 rfl (lv_at hl 0 rfl) ?_
      refine va_get (D := G) (ci := 6) (v := .int (z.1 15)) (C := RX6) (T := TX6) (N := 32) hx hb hts hi_6 hown hK hP 0 rfl rfl 15 (by decide) hfl_61 (fun _ h9 => h9) rfl dX6_stepHead_49 ?_
      refine lv_icmp_ge (tgt := 59) hx hb dX6_stepHead_52 (by decide) (fun c52 => ?_) (fun c52 => ?_)
      · refine lv_iconst (v := (-1)) hx hb dX6_stepHead_59 (by decide) ?_
        exact h60 z (-1) _ _ ls (by rw [hf, fX6_stepHead_26, if_neg c34, if_pos c52] <;> rfl) hP hD hS (lv_sub hl [0] rfl)
      · refine lv_iconst (v := 1) hx hb dX6_stepHead_55 (by decide) ?_
        refine lv_goto (tgt := 60) hx hb dX6_stepHead_56 (by decide) ?_
        exact h60 z 1 _ _ ls (by rw [hf, fX6_stepHead_26, if_neg c34, if_neg c52] <;> rfl) hP hD hS (lv_sub hl [0] rfl)
    · refine lv_aload_n hx hb dX6_stepHead_37 rfl (lv_at hl 0 rfl) ?_
      have hl := lv_sub hl [] (l' := []) rfl
      refine fk_Vv (Wd := (fk_mW q k)) (z := z) (As := []) (rest := []) F9 (c_X6_end l G q k _ z) (cwV 0 hts gX6_stepHead_X6_end rfl rfl rfl (by decide +kernel) ⟨Nat.le_of_ble_eq_true rfl, Nat.le_of_ble_eq_true rfl⟩) (va_recv hK hP (ci := 6) (q0 := 0) rfl rfl) hK hP hD hS hA hN rfl hl.1 rfl (Nat.le_of_ble_eq_true rfl) dX6_stepHead_38 ⟨Nat.zero_le _, Nat.zero_le _⟩ (fun z H locs hw hP hD hS => ?_)
      refine lv_goto (tgt := 107) hx hb dX6_stepHead_41 (by decide) ?_
      exact fk_vret hx hb hr hlk hK hP hD hS (hw.trans (Eq.symm (by rw [hf, fX6_stepHead_26, if_pos c34] <;> rfl))) dX6_stepHead_107
  refine lv_aload_n hx hb dX6_stepHead_0 rfl (lv_at hl 0 rfl) ?_
  refine va_get (D := G) (ci := 6) (v := .int (z0.1 17)) (C := RX6) (T := TX6) (N := 32) hx hb hts hi_6 hown hK hP 0 rfl rfl 17 (by decide) hfl_21 (fun _ h9 => h9) rfl dX6_stepHead_1 ?_
  refine lv_if_ne (tgt := 26) hx hb dX6_stepHead_4 (by decide) (fun c4 => ?_) (fun c4 => ?_)
  · exact h26 z0 _ _ ls (by rw [fX6_stepHead, if_neg c4] <;> rfl) hP hD hS (lv_sub hl [0] rfl)
  · refine lv_aload_n hx hb dX6_stepHead_7 rfl (lv_at hl 0 rfl) ?_
    refine va_get (D := G) (ci := 6) (v := .int (z0.1 2)) (C := RX6) (T := TX6) (N := 32) hx hb hts hi_6 hown hK hP 0 rfl rfl 2 (by decide) hfl_101 (fun _ h9 => h9) rfl dX6_stepHead_8 ?_
    refine lv_if_ne (tgt := 26) hx hb dX6_stepHead_11 (by decide) (fun c11 => ?_) (fun c11 => ?_)
    · exact h26 z0 _ _ ls (by rw [fX6_stepHead, if_pos c4, if_neg c11] <;> rfl) hP hD hS (lv_sub hl [0] rfl)
    · refine lv_aload_n hx hb dX6_stepHead_14 rfl (lv_at hl 0 rfl) ?_
      refine lv_iconst (v := 0) hx hb dX6_stepHead_15 (by decide) ?_
      refine va_put (D := G) (ci := 6) (v := .int 0) (ty := .int) (C := RX6) (T := TX6) (N := 32) hx hb hts hi_6 tyX6 tyX6_ok nmX6 hown hK hP hD hS 0 rfl rfl 13 (by decide) hfl_77 (fun _ h9 => h9) rfl (by decide +kernel) rfl rfl (Nat.le_of_ble_eq_true rfl) dX6_stepHead_16 (fun H locs hP hD hS => ?_)
      have hP : va_P G vwCl ((fk_mW q k) (upd z0.1 13 0, z0.2)) H := hP
      have hD : va_D A ((fk_mW q k) (upd z0.1 13 0, z0.2)) := hD
      refine lv_aload_n hx hb dX6_stepHead_19 rfl (lv_at hl 0 rfl) ?_
      have hl := lv_sub hl [] (l' := []) rfl
      refine fk_Vv (Wd := (fk_mW q k)) (z := (upd z0.1 13 0, z0.2)) (As := []) (rest := []) F9 (c_X6_end l G q k _ (upd z0.1 13 0, z0.2)) (cwV 0 hts gX6_stepHead_X6_end rfl rfl rfl (by decide +kernel) ⟨Nat.le_of_ble_eq_true rfl, Nat.le_of_ble_eq_true rfl⟩) (va_recv hK hP (ci := 6) (q0 := 0) rfl rfl) hK hP hD hS hA hN rfl hl.1 rfl (Nat.le_of_ble_eq_true rfl) dX6_stepHead_20 ⟨Nat.zero_le _, Nat.zero_le _⟩ (fun z H locs hw hP hD hS => ?_)
      refine lv_goto (tgt := 107) hx hb dX6_stepHead_23 (by decide) ?_
      exact fk_vret hx hb hr hlk hK hP hD hS (hw.trans (Eq.symm (by rw [fX6_stepHead, if_pos c4, if_pos c11] <;> rfl))) dX6_stepHead_107
-- FloppyDeskModel.later()V
set_option maxHeartbeats 4000000 in
set_option maxRecDepth 100000 in
theorem c_X6_later (l : Launch) (G : va_G) (q : Nat → Nat) (k : Nat → ClassId) (sz : Nat) (z0 : fk_M) : fk_Mv l yX6_later wsX6_later ({ frames := 3, cells := 0, slots := 0, locals := 62 } : Room) G (fk_mW q k) (fk_mT k) [.ref (q 0)] sz z0 (fX6_later z0) := by
  refine fk_head (cc := cX6_later) (maxL := 1) (ret := none) (QQ := fun A => va_Qv (fun z1 => z1 = fX6_later z0) (fk_At G (fk_mW q k) (fk_mT k) A) A) (by decide) rfl (Nat.le_of_ble_eq_true rfl) ?_ sz
  intro p e s m below meth c A ls hx hb hr hlk hml hown hts hK hN hA hP hD hS hl
  have hown : s.vm.findClass RX6 = some m.cls := hown
  have F9 : CallFix p m c cX6_later 1 s ([.ref (q 0)] : List Value).toArray wsX6_later RX6 := ⟨hx, hb, hml, hown, hts⟩
  have hl : lv_has ls 1 [(0, .ref (q 0))] := hl
  have hfl_55 := hts (.fieldLink RX6 55 "FloppyDeskModel" "phase" "I") (by decide +kernel)
  have hfl_80 := hts (.fieldLink RX6 80 "FloppyDeskModel" "count" "I") (by decide +kernel)
  have hi_6 : ∀ w ∈ u_ws RX6 TX6 32, w ∈ wsX6_later := by decide +kernel
  have h110 : ∀ (z : fk_M) (H : Heap) (locs : List Loc) (ls : Array Slot), fX6_later z0 = fX6_later_110 z  → va_P G vwCl ((fk_mW q k) z) H → va_D A ((fk_mW q k) z) → va_S A s.heap H locs → lv_has ls 1 [(0, .ref (q 0))] → W p l e ({ frames := 3, cells := 0, slots := 0, locals := 62 } : Room) s m ([.ref (q 0)] : List Value).toArray below meth c H locs 0 0 (MQ below (va_Qv (fun z1 => z1 = fX6_later z0) (fk_At G (fk_mW q k) (fk_mT k) A) A) ([.ref (q 0)] : List Value).toArray s 0 0 A) (F0 m 110 ls []) := by
    intro z H locs ls hf  hP hD hS hl
    refine lv_aload_n hx hb dX6_later_110 rfl (lv_at hl 0 rfl) ?_
    refine va_get (D := G) (ci := 6) (v := .int (z.1 20)) (C := RX6) (T := TX6) (N := 32) hx hb hts hi_6 hown hK hP 0 rfl rfl 20 (by decide) hfl_80 (fun _ h9 => h9) rfl dX6_later_111 ?_
    refine lv_bipush (v := 11) hx hb dX6_later_114 (by decide) ?_
    refine lv_icmp_ne (tgt := 125) hx hb dX6_later_116 (by decide) (fun c116 => ?_) (fun c116 => ?_)
    · refine lv_aload_n hx hb dX6_later_125 rfl (lv_at hl 0 rfl) ?_
      refine lv_dup hx hb dX6_later_126 rfl ?_
      refine va_get (D := G) (ci := 6) (v := .int (z.1 20)) (C := RX6) (T := TX6) (N := 32) hx hb hts hi_6 hown hK hP 0 rfl rfl 20 (by decide) hfl_80 (fun _ h9 => h9) rfl dX6_later_127 ?_
      refine lv_iconst (v := 1) hx hb dX6_later_130 (by decide) ?_
      refine lv_iadd hx hb dX6_later_131 ?_
      refine va_put (D := G) (ci := 6) (v := .int ((z.1 20) + 1)) (ty := .int) (C := RX6) (T := TX6) (N := 32) hx hb hts hi_6 tyX6 tyX6_ok nmX6 hown hK hP hD hS 0 rfl rfl 20 (by decide) hfl_80 (fun _ h9 => h9) rfl (by decide +kernel) rfl rfl (Nat.le_of_ble_eq_true rfl) dX6_later_132 (fun H locs hP hD hS => ?_)
      have hP : va_P G vwCl ((fk_mW q k) (upd z.1 20 ((z.1 20) + 1), z.2)) H := hP
      have hD : va_D A ((fk_mW q k) (upd z.1 20 ((z.1 20) + 1), z.2)) := hD
      exact fk_vret hx hb hr hlk hK hP hD hS (Eq.symm (by rw [hf, fX6_later_110, if_neg c116] <;> rfl)) dX6_later_135
    · refine lv_aload_n hx hb dX6_later_119 rfl (lv_at hl 0 rfl) ?_
      refine lv_bipush (v := 6) hx hb dX6_later_120 (by decide) ?_
      refine fk_Vv (Wd := (fk_mW q k)) (z := z) (As := [.int 6]) (rest := []) F9 (c_X6_startWriting l G q k _ z 6) (cwV 1 hts gX6_later_X6_startWriting rfl rfl rfl (by decide +kernel) ⟨Nat.le_of_ble_eq_true rfl, Nat.le_of_ble_eq_true rfl⟩) (va_recv hK hP (ci := 6) (q0 := 0) rfl rfl) hK hP hD hS hA hN rfl hl.1 rfl (Nat.le_of_ble_eq_true rfl) dX6_later_122 ⟨Nat.zero_le _, Nat.zero_le _⟩ (fun z H locs hw hP hD hS => ?_)
      have hf : fX6_later z0 = fX6_later_c1 z := by rw [hf, fX6_later_110, if_pos c116, ← hw] <;> rfl
      refine lv_aload_n hx hb dX6_later_125 rfl (lv_at hl 0 rfl) ?_
      refine lv_dup hx hb dX6_later_126 rfl ?_
      refine va_get (D := G) (ci := 6) (v := .int (z.1 20)) (C := RX6) (T := TX6) (N := 32) hx hb hts hi_6 hown hK hP 0 rfl rfl 20 (by decide) hfl_80 (fun _ h9 => h9) rfl dX6_later_127 ?_
      refine lv_iconst (v := 1) hx hb dX6_later_130 (by decide) ?_
      refine lv_iadd hx hb dX6_later_131 ?_
      refine va_put (D := G) (ci := 6) (v := .int ((z.1 20) + 1)) (ty := .int) (C := RX6) (T := TX6) (N := 32) hx hb hts hi_6 tyX6 tyX6_ok nmX6 hown hK hP hD hS 0 rfl rfl 20 (by decide) hfl_80 (fun _ h9 => h9) rfl (by decide +kernel) rfl rfl (Nat.le_of_ble_eq_true rfl) dX6_later_132 (fun H locs hP hD hS => ?_)
      have hP : va_P G vwCl ((fk_mW q k) (upd z.1 20 ((z.1 20) + 1), z.2)) H := hP
      have hD : va_D A ((fk_mW q k) (upd z.1 20 ((z.1 20) + 1), z.2)) := hD
      exact fk_vret hx hb hr hlk hK hP hD hS (Eq.symm (by rw [hf, fX6_later_c1] <;> rfl)) dX6_later_135
  refine lv_aload_n hx hb dX6_later_0 rfl (lv_at hl 0 rfl) ?_
  refine va_get (D := G) (ci := 6) (v := .int (z0.1 19)) (C := RX6) (T := TX6) (N := 32) hx hb hts hi_6 hown hK hP 0 rfl rfl 19 (by decide) hfl_55 (fun _ h9 => h9) rfl dX6_later_1 ?_
  refine lv_iconst (v := 1) hx hb dX6_later_4 (by decide) ?_
  refine lv_icmp_ne (tgt := 34) hx hb dX6_later_5 (by decide) (fun c5 => ?_) (fun c5 => ?_)
  · refine lv_aload_n hx hb dX6_later_34 rfl (lv_at hl 0 rfl) ?_
    refine va_get (D := G) (ci := 6) (v := .int (z0.1 19)) (C := RX6) (T := TX6) (N := 32) hx hb hts hi_6 hown hK hP 0 rfl rfl 19 (by decide) hfl_55 (fun _ h9 => h9) rfl dX6_later_35 ?_
    refine lv_iconst (v := 3) hx hb dX6_later_38 (by decide) ?_
    refine lv_icmp_ne (tgt := 73) hx hb dX6_later_39 (by decide) (fun c39 => ?_) (fun c39 => ?_)
    · refine lv_aload_n hx hb dX6_later_73 rfl (lv_at hl 0 rfl) ?_
      refine va_get (D := G) (ci := 6) (v := .int (z0.1 19)) (C := RX6) (T := TX6) (N := 32) hx hb hts hi_6 hown hK hP 0 rfl rfl 19 (by decide) hfl_55 (fun _ h9 => h9) rfl dX6_later_74 ?_
      refine lv_iconst (v := 5) hx hb dX6_later_77 (by decide) ?_
      refine lv_icmp_ne (tgt := 135) hx hb dX6_later_78 (by decide) (fun c78 => ?_) (fun c78 => ?_)
      · exact fk_vret hx hb hr hlk hK hP hD hS (Eq.symm (by rw [fX6_later, if_neg c5, if_neg c39, if_neg c78] <;> rfl)) dX6_later_135
      · refine lv_aload_n hx hb dX6_later_81 rfl (lv_at hl 0 rfl) ?_
        refine va_get (D := G) (ci := 6) (v := .int (z0.1 20)) (C := RX6) (T := TX6) (N := 32) hx hb hts hi_6 hown hK hP 0 rfl rfl 20 (by decide) hfl_80 (fun _ h9 => h9) rfl dX6_later_82 ?_
        refine lv_bipush (v := 11) hx hb dX6_later_85 (by decide) ?_
        refine lv_icmp_ne (tgt := 110) hx hb dX6_later_87 (by decide) (fun c87 => ?_) (fun c87 => ?_)
        · exact h110 z0 _ _ ls (by rw [fX6_later, if_neg c5, if_neg c39, if_pos c78, if_neg c87] <;> rfl) hP hD hS (lv_sub hl [0] rfl)
        · refine lv_aload_n hx hb dX6_later_90 rfl (lv_at hl 0 rfl) ?_
          refine lv_iconst (v := 2) hx hb dX6_later_91 (by decide) ?_
          refine fk_Vp (Wd := (fk_mW q k)) (z := z0) (As := [.int 2]) (rest := []) F9 (c_X6_has l G q k _ z0 2) (cwV 1 hts gX6_later_X6_has rfl rfl rfl (by decide +kernel) ⟨Nat.le_of_ble_eq_true rfl, Nat.le_of_ble_eq_true rfl⟩) (va_recv hK hP (ci := 6) (q0 := 0) rfl rfl) hK hP hD hS hA hN rfl hl.1 rfl (Nat.le_of_ble_eq_true rfl) dX6_later_92 ⟨Nat.zero_le _, Nat.zero_le _⟩ (fun H locs hP hD hS => ?_)
          refine lv_if_eq (tgt := 110) hx hb dX6_later_95 (by decide) (fun c95 => ?_) (fun c95 => ?_)
          · exact h110 z0 _ _ ls (by rw [fX6_later, if_neg c5, if_neg c39, if_pos c78, if_pos c87, if_pos c95] <;> rfl) hP hD hS (lv_sub hl [0] rfl)
          · refine lv_aload_n hx hb dX6_later_98 rfl (lv_at hl 0 rfl) ?_
            refine lv_iconst (v := 4) hx hb dX6_later_99 (by decide) ?_
            refine fk_Vv (Wd := (fk_mW q k)) (z := z0) (As := [.int 4]) (rest := []) F9 (c_X6_raise l G q k _ z0 4) (cwV 1 hts gX6_later_X6_raise rfl rfl rfl (by decide +kernel) ⟨Nat.le_of_ble_eq_true rfl, Nat.le_of_ble_eq_true rfl⟩) (va_recv hK hP (ci := 6) (q0 := 0) rfl rfl) hK hP hD hS hA hN rfl hl.1 rfl (Nat.le_of_ble_eq_true rfl) dX6_later_100 ⟨Nat.zero_le _, Nat.zero_le _⟩ (fun z H locs hw hP hD hS => ?_)
            have hf : fX6_later z0 = fX6_later_c2 z := by rw [fX6_later, if_neg c5, if_neg c39, if_pos c78, if_pos c87, if_neg c95, ← hw] <;> rfl
            refine lv_aload_n hx hb dX6_later_103 rfl (lv_at hl 0 rfl) ?_
            refine fk_Vv (Wd := (fk_mW q k)) (z := z) (As := []) (rest := []) F9 (c_X6_end l G q k _ z) (cwV 0 hts gX6_later_X6_end rfl rfl rfl (by decide +kernel) ⟨Nat.le_of_ble_eq_true rfl, Nat.le_of_ble_eq_true rfl⟩) (va_recv hK hP (ci := 6) (q0 := 0) rfl rfl) hK hP hD hS hA hN rfl hl.1 rfl (Nat.le_of_ble_eq_true rfl) dX6_later_104 ⟨Nat.zero_le _, Nat.zero_le _⟩ (fun z H locs hw hP hD hS => ?_)
            have hf : fX6_later z0 = fX6_later_c3 z := by rw [hf, fX6_later_c2, ← hw] <;> rfl
            refine lv_goto (tgt := 125) hx hb dX6_later_107 (by decide) ?_
            refine lv_aload_n hx hb dX6_later_125 rfl (lv_at hl 0 rfl) ?_
            refine lv_dup hx hb dX6_later_126 rfl ?_
            refine va_get (D := G) (ci := 6) (v := .int (z.1 20)) (C := RX6) (T := TX6) (N := 32) hx hb hts hi_6 hown hK hP 0 rfl rfl 20 (by decide) hfl_80 (fun _ h9 => h9) rfl dX6_later_127 ?_
            refine lv_iconst (v := 1) hx hb dX6_later_130 (by decide) ?_
            refine lv_iadd hx hb dX6_later_131 ?_
            refine va_put (D := G) (ci := 6) (v := .int ((z.1 20) + 1)) (ty := .int) (C := RX6) (T := TX6) (N := 32) hx hb hts hi_6 tyX6 tyX6_ok nmX6 hown hK hP hD hS 0 rfl rfl 20 (by decide) hfl_80 (fun _ h9 => h9) rfl (by decide +kernel) rfl rfl (Nat.le_of_ble_eq_true rfl) dX6_later_132 (fun H locs hP hD hS => ?_)
            have hP : va_P G vwCl ((fk_mW q k) (upd z.1 20 ((z.1 20) + 1), z.2)) H := hP
            have hD : va_D A ((fk_mW q k) (upd z.1 20 ((z.1 20) + 1), z.2)) := hD
            exact fk_vret hx hb hr hlk hK hP hD hS (Eq.symm (by rw [hf, fX6_later_c3] <;> rfl)) dX6_later_135
    · refine lv_aload_n hx hb dX6_later_42 rfl (lv_at hl 0 rfl) ?_
      refine lv_aload_n hx hb dX6_later_43 rfl (lv_at hl 0 rfl) ?_
      refine va_get (D := G) (ci := 6) (v := .int (z0.1 20)) (C := RX6) (T := TX6) (N := 32) hx hb hts hi_6 hown hK hP 0 rfl rfl 20 (by decide) hfl_80 (fun _ h9 => h9) rfl dX6_later_44 ?_
      refine lv_bipush (v := 31) hx hb dX6_later_47 (by decide) ?_
      refine lv_icmp_ne (tgt := 56) hx hb dX6_later_49 (by decide) (fun c49 => ?_) (fun c49 => ?_)
      · refine lv_iconst (v := 3) hx hb dX6_later_56 (by decide) ?_
        refine va_put (D := G) (ci := 6) (v := .int 3) (ty := .int) (C := RX6) (T := TX6) (N := 32) hx hb hts hi_6 tyX6 tyX6_ok nmX6 hown hK hP hD hS 0 rfl rfl 19 (by decide) hfl_55 (fun _ h9 => h9) rfl (by decide +kernel) rfl rfl (Nat.le_of_ble_eq_true rfl) dX6_later_57 (fun H locs hP hD hS => ?_)
        have hP : va_P G vwCl ((fk_mW q k) (upd z0.1 19 3, z0.2)) H := hP
        have hD : va_D A ((fk_mW q k) (upd z0.1 19 3, z0.2)) := hD
        refine lv_aload_n hx hb dX6_later_60 rfl (lv_at hl 0 rfl) ?_
        refine lv_dup hx hb dX6_later_61 rfl ?_
        refine va_get (D := G) (ci := 6) (v := .int (z0.1 20)) (C := RX6) (T := TX6) (N := 32) hx hb hts hi_6 hown hK hP 0 rfl rfl 20 (by decide) hfl_80 (fun _ h9 => h9) rfl dX6_later_62 ?_
        refine lv_iconst (v := 1) hx hb dX6_later_65 (by decide) ?_
        refine lv_iadd hx hb dX6_later_66 ?_
        refine va_put (D := G) (ci := 6) (v := .int ((z0.1 20) + 1)) (ty := .int) (C := RX6) (T := TX6) (N := 32) hx hb hts hi_6 tyX6 tyX6_ok nmX6 hown hK hP hD hS 0 rfl rfl 20 (by decide) hfl_80 (fun _ h9 => h9) rfl (by decide +kernel) rfl rfl (Nat.le_of_ble_eq_true rfl) dX6_later_67 (fun H locs hP hD hS => ?_)
        have hP : va_P G vwCl ((fk_mW q k) (upd (upd z0.1 19 3) 20 ((z0.1 20) + 1), z0.2)) H := hP
        have hD : va_D A ((fk_mW q k) (upd (upd z0.1 19 3) 20 ((z0.1 20) + 1), z0.2)) := hD
        refine lv_goto (tgt := 135) hx hb dX6_later_70 (by decide) ?_
        exact fk_vret hx hb hr hlk hK hP hD hS (Eq.symm (by rw [fX6_later, if_neg c5, if_pos c39, if_neg c49] <;> rfl)) dX6_later_135
      · refine lv_iconst (v := 2) hx hb dX6_later_52 (by decide) ?_
        refine lv_goto (tgt := 57) hx hb dX6_later_53 (by decide) ?_
        refine va_put (D := G) (ci := 6) (v := .int 2) (ty := .int) (C := RX6) (T := TX6) (N := 32) hx hb hts hi_6 tyX6 tyX6_ok nmX6 hown hK hP hD hS 0 rfl rfl 19 (by decide) hfl_55 (fun _ h9 => h9) rfl (by decide +kernel) rfl rfl (Nat.le_of_ble_eq_true rfl) dX6_later_57 (fun H locs hP hD hS => ?_)
        have hP : va_P G vwCl ((fk_mW q k) (upd z0.1 19 2, z0.2)) H := hP
        have hD : va_D A ((fk_mW q k) (upd z0.1 19 2, z0.2)) := hD
        refine lv_aload_n hx hb dX6_later_60 rfl (lv_at hl 0 rfl) ?_
        refine lv_dup hx hb dX6_later_61 rfl ?_
        refine va_get (D := G) (ci := 6) (v := .int (z0.1 20)) (C := RX6) (T := TX6) (N := 32) hx hb hts hi_6 hown hK hP 0 rfl rfl 20 (by decide) hfl_80 (fun _ h9 => h9) rfl dX6_later_62 ?_
        refine lv_iconst (v := 1) hx hb dX6_later_65 (by decide) ?_
        refine lv_iadd hx hb dX6_later_66 ?_
        refine va_put (D := G) (ci := 6) (v := .int ((z0.1 20) + 1)) (ty := .int) (C := RX6) (T := TX6) (N := 32) hx hb hts hi_6 tyX6 tyX6_ok nmX6 hown hK hP hD hS 0 rfl rfl 20 (by decide) hfl_80 (fun _ h9 => h9) rfl (by decide +kernel) rfl rfl (Nat.le_of_ble_eq_true rfl) dX6_later_67 (fun H locs hP hD hS => ?_)
        have hP : va_P G vwCl ((fk_mW q k) (upd (upd z0.1 19 2) 20 ((z0.1 20) + 1), z0.2)) H := hP
        have hD : va_D A ((fk_mW q k) (upd (upd z0.1 19 2) 20 ((z0.1 20) + 1), z0.2)) := hD
        refine lv_goto (tgt := 135) hx hb dX6_later_70 (by decide) ?_
        exact fk_vret hx hb hr hlk hK hP hD hS (Eq.symm (by rw [fX6_later, if_neg c5, if_pos c39, if_pos c49] <;> rfl)) dX6_later_135
  · refine lv_aload_n hx hb dX6_later_8 rfl (lv_at hl 0 rfl) ?_
    refine lv_dup hx hb dX6_later_9 rfl ?_
    refine va_get (D := G) (ci := 6) (v := .int (z0.1 20)) (C := RX6) (T := TX6) (N := 32) hx hb hts hi_6 hown hK hP 0 rfl rfl 20 (by decide) hfl_80 (fun _ h9 => h9) rfl dX6_later_10 ?_
    refine lv_iconst (v := 1) hx hb dX6_later_13 (by decide) ?_
    refine lv_iadd hx hb dX6_later_14 ?_
    refine va_put (D := G) (ci := 6) (v := .int ((z0.1 20) + 1)) (ty := .int) (C := RX6) (T := TX6) (N := 32) hx hb hts hi_6 tyX6 tyX6_ok nmX6 hown hK hP hD hS 0 rfl rfl 20 (by decide) hfl_80 (fun _ h9 => h9) rfl (by decide +kernel) rfl rfl (Nat.le_of_ble_eq_true rfl) dX6_later_15 (fun H locs hP hD hS => ?_)
    have hP : va_P G vwCl ((fk_mW q k) (upd z0.1 20 ((z0.1 20) + 1), z0.2)) H := hP
    have hD : va_D A ((fk_mW q k) (upd z0.1 20 ((z0.1 20) + 1), z0.2)) := hD
    refine lv_aload_n hx hb dX6_later_18 rfl (lv_at hl 0 rfl) ?_
    refine va_get (D := G) (ci := 6) (v := .int ((z0.1 20) + 1)) (C := RX6) (T := TX6) (N := 32) hx hb hts hi_6 hown hK hP 0 rfl rfl 20 (by decide) hfl_80 (fun _ h9 => h9) rfl dX6_later_19 ?_
    refine lv_iconst (v := 3) hx hb dX6_later_22 (by decide) ?_
    refine lv_irem hx hb dX6_later_23 (by decide) ?_
    refine lv_if_ne (tgt := 135) hx hb dX6_later_24 (by decide) (fun c24 => ?_) (fun c24 => ?_)
    · exact fk_vret hx hb hr hlk hK hP hD hS (Eq.symm (by rw [fX6_later, if_pos c5, if_neg c24] <;> rfl)) dX6_later_135
    · refine lv_aload_n hx hb dX6_later_27 rfl (lv_at hl 0 rfl) ?_
      have hl := lv_sub hl [] (l' := []) rfl
      refine fk_Vv (Wd := (fk_mW q k)) (z := (upd z0.1 20 ((z0.1 20) + 1), z0.2)) (As := []) (rest := []) F9 (c_X6_stepHead l G q k _ (upd z0.1 20 ((z0.1 20) + 1), z0.2)) (cwV 0 hts gX6_later_X6_stepHead rfl rfl rfl (by decide +kernel) ⟨Nat.le_of_ble_eq_true rfl, Nat.le_of_ble_eq_true rfl⟩) (va_recv hK hP (ci := 6) (q0 := 0) rfl rfl) hK hP hD hS hA hN rfl hl.1 rfl (Nat.le_of_ble_eq_true rfl) dX6_later_28 ⟨Nat.zero_le _, Nat.zero_le _⟩ (fun z H locs hw hP hD hS => ?_)
      refine lv_goto (tgt := 135) hx hb dX6_later_31 (by decide) ?_
      exact fk_vret hx hb hr hlk hK hP hD hS (hw.trans (Eq.symm (by rw [fX6_later, if_pos c5, if_pos c24] <;> rfl))) dX6_later_135
