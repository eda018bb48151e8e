-- FloppyDeskModel.step(II)I
set_option maxHeartbeats 4000000 in
set_option maxRecDepth 100000 in
theorem c_X6_step (l : Launch) (G : va_G) (q : Nat → Nat) (k : Nat → ClassId) (sz : Nat) (z0 : fk_M) (a1 : Int32) (a2 : Int32) : fk_Mp l yX6_step wsX6_step ({ frames := 0, cells := 0, slots := 0, locals := 0 } : Room) G (fk_mW q k) (fk_mT k) [.int a1, .int a2] sz z0 (fX6_step a1 a2) := by
  refine fk_head (cc := cX6_step) (maxL := 4) (ret := (some .int)) (QQ := fun A => va_Qi (fun r (_ : Unit) => r = fX6_step a1 a2) (fun _ => fk_At G (fk_mW q k) (fk_mT k) A z0) A) (by decide) rfl (Nat.le_of_ble_eq_true rfl) ?_ sz
  intro p e s m below meth c A ls hx hb hr hlk hml hown hts hK hN hA hP hD hS hl
  have hown : s.vm.findClass RX6 = some m.cls := hown
  have F9 : CallFix p m c cX6_step 4 s ([.int a1, .int a2] : List Value).toArray wsX6_step RX6 := ⟨hx, hb, hml, hown, hts⟩
  have hl : lv_has ls 4 [(0, .int a1), (1, .int a2)] := hl
  have hcst_27 := hts (.constant RX6 27 65535) (by decide +kernel)
  have h9 : ∀ (n : Nat) (j : Nat) (x2 : Int32) (x3 : Int32) (H : Heap) (locs : List Loc) (ls : Array Slot), fX6_step a1 a2 = fX6_step_9 n x2 x3 → (x3 = nI j) → (j ≤ 8) → (8 + 1 ≤ j + n) → va_P G vwCl ((fk_mW q k) z0) H → va_D A ((fk_mW q k) z0) → va_S A s.heap H locs → lv_has ls 4 [(2, .int x2), (3, .int x3)] → W p l e ({ frames := 0, cells := 0, slots := 0, locals := 0 } : Room) s m ([.int a1, .int a2] : List Value).toArray below meth c H locs 0 0 (MQ below (va_Qi (fun r (_ : Unit) => r = fX6_step a1 a2) (fun _ => fk_At G (fk_mW q k) (fk_mT k) A z0) A) ([.int a1, .int a2] : List Value).toArray s 0 0 A) (F0 m 9 ls []) := by
    intro n
    induction n with
    | zero =>
      intro j x2 x3 H locs ls hf hj hjN hfu hP hD hS hl
      exact absurd hfu (by omega)
    | succ n ih =>
      intro j x2 x3 H locs ls hf hj hjN hfu hP hD hS hl
      have h37 : ∀ (s0 : Int32) (H : Heap) (locs : List Loc) (ls : Array Slot), fX6_step a1 a2 = fX6_step_37 (fX6_step_9 n) x3 s0 → (j < 8) → va_P G vwCl ((fk_mW q k) z0) H → va_D A ((fk_mW q k) z0) → va_S A s.heap H locs → lv_has ls 4 [(3, .int x3)] → W p l e ({ frames := 0, cells := 0, slots := 0, locals := 0 } : Room) s m ([.int a1, .int a2] : List Value).toArray below meth c H locs 0 0 (MQ below (va_Qi (fun r (_ : Unit) => r = fX6_step a1 a2) (fun _ => fk_At G (fk_mW q k) (fk_mT k) A z0) A) ([.int a1, .int a2] : List Value).toArray s 0 0 A) (F0 m 37 ls [.int s0]) := by
        intro s0 H locs ls hf hlt hP hD hS hl
        refine lv_istore_n (lv' := [(2, .int s0), (3, .int x3)]) hx hb dX6_step_37 rfl hl (by decide) rfl (fun ls hl => ?_)
        refine lv_iinc (v := x3 + 1) (lv' := [(3, .int (x3 + 1)), (2, .int s0)]) hx hb dX6_step_38 hl (k := 1) rfl (by rfl) (by decide) rfl (fun ls hl => ?_)
        refine lv_goto (tgt := 9) hx hb dX6_step_41 (by decide) ?_
        exact ih (j + 1) s0 (x3 + 1) _ _ ls (by rw [hf, fX6_step_37] <;> rfl) (fk_up1 hj) (by omega) (by omega) hP hD hS (lv_sub hl [1, 0] rfl)
      refine lv_iload_n hx hb dX6_step_9 rfl (lv_at hl 1 rfl) ?_
      refine lv_bipush (v := 8) hx hb dX6_step_10 (by decide) ?_
      refine lv_icmp_ge (tgt := 44) hx hb dX6_step_12 (by decide) (fun c12 => ?_) (fun c12 => ?_)
      · refine lv_iload_n hx hb dX6_step_44 rfl (lv_at hl 0 rfl) ?_
        exact fk_pret hx hb hr hlk hK hP hD hS rfl (Eq.symm (by rw [hf, fX6_step_9, if_pos c12] <;> rfl)) dX6_step_45
      · have hlt : j < 8 := fk_up hj (by decide) (by omega) c12
        refine lv_iload_n hx hb dX6_step_15 rfl (lv_at hl 0 rfl) ?_
        refine lv_iconst (v := 1) hx hb dX6_step_16 (by decide) ?_
        refine lv_ishl hx hb dX6_step_17 ?_
        refine lv_istore_n (lv' := [(2, .int (x2 <<< ((1 : Int32) &&& 31))), (3, .int x3)]) hx hb dX6_step_18 rfl hl (by decide) rfl (fun ls hl => ?_)
        refine lv_iload_n hx hb dX6_step_19 rfl (lv_at hl 0 rfl) ?_
        refine lv_ldc (own := RX6) (v := 65535) hx hb hown hcst_27 dX6_step_20 ?_
        refine lv_icmp_le (tgt := 36) hx hb dX6_step_22 (by decide) (fun c22 => ?_) (fun c22 => ?_)
        · refine lv_iload_n hx hb dX6_step_36 rfl (lv_at hl 0 rfl) ?_
          exact h37 (x2 <<< ((1 : Int32) &&& 31)) _ _ ls (by rw [hf, fX6_step_9, if_neg c12, if_pos c22] <;> rfl) hlt hP hD hS (lv_sub hl [1] rfl)
        · refine lv_iload_n hx hb dX6_step_25 rfl (lv_at hl 0 rfl) ?_
          refine lv_sipush (v := 4129) hx hb dX6_step_26 (by decide) ?_
          refine lv_ixor hx hb dX6_step_29 ?_
          refine lv_ldc (own := RX6) (v := 65535) hx hb hown hcst_27 dX6_step_30 ?_
          refine lv_iand hx hb dX6_step_32 ?_
          refine lv_goto (tgt := 37) hx hb dX6_step_33 (by decide) ?_
          exact h37 (((x2 <<< ((1 : Int32) &&& 31)) ^^^ 4129) &&& 65535) _ _ ls (by rw [hf, fX6_step_9, if_neg c12, if_neg c22] <;> rfl) hlt hP hD hS (lv_sub hl [1] rfl)
  refine lv_iload_n hx hb dX6_step_0 rfl (lv_at hl 0 rfl) ?_
  refine lv_iload_n hx hb dX6_step_1 rfl (lv_at hl 1 rfl) ?_
  refine lv_bipush (v := 8) hx hb dX6_step_2 (by decide) ?_
  refine lv_ishl hx hb dX6_step_4 ?_
  refine lv_ixor hx hb dX6_step_5 ?_
  refine lv_istore_n (lv' := [(2, .int (a1 ^^^ (a2 <<< ((8 : Int32) &&& 31)))), (0, .int a1), (1, .int a2)]) hx hb dX6_step_6 rfl hl (by decide) rfl (fun ls hl => ?_)
  refine lv_iconst (v := 0) hx hb dX6_step_7 (by decide) ?_
  refine lv_istore_n (lv' := [(3, .int 0), (2, .int (a1 ^^^ (a2 <<< ((8 : Int32) &&& 31)))), (0, .int a1), (1, .int a2)]) hx hb dX6_step_8 rfl hl (by decide) rfl (fun ls hl => ?_)
  exact h9 9 0 (a1 ^^^ (a2 <<< ((8 : Int32) &&& 31))) 0 _ _ ls (by rw [fX6_step] <;> rfl) (by decide) (by omega) (by omega) hP hD hS (lv_sub hl [1, 0] rfl)
-- FloppyDeskModel.isRight()Z
set_option maxHeartbeats 4000000 in
set_option maxRecDepth 100000 in
theorem c_X6_isRight (l : Launch) (G : va_G) (q : Nat → Nat) (k : Nat → ClassId) (sz : Nat) (z0 : fk_M) (g : Nat) (hg : z0.1 10 = nI g) (hg2 : 2 ≤ g) (hg4 : g ≤ 40) : fk_Mp l yX6_isRight wsX6_isRight ({ frames := 1, cells := 0, slots := 0, locals := 23 } : Room) G (fk_mW q k) (fk_mT k) [.ref (q 0)] sz z0 (fX6_isRight z0) := by
  refine fk_head (cc := cX6_isRight) (maxL := 3) (ret := (some .boolean)) (QQ := fun A => va_Qi (fun r (_ : Unit) => r = fX6_isRight z0) (fun _ => fk_At G (fk_mW q k) (fk_mT k) A z0) A) (by decide) rfl (Nat.le_of_ble_eq_true rfl) ?_ sz
  intro p e s m below meth c A ls hx hb hr hlk hml hown hts hK hN hA hP hD hS hl
  have hown : s.vm.findClass RX6 = some m.cls := hown
  have F9 : CallFix p m c cX6_isRight 3 s ([.ref (q 0)] : List Value).toArray wsX6_isRight RX6 := ⟨hx, hb, hml, hown, hts⟩
  have hl : lv_has ls 3 [(0, .ref (q 0))] := hl
  have hcst_27 := hts (.constant RX6 27 65535) (by decide +kernel)
  have hfl_13 := hts (.fieldLink RX6 13 "FloppyDeskModel" "bytes" "[I") (by decide +kernel)
  have hfl_32 := hts (.fieldLink RX6 32 "FloppyDeskModel" "began" "I") (by decide +kernel)
  have hfl_35 := hts (.fieldLink RX6 35 "FloppyDeskModel" "got" "I") (by decide +kernel)
  have hi_6 : ∀ w ∈ u_ws RX6 TX6 32, w ∈ wsX6_isRight := by decide +kernel
  have hgN : z0.1 10 - 2 = nI (g - 2) := by rw [hg, show (2 : Int32) = nI 2 from by decide]; exact pk_sub hg2
  have hgM : z0.1 10 - 1 = nI (g - 1) := by rw [hg, show (1 : Int32) = nI 1 from by decide]; exact pk_sub (by omega)
  have h35 : ∀ (n : Nat) (j : Nat) (x1 : Int32) (x2 : Int32) (H : Heap) (locs : List Loc) (ls : Array Slot), fX6_isRight z0 = fX6_isRight_35 n z0 x1 x2 → (x2 = nI j) → (j ≤ (g - 2)) → ((g - 2) + 1 ≤ j + n) → va_P G vwCl ((fk_mW q k) z0) H → va_D A ((fk_mW q k) z0) → va_S A s.heap H locs → lv_has ls 3 [(0, .ref (q 0)), (1, .int x1), (2, .int x2)] → W p l e ({ frames := 1, cells := 0, slots := 0, locals := 23 } : Room) s m ([.ref (q 0)] : List Value).toArray below meth c H locs 0 0 (MQ below (va_Qi (fun r (_ : Unit) => r = fX6_isRight z0) (fun _ => fk_At G (fk_mW q k) (fk_mT k) A z0) A) ([.ref (q 0)] : List Value).toArray s 0 0 A) (F0 m 35 ls []) := by
    intro n
    induction n with
    | zero =>
      intro j x1 x2 H locs ls hf hj hjN hfu hP hD hS hl
      exact absurd hfu (by omega)
    | succ n ih =>
      intro j x1 x2 H locs ls hf hj hjN hfu hP hD hS hl
      refine lv_iload_n hx hb dX6_isRight_35 rfl (lv_at hl 2 rfl) ?_
      refine lv_aload_n hx hb dX6_isRight_36 rfl (lv_at hl 0 rfl) ?_
      refine va_get (D := G) (ci := 6) (v := .int (z0.1 10)) (C := RX6) (T := TX6) (N := 32) hx hb hts hi_6 hown hK hP 0 rfl rfl 10 (by decide) hfl_35 (fun _ h9 => h9) rfl dX6_isRight_37 ?_
      refine lv_iconst (v := 2) hx hb dX6_isRight_40 (by decide) ?_
      refine lv_isub hx hb dX6_isRight_41 ?_
      refine lv_icmp_ge (tgt := 62) hx hb dX6_isRight_42 (by decide) (fun c42 => ?_) (fun c42 => ?_)
      · refine lv_aload_n hx hb dX6_isRight_62 rfl (lv_at hl 0 rfl) ?_
        refine va_get (D := G) (ci := 6) (v := .ref (q 2)) (C := RX6) (T := TX6) (N := 32) hx hb hts hi_6 hown hK hP 0 rfl rfl 11 (by decide) hfl_13 (fun _ h9 => h9) rfl dX6_isRight_63 ?_
        refine lv_aload_n hx hb dX6_isRight_66 rfl (lv_at hl 0 rfl) ?_
        refine va_get (D := G) (ci := 6) (v := .int (z0.1 10)) (C := RX6) (T := TX6) (N := 32) hx hb hts hi_6 hown hK hP 0 rfl rfl 10 (by decide) hfl_35 (fun _ h9 => h9) rfl dX6_isRight_67 ?_
        refine lv_iconst (v := 2) hx hb dX6_isRight_70 (by decide) ?_
        refine lv_isub hx hb dX6_isRight_71 ?_
        have hin_72 : vp_in ((z0.1 10) - 2) 40 := by rw [hgN]; exact vp_in_nI (by omega) (by decide)
        refine va_iald (f := z0.2.2.1) hx hb hK hP 2 1 rfl rfl hin_72 dX6_isRight_72 ?_
        refine lv_iload_n hx hb dX6_isRight_73 rfl (lv_at hl 1 rfl) ?_
        refine lv_bipush (v := 8) hx hb dX6_isRight_74 (by decide) ?_
        refine lv_ishr hx hb dX6_isRight_76 ?_
        refine lv_icmp_ne (tgt := 103) hx hb dX6_isRight_77 (by decide) (fun c77 => ?_) (fun c77 => ?_)
        · refine lv_iconst (v := 0) hx hb dX6_isRight_103 (by decide) ?_
          exact fk_pret hx hb hr hlk hK hP hD hS rfl (Eq.symm (by rw [hf, fX6_isRight_35, if_pos c42, if_neg c77] <;> rfl)) dX6_isRight_104
        · refine lv_aload_n hx hb dX6_isRight_80 rfl (lv_at hl 0 rfl) ?_
          refine va_get (D := G) (ci := 6) (v := .ref (q 2)) (C := RX6) (T := TX6) (N := 32) hx hb hts hi_6 hown hK hP 0 rfl rfl 11 (by decide) hfl_13 (fun _ h9 => h9) rfl dX6_isRight_81 ?_
          refine lv_aload_n hx hb dX6_isRight_84 rfl (lv_at hl 0 rfl) ?_
          refine va_get (D := G) (ci := 6) (v := .int (z0.1 10)) (C := RX6) (T := TX6) (N := 32) hx hb hts hi_6 hown hK hP 0 rfl rfl 10 (by decide) hfl_35 (fun _ h9 => h9) rfl dX6_isRight_85 ?_
          refine lv_iconst (v := 1) hx hb dX6_isRight_88 (by decide) ?_
          refine lv_isub hx hb dX6_isRight_89 ?_
          have hin_90 : vp_in ((z0.1 10) - 1) 40 := by rw [hgM]; exact vp_in_nI (by omega) (by decide)
          refine va_iald (f := z0.2.2.1) hx hb hK hP 2 1 rfl rfl hin_90 dX6_isRight_90 ?_
          refine lv_iload_n hx hb dX6_isRight_91 rfl (lv_at hl 1 rfl) ?_
          refine lv_sipush (v := 255) hx hb dX6_isRight_92 (by decide) ?_
          refine lv_iand hx hb dX6_isRight_95 ?_
          refine lv_icmp_ne (tgt := 103) hx hb dX6_isRight_96 (by decide) (fun c96 => ?_) (fun c96 => ?_)
          · refine lv_iconst (v := 0) hx hb dX6_isRight_103 (by decide) ?_
            exact fk_pret hx hb hr hlk hK hP hD hS rfl (Eq.symm (by rw [hf, fX6_isRight_35, if_pos c42, if_pos c77, if_neg c96] <;> rfl)) dX6_isRight_104
          · refine lv_iconst (v := 1) hx hb dX6_isRight_99 (by decide) ?_
            refine lv_goto (tgt := 104) hx hb dX6_isRight_100 (by decide) ?_
            exact fk_pret hx hb hr hlk hK hP hD hS rfl (Eq.symm (by rw [hf, fX6_isRight_35, if_pos c42, if_pos c77, if_pos c96] <;> rfl)) dX6_isRight_104
      · have hlt : j < (g - 2) := fk_up hj hgN (by omega) c42
        refine lv_iload_n hx hb dX6_isRight_45 rfl (lv_at hl 1 rfl) ?_
        refine lv_aload_n hx hb dX6_isRight_46 rfl (lv_at hl 0 rfl) ?_
        refine va_get (D := G) (ci := 6) (v := .ref (q 2)) (C := RX6) (T := TX6) (N := 32) hx hb hts hi_6 hown hK hP 0 rfl rfl 11 (by decide) hfl_13 (fun _ h9 => h9) rfl dX6_isRight_47 ?_
        refine lv_iload_n hx hb dX6_isRight_50 rfl (lv_at hl 2 rfl) ?_
        have hin_51 : vp_in x2 40 := by rw [hj]; exact vp_in_nI (by omega) (by decide)
        refine va_iald (f := z0.2.2.1) hx hb hK hP 2 1 rfl rfl hin_51 dX6_isRight_51 ?_
        refine fk_Sp (Wd := (fk_mW q k)) (z := z0) (As := [.int x1, .int (z0.2.2.1 x2.toNatClampNeg)]) (rest := []) F9 (c_X6_step l G q k _ z0 x1 (z0.2.2.1 x2.toNatClampNeg)) (va_cwS 2 hts gX6_isRight_X6_step rfl rfl rfl (by decide +kernel) ⟨Nat.le_of_ble_eq_true rfl, Nat.le_of_ble_eq_true rfl⟩) hK hP hD hS hA hN rfl hl.1 rfl (Nat.le_of_ble_eq_true rfl) dX6_isRight_52 ⟨Nat.zero_le _, Nat.zero_le _⟩ (fun H locs hP hD hS => ?_)
        refine lv_istore_n (lv' := [(1, .int (fX6_step x1 (z0.2.2.1 x2.toNatClampNeg))), (0, .ref (q 0)), (2, .int x2)]) hx hb dX6_isRight_55 rfl hl (by decide) rfl (fun ls hl => ?_)
        refine lv_iinc (v := x2 + 1) (lv' := [(2, .int (x2 + 1)), (1, .int (fX6_step x1 (z0.2.2.1 x2.toNatClampNeg))), (0, .ref (q 0))]) hx hb dX6_isRight_56 hl (k := 2) rfl (by rfl) (by decide) rfl (fun ls hl => ?_)
        refine lv_goto (tgt := 35) hx hb dX6_isRight_59 (by decide) ?_
        exact ih (j + 1) (fX6_step x1 (z0.2.2.1 x2.toNatClampNeg)) (x2 + 1) _ _ ls (by rw [hf, fX6_isRight_35, if_neg c42] <;> rfl) (fk_up1 hj) (by omega) (by omega) hP hD hS (lv_sub hl [2, 1, 0] rfl)
  have h5 : ∀ (n : Nat) (j : Nat) (x1 : Int32) (x2 : Int32) (H : Heap) (locs : List Loc) (ls : Array Slot), fX6_isRight z0 = fX6_isRight_5 n z0 x1 x2 → (x2 = nI j) → (j ≤ 3) → (3 + 1 ≤ j + n) → va_P G vwCl ((fk_mW q k) z0) H → va_D A ((fk_mW q k) z0) → va_S A s.heap H locs → lv_has ls 3 [(0, .ref (q 0)), (1, .int x1), (2, .int x2)] → W p l e ({ frames := 1, cells := 0, slots := 0, locals := 23 } : Room) s m ([.ref (q 0)] : List Value).toArray below meth c H locs 0 0 (MQ below (va_Qi (fun r (_ : Unit) => r = fX6_isRight z0) (fun _ => fk_At G (fk_mW q k) (fk_mT k) A z0) A) ([.ref (q 0)] : List Value).toArray s 0 0 A) (F0 m 5 ls []) := by
    intro n
    induction n with
    | zero =>
      intro j x1 x2 H locs ls hf hj hjN hfu hP hD hS hl
      exact absurd hfu (by omega)
    | succ n ih =>
      intro j x1 x2 H locs ls hf hj hjN hfu hP hD hS hl
      refine lv_iload_n hx hb dX6_isRight_5 rfl (lv_at hl 2 rfl) ?_
      refine lv_iconst (v := 3) hx hb dX6_isRight_6 (by decide) ?_
      refine lv_icmp_ge (tgt := 24) hx hb dX6_isRight_7 (by decide) (fun c7 => ?_) (fun c7 => ?_)
      · refine lv_iload_n hx hb dX6_isRight_24 rfl (lv_at hl 1 rfl) ?_
        refine lv_aload_n hx hb dX6_isRight_25 rfl (lv_at hl 0 rfl) ?_
        refine va_get (D := G) (ci := 6) (v := .int (z0.1 9)) (C := RX6) (T := TX6) (N := 32) hx hb hts hi_6 hown hK hP 0 rfl rfl 9 (by decide) hfl_32 (fun _ h9 => h9) rfl dX6_isRight_26 ?_
        refine fk_Sp (Wd := (fk_mW q k)) (z := z0) (As := [.int x1, .int (z0.1 9)]) (rest := []) F9 (c_X6_step l G q k _ z0 x1 (z0.1 9)) (va_cwS 2 hts gX6_isRight_X6_step rfl rfl rfl (by decide +kernel) ⟨Nat.le_of_ble_eq_true rfl, Nat.le_of_ble_eq_true rfl⟩) hK hP hD hS hA hN rfl hl.1 rfl (Nat.le_of_ble_eq_true rfl) dX6_isRight_29 ⟨Nat.zero_le _, Nat.zero_le _⟩ (fun H locs hP hD hS => ?_)
        refine lv_istore_n (lv' := [(1, .int (fX6_step x1 (z0.1 9))), (0, .ref (q 0)), (2, .int x2)]) hx hb dX6_isRight_32 rfl hl (by decide) rfl (fun ls hl => ?_)
        refine lv_iconst (v := 0) hx hb dX6_isRight_33 (by decide) ?_
        refine lv_istore_n (lv' := [(2, .int 0), (1, .int (fX6_step x1 (z0.1 9))), (0, .ref (q 0))]) hx hb dX6_isRight_34 rfl hl (by decide) rfl (fun ls hl => ?_)
        exact h35 41 0 (fX6_step x1 (z0.1 9)) 0 _ _ ls (by rw [hf, fX6_isRight_5, if_pos c7] <;> rfl) (by decide) (by omega) (by omega) hP hD hS (lv_sub hl [2, 1, 0] rfl)
      · have hlt : j < 3 := fk_up hj (by decide) (by omega) c7
        refine lv_iload_n hx hb dX6_isRight_10 rfl (lv_at hl 1 rfl) ?_
        refine lv_sipush (v := 161) hx hb dX6_isRight_11 (by decide) ?_
        refine fk_Sp (Wd := (fk_mW q k)) (z := z0) (As := [.int x1, .int 161]) (rest := []) F9 (c_X6_step l G q k _ z0 x1 161) (va_cwS 2 hts gX6_isRight_X6_step rfl rfl rfl (by decide +kernel) ⟨Nat.le_of_ble_eq_true rfl, Nat.le_of_ble_eq_true rfl⟩) hK hP hD hS hA hN rfl hl.1 rfl (Nat.le_of_ble_eq_true rfl) dX6_isRight_14 ⟨Nat.zero_le _, Nat.zero_le _⟩ (fun H locs hP hD hS => ?_)
        refine lv_istore_n (lv' := [(1, .int (fX6_step x1 161)), (0, .ref (q 0)), (2, .int x2)]) hx hb dX6_isRight_17 rfl hl (by decide) rfl (fun ls hl => ?_)
        refine lv_iinc (v := x2 + 1) (lv' := [(2, .int (x2 + 1)), (1, .int (fX6_step x1 161)), (0, .ref (q 0))]) hx hb dX6_isRight_18 hl (k := 2) rfl (by rfl) (by decide) rfl (fun ls hl => ?_)
        refine lv_goto (tgt := 5) hx hb dX6_isRight_21 (by decide) ?_
        exact ih (j + 1) (fX6_step x1 161) (x2 + 1) _ _ ls (by rw [hf, fX6_isRight_5, if_neg c7] <;> rfl) (fk_up1 hj) (by omega) (by omega) hP hD hS (lv_sub hl [2, 1, 0] rfl)
  refine lv_ldc (own := RX6) (v := 65535) hx hb hown hcst_27 dX6_isRight_0 ?_
  refine lv_istore_n (lv' := [(1, .int 65535), (0, .ref (q 0))]) hx hb dX6_isRight_2 rfl hl (by decide) rfl (fun ls hl => ?_)
  refine lv_iconst (v := 0) hx hb dX6_isRight_3 (by decide) ?_
  refine lv_istore_n (lv' := [(2, .int 0), (1, .int 65535), (0, .ref (q 0))]) hx hb dX6_isRight_4 rfl hl (by decide) rfl (fun ls hl => ?_)
  exact h5 4 0 65535 0 _ _ ls (by rw [fX6_isRight] <;> rfl) (by decide) (by omega) (by omega) hP hD hS (lv_sub hl [2, 1, 0] rfl)
-- FloppyDeskModel.raise(I)V
set_option maxHeartbeats 4000000 in
set_option maxRecDepth 100000 in
theorem c_X6_raise (l : Launch) (G : va_G) (q : Nat → Nat) (k : Nat → ClassId) (sz : Nat) (z0 : fk_M) (a1 : Int32) : fk_Mv l yX6_raise wsX6_raise ({ frames := 0, cells := 0, slots := 0, locals := 0 } : Room) G (fk_mW q k) (fk_mT k) [.ref (q 0), .int a1] sz z0 (fX6_raise z0 a1) := by
  refine fk_head (cc := cX6_raise) (maxL := 2) (ret := none) (QQ := fun A => va_Qv (fun z1 => z1 = fX6_raise z0 a1) (fk_At G (fk_mW q k) (fk_mT k) A) A) (by decide) rfl (Nat.le_of_ble_eq_true rfl) ?_ sz
  intro p e s m below meth c A ls hx hb hr hlk hml hown hts hK hN hA hP hD hS hl
  have hown : s.vm.findClass RX6 = some m.cls := hown
  have F9 : CallFix p m c cX6_raise 2 s ([.ref (q 0), .int a1] : List Value).toArray wsX6_raise RX6 := ⟨hx, hb, hml, hown, hts⟩
  have hl : lv_has ls 2 [(0, .ref (q 0)), (1, .int a1)] := hl
  have hfl_38 := hts (.fieldLink RX6 38 "FloppyDeskModel" "status" "I") (by decide +kernel)
  have hi_6 : ∀ w ∈ u_ws RX6 TX6 32, w ∈ wsX6_raise := by decide +kernel
  refine lv_aload_n hx hb dX6_raise_0 rfl (lv_at hl 0 rfl) ?_
  refine lv_aload_n hx hb dX6_raise_1 rfl (lv_at hl 0 rfl) ?_
  refine va_get (D := G) (ci := 6) (v := .int (z0.1 16)) (C := RX6) (T := TX6) (N := 32) hx hb hts hi_6 hown hK hP 0 rfl rfl 16 (by decide) hfl_38 (fun _ h9 => h9) rfl dX6_raise_2 ?_
  refine lv_iload_n hx hb dX6_raise_5 rfl (lv_at hl 1 rfl) ?_
  refine lv_ior hx hb dX6_raise_6 ?_
  refine va_put (D := G) (ci := 6) (v := .int ((z0.1 16) ||| a1)) (ty := .int) (C := RX6) (T := TX6) (N := 32) hx hb hts hi_6 tyX6 tyX6_ok nmX6 hown hK hP hD hS 0 rfl rfl 16 (by decide) hfl_38 (fun _ h9 => h9) rfl (by decide +kernel) rfl rfl (Nat.le_of_ble_eq_true rfl) dX6_raise_7 (fun H locs hP hD hS => ?_)
  have hP : va_P G vwCl ((fk_mW q k) (upd z0.1 16 ((z0.1 16) ||| a1), z0.2)) H := hP
  have hD : va_D A ((fk_mW q k) (upd z0.1 16 ((z0.1 16) ||| a1), z0.2)) := hD
  exact fk_vret hx hb hr hlk hK hP hD hS (Eq.symm (by rw [fX6_raise] <;> rfl)) dX6_raise_10
-- FloppyDeskModel.drop(I)V
set_option maxHeartbeats 4000000 in
set_option maxRecDepth 100000 in
theorem c_X6_drop (l : Launch) (G : va_G) (q : Nat → Nat) (k : Nat → ClassId) (sz : Nat) (z0 : fk_M) (a1 : Int32) : fk_Mv l yX6_drop wsX6_drop ({ frames := 0, cells := 0, slots := 0, locals := 0 } : Room) G (fk_mW q k) (fk_mT k) [.ref (q 0), .int a1] sz z0 (fX6_drop z0 a1) := by
  refine fk_head (cc := cX6_drop) (maxL := 2) (ret := none) (QQ := fun A => va_Qv (fun z1 => z1 = fX6_drop z0 a1) (fk_At G (fk_mW q k) (fk_mT k) A) A) (by decide) rfl (Nat.le_of_ble_eq_true rfl) ?_ sz
  intro p e s m below meth c A ls hx hb hr hlk hml hown hts hK hN hA hP hD hS hl
  have hown : s.vm.findClass RX6 = some m.cls := hown
  have F9 : CallFix p m c cX6_drop 2 s ([.ref (q 0), .int a1] : List Value).toArray wsX6_drop RX6 := ⟨hx, hb, hml, hown, hts⟩
  have hl : lv_has ls 2 [(0, .ref (q 0)), (1, .int a1)] := hl
  have hfl_38 := hts (.fieldLink RX6 38 "FloppyDeskModel" "status" "I") (by decide +kernel)
  have hi_6 : ∀ w ∈ u_ws RX6 TX6 32, w ∈ wsX6_drop := by decide +kernel
  refine lv_aload_n hx hb dX6_drop_0 rfl (lv_at hl 0 rfl) ?_
  refine lv_aload_n hx hb dX6_drop_1 rfl (lv_at hl 0 rfl) ?_
  refine va_get (D := G) (ci := 6) (v := .int (z0.1 16)) (C := RX6) (T := TX6) (N := 32) hx hb hts hi_6 hown hK hP 0 rfl rfl 16 (by decide) hfl_38 (fun _ h9 => h9) rfl dX6_drop_2 ?_
  refine lv_iload_n hx hb dX6_drop_5 rfl (lv_at hl 1 rfl) ?_
  refine lv_iconst (v := (-1)) hx hb dX6_drop_6 (by decide) ?_
  refine lv_ixor hx hb dX6_drop_7 ?_
  refine lv_iand hx hb dX6_drop_8 ?_
  refine va_put (D := G) (ci := 6) (v := .int ((z0.1 16) &&& (a1 ^^^ (-1)))) (ty := .int) (C := RX6) (T := TX6) (N := 32) hx hb hts hi_6 tyX6 tyX6_ok nmX6 hown hK hP hD hS 0 rfl rfl 16 (by decide) hfl_38 (fun _ h9 => h9) rfl (by decide +kernel) rfl rfl (Nat.le_of_ble_eq_true rfl) dX6_drop_9 (fun H locs hP hD hS => ?_)
  have hP : va_P G vwCl ((fk_mW q k) (upd z0.1 16 ((z0.1 16) &&& (a1 ^^^ (-1))), z0.2)) H := hP
  have hD : va_D A ((fk_mW q k) (upd z0.1 16 ((z0.1 16) &&& (a1 ^^^ (-1))), z0.2)) := hD
  exact fk_vret hx hb hr hlk hK hP hD hS (Eq.symm (by rw [fX6_drop] <;> rfl)) dX6_drop_12
-- FloppyDeskModel.has(I)Z
set_option maxHeartbeats 4000000 in
set_option maxRecDepth 100000 in
theorem c_X6_has (l : Launch) (G : va_G) (q : Nat → Nat) (k : Nat → ClassId) (sz : Nat) (z0 : fk_M) (a1 : Int32) : fk_Mp l yX6_has wsX6_has ({ frames := 0, cells := 0, slots := 0, locals := 0 } : Room) G (fk_mW q k) (fk_mT k) [.ref (q 0), .int a1] sz z0 (fX6_has z0 a1) := by
  refine fk_head (cc := cX6_has) (maxL := 2) (ret := (some .boolean)) (QQ := fun A => va_Qi (fun r (_ : Unit) => r = fX6_has z0 a1) (fun _ => fk_At G (fk_mW q k) (fk_mT k) A z0) A) (by decide) rfl (Nat.le_of_ble_eq_true rfl) ?_ sz
  intro p e s m below meth c A ls hx hb hr hlk hml hown hts hK hN hA hP hD hS hl
  have hown : s.vm.findClass RX6 = some m.cls := hown
  have F9 : CallFix p m c cX6_has 2 s ([.ref (q 0), .int a1] : List Value).toArray wsX6_has RX6 := ⟨hx, hb, hml, hown, hts⟩
  have hl : lv_has ls 2 [(0, .ref (q 0)), (1, .int a1)] := hl
  have hfl_38 := hts (.fieldLink RX6 38 "FloppyDeskModel" "status" "I") (by decide +kernel)
  have hi_6 : ∀ w ∈ u_ws RX6 TX6 32, w ∈ wsX6_has := by decide +kernel
  refine lv_aload_n hx hb dX6_has_0 rfl (lv_at hl 0 rfl) ?_
  refine va_get (D := G) (ci := 6) (v := .int (z0.1 16)) (C := RX6) (T := TX6) (N := 32) hx hb hts hi_6 hown hK hP 0 rfl rfl 16 (by decide) hfl_38 (fun _ h9 => h9) rfl dX6_has_1 ?_
  refine lv_iload_n hx hb dX6_has_4 rfl (lv_at hl 1 rfl) ?_
  refine lv_iand hx hb dX6_has_5 ?_
  refine lv_if_eq (tgt := 13) hx hb dX6_has_6 (by decide) (fun c6 => ?_) (fun c6 => ?_)
  · refine lv_iconst (v := 0) hx hb dX6_has_13 (by decide) ?_
    exact fk_pret hx hb hr hlk hK hP hD hS rfl (Eq.symm (by rw [fX6_has, if_pos c6] <;> rfl)) dX6_has_14
  · refine lv_iconst (v := 1) hx hb dX6_has_9 (by decide) ?_
    refine lv_goto (tgt := 14) hx hb dX6_has_10 (by decide) ?_
    exact fk_pret hx hb hr hlk hK hP hD hS rfl (Eq.symm (by rw [fX6_has, if_neg c6] <;> rfl)) dX6_has_14
-- FloppyDeskModel.reset()V
set_option maxHeartbeats 4000000 in
set_option maxRecDepth 100000 in
theorem c_X6_reset (l : Launch) (G : va_G) (q : Nat → Nat) (k : Nat → ClassId) (sz : Nat) (z0 : fk_M) : fk_Mv l yX6_reset wsX6_reset ({ frames := 0, cells := 0, slots := 0, locals := 0 } : Room) G (fk_mW q k) (fk_mT k) [.ref (q 0)] sz z0 (fX6_reset z0) := by
  refine fk_head (cc := cX6_reset) (maxL := 1) (ret := none) (QQ := fun A => va_Qv (fun z1 => z1 = fX6_reset z0) (fk_At G (fk_mW q k) (fk_mT k) A) A) (by decide) rfl (Nat.le_of_ble_eq_true rfl) ?_ sz
  intro p e s m below meth c A ls hx hb hr hlk hml hown hts hK hN hA hP hD hS hl
  have hown : s.vm.findClass RX6 = some m.cls := hown
  have F9 : CallFix p m c cX6_reset 1 s ([.ref (q 0)] : List Value).toArray wsX6_reset RX6 := ⟨hx, hb, hml, hown, hts⟩
  have hl : lv_has ls 1 [(0, .ref (q 0))] := hl
  have hfl_41 := hts (.fieldLink RX6 41 "FloppyDeskModel" "inStep" "Z") (by decide +kernel)
  have hfl_45 := hts (.fieldLink RX6 45 "FloppyDeskModel" "marks" "I") (by decide +kernel)
  have hfl_48 := hts (.fieldLink RX6 48 "FloppyDeskModel" "field" "I") (by decide +kernel)
  have hi_6 : ∀ w ∈ u_ws RX6 TX6 32, w ∈ wsX6_reset := by decide +kernel
  refine lv_aload_n hx hb dX6_reset_0 rfl (lv_at hl 0 rfl) ?_
  refine lv_iconst (v := 0) hx hb dX6_reset_1 (by decide) ?_
  refine va_put (D := G) (ci := 6) (v := .int 0) (ty := .boolean) (C := RX6) (T := TX6) (N := 32) hx hb hts hi_6 tyX6 tyX6_ok nmX6 hown hK hP hD hS 0 rfl rfl 5 (by decide) hfl_41 (fun _ h9 => h9) rfl (by decide +kernel) rfl rfl (Nat.le_of_ble_eq_true rfl) dX6_reset_2 (fun H locs hP hD hS => ?_)
  have hP : va_P G vwCl ((fk_mW q k) (upd z0.1 5 0, z0.2)) H := hP
  have hD : va_D A ((fk_mW q k) (upd z0.1 5 0, z0.2)) := hD
  refine lv_aload_n hx hb dX6_reset_5 rfl (lv_at hl 0 rfl) ?_
  refine lv_iconst (v := 0) hx hb dX6_reset_6 (by decide) ?_
  refine va_put (D := G) (ci := 6) (v := .int 0) (ty := .int) (C := RX6) (T := TX6) (N := 32) hx hb hts hi_6 tyX6 tyX6_ok nmX6 hown hK hP hD hS 0 rfl rfl 6 (by decide) hfl_45 (fun _ h9 => h9) rfl (by decide +kernel) rfl rfl (Nat.le_of_ble_eq_true rfl) dX6_reset_7 (fun H locs hP hD hS => ?_)
  have hP : va_P G vwCl ((fk_mW q k) (upd (upd z0.1 5 0) 6 0, z0.2)) H := hP
  have hD : va_D A ((fk_mW q k) (upd (upd z0.1 5 0) 6 0, z0.2)) := hD
  refine lv_aload_n hx hb dX6_reset_10 rfl (lv_at hl 0 rfl) ?_
  refine lv_iconst (v := 0) hx hb dX6_reset_11 (by decide) ?_
  refine va_put (D := G) (ci := 6) (v := .int 0) (ty := .int) (C := RX6) (T := TX6) (N := 32) hx hb hts hi_6 tyX6 tyX6_ok nmX6 hown hK hP hD hS 0 rfl rfl 8 (by decide) hfl_48 (fun _ h9 => h9) rfl (by decide +kernel) rfl rfl (Nat.le_of_ble_eq_true rfl) dX6_reset_12 (fun H locs hP hD hS => ?_)
  have hP : va_P G vwCl ((fk_mW q k) (upd (upd (upd z0.1 5 0) 6 0) 8 0, z0.2)) H := hP
  have hD : va_D A ((fk_mW q k) (upd (upd (upd z0.1 5 0) 6 0) 8 0, z0.2)) := hD
  exact fk_vret hx hb hr hlk hK hP hD hS (Eq.symm (by rw [fX6_reset] <;> rfl)) dX6_reset_15
-- FloppyDeskModel.end()V
set_option maxHeartbeats 4000000 in
set_option maxRecDepth 100000 in
theorem c_X6_end (l : Launch) (G : va_G) (q : Nat → Nat) (k : Nat → ClassId) (sz : Nat) (z0 : fk_M) : fk_Mv l yX6_end wsX6_end ({ frames := 1, cells := 0, slots := 0, locals := 21 } : Room) G (fk_mW q k) (fk_mT k) [.ref (q 0)] sz z0 (fX6_end z0) := by
  refine fk_head (cc := cX6_end) (maxL := 1) (ret := none) (QQ := fun A => va_Qv (fun z1 => z1 = fX6_end z0) (fk_At G (fk_mW q k) (fk_mT k) A) A) (by decide) rfl (Nat.le_of_ble_eq_true rfl) ?_ sz
  intro p e s m below meth c A ls hx hb hr hlk hml hown hts hK hN hA hP hD hS hl
  have hown : s.vm.findClass RX6 = some m.cls := hown
  have F9 : CallFix p m c cX6_end 1 s ([.ref (q 0)] : List Value).toArray wsX6_end RX6 := ⟨hx, hb, hml, hown, hts⟩
  have hl : lv_has ls 1 [(0, .ref (q 0))] := hl
  have hfl_55 := hts (.fieldLink RX6 55 "FloppyDeskModel" "phase" "I") (by decide +kernel)
  have hfl_58 := hts (.fieldLink RX6 58 "FloppyDeskModel" "window" "I") (by decide +kernel)
  have hi_6 : ∀ w ∈ u_ws RX6 TX6 32, w ∈ wsX6_end := by decide +kernel
  refine lv_aload_n hx hb dX6_end_0 rfl (lv_at hl 0 rfl) ?_
  refine lv_iconst (v := 1) hx hb dX6_end_1 (by decide) ?_
  refine fk_Vv (Wd := (fk_mW q k)) (z := z0) (As := [.int 1]) (rest := []) F9 (c_X6_drop l G q k _ z0 1) (cwV 1 hts gX6_end_X6_drop rfl rfl rfl (by decide +kernel) ⟨Nat.le_of_ble_eq_true rfl, Nat.le_of_ble_eq_true rfl⟩) (va_recv hK hP (ci := 6) (q0 := 0) rfl rfl) hK hP hD hS hA hN rfl hl.1 rfl (Nat.le_of_ble_eq_true rfl) dX6_end_2 ⟨Nat.zero_le _, Nat.zero_le _⟩ (fun z H locs hw hP hD hS => ?_)
  have hf : fX6_end z0 = fX6_end_c1 z := by rw [fX6_end, ← hw] <;> rfl
  refine lv_aload_n hx hb dX6_end_5 rfl (lv_at hl 0 rfl) ?_
  refine lv_iconst (v := 2) hx hb dX6_end_6 (by decide) ?_
  refine fk_Vv (Wd := (fk_mW q k)) (z := z) (As := [.int 2]) (rest := []) F9 (c_X6_drop l G q k _ z 2) (cwV 1 hts gX6_end_X6_drop rfl rfl rfl (by decide +kernel) ⟨Nat.le_of_ble_eq_true rfl, Nat.le_of_ble_eq_true rfl⟩) (va_recv hK hP (ci := 6) (q0 := 0) rfl rfl) hK hP hD hS hA hN rfl hl.1 rfl (Nat.le_of_ble_eq_true rfl) dX6_end_7 ⟨Nat.zero_le _, Nat.zero_le _⟩ (fun z H locs hw hP hD hS => ?_)
  have hf : fX6_end z0 = fX6_end_c2 z := by rw [hf, fX6_end_c1, ← hw] <;> rfl
  refine lv_aload_n hx hb dX6_end_10 rfl (lv_at hl 0 rfl) ?_
  refine va_get (D := G) (ci := 6) (v := .int (z.1 19)) (C := RX6) (T := TX6) (N := 32) hx hb hts hi_6 hown hK hP 0 rfl rfl 19 (by decide) hfl_55 (fun _ h9 => h9) rfl dX6_end_11 ?_
  refine lv_bipush (v := 6) hx hb dX6_end_14 (by decide) ?_
  refine lv_icmp_eq (tgt := 28) hx hb dX6_end_16 (by decide) (fun c16 => ?_) (fun c16 => ?_)
  · refine lv_aload_n hx hb dX6_end_28 rfl (lv_at hl 0 rfl) ?_
    refine lv_iconst (v := 0) hx hb dX6_end_29 (by decide) ?_
    refine va_put (D := G) (ci := 6) (v := .int 0) (ty := .int) (C := RX6) (T := TX6) (N := 32) hx hb hts hi_6 tyX6 tyX6_ok nmX6 hown hK hP hD hS 0 rfl rfl 4 (by decide) hfl_58 (fun _ h9 => h9) rfl (by decide +kernel) rfl rfl (Nat.le_of_ble_eq_true rfl) dX6_end_30 (fun H locs hP hD hS => ?_)
    have hP : va_P G vwCl ((fk_mW q k) (upd z.1 4 0, z.2)) H := hP
    have hD : va_D A ((fk_mW q k) (upd z.1 4 0, z.2)) := hD
    refine lv_aload_n hx hb dX6_end_33 rfl (lv_at hl 0 rfl) ?_
    refine lv_iconst (v := 0) hx hb dX6_end_34 (by decide) ?_
    refine va_put (D := G) (ci := 6) (v := .int 0) (ty := .int) (C := RX6) (T := TX6) (N := 32) hx hb hts hi_6 tyX6 tyX6_ok nmX6 hown hK hP hD hS 0 rfl rfl 19 (by decide) hfl_55 (fun _ h9 => h9) rfl (by decide +kernel) rfl rfl (Nat.le_of_ble_eq_true rfl) dX6_end_35 (fun H locs hP hD hS => ?_)
    have hP : va_P G vwCl ((fk_mW q k) (upd (upd z.1 4 0) 19 0, z.2)) H := hP
    have hD : va_D A ((fk_mW q k) (upd (upd z.1 4 0) 19 0, z.2)) := hD
    exact fk_vret hx hb hr hlk hK hP hD hS (Eq.symm (by rw [hf, fX6_end_c2, if_pos c16] <;> rfl)) dX6_end_38
  · refine lv_aload_n hx hb dX6_end_19 rfl (lv_at hl 0 rfl) ?_
    refine va_get (D := G) (ci := 6) (v := .int (z.1 19)) (C := RX6) (T := TX6) (N := 32) hx hb hts hi_6 hown hK hP 0 rfl rfl 19 (by decide) hfl_55 (fun _ h9 => h9) rfl dX6_end_20 ?_
    refine lv_bipush (v := 8) hx hb dX6_end_23 (by decide) ?_
    refine lv_icmp_ne (tgt := 33) hx hb dX6_end_25 (by decide) (fun c25 => ?_) (fun c25 => ?_)
    · refine lv_aload_n hx hb dX6_end_33 rfl (lv_at hl 0 rfl) ?_
      refine lv_iconst (v := 0) hx hb dX6_end_34 (by decide) ?_
      refine va_put (D := G) (ci := 6) (v := .int 0) (ty := .int) (C := RX6) (T := TX6) (N := 32) hx hb hts hi_6 tyX6 tyX6_ok nmX6 hown hK hP hD hS 0 rfl rfl 19 (by decide) hfl_55 (fun _ h9 => h9) rfl (by decide +kernel) rfl rfl (Nat.le_of_ble_eq_true rfl) dX6_end_35 (fun H locs hP hD hS => ?_)
      have hP : va_P G vwCl ((fk_mW q k) (upd z.1 19 0, z.2)) H := hP
      have hD : va_D A ((fk_mW q k) (upd z.1 19 0, z.2)) := hD
      exact fk_vret hx hb hr hlk hK hP hD hS (Eq.symm (by rw [hf, fX6_end_c2, if_neg c16, if_neg c25] <;> rfl)) dX6_end_38
    · refine lv_aload_n hx hb dX6_end_28 rfl (lv_at hl 0 rfl) ?_
      refine lv_iconst (v := 0) hx hb dX6_end_29 (by decide) ?_
      refine va_put (D := G) (ci := 6) (v := .int 0) (ty := .int) (C := RX6) (T := TX6) (N := 32) hx hb hts hi_6 tyX6 tyX6_ok nmX6 hown hK hP hD hS 0 rfl rfl 4 (by decide) hfl_58 (fun _ h9 => h9) rfl (by decide +kernel) rfl rfl (Nat.le_of_ble_eq_true rfl) dX6_end_30 (fun H locs hP hD hS => ?_)
      have hP : va_P G vwCl ((fk_mW q k) (upd z.1 4 0, z.2)) H := hP
      have hD : va_D A ((fk_mW q k) (upd z.1 4 0, z.2)) := hD
      refine lv_aload_n hx hb dX6_end_33 rfl (lv_at hl 0 rfl) ?_
      refine lv_iconst (v := 0) hx hb dX6_end_34 (by decide) ?_
      refine va_put (D := G) (ci := 6) (v := .int 0) (ty := .int) (C := RX6) (T := TX6) (N := 32) hx hb hts hi_6 tyX6 tyX6_ok nmX6 hown hK hP hD hS 0 rfl rfl 19 (by decide) hfl_55 (fun _ h9 => h9) rfl (by decide +kernel) rfl rfl (Nat.le_of_ble_eq_true rfl) dX6_end_35 (fun H locs hP hD hS => ?_)
      have hP : va_P G vwCl ((fk_mW q k) (upd (upd z.1 4 0) 19 0, z.2)) H := hP
      have hD : va_D A ((fk_mW q k) (upd (upd z.1 4 0) 19 0, z.2)) := hD
      exact fk_vret hx hb hr hlk hK hP hD hS (Eq.symm (by rw [hf, fX6_end_c2, if_neg c16, if_pos c25] <;> rfl)) dX6_end_38
-- FloppyDeskModel.receive(I)V
set_option maxHeartbeats 4000000 in
set_option maxRecDepth 100000 in
theorem c_X6_receive (l : Launch) (G : va_G) (q : Nat → Nat) (k : Nat → ClassId) (sz : Nat) (z0 : fk_M) (a1 : Int32) : fk_Mv l yX6_receive wsX6_receive ({ frames := 1, cells := 0, slots := 0, locals := 21 } : Room) G (fk_mW q k) (fk_mT k) [.ref (q 0), .int a1] sz z0 (fX6_receive z0 a1) := by
  refine fk_head (cc := cX6_receive) (maxL := 2) (ret := none) (QQ := fun A => va_Qv (fun z1 => z1 = fX6_receive z0 a1) (fk_At G (fk_mW q k) (fk_mT k) A) A) (by decide) rfl (Nat.le_of_ble_eq_true rfl) ?_ sz
  intro p e s m below meth c A ls hx hb hr hlk hml hown hts hK hN hA hP hD hS hl
  have hown : s.vm.findClass RX6 = some m.cls := hown
  have F9 : CallFix p m c cX6_receive 2 s ([.ref (q 0), .int a1] : List Value).toArray wsX6_receive RX6 := ⟨hx, hb, hml, hown, hts⟩
  have hl : lv_has ls 2 [(0, .ref (q 0)), (1, .int a1)] := hl
  have hfl_61 := hts (.fieldLink RX6 61 "FloppyDeskModel" "data" "I") (by decide +kernel)
  have hi_6 : ∀ w ∈ u_ws RX6 TX6 32, w ∈ wsX6_receive := by decide +kernel
  refine lv_aload_n hx hb dX6_receive_0 rfl (lv_at hl 0 rfl) ?_
  refine lv_iload_n hx hb dX6_receive_1 rfl (lv_at hl 1 rfl) ?_
  refine va_put (D := G) (ci := 6) (v := .int a1) (ty := .int) (C := RX6) (T := TX6) (N := 32) hx hb hts hi_6 tyX6 tyX6_ok nmX6 hown hK hP hD hS 0 rfl rfl 15 (by decide) hfl_61 (fun _ h9 => h9) rfl (by decide +kernel) rfl rfl (Nat.le_of_ble_eq_true rfl) dX6_receive_2 (fun H locs hP hD hS => ?_)
  have hP : va_P G vwCl ((fk_mW q k) (upd z0.1 15 a1, z0.2)) H := hP
  have hD : va_D A ((fk_mW q k) (upd z0.1 15 a1, z0.2)) := hD
  refine lv_aload_n hx hb dX6_receive_5 rfl (lv_at hl 0 rfl) ?_
  refine lv_iconst (v := 2) hx hb dX6_receive_6 (by decide) ?_
  refine fk_Vp (Wd := (fk_mW q k)) (z := (upd z0.1 15 a1, z0.2)) (As := [.int 2]) (rest := []) F9 (c_X6_has l G q k _ (upd z0.1 15 a1, z0.2) 2) (cwV 1 hts gX6_receive_X6_has rfl rfl rfl (by decide +kernel) ⟨Nat.le_of_ble_eq_true rfl, Nat.le_of_ble_eq_true rfl⟩) (va_recv hK hP (ci := 6) (q0 := 0) rfl rfl) hK hP hD hS hA hN rfl hl.1 rfl (Nat.le_of_ble_eq_true rfl) dX6_receive_7 ⟨Nat.zero_le _, Nat.zero_le _⟩ (fun H locs hP hD hS => ?_)
  refine lv_if_eq (tgt := 18) hx hb dX6_receive_10 (by decide) (fun c10 => ?_) (fun c10 => ?_)
  · refine lv_aload_n hx hb dX6_receive_18 rfl (lv_at hl 0 rfl) ?_
    refine lv_iconst (v := 2) hx hb dX6_receive_19 (by decide) ?_
    have hl := lv_sub hl [] (l' := []) rfl
    refine fk_Vv (Wd := (fk_mW q k)) (z := (upd z0.1 15 a1, z0.2)) (As := [.int 2]) (rest := []) F9 (c_X6_raise l G q k _ (upd z0.1 15 a1, z0.2) 2) (cwV 1 hts gX6_receive_X6_raise rfl rfl rfl (by decide +kernel) ⟨Nat.le_of_ble_eq_true rfl, Nat.le_of_ble_eq_true rfl⟩) (va_recv hK hP (ci := 6) (q0 := 0) rfl rfl) hK hP hD hS hA hN rfl hl.1 rfl (Nat.le_of_ble_eq_true rfl) dX6_receive_20 ⟨Nat.zero_le _, Nat.zero_le _⟩ (fun z H locs hw hP hD hS => ?_)
    exact fk_vret hx hb hr hlk hK hP hD hS (hw.trans (Eq.symm (by rw [fX6_receive, if_pos c10] <;> rfl))) dX6_receive_23
  · refine lv_aload_n hx hb dX6_receive_13 rfl (lv_at hl 0 rfl) ?_
    refine lv_iconst (v := 4) hx hb dX6_receive_14 (by decide) ?_
    have hl := lv_sub hl [0] (l' := [(0, .ref (q 0))]) rfl
    refine fk_Vv (Wd := (fk_mW q k)) (z := (upd z0.1 15 a1, z0.2)) (As := [.int 4]) (rest := []) F9 (c_X6_raise l G q k _ (upd z0.1 15 a1, z0.2) 4) (cwV 1 hts gX6_receive_X6_raise rfl rfl rfl (by decide +kernel) ⟨Nat.le_of_ble_eq_true rfl, Nat.le_of_ble_eq_true rfl⟩) (va_recv hK hP (ci := 6) (q0 := 0) rfl rfl) hK hP hD hS hA hN rfl hl.1 rfl (Nat.le_of_ble_eq_true rfl) dX6_receive_15 ⟨Nat.zero_le _, Nat.zero_le _⟩ (fun z H locs hw hP hD hS => ?_)
    have hf : fX6_receive z0 a1 = fX6_receive_c1 z := by rw [fX6_receive, if_neg c10, ← hw] <;> rfl
    refine lv_aload_n hx hb dX6_receive_18 rfl (lv_at hl 0 rfl) ?_
    refine lv_iconst (v := 2) hx hb dX6_receive_19 (by decide) ?_
    have hl := lv_sub hl [] (l' := []) rfl
    refine fk_Vv (Wd := (fk_mW q k)) (z := z) (As := [.int 2]) (rest := []) F9 (c_X6_raise l G q k _ z 2) (cwV 1 hts gX6_receive_X6_raise rfl rfl rfl (by decide +kernel) ⟨Nat.le_of_ble_eq_true rfl, Nat.le_of_ble_eq_true rfl⟩) (va_recv hK hP (ci := 6) (q0 := 0) rfl rfl) hK hP hD hS hA hN rfl hl.1 rfl (Nat.le_of_ble_eq_true rfl) dX6_receive_20 ⟨Nat.zero_le _, Nat.zero_le _⟩ (fun z H locs hw hP hD hS => ?_)
    exact fk_vret hx hb hr hlk hK hP hD hS (hw.trans (Eq.symm (by rw [hf, fX6_receive_c1] <;> rfl))) dX6_receive_23
-- FloppyDeskModel.ask()I
set_option maxHeartbeats 4000000 in
set_option maxRecDepth 100000 in
theorem c_X6_ask (l : Launch) (G : va_G) (q : Nat → Nat) (k : Nat → ClassId) (sz : Nat) (z0 : fk_M) : fk_Mi l yX6_ask wsX6_ask ({ frames := 1, cells := 0, slots := 0, locals := 21 } : Room) G (fk_mW q k) (fk_mT k) [.ref (q 0)] sz z0 (fX6_ask z0) := by
  refine fk_head (cc := cX6_ask) (maxL := 1) (ret := (some .int)) (QQ := fun A => va_Qi (fun r z1 => (r, z1) = fX6_ask z0) (fk_At G (fk_mW q k) (fk_mT k) A) A) (by decide) rfl (Nat.le_of_ble_eq_true rfl) ?_ sz
  intro p e s m below meth c A ls hx hb hr hlk hml hown hts hK hN hA hP hD hS hl
  have hown : s.vm.findClass RX6 = some m.cls := hown
  have F9 : CallFix p m c cX6_ask 1 s ([.ref (q 0)] : List Value).toArray wsX6_ask RX6 := ⟨hx, hb, hml, hown, hts⟩
  have hl : lv_has ls 1 [(0, .ref (q 0))] := hl
  have hfl_61 := hts (.fieldLink RX6 61 "FloppyDeskModel" "data" "I") (by decide +kernel)
  have hi_6 : ∀ w ∈ u_ws RX6 TX6 32, w ∈ wsX6_ask := by decide +kernel
  refine lv_aload_n hx hb dX6_ask_0 rfl (lv_at hl 0 rfl) ?_
  refine lv_iconst (v := 2) hx hb dX6_ask_1 (by decide) ?_
  refine fk_Vp (Wd := (fk_mW q k)) (z := z0) (As := [.int 2]) (rest := []) F9 (c_X6_has l G q k _ z0 2) (cwV 1 hts gX6_ask_X6_has rfl rfl rfl (by decide +kernel) ⟨Nat.le_of_ble_eq_true rfl, Nat.le_of_ble_eq_true rfl⟩) (va_recv hK hP (ci := 6) (q0 := 0) rfl rfl) hK hP hD hS hA hN rfl hl.1 rfl (Nat.le_of_ble_eq_true rfl) dX6_ask_2 ⟨Nat.zero_le _, Nat.zero_le _⟩ (fun H locs hP hD hS => ?_)
  refine lv_if_eq (tgt := 15) hx hb dX6_ask_5 (by decide) (fun c5 => ?_) (fun c5 => ?_)
  · refine lv_aload_n hx hb dX6_ask_15 rfl (lv_at hl 0 rfl) ?_
    refine va_get (D := G) (ci := 6) (v := .int (z0.1 15)) (C := RX6) (T := TX6) (N := 32) hx hb hts hi_6 hown hK hP 0 rfl rfl 15 (by decide) hfl_61 (fun _ h9 => h9) rfl dX6_ask_16 ?_
    exact fk_iret hx hb hr hlk hK hP hD hS rfl (Eq.symm (by rw [fX6_ask, if_pos c5] <;> rfl)) dX6_ask_19
  · refine lv_aload_n hx hb dX6_ask_8 rfl (lv_at hl 0 rfl) ?_
    refine lv_iconst (v := 4) hx hb dX6_ask_9 (by decide) ?_
    have hl := lv_sub hl [] (l' := []) rfl
    refine fk_Vv (Wd := (fk_mW q k)) (z := z0) (As := [.int 4]) (rest := []) F9 (c_X6_raise l G q k _ z0 4) (cwV 1 hts gX6_ask_X6_raise rfl rfl rfl (by decide +kernel) ⟨Nat.le_of_ble_eq_true rfl, Nat.le_of_ble_eq_true rfl⟩) (va_recv hK hP (ci := 6) (q0 := 0) rfl rfl) hK hP hD hS hA hN rfl hl.1 rfl (Nat.le_of_ble_eq_true rfl) dX6_ask_10 ⟨Nat.zero_le _, Nat.zero_le _⟩ (fun z H locs hw hP hD hS => ?_)
    have hf : fX6_ask z0 = fX6_ask_c1 z := by rw [fX6_ask, if_neg c5, ← hw] <;> rfl
    refine lv_iconst (v := 0) hx hb dX6_ask_13 (by decide) ?_
    exact fk_iret hx hb hr hlk hK hP hD hS rfl (Eq.symm (by rw [hf, fX6_ask_c1] <;> rfl)) dX6_ask_14
-- FloppyDeskModel.begins(II)V
set_option maxHeartbeats 4000000 in
set_option maxRecDepth 100000 in
theorem c_X6_begins (l : Launch) (G : va_G) (q : Nat → Nat) (k : Nat → ClassId) (sz : Nat) (z0 : fk_M) (a1 : Int32) (a2 : Int32) : fk_Mv l yX6_begins wsX6_begins ({ frames := 1, cells := 0, slots := 0, locals := 21 } : Room) G (fk_mW q k) (fk_mT k) [.ref (q 0), .int a1, .int a2] sz z0 (fX6_begins z0 a1 a2) := by
  refine fk_head (cc := cX6_begins) (maxL := 3) (ret := none) (QQ := fun A => va_Qv (fun z1 => z1 = fX6_begins z0 a1 a2) (fk_At G (fk_mW q k) (fk_mT k) A) A) (by decide) rfl (Nat.le_of_ble_eq_true rfl) ?_ sz
  intro p e s m below meth c A ls hx hb hr hlk hml hown hts hK hN hA hP hD hS hl
  have hown : s.vm.findClass RX6 = some m.cls := hown
  have F9 : CallFix p m c cX6_begins 3 s ([.ref (q 0), .int a1, .int a2] : List Value).toArray wsX6_begins RX6 := ⟨hx, hb, hml, hown, hts⟩
  have hl : lv_has ls 3 [(0, .ref (q 0)), (1, .int a1), (2, .int a2)] := hl
  have hfl_21 := hts (.fieldLink RX6 21 "FloppyDeskModel" "latest" "I") (by decide +kernel)
  have hfl_32 := hts (.fieldLink RX6 32 "FloppyDeskModel" "began" "I") (by decide +kernel)
  have hfl_35 := hts (.fieldLink RX6 35 "FloppyDeskModel" "got" "I") (by decide +kernel)
  have hfl_48 := hts (.fieldLink RX6 48 "FloppyDeskModel" "field" "I") (by decide +kernel)
  have hfl_55 := hts (.fieldLink RX6 55 "FloppyDeskModel" "phase" "I") (by decide +kernel)
  have hi_6 : ∀ w ∈ u_ws RX6 TX6 32, w ∈ wsX6_begins := by decide +kernel
  have h41 : ∀ (z : fk_M) (x1 : Int32) (x2 : Int32) (H : Heap) (locs : List Loc) (ls : Array Slot), fX6_begins z0 a1 a2 = fX6_begins_41 z x1 x2 → va_P G vwCl ((fk_mW q k) z) H → va_D A ((fk_mW q k) z) → va_S A s.heap H locs → lv_has ls 3 [(0, .ref (q 0)), (1, .int x1), (2, .int x2)] → W p l e ({ frames := 1, cells := 0, slots := 0, locals := 21 } : Room) s m ([.ref (q 0), .int a1, .int a2] : List Value).toArray below meth c H locs 0 0 (MQ below (va_Qv (fun z1 => z1 = fX6_begins z0 a1 a2) (fk_At G (fk_mW q k) (fk_mT k) A) A) ([.ref (q 0), .int a1, .int a2] : List Value).toArray s 0 0 A) (F0 m 41 ls []) := by
    intro z x1 x2 H locs ls hf  hP hD hS hl
    refine lv_iload_n hx hb dX6_begins_41 rfl (lv_at hl 1 rfl) ?_
    refine lv_iconst (v := 2) hx hb dX6_begins_42 (by decide) ?_
    refine lv_icmp_ne (tgt := 80) hx hb dX6_begins_43 (by decide) (fun c43 => ?_) (fun c43 => ?_)
    · exact fk_vret hx hb hr hlk hK hP hD hS (Eq.symm (by rw [hf, fX6_begins_41, if_neg c43] <;> rfl)) dX6_begins_80
    · refine lv_aload_n hx hb dX6_begins_46 rfl (lv_at hl 0 rfl) ?_
      refine va_get (D := G) (ci := 6) (v := .int (z.1 17)) (C := RX6) (T := TX6) (N := 32) hx hb hts hi_6 hown hK hP 0 rfl rfl 17 (by decide) hfl_21 (fun _ h9 => h9) rfl dX6_begins_47 ?_
      refine lv_iconst (v := 2) hx hb dX6_begins_50 (by decide) ?_
      refine lv_icmp_ne (tgt := 80) hx hb dX6_begins_51 (by decide) (fun c51 => ?_) (fun c51 => ?_)
      · exact fk_vret hx hb hr hlk hK hP hD hS (Eq.symm (by rw [hf, fX6_begins_41, if_pos c43, if_neg c51] <;> rfl)) dX6_begins_80
      · refine lv_aload_n hx hb dX6_begins_54 rfl (lv_at hl 0 rfl) ?_
        refine va_get (D := G) (ci := 6) (v := .int (z.1 19)) (C := RX6) (T := TX6) (N := 32) hx hb hts hi_6 hown hK hP 0 rfl rfl 19 (by decide) hfl_55 (fun _ h9 => h9) rfl dX6_begins_55 ?_
        refine lv_iconst (v := 3) hx hb dX6_begins_58 (by decide) ?_
        refine lv_icmp_ne (tgt := 80) hx hb dX6_begins_59 (by decide) (fun c59 => ?_) (fun c59 => ?_)
        · exact fk_vret hx hb hr hlk hK hP hD hS (Eq.symm (by rw [hf, fX6_begins_41, if_pos c43, if_pos c51, if_neg c59] <;> rfl)) dX6_begins_80
        · refine lv_aload_n hx hb dX6_begins_62 rfl (lv_at hl 0 rfl) ?_
          refine lv_iconst (v := 4) hx hb dX6_begins_63 (by decide) ?_
          refine va_put (D := G) (ci := 6) (v := .int 4) (ty := .int) (C := RX6) (T := TX6) (N := 32) hx hb hts hi_6 tyX6 tyX6_ok nmX6 hown hK hP hD hS 0 rfl rfl 19 (by decide) hfl_55 (fun _ h9 => h9) rfl (by decide +kernel) rfl rfl (Nat.le_of_ble_eq_true rfl) dX6_begins_64 (fun H locs hP hD hS => ?_)
          have hP : va_P G vwCl ((fk_mW q k) (upd z.1 19 4, z.2)) H := hP
          have hD : va_D A ((fk_mW q k) (upd z.1 19 4, z.2)) := hD
          refine lv_iload_n hx hb dX6_begins_67 rfl (lv_at hl 2 rfl) ?_
          refine lv_sipush (v := 248) hx hb dX6_begins_68 (by decide) ?_
          refine lv_icmp_ne (tgt := 80) hx hb dX6_begins_71 (by decide) (fun c71 => ?_) (fun c71 => ?_)
          · exact fk_vret hx hb hr hlk hK hP hD hS (Eq.symm (by rw [hf, fX6_begins_41, if_pos c43, if_pos c51, if_pos c59, if_neg c71] <;> rfl)) dX6_begins_80
          · refine lv_aload_n hx hb dX6_begins_74 rfl (lv_at hl 0 rfl) ?_
            refine lv_bipush (v := 32) hx hb dX6_begins_75 (by decide) ?_
            have hl := lv_sub hl [] (l' := []) rfl
            refine fk_Vv (Wd := (fk_mW q k)) (z := (upd z.1 19 4, z.2)) (As := [.int 32]) (rest := []) F9 (c_X6_raise l G q k _ (upd z.1 19 4, z.2) 32) (cwV 1 hts gX6_begins_X6_raise rfl rfl rfl (by decide +kernel) ⟨Nat.le_of_ble_eq_true rfl, Nat.le_of_ble_eq_true rfl⟩) (va_recv hK hP (ci := 6) (q0 := 0) rfl rfl) hK hP hD hS hA hN rfl hl.1 rfl (Nat.le_of_ble_eq_true rfl) dX6_begins_77 ⟨Nat.zero_le _, Nat.zero_le _⟩ (fun z H locs hw hP hD hS => ?_)
            exact fk_vret hx hb hr hlk hK hP hD hS (hw.trans (Eq.symm (by rw [hf, fX6_begins_41, if_pos c43, if_pos c51, if_pos c59, if_pos c71] <;> rfl))) dX6_begins_80
  refine lv_aload_n hx hb dX6_begins_0 rfl (lv_at hl 0 rfl) ?_
  refine lv_iload_n hx hb dX6_begins_1 rfl (lv_at hl 1 rfl) ?_
  refine va_put (D := G) (ci := 6) (v := .int a1) (ty := .int) (C := RX6) (T := TX6) (N := 32) hx hb hts hi_6 tyX6 tyX6_ok nmX6 hown hK hP hD hS 0 rfl rfl 8 (by decide) hfl_48 (fun _ h9 => h9) rfl (by decide +kernel) rfl rfl (Nat.le_of_ble_eq_true rfl) dX6_begins_2 (fun H locs hP hD hS => ?_)
  have hP : va_P G vwCl ((fk_mW q k) (upd z0.1 8 a1, z0.2)) H := hP
  have hD : va_D A ((fk_mW q k) (upd z0.1 8 a1, z0.2)) := hD
  refine lv_aload_n hx hb dX6_begins_5 rfl (lv_at hl 0 rfl) ?_
  refine lv_iload_n hx hb dX6_begins_6 rfl (lv_at hl 2 rfl) ?_
  refine va_put (D := G) (ci := 6) (v := .int a2) (ty := .int) (C := RX6) (T := TX6) (N := 32) hx hb hts hi_6 tyX6 tyX6_ok nmX6 hown hK hP hD hS 0 rfl rfl 9 (by decide) hfl_32 (fun _ h9 => h9) rfl (by decide +kernel) rfl rfl (Nat.le_of_ble_eq_true rfl) dX6_begins_7 (fun H locs hP hD hS => ?_)
  have hP : va_P G vwCl ((fk_mW q k) (upd (upd z0.1 8 a1) 9 a2, z0.2)) H := hP
  have hD : va_D A ((fk_mW q k) (upd (upd z0.1 8 a1) 9 a2, z0.2)) := hD
  refine lv_aload_n hx hb dX6_begins_10 rfl (lv_at hl 0 rfl) ?_
  refine lv_iconst (v := 0) hx hb dX6_begins_11 (by decide) ?_
  refine va_put (D := G) (ci := 6) (v := .int 0) (ty := .int) (C := RX6) (T := TX6) (N := 32) hx hb hts hi_6 tyX6 tyX6_ok nmX6 hown hK hP hD hS 0 rfl rfl 10 (by decide) hfl_35 (fun _ h9 => h9) rfl (by decide +kernel) rfl rfl (Nat.le_of_ble_eq_true rfl) dX6_begins_12 (fun H locs hP hD hS => ?_)
  have hP : va_P G vwCl ((fk_mW q k) (upd (upd (upd z0.1 8 a1) 9 a2) 10 0, z0.2)) H := hP
  have hD : va_D A ((fk_mW q k) (upd (upd (upd z0.1 8 a1) 9 a2) 10 0, z0.2)) := hD
  refine lv_iload_n hx hb dX6_begins_15 rfl (lv_at hl 1 rfl) ?_
  refine lv_iconst (v := 1) hx hb dX6_begins_16 (by decide) ?_
  refine lv_icmp_ne (tgt := 41) hx hb dX6_begins_17 (by decide) (fun c17 => ?_) (fun c17 => ?_)
  · exact h41 (upd (upd (upd z0.1 8 a1) 9 a2) 10 0, z0.2) a1 a2 _ _ ls (by rw [fX6_begins, if_neg c17] <;> rfl) hP hD hS (lv_sub hl [0, 1, 2] rfl)
  · refine lv_aload_n hx hb dX6_begins_20 rfl (lv_at hl 0 rfl) ?_
    refine va_get (D := G) (ci := 6) (v := .int (z0.1 17)) (C := RX6) (T := TX6) (N := 32) hx hb hts hi_6 hown hK hP 0 rfl rfl 17 (by decide) hfl_21 (fun _ h9 => h9) rfl dX6_begins_21 ?_
    refine lv_iconst (v := 4) hx hb dX6_begins_24 (by decide) ?_
    refine lv_icmp_ne (tgt := 41) hx hb dX6_begins_25 (by decide) (fun c25 => ?_) (fun c25 => ?_)
    · exact h41 (upd (upd (upd z0.1 8 a1) 9 a2) 10 0, z0.2) a1 a2 _ _ ls (by rw [fX6_begins, if_pos c17, if_neg c25] <;> rfl) hP hD hS (lv_sub hl [0, 1, 2] rfl)
    · refine lv_aload_n hx hb dX6_begins_28 rfl (lv_at hl 0 rfl) ?_
      refine va_get (D := G) (ci := 6) (v := .int (z0.1 19)) (C := RX6) (T := TX6) (N := 32) hx hb hts hi_6 hown hK hP 0 rfl rfl 19 (by decide) hfl_55 (fun _ h9 => h9) rfl dX6_begins_29 ?_
      refine lv_iconst (v := 2) hx hb dX6_begins_32 (by decide) ?_
      refine lv_icmp_ne (tgt := 41) hx hb dX6_begins_33 (by decide) (fun c33 => ?_) (fun c33 => ?_)
      · exact h41 (upd (upd (upd z0.1 8 a1) 9 a2) 10 0, z0.2) a1 a2 _ _ ls (by rw [fX6_begins, if_pos c17, if_pos c25, if_neg c33] <;> rfl) hP hD hS (lv_sub hl [0, 1, 2] rfl)
      · refine lv_aload_n hx hb dX6_begins_36 rfl (lv_at hl 0 rfl) ?_
        refine lv_iconst (v := 4) hx hb dX6_begins_37 (by decide) ?_
        refine va_put (D := G) (ci := 6) (v := .int 4) (ty := .int) (C := RX6) (T := TX6) (N := 32) hx hb hts hi_6 tyX6 tyX6_ok nmX6 hown hK hP hD hS 0 rfl rfl 19 (by decide) hfl_55 (fun _ h9 => h9) rfl (by decide +kernel) rfl rfl (Nat.le_of_ble_eq_true rfl) dX6_begins_38 (fun H locs hP hD hS => ?_)
        have hP : va_P G vwCl ((fk_mW q k) (upd (upd (upd (upd z0.1 8 a1) 9 a2) 10 0) 19 4, z0.2)) H := hP
        have hD : va_D A ((fk_mW q k) (upd (upd (upd (upd z0.1 8 a1) 9 a2) 10 0) 19 4, z0.2)) := hD
        exact h41 (upd (upd (upd (upd z0.1 8 a1) 9 a2) 10 0) 19 4, z0.2) a1 a2 _ _ ls (by rw [fX6_begins, if_pos c17, if_pos c25, if_pos c33] <;> rfl) hP hD hS (lv_sub hl [0, 1, 2] rfl)
-- FloppyDeskModel.idOver(Z)V
set_option maxHeartbeats 4000000 in
set_option maxRecDepth 100000 in
theorem c_X6_idOver (l : Launch) (G : va_G) (q : Nat → Nat) (k : Nat → ClassId) (sz : Nat) (z0 : fk_M) (a1 : Int32) : fk_Mv l yX6_idOver wsX6_idOver ({ frames := 2, cells := 0, slots := 0, locals := 41 } : Room) G (fk_mW q k) (fk_mT k) [.ref (q 0), .int a1] sz z0 (fX6_idOver z0 a1) := by
  refine fk_head (cc := cX6_idOver) (maxL := 3) (ret := none) (QQ := fun A => va_Qv (fun z1 => z1 = fX6_idOver z0 a1) (fk_At G (fk_mW q k) (fk_mT k) A) A) (by decide) rfl (Nat.le_of_ble_eq_true rfl) ?_ sz
  intro p e s m below meth c A ls hx hb hr hlk hml hown hts hK hN hA hP hD hS hl
  have hown : s.vm.findClass RX6 = some m.cls := hown
  have F9 : CallFix p m c cX6_idOver 3 s ([.ref (q 0), .int a1] : List Value).toArray wsX6_idOver RX6 := ⟨hx, hb, hml, hown, hts⟩
  have hl : lv_has ls 3 [(0, .ref (q 0)), (1, .int a1)] := hl
  have hfl_13 := hts (.fieldLink RX6 13 "FloppyDeskModel" "bytes" "[I") (by decide +kernel)
  have hfl_17 := hts (.fieldLink RX6 17 "FloppyDeskModel" "dataSize" "I") (by decide +kernel)
  have hfl_21 := hts (.fieldLink RX6 21 "FloppyDeskModel" "latest" "I") (by decide +kernel)
  have hfl_55 := hts (.fieldLink RX6 55 "FloppyDeskModel" "phase" "I") (by decide +kernel)
  have hfl_71 := hts (.fieldLink RX6 71 "FloppyDeskModel" "sector" "I") (by decide +kernel)
  have hfl_77 := hts (.fieldLink RX6 77 "FloppyDeskModel" "track" "I") (by decide +kernel)
  have hfl_80 := hts (.fieldLink RX6 80 "FloppyDeskModel" "count" "I") (by decide +kernel)
  have hi_6 : ∀ w ∈ u_ws RX6 TX6 32, w ∈ wsX6_idOver := by decide +kernel
  have h168 : ∀ (z : fk_M) (s1 : Int32) (H : Heap) (locs : List Loc) (ls : Array Slot), fX6_idOver z0 a1 = fX6_idOver_168 z s1 → va_P G vwCl ((fk_mW q k) z) H → va_D A ((fk_mW q k) z) → va_S A s.heap H locs → lv_has ls 3 [(0, .ref (q 0))] → W p l e ({ frames := 2, cells := 0, slots := 0, locals := 41 } : Room) s m ([.ref (q 0), .int a1] : List Value).toArray below meth c H locs 0 0 (MQ below (va_Qv (fun z1 => z1 = fX6_idOver z0 a1) (fk_At G (fk_mW q k) (fk_mT k) A) A) ([.ref (q 0), .int a1] : List Value).toArray s 0 0 A) (F0 m 168 ls [.int s1, .ref (q 0)]) := by
    intro z s1 H locs ls hf  hP hD hS hl
    refine va_put (D := G) (ci := 6) (v := .int s1) (ty := .int) (C := RX6) (T := TX6) (N := 32) hx hb hts hi_6 tyX6 tyX6_ok nmX6 hown hK hP hD hS 0 rfl rfl 19 (by decide) hfl_55 (fun _ h9 => h9) rfl (by decide +kernel) rfl rfl (Nat.le_of_ble_eq_true rfl) dX6_idOver_168 (fun H locs hP hD hS => ?_)
    have hP : va_P G vwCl ((fk_mW q k) (upd z.1 19 s1, z.2)) H := hP
    have hD : va_D A ((fk_mW q k) (upd z.1 19 s1, z.2)) := hD
    refine lv_aload_n hx hb dX6_idOver_171 rfl (lv_at hl 0 rfl) ?_
    refine lv_iconst (v := 1) hx hb dX6_idOver_172 (by decide) ?_
    refine va_put (D := G) (ci := 6) (v := .int 1) (ty := .int) (C := RX6) (T := TX6) (N := 32) hx hb hts hi_6 tyX6 tyX6_ok nmX6 hown hK hP hD hS 0 rfl rfl 20 (by decide) hfl_80 (fun _ h9 => h9) rfl (by decide +kernel) rfl rfl (Nat.le_of_ble_eq_true rfl) dX6_idOver_173 (fun H locs hP hD hS => ?_)
    have hP : va_P G vwCl ((fk_mW q k) (upd (upd z.1 19 s1) 20 1, z.2)) H := hP
    have hD : va_D A ((fk_mW q k) (upd (upd z.1 19 s1) 20 1, z.2)) := hD
    refine lv_aload_n hx hb dX6_idOver_176 rfl (lv_at hl 0 rfl) ?_
    refine va_get (D := G) (ci := 6) (v := .int (z.1 17)) (C := RX6) (T := TX6) (N := 32) hx hb hts hi_6 hown hK hP 0 rfl rfl 17 (by decide) hfl_21 (fun _ h9 => h9) rfl dX6_idOver_177 ?_
    refine lv_iconst (v := 3) hx hb dX6_idOver_180 (by decide) ?_
    refine lv_icmp_ne (tgt := 189) hx hb dX6_idOver_181 (by decide) (fun c181 => ?_) (fun c181 => ?_)
    · exact fk_vret hx hb hr hlk hK hP hD hS (Eq.symm (by rw [hf, fX6_idOver_168, if_neg c181] <;> rfl)) dX6_idOver_189
    · refine lv_aload_n hx hb dX6_idOver_184 rfl (lv_at hl 0 rfl) ?_
      refine lv_iconst (v := 2) hx hb dX6_idOver_185 (by decide) ?_
      have hl := lv_sub hl [] (l' := []) rfl
      refine fk_Vv (Wd := (fk_mW q k)) (z := (upd (upd z.1 19 s1) 20 1, z.2)) (As := [.int 2]) (rest := []) F9 (c_X6_raise l G q k _ (upd (upd z.1 19 s1) 20 1, z.2) 2) (cwV 1 hts gX6_idOver_X6_raise rfl rfl rfl (by decide +kernel) ⟨Nat.le_of_ble_eq_true rfl, Nat.le_of_ble_eq_true rfl⟩) (va_recv hK hP (ci := 6) (q0 := 0) rfl rfl) hK hP hD hS hA hN rfl hl.1 rfl (Nat.le_of_ble_eq_true rfl) dX6_idOver_186 ⟨Nat.zero_le _, Nat.zero_le _⟩ (fun z H locs hw hP hD hS => ?_)
      exact fk_vret hx hb hr hlk hK hP hD hS (hw.trans (Eq.symm (by rw [hf, fX6_idOver_168, if_pos c181] <;> rfl))) dX6_idOver_189
  have h105 : ∀ (z : fk_M) (x1 : Int32) (s0 : Int32) (H : Heap) (locs : List Loc) (ls : Array Slot), fX6_idOver z0 a1 = fX6_idOver_105 z x1 s0 → va_P G vwCl ((fk_mW q k) z) H → va_D A ((fk_mW q k) z) → va_S A s.heap H locs → lv_has ls 3 [(0, .ref (q 0)), (1, .int x1)] → W p l e ({ frames := 2, cells := 0, slots := 0, locals := 41 } : Room) s m ([.ref (q 0), .int a1] : List Value).toArray below meth c H locs 0 0 (MQ below (va_Qv (fun z1 => z1 = fX6_idOver z0 a1) (fk_At G (fk_mW q k) (fk_mT k) A) A) ([.ref (q 0), .int a1] : List Value).toArray s 0 0 A) (F0 m 105 ls [.int s0]) := by
    intro z x1 s0 H locs ls hf  hP hD hS hl
    refine lv_istore_n (lv' := [(2, .int s0), (0, .ref (q 0)), (1, .int x1)]) hx hb dX6_idOver_105 rfl hl (by decide) rfl (fun ls hl => ?_)
    refine lv_iload_n hx hb dX6_idOver_106 rfl (lv_at hl 0 rfl) ?_
    refine lv_if_ne (tgt := 111) hx hb dX6_idOver_107 (by decide) (fun c107 => ?_) (fun c107 => ?_)
    · refine lv_iload_n hx hb dX6_idOver_111 rfl (lv_at hl 2 rfl) ?_
      refine lv_if_ne (tgt := 122) hx hb dX6_idOver_112 (by decide) (fun c112 => ?_) (fun c112 => ?_)
      · refine lv_aload_n hx hb dX6_idOver_122 rfl (lv_at hl 1 rfl) ?_
        refine lv_bipush (v := 8) hx hb dX6_idOver_123 (by decide) ?_
        have hl := lv_sub hl [1] (l' := [(0, .ref (q 0))]) rfl
        refine fk_Vv (Wd := (fk_mW q k)) (z := z) (As := [.int 8]) (rest := []) F9 (c_X6_drop l G q k _ z 8) (cwV 1 hts gX6_idOver_X6_drop rfl rfl rfl (by decide +kernel) ⟨Nat.le_of_ble_eq_true rfl, Nat.le_of_ble_eq_true rfl⟩) (va_recv hK hP (ci := 6) (q0 := 0) rfl rfl) hK hP hD hS hA hN rfl hl.1 rfl (Nat.le_of_ble_eq_true rfl) dX6_idOver_125 ⟨Nat.zero_le _, Nat.zero_le _⟩ (fun z H locs hw hP hD hS => ?_)
        have hf : fX6_idOver z0 a1 = fX6_idOver_c1 z := by rw [hf, fX6_idOver_105, if_neg c107, if_neg c112, ← hw] <;> rfl
        refine lv_aload_n hx hb dX6_idOver_128 rfl (lv_at hl 0 rfl) ?_
        refine va_get (D := G) (ci := 6) (v := .ref (q 2)) (C := RX6) (T := TX6) (N := 32) hx hb hts hi_6 hown hK hP 0 rfl rfl 11 (by decide) hfl_13 (fun _ h9 => h9) rfl dX6_idOver_129 ?_
        refine lv_iconst (v := 0) hx hb dX6_idOver_132 (by decide) ?_
        have hin_133 : vp_in 0 40 := by unfold vp_in; decide
        refine va_iald (f := z.2.2.1) hx hb hK hP 2 1 rfl rfl hin_133 dX6_idOver_133 ?_
        refine lv_aload_n hx hb dX6_idOver_134 rfl (lv_at hl 0 rfl) ?_
        refine va_get (D := G) (ci := 6) (v := .int (z.1 13)) (C := RX6) (T := TX6) (N := 32) hx hb hts hi_6 hown hK hP 0 rfl rfl 13 (by decide) hfl_77 (fun _ h9 => h9) rfl dX6_idOver_135 ?_
        refine lv_icmp_ne (tgt := 189) hx hb dX6_idOver_138 (by decide) (fun c138 => ?_) (fun c138 => ?_)
        · exact fk_vret hx hb hr hlk hK hP hD hS (Eq.symm (by rw [hf, fX6_idOver_c1, if_neg c138] <;> rfl)) dX6_idOver_189
        · refine lv_aload_n hx hb dX6_idOver_141 rfl (lv_at hl 0 rfl) ?_
          refine va_get (D := G) (ci := 6) (v := .ref (q 2)) (C := RX6) (T := TX6) (N := 32) hx hb hts hi_6 hown hK hP 0 rfl rfl 11 (by decide) hfl_13 (fun _ h9 => h9) rfl dX6_idOver_142 ?_
          refine lv_iconst (v := 2) hx hb dX6_idOver_145 (by decide) ?_
          have hin_146 : vp_in 2 40 := by unfold vp_in; decide
          refine va_iald (f := z.2.2.1) hx hb hK hP 2 1 rfl rfl hin_146 dX6_idOver_146 ?_
          refine lv_aload_n hx hb dX6_idOver_147 rfl (lv_at hl 0 rfl) ?_
          refine va_get (D := G) (ci := 6) (v := .int (z.1 14)) (C := RX6) (T := TX6) (N := 32) hx hb hts hi_6 hown hK hP 0 rfl rfl 14 (by decide) hfl_71 (fun _ h9 => h9) rfl dX6_idOver_148 ?_
          refine lv_icmp_ne (tgt := 189) hx hb dX6_idOver_151 (by decide) (fun c151 => ?_) (fun c151 => ?_)
          · exact fk_vret hx hb hr hlk hK hP hD hS (Eq.symm (by rw [hf, fX6_idOver_c1, if_pos c138, if_neg c151] <;> rfl)) dX6_idOver_189
          · refine lv_aload_n hx hb dX6_idOver_154 rfl (lv_at hl 0 rfl) ?_
            refine lv_aload_n hx hb dX6_idOver_155 rfl (lv_at hl 0 rfl) ?_
            refine va_get (D := G) (ci := 6) (v := .int (z.1 17)) (C := RX6) (T := TX6) (N := 32) hx hb hts hi_6 hown hK hP 0 rfl rfl 17 (by decide) hfl_21 (fun _ h9 => h9) rfl dX6_idOver_156 ?_
            refine lv_iconst (v := 2) hx hb dX6_idOver_159 (by decide) ?_
            refine lv_icmp_ne (tgt := 167) hx hb dX6_idOver_160 (by decide) (fun c160 => ?_) (fun c160 => ?_)
            · refine lv_iconst (v := 5) hx hb dX6_idOver_167 (by decide) ?_
              exact h168 z 5 _ _ ls (by rw [hf, fX6_idOver_c1, if_pos c138, if_pos c151, if_neg c160] <;> rfl) hP hD hS (lv_sub hl [0] rfl)
            · refine lv_iconst (v := 3) hx hb dX6_idOver_163 (by decide) ?_
              refine lv_goto (tgt := 168) hx hb dX6_idOver_164 (by decide) ?_
              exact h168 z 3 _ _ ls (by rw [hf, fX6_idOver_c1, if_pos c138, if_pos c151, if_pos c160] <;> rfl) hP hD hS (lv_sub hl [0] rfl)
      · refine lv_aload_n hx hb dX6_idOver_115 rfl (lv_at hl 1 rfl) ?_
        refine lv_bipush (v := 8) hx hb dX6_idOver_116 (by decide) ?_
        have hl := lv_sub hl [] (l' := []) rfl
        refine fk_Vv (Wd := (fk_mW q k)) (z := z) (As := [.int 8]) (rest := []) F9 (c_X6_raise l G q k _ z 8) (cwV 1 hts gX6_idOver_X6_raise rfl rfl rfl (by decide +kernel) ⟨Nat.le_of_ble_eq_true rfl, Nat.le_of_ble_eq_true rfl⟩) (va_recv hK hP (ci := 6) (q0 := 0) rfl rfl) hK hP hD hS hA hN rfl hl.1 rfl (Nat.le_of_ble_eq_true rfl) dX6_idOver_118 ⟨Nat.zero_le _, Nat.zero_le _⟩ (fun z H locs hw hP hD hS => ?_)
        exact fk_vret hx hb hr hlk hK hP hD hS (hw.trans (Eq.symm (by rw [hf, fX6_idOver_105, if_neg c107, if_pos c112] <;> rfl))) dX6_idOver_121
    · exact fk_vret hx hb hr hlk hK hP hD hS (Eq.symm (by rw [hf, fX6_idOver_105, if_pos c107] <;> rfl)) dX6_idOver_110
  have h104 : ∀ (z : fk_M) (x1 : Int32) (H : Heap) (locs : List Loc) (ls : Array Slot), fX6_idOver z0 a1 = fX6_idOver_104 z x1 → va_P G vwCl ((fk_mW q k) z) H → va_D A ((fk_mW q k) z) → va_S A s.heap H locs → lv_has ls 3 [(0, .ref (q 0)), (1, .int x1)] → W p l e ({ frames := 2, cells := 0, slots := 0, locals := 41 } : Room) s m ([.ref (q 0), .int a1] : List Value).toArray below meth c H locs 0 0 (MQ below (va_Qv (fun z1 => z1 = fX6_idOver z0 a1) (fk_At G (fk_mW q k) (fk_mT k) A) A) ([.ref (q 0), .int a1] : List Value).toArray s 0 0 A) (F0 m 104 ls []) := by
    intro z x1 H locs ls hf  hP hD hS hl
    refine lv_iconst (v := 0) hx hb dX6_idOver_104 (by decide) ?_
    exact h105 z x1 0 _ _ ls (by rw [hf, fX6_idOver_104] <;> rfl) hP hD hS (lv_sub hl [0, 1] rfl)
  have h100 : ∀ (z : fk_M) (x1 : Int32) (H : Heap) (locs : List Loc) (ls : Array Slot), fX6_idOver z0 a1 = fX6_idOver_100 z x1 → va_P G vwCl ((fk_mW q k) z) H → va_D A ((fk_mW q k) z) → va_S A s.heap H locs → lv_has ls 3 [(0, .ref (q 0)), (1, .int x1)] → W p l e ({ frames := 2, cells := 0, slots := 0, locals := 41 } : Room) s m ([.ref (q 0), .int a1] : List Value).toArray below meth c H locs 0 0 (MQ below (va_Qv (fun z1 => z1 = fX6_idOver z0 a1) (fk_At G (fk_mW q k) (fk_mT k) A) A) ([.ref (q 0), .int a1] : List Value).toArray s 0 0 A) (F0 m 100 ls []) := by
    intro z x1 H locs ls hf  hP hD hS hl
    refine lv_iconst (v := 1) hx hb dX6_idOver_100 (by decide) ?_
    refine lv_goto (tgt := 105) hx hb dX6_idOver_101 (by decide) ?_
    exact h105 z x1 1 _ _ ls (by rw [hf, fX6_idOver_100] <;> rfl) hP hD hS (lv_sub hl [0, 1] rfl)
  have h84 : ∀ (z : fk_M) (x1 : Int32) (H : Heap) (locs : List Loc) (ls : Array Slot), fX6_idOver z0 a1 = fX6_idOver_84 z x1 → va_P G vwCl ((fk_mW q k) z) H → va_D A ((fk_mW q k) z) → va_S A s.heap H locs → lv_has ls 3 [(0, .ref (q 0)), (1, .int x1)] → W p l e ({ frames := 2, cells := 0, slots := 0, locals := 41 } : Room) s m ([.ref (q 0), .int a1] : List Value).toArray below meth c H locs 0 0 (MQ below (va_Qv (fun z1 => z1 = fX6_idOver z0 a1) (fk_At G (fk_mW q k) (fk_mT k) A) A) ([.ref (q 0), .int a1] : List Value).toArray s 0 0 A) (F0 m 84 ls []) := by
    intro z x1 H locs ls hf  hP hD hS hl
    refine lv_aload_n hx hb dX6_idOver_84 rfl (lv_at hl 0 rfl) ?_
    refine va_get (D := G) (ci := 6) (v := .int (z.1 17)) (C := RX6) (T := TX6) (N := 32) hx hb hts hi_6 hown hK hP 0 rfl rfl 17 (by decide) hfl_21 (fun _ h9 => h9) rfl dX6_idOver_85 ?_
    refine lv_iconst (v := 3) hx hb dX6_idOver_88 (by decide) ?_
    refine lv_icmp_ne (tgt := 104) hx hb dX6_idOver_89 (by decide) (fun c89 => ?_) (fun c89 => ?_)
    · exact h104 z x1 _ _ ls (by rw [hf, fX6_idOver_84, if_neg c89] <;> rfl) hP hD hS (lv_sub hl [0, 1] rfl)
    · refine lv_aload_n hx hb dX6_idOver_92 rfl (lv_at hl 0 rfl) ?_
      refine va_get (D := G) (ci := 6) (v := .int (z.1 19)) (C := RX6) (T := TX6) (N := 32) hx hb hts hi_6 hown hK hP 0 rfl rfl 19 (by decide) hfl_55 (fun _ h9 => h9) rfl dX6_idOver_93 ?_
      refine lv_iconst (v := 2) hx hb dX6_idOver_96 (by decide) ?_
      refine lv_icmp_ne (tgt := 104) hx hb dX6_idOver_97 (by decide) (fun c97 => ?_) (fun c97 => ?_)
      · exact h104 z x1 _ _ ls (by rw [hf, fX6_idOver_84, if_pos c89, if_neg c97] <;> rfl) hP hD hS (lv_sub hl [0, 1] rfl)
      · exact h100 z x1 _ _ ls (by rw [hf, fX6_idOver_84, if_pos c89, if_pos c97] <;> rfl) hP hD hS (lv_sub hl [0, 1] rfl)
  have h60 : ∀ (z : fk_M) (x1 : Int32) (H : Heap) (locs : List Loc) (ls : Array Slot), fX6_idOver z0 a1 = fX6_idOver_60 z x1 → va_P G vwCl ((fk_mW q k) z) H → va_D A ((fk_mW q k) z) → va_S A s.heap H locs → lv_has ls 3 [(0, .ref (q 0)), (1, .int x1)] → W p l e ({ frames := 2, cells := 0, slots := 0, locals := 41 } : Room) s m ([.ref (q 0), .int a1] : List Value).toArray below meth c H locs 0 0 (MQ below (va_Qv (fun z1 => z1 = fX6_idOver z0 a1) (fk_At G (fk_mW q k) (fk_mT k) A) A) ([.ref (q 0), .int a1] : List Value).toArray s 0 0 A) (F0 m 60 ls []) := by
    intro z x1 H locs ls hf  hP hD hS hl
    refine lv_aload_n hx hb dX6_idOver_60 rfl (lv_at hl 0 rfl) ?_
    refine va_get (D := G) (ci := 6) (v := .int (z.1 17)) (C := RX6) (T := TX6) (N := 32) hx hb hts hi_6 hown hK hP 0 rfl rfl 17 (by decide) hfl_21 (fun _ h9 => h9) rfl dX6_idOver_61 ?_
    refine lv_iconst (v := 2) hx hb dX6_idOver_64 (by decide) ?_
    refine lv_icmp_ne (tgt := 84) hx hb dX6_idOver_65 (by decide) (fun c65 => ?_) (fun c65 => ?_)
    · exact h84 z x1 _ _ ls (by rw [hf, fX6_idOver_60, if_neg c65] <;> rfl) hP hD hS (lv_sub hl [0, 1] rfl)
    · refine lv_aload_n hx hb dX6_idOver_68 rfl (lv_at hl 0 rfl) ?_
      refine va_get (D := G) (ci := 6) (v := .int (z.1 19)) (C := RX6) (T := TX6) (N := 32) hx hb hts hi_6 hown hK hP 0 rfl rfl 19 (by decide) hfl_55 (fun _ h9 => h9) rfl dX6_idOver_69 ?_
      refine lv_iconst (v := 2) hx hb dX6_idOver_72 (by decide) ?_
      refine lv_icmp_eq (tgt := 100) hx hb dX6_idOver_73 (by decide) (fun c73 => ?_) (fun c73 => ?_)
      · exact h100 z x1 _ _ ls (by rw [hf, fX6_idOver_60, if_pos c65, if_pos c73] <;> rfl) hP hD hS (lv_sub hl [0, 1] rfl)
      · refine lv_aload_n hx hb dX6_idOver_76 rfl (lv_at hl 0 rfl) ?_
        refine va_get (D := G) (ci := 6) (v := .int (z.1 19)) (C := RX6) (T := TX6) (N := 32) hx hb hts hi_6 hown hK hP 0 rfl rfl 19 (by decide) hfl_55 (fun _ h9 => h9) rfl dX6_idOver_77 ?_
        refine lv_iconst (v := 3) hx hb dX6_idOver_80 (by decide) ?_
        refine lv_icmp_eq (tgt := 100) hx hb dX6_idOver_81 (by decide) (fun c81 => ?_) (fun c81 => ?_)
        · exact h100 z x1 _ _ ls (by rw [hf, fX6_idOver_60, if_pos c65, if_neg c73, if_pos c81] <;> rfl) hP hD hS (lv_sub hl [0, 1] rfl)
        · exact h84 z x1 _ _ ls (by rw [hf, fX6_idOver_60, if_pos c65, if_neg c73, if_neg c81] <;> rfl) hP hD hS (lv_sub hl [0, 1] rfl)
  have h19 : ∀ (z : fk_M) (x1 : Int32) (H : Heap) (locs : List Loc) (ls : Array Slot), fX6_idOver z0 a1 = fX6_idOver_19 z x1 → va_P G vwCl ((fk_mW q k) z) H → va_D A ((fk_mW q k) z) → va_S A s.heap H locs → lv_has ls 3 [(0, .ref (q 0)), (1, .int x1)] → W p l e ({ frames := 2, cells := 0, slots := 0, locals := 41 } : Room) s m ([.ref (q 0), .int a1] : List Value).toArray below meth c H locs 0 0 (MQ below (va_Qv (fun z1 => z1 = fX6_idOver z0 a1) (fk_At G (fk_mW q k) (fk_mT k) A) A) ([.ref (q 0), .int a1] : List Value).toArray s 0 0 A) (F0 m 19 ls []) := by
    intro z x1 H locs ls hf  hP hD hS hl
    refine lv_aload_n hx hb dX6_idOver_19 rfl (lv_at hl 0 rfl) ?_
    refine va_get (D := G) (ci := 6) (v := .int (z.1 17)) (C := RX6) (T := TX6) (N := 32) hx hb hts hi_6 hown hK hP 0 rfl rfl 17 (by decide) hfl_21 (fun _ h9 => h9) rfl dX6_idOver_20 ?_
    refine lv_iconst (v := 4) hx hb dX6_idOver_23 (by decide) ?_
    refine lv_icmp_ne (tgt := 60) hx hb dX6_idOver_24 (by decide) (fun c24 => ?_) (fun c24 => ?_)
    · exact h60 z x1 _ _ ls (by rw [hf, fX6_idOver_19, if_neg c24] <;> rfl) hP hD hS (lv_sub hl [0, 1] rfl)
    · refine lv_aload_n hx hb dX6_idOver_27 rfl (lv_at hl 0 rfl) ?_
      refine va_get (D := G) (ci := 6) (v := .int (z.1 19)) (C := RX6) (T := TX6) (N := 32) hx hb hts hi_6 hown hK hP 0 rfl rfl 19 (by decide) hfl_55 (fun _ h9 => h9) rfl dX6_idOver_28 ?_
      refine lv_iconst (v := 4) hx hb dX6_idOver_31 (by decide) ?_
      refine lv_icmp_ne (tgt := 60) hx hb dX6_idOver_32 (by decide) (fun c32 => ?_) (fun c32 => ?_)
      · exact h60 z x1 _ _ ls (by rw [hf, fX6_idOver_19, if_pos c24, if_neg c32] <;> rfl) hP hD hS (lv_sub hl [0, 1] rfl)
      · refine lv_aload_n hx hb dX6_idOver_35 rfl (lv_at hl 0 rfl) ?_
        refine lv_aload_n hx hb dX6_idOver_36 rfl (lv_at hl 0 rfl) ?_
        refine va_get (D := G) (ci := 6) (v := .ref (q 2)) (C := RX6) (T := TX6) (N := 32) hx hb hts hi_6 hown hK hP 0 rfl rfl 11 (by decide) hfl_13 (fun _ h9 => h9) rfl dX6_idOver_37 ?_
        refine lv_iconst (v := 0) hx hb dX6_idOver_40 (by decide) ?_
        have hin_41 : vp_in 0 40 := by unfold vp_in; decide
        refine va_iald (f := z.2.2.1) hx hb hK hP 2 1 rfl rfl hin_41 dX6_idOver_41 ?_
        refine va_put (D := G) (ci := 6) (v := .int (z.2.2.1 (0 : Int32).toNatClampNeg)) (ty := .int) (C := RX6) (T := TX6) (N := 32) hx hb hts hi_6 tyX6 tyX6_ok nmX6 hown hK hP hD hS 0 rfl rfl 14 (by decide) hfl_71 (fun _ h9 => h9) rfl (by decide +kernel) rfl rfl (Nat.le_of_ble_eq_true rfl) dX6_idOver_42 (fun H locs hP hD hS => ?_)
        have hP : va_P G vwCl ((fk_mW q k) (upd z.1 14 (z.2.2.1 (0 : Int32).toNatClampNeg), z.2)) H := hP
        have hD : va_D A ((fk_mW q k) (upd z.1 14 (z.2.2.1 (0 : Int32).toNatClampNeg), z.2)) := hD
        refine lv_iload_n hx hb dX6_idOver_45 rfl (lv_at hl 1 rfl) ?_
        refine lv_if_ne (tgt := 55) hx hb dX6_idOver_46 (by decide) (fun c46 => ?_) (fun c46 => ?_)
        · refine lv_aload_n hx hb dX6_idOver_55 rfl (lv_at hl 0 rfl) ?_
          have hl := lv_sub hl [] (l' := []) rfl
          refine fk_Vv (Wd := (fk_mW q k)) (z := (upd z.1 14 (z.2.2.1 (0 : Int32).toNatClampNeg), z.2)) (As := []) (rest := []) F9 (c_X6_end l G q k _ (upd z.1 14 (z.2.2.1 (0 : Int32).toNatClampNeg), z.2)) (cwV 0 hts gX6_idOver_X6_end rfl rfl rfl (by decide +kernel) ⟨Nat.le_of_ble_eq_true rfl, Nat.le_of_ble_eq_true rfl⟩) (va_recv hK hP (ci := 6) (q0 := 0) rfl rfl) hK hP hD hS hA hN rfl hl.1 rfl (Nat.le_of_ble_eq_true rfl) dX6_idOver_56 ⟨Nat.zero_le _, Nat.zero_le _⟩ (fun z H locs hw hP hD hS => ?_)
          exact fk_vret hx hb hr hlk hK hP hD hS (hw.trans (Eq.symm (by rw [hf, fX6_idOver_19, if_pos c24, if_pos c32, if_neg c46] <;> rfl))) dX6_idOver_59
        · refine lv_aload_n hx hb dX6_idOver_49 rfl (lv_at hl 0 rfl) ?_
          refine lv_bipush (v := 8) hx hb dX6_idOver_50 (by decide) ?_
          have hl := lv_sub hl [0] (l' := [(0, .ref (q 0))]) rfl
          refine fk_Vv (Wd := (fk_mW q k)) (z := (upd z.1 14 (z.2.2.1 (0 : Int32).toNatClampNeg), z.2)) (As := [.int 8]) (rest := []) F9 (c_X6_raise l G q k _ (upd z.1 14 (z.2.2.1 (0 : Int32).toNatClampNeg), z.2) 8) (cwV 1 hts gX6_idOver_X6_raise rfl rfl rfl (by decide +kernel) ⟨Nat.le_of_ble_eq_true rfl, Nat.le_of_ble_eq_true rfl⟩) (va_recv hK hP (ci := 6) (q0 := 0) rfl rfl) hK hP hD hS hA hN rfl hl.1 rfl (Nat.le_of_ble_eq_true rfl) dX6_idOver_52 ⟨Nat.zero_le _, Nat.zero_le _⟩ (fun z H locs hw hP hD hS => ?_)
          have hf : fX6_idOver z0 a1 = fX6_idOver_c2 z := by rw [hf, fX6_idOver_19, if_pos c24, if_pos c32, if_pos c46, ← hw] <;> rfl
          refine lv_aload_n hx hb dX6_idOver_55 rfl (lv_at hl 0 rfl) ?_
          have hl := lv_sub hl [] (l' := []) rfl
          refine fk_Vv (Wd := (fk_mW q k)) (z := z) (As := []) (rest := []) F9 (c_X6_end l G q k _ z) (cwV 0 hts gX6_idOver_X6_end rfl rfl rfl (by decide +kernel) ⟨Nat.le_of_ble_eq_true rfl, Nat.le_of_ble_eq_true rfl⟩) (va_recv hK hP (ci := 6) (q0 := 0) rfl rfl) hK hP hD hS hA hN rfl hl.1 rfl (Nat.le_of_ble_eq_true rfl) dX6_idOver_56 ⟨Nat.zero_le _, Nat.zero_le _⟩ (fun z H locs hw hP hD hS => ?_)
          exact fk_vret hx hb hr hlk hK hP hD hS (hw.trans (Eq.symm (by rw [hf, fX6_idOver_c2] <;> rfl))) dX6_idOver_59
  refine lv_iload_n hx hb dX6_idOver_0 rfl (lv_at hl 1 rfl) ?_
  refine lv_if_eq (tgt := 19) hx hb dX6_idOver_1 (by decide) (fun c1 => ?_) (fun c1 => ?_)
  · exact h19 z0 a1 _ _ ls (by rw [fX6_idOver, if_pos c1] <;> rfl) hP hD hS (lv_sub hl [0, 1] rfl)
  · refine lv_aload_n hx hb dX6_idOver_4 rfl (lv_at hl 0 rfl) ?_
    refine lv_bipush (v := 16) hx hb dX6_idOver_5 (by decide) ?_
    refine lv_aload_n hx hb dX6_idOver_7 rfl (lv_at hl 0 rfl) ?_
    refine va_get (D := G) (ci := 6) (v := .ref (q 2)) (C := RX6) (T := TX6) (N := 32) hx hb hts hi_6 hown hK hP 0 rfl rfl 11 (by decide) hfl_13 (fun _ h9 => h9) rfl dX6_idOver_8 ?_
    refine lv_iconst (v := 3) hx hb dX6_idOver_11 (by decide) ?_
    have hin_12 : vp_in 3 40 := by unfold vp_in; decide
    refine va_iald (f := z0.2.2.1) hx hb hK hP 2 1 rfl rfl hin_12 dX6_idOver_12 ?_
    refine lv_iconst (v := 1) hx hb dX6_idOver_13 (by decide) ?_
    refine lv_iand hx hb dX6_idOver_14 ?_
    refine lv_ishl hx hb dX6_idOver_15 ?_
    refine va_put (D := G) (ci := 6) (v := .int ((16 : Int32) <<< (((z0.2.2.1 (3 : Int32).toNatClampNeg) &&& 1) &&& 31))) (ty := .int) (C := RX6) (T := TX6) (N := 32) hx hb hts hi_6 tyX6 tyX6_ok nmX6 hown hK hP hD hS 0 rfl rfl 12 (by decide) hfl_17 (fun _ h9 => h9) rfl (by decide +kernel) rfl rfl (Nat.le_of_ble_eq_true rfl) dX6_idOver_16 (fun H locs hP hD hS => ?_)
    have hP : va_P G vwCl ((fk_mW q k) (upd z0.1 12 ((16 : Int32) <<< (((z0.2.2.1 (3 : Int32).toNatClampNeg) &&& 1) &&& 31)), z0.2)) H := hP
    have hD : va_D A ((fk_mW q k) (upd z0.1 12 ((16 : Int32) <<< (((z0.2.2.1 (3 : Int32).toNatClampNeg) &&& 1) &&& 31)), z0.2)) := hD
    exact h19 (upd z0.1 12 ((16 : Int32) <<< (((z0.2.2.1 (3 : Int32).toNatClampNeg) &&& 1) &&& 31)), z0.2) a1 _ _ ls (by rw [fX6_idOver, if_neg c1] <;> rfl) hP hD hS (lv_sub hl [0, 1] rfl)
-- FloppyDeskModel.dataOver(Z)V
set_option maxHeartbeats 4000000 in
set_option maxRecDepth 100000 in
theorem c_X6_dataOver (l : Launch) (G : va_G) (q : Nat → Nat) (k : Nat → ClassId) (sz : Nat) (z0 : fk_M) (a1 : Int32) : fk_Mv l yX6_dataOver wsX6_dataOver ({ frames := 2, cells := 0, slots := 0, locals := 41 } : Room) G (fk_mW q k) (fk_mT k) [.ref (q 0), .int a1] sz z0 (fX6_dataOver z0 a1) := by
  refine fk_head (cc := cX6_dataOver) (maxL := 2) (ret := none) (QQ := fun A => va_Qv (fun z1 => z1 = fX6_dataOver z0 a1) (fk_At G (fk_mW q k) (fk_mT k) A) A) (by decide) rfl (Nat.le_of_ble_eq_true rfl) ?_ sz
  intro p e s m below meth c A ls hx hb hr hlk hml hown hts hK hN hA hP hD hS hl
  have hown : s.vm.findClass RX6 = some m.cls := hown
  have F9 : CallFix p m c cX6_dataOver 2 s ([.ref (q 0), .int a1] : List Value).toArray wsX6_dataOver RX6 := ⟨hx, hb, hml, hown, hts⟩
  have hl : lv_has ls 2 [(0, .ref (q 0)), (1, .int a1)] := hl
  have hfl_21 := hts (.fieldLink RX6 21 "FloppyDeskModel" "latest" "I") (by decide +kernel)
  have hfl_55 := hts (.fieldLink RX6 55 "FloppyDeskModel" "phase" "I") (by decide +kernel)
  have hi_6 : ∀ w ∈ u_ws RX6 TX6 32, w ∈ wsX6_dataOver := by decide +kernel
  refine lv_aload_n hx hb dX6_dataOver_0 rfl (lv_at hl 0 rfl) ?_
  refine va_get (D := G) (ci := 6) (v := .int (z0.1 17)) (C := RX6) (T := TX6) (N := 32) hx hb hts hi_6 hown hK hP 0 rfl rfl 17 (by decide) hfl_21 (fun _ h9 => h9) rfl dX6_dataOver_1 ?_
  refine lv_iconst (v := 2) hx hb dX6_dataOver_4 (by decide) ?_
  refine lv_icmp_ne (tgt := 30) hx hb dX6_dataOver_5 (by decide) (fun c5 => ?_) (fun c5 => ?_)
  · exact fk_vret hx hb hr hlk hK hP hD hS (Eq.symm (by rw [fX6_dataOver, if_neg c5] <;> rfl)) dX6_dataOver_30
  · refine lv_aload_n hx hb dX6_dataOver_8 rfl (lv_at hl 0 rfl) ?_
    refine va_get (D := G) (ci := 6) (v := .int (z0.1 19)) (C := RX6) (T := TX6) (N := 32) hx hb hts hi_6 hown hK hP 0 rfl rfl 19 (by decide) hfl_55 (fun _ h9 => h9) rfl dX6_dataOver_9 ?_
    refine lv_iconst (v := 4) hx hb dX6_dataOver_12 (by decide) ?_
    refine lv_icmp_ne (tgt := 30) hx hb dX6_dataOver_13 (by decide) (fun c13 => ?_) (fun c13 => ?_)
    · exact fk_vret hx hb hr hlk hK hP hD hS (Eq.symm (by rw [fX6_dataOver, if_pos c5, if_neg c13] <;> rfl)) dX6_dataOver_30
    · refine lv_iload_n hx hb dX6_dataOver_16 rfl (lv_at hl 1 rfl) ?_
      refine lv_if_ne (tgt := 26) hx hb dX6_dataOver_17 (by decide) (fun c17 => ?_) (fun c17 => ?_)
      · refine lv_aload_n hx hb dX6_dataOver_26 rfl (lv_at hl 0 rfl) ?_
        have hl := lv_sub hl [] (l' := []) rfl
        refine fk_Vv (Wd := (fk_mW q k)) (z := z0) (As := []) (rest := []) F9 (c_X6_end l G q k _ z0) (cwV 0 hts gX6_dataOver_X6_end rfl rfl rfl (by decide +kernel) ⟨Nat.le_of_ble_eq_true rfl, Nat.le_of_ble_eq_true rfl⟩) (va_recv hK hP (ci := 6) (q0 := 0) rfl rfl) hK hP hD hS hA hN rfl hl.1 rfl (Nat.le_of_ble_eq_true rfl) dX6_dataOver_27 ⟨Nat.zero_le _, Nat.zero_le _⟩ (fun z H locs hw hP hD hS => ?_)
        exact fk_vret hx hb hr hlk hK hP hD hS (hw.trans (Eq.symm (by rw [fX6_dataOver, if_pos c5, if_pos c13, if_neg c17] <;> rfl))) dX6_dataOver_30
      · refine lv_aload_n hx hb dX6_dataOver_20 rfl (lv_at hl 0 rfl) ?_
        refine lv_bipush (v := 8) hx hb dX6_dataOver_21 (by decide) ?_
        have hl := lv_sub hl [0] (l' := [(0, .ref (q 0))]) rfl
        refine fk_Vv (Wd := (fk_mW q k)) (z := z0) (As := [.int 8]) (rest := []) F9 (c_X6_raise l G q k _ z0 8) (cwV 1 hts gX6_dataOver_X6_raise rfl rfl rfl (by decide +kernel) ⟨Nat.le_of_ble_eq_true rfl, Nat.le_of_ble_eq_true rfl⟩) (va_recv hK hP (ci := 6) (q0 := 0) rfl rfl) hK hP hD hS hA hN rfl hl.1 rfl (Nat.le_of_ble_eq_true rfl) dX6_dataOver_23 ⟨Nat.zero_le _, Nat.zero_le _⟩ (fun z H locs hw hP hD hS => ?_)
        have hf : fX6_dataOver z0 a1 = fX6_dataOver_c1 z := by rw [fX6_dataOver, if_pos c5, if_pos c13, if_pos c17, ← hw] <;> rfl
        refine lv_aload_n hx hb dX6_dataOver_26 rfl (lv_at hl 0 rfl) ?_
        have hl := lv_sub hl [] (l' := []) rfl
        refine fk_Vv (Wd := (fk_mW q k)) (z := z) (As := []) (rest := []) F9 (c_X6_end l G q k _ z) (cwV 0 hts gX6_dataOver_X6_end rfl rfl rfl (by decide +kernel) ⟨Nat.le_of_ble_eq_true rfl, Nat.le_of_ble_eq_true rfl⟩) (va_recv hK hP (ci := 6) (q0 := 0) rfl rfl) hK hP hD hS hA hN rfl hl.1 rfl (Nat.le_of_ble_eq_true rfl) dX6_dataOver_27 ⟨Nat.zero_le _, Nat.zero_le _⟩ (fun z H locs hw hP hD hS => ?_)
        exact fk_vret hx hb hr hlk hK hP hD hS (hw.trans (Eq.symm (by rw [hf, fX6_dataOver_c1] <;> rfl))) dX6_dataOver_30
-- FloppyDeskModel.comes(I)V
set_option maxHeartbeats 4000000 in
set_option maxRecDepth 100000 in
theorem c_X6_comes (l : Launch) (G : va_G) (q : Nat → Nat) (k : Nat → ClassId) (sz : Nat) (z0 : fk_M) (a1 : Int32) (hI : mI z0) : fk_Mv l yX6_comes wsX6_comes ({ frames := 3, cells := 0, slots := 0, locals := 63 } : Room) G (fk_mW q k) (fk_mT k) [.ref (q 0), .int a1] sz z0 (fX6_comes z0 a1) := by
  refine fk_head (cc := cX6_comes) (maxL := 5) (ret := none) (QQ := fun A => va_Qv (fun z1 => z1 = fX6_comes z0 a1) (fk_At G (fk_mW q k) (fk_mT k) A) A) (by decide) rfl (Nat.le_of_ble_eq_true rfl) ?_ sz
  intro p e s m below meth c A ls hx hb hr hlk hml hown hts hK hN hA hP hD hS hl
  have hown : s.vm.findClass RX6 = some m.cls := hown
  have F9 : CallFix p m c cX6_comes 5 s ([.ref (q 0), .int a1] : List Value).toArray wsX6_comes RX6 := ⟨hx, hb, hml, hown, hts⟩
  have hl : lv_has ls 5 [(0, .ref (q 0)), (1, .int a1)] := hl
  have hfl_13 := hts (.fieldLink RX6 13 "FloppyDeskModel" "bytes" "[I") (by decide +kernel)
  have hfl_17 := hts (.fieldLink RX6 17 "FloppyDeskModel" "dataSize" "I") (by decide +kernel)
  have hfl_21 := hts (.fieldLink RX6 21 "FloppyDeskModel" "latest" "I") (by decide +kernel)
  have hfl_35 := hts (.fieldLink RX6 35 "FloppyDeskModel" "got" "I") (by decide +kernel)
  have hfl_41 := hts (.fieldLink RX6 41 "FloppyDeskModel" "inStep" "Z") (by decide +kernel)
  have hfl_45 := hts (.fieldLink RX6 45 "FloppyDeskModel" "marks" "I") (by decide +kernel)
  have hfl_48 := hts (.fieldLink RX6 48 "FloppyDeskModel" "field" "I") (by decide +kernel)
  have hfl_55 := hts (.fieldLink RX6 55 "FloppyDeskModel" "phase" "I") (by decide +kernel)
  have hi_6 : ∀ w ∈ u_ws RX6 TX6 32, w ∈ wsX6_comes := by decide +kernel
  have h173 : ∀ (z : fk_M) (x2 : Int32) (H : Heap) (locs : List Loc) (ls : Array Slot), fX6_comes z0 a1 = fX6_comes_173 z x2 → (∃ g : Nat, 2 ≤ g ∧ g ≤ 40 ∧ x2 = nI g) → va_P G vwCl ((fk_mW q k) z) H → va_D A ((fk_mW q k) z) → va_S A s.heap H locs → lv_has ls 5 [(0, .ref (q 0)), (2, .int x2)] → W p l e ({ frames := 3, cells := 0, slots := 0, locals := 63 } : Room) s m ([.ref (q 0), .int a1] : List Value).toArray below meth c H locs 0 0 (MQ below (va_Qv (fun z1 => z1 = fX6_comes z0 a1) (fk_At G (fk_mW q k) (fk_mT k) A) A) ([.ref (q 0), .int a1] : List Value).toArray s 0 0 A) (F0 m 173 ls []) := by
    intro z x2 H locs ls hf hsz hP hD hS hl
    refine lv_aload_n hx hb dX6_comes_173 rfl (lv_at hl 0 rfl) ?_
    refine va_get (D := G) (ci := 6) (v := .int (z.1 10)) (C := RX6) (T := TX6) (N := 32) hx hb hts hi_6 hown hK hP 0 rfl rfl 10 (by decide) hfl_35 (fun _ h9 => h9) rfl dX6_comes_174 ?_
    refine lv_iload_n hx hb dX6_comes_177 rfl (lv_at hl 1 rfl) ?_
    refine lv_icmp_ne (tgt := 222) hx hb dX6_comes_178 (by decide) (fun c178 => ?_) (fun c178 => ?_)
    · exact fk_vret hx hb hr hlk hK hP hD hS (Eq.symm (by rw [hf, fX6_comes_173, if_neg c178] <;> rfl)) dX6_comes_222
    · obtain ⟨g, hg2, hg4, hge⟩ := hsz
      refine lv_aload_n hx hb dX6_comes_181 rfl (lv_at hl 0 rfl) ?_
      refine va_get (D := G) (ci := 6) (v := .int (z.1 8)) (C := RX6) (T := TX6) (N := 32) hx hb hts hi_6 hown hK hP 0 rfl rfl 8 (by decide) hfl_48 (fun _ h9 => h9) rfl dX6_comes_182 ?_
      refine lv_istore_n (lv' := [(3, .int (z.1 8)), (0, .ref (q 0)), (2, .int x2)]) hx hb dX6_comes_185 rfl hl (by decide) rfl (fun ls hl => ?_)
      refine lv_aload_n hx hb dX6_comes_186 rfl (lv_at hl 1 rfl) ?_
      refine lv_iconst (v := 0) hx hb dX6_comes_187 (by decide) ?_
      refine va_put (D := G) (ci := 6) (v := .int 0) (ty := .int) (C := RX6) (T := TX6) (N := 32) hx hb hts hi_6 tyX6 tyX6_ok nmX6 hown hK hP hD hS 0 rfl rfl 8 (by decide) hfl_48 (fun _ h9 => h9) rfl (by decide +kernel) rfl rfl (Nat.le_of_ble_eq_true rfl) dX6_comes_188 (fun H locs hP hD hS => ?_)
      have hP : va_P G vwCl ((fk_mW q k) (upd z.1 8 0, z.2)) H := hP
      have hD : va_D A ((fk_mW q k) (upd z.1 8 0, z.2)) := hD
      refine lv_aload_n hx hb dX6_comes_191 rfl (lv_at hl 1 rfl) ?_
      refine lv_iconst (v := 0) hx hb dX6_comes_192 (by decide) ?_
      refine va_put (D := G) (ci := 6) (v := .int 0) (ty := .boolean) (C := RX6) (T := TX6) (N := 32) hx hb hts hi_6 tyX6 tyX6_ok nmX6 hown hK hP hD hS 0 rfl rfl 5 (by decide) hfl_41 (fun _ h9 => h9) rfl (by decide +kernel) rfl rfl (Nat.le_of_ble_eq_true rfl) dX6_comes_193 (fun H locs hP hD hS => ?_)
      have hP : va_P G vwCl ((fk_mW q k) (upd (upd z.1 8 0) 5 0, z.2)) H := hP
      have hD : va_D A ((fk_mW q k) (upd (upd z.1 8 0) 5 0, z.2)) := hD
      refine lv_aload_n hx hb dX6_comes_196 rfl (lv_at hl 1 rfl) ?_
      refine fk_Vp (Wd := (fk_mW q k)) (z := (upd (upd z.1 8 0) 5 0, z.2)) (As := []) (rest := []) F9 (c_X6_isRight l G q k _ (upd (upd z.1 8 0) 5 0, z.2) g (c178.trans hge) hg2 hg4) (cwV 0 hts gX6_comes_X6_isRight rfl rfl rfl (by decide +kernel) ⟨Nat.le_of_ble_eq_true rfl, Nat.le_of_ble_eq_true rfl⟩) (va_recv hK hP (ci := 6) (q0 := 0) rfl rfl) hK hP hD hS hA hN rfl hl.1 rfl (Nat.le_of_ble_eq_true rfl) dX6_comes_197 ⟨Nat.zero_le _, Nat.zero_le _⟩ (fun H locs hP hD hS => ?_)
      refine lv_istore (lv' := [(4, .int (fX6_isRight (upd (upd z.1 8 0) 5 0, z.2))), (3, .int (z.1 8)), (0, .ref (q 0)), (2, .int x2)]) hx hb dX6_comes_200 hl (by decide) rfl (fun ls hl => ?_)
      refine lv_iload_n hx hb dX6_comes_202 rfl (lv_at hl 1 rfl) ?_
      refine lv_iconst (v := 1) hx hb dX6_comes_203 (by decide) ?_
      refine lv_icmp_ne (tgt := 216) hx hb dX6_comes_204 (by decide) (fun c204 => ?_) (fun c204 => ?_)
      · refine lv_aload_n hx hb dX6_comes_216 rfl (lv_at hl 2 rfl) ?_
        refine lv_iload hx hb dX6_comes_217 (lv_at hl 0 rfl) ?_
        have hl := lv_sub hl [] (l' := []) rfl
        refine fk_Vv (Wd := (fk_mW q k)) (z := (upd (upd z.1 8 0) 5 0, z.2)) (As := [.int (fX6_isRight (upd (upd z.1 8 0) 5 0, z.2))]) (rest := []) F9 (c_X6_dataOver l G q k _ (upd (upd z.1 8 0) 5 0, z.2) (fX6_isRight (upd (upd z.1 8 0) 5 0, z.2))) (cwV 1 hts gX6_comes_X6_dataOver rfl rfl rfl (by decide +kernel) ⟨Nat.le_of_ble_eq_true rfl, Nat.le_of_ble_eq_true rfl⟩) (va_recv hK hP (ci := 6) (q0 := 0) rfl rfl) hK hP hD hS hA hN rfl hl.1 rfl (Nat.le_of_ble_eq_true rfl) dX6_comes_219 ⟨Nat.zero_le _, Nat.zero_le _⟩ (fun z H locs hw hP hD hS => ?_)
        exact fk_vret hx hb hr hlk hK hP hD hS (hw.trans (Eq.symm (by rw [hf, fX6_comes_173, if_pos c178, if_neg c204] <;> rfl))) dX6_comes_222
      · refine lv_aload_n hx hb dX6_comes_207 rfl (lv_at hl 2 rfl) ?_
        refine lv_iload hx hb dX6_comes_208 (lv_at hl 0 rfl) ?_
        have hl := lv_sub hl [] (l' := []) rfl
        refine fk_Vv (Wd := (fk_mW q k)) (z := (upd (upd z.1 8 0) 5 0, z.2)) (As := [.int (fX6_isRight (upd (upd z.1 8 0) 5 0, z.2))]) (rest := []) F9 (c_X6_idOver l G q k _ (upd (upd z.1 8 0) 5 0, z.2) (fX6_isRight (upd (upd z.1 8 0) 5 0, z.2))) (cwV 1 hts gX6_comes_X6_idOver rfl rfl rfl (by decide +kernel) ⟨Nat.le_of_ble_eq_true rfl, Nat.le_of_ble_eq_true rfl⟩) (va_recv hK hP (ci := 6) (q0 := 0) rfl rfl) hK hP hD hS hA hN rfl hl.1 rfl (Nat.le_of_ble_eq_true rfl) dX6_comes_210 ⟨Nat.zero_le _, Nat.zero_le _⟩ (fun z H locs hw hP hD hS => ?_)
        refine lv_goto (tgt := 222) hx hb dX6_comes_213 (by decide) ?_
        exact fk_vret hx hb hr hlk hK hP hD hS (hw.trans (Eq.symm (by rw [hf, fX6_comes_173, if_pos c178, if_pos c204] <;> rfl))) dX6_comes_222
  have h168 : ∀ (z : fk_M) (x1 : Int32) (x2 : Int32) (H : Heap) (locs : List Loc) (ls : Array Slot), fX6_comes z0 a1 = fX6_comes_168 z x1 x2 → (∃ g : Nat, 2 ≤ g ∧ g ≤ 40 ∧ x2 = nI g) → va_P G vwCl ((fk_mW q k) z) H → va_D A ((fk_mW q k) z) → va_S A s.heap H locs → lv_has ls 5 [(0, .ref (q 0)), (1, .int x1), (2, .int x2)] → W p l e ({ frames := 3, cells := 0, slots := 0, locals := 63 } : Room) s m ([.ref (q 0), .int a1] : List Value).toArray below meth c H locs 0 0 (MQ below (va_Qv (fun z1 => z1 = fX6_comes z0 a1) (fk_At G (fk_mW q k) (fk_mT k) A) A) ([.ref (q 0), .int a1] : List Value).toArray s 0 0 A) (F0 m 168 ls []) := by
    intro z x1 x2 H locs ls hf hsz hP hD hS hl
    refine lv_aload_n hx hb dX6_comes_168 rfl (lv_at hl 0 rfl) ?_
    refine lv_iload_n hx hb dX6_comes_169 rfl (lv_at hl 1 rfl) ?_
    have hl := lv_sub hl [0, 2] (l' := [(0, .ref (q 0)), (2, .int x2)]) rfl
    refine fk_Vv (Wd := (fk_mW q k)) (z := z) (As := [.int x1]) (rest := []) F9 (c_X6_receive l G q k _ z x1) (cwV 1 hts gX6_comes_X6_receive rfl rfl rfl (by decide +kernel) ⟨Nat.le_of_ble_eq_true rfl, Nat.le_of_ble_eq_true rfl⟩) (va_recv hK hP (ci := 6) (q0 := 0) rfl rfl) hK hP hD hS hA hN rfl hl.1 rfl (Nat.le_of_ble_eq_true rfl) dX6_comes_170 ⟨Nat.zero_le _, Nat.zero_le _⟩ (fun z H locs hw hP hD hS => ?_)
    have hf : fX6_comes z0 a1 = fX6_comes_c1 z x2 := by rw [hf, fX6_comes_168, ← hw] <;> rfl
    exact h173 z x2 _ _ ls (by rw [hf, fX6_comes_c1] <;> rfl) hsz hP hD hS (lv_sub hl [0, 1] rfl)
  have h140 : ∀ (z : fk_M) (x1 : Int32) (s0 : Int32) (H : Heap) (locs : List Loc) (ls : Array Slot), fX6_comes z0 a1 = fX6_comes_140 z x1 s0 → (∃ g : Nat, 2 ≤ g ∧ g ≤ 40 ∧ s0 = nI g) → va_P G vwCl ((fk_mW q k) z) H → va_D A ((fk_mW q k) z) → va_S A s.heap H locs → lv_has ls 5 [(0, .ref (q 0)), (1, .int x1)] → W p l e ({ frames := 3, cells := 0, slots := 0, locals := 63 } : Room) s m ([.ref (q 0), .int a1] : List Value).toArray below meth c H locs 0 0 (MQ below (va_Qv (fun z1 => z1 = fX6_comes z0 a1) (fk_At G (fk_mW q k) (fk_mT k) A) A) ([.ref (q 0), .int a1] : List Value).toArray s 0 0 A) (F0 m 140 ls [.int s0]) := by
    intro z x1 s0 H locs ls hf hsz hP hD hS hl
    refine lv_istore_n (lv' := [(2, .int s0), (0, .ref (q 0)), (1, .int x1)]) hx hb dX6_comes_140 rfl hl (by decide) rfl (fun ls hl => ?_)
    refine lv_aload_n hx hb dX6_comes_141 rfl (lv_at hl 1 rfl) ?_
    refine va_get (D := G) (ci := 6) (v := .int (z.1 19)) (C := RX6) (T := TX6) (N := 32) hx hb hts hi_6 hown hK hP 0 rfl rfl 19 (by decide) hfl_55 (fun _ h9 => h9) rfl dX6_comes_142 ?_
    refine lv_iconst (v := 4) hx hb dX6_comes_145 (by decide) ?_
    refine lv_icmp_ne (tgt := 173) hx hb dX6_comes_146 (by decide) (fun c146 => ?_) (fun c146 => ?_)
    · exact h173 z s0 _ _ ls (by rw [hf, fX6_comes_140, if_neg c146] <;> rfl) hsz hP hD hS (lv_sub hl [1, 0] rfl)
    · refine lv_aload_n hx hb dX6_comes_149 rfl (lv_at hl 1 rfl) ?_
      refine va_get (D := G) (ci := 6) (v := .int (z.1 17)) (C := RX6) (T := TX6) (N := 32) hx hb hts hi_6 hown hK hP 0 rfl rfl 17 (by decide) hfl_21 (fun _ h9 => h9) rfl dX6_comes_150 ?_
      refine lv_iconst (v := 4) hx hb dX6_comes_153 (by decide) ?_
      refine lv_icmp_eq (tgt := 168) hx hb dX6_comes_154 (by decide) (fun c154 => ?_) (fun c154 => ?_)
      · exact h168 z x1 s0 _ _ ls (by rw [hf, fX6_comes_140, if_pos c146, if_pos c154] <;> rfl) hsz hP hD hS (lv_sub hl [1, 2, 0] rfl)
      · refine lv_aload_n hx hb dX6_comes_157 rfl (lv_at hl 1 rfl) ?_
        refine va_get (D := G) (ci := 6) (v := .int (z.1 10)) (C := RX6) (T := TX6) (N := 32) hx hb hts hi_6 hown hK hP 0 rfl rfl 10 (by decide) hfl_35 (fun _ h9 => h9) rfl dX6_comes_158 ?_
        refine lv_aload_n hx hb dX6_comes_161 rfl (lv_at hl 1 rfl) ?_
        refine va_get (D := G) (ci := 6) (v := .int (z.1 12)) (C := RX6) (T := TX6) (N := 32) hx hb hts hi_6 hown hK hP 0 rfl rfl 12 (by decide) hfl_17 (fun _ h9 => h9) rfl dX6_comes_162 ?_
        refine lv_icmp_gt (tgt := 173) hx hb dX6_comes_165 (by decide) (fun c165 => ?_) (fun c165 => ?_)
        · exact h173 z s0 _ _ ls (by rw [hf, fX6_comes_140, if_pos c146, if_neg c154, if_pos c165] <;> rfl) hsz hP hD hS (lv_sub hl [1, 0] rfl)
        · exact h168 z x1 s0 _ _ ls (by rw [hf, fX6_comes_140, if_pos c146, if_neg c154, if_neg c165] <;> rfl) hsz hP hD hS (lv_sub hl [1, 2, 0] rfl)
  refine lv_aload_n hx hb dX6_comes_0 rfl (lv_at hl 0 rfl) ?_
  refine va_get (D := G) (ci := 6) (v := .int (z0.1 8)) (C := RX6) (T := TX6) (N := 32) hx hb hts hi_6 hown hK hP 0 rfl rfl 8 (by decide) hfl_48 (fun _ h9 => h9) rfl dX6_comes_1 ?_
  refine lv_if_ne (tgt := 101) hx hb dX6_comes_4 (by decide) (fun c4 => ?_) (fun c4 => ?_)
  · refine lv_aload_n hx hb dX6_comes_101 rfl (lv_at hl 0 rfl) ?_
    refine va_get (D := G) (ci := 6) (v := .ref (q 2)) (C := RX6) (T := TX6) (N := 32) hx hb hts hi_6 hown hK hP 0 rfl rfl 11 (by decide) hfl_13 (fun _ h9 => h9) rfl dX6_comes_102 ?_
    refine lv_aload_n hx hb dX6_comes_105 rfl (lv_at hl 0 rfl) ?_
    refine va_get (D := G) (ci := 6) (v := .int (z0.1 10)) (C := RX6) (T := TX6) (N := 32) hx hb hts hi_6 hown hK hP 0 rfl rfl 10 (by decide) hfl_35 (fun _ h9 => h9) rfl dX6_comes_106 ?_
    refine lv_iload_n hx hb dX6_comes_109 rfl (lv_at hl 1 rfl) ?_
    have hin_110 : vp_in (z0.1 10) 40 := by exact mI_got hI
    refine va_iast (f := z0.2.2.1) (x := a1) hx hb hK hP hD hS 2 1 rfl rfl hin_110 dX6_comes_110 (fun H locs hP hD hS => ?_)
    have hP : va_P G vwCl ((fk_mW q k) (z0.1, z0.2.1, upd z0.2.2.1 (z0.1 10).toNatClampNeg a1, z0.2.2.2)) H := hP
    have hD : va_D A ((fk_mW q k) (z0.1, z0.2.1, upd z0.2.2.1 (z0.1 10).toNatClampNeg a1, z0.2.2.2)) := hD
    refine lv_aload_n hx hb dX6_comes_111 rfl (lv_at hl 0 rfl) ?_
    refine lv_dup hx hb dX6_comes_112 rfl ?_
    refine va_get (D := G) (ci := 6) (v := .int (z0.1 10)) (C := RX6) (T := TX6) (N := 32) hx hb hts hi_6 hown hK hP 0 rfl rfl 10 (by decide) hfl_35 (fun _ h9 => h9) rfl dX6_comes_113 ?_
    refine lv_iconst (v := 1) hx hb dX6_comes_116 (by decide) ?_
    refine lv_iadd hx hb dX6_comes_117 ?_
    refine va_put (D := G) (ci := 6) (v := .int ((z0.1 10) + 1)) (ty := .int) (C := RX6) (T := TX6) (N := 32) hx hb hts hi_6 tyX6 tyX6_ok nmX6 hown hK hP hD hS 0 rfl rfl 10 (by decide) hfl_35 (fun _ h9 => h9) rfl (by decide +kernel) rfl rfl (Nat.le_of_ble_eq_true rfl) dX6_comes_118 (fun H locs hP hD hS => ?_)
    have hP : va_P G vwCl ((fk_mW q k) (upd z0.1 10 ((z0.1 10) + 1), z0.2.1, upd z0.2.2.1 (z0.1 10).toNatClampNeg a1, z0.2.2.2)) H := hP
    have hD : va_D A ((fk_mW q k) (upd z0.1 10 ((z0.1 10) + 1), z0.2.1, upd z0.2.2.1 (z0.1 10).toNatClampNeg a1, z0.2.2.2)) := hD
    refine lv_aload_n hx hb dX6_comes_121 rfl (lv_at hl 0 rfl) ?_
    refine va_get (D := G) (ci := 6) (v := .int (z0.1 8)) (C := RX6) (T := TX6) (N := 32) hx hb hts hi_6 hown hK hP 0 rfl rfl 8 (by decide) hfl_48 (fun _ h9 => h9) rfl dX6_comes_122 ?_
    refine lv_iconst (v := 1) hx hb dX6_comes_125 (by decide) ?_
    refine lv_icmp_ne (tgt := 134) hx hb dX6_comes_126 (by decide) (fun c126 => ?_) (fun c126 => ?_)
    · refine lv_aload_n hx hb dX6_comes_134 rfl (lv_at hl 0 rfl) ?_
      refine va_get (D := G) (ci := 6) (v := .int (z0.1 12)) (C := RX6) (T := TX6) (N := 32) hx hb hts hi_6 hown hK hP 0 rfl rfl 12 (by decide) hfl_17 (fun _ h9 => h9) rfl dX6_comes_135 ?_
      refine lv_iconst (v := 2) hx hb dX6_comes_138 (by decide) ?_
      refine lv_iadd hx hb dX6_comes_139 ?_
      exact h140 (upd z0.1 10 ((z0.1 10) + 1), z0.2.1, upd z0.2.2.1 (z0.1 10).toNatClampNeg a1, z0.2.2.2) a1 ((z0.1 12) + 2) _ _ ls (by rw [fX6_comes, if_neg c4, if_neg c126] <;> rfl) (by first | exact ⟨6, by decide, by decide, by decide⟩ | exact mI_size hI) hP hD hS (lv_sub hl [0, 1] rfl)
    · refine lv_bipush (v := 6) hx hb dX6_comes_129 (by decide) ?_
      refine lv_goto (tgt := 140) hx hb dX6_comes_131 (by decide) ?_
      exact h140 (upd z0.1 10 ((z0.1 10) + 1), z0.2.1, upd z0.2.2.1 (z0.1 10).toNatClampNeg a1, z0.2.2.2) a1 6 _ _ ls (by rw [fX6_comes, if_neg c4, if_pos c126] <;> rfl) (by first | exact ⟨6, by decide, by decide, by decide⟩ | exact mI_size hI) hP hD hS (lv_sub hl [0, 1] rfl)
  · refine lv_aload_n hx hb dX6_comes_7 rfl (lv_at hl 0 rfl) ?_
    refine va_get (D := G) (ci := 6) (v := .int (z0.1 6)) (C := RX6) (T := TX6) (N := 32) hx hb hts hi_6 hown hK hP 0 rfl rfl 6 (by decide) hfl_45 (fun _ h9 => h9) rfl dX6_comes_8 ?_
    refine lv_iconst (v := 2) hx hb dX6_comes_11 (by decide) ?_
    refine lv_icmp_le (tgt := 26) hx hb dX6_comes_12 (by decide) (fun c12 => ?_) (fun c12 => ?_)
    · refine lv_iconst (v := 0) hx hb dX6_comes_26 (by decide) ?_
      refine lv_istore_n (lv' := [(2, .int 0), (0, .ref (q 0)), (1, .int a1)]) hx hb dX6_comes_27 rfl hl (by decide) rfl (fun ls hl => ?_)
      refine lv_aload_n hx hb dX6_comes_28 rfl (lv_at hl 1 rfl) ?_
      refine va_get (D := G) (ci := 6) (v := .int (z0.1 6)) (C := RX6) (T := TX6) (N := 32) hx hb hts hi_6 hown hK hP 0 rfl rfl 6 (by decide) hfl_45 (fun _ h9 => h9) rfl dX6_comes_29 ?_
      refine lv_iconst (v := 2) hx hb dX6_comes_32 (by decide) ?_
      refine lv_icmp_le (tgt := 54) hx hb dX6_comes_33 (by decide) (fun c33 => ?_) (fun c33 => ?_)
      · refine lv_iconst (v := 0) hx hb dX6_comes_54 (by decide) ?_
        refine lv_istore_n (lv' := [(3, .int 0), (2, .int 0), (0, .ref (q 0)), (1, .int a1)]) hx hb dX6_comes_55 rfl hl (by decide) rfl (fun ls hl => ?_)
        refine lv_aload_n hx hb dX6_comes_56 rfl (lv_at hl 2 rfl) ?_
        refine lv_iconst (v := 0) hx hb dX6_comes_57 (by decide) ?_
        refine va_put (D := G) (ci := 6) (v := .int 0) (ty := .int) (C := RX6) (T := TX6) (N := 32) hx hb hts hi_6 tyX6 tyX6_ok nmX6 hown hK hP hD hS 0 rfl rfl 6 (by decide) hfl_45 (fun _ h9 => h9) rfl (by decide +kernel) rfl rfl (Nat.le_of_ble_eq_true rfl) dX6_comes_58 (fun H locs hP hD hS => ?_)
        have hP : va_P G vwCl ((fk_mW q k) (upd z0.1 6 0, z0.2)) H := hP
        have hD : va_D A ((fk_mW q k) (upd z0.1 6 0, z0.2)) := hD
        refine lv_aload_n hx hb dX6_comes_61 rfl (lv_at hl 2 rfl) ?_
        refine lv_iload_n hx hb dX6_comes_62 rfl (lv_at hl 1 rfl) ?_
        refine lv_if_ne (tgt := 70) hx hb dX6_comes_63 (by decide) (fun h9 => absurd h9 (by decide)) (fun _ => ?_)
        refine lv_iload_n hx hb dX6_comes_66 rfl (lv_at hl 0 rfl) ?_
        refine lv_if_eq (tgt := 74) hx hb dX6_comes_67 (by decide) (fun _ => ?_) (fun h9 => absurd h9 (by decide))
        refine lv_iconst (v := 0) hx hb dX6_comes_74 (by decide) ?_
        refine va_put (D := G) (ci := 6) (v := .int 0) (ty := .boolean) (C := RX6) (T := TX6) (N := 32) hx hb hts hi_6 tyX6 tyX6_ok nmX6 hown hK hP hD hS 0 rfl rfl 5 (by decide) hfl_41 (fun _ h9 => h9) rfl (by decide +kernel) rfl rfl (Nat.le_of_ble_eq_true rfl) dX6_comes_75 (fun H locs hP hD hS => ?_)
        have hP : va_P G vwCl ((fk_mW q k) (upd (upd z0.1 6 0) 5 0, z0.2)) H := hP
        have hD : va_D A ((fk_mW q k) (upd (upd z0.1 6 0) 5 0, z0.2)) := hD
        refine lv_iload_n hx hb dX6_comes_78 rfl (lv_at hl 1 rfl) ?_
        refine lv_if_ne (tgt := 86) hx hb dX6_comes_79 (by decide) (fun h9 => absurd h9 (by decide)) (fun _ => ?_)
        refine lv_iload_n hx hb dX6_comes_82 rfl (lv_at hl 0 rfl) ?_
        refine lv_if_eq (tgt := 100) hx hb dX6_comes_83 (by decide) (fun _ => ?_) (fun h9 => absurd h9 (by decide))
        exact fk_vret hx hb hr hlk hK hP hD hS (Eq.symm (by rw [fX6_comes, if_pos c4, if_pos c12, if_pos c33] <;> rfl)) dX6_comes_100
      · refine lv_iload_n hx hb dX6_comes_36 rfl (lv_at hl 2 rfl) ?_
        refine lv_sipush (v := 251) hx hb dX6_comes_37 (by decide) ?_
        refine lv_icmp_eq (tgt := 50) hx hb dX6_comes_40 (by decide) (fun c40 => ?_) (fun c40 => ?_)
        · refine lv_iconst (v := 1) hx hb dX6_comes_50 (by decide) ?_
          refine lv_goto (tgt := 55) hx hb dX6_comes_51 (by decide) ?_
          refine lv_istore_n (lv' := [(3, .int 1), (2, .int 0), (0, .ref (q 0)), (1, .int a1)]) hx hb dX6_comes_55 rfl hl (by decide) rfl (fun ls hl => ?_)
          refine lv_aload_n hx hb dX6_comes_56 rfl (lv_at hl 2 rfl) ?_
          refine lv_iconst (v := 0) hx hb dX6_comes_57 (by decide) ?_
          refine va_put (D := G) (ci := 6) (v := .int 0) (ty := .int) (C := RX6) (T := TX6) (N := 32) hx hb hts hi_6 tyX6 tyX6_ok nmX6 hown hK hP hD hS 0 rfl rfl 6 (by decide) hfl_45 (fun _ h9 => h9) rfl (by decide +kernel) rfl rfl (Nat.le_of_ble_eq_true rfl) dX6_comes_58 (fun H locs hP hD hS => ?_)
          have hP : va_P G vwCl ((fk_mW q k) (upd z0.1 6 0, z0.2)) H := hP
          have hD : va_D A ((fk_mW q k) (upd z0.1 6 0, z0.2)) := hD
          refine lv_aload_n hx hb dX6_comes_61 rfl (lv_at hl 2 rfl) ?_
          refine lv_iload_n hx hb dX6_comes_62 rfl (lv_at hl 1 rfl) ?_
          refine lv_if_ne (tgt := 70) hx hb dX6_comes_63 (by decide) (fun h9 => absurd h9 (by decide)) (fun _ => ?_)
          refine lv_iload_n hx hb dX6_comes_66 rfl (lv_at hl 0 rfl) ?_
          refine lv_if_eq (tgt := 74) hx hb dX6_comes_67 (by decide) (fun h9 => absurd h9 (by decide)) (fun _ => ?_)
          refine lv_iconst (v := 1) hx hb dX6_comes_70 (by decide) ?_
          refine lv_goto (tgt := 75) hx hb dX6_comes_71 (by decide) ?_
          refine va_put (D := G) (ci := 6) (v := .int 1) (ty := .boolean) (C := RX6) (T := TX6) (N := 32) hx hb hts hi_6 tyX6 tyX6_ok nmX6 hown hK hP hD hS 0 rfl rfl 5 (by decide) hfl_41 (fun _ h9 => h9) rfl (by decide +kernel) rfl rfl (Nat.le_of_ble_eq_true rfl) dX6_comes_75 (fun H locs hP hD hS => ?_)
          have hP : va_P G vwCl ((fk_mW q k) (upd (upd z0.1 6 0) 5 1, z0.2)) H := hP
          have hD : va_D A ((fk_mW q k) (upd (upd z0.1 6 0) 5 1, z0.2)) := hD
          refine lv_iload_n hx hb dX6_comes_78 rfl (lv_at hl 1 rfl) ?_
          refine lv_if_ne (tgt := 86) hx hb dX6_comes_79 (by decide) (fun h9 => absurd h9 (by decide)) (fun _ => ?_)
          refine lv_iload_n hx hb dX6_comes_82 rfl (lv_at hl 0 rfl) ?_
          refine lv_if_eq (tgt := 100) hx hb dX6_comes_83 (by decide) (fun h9 => absurd h9 (by decide)) (fun _ => ?_)
          refine lv_aload_n hx hb dX6_comes_86 rfl (lv_at hl 2 rfl) ?_
          refine lv_iload_n hx hb dX6_comes_87 rfl (lv_at hl 1 rfl) ?_
          refine lv_if_eq (tgt := 95) hx hb dX6_comes_88 (by decide) (fun _ => ?_) (fun h9 => absurd h9 (by decide))
          refine lv_iconst (v := 2) hx hb dX6_comes_95 (by decide) ?_
          refine lv_iload_n hx hb dX6_comes_96 rfl (lv_at hl 3 rfl) ?_
          have hl := lv_sub hl [] (l' := []) rfl
          refine fk_Vv (Wd := (fk_mW q k)) (z := (upd (upd z0.1 6 0) 5 1, z0.2)) (As := [.int 2, .int a1]) (rest := []) F9 (c_X6_begins l G q k _ (upd (upd z0.1 6 0) 5 1, z0.2) 2 a1) (cwV 2 hts gX6_comes_X6_begins rfl rfl rfl (by decide +kernel) ⟨Nat.le_of_ble_eq_true rfl, Nat.le_of_ble_eq_true rfl⟩) (va_recv hK hP (ci := 6) (q0 := 0) rfl rfl) hK hP hD hS hA hN rfl hl.1 rfl (Nat.le_of_ble_eq_true rfl) dX6_comes_97 ⟨Nat.zero_le _, Nat.zero_le _⟩ (fun z H locs hw hP hD hS => ?_)
          exact fk_vret hx hb hr hlk hK hP hD hS (hw.trans (Eq.symm (by rw [fX6_comes, if_pos c4, if_pos c12, if_neg c33, if_pos c40] <;> rfl))) dX6_comes_100
        · refine lv_iload_n hx hb dX6_comes_43 rfl (lv_at hl 2 rfl) ?_
          refine lv_sipush (v := 248) hx hb dX6_comes_44 (by decide) ?_
          refine lv_icmp_ne (tgt := 54) hx hb dX6_comes_47 (by decide) (fun c47 => ?_) (fun c47 => ?_)
          · refine lv_iconst (v := 0) hx hb dX6_comes_54 (by decide) ?_
            refine lv_istore_n (lv' := [(3, .int 0), (2, .int 0), (0, .ref (q 0)), (1, .int a1)]) hx hb dX6_comes_55 rfl hl (by decide) rfl (fun ls hl => ?_)
            refine lv_aload_n hx hb dX6_comes_56 rfl (lv_at hl 2 rfl) ?_
            refine lv_iconst (v := 0) hx hb dX6_comes_57 (by decide) ?_
            refine va_put (D := G) (ci := 6) (v := .int 0) (ty := .int) (C := RX6) (T := TX6) (N := 32) hx hb hts hi_6 tyX6 tyX6_ok nmX6 hown hK hP hD hS 0 rfl rfl 6 (by decide) hfl_45 (fun _ h9 => h9) rfl (by decide +kernel) rfl rfl (Nat.le_of_ble_eq_true rfl) dX6_comes_58 (fun H locs hP hD hS => ?_)
            have hP : va_P G vwCl ((fk_mW q k) (upd z0.1 6 0, z0.2)) H := hP
            have hD : va_D A ((fk_mW q k) (upd z0.1 6 0, z0.2)) := hD
            refine lv_aload_n hx hb dX6_comes_61 rfl (lv_at hl 2 rfl) ?_
            refine lv_iload_n hx hb dX6_comes_62 rfl (lv_at hl 1 rfl) ?_
            refine lv_if_ne (tgt := 70) hx hb dX6_comes_63 (by decide) (fun h9 => absurd h9 (by decide)) (fun _ => ?_)
            refine lv_iload_n hx hb dX6_comes_66 rfl (lv_at hl 0 rfl) ?_
            refine lv_if_eq (tgt := 74) hx hb dX6_comes_67 (by decide) (fun _ => ?_) (fun h9 => absurd h9 (by decide))
            refine lv_iconst (v := 0) hx hb dX6_comes_74 (by decide) ?_
            refine va_put (D := G) (ci := 6) (v := .int 0) (ty := .boolean) (C := RX6) (T := TX6) (N := 32) hx hb hts hi_6 tyX6 tyX6_ok nmX6 hown hK hP hD hS 0 rfl rfl 5 (by decide) hfl_41 (fun _ h9 => h9) rfl (by decide +kernel) rfl rfl (Nat.le_of_ble_eq_true rfl) dX6_comes_75 (fun H locs hP hD hS => ?_)
            have hP : va_P G vwCl ((fk_mW q k) (upd (upd z0.1 6 0) 5 0, z0.2)) H := hP
            have hD : va_D A ((fk_mW q k) (upd (upd z0.1 6 0) 5 0, z0.2)) := hD
            refine lv_iload_n hx hb dX6_comes_78 rfl (lv_at hl 1 rfl) ?_
            refine lv_if_ne (tgt := 86) hx hb dX6_comes_79 (by decide) (fun h9 => absurd h9 (by decide)) (fun _ => ?_)
            refine lv_iload_n hx hb dX6_comes_82 rfl (lv_at hl 0 rfl) ?_
            refine lv_if_eq (tgt := 100) hx hb dX6_comes_83 (by decide) (fun _ => ?_) (fun h9 => absurd h9 (by decide))
            exact fk_vret hx hb hr hlk hK hP hD hS (Eq.symm (by rw [fX6_comes, if_pos c4, if_pos c12, if_neg c33, if_neg c40, if_neg c47] <;> rfl)) dX6_comes_100
          · refine lv_iconst (v := 1) hx hb dX6_comes_50 (by decide) ?_
            refine lv_goto (tgt := 55) hx hb dX6_comes_51 (by decide) ?_
            refine lv_istore_n (lv' := [(3, .int 1), (2, .int 0), (0, .ref (q 0)), (1, .int a1)]) hx hb dX6_comes_55 rfl hl (by decide) rfl (fun ls hl => ?_)
            refine lv_aload_n hx hb dX6_comes_56 rfl (lv_at hl 2 rfl) ?_
            refine lv_iconst (v := 0) hx hb dX6_comes_57 (by decide) ?_
            refine va_put (D := G) (ci := 6) (v := .int 0) (ty := .int) (C := RX6) (T := TX6) (N := 32) hx hb hts hi_6 tyX6 tyX6_ok nmX6 hown hK hP hD hS 0 rfl rfl 6 (by decide) hfl_45 (fun _ h9 => h9) rfl (by decide +kernel) rfl rfl (Nat.le_of_ble_eq_true rfl) dX6_comes_58 (fun H locs hP hD hS => ?_)
            have hP : va_P G vwCl ((fk_mW q k) (upd z0.1 6 0, z0.2)) H := hP
            have hD : va_D A ((fk_mW q k) (upd z0.1 6 0, z0.2)) := hD
            refine lv_aload_n hx hb dX6_comes_61 rfl (lv_at hl 2 rfl) ?_
            refine lv_iload_n hx hb dX6_comes_62 rfl (lv_at hl 1 rfl) ?_
            refine lv_if_ne (tgt := 70) hx hb dX6_comes_63 (by decide) (fun h9 => absurd h9 (by decide)) (fun _ => ?_)
            refine lv_iload_n hx hb dX6_comes_66 rfl (lv_at hl 0 rfl) ?_
            refine lv_if_eq (tgt := 74) hx hb dX6_comes_67 (by decide) (fun h9 => absurd h9 (by decide)) (fun _ => ?_)
            refine lv_iconst (v := 1) hx hb dX6_comes_70 (by decide) ?_
            refine lv_goto (tgt := 75) hx hb dX6_comes_71 (by decide) ?_
            refine va_put (D := G) (ci := 6) (v := .int 1) (ty := .boolean) (C := RX6) (T := TX6) (N := 32) hx hb hts hi_6 tyX6 tyX6_ok nmX6 hown hK hP hD hS 0 rfl rfl 5 (by decide) hfl_41 (fun _ h9 => h9) rfl (by decide +kernel) rfl rfl (Nat.le_of_ble_eq_true rfl) dX6_comes_75 (fun H locs hP hD hS => ?_)
            have hP : va_P G vwCl ((fk_mW q k) (upd (upd z0.1 6 0) 5 1, z0.2)) H := hP
            have hD : va_D A ((fk_mW q k) (upd (upd z0.1 6 0) 5 1, z0.2)) := hD
            refine lv_iload_n hx hb dX6_comes_78 rfl (lv_at hl 1 rfl) ?_
            refine lv_if_ne (tgt := 86) hx hb dX6_comes_79 (by decide) (fun h9 => absurd h9 (by decide)) (fun _ => ?_)
            refine lv_iload_n hx hb dX6_comes_82 rfl (lv_at hl 0 rfl) ?_
            refine lv_if_eq (tgt := 100) hx hb dX6_comes_83 (by decide) (fun h9 => absurd h9 (by decide)) (fun _ => ?_)
            refine lv_aload_n hx hb dX6_comes_86 rfl (lv_at hl 2 rfl) ?_
            refine lv_iload_n hx hb dX6_comes_87 rfl (lv_at hl 1 rfl) ?_
            refine lv_if_eq (tgt := 95) hx hb dX6_comes_88 (by decide) (fun _ => ?_) (fun h9 => absurd h9 (by decide))
            refine lv_iconst (v := 2) hx hb dX6_comes_95 (by decide) ?_
            refine lv_iload_n hx hb dX6_comes_96 rfl (lv_at hl 3 rfl) ?_
            have hl := lv_sub hl [] (l' := []) rfl
            refine fk_Vv (Wd := (fk_mW q k)) (z := (upd (upd z0.1 6 0) 5 1, z0.2)) (As := [.int 2, .int a1]) (rest := []) F9 (c_X6_begins l G q k _ (upd (upd z0.1 6 0) 5 1, z0.2) 2 a1) (cwV 2 hts gX6_comes_X6_begins rfl rfl rfl (by decide +kernel) ⟨Nat.le_of_ble_eq_true rfl, Nat.le_of_ble_eq_true rfl⟩) (va_recv hK hP (ci := 6) (q0 := 0) rfl rfl) hK hP hD hS hA hN rfl hl.1 rfl (Nat.le_of_ble_eq_true rfl) dX6_comes_97 ⟨Nat.zero_le _, Nat.zero_le _⟩ (fun z H locs hw hP hD hS => ?_)
            exact fk_vret hx hb hr hlk hK hP hD hS (hw.trans (Eq.symm (by rw [fX6_comes, if_pos c4, if_pos c12, if_neg c33, if_neg c40, if_pos c47] <;> rfl))) dX6_comes_100
    · refine lv_iload_n hx hb dX6_comes_15 rfl (lv_at hl 1 rfl) ?_
      refine lv_sipush (v := 254) hx hb dX6_comes_16 (by decide) ?_
      refine lv_icmp_ne (tgt := 26) hx hb dX6_comes_19 (by decide) (fun c19 => ?_) (fun c19 => ?_)
      · refine lv_iconst (v := 0) hx hb dX6_comes_26 (by decide) ?_
        refine lv_istore_n (lv' := [(2, .int 0), (0, .ref (q 0)), (1, .int a1)]) hx hb dX6_comes_27 rfl hl (by decide) rfl (fun ls hl => ?_)
        refine lv_aload_n hx hb dX6_comes_28 rfl (lv_at hl 1 rfl) ?_
        refine va_get (D := G) (ci := 6) (v := .int (z0.1 6)) (C := RX6) (T := TX6) (N := 32) hx hb hts hi_6 hown hK hP 0 rfl rfl 6 (by decide) hfl_45 (fun _ h9 => h9) rfl dX6_comes_29 ?_
        refine lv_iconst (v := 2) hx hb dX6_comes_32 (by decide) ?_
        refine lv_icmp_le (tgt := 54) hx hb dX6_comes_33 (by decide) (fun c33 => ?_) (fun c33 => ?_)
        · refine lv_iconst (v := 0) hx hb dX6_comes_54 (by decide) ?_
          refine lv_istore_n (lv' := [(3, .int 0), (2, .int 0), (0, .ref (q 0)), (1, .int a1)]) hx hb dX6_comes_55 rfl hl (by decide) rfl (fun ls hl => ?_)
          refine lv_aload_n hx hb dX6_comes_56 rfl (lv_at hl 2 rfl) ?_
          refine lv_iconst (v := 0) hx hb dX6_comes_57 (by decide) ?_
          refine va_put (D := G) (ci := 6) (v := .int 0) (ty := .int) (C := RX6) (T := TX6) (N := 32) hx hb hts hi_6 tyX6 tyX6_ok nmX6 hown hK hP hD hS 0 rfl rfl 6 (by decide) hfl_45 (fun _ h9 => h9) rfl (by decide +kernel) rfl rfl (Nat.le_of_ble_eq_true rfl) dX6_comes_58 (fun H locs hP hD hS => ?_)
          have hP : va_P G vwCl ((fk_mW q k) (upd z0.1 6 0, z0.2)) H := hP
          have hD : va_D A ((fk_mW q k) (upd z0.1 6 0, z0.2)) := hD
          refine lv_aload_n hx hb dX6_comes_61 rfl (lv_at hl 2 rfl) ?_
          refine lv_iload_n hx hb dX6_comes_62 rfl (lv_at hl 1 rfl) ?_
          refine lv_if_ne (tgt := 70) hx hb dX6_comes_63 (by decide) (fun h9 => absurd h9 (by decide)) (fun _ => ?_)
          refine lv_iload_n hx hb dX6_comes_66 rfl (lv_at hl 0 rfl) ?_
          refine lv_if_eq (tgt := 74) hx hb dX6_comes_67 (by decide) (fun _ => ?_) (fun h9 => absurd h9 (by decide))
          refine lv_iconst (v := 0) hx hb dX6_comes_74 (by decide) ?_
          refine va_put (D := G) (ci := 6) (v := .int 0) (ty := .boolean) (C := RX6) (T := TX6) (N := 32) hx hb hts hi_6 tyX6 tyX6_ok nmX6 hown hK hP hD hS 0 rfl rfl 5 (by decide) hfl_41 (fun _ h9 => h9) rfl (by decide +kernel) rfl rfl (Nat.le_of_ble_eq_true rfl) dX6_comes_75 (fun H locs hP hD hS => ?_)
          have hP : va_P G vwCl ((fk_mW q k) (upd (upd z0.1 6 0) 5 0, z0.2)) H := hP
          have hD : va_D A ((fk_mW q k) (upd (upd z0.1 6 0) 5 0, z0.2)) := hD
          refine lv_iload_n hx hb dX6_comes_78 rfl (lv_at hl 1 rfl) ?_
          refine lv_if_ne (tgt := 86) hx hb dX6_comes_79 (by decide) (fun h9 => absurd h9 (by decide)) (fun _ => ?_)
          refine lv_iload_n hx hb dX6_comes_82 rfl (lv_at hl 0 rfl) ?_
          refine lv_if_eq (tgt := 100) hx hb dX6_comes_83 (by decide) (fun _ => ?_) (fun h9 => absurd h9 (by decide))
          exact fk_vret hx hb hr hlk hK hP hD hS (Eq.symm (by rw [fX6_comes, if_pos c4, if_neg c12, if_neg c19, if_pos c33] <;> rfl)) dX6_comes_100
        · refine lv_iload_n hx hb dX6_comes_36 rfl (lv_at hl 2 rfl) ?_
          refine lv_sipush (v := 251) hx hb dX6_comes_37 (by decide) ?_
          refine lv_icmp_eq (tgt := 50) hx hb dX6_comes_40 (by decide) (fun c40 => ?_) (fun c40 => ?_)
          · refine lv_iconst (v := 1) hx hb dX6_comes_50 (by decide) ?_
            refine lv_goto (tgt := 55) hx hb dX6_comes_51 (by decide) ?_
            refine lv_istore_n (lv' := [(3, .int 1), (2, .int 0), (0, .ref (q 0)), (1, .int a1)]) hx hb dX6_comes_55 rfl hl (by decide) rfl (fun ls hl => ?_)
            refine lv_aload_n hx hb dX6_comes_56 rfl (lv_at hl 2 rfl) ?_
            refine lv_iconst (v := 0) hx hb dX6_comes_57 (by decide) ?_
            refine va_put (D := G) (ci := 6) (v := .int 0) (ty := .int) (C := RX6) (T := TX6) (N := 32) hx hb hts hi_6 tyX6 tyX6_ok nmX6 hown hK hP hD hS 0 rfl rfl 6 (by decide) hfl_45 (fun _ h9 => h9) rfl (by decide +kernel) rfl rfl (Nat.le_of_ble_eq_true rfl) dX6_comes_58 (fun H locs hP hD hS => ?_)
            have hP : va_P G vwCl ((fk_mW q k) (upd z0.1 6 0, z0.2)) H := hP
            have hD : va_D A ((fk_mW q k) (upd z0.1 6 0, z0.2)) := hD
            refine lv_aload_n hx hb dX6_comes_61 rfl (lv_at hl 2 rfl) ?_
            refine lv_iload_n hx hb dX6_comes_62 rfl (lv_at hl 1 rfl) ?_
            refine lv_if_ne (tgt := 70) hx hb dX6_comes_63 (by decide) (fun h9 => absurd h9 (by decide)) (fun _ => ?_)
            refine lv_iload_n hx hb dX6_comes_66 rfl (lv_at hl 0 rfl) ?_
            refine lv_if_eq (tgt := 74) hx hb dX6_comes_67 (by decide) (fun h9 => absurd h9 (by decide)) (fun _ => ?_)
            refine lv_iconst (v := 1) hx hb dX6_comes_70 (by decide) ?_
            refine lv_goto (tgt := 75) hx hb dX6_comes_71 (by decide) ?_
            refine va_put (D := G) (ci := 6) (v := .int 1) (ty := .boolean) (C := RX6) (T := TX6) (N := 32) hx hb hts hi_6 tyX6 tyX6_ok nmX6 hown hK hP hD hS 0 rfl rfl 5 (by decide) hfl_41 (fun _ h9 => h9) rfl (by decide +kernel) rfl rfl (Nat.le_of_ble_eq_true rfl) dX6_comes_75 (fun H locs hP hD hS => ?_)
            have hP : va_P G vwCl ((fk_mW q k) (upd (upd z0.1 6 0) 5 1, z0.2)) H := hP
            have hD : va_D A ((fk_mW q k) (upd (upd z0.1 6 0) 5 1, z0.2)) := hD
            refine lv_iload_n hx hb dX6_comes_78 rfl (lv_at hl 1 rfl) ?_
            refine lv_if_ne (tgt := 86) hx hb dX6_comes_79 (by decide) (fun h9 => absurd h9 (by decide)) (fun _ => ?_)
            refine lv_iload_n hx hb dX6_comes_82 rfl (lv_at hl 0 rfl) ?_
            refine lv_if_eq (tgt := 100) hx hb dX6_comes_83 (by decide) (fun h9 => absurd h9 (by decide)) (fun _ => ?_)
            refine lv_aload_n hx hb dX6_comes_86 rfl (lv_at hl 2 rfl) ?_
            refine lv_iload_n hx hb dX6_comes_87 rfl (lv_at hl 1 rfl) ?_
            refine lv_if_eq (tgt := 95) hx hb dX6_comes_88 (by decide) (fun _ => ?_) (fun h9 => absurd h9 (by decide))
            refine lv_iconst (v := 2) hx hb dX6_comes_95 (by decide) ?_
            refine lv_iload_n hx hb dX6_comes_96 rfl (lv_at hl 3 rfl) ?_
            have hl := lv_sub hl [] (l' := []) rfl
            refine fk_Vv (Wd := (fk_mW q k)) (z := (upd (upd z0.1 6 0) 5 1, z0.2)) (As := [.int 2, .int a1]) (rest := []) F9 (c_X6_begins l G q k _ (upd (upd z0.1 6 0) 5 1, z0.2) 2 a1) (cwV 2 hts gX6_comes_X6_begins rfl rfl rfl (by decide +kernel) ⟨Nat.le_of_ble_eq_true rfl, Nat.le_of_ble_eq_true rfl⟩) (va_recv hK hP (ci := 6) (q0 := 0) rfl rfl) hK hP hD hS hA hN rfl hl.1 rfl (Nat.le_of_ble_eq_true rfl) dX6_comes_97 ⟨Nat.zero_le _, Nat.zero_le _⟩ (fun z H locs hw hP hD hS => ?_)
            exact fk_vret hx hb hr hlk hK hP hD hS (hw.trans (Eq.symm (by rw [fX6_comes, if_pos c4, if_neg c12, if_neg c19, if_neg c33, if_pos c40] <;> rfl))) dX6_comes_100
          · refine lv_iload_n hx hb dX6_comes_43 rfl (lv_at hl 2 rfl) ?_
            refine lv_sipush (v := 248) hx hb dX6_comes_44 (by decide) ?_
            refine lv_icmp_ne (tgt := 54) hx hb dX6_comes_47 (by decide) (fun c47 => ?_) (fun c47 => ?_)
            · refine lv_iconst (v := 0) hx hb dX6_comes_54 (by decide) ?_
              refine lv_istore_n (lv' := [(3, .int 0), (2, .int 0), (0, .ref (q 0)), (1, .int a1)]) hx hb dX6_comes_55 rfl hl (by decide) rfl (fun ls hl => ?_)
              refine lv_aload_n hx hb dX6_comes_56 rfl (lv_at hl 2 rfl) ?_
              refine lv_iconst (v := 0) hx hb dX6_comes_57 (by decide) ?_
              refine va_put (D := G) (ci := 6) (v := .int 0) (ty := .int) (C := RX6) (T := TX6) (N := 32) hx hb hts hi_6 tyX6 tyX6_ok nmX6 hown hK hP hD hS 0 rfl rfl 6 (by decide) hfl_45 (fun _ h9 => h9) rfl (by decide +kernel) rfl rfl (Nat.le_of_ble_eq_true rfl) dX6_comes_58 (fun H locs hP hD hS => ?_)
              have hP : va_P G vwCl ((fk_mW q k) (upd z0.1 6 0, z0.2)) H := hP
              have hD : va_D A ((fk_mW q k) (upd z0.1 6 0, z0.2)) := hD
              refine lv_aload_n hx hb dX6_comes_61 rfl (lv_at hl 2 rfl) ?_
              refine lv_iload_n hx hb dX6_comes_62 rfl (lv_at hl 1 rfl) ?_
              refine lv_if_ne (tgt := 70) hx hb dX6_comes_63 (by decide) (fun h9 => absurd h9 (by decide)) (fun _ => ?_)
              refine lv_iload_n hx hb dX6_comes_66 rfl (lv_at hl 0 rfl) ?_
              refine lv_if_eq (tgt := 74) hx hb dX6_comes_67 (by decide) (fun _ => ?_) (fun h9 => absurd h9 (by decide))
              refine lv_iconst (v := 0) hx hb dX6_comes_74 (by decide) ?_
              refine va_put (D := G) (ci := 6) (v := .int 0) (ty := .boolean) (C := RX6) (T := TX6) (N := 32) hx hb hts hi_6 tyX6 tyX6_ok nmX6 hown hK hP hD hS 0 rfl rfl 5 (by decide) hfl_41 (fun _ h9 => h9) rfl (by decide +kernel) rfl rfl (Nat.le_of_ble_eq_true rfl) dX6_comes_75 (fun H locs hP hD hS => ?_)
              have hP : va_P G vwCl ((fk_mW q k) (upd (upd z0.1 6 0) 5 0, z0.2)) H := hP
              have hD : va_D A ((fk_mW q k) (upd (upd z0.1 6 0) 5 0, z0.2)) := hD
              refine lv_iload_n hx hb dX6_comes_78 rfl (lv_at hl 1 rfl) ?_
              refine lv_if_ne (tgt := 86) hx hb dX6_comes_79 (by decide) (fun h9 => absurd h9 (by decide)) (fun _ => ?_)
              refine lv_iload_n hx hb dX6_comes_82 rfl (lv_at hl 0 rfl) ?_
              refine lv_if_eq (tgt := 100) hx hb dX6_comes_83 (by decide) (fun _ => ?_) (fun h9 => absurd h9 (by decide))
              exact fk_vret hx hb hr hlk hK hP hD hS (Eq.symm (by rw [fX6_comes, if_pos c4, if_neg c12, if_neg c19, if_neg c33, if_neg c40, if_neg c47] <;> rfl)) dX6_comes_100
            · refine lv_iconst (v := 1) hx hb dX6_comes_50 (by decide) ?_
              refine lv_goto (tgt := 55) hx hb dX6_comes_51 (by decide) ?_
              refine lv_istore_n (lv' := [(3, .int 1), (2, .int 0), (0, .ref (q 0)), (1, .int a1)]) hx hb dX6_comes_55 rfl hl (by decide) rfl (fun ls hl => ?_)
              refine lv_aload_n hx hb dX6_comes_56 rfl (lv_at hl 2 rfl) ?_
              refine lv_iconst (v := 0) hx hb dX6_comes_57 (by decide) ?_
              refine va_put (D := G) (ci := 6) (v := .int 0) (ty := .int) (C := RX6) (T := TX6) (N := 32) hx hb hts hi_6 tyX6 tyX6_ok nmX6 hown hK hP hD hS 0 rfl rfl 6 (by decide) hfl_45 (fun _ h9 => h9) rfl (by decide +kernel) rfl rfl (Nat.le_of_ble_eq_true rfl) dX6_comes_58 (fun H locs hP hD hS => ?_)
              have hP : va_P G vwCl ((fk_mW q k) (upd z0.1 6 0, z0.2)) H := hP
              have hD : va_D A ((fk_mW q k) (upd z0.1 6 0, z0.2)) := hD
              refine lv_aload_n hx hb dX6_comes_61 rfl (lv_at hl 2 rfl) ?_
              refine lv_iload_n hx hb dX6_comes_62 rfl (lv_at hl 1 rfl) ?_
              refine lv_if_ne (tgt := 70) hx hb dX6_comes_63 (by decide) (fun h9 => absurd h9 (by decide)) (fun _ => ?_)
              refine lv_iload_n hx hb dX6_comes_66 rfl (lv_at hl 0 rfl) ?_
              refine lv_if_eq (tgt := 74) hx hb dX6_comes_67 (by decide) (fun h9 => absurd h9 (by decide)) (fun _ => ?_)
              refine lv_iconst (v := 1) hx hb dX6_comes_70 (by decide) ?_
              refine lv_goto (tgt := 75) hx hb dX6_comes_71 (by decide) ?_
              refine va_put (D := G) (ci := 6) (v := .int 1) (ty := .boolean) (C := RX6) (T := TX6) (N := 32) hx hb hts hi_6 tyX6 tyX6_ok nmX6 hown hK hP hD hS 0 rfl rfl 5 (by decide) hfl_41 (fun _ h9 => h9) rfl (by decide +kernel) rfl rfl (Nat.le_of_ble_eq_true rfl) dX6_comes_75 (fun H locs hP hD hS => ?_)
              have hP : va_P G vwCl ((fk_mW q k) (upd (upd z0.1 6 0) 5 1, z0.2)) H := hP
              have hD : va_D A ((fk_mW q k) (upd (upd z0.1 6 0) 5 1, z0.2)) := hD
              refine lv_iload_n hx hb dX6_comes_78 rfl (lv_at hl 1 rfl) ?_
              refine lv_if_ne (tgt := 86) hx hb dX6_comes_79 (by decide) (fun h9 => absurd h9 (by decide)) (fun _ => ?_)
              refine lv_iload_n hx hb dX6_comes_82 rfl (lv_at hl 0 rfl) ?_
              refine lv_if_eq (tgt := 100) hx hb dX6_comes_83 (by decide) (fun h9 => absurd h9 (by decide)) (fun _ => ?_)
              refine lv_aload_n hx hb dX6_comes_86 rfl (lv_at hl 2 rfl) ?_
              refine lv_iload_n hx hb dX6_comes_87 rfl (lv_at hl 1 rfl) ?_
              refine lv_if_eq (tgt := 95) hx hb dX6_comes_88 (by decide) (fun _ => ?_) (fun h9 => absurd h9 (by decide))
              refine lv_iconst (v := 2) hx hb dX6_comes_95 (by decide) ?_
              refine lv_iload_n hx hb dX6_comes_96 rfl (lv_at hl 3 rfl) ?_
              have hl := lv_sub hl [] (l' := []) rfl
              refine fk_Vv (Wd := (fk_mW q k)) (z := (upd (upd z0.1 6 0) 5 1, z0.2)) (As := [.int 2, .int a1]) (rest := []) F9 (c_X6_begins l G q k _ (upd (upd z0.1 6 0) 5 1, z0.2) 2 a1) (cwV 2 hts gX6_comes_X6_begins rfl rfl rfl (by decide +kernel) ⟨Nat.le_of_ble_eq_true rfl, Nat.le_of_ble_eq_true rfl⟩) (va_recv hK hP (ci := 6) (q0 := 0) rfl rfl) hK hP hD hS hA hN rfl hl.1 rfl (Nat.le_of_ble_eq_true rfl) dX6_comes_97 ⟨Nat.zero_le _, Nat.zero_le _⟩ (fun z H locs hw hP hD hS => ?_)
              exact fk_vret hx hb hr hlk hK hP hD hS (hw.trans (Eq.symm (by rw [fX6_comes, if_pos c4, if_neg c12, if_neg c19, if_neg c33, if_neg c40, if_pos c47] <;> rfl))) dX6_comes_100
      · refine lv_iconst (v := 1) hx hb dX6_comes_22 (by decide) ?_
        refine lv_goto (tgt := 27) hx hb dX6_comes_23 (by decide) ?_
        refine lv_istore_n (lv' := [(2, .int 1), (0, .ref (q 0)), (1, .int a1)]) hx hb dX6_comes_27 rfl hl (by decide) rfl (fun ls hl => ?_)
        refine lv_aload_n hx hb dX6_comes_28 rfl (lv_at hl 1 rfl) ?_
        refine va_get (D := G) (ci := 6) (v := .int (z0.1 6)) (C := RX6) (T := TX6) (N := 32) hx hb hts hi_6 hown hK hP 0 rfl rfl 6 (by decide) hfl_45 (fun _ h9 => h9) rfl dX6_comes_29 ?_
        refine lv_iconst (v := 2) hx hb dX6_comes_32 (by decide) ?_
        refine lv_icmp_le (tgt := 54) hx hb dX6_comes_33 (by decide) (fun c33 => ?_) (fun c33 => ?_)
        · refine lv_iconst (v := 0) hx hb dX6_comes_54 (by decide) ?_
          refine lv_istore_n (lv' := [(3, .int 0), (2, .int 1), (0, .ref (q 0)), (1, .int a1)]) hx hb dX6_comes_55 rfl hl (by decide) rfl (fun ls hl => ?_)
          refine lv_aload_n hx hb dX6_comes_56 rfl (lv_at hl 2 rfl) ?_
          refine lv_iconst (v := 0) hx hb dX6_comes_57 (by decide) ?_
          refine va_put (D := G) (ci := 6) (v := .int 0) (ty := .int) (C := RX6) (T := TX6) (N := 32) hx hb hts hi_6 tyX6 tyX6_ok nmX6 hown hK hP hD hS 0 rfl rfl 6 (by decide) hfl_45 (fun _ h9 => h9) rfl (by decide +kernel) rfl rfl (Nat.le_of_ble_eq_true rfl) dX6_comes_58 (fun H locs hP hD hS => ?_)
          have hP : va_P G vwCl ((fk_mW q k) (upd z0.1 6 0, z0.2)) H := hP
          have hD : va_D A ((fk_mW q k) (upd z0.1 6 0, z0.2)) := hD
          refine lv_aload_n hx hb dX6_comes_61 rfl (lv_at hl 2 rfl) ?_
          refine lv_iload_n hx hb dX6_comes_62 rfl (lv_at hl 1 rfl) ?_
          refine lv_if_ne (tgt := 70) hx hb dX6_comes_63 (by decide) (fun _ => ?_) (fun h9 => absurd h9 (by decide))
          refine lv_iconst (v := 1) hx hb dX6_comes_70 (by decide) ?_
          refine lv_goto (tgt := 75) hx hb dX6_comes_71 (by decide) ?_
          refine va_put (D := G) (ci := 6) (v := .int 1) (ty := .boolean) (C := RX6) (T := TX6) (N := 32) hx hb hts hi_6 tyX6 tyX6_ok nmX6 hown hK hP hD hS 0 rfl rfl 5 (by decide) hfl_41 (fun _ h9 => h9) rfl (by decide +kernel) rfl rfl (Nat.le_of_ble_eq_true rfl) dX6_comes_75 (fun H locs hP hD hS => ?_)
          have hP : va_P G vwCl ((fk_mW q k) (upd (upd z0.1 6 0) 5 1, z0.2)) H := hP
          have hD : va_D A ((fk_mW q k) (upd (upd z0.1 6 0) 5 1, z0.2)) := hD
          refine lv_iload_n hx hb dX6_comes_78 rfl (lv_at hl 1 rfl) ?_
          refine lv_if_ne (tgt := 86) hx hb dX6_comes_79 (by decide) (fun _ => ?_) (fun h9 => absurd h9 (by decide))
          refine lv_aload_n hx hb dX6_comes_86 rfl (lv_at hl 2 rfl) ?_
          refine lv_iload_n hx hb dX6_comes_87 rfl (lv_at hl 1 rfl) ?_
          refine lv_if_eq (tgt := 95) hx hb dX6_comes_88 (by decide) (fun h9 => absurd h9 (by decide)) (fun _ => ?_)
          refine lv_iconst (v := 1) hx hb dX6_comes_91 (by decide) ?_
          refine lv_goto (tgt := 96) hx hb dX6_comes_92 (by decide) ?_
          refine lv_iload_n hx hb dX6_comes_96 rfl (lv_at hl 3 rfl) ?_
          have hl := lv_sub hl [] (l' := []) rfl
          refine fk_Vv (Wd := (fk_mW q k)) (z := (upd (upd z0.1 6 0) 5 1, z0.2)) (As := [.int 1, .int a1]) (rest := []) F9 (c_X6_begins l G q k _ (upd (upd z0.1 6 0) 5 1, z0.2) 1 a1) (cwV 2 hts gX6_comes_X6_begins rfl rfl rfl (by decide +kernel) ⟨Nat.le_of_ble_eq_true rfl, Nat.le_of_ble_eq_true rfl⟩) (va_recv hK hP (ci := 6) (q0 := 0) rfl rfl) hK hP hD hS hA hN rfl hl.1 rfl (Nat.le_of_ble_eq_true rfl) dX6_comes_97 ⟨Nat.zero_le _, Nat.zero_le _⟩ (fun z H locs hw hP hD hS => ?_)
          exact fk_vret hx hb hr hlk hK hP hD hS (hw.trans (Eq.symm (by rw [fX6_comes, if_pos c4, if_neg c12, if_pos c19, if_pos c33] <;> rfl))) dX6_comes_100
        · refine lv_iload_n hx hb dX6_comes_36 rfl (lv_at hl 2 rfl) ?_
          refine lv_sipush (v := 251) hx hb dX6_comes_37 (by decide) ?_
          refine lv_icmp_eq (tgt := 50) hx hb dX6_comes_40 (by decide) (fun c40 => ?_) (fun c40 => ?_)
          · refine lv_iconst (v := 1) hx hb dX6_comes_50 (by decide) ?_
            refine lv_goto (tgt := 55) hx hb dX6_comes_51 (by decide) ?_
            refine lv_istore_n (lv' := [(3, .int 1), (2, .int 1), (0, .ref (q 0)), (1, .int a1)]) hx hb dX6_comes_55 rfl hl (by decide) rfl (fun ls hl => ?_)
            refine lv_aload_n hx hb dX6_comes_56 rfl (lv_at hl 2 rfl) ?_
            refine lv_iconst (v := 0) hx hb dX6_comes_57 (by decide) ?_
            refine va_put (D := G) (ci := 6) (v := .int 0) (ty := .int) (C := RX6) (T := TX6) (N := 32) hx hb hts hi_6 tyX6 tyX6_ok nmX6 hown hK hP hD hS 0 rfl rfl 6 (by decide) hfl_45 (fun _ h9 => h9) rfl (by decide +kernel) rfl rfl (Nat.le_of_ble_eq_true rfl) dX6_comes_58 (fun H locs hP hD hS => ?_)
            have hP : va_P G vwCl ((fk_mW q k) (upd z0.1 6 0, z0.2)) H := hP
            have hD : va_D A ((fk_mW q k) (upd z0.1 6 0, z0.2)) := hD
            refine lv_aload_n hx hb dX6_comes_61 rfl (lv_at hl 2 rfl) ?_
            refine lv_iload_n hx hb dX6_comes_62 rfl (lv_at hl 1 rfl) ?_
            refine lv_if_ne (tgt := 70) hx hb dX6_comes_63 (by decide) (fun _ => ?_) (fun h9 => absurd h9 (by decide))
            refine lv_iconst (v := 1) hx hb dX6_comes_70 (by decide) ?_
            refine lv_goto (tgt := 75) hx hb dX6_comes_71 (by decide) ?_
            refine va_put (D := G) (ci := 6) (v := .int 1) (ty := .boolean) (C := RX6) (T := TX6) (N := 32) hx hb hts hi_6 tyX6 tyX6_ok nmX6 hown hK hP hD hS 0 rfl rfl 5 (by decide) hfl_41 (fun _ h9 => h9) rfl (by decide +kernel) rfl rfl (Nat.le_of_ble_eq_true rfl) dX6_comes_75 (fun H locs hP hD hS => ?_)
            have hP : va_P G vwCl ((fk_mW q k) (upd (upd z0.1 6 0) 5 1, z0.2)) H := hP
            have hD : va_D A ((fk_mW q k) (upd (upd z0.1 6 0) 5 1, z0.2)) := hD
            refine lv_iload_n hx hb dX6_comes_78 rfl (lv_at hl 1 rfl) ?_
            refine lv_if_ne (tgt := 86) hx hb dX6_comes_79 (by decide) (fun _ => ?_) (fun h9 => absurd h9 (by decide))
            refine lv_aload_n hx hb dX6_comes_86 rfl (lv_at hl 2 rfl) ?_
            refine lv_iload_n hx hb dX6_comes_87 rfl (lv_at hl 1 rfl) ?_
            refine lv_if_eq (tgt := 95) hx hb dX6_comes_88 (by decide) (fun h9 => absurd h9 (by decide)) (fun _ => ?_)
            refine lv_iconst (v := 1) hx hb dX6_comes_91 (by decide) ?_
            refine lv_goto (tgt := 96) hx hb dX6_comes_92 (by decide) ?_
            refine lv_iload_n hx hb dX6_comes_96 rfl (lv_at hl 3 rfl) ?_
            have hl := lv_sub hl [] (l' := []) rfl
            refine fk_Vv (Wd := (fk_mW q k)) (z := (upd (upd z0.1 6 0) 5 1, z0.2)) (As := [.int 1, .int a1]) (rest := []) F9 (c_X6_begins l G q k _ (upd (upd z0.1 6 0) 5 1, z0.2) 1 a1) (cwV 2 hts gX6_comes_X6_begins rfl rfl rfl (by decide +kernel) ⟨Nat.le_of_ble_eq_true rfl, Nat.le_of_ble_eq_true rfl⟩) (va_recv hK hP (ci := 6) (q0 := 0) rfl rfl) hK hP hD hS hA hN rfl hl.1 rfl (Nat.le_of_ble_eq_true rfl) dX6_comes_97 ⟨Nat.zero_le _, Nat.zero_le _⟩ (fun z H locs hw hP hD hS => ?_)
            exact fk_vret hx hb hr hlk hK hP hD hS (hw.trans (Eq.symm (by rw [fX6_comes, if_pos c4, if_neg c12, if_pos c19, if_neg c33, if_pos c40] <;> rfl))) dX6_comes_100
          · refine lv_iload_n hx hb dX6_comes_43 rfl (lv_at hl 2 rfl) ?_
            refine lv_sipush (v := 248) hx hb dX6_comes_44 (by decide) ?_
            refine lv_icmp_ne (tgt := 54) hx hb dX6_comes_47 (by decide) (fun c47 => ?_) (fun c47 => ?_)
            · refine lv_iconst (v := 0) hx hb dX6_comes_54 (by decide) ?_
              refine lv_istore_n (lv' := [(3, .int 0), (2, .int 1), (0, .ref (q 0)), (1, .int a1)]) hx hb dX6_comes_55 rfl hl (by decide) rfl (fun ls hl => ?_)
              refine lv_aload_n hx hb dX6_comes_56 rfl (lv_at hl 2 rfl) ?_
              refine lv_iconst (v := 0) hx hb dX6_comes_57 (by decide) ?_
              refine va_put (D := G) (ci := 6) (v := .int 0) (ty := .int) (C := RX6) (T := TX6) (N := 32) hx hb hts hi_6 tyX6 tyX6_ok nmX6 hown hK hP hD hS 0 rfl rfl 6 (by decide) hfl_45 (fun _ h9 => h9) rfl (by decide +kernel) rfl rfl (Nat.le_of_ble_eq_true rfl) dX6_comes_58 (fun H locs hP hD hS => ?_)
              have hP : va_P G vwCl ((fk_mW q k) (upd z0.1 6 0, z0.2)) H := hP
              have hD : va_D A ((fk_mW q k) (upd z0.1 6 0, z0.2)) := hD
              refine lv_aload_n hx hb dX6_comes_61 rfl (lv_at hl 2 rfl) ?_
              refine lv_iload_n hx hb dX6_comes_62 rfl (lv_at hl 1 rfl) ?_
              refine lv_if_ne (tgt := 70) hx hb dX6_comes_63 (by decide) (fun _ => ?_) (fun h9 => absurd h9 (by decide))
              refine lv_iconst (v := 1) hx hb dX6_comes_70 (by decide) ?_
              refine lv_goto (tgt := 75) hx hb dX6_comes_71 (by decide) ?_
              refine va_put (D := G) (ci := 6) (v := .int 1) (ty := .boolean) (C := RX6) (T := TX6) (N := 32) hx hb hts hi_6 tyX6 tyX6_ok nmX6 hown hK hP hD hS 0 rfl rfl 5 (by decide) hfl_41 (fun _ h9 => h9) rfl (by decide +kernel) rfl rfl (Nat.le_of_ble_eq_true rfl) dX6_comes_75 (fun H locs hP hD hS => ?_)
              have hP : va_P G vwCl ((fk_mW q k) (upd (upd z0.1 6 0) 5 1, z0.2)) H := hP
              have hD : va_D A ((fk_mW q k) (upd (upd z0.1 6 0) 5 1, z0.2)) := hD
              refine lv_iload_n hx hb dX6_comes_78 rfl (lv_at hl 1 rfl) ?_
              refine lv_if_ne (tgt := 86) hx hb dX6_comes_79 (by decide) (fun _ => ?_) (fun h9 => absurd h9 (by decide))
              refine lv_aload_n hx hb dX6_comes_86 rfl (lv_at hl 2 rfl) ?_
              refine lv_iload_n hx hb dX6_comes_87 rfl (lv_at hl 1 rfl) ?_
              refine lv_if_eq (tgt := 95) hx hb dX6_comes_88 (by decide) (fun h9 => absurd h9 (by decide)) (fun _ => ?_)
              refine lv_iconst (v := 1) hx hb dX6_comes_91 (by decide) ?_
              refine lv_goto (tgt := 96) hx hb dX6_comes_92 (by decide) ?_
              refine lv_iload_n hx hb dX6_comes_96 rfl (lv_at hl 3 rfl) ?_
              have hl := lv_sub hl [] (l' := []) rfl
              refine fk_Vv (Wd := (fk_mW q k)) (z := (upd (upd z0.1 6 0) 5 1, z0.2)) (As := [.int 1, .int a1]) (rest := []) F9 (c_X6_begins l G q k _ (upd (upd z0.1 6 0) 5 1, z0.2) 1 a1) (cwV 2 hts gX6_comes_X6_begins rfl rfl rfl (by decide +kernel) ⟨Nat.le_of_ble_eq_true rfl, Nat.le_of_ble_eq_true rfl⟩) (va_recv hK hP (ci := 6) (q0 := 0) rfl rfl) hK hP hD hS hA hN rfl hl.1 rfl (Nat.le_of_ble_eq_true rfl) dX6_comes_97 ⟨Nat.zero_le _, Nat.zero_le _⟩ (fun z H locs hw hP hD hS => ?_)
              exact fk_vret hx hb hr hlk hK hP hD hS (hw.trans (Eq.symm (by rw [fX6_comes, if_pos c4, if_neg c12, if_pos c19, if_neg c33, if_neg c40, if_neg c47] <;> rfl))) dX6_comes_100
            · refine lv_iconst (v := 1) hx hb dX6_comes_50 (by decide) ?_
              refine lv_goto (tgt := 55) hx hb dX6_comes_51 (by decide) ?_
              refine lv_istore_n (lv' := [(3, .int 1), (2, .int 1), (0, .ref (q 0)), (1, .int a1)]) hx hb dX6_comes_55 rfl hl (by decide) rfl (fun ls hl => ?_)
              refine lv_aload_n hx hb dX6_comes_56 rfl (lv_at hl 2 rfl) ?_
              refine lv_iconst (v := 0) hx hb dX6_comes_57 (by decide) ?_
              refine va_put (D := G) (ci := 6) (v := .int 0) (ty := .int) (C := RX6) (T := TX6) (N := 32) hx hb hts hi_6 tyX6 tyX6_ok nmX6 hown hK hP hD hS 0 rfl rfl 6 (by decide) hfl_45 (fun _ h9 => h9) rfl (by decide +kernel) rfl rfl (Nat.le_of_ble_eq_true rfl) dX6_comes_58 (fun H locs hP hD hS => ?_)
              have hP : va_P G vwCl ((fk_mW q k) (upd z0.1 6 0, z0.2)) H := hP
              have hD : va_D A ((fk_mW q k) (upd z0.1 6 0, z0.2)) := hD
              refine lv_aload_n hx hb dX6_comes_61 rfl (lv_at hl 2 rfl) ?_
              refine lv_iload_n hx hb dX6_comes_62 rfl (lv_at hl 1 rfl) ?_
              refine lv_if_ne (tgt := 70) hx hb dX6_comes_63 (by decide) (fun _ => ?_) (fun h9 => absurd h9 (by decide))
              refine lv_iconst (v := 1) hx hb dX6_comes_70 (by decide) ?_
              refine lv_goto (tgt := 75) hx hb dX6_comes_71 (by decide) ?_
              refine va_put (D := G) (ci := 6) (v := .int 1) (ty := .boolean) (C := RX6) (T := TX6) (N := 32) hx hb hts hi_6 tyX6 tyX6_ok nmX6 hown hK hP hD hS 0 rfl rfl 5 (by decide) hfl_41 (fun _ h9 => h9) rfl (by decide +kernel) rfl rfl (Nat.le_of_ble_eq_true rfl) dX6_comes_75 (fun H locs hP hD hS => ?_)
              have hP : va_P G vwCl ((fk_mW q k) (upd (upd z0.1 6 0) 5 1, z0.2)) H := hP
              have hD : va_D A ((fk_mW q k) (upd (upd z0.1 6 0) 5 1, z0.2)) := hD
              refine lv_iload_n hx hb dX6_comes_78 rfl (lv_at hl 1 rfl) ?_
              refine lv_if_ne (tgt := 86) hx hb dX6_comes_79 (by decide) (fun _ => ?_) (fun h9 => absurd h9 (by decide))
              refine lv_aload_n hx hb dX6_comes_86 rfl (lv_at hl 2 rfl) ?_
              refine lv_iload_n hx hb dX6_comes_87 rfl (lv_at hl 1 rfl) ?_
              refine lv_if_eq (tgt := 95) hx hb dX6_comes_88 (by decide) (fun h9 => absurd h9 (by decide)) (fun _ => ?_)
              refine lv_iconst (v := 1) hx hb dX6_comes_91 (by decide) ?_
              refine lv_goto (tgt := 96) hx hb dX6_comes_92 (by decide) ?_
              refine lv_iload_n hx hb dX6_comes_96 rfl (lv_at hl 3 rfl) ?_
              have hl := lv_sub hl [] (l' := []) rfl
              refine fk_Vv (Wd := (fk_mW q k)) (z := (upd (upd z0.1 6 0) 5 1, z0.2)) (As := [.int 1, .int a1]) (rest := []) F9 (c_X6_begins l G q k _ (upd (upd z0.1 6 0) 5 1, z0.2) 1 a1) (cwV 2 hts gX6_comes_X6_begins rfl rfl rfl (by decide +kernel) ⟨Nat.le_of_ble_eq_true rfl, Nat.le_of_ble_eq_true rfl⟩) (va_recv hK hP (ci := 6) (q0 := 0) rfl rfl) hK hP hD hS hA hN rfl hl.1 rfl (Nat.le_of_ble_eq_true rfl) dX6_comes_97 ⟨Nat.zero_le _, Nat.zero_le _⟩ (fun z H locs hw hP hD hS => ?_)
              exact fk_vret hx hb hr hlk hK hP hD hS (hw.trans (Eq.symm (by rw [fX6_comes, if_pos c4, if_neg c12, if_pos c19, if_neg c33, if_neg c40, if_pos c47] <;> rfl))) dX6_comes_100
-- FloppyDeskModel.readCell()V
set_option maxHeartbeats 4000000 in
set_option maxRecDepth 100000 in
theorem c_X6_readCell (l : Launch) (G : va_G) (q : Nat → Nat) (k : Nat → ClassId) (sz : Nat) (z0 : fk_M) (hI : mI z0) : fk_Mv l yX6_readCell wsX6_readCell ({ frames := 4, cells := 0, slots := 0, locals := 87 } : Room) G (fk_mW q k) (fk_mT k) [.ref (q 0)] sz z0 (fX6_readCell z0) := by
  refine fk_head (cc := cX6_readCell) (maxL := 3) (ret := none) (QQ := fun A => va_Qv (fun z1 => z1 = fX6_readCell z0) (fk_At G (fk_mW q k) (fk_mT k) A) A) (by decide) rfl (Nat.le_of_ble_eq_true rfl) ?_ sz
  intro p e s m below meth c A ls hx hb hr hlk hml hown hts hK hN hA hP hD hS hl
  have hown : s.vm.findClass RX6 = some m.cls := hown
  have F9 : CallFix p m c cX6_readCell 3 s ([.ref (q 0)] : List Value).toArray wsX6_readCell RX6 := ⟨hx, hb, hml, hown, hts⟩
  have hl : lv_has ls 3 [(0, .ref (q 0))] := hl
  have hcst_27 := hts (.constant RX6 27 65535) (by decide +kernel)
  have hfl_7 := hts (.fieldLink RX6 7 "FloppyDeskModel" "cell" "[Z") (by decide +kernel)
  have hfl_41 := hts (.fieldLink RX6 41 "FloppyDeskModel" "inStep" "Z") (by decide +kernel)
  have hfl_45 := hts (.fieldLink RX6 45 "FloppyDeskModel" "marks" "I") (by decide +kernel)
  have hfl_48 := hts (.fieldLink RX6 48 "FloppyDeskModel" "field" "I") (by decide +kernel)
  have hfl_58 := hts (.fieldLink RX6 58 "FloppyDeskModel" "window" "I") (by decide +kernel)
  have hfl_101 := hts (.fieldLink RX6 101 "FloppyDeskModel" "head" "I") (by decide +kernel)
  have hfl_104 := hts (.fieldLink RX6 104 "FloppyDeskModel" "place" "I") (by decide +kernel)
  have hfl_107 := hts (.fieldLink RX6 107 "FloppyDeskModel" "since" "I") (by decide +kernel)
  have hi_6 : ∀ w ∈ u_ws RX6 TX6 32, w ∈ wsX6_readCell := by decide +kernel
  have h97 : ∀ (z : fk_M) (H : Heap) (locs : List Loc) (ls : Array Slot), fX6_readCell z0 = fX6_readCell_97 z  → (mI z) → va_P G vwCl ((fk_mW q k) z) H → va_D A ((fk_mW q k) z) → va_S A s.heap H locs → lv_has ls 3 [(0, .ref (q 0))] → W p l e ({ frames := 4, cells := 0, slots := 0, locals := 87 } : Room) s m ([.ref (q 0)] : List Value).toArray below meth c H locs 0 0 (MQ below (va_Qv (fun z1 => z1 = fX6_readCell z0) (fk_At G (fk_mW q k) (fk_mT k) A) A) ([.ref (q 0)] : List Value).toArray s 0 0 A) (F0 m 97 ls []) := by
    intro z H locs ls hf hI hP hD hS hl
    refine lv_aload_n hx hb dX6_readCell_97 rfl (lv_at hl 0 rfl) ?_
    refine va_get (D := G) (ci := 6) (v := .int (z.1 5)) (C := RX6) (T := TX6) (N := 32) hx hb hts hi_6 hown hK hP 0 rfl rfl 5 (by decide) hfl_41 (fun _ h9 => h9) rfl dX6_readCell_98 ?_
    refine lv_if_eq (tgt := 151) hx hb dX6_readCell_101 (by decide) (fun c101 => ?_) (fun c101 => ?_)
    · exact fk_vret hx hb hr hlk hK hP hD hS (Eq.symm (by rw [hf, fX6_readCell_97, if_pos c101] <;> rfl)) dX6_readCell_151
    · refine lv_aload_n hx hb dX6_readCell_104 rfl (lv_at hl 0 rfl) ?_
      refine va_get (D := G) (ci := 6) (v := .int (z.1 7)) (C := RX6) (T := TX6) (N := 32) hx hb hts hi_6 hown hK hP 0 rfl rfl 7 (by decide) hfl_107 (fun _ h9 => h9) rfl dX6_readCell_105 ?_
      refine lv_bipush (v := 16) hx hb dX6_readCell_108 (by decide) ?_
      refine lv_icmp_ne (tgt := 151) hx hb dX6_readCell_110 (by decide) (fun c110 => ?_) (fun c110 => ?_)
      · exact fk_vret hx hb hr hlk hK hP hD hS (Eq.symm (by rw [hf, fX6_readCell_97, if_neg c101, if_neg c110] <;> rfl)) dX6_readCell_151
      · refine lv_aload_n hx hb dX6_readCell_113 rfl (lv_at hl 0 rfl) ?_
        refine lv_iconst (v := 0) hx hb dX6_readCell_114 (by decide) ?_
        refine va_put (D := G) (ci := 6) (v := .int 0) (ty := .int) (C := RX6) (T := TX6) (N := 32) hx hb hts hi_6 tyX6 tyX6_ok nmX6 hown hK hP hD hS 0 rfl rfl 7 (by decide) hfl_107 (fun _ h9 => h9) rfl (by decide +kernel) rfl rfl (Nat.le_of_ble_eq_true rfl) dX6_readCell_115 (fun H locs hP hD hS => ?_)
        have hP : va_P G vwCl ((fk_mW q k) (upd z.1 7 0, z.2)) H := hP
        have hD : va_D A ((fk_mW q k) (upd z.1 7 0, z.2)) := hD
        refine lv_iconst (v := 0) hx hb dX6_readCell_118 (by decide) ?_
        refine lv_istore_n (lv' := [(1, .int 0), (0, .ref (q 0))]) hx hb dX6_readCell_119 rfl hl (by decide) rfl (fun ls hl => ?_)
        refine lv_bipush (v := 14) hx hb dX6_readCell_120 (by decide) ?_
        refine lv_istore_n (lv' := [(2, .int 14), (1, .int 0), (0, .ref (q 0))]) hx hb dX6_readCell_122 rfl hl (by decide) rfl (fun ls hl => ?_)
        refine lv_iload_n hx hb dX6_readCell_123 rfl (lv_at hl 0 rfl) ?_
        refine lv_if_lt (tgt := 146) hx hb dX6_readCell_124 (by decide) (fun h9 => absurd h9 (by decide)) (fun _ => ?_)
        refine lv_iload_n hx hb dX6_readCell_127 rfl (lv_at hl 1 rfl) ?_
        refine lv_iconst (v := 1) hx hb dX6_readCell_128 (by decide) ?_
        refine lv_ishl hx hb dX6_readCell_129 ?_
        refine lv_aload_n hx hb dX6_readCell_130 rfl (lv_at hl 2 rfl) ?_
        refine va_get (D := G) (ci := 6) (v := .int (z.1 4)) (C := RX6) (T := TX6) (N := 32) hx hb hts hi_6 hown hK hP 0 rfl rfl 4 (by decide) hfl_58 (fun _ h9 => h9) rfl dX6_readCell_131 ?_
        refine lv_iload_n hx hb dX6_readCell_134 rfl (lv_at hl 0 rfl) ?_
        refine lv_ishr hx hb dX6_readCell_135 ?_
        refine lv_iconst (v := 1) hx hb dX6_readCell_136 (by decide) ?_
        refine lv_iand hx hb dX6_readCell_137 ?_
        refine lv_ior hx hb dX6_readCell_138 ?_
        refine lv_istore_n (lv' := [(1, .int (((0 : Int32) <<< ((1 : Int32) &&& 31)) ||| (((z.1 4) >>> ((14 : Int32) &&& 31)) &&& 1))), (2, .int 14), (0, .ref (q 0))]) hx hb dX6_readCell_139 rfl hl (by decide) rfl (fun ls hl => ?_)
        refine lv_iinc (v := 12) (lv' := [(2, .int 12), (1, .int (((0 : Int32) <<< ((1 : Int32) &&& 31)) ||| (((z.1 4) >>> ((14 : Int32) &&& 31)) &&& 1))), (0, .ref (q 0))]) hx hb dX6_readCell_140 hl (k := 1) rfl (by decide) (by decide) rfl (fun ls hl => ?_)
        refine lv_goto (tgt := 123) hx hb dX6_readCell_143 (by decide) ?_
        refine lv_iload_n hx hb dX6_readCell_123 rfl (lv_at hl 0 rfl) ?_
        refine lv_if_lt (tgt := 146) hx hb dX6_readCell_124 (by decide) (fun h9 => absurd h9 (by decide)) (fun _ => ?_)
        refine lv_iload_n hx hb dX6_readCell_127 rfl (lv_at hl 1 rfl) ?_
        refine lv_iconst (v := 1) hx hb dX6_readCell_128 (by decide) ?_
        refine lv_ishl hx hb dX6_readCell_129 ?_
        refine lv_aload_n hx hb dX6_readCell_130 rfl (lv_at hl 2 rfl) ?_
        refine va_get (D := G) (ci := 6) (v := .int (z.1 4)) (C := RX6) (T := TX6) (N := 32) hx hb hts hi_6 hown hK hP 0 rfl rfl 4 (by decide) hfl_58 (fun _ h9 => h9) rfl dX6_readCell_131 ?_
        refine lv_iload_n hx hb dX6_readCell_134 rfl (lv_at hl 0 rfl) ?_
        refine lv_ishr hx hb dX6_readCell_135 ?_
        refine lv_iconst (v := 1) hx hb dX6_readCell_136 (by decide) ?_
        refine lv_iand hx hb dX6_readCell_137 ?_
        refine lv_ior hx hb dX6_readCell_138 ?_
        refine lv_istore_n (lv' := [(1, .int (((((0 : Int32) <<< ((1 : Int32) &&& 31)) ||| (((z.1 4) >>> ((14 : Int32) &&& 31)) &&& 1)) <<< ((1 : Int32) &&& 31)) ||| (((z.1 4) >>> ((12 : Int32) &&& 31)) &&& 1))), (2, .int 12), (0, .ref (q 0))]) hx hb dX6_readCell_139 rfl hl (by decide) rfl (fun ls hl => ?_)
        refine lv_iinc (v := 10) (lv' := [(2, .int 10), (1, .int (((((0 : Int32) <<< ((1 : Int32) &&& 31)) ||| (((z.1 4) >>> ((14 : Int32) &&& 31)) &&& 1)) <<< ((1 : Int32) &&& 31)) ||| (((z.1 4) >>> ((12 : Int32) &&& 31)) &&& 1))), (0, .ref (q 0))]) hx hb dX6_readCell_140 hl (k := 1) rfl (by decide) (by decide) rfl (fun ls hl => ?_)
        refine lv_goto (tgt := 123) hx hb dX6_readCell_143 (by decide) ?_
        refine lv_iload_n hx hb dX6_readCell_123 rfl (lv_at hl 0 rfl) ?_
        refine lv_if_lt (tgt := 146) hx hb dX6_readCell_124 (by decide) (fun h9 => absurd h9 (by decide)) (fun _ => ?_)
        refine lv_iload_n hx hb dX6_readCell_127 rfl (lv_at hl 1 rfl) ?_
        refine lv_iconst (v := 1) hx hb dX6_readCell_128 (by decide) ?_
        refine lv_ishl hx hb dX6_readCell_129 ?_
        refine lv_aload_n hx hb dX6_readCell_130 rfl (lv_at hl 2 rfl) ?_
        refine va_get (D := G) (ci := 6) (v := .int (z.1 4)) (C := RX6) (T := TX6) (N := 32) hx hb hts hi_6 hown hK hP 0 rfl rfl 4 (by decide) hfl_58 (fun _ h9 => h9) rfl dX6_readCell_131 ?_
        refine lv_iload_n hx hb dX6_readCell_134 rfl (lv_at hl 0 rfl) ?_
        refine lv_ishr hx hb dX6_readCell_135 ?_
        refine lv_iconst (v := 1) hx hb dX6_readCell_136 (by decide) ?_
        refine lv_iand hx hb dX6_readCell_137 ?_
        refine lv_ior hx hb dX6_readCell_138 ?_
        refine lv_istore_n (lv' := [(1, .int (((((((0 : Int32) <<< ((1 : Int32) &&& 31)) ||| (((z.1 4) >>> ((14 : Int32) &&& 31)) &&& 1)) <<< ((1 : Int32) &&& 31)) ||| (((z.1 4) >>> ((12 : Int32) &&& 31)) &&& 1)) <<< ((1 : Int32) &&& 31)) ||| (((z.1 4) >>> ((10 : Int32) &&& 31)) &&& 1))), (2, .int 10), (0, .ref (q 0))]) hx hb dX6_readCell_139 rfl hl (by decide) rfl (fun ls hl => ?_)
        refine lv_iinc (v := 8) (lv' := [(2, .int 8), (1, .int (((((((0 : Int32) <<< ((1 : Int32) &&& 31)) ||| (((z.1 4) >>> ((14 : Int32) &&& 31)) &&& 1)) <<< ((1 : Int32) &&& 31)) ||| (((z.1 4) >>> ((12 : Int32) &&& 31)) &&& 1)) <<< ((1 : Int32) &&& 31)) ||| (((z.1 4) >>> ((10 : Int32) &&& 31)) &&& 1))), (0, .ref (q 0))]) hx hb dX6_readCell_140 hl (k := 1) rfl (by decide) (by decide) rfl (fun ls hl => ?_)
        refine lv_goto (tgt := 123) hx hb dX6_readCell_143 (by decide) ?_
        refine lv_iload_n hx hb dX6_readCell_123 rfl (lv_at hl 0 rfl) ?_
        refine lv_if_lt (tgt := 146) hx hb dX6_readCell_124 (by decide) (fun h9 => absurd h9 (by decide)) (fun _ => ?_)
        refine lv_iload_n hx hb dX6_readCell_127 rfl (lv_at hl 1 rfl) ?_
        refine lv_iconst (v := 1) hx hb dX6_readCell_128 (by decide) ?_
        refine lv_ishl hx hb dX6_readCell_129 ?_
        refine lv_aload_n hx hb dX6_readCell_130 rfl (lv_at hl 2 rfl) ?_
        refine va_get (D := G) (ci := 6) (v := .int (z.1 4)) (C := RX6) (T := TX6) (N := 32) hx hb hts hi_6 hown hK hP 0 rfl rfl 4 (by decide) hfl_58 (fun _ h9 => h9) rfl dX6_readCell_131 ?_
        refine lv_iload_n hx hb dX6_readCell_134 rfl (lv_at hl 0 rfl) ?_
        refine lv_ishr hx hb dX6_readCell_135 ?_
        refine lv_iconst (v := 1) hx hb dX6_readCell_136 (by decide) ?_
        refine lv_iand hx hb dX6_readCell_137 ?_
        refine lv_ior hx hb dX6_readCell_138 ?_
        refine lv_istore_n (lv' := [(1, .int (((((((((0 : Int32) <<< ((1 : Int32) &&& 31)) ||| (((z.1 4) >>> ((14 : Int32) &&& 31)) &&& 1)) <<< ((1 : Int32) &&& 31)) ||| (((z.1 4) >>> ((12 : Int32) &&& 31)) &&& 1)) <<< ((1 : Int32) &&& 31)) ||| (((z.1 4) >>> ((10 : Int32) &&& 31)) &&& 1)) <<< ((1 : Int32) &&& 31)) ||| (((z.1 4) >>> ((8 : Int32) &&& 31)) &&& 1))), (2, .int 8), (0, .ref (q 0))]) hx hb dX6_readCell_139 rfl hl (by decide) rfl (fun ls hl => ?_)
        refine lv_iinc (v := 6) (lv' := [(2, .int 6), (1, .int (((((((((0 : Int32) <<< ((1 : Int32) &&& 31)) ||| (((z.1 4) >>> ((14 : Int32) &&& 31)) &&& 1)) <<< ((1 : Int32) &&& 31)) ||| (((z.1 4) >>> ((12 : Int32) &&& 31)) &&& 1)) <<< ((1 : Int32) &&& 31)) ||| (((z.1 4) >>> ((10 : Int32) &&& 31)) &&& 1)) <<< ((1 : Int32) &&& 31)) ||| (((z.1 4) >>> ((8 : Int32) &&& 31)) &&& 1))), (0, .ref (q 0))]) hx hb dX6_readCell_140 hl (k := 1) rfl (by decide) (by decide) rfl (fun ls hl => ?_)
        refine lv_goto (tgt := 123) hx hb dX6_readCell_143 (by decide) ?_
        refine lv_iload_n hx hb dX6_readCell_123 rfl (lv_at hl 0 rfl) ?_
        refine lv_if_lt (tgt := 146) hx hb dX6_readCell_124 (by decide) (fun h9 => absurd h9 (by decide)) (fun _ => ?_)
        refine lv_iload_n hx hb dX6_readCell_127 rfl (lv_at hl 1 rfl) ?_
        refine lv_iconst (v := 1) hx hb dX6_readCell_128 (by decide) ?_
        refine lv_ishl hx hb dX6_readCell_129 ?_
        refine lv_aload_n hx hb dX6_readCell_130 rfl (lv_at hl 2 rfl) ?_
        refine va_get (D := G) (ci := 6) (v := .int (z.1 4)) (C := RX6) (T := TX6) (N := 32) hx hb hts hi_6 hown hK hP 0 rfl rfl 4 (by decide) hfl_58 (fun _ h9 => h9) rfl dX6_readCell_131 ?_
        refine lv_iload_n hx hb dX6_readCell_134 rfl (lv_at hl 0 rfl) ?_
        refine lv_ishr hx hb dX6_readCell_135 ?_
        refine lv_iconst (v := 1) hx hb dX6_readCell_136 (by decide) ?_
        refine lv_iand hx hb dX6_readCell_137 ?_
        refine lv_ior hx hb dX6_readCell_138 ?_
        refine lv_istore_n (lv' := [(1, .int (((((((((((0 : Int32) <<< ((1 : Int32) &&& 31)) ||| (((z.1 4) >>> ((14 : Int32) &&& 31)) &&& 1)) <<< ((1 : Int32) &&& 31)) ||| (((z.1 4) >>> ((12 : Int32) &&& 31)) &&& 1)) <<< ((1 : Int32) &&& 31)) ||| (((z.1 4) >>> ((10 : Int32) &&& 31)) &&& 1)) <<< ((1 : Int32) &&& 31)) ||| (((z.1 4) >>> ((8 : Int32) &&& 31)) &&& 1)) <<< ((1 : Int32) &&& 31)) ||| (((z.1 4) >>> ((6 : Int32) &&& 31)) &&& 1))), (2, .int 6), (0, .ref (q 0))]) hx hb dX6_readCell_139 rfl hl (by decide) rfl (fun ls hl => ?_)
        refine lv_iinc (v := 4) (lv' := [(2, .int 4), (1, .int (((((((((((0 : Int32) <<< ((1 : Int32) &&& 31)) ||| (((z.1 4) >>> ((14 : Int32) &&& 31)) &&& 1)) <<< ((1 : Int32) &&& 31)) ||| (((z.1 4) >>> ((12 : Int32) &&& 31)) &&& 1)) <<< ((1 : Int32) &&& 31)) ||| (((z.1 4) >>> ((10 : Int32) &&& 31)) &&& 1)) <<< ((1 : Int32) &&& 31)) ||| (((z.1 4) >>> ((8 : Int32) &&& 31)) &&& 1)) <<< ((1 : Int32) &&& 31)) ||| (((z.1 4) >>> ((6 : Int32) &&& 31)) &&& 1))), (0, .ref (q 0))]) hx hb dX6_readCell_140 hl (k := 1) rfl (by decide) (by decide) rfl (fun ls hl => ?_)
        refine lv_goto (tgt := 123) hx hb dX6_readCell_143 (by decide) ?_
        refine lv_iload_n hx hb dX6_readCell_123 rfl (lv_at hl 0 rfl) ?_
        refine lv_if_lt (tgt := 146) hx hb dX6_readCell_124 (by decide) (fun h9 => absurd h9 (by decide)) (fun _ => ?_)
        refine lv_iload_n hx hb dX6_readCell_127 rfl (lv_at hl 1 rfl) ?_
        refine lv_iconst (v := 1) hx hb dX6_readCell_128 (by decide) ?_
        refine lv_ishl hx hb dX6_readCell_129 ?_
        refine lv_aload_n hx hb dX6_readCell_130 rfl (lv_at hl 2 rfl) ?_
        refine va_get (D := G) (ci := 6) (v := .int (z.1 4)) (C := RX6) (T := TX6) (N := 32) hx hb hts hi_6 hown hK hP 0 rfl rfl 4 (by decide) hfl_58 (fun _ h9 => h9) rfl dX6_readCell_131 ?_
        refine lv_iload_n hx hb dX6_readCell_134 rfl (lv_at hl 0 rfl) ?_
        refine lv_ishr hx hb dX6_readCell_135 ?_
        refine lv_iconst (v := 1) hx hb dX6_readCell_136 (by decide) ?_
        refine lv_iand hx hb dX6_readCell_137 ?_
        refine lv_ior hx hb dX6_readCell_138 ?_
        refine lv_istore_n (lv' := [(1, .int (((((((((((((0 : Int32) <<< ((1 : Int32) &&& 31)) ||| (((z.1 4) >>> ((14 : Int32) &&& 31)) &&& 1)) <<< ((1 : Int32) &&& 31)) ||| (((z.1 4) >>> ((12 : Int32) &&& 31)) &&& 1)) <<< ((1 : Int32) &&& 31)) ||| (((z.1 4) >>> ((10 : Int32) &&& 31)) &&& 1)) <<< ((1 : Int32) &&& 31)) ||| (((z.1 4) >>> ((8 : Int32) &&& 31)) &&& 1)) <<< ((1 : Int32) &&& 31)) ||| (((z.1 4) >>> ((6 : Int32) &&& 31)) &&& 1)) <<< ((1 : Int32) &&& 31)) ||| (((z.1 4) >>> ((4 : Int32) &&& 31)) &&& 1))), (2, .int 4), (0, .ref (q 0))]) hx hb dX6_readCell_139 rfl hl (by decide) rfl (fun ls hl => ?_)
        refine lv_iinc (v := 2) (lv' := [(2, .int 2), (1, .int (((((((((((((0 : Int32) <<< ((1 : Int32) &&& 31)) ||| (((z.1 4) >>> ((14 : Int32) &&& 31)) &&& 1)) <<< ((1 : Int32) &&& 31)) ||| (((z.1 4) >>> ((12 : Int32) &&& 31)) &&& 1)) <<< ((1 : Int32) &&& 31)) ||| (((z.1 4) >>> ((10 : Int32) &&& 31)) &&& 1)) <<< ((1 : Int32) &&& 31)) ||| (((z.1 4) >>> ((8 : Int32) &&& 31)) &&& 1)) <<< ((1 : Int32) &&& 31)) ||| (((z.1 4) >>> ((6 : Int32) &&& 31)) &&& 1)) <<< ((1 : Int32) &&& 31)) ||| (((z.1 4) >>> ((4 : Int32) &&& 31)) &&& 1))), (0, .ref (q 0))]) hx hb dX6_readCell_140 hl (k := 1) rfl (by decide) (by decide) rfl (fun ls hl => ?_)
        refine lv_goto (tgt := 123) hx hb dX6_readCell_143 (by decide) ?_
        refine lv_iload_n hx hb dX6_readCell_123 rfl (lv_at hl 0 rfl) ?_
        refine lv_if_lt (tgt := 146) hx hb dX6_readCell_124 (by decide) (fun h9 => absurd h9 (by decide)) (fun _ => ?_)
        refine lv_iload_n hx hb dX6_readCell_127 rfl (lv_at hl 1 rfl) ?_
        refine lv_iconst (v := 1) hx hb dX6_readCell_128 (by decide) ?_
        refine lv_ishl hx hb dX6_readCell_129 ?_
        refine lv_aload_n hx hb dX6_readCell_130 rfl (lv_at hl 2 rfl) ?_
        refine va_get (D := G) (ci := 6) (v := .int (z.1 4)) (C := RX6) (T := TX6) (N := 32) hx hb hts hi_6 hown hK hP 0 rfl rfl 4 (by decide) hfl_58 (fun _ h9 => h9) rfl dX6_readCell_131 ?_
        refine lv_iload_n hx hb dX6_readCell_134 rfl (lv_at hl 0 rfl) ?_
        refine lv_ishr hx hb dX6_readCell_135 ?_
        refine lv_iconst (v := 1) hx hb dX6_readCell_136 (by decide) ?_
        refine lv_iand hx hb dX6_readCell_137 ?_
        refine lv_ior hx hb dX6_readCell_138 ?_
        refine lv_istore_n (lv' := [(1, .int (((((((((((((((0 : Int32) <<< ((1 : Int32) &&& 31)) ||| (((z.1 4) >>> ((14 : Int32) &&& 31)) &&& 1)) <<< ((1 : Int32) &&& 31)) ||| (((z.1 4) >>> ((12 : Int32) &&& 31)) &&& 1)) <<< ((1 : Int32) &&& 31)) ||| (((z.1 4) >>> ((10 : Int32) &&& 31)) &&& 1)) <<< ((1 : Int32) &&& 31)) ||| (((z.1 4) >>> ((8 : Int32) &&& 31)) &&& 1)) <<< ((1 : Int32) &&& 31)) ||| (((z.1 4) >>> ((6 : Int32) &&& 31)) &&& 1)) <<< ((1 : Int32) &&& 31)) ||| (((z.1 4) >>> ((4 : Int32) &&& 31)) &&& 1)) <<< ((1 : Int32) &&& 31)) ||| (((z.1 4) >>> ((2 : Int32) &&& 31)) &&& 1))), (2, .int 2), (0, .ref (q 0))]) hx hb dX6_readCell_139 rfl hl (by decide) rfl (fun ls hl => ?_)
        refine lv_iinc (v := 0) (lv' := [(2, .int 0), (1, .int (((((((((((((((0 : Int32) <<< ((1 : Int32) &&& 31)) ||| (((z.1 4) >>> ((14 : Int32) &&& 31)) &&& 1)) <<< ((1 : Int32) &&& 31)) ||| (((z.1 4) >>> ((12 : Int32) &&& 31)) &&& 1)) <<< ((1 : Int32) &&& 31)) ||| (((z.1 4) >>> ((10 : Int32) &&& 31)) &&& 1)) <<< ((1 : Int32) &&& 31)) ||| (((z.1 4) >>> ((8 : Int32) &&& 31)) &&& 1)) <<< ((1 : Int32) &&& 31)) ||| (((z.1 4) >>> ((6 : Int32) &&& 31)) &&& 1)) <<< ((1 : Int32) &&& 31)) ||| (((z.1 4) >>> ((4 : Int32) &&& 31)) &&& 1)) <<< ((1 : Int32) &&& 31)) ||| (((z.1 4) >>> ((2 : Int32) &&& 31)) &&& 1))), (0, .ref (q 0))]) hx hb dX6_readCell_140 hl (k := 1) rfl (by decide) (by decide) rfl (fun ls hl => ?_)
        refine lv_goto (tgt := 123) hx hb dX6_readCell_143 (by decide) ?_
        refine lv_iload_n hx hb dX6_readCell_123 rfl (lv_at hl 0 rfl) ?_
        refine lv_if_lt (tgt := 146) hx hb dX6_readCell_124 (by decide) (fun h9 => absurd h9 (by decide)) (fun _ => ?_)
        refine lv_iload_n hx hb dX6_readCell_127 rfl (lv_at hl 1 rfl) ?_
        refine lv_iconst (v := 1) hx hb dX6_readCell_128 (by decide) ?_
        refine lv_ishl hx hb dX6_readCell_129 ?_
        refine lv_aload_n hx hb dX6_readCell_130 rfl (lv_at hl 2 rfl) ?_
        refine va_get (D := G) (ci := 6) (v := .int (z.1 4)) (C := RX6) (T := TX6) (N := 32) hx hb hts hi_6 hown hK hP 0 rfl rfl 4 (by decide) hfl_58 (fun _ h9 => h9) rfl dX6_readCell_131 ?_
        refine lv_iload_n hx hb dX6_readCell_134 rfl (lv_at hl 0 rfl) ?_
        refine lv_ishr hx hb dX6_readCell_135 ?_
        refine lv_iconst (v := 1) hx hb dX6_readCell_136 (by decide) ?_
        refine lv_iand hx hb dX6_readCell_137 ?_
        refine lv_ior hx hb dX6_readCell_138 ?_
        refine lv_istore_n (lv' := [(1, .int (((((((((((((((((0 : Int32) <<< ((1 : Int32) &&& 31)) ||| (((z.1 4) >>> ((14 : Int32) &&& 31)) &&& 1)) <<< ((1 : Int32) &&& 31)) ||| (((z.1 4) >>> ((12 : Int32) &&& 31)) &&& 1)) <<< ((1 : Int32) &&& 31)) ||| (((z.1 4) >>> ((10 : Int32) &&& 31)) &&& 1)) <<< ((1 : Int32) &&& 31)) ||| (((z.1 4) >>> ((8 : Int32) &&& 31)) &&& 1)) <<< ((1 : Int32) &&& 31)) ||| (((z.1 4) >>> ((6 : Int32) &&& 31)) &&& 1)) <<< ((1 : Int32) &&& 31)) ||| (((z.1 4) >>> ((4 : Int32) &&& 31)) &&& 1)) <<< ((1 : Int32) &&& 31)) ||| (((z.1 4) >>> ((2 : Int32) &&& 31)) &&& 1)) <<< ((1 : Int32) &&& 31)) ||| (((z.1 4) >>> ((0 : Int32) &&& 31)) &&& 1))), (2, .int 0), (0, .ref (q 0))]) hx hb dX6_readCell_139 rfl hl (by decide) rfl (fun ls hl => ?_)
        refine lv_iinc (v := (-2)) (lv' := [(2, .int (-2)), (1, .int (((((((((((((((((0 : Int32) <<< ((1 : Int32) &&& 31)) ||| (((z.1 4) >>> ((14 : Int32) &&& 31)) &&& 1)) <<< ((1 : Int32) &&& 31)) ||| (((z.1 4) >>> ((12 : Int32) &&& 31)) &&& 1)) <<< ((1 : Int32) &&& 31)) ||| (((z.1 4) >>> ((10 : Int32) &&& 31)) &&& 1)) <<< ((1 : Int32) &&& 31)) ||| (((z.1 4) >>> ((8 : Int32) &&& 31)) &&& 1)) <<< ((1 : Int32) &&& 31)) ||| (((z.1 4) >>> ((6 : Int32) &&& 31)) &&& 1)) <<< ((1 : Int32) &&& 31)) ||| (((z.1 4) >>> ((4 : Int32) &&& 31)) &&& 1)) <<< ((1 : Int32) &&& 31)) ||| (((z.1 4) >>> ((2 : Int32) &&& 31)) &&& 1)) <<< ((1 : Int32) &&& 31)) ||| (((z.1 4) >>> ((0 : Int32) &&& 31)) &&& 1))), (0, .ref (q 0))]) hx hb dX6_readCell_140 hl (k := 1) rfl (by decide) (by decide) rfl (fun ls hl => ?_)
        refine lv_goto (tgt := 123) hx hb dX6_readCell_143 (by decide) ?_
        refine lv_iload_n hx hb dX6_readCell_123 rfl (lv_at hl 0 rfl) ?_
        refine lv_if_lt (tgt := 146) hx hb dX6_readCell_124 (by decide) (fun _ => ?_) (fun h9 => absurd h9 (by decide))
        refine lv_aload_n hx hb dX6_readCell_146 rfl (lv_at hl 2 rfl) ?_
        refine lv_iload_n hx hb dX6_readCell_147 rfl (lv_at hl 1 rfl) ?_
        have hl := lv_sub hl [] (l' := []) rfl
        refine fk_Vv (Wd := (fk_mW q k)) (z := (upd z.1 7 0, z.2)) (As := [.int (((((((((((((((((0 : Int32) <<< ((1 : Int32) &&& 31)) ||| (((z.1 4) >>> ((14 : Int32) &&& 31)) &&& 1)) <<< ((1 : Int32) &&& 31)) ||| (((z.1 4) >>> ((12 : Int32) &&& 31)) &&& 1)) <<< ((1 : Int32) &&& 31)) ||| (((z.1 4) >>> ((10 : Int32) &&& 31)) &&& 1)) <<< ((1 : Int32) &&& 31)) ||| (((z.1 4) >>> ((8 : Int32) &&& 31)) &&& 1)) <<< ((1 : Int32) &&& 31)) ||| (((z.1 4) >>> ((6 : Int32) &&& 31)) &&& 1)) <<< ((1 : Int32) &&& 31)) ||| (((z.1 4) >>> ((4 : Int32) &&& 31)) &&& 1)) <<< ((1 : Int32) &&& 31)) ||| (((z.1 4) >>> ((2 : Int32) &&& 31)) &&& 1)) <<< ((1 : Int32) &&& 31)) ||| (((z.1 4) >>> ((0 : Int32) &&& 31)) &&& 1))]) (rest := []) F9 (c_X6_comes l G q k _ (upd z.1 7 0, z.2) (((((((((((((((((0 : Int32) <<< ((1 : Int32) &&& 31)) ||| (((z.1 4) >>> ((14 : Int32) &&& 31)) &&& 1)) <<< ((1 : Int32) &&& 31)) ||| (((z.1 4) >>> ((12 : Int32) &&& 31)) &&& 1)) <<< ((1 : Int32) &&& 31)) ||| (((z.1 4) >>> ((10 : Int32) &&& 31)) &&& 1)) <<< ((1 : Int32) &&& 31)) ||| (((z.1 4) >>> ((8 : Int32) &&& 31)) &&& 1)) <<< ((1 : Int32) &&& 31)) ||| (((z.1 4) >>> ((6 : Int32) &&& 31)) &&& 1)) <<< ((1 : Int32) &&& 31)) ||| (((z.1 4) >>> ((4 : Int32) &&& 31)) &&& 1)) <<< ((1 : Int32) &&& 31)) ||| (((z.1 4) >>> ((2 : Int32) &&& 31)) &&& 1)) <<< ((1 : Int32) &&& 31)) ||| (((z.1 4) >>> ((0 : Int32) &&& 31)) &&& 1)) (mI_of ⟨rfl, rfl, rfl, rfl, rfl, rfl, rfl⟩ hI)) (cwV 1 hts gX6_readCell_X6_comes rfl rfl rfl (by decide +kernel) ⟨Nat.le_of_ble_eq_true rfl, Nat.le_of_ble_eq_true rfl⟩) (va_recv hK hP (ci := 6) (q0 := 0) rfl rfl) hK hP hD hS hA hN rfl hl.1 rfl (Nat.le_of_ble_eq_true rfl) dX6_readCell_148 ⟨Nat.zero_le _, Nat.zero_le _⟩ (fun z H locs hw hP hD hS => ?_)
        exact fk_vret hx hb hr hlk hK hP hD hS (hw.trans (Eq.symm (by rw [hf, fX6_readCell_97, if_neg c101, if_pos c110] <;> rfl))) dX6_readCell_151
  have h74 : ∀ (z : fk_M) (H : Heap) (locs : List Loc) (ls : Array Slot), fX6_readCell z0 = fX6_readCell_74 z  → va_P G vwCl ((fk_mW q k) z) H → va_D A ((fk_mW q k) z) → va_S A s.heap H locs → lv_has ls 3 [(0, .ref (q 0))] → W p l e ({ frames := 4, cells := 0, slots := 0, locals := 87 } : Room) s m ([.ref (q 0)] : List Value).toArray below meth c H locs 0 0 (MQ below (va_Qv (fun z1 => z1 = fX6_readCell z0) (fk_At G (fk_mW q k) (fk_mT k) A) A) ([.ref (q 0)] : List Value).toArray s 0 0 A) (F0 m 74 ls []) := by
    intro z H locs ls hf  hP hD hS hl
    refine lv_aload_n hx hb dX6_readCell_74 rfl (lv_at hl 0 rfl) ?_
    refine lv_iconst (v := 1) hx hb dX6_readCell_75 (by decide) ?_
    refine va_put (D := G) (ci := 6) (v := .int 1) (ty := .boolean) (C := RX6) (T := TX6) (N := 32) hx hb hts hi_6 tyX6 tyX6_ok nmX6 hown hK hP hD hS 0 rfl rfl 5 (by decide) hfl_41 (fun _ h9 => h9) rfl (by decide +kernel) rfl rfl (Nat.le_of_ble_eq_true rfl) dX6_readCell_76 (fun H locs hP hD hS => ?_)
    have hP : va_P G vwCl ((fk_mW q k) (upd z.1 5 1, z.2)) H := hP
    have hD : va_D A ((fk_mW q k) (upd z.1 5 1, z.2)) := hD
    refine lv_aload_n hx hb dX6_readCell_79 rfl (lv_at hl 0 rfl) ?_
    refine lv_dup hx hb dX6_readCell_80 rfl ?_
    refine va_get (D := G) (ci := 6) (v := .int (z.1 6)) (C := RX6) (T := TX6) (N := 32) hx hb hts hi_6 hown hK hP 0 rfl rfl 6 (by decide) hfl_45 (fun _ h9 => h9) rfl dX6_readCell_81 ?_
    refine lv_iconst (v := 1) hx hb dX6_readCell_84 (by decide) ?_
    refine lv_iadd hx hb dX6_readCell_85 ?_
    refine va_put (D := G) (ci := 6) (v := .int ((z.1 6) + 1)) (ty := .int) (C := RX6) (T := TX6) (N := 32) hx hb hts hi_6 tyX6 tyX6_ok nmX6 hown hK hP hD hS 0 rfl rfl 6 (by decide) hfl_45 (fun _ h9 => h9) rfl (by decide +kernel) rfl rfl (Nat.le_of_ble_eq_true rfl) dX6_readCell_86 (fun H locs hP hD hS => ?_)
    have hP : va_P G vwCl ((fk_mW q k) (upd (upd z.1 5 1) 6 ((z.1 6) + 1), z.2)) H := hP
    have hD : va_D A ((fk_mW q k) (upd (upd z.1 5 1) 6 ((z.1 6) + 1), z.2)) := hD
    refine lv_aload_n hx hb dX6_readCell_89 rfl (lv_at hl 0 rfl) ?_
    refine lv_iconst (v := 0) hx hb dX6_readCell_90 (by decide) ?_
    refine va_put (D := G) (ci := 6) (v := .int 0) (ty := .int) (C := RX6) (T := TX6) (N := 32) hx hb hts hi_6 tyX6 tyX6_ok nmX6 hown hK hP hD hS 0 rfl rfl 7 (by decide) hfl_107 (fun _ h9 => h9) rfl (by decide +kernel) rfl rfl (Nat.le_of_ble_eq_true rfl) dX6_readCell_91 (fun H locs hP hD hS => ?_)
    have hP : va_P G vwCl ((fk_mW q k) (upd (upd (upd z.1 5 1) 6 ((z.1 6) + 1)) 7 0, z.2)) H := hP
    have hD : va_D A ((fk_mW q k) (upd (upd (upd z.1 5 1) 6 ((z.1 6) + 1)) 7 0, z.2)) := hD
    refine lv_goto (tgt := 151) hx hb dX6_readCell_94 (by decide) ?_
    exact fk_vret hx hb hr hlk hK hP hD hS (Eq.symm (by rw [hf, fX6_readCell_74] <;> rfl)) dX6_readCell_151
  have h33 : ∀ (z : fk_M) (s1 : Int32) (s2 : Int32) (H : Heap) (locs : List Loc) (ls : Array Slot), fX6_readCell z0 = fX6_readCell_33 z s1 s2 → (mI z) → va_P G vwCl ((fk_mW q k) z) H → va_D A ((fk_mW q k) z) → va_S A s.heap H locs → lv_has ls 3 [(0, .ref (q 0))] → W p l e ({ frames := 4, cells := 0, slots := 0, locals := 87 } : Room) s m ([.ref (q 0)] : List Value).toArray below meth c H locs 0 0 (MQ below (va_Qv (fun z1 => z1 = fX6_readCell z0) (fk_At G (fk_mW q k) (fk_mT k) A) A) ([.ref (q 0)] : List Value).toArray s 0 0 A) (F0 m 33 ls [.int s2, .int s1, .ref (q 0)]) := by
    intro z s1 s2 H locs ls hf hI hP hD hS hl
    refine lv_ior hx hb dX6_readCell_33 ?_
    refine lv_ldc (own := RX6) (v := 65535) hx hb hown hcst_27 dX6_readCell_34 ?_
    refine lv_iand hx hb dX6_readCell_36 ?_
    refine va_put (D := G) (ci := 6) (v := .int ((s1 ||| s2) &&& 65535)) (ty := .int) (C := RX6) (T := TX6) (N := 32) hx hb hts hi_6 tyX6 tyX6_ok nmX6 hown hK hP hD hS 0 rfl rfl 4 (by decide) hfl_58 (fun _ h9 => h9) rfl (by decide +kernel) rfl rfl (Nat.le_of_ble_eq_true rfl) dX6_readCell_37 (fun H locs hP hD hS => ?_)
    have hP : va_P G vwCl ((fk_mW q k) (upd z.1 4 ((s1 ||| s2) &&& 65535), z.2)) H := hP
    have hD : va_D A ((fk_mW q k) (upd z.1 4 ((s1 ||| s2) &&& 65535), z.2)) := hD
    refine lv_aload_n hx hb dX6_readCell_40 rfl (lv_at hl 0 rfl) ?_
    refine lv_dup hx hb dX6_readCell_41 rfl ?_
    refine va_get (D := G) (ci := 6) (v := .int (z.1 7)) (C := RX6) (T := TX6) (N := 32) hx hb hts hi_6 hown hK hP 0 rfl rfl 7 (by decide) hfl_107 (fun _ h9 => h9) rfl dX6_readCell_42 ?_
    refine lv_iconst (v := 1) hx hb dX6_readCell_45 (by decide) ?_
    refine lv_iadd hx hb dX6_readCell_46 ?_
    refine va_put (D := G) (ci := 6) (v := .int ((z.1 7) + 1)) (ty := .int) (C := RX6) (T := TX6) (N := 32) hx hb hts hi_6 tyX6 tyX6_ok nmX6 hown hK hP hD hS 0 rfl rfl 7 (by decide) hfl_107 (fun _ h9 => h9) rfl (by decide +kernel) rfl rfl (Nat.le_of_ble_eq_true rfl) dX6_readCell_47 (fun H locs hP hD hS => ?_)
    have hP : va_P G vwCl ((fk_mW q k) (upd (upd z.1 4 ((s1 ||| s2) &&& 65535)) 7 ((z.1 7) + 1), z.2)) H := hP
    have hD : va_D A ((fk_mW q k) (upd (upd z.1 4 ((s1 ||| s2) &&& 65535)) 7 ((z.1 7) + 1), z.2)) := hD
    refine lv_aload_n hx hb dX6_readCell_50 rfl (lv_at hl 0 rfl) ?_
    refine va_get (D := G) (ci := 6) (v := .int ((s1 ||| s2) &&& 65535)) (C := RX6) (T := TX6) (N := 32) hx hb hts hi_6 hown hK hP 0 rfl rfl 4 (by decide) hfl_58 (fun _ h9 => h9) rfl dX6_readCell_51 ?_
    refine lv_sipush (v := 17545) hx hb dX6_readCell_54 (by decide) ?_
    refine lv_icmp_ne (tgt := 97) hx hb dX6_readCell_57 (by decide) (fun c57 => ?_) (fun c57 => ?_)
    · exact h97 (upd (upd z.1 4 ((s1 ||| s2) &&& 65535)) 7 ((z.1 7) + 1), z.2) _ _ ls (by rw [hf, fX6_readCell_33, if_neg c57] <;> rfl) (mI_of ⟨rfl, rfl, rfl, rfl, rfl, rfl, rfl⟩ hI) hP hD hS (lv_sub hl [0] rfl)
    · refine lv_aload_n hx hb dX6_readCell_60 rfl (lv_at hl 0 rfl) ?_
      refine va_get (D := G) (ci := 6) (v := .int (z.1 5)) (C := RX6) (T := TX6) (N := 32) hx hb hts hi_6 hown hK hP 0 rfl rfl 5 (by decide) hfl_41 (fun _ h9 => h9) rfl dX6_readCell_61 ?_
      refine lv_if_eq (tgt := 74) hx hb dX6_readCell_64 (by decide) (fun c64 => ?_) (fun c64 => ?_)
      · exact h74 (upd (upd z.1 4 ((s1 ||| s2) &&& 65535)) 7 ((z.1 7) + 1), z.2) _ _ ls (by rw [hf, fX6_readCell_33, if_pos c57, if_pos c64] <;> rfl) hP hD hS (lv_sub hl [0] rfl)
      · refine lv_aload_n hx hb dX6_readCell_67 rfl (lv_at hl 0 rfl) ?_
        refine va_get (D := G) (ci := 6) (v := .int (z.1 8)) (C := RX6) (T := TX6) (N := 32) hx hb hts hi_6 hown hK hP 0 rfl rfl 8 (by decide) hfl_48 (fun _ h9 => h9) rfl dX6_readCell_68 ?_
        refine lv_if_ne (tgt := 97) hx hb dX6_readCell_71 (by decide) (fun c71 => ?_) (fun c71 => ?_)
        · exact h97 (upd (upd z.1 4 ((s1 ||| s2) &&& 65535)) 7 ((z.1 7) + 1), z.2) _ _ ls (by rw [hf, fX6_readCell_33, if_pos c57, if_neg c64, if_neg c71] <;> rfl) (mI_of ⟨rfl, rfl, rfl, rfl, rfl, rfl, rfl⟩ hI) hP hD hS (lv_sub hl [0] rfl)
        · exact h74 (upd (upd z.1 4 ((s1 ||| s2) &&& 65535)) 7 ((z.1 7) + 1), z.2) _ _ ls (by rw [hf, fX6_readCell_33, if_pos c57, if_neg c64, if_pos c71] <;> rfl) hP hD hS (lv_sub hl [0] rfl)
  refine lv_aload_n hx hb dX6_readCell_0 rfl (lv_at hl 0 rfl) ?_
  refine lv_aload_n hx hb dX6_readCell_1 rfl (lv_at hl 0 rfl) ?_
  refine va_get (D := G) (ci := 6) (v := .int (z0.1 4)) (C := RX6) (T := TX6) (N := 32) hx hb hts hi_6 hown hK hP 0 rfl rfl 4 (by decide) hfl_58 (fun _ h9 => h9) rfl dX6_readCell_2 ?_
  refine lv_iconst (v := 1) hx hb dX6_readCell_5 (by decide) ?_
  refine lv_ishl hx hb dX6_readCell_6 ?_
  refine lv_aload_n hx hb dX6_readCell_7 rfl (lv_at hl 0 rfl) ?_
  refine va_get (D := G) (ci := 6) (v := .ref (q 1)) (C := RX6) (T := TX6) (N := 32) hx hb hts hi_6 hown hK hP 0 rfl rfl 0 (by decide) hfl_7 (fun _ h9 => h9) rfl dX6_readCell_8 ?_
  refine lv_sipush (v := 2400) hx hb dX6_readCell_11 (by decide) ?_
  refine lv_aload_n hx hb dX6_readCell_14 rfl (lv_at hl 0 rfl) ?_
  refine va_get (D := G) (ci := 6) (v := .int (z0.1 2)) (C := RX6) (T := TX6) (N := 32) hx hb hts hi_6 hown hK hP 0 rfl rfl 2 (by decide) hfl_101 (fun _ h9 => h9) rfl dX6_readCell_15 ?_
  refine lv_imul hx hb dX6_readCell_18 ?_
  refine lv_aload_n hx hb dX6_readCell_19 rfl (lv_at hl 0 rfl) ?_
  refine va_get (D := G) (ci := 6) (v := .int (z0.1 3)) (C := RX6) (T := TX6) (N := 32) hx hb hts hi_6 hown hK hP 0 rfl rfl 3 (by decide) hfl_104 (fun _ h9 => h9) rfl dX6_readCell_20 ?_
  refine lv_iadd hx hb dX6_readCell_23 ?_
  have hin_24 : vp_in ((2400 * (z0.1 2)) + (z0.1 3)) 9600 := by exact mI_cell hI
  refine va_zald (f := z0.2.1) hx hb hK hP 1 0 rfl rfl hin_24 dX6_readCell_24 ?_
  refine lv_if_eq (tgt := 32) hx hb dX6_readCell_25 (by decide) (fun c25 => ?_) (fun c25 => ?_)
  · refine lv_iconst (v := 0) hx hb dX6_readCell_32 (by decide) ?_
    exact h33 z0 ((z0.1 4) <<< ((1 : Int32) &&& 31)) 0 _ _ ls (by rw [fX6_readCell, if_pos c25] <;> rfl) hI hP hD hS (lv_sub hl [0] rfl)
  · refine lv_iconst (v := 1) hx hb dX6_readCell_28 (by decide) ?_
    refine lv_goto (tgt := 33) hx hb dX6_readCell_29 (by decide) ?_
    exact h33 z0 ((z0.1 4) <<< ((1 : Int32) &&& 31)) 1 _ _ ls (by rw [fX6_readCell, if_neg c25] <;> rfl) hI hP hD hS (lv_sub hl [0] rfl)
