-- FloppyDeskModel.pass()I
set_option maxHeartbeats 4000000 in
set_option maxRecDepth 100000 in
theorem c_X6_pass (l : Launch) (G : va_G) (q : Nat → Nat) (k : Nat → ClassId) (sz : Nat) (z0 : fk_M) (hI : mI z0) : fk_Mi l yX6_pass wsX6_pass ({ frames := 5, cells := 0, slots := 0, locals := 109 } : Room) G (fk_mW q k) (fk_mT k) [.ref (q 0)] sz z0 (fX6_pass z0) := by
  refine fk_head (cc := cX6_pass) (maxL := 3) (ret := (some .int)) (QQ := fun A => va_Qi (fun r z1 => (r, z1) = fX6_pass z0) (fk_At G (fk_mW q k) (fk_mT k) A) A) (by decide) rfl (Nat.le_of_ble_eq_true rfl) ?_ sz
  intro p e s m below meth c A ls hx hb hr hlk hml hown hts hK hN hA hP hD hS hl
  have hown : s.vm.findClass RX6 = some m.cls := hown
  have F9 : CallFix p m c cX6_pass 3 s ([.ref (q 0)] : List Value).toArray wsX6_pass RX6 := ⟨hx, hb, hml, hown, hts⟩
  have hl : lv_has ls 3 [(0, .ref (q 0))] := hl
  have hfl_55 := hts (.fieldLink RX6 55 "FloppyDeskModel" "phase" "I") (by decide +kernel)
  have hfl_104 := hts (.fieldLink RX6 104 "FloppyDeskModel" "place" "I") (by decide +kernel)
  have hi_6 : ∀ w ∈ u_ws RX6 TX6 32, w ∈ wsX6_pass := by decide +kernel
  have h4 : ∀ (n : Nat) (j : Nat) (z : fk_M) (x1 : Int32) (x2 : Int32) (H : Heap) (locs : List Loc) (ls : Array Slot), fX6_pass z0 = fX6_pass_4 n z x1 x2 → (x2 = nI j) → (j ≤ 16) → (16 + 1 ≤ j + n) → (mI z) → va_P G vwCl ((fk_mW q k) z) H → va_D A ((fk_mW q k) z) → va_S A s.heap H locs → lv_has ls 3 [(0, .ref (q 0)), (1, .int x1), (2, .int x2)] → W p l e ({ frames := 5, cells := 0, slots := 0, locals := 109 } : Room) s m ([.ref (q 0)] : List Value).toArray below meth c H locs 0 0 (MQ below (va_Qi (fun r z1 => (r, z1) = fX6_pass z0) (fk_At G (fk_mW q k) (fk_mT k) A) A) ([.ref (q 0)] : List Value).toArray s 0 0 A) (F0 m 4 ls []) := by
    intro n
    induction n with
    | zero =>
      intro j z x1 x2 H locs ls hf hj hjN hfu hI hP hD hS hl
      exact absurd hfu (by omega)
    | succ n ih =>
      intro j z x1 x2 H locs ls hf hj hjN hfu hI hP hD hS hl
      have h71 : ∀ (z : fk_M) (x1 : Int32) (H : Heap) (locs : List Loc) (ls : Array Slot), fX6_pass z0 = fX6_pass_71 (fX6_pass_4 n) z x1 x2 → (j < 16) → (mI z) → va_P G vwCl ((fk_mW q k) z) H → va_D A ((fk_mW q k) z) → va_S A s.heap H locs → lv_has ls 3 [(0, .ref (q 0)), (1, .int x1), (2, .int x2)] → W p l e ({ frames := 5, cells := 0, slots := 0, locals := 109 } : Room) s m ([.ref (q 0)] : List Value).toArray below meth c H locs 0 0 (MQ below (va_Qi (fun r z1 => (r, z1) = fX6_pass z0) (fk_At G (fk_mW q k) (fk_mT k) A) A) ([.ref (q 0)] : List Value).toArray s 0 0 A) (F0 m 71 ls []) := by
        intro z x1 H locs ls hf hlt hI hP hD hS hl
        refine lv_iinc (v := x2 + 1) (lv' := [(2, .int (x2 + 1)), (0, .ref (q 0)), (1, .int x1)]) hx hb dX6_pass_71 hl (k := 2) rfl (by rfl) (by decide) rfl (fun ls hl => ?_)
        refine lv_goto (tgt := 4) hx hb dX6_pass_74 (by decide) ?_
        exact ih (j + 1) z x1 (x2 + 1) _ _ ls (by rw [hf, fX6_pass_71] <;> rfl) (fk_up1 hj) (by omega) (by omega) hI hP hD hS (lv_sub hl [1, 2, 0] rfl)
      have h39 : ∀ (z : fk_M) (H : Heap) (locs : List Loc) (ls : Array Slot), fX6_pass z0 = fX6_pass_39 (fX6_pass_4 n) z x1 x2 → (j < 16) → (mI z) → va_P G vwCl ((fk_mW q k) z) H → va_D A ((fk_mW q k) z) → va_S A s.heap H locs → lv_has ls 3 [(0, .ref (q 0)), (1, .int x1), (2, .int x2)] → W p l e ({ frames := 5, cells := 0, slots := 0, locals := 109 } : Room) s m ([.ref (q 0)] : List Value).toArray below meth c H locs 0 0 (MQ below (va_Qi (fun r z1 => (r, z1) = fX6_pass z0) (fk_At G (fk_mW q k) (fk_mT k) A) A) ([.ref (q 0)] : List Value).toArray s 0 0 A) (F0 m 39 ls []) := by
        intro z H locs ls hf hlt hI hP hD hS hl
        refine lv_aload_n hx hb dX6_pass_39 rfl (lv_at hl 0 rfl) ?_
        refine lv_dup hx hb dX6_pass_40 rfl ?_
        refine va_get (D := G) (ci := 6) (v := .int (z.1 3)) (C := RX6) (T := TX6) (N := 32) hx hb hts hi_6 hown hK hP 0 rfl rfl 3 (by decide) hfl_104 (fun _ h9 => h9) rfl dX6_pass_41 ?_
        refine lv_iconst (v := 1) hx hb dX6_pass_44 (by decide) ?_
        refine lv_iadd hx hb dX6_pass_45 ?_
        refine va_put (D := G) (ci := 6) (v := .int ((z.1 3) + 1)) (ty := .int) (C := RX6) (T := TX6) (N := 32) hx hb hts hi_6 tyX6 tyX6_ok nmX6 hown hK hP hD hS 0 rfl rfl 3 (by decide) hfl_104 (fun _ h9 => h9) rfl (by decide +kernel) rfl rfl (Nat.le_of_ble_eq_true rfl) dX6_pass_46 (fun H locs hP hD hS => ?_)
        have hP : va_P G vwCl ((fk_mW q k) (upd z.1 3 ((z.1 3) + 1), z.2)) H := hP
        have hD : va_D A ((fk_mW q k) (upd z.1 3 ((z.1 3) + 1), z.2)) := hD
        refine lv_aload_n hx hb dX6_pass_49 rfl (lv_at hl 0 rfl) ?_
        refine va_get (D := G) (ci := 6) (v := .int ((z.1 3) + 1)) (C := RX6) (T := TX6) (N := 32) hx hb hts hi_6 hown hK hP 0 rfl rfl 3 (by decide) hfl_104 (fun _ h9 => h9) rfl dX6_pass_50 ?_
        refine lv_sipush (v := 2400) hx hb dX6_pass_53 (by decide) ?_
        refine lv_icmp_ne (tgt := 71) hx hb dX6_pass_56 (by decide) (fun c56 => ?_) (fun c56 => ?_)
        · exact h71 (upd z.1 3 ((z.1 3) + 1), z.2) x1 _ _ ls (by rw [hf, fX6_pass_39, if_neg c56] <;> rfl) hlt (by first | exact mI_place hI c56 | exact hI) hP hD hS (lv_sub hl [0, 1, 2] rfl)
        · refine lv_aload_n hx hb dX6_pass_59 rfl (lv_at hl 0 rfl) ?_
          refine lv_iconst (v := 0) hx hb dX6_pass_60 (by decide) ?_
          refine va_put (D := G) (ci := 6) (v := .int 0) (ty := .int) (C := RX6) (T := TX6) (N := 32) hx hb hts hi_6 tyX6 tyX6_ok nmX6 hown hK hP hD hS 0 rfl rfl 3 (by decide) hfl_104 (fun _ h9 => h9) rfl (by decide +kernel) rfl rfl (Nat.le_of_ble_eq_true rfl) dX6_pass_61 (fun H locs hP hD hS => ?_)
          have hP : va_P G vwCl ((fk_mW q k) (upd (upd z.1 3 ((z.1 3) + 1)) 3 0, z.2)) H := hP
          have hD : va_D A ((fk_mW q k) (upd (upd z.1 3 ((z.1 3) + 1)) 3 0, z.2)) := hD
          refine lv_iinc (v := x1 + 1) (lv' := [(1, .int (x1 + 1)), (0, .ref (q 0)), (2, .int x2)]) hx hb dX6_pass_64 hl (k := 1) rfl (by rfl) (by decide) rfl (fun ls hl => ?_)
          refine lv_aload_n hx hb dX6_pass_67 rfl (lv_at hl 1 rfl) ?_
          obtain ⟨y68_x1, ey68_x1⟩ : ∃ y9 : Int32, y9 = x1 + 1 := ⟨_, rfl⟩
          have hl : lv_has ls 3 [(1, .int y68_x1), (0, .ref (q 0)), (2, .int x2)] := by rw [ey68_x1]; exact hl
          refine fk_Vv (Wd := (fk_mW q k)) (z := (upd (upd z.1 3 ((z.1 3) + 1)) 3 0, z.2)) (As := []) (rest := []) F9 (c_X6_index l G q k _ (upd (upd z.1 3 ((z.1 3) + 1)) 3 0, z.2)) (cwV 0 hts gX6_pass_X6_index rfl rfl rfl (by decide +kernel) ⟨Nat.le_of_ble_eq_true rfl, Nat.le_of_ble_eq_true rfl⟩) (va_recv hK hP (ci := 6) (q0 := 0) rfl rfl) hK hP hD hS hA hN rfl hl.1 rfl (Nat.le_of_ble_eq_true rfl) dX6_pass_68 ⟨Nat.zero_le _, Nat.zero_le _⟩ (fun z H locs hw hP hD hS => ?_)
          have hf : fX6_pass z0 = fX6_pass_c1 (fX6_pass_4 n) z y68_x1 x2 := by rw [ey68_x1, hf, fX6_pass_39, if_pos c56, ← hw] <;> rfl
          have hI : mI z := by rw [hw]; exact mI_index (mI_place0 hI _)
          exact h71 z y68_x1 _ _ ls (by rw [hf, fX6_pass_c1] <;> rfl) hlt (by first | exact mI_place hI c56 | exact hI) hP hD hS (lv_sub hl [1, 0, 2] rfl)
      have h28 : ∀ (z : fk_M) (H : Heap) (locs : List Loc) (ls : Array Slot), fX6_pass z0 = fX6_pass_28 (fX6_pass_4 n) z x1 x2 → (j < 16) → (mI z) → va_P G vwCl ((fk_mW q k) z) H → va_D A ((fk_mW q k) z) → va_S A s.heap H locs → lv_has ls 3 [(0, .ref (q 0)), (1, .int x1), (2, .int x2)] → W p l e ({ frames := 5, cells := 0, slots := 0, locals := 109 } : Room) s m ([.ref (q 0)] : List Value).toArray below meth c H locs 0 0 (MQ below (va_Qi (fun r z1 => (r, z1) = fX6_pass z0) (fk_At G (fk_mW q k) (fk_mT k) A) A) ([.ref (q 0)] : List Value).toArray s 0 0 A) (F0 m 28 ls []) := by
        intro z H locs ls hf hlt hI hP hD hS hl
        refine lv_aload_n hx hb dX6_pass_28 rfl (lv_at hl 0 rfl) ?_
        refine fk_Vv (Wd := (fk_mW q k)) (z := z) (As := []) (rest := []) F9 (c_X6_writeCell l G q k _ z hI) (cwV 0 hts gX6_pass_X6_writeCell rfl rfl rfl (by decide +kernel) ⟨Nat.le_of_ble_eq_true rfl, Nat.le_of_ble_eq_true rfl⟩) (va_recv hK hP (ci := 6) (q0 := 0) rfl rfl) hK hP hD hS hA hN rfl hl.1 rfl (Nat.le_of_ble_eq_true rfl) dX6_pass_29 ⟨Nat.zero_le _, Nat.zero_le _⟩ (fun z H locs hw hP hD hS => ?_)
        have hf : fX6_pass z0 = fX6_pass_c2 (fX6_pass_4 n) z x1 x2 := by rw [hf, fX6_pass_28, ← hw] <;> rfl
        have hI : mI z := by rw [hw]; exact mI_writeCell hI
        refine lv_goto (tgt := 39) hx hb dX6_pass_32 (by decide) ?_
        exact h39 z _ _ ls (by rw [hf, fX6_pass_c2] <;> rfl) hlt hI hP hD hS (lv_sub hl [0, 1, 2] rfl)
      refine lv_iload_n hx hb dX6_pass_4 rfl (lv_at hl 2 rfl) ?_
      refine lv_bipush (v := 16) hx hb dX6_pass_5 (by decide) ?_
      refine lv_icmp_ge (tgt := 77) hx hb dX6_pass_7 (by decide) (fun c7 => ?_) (fun c7 => ?_)
      · refine lv_aload_n hx hb dX6_pass_77 rfl (lv_at hl 0 rfl) ?_
        have hl := lv_sub hl [1] (l' := [(1, .int x1)]) rfl
        refine fk_Vv (Wd := (fk_mW q k)) (z := z) (As := []) (rest := []) F9 (c_X6_later l G q k _ z) (cwV 0 hts gX6_pass_X6_later rfl rfl rfl (by decide +kernel) ⟨Nat.le_of_ble_eq_true rfl, Nat.le_of_ble_eq_true rfl⟩) (va_recv hK hP (ci := 6) (q0 := 0) rfl rfl) hK hP hD hS hA hN rfl hl.1 rfl (Nat.le_of_ble_eq_true rfl) dX6_pass_78 ⟨Nat.zero_le _, Nat.zero_le _⟩ (fun z H locs hw hP hD hS => ?_)
        have hf : fX6_pass z0 = fX6_pass_c3 z x1 := by rw [hf, fX6_pass_4, if_pos c7, ← hw] <;> rfl
        refine lv_iload_n hx hb dX6_pass_81 rfl (lv_at hl 0 rfl) ?_
        exact fk_iret hx hb hr hlk hK hP hD hS rfl (Eq.symm (by rw [hf, fX6_pass_c3] <;> rfl)) dX6_pass_82
      · have hlt : j < 16 := fk_up hj (by decide) (by omega) c7
        refine lv_aload_n hx hb dX6_pass_10 rfl (lv_at hl 0 rfl) ?_
        refine va_get (D := G) (ci := 6) (v := .int (z.1 19)) (C := RX6) (T := TX6) (N := 32) hx hb hts hi_6 hown hK hP 0 rfl rfl 19 (by decide) hfl_55 (fun _ h9 => h9) rfl dX6_pass_11 ?_
        refine lv_bipush (v := 6) hx hb dX6_pass_14 (by decide) ?_
        refine lv_icmp_eq (tgt := 28) hx hb dX6_pass_16 (by decide) (fun c16 => ?_) (fun c16 => ?_)
        · exact h28 z _ _ ls (by rw [hf, fX6_pass_4, if_neg c7, if_pos c16] <;> rfl) hlt hI hP hD hS (lv_sub hl [0, 1, 2] rfl)
        · refine lv_aload_n hx hb dX6_pass_19 rfl (lv_at hl 0 rfl) ?_
          refine va_get (D := G) (ci := 6) (v := .int (z.1 19)) (C := RX6) (T := TX6) (N := 32) hx hb hts hi_6 hown hK hP 0 rfl rfl 19 (by decide) hfl_55 (fun _ h9 => h9) rfl dX6_pass_20 ?_
          refine lv_bipush (v := 8) hx hb dX6_pass_23 (by decide) ?_
          refine lv_icmp_ne (tgt := 35) hx hb dX6_pass_25 (by decide) (fun c25 => ?_) (fun c25 => ?_)
          · refine lv_aload_n hx hb dX6_pass_35 rfl (lv_at hl 0 rfl) ?_
            refine fk_Vv (Wd := (fk_mW q k)) (z := z) (As := []) (rest := []) F9 (c_X6_readCell l G q k _ z hI) (cwV 0 hts gX6_pass_X6_readCell rfl rfl rfl (by decide +kernel) ⟨Nat.le_of_ble_eq_true rfl, Nat.le_of_ble_eq_true rfl⟩) (va_recv hK hP (ci := 6) (q0 := 0) rfl rfl) hK hP hD hS hA hN rfl hl.1 rfl (Nat.le_of_ble_eq_true rfl) dX6_pass_36 ⟨Nat.zero_le _, Nat.zero_le _⟩ (fun z H locs hw hP hD hS => ?_)
            have hf : fX6_pass z0 = fX6_pass_c4 (fX6_pass_4 n) z x1 x2 := by rw [hf, fX6_pass_4, if_neg c7, if_neg c16, if_neg c25, ← hw] <;> rfl
            have hI : mI z := by rw [hw]; exact mI_readCell hI
            exact h39 z _ _ ls (by rw [hf, fX6_pass_c4] <;> rfl) hlt hI hP hD hS (lv_sub hl [0, 1, 2] rfl)
          · exact h28 z _ _ ls (by rw [hf, fX6_pass_4, if_neg c7, if_neg c16, if_pos c25] <;> rfl) hlt hI hP hD hS (lv_sub hl [0, 1, 2] rfl)
  refine lv_iconst (v := 0) hx hb dX6_pass_0 (by decide) ?_
  refine lv_istore_n (lv' := [(1, .int 0), (0, .ref (q 0))]) hx hb dX6_pass_1 rfl hl (by decide) rfl (fun ls hl => ?_)
  refine lv_iconst (v := 0) hx hb dX6_pass_2 (by decide) ?_
  refine lv_istore_n (lv' := [(2, .int 0), (1, .int 0), (0, .ref (q 0))]) hx hb dX6_pass_3 rfl hl (by decide) rfl (fun ls hl => ?_)
  exact h4 17 0 z0 0 0 _ _ ls (by rw [fX6_pass] <;> rfl) (by decide) (by omega) (by omega) hI hP hD hS (lv_sub hl [2, 1, 0] rfl)
-- FloppyDeskModel.command(IZ)Z
set_option maxHeartbeats 4000000 in
set_option maxRecDepth 100000 in
theorem c_X6_command (l : Launch) (G : va_G) (q : Nat → Nat) (k : Nat → ClassId) (sz : Nat) (z0 : fk_M) (a1 : Int32) (a2 : Int32) (hb_a2 : a2 = 0 ∨ a2 = 1) : fk_Mi l yX6_command wsX6_command ({ frames := 2, cells := 0, slots := 0, locals := 41 } : Room) G (fk_mW q k) (fk_mT k) [.ref (q 0), .int a1, .int a2] sz z0 (fX6_command z0 a1 a2) := by
  refine fk_head (cc := cX6_command) (maxL := 3) (ret := (some .boolean)) (QQ := fun A => va_Qi (fun r z1 => (r, z1) = fX6_command z0 a1 a2) (fk_At G (fk_mW q k) (fk_mT k) A) A) (by decide) rfl (Nat.le_of_ble_eq_true rfl) ?_ sz
  intro p e s m below meth c A ls hx hb hr hlk hml hown hts hK hN hA hP hD hS hl
  have hown : s.vm.findClass RX6 = some m.cls := hown
  have F9 : CallFix p m c cX6_command 3 s ([.ref (q 0), .int a1, .int a2] : List Value).toArray wsX6_command RX6 := ⟨hx, hb, hml, hown, hts⟩
  have hl : lv_has ls 3 [(0, .ref (q 0)), (1, .int a1), (2, .int a2)] := hl
  have hfl_17 := hts (.fieldLink RX6 17 "FloppyDeskModel" "dataSize" "I") (by decide +kernel)
  have hfl_21 := hts (.fieldLink RX6 21 "FloppyDeskModel" "latest" "I") (by decide +kernel)
  have hfl_38 := hts (.fieldLink RX6 38 "FloppyDeskModel" "status" "I") (by decide +kernel)
  have hfl_55 := hts (.fieldLink RX6 55 "FloppyDeskModel" "phase" "I") (by decide +kernel)
  have hfl_61 := hts (.fieldLink RX6 61 "FloppyDeskModel" "data" "I") (by decide +kernel)
  have hfl_77 := hts (.fieldLink RX6 77 "FloppyDeskModel" "track" "I") (by decide +kernel)
  have hfl_80 := hts (.fieldLink RX6 80 "FloppyDeskModel" "count" "I") (by decide +kernel)
  have hfl_147 := hts (.fieldLink RX6 147 "FloppyDeskModel" "removes" "Z") (by decide +kernel)
  have hfl_160 := hts (.fieldLink RX6 160 "FloppyDeskModel" "indexes" "I") (by decide +kernel)
  have hfl_181 := hts (.fieldLink RX6 181 "FloppyDeskModel" "shut" "Z") (by decide +kernel)
  have hi_6 : ∀ w ∈ u_ws RX6 TX6 32, w ∈ wsX6_command := by decide +kernel
  have h124 : ∀ (z : fk_M) (x1 : Int32) (H : Heap) (locs : List Loc) (ls : Array Slot), fX6_command z0 a1 a2 = fX6_command_124 z x1 → va_P G vwCl ((fk_mW q k) z) H → va_D A ((fk_mW q k) z) → va_S A s.heap H locs → lv_has ls 3 [(0, .ref (q 0)), (1, .int x1)] → W p l e ({ frames := 2, cells := 0, slots := 0, locals := 41 } : Room) s m ([.ref (q 0), .int a1, .int a2] : List Value).toArray below meth c H locs 0 0 (MQ below (va_Qi (fun r z1 => (r, z1) = fX6_command z0 a1 a2) (fk_At G (fk_mW q k) (fk_mT k) A) A) ([.ref (q 0), .int a1, .int a2] : List Value).toArray s 0 0 A) (F0 m 124 ls []) := by
    intro z x1 H locs ls hf  hP hD hS hl
    refine lv_iload_n hx hb dX6_command_124 rfl (lv_at hl 1 rfl) ?_
    refine lv_iconst (v := 5) hx hb dX6_command_125 (by decide) ?_
    refine lv_icmp_ne (tgt := 134) hx hb dX6_command_126 (by decide) (fun c126 => ?_) (fun c126 => ?_)
    · refine lv_iconst (v := 1) hx hb dX6_command_134 (by decide) ?_
      exact fk_iret hx hb hr hlk hK hP hD hS rfl (Eq.symm (by rw [hf, fX6_command_124, if_neg c126] <;> rfl)) dX6_command_135
    · refine lv_aload_n hx hb dX6_command_129 rfl (lv_at hl 0 rfl) ?_
      refine lv_iconst (v := 2) hx hb dX6_command_130 (by decide) ?_
      have hl := lv_sub hl [] (l' := []) rfl
      refine fk_Vv (Wd := (fk_mW q k)) (z := z) (As := [.int 2]) (rest := []) F9 (c_X6_raise l G q k _ z 2) (cwV 1 hts gX6_command_X6_raise rfl rfl rfl (by decide +kernel) ⟨Nat.le_of_ble_eq_true rfl, Nat.le_of_ble_eq_true rfl⟩) (va_recv hK hP (ci := 6) (q0 := 0) rfl rfl) hK hP hD hS hA hN rfl hl.1 rfl (Nat.le_of_ble_eq_true rfl) dX6_command_131 ⟨Nat.zero_le _, Nat.zero_le _⟩ (fun z H locs hw hP hD hS => ?_)
      have hf : fX6_command z0 a1 a2 = fX6_command_c1 z := by rw [hf, fX6_command_124, if_pos c126, ← hw] <;> rfl
      refine lv_iconst (v := 1) hx hb dX6_command_134 (by decide) ?_
      exact fk_iret hx hb hr hlk hK hP hD hS rfl (Eq.symm (by rw [hf, fX6_command_c1] <;> rfl)) dX6_command_135
  have h91 : ∀ (z : fk_M) (x1 : Int32) (s1 : Int32) (H : Heap) (locs : List Loc) (ls : Array Slot), fX6_command z0 a1 a2 = fX6_command_91 z x1 s1 → va_P G vwCl ((fk_mW q k) z) H → va_D A ((fk_mW q k) z) → va_S A s.heap H locs → lv_has ls 3 [(0, .ref (q 0)), (1, .int x1)] → W p l e ({ frames := 2, cells := 0, slots := 0, locals := 41 } : Room) s m ([.ref (q 0), .int a1, .int a2] : List Value).toArray below meth c H locs 0 0 (MQ below (va_Qi (fun r z1 => (r, z1) = fX6_command z0 a1 a2) (fk_At G (fk_mW q k) (fk_mT k) A) A) ([.ref (q 0), .int a1, .int a2] : List Value).toArray s 0 0 A) (F0 m 91 ls [.int s1, .ref (q 0)]) := by
    intro z x1 s1 H locs ls hf  hP hD hS hl
    refine va_put (D := G) (ci := 6) (v := .int s1) (ty := .int) (C := RX6) (T := TX6) (N := 32) hx hb hts hi_6 tyX6 tyX6_ok nmX6 hown hK hP hD hS 0 rfl rfl 19 (by decide) hfl_55 (fun _ h9 => h9) rfl (by decide +kernel) rfl rfl (Nat.le_of_ble_eq_true rfl) dX6_command_91 (fun H locs hP hD hS => ?_)
    have hP : va_P G vwCl ((fk_mW q k) (upd z.1 19 s1, z.2)) H := hP
    have hD : va_D A ((fk_mW q k) (upd z.1 19 s1, z.2)) := hD
    refine lv_aload_n hx hb dX6_command_94 rfl (lv_at hl 0 rfl) ?_
    refine va_get (D := G) (ci := 6) (v := .int (z.1 1)) (C := RX6) (T := TX6) (N := 32) hx hb hts hi_6 hown hK hP 0 rfl rfl 1 (by decide) hfl_181 (fun _ h9 => h9) rfl dX6_command_95 ?_
    refine lv_if_eq (tgt := 124) hx hb dX6_command_98 (by decide) (fun c98 => ?_) (fun c98 => ?_)
    · exact h124 (upd z.1 19 s1, z.2) x1 _ _ ls (by rw [hf, fX6_command_91, if_pos c98] <;> rfl) hP hD hS (lv_sub hl [0, 1] rfl)
    · refine lv_iload_n hx hb dX6_command_101 rfl (lv_at hl 1 rfl) ?_
      refine lv_iconst (v := 3) hx hb dX6_command_102 (by decide) ?_
      refine lv_icmp_eq (tgt := 111) hx hb dX6_command_103 (by decide) (fun c103 => ?_) (fun c103 => ?_)
      · refine lv_aload_n hx hb dX6_command_111 rfl (lv_at hl 0 rfl) ?_
        refine lv_bipush (v := 64) hx hb dX6_command_112 (by decide) ?_
        have hl := lv_sub hl [0] (l' := [(0, .ref (q 0))]) rfl
        refine fk_Vv (Wd := (fk_mW q k)) (z := (upd z.1 19 s1, z.2)) (As := [.int 64]) (rest := []) F9 (c_X6_raise l G q k _ (upd z.1 19 s1, z.2) 64) (cwV 1 hts gX6_command_X6_raise rfl rfl rfl (by decide +kernel) ⟨Nat.le_of_ble_eq_true rfl, Nat.le_of_ble_eq_true rfl⟩) (va_recv hK hP (ci := 6) (q0 := 0) rfl rfl) hK hP hD hS hA hN rfl hl.1 rfl (Nat.le_of_ble_eq_true rfl) dX6_command_114 ⟨Nat.zero_le _, Nat.zero_le _⟩ (fun z H locs hw hP hD hS => ?_)
        have hf : fX6_command z0 a1 a2 = fX6_command_c2 z := by rw [hf, fX6_command_91, if_neg c98, if_pos c103, ← hw] <;> rfl
        refine lv_aload_n hx hb dX6_command_117 rfl (lv_at hl 0 rfl) ?_
        have hl := lv_sub hl [] (l' := []) rfl
        refine fk_Vv (Wd := (fk_mW q k)) (z := z) (As := []) (rest := []) F9 (c_X6_end l G q k _ z) (cwV 0 hts gX6_command_X6_end rfl rfl rfl (by decide +kernel) ⟨Nat.le_of_ble_eq_true rfl, Nat.le_of_ble_eq_true rfl⟩) (va_recv hK hP (ci := 6) (q0 := 0) rfl rfl) hK hP hD hS hA hN rfl hl.1 rfl (Nat.le_of_ble_eq_true rfl) dX6_command_118 ⟨Nat.zero_le _, Nat.zero_le _⟩ (fun z H locs hw hP hD hS => ?_)
        have hf : fX6_command z0 a1 a2 = fX6_command_c3 z := by rw [hf, fX6_command_c2, ← hw] <;> rfl
        refine lv_goto (tgt := 134) hx hb dX6_command_121 (by decide) ?_
        refine lv_iconst (v := 1) hx hb dX6_command_134 (by decide) ?_
        exact fk_iret hx hb hr hlk hK hP hD hS rfl (Eq.symm (by rw [hf, fX6_command_c3] <;> rfl)) dX6_command_135
      · refine lv_iload_n hx hb dX6_command_106 rfl (lv_at hl 1 rfl) ?_
        refine lv_iconst (v := 5) hx hb dX6_command_107 (by decide) ?_
        refine lv_icmp_ne (tgt := 124) hx hb dX6_command_108 (by decide) (fun c108 => ?_) (fun c108 => ?_)
        · exact h124 (upd z.1 19 s1, z.2) x1 _ _ ls (by rw [hf, fX6_command_91, if_neg c98, if_neg c103, if_neg c108] <;> rfl) hP hD hS (lv_sub hl [0, 1] rfl)
        · refine lv_aload_n hx hb dX6_command_111 rfl (lv_at hl 0 rfl) ?_
          refine lv_bipush (v := 64) hx hb dX6_command_112 (by decide) ?_
          have hl := lv_sub hl [0] (l' := [(0, .ref (q 0))]) rfl
          refine fk_Vv (Wd := (fk_mW q k)) (z := (upd z.1 19 s1, z.2)) (As := [.int 64]) (rest := []) F9 (c_X6_raise l G q k _ (upd z.1 19 s1, z.2) 64) (cwV 1 hts gX6_command_X6_raise rfl rfl rfl (by decide +kernel) ⟨Nat.le_of_ble_eq_true rfl, Nat.le_of_ble_eq_true rfl⟩) (va_recv hK hP (ci := 6) (q0 := 0) rfl rfl) hK hP hD hS hA hN rfl hl.1 rfl (Nat.le_of_ble_eq_true rfl) dX6_command_114 ⟨Nat.zero_le _, Nat.zero_le _⟩ (fun z H locs hw hP hD hS => ?_)
          have hf : fX6_command z0 a1 a2 = fX6_command_c4 z := by rw [hf, fX6_command_91, if_neg c98, if_neg c103, if_pos c108, ← hw] <;> rfl
          refine lv_aload_n hx hb dX6_command_117 rfl (lv_at hl 0 rfl) ?_
          have hl := lv_sub hl [] (l' := []) rfl
          refine fk_Vv (Wd := (fk_mW q k)) (z := z) (As := []) (rest := []) F9 (c_X6_end l G q k _ z) (cwV 0 hts gX6_command_X6_end rfl rfl rfl (by decide +kernel) ⟨Nat.le_of_ble_eq_true rfl, Nat.le_of_ble_eq_true rfl⟩) (va_recv hK hP (ci := 6) (q0 := 0) rfl rfl) hK hP hD hS hA hN rfl hl.1 rfl (Nat.le_of_ble_eq_true rfl) dX6_command_118 ⟨Nat.zero_le _, Nat.zero_le _⟩ (fun z H locs hw hP hD hS => ?_)
          have hf : fX6_command z0 a1 a2 = fX6_command_c5 z := by rw [hf, fX6_command_c4, ← hw] <;> rfl
          refine lv_goto (tgt := 134) hx hb dX6_command_121 (by decide) ?_
          refine lv_iconst (v := 1) hx hb dX6_command_134 (by decide) ?_
          exact fk_iret hx hb hr hlk hK hP hD hS rfl (Eq.symm (by rw [hf, fX6_command_c5] <;> rfl)) dX6_command_135
  have h70 : ∀ (z : fk_M) (x1 : Int32) (H : Heap) (locs : List Loc) (ls : Array Slot), fX6_command z0 a1 a2 = fX6_command_70 z x1 → va_P G vwCl ((fk_mW q k) z) H → va_D A ((fk_mW q k) z) → va_S A s.heap H locs → lv_has ls 3 [(0, .ref (q 0)), (1, .int x1)] → W p l e ({ frames := 2, cells := 0, slots := 0, locals := 41 } : Room) s m ([.ref (q 0), .int a1, .int a2] : List Value).toArray below meth c H locs 0 0 (MQ below (va_Qi (fun r z1 => (r, z1) = fX6_command z0 a1 a2) (fk_At G (fk_mW q k) (fk_mT k) A) A) ([.ref (q 0), .int a1, .int a2] : List Value).toArray s 0 0 A) (F0 m 70 ls []) := by
    intro z x1 H locs ls hf  hP hD hS hl
    refine lv_aload_n hx hb dX6_command_70 rfl (lv_at hl 0 rfl) ?_
    refine lv_iload_n hx hb dX6_command_71 rfl (lv_at hl 1 rfl) ?_
    refine lv_iconst (v := 2) hx hb dX6_command_72 (by decide) ?_
    refine lv_icmp_ge (tgt := 80) hx hb dX6_command_73 (by decide) (fun c73 => ?_) (fun c73 => ?_)
    · refine lv_iload_n hx hb dX6_command_80 rfl (lv_at hl 1 rfl) ?_
      refine lv_iconst (v := 5) hx hb dX6_command_81 (by decide) ?_
      refine lv_icmp_ne (tgt := 90) hx hb dX6_command_82 (by decide) (fun c82 => ?_) (fun c82 => ?_)
      · refine lv_iconst (v := 2) hx hb dX6_command_90 (by decide) ?_
        exact h91 z x1 2 _ _ ls (by rw [hf, fX6_command_70, if_pos c73, if_neg c82] <;> rfl) hP hD hS (lv_sub hl [0, 1] rfl)
      · refine lv_bipush (v := 7) hx hb dX6_command_85 (by decide) ?_
        refine lv_goto (tgt := 91) hx hb dX6_command_87 (by decide) ?_
        exact h91 z x1 7 _ _ ls (by rw [hf, fX6_command_70, if_pos c73, if_pos c82] <;> rfl) hP hD hS (lv_sub hl [0, 1] rfl)
    · refine lv_iconst (v := 1) hx hb dX6_command_76 (by decide) ?_
      refine lv_goto (tgt := 91) hx hb dX6_command_77 (by decide) ?_
      exact h91 z x1 1 _ _ ls (by rw [hf, fX6_command_70, if_neg c73] <;> rfl) hP hD hS (lv_sub hl [0, 1] rfl)
  refine lv_iload_n hx hb dX6_command_0 rfl (lv_at hl 1 rfl) ?_
  refine lv_if_lt (tgt := 17) hx hb dX6_command_1 (by decide) (fun c1 => ?_) (fun c1 => ?_)
  · refine lv_iconst (v := 0) hx hb dX6_command_17 (by decide) ?_
    exact fk_iret hx hb hr hlk hK hP hD hS rfl (Eq.symm (by rw [fX6_command, if_pos c1] <;> rfl)) dX6_command_18
  · refine lv_iload_n hx hb dX6_command_4 rfl (lv_at hl 1 rfl) ?_
    refine lv_iconst (v := 5) hx hb dX6_command_5 (by decide) ?_
    refine lv_icmp_gt (tgt := 17) hx hb dX6_command_6 (by decide) (fun c6 => ?_) (fun c6 => ?_)
    · refine lv_iconst (v := 0) hx hb dX6_command_17 (by decide) ?_
      exact fk_iret hx hb hr hlk hK hP hD hS rfl (Eq.symm (by rw [fX6_command, if_neg c1, if_pos c6] <;> rfl)) dX6_command_18
    · refine lv_aload_n hx hb dX6_command_9 rfl (lv_at hl 0 rfl) ?_
      refine lv_iconst (v := 1) hx hb dX6_command_10 (by decide) ?_
      refine fk_Vp (Wd := (fk_mW q k)) (z := z0) (As := [.int 1]) (rest := []) F9 (c_X6_has l G q k _ z0 1) (cwV 1 hts gX6_command_X6_has rfl rfl rfl (by decide +kernel) ⟨Nat.le_of_ble_eq_true rfl, Nat.le_of_ble_eq_true rfl⟩) (va_recv hK hP (ci := 6) (q0 := 0) rfl rfl) hK hP hD hS hA hN rfl hl.1 rfl (Nat.le_of_ble_eq_true rfl) dX6_command_11 ⟨Nat.zero_le _, Nat.zero_le _⟩ (fun H locs hP hD hS => ?_)
      refine lv_if_eq (tgt := 19) hx hb dX6_command_14 (by decide) (fun c14 => ?_) (fun c14 => ?_)
      · refine lv_aload_n hx hb dX6_command_19 rfl (lv_at hl 0 rfl) ?_
        refine lv_iload_n hx hb dX6_command_20 rfl (lv_at hl 1 rfl) ?_
        refine va_put (D := G) (ci := 6) (v := .int a1) (ty := .int) (C := RX6) (T := TX6) (N := 32) hx hb hts hi_6 tyX6 tyX6_ok nmX6 hown hK hP hD hS 0 rfl rfl 17 (by decide) hfl_21 (fun _ h9 => h9) rfl (by decide +kernel) rfl rfl (Nat.le_of_ble_eq_true rfl) dX6_command_21 (fun H locs hP hD hS => ?_)
        have hP : va_P G vwCl ((fk_mW q k) (upd z0.1 17 a1, z0.2)) H := hP
        have hD : va_D A ((fk_mW q k) (upd z0.1 17 a1, z0.2)) := hD
        refine lv_aload_n hx hb dX6_command_24 rfl (lv_at hl 0 rfl) ?_
        refine lv_iconst (v := 1) hx hb dX6_command_25 (by decide) ?_
        refine va_put (D := G) (ci := 6) (v := .int 1) (ty := .int) (C := RX6) (T := TX6) (N := 32) hx hb hts hi_6 tyX6 tyX6_ok nmX6 hown hK hP hD hS 0 rfl rfl 16 (by decide) hfl_38 (fun _ h9 => h9) rfl (by decide +kernel) rfl rfl (Nat.le_of_ble_eq_true rfl) dX6_command_26 (fun H locs hP hD hS => ?_)
        have hP : va_P G vwCl ((fk_mW q k) (upd (upd z0.1 17 a1) 16 1, z0.2)) H := hP
        have hD : va_D A ((fk_mW q k) (upd (upd z0.1 17 a1) 16 1, z0.2)) := hD
        refine lv_aload_n hx hb dX6_command_29 rfl (lv_at hl 0 rfl) ?_
        refine lv_iload_n hx hb dX6_command_30 rfl (lv_at hl 2 rfl) ?_
        refine va_put (D := G) (ci := 6) (v := .int a2) (ty := .boolean) (C := RX6) (T := TX6) (N := 32) hx hb hts hi_6 tyX6 tyX6_ok nmX6 hown hK hP hD hS 0 rfl rfl 18 (by decide) hfl_147 (fun _ h9 => h9) rfl (by decide +kernel) (fk_nb hb_a2) (fk_fb hb_a2) (Nat.le_of_ble_eq_true rfl) dX6_command_31 (fun H locs hP hD hS => ?_)
        have hP : va_P G vwCl ((fk_mW q k) (upd (upd (upd z0.1 17 a1) 16 1) 18 a2, z0.2)) H := hP
        have hD : va_D A ((fk_mW q k) (upd (upd (upd z0.1 17 a1) 16 1) 18 a2, z0.2)) := hD
        refine lv_aload_n hx hb dX6_command_34 rfl (lv_at hl 0 rfl) ?_
        have hl := lv_sub hl [0, 1] (l' := [(0, .ref (q 0)), (1, .int a1)]) rfl
        refine fk_Vv (Wd := (fk_mW q k)) (z := (upd (upd (upd z0.1 17 a1) 16 1) 18 a2, z0.2)) (As := []) (rest := []) F9 (c_X6_reset l G q k _ (upd (upd (upd z0.1 17 a1) 16 1) 18 a2, z0.2)) (cwV 0 hts gX6_command_X6_reset rfl rfl rfl (by decide +kernel) ⟨Nat.le_of_ble_eq_true rfl, Nat.le_of_ble_eq_true rfl⟩) (va_recv hK hP (ci := 6) (q0 := 0) rfl rfl) hK hP hD hS hA hN rfl hl.1 rfl (Nat.le_of_ble_eq_true rfl) dX6_command_35 ⟨Nat.zero_le _, Nat.zero_le _⟩ (fun z H locs hw hP hD hS => ?_)
        have hf : fX6_command z0 a1 a2 = fX6_command_c6 z a1 := by rw [fX6_command, if_neg c1, if_neg c6, if_pos c14, ← hw] <;> rfl
        refine lv_aload_n hx hb dX6_command_38 rfl (lv_at hl 0 rfl) ?_
        refine lv_bipush (v := 16) hx hb dX6_command_39 (by decide) ?_
        refine va_put (D := G) (ci := 6) (v := .int 16) (ty := .int) (C := RX6) (T := TX6) (N := 32) hx hb hts hi_6 tyX6 tyX6_ok nmX6 hown hK hP hD hS 0 rfl rfl 12 (by decide) hfl_17 (fun _ h9 => h9) rfl (by decide +kernel) rfl rfl (Nat.le_of_ble_eq_true rfl) dX6_command_41 (fun H locs hP hD hS => ?_)
        have hP : va_P G vwCl ((fk_mW q k) (upd z.1 12 16, z.2)) H := hP
        have hD : va_D A ((fk_mW q k) (upd z.1 12 16, z.2)) := hD
        refine lv_aload_n hx hb dX6_command_44 rfl (lv_at hl 0 rfl) ?_
        refine lv_iconst (v := 0) hx hb dX6_command_45 (by decide) ?_
        refine va_put (D := G) (ci := 6) (v := .int 0) (ty := .int) (C := RX6) (T := TX6) (N := 32) hx hb hts hi_6 tyX6 tyX6_ok nmX6 hown hK hP hD hS 0 rfl rfl 21 (by decide) hfl_160 (fun _ h9 => h9) rfl (by decide +kernel) rfl rfl (Nat.le_of_ble_eq_true rfl) dX6_command_46 (fun H locs hP hD hS => ?_)
        have hP : va_P G vwCl ((fk_mW q k) (upd (upd z.1 12 16) 21 0, z.2)) H := hP
        have hD : va_D A ((fk_mW q k) (upd (upd z.1 12 16) 21 0, z.2)) := hD
        refine lv_aload_n hx hb dX6_command_49 rfl (lv_at hl 0 rfl) ?_
        refine lv_iconst (v := 0) hx hb dX6_command_50 (by decide) ?_
        refine va_put (D := G) (ci := 6) (v := .int 0) (ty := .int) (C := RX6) (T := TX6) (N := 32) hx hb hts hi_6 tyX6 tyX6_ok nmX6 hown hK hP hD hS 0 rfl rfl 20 (by decide) hfl_80 (fun _ h9 => h9) rfl (by decide +kernel) rfl rfl (Nat.le_of_ble_eq_true rfl) dX6_command_51 (fun H locs hP hD hS => ?_)
        have hP : va_P G vwCl ((fk_mW q k) (upd (upd (upd z.1 12 16) 21 0) 20 0, z.2)) H := hP
        have hD : va_D A ((fk_mW q k) (upd (upd (upd z.1 12 16) 21 0) 20 0, z.2)) := hD
        refine lv_iload_n hx hb dX6_command_54 rfl (lv_at hl 1 rfl) ?_
        refine lv_if_ne (tgt := 70) hx hb dX6_command_55 (by decide) (fun c55 => ?_) (fun c55 => ?_)
        · exact h70 (upd (upd (upd z.1 12 16) 21 0) 20 0, z.2) a1 _ _ ls (by rw [hf, fX6_command_c6, if_neg c55] <;> rfl) hP hD hS (lv_sub hl [0, 1] rfl)
        · refine lv_aload_n hx hb dX6_command_58 rfl (lv_at hl 0 rfl) ?_
          refine lv_sipush (v := 255) hx hb dX6_command_59 (by decide) ?_
          refine va_put (D := G) (ci := 6) (v := .int 255) (ty := .int) (C := RX6) (T := TX6) (N := 32) hx hb hts hi_6 tyX6 tyX6_ok nmX6 hown hK hP hD hS 0 rfl rfl 13 (by decide) hfl_77 (fun _ h9 => h9) rfl (by decide +kernel) rfl rfl (Nat.le_of_ble_eq_true rfl) dX6_command_62 (fun H locs hP hD hS => ?_)
          have hP : va_P G vwCl ((fk_mW q k) (upd (upd (upd (upd z.1 12 16) 21 0) 20 0) 13 255, z.2)) H := hP
          have hD : va_D A ((fk_mW q k) (upd (upd (upd (upd z.1 12 16) 21 0) 20 0) 13 255, z.2)) := hD
          refine lv_aload_n hx hb dX6_command_65 rfl (lv_at hl 0 rfl) ?_
          refine lv_iconst (v := 0) hx hb dX6_command_66 (by decide) ?_
          refine va_put (D := G) (ci := 6) (v := .int 0) (ty := .int) (C := RX6) (T := TX6) (N := 32) hx hb hts hi_6 tyX6 tyX6_ok nmX6 hown hK hP hD hS 0 rfl rfl 15 (by decide) hfl_61 (fun _ h9 => h9) rfl (by decide +kernel) rfl rfl (Nat.le_of_ble_eq_true rfl) dX6_command_67 (fun H locs hP hD hS => ?_)
          have hP : va_P G vwCl ((fk_mW q k) (upd (upd (upd (upd (upd z.1 12 16) 21 0) 20 0) 13 255) 15 0, z.2)) H := hP
          have hD : va_D A ((fk_mW q k) (upd (upd (upd (upd (upd z.1 12 16) 21 0) 20 0) 13 255) 15 0, z.2)) := hD
          exact h70 (upd (upd (upd (upd (upd z.1 12 16) 21 0) 20 0) 13 255) 15 0, z.2) a1 _ _ ls (by rw [hf, fX6_command_c6, if_pos c55] <;> rfl) hP hD hS (lv_sub hl [0, 1] rfl)
      · refine lv_iconst (v := 0) hx hb dX6_command_17 (by decide) ?_
        exact fk_iret hx hb hr hlk hK hP hD hS rfl (Eq.symm (by rw [fX6_command, if_neg c1, if_neg c6, if_neg c14] <;> rfl)) dX6_command_18
-- FloppyDeskModel.force()Z
set_option maxHeartbeats 4000000 in
set_option maxRecDepth 100000 in
theorem c_X6_force (l : Launch) (G : va_G) (q : Nat → Nat) (k : Nat → ClassId) (sz : Nat) (z0 : fk_M) : fk_Mi l yX6_force wsX6_force ({ frames := 2, cells := 0, slots := 0, locals := 41 } : Room) G (fk_mW q k) (fk_mT k) [.ref (q 0)] sz z0 (fX6_force z0) := by
  refine fk_head (cc := cX6_force) (maxL := 1) (ret := (some .boolean)) (QQ := fun A => va_Qi (fun r z1 => (r, z1) = fX6_force z0) (fk_At G (fk_mW q k) (fk_mT k) A) A) (by decide) rfl (Nat.le_of_ble_eq_true rfl) ?_ sz
  intro p e s m below meth c A ls hx hb hr hlk hml hown hts hK hN hA hP hD hS hl
  have hown : s.vm.findClass RX6 = some m.cls := hown
  have F9 : CallFix p m c cX6_force 1 s ([.ref (q 0)] : List Value).toArray wsX6_force RX6 := ⟨hx, hb, hml, hown, hts⟩
  have hl : lv_has ls 1 [(0, .ref (q 0))] := hl
  refine lv_aload_n hx hb dX6_force_0 rfl (lv_at hl 0 rfl) ?_
  refine lv_iconst (v := 1) hx hb dX6_force_1 (by decide) ?_
  refine fk_Vp (Wd := (fk_mW q k)) (z := z0) (As := [.int 1]) (rest := []) F9 (c_X6_has l G q k _ z0 1) (cwV 1 hts gX6_force_X6_has rfl rfl rfl (by decide +kernel) ⟨Nat.le_of_ble_eq_true rfl, Nat.le_of_ble_eq_true rfl⟩) (va_recv hK hP (ci := 6) (q0 := 0) rfl rfl) hK hP hD hS hA hN rfl hl.1 rfl (Nat.le_of_ble_eq_true rfl) dX6_force_2 ⟨Nat.zero_le _, Nat.zero_le _⟩ (fun H locs hP hD hS => ?_)
  refine lv_if_ne (tgt := 10) hx hb dX6_force_5 (by decide) (fun c5 => ?_) (fun c5 => ?_)
  · refine lv_aload_n hx hb dX6_force_10 rfl (lv_at hl 0 rfl) ?_
    have hl := lv_sub hl [] (l' := []) rfl
    refine fk_Vv (Wd := (fk_mW q k)) (z := z0) (As := []) (rest := []) F9 (c_X6_end l G q k _ z0) (cwV 0 hts gX6_force_X6_end rfl rfl rfl (by decide +kernel) ⟨Nat.le_of_ble_eq_true rfl, Nat.le_of_ble_eq_true rfl⟩) (va_recv hK hP (ci := 6) (q0 := 0) rfl rfl) hK hP hD hS hA hN rfl hl.1 rfl (Nat.le_of_ble_eq_true rfl) dX6_force_11 ⟨Nat.zero_le _, Nat.zero_le _⟩ (fun z H locs hw hP hD hS => ?_)
    have hf : fX6_force z0 = fX6_force_c1 z := by rw [fX6_force, if_neg c5, ← hw] <;> rfl
    refine lv_iconst (v := 1) hx hb dX6_force_14 (by decide) ?_
    exact fk_iret hx hb hr hlk hK hP hD hS rfl (Eq.symm (by rw [hf, fX6_force_c1] <;> rfl)) dX6_force_15
  · refine lv_iconst (v := 0) hx hb dX6_force_8 (by decide) ?_
    exact fk_iret hx hb hr hlk hK hP hD hS rfl (Eq.symm (by rw [fX6_force, if_pos c5] <;> rfl)) dX6_force_9
-- FloppyDeskModel.set(II)Z
set_option maxHeartbeats 4000000 in
set_option maxRecDepth 100000 in
theorem c_X6_set (l : Launch) (G : va_G) (q : Nat → Nat) (k : Nat → ClassId) (sz : Nat) (z0 : fk_M) (a1 : Int32) (a2 : Int32) : fk_Mi l yX6_set wsX6_set ({ frames := 1, cells := 0, slots := 0, locals := 21 } : Room) G (fk_mW q k) (fk_mT k) [.ref (q 0), .int a1, .int a2] sz z0 (fX6_set z0 a1 a2) := by
  refine fk_head (cc := cX6_set) (maxL := 3) (ret := (some .boolean)) (QQ := fun A => va_Qi (fun r z1 => (r, z1) = fX6_set z0 a1 a2) (fk_At G (fk_mW q k) (fk_mT k) A) A) (by decide) rfl (Nat.le_of_ble_eq_true rfl) ?_ sz
  intro p e s m below meth c A ls hx hb hr hlk hml hown hts hK hN hA hP hD hS hl
  have hown : s.vm.findClass RX6 = some m.cls := hown
  have F9 : CallFix p m c cX6_set 3 s ([.ref (q 0), .int a1, .int a2] : List Value).toArray wsX6_set RX6 := ⟨hx, hb, hml, hown, hts⟩
  have hl : lv_has ls 3 [(0, .ref (q 0)), (1, .int a1), (2, .int a2)] := hl
  have hfl_71 := hts (.fieldLink RX6 71 "FloppyDeskModel" "sector" "I") (by decide +kernel)
  have hfl_77 := hts (.fieldLink RX6 77 "FloppyDeskModel" "track" "I") (by decide +kernel)
  have hi_6 : ∀ w ∈ u_ws RX6 TX6 32, w ∈ wsX6_set := by decide +kernel
  have h43 : ∀ (z : fk_M) (x1 : Int32) (x2 : Int32) (s1 : Int32) (H : Heap) (locs : List Loc) (ls : Array Slot), fX6_set z0 a1 a2 = fX6_set_43 z x1 x2 s1 → va_P G vwCl ((fk_mW q k) z) H → va_D A ((fk_mW q k) z) → va_S A s.heap H locs → lv_has ls 3 [(0, .ref (q 0)), (1, .int x1), (2, .int x2)] → W p l e ({ frames := 1, cells := 0, slots := 0, locals := 21 } : Room) s m ([.ref (q 0), .int a1, .int a2] : List Value).toArray below meth c H locs 0 0 (MQ below (va_Qi (fun r z1 => (r, z1) = fX6_set z0 a1 a2) (fk_At G (fk_mW q k) (fk_mT k) A) A) ([.ref (q 0), .int a1, .int a2] : List Value).toArray s 0 0 A) (F0 m 43 ls [.int s1, .ref (q 0)]) := by
    intro z x1 x2 s1 H locs ls hf  hP hD hS hl
    refine va_put (D := G) (ci := 6) (v := .int s1) (ty := .int) (C := RX6) (T := TX6) (N := 32) hx hb hts hi_6 tyX6 tyX6_ok nmX6 hown hK hP hD hS 0 rfl rfl 13 (by decide) hfl_77 (fun _ h9 => h9) rfl (by decide +kernel) rfl rfl (Nat.le_of_ble_eq_true rfl) dX6_set_43 (fun H locs hP hD hS => ?_)
    have hP : va_P G vwCl ((fk_mW q k) (upd z.1 13 s1, z.2)) H := hP
    have hD : va_D A ((fk_mW q k) (upd z.1 13 s1, z.2)) := hD
    refine lv_aload_n hx hb dX6_set_46 rfl (lv_at hl 0 rfl) ?_
    refine lv_iload_n hx hb dX6_set_47 rfl (lv_at hl 1 rfl) ?_
    refine lv_iconst (v := 1) hx hb dX6_set_48 (by decide) ?_
    refine lv_icmp_ne (tgt := 56) hx hb dX6_set_49 (by decide) (fun c49 => ?_) (fun c49 => ?_)
    · refine lv_aload_n hx hb dX6_set_56 rfl (lv_at hl 0 rfl) ?_
      refine va_get (D := G) (ci := 6) (v := .int (z.1 14)) (C := RX6) (T := TX6) (N := 32) hx hb hts hi_6 hown hK hP 0 rfl rfl 14 (by decide) hfl_71 (fun _ h9 => h9) rfl dX6_set_57 ?_
      refine va_put (D := G) (ci := 6) (v := .int (z.1 14)) (ty := .int) (C := RX6) (T := TX6) (N := 32) hx hb hts hi_6 tyX6 tyX6_ok nmX6 hown hK hP hD hS 0 rfl rfl 14 (by decide) hfl_71 (fun _ h9 => h9) rfl (by decide +kernel) rfl rfl (Nat.le_of_ble_eq_true rfl) dX6_set_60 (fun H locs hP hD hS => ?_)
      have hP : va_P G vwCl ((fk_mW q k) (upd (upd z.1 13 s1) 14 (z.1 14), z.2)) H := hP
      have hD : va_D A ((fk_mW q k) (upd (upd z.1 13 s1) 14 (z.1 14), z.2)) := hD
      refine lv_iconst (v := 1) hx hb dX6_set_63 (by decide) ?_
      exact fk_iret hx hb hr hlk hK hP hD hS rfl (Eq.symm (by rw [hf, fX6_set_43, if_neg c49] <;> rfl)) dX6_set_64
    · refine lv_iload_n hx hb dX6_set_52 rfl (lv_at hl 2 rfl) ?_
      refine lv_goto (tgt := 60) hx hb dX6_set_53 (by decide) ?_
      refine va_put (D := G) (ci := 6) (v := .int x2) (ty := .int) (C := RX6) (T := TX6) (N := 32) hx hb hts hi_6 tyX6 tyX6_ok nmX6 hown hK hP hD hS 0 rfl rfl 14 (by decide) hfl_71 (fun _ h9 => h9) rfl (by decide +kernel) rfl rfl (Nat.le_of_ble_eq_true rfl) dX6_set_60 (fun H locs hP hD hS => ?_)
      have hP : va_P G vwCl ((fk_mW q k) (upd (upd z.1 13 s1) 14 x2, z.2)) H := hP
      have hD : va_D A ((fk_mW q k) (upd (upd z.1 13 s1) 14 x2, z.2)) := hD
      refine lv_iconst (v := 1) hx hb dX6_set_63 (by decide) ?_
      exact fk_iret hx hb hr hlk hK hP hD hS rfl (Eq.symm (by rw [hf, fX6_set_43, if_pos c49] <;> rfl)) dX6_set_64
  refine lv_iload_n hx hb dX6_set_0 rfl (lv_at hl 1 rfl) ?_
  refine lv_if_lt (tgt := 28) hx hb dX6_set_1 (by decide) (fun c1 => ?_) (fun c1 => ?_)
  · refine lv_iconst (v := 0) hx hb dX6_set_28 (by decide) ?_
    exact fk_iret hx hb hr hlk hK hP hD hS rfl (Eq.symm (by rw [fX6_set, if_pos c1] <;> rfl)) dX6_set_29
  · refine lv_iload_n hx hb dX6_set_4 rfl (lv_at hl 1 rfl) ?_
    refine lv_iconst (v := 1) hx hb dX6_set_5 (by decide) ?_
    refine lv_icmp_gt (tgt := 28) hx hb dX6_set_6 (by decide) (fun c6 => ?_) (fun c6 => ?_)
    · refine lv_iconst (v := 0) hx hb dX6_set_28 (by decide) ?_
      exact fk_iret hx hb hr hlk hK hP hD hS rfl (Eq.symm (by rw [fX6_set, if_neg c1, if_pos c6] <;> rfl)) dX6_set_29
    · refine lv_iload_n hx hb dX6_set_9 rfl (lv_at hl 2 rfl) ?_
      refine lv_if_lt (tgt := 28) hx hb dX6_set_10 (by decide) (fun c10 => ?_) (fun c10 => ?_)
      · refine lv_iconst (v := 0) hx hb dX6_set_28 (by decide) ?_
        exact fk_iret hx hb hr hlk hK hP hD hS rfl (Eq.symm (by rw [fX6_set, if_neg c1, if_neg c6, if_pos c10] <;> rfl)) dX6_set_29
      · refine lv_iload_n hx hb dX6_set_13 rfl (lv_at hl 2 rfl) ?_
        refine lv_sipush (v := 255) hx hb dX6_set_14 (by decide) ?_
        refine lv_icmp_gt (tgt := 28) hx hb dX6_set_17 (by decide) (fun c17 => ?_) (fun c17 => ?_)
        · refine lv_iconst (v := 0) hx hb dX6_set_28 (by decide) ?_
          exact fk_iret hx hb hr hlk hK hP hD hS rfl (Eq.symm (by rw [fX6_set, if_neg c1, if_neg c6, if_neg c10, if_pos c17] <;> rfl)) dX6_set_29
        · refine lv_aload_n hx hb dX6_set_20 rfl (lv_at hl 0 rfl) ?_
          refine lv_iconst (v := 1) hx hb dX6_set_21 (by decide) ?_
          refine fk_Vp (Wd := (fk_mW q k)) (z := z0) (As := [.int 1]) (rest := []) F9 (c_X6_has l G q k _ z0 1) (cwV 1 hts gX6_set_X6_has rfl rfl rfl (by decide +kernel) ⟨Nat.le_of_ble_eq_true rfl, Nat.le_of_ble_eq_true rfl⟩) (va_recv hK hP (ci := 6) (q0 := 0) rfl rfl) hK hP hD hS hA hN rfl hl.1 rfl (Nat.le_of_ble_eq_true rfl) dX6_set_22 ⟨Nat.zero_le _, Nat.zero_le _⟩ (fun H locs hP hD hS => ?_)
          refine lv_if_eq (tgt := 30) hx hb dX6_set_25 (by decide) (fun c25 => ?_) (fun c25 => ?_)
          · refine lv_aload_n hx hb dX6_set_30 rfl (lv_at hl 0 rfl) ?_
            refine lv_iload_n hx hb dX6_set_31 rfl (lv_at hl 1 rfl) ?_
            refine lv_if_ne (tgt := 39) hx hb dX6_set_32 (by decide) (fun c32 => ?_) (fun c32 => ?_)
            · refine lv_aload_n hx hb dX6_set_39 rfl (lv_at hl 0 rfl) ?_
              refine va_get (D := G) (ci := 6) (v := .int (z0.1 13)) (C := RX6) (T := TX6) (N := 32) hx hb hts hi_6 hown hK hP 0 rfl rfl 13 (by decide) hfl_77 (fun _ h9 => h9) rfl dX6_set_40 ?_
              exact h43 z0 a1 a2 (z0.1 13) _ _ ls (by rw [fX6_set, if_neg c1, if_neg c6, if_neg c10, if_neg c17, if_pos c25, if_neg c32] <;> rfl) hP hD hS (lv_sub hl [0, 1, 2] rfl)
            · refine lv_iload_n hx hb dX6_set_35 rfl (lv_at hl 2 rfl) ?_
              refine lv_goto (tgt := 43) hx hb dX6_set_36 (by decide) ?_
              exact h43 z0 a1 a2 a2 _ _ ls (by rw [fX6_set, if_neg c1, if_neg c6, if_neg c10, if_neg c17, if_pos c25, if_pos c32] <;> rfl) hP hD hS (lv_sub hl [0, 1, 2] rfl)
          · refine lv_iconst (v := 0) hx hb dX6_set_28 (by decide) ?_
            exact fk_iret hx hb hr hlk hK hP hD hS rfl (Eq.symm (by rw [fX6_set, if_neg c1, if_neg c6, if_neg c10, if_neg c17, if_neg c25] <;> rfl)) dX6_set_29
-- FloppyDeskModel.give(I)Z
set_option maxHeartbeats 4000000 in
set_option maxRecDepth 100000 in
theorem c_X6_give (l : Launch) (G : va_G) (q : Nat → Nat) (k : Nat → ClassId) (sz : Nat) (z0 : fk_M) (a1 : Int32) : fk_Mi l yX6_give wsX6_give ({ frames := 1, cells := 0, slots := 0, locals := 21 } : Room) G (fk_mW q k) (fk_mT k) [.ref (q 0), .int a1] sz z0 (fX6_give z0 a1) := by
  refine fk_head (cc := cX6_give) (maxL := 2) (ret := (some .boolean)) (QQ := fun A => va_Qi (fun r z1 => (r, z1) = fX6_give z0 a1) (fk_At G (fk_mW q k) (fk_mT k) A) A) (by decide) rfl (Nat.le_of_ble_eq_true rfl) ?_ sz
  intro p e s m below meth c A ls hx hb hr hlk hml hown hts hK hN hA hP hD hS hl
  have hown : s.vm.findClass RX6 = some m.cls := hown
  have F9 : CallFix p m c cX6_give 2 s ([.ref (q 0), .int a1] : List Value).toArray wsX6_give RX6 := ⟨hx, hb, hml, hown, hts⟩
  have hl : lv_has ls 2 [(0, .ref (q 0)), (1, .int a1)] := hl
  have hfl_61 := hts (.fieldLink RX6 61 "FloppyDeskModel" "data" "I") (by decide +kernel)
  have hi_6 : ∀ w ∈ u_ws RX6 TX6 32, w ∈ wsX6_give := by decide +kernel
  refine lv_iload_n hx hb dX6_give_0 rfl (lv_at hl 1 rfl) ?_
  refine lv_if_lt (tgt := 11) hx hb dX6_give_1 (by decide) (fun c1 => ?_) (fun c1 => ?_)
  · refine lv_iconst (v := 0) hx hb dX6_give_11 (by decide) ?_
    exact fk_iret hx hb hr hlk hK hP hD hS rfl (Eq.symm (by rw [fX6_give, if_pos c1] <;> rfl)) dX6_give_12
  · refine lv_iload_n hx hb dX6_give_4 rfl (lv_at hl 1 rfl) ?_
    refine lv_sipush (v := 255) hx hb dX6_give_5 (by decide) ?_
    refine lv_icmp_le (tgt := 13) hx hb dX6_give_8 (by decide) (fun c8 => ?_) (fun c8 => ?_)
    · refine lv_aload_n hx hb dX6_give_13 rfl (lv_at hl 0 rfl) ?_
      refine lv_iload_n hx hb dX6_give_14 rfl (lv_at hl 1 rfl) ?_
      refine va_put (D := G) (ci := 6) (v := .int a1) (ty := .int) (C := RX6) (T := TX6) (N := 32) hx hb hts hi_6 tyX6 tyX6_ok nmX6 hown hK hP hD hS 0 rfl rfl 15 (by decide) hfl_61 (fun _ h9 => h9) rfl (by decide +kernel) rfl rfl (Nat.le_of_ble_eq_true rfl) dX6_give_15 (fun H locs hP hD hS => ?_)
      have hP : va_P G vwCl ((fk_mW q k) (upd z0.1 15 a1, z0.2)) H := hP
      have hD : va_D A ((fk_mW q k) (upd z0.1 15 a1, z0.2)) := hD
      refine lv_aload_n hx hb dX6_give_18 rfl (lv_at hl 0 rfl) ?_
      refine lv_iconst (v := 2) hx hb dX6_give_19 (by decide) ?_
      have hl := lv_sub hl [] (l' := []) rfl
      refine fk_Vv (Wd := (fk_mW q k)) (z := (upd z0.1 15 a1, z0.2)) (As := [.int 2]) (rest := []) F9 (c_X6_drop l G q k _ (upd z0.1 15 a1, z0.2) 2) (cwV 1 hts gX6_give_X6_drop rfl rfl rfl (by decide +kernel) ⟨Nat.le_of_ble_eq_true rfl, Nat.le_of_ble_eq_true rfl⟩) (va_recv hK hP (ci := 6) (q0 := 0) rfl rfl) hK hP hD hS hA hN rfl hl.1 rfl (Nat.le_of_ble_eq_true rfl) dX6_give_20 ⟨Nat.zero_le _, Nat.zero_le _⟩ (fun z H locs hw hP hD hS => ?_)
      have hf : fX6_give z0 a1 = fX6_give_c1 z := by rw [fX6_give, if_neg c1, if_pos c8, ← hw] <;> rfl
      refine lv_iconst (v := 1) hx hb dX6_give_23 (by decide) ?_
      exact fk_iret hx hb hr hlk hK hP hD hS rfl (Eq.symm (by rw [hf, fX6_give_c1] <;> rfl)) dX6_give_24
    · refine lv_iconst (v := 0) hx hb dX6_give_11 (by decide) ?_
      exact fk_iret hx hb hr hlk hK hP hD hS rfl (Eq.symm (by rw [fX6_give, if_neg c1, if_neg c8] <;> rfl)) dX6_give_12
-- FloppyDeskModel.take()I
set_option maxHeartbeats 4000000 in
set_option maxRecDepth 100000 in
theorem c_X6_take (l : Launch) (G : va_G) (q : Nat → Nat) (k : Nat → ClassId) (sz : Nat) (z0 : fk_M) : fk_Mi l yX6_take wsX6_take ({ frames := 1, cells := 0, slots := 0, locals := 21 } : Room) G (fk_mW q k) (fk_mT k) [.ref (q 0)] sz z0 (fX6_take z0) := by
  refine fk_head (cc := cX6_take) (maxL := 1) (ret := (some .int)) (QQ := fun A => va_Qi (fun r z1 => (r, z1) = fX6_take z0) (fk_At G (fk_mW q k) (fk_mT k) A) A) (by decide) rfl (Nat.le_of_ble_eq_true rfl) ?_ sz
  intro p e s m below meth c A ls hx hb hr hlk hml hown hts hK hN hA hP hD hS hl
  have hown : s.vm.findClass RX6 = some m.cls := hown
  have F9 : CallFix p m c cX6_take 1 s ([.ref (q 0)] : List Value).toArray wsX6_take RX6 := ⟨hx, hb, hml, hown, hts⟩
  have hl : lv_has ls 1 [(0, .ref (q 0))] := hl
  have hfl_61 := hts (.fieldLink RX6 61 "FloppyDeskModel" "data" "I") (by decide +kernel)
  have hi_6 : ∀ w ∈ u_ws RX6 TX6 32, w ∈ wsX6_take := by decide +kernel
  refine lv_aload_n hx hb dX6_take_0 rfl (lv_at hl 0 rfl) ?_
  refine lv_iconst (v := 2) hx hb dX6_take_1 (by decide) ?_
  refine fk_Vv (Wd := (fk_mW q k)) (z := z0) (As := [.int 2]) (rest := []) F9 (c_X6_drop l G q k _ z0 2) (cwV 1 hts gX6_take_X6_drop rfl rfl rfl (by decide +kernel) ⟨Nat.le_of_ble_eq_true rfl, Nat.le_of_ble_eq_true rfl⟩) (va_recv hK hP (ci := 6) (q0 := 0) rfl rfl) hK hP hD hS hA hN rfl hl.1 rfl (Nat.le_of_ble_eq_true rfl) dX6_take_2 ⟨Nat.zero_le _, Nat.zero_le _⟩ (fun z H locs hw hP hD hS => ?_)
  have hf : fX6_take z0 = fX6_take_c1 z := by rw [fX6_take, ← hw] <;> rfl
  refine lv_aload_n hx hb dX6_take_5 rfl (lv_at hl 0 rfl) ?_
  refine va_get (D := G) (ci := 6) (v := .int (z.1 15)) (C := RX6) (T := TX6) (N := 32) hx hb hts hi_6 hown hK hP 0 rfl rfl 15 (by decide) hfl_61 (fun _ h9 => h9) rfl dX6_take_6 ?_
  exact fk_iret hx hb hr hlk hK hP hD hS rfl (Eq.symm (by rw [hf, fX6_take_c1] <;> rfl)) dX6_take_9
-- FloppyDeskModel.run(I)I
set_option maxHeartbeats 4000000 in
set_option maxRecDepth 100000 in
theorem c_X6_run (l : Launch) (G : va_G) (q : Nat → Nat) (k : Nat → ClassId) (sz : Nat) (z0 : fk_M) (a1 : Int32) (hI : mI z0) : fk_Mi l yX6_run wsX6_run ({ frames := 6, cells := 0, slots := 0, locals := 131 } : Room) G (fk_mW q k) (fk_mT k) [.ref (q 0), .int a1] sz z0 (fX6_run z0 a1) := by
  refine fk_head (cc := cX6_run) (maxL := 4) (ret := (some .int)) (QQ := fun A => va_Qi (fun r z1 => (r, z1) = fX6_run z0 a1) (fk_At G (fk_mW q k) (fk_mT k) A) A) (by decide) rfl (Nat.le_of_ble_eq_true rfl) ?_ sz
  intro p e s m below meth c A ls hx hb hr hlk hml hown hts hK hN hA hP hD hS hl
  have hown : s.vm.findClass RX6 = some m.cls := hown
  have F9 : CallFix p m c cX6_run 4 s ([.ref (q 0), .int a1] : List Value).toArray wsX6_run RX6 := ⟨hx, hb, hml, hown, hts⟩
  have hl : lv_has ls 4 [(0, .ref (q 0)), (1, .int a1)] := hl
  have h17 : ∀ (n : Nat) (N : Nat) (j : Nat) (z : fk_M) (x1 : Int32) (x2 : Int32) (x3 : Int32) (H : Heap) (locs : List Loc) (ls : Array Slot), fX6_run z0 a1 = fX6_run_17 n z x1 x2 x3 → (x3 = nI j) → (j ≤ N) → (N + 1 ≤ j + n) → (x1 = nI N) → (N ≤ 200) → (mI z) → va_P G vwCl ((fk_mW q k) z) H → va_D A ((fk_mW q k) z) → va_S A s.heap H locs → lv_has ls 4 [(0, .ref (q 0)), (1, .int x1), (2, .int x2), (3, .int x3)] → W p l e ({ frames := 6, cells := 0, slots := 0, locals := 131 } : Room) s m ([.ref (q 0), .int a1] : List Value).toArray below meth c H locs 0 0 (MQ below (va_Qi (fun r z1 => (r, z1) = fX6_run z0 a1) (fk_At G (fk_mW q k) (fk_mT k) A) A) ([.ref (q 0), .int a1] : List Value).toArray s 0 0 A) (F0 m 17 ls []) := by
    intro n N
    induction n with
    | zero =>
      intro j z x1 x2 x3 H locs ls hf hj hjN hfu hxN hNle hI hP hD hS hl
      exact absurd hfu (by omega)
    | succ n ih =>
      intro j z x1 x2 x3 H locs ls hf hj hjN hfu hxN hNle hI hP hD hS hl
      refine lv_iload_n hx hb dX6_run_17 rfl (lv_at hl 3 rfl) ?_
      refine lv_iload_n hx hb dX6_run_18 rfl (lv_at hl 1 rfl) ?_
      refine lv_icmp_ge (tgt := 35) hx hb dX6_run_19 (by decide) (fun c19 => ?_) (fun c19 => ?_)
      · refine lv_iload_n hx hb dX6_run_35 rfl (lv_at hl 2 rfl) ?_
        exact fk_iret hx hb hr hlk hK hP hD hS rfl (Eq.symm (by rw [hf, fX6_run_17, if_pos c19] <;> rfl)) dX6_run_36
      · have hlt : j < N := fk_up hj hxN (by omega) c19
        refine lv_iload_n hx hb dX6_run_22 rfl (lv_at hl 2 rfl) ?_
        refine lv_aload_n hx hb dX6_run_23 rfl (lv_at hl 0 rfl) ?_
        have hl := lv_sub hl [0, 1, 3] (l' := [(0, .ref (q 0)), (1, .int x1), (3, .int x3)]) rfl
        refine fk_Vi (Wd := (fk_mW q k)) (z := z) (As := []) (rest := [.int x2]) F9 (c_X6_pass l G q k _ z hI) (cwV 0 hts gX6_run_X6_pass rfl rfl rfl (by decide +kernel) ⟨Nat.le_of_ble_eq_true rfl, Nat.le_of_ble_eq_true rfl⟩) (va_recv hK hP (ci := 6) (q0 := 0) rfl rfl) hK hP hD hS hA hN rfl hl.1 rfl (Nat.le_of_ble_eq_true rfl) dX6_run_24 ⟨Nat.zero_le _, Nat.zero_le _⟩ (fun r24 z H locs hw hP hD hS => ?_)
        have hf : fX6_run z0 a1 = fX6_run_c1 (fX6_run_17 n) z r24 x1 x3 x2 := by rw [hf, fX6_run_17, if_neg c19, ← hw] <;> rfl
        have hI := mI_pass' hw hI
        refine lv_iadd hx hb dX6_run_27 ?_
        refine lv_istore_n (lv' := [(2, .int (x2 + r24)), (0, .ref (q 0)), (1, .int x1), (3, .int x3)]) hx hb dX6_run_28 rfl hl (by decide) rfl (fun ls hl => ?_)
        refine lv_iinc (v := x3 + 1) (lv' := [(3, .int (x3 + 1)), (2, .int (x2 + r24)), (0, .ref (q 0)), (1, .int x1)]) hx hb dX6_run_29 hl (k := 3) rfl (by rfl) (by decide) rfl (fun ls hl => ?_)
        refine lv_goto (tgt := 17) hx hb dX6_run_32 (by decide) ?_
        exact ih (j + 1) z x1 (x2 + r24) (x3 + 1) _ _ ls (by rw [hf, fX6_run_c1] <;> rfl) (fk_up1 hj) (by omega) (by omega) hxN hNle hI hP hD hS (lv_sub hl [2, 3, 1, 0] rfl)
  refine lv_iload_n hx hb dX6_run_0 rfl (lv_at hl 1 rfl) ?_
  refine lv_if_lt (tgt := 11) hx hb dX6_run_1 (by decide) (fun c1 => ?_) (fun c1 => ?_)
  · refine lv_iconst (v := (-1)) hx hb dX6_run_11 (by decide) ?_
    exact fk_iret hx hb hr hlk hK hP hD hS rfl (Eq.symm (by rw [fX6_run, if_pos c1] <;> rfl)) dX6_run_12
  · refine lv_iload_n hx hb dX6_run_4 rfl (lv_at hl 1 rfl) ?_
    refine lv_sipush (v := 200) hx hb dX6_run_5 (by decide) ?_
    refine lv_icmp_le (tgt := 13) hx hb dX6_run_8 (by decide) (fun c8 => ?_) (fun c8 => ?_)
    · refine lv_iconst (v := 0) hx hb dX6_run_13 (by decide) ?_
      refine lv_istore_n (lv' := [(2, .int 0), (0, .ref (q 0)), (1, .int a1)]) hx hb dX6_run_14 rfl hl (by decide) rfl (fun ls hl => ?_)
      refine lv_iconst (v := 0) hx hb dX6_run_15 (by decide) ?_
      refine lv_istore_n (lv' := [(3, .int 0), (2, .int 0), (0, .ref (q 0)), (1, .int a1)]) hx hb dX6_run_16 rfl hl (by decide) rfl (fun ls hl => ?_)
      obtain ⟨N, hN1, hN2⟩ := nI_of2 (x := a1) (M := 200) (n := 200) (by decide) c1 c8
      exact h17 201 N 0 z0 a1 0 0 _ _ ls (by rw [fX6_run, if_neg c1, if_pos c8] <;> rfl) (by decide) (by omega) (by omega) hN2 hN1 hI hP hD hS (lv_sub hl [2, 3, 1, 0] rfl)
    · refine lv_iconst (v := (-1)) hx hb dX6_run_11 (by decide) ?_
      exact fk_iret hx hb hr hlk hK hP hD hS rfl (Eq.symm (by rw [fX6_run, if_neg c1, if_neg c8] <;> rfl)) dX6_run_12
-- FloppyDeskModel.serve(I)I
set_option maxHeartbeats 4000000 in
set_option maxRecDepth 100000 in
theorem c_X6_serve (l : Launch) (G : va_G) (q : Nat → Nat) (k : Nat → ClassId) (sz : Nat) (z0 : fk_M) (a1 : Int32) (hI : mI z0) : fk_Mi l yX6_serve wsX6_serve ({ frames := 6, cells := 0, slots := 0, locals := 131 } : Room) G (fk_mW q k) (fk_mT k) [.ref (q 0), .int a1] sz z0 (fX6_serve z0 a1) := by
  refine fk_head (cc := cX6_serve) (maxL := 8) (ret := (some .int)) (QQ := fun A => va_Qi (fun r z1 => (r, z1) = fX6_serve z0 a1) (fk_At G (fk_mW q k) (fk_mT k) A) A) (by decide) rfl (Nat.le_of_ble_eq_true rfl) ?_ sz
  intro p e s m below meth c A ls hx hb hr hlk hml hown hts hK hN hA hP hD hS hl
  have hown : s.vm.findClass RX6 = some m.cls := hown
  have F9 : CallFix p m c cX6_serve 8 s ([.ref (q 0), .int a1] : List Value).toArray wsX6_serve RX6 := ⟨hx, hb, hml, hown, hts⟩
  have hl : lv_has ls 8 [(0, .ref (q 0)), (1, .int a1)] := hl
  have hfl_21 := hts (.fieldLink RX6 21 "FloppyDeskModel" "latest" "I") (by decide +kernel)
  have hfl_24 := hts (.fieldLink RX6 24 "FloppyDeskModel" "buffer" "[I") (by decide +kernel)
  have hfl_190 := hts (.fieldLink RX6 190 "FloppyDeskModel" "buffered" "I") (by decide +kernel)
  have hfl_193 := hts (.fieldLink RX6 193 "FloppyDeskModel" "next" "I") (by decide +kernel)
  have hi_6 : ∀ w ∈ u_ws RX6 TX6 32, w ∈ wsX6_serve := by decide +kernel
  have h17 : ∀ (n : Nat) (N : Nat) (j : Nat) (z : fk_M) (x1 : Int32) (x2 : Int32) (x3 : Int32) (H : Heap) (locs : List Loc) (ls : Array Slot), fX6_serve z0 a1 = fX6_serve_17 n z x1 x2 x3 → (x3 = nI j) → (j ≤ N) → (N + 1 ≤ j + n) → (x1 = nI N) → (N ≤ 200) → (mI z) → va_P G vwCl ((fk_mW q k) z) H → va_D A ((fk_mW q k) z) → va_S A s.heap H locs → lv_has ls 8 [(0, .ref (q 0)), (1, .int x1), (2, .int x2), (3, .int x3)] → W p l e ({ frames := 6, cells := 0, slots := 0, locals := 131 } : Room) s m ([.ref (q 0), .int a1] : List Value).toArray below meth c H locs 0 0 (MQ below (va_Qi (fun r z1 => (r, z1) = fX6_serve z0 a1) (fk_At G (fk_mW q k) (fk_mT k) A) A) ([.ref (q 0), .int a1] : List Value).toArray s 0 0 A) (F0 m 17 ls []) := by
    intro n N
    induction n with
    | zero =>
      intro j z x1 x2 x3 H locs ls hf hj hjN hfu hxN hNle hI hP hD hS hl
      exact absurd hfu (by omega)
    | succ n ih =>
      intro j z x1 x2 x3 H locs ls hf hj hjN hfu hxN hNle hI hP hD hS hl
      have h198 : ∀ (z : fk_M) (x2 : Int32) (H : Heap) (locs : List Loc) (ls : Array Slot), fX6_serve z0 a1 = fX6_serve_198 (fX6_serve_17 n) z x1 x2 x3 → (j < N) → (mI z) → va_P G vwCl ((fk_mW q k) z) H → va_D A ((fk_mW q k) z) → va_S A s.heap H locs → lv_has ls 8 [(0, .ref (q 0)), (1, .int x1), (2, .int x2), (3, .int x3)] → W p l e ({ frames := 6, cells := 0, slots := 0, locals := 131 } : Room) s m ([.ref (q 0), .int a1] : List Value).toArray below meth c H locs 0 0 (MQ below (va_Qi (fun r z1 => (r, z1) = fX6_serve z0 a1) (fk_At G (fk_mW q k) (fk_mT k) A) A) ([.ref (q 0), .int a1] : List Value).toArray s 0 0 A) (F0 m 198 ls []) := by
        intro z x2 H locs ls hf hlt hI hP hD hS hl
        refine lv_iinc (v := x3 + 1) (lv' := [(3, .int (x3 + 1)), (0, .ref (q 0)), (1, .int x1), (2, .int x2)]) hx hb dX6_serve_198 hl (k := 3) rfl (by rfl) (by decide) rfl (fun ls hl => ?_)
        refine lv_goto (tgt := 17) hx hb dX6_serve_201 (by decide) ?_
        exact ih (j + 1) z x1 x2 (x3 + 1) _ _ ls (by rw [hf, fX6_serve_198] <;> rfl) (fk_up1 hj) (by omega) (by omega) hxN hNle hI hP hD hS (lv_sub hl [1, 2, 3, 0] rfl)
      have h192 : ∀ (z : fk_M) (x2 : Int32) (s1 : Int32) (H : Heap) (locs : List Loc) (ls : Array Slot), fX6_serve z0 a1 = fX6_serve_192 (fX6_serve_17 n) z x1 x2 x3 s1 → (j < N) → (mI (upd z.1 30 s1, z.2)) → va_P G vwCl ((fk_mW q k) z) H → va_D A ((fk_mW q k) z) → va_S A s.heap H locs → lv_has ls 8 [(0, .ref (q 0)), (1, .int x1), (2, .int x2), (3, .int x3)] → W p l e ({ frames := 6, cells := 0, slots := 0, locals := 131 } : Room) s m ([.ref (q 0), .int a1] : List Value).toArray below meth c H locs 0 0 (MQ below (va_Qi (fun r z1 => (r, z1) = fX6_serve z0 a1) (fk_At G (fk_mW q k) (fk_mT k) A) A) ([.ref (q 0), .int a1] : List Value).toArray s 0 0 A) (F0 m 192 ls [.int s1, .ref (q 0)]) := by
        intro z x2 s1 H locs ls hf hlt hI hP hD hS hl
        refine va_put (D := G) (ci := 6) (v := .int s1) (ty := .int) (C := RX6) (T := TX6) (N := 32) hx hb hts hi_6 tyX6 tyX6_ok nmX6 hown hK hP hD hS 0 rfl rfl 30 (by decide) hfl_193 (fun _ h9 => h9) rfl (by decide +kernel) rfl rfl (Nat.le_of_ble_eq_true rfl) dX6_serve_192 (fun H locs hP hD hS => ?_)
        have hP : va_P G vwCl ((fk_mW q k) (upd z.1 30 s1, z.2)) H := hP
        have hD : va_D A ((fk_mW q k) (upd z.1 30 s1, z.2)) := hD
        refine lv_iinc (v := x2 + 1) (lv' := [(2, .int (x2 + 1)), (0, .ref (q 0)), (1, .int x1), (3, .int x3)]) hx hb dX6_serve_195 hl (k := 2) rfl (by rfl) (by decide) rfl (fun ls hl => ?_)
        exact h198 (upd z.1 30 s1, z.2) (x2 + 1) _ _ ls (by rw [hf, fX6_serve_192] <;> rfl) hlt hI hP hD hS (lv_sub hl [1, 2, 0, 3] rfl)
      have h168 : ∀ (z : fk_M) (x2 : Int32) (x6 : Int32) (s1 : Int32) (H : Heap) (locs : List Loc) (ls : Array Slot), fX6_serve z0 a1 = fX6_serve_168 (fX6_serve_17 n) z x1 x2 x3 x6 s1 → (j < N) → (mI z) → (x6 = 0 ∨ z.1 30 < z.1 29) → va_P G vwCl ((fk_mW q k) z) H → va_D A ((fk_mW q k) z) → va_S A s.heap H locs → lv_has ls 8 [(0, .ref (q 0)), (1, .int x1), (2, .int x2), (3, .int x3), (6, .int x6)] → W p l e ({ frames := 6, cells := 0, slots := 0, locals := 131 } : Room) s m ([.ref (q 0), .int a1] : List Value).toArray below meth c H locs 0 0 (MQ below (va_Qi (fun r z1 => (r, z1) = fX6_serve z0 a1) (fk_At G (fk_mW q k) (fk_mT k) A) A) ([.ref (q 0), .int a1] : List Value).toArray s 0 0 A) (F0 m 168 ls [.int s1, .ref (q 0)]) := by
        intro z x2 x6 s1 H locs ls hf hlt hI hth hP hD hS hl
        refine fk_Vi (Wd := (fk_mW q k)) (z := z) (As := [.int s1]) (rest := []) F9 (c_X6_give l G q k _ z s1) (cwV 1 hts gX6_serve_X6_give rfl rfl rfl (by decide +kernel) ⟨Nat.le_of_ble_eq_true rfl, Nat.le_of_ble_eq_true rfl⟩) (va_recv hK hP (ci := 6) (q0 := 0) rfl rfl) hK hP hD hS hA hN rfl hl.1 rfl (Nat.le_of_ble_eq_true rfl) dX6_serve_168 ⟨Nat.zero_le _, Nat.zero_le _⟩ (fun r168 z H locs hw hP hD hS => ?_)
        have hf : fX6_serve z0 a1 = fX6_serve_c1 (fX6_serve_17 n) z r168 x1 x2 x3 x6 := by rw [hf, fX6_serve_168, ← hw] <;> rfl
        have hE := mE_give' hw
        have hI := mI_of hE hI
        have hth : x6 = 0 ∨ z.1 30 < z.1 29 := by rw [hE.2.2.2.2.2.2, hE.2.2.2.2.2.1]; exact hth
        refine lv_istore (lv' := [(7, .int r168), (0, .ref (q 0)), (1, .int x1), (2, .int x2), (3, .int x3), (6, .int x6)]) hx hb dX6_serve_171 hl (by decide) rfl (fun ls hl => ?_)
        refine lv_aload_n hx hb dX6_serve_173 rfl (lv_at hl 1 rfl) ?_
        refine lv_iload hx hb dX6_serve_174 (lv_at hl 5 rfl) ?_
        refine lv_if_eq (tgt := 188) hx hb dX6_serve_176 (by decide) (fun c176 => ?_) (fun c176 => ?_)
        · refine lv_aload_n hx hb dX6_serve_188 rfl (lv_at hl 1 rfl) ?_
          refine va_get (D := G) (ci := 6) (v := .int (z.1 30)) (C := RX6) (T := TX6) (N := 32) hx hb hts hi_6 hown hK hP 0 rfl rfl 30 (by decide) hfl_193 (fun _ h9 => h9) rfl dX6_serve_189 ?_
          exact h192 z x2 (z.1 30) _ _ ls (by rw [hf, fX6_serve_c1, if_pos c176] <;> rfl) hlt (by first | exact mI_nx1 hI (hth.resolve_left c176) | exact mI_nx0 hI) hP hD hS (lv_sub hl [1, 2, 3, 4] rfl)
        · refine lv_aload_n hx hb dX6_serve_179 rfl (lv_at hl 1 rfl) ?_
          refine va_get (D := G) (ci := 6) (v := .int (z.1 30)) (C := RX6) (T := TX6) (N := 32) hx hb hts hi_6 hown hK hP 0 rfl rfl 30 (by decide) hfl_193 (fun _ h9 => h9) rfl dX6_serve_180 ?_
          refine lv_iconst (v := 1) hx hb dX6_serve_183 (by decide) ?_
          refine lv_iadd hx hb dX6_serve_184 ?_
          refine lv_goto (tgt := 192) hx hb dX6_serve_185 (by decide) ?_
          exact h192 z x2 ((z.1 30) + 1) _ _ ls (by rw [hf, fX6_serve_c1, if_neg c176] <;> rfl) hlt (by first | exact mI_nx1 hI (hth.resolve_left c176) | exact mI_nx0 hI) hP hD hS (lv_sub hl [1, 2, 3, 4] rfl)
      have h147 : ∀ (z : fk_M) (x2 : Int32) (s0 : Int32) (H : Heap) (locs : List Loc) (ls : Array Slot), fX6_serve z0 a1 = fX6_serve_147 (fX6_serve_17 n) z x1 x2 x3 s0 → (j < N) → (mI z) → (s0 = 0 ∨ z.1 30 < z.1 29) → va_P G vwCl ((fk_mW q k) z) H → va_D A ((fk_mW q k) z) → va_S A s.heap H locs → lv_has ls 8 [(0, .ref (q 0)), (1, .int x1), (2, .int x2), (3, .int x3)] → W p l e ({ frames := 6, cells := 0, slots := 0, locals := 131 } : Room) s m ([.ref (q 0), .int a1] : List Value).toArray below meth c H locs 0 0 (MQ below (va_Qi (fun r z1 => (r, z1) = fX6_serve z0 a1) (fk_At G (fk_mW q k) (fk_mT k) A) A) ([.ref (q 0), .int a1] : List Value).toArray s 0 0 A) (F0 m 147 ls [.int s0]) := by
        intro z x2 s0 H locs ls hf hlt hI hth hP hD hS hl
        refine lv_istore (lv' := [(6, .int s0), (0, .ref (q 0)), (1, .int x1), (2, .int x2), (3, .int x3)]) hx hb dX6_serve_147 hl (by decide) rfl (fun ls hl => ?_)
        refine lv_aload_n hx hb dX6_serve_149 rfl (lv_at hl 1 rfl) ?_
        refine lv_iload hx hb dX6_serve_150 (lv_at hl 0 rfl) ?_
        refine lv_if_eq (tgt := 167) hx hb dX6_serve_152 (by decide) (fun c152 => ?_) (fun c152 => ?_)
        · refine lv_iconst (v := 0) hx hb dX6_serve_167 (by decide) ?_
          exact h168 z x2 s0 0 _ _ ls (by rw [hf, fX6_serve_147, if_pos c152] <;> rfl) hlt hI hth hP hD hS (lv_sub hl [1, 2, 3, 4, 0] rfl)
        · refine lv_aload_n hx hb dX6_serve_155 rfl (lv_at hl 1 rfl) ?_
          refine va_get (D := G) (ci := 6) (v := .ref (q 3)) (C := RX6) (T := TX6) (N := 32) hx hb hts hi_6 hown hK hP 0 rfl rfl 31 (by decide) hfl_24 (fun _ h9 => h9) rfl dX6_serve_156 ?_
          refine lv_aload_n hx hb dX6_serve_159 rfl (lv_at hl 1 rfl) ?_
          refine va_get (D := G) (ci := 6) (v := .int (z.1 30)) (C := RX6) (T := TX6) (N := 32) hx hb hts hi_6 hown hK hP 0 rfl rfl 30 (by decide) hfl_193 (fun _ h9 => h9) rfl dX6_serve_160 ?_
          have hin_163 : vp_in (z.1 30) 200 := by exact mI_nxin hI (hth.resolve_left c152)
          refine va_iald (f := z.2.2.2) hx hb hK hP 3 2 rfl rfl hin_163 dX6_serve_163 ?_
          refine lv_goto (tgt := 168) hx hb dX6_serve_164 (by decide) ?_
          exact h168 z x2 s0 (z.2.2.2 (z.1 30).toNatClampNeg) _ _ ls (by rw [hf, fX6_serve_147, if_neg c152] <;> rfl) hlt hI hth hP hD hS (lv_sub hl [1, 2, 3, 4, 0] rfl)
      have h131 : ∀ (z : fk_M) (x2 : Int32) (H : Heap) (locs : List Loc) (ls : Array Slot), fX6_serve z0 a1 = fX6_serve_131 (fX6_serve_17 n) z x1 x2 x3 → (j < N) → (mI z) → va_P G vwCl ((fk_mW q k) z) H → va_D A ((fk_mW q k) z) → va_S A s.heap H locs → lv_has ls 8 [(0, .ref (q 0)), (1, .int x1), (2, .int x2), (3, .int x3)] → W p l e ({ frames := 6, cells := 0, slots := 0, locals := 131 } : Room) s m ([.ref (q 0), .int a1] : List Value).toArray below meth c H locs 0 0 (MQ below (va_Qi (fun r z1 => (r, z1) = fX6_serve z0 a1) (fk_At G (fk_mW q k) (fk_mT k) A) A) ([.ref (q 0), .int a1] : List Value).toArray s 0 0 A) (F0 m 131 ls []) := by
        intro z x2 H locs ls hf hlt hI hP hD hS hl
        refine lv_aload_n hx hb dX6_serve_131 rfl (lv_at hl 0 rfl) ?_
        refine va_get (D := G) (ci := 6) (v := .int (z.1 30)) (C := RX6) (T := TX6) (N := 32) hx hb hts hi_6 hown hK hP 0 rfl rfl 30 (by decide) hfl_193 (fun _ h9 => h9) rfl dX6_serve_132 ?_
        refine lv_aload_n hx hb dX6_serve_135 rfl (lv_at hl 0 rfl) ?_
        refine va_get (D := G) (ci := 6) (v := .int (z.1 29)) (C := RX6) (T := TX6) (N := 32) hx hb hts hi_6 hown hK hP 0 rfl rfl 29 (by decide) hfl_190 (fun _ h9 => h9) rfl dX6_serve_136 ?_
        refine lv_icmp_ge (tgt := 146) hx hb dX6_serve_139 (by decide) (fun c139 => ?_) (fun c139 => ?_)
        · refine lv_iconst (v := 0) hx hb dX6_serve_146 (by decide) ?_
          exact h147 z x2 0 _ _ ls (by rw [hf, fX6_serve_131, if_pos c139] <;> rfl) hlt hI (by first | exact Or.inl rfl | exact Or.inr (Int32.not_le.mp c139)) hP hD hS (lv_sub hl [0, 1, 2, 3] rfl)
        · refine lv_iconst (v := 1) hx hb dX6_serve_142 (by decide) ?_
          refine lv_goto (tgt := 147) hx hb dX6_serve_143 (by decide) ?_
          exact h147 z x2 1 _ _ ls (by rw [hf, fX6_serve_131, if_neg c139] <;> rfl) hlt hI (by first | exact Or.inl rfl | exact Or.inr (Int32.not_le.mp c139)) hP hD hS (lv_sub hl [0, 1, 2, 3] rfl)
      have h107 : ∀ (z : fk_M) (x2 : Int32) (H : Heap) (locs : List Loc) (ls : Array Slot), fX6_serve z0 a1 = fX6_serve_107 (fX6_serve_17 n) z x1 x2 x3 → (j < N) → (mI z) → va_P G vwCl ((fk_mW q k) z) H → va_D A ((fk_mW q k) z) → va_S A s.heap H locs → lv_has ls 8 [(0, .ref (q 0)), (1, .int x1), (2, .int x2), (3, .int x3)] → W p l e ({ frames := 6, cells := 0, slots := 0, locals := 131 } : Room) s m ([.ref (q 0), .int a1] : List Value).toArray below meth c H locs 0 0 (MQ below (va_Qi (fun r z1 => (r, z1) = fX6_serve z0 a1) (fk_At G (fk_mW q k) (fk_mT k) A) A) ([.ref (q 0), .int a1] : List Value).toArray s 0 0 A) (F0 m 107 ls []) := by
        intro z x2 H locs ls hf hlt hI hP hD hS hl
        refine lv_aload_n hx hb dX6_serve_107 rfl (lv_at hl 0 rfl) ?_
        refine lv_iconst (v := 2) hx hb dX6_serve_108 (by decide) ?_
        refine fk_Vp (Wd := (fk_mW q k)) (z := z) (As := [.int 2]) (rest := []) F9 (c_X6_has l G q k _ z 2) (cwV 1 hts gX6_serve_X6_has rfl rfl rfl (by decide +kernel) ⟨Nat.le_of_ble_eq_true rfl, Nat.le_of_ble_eq_true rfl⟩) (va_recv hK hP (ci := 6) (q0 := 0) rfl rfl) hK hP hD hS hA hN rfl hl.1 rfl (Nat.le_of_ble_eq_true rfl) dX6_serve_109 ⟨Nat.zero_le _, Nat.zero_le _⟩ (fun H locs hP hD hS => ?_)
        refine lv_if_eq (tgt := 198) hx hb dX6_serve_112 (by decide) (fun c112 => ?_) (fun c112 => ?_)
        · exact h198 z x2 _ _ ls (by rw [hf, fX6_serve_107, if_pos c112] <;> rfl) hlt hI hP hD hS (lv_sub hl [0, 1, 2, 3] rfl)
        · refine lv_aload_n hx hb dX6_serve_115 rfl (lv_at hl 0 rfl) ?_
          refine va_get (D := G) (ci := 6) (v := .int (z.1 17)) (C := RX6) (T := TX6) (N := 32) hx hb hts hi_6 hown hK hP 0 rfl rfl 17 (by decide) hfl_21 (fun _ h9 => h9) rfl dX6_serve_116 ?_
          refine lv_iconst (v := 3) hx hb dX6_serve_119 (by decide) ?_
          refine lv_icmp_eq (tgt := 131) hx hb dX6_serve_120 (by decide) (fun c120 => ?_) (fun c120 => ?_)
          · exact h131 z x2 _ _ ls (by rw [hf, fX6_serve_107, if_neg c112, if_pos c120] <;> rfl) hlt hI hP hD hS (lv_sub hl [0, 1, 2, 3] rfl)
          · refine lv_aload_n hx hb dX6_serve_123 rfl (lv_at hl 0 rfl) ?_
            refine va_get (D := G) (ci := 6) (v := .int (z.1 17)) (C := RX6) (T := TX6) (N := 32) hx hb hts hi_6 hown hK hP 0 rfl rfl 17 (by decide) hfl_21 (fun _ h9 => h9) rfl dX6_serve_124 ?_
            refine lv_iconst (v := 5) hx hb dX6_serve_127 (by decide) ?_
            refine lv_icmp_ne (tgt := 198) hx hb dX6_serve_128 (by decide) (fun c128 => ?_) (fun c128 => ?_)
            · exact h198 z x2 _ _ ls (by rw [hf, fX6_serve_107, if_neg c112, if_neg c120, if_neg c128] <;> rfl) hlt hI hP hD hS (lv_sub hl [0, 1, 2, 3] rfl)
            · exact h131 z x2 _ _ ls (by rw [hf, fX6_serve_107, if_neg c112, if_neg c120, if_pos c128] <;> rfl) hlt hI hP hD hS (lv_sub hl [0, 1, 2, 3] rfl)
      have h101 : ∀ (z : fk_M) (H : Heap) (locs : List Loc) (ls : Array Slot), fX6_serve z0 a1 = fX6_serve_101 (fX6_serve_17 n) z x1 x2 x3 → (j < N) → (mI z) → va_P G vwCl ((fk_mW q k) z) H → va_D A ((fk_mW q k) z) → va_S A s.heap H locs → lv_has ls 8 [(0, .ref (q 0)), (1, .int x1), (2, .int x2), (3, .int x3)] → W p l e ({ frames := 6, cells := 0, slots := 0, locals := 131 } : Room) s m ([.ref (q 0), .int a1] : List Value).toArray below meth c H locs 0 0 (MQ below (va_Qi (fun r z1 => (r, z1) = fX6_serve z0 a1) (fk_At G (fk_mW q k) (fk_mT k) A) A) ([.ref (q 0), .int a1] : List Value).toArray s 0 0 A) (F0 m 101 ls []) := by
        intro z H locs ls hf hlt hI hP hD hS hl
        refine lv_iinc (v := x2 + 1) (lv' := [(2, .int (x2 + 1)), (0, .ref (q 0)), (1, .int x1), (3, .int x3)]) hx hb dX6_serve_101 hl (k := 2) rfl (by rfl) (by decide) rfl (fun ls hl => ?_)
        refine lv_goto (tgt := 198) hx hb dX6_serve_104 (by decide) ?_
        exact h198 z (x2 + 1) _ _ ls (by rw [hf, fX6_serve_101] <;> rfl) hlt hI hP hD hS (lv_sub hl [1, 2, 0, 3] rfl)
      have h49 : ∀ (z : fk_M) (s0 : Int32) (H : Heap) (locs : List Loc) (ls : Array Slot), fX6_serve z0 a1 = fX6_serve_49 (fX6_serve_17 n) z x1 x2 x3 s0 → (j < N) → (mI z) → va_P G vwCl ((fk_mW q k) z) H → va_D A ((fk_mW q k) z) → va_S A s.heap H locs → lv_has ls 8 [(0, .ref (q 0)), (1, .int x1), (2, .int x2), (3, .int x3)] → W p l e ({ frames := 6, cells := 0, slots := 0, locals := 131 } : Room) s m ([.ref (q 0), .int a1] : List Value).toArray below meth c H locs 0 0 (MQ below (va_Qi (fun r z1 => (r, z1) = fX6_serve z0 a1) (fk_At G (fk_mW q k) (fk_mT k) A) A) ([.ref (q 0), .int a1] : List Value).toArray s 0 0 A) (F0 m 49 ls [.int s0]) := by
        intro z s0 H locs ls hf hlt hI hP hD hS hl
        refine lv_istore (lv' := [(5, .int s0), (0, .ref (q 0)), (1, .int x1), (2, .int x2), (3, .int x3)]) hx hb dX6_serve_49 hl (by decide) rfl (fun ls hl => ?_)
        refine lv_aload_n hx hb dX6_serve_51 rfl (lv_at hl 1 rfl) ?_
        refine lv_iconst (v := 2) hx hb dX6_serve_52 (by decide) ?_
        refine fk_Vp (Wd := (fk_mW q k)) (z := z) (As := [.int 2]) (rest := []) F9 (c_X6_has l G q k _ z 2) (cwV 1 hts gX6_serve_X6_has rfl rfl rfl (by decide +kernel) ⟨Nat.le_of_ble_eq_true rfl, Nat.le_of_ble_eq_true rfl⟩) (va_recv hK hP (ci := 6) (q0 := 0) rfl rfl) hK hP hD hS hA hN rfl hl.1 rfl (Nat.le_of_ble_eq_true rfl) dX6_serve_53 ⟨Nat.zero_le _, Nat.zero_le _⟩ (fun H locs hP hD hS => ?_)
        refine lv_if_eq (tgt := 107) hx hb dX6_serve_56 (by decide) (fun c56 => ?_) (fun c56 => ?_)
        · exact h107 z x2 _ _ ls (by rw [hf, fX6_serve_49, if_pos c56] <;> rfl) hlt hI hP hD hS (lv_sub hl [1, 2, 3, 4] rfl)
        · refine lv_iload hx hb dX6_serve_59 (lv_at hl 0 rfl) ?_
          refine lv_if_eq (tgt := 107) hx hb dX6_serve_61 (by decide) (fun c61 => ?_) (fun c61 => ?_)
          · exact h107 z x2 _ _ ls (by rw [hf, fX6_serve_49, if_neg c56, if_pos c61] <;> rfl) hlt hI hP hD hS (lv_sub hl [1, 2, 3, 4] rfl)
          · refine lv_aload_n hx hb dX6_serve_64 rfl (lv_at hl 1 rfl) ?_
            have hl := lv_sub hl [1, 2, 3, 4] (l' := [(0, .ref (q 0)), (1, .int x1), (2, .int x2), (3, .int x3)]) rfl
            refine fk_Vi (Wd := (fk_mW q k)) (z := z) (As := []) (rest := []) F9 (c_X6_take l G q k _ z) (cwV 0 hts gX6_serve_X6_take rfl rfl rfl (by decide +kernel) ⟨Nat.le_of_ble_eq_true rfl, Nat.le_of_ble_eq_true rfl⟩) (va_recv hK hP (ci := 6) (q0 := 0) rfl rfl) hK hP hD hS hA hN rfl hl.1 rfl (Nat.le_of_ble_eq_true rfl) dX6_serve_65 ⟨Nat.zero_le _, Nat.zero_le _⟩ (fun r65 z H locs hw hP hD hS => ?_)
            have hf : fX6_serve z0 a1 = fX6_serve_c2 (fX6_serve_17 n) z r65 x1 x2 x3 := by rw [hf, fX6_serve_49, if_neg c56, if_neg c61, ← hw] <;> rfl
            have hI := mI_of (mE_take' hw) hI
            refine lv_istore (lv' := [(6, .int r65), (0, .ref (q 0)), (1, .int x1), (2, .int x2), (3, .int x3)]) hx hb dX6_serve_68 hl (by decide) rfl (fun ls hl => ?_)
            refine lv_aload_n hx hb dX6_serve_70 rfl (lv_at hl 1 rfl) ?_
            refine va_get (D := G) (ci := 6) (v := .int (z.1 29)) (C := RX6) (T := TX6) (N := 32) hx hb hts hi_6 hown hK hP 0 rfl rfl 29 (by decide) hfl_190 (fun _ h9 => h9) rfl dX6_serve_71 ?_
            refine lv_sipush (v := 200) hx hb dX6_serve_74 (by decide) ?_
            refine lv_icmp_ge (tgt := 101) hx hb dX6_serve_77 (by decide) (fun c77 => ?_) (fun c77 => ?_)
            · exact h101 z _ _ ls (by rw [hf, fX6_serve_c2, if_pos c77] <;> rfl) hlt (by first | exact mI_bf1 hI c77 | exact hI) hP hD hS (lv_sub hl [1, 2, 3, 4] rfl)
            · refine lv_aload_n hx hb dX6_serve_80 rfl (lv_at hl 1 rfl) ?_
              refine va_get (D := G) (ci := 6) (v := .ref (q 3)) (C := RX6) (T := TX6) (N := 32) hx hb hts hi_6 hown hK hP 0 rfl rfl 31 (by decide) hfl_24 (fun _ h9 => h9) rfl dX6_serve_81 ?_
              refine lv_aload_n hx hb dX6_serve_84 rfl (lv_at hl 1 rfl) ?_
              refine va_get (D := G) (ci := 6) (v := .int (z.1 29)) (C := RX6) (T := TX6) (N := 32) hx hb hts hi_6 hown hK hP 0 rfl rfl 29 (by decide) hfl_190 (fun _ h9 => h9) rfl dX6_serve_85 ?_
              refine lv_iload hx hb dX6_serve_88 (lv_at hl 0 rfl) ?_
              have hin_90 : vp_in (z.1 29) 200 := by exact mI_bfin hI c77
              refine va_iast (f := z.2.2.2) (x := r65) hx hb hK hP hD hS 3 2 rfl rfl hin_90 dX6_serve_90 (fun H locs hP hD hS => ?_)
              have hP : va_P G vwCl ((fk_mW q k) (z.1, z.2.1, z.2.2.1, upd z.2.2.2 (z.1 29).toNatClampNeg r65)) H := hP
              have hD : va_D A ((fk_mW q k) (z.1, z.2.1, z.2.2.1, upd z.2.2.2 (z.1 29).toNatClampNeg r65)) := hD
              refine lv_aload_n hx hb dX6_serve_91 rfl (lv_at hl 1 rfl) ?_
              refine lv_dup hx hb dX6_serve_92 rfl ?_
              refine va_get (D := G) (ci := 6) (v := .int (z.1 29)) (C := RX6) (T := TX6) (N := 32) hx hb hts hi_6 hown hK hP 0 rfl rfl 29 (by decide) hfl_190 (fun _ h9 => h9) rfl dX6_serve_93 ?_
              refine lv_iconst (v := 1) hx hb dX6_serve_96 (by decide) ?_
              refine lv_iadd hx hb dX6_serve_97 ?_
              refine va_put (D := G) (ci := 6) (v := .int ((z.1 29) + 1)) (ty := .int) (C := RX6) (T := TX6) (N := 32) hx hb hts hi_6 tyX6 tyX6_ok nmX6 hown hK hP hD hS 0 rfl rfl 29 (by decide) hfl_190 (fun _ h9 => h9) rfl (by decide +kernel) rfl rfl (Nat.le_of_ble_eq_true rfl) dX6_serve_98 (fun H locs hP hD hS => ?_)
              have hP : va_P G vwCl ((fk_mW q k) (upd z.1 29 ((z.1 29) + 1), z.2.1, z.2.2.1, upd z.2.2.2 (z.1 29).toNatClampNeg r65)) H := hP
              have hD : va_D A ((fk_mW q k) (upd z.1 29 ((z.1 29) + 1), z.2.1, z.2.2.1, upd z.2.2.2 (z.1 29).toNatClampNeg r65)) := hD
              exact h101 (upd z.1 29 ((z.1 29) + 1), z.2.1, z.2.2.1, upd z.2.2.2 (z.1 29).toNatClampNeg r65) _ _ ls (by rw [hf, fX6_serve_c2, if_neg c77] <;> rfl) hlt (by first | exact mI_bf1 hI c77 | exact hI) hP hD hS (lv_sub hl [1, 2, 3, 4] rfl)
      have h44 : ∀ (z : fk_M) (H : Heap) (locs : List Loc) (ls : Array Slot), fX6_serve z0 a1 = fX6_serve_44 (fX6_serve_17 n) z x1 x2 x3 → (j < N) → (mI z) → va_P G vwCl ((fk_mW q k) z) H → va_D A ((fk_mW q k) z) → va_S A s.heap H locs → lv_has ls 8 [(0, .ref (q 0)), (1, .int x1), (2, .int x2), (3, .int x3)] → W p l e ({ frames := 6, cells := 0, slots := 0, locals := 131 } : Room) s m ([.ref (q 0), .int a1] : List Value).toArray below meth c H locs 0 0 (MQ below (va_Qi (fun r z1 => (r, z1) = fX6_serve z0 a1) (fk_At G (fk_mW q k) (fk_mT k) A) A) ([.ref (q 0), .int a1] : List Value).toArray s 0 0 A) (F0 m 44 ls []) := by
        intro z H locs ls hf hlt hI hP hD hS hl
        refine lv_iconst (v := 1) hx hb dX6_serve_44 (by decide) ?_
        refine lv_goto (tgt := 49) hx hb dX6_serve_45 (by decide) ?_
        exact h49 z 1 _ _ ls (by rw [hf, fX6_serve_44] <;> rfl) hlt hI hP hD hS (lv_sub hl [0, 1, 2, 3] rfl)
      refine lv_iload_n hx hb dX6_serve_17 rfl (lv_at hl 3 rfl) ?_
      refine lv_iload_n hx hb dX6_serve_18 rfl (lv_at hl 1 rfl) ?_
      refine lv_icmp_ge (tgt := 204) hx hb dX6_serve_19 (by decide) (fun c19 => ?_) (fun c19 => ?_)
      · refine lv_iload_n hx hb dX6_serve_204 rfl (lv_at hl 2 rfl) ?_
        exact fk_iret hx hb hr hlk hK hP hD hS rfl (Eq.symm (by rw [hf, fX6_serve_17, if_pos c19] <;> rfl)) dX6_serve_205
      · have hlt : j < N := fk_up hj hxN (by omega) c19
        refine lv_aload_n hx hb dX6_serve_22 rfl (lv_at hl 0 rfl) ?_
        refine fk_Vi (Wd := (fk_mW q k)) (z := z) (As := []) (rest := []) F9 (c_X6_pass l G q k _ z hI) (cwV 0 hts gX6_serve_X6_pass rfl rfl rfl (by decide +kernel) ⟨Nat.le_of_ble_eq_true rfl, Nat.le_of_ble_eq_true rfl⟩) (va_recv hK hP (ci := 6) (q0 := 0) rfl rfl) hK hP hD hS hA hN rfl hl.1 rfl (Nat.le_of_ble_eq_true rfl) dX6_serve_23 ⟨Nat.zero_le _, Nat.zero_le _⟩ (fun r23 z H locs hw hP hD hS => ?_)
        have hf : fX6_serve z0 a1 = fX6_serve_c3 (fX6_serve_17 n) z r23 x1 x2 x3 := by rw [hf, fX6_serve_17, if_neg c19, ← hw] <;> rfl
        have hI := mI_pass' hw hI
        refine lv_istore (lv' := [(4, .int r23), (0, .ref (q 0)), (1, .int x1), (2, .int x2), (3, .int x3)]) hx hb dX6_serve_26 hl (by decide) rfl (fun ls hl => ?_)
        refine lv_aload_n hx hb dX6_serve_28 rfl (lv_at hl 1 rfl) ?_
        refine va_get (D := G) (ci := 6) (v := .int (z.1 17)) (C := RX6) (T := TX6) (N := 32) hx hb hts hi_6 hown hK hP 0 rfl rfl 17 (by decide) hfl_21 (fun _ h9 => h9) rfl dX6_serve_29 ?_
        refine lv_iconst (v := 2) hx hb dX6_serve_32 (by decide) ?_
        refine lv_icmp_eq (tgt := 44) hx hb dX6_serve_33 (by decide) (fun c33 => ?_) (fun c33 => ?_)
        · exact h44 z _ _ ls (by rw [hf, fX6_serve_c3, if_pos c33] <;> rfl) hlt hI hP hD hS (lv_sub hl [1, 2, 3, 4] rfl)
        · refine lv_aload_n hx hb dX6_serve_36 rfl (lv_at hl 1 rfl) ?_
          refine va_get (D := G) (ci := 6) (v := .int (z.1 17)) (C := RX6) (T := TX6) (N := 32) hx hb hts hi_6 hown hK hP 0 rfl rfl 17 (by decide) hfl_21 (fun _ h9 => h9) rfl dX6_serve_37 ?_
          refine lv_iconst (v := 4) hx hb dX6_serve_40 (by decide) ?_
          refine lv_icmp_ne (tgt := 48) hx hb dX6_serve_41 (by decide) (fun c41 => ?_) (fun c41 => ?_)
          · refine lv_iconst (v := 0) hx hb dX6_serve_48 (by decide) ?_
            exact h49 z 0 _ _ ls (by rw [hf, fX6_serve_c3, if_neg c33, if_neg c41] <;> rfl) hlt hI hP hD hS (lv_sub hl [1, 2, 3, 4] rfl)
          · exact h44 z _ _ ls (by rw [hf, fX6_serve_c3, if_neg c33, if_pos c41] <;> rfl) hlt hI hP hD hS (lv_sub hl [1, 2, 3, 4] rfl)
  refine lv_iload_n hx hb dX6_serve_0 rfl (lv_at hl 1 rfl) ?_
  refine lv_if_lt (tgt := 11) hx hb dX6_serve_1 (by decide) (fun c1 => ?_) (fun c1 => ?_)
  · refine lv_iconst (v := (-1)) hx hb dX6_serve_11 (by decide) ?_
    exact fk_iret hx hb hr hlk hK hP hD hS rfl (Eq.symm (by rw [fX6_serve, if_pos c1] <;> rfl)) dX6_serve_12
  · refine lv_iload_n hx hb dX6_serve_4 rfl (lv_at hl 1 rfl) ?_
    refine lv_sipush (v := 200) hx hb dX6_serve_5 (by decide) ?_
    refine lv_icmp_le (tgt := 13) hx hb dX6_serve_8 (by decide) (fun c8 => ?_) (fun c8 => ?_)
    · refine lv_iconst (v := 0) hx hb dX6_serve_13 (by decide) ?_
      refine lv_istore_n (lv' := [(2, .int 0), (0, .ref (q 0)), (1, .int a1)]) hx hb dX6_serve_14 rfl hl (by decide) rfl (fun ls hl => ?_)
      refine lv_iconst (v := 0) hx hb dX6_serve_15 (by decide) ?_
      refine lv_istore_n (lv' := [(3, .int 0), (2, .int 0), (0, .ref (q 0)), (1, .int a1)]) hx hb dX6_serve_16 rfl hl (by decide) rfl (fun ls hl => ?_)
      obtain ⟨N, hN1, hN2⟩ := nI_of2 (x := a1) (M := 200) (n := 200) (by decide) c1 c8
      exact h17 201 N 0 z0 a1 0 0 _ _ ls (by rw [fX6_serve, if_neg c1, if_pos c8] <;> rfl) (by decide) (by omega) (by omega) hN2 hN1 hI hP hD hS (lv_sub hl [2, 3, 1, 0] rfl)
    · refine lv_iconst (v := (-1)) hx hb dX6_serve_11 (by decide) ?_
      exact fk_iret hx hb hr hlk hK hP hD hS rfl (Eq.symm (by rw [fX6_serve, if_neg c1, if_neg c8] <;> rfl)) dX6_serve_12
-- FloppyDeskModel.clear()V
set_option maxHeartbeats 4000000 in
set_option maxRecDepth 100000 in
theorem c_X6_clear (l : Launch) (G : va_G) (q : Nat → Nat) (k : Nat → ClassId) (sz : Nat) (z0 : fk_M) : fk_Mv l yX6_clear wsX6_clear ({ frames := 0, cells := 0, slots := 0, locals := 0 } : Room) G (fk_mW q k) (fk_mT k) [.ref (q 0)] sz z0 (fX6_clear z0) := by
  refine fk_head (cc := cX6_clear) (maxL := 1) (ret := none) (QQ := fun A => va_Qv (fun z1 => z1 = fX6_clear z0) (fk_At G (fk_mW q k) (fk_mT k) A) A) (by decide) rfl (Nat.le_of_ble_eq_true rfl) ?_ sz
  intro p e s m below meth c A ls hx hb hr hlk hml hown hts hK hN hA hP hD hS hl
  have hown : s.vm.findClass RX6 = some m.cls := hown
  have F9 : CallFix p m c cX6_clear 1 s ([.ref (q 0)] : List Value).toArray wsX6_clear RX6 := ⟨hx, hb, hml, hown, hts⟩
  have hl : lv_has ls 1 [(0, .ref (q 0))] := hl
  have hfl_190 := hts (.fieldLink RX6 190 "FloppyDeskModel" "buffered" "I") (by decide +kernel)
  have hfl_193 := hts (.fieldLink RX6 193 "FloppyDeskModel" "next" "I") (by decide +kernel)
  have hi_6 : ∀ w ∈ u_ws RX6 TX6 32, w ∈ wsX6_clear := by decide +kernel
  refine lv_aload_n hx hb dX6_clear_0 rfl (lv_at hl 0 rfl) ?_
  refine lv_iconst (v := 0) hx hb dX6_clear_1 (by decide) ?_
  refine va_put (D := G) (ci := 6) (v := .int 0) (ty := .int) (C := RX6) (T := TX6) (N := 32) hx hb hts hi_6 tyX6 tyX6_ok nmX6 hown hK hP hD hS 0 rfl rfl 29 (by decide) hfl_190 (fun _ h9 => h9) rfl (by decide +kernel) rfl rfl (Nat.le_of_ble_eq_true rfl) dX6_clear_2 (fun H locs hP hD hS => ?_)
  have hP : va_P G vwCl ((fk_mW q k) (upd z0.1 29 0, z0.2)) H := hP
  have hD : va_D A ((fk_mW q k) (upd z0.1 29 0, z0.2)) := hD
  refine lv_aload_n hx hb dX6_clear_5 rfl (lv_at hl 0 rfl) ?_
  refine lv_iconst (v := 0) hx hb dX6_clear_6 (by decide) ?_
  refine va_put (D := G) (ci := 6) (v := .int 0) (ty := .int) (C := RX6) (T := TX6) (N := 32) hx hb hts hi_6 tyX6 tyX6_ok nmX6 hown hK hP hD hS 0 rfl rfl 30 (by decide) hfl_193 (fun _ h9 => h9) rfl (by decide +kernel) rfl rfl (Nat.le_of_ble_eq_true rfl) dX6_clear_7 (fun H locs hP hD hS => ?_)
  have hP : va_P G vwCl ((fk_mW q k) (upd (upd z0.1 29 0) 30 0, z0.2)) H := hP
  have hD : va_D A ((fk_mW q k) (upd (upd z0.1 29 0) 30 0, z0.2)) := hD
  exact fk_vret hx hb hr hlk hK hP hD hS (Eq.symm (by rw [fX6_clear] <;> rfl)) dX6_clear_10
-- FloppyDeskModel.fill(II)Z
set_option maxHeartbeats 4000000 in
set_option maxRecDepth 100000 in
theorem c_X6_fill (l : Launch) (G : va_G) (q : Nat → Nat) (k : Nat → ClassId) (sz : Nat) (z0 : fk_M) (a1 : Int32) (a2 : Int32) (hI : mI z0) : fk_Mi l yX6_fill wsX6_fill ({ frames := 0, cells := 0, slots := 0, locals := 0 } : Room) G (fk_mW q k) (fk_mT k) [.ref (q 0), .int a1, .int a2] sz z0 (fX6_fill z0 a1 a2) := by
  refine fk_head (cc := cX6_fill) (maxL := 4) (ret := (some .boolean)) (QQ := fun A => va_Qi (fun r z1 => (r, z1) = fX6_fill z0 a1 a2) (fk_At G (fk_mW q k) (fk_mT k) A) A) (by decide) rfl (Nat.le_of_ble_eq_true rfl) ?_ sz
  intro p e s m below meth c A ls hx hb hr hlk hml hown hts hK hN hA hP hD hS hl
  have hown : s.vm.findClass RX6 = some m.cls := hown
  have F9 : CallFix p m c cX6_fill 4 s ([.ref (q 0), .int a1, .int a2] : List Value).toArray wsX6_fill RX6 := ⟨hx, hb, hml, hown, hts⟩
  have hl : lv_has ls 4 [(0, .ref (q 0)), (1, .int a1), (2, .int a2)] := hl
  have hfl_24 := hts (.fieldLink RX6 24 "FloppyDeskModel" "buffer" "[I") (by decide +kernel)
  have hfl_190 := hts (.fieldLink RX6 190 "FloppyDeskModel" "buffered" "I") (by decide +kernel)
  have hi_6 : ∀ w ∈ u_ws RX6 TX6 32, w ∈ wsX6_fill := by decide +kernel
  have h38 : ∀ (n : Nat) (N : Nat) (B : Nat) (j : Nat) (z : fk_M) (x1 : Int32) (x2 : Int32) (x3 : Int32) (H : Heap) (locs : List Loc) (ls : Array Slot), fX6_fill z0 a1 a2 = fX6_fill_38 n z x1 x2 x3 → (x3 = nI j) → (j ≤ N) → (N + 1 ≤ j + n) → (x2 = nI N) → (N ≤ 100) → (z.1 29 = nI (B + j)) → (B + N ≤ 200) → va_P G vwCl ((fk_mW q k) z) H → va_D A ((fk_mW q k) z) → va_S A s.heap H locs → lv_has ls 4 [(0, .ref (q 0)), (1, .int x1), (2, .int x2), (3, .int x3)] → W p l e ({ frames := 0, cells := 0, slots := 0, locals := 0 } : Room) s m ([.ref (q 0), .int a1, .int a2] : List Value).toArray below meth c H locs 0 0 (MQ below (va_Qi (fun r z1 => (r, z1) = fX6_fill z0 a1 a2) (fk_At G (fk_mW q k) (fk_mT k) A) A) ([.ref (q 0), .int a1, .int a2] : List Value).toArray s 0 0 A) (F0 m 38 ls []) := by
    intro n N B
    induction n with
    | zero =>
      intro j z x1 x2 x3 H locs ls hf hj hjN hfu hxN hNle hbf hBN hP hD hS hl
      exact absurd hfu (by omega)
    | succ n ih =>
      intro j z x1 x2 x3 H locs ls hf hj hjN hfu hxN hNle hbf hBN hP hD hS hl
      refine lv_iload_n hx hb dX6_fill_38 rfl (lv_at hl 3 rfl) ?_
      refine lv_iload_n hx hb dX6_fill_39 rfl (lv_at hl 2 rfl) ?_
      refine lv_icmp_ge (tgt := 69) hx hb dX6_fill_40 (by decide) (fun c40 => ?_) (fun c40 => ?_)
      · refine lv_iconst (v := 1) hx hb dX6_fill_69 (by decide) ?_
        exact fk_iret hx hb hr hlk hK hP hD hS rfl (Eq.symm (by rw [hf, fX6_fill_38, if_pos c40] <;> rfl)) dX6_fill_70
      · have hlt : j < N := fk_up hj hxN (by omega) c40
        refine lv_aload_n hx hb dX6_fill_43 rfl (lv_at hl 0 rfl) ?_
        refine va_get (D := G) (ci := 6) (v := .ref (q 3)) (C := RX6) (T := TX6) (N := 32) hx hb hts hi_6 hown hK hP 0 rfl rfl 31 (by decide) hfl_24 (fun _ h9 => h9) rfl dX6_fill_44 ?_
        refine lv_aload_n hx hb dX6_fill_47 rfl (lv_at hl 0 rfl) ?_
        refine va_get (D := G) (ci := 6) (v := .int (z.1 29)) (C := RX6) (T := TX6) (N := 32) hx hb hts hi_6 hown hK hP 0 rfl rfl 29 (by decide) hfl_190 (fun _ h9 => h9) rfl dX6_fill_48 ?_
        refine lv_iload_n hx hb dX6_fill_51 rfl (lv_at hl 1 rfl) ?_
        have hin_52 : vp_in (z.1 29) 200 := by rw [hbf]; exact vp_in_nI (by omega) (by decide)
        refine va_iast (f := z.2.2.2) (x := x1) hx hb hK hP hD hS 3 2 rfl rfl hin_52 dX6_fill_52 (fun H locs hP hD hS => ?_)
        have hP : va_P G vwCl ((fk_mW q k) (z.1, z.2.1, z.2.2.1, upd z.2.2.2 (z.1 29).toNatClampNeg x1)) H := hP
        have hD : va_D A ((fk_mW q k) (z.1, z.2.1, z.2.2.1, upd z.2.2.2 (z.1 29).toNatClampNeg x1)) := hD
        refine lv_aload_n hx hb dX6_fill_53 rfl (lv_at hl 0 rfl) ?_
        refine lv_dup hx hb dX6_fill_54 rfl ?_
        refine va_get (D := G) (ci := 6) (v := .int (z.1 29)) (C := RX6) (T := TX6) (N := 32) hx hb hts hi_6 hown hK hP 0 rfl rfl 29 (by decide) hfl_190 (fun _ h9 => h9) rfl dX6_fill_55 ?_
        refine lv_iconst (v := 1) hx hb dX6_fill_58 (by decide) ?_
        refine lv_iadd hx hb dX6_fill_59 ?_
        refine va_put (D := G) (ci := 6) (v := .int ((z.1 29) + 1)) (ty := .int) (C := RX6) (T := TX6) (N := 32) hx hb hts hi_6 tyX6 tyX6_ok nmX6 hown hK hP hD hS 0 rfl rfl 29 (by decide) hfl_190 (fun _ h9 => h9) rfl (by decide +kernel) rfl rfl (Nat.le_of_ble_eq_true rfl) dX6_fill_60 (fun H locs hP hD hS => ?_)
        have hP : va_P G vwCl ((fk_mW q k) (upd z.1 29 ((z.1 29) + 1), z.2.1, z.2.2.1, upd z.2.2.2 (z.1 29).toNatClampNeg x1)) H := hP
        have hD : va_D A ((fk_mW q k) (upd z.1 29 ((z.1 29) + 1), z.2.1, z.2.2.1, upd z.2.2.2 (z.1 29).toNatClampNeg x1)) := hD
        refine lv_iinc (v := x3 + 1) (lv' := [(3, .int (x3 + 1)), (0, .ref (q 0)), (1, .int x1), (2, .int x2)]) hx hb dX6_fill_63 hl (k := 3) rfl (by rfl) (by decide) rfl (fun ls hl => ?_)
        refine lv_goto (tgt := 38) hx hb dX6_fill_66 (by decide) ?_
        exact ih (j + 1) (upd z.1 29 ((z.1 29) + 1), z.2.1, z.2.2.1, upd z.2.2.2 (z.1 29).toNatClampNeg x1) x1 x2 (x3 + 1) _ _ ls (by rw [hf, fX6_fill_38, if_neg c40] <;> rfl) (fk_up1 hj) (by omega) (by omega) hxN hNle (fk_up1 hbf) hBN hP hD hS (lv_sub hl [1, 2, 3, 0] rfl)
  refine lv_iload_n hx hb dX6_fill_0 rfl (lv_at hl 1 rfl) ?_
  refine lv_if_lt (tgt := 34) hx hb dX6_fill_1 (by decide) (fun c1 => ?_) (fun c1 => ?_)
  · refine lv_iconst (v := 0) hx hb dX6_fill_34 (by decide) ?_
    exact fk_iret hx hb hr hlk hK hP hD hS rfl (Eq.symm (by rw [fX6_fill, if_pos c1] <;> rfl)) dX6_fill_35
  · refine lv_iload_n hx hb dX6_fill_4 rfl (lv_at hl 1 rfl) ?_
    refine lv_sipush (v := 255) hx hb dX6_fill_5 (by decide) ?_
    refine lv_icmp_gt (tgt := 34) hx hb dX6_fill_8 (by decide) (fun c8 => ?_) (fun c8 => ?_)
    · refine lv_iconst (v := 0) hx hb dX6_fill_34 (by decide) ?_
      exact fk_iret hx hb hr hlk hK hP hD hS rfl (Eq.symm (by rw [fX6_fill, if_neg c1, if_pos c8] <;> rfl)) dX6_fill_35
    · refine lv_iload_n hx hb dX6_fill_11 rfl (lv_at hl 2 rfl) ?_
      refine lv_iconst (v := 1) hx hb dX6_fill_12 (by decide) ?_
      refine lv_icmp_lt (tgt := 34) hx hb dX6_fill_13 (by decide) (fun c13 => ?_) (fun c13 => ?_)
      · refine lv_iconst (v := 0) hx hb dX6_fill_34 (by decide) ?_
        exact fk_iret hx hb hr hlk hK hP hD hS rfl (Eq.symm (by rw [fX6_fill, if_neg c1, if_neg c8, if_pos c13] <;> rfl)) dX6_fill_35
      · refine lv_iload_n hx hb dX6_fill_16 rfl (lv_at hl 2 rfl) ?_
        refine lv_bipush (v := 100) hx hb dX6_fill_17 (by decide) ?_
        refine lv_icmp_gt (tgt := 34) hx hb dX6_fill_19 (by decide) (fun c19 => ?_) (fun c19 => ?_)
        · refine lv_iconst (v := 0) hx hb dX6_fill_34 (by decide) ?_
          exact fk_iret hx hb hr hlk hK hP hD hS rfl (Eq.symm (by rw [fX6_fill, if_neg c1, if_neg c8, if_neg c13, if_pos c19] <;> rfl)) dX6_fill_35
        · refine lv_aload_n hx hb dX6_fill_22 rfl (lv_at hl 0 rfl) ?_
          refine va_get (D := G) (ci := 6) (v := .int (z0.1 29)) (C := RX6) (T := TX6) (N := 32) hx hb hts hi_6 hown hK hP 0 rfl rfl 29 (by decide) hfl_190 (fun _ h9 => h9) rfl dX6_fill_23 ?_
          refine lv_iload_n hx hb dX6_fill_26 rfl (lv_at hl 2 rfl) ?_
          refine lv_iadd hx hb dX6_fill_27 ?_
          refine lv_sipush (v := 200) hx hb dX6_fill_28 (by decide) ?_
          refine lv_icmp_le (tgt := 36) hx hb dX6_fill_31 (by decide) (fun c31 => ?_) (fun c31 => ?_)
          · refine lv_iconst (v := 0) hx hb dX6_fill_36 (by decide) ?_
            refine lv_istore_n (lv' := [(3, .int 0), (0, .ref (q 0)), (1, .int a1), (2, .int a2)]) hx hb dX6_fill_37 rfl hl (by decide) rfl (fun ls hl => ?_)
            obtain ⟨N, hN1, hN2⟩ := fk_cnt c13 c19
            obtain ⟨B, hB1, hB2⟩ := mI_fillB hI hN2 hN1 c31
            exact h38 101 N B 0 z0 a1 a2 0 _ _ ls (by rw [fX6_fill, if_neg c1, if_neg c8, if_neg c13, if_neg c19, if_pos c31] <;> rfl) (by decide) (by omega) (by omega) hN2 hN1 hB1 hB2 hP hD hS (lv_sub hl [1, 2, 3, 0] rfl)
          · refine lv_iconst (v := 0) hx hb dX6_fill_34 (by decide) ?_
            exact fk_iret hx hb hr hlk hK hP hD hS rfl (Eq.symm (by rw [fX6_fill, if_neg c1, if_neg c8, if_neg c13, if_neg c19, if_neg c31] <;> rfl)) dX6_fill_35
-- FloppyDeskModel.buffer(I)I
set_option maxHeartbeats 4000000 in
set_option maxRecDepth 100000 in
theorem c_X6_buffer (l : Launch) (G : va_G) (q : Nat → Nat) (k : Nat → ClassId) (sz : Nat) (z0 : fk_M) (a1 : Int32) (hI : mI z0) : fk_Mp l yX6_buffer wsX6_buffer ({ frames := 0, cells := 0, slots := 0, locals := 0 } : Room) G (fk_mW q k) (fk_mT k) [.ref (q 0), .int a1] sz z0 (fX6_buffer z0 a1) := by
  refine fk_head (cc := cX6_buffer) (maxL := 2) (ret := (some .int)) (QQ := fun A => va_Qi (fun r (_ : Unit) => r = fX6_buffer z0 a1) (fun _ => fk_At G (fk_mW q k) (fk_mT k) A z0) A) (by decide) rfl (Nat.le_of_ble_eq_true rfl) ?_ sz
  intro p e s m below meth c A ls hx hb hr hlk hml hown hts hK hN hA hP hD hS hl
  have hown : s.vm.findClass RX6 = some m.cls := hown
  have F9 : CallFix p m c cX6_buffer 2 s ([.ref (q 0), .int a1] : List Value).toArray wsX6_buffer RX6 := ⟨hx, hb, hml, hown, hts⟩
  have hl : lv_has ls 2 [(0, .ref (q 0)), (1, .int a1)] := hl
  have hfl_24 := hts (.fieldLink RX6 24 "FloppyDeskModel" "buffer" "[I") (by decide +kernel)
  have hfl_190 := hts (.fieldLink RX6 190 "FloppyDeskModel" "buffered" "I") (by decide +kernel)
  have hi_6 : ∀ w ∈ u_ws RX6 TX6 32, w ∈ wsX6_buffer := by decide +kernel
  refine lv_iload_n hx hb dX6_buffer_0 rfl (lv_at hl 1 rfl) ?_
  refine lv_iconst (v := (-1)) hx hb dX6_buffer_1 (by decide) ?_
  refine lv_icmp_ne (tgt := 12) hx hb dX6_buffer_2 (by decide) (fun c2 => ?_) (fun c2 => ?_)
  · refine lv_iload_n hx hb dX6_buffer_12 rfl (lv_at hl 1 rfl) ?_
    refine lv_if_lt (tgt := 24) hx hb dX6_buffer_13 (by decide) (fun c13 => ?_) (fun c13 => ?_)
    · refine lv_iconst (v := (-1)) hx hb dX6_buffer_24 (by decide) ?_
      refine lv_goto (tgt := 34) hx hb dX6_buffer_25 (by decide) ?_
      exact fk_pret hx hb hr hlk hK hP hD hS rfl (Eq.symm (by rw [fX6_buffer, if_neg c2, if_pos c13] <;> rfl)) dX6_buffer_34
    · refine lv_iload_n hx hb dX6_buffer_16 rfl (lv_at hl 1 rfl) ?_
      refine lv_aload_n hx hb dX6_buffer_17 rfl (lv_at hl 0 rfl) ?_
      refine va_get (D := G) (ci := 6) (v := .int (z0.1 29)) (C := RX6) (T := TX6) (N := 32) hx hb hts hi_6 hown hK hP 0 rfl rfl 29 (by decide) hfl_190 (fun _ h9 => h9) rfl dX6_buffer_18 ?_
      refine lv_icmp_lt (tgt := 28) hx hb dX6_buffer_21 (by decide) (fun c21 => ?_) (fun c21 => ?_)
      · refine lv_aload_n hx hb dX6_buffer_28 rfl (lv_at hl 0 rfl) ?_
        refine va_get (D := G) (ci := 6) (v := .ref (q 3)) (C := RX6) (T := TX6) (N := 32) hx hb hts hi_6 hown hK hP 0 rfl rfl 31 (by decide) hfl_24 (fun _ h9 => h9) rfl dX6_buffer_29 ?_
        refine lv_iload_n hx hb dX6_buffer_32 rfl (lv_at hl 1 rfl) ?_
        have hin_33 : vp_in a1 200 := by exact mI_bufin hI c13 c21
        refine va_iald (f := z0.2.2.2) hx hb hK hP 3 2 rfl rfl hin_33 dX6_buffer_33 ?_
        exact fk_pret hx hb hr hlk hK hP hD hS rfl (Eq.symm (by rw [fX6_buffer, if_neg c2, if_neg c13, if_pos c21] <;> rfl)) dX6_buffer_34
      · refine lv_iconst (v := (-1)) hx hb dX6_buffer_24 (by decide) ?_
        refine lv_goto (tgt := 34) hx hb dX6_buffer_25 (by decide) ?_
        exact fk_pret hx hb hr hlk hK hP hD hS rfl (Eq.symm (by rw [fX6_buffer, if_neg c2, if_neg c13, if_neg c21] <;> rfl)) dX6_buffer_34
  · refine lv_aload_n hx hb dX6_buffer_5 rfl (lv_at hl 0 rfl) ?_
    refine va_get (D := G) (ci := 6) (v := .int (z0.1 29)) (C := RX6) (T := TX6) (N := 32) hx hb hts hi_6 hown hK hP 0 rfl rfl 29 (by decide) hfl_190 (fun _ h9 => h9) rfl dX6_buffer_6 ?_
    refine lv_goto (tgt := 34) hx hb dX6_buffer_9 (by decide) ?_
    exact fk_pret hx hb hr hlk hK hP hD hS rfl (Eq.symm (by rw [fX6_buffer, if_pos c2] <;> rfl)) dX6_buffer_34
-- FloppyDeskModel.protect(Z)V
set_option maxHeartbeats 4000000 in
set_option maxRecDepth 100000 in
theorem c_X6_protect (l : Launch) (G : va_G) (q : Nat → Nat) (k : Nat → ClassId) (sz : Nat) (z0 : fk_M) (a1 : Int32) (hb_a1 : a1 = 0 ∨ a1 = 1) : fk_Mv l yX6_protect wsX6_protect ({ frames := 0, cells := 0, slots := 0, locals := 0 } : Room) G (fk_mW q k) (fk_mT k) [.ref (q 0), .int a1] sz z0 (fX6_protect z0 a1) := by
  refine fk_head (cc := cX6_protect) (maxL := 2) (ret := none) (QQ := fun A => va_Qv (fun z1 => z1 = fX6_protect z0 a1) (fk_At G (fk_mW q k) (fk_mT k) A) A) (by decide) rfl (Nat.le_of_ble_eq_true rfl) ?_ sz
  intro p e s m below meth c A ls hx hb hr hlk hml hown hts hK hN hA hP hD hS hl
  have hown : s.vm.findClass RX6 = some m.cls := hown
  have F9 : CallFix p m c cX6_protect 2 s ([.ref (q 0), .int a1] : List Value).toArray wsX6_protect RX6 := ⟨hx, hb, hml, hown, hts⟩
  have hl : lv_has ls 2 [(0, .ref (q 0)), (1, .int a1)] := hl
  have hfl_181 := hts (.fieldLink RX6 181 "FloppyDeskModel" "shut" "Z") (by decide +kernel)
  have hi_6 : ∀ w ∈ u_ws RX6 TX6 32, w ∈ wsX6_protect := by decide +kernel
  refine lv_aload_n hx hb dX6_protect_0 rfl (lv_at hl 0 rfl) ?_
  refine lv_iload_n hx hb dX6_protect_1 rfl (lv_at hl 1 rfl) ?_
  refine va_put (D := G) (ci := 6) (v := .int a1) (ty := .boolean) (C := RX6) (T := TX6) (N := 32) hx hb hts hi_6 tyX6 tyX6_ok nmX6 hown hK hP hD hS 0 rfl rfl 1 (by decide) hfl_181 (fun _ h9 => h9) rfl (by decide +kernel) (fk_nb hb_a1) (fk_fb hb_a1) (Nat.le_of_ble_eq_true rfl) dX6_protect_2 (fun H locs hP hD hS => ?_)
  have hP : va_P G vwCl ((fk_mW q k) (upd z0.1 1 a1, z0.2)) H := hP
  have hD : va_D A ((fk_mW q k) (upd z0.1 1 a1, z0.2)) := hD
  exact fk_vret hx hb hr hlk hK hP hD hS (Eq.symm (by rw [fX6_protect] <;> rfl)) dX6_protect_5
-- FloppyDeskModel.spoil(II)Z
set_option maxHeartbeats 4000000 in
set_option maxRecDepth 100000 in
theorem c_X6_spoil (l : Launch) (G : va_G) (q : Nat → Nat) (k : Nat → ClassId) (sz : Nat) (z0 : fk_M) (a1 : Int32) (a2 : Int32) : fk_Mi l yX6_spoil wsX6_spoil ({ frames := 0, cells := 0, slots := 0, locals := 0 } : Room) G (fk_mW q k) (fk_mT k) [.ref (q 0), .int a1, .int a2] sz z0 (fX6_spoil z0 a1 a2) := by
  refine fk_head (cc := cX6_spoil) (maxL := 3) (ret := (some .boolean)) (QQ := fun A => va_Qi (fun r z1 => (r, z1) = fX6_spoil z0 a1 a2) (fk_At G (fk_mW q k) (fk_mT k) A) A) (by decide) rfl (Nat.le_of_ble_eq_true rfl) ?_ sz
  intro p e s m below meth c A ls hx hb hr hlk hml hown hts hK hN hA hP hD hS hl
  have hown : s.vm.findClass RX6 = some m.cls := hown
  have F9 : CallFix p m c cX6_spoil 3 s ([.ref (q 0), .int a1, .int a2] : List Value).toArray wsX6_spoil RX6 := ⟨hx, hb, hml, hown, hts⟩
  have hl : lv_has ls 3 [(0, .ref (q 0)), (1, .int a1), (2, .int a2)] := hl
  have hfl_7 := hts (.fieldLink RX6 7 "FloppyDeskModel" "cell" "[Z") (by decide +kernel)
  have hi_6 : ∀ w ∈ u_ws RX6 TX6 32, w ∈ wsX6_spoil := by decide +kernel
  refine lv_iload_n hx hb dX6_spoil_0 rfl (lv_at hl 1 rfl) ?_
  refine lv_if_lt (tgt := 20) hx hb dX6_spoil_1 (by decide) (fun c1 => ?_) (fun c1 => ?_)
  · refine lv_iconst (v := 0) hx hb dX6_spoil_20 (by decide) ?_
    exact fk_iret hx hb hr hlk hK hP hD hS rfl (Eq.symm (by rw [fX6_spoil, if_pos c1] <;> rfl)) dX6_spoil_21
  · refine lv_iload_n hx hb dX6_spoil_4 rfl (lv_at hl 1 rfl) ?_
    refine lv_iconst (v := 3) hx hb dX6_spoil_5 (by decide) ?_
    refine lv_icmp_gt (tgt := 20) hx hb dX6_spoil_6 (by decide) (fun c6 => ?_) (fun c6 => ?_)
    · refine lv_iconst (v := 0) hx hb dX6_spoil_20 (by decide) ?_
      exact fk_iret hx hb hr hlk hK hP hD hS rfl (Eq.symm (by rw [fX6_spoil, if_neg c1, if_pos c6] <;> rfl)) dX6_spoil_21
    · refine lv_iload_n hx hb dX6_spoil_9 rfl (lv_at hl 2 rfl) ?_
      refine lv_if_lt (tgt := 20) hx hb dX6_spoil_10 (by decide) (fun c10 => ?_) (fun c10 => ?_)
      · refine lv_iconst (v := 0) hx hb dX6_spoil_20 (by decide) ?_
        exact fk_iret hx hb hr hlk hK hP hD hS rfl (Eq.symm (by rw [fX6_spoil, if_neg c1, if_neg c6, if_pos c10] <;> rfl)) dX6_spoil_21
      · refine lv_iload_n hx hb dX6_spoil_13 rfl (lv_at hl 2 rfl) ?_
        refine lv_sipush (v := 2400) hx hb dX6_spoil_14 (by decide) ?_
        refine lv_icmp_lt (tgt := 22) hx hb dX6_spoil_17 (by decide) (fun c17 => ?_) (fun c17 => ?_)
        · refine lv_aload_n hx hb dX6_spoil_22 rfl (lv_at hl 0 rfl) ?_
          refine va_get (D := G) (ci := 6) (v := .ref (q 1)) (C := RX6) (T := TX6) (N := 32) hx hb hts hi_6 hown hK hP 0 rfl rfl 0 (by decide) hfl_7 (fun _ h9 => h9) rfl dX6_spoil_23 ?_
          refine lv_sipush (v := 2400) hx hb dX6_spoil_26 (by decide) ?_
          refine lv_iload_n hx hb dX6_spoil_29 rfl (lv_at hl 1 rfl) ?_
          refine lv_imul hx hb dX6_spoil_30 ?_
          refine lv_iload_n hx hb dX6_spoil_31 rfl (lv_at hl 2 rfl) ?_
          refine lv_iadd hx hb dX6_spoil_32 ?_
          refine lv_aload_n hx hb dX6_spoil_33 rfl (lv_at hl 0 rfl) ?_
          refine va_get (D := G) (ci := 6) (v := .ref (q 1)) (C := RX6) (T := TX6) (N := 32) hx hb hts hi_6 hown hK hP 0 rfl rfl 0 (by decide) hfl_7 (fun _ h9 => h9) rfl dX6_spoil_34 ?_
          refine lv_sipush (v := 2400) hx hb dX6_spoil_37 (by decide) ?_
          refine lv_iload_n hx hb dX6_spoil_40 rfl (lv_at hl 1 rfl) ?_
          refine lv_imul hx hb dX6_spoil_41 ?_
          refine lv_iload_n hx hb dX6_spoil_42 rfl (lv_at hl 2 rfl) ?_
          refine lv_iadd hx hb dX6_spoil_43 ?_
          have hin_44 : vp_in ((2400 * a1) + a2) 9600 := by exact fk_in5 c1 c6 c10 c17
          refine va_zald (f := z0.2.1) hx hb hK hP 1 0 rfl rfl hin_44 dX6_spoil_44 ?_
          refine lv_if_ne (tgt := 52) hx hb dX6_spoil_45 (by decide) (fun c45 => ?_) (fun c45 => ?_)
          · refine lv_iconst (v := 0) hx hb dX6_spoil_52 (by decide) ?_
            have hin_53 : vp_in ((2400 * a1) + a2) 9600 := by exact fk_in5 c1 c6 c10 c17
            refine va_zast (f := z0.2.1) (x := 0) hx hb hK hP hD hS 1 0 rfl rfl hin_53 dX6_spoil_53 (fun H locs hP hD hS => ?_)
            rw [show vp_nar .boolean 0 = 0 from by decide] at hP hD
            have hP : va_P G vwCl ((fk_mW q k) (z0.1, upd z0.2.1 ((2400 * a1) + a2).toNatClampNeg 0, z0.2.2.1, z0.2.2.2)) H := hP
            have hD : va_D A ((fk_mW q k) (z0.1, upd z0.2.1 ((2400 * a1) + a2).toNatClampNeg 0, z0.2.2.1, z0.2.2.2)) := hD
            refine lv_iconst (v := 1) hx hb dX6_spoil_54 (by decide) ?_
            exact fk_iret hx hb hr hlk hK hP hD hS rfl (Eq.symm (by rw [fX6_spoil, if_neg c1, if_neg c6, if_neg c10, if_pos c17, if_neg c45] <;> rfl)) dX6_spoil_55
          · refine lv_iconst (v := 1) hx hb dX6_spoil_48 (by decide) ?_
            refine lv_goto (tgt := 53) hx hb dX6_spoil_49 (by decide) ?_
            have hin_53 : vp_in ((2400 * a1) + a2) 9600 := by exact fk_in5 c1 c6 c10 c17
            refine va_zast (f := z0.2.1) (x := 1) hx hb hK hP hD hS 1 0 rfl rfl hin_53 dX6_spoil_53 (fun H locs hP hD hS => ?_)
            rw [show vp_nar .boolean 1 = 1 from by decide] at hP hD
            have hP : va_P G vwCl ((fk_mW q k) (z0.1, upd z0.2.1 ((2400 * a1) + a2).toNatClampNeg 1, z0.2.2.1, z0.2.2.2)) H := hP
            have hD : va_D A ((fk_mW q k) (z0.1, upd z0.2.1 ((2400 * a1) + a2).toNatClampNeg 1, z0.2.2.1, z0.2.2.2)) := hD
            refine lv_iconst (v := 1) hx hb dX6_spoil_54 (by decide) ?_
            exact fk_iret hx hb hr hlk hK hP hD hS rfl (Eq.symm (by rw [fX6_spoil, if_neg c1, if_neg c6, if_neg c10, if_pos c17, if_pos c45] <;> rfl)) dX6_spoil_55
        · refine lv_iconst (v := 0) hx hb dX6_spoil_20 (by decide) ?_
          exact fk_iret hx hb hr hlk hK hP hD hS rfl (Eq.symm (by rw [fX6_spoil, if_neg c1, if_neg c6, if_neg c10, if_neg c17] <;> rfl)) dX6_spoil_21
-- FloppyDeskModel.cells(II)I
set_option maxHeartbeats 4000000 in
set_option maxRecDepth 100000 in
theorem c_X6_cells (l : Launch) (G : va_G) (q : Nat → Nat) (k : Nat → ClassId) (sz : Nat) (z0 : fk_M) (a1 : Int32) (a2 : Int32) : fk_Mp l yX6_cells wsX6_cells ({ frames := 0, cells := 0, slots := 0, locals := 0 } : Room) G (fk_mW q k) (fk_mT k) [.ref (q 0), .int a1, .int a2] sz z0 (fX6_cells z0 a1 a2) := by
  refine fk_head (cc := cX6_cells) (maxL := 5) (ret := (some .int)) (QQ := fun A => va_Qi (fun r (_ : Unit) => r = fX6_cells z0 a1 a2) (fun _ => fk_At G (fk_mW q k) (fk_mT k) A z0) A) (by decide) rfl (Nat.le_of_ble_eq_true rfl) ?_ sz
  intro p e s m below meth c A ls hx hb hr hlk hml hown hts hK hN hA hP hD hS hl
  have hown : s.vm.findClass RX6 = some m.cls := hown
  have F9 : CallFix p m c cX6_cells 5 s ([.ref (q 0), .int a1, .int a2] : List Value).toArray wsX6_cells RX6 := ⟨hx, hb, hml, hown, hts⟩
  have hl : lv_has ls 5 [(0, .ref (q 0)), (1, .int a1), (2, .int a2)] := hl
  have hfl_7 := hts (.fieldLink RX6 7 "FloppyDeskModel" "cell" "[Z") (by decide +kernel)
  have hi_6 : ∀ w ∈ u_ws RX6 TX6 32, w ∈ wsX6_cells := by decide +kernel
  have h27 : ∀ (n : Nat) (j : Nat) (x1 : Int32) (x2 : Int32) (x3 : Int32) (x4 : Int32) (H : Heap) (locs : List Loc) (ls : Array Slot), fX6_cells z0 a1 a2 = fX6_cells_27 n z0 x1 x2 x3 x4 → (x4 = nI j) → (j ≤ 16) → (16 + 1 ≤ j + n) → (¬ x1 < 0) → (¬ 3 < x1) → (¬ x2 < 0) → (x2 < 150) → va_P G vwCl ((fk_mW q k) z0) H → va_D A ((fk_mW q k) z0) → va_S A s.heap H locs → lv_has ls 5 [(0, .ref (q 0)), (1, .int x1), (2, .int x2), (3, .int x3), (4, .int x4)] → W p l e ({ frames := 0, cells := 0, slots := 0, locals := 0 } : Room) s m ([.ref (q 0), .int a1, .int a2] : List Value).toArray below meth c H locs 0 0 (MQ below (va_Qi (fun r (_ : Unit) => r = fX6_cells z0 a1 a2) (fun _ => fk_At G (fk_mW q k) (fk_mT k) A z0) A) ([.ref (q 0), .int a1, .int a2] : List Value).toArray s 0 0 A) (F0 m 27 ls []) := by
    intro n
    induction n with
    | zero =>
      intro j x1 x2 x3 x4 H locs ls hf hj hjN hfu hz1 hz2 hz3 hz4 hP hD hS hl
      exact absurd hfu (by omega)
    | succ n ih =>
      intro j x1 x2 x3 x4 H locs ls hf hj hjN hfu hz1 hz2 hz3 hz4 hP hD hS hl
      have h63 : ∀ (s0 : Int32) (s1 : Int32) (H : Heap) (locs : List Loc) (ls : Array Slot), fX6_cells z0 a1 a2 = fX6_cells_63 (fX6_cells_27 n) z0 x1 x2 x4 s0 s1 → (j < 16) → va_P G vwCl ((fk_mW q k) z0) H → va_D A ((fk_mW q k) z0) → va_S A s.heap H locs → lv_has ls 5 [(0, .ref (q 0)), (1, .int x1), (2, .int x2), (4, .int x4)] → W p l e ({ frames := 0, cells := 0, slots := 0, locals := 0 } : Room) s m ([.ref (q 0), .int a1, .int a2] : List Value).toArray below meth c H locs 0 0 (MQ below (va_Qi (fun r (_ : Unit) => r = fX6_cells z0 a1 a2) (fun _ => fk_At G (fk_mW q k) (fk_mT k) A z0) A) ([.ref (q 0), .int a1, .int a2] : List Value).toArray s 0 0 A) (F0 m 63 ls [.int s1, .int s0]) := by
        intro s0 s1 H locs ls hf hlt hP hD hS hl
        refine lv_ior hx hb dX6_cells_63 ?_
        refine lv_istore_n (lv' := [(3, .int (s0 ||| s1)), (0, .ref (q 0)), (1, .int x1), (2, .int x2), (4, .int x4)]) hx hb dX6_cells_64 rfl hl (by decide) rfl (fun ls hl => ?_)
        refine lv_iinc (v := x4 + 1) (lv' := [(4, .int (x4 + 1)), (3, .int (s0 ||| s1)), (0, .ref (q 0)), (1, .int x1), (2, .int x2)]) hx hb dX6_cells_65 hl (k := 4) rfl (by rfl) (by decide) rfl (fun ls hl => ?_)
        refine lv_goto (tgt := 27) hx hb dX6_cells_68 (by decide) ?_
        exact ih (j + 1) x1 x2 (s0 ||| s1) (x4 + 1) _ _ ls (by rw [hf, fX6_cells_63] <;> rfl) (fk_up1 hj) (by omega) (by omega) hz1 hz2 hz3 hz4 hP hD hS (lv_sub hl [2, 3, 4, 1, 0] rfl)
      refine lv_iload hx hb dX6_cells_27 (lv_at hl 4 rfl) ?_
      refine lv_bipush (v := 16) hx hb dX6_cells_29 (by decide) ?_
      refine lv_icmp_ge (tgt := 71) hx hb dX6_cells_31 (by decide) (fun c31 => ?_) (fun c31 => ?_)
      · refine lv_iload_n hx hb dX6_cells_71 rfl (lv_at hl 3 rfl) ?_
        exact fk_pret hx hb hr hlk hK hP hD hS rfl (Eq.symm (by rw [hf, fX6_cells_27, if_pos c31] <;> rfl)) dX6_cells_72
      · have hlt : j < 16 := fk_up hj (by decide) (by omega) c31
        refine lv_iload_n hx hb dX6_cells_34 rfl (lv_at hl 3 rfl) ?_
        refine lv_iconst (v := 1) hx hb dX6_cells_35 (by decide) ?_
        refine lv_ishl hx hb dX6_cells_36 ?_
        refine lv_aload_n hx hb dX6_cells_37 rfl (lv_at hl 0 rfl) ?_
        refine va_get (D := G) (ci := 6) (v := .ref (q 1)) (C := RX6) (T := TX6) (N := 32) hx hb hts hi_6 hown hK hP 0 rfl rfl 0 (by decide) hfl_7 (fun _ h9 => h9) rfl dX6_cells_38 ?_
        refine lv_sipush (v := 2400) hx hb dX6_cells_41 (by decide) ?_
        refine lv_iload_n hx hb dX6_cells_44 rfl (lv_at hl 1 rfl) ?_
        refine lv_imul hx hb dX6_cells_45 ?_
        refine lv_bipush (v := 16) hx hb dX6_cells_46 (by decide) ?_
        refine lv_iload_n hx hb dX6_cells_48 rfl (lv_at hl 2 rfl) ?_
        refine lv_imul hx hb dX6_cells_49 ?_
        refine lv_iadd hx hb dX6_cells_50 ?_
        refine lv_iload hx hb dX6_cells_51 (lv_at hl 4 rfl) ?_
        refine lv_iadd hx hb dX6_cells_53 ?_
        have hin_54 : vp_in (((2400 * x1) + (16 * x2)) + x4) 9600 := by exact fk_in6 hz1 hz2 hz3 hz4 hj hlt
        refine va_zald (f := z0.2.1) hx hb hK hP 1 0 rfl rfl hin_54 dX6_cells_54 ?_
        refine lv_if_eq (tgt := 62) hx hb dX6_cells_55 (by decide) (fun c55 => ?_) (fun c55 => ?_)
        · refine lv_iconst (v := 0) hx hb dX6_cells_62 (by decide) ?_
          exact h63 (x3 <<< ((1 : Int32) &&& 31)) 0 _ _ ls (by rw [hf, fX6_cells_27, if_neg c31, if_pos c55] <;> rfl) hlt hP hD hS (lv_sub hl [0, 1, 2, 4] rfl)
        · refine lv_iconst (v := 1) hx hb dX6_cells_58 (by decide) ?_
          refine lv_goto (tgt := 63) hx hb dX6_cells_59 (by decide) ?_
          exact h63 (x3 <<< ((1 : Int32) &&& 31)) 1 _ _ ls (by rw [hf, fX6_cells_27, if_neg c31, if_neg c55] <;> rfl) hlt hP hD hS (lv_sub hl [0, 1, 2, 4] rfl)
  refine lv_iload_n hx hb dX6_cells_0 rfl (lv_at hl 1 rfl) ?_
  refine lv_if_lt (tgt := 20) hx hb dX6_cells_1 (by decide) (fun c1 => ?_) (fun c1 => ?_)
  · refine lv_iconst (v := (-1)) hx hb dX6_cells_20 (by decide) ?_
    exact fk_pret hx hb hr hlk hK hP hD hS rfl (Eq.symm (by rw [fX6_cells, if_pos c1] <;> rfl)) dX6_cells_21
  · refine lv_iload_n hx hb dX6_cells_4 rfl (lv_at hl 1 rfl) ?_
    refine lv_iconst (v := 3) hx hb dX6_cells_5 (by decide) ?_
    refine lv_icmp_gt (tgt := 20) hx hb dX6_cells_6 (by decide) (fun c6 => ?_) (fun c6 => ?_)
    · refine lv_iconst (v := (-1)) hx hb dX6_cells_20 (by decide) ?_
      exact fk_pret hx hb hr hlk hK hP hD hS rfl (Eq.symm (by rw [fX6_cells, if_neg c1, if_pos c6] <;> rfl)) dX6_cells_21
    · refine lv_iload_n hx hb dX6_cells_9 rfl (lv_at hl 2 rfl) ?_
      refine lv_if_lt (tgt := 20) hx hb dX6_cells_10 (by decide) (fun c10 => ?_) (fun c10 => ?_)
      · refine lv_iconst (v := (-1)) hx hb dX6_cells_20 (by decide) ?_
        exact fk_pret hx hb hr hlk hK hP hD hS rfl (Eq.symm (by rw [fX6_cells, if_neg c1, if_neg c6, if_pos c10] <;> rfl)) dX6_cells_21
      · refine lv_iload_n hx hb dX6_cells_13 rfl (lv_at hl 2 rfl) ?_
        refine lv_sipush (v := 150) hx hb dX6_cells_14 (by decide) ?_
        refine lv_icmp_lt (tgt := 22) hx hb dX6_cells_17 (by decide) (fun c17 => ?_) (fun c17 => ?_)
        · refine lv_iconst (v := 0) hx hb dX6_cells_22 (by decide) ?_
          refine lv_istore_n (lv' := [(3, .int 0), (0, .ref (q 0)), (1, .int a1), (2, .int a2)]) hx hb dX6_cells_23 rfl hl (by decide) rfl (fun ls hl => ?_)
          refine lv_iconst (v := 0) hx hb dX6_cells_24 (by decide) ?_
          refine lv_istore (lv' := [(4, .int 0), (3, .int 0), (0, .ref (q 0)), (1, .int a1), (2, .int a2)]) hx hb dX6_cells_25 hl (by decide) rfl (fun ls hl => ?_)
          exact h27 17 0 a1 a2 0 0 _ _ ls (by rw [fX6_cells, if_neg c1, if_neg c6, if_neg c10, if_pos c17] <;> rfl) (by decide) (by omega) (by omega) c1 c6 c10 c17 hP hD hS (lv_sub hl [2, 3, 4, 1, 0] rfl)
        · refine lv_iconst (v := (-1)) hx hb dX6_cells_20 (by decide) ?_
          exact fk_pret hx hb hr hlk hK hP hD hS rfl (Eq.symm (by rw [fX6_cells, if_neg c1, if_neg c6, if_neg c10, if_neg c17] <;> rfl)) dX6_cells_21
-- FloppyDeskModel.look(I)I
set_option maxHeartbeats 4000000 in
set_option maxRecDepth 100000 in
theorem c_X6_look (l : Launch) (G : va_G) (q : Nat → Nat) (k : Nat → ClassId) (sz : Nat) (z0 : fk_M) (a1 : Int32) : fk_Mp l yX6_look wsX6_look ({ frames := 0, cells := 0, slots := 0, locals := 0 } : Room) G (fk_mW q k) (fk_mT k) [.ref (q 0), .int a1] sz z0 (fX6_look z0 a1) := by
  refine fk_head (cc := cX6_look) (maxL := 2) (ret := (some .int)) (QQ := fun A => va_Qi (fun r (_ : Unit) => r = fX6_look z0 a1) (fun _ => fk_At G (fk_mW q k) (fk_mT k) A z0) A) (by decide) rfl (Nat.le_of_ble_eq_true rfl) ?_ sz
  intro p e s m below meth c A ls hx hb hr hlk hml hown hts hK hN hA hP hD hS hl
  have hown : s.vm.findClass RX6 = some m.cls := hown
  have F9 : CallFix p m c cX6_look 2 s ([.ref (q 0), .int a1] : List Value).toArray wsX6_look RX6 := ⟨hx, hb, hml, hown, hts⟩
  have hl : lv_has ls 2 [(0, .ref (q 0)), (1, .int a1)] := hl
  have hfl_21 := hts (.fieldLink RX6 21 "FloppyDeskModel" "latest" "I") (by decide +kernel)
  have hfl_38 := hts (.fieldLink RX6 38 "FloppyDeskModel" "status" "I") (by decide +kernel)
  have hfl_41 := hts (.fieldLink RX6 41 "FloppyDeskModel" "inStep" "Z") (by decide +kernel)
  have hfl_61 := hts (.fieldLink RX6 61 "FloppyDeskModel" "data" "I") (by decide +kernel)
  have hfl_71 := hts (.fieldLink RX6 71 "FloppyDeskModel" "sector" "I") (by decide +kernel)
  have hfl_77 := hts (.fieldLink RX6 77 "FloppyDeskModel" "track" "I") (by decide +kernel)
  have hfl_101 := hts (.fieldLink RX6 101 "FloppyDeskModel" "head" "I") (by decide +kernel)
  have hfl_104 := hts (.fieldLink RX6 104 "FloppyDeskModel" "place" "I") (by decide +kernel)
  have hi_6 : ∀ w ∈ u_ws RX6 TX6 32, w ∈ wsX6_look := by decide +kernel
  refine lv_iload_n hx hb dX6_look_0 rfl (lv_at hl 1 rfl) ?_
  by_cases c1_0 : a1 = 0
  · refine lv_tableIn (tgt := 48) hx hb dX6_look_1 (by rw [c1_0]; decide) (by rw [c1_0]; decide) (off := 47) (by rw [c1_0]; decide) (by decide) ?_
    refine lv_aload_n hx hb dX6_look_48 rfl (lv_at hl 0 rfl) ?_
    refine va_get (D := G) (ci := 6) (v := .int (z0.1 16)) (C := RX6) (T := TX6) (N := 32) hx hb hts hi_6 hown hK hP 0 rfl rfl 16 (by decide) hfl_38 (fun _ h9 => h9) rfl dX6_look_49 ?_
    exact fk_pret hx hb hr hlk hK hP hD hS rfl (Eq.symm (by rw [fX6_look, if_pos c1_0] <;> rfl)) dX6_look_52
  by_cases c1_1 : a1 = 1
  · refine lv_tableIn (tgt := 53) hx hb dX6_look_1 (by rw [c1_1]; decide) (by rw [c1_1]; decide) (off := 52) (by rw [c1_1]; decide) (by decide) ?_
    refine lv_aload_n hx hb dX6_look_53 rfl (lv_at hl 0 rfl) ?_
    refine va_get (D := G) (ci := 6) (v := .int (z0.1 13)) (C := RX6) (T := TX6) (N := 32) hx hb hts hi_6 hown hK hP 0 rfl rfl 13 (by decide) hfl_77 (fun _ h9 => h9) rfl dX6_look_54 ?_
    exact fk_pret hx hb hr hlk hK hP hD hS rfl (Eq.symm (by rw [fX6_look, if_neg c1_0, if_pos c1_1] <;> rfl)) dX6_look_57
  by_cases c1_2 : a1 = 2
  · refine lv_tableIn (tgt := 58) hx hb dX6_look_1 (by rw [c1_2]; decide) (by rw [c1_2]; decide) (off := 57) (by rw [c1_2]; decide) (by decide) ?_
    refine lv_aload_n hx hb dX6_look_58 rfl (lv_at hl 0 rfl) ?_
    refine va_get (D := G) (ci := 6) (v := .int (z0.1 14)) (C := RX6) (T := TX6) (N := 32) hx hb hts hi_6 hown hK hP 0 rfl rfl 14 (by decide) hfl_71 (fun _ h9 => h9) rfl dX6_look_59 ?_
    exact fk_pret hx hb hr hlk hK hP hD hS rfl (Eq.symm (by rw [fX6_look, if_neg c1_0, if_neg c1_1, if_pos c1_2] <;> rfl)) dX6_look_62
  by_cases c1_3 : a1 = 3
  · refine lv_tableIn (tgt := 63) hx hb dX6_look_1 (by rw [c1_3]; decide) (by rw [c1_3]; decide) (off := 62) (by rw [c1_3]; decide) (by decide) ?_
    refine lv_aload_n hx hb dX6_look_63 rfl (lv_at hl 0 rfl) ?_
    refine va_get (D := G) (ci := 6) (v := .int (z0.1 15)) (C := RX6) (T := TX6) (N := 32) hx hb hts hi_6 hown hK hP 0 rfl rfl 15 (by decide) hfl_61 (fun _ h9 => h9) rfl dX6_look_64 ?_
    exact fk_pret hx hb hr hlk hK hP hD hS rfl (Eq.symm (by rw [fX6_look, if_neg c1_0, if_neg c1_1, if_neg c1_2, if_pos c1_3] <;> rfl)) dX6_look_67
  by_cases c1_4 : a1 = 4
  · refine lv_tableIn (tgt := 68) hx hb dX6_look_1 (by rw [c1_4]; decide) (by rw [c1_4]; decide) (off := 67) (by rw [c1_4]; decide) (by decide) ?_
    refine lv_aload_n hx hb dX6_look_68 rfl (lv_at hl 0 rfl) ?_
    refine va_get (D := G) (ci := 6) (v := .int (z0.1 2)) (C := RX6) (T := TX6) (N := 32) hx hb hts hi_6 hown hK hP 0 rfl rfl 2 (by decide) hfl_101 (fun _ h9 => h9) rfl dX6_look_69 ?_
    exact fk_pret hx hb hr hlk hK hP hD hS rfl (Eq.symm (by rw [fX6_look, if_neg c1_0, if_neg c1_1, if_neg c1_2, if_neg c1_3, if_pos c1_4] <;> rfl)) dX6_look_72
  by_cases c1_5 : a1 = 5
  · refine lv_tableIn (tgt := 73) hx hb dX6_look_1 (by rw [c1_5]; decide) (by rw [c1_5]; decide) (off := 72) (by rw [c1_5]; decide) (by decide) ?_
    refine lv_aload_n hx hb dX6_look_73 rfl (lv_at hl 0 rfl) ?_
    refine va_get (D := G) (ci := 6) (v := .int (z0.1 3)) (C := RX6) (T := TX6) (N := 32) hx hb hts hi_6 hown hK hP 0 rfl rfl 3 (by decide) hfl_104 (fun _ h9 => h9) rfl dX6_look_74 ?_
    exact fk_pret hx hb hr hlk hK hP hD hS rfl (Eq.symm (by rw [fX6_look, if_neg c1_0, if_neg c1_1, if_neg c1_2, if_neg c1_3, if_neg c1_4, if_pos c1_5] <;> rfl)) dX6_look_77
  by_cases c1_6 : a1 = 6
  · refine lv_tableIn (tgt := 78) hx hb dX6_look_1 (by rw [c1_6]; decide) (by rw [c1_6]; decide) (off := 77) (by rw [c1_6]; decide) (by decide) ?_
    refine lv_aload_n hx hb dX6_look_78 rfl (lv_at hl 0 rfl) ?_
    refine va_get (D := G) (ci := 6) (v := .int (z0.1 5)) (C := RX6) (T := TX6) (N := 32) hx hb hts hi_6 hown hK hP 0 rfl rfl 5 (by decide) hfl_41 (fun _ h9 => h9) rfl dX6_look_79 ?_
    refine lv_if_eq (tgt := 89) hx hb dX6_look_82 (by decide) (fun c82 => ?_) (fun c82 => ?_)
    · refine lv_iconst (v := 0) hx hb dX6_look_89 (by decide) ?_
      exact fk_pret hx hb hr hlk hK hP hD hS rfl (Eq.symm (by rw [fX6_look, if_neg c1_0, if_neg c1_1, if_neg c1_2, if_neg c1_3, if_neg c1_4, if_neg c1_5, if_pos c1_6, if_pos c82] <;> rfl)) dX6_look_90
    · refine lv_iconst (v := 1) hx hb dX6_look_85 (by decide) ?_
      refine lv_goto (tgt := 90) hx hb dX6_look_86 (by decide) ?_
      exact fk_pret hx hb hr hlk hK hP hD hS rfl (Eq.symm (by rw [fX6_look, if_neg c1_0, if_neg c1_1, if_neg c1_2, if_neg c1_3, if_neg c1_4, if_neg c1_5, if_pos c1_6, if_neg c82] <;> rfl)) dX6_look_90
  by_cases c1_7 : a1 = 7
  · refine lv_tableIn (tgt := 91) hx hb dX6_look_1 (by rw [c1_7]; decide) (by rw [c1_7]; decide) (off := 90) (by rw [c1_7]; decide) (by decide) ?_
    refine lv_aload_n hx hb dX6_look_91 rfl (lv_at hl 0 rfl) ?_
    refine va_get (D := G) (ci := 6) (v := .int (z0.1 17)) (C := RX6) (T := TX6) (N := 32) hx hb hts hi_6 hown hK hP 0 rfl rfl 17 (by decide) hfl_21 (fun _ h9 => h9) rfl dX6_look_92 ?_
    exact fk_pret hx hb hr hlk hK hP hD hS rfl (Eq.symm (by rw [fX6_look, if_neg c1_0, if_neg c1_1, if_neg c1_2, if_neg c1_3, if_neg c1_4, if_neg c1_5, if_neg c1_6, if_pos c1_7] <;> rfl)) dX6_look_95
  have e1_0 := lv_neT c1_0 (a := 0) (by decide)
  have e1_1 := lv_neT c1_1 (a := 1) (by decide)
  have e1_2 := lv_neT c1_2 (a := 2) (by decide)
  have e1_3 := lv_neT c1_3 (a := 3) (by decide)
  have e1_4 := lv_neT c1_4 (a := 4) (by decide)
  have e1_5 := lv_neT c1_5 (a := 5) (by decide)
  have e1_6 := lv_neT c1_6 (a := 6) (by decide)
  have e1_7 := lv_neT c1_7 (a := 7) (by decide)
  refine lv_tableOut (tgt := 96) hx hb dX6_look_1 (by omega) (by decide) ?_
  refine lv_iconst (v := (-1)) hx hb dX6_look_96 (by decide) ?_
  exact fk_pret hx hb hr hlk hK hP hD hS rfl (Eq.symm (by rw [fX6_look, if_neg c1_0, if_neg c1_1, if_neg c1_2, if_neg c1_3, if_neg c1_4, if_neg c1_5, if_neg c1_6, if_neg c1_7] <;> rfl)) dX6_look_97
