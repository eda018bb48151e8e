theorem fk_L3 {i L : Nat} (h : L < i + 3) (hi : i < 2 ^ 20) (hL : L < 2 ^ 20) : Int32.ofNat L - 3 < nI i := by
  rw [Int32.lt_iff_toInt_lt, show (3 : Int32) = nI 3 from by decide]
  have h1 : (Int32.ofNat L - nI 3).toInt = (L : Int) - 3 := pk_sub_toInt (a := L) (b := 3) (by omega) (by omega)
  rw [h1, nI_toInt (by omega)]
  omega
set_option maxHeartbeats 8000000 in
set_option maxRecDepth 100000 in
/-- THE LAW'S LOOP -/
theorem law_loop {p : Program} {l : Launch} {e : Env} {s : State} {m : MethodId} {below : List Frame} {meth : Method} {c : Code} {G : va_G} {b L : Nat} {xs : Nat → Int32} (hL : L ≤ 192) (C0 : lw_At p s m meth c b L xs) (hN : fk_N s) (q1 q2 : Nat → Nat) (k1 k2 : Nat → ClassId) (hK1 : va_K G vwCl (fk_cT k1) s) (hK2 : va_K G vwCl (fk_mT k2) s) :
    ∀ (n i T : Nat) (x3 : Int32) (z : fk_C) (y : fk_M) (H : Heap) (locs : List Loc) (ls : Array Slot), i ≤ L → L + 1 ≤ i + n → x3 = nI i → T ≤ 200 * i → fR T z y → va_P G vwCl (fk_cW q1 k1 z) H → va_P G vwCl (fk_mW q2 k2 y) H → va_D (fun q : Nat => s.heap.size ≤ q) (fk_cW q1 k1 z ++ fk_mW q2 k2 y) → va_S (fun q : Nat => s.heap.size ≤ q) s.heap H locs → lv_has ls 4 [(0, .ref b), (1, .ref (q1 0)), (2, .ref (q2 0)), (3, .int x3)] → W p l e room_1 s m #[Value.ref b] below meth c H locs 12 10716 (lw_Z below #[Value.ref b] s) (F0 m 18 ls []) := by
  obtain ⟨hx, hb, hr, hml, hown, hts0, hX, hbl, hlocks, hgv⟩ := C0
  have hts : ∀ w ∈ wsL_law, w.before #[Value.ref b] s = true := fun w h => hts0 w (wsL_law_in w h)
  have hown : s.vm.findClass RL = some m.cls := hown
  have F9 : CallFix p m c code 4 s #[Value.ref b] wsL_law RL := ⟨hx, hb, hml, hown, hts⟩
  have hA : ∀ q : Nat, s.heap.size ≤ q → (fun q : Nat => s.heap.size ≤ q) q := fun _ h => h
  have hbA : ¬ (fun q : Nat => s.heap.size ≤ q) b := Nat.not_le.mpr hbl
  intro n
  induction n with
  | zero =>
    intro i T x3 z y H locs ls h1 h2
    exact absurd h2 (by omega)
  | succ n ih =>
    intro i T x3 z y H locs ls hi hfu ex hT hR hP1 hP2 hD hS hl
    refine lv_iload_n hx hb dL_law_18 rfl (lv_at hl 3 rfl) ?_
    refine lv_aload_n hx hb dL_law_19 rfl (lv_at hl 0 rfl) ?_
    refine va_slen hx hb hX hbl hbA hS dL_law_20 ?_
    refine lv_iconst (v := 3) hx hb dL_law_21 (by decide) ?_
    refine lv_isub hx hb dL_law_22 ?_
    refine lv_icmp_gt (tgt := 480) hx hb dL_law_23 (by decide) (fun c23 => ?_) (fun c23 => ?_)
    · refine lv_iconst (v := 1) hx hb dL_law_480 (by decide) ?_
      refine va_forget (fun q hq => hS.2.2 q hq) ?_
      exact lw_ret hx hb hr hlocks dL_law_481
    · have hlt : i + 3 ≤ L := by
        rcases Nat.lt_or_ge L (i + 3) with q | q
        · exfalso
          apply c23
          rw [ex]
          exact fk_L3 q (by omega) (by omega)
        · exact q
      have hi0 : vp_in x3 L := by rw [ex]; exact vp_in_nI (by omega) (by omega)
      have e1 : x3 + 1 = nI (i + 1) := fk_up1 ex
      have e2 : x3 + 2 = nI (i + 2) := by rw [ex, show (2 : Int32) = nI 2 from by decide, nI_add]
      have e3 : x3 + 3 = nI (i + 3) := by rw [ex, show (3 : Int32) = nI 3 from by decide, nI_add]
      have hi1 : vp_in (x3 + 1) L := by rw [e1]; exact vp_in_nI (by omega) (by omega)
      have hi2 : vp_in (x3 + 2) L := by rw [e2]; exact vp_in_nI (by omega) (by omega)
      have hend : ∀ (z : fk_C) (y : fk_M) (H : Heap) (locs : List Loc) (ls : Array Slot), fR (T + 200) z y → va_P G vwCl (fk_cW q1 k1 z) H → va_P G vwCl (fk_mW q2 k2 y) H → va_D (fun q : Nat => s.heap.size ≤ q) (fk_cW q1 k1 z ++ fk_mW q2 k2 y) → va_S (fun q : Nat => s.heap.size ≤ q) s.heap H locs → lv_has ls 4 [(0, .ref b), (1, .ref (q1 0)), (2, .ref (q2 0)), (3, .int x3)] → W p l e room_1 s m #[Value.ref b] below meth c H locs 12 10716 (lw_Z below #[Value.ref b] s) (F0 m 474 ls []) := by
        intro z y H locs ls hR hP1 hP2 hD hS hl
        refine lv_iinc (v := x3 + 3) (lv' := [(3, .int (x3 + 3)), (0, .ref b), (1, .ref (q1 0)), (2, .ref (q2 0))]) hx hb dL_law_474 hl (k := 3) rfl (by rfl) (by decide) rfl (fun ls hl => ?_)
        refine lv_goto (tgt := 18) hx hb dL_law_477 (by decide) ?_
        exact ih (i + 3) (T + 200) (x3 + 3) z y _ _ ls hlt (by omega) e3 (by omega) hR hP1 hP2 hD hS (lv_sub hl [1, 2, 3, 0] rfl)
      refine lv_aload_n hx hb dL_law_26 rfl (lv_at hl 0 rfl) ?_
      refine lv_iload_n hx hb dL_law_27 rfl (lv_at hl 3 rfl) ?_
      refine va_sld hx hb hX hbl hbA hS hi0 dL_law_28 ?_
      refine lv_bipush (v := 15) hx hb dL_law_29 (by decide) ?_
      refine lv_iand hx hb dL_law_31 ?_
      obtain ⟨j, hj, ej⟩ := pk_andE (xs x3.toNatClampNeg) (m := 15) 4 (by decide)
      rw [ej]
      have hj : j < 16 := hj
      clear ej
      rcases (show j = 0 ∨ j = 1 ∨ j = 2 ∨ j = 3 ∨ j = 4 ∨ j = 5 ∨ j = 6 ∨ j = 7 ∨ j = 8 ∨ j = 9 ∨ j = 10 ∨ j = 11 ∨ j = 12 ∨ j = 13 ∨ j = 14 ∨ j = 15 by omega) with rfl | rfl | rfl | rfl | rfl | rfl | rfl | rfl | rfl | rfl | rfl | rfl | rfl | rfl | rfl | rfl
      · refine lv_tableIn (tgt := 104) hx hb dL_law_32 (by decide) (by decide) (off := 72) (by decide) (by decide) ?_
        refine lv_aload_n hx hb dL_law_104 rfl (lv_at hl 1 rfl) ?_
        refine lv_aload_n hx hb dL_law_105 rfl (lv_at hl 0 rfl) ?_
        refine lv_iload_n hx hb dL_law_106 rfl (lv_at hl 3 rfl) ?_
        refine lv_iconst (v := 1) hx hb dL_law_107 (by decide) ?_
        refine lv_iadd hx hb dL_law_108 ?_
        refine va_sld hx hb hX hbl hbA hS hi1 dL_law_109 ?_
        refine lv_aload_n hx hb dL_law_110 rfl (lv_at hl 0 rfl) ?_
        refine lv_iload_n hx hb dL_law_111 rfl (lv_at hl 3 rfl) ?_
        refine lv_iconst (v := 2) hx hb dL_law_112 (by decide) ?_
        refine lv_iadd hx hb dL_law_113 ?_
        refine va_sld hx hb hX hbl hbA hS hi2 dL_law_114 ?_
        refine lv_if_eq (tgt := 122) hx hb dL_law_115 (by decide) (fun cb => ?_) (fun cb => ?_)
        · refine lv_iconst (v := 0) hx hb dL_law_122 (by decide) ?_
          refine fk_2i (Wd := (fk_cW q1 k1)) (z := z) (As := [.int (xs (x3 + 1).toNatClampNeg), .int 0]) (rest := []) F9 (c_X5_command l G q1 k1 _ z (xs (x3 + 1).toNatClampNeg) 0 (Or.inl rfl)) (cwV 2 hts gL_law_X5_command rfl rfl rfl (by decide +kernel) ⟨Nat.le_of_ble_eq_true rfl, Nat.le_of_ble_eq_true rfl⟩) (va_recv hK1 hP1 (ci := 5) (q0 := 0) rfl rfl) hK1 hP1 hP2 hD hS hA hN rfl hl.1 rfl (Nat.le_of_ble_eq_true rfl) dL_law_123 ⟨Nat.le_of_ble_eq_true rfl, Nat.le_of_ble_eq_true rfl⟩ (fun r1 zn H locs hw1 hP1 hP2 hD hS => ?_)
          refine lv_aload_n hx hb dL_law_126 rfl (lv_at hl 2 rfl) ?_
          refine lv_aload_n hx hb dL_law_127 rfl (lv_at hl 0 rfl) ?_
          refine lv_iload_n hx hb dL_law_128 rfl (lv_at hl 3 rfl) ?_
          refine lv_iconst (v := 1) hx hb dL_law_129 (by decide) ?_
          refine lv_iadd hx hb dL_law_130 ?_
          refine va_sld hx hb hX hbl hbA hS hi1 dL_law_131 ?_
          refine lv_aload_n hx hb dL_law_132 rfl (lv_at hl 0 rfl) ?_
          refine lv_iload_n hx hb dL_law_133 rfl (lv_at hl 3 rfl) ?_
          refine lv_iconst (v := 2) hx hb dL_law_134 (by decide) ?_
          refine lv_iadd hx hb dL_law_135 ?_
          refine va_sld hx hb hX hbl hbA hS hi2 dL_law_136 ?_
          refine lv_if_eq (tgt := 144) hx hb dL_law_137 (by decide) (fun _ => ?_) (fun h9 => absurd cb h9)
          refine lv_iconst (v := 0) hx hb dL_law_144 (by decide) ?_
          refine fk_2i (Wd := (fk_mW q2 k2)) (z := y) (As := [.int (xs (x3 + 1).toNatClampNeg), .int 0]) (rest := [.int r1]) F9 (c_X6_command l G q2 k2 _ y (xs (x3 + 1).toNatClampNeg) 0 (Or.inl rfl)) (cwV 2 hts gL_law_X6_command rfl rfl rfl (by decide +kernel) ⟨Nat.le_of_ble_eq_true rfl, Nat.le_of_ble_eq_true rfl⟩) (va_recv hK2 hP2 (ci := 6) (q0 := 0) rfl rfl) hK2 hP2 hP1 (fk_Dw hD) hS hA hN rfl hl.1 rfl (Nat.le_of_ble_eq_true rfl) dL_law_145 ⟨Nat.le_of_ble_eq_true rfl, Nat.le_of_ble_eq_true rfl⟩ (fun r2 yn H locs hw2 hP2 hP1 hD hS => ?_)
          have hD := fk_Dw hD
          have hR3 := fR_command hR (xs (x3 + 1).toNatClampNeg) 0
          rw [← hw1, ← hw2] at hR3
          obtain ⟨hE, hR⟩ := hR3
          have hE : r1 = r2 := hE
          have hR : fR (T + 200) zn yn := fR_up hR
          refine lv_icmp_eq (tgt := 474) hx hb dL_law_148 (by decide) (fun _ => ?_) (fun h9 => absurd hE h9)
          exact hend _ _ _ _ _ hR hP1 hP2 hD hS hl
        · refine lv_iconst (v := 1) hx hb dL_law_118 (by decide) ?_
          refine lv_goto (tgt := 123) hx hb dL_law_119 (by decide) ?_
          refine fk_2i (Wd := (fk_cW q1 k1)) (z := z) (As := [.int (xs (x3 + 1).toNatClampNeg), .int 1]) (rest := []) F9 (c_X5_command l G q1 k1 _ z (xs (x3 + 1).toNatClampNeg) 1 (Or.inr rfl)) (cwV 2 hts gL_law_X5_command rfl rfl rfl (by decide +kernel) ⟨Nat.le_of_ble_eq_true rfl, Nat.le_of_ble_eq_true rfl⟩) (va_recv hK1 hP1 (ci := 5) (q0 := 0) rfl rfl) hK1 hP1 hP2 hD hS hA hN rfl hl.1 rfl (Nat.le_of_ble_eq_true rfl) dL_law_123 ⟨Nat.le_of_ble_eq_true rfl, Nat.le_of_ble_eq_true rfl⟩ (fun r1 zn H locs hw1 hP1 hP2 hD hS => ?_)
          refine lv_aload_n hx hb dL_law_126 rfl (lv_at hl 2 rfl) ?_
          refine lv_aload_n hx hb dL_law_127 rfl (lv_at hl 0 rfl) ?_
          refine lv_iload_n hx hb dL_law_128 rfl (lv_at hl 3 rfl) ?_
          refine lv_iconst (v := 1) hx hb dL_law_129 (by decide) ?_
          refine lv_iadd hx hb dL_law_130 ?_
          refine va_sld hx hb hX hbl hbA hS hi1 dL_law_131 ?_
          refine lv_aload_n hx hb dL_law_132 rfl (lv_at hl 0 rfl) ?_
          refine lv_iload_n hx hb dL_law_133 rfl (lv_at hl 3 rfl) ?_
          refine lv_iconst (v := 2) hx hb dL_law_134 (by decide) ?_
          refine lv_iadd hx hb dL_law_135 ?_
          refine va_sld hx hb hX hbl hbA hS hi2 dL_law_136 ?_
          refine lv_if_eq (tgt := 144) hx hb dL_law_137 (by decide) (fun h9 => absurd h9 cb) (fun _ => ?_)
          refine lv_iconst (v := 1) hx hb dL_law_140 (by decide) ?_
          refine lv_goto (tgt := 145) hx hb dL_law_141 (by decide) ?_
          refine fk_2i (Wd := (fk_mW q2 k2)) (z := y) (As := [.int (xs (x3 + 1).toNatClampNeg), .int 1]) (rest := [.int r1]) F9 (c_X6_command l G q2 k2 _ y (xs (x3 + 1).toNatClampNeg) 1 (Or.inr rfl)) (cwV 2 hts gL_law_X6_command rfl rfl rfl (by decide +kernel) ⟨Nat.le_of_ble_eq_true rfl, Nat.le_of_ble_eq_true rfl⟩) (va_recv hK2 hP2 (ci := 6) (q0 := 0) rfl rfl) hK2 hP2 hP1 (fk_Dw hD) hS hA hN rfl hl.1 rfl (Nat.le_of_ble_eq_true rfl) dL_law_145 ⟨Nat.le_of_ble_eq_true rfl, Nat.le_of_ble_eq_true rfl⟩ (fun r2 yn H locs hw2 hP2 hP1 hD hS => ?_)
          have hD := fk_Dw hD
          have hR3 := fR_command hR (xs (x3 + 1).toNatClampNeg) 1
          rw [← hw1, ← hw2] at hR3
          obtain ⟨hE, hR⟩ := hR3
          have hE : r1 = r2 := hE
          have hR : fR (T + 200) zn yn := fR_up hR
          refine lv_icmp_eq (tgt := 474) hx hb dL_law_148 (by decide) (fun _ => ?_) (fun h9 => absurd hE h9)
          exact hend _ _ _ _ _ hR hP1 hP2 hD hS hl
      · refine lv_tableIn (tgt := 153) hx hb dL_law_32 (by decide) (by decide) (off := 121) (by decide) (by decide) ?_
        refine lv_aload_n hx hb dL_law_153 rfl (lv_at hl 1 rfl) ?_
        refine fk_2i (Wd := (fk_cW q1 k1)) (z := z) (As := []) (rest := []) F9 (c_X5_force l G q1 k1 _ z) (cwV 0 hts gL_law_X5_force rfl rfl rfl (by decide +kernel) ⟨Nat.le_of_ble_eq_true rfl, Nat.le_of_ble_eq_true rfl⟩) (va_recv hK1 hP1 (ci := 5) (q0 := 0) rfl rfl) hK1 hP1 hP2 hD hS hA hN rfl hl.1 rfl (Nat.le_of_ble_eq_true rfl) dL_law_154 ⟨Nat.le_of_ble_eq_true rfl, Nat.le_of_ble_eq_true rfl⟩ (fun r1 zn H locs hw1 hP1 hP2 hD hS => ?_)
        refine lv_aload_n hx hb dL_law_157 rfl (lv_at hl 2 rfl) ?_
        refine fk_2i (Wd := (fk_mW q2 k2)) (z := y) (As := []) (rest := [.int r1]) F9 (c_X6_force l G q2 k2 _ y) (cwV 0 hts gL_law_X6_force rfl rfl rfl (by decide +kernel) ⟨Nat.le_of_ble_eq_true rfl, Nat.le_of_ble_eq_true rfl⟩) (va_recv hK2 hP2 (ci := 6) (q0 := 0) rfl rfl) hK2 hP2 hP1 (fk_Dw hD) hS hA hN rfl hl.1 rfl (Nat.le_of_ble_eq_true rfl) dL_law_158 ⟨Nat.le_of_ble_eq_true rfl, Nat.le_of_ble_eq_true rfl⟩ (fun r2 yn H locs hw2 hP2 hP1 hD hS => ?_)
        have hD := fk_Dw hD
        have hR3 := fR_force hR
        rw [← hw1, ← hw2] at hR3
        obtain ⟨hE, hR⟩ := hR3
        have hE : r1 = r2 := hE
        have hR : fR (T + 200) zn yn := fR_up hR
        refine lv_icmp_eq (tgt := 474) hx hb dL_law_161 (by decide) (fun _ => ?_) (fun h9 => absurd hE h9)
        exact hend _ _ _ _ _ hR hP1 hP2 hD hS hl
      · refine lv_tableIn (tgt := 166) hx hb dL_law_32 (by decide) (by decide) (off := 134) (by decide) (by decide) ?_
        refine lv_aload_n hx hb dL_law_166 rfl (lv_at hl 1 rfl) ?_
        refine lv_aload_n hx hb dL_law_167 rfl (lv_at hl 0 rfl) ?_
        refine lv_iload_n hx hb dL_law_168 rfl (lv_at hl 3 rfl) ?_
        refine lv_iconst (v := 1) hx hb dL_law_169 (by decide) ?_
        refine lv_iadd hx hb dL_law_170 ?_
        refine va_sld hx hb hX hbl hbA hS hi1 dL_law_171 ?_
        refine lv_aload_n hx hb dL_law_172 rfl (lv_at hl 0 rfl) ?_
        refine lv_iload_n hx hb dL_law_173 rfl (lv_at hl 3 rfl) ?_
        refine lv_iconst (v := 2) hx hb dL_law_174 (by decide) ?_
        refine lv_iadd hx hb dL_law_175 ?_
        refine va_sld hx hb hX hbl hbA hS hi2 dL_law_176 ?_
        refine fk_2i (Wd := (fk_cW q1 k1)) (z := z) (As := [.int (xs (x3 + 1).toNatClampNeg), .int (xs (x3 + 2).toNatClampNeg)]) (rest := []) F9 (c_X5_set l G q1 k1 _ z (xs (x3 + 1).toNatClampNeg) (xs (x3 + 2).toNatClampNeg)) (cwV 2 hts gL_law_X5_set rfl rfl rfl (by decide +kernel) ⟨Nat.le_of_ble_eq_true rfl, Nat.le_of_ble_eq_true rfl⟩) (va_recv hK1 hP1 (ci := 5) (q0 := 0) rfl rfl) hK1 hP1 hP2 hD hS hA hN rfl hl.1 rfl (Nat.le_of_ble_eq_true rfl) dL_law_177 ⟨Nat.le_of_ble_eq_true rfl, Nat.le_of_ble_eq_true rfl⟩ (fun r1 zn H locs hw1 hP1 hP2 hD hS => ?_)
        refine lv_aload_n hx hb dL_law_180 rfl (lv_at hl 2 rfl) ?_
        refine lv_aload_n hx hb dL_law_181 rfl (lv_at hl 0 rfl) ?_
        refine lv_iload_n hx hb dL_law_182 rfl (lv_at hl 3 rfl) ?_
        refine lv_iconst (v := 1) hx hb dL_law_183 (by decide) ?_
        refine lv_iadd hx hb dL_law_184 ?_
        refine va_sld hx hb hX hbl hbA hS hi1 dL_law_185 ?_
        refine lv_aload_n hx hb dL_law_186 rfl (lv_at hl 0 rfl) ?_
        refine lv_iload_n hx hb dL_law_187 rfl (lv_at hl 3 rfl) ?_
        refine lv_iconst (v := 2) hx hb dL_law_188 (by decide) ?_
        refine lv_iadd hx hb dL_law_189 ?_
        refine va_sld hx hb hX hbl hbA hS hi2 dL_law_190 ?_
        refine fk_2i (Wd := (fk_mW q2 k2)) (z := y) (As := [.int (xs (x3 + 1).toNatClampNeg), .int (xs (x3 + 2).toNatClampNeg)]) (rest := [.int r1]) F9 (c_X6_set l G q2 k2 _ y (xs (x3 + 1).toNatClampNeg) (xs (x3 + 2).toNatClampNeg)) (cwV 2 hts gL_law_X6_set rfl rfl rfl (by decide +kernel) ⟨Nat.le_of_ble_eq_true rfl, Nat.le_of_ble_eq_true rfl⟩) (va_recv hK2 hP2 (ci := 6) (q0 := 0) rfl rfl) hK2 hP2 hP1 (fk_Dw hD) hS hA hN rfl hl.1 rfl (Nat.le_of_ble_eq_true rfl) dL_law_191 ⟨Nat.le_of_ble_eq_true rfl, Nat.le_of_ble_eq_true rfl⟩ (fun r2 yn H locs hw2 hP2 hP1 hD hS => ?_)
        have hD := fk_Dw hD
        have hR3 := fR_set hR (xs (x3 + 1).toNatClampNeg) (xs (x3 + 2).toNatClampNeg)
        rw [← hw1, ← hw2] at hR3
        obtain ⟨hE, hR⟩ := hR3
        have hE : r1 = r2 := hE
        have hR : fR (T + 200) zn yn := fR_up hR
        refine lv_icmp_eq (tgt := 474) hx hb dL_law_194 (by decide) (fun _ => ?_) (fun h9 => absurd hE h9)
        exact hend _ _ _ _ _ hR hP1 hP2 hD hS hl
      · refine lv_tableIn (tgt := 199) hx hb dL_law_32 (by decide) (by decide) (off := 167) (by decide) (by decide) ?_
        refine lv_aload_n hx hb dL_law_199 rfl (lv_at hl 1 rfl) ?_
        refine lv_aload_n hx hb dL_law_200 rfl (lv_at hl 0 rfl) ?_
        refine lv_iload_n hx hb dL_law_201 rfl (lv_at hl 3 rfl) ?_
        refine lv_iconst (v := 1) hx hb dL_law_202 (by decide) ?_
        refine lv_iadd hx hb dL_law_203 ?_
        refine va_sld hx hb hX hbl hbA hS hi1 dL_law_204 ?_
        refine fk_2i (Wd := (fk_cW q1 k1)) (z := z) (As := [.int (xs (x3 + 1).toNatClampNeg)]) (rest := []) F9 (c_X5_give l G q1 k1 _ z (xs (x3 + 1).toNatClampNeg)) (cwV 1 hts gL_law_X5_give rfl rfl rfl (by decide +kernel) ⟨Nat.le_of_ble_eq_true rfl, Nat.le_of_ble_eq_true rfl⟩) (va_recv hK1 hP1 (ci := 5) (q0 := 0) rfl rfl) hK1 hP1 hP2 hD hS hA hN rfl hl.1 rfl (Nat.le_of_ble_eq_true rfl) dL_law_205 ⟨Nat.le_of_ble_eq_true rfl, Nat.le_of_ble_eq_true rfl⟩ (fun r1 zn H locs hw1 hP1 hP2 hD hS => ?_)
        refine lv_aload_n hx hb dL_law_208 rfl (lv_at hl 2 rfl) ?_
        refine lv_aload_n hx hb dL_law_209 rfl (lv_at hl 0 rfl) ?_
        refine lv_iload_n hx hb dL_law_210 rfl (lv_at hl 3 rfl) ?_
        refine lv_iconst (v := 1) hx hb dL_law_211 (by decide) ?_
        refine lv_iadd hx hb dL_law_212 ?_
        refine va_sld hx hb hX hbl hbA hS hi1 dL_law_213 ?_
        refine fk_2i (Wd := (fk_mW q2 k2)) (z := y) (As := [.int (xs (x3 + 1).toNatClampNeg)]) (rest := [.int r1]) F9 (c_X6_give l G q2 k2 _ y (xs (x3 + 1).toNatClampNeg)) (cwV 1 hts gL_law_X6_give rfl rfl rfl (by decide +kernel) ⟨Nat.le_of_ble_eq_true rfl, Nat.le_of_ble_eq_true rfl⟩) (va_recv hK2 hP2 (ci := 6) (q0 := 0) rfl rfl) hK2 hP2 hP1 (fk_Dw hD) hS hA hN rfl hl.1 rfl (Nat.le_of_ble_eq_true rfl) dL_law_214 ⟨Nat.le_of_ble_eq_true rfl, Nat.le_of_ble_eq_true rfl⟩ (fun r2 yn H locs hw2 hP2 hP1 hD hS => ?_)
        have hD := fk_Dw hD
        have hR3 := fR_give hR (xs (x3 + 1).toNatClampNeg)
        rw [← hw1, ← hw2] at hR3
        obtain ⟨hE, hR⟩ := hR3
        have hE : r1 = r2 := hE
        have hR : fR (T + 200) zn yn := fR_up hR
        refine lv_icmp_eq (tgt := 474) hx hb dL_law_217 (by decide) (fun _ => ?_) (fun h9 => absurd hE h9)
        exact hend _ _ _ _ _ hR hP1 hP2 hD hS hl
      · refine lv_tableIn (tgt := 222) hx hb dL_law_32 (by decide) (by decide) (off := 190) (by decide) (by decide) ?_
        refine lv_aload_n hx hb dL_law_222 rfl (lv_at hl 1 rfl) ?_
        refine fk_2i (Wd := (fk_cW q1 k1)) (z := z) (As := []) (rest := []) F9 (c_X5_take l G q1 k1 _ z) (cwV 0 hts gL_law_X5_take rfl rfl rfl (by decide +kernel) ⟨Nat.le_of_ble_eq_true rfl, Nat.le_of_ble_eq_true rfl⟩) (va_recv hK1 hP1 (ci := 5) (q0 := 0) rfl rfl) hK1 hP1 hP2 hD hS hA hN rfl hl.1 rfl (Nat.le_of_ble_eq_true rfl) dL_law_223 ⟨Nat.le_of_ble_eq_true rfl, Nat.le_of_ble_eq_true rfl⟩ (fun r1 zn H locs hw1 hP1 hP2 hD hS => ?_)
        refine lv_aload_n hx hb dL_law_226 rfl (lv_at hl 2 rfl) ?_
        refine fk_2i (Wd := (fk_mW q2 k2)) (z := y) (As := []) (rest := [.int r1]) F9 (c_X6_take l G q2 k2 _ y) (cwV 0 hts gL_law_X6_take rfl rfl rfl (by decide +kernel) ⟨Nat.le_of_ble_eq_true rfl, Nat.le_of_ble_eq_true rfl⟩) (va_recv hK2 hP2 (ci := 6) (q0 := 0) rfl rfl) hK2 hP2 hP1 (fk_Dw hD) hS hA hN rfl hl.1 rfl (Nat.le_of_ble_eq_true rfl) dL_law_227 ⟨Nat.le_of_ble_eq_true rfl, Nat.le_of_ble_eq_true rfl⟩ (fun r2 yn H locs hw2 hP2 hP1 hD hS => ?_)
        have hD := fk_Dw hD
        have hR3 := fR_take hR
        rw [← hw1, ← hw2] at hR3
        obtain ⟨hE, hR⟩ := hR3
        have hE : r1 = r2 := hE
        have hR : fR (T + 200) zn yn := fR_up hR
        refine lv_icmp_eq (tgt := 474) hx hb dL_law_230 (by decide) (fun _ => ?_) (fun h9 => absurd hE h9)
        exact hend _ _ _ _ _ hR hP1 hP2 hD hS hl
      · refine lv_tableIn (tgt := 235) hx hb dL_law_32 (by decide) (by decide) (off := 203) (by decide) (by decide) ?_
        refine lv_aload_n hx hb dL_law_235 rfl (lv_at hl 1 rfl) ?_
        refine lv_aload_n hx hb dL_law_236 rfl (lv_at hl 0 rfl) ?_
        refine lv_iload_n hx hb dL_law_237 rfl (lv_at hl 3 rfl) ?_
        refine lv_iconst (v := 1) hx hb dL_law_238 (by decide) ?_
        refine lv_iadd hx hb dL_law_239 ?_
        refine va_sld hx hb hX hbl hbA hS hi1 dL_law_240 ?_
        refine fk_2i (Wd := (fk_cW q1 k1)) (z := z) (As := [.int (xs (x3 + 1).toNatClampNeg)]) (rest := []) F9 (c_X5_run l G q1 k1 _ z (xs (x3 + 1).toNatClampNeg)) (cwV 1 hts gL_law_X5_run rfl rfl rfl (by decide +kernel) ⟨Nat.le_of_ble_eq_true rfl, Nat.le_of_ble_eq_true rfl⟩) (va_recv hK1 hP1 (ci := 5) (q0 := 0) rfl rfl) hK1 hP1 hP2 hD hS hA hN rfl hl.1 rfl (Nat.le_of_ble_eq_true rfl) dL_law_241 ⟨Nat.le_of_ble_eq_true rfl, Nat.le_of_ble_eq_true rfl⟩ (fun r1 zn H locs hw1 hP1 hP2 hD hS => ?_)
        refine lv_aload_n hx hb dL_law_244 rfl (lv_at hl 2 rfl) ?_
        refine lv_aload_n hx hb dL_law_245 rfl (lv_at hl 0 rfl) ?_
        refine lv_iload_n hx hb dL_law_246 rfl (lv_at hl 3 rfl) ?_
        refine lv_iconst (v := 1) hx hb dL_law_247 (by decide) ?_
        refine lv_iadd hx hb dL_law_248 ?_
        refine va_sld hx hb hX hbl hbA hS hi1 dL_law_249 ?_
        refine fk_2i (Wd := (fk_mW q2 k2)) (z := y) (As := [.int (xs (x3 + 1).toNatClampNeg)]) (rest := [.int r1]) F9 (c_X6_run l G q2 k2 _ y (xs (x3 + 1).toNatClampNeg) (fR_mI hR)) (cwV 1 hts gL_law_X6_run rfl rfl rfl (by decide +kernel) ⟨Nat.le_of_ble_eq_true rfl, Nat.le_of_ble_eq_true rfl⟩) (va_recv hK2 hP2 (ci := 6) (q0 := 0) rfl rfl) hK2 hP2 hP1 (fk_Dw hD) hS hA hN rfl hl.1 rfl (Nat.le_of_ble_eq_true rfl) dL_law_250 ⟨Nat.le_of_ble_eq_true rfl, Nat.le_of_ble_eq_true rfl⟩ (fun r2 yn H locs hw2 hP2 hP1 hD hS => ?_)
        have hD := fk_Dw hD
        have hR3 := fR_run hR (by omega) (xs (x3 + 1).toNatClampNeg)
        rw [← hw1, ← hw2] at hR3
        obtain ⟨hE, hR⟩ := hR3
        have hE : r1 = r2 := hE
        have hR : fR (T + 200) zn yn := hR
        refine lv_icmp_eq (tgt := 474) hx hb dL_law_253 (by decide) (fun _ => ?_) (fun h9 => absurd hE h9)
        exact hend _ _ _ _ _ hR hP1 hP2 hD hS hl
      · refine lv_tableIn (tgt := 258) hx hb dL_law_32 (by decide) (by decide) (off := 226) (by decide) (by decide) ?_
        refine lv_aload_n hx hb dL_law_258 rfl (lv_at hl 1 rfl) ?_
        refine lv_aload_n hx hb dL_law_259 rfl (lv_at hl 0 rfl) ?_
        refine lv_iload_n hx hb dL_law_260 rfl (lv_at hl 3 rfl) ?_
        refine lv_iconst (v := 1) hx hb dL_law_261 (by decide) ?_
        refine lv_iadd hx hb dL_law_262 ?_
        refine va_sld hx hb hX hbl hbA hS hi1 dL_law_263 ?_
        refine fk_2i (Wd := (fk_cW q1 k1)) (z := z) (As := [.int (xs (x3 + 1).toNatClampNeg)]) (rest := []) F9 (c_X5_serve l G q1 k1 _ z (xs (x3 + 1).toNatClampNeg)) (cwV 1 hts gL_law_X5_serve rfl rfl rfl (by decide +kernel) ⟨Nat.le_of_ble_eq_true rfl, Nat.le_of_ble_eq_true rfl⟩) (va_recv hK1 hP1 (ci := 5) (q0 := 0) rfl rfl) hK1 hP1 hP2 hD hS hA hN rfl hl.1 rfl (Nat.le_of_ble_eq_true rfl) dL_law_264 ⟨Nat.le_of_ble_eq_true rfl, Nat.le_of_ble_eq_true rfl⟩ (fun r1 zn H locs hw1 hP1 hP2 hD hS => ?_)
        refine lv_aload_n hx hb dL_law_267 rfl (lv_at hl 2 rfl) ?_
        refine lv_aload_n hx hb dL_law_268 rfl (lv_at hl 0 rfl) ?_
        refine lv_iload_n hx hb dL_law_269 rfl (lv_at hl 3 rfl) ?_
        refine lv_iconst (v := 1) hx hb dL_law_270 (by decide) ?_
        refine lv_iadd hx hb dL_law_271 ?_
        refine va_sld hx hb hX hbl hbA hS hi1 dL_law_272 ?_
        refine fk_2i (Wd := (fk_mW q2 k2)) (z := y) (As := [.int (xs (x3 + 1).toNatClampNeg)]) (rest := [.int r1]) F9 (c_X6_serve l G q2 k2 _ y (xs (x3 + 1).toNatClampNeg) (fR_mI hR)) (cwV 1 hts gL_law_X6_serve rfl rfl rfl (by decide +kernel) ⟨Nat.le_of_ble_eq_true rfl, Nat.le_of_ble_eq_true rfl⟩) (va_recv hK2 hP2 (ci := 6) (q0 := 0) rfl rfl) hK2 hP2 hP1 (fk_Dw hD) hS hA hN rfl hl.1 rfl (Nat.le_of_ble_eq_true rfl) dL_law_273 ⟨Nat.le_of_ble_eq_true rfl, Nat.le_of_ble_eq_true rfl⟩ (fun r2 yn H locs hw2 hP2 hP1 hD hS => ?_)
        have hD := fk_Dw hD
        have hR3 := fR_serve hR (by omega) (xs (x3 + 1).toNatClampNeg)
        rw [← hw1, ← hw2] at hR3
        obtain ⟨hE, hR⟩ := hR3
        have hE : r1 = r2 := hE
        have hR : fR (T + 200) zn yn := hR
        refine lv_icmp_eq (tgt := 474) hx hb dL_law_276 (by decide) (fun _ => ?_) (fun h9 => absurd hE h9)
        exact hend _ _ _ _ _ hR hP1 hP2 hD hS hl
      · refine lv_tableIn (tgt := 281) hx hb dL_law_32 (by decide) (by decide) (off := 249) (by decide) (by decide) ?_
        refine lv_aload_n hx hb dL_law_281 rfl (lv_at hl 1 rfl) ?_
        refine fk_2v (Wd := (fk_cW q1 k1)) (z := z) (As := []) (rest := []) F9 (c_X5_clear l G q1 k1 _ z) (cwV 0 hts gL_law_X5_clear rfl rfl rfl (by decide +kernel) ⟨Nat.le_of_ble_eq_true rfl, Nat.le_of_ble_eq_true rfl⟩) (va_recv hK1 hP1 (ci := 5) (q0 := 0) rfl rfl) hK1 hP1 hP2 hD hS hA hN rfl hl.1 rfl (Nat.le_of_ble_eq_true rfl) dL_law_282 ⟨Nat.le_of_ble_eq_true rfl, Nat.le_of_ble_eq_true rfl⟩ (fun zn H locs hw1 hP1 hP2 hD hS => ?_)
        refine lv_aload_n hx hb dL_law_285 rfl (lv_at hl 2 rfl) ?_
        refine fk_2v (Wd := (fk_mW q2 k2)) (z := y) (As := []) (rest := []) F9 (c_X6_clear l G q2 k2 _ y) (cwV 0 hts gL_law_X6_clear rfl rfl rfl (by decide +kernel) ⟨Nat.le_of_ble_eq_true rfl, Nat.le_of_ble_eq_true rfl⟩) (va_recv hK2 hP2 (ci := 6) (q0 := 0) rfl rfl) hK2 hP2 hP1 (fk_Dw hD) hS hA hN rfl hl.1 rfl (Nat.le_of_ble_eq_true rfl) dL_law_286 ⟨Nat.le_of_ble_eq_true rfl, Nat.le_of_ble_eq_true rfl⟩ (fun yn H locs hw2 hP2 hP1 hD hS => ?_)
        have hD := fk_Dw hD
        have hR3 := fR_clear hR
        rw [← hw1, ← hw2] at hR3
        have hR : fR (T + 200) zn yn := fR_up hR3
        refine lv_goto (tgt := 474) hx hb dL_law_289 (by decide) ?_
        exact hend _ _ _ _ _ hR hP1 hP2 hD hS hl
      · refine lv_tableIn (tgt := 292) hx hb dL_law_32 (by decide) (by decide) (off := 260) (by decide) (by decide) ?_
        refine lv_aload_n hx hb dL_law_292 rfl (lv_at hl 1 rfl) ?_
        refine lv_aload_n hx hb dL_law_293 rfl (lv_at hl 0 rfl) ?_
        refine lv_iload_n hx hb dL_law_294 rfl (lv_at hl 3 rfl) ?_
        refine lv_iconst (v := 1) hx hb dL_law_295 (by decide) ?_
        refine lv_iadd hx hb dL_law_296 ?_
        refine va_sld hx hb hX hbl hbA hS hi1 dL_law_297 ?_
        refine lv_aload_n hx hb dL_law_298 rfl (lv_at hl 0 rfl) ?_
        refine lv_iload_n hx hb dL_law_299 rfl (lv_at hl 3 rfl) ?_
        refine lv_iconst (v := 2) hx hb dL_law_300 (by decide) ?_
        refine lv_iadd hx hb dL_law_301 ?_
        refine va_sld hx hb hX hbl hbA hS hi2 dL_law_302 ?_
        refine fk_2i (Wd := (fk_cW q1 k1)) (z := z) (As := [.int (xs (x3 + 1).toNatClampNeg), .int (xs (x3 + 2).toNatClampNeg)]) (rest := []) F9 (c_X5_fill l G q1 k1 _ z (xs (x3 + 1).toNatClampNeg) (xs (x3 + 2).toNatClampNeg)) (cwV 2 hts gL_law_X5_fill rfl rfl rfl (by decide +kernel) ⟨Nat.le_of_ble_eq_true rfl, Nat.le_of_ble_eq_true rfl⟩) (va_recv hK1 hP1 (ci := 5) (q0 := 0) rfl rfl) hK1 hP1 hP2 hD hS hA hN rfl hl.1 rfl (Nat.le_of_ble_eq_true rfl) dL_law_303 ⟨Nat.le_of_ble_eq_true rfl, Nat.le_of_ble_eq_true rfl⟩ (fun r1 zn H locs hw1 hP1 hP2 hD hS => ?_)
        refine lv_aload_n hx hb dL_law_306 rfl (lv_at hl 2 rfl) ?_
        refine lv_aload_n hx hb dL_law_307 rfl (lv_at hl 0 rfl) ?_
        refine lv_iload_n hx hb dL_law_308 rfl (lv_at hl 3 rfl) ?_
        refine lv_iconst (v := 1) hx hb dL_law_309 (by decide) ?_
        refine lv_iadd hx hb dL_law_310 ?_
        refine va_sld hx hb hX hbl hbA hS hi1 dL_law_311 ?_
        refine lv_aload_n hx hb dL_law_312 rfl (lv_at hl 0 rfl) ?_
        refine lv_iload_n hx hb dL_law_313 rfl (lv_at hl 3 rfl) ?_
        refine lv_iconst (v := 2) hx hb dL_law_314 (by decide) ?_
        refine lv_iadd hx hb dL_law_315 ?_
        refine va_sld hx hb hX hbl hbA hS hi2 dL_law_316 ?_
        refine fk_2i (Wd := (fk_mW q2 k2)) (z := y) (As := [.int (xs (x3 + 1).toNatClampNeg), .int (xs (x3 + 2).toNatClampNeg)]) (rest := [.int r1]) F9 (c_X6_fill l G q2 k2 _ y (xs (x3 + 1).toNatClampNeg) (xs (x3 + 2).toNatClampNeg) (fR_mI hR)) (cwV 2 hts gL_law_X6_fill rfl rfl rfl (by decide +kernel) ⟨Nat.le_of_ble_eq_true rfl, Nat.le_of_ble_eq_true rfl⟩) (va_recv hK2 hP2 (ci := 6) (q0 := 0) rfl rfl) hK2 hP2 hP1 (fk_Dw hD) hS hA hN rfl hl.1 rfl (Nat.le_of_ble_eq_true rfl) dL_law_317 ⟨Nat.le_of_ble_eq_true rfl, Nat.le_of_ble_eq_true rfl⟩ (fun r2 yn H locs hw2 hP2 hP1 hD hS => ?_)
        have hD := fk_Dw hD
        have hR3 := fR_fill hR (xs (x3 + 1).toNatClampNeg) (xs (x3 + 2).toNatClampNeg)
        rw [← hw1, ← hw2] at hR3
        obtain ⟨hE, hR⟩ := hR3
        have hE : r1 = r2 := hE
        have hR : fR (T + 200) zn yn := fR_up hR
        refine lv_icmp_eq (tgt := 474) hx hb dL_law_320 (by decide) (fun _ => ?_) (fun h9 => absurd hE h9)
        exact hend _ _ _ _ _ hR hP1 hP2 hD hS hl
      · refine lv_tableIn (tgt := 325) hx hb dL_law_32 (by decide) (by decide) (off := 293) (by decide) (by decide) ?_
        refine lv_aload_n hx hb dL_law_325 rfl (lv_at hl 1 rfl) ?_
        refine lv_aload_n hx hb dL_law_326 rfl (lv_at hl 0 rfl) ?_
        refine lv_iload_n hx hb dL_law_327 rfl (lv_at hl 3 rfl) ?_
        refine lv_iconst (v := 1) hx hb dL_law_328 (by decide) ?_
        refine lv_iadd hx hb dL_law_329 ?_
        refine va_sld hx hb hX hbl hbA hS hi1 dL_law_330 ?_
        refine fk_2p (Wd := (fk_cW q1 k1)) (z := z) (As := [.int (xs (x3 + 1).toNatClampNeg)]) (rest := []) F9 (c_X5_buffer l G q1 k1 _ z (xs (x3 + 1).toNatClampNeg)) (cwV 1 hts gL_law_X5_buffer rfl rfl rfl (by decide +kernel) ⟨Nat.le_of_ble_eq_true rfl, Nat.le_of_ble_eq_true rfl⟩) (va_recv hK1 hP1 (ci := 5) (q0 := 0) rfl rfl) hK1 hP1 hP2 hD hS hA hN rfl hl.1 rfl (Nat.le_of_ble_eq_true rfl) dL_law_331 ⟨Nat.le_of_ble_eq_true rfl, Nat.le_of_ble_eq_true rfl⟩ (fun H locs hP1 hP2 hD hS => ?_)
        refine lv_aload_n hx hb dL_law_334 rfl (lv_at hl 2 rfl) ?_
        refine lv_aload_n hx hb dL_law_335 rfl (lv_at hl 0 rfl) ?_
        refine lv_iload_n hx hb dL_law_336 rfl (lv_at hl 3 rfl) ?_
        refine lv_iconst (v := 1) hx hb dL_law_337 (by decide) ?_
        refine lv_iadd hx hb dL_law_338 ?_
        refine va_sld hx hb hX hbl hbA hS hi1 dL_law_339 ?_
        refine fk_2p (Wd := (fk_mW q2 k2)) (z := y) (As := [.int (xs (x3 + 1).toNatClampNeg)]) (rest := [.int (fX5_buffer z (xs (x3 + 1).toNatClampNeg))]) F9 (c_X6_buffer l G q2 k2 _ y (xs (x3 + 1).toNatClampNeg) (fR_mI hR)) (cwV 1 hts gL_law_X6_buffer rfl rfl rfl (by decide +kernel) ⟨Nat.le_of_ble_eq_true rfl, Nat.le_of_ble_eq_true rfl⟩) (va_recv hK2 hP2 (ci := 6) (q0 := 0) rfl rfl) hK2 hP2 hP1 (fk_Dw hD) hS hA hN rfl hl.1 rfl (Nat.le_of_ble_eq_true rfl) dL_law_340 ⟨Nat.le_of_ble_eq_true rfl, Nat.le_of_ble_eq_true rfl⟩ (fun H locs hP2 hP1 hD hS => ?_)
        have hD := fk_Dw hD
        have hR3 := fR_buffer hR (xs (x3 + 1).toNatClampNeg)
        have hE := hR3
        have hR : fR (T + 200) z y := fR_up hR
        refine lv_icmp_eq (tgt := 474) hx hb dL_law_343 (by decide) (fun _ => ?_) (fun h9 => absurd hE h9)
        exact hend _ _ _ _ _ hR hP1 hP2 hD hS hl
      · refine lv_tableIn (tgt := 348) hx hb dL_law_32 (by decide) (by decide) (off := 316) (by decide) (by decide) ?_
        refine lv_aload_n hx hb dL_law_348 rfl (lv_at hl 1 rfl) ?_
        refine lv_aload_n hx hb dL_law_349 rfl (lv_at hl 0 rfl) ?_
        refine lv_iload_n hx hb dL_law_350 rfl (lv_at hl 3 rfl) ?_
        refine lv_iconst (v := 1) hx hb dL_law_351 (by decide) ?_
        refine lv_iadd hx hb dL_law_352 ?_
        refine va_sld hx hb hX hbl hbA hS hi1 dL_law_353 ?_
        refine lv_if_eq (tgt := 361) hx hb dL_law_354 (by decide) (fun cb => ?_) (fun cb => ?_)
        · refine lv_iconst (v := 0) hx hb dL_law_361 (by decide) ?_
          refine fk_2v (Wd := (fk_cW q1 k1)) (z := z) (As := [.int 0]) (rest := []) F9 (c_X5_protect l G q1 k1 _ z 0 (Or.inl rfl)) (cwV 1 hts gL_law_X5_protect rfl rfl rfl (by decide +kernel) ⟨Nat.le_of_ble_eq_true rfl, Nat.le_of_ble_eq_true rfl⟩) (va_recv hK1 hP1 (ci := 5) (q0 := 0) rfl rfl) hK1 hP1 hP2 hD hS hA hN rfl hl.1 rfl (Nat.le_of_ble_eq_true rfl) dL_law_362 ⟨Nat.le_of_ble_eq_true rfl, Nat.le_of_ble_eq_true rfl⟩ (fun zn H locs hw1 hP1 hP2 hD hS => ?_)
          refine lv_aload_n hx hb dL_law_365 rfl (lv_at hl 2 rfl) ?_
          refine lv_aload_n hx hb dL_law_366 rfl (lv_at hl 0 rfl) ?_
          refine lv_iload_n hx hb dL_law_367 rfl (lv_at hl 3 rfl) ?_
          refine lv_iconst (v := 1) hx hb dL_law_368 (by decide) ?_
          refine lv_iadd hx hb dL_law_369 ?_
          refine va_sld hx hb hX hbl hbA hS hi1 dL_law_370 ?_
          refine lv_if_eq (tgt := 378) hx hb dL_law_371 (by decide) (fun _ => ?_) (fun h9 => absurd cb h9)
          refine lv_iconst (v := 0) hx hb dL_law_378 (by decide) ?_
          refine fk_2v (Wd := (fk_mW q2 k2)) (z := y) (As := [.int 0]) (rest := []) F9 (c_X6_protect l G q2 k2 _ y 0 (Or.inl rfl)) (cwV 1 hts gL_law_X6_protect rfl rfl rfl (by decide +kernel) ⟨Nat.le_of_ble_eq_true rfl, Nat.le_of_ble_eq_true rfl⟩) (va_recv hK2 hP2 (ci := 6) (q0 := 0) rfl rfl) hK2 hP2 hP1 (fk_Dw hD) hS hA hN rfl hl.1 rfl (Nat.le_of_ble_eq_true rfl) dL_law_379 ⟨Nat.le_of_ble_eq_true rfl, Nat.le_of_ble_eq_true rfl⟩ (fun yn H locs hw2 hP2 hP1 hD hS => ?_)
          have hD := fk_Dw hD
          have hR3 := fR_protect hR 0
          rw [← hw1, ← hw2] at hR3
          have hR : fR (T + 200) zn yn := fR_up hR3
          refine lv_goto (tgt := 474) hx hb dL_law_382 (by decide) ?_
          exact hend _ _ _ _ _ hR hP1 hP2 hD hS hl
        · refine lv_iconst (v := 1) hx hb dL_law_357 (by decide) ?_
          refine lv_goto (tgt := 362) hx hb dL_law_358 (by decide) ?_
          refine fk_2v (Wd := (fk_cW q1 k1)) (z := z) (As := [.int 1]) (rest := []) F9 (c_X5_protect l G q1 k1 _ z 1 (Or.inr rfl)) (cwV 1 hts gL_law_X5_protect rfl rfl rfl (by decide +kernel) ⟨Nat.le_of_ble_eq_true rfl, Nat.le_of_ble_eq_true rfl⟩) (va_recv hK1 hP1 (ci := 5) (q0 := 0) rfl rfl) hK1 hP1 hP2 hD hS hA hN rfl hl.1 rfl (Nat.le_of_ble_eq_true rfl) dL_law_362 ⟨Nat.le_of_ble_eq_true rfl, Nat.le_of_ble_eq_true rfl⟩ (fun zn H locs hw1 hP1 hP2 hD hS => ?_)
          refine lv_aload_n hx hb dL_law_365 rfl (lv_at hl 2 rfl) ?_
          refine lv_aload_n hx hb dL_law_366 rfl (lv_at hl 0 rfl) ?_
          refine lv_iload_n hx hb dL_law_367 rfl (lv_at hl 3 rfl) ?_
          refine lv_iconst (v := 1) hx hb dL_law_368 (by decide) ?_
          refine lv_iadd hx hb dL_law_369 ?_
          refine va_sld hx hb hX hbl hbA hS hi1 dL_law_370 ?_
          refine lv_if_eq (tgt := 378) hx hb dL_law_371 (by decide) (fun h9 => absurd h9 cb) (fun _ => ?_)
          refine lv_iconst (v := 1) hx hb dL_law_374 (by decide) ?_
          refine lv_goto (tgt := 379) hx hb dL_law_375 (by decide) ?_
          refine fk_2v (Wd := (fk_mW q2 k2)) (z := y) (As := [.int 1]) (rest := []) F9 (c_X6_protect l G q2 k2 _ y 1 (Or.inr rfl)) (cwV 1 hts gL_law_X6_protect rfl rfl rfl (by decide +kernel) ⟨Nat.le_of_ble_eq_true rfl, Nat.le_of_ble_eq_true rfl⟩) (va_recv hK2 hP2 (ci := 6) (q0 := 0) rfl rfl) hK2 hP2 hP1 (fk_Dw hD) hS hA hN rfl hl.1 rfl (Nat.le_of_ble_eq_true rfl) dL_law_379 ⟨Nat.le_of_ble_eq_true rfl, Nat.le_of_ble_eq_true rfl⟩ (fun yn H locs hw2 hP2 hP1 hD hS => ?_)
          have hD := fk_Dw hD
          have hR3 := fR_protect hR 1
          rw [← hw1, ← hw2] at hR3
          have hR : fR (T + 200) zn yn := fR_up hR3
          refine lv_goto (tgt := 474) hx hb dL_law_382 (by decide) ?_
          exact hend _ _ _ _ _ hR hP1 hP2 hD hS hl
      · refine lv_tableIn (tgt := 385) hx hb dL_law_32 (by decide) (by decide) (off := 353) (by decide) (by decide) ?_
        refine lv_aload_n hx hb dL_law_385 rfl (lv_at hl 1 rfl) ?_
        refine lv_aload_n hx hb dL_law_386 rfl (lv_at hl 0 rfl) ?_
        refine lv_iload_n hx hb dL_law_387 rfl (lv_at hl 3 rfl) ?_
        refine lv_iconst (v := 1) hx hb dL_law_388 (by decide) ?_
        refine lv_iadd hx hb dL_law_389 ?_
        refine va_sld hx hb hX hbl hbA hS hi1 dL_law_390 ?_
        refine lv_aload_n hx hb dL_law_391 rfl (lv_at hl 0 rfl) ?_
        refine lv_iload_n hx hb dL_law_392 rfl (lv_at hl 3 rfl) ?_
        refine lv_iconst (v := 2) hx hb dL_law_393 (by decide) ?_
        refine lv_iadd hx hb dL_law_394 ?_
        refine va_sld hx hb hX hbl hbA hS hi2 dL_law_395 ?_
        refine fk_2i (Wd := (fk_cW q1 k1)) (z := z) (As := [.int (xs (x3 + 1).toNatClampNeg), .int (xs (x3 + 2).toNatClampNeg)]) (rest := []) F9 (c_X5_spoil l G q1 k1 _ z (xs (x3 + 1).toNatClampNeg) (xs (x3 + 2).toNatClampNeg)) (cwV 2 hts gL_law_X5_spoil rfl rfl rfl (by decide +kernel) ⟨Nat.le_of_ble_eq_true rfl, Nat.le_of_ble_eq_true rfl⟩) (va_recv hK1 hP1 (ci := 5) (q0 := 0) rfl rfl) hK1 hP1 hP2 hD hS hA hN rfl hl.1 rfl (Nat.le_of_ble_eq_true rfl) dL_law_396 ⟨Nat.le_of_ble_eq_true rfl, Nat.le_of_ble_eq_true rfl⟩ (fun r1 zn H locs hw1 hP1 hP2 hD hS => ?_)
        refine lv_aload_n hx hb dL_law_399 rfl (lv_at hl 2 rfl) ?_
        refine lv_aload_n hx hb dL_law_400 rfl (lv_at hl 0 rfl) ?_
        refine lv_iload_n hx hb dL_law_401 rfl (lv_at hl 3 rfl) ?_
        refine lv_iconst (v := 1) hx hb dL_law_402 (by decide) ?_
        refine lv_iadd hx hb dL_law_403 ?_
        refine va_sld hx hb hX hbl hbA hS hi1 dL_law_404 ?_
        refine lv_aload_n hx hb dL_law_405 rfl (lv_at hl 0 rfl) ?_
        refine lv_iload_n hx hb dL_law_406 rfl (lv_at hl 3 rfl) ?_
        refine lv_iconst (v := 2) hx hb dL_law_407 (by decide) ?_
        refine lv_iadd hx hb dL_law_408 ?_
        refine va_sld hx hb hX hbl hbA hS hi2 dL_law_409 ?_
        refine fk_2i (Wd := (fk_mW q2 k2)) (z := y) (As := [.int (xs (x3 + 1).toNatClampNeg), .int (xs (x3 + 2).toNatClampNeg)]) (rest := [.int r1]) F9 (c_X6_spoil l G q2 k2 _ y (xs (x3 + 1).toNatClampNeg) (xs (x3 + 2).toNatClampNeg)) (cwV 2 hts gL_law_X6_spoil rfl rfl rfl (by decide +kernel) ⟨Nat.le_of_ble_eq_true rfl, Nat.le_of_ble_eq_true rfl⟩) (va_recv hK2 hP2 (ci := 6) (q0 := 0) rfl rfl) hK2 hP2 hP1 (fk_Dw hD) hS hA hN rfl hl.1 rfl (Nat.le_of_ble_eq_true rfl) dL_law_410 ⟨Nat.le_of_ble_eq_true rfl, Nat.le_of_ble_eq_true rfl⟩ (fun r2 yn H locs hw2 hP2 hP1 hD hS => ?_)
        have hD := fk_Dw hD
        have hR3 := fR_spoil hR (xs (x3 + 1).toNatClampNeg) (xs (x3 + 2).toNatClampNeg)
        rw [← hw1, ← hw2] at hR3
        obtain ⟨hE, hR⟩ := hR3
        have hE : r1 = r2 := hE
        have hR : fR (T + 200) zn yn := fR_up hR
        refine lv_icmp_eq (tgt := 474) hx hb dL_law_413 (by decide) (fun _ => ?_) (fun h9 => absurd hE h9)
        exact hend _ _ _ _ _ hR hP1 hP2 hD hS hl
      · refine lv_tableIn (tgt := 418) hx hb dL_law_32 (by decide) (by decide) (off := 386) (by decide) (by decide) ?_
        refine lv_aload_n hx hb dL_law_418 rfl (lv_at hl 1 rfl) ?_
        refine lv_aload_n hx hb dL_law_419 rfl (lv_at hl 0 rfl) ?_
        refine lv_iload_n hx hb dL_law_420 rfl (lv_at hl 3 rfl) ?_
        refine lv_iconst (v := 1) hx hb dL_law_421 (by decide) ?_
        refine lv_iadd hx hb dL_law_422 ?_
        refine va_sld hx hb hX hbl hbA hS hi1 dL_law_423 ?_
        refine lv_aload_n hx hb dL_law_424 rfl (lv_at hl 0 rfl) ?_
        refine lv_iload_n hx hb dL_law_425 rfl (lv_at hl 3 rfl) ?_
        refine lv_iconst (v := 2) hx hb dL_law_426 (by decide) ?_
        refine lv_iadd hx hb dL_law_427 ?_
        refine va_sld hx hb hX hbl hbA hS hi2 dL_law_428 ?_
        refine fk_2p (Wd := (fk_cW q1 k1)) (z := z) (As := [.int (xs (x3 + 1).toNatClampNeg), .int (xs (x3 + 2).toNatClampNeg)]) (rest := []) F9 (c_X5_cells l G q1 k1 _ z (xs (x3 + 1).toNatClampNeg) (xs (x3 + 2).toNatClampNeg)) (cwV 2 hts gL_law_X5_cells rfl rfl rfl (by decide +kernel) ⟨Nat.le_of_ble_eq_true rfl, Nat.le_of_ble_eq_true rfl⟩) (va_recv hK1 hP1 (ci := 5) (q0 := 0) rfl rfl) hK1 hP1 hP2 hD hS hA hN rfl hl.1 rfl (Nat.le_of_ble_eq_true rfl) dL_law_429 ⟨Nat.le_of_ble_eq_true rfl, Nat.le_of_ble_eq_true rfl⟩ (fun H locs hP1 hP2 hD hS => ?_)
        refine lv_aload_n hx hb dL_law_432 rfl (lv_at hl 2 rfl) ?_
        refine lv_aload_n hx hb dL_law_433 rfl (lv_at hl 0 rfl) ?_
        refine lv_iload_n hx hb dL_law_434 rfl (lv_at hl 3 rfl) ?_
        refine lv_iconst (v := 1) hx hb dL_law_435 (by decide) ?_
        refine lv_iadd hx hb dL_law_436 ?_
        refine va_sld hx hb hX hbl hbA hS hi1 dL_law_437 ?_
        refine lv_aload_n hx hb dL_law_438 rfl (lv_at hl 0 rfl) ?_
        refine lv_iload_n hx hb dL_law_439 rfl (lv_at hl 3 rfl) ?_
        refine lv_iconst (v := 2) hx hb dL_law_440 (by decide) ?_
        refine lv_iadd hx hb dL_law_441 ?_
        refine va_sld hx hb hX hbl hbA hS hi2 dL_law_442 ?_
        refine fk_2p (Wd := (fk_mW q2 k2)) (z := y) (As := [.int (xs (x3 + 1).toNatClampNeg), .int (xs (x3 + 2).toNatClampNeg)]) (rest := [.int (fX5_cells z (xs (x3 + 1).toNatClampNeg) (xs (x3 + 2).toNatClampNeg))]) F9 (c_X6_cells l G q2 k2 _ y (xs (x3 + 1).toNatClampNeg) (xs (x3 + 2).toNatClampNeg)) (cwV 2 hts gL_law_X6_cells rfl rfl rfl (by decide +kernel) ⟨Nat.le_of_ble_eq_true rfl, Nat.le_of_ble_eq_true rfl⟩) (va_recv hK2 hP2 (ci := 6) (q0 := 0) rfl rfl) hK2 hP2 hP1 (fk_Dw hD) hS hA hN rfl hl.1 rfl (Nat.le_of_ble_eq_true rfl) dL_law_443 ⟨Nat.le_of_ble_eq_true rfl, Nat.le_of_ble_eq_true rfl⟩ (fun H locs hP2 hP1 hD hS => ?_)
        have hD := fk_Dw hD
        have hR3 := fR_cells hR (xs (x3 + 1).toNatClampNeg) (xs (x3 + 2).toNatClampNeg)
        have hE := hR3
        have hR : fR (T + 200) z y := fR_up hR
        refine lv_icmp_eq (tgt := 474) hx hb dL_law_446 (by decide) (fun _ => ?_) (fun h9 => absurd hE h9)
        exact hend _ _ _ _ _ hR hP1 hP2 hD hS hl
      · refine lv_tableIn (tgt := 451) hx hb dL_law_32 (by decide) (by decide) (off := 419) (by decide) (by decide) ?_
        refine lv_aload_n hx hb dL_law_451 rfl (lv_at hl 1 rfl) ?_
        refine lv_aload_n hx hb dL_law_452 rfl (lv_at hl 0 rfl) ?_
        refine lv_iload_n hx hb dL_law_453 rfl (lv_at hl 3 rfl) ?_
        refine lv_iconst (v := 1) hx hb dL_law_454 (by decide) ?_
        refine lv_iadd hx hb dL_law_455 ?_
        refine va_sld hx hb hX hbl hbA hS hi1 dL_law_456 ?_
        refine fk_2p (Wd := (fk_cW q1 k1)) (z := z) (As := [.int (xs (x3 + 1).toNatClampNeg)]) (rest := []) F9 (c_X5_look l G q1 k1 _ z (xs (x3 + 1).toNatClampNeg)) (cwV 1 hts gL_law_X5_look rfl rfl rfl (by decide +kernel) ⟨Nat.le_of_ble_eq_true rfl, Nat.le_of_ble_eq_true rfl⟩) (va_recv hK1 hP1 (ci := 5) (q0 := 0) rfl rfl) hK1 hP1 hP2 hD hS hA hN rfl hl.1 rfl (Nat.le_of_ble_eq_true rfl) dL_law_457 ⟨Nat.le_of_ble_eq_true rfl, Nat.le_of_ble_eq_true rfl⟩ (fun H locs hP1 hP2 hD hS => ?_)
        refine lv_aload_n hx hb dL_law_460 rfl (lv_at hl 2 rfl) ?_
        refine lv_aload_n hx hb dL_law_461 rfl (lv_at hl 0 rfl) ?_
        refine lv_iload_n hx hb dL_law_462 rfl (lv_at hl 3 rfl) ?_
        refine lv_iconst (v := 1) hx hb dL_law_463 (by decide) ?_
        refine lv_iadd hx hb dL_law_464 ?_
        refine va_sld hx hb hX hbl hbA hS hi1 dL_law_465 ?_
        refine fk_2p (Wd := (fk_mW q2 k2)) (z := y) (As := [.int (xs (x3 + 1).toNatClampNeg)]) (rest := [.int (fX5_look z (xs (x3 + 1).toNatClampNeg))]) F9 (c_X6_look l G q2 k2 _ y (xs (x3 + 1).toNatClampNeg)) (cwV 1 hts gL_law_X6_look rfl rfl rfl (by decide +kernel) ⟨Nat.le_of_ble_eq_true rfl, Nat.le_of_ble_eq_true rfl⟩) (va_recv hK2 hP2 (ci := 6) (q0 := 0) rfl rfl) hK2 hP2 hP1 (fk_Dw hD) hS hA hN rfl hl.1 rfl (Nat.le_of_ble_eq_true rfl) dL_law_466 ⟨Nat.le_of_ble_eq_true rfl, Nat.le_of_ble_eq_true rfl⟩ (fun H locs hP2 hP1 hD hS => ?_)
        have hD := fk_Dw hD
        have hR3 := fR_look hR (xs (x3 + 1).toNatClampNeg)
        have hE := hR3
        have hR : fR (T + 200) z y := fR_up hR
        refine lv_icmp_eq (tgt := 474) hx hb dL_law_469 (by decide) (fun _ => ?_) (fun h9 => absurd hE h9)
        exact hend _ _ _ _ _ hR hP1 hP2 hD hS hl
      · refine lv_tableOut (tgt := 474) hx hb dL_law_32 (by decide) (by decide) ?_
        exact hend _ _ _ _ _ (fR_up hR) hP1 hP2 hD hS hl
      · refine lv_tableOut (tgt := 474) hx hb dL_law_32 (by decide) (by decide) ?_
        exact hend _ _ _ _ _ (fR_up hR) hP1 hP2 hD hS hl
