/-! the calls -/
theorem i_le {a : Int32} {N : Nat} (hN : N < 2 ^ 31) (h0 : ¬ a < 0) (h1 : ¬ nI N < a) : ∃ n : Nat, n ≤ N ∧ a = nI n := by
  obtain ⟨j, hj, rfl⟩ := nI_of h0
  refine ⟨j, ?_, rfl⟩
  rcases Nat.lt_or_ge N j with q | q
  · exact absurd ((nI_ltI hN hj).mpr q) h1
  · exact q
theorem lt_3 (x : Int32) : 3 < x ↔ 4 ≤ x := by
  rw [Int32.lt_iff_toInt_lt, Int32.le_iff_toInt_le, show (3 : Int32).toInt = 3 from by decide, show (4 : Int32).toInt = 4 from by decide]
  omega
theorem isB0 {a : Int32} (h : a < 0 ∨ 255 < a) : fX5_isByte a = 0 := by
  unfold fX5_isByte
  by_cases c : a < 0
  · rw [if_pos c]
  · rw [if_neg c, if_pos (h.resolve_left c)]
theorem isB1 {a : Int32} (h0 : ¬ a < 0) (h1 : ¬ 255 < a) : ¬ fX5_isByte a = 0 := by
  unfold fX5_isByte
  rw [if_neg h0, if_neg h1]
  decide
theorem sB_of {a : Int32} (h0 : ¬ a < 0) (h1 : ¬ 255 < a) : sB a := by
  obtain ⟨n, hn, rfl⟩ := i_le (N := 255) (by decide) h0 h1
  exact ⟨n, by omega, rfl⟩
theorem sB_le {a : Int32} (h : sB a) : ¬ a < 0 ∧ a ≤ 255 ∧ ¬ a = -1 := by
  obtain ⟨n, hn, rfl⟩ := h
  refine ⟨nI_pos (by omega), nI_le (a := n) (b := 255) (by omega) (by decide), fun q => ?_⟩
  exact absurd (show nI n < 0 by rw [q]; decide) (nI_pos (by omega))
theorem fR_busy0 {T : Nat} {z : fk_C} {y : fk_M} (h : fR T z y) (hb : y.1 16 &&& 1 = 0) : z.1 23 = 0 := by
  have a17 := h.1.2.1.2.2.2.2.2.2.2.2.1
  have hQ := h.1.2.2.2.2.2.2.2.2.2.2.2
  exact Decidable.of_not_not (fun q => hQ.1 q (by rw [a17]; exact hb))
/-! command -/
theorem fR_begun {T : Nat} {z : fk_C} {y : fk_M} (h : fQ T z y) {u v : Nat → Int32} (a b st p m : Int32)
    (A : u 0 = z.1 0 ∧ u 1 = z.1 1 ∧ u 2 = z.1 2 ∧ u 3 = z.1 3 ∧ u 4 = 0 ∧ u 5 = 0 ∧ u 7 = 0 ∧ u 16 = 16 ∧ u 17 = st ∧ u 21 = a ∧ u 22 = b ∧ u 23 = p ∧ u 24 = 0 ∧ u 25 = 0 ∧ u 33 = z.1 33 ∧ u 34 = z.1 34 ∧ u 19 = z.1 19)
    (B : v 1 = y.1 1 ∧ v 2 = y.1 2 ∧ v 3 = y.1 3 ∧ v 4 = y.1 4 ∧ v 5 = 0 ∧ v 6 = 0 ∧ v 8 = 0 ∧ v 12 = 16 ∧ v 16 = st ∧ v 17 = a ∧ v 18 = b ∧ v 19 = m ∧ v 20 = 0 ∧ v 21 = 0 ∧ v 29 = y.1 29 ∧ v 30 = y.1 30 ∧ v 14 = y.1 14 ∧ v 10 = y.1 10)
    (e18 : u 18 = v 13) (e20 : u 20 = v 15) (hd : sB (u 20)) (hsP : sP p a m) (hsT : sT T p 0 0) (h6 : ¬ p = 6) (hsQ : sQ st p a) (hsC : sC p a 0) : fR T (u, z.2) (v, y.2) := by
  obtain ⟨⟨hm1, hm2, hm3, ⟨g, hg, eg⟩, hm5⟩, ⟨a0, a1, a2, a3, a4, a5, a7, a16, a17, a18, a19, a20, a21, a22, a25, a33, a34⟩, hbf, hby, hda, hD, hF, hP, hS, hT, hW, hQ⟩ := h
  obtain ⟨u0, u1, u2, u3, u4, u5, u7, u16, u17, u21, u22, u23, u24, u25, u33, u34, u19⟩ := A
  obtain ⟨v1, v2, v3, v4, v5, v6, v8, v12, v16, v17, v18, v19, v20, v21, v29, v30, v14, v10⟩ := B
  have hI' : mI (v, y.2) := by
    refine ⟨by show ∃ h : Nat, h < 4 ∧ v 2 = nI h; rw [v2]; exact hm1, by show ∃ p : Nat, p < 2400 ∧ v 3 = nI p; rw [v3]; exact hm2, Or.inl v12, ⟨g, ?_, v10.trans eg⟩, by show ∃ b n : Nat, b ≤ 200 ∧ n ≤ b ∧ v 29 = nI b ∧ v 30 = nI n; rw [v29, v30]; exact hm5⟩
    show g < mL (v 8) (v 12)
    rw [v8]
    exact Nat.lt_of_lt_of_le hg (mL_le _ _)
  refine ⟨⟨hI', ⟨?_, ?_, ?_, ?_, ?_, ?_, ?_, ?_, ?_, e18, ?_, e20, ?_, ?_, ?_, ?_, ?_⟩, hbf, hby, hd, hD, Or.inl u7, ?_, Or.inl u4, ?_, ?_, ?_⟩, ?_⟩
  · exact u0.trans (a0.trans v1.symm)
  · exact u1.trans (a1.trans v2.symm)
  · exact u2.trans (a2.trans v3.symm)
  · exact u3.trans (a3.trans v4.symm)
  · exact u4.trans v5.symm
  · exact u5.trans v6.symm
  · exact u7.trans v8.symm
  · exact u16.trans v12.symm
  · exact u17.trans v16.symm
  · exact u19.trans (a19.trans v14.symm)
  · exact u21.trans v17.symm
  · exact u22.trans v18.symm
  · exact u25.trans v21.symm
  · exact u33.trans (a33.trans v29.symm)
  · exact u34.trans (a34.trans v30.symm)
  · show sP (u 23) (u 21) (v 19)
    rw [u23, u21, v19]; exact hsP
  · show sT T (u 23) (u 24) (v 20)
    rw [u23, u24, v20]; exact hsT
  · exact fun q => absurd (u23.symm.trans q) h6
  · show sQ (u 17) (u 23) (u 21)
    rw [u17, u23, u21]; exact hsQ
  · show sC (u 23) (u 21) (u 7)
    rw [u23, u21, u7]; exact hsC
theorem sT_1 {T : Nat} : sT T 1 0 0 := ⟨fun _ => ⟨0, Nat.zero_le _, by decide, by decide⟩, fun q => absurd q (by decide), fun q => absurd q (by decide)⟩
theorem sT_7 {T : Nat} {b c : Int32} : sT T 7 b c := sT_no (by decide) (by decide) (by decide)
theorem sC_20 {b : Int32} : sC 2 b 0 := ⟨fun q => absurd q (by decide), fun _ _ q => absurd q (by decide)⟩
theorem sC_7 {b c : Int32} : sC 7 b c := ⟨fun q => absurd q (by decide), fun q => absurd q (by decide)⟩
theorem sQ_1 {p a : Int32} : sQ 1 p a := ⟨fun _ => by decide, Or.inl (by decide)⟩
theorem sQ_64 {a : Int32} : sQ 64 0 a := ⟨fun q => absurd rfl q, Or.inl (by decide)⟩
theorem sQ_75 : sQ 3 7 5 := ⟨fun _ => by decide, Or.inr (Or.inr (Or.inr (Or.inr rfl)))⟩
theorem m_91n {Y : fk_M} {x s : Int32} (h3 : ¬ x = 3) (h5 : ¬ x = 5) : fX6_command_91 Y x s = (1, (upd Y.1 19 s, Y.2)) := by
  unfold fX6_command_91 fX6_command_124
  rw [if_neg h3, if_neg h5, if_neg h5, ite_self]
theorem m_91p {Y : fk_M} {x s : Int32} (h1 : Y.1 1 = 0) (h5 : ¬ x = 5) : fX6_command_91 Y x s = (1, (upd Y.1 19 s, Y.2)) := by
  unfold fX6_command_91 fX6_command_124
  rw [if_pos h1, if_neg h5]
theorem m_915 {Y : fk_M} {s : Int32} (h1 : Y.1 1 = 0) : fX6_command_91 Y 5 s = (1, (upd (upd Y.1 19 s) 16 (Y.1 16 ||| 2), Y.2)) := by
  unfold fX6_command_91 fX6_command_124
  rw [if_pos h1, if_pos rfl]
  rfl
theorem m_91e {Y : fk_M} {x s : Int32} (h1 : ¬ Y.1 1 = 0) (hx : x = 3 ∨ x = 5) (h6 : ¬ s = 6) (h8 : ¬ s = 8) : fX6_command_91 Y x s = (1, (upd (upd (upd (upd (upd Y.1 19 s) 16 (Y.1 16 ||| 64)) 16 ((Y.1 16 ||| 64) &&& (1 ^^^ (-1)))) 16 (((Y.1 16 ||| 64) &&& (1 ^^^ (-1))) &&& (2 ^^^ (-1)))) 19 0, Y.2)) := by
  have e := m_endN (y := fX6_raise (upd Y.1 19 s, Y.2) 64) (show ¬ s = 6 from h6) (show ¬ s = 8 from h8)
  unfold fX6_command_91 fX6_command_c2 fX6_command_c4 fX6_command_c3 fX6_command_c5
  rw [if_neg h1]
  rcases hx with q | q
  · rw [if_pos q, e]
    rfl
  · rw [if_neg (show ¬ x = 3 from by rw [q]; decide), if_pos q, e]
    rfl
theorem c_74n {Z : fk_C} {x : Int32} (h3 : ¬ x = 3) (h5 : ¬ x = 5) : fX0_begin_74 Z x = fX0_begin_103 Z x := by
  unfold fX0_begin_74
  rw [if_neg h3, if_neg h5]
theorem c_74y {Z : fk_C} {x : Int32} (hx : x = 3 ∨ x = 5) : fX0_begin_74 Z x = fX0_begin_84 Z x := by
  unfold fX0_begin_74
  rcases hx with q | q
  · rw [if_pos q]
  · rw [if_neg (show ¬ x = 3 from by rw [q]; decide), if_pos q]
theorem c_84e {Z : fk_C} {x : Int32} (h0 : ¬ Z.1 0 = 0) (h6 : ¬ Z.1 23 = 6) : fX0_begin_84 Z x = (1, (upd (upd (upd Z.1 17 (Z.1 17 ||| 64)) 17 ((Z.1 17 ||| 64) &&& (-4))) 23 0, Z.2)) := by
  have e := c_endN (z := (upd Z.1 17 (Z.1 17 ||| 64), Z.2)) h6
  unfold fX0_begin_84 fX0_begin_c1 fX0_endWith
  rw [if_neg h0, e]
  rfl
theorem c_84n {Z : fk_C} {x : Int32} (h0 : Z.1 0 = 0) : fX0_begin_84 Z x = fX0_begin_103 Z x := by
  unfold fX0_begin_84
  rw [if_pos h0]
theorem c_103a {Z : fk_C} {x : Int32} (hx : x = 0 ∨ x = 1) : fX0_begin_103 Z x = (1, (upd Z.1 23 1, Z.2)) := by
  unfold fX0_begin_103
  rcases hx with q | q
  · rw [if_neg (show ¬ x = 5 from by rw [q]; decide), if_pos q]
  · rw [if_neg (show ¬ x = 5 from by rw [q]; decide), if_neg (show ¬ x = 0 from by rw [q]; decide), if_pos q]
theorem c_103b {Z : fk_C} {x : Int32} (h5 : ¬ x = 5) (h0 : ¬ x = 0) (h1 : ¬ x = 1) : fX0_begin_103 Z x = (1, (upd Z.1 23 2, Z.2)) := by
  unfold fX0_begin_103
  rw [if_neg h5, if_neg h0, if_neg h1]
theorem c_1035 {Z : fk_C} : fX0_begin_103 Z 5 = (1, (upd (upd Z.1 17 (Z.1 17 ||| 2)) 23 7, Z.2)) := by
  unfold fX0_begin_103
  rw [if_pos rfl]
theorem m_70a {Y : fk_M} {x : Int32} (h : ¬ 2 ≤ x) : fX6_command_70 Y x = fX6_command_91 Y x 1 := by
  unfold fX6_command_70
  rw [if_neg h]
theorem m_70b {Y : fk_M} {x : Int32} (h : 2 ≤ x) (h5 : ¬ x = 5) : fX6_command_70 Y x = fX6_command_91 Y x 2 := by
  unfold fX6_command_70
  rw [if_pos h, if_neg h5]
theorem m_705 {Y : fk_M} : fX6_command_70 Y 5 = fX6_command_91 Y 5 7 := by
  unfold fX6_command_70
  rw [if_pos (by decide), if_pos rfl]
theorem fR_command {T : Nat} {z : fk_C} {y : fk_M} (h : fR T z y) (a b : Int32) : (fX5_command z a b).1 = (fX6_command y a b).1 ∧ fR T (fX5_command z a b).2 (fX6_command y a b).2 := by
  have a0 := h.1.2.1.1
  have a18 := h.1.2.1.2.2.2.2.2.2.2.2.2.1
  have a20 := h.1.2.1.2.2.2.2.2.2.2.2.2.2.2.1
  have a17 := h.1.2.1.2.2.2.2.2.2.2.2.1
  have hda := h.1.2.2.2.2.1
  unfold fX5_command fX0_begin fX6_command
  by_cases c1 : a < 0
  · rw [if_pos c1, if_pos c1]
    exact ⟨rfl, h⟩
  rw [if_neg c1, if_neg c1]
  by_cases c2 : 5 < a
  · rw [if_pos c2, if_pos c2]
    exact ⟨rfl, h⟩
  rw [if_neg c2, if_neg c2]
  by_cases cb : y.1 16 &&& 1 = 0
  · rw [if_pos (m_has0 cb), if_pos (c_has0 (z := z) (show z.1 17 &&& 1 = 0 from by rw [a17]; exact cb))]
    have h0 := fR_busy0 h cb
    obtain ⟨n, hn, rfl⟩ := i_le (N := 5) (by decide) c1 c2
    have hn' : n = 0 ∨ n = 1 ∨ n = 2 ∨ n = 3 ∨ n = 4 ∨ n = 5 := by omega
    unfold fX0_begin_c2 fX0_begin_c3 fX6_command_c6
    rcases hn' with rfl | rfl | rfl | rfl | rfl | rfl
    · rw [show nI 0 = 0 from by decide, if_pos rfl, if_pos rfl, c_74n (by decide) (by decide), c_103a (Or.inl rfl), m_70a (by decide), m_91n (by decide) (by decide)]
      exact ⟨rfl, fR_begun h.1 0 b 1 1 1 ⟨rfl, rfl, rfl, rfl, rfl, rfl, rfl, rfl, rfl, rfl, rfl, rfl, rfl, rfl, rfl, rfl, rfl⟩ ⟨rfl, rfl, rfl, rfl, rfl, rfl, rfl, rfl, rfl, rfl, rfl, rfl, rfl, rfl, rfl, rfl, rfl, rfl⟩ rfl rfl sB_0 (Or.inr (Or.inl ⟨rfl, rfl, Or.inl rfl⟩)) sT_1 (by decide) sQ_1 sC_1⟩
    · rw [show nI 1 = 1 from by decide, if_neg (show ¬ (1 : Int32) = 0 from by decide), if_neg (show ¬ (1 : Int32) = 0 from by decide), c_74n (by decide) (by decide), c_103a (Or.inr rfl), m_70a (by decide), m_91n (by decide) (by decide)]
      exact ⟨rfl, fR_begun h.1 1 b 1 1 1 ⟨rfl, rfl, rfl, rfl, rfl, rfl, rfl, rfl, rfl, rfl, rfl, rfl, rfl, rfl, rfl, rfl, rfl⟩ ⟨rfl, rfl, rfl, rfl, rfl, rfl, rfl, rfl, rfl, rfl, rfl, rfl, rfl, rfl, rfl, rfl, rfl, rfl⟩ a18 a20 hda (Or.inr (Or.inl ⟨rfl, rfl, Or.inr rfl⟩)) sT_1 (by decide) sQ_1 sC_1⟩
    · rw [show nI 2 = 2 from by decide, if_neg (show ¬ (2 : Int32) = 0 from by decide), if_neg (show ¬ (2 : Int32) = 0 from by decide), c_74n (by decide) (by decide), c_103b (by decide) (by decide) (by decide), m_70b (by decide) (by decide), m_91n (by decide) (by decide)]
      exact ⟨rfl, fR_begun h.1 2 b 1 2 2 ⟨rfl, rfl, rfl, rfl, rfl, rfl, rfl, rfl, rfl, rfl, rfl, rfl, rfl, rfl, rfl, rfl, rfl⟩ ⟨rfl, rfl, rfl, rfl, rfl, rfl, rfl, rfl, rfl, rfl, rfl, rfl, rfl, rfl, rfl, rfl, rfl, rfl⟩ a18 a20 hda (Or.inr (Or.inr (Or.inl ⟨rfl, rfl, Or.inl rfl⟩))) sT_2 (by decide) sQ_1 sC_20⟩
    · rw [show nI 3 = 3 from by decide, if_neg (show ¬ (3 : Int32) = 0 from by decide), if_neg (show ¬ (3 : Int32) = 0 from by decide), c_74y (Or.inl rfl), m_70b (by decide) (by decide)]
      by_cases c0 : y.1 1 = 0
      · have c0' : z.1 0 = 0 := a0.trans c0
        rw [c_84n (Z := fX2_forgetDataSize (fX2_reset (upd (upd (upd (upd (upd z.1 21 3) 22 b) 17 1) 24 0) 25 0, z.2))) c0', c_103b (by decide) (by decide) (by decide), m_91p (Y := (upd (upd (upd (fX6_reset (upd (upd (upd y.1 17 3) 16 1) 18 b, y.2)).1 12 16) 21 0) 20 0, (fX6_reset (upd (upd (upd y.1 17 3) 16 1) 18 b, y.2)).2)) c0 (by decide)]
        exact ⟨rfl, fR_begun h.1 3 b 1 2 2 ⟨rfl, rfl, rfl, rfl, rfl, rfl, rfl, rfl, rfl, rfl, rfl, rfl, rfl, rfl, rfl, rfl, rfl⟩ ⟨rfl, rfl, rfl, rfl, rfl, rfl, rfl, rfl, rfl, rfl, rfl, rfl, rfl, rfl, rfl, rfl, rfl, rfl⟩ a18 a20 hda (Or.inr (Or.inr (Or.inl ⟨rfl, rfl, Or.inr (Or.inl rfl)⟩))) sT_2 (by decide) sQ_1 sC_20⟩
      · have c0' : ¬ z.1 0 = 0 := fun q => c0 (a0.symm.trans q)
        rw [c_84e (Z := fX2_forgetDataSize (fX2_reset (upd (upd (upd (upd (upd z.1 21 3) 22 b) 17 1) 24 0) 25 0, z.2))) c0' (show ¬ z.1 23 = 6 from fun q => absurd (h0.symm.trans q) (by decide)), m_91e (Y := (upd (upd (upd (fX6_reset (upd (upd (upd y.1 17 3) 16 1) 18 b, y.2)).1 12 16) 21 0) 20 0, (fX6_reset (upd (upd (upd y.1 17 3) 16 1) 18 b, y.2)).2)) c0 (Or.inl rfl) (by decide) (by decide)]
        exact ⟨rfl, fR_begun h.1 3 b 64 0 0 ⟨rfl, rfl, rfl, rfl, rfl, rfl, rfl, rfl, (show ((1 : Int32) ||| 64) &&& (-4) = 64 from by decide), rfl, rfl, rfl, rfl, rfl, rfl, rfl, rfl⟩ ⟨rfl, rfl, rfl, rfl, rfl, rfl, rfl, rfl, (show (((1 : Int32) ||| 64) &&& (1 ^^^ (-1))) &&& (2 ^^^ (-1)) = 64 from by decide), rfl, rfl, rfl, rfl, rfl, rfl, rfl, rfl, rfl⟩ a18 a20 hda (Or.inl ⟨rfl, rfl⟩) sT_0 (by decide) sQ_64 sC_0⟩
    · rw [show nI 4 = 4 from by decide, if_neg (show ¬ (4 : Int32) = 0 from by decide), if_neg (show ¬ (4 : Int32) = 0 from by decide), c_74n (by decide) (by decide), c_103b (by decide) (by decide) (by decide), m_70b (by decide) (by decide), m_91n (by decide) (by decide)]
      exact ⟨rfl, fR_begun h.1 4 b 1 2 2 ⟨rfl, rfl, rfl, rfl, rfl, rfl, rfl, rfl, rfl, rfl, rfl, rfl, rfl, rfl, rfl, rfl, rfl⟩ ⟨rfl, rfl, rfl, rfl, rfl, rfl, rfl, rfl, rfl, rfl, rfl, rfl, rfl, rfl, rfl, rfl, rfl, rfl⟩ a18 a20 hda (Or.inr (Or.inr (Or.inl ⟨rfl, rfl, Or.inr (Or.inr rfl)⟩))) sT_2 (by decide) sQ_1 sC_20⟩
    · rw [show nI 5 = 5 from by decide, if_neg (show ¬ (5 : Int32) = 0 from by decide), if_neg (show ¬ (5 : Int32) = 0 from by decide), c_74y (Or.inr rfl), m_705]
      by_cases c0 : y.1 1 = 0
      · have c0' : z.1 0 = 0 := a0.trans c0
        rw [c_84n (Z := fX2_forgetDataSize (fX2_reset (upd (upd (upd (upd (upd z.1 21 5) 22 b) 17 1) 24 0) 25 0, z.2))) c0', c_1035, m_915 (Y := (upd (upd (upd (fX6_reset (upd (upd (upd y.1 17 5) 16 1) 18 b, y.2)).1 12 16) 21 0) 20 0, (fX6_reset (upd (upd (upd y.1 17 5) 16 1) 18 b, y.2)).2)) c0]
        exact ⟨rfl, fR_begun h.1 5 b 3 7 7 ⟨rfl, rfl, rfl, rfl, rfl, rfl, rfl, rfl, (show (1 : Int32) ||| 2 = 3 from by decide), rfl, rfl, rfl, rfl, rfl, rfl, rfl, rfl⟩ ⟨rfl, rfl, rfl, rfl, rfl, rfl, rfl, rfl, (show (1 : Int32) ||| 2 = 3 from by decide), rfl, rfl, rfl, rfl, rfl, rfl, rfl, rfl, rfl⟩ a18 a20 hda (Or.inr (Or.inr (Or.inr (Or.inr (Or.inr (Or.inr (Or.inr (Or.inr ⟨rfl, rfl, rfl⟩)))))))) sT_7 (by decide) sQ_75 sC_7⟩
      · have c0' : ¬ z.1 0 = 0 := fun q => c0 (a0.symm.trans q)
        rw [c_84e (Z := fX2_forgetDataSize (fX2_reset (upd (upd (upd (upd (upd z.1 21 5) 22 b) 17 1) 24 0) 25 0, z.2))) c0' (show ¬ z.1 23 = 6 from fun q => absurd (h0.symm.trans q) (by decide)), m_91e (Y := (upd (upd (upd (fX6_reset (upd (upd (upd y.1 17 5) 16 1) 18 b, y.2)).1 12 16) 21 0) 20 0, (fX6_reset (upd (upd (upd y.1 17 5) 16 1) 18 b, y.2)).2)) c0 (Or.inr rfl) (by decide) (by decide)]
        exact ⟨rfl, fR_begun h.1 5 b 64 0 0 ⟨rfl, rfl, rfl, rfl, rfl, rfl, rfl, rfl, (show ((1 : Int32) ||| 64) &&& (-4) = 64 from by decide), rfl, rfl, rfl, rfl, rfl, rfl, rfl, rfl⟩ ⟨rfl, rfl, rfl, rfl, rfl, rfl, rfl, rfl, (show (((1 : Int32) ||| 64) &&& (1 ^^^ (-1))) &&& (2 ^^^ (-1)) = 64 from by decide), rfl, rfl, rfl, rfl, rfl, rfl, rfl, rfl, rfl⟩ a18 a20 hda (Or.inl ⟨rfl, rfl⟩) sT_0 (by decide) sQ_64 sC_0⟩
  · rw [if_neg (m_has1 cb), if_neg (c_has1 (z := z) (show ¬ z.1 17 &&& 1 = 0 from by rw [a17]; exact cb))]
    exact ⟨rfl, h⟩
