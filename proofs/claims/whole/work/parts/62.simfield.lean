/-! bytes of a field -/
theorem fk_lt3 (x : Int32) : x < 3 ↔ x ≤ 2 := by
  rw [Int32.lt_iff_toInt_lt, Int32.le_iff_toInt_le, show (3 : Int32).toInt = 3 from by decide, show (2 : Int32).toInt = 2 from by decide]
  omega
theorem fR_none {T : Nat} {z : fk_C} {y : fk_M} (h : fR T z y) (h7 : z.1 7 = 0) : fR T (upd (upd z.1 5 0) 4 0, z.2) (upd (upd y.1 6 0) 5 0, y.2) := by
  obtain ⟨⟨hI, ⟨a0, a1, a2, a3, a4, a5, a7, a16, a17, a18, a19, a20, a21, a22, a25, a33, a34⟩, hbf, hby, hda, hD, hF, hP, hS, hT, hW, hQ⟩, hC⟩ := h
  exact ⟨⟨mI_of ⟨rfl, rfl, rfl, rfl, rfl, rfl, rfl⟩ hI, ⟨a0, a1, a2, a3, rfl, rfl, a7, a16, a17, a18, a19, a20, a21, a22, a25, a33, a34⟩, hbf, hby, hda, hD, hF, hP, Or.inl rfl, hT, hW, hQ⟩, hC⟩
theorem c_b13_0 (z : fk_C) : fX2_beginField_13 z 0 = (0, (upd (upd z.1 5 0) 4 0, z.2)) := by
  unfold fX2_beginField_13
  rw [if_pos rfl]
  unfold fX2_beginField_41
  rw [if_pos rfl]
theorem c_b13_1 (z : fk_C) : fX2_beginField_13 z 1 = if z.1 12 = 254 then fX2_beginField_80 (upd (upd z.1 5 0) 7 1, z.2) else if z.1 12 = 251 then fX2_beginField_80 (upd (upd z.1 5 0) 7 2, z.2) else if z.1 12 = 248 then fX2_beginField_80 (upd (upd z.1 5 0) 7 2, z.2) else (0, (upd (upd z.1 5 0) 4 0, z.2)) := by
  unfold fX2_beginField_13
  rw [if_neg (show ¬ (1 : Int32) = 0 from by decide)]
  unfold fX2_beginField_41
  rw [if_neg (show ¬ (1 : Int32) = 0 from by decide)]
  rfl
theorem m_cm0 {y : fk_M} {b : Int32} (h8 : y.1 8 = 0) (h6 : ¬ y.1 6 ≤ 2) : fX6_comes y b = if b = 254 then fX6_begins (upd (upd y.1 6 0) 5 1, y.2) 1 b else if b = 251 then fX6_begins (upd (upd y.1 6 0) 5 1, y.2) 2 b else if b = 248 then fX6_begins (upd (upd y.1 6 0) 5 1, y.2) 2 b else (upd (upd y.1 6 0) 5 0, y.2) := by
  unfold fX6_comes
  rw [if_pos h8, if_neg h6, if_neg h6, if_neg h6]
  by_cases c : b = 254
  · rw [if_pos c, if_pos c]
    split
    · rfl
    · split <;> rfl
  · rw [if_neg c, if_neg c]
theorem fR_new {T : Nat} {z : fk_C} {y : fk_M} {b : Int32} (h : fR T z y) (h7 : z.1 7 = 0) (hb : sB b) (e12 : z.1 12 = b) (h4 : z.1 4 = 1) :
    fR T (fX0_readOneCell_c1 (fX2_beginField z).2 (fX2_beginField z).1) (fX6_comes y b) := by
  have a7 := h.1.2.1.2.2.2.2.2.2.1
  have a5 := h.1.2.1.2.2.2.2.2.1
  have h8 : y.1 8 = 0 := a7.symm.trans h7
  unfold fX2_beginField
  by_cases cm : z.1 5 < 3
  · have cm' : y.1 6 ≤ 2 := by rw [← a5]; exact (fk_lt3 _).mp cm
    rw [if_pos cm, c_b13_0]
    show fR T (fX0_readOneCell_c1 (upd (upd z.1 5 0) 4 0, z.2) 0) _
    rw [c_c1_0]
    unfold fX6_comes
    rw [if_pos h8, if_pos cm', if_pos cm']
    exact fR_none h h7
  · have cm' : ¬ y.1 6 ≤ 2 := by rw [← a5]; exact fun q => cm ((fk_lt3 _).mpr q)
    rw [if_neg cm, m_cm0 h8 cm', c_b13_1, e12]
    by_cases c1 : b = 254
    · rw [if_pos c1, if_pos c1]
      exact fR_begins h h7 hb e12 h4 (Or.inl rfl)
    · rw [if_neg c1, if_neg c1]
      by_cases c2 : b = 251
      · rw [if_pos c2, if_pos c2]
        exact fR_begins h h7 hb e12 h4 (Or.inr rfl)
      · rw [if_neg c2, if_neg c2]
        by_cases c3 : b = 248
        · rw [if_pos c3, if_pos c3]
          exact fR_begins h h7 hb e12 h4 (Or.inr rfl)
        · rw [if_neg c3, if_neg c3]
          show fR T (fX0_readOneCell_c1 (upd (upd z.1 5 0) 4 0, z.2) 0) _
          rw [c_c1_0]
          exact fR_none h h7
/-! functions with one place changed -/
theorem upd_self (f : Nat → Int32) (k : Nat) : upd f k (f k) = f := by
  funext j
  unfold upd
  split
  · rename_i e
    rw [e]
  · rfl
theorem upd_comm (f : Nat → Int32) {k l : Nat} (h : k ≠ l) (a b : Int32) : upd (upd f k a) l b = upd (upd f l b) k a := by
  funext j
  unfold upd
  by_cases h1 : j = l
  · subst h1
    rw [if_pos rfl, if_neg (Ne.symm h), if_pos rfl]
  · rw [if_neg h1, if_neg h1]
theorem cN_congr {c : Int32} {f g : Nat → Int32} : ∀ (n : Nat), (∀ i, i < n → f i = g i) → cN c f n = cN c g n
  | 0, _ => rfl
  | n + 1, h => by
    show fX5_checkWith _ _ = fX5_checkWith _ _
    rw [cN_congr n (fun i hi => h i (by omega)), h n (by omega)]
theorem sH_cN {c : Int32} {f : Nat → Int32} (hc : sH c) : ∀ (n : Nat), (∀ i, i < n → sB (f i)) → sH (cN c f n)
  | 0, _ => hc
  | n + 1, h => sH_cw (sH_cN hc n (fun i hi => h i (by omega))) (h n (by omega))
theorem sB_161 : sB 161 := ⟨161, by decide, by decide⟩
theorem sH_1 : sH 65535 := ⟨65535, by decide, by decide⟩
theorem sH_c4 {b : Int32} (hb : sB b) : sH (c4 b) := sH_cw (sH_cw (sH_cw (sH_cw sH_1 sB_161) sB_161) sB_161) hb
/-- the reference's check of a field -/
theorem m_right35 {q : fk_M} {st : Int32} {N : Nat} (hN : 2 ≤ N) (hN4 : N ≤ 40) (e10 : q.1 10 = nI N) (hst : sB st) (hf : ∀ i, i < N → sB (q.2.2.1 i)) :
    ∀ (n j : Nat), j ≤ N - 2 → N - 2 + 1 ≤ j + n → fX6_isRight_35 n q (cN (c4 st) q.2.2.1 j) (nI j) = if cN (c4 st) q.2.2.1 N = 0 then 1 else 0 := by
  have e2 : q.1 10 - 2 = nI (N - 2) := by
    rw [e10, show (2 : Int32) = nI 2 from by decide]
    exact pk_sub hN
  have e1 : q.1 10 - 1 = nI (N - 1) := by
    rw [e10, show (1 : Int32) = nI 1 from by decide]
    exact pk_sub (by omega)
  intro n
  induction n with
  | zero => intro j h1 h2; omega
  | succ n ih =>
    intro j h1 h2
    rw [fX6_isRight_35, e2, e1, nI_clamp (by omega), nI_clamp (by omega)]
    by_cases hj : j = N - 2
    · subst hj
      rw [if_pos (nI_le (Nat.le_refl _) (by omega))]
      obtain ⟨M, rfl⟩ : ∃ M, N = M + 2 := ⟨N - 2, by omega⟩
      have hc := sH_cN (sH_c4 hst) M (fun i hi => hf i (by omega))
      have hr := crc_right hc (hf M (by omega)) (hf (M + 1) (by omega))
      show (if q.2.2.1 (M + 2 - 2) = cN (c4 st) q.2.2.1 (M + 2 - 2) >>> ((8 : Int32) &&& 31) then _ else _) = if fX5_checkWith (fX5_checkWith (cN (c4 st) q.2.2.1 M) (q.2.2.1 M)) (q.2.2.1 (M + 1)) = 0 then 1 else 0
      rw [show M + 2 - 2 = M from by omega, show M + 2 - 1 = M + 1 from by omega]
      by_cases k1 : q.2.2.1 M = cN (c4 st) q.2.2.1 M >>> ((8 : Int32) &&& 31)
      · rw [if_pos k1]
        by_cases k2 : q.2.2.1 (M + 1) = cN (c4 st) q.2.2.1 M &&& 255
        · rw [if_pos k2, if_pos (hr.mpr ⟨k1, k2⟩)]
        · rw [if_neg k2, if_neg (fun w => k2 (hr.mp w).2)]
      · rw [if_neg k1, if_neg (fun w => k1 (hr.mp w).1)]
    · rw [if_neg (nI_ge (by omega) (by omega)), nI_1, nI_clamp (by omega), st_cw (sH_cN (sH_c4 hst) j (fun i hi => hf i (by omega))) (hf j (by omega))]
      exact ih (j + 1) (by omega) (by omega)
theorem m_right {q : fk_M} {st : Int32} {N : Nat} (hN : 2 ≤ N) (hN4 : N ≤ 40) (e10 : q.1 10 = nI N) (e9 : q.1 9 = st) (hst : sB st) (hf : ∀ i, i < N → sB (q.2.2.1 i)) : fX6_isRight q = if cN (c4 st) q.2.2.1 N = 0 then 1 else 0 := by
  have h3 : fX6_step (fX6_step (fX6_step (fX6_step 65535 161) 161) 161) st = c4 st := by
    rw [st_cw sH_1 sB_161, st_cw (sH_cw sH_1 sB_161) sB_161, st_cw (sH_cw (sH_cw sH_1 sB_161) sB_161) sB_161, st_cw (sH_cw (sH_cw (sH_cw sH_1 sB_161) sB_161) sB_161) hst]
    rfl
  unfold fX6_isRight
  rw [fX6_isRight_5, if_neg (by decide), fX6_isRight_5, if_neg (by decide), fX6_isRight_5, if_neg (by decide), fX6_isRight_5, if_pos (by decide), e9, h3]
  exact m_right35 hN hN4 e10 hst hf 41 0 (by omega) (by omega)
/-! a byte is got -/
theorem c_mbN {z : fk_C} (h : ¬ (z.1 23 = 4 ∧ fX2_isLatestByteOfCheck z = 0)) : fX0_meetFieldByte z = z := by
  unfold fX0_meetFieldByte
  by_cases c : z.1 23 = 4
  · rw [if_pos c, if_neg (fun q => h ⟨c, q⟩)]
  · rw [if_neg c]
theorem fQ_recv {T : Nat} {z : fk_C} {y : fk_M} {b : Int32} (h : fQ T z y) (hb : sB b) (e12 : z.1 12 = b) (h4 : z.1 23 = 4) (hk : fX2_isLatestByteOfCheck z = 0) : fQ T (fX0_meetFieldByte z) (fX6_receive y b) := by
  have hI' := mI_of (mE_receive y b) h.1
  obtain ⟨hI, ⟨a0, a1, a2, a3, a4, a5, a7, a16, a17, a18, a19, a20, a21, a22, a25, a33, a34⟩, hbf, hby, hda, hD, hF, hP, hS, hT, hW, hQ⟩ := h
  have hl : z.1 21 = 2 ∨ z.1 21 = 3 ∨ z.1 21 = 4 ∨ z.1 21 = 5 := by
    rcases hP with ⟨q, -⟩ | ⟨q, -⟩ | ⟨q, -⟩ | ⟨q, -⟩ | ⟨-, -, q⟩ | ⟨q, -⟩ | ⟨q, -⟩ | ⟨q, -⟩ | ⟨q, -⟩
    all_goals first | exact absurd (h4.symm.trans q) (by decide) | skip
    rcases q with q | q
    · exact Or.inl q
    · exact Or.inr (Or.inr (Or.inl q))
  unfold fX0_meetFieldByte fX6_receive fX6_receive_c1 at *
  rw [if_pos h4, if_pos hk, e12]
  by_cases c : z.1 17 &&& 2 = 0
  · have c' : y.1 16 &&& 2 = 0 := by rw [← a17]; exact c
    have k1 : fX0_has (upd z.1 20 b, z.2) 2 = 0 := by
      unfold fX0_has
      rw [if_pos (show (upd z.1 20 b, z.2).1 17 &&& 2 = 0 from c)]
    have k2 : fX6_has (upd y.1 15 b, y.2) 2 = 0 := by
      unfold fX6_has
      rw [if_pos (show (upd y.1 15 b, y.2).1 16 &&& 2 = 0 from c')]
    rw [if_pos k2] at hI'
    rw [if_pos k1, if_pos k2]
    exact ⟨hI', ⟨a0, a1, a2, a3, a4, a5, a7, a16, (by rw [a17] : z.1 17 ||| 2 = y.1 16 ||| 2), a18, a19, rfl, a21, a22, a25, a33, a34⟩, hbf, hby, hb, hD, hF, hP, hS, hT, hW, sQ_or2 hl hQ⟩
  · have c' : ¬ y.1 16 &&& 2 = 0 := by rw [← a17]; exact c
    have k1 : ¬ fX0_has (upd z.1 20 b, z.2) 2 = 0 := by
      unfold fX0_has
      rw [if_neg (show ¬ (upd z.1 20 b, z.2).1 17 &&& 2 = 0 from c)]
      decide
    have k2 : ¬ fX6_has (upd y.1 15 b, y.2) 2 = 0 := by
      unfold fX6_has
      rw [if_neg (show ¬ (upd y.1 15 b, y.2).1 16 &&& 2 = 0 from c')]
      decide
    rw [if_neg k2] at hI'
    rw [if_neg k1, if_neg k2]
    exact ⟨hI', ⟨a0, a1, a2, a3, a4, a5, a7, a16, (by rw [a17] : (z.1 17 ||| 4) ||| 2 = (y.1 16 ||| 4) ||| 2), a18, a19, rfl, a21, a22, a25, a33, a34⟩, hbf, hby, hb, hD, hF, hP, hS, hT, hW, sQ_or2 hl (sQ_or (by decide) (by decide) hQ)⟩
/-! a field is over -/
theorem fR_of0 {T : Nat} {z : fk_C} {y : fk_M} (h : fQ T z y) (h7 : z.1 7 = 0) (h4 : ¬ z.1 23 = 4) : fR T z y := ⟨h, fun q => absurd q h4, fun _ _ q => absurd (h7.symm.trans q) (by decide)⟩
theorem c_rt1 {z : fk_C} (h : z.1 10 = 0) : fX2_isCheckRight z = 1 := by
  unfold fX2_isCheckRight
  rw [if_pos h]
theorem c_rt0 {z : fk_C} (h : ¬ z.1 10 = 0) : fX2_isCheckRight z = 0 := by
  unfold fX2_isCheckRight
  rw [if_neg h]
/-- the data field's end -/
theorem fR_dataEnd {T : Nat} {z : fk_C} {y : fk_M} {r : Int32} (h : fQ T z y) (h7 : z.1 7 = 0) (h11 : z.1 11 = 2) (hl : z.1 23 = 4 → z.1 21 = 2) (hr : r = if z.1 10 = 0 then 1 else 0) : fR T (fX0_meetFieldEnd z) (fX6_dataOver y r) := by
  have a17 := h.2.1.2.2.2.2.2.2.2.2.1
  have a21 := h.2.1.2.2.2.2.2.2.2.2.2.2.2.2.1
  have hP := h.2.2.2.2.2.2.2.1
  have hQ := h.2.2.2.2.2.2.2.2.2.2.2
  unfold fX0_meetFieldEnd fX6_dataOver
  by_cases c : z.1 23 = 4
  · have c19 : y.1 19 = 4 := by
      rcases hP with ⟨q, -⟩ | ⟨q, -⟩ | ⟨q, -⟩ | ⟨q, -⟩ | ⟨-, q, -⟩ | ⟨q, -⟩ | ⟨q, -⟩ | ⟨q, -⟩ | ⟨q, -⟩
      all_goals first | exact q | exact absurd (c.symm.trans q) (by decide)
    have l2 := hl c
    rw [if_pos c, if_pos (show y.1 17 = 2 from a21.symm.trans l2), if_pos c19]
    unfold fX0_endReading
    rw [if_neg (show ¬ z.1 21 = 4 from fun q => absurd (l2.symm.trans q) (by decide))]
    unfold fX0_endReading_19
    by_cases c10 : z.1 10 = 0
    · rw [c_rt1 c10, if_neg (by decide)]
      rw [if_pos c10] at hr
      rw [if_neg (show ¬ r = 0 from by rw [hr]; decide)]
      exact fR_end h
    · rw [c_rt0 c10, if_pos rfl]
      rw [if_neg c10] at hr
      rw [if_pos hr]
      exact fR_end (fQ_st h (by rw [a17]) (sQ_or (by decide) (by decide) hQ))
  · have c19 : ¬ (y.1 17 = 2 ∧ y.1 19 = 4) := by
      rintro ⟨-, q9⟩
      rcases hP with ⟨-, q⟩ | ⟨-, q, -⟩ | ⟨-, q, -⟩ | ⟨-, q, -⟩ | ⟨q, -⟩ | ⟨-, q, -⟩ | ⟨-, q, -⟩ | ⟨-, q, -⟩ | ⟨-, q, -⟩
      all_goals first | exact c q | exact absurd (q9.symm.trans q) (by decide)
    have k1 : fX2_isLatestFieldId z = 0 := by
      unfold fX2_isLatestFieldId
      rw [if_neg (show ¬ z.1 11 = 1 from fun q => absurd (h11.symm.trans q) (by decide))]
    rw [if_neg c, if_pos k1]
    have k2 : (if y.1 17 = 2 then if y.1 19 = 4 then if r = 0 then fX6_dataOver_c1 (fX6_raise y 8) else fX6_end y else y else y) = y := by
      by_cases d1 : y.1 17 = 2
      · rw [if_pos d1, if_neg (fun q => c19 ⟨d1, q⟩)]
      · rw [if_neg d1]
    rw [k2]
    exact fR_of0 h h7 c
theorem fQ_sec {T : Nat} {z : fk_C} {y : fk_M} {x x' : Int32} (h : fQ T z y) (e : x = x') : fQ T (upd z.1 19 x, z.2) (upd y.1 14 x', y.2) := by
  obtain ⟨hI, ⟨a0, a1, a2, a3, a4, a5, a7, a16, a17, a18, a19, a20, a21, a22, a25, a33, a34⟩, hbf, hby, hda, hD, hF, hP, hS, hT, hW, hQ⟩ := h
  exact ⟨mI_of ⟨rfl, rfl, rfl, rfl, rfl, rfl, rfl⟩ hI, ⟨a0, a1, a2, a3, a4, a5, a7, a16, a17, a18, e, a20, a21, a22, a25, a33, a34⟩, hbf, hby, hda, hD, hF, hP, hS, hT, hW, hQ⟩
/-- the comparison of an ID field, while it is hunted for -/
theorem fR_compare {T : Nat} {z : fk_C} {y : fk_M} {r : Int32} (h : fQ T z y) (h7 : z.1 7 = 0) (hph : (z.1 23 = 2 ∧ (z.1 21 = 2 ∨ z.1 21 = 3)) ∨ (z.1 23 = 3 ∧ z.1 21 = 2)) (h13 : z.1 13 = y.2.2.1 0) (h14 : z.1 14 = y.2.2.1 2) (hr : r = if z.1 10 = 0 then 1 else 0) : fR T (fX0_compareId z) (fX6_idOver_105 y r 1) := by
  have hn4 : ¬ z.1 23 = 4 := by rcases hph with ⟨q, -⟩ | ⟨q, -⟩ <;> (rw [q]; decide)
  have hnz : ¬ z.1 23 = 0 := by rcases hph with ⟨q, -⟩ | ⟨q, -⟩ <;> (rw [q]; decide)
  have hI' := mI_of (mE_idOver105 y r 1) h.1
  obtain ⟨hI, ⟨a0, a1, a2, a3, a4, a5, a7, a16, a17, a18, a19, a20, a21, a22, a25, a33, a34⟩, hbf, hby, hda, hD, hF, hP, hS, hT, hW, hQ⟩ := id h
  have e8 : z.1 17 &&& (-9) = y.1 16 &&& (8 ^^^ (-1)) := by rw [a17, show ((8 : Int32) ^^^ (-1)) = -9 from by decide]
  unfold fX0_compareId fX6_idOver_105 at *
  rw [if_neg (show ¬ (1 : Int32) = 0 from by decide)] at hI' ⊢
  by_cases c10 : z.1 10 = 0
  · rw [if_pos c10] at hr
    have hr0 : ¬ r = 0 := by rw [hr]; decide
    rw [if_neg hr0] at hI' ⊢
    rw [c_rt1 c10, if_neg (by decide)]
    unfold fX6_idOver_c1 at *
    have q9 : sQ (z.1 17 &&& (-9)) (z.1 23) (z.1 21) := sQ_and (by decide) (by decide) hQ
    have hno : fR T (upd z.1 17 (z.1 17 &&& (-9)), z.2) (fX6_drop y 8) := fR_of0 (fQ_st h e8 q9) h7 hn4
    by_cases k1 : z.1 13 = z.1 18
    · have k1' : (fX6_drop y 8).2.2.1 (0 : Int32).toNatClampNeg = (fX6_drop y 8).1 13 := h13.symm.trans (k1.trans a18)
      rw [if_pos k1'] at hI' ⊢
      rw [if_pos k1]
      by_cases k2 : z.1 14 = z.1 19
      · have k2' : (fX6_drop y 8).2.2.1 (2 : Int32).toNatClampNeg = (fX6_drop y 8).1 14 := h14.symm.trans (k2.trans a19)
        rw [if_pos k2'] at hI' ⊢
        rw [if_pos k2]
        unfold fX6_idOver_168 at *
        by_cases k3 : z.1 21 = 3
        · have n2 : ¬ (fX6_drop y 8).1 17 = 2 := fun q => absurd ((a21.symm.trans k3).symm.trans q) (by decide)
          have n3 : (fX6_drop y 8).1 17 = 3 := a21.symm.trans k3
          rw [if_neg n2, if_pos n3] at hI' ⊢
          rw [if_pos k3]
          exact ⟨⟨hI', ⟨a0, a1, a2, a3, a4, a5, a7, a16, (by rw [e8] : (z.1 17 &&& (-9)) ||| 2 = (y.1 16 &&& (8 ^^^ (-1))) ||| 2), a18, a19, a20, a21, a22, a25, a33, a34⟩, hbf, hby, hda, hD, hF, Or.inr (Or.inr (Or.inr (Or.inr (Or.inr (Or.inl ⟨rfl, rfl, k3⟩))))), hS, sT_5, sW_5, sQ_or2 (Or.inr (Or.inl k3)) (sQ_n (a' := 5) q9 hnz)⟩, sC_5⟩
        · have k4 : z.1 21 = 2 := by
            rcases hph with ⟨-, q | q⟩ | ⟨-, q⟩
            · exact q
            · exact absurd q k3
            · exact q
          have n2 : (fX6_drop y 8).1 17 = 2 := a21.symm.trans k4
          have n3 : ¬ (fX6_drop y 8).1 17 = 3 := fun q => k3 (a21.trans q)
          rw [if_pos n2, if_neg n3] at hI' ⊢
          rw [if_neg k3]
          exact ⟨⟨hI', ⟨a0, a1, a2, a3, a4, a5, a7, a16, e8, a18, a19, a20, a21, a22, a25, a33, a34⟩, hbf, hby, hda, hD, hF, Or.inr (Or.inr (Or.inr (Or.inl ⟨rfl, rfl, k4⟩))), hS, sT_3, sW_3, sQ_n (a' := 3) q9 hnz⟩, sC_3⟩
      · have k2' : ¬ (fX6_drop y 8).2.2.1 (2 : Int32).toNatClampNeg = (fX6_drop y 8).1 14 := fun q => k2 (h14.trans ((show y.2.2.1 2 = y.1 14 from q).trans a19.symm))
        rw [if_neg k2'] at hI' ⊢
        rw [if_neg k2]
        exact hno
    · have k1' : ¬ (fX6_drop y 8).2.2.1 (0 : Int32).toNatClampNeg = (fX6_drop y 8).1 13 := fun q => k1 (h13.trans ((show y.2.2.1 0 = y.1 13 from q).trans a18.symm))
      rw [if_neg k1'] at hI' ⊢
      rw [if_neg k1]
      exact hno
  · rw [if_neg c10] at hr
    rw [if_pos hr, c_rt0 c10, if_pos rfl]
    exact fR_of0 (fQ_st h (by rw [a17]) (sQ_or (by decide) (by decide) hQ)) h7 hn4
/-- the ID field's end -/
theorem fR_idEnd {T : Nat} {z : fk_C} {y : fk_M} {r : Int32} (h : fQ T z y) (h7 : z.1 7 = 0) (h11 : z.1 11 = 1) (hl : z.1 23 = 4 → z.1 21 = 4) (hl2 : z.1 23 = 2 → ¬ z.1 21 = 4) (h13 : z.1 13 = y.2.2.1 0) (h14 : z.1 14 = y.2.2.1 2) (hr : r = if z.1 10 = 0 then 1 else 0) : fR T (fX0_meetFieldEnd z) (fX6_idOver_19 y r) := by
  have a17 := h.2.1.2.2.2.2.2.2.2.2.1
  have a21 := h.2.1.2.2.2.2.2.2.2.2.2.2.2.2.1
  have hP := h.2.2.2.2.2.2.2.1
  have hQ := h.2.2.2.2.2.2.2.2.2.2.2
  have k1 : ¬ fX2_isLatestFieldId z = 0 := by
    unfold fX2_isLatestFieldId
    rw [if_pos h11]
    decide
  have key : ∀ (A : fk_C) (B : fk_M), fX0_meetFieldEnd z = A → fX6_idOver_19 y r = B → fR T A B → fR T (fX0_meetFieldEnd z) (fX6_idOver_19 y r) := fun A B e1 e2 q => by rw [e1, e2]; exact q
  have same : ∀ (p : Int32), z.1 23 = p → ¬ p = 4 → ¬ p = 2 → ¬ p = 3 → fX0_meetFieldEnd z = z := fun p e n4 n2 n3 => by
    unfold fX0_meetFieldEnd
    rw [e, if_neg n4, if_neg k1, if_neg n2, if_neg n3]
  have m60 : ¬ (y.1 17 = 4 ∧ y.1 19 = 4) → fX6_idOver_19 y r = fX6_idOver_60 y r := fun q => by
    unfold fX6_idOver_19
    by_cases d1 : y.1 17 = 4
    · rw [if_pos d1, if_neg (fun w => q ⟨d1, w⟩)]
    · rw [if_neg d1]
  have msame : ∀ (p : Int32), y.1 19 = p → ¬ p = 4 → ¬ p = 2 → ¬ p = 3 → fX6_idOver_19 y r = y := fun p e n4 n2 n3 => by
    rw [m60 (fun w => n4 (e.symm.trans w.2))]
    unfold fX6_idOver_60 fX6_idOver_84 fX6_idOver_104 fX6_idOver_105
    rw [e, if_neg n2, if_neg n3, if_neg n2]
    by_cases d1 : y.1 17 = 2
    · rw [if_pos d1]
      by_cases d2 : y.1 17 = 3
      · rw [if_pos d2, if_pos rfl]
      · rw [if_neg d2, if_pos rfl]
    · rw [if_neg d1]
      by_cases d2 : y.1 17 = 3
      · rw [if_pos d2, if_pos rfl]
      · rw [if_neg d2, if_pos rfl]
  have done : ∀ (p p' : Int32), z.1 23 = p → y.1 19 = p' → ¬ p = 4 → ¬ p = 2 → ¬ p = 3 → ¬ p' = 4 → ¬ p' = 2 → ¬ p' = 3 → fR T (fX0_meetFieldEnd z) (fX6_idOver_19 y r) := fun p p' e e' n1 n2 n3 n4 n5 n6 => key z y (same p e n1 n2 n3) (msame p' e' n4 n5 n6) (fR_of0 h h7 (fun q => n1 (e.symm.trans q)))
  rcases hP with ⟨p1, p2⟩ | ⟨p1, p2, -⟩ | ⟨p1, p2, pl⟩ | ⟨p1, p2, pl⟩ | ⟨p1, p2, pl⟩ | ⟨p1, p2, -⟩ | ⟨p1, p2, -⟩ | ⟨p1, p2, -⟩ | ⟨p1, p2, -⟩
  · exact done 0 0 p1 p2 (by decide) (by decide) (by decide) (by decide) (by decide) (by decide)
  · exact done 1 1 p1 p2 (by decide) (by decide) (by decide) (by decide) (by decide) (by decide)
  · have n4 : ¬ z.1 21 = 4 := hl2 p1
    have pl' : z.1 21 = 2 ∨ z.1 21 = 3 := by
      rcases pl with q | q | q
      · exact Or.inl q
      · exact Or.inr q
      · exact absurd q n4
    refine key (fX0_compareId z) (fX6_idOver_105 y r 1) ?_ ?_ (fR_compare h h7 (Or.inl ⟨p1, pl'⟩) h13 h14 hr)
    · unfold fX0_meetFieldEnd
      rw [if_neg (show ¬ z.1 23 = 4 from by rw [p1]; decide), if_neg k1, if_pos p1]
    · rw [m60 (fun w => n4 (a21.trans w.1))]
      unfold fX6_idOver_60 fX6_idOver_84 fX6_idOver_100
      rcases pl' with q | q
      · rw [if_pos (show y.1 17 = 2 from a21.symm.trans q), if_pos p2]
      · rw [if_neg (show ¬ y.1 17 = 2 from fun w => absurd ((a21.symm.trans q).symm.trans w) (by decide)), if_pos (show y.1 17 = 3 from a21.symm.trans q), if_pos p2]
  · refine key (fX0_compareId z) (fX6_idOver_105 y r 1) ?_ ?_ (fR_compare h h7 (Or.inr ⟨p1, pl⟩) h13 h14 hr)
    · unfold fX0_meetFieldEnd
      rw [if_neg (show ¬ z.1 23 = 4 from by rw [p1]; decide), if_neg k1, if_neg (show ¬ z.1 23 = 2 from by rw [p1]; decide), if_pos p1]
    · rw [m60 (fun w => absurd (p2.symm.trans w.2) (by decide))]
      unfold fX6_idOver_60 fX6_idOver_100
      rw [if_pos (show y.1 17 = 2 from a21.symm.trans pl), if_neg (show ¬ y.1 19 = 2 from by rw [p2]; decide), if_pos p2]
  · have l4 := hl p1
    unfold fX0_meetFieldEnd fX6_idOver_19 fX0_endReading fX6_idOver_c2
    rw [if_pos p1, if_pos l4, if_pos (show y.1 17 = 4 from a21.symm.trans l4), if_pos p2]
    unfold fX0_endReading_19
    have hs := fQ_sec h (show z.1 13 = y.2.2.1 (0 : Int32).toNatClampNeg from h13)
    by_cases c10 : z.1 10 = 0
    · rw [if_pos c10] at hr
      rw [if_neg (show ¬ r = 0 from by rw [hr]; decide), c_rt1 (z := (upd z.1 19 (z.1 13), z.2)) c10, if_neg (by decide)]
      exact fR_end hs
    · rw [if_neg c10] at hr
      rw [if_pos hr, c_rt0 (z := (upd z.1 19 (z.1 13), z.2)) c10, if_pos rfl]
      exact fR_end (fQ_st hs (by show z.1 17 ||| 8 = y.1 16 ||| 8; rw [a17]) (sQ_or (by decide) (by decide) hQ))
  · exact done 5 5 p1 p2 (by decide) (by decide) (by decide) (by decide) (by decide) (by decide)
  · exact done 6 6 p1 p2 (by decide) (by decide) (by decide) (by decide) (by decide) (by decide)
  · exact done 6 8 p1 p2 (by decide) (by decide) (by decide) (by decide) (by decide) (by decide)
  · exact done 7 7 p1 p2 (by decide) (by decide) (by decide) (by decide) (by decide) (by decide)
