/-! a byte time -/
theorem c_has0 {z : fk_C} {m : Int32} (h : z.1 17 &&& m = 0) : fX0_has z m = 0 := by
  unfold fX0_has
  rw [if_pos h]
theorem c_has1 {z : fk_C} {m : Int32} (h : ¬ z.1 17 &&& m = 0) : ¬ fX0_has z m = 0 := by
  unfold fX0_has
  rw [if_neg h]
  decide
theorem m_has0 {y : fk_M} {m : Int32} (h : y.1 16 &&& m = 0) : fX6_has y m = 0 := by
  unfold fX6_has
  rw [if_pos h]
theorem m_has1 {y : fk_M} {m : Int32} (h : ¬ y.1 16 &&& m = 0) : ¬ fX6_has y m = 0 := by
  unfold fX6_has
  rw [if_neg h]
  decide
theorem sV_new {mp ds : Int32} (hd : ds = 16 ∨ ds = 32) : sV mp 0 65535 0 0 0 ds 0 0 65535 0 (-1) true := by
  refine ⟨rfl, Or.inl rfl, sH_1, sH_1, fun _ => ⟨rfl, rfl, Or.inl rfl, Or.inl ⟨rfl, rfl⟩⟩, fun _ => ?_⟩
  rcases hd with rfl | rfl
  · exact ⟨0, 16, Or.inl rfl, by decide, by decide, by decide, by decide, fun _ => by decide, fun _ => ⟨rfl, rfl⟩, fun q => absurd q (by decide), fun q => absurd q (by decide), by decide⟩
  · exact ⟨0, 32, Or.inr rfl, by decide, by decide, by decide, by decide, fun _ => by decide, fun _ => ⟨rfl, rfl⟩, fun q => absurd q (by decide), fun q => absurd q (by decide), by decide⟩
theorem sT_6 {T : Nat} {b c : Int32} : sT T 6 b c := ⟨fun q => absurd q (by decide), fun q => absurd q (by decide), fun q => absurd q (by decide)⟩
theorem sT_2 {T : Nat} {b c : Int32} : sT T 2 b c := ⟨fun q => absurd q (by decide), fun q => absurd q (by decide), fun q => absurd q (by decide)⟩
theorem sC_6 {b c : Int32} : sC 6 b c := ⟨fun q => absurd q (by decide), fun q => absurd q (by decide)⟩
theorem sC_1 {b c : Int32} : sC 1 b c := ⟨fun q => absurd q (by decide), fun q => absurd q (by decide)⟩
theorem sC_2 {b c : Int32} (h : ¬ b = 4) : sC 2 b c := ⟨fun q => absurd q (by decide), fun _ q => absurd q h⟩
theorem sW_2 {mp wd cl lb ck cn bm ld ds pt wr wh lbm sm mk sc : Int32} : sW 2 mp wd cl lb ck cn bm ld ds pt wr wh lbm sm mk sc := fun q => absurd q (by decide)
/-- writing starts -/
theorem fR_start {T : Nat} {z : fk_C} {y : fk_M} (h : fQ T z y) (hn : ¬ z.1 23 = 0) {m : Int32} (hm : (m = 6 ∧ z.1 21 = 3) ∨ (m = 8 ∧ z.1 21 = 5)) : fR T (fX4_start (fX2_reset (upd z.1 23 6, z.2))) (fX6_startWriting y m) := by
  have hI' := mI_startWriting h.1 m
  obtain ⟨⟨-, -, hm3, -⟩, ⟨a0, a1, a2, a3, a4, a5, a7, a16, a17, a18, a19, a20, a21, a22, a25, a33, a34⟩, hbf, hby, hda, hD, hF, hP, hS, hT, hW, hQ⟩ := h
  have hd : z.1 16 = 16 ∨ z.1 16 = 32 := by rw [a16]; exact hm3
  have hP' : sP 6 (z.1 21) m := by
    rcases hm with ⟨rfl, q⟩ | ⟨rfl, q⟩
    · exact Or.inr (Or.inr (Or.inr (Or.inr (Or.inr (Or.inr (Or.inl ⟨rfl, rfl, q⟩))))))
    · exact Or.inr (Or.inr (Or.inr (Or.inr (Or.inr (Or.inr (Or.inr (Or.inl ⟨rfl, rfl, q⟩)))))))
  have hW' : ∀ wd pt : Int32, sW 6 m wd 0 0 65535 0 0 0 (z.1 16) pt 0 0 0 65535 0 (-1) := fun wd pt _ => Or.inl ⟨rfl, rfl, sV_new hd⟩
  exact ⟨⟨hI', ⟨a0, a1, a2, a3, rfl, rfl, rfl, a16, a17, a18, a19, a20, a21, a22, a25, a33, a34⟩, hbf, hby, hda, hD, Or.inl rfl, hP', Or.inl rfl, sT_6, hW' _ _, sQ_n (a' := 6) hQ hn⟩, sC_6⟩
theorem fR_start2 {T U : Nat} {z : fk_C} {y : fk_M} (h : fQ T z y) (hn : ¬ z.1 23 = 0) (h3 : z.1 21 = 3) (b c : Int32) : fR U (fX4_start (fX2_reset (upd (upd z.1 24 b) 23 6, z.2))) (upd (fX6_startWriting y 6).1 20 c, (fX6_startWriting y 6).2) := by
  have hI' : mI (upd (fX6_startWriting y 6).1 20 c, (fX6_startWriting y 6).2) := mI_of ⟨rfl, rfl, rfl, rfl, rfl, rfl, rfl⟩ (mI_startWriting h.1 6)
  obtain ⟨⟨-, -, hm3, -⟩, ⟨a0, a1, a2, a3, a4, a5, a7, a16, a17, a18, a19, a20, a21, a22, a25, a33, a34⟩, hbf, hby, hda, hD, hF, hP, hS, hT, hW, hQ⟩ := h
  have hd : z.1 16 = 16 ∨ z.1 16 = 32 := by rw [a16]; exact hm3
  have hP' : sP 6 (z.1 21) 6 := Or.inr (Or.inr (Or.inr (Or.inr (Or.inr (Or.inr (Or.inl ⟨rfl, rfl, h3⟩))))))
  have hW' : ∀ wd pt : Int32, sW 6 6 wd 0 0 65535 0 0 0 (z.1 16) pt 0 0 0 65535 0 (-1) := fun wd pt _ => Or.inl ⟨rfl, rfl, sV_new hd⟩
  exact ⟨⟨hI', ⟨a0, a1, a2, a3, rfl, rfl, rfl, a16, a17, a18, a19, a20, a21, a22, a25, a33, a34⟩, hbf, hby, hda, hD, Or.inl rfl, hP', Or.inl rfl, sT_6, hW' _ _, sQ_n (a' := 6) hQ hn⟩, sC_6⟩
theorem fR_end2 {T U : Nat} {z : fk_C} {y : fk_M} (h : fQ T z y) (h5 : ¬ z.1 23 = 6) (b c : Int32) : fR U (fX0_endWith (upd z.1 24 b, z.2) 4) (upd (fX6_end (fX6_raise y 4)).1 20 c, (fX6_end (fX6_raise y 4)).2) := by
  have hI' : mI (upd (fX6_end (fX6_raise y 4)).1 20 c, (fX6_end (fX6_raise y 4)).2) := mI_of (((mE_raise y 4).tr (mE_end _)).tr ⟨rfl, rfl, rfl, rfl, rfl, rfl, rfl⟩) h.1
  obtain ⟨-, ⟨a0, a1, a2, a3, a4, a5, a7, a16, a17, a18, a19, a20, a21, a22, a25, a33, a34⟩, hbf, hby, hda, hD, hF, hP, hS, hT, hW, hQ⟩ := h
  have c6 : ¬ (fX6_raise y 4).1 19 = 6 := fun q => h5 ((sP_6 hP).mpr (Or.inl q))
  have c8 : ¬ (fX6_raise y 4).1 19 = 8 := fun q => h5 ((sP_6 hP).mpr (Or.inr q))
  have e17 : (z.1 17 ||| 4) &&& (-4) = ((y.1 16 ||| 4) &&& (1 ^^^ (-1))) &&& (2 ^^^ (-1)) := by rw [st_m4, a17]
  have q' : sQ ((z.1 17 ||| 4) &&& (-4)) 0 (z.1 21) := ⟨fun q => absurd rfl q, Or.inl (st_42 _)⟩
  unfold fX0_endWith
  rw [m_endN c6 c8] at hI' ⊢
  rw [c_endN (z := (upd (upd z.1 24 b, z.2).1 17 ((upd z.1 24 b, z.2).1 17 ||| 4), (upd z.1 24 b, z.2).2)) h5]
  exact ⟨⟨hI', ⟨a0, a1, a2, a3, a4, a5, a7, a16, e17, a18, a19, a20, a21, a22, a25, a33, a34⟩, hbf, hby, hda, hD, hF, Or.inl ⟨rfl, rfl⟩, hS, sT_0, sW_0, q'⟩, sC_0⟩
/-! an index -/
theorem c_i50 {z : fk_C} (h2 : ¬ z.1 23 = 2) (h3 : ¬ z.1 23 = 3) : fX0_meetIndex_50 z = z := by
  unfold fX0_meetIndex_50
  rw [if_neg h2, if_neg h3]
theorem c_ix {z : fk_C} {p : Int32} (e : z.1 23 = p) (h7 : ¬ p = 7) (h6 : ¬ (p = 6 ∧ z.1 21 = 5)) : fX0_meetIndex z = fX0_meetIndex_50 (upd z.1 25 ((z.1 25) + 1), z.2) := by
  unfold fX0_meetIndex
  rw [e, if_neg h7]
  by_cases c : p = 6
  · rw [if_pos c, if_neg (fun q => h6 ⟨c, q⟩)]
  · rw [if_neg c]
theorem m_ix {y : fk_M} {p : Int32} (e : y.1 19 = p) (h8 : ¬ p = 8) (h7 : ¬ p = 7) (h2 : ¬ p = 2) (h3 : ¬ p = 3) : fX6_index y = (upd y.1 21 ((y.1 21) + 1), y.2) := by
  unfold fX6_index
  rw [e, if_neg h8, if_neg h7, if_neg h2, if_neg h3, ite_self]
theorem fR_index {T : Nat} {z : fk_C} {y : fk_M} (h : fR T z y) : fR T (fX0_meetIndex z) (fX6_index y) := by
  have hR1 : fR T (upd z.1 25 ((z.1 25) + 1), z.2) (upd y.1 21 ((y.1 21) + 1), y.2) := by
    obtain ⟨⟨hI, ⟨a0, a1, a2, a3, a4, a5, a7, a16, a17, a18, a19, a20, a21, a22, a25, a33, a34⟩, hbf, hby, hda, hD, hF, hP, hS, hT, hW, hQ⟩, hC⟩ := h
    exact ⟨⟨mI_of ⟨rfl, rfl, rfl, rfl, rfl, rfl, rfl⟩ hI, ⟨a0, a1, a2, a3, a4, a5, a7, a16, a17, a18, a19, a20, a21, a22, (by rw [a25] : z.1 25 + 1 = y.1 21 + 1), a33, a34⟩, hbf, hby, hda, hD, hF, hP, hS, hT, hW, hQ⟩, hC⟩
  have a17 := h.1.2.1.2.2.2.2.2.2.2.2.1
  have a25 := h.1.2.1.2.2.2.2.2.2.2.2.2.2.2.2.2.2.1
  have hP := h.1.2.2.2.2.2.2.2.1
  have hQ := h.1.2.2.2.2.2.2.2.2.2.2.2
  have key : ∀ (A : fk_C) (B : fk_M), fX0_meetIndex z = A → fX6_index y = B → fR T A B → fR T (fX0_meetIndex z) (fX6_index y) := fun A B e1 e2 q => by rw [e1, e2]; exact q
  have stay : ∀ p p' : Int32, z.1 23 = p → y.1 19 = p' → ¬ p = 7 → ¬ (p = 6 ∧ z.1 21 = 5) → ¬ p = 2 → ¬ p = 3 → ¬ p' = 8 → ¬ p' = 7 → ¬ p' = 2 → ¬ p' = 3 → fR T (fX0_meetIndex z) (fX6_index y) := by
    intro p p' e e' n1 n2 n3 n4 n5 n6 n7 n8
    refine key _ _ ?_ (m_ix e' n5 n6 n7 n8) hR1
    rw [c_ix e n1 n2]
    exact c_i50 (z := (upd z.1 25 ((z.1 25) + 1), z.2)) (fun q => n3 (e.symm.trans q)) (fun q => n4 (e.symm.trans q))
  have e16 : z.1 17 ||| 16 = y.1 16 ||| 16 := by rw [a17]
  have hunt : (z.1 23 = 2 ∧ y.1 19 = 2) ∨ (z.1 23 = 3 ∧ y.1 19 = 3) → fR T (fX0_meetIndex z) (fX6_index y) := by
    intro hh
    have e1 : fX0_meetIndex z = fX0_meetIndex_66 (upd z.1 25 ((z.1 25) + 1), z.2) := by
      rcases hh with ⟨q, -⟩ | ⟨q, -⟩
      · rw [c_ix q (by decide) (fun w => absurd w.1 (by decide))]
        unfold fX0_meetIndex_50
        rw [if_pos (show (upd z.1 25 ((z.1 25) + 1), z.2).1 23 = 2 from q)]
      · rw [c_ix q (by decide) (fun w => absurd w.1 (by decide))]
        unfold fX0_meetIndex_50
        rw [if_neg (show ¬ (upd z.1 25 ((z.1 25) + 1), z.2).1 23 = 2 from fun w => absurd (q.symm.trans w) (by decide)), if_pos (show (upd z.1 25 ((z.1 25) + 1), z.2).1 23 = 3 from q)]
    have e2 : fX6_index y = if y.1 21 + 1 = 5 then fX6_end (fX6_raise (upd y.1 21 ((y.1 21) + 1), y.2) 16) else (upd y.1 21 ((y.1 21) + 1), y.2) := by
      unfold fX6_index fX6_index_c1 fX6_index_c2
      rcases hh with ⟨-, q⟩ | ⟨-, q⟩
      · rw [q, if_neg (show ¬ (2 : Int32) = 8 from by decide), if_neg (show ¬ (2 : Int32) = 7 from by decide), if_pos (show (2 : Int32) = 2 from rfl)]
      · rw [q, if_neg (show ¬ (3 : Int32) = 8 from by decide), if_neg (show ¬ (3 : Int32) = 7 from by decide), if_neg (show ¬ (3 : Int32) = 2 from by decide), if_pos (show (3 : Int32) = 3 from rfl)]
    refine key _ _ e1 e2 ?_
    unfold fX0_meetIndex_66
    by_cases c : y.1 21 + 1 = 5
    · rw [if_pos c, if_pos (show (upd z.1 25 ((z.1 25) + 1), z.2).1 25 = 5 from by show z.1 25 + 1 = 5; rw [a25]; exact c)]
      exact fR_endWith hR1.1 (by decide) (by decide)
    · rw [if_neg c, if_neg (show ¬ (upd z.1 25 ((z.1 25) + 1), z.2).1 25 = 5 from by show ¬ z.1 25 + 1 = 5; rw [a25]; exact c)]
      exact hR1
  rcases hP with ⟨p1, p2⟩ | ⟨p1, p2, -⟩ | ⟨p1, p2, pl⟩ | ⟨p1, p2, pl⟩ | ⟨p1, p2, pl⟩ | ⟨p1, p2, -⟩ | ⟨p1, p2, pl⟩ | ⟨p1, p2, pl⟩ | ⟨p1, p2, pl⟩
  · exact stay 0 0 p1 p2 (by decide) (fun w => absurd w.1 (by decide)) (by decide) (by decide) (by decide) (by decide) (by decide) (by decide)
  · exact stay 1 1 p1 p2 (by decide) (fun w => absurd w.1 (by decide)) (by decide) (by decide) (by decide) (by decide) (by decide) (by decide)
  · exact hunt (Or.inl ⟨p1, p2⟩)
  · exact hunt (Or.inr ⟨p1, p2⟩)
  · exact stay 4 4 p1 p2 (by decide) (fun w => absurd w.1 (by decide)) (by decide) (by decide) (by decide) (by decide) (by decide) (by decide)
  · exact stay 5 5 p1 p2 (by decide) (fun w => absurd w.1 (by decide)) (by decide) (by decide) (by decide) (by decide) (by decide) (by decide)
  · exact stay 6 6 p1 p2 (by decide) (fun w => absurd (pl.symm.trans w.2) (by decide)) (by decide) (by decide) (by decide) (by decide) (by decide) (by decide)
  · refine key (fX0_end (upd z.1 25 ((z.1 25) + 1), z.2)) (fX6_end (upd y.1 21 ((y.1 21) + 1), y.2)) ?_ ?_ (fR_end hR1.1)
    · unfold fX0_meetIndex
      rw [p1, if_neg (show ¬ (6 : Int32) = 7 from by decide), if_pos (show (6 : Int32) = 6 from rfl), if_pos pl]
    · unfold fX6_index
      rw [if_pos p2]
  · have e1 : fX0_meetIndex z = fX0_startWritingIfServed (upd z.1 25 ((z.1 25) + 1), z.2) := by
      unfold fX0_meetIndex
      rw [if_pos p1]
    have e2 : fX6_index y = if fX6_has (upd y.1 21 ((y.1 21) + 1), y.2) 2 = 0 then fX6_startWriting (upd y.1 21 ((y.1 21) + 1), y.2) 8 else fX6_end (fX6_raise (upd y.1 21 ((y.1 21) + 1), y.2) 4) := by
      unfold fX6_index fX6_index_c3
      rw [if_neg (show ¬ y.1 19 = 8 from fun w => absurd (p2.symm.trans w) (by decide)), if_pos p2]
    refine key _ _ e1 e2 ?_
    unfold fX0_startWritingIfServed fX0_startWritingIfServed_c1
    by_cases c : y.1 16 &&& 2 = 0
    · rw [if_pos (m_has0 (y := (upd y.1 21 ((y.1 21) + 1), y.2)) c), if_pos (c_has0 (z := (upd z.1 25 ((z.1 25) + 1), z.2)) (show z.1 17 &&& 2 = 0 from by rw [a17]; exact c))]
      exact fR_start hR1.1 (sQ_nz (k := 7) p1 (by decide)) (Or.inr ⟨rfl, pl⟩)
    · rw [if_neg (m_has1 (y := (upd y.1 21 ((y.1 21) + 1), y.2)) c), if_neg (c_has1 (z := (upd z.1 25 ((z.1 25) + 1), z.2)) (show ¬ z.1 17 &&& 2 = 0 from by rw [a17]; exact c))]
      exact fR_endWith hR1.1 (by decide) (by decide)
/-! the head steps -/
theorem le3 (x : Int32) : 4 ≤ x ↔ ¬ x ≤ 3 := by
  rw [Int32.le_iff_toInt_le, Int32.le_iff_toInt_le, show (3 : Int32).toInt = 3 from by decide, show (4 : Int32).toInt = 4 from by decide]
  omega
theorem fR_move {T : Nat} {z : fk_C} {y : fk_M} (h : fQ T z y) (h1 : z.1 23 = 1) (s : Int32) : fR T (fX0_moveOneTrack_63 z s) (fX6_stepHead_60 y s) := by
  have hI' := mI_stepHead60 h.1 s
  obtain ⟨hI, ⟨a0, a1, a2, a3, a4, a5, a7, a16, a17, a18, a19, a20, a21, a22, a25, a33, a34⟩, hbf, hby, hda, hD, hF, hP, hS, hT, hW, hQ⟩ := h
  have hsC : sC (z.1 23) (z.1 21) (z.1 7) := by rw [h1]; exact sC_1
  have e18 : z.1 18 + s = y.1 13 + s := by rw [a18]
  have e1 : z.1 1 + s = y.1 2 + s := by rw [a1]
  unfold fX0_moveOneTrack_63 fX1_moveHead
  unfold fX6_stepHead_60 at *
  by_cases c1 : y.1 2 + s < 0
  · rw [if_pos c1] at hI' ⊢
    rw [if_pos (show (upd z.1 18 ((z.1 18) + s), z.2).1 1 + s < 0 from by show z.1 1 + s < 0; rw [e1]; exact c1)]
    exact ⟨⟨hI', ⟨a0, a1, a2, a3, a4, a5, a7, a16, a17, e18, a19, a20, a21, a22, a25, a33, a34⟩, hbf, hby, hda, hD, hF, hP, hS, hT, hW, hQ⟩, hsC⟩
  · rw [if_neg c1] at hI' ⊢
    rw [if_neg (show ¬ (upd z.1 18 ((z.1 18) + s), z.2).1 1 + s < 0 from by show ¬ z.1 1 + s < 0; rw [e1]; exact c1)]
    by_cases c2 : y.1 2 + s ≤ 3
    · rw [if_pos c2] at hI' ⊢
      rw [if_neg (show ¬ 4 ≤ (upd z.1 18 ((z.1 18) + s), z.2).1 1 + s from by show ¬ 4 ≤ z.1 1 + s; rw [e1, le3]; exact fun q => q c2)]
      exact ⟨⟨hI', ⟨a0, e1, a2, a3, a4, a5, a7, a16, a17, e18, a19, a20, a21, a22, a25, a33, a34⟩, hbf, hby, hda, hD, hF, hP, hS, hT, hW, hQ⟩, hsC⟩
    · rw [if_neg c2] at hI' ⊢
      rw [if_pos (show 4 ≤ (upd z.1 18 ((z.1 18) + s), z.2).1 1 + s from by show 4 ≤ z.1 1 + s; rw [e1, le3]; exact c2)]
      exact ⟨⟨hI', ⟨a0, a1, a2, a3, a4, a5, a7, a16, a17, e18, a19, a20, a21, a22, a25, a33, a34⟩, hbf, hby, hda, hD, hF, hP, hS, hT, hW, hQ⟩, hsC⟩
theorem fR_trk {T : Nat} {z : fk_C} {y : fk_M} (h : fQ T z y) {x x' : Int32} (e : x = x') : fQ T (upd z.1 18 x, z.2) (upd y.1 13 x', y.2) := by
  obtain ⟨hI, ⟨a0, a1, a2, a3, a4, a5, a7, a16, a17, a18, a19, a20, a21, a22, a25, a33, a34⟩, hbf, hby, hda, hD, hF, hP, hS, hT, hW, hQ⟩ := h
  exact ⟨mI_of ⟨rfl, rfl, rfl, rfl, rfl, rfl, rfl⟩ hI, ⟨a0, a1, a2, a3, a4, a5, a7, a16, a17, e, a19, a20, a21, a22, a25, a33, a34⟩, hbf, hby, hda, hD, hF, hP, hS, hT, hW, hQ⟩
theorem fR_step {T : Nat} {z : fk_C} {y : fk_M} (h : fQ T z y) (h1 : z.1 23 = 1) : fR T (fX0_moveOneTrack z) (fX6_stepHead y) := by
  have a1 := h.2.1.2.1
  have a18 := h.2.1.2.2.2.2.2.2.2.2.2.1
  have a20 := h.2.1.2.2.2.2.2.2.2.2.2.2.2.1
  have a21 := h.2.1.2.2.2.2.2.2.2.2.2.2.2.2.1
  have h29 : fR T (fX0_moveOneTrack_29 z) (fX6_stepHead_26 y) := by
    unfold fX0_moveOneTrack_29 fX6_stepHead_26
    rw [a18, a20]
    by_cases c : y.1 13 = y.1 15
    · rw [if_pos c, if_pos c]
      exact fR_end h
    · rw [if_neg c, if_neg c]
      by_cases c2 : y.1 15 ≤ y.1 13
      · rw [if_pos c2, if_pos c2]
        exact fR_move h h1 _
      · rw [if_neg c2, if_neg c2]
        exact fR_move h h1 _
  unfold fX0_moveOneTrack fX6_stepHead
  rw [a21, a1]
  by_cases c : y.1 17 = 0
  · rw [if_pos c, if_pos c]
    by_cases c2 : y.1 2 = 0
    · rw [if_pos c2, if_pos c2]
      exact fR_end (fR_trk h rfl)
    · rw [if_neg c2, if_neg c2]
      exact h29
  · rw [if_neg c, if_neg c]
    exact h29
/-! a byte time is over -/
theorem sT_no {T : Nat} {p b c : Int32} (h1 : ¬ p = 1) (h3 : ¬ p = 3) (h5 : ¬ p = 5) : sT T p b c := ⟨fun q => absurd q h1, fun q => absurd q h3, fun q => absurd q h5⟩
theorem fR_ct {T U : Nat} {z : fk_C} {y : fk_M} (h : fR T z y) (h1 : ¬ z.1 23 = 1) (h3 : ¬ z.1 23 = 3) (h5 : ¬ z.1 23 = 5) (c : Int32) : fR U z (upd y.1 20 c, y.2) := by
  obtain ⟨⟨hI, ⟨a0, a1, a2, a3, a4, a5, a7, a16, a17, a18, a19, a20, a21, a22, a25, a33, a34⟩, hbf, hby, hda, hD, hF, hP, hS, hT, hW, hQ⟩, hC⟩ := h
  exact ⟨⟨mI_of ⟨rfl, rfl, rfl, rfl, rfl, rfl, rfl⟩ hI, ⟨a0, a1, a2, a3, a4, a5, a7, a16, a17, a18, a19, a20, a21, a22, a25, a33, a34⟩, hbf, hby, hda, hD, hF, hP, hS, sT_no h1 h3 h5, hW, hQ⟩, hC⟩
theorem fR_bt {T U : Nat} {z : fk_C} {y : fk_M} (h : fR T z y) (h1 : ¬ z.1 23 = 1) (h3 : ¬ z.1 23 = 3) (h5 : ¬ z.1 23 = 5) (c : Int32) : fR U (upd z.1 24 c, z.2) y := by
  obtain ⟨⟨hI, ⟨a0, a1, a2, a3, a4, a5, a7, a16, a17, a18, a19, a20, a21, a22, a25, a33, a34⟩, hbf, hby, hda, hD, hF, hP, hS, hT, hW, hQ⟩, hC⟩ := h
  exact ⟨⟨hI, ⟨a0, a1, a2, a3, a4, a5, a7, a16, a17, a18, a19, a20, a21, a22, a25, a33, a34⟩, hbf, hby, hda, hD, hF, hP, hS, sT_no h1 h3 h5, hW, hQ⟩, hC⟩
/-- the counters, in both -/
theorem fQ_cts {T U : Nat} {z : fk_C} {y : fk_M} (h : fQ T z y) {b c : Int32} (ht : sT U (z.1 23) b c) : fQ U (upd z.1 24 b, z.2) (upd y.1 20 c, y.2) := by
  obtain ⟨hI, ⟨a0, a1, a2, a3, a4, a5, a7, a16, a17, a18, a19, a20, a21, a22, a25, a33, a34⟩, hbf, hby, hda, hD, hF, hP, hS, hT, hW, hQ⟩ := h
  exact ⟨mI_of ⟨rfl, rfl, rfl, rfl, rfl, rfl, rfl⟩ hI, ⟨a0, a1, a2, a3, a4, a5, a7, a16, a17, a18, a19, a20, a21, a22, a25, a33, a34⟩, hbf, hby, hda, hD, hF, hP, hS, ht, hW, hQ⟩
theorem c_end23 (z : fk_C) : (fX0_end z).1 23 = 0 := by
  unfold fX0_end
  split <;> rfl
theorem fR_later {T : Nat} {z : fk_C} {y : fk_M} (hT30 : T < 2 ^ 30) (h : fR T z y) : fR (T + 1) (fX0_endByteTime z) (fX6_later y) := by
  have hP := h.1.2.2.2.2.2.2.2.1
  have hT := h.1.2.2.2.2.2.2.2.2.2.1
  have a17 := h.1.2.1.2.2.2.2.2.2.2.2.1
  have key : ∀ (A : fk_C) (B : fk_M), fX0_endByteTime z = A → fX6_later y = B → fR (T + 1) A B → fR (T + 1) (fX0_endByteTime z) (fX6_later y) := fun A B e1 e2 q => by rw [e1, e2]; exact q
  have c38 : ¬ z.1 23 = 1 → fX0_endByteTime z = fX0_endByteTime_38 (upd z.1 24 ((z.1 24) + 1), z.2) := fun q => by
    unfold fX0_endByteTime
    rw [if_neg q]
  have c38n : ∀ Z : fk_C, ¬ Z.1 23 = 3 → ¬ Z.1 23 = 5 → fX0_endByteTime_38 Z = Z := fun Z q3 q5 => by
    unfold fX0_endByteTime_38 fX0_endByteTime_63
    rw [if_neg q3, if_neg q5]
  have stay : ∀ p p' : Int32, z.1 23 = p → y.1 19 = p' → ¬ p = 1 → ¬ p = 3 → ¬ p = 5 → ¬ p' = 1 → ¬ p' = 3 → ¬ p' = 5 → fR (T + 1) (fX0_endByteTime z) (fX6_later y) := by
    intro p p' e e' n1 n3 n5 m1 m3 m5
    have k1 : ¬ z.1 23 = 1 := fun q => n1 (e.symm.trans q)
    have k3 : ¬ z.1 23 = 3 := fun q => n3 (e.symm.trans q)
    have k5 : ¬ z.1 23 = 5 := fun q => n5 (e.symm.trans q)
    refine key (upd z.1 24 ((z.1 24) + 1), z.2) y ?_ ?_ (fR_bt h k1 k3 k5 _)
    · rw [c38 k1]
      exact c38n _ k3 k5
    · unfold fX6_later
      rw [e', if_neg m1, if_neg m3, if_neg m5]
  rcases hP with ⟨p1, p2⟩ | ⟨p1, p2, pl⟩ | ⟨p1, p2, pl⟩ | ⟨p1, p2, pl⟩ | ⟨p1, p2, pl⟩ | ⟨p1, p2, pl⟩ | ⟨p1, p2, pl⟩ | ⟨p1, p2, pl⟩ | ⟨p1, p2, pl⟩
  · exact stay 0 0 p1 p2 (by decide) (by decide) (by decide) (by decide) (by decide) (by decide)
  · -- stepping
    obtain ⟨k, hk, e1, e2⟩ := hT.1 p1
    have er : ((y.1 20) + 1) - ((y.1 20) + 1) / 3 * 3 = nI ((k + 1) % 3) := by
      rw [e1, nI_1]
      exact pk_rem (a := k + 1) (d := 3) (by omega) (by decide) (by decide)
    have eb : z.1 24 + 1 = nI (k % 3 + 1) := fk_up1 e2
    have em : y.1 20 + 1 = nI (k + 1) := fk_up1 e1
    unfold fX0_endByteTime fX6_later
    rw [if_pos p1, if_pos p2, er, eb, em]
    by_cases c : k % 3 = 2
    · have c0 : (k + 1) % 3 = 0 := by omega
      rw [c0, c, if_pos (show nI (2 + 1) = 3 from by decide), if_pos (show nI 0 = 0 from by decide)]
      refine fR_step ?_ p1
      rw [upd_upd]
      exact fQ_cts h.1 ⟨fun _ => ⟨k + 1, by omega, rfl, by rw [c0]; rfl⟩, fun q => absurd (p1.symm.trans q) (by decide), fun q => absurd (p1.symm.trans q) (by decide)⟩
    · have c0 : (k + 1) % 3 = k % 3 + 1 := by omega
      have n1 : ¬ nI (k % 3 + 1) = 3 := fun q => c (by have := (nI_eq (a := k % 3 + 1) (b := 3) (by omega) (by decide)).mp q; omega)
      have n2 : ¬ nI ((k + 1) % 3) = 0 := by rw [c0]; exact nI_ne0 (by omega) (by omega)
      rw [if_neg n1, if_neg n2, c38n _ (show ¬ (upd z.1 24 (nI (k % 3 + 1)), z.2).1 23 = 3 from fun q => absurd (p1.symm.trans q) (by decide)) (show ¬ (upd z.1 24 (nI (k % 3 + 1)), z.2).1 23 = 5 from fun q => absurd (p1.symm.trans q) (by decide))]
      refine ⟨fQ_cts h.1 ⟨fun _ => ⟨k + 1, by omega, rfl, by rw [c0]⟩, fun q => absurd (p1.symm.trans q) (by decide), fun q => absurd (p1.symm.trans q) (by decide)⟩, ?_⟩
      exact h.2
  · exact stay 2 2 p1 p2 (by decide) (by decide) (by decide) (by decide) (by decide) (by decide)
  · -- a data mark is waited for
    obtain ⟨k, hk, e1, e2⟩ := hT.2.1 p1
    have n1 : ¬ z.1 23 = 1 := fun q => absurd (p1.symm.trans q) (by decide)
    have eb : z.1 24 + 1 = nI (k + 1) := fk_up1 e1
    have em : y.1 20 + 1 = nI (k + 1 + 1) := fk_up1 e2
    have e3 : fX6_later y = if y.1 20 = 31 then (upd (upd y.1 19 2) 20 ((y.1 20) + 1), y.2) else (upd (upd y.1 19 3) 20 ((y.1 20) + 1), y.2) := by
      unfold fX6_later
      rw [if_neg (show ¬ y.1 19 = 1 from fun q => absurd (p2.symm.trans q) (by decide)), if_pos p2]
    rw [e3, c38 n1, eb, em]
    unfold fX0_endByteTime_38
    rw [if_pos (show (upd z.1 24 (nI (k + 1)), z.2).1 23 = 3 from p1)]
    by_cases c : k = 30
    · rw [if_pos (show (upd z.1 24 (nI (k + 1)), z.2).1 24 = 31 from by show nI (k + 1) = 31; rw [c]; decide), if_pos (show y.1 20 = 31 from by rw [e2, c]; decide)]
      have hQ := h.1.2.2.2.2.2.2.2.2.2.2.2
      obtain ⟨⟨hI, ⟨a0, a1, a2, a3, a4, a5, a7, a16, a17, a18, a19, a20, a21, a22, a25, a33, a34⟩, hbf, hby, hda, hD, hF, hP, hS, hT, hW, hQ⟩, hC⟩ := h
      exact ⟨⟨mI_of ⟨rfl, rfl, rfl, rfl, rfl, rfl, rfl⟩ hI, ⟨a0, a1, a2, a3, a4, a5, a7, a16, a17, a18, a19, a20, a21, a22, a25, a33, a34⟩, hbf, hby, hda, hD, hF, Or.inr (Or.inr (Or.inl ⟨rfl, rfl, Or.inl pl⟩)), hS, sT_2, sW_2, sQ_n (a' := 2) hQ (sQ_nz p1 (by decide))⟩, sC_2 (fun q => absurd (pl.symm.trans q) (by decide))⟩
    · have n31 : ¬ nI (k + 1) = 31 := fun q => c (by have := (nI_eq (a := k + 1) (b := 31) (by omega) (by decide)).mp q; omega)
      rw [if_neg (show ¬ (upd z.1 24 (nI (k + 1)), z.2).1 24 = 31 from n31), if_neg (show ¬ y.1 20 = 31 from by rw [e2]; exact n31)]
      unfold fX0_endByteTime_63
      rw [if_neg (show ¬ (upd z.1 24 (nI (k + 1)), z.2).1 23 = 5 from fun q => absurd (p1.symm.trans q) (by decide)), show upd y.1 19 3 = y.1 from by rw [← p2]; exact upd_self _ _]
      refine ⟨fQ_cts h.1 ⟨fun q => absurd (p1.symm.trans q) (by decide), fun _ => ⟨k + 1, by omega, rfl, rfl⟩, fun q => absurd (p1.symm.trans q) (by decide)⟩, ?_⟩
      exact h.2
  · exact stay 4 4 p1 p2 (by decide) (by decide) (by decide) (by decide) (by decide) (by decide)
  · -- writing is waited for
    obtain ⟨k, hk, e1, e2⟩ := hT.2.2 p1
    have n1 : ¬ z.1 23 = 1 := fun q => absurd (p1.symm.trans q) (by decide)
    have eb : z.1 24 + 1 = nI (k + 1) := fk_up1 e1
    have em : y.1 20 + 1 = nI (k + 1 + 1) := fk_up1 e2
    have e3 : fX6_later y = if y.1 20 = 11 then (if fX6_has y 2 = 0 then fX6_later_110 y else fX6_later_c2 (fX6_raise y 4)) else fX6_later_110 y := by
      unfold fX6_later
      rw [if_neg (show ¬ y.1 19 = 1 from fun q => absurd (p2.symm.trans q) (by decide)), if_neg (show ¬ y.1 19 = 3 from fun q => absurd (p2.symm.trans q) (by decide)), if_pos p2]
    rw [e3, c38 n1, eb]
    unfold fX0_endByteTime_38
    rw [if_neg (show ¬ (upd z.1 24 (nI (k + 1)), z.2).1 23 = 3 from fun q => absurd (p1.symm.trans q) (by decide))]
    unfold fX0_endByteTime_63
    rw [if_pos (show (upd z.1 24 (nI (k + 1)), z.2).1 23 = 5 from p1)]
    by_cases c : k = 10
    · have y11 : y.1 20 = 11 := by rw [e2, c]; decide
      rw [if_pos (show (upd z.1 24 (nI (k + 1)), z.2).1 24 = 11 from by show nI (k + 1) = 11; rw [c]; decide), if_pos y11]
      unfold fX0_startWritingIfServed fX0_startWritingIfServed_c1
      by_cases d : y.1 16 &&& 2 = 0
      · rw [if_pos (m_has0 d), if_pos (c_has0 (z := (upd z.1 24 (nI (k + 1)), z.2)) (show z.1 17 &&& 2 = 0 from by rw [a17]; exact d))]
        unfold fX6_later_110 fX6_later_c1
        rw [if_pos y11]
        exact fR_start2 h.1 (sQ_nz p1 (by decide)) pl _ _
      · rw [if_neg (m_has1 d), if_neg (c_has1 (z := (upd z.1 24 (nI (k + 1)), z.2)) (show ¬ z.1 17 &&& 2 = 0 from by rw [a17]; exact d))]
        exact fR_end2 h.1 (fun q => absurd (p1.symm.trans q) (by decide)) _ _
    · have n11 : ¬ nI (k + 1) = 11 := fun q => c (by have := (nI_eq (a := k + 1) (b := 11) (by omega) (by decide)).mp q; omega)
      have y11 : ¬ y.1 20 = 11 := by rw [e2]; exact n11
      rw [if_neg (show ¬ (upd z.1 24 (nI (k + 1)), z.2).1 24 = 11 from n11), if_neg y11]
      unfold fX6_later_110
      rw [if_neg y11, em]
      refine ⟨fQ_cts h.1 ⟨fun q => absurd (p1.symm.trans q) (by decide), fun q => absurd (p1.symm.trans q) (by decide), fun _ => ⟨k + 1, by omega, rfl, rfl⟩⟩, ?_⟩
      exact h.2
  · exact stay 6 6 p1 p2 (by decide) (by decide) (by decide) (by decide) (by decide) (by decide)
  · exact stay 6 8 p1 p2 (by decide) (by decide) (by decide) (by decide) (by decide) (by decide)
  · exact stay 7 7 p1 p2 (by decide) (by decide) (by decide) (by decide) (by decide) (by decide)
/-! the place -/
theorem p3_begins (y : fk_M) (a b : Int32) : (fX6_begins y a b).1 3 = y.1 3 := by
  unfold fX6_begins
  repeat' split
  all_goals exact (mE_begins41 _ _ _).2.1
theorem p3_idOver (y : fk_M) (a : Int32) : (fX6_idOver y a).1 3 = y.1 3 := by
  unfold fX6_idOver
  split
  · exact (mE_idOver19 _ _).2.1
  · exact (mE_idOver19 _ _).2.1
theorem p3_173 (y : fk_M) (a : Int32) : (fX6_comes_173 y a).1 3 = y.1 3 := by
  unfold fX6_comes_173
  split
  · split
    · exact p3_idOver (upd (upd y.1 8 0) 5 0, y.2) _
    · exact (mE_dataOver (upd (upd y.1 8 0) 5 0, y.2) _).2.1
  · rfl
theorem p3_140 (y : fk_M) (a b : Int32) : (fX6_comes_140 y a b).1 3 = y.1 3 := by
  have k : (fX6_comes_168 y a b).1 3 = y.1 3 := (p3_173 _ _).trans (mE_receive y a).2.1
  unfold fX6_comes_140
  repeat' split
  all_goals first | exact k | exact p3_173 _ _
theorem p3_comes (y : fk_M) (b : Int32) : (fX6_comes y b).1 3 = y.1 3 := by
  have k : ∀ f, (fX6_begins (upd (upd y.1 6 0) 5 1, y.2) f b).1 3 = y.1 3 := fun f => p3_begins (upd (upd y.1 6 0) 5 1, y.2) f b
  have k2 : ∀ x, (fX6_comes_140 (upd y.1 10 ((y.1 10) + 1), y.2.1, upd y.2.2.1 (y.1 10).toNatClampNeg b, y.2.2.2) b x).1 3 = y.1 3 := fun x => p3_140 _ b x
  unfold fX6_comes
  repeat' split
  all_goals first | exact k _ | exact k2 _ | rfl
theorem p3_97 (y : fk_M) : (fX6_readCell_97 y).1 3 = y.1 3 := by
  unfold fX6_readCell_97
  split
  · rfl
  · split
    · exact p3_comes (upd y.1 7 0, y.2) _
    · rfl
theorem p3_read (y : fk_M) : (fX6_readCell y).1 3 = y.1 3 := by
  have k : ∀ a b, (fX6_readCell_33 y a b).1 3 = y.1 3 := by
    intro a b
    have h1 := p3_97 (upd (upd y.1 4 ((a ||| b) &&& 65535)) 7 ((y.1 7) + 1), y.2)
    unfold fX6_readCell_33
    split
    · split
      · rfl
      · split
        · rfl
        · exact h1
    · exact h1
  unfold fX6_readCell
  split
  · exact k _ _
  · exact k _ _
theorem p3_write (y : fk_M) : (fX6_writeCell y).1 3 = y.1 3 := by
  unfold fX6_writeCell fX6_writeCell_c1 fX6_writeCell_c2
  repeat' split
  · exact ((mE_sectorByte y).tr (mE_writeCell27 _)).2.1
  · exact ((mE_trackByte y).tr (mE_writeCell27 _)).2.1
  · exact (mE_writeCell27 _).2.1
theorem p3_index (y : fk_M) : (fX6_index y).1 3 = y.1 3 := by
  have h1 : ∀ a, (fX6_end (fX6_raise (upd y.1 21 ((y.1 21) + 1), y.2) a)).1 3 = y.1 3 := fun a => ((mE_raise (upd y.1 21 ((y.1 21) + 1), y.2) a).tr (mE_end _)).2.1
  unfold fX6_index
  split
  · exact (mE_end (upd y.1 21 ((y.1 21) + 1), y.2)).2.1
  · split
    · split
      · rfl
      · exact h1 4
    · split
      · split
        · exact h1 16
        · split
          · exact h1 16
          · rfl
      · rfl
/-! the cells of a byte time -/
theorem fR_place {T : Nat} {z : fk_C} {y : fk_M} (h : fR T z y) (hp : ¬ y.1 3 + 1 = 2400) : fR T (upd z.1 2 ((z.1 2) + 1), z.2) (upd y.1 3 ((y.1 3) + 1), y.2) := by
  have hI' := mI_place h.1.1 hp
  obtain ⟨⟨hI, ⟨a0, a1, a2, a3, a4, a5, a7, a16, a17, a18, a19, a20, a21, a22, a25, a33, a34⟩, hbf, hby, hda, hD, hF, hP, hS, hT, hW, hQ⟩, hC⟩ := h
  exact ⟨⟨hI', ⟨a0, a1, (by rw [a2] : z.1 2 + 1 = y.1 3 + 1), a3, a4, a5, a7, a16, a17, a18, a19, a20, a21, a22, a25, a33, a34⟩, hbf, hby, hda, hD, hF, hP, hS, hT, hW, hQ⟩, hC⟩
theorem fR_place0 {T : Nat} {z : fk_C} {y : fk_M} (h : fR T z y) (x x' : Int32) : fR T (upd (upd z.1 2 x) 2 0, z.2) (upd (upd y.1 3 x') 3 0, y.2) := by
  have hI' := mI_place0 h.1.1 x'
  obtain ⟨⟨hI, ⟨a0, a1, a2, a3, a4, a5, a7, a16, a17, a18, a19, a20, a21, a22, a25, a33, a34⟩, hbf, hby, hda, hD, hF, hP, hS, hT, hW, hQ⟩, hC⟩ := h
  exact ⟨⟨hI', ⟨a0, a1, rfl, a3, a4, a5, a7, a16, a17, a18, a19, a20, a21, a22, a25, a33, a34⟩, hbf, hby, hda, hD, hF, hP, hS, hT, hW, hQ⟩, hC⟩
/-- what the count of indexes is, in both -/
def sX (j : Nat) (x p : Int32) : Prop := x = 0 ∨ (x = 1 ∧ ∃ k : Nat, k ≤ j ∧ p = nI k)
theorem fR_pass4 {T : Nat} (hT : T < 2 ^ 30) : ∀ (n j : Nat) (z : fk_C) (y : fk_M) (x : Int32), fR T z y → n + j = 17 → j ≤ 16 → sX j x (y.1 3) → (fX0_passByteTime_4 n z x (nI j)).1 = (fX6_pass_4 n y x (nI j)).1 ∧ fR (T + 1) (fX0_passByteTime_4 n z x (nI j)).2 (fX6_pass_4 n y x (nI j)).2 ∧ s01 (fX6_pass_4 n y x (nI j)).1 := by
  intro n
  induction n with
  | zero => intro j z y x h h1 h2 h3; omega
  | succ n ih =>
    intro j z y x h h1 h2 h3
    rw [fX0_passByteTime_4, fX6_pass_4]
    by_cases c : j = 16
    · rw [if_pos (show (16 : Int32) ≤ nI j from by rw [c]; decide), if_pos (show (16 : Int32) ≤ nI j from by rw [c]; decide)]
      exact ⟨rfl, fR_later hT h, h3.elim Or.inl (fun q => Or.inr q.1)⟩
    · have n16 : ¬ (16 : Int32) ≤ nI j := nI_ge (a := j) (b := 16) (by omega) (by decide)
      rw [if_neg n16, if_neg n16]
      have turn : ∀ (Z : fk_C) (Y : fk_M), fR T Z Y → Y.1 3 = y.1 3 → (fX0_passByteTime_30 (fX0_passByteTime_4 n) Z x (nI j)).1 = (fX6_pass_39 (fX6_pass_4 n) Y x (nI j)).1 ∧ fR (T + 1) (fX0_passByteTime_30 (fX0_passByteTime_4 n) Z x (nI j)).2 (fX6_pass_39 (fX6_pass_4 n) Y x (nI j)).2 ∧ s01 (fX6_pass_39 (fX6_pass_4 n) Y x (nI j)).1 := by
        intro Z Y hZ e3
        have a2 := hZ.1.2.1.2.2.1
        obtain ⟨p, hp, ep⟩ := hZ.1.1.2.1
        unfold fX0_passByteTime_30 fX1_turnByOneCell fX6_pass_39
        by_cases e : p = 2399
        · have ey : Y.1 3 + 1 = 2400 := by rw [ep, e]; decide
          have ez : (2400 : Int32) ≤ Z.1 2 + 1 := by rw [a2, ey]; decide
          rw [if_pos ez, if_pos ey]
          have x0 : x = 0 := by
            rcases h3 with q | ⟨-, k, hk, ek⟩
            · exact q
            · exfalso
              rw [← e3, ep] at ek
              have := (nI_eq (by omega) (by omega)).mp ek
              omega
          rw [x0]
          have hin := fR_index (fR_place0 hZ (Z.1 2 + 1) (Y.1 3 + 1))
          have := ih (j + 1) _ _ 1 hin (by omega) (by omega) (Or.inr ⟨rfl, 0, by omega, p3_index _⟩)
          rw [← nI_1] at this
          exact this
        · have ey : ¬ Y.1 3 + 1 = 2400 := by
            rw [ep, nI_1]
            exact fun q => e (by have := (nI_eq (a := p + 1) (b := 2400) (by omega) (by decide)).mp q; omega)
          have ez : ¬ (2400 : Int32) ≤ Z.1 2 + 1 := by
            rw [a2, ep, nI_1]
            exact nI_ge (a := p + 1) (b := 2400) (by omega) (by decide)
          rw [if_neg ez, if_neg ey]
          have hin := fR_place hZ ey
          have hx : sX (j + 1) x (Y.1 3 + 1) := by
            rcases h3 with q | ⟨q, k, hk, ek⟩
            · exact Or.inl q
            · exact Or.inr ⟨q, k + 1, by omega, by rw [e3, ek]; exact nI_1 k⟩
          have := ih (j + 1) _ _ x hin (by omega) (by omega) hx
          rw [← nI_1] at this
          exact this
      have hP := h.1.2.2.2.2.2.2.2.1
      by_cases c6 : z.1 23 = 6
      · rw [if_pos c6]
        have hw := turn _ _ (fR_write h c6) (p3_write y)
        rcases (sP_6 hP).mp c6 with d | d
        · rw [if_pos d]
          exact hw
        · rw [if_neg (show ¬ y.1 19 = 6 from by rw [d]; decide), if_pos d]
          exact hw
      · rw [if_neg c6, if_neg (show ¬ y.1 19 = 6 from fun q => c6 ((sP_6 hP).mpr (Or.inl q))), if_neg (show ¬ y.1 19 = 8 from fun q => c6 ((sP_6 hP).mpr (Or.inr q)))]
        exact turn _ _ (fR_read h c6) (p3_read y)
theorem fR_pass {T : Nat} (hT : T < 2 ^ 30) {z : fk_C} {y : fk_M} (h : fR T z y) : (fX0_passByteTime z).1 = (fX6_pass y).1 ∧ fR (T + 1) (fX0_passByteTime z).2 (fX6_pass y).2 ∧ s01 (fX6_pass y).1 := fR_pass4 hT 17 0 z y 0 h (by decide) (by decide) (Or.inl rfl)
