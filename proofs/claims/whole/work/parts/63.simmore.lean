/-! a byte of a field that goes on -/
abbrev aZ (z : fk_C) (ck i13 i14 i15 c1 : Int32) : fk_C := (upd (upd (upd (upd (upd z.1 10 ck) 13 i13) 14 i14) 15 i15) 9 c1, z.2)
abbrev aY (y : fk_M) (c1 : Int32) (g : Nat) (b : Int32) : fk_M := (upd y.1 10 c1, y.2.1, upd y.2.2.1 g b, y.2.2.2)
theorem c_keep (z : fk_C) : fX2_keepIdByte z = (upd (upd (upd z.1 13 (if z.1 9 = 0 then z.1 12 else z.1 13)) 14 (if z.1 9 = 2 then z.1 12 else z.1 14)) 15 (if z.1 9 = 3 then z.1 12 else z.1 15), z.2) := by
  unfold fX2_keepIdByte
  by_cases c0 : z.1 9 = 0
  · rw [if_pos c0, if_pos c0, if_neg (show ¬ z.1 9 = 2 from by rw [c0]; decide), if_neg (show ¬ z.1 9 = 3 from by rw [c0]; decide)]
    rw [show upd (upd z.1 13 (z.1 12)) 14 (z.1 14) = upd z.1 13 (z.1 12) from upd_self (upd z.1 13 (z.1 12)) 14, show upd (upd z.1 13 (z.1 12)) 15 (z.1 15) = upd z.1 13 (z.1 12) from upd_self (upd z.1 13 (z.1 12)) 15]
  · rw [if_neg c0, if_neg c0, upd_self]
    by_cases c2 : z.1 9 = 2
    · rw [if_pos c2, if_pos c2, if_neg (show ¬ z.1 9 = 3 from by rw [c2]; decide)]
      rw [show upd (upd z.1 14 (z.1 12)) 15 (z.1 15) = upd z.1 14 (z.1 12) from upd_self (upd z.1 14 (z.1 12)) 15]
    · rw [if_neg c2, if_neg c2, upd_self]
      by_cases c3 : z.1 9 = 3
      · rw [if_pos c3, if_pos c3]
      · rw [if_neg c3, if_neg c3, upd_self]
theorem c_add1 {z : fk_C} (h : z.1 7 = 1) : fX2_addToField z = fX2_addToField_53 (aZ z (fX5_checkWith (z.1 10) (z.1 12)) (if z.1 9 = 0 then z.1 12 else z.1 13) (if z.1 9 = 2 then z.1 12 else z.1 14) (if z.1 9 = 3 then z.1 12 else z.1 15) (z.1 9 + 1)) 4 := by
  unfold fX2_addToField
  rw [if_pos h, c_keep]
  unfold fX2_addToField_c1 fX2_addToField_27
  rw [if_pos (show (upd (upd (upd (upd z.1 10 (fX5_checkWith (z.1 10) (z.1 12)), z.2).1 13 (if (upd z.1 10 (fX5_checkWith (z.1 10) (z.1 12)), z.2).1 9 = 0 then (upd z.1 10 (fX5_checkWith (z.1 10) (z.1 12)), z.2).1 12 else (upd z.1 10 (fX5_checkWith (z.1 10) (z.1 12)), z.2).1 13)) 14 (if (upd z.1 10 (fX5_checkWith (z.1 10) (z.1 12)), z.2).1 9 = 2 then (upd z.1 10 (fX5_checkWith (z.1 10) (z.1 12)), z.2).1 12 else (upd z.1 10 (fX5_checkWith (z.1 10) (z.1 12)), z.2).1 14)) 15 (if (upd z.1 10 (fX5_checkWith (z.1 10) (z.1 12)), z.2).1 9 = 3 then (upd z.1 10 (fX5_checkWith (z.1 10) (z.1 12)), z.2).1 12 else (upd z.1 10 (fX5_checkWith (z.1 10) (z.1 12)), z.2).1 15), (upd z.1 10 (fX5_checkWith (z.1 10) (z.1 12)), z.2).2).1 7 = 1 from h)]
  rfl
theorem c_add2 {z : fk_C} (h : z.1 7 = 2) : fX2_addToField z = fX2_addToField_53 (aZ z (fX5_checkWith (z.1 10) (z.1 12)) (z.1 13) (z.1 14) (z.1 15) (z.1 9 + 1)) (z.1 16) := by
  generalize hg : fX5_checkWith (z.1 10) (z.1 12) = ck
  have e : aZ z ck (z.1 13) (z.1 14) (z.1 15) (z.1 9 + 1) = (upd (upd z.1 10 ck) 9 (z.1 9 + 1), z.2) := by
    show (upd (upd (upd (upd (upd z.1 10 ck) 13 (z.1 13)) 14 (z.1 14)) 15 (z.1 15)) 9 (z.1 9 + 1), z.2) = _
    rw [show upd (upd z.1 10 ck) 13 (z.1 13) = upd z.1 10 ck from upd_self (upd z.1 10 ck) 13, show upd (upd z.1 10 ck) 14 (z.1 14) = upd z.1 10 ck from upd_self (upd z.1 10 ck) 14, show upd (upd z.1 10 ck) 15 (z.1 15) = upd z.1 10 ck from upd_self (upd z.1 10 ck) 15]
  rw [e]
  unfold fX2_addToField
  rw [if_neg (show ¬ z.1 7 = 1 from by rw [h]; decide), hg]
  unfold fX2_addToField_27
  rw [if_neg (show ¬ (upd z.1 10 ck, z.2).1 7 = 1 from by show ¬ z.1 7 = 1; rw [h]; decide)]
  rfl
theorem m_140y {y : fk_M} {b x : Int32} (h1 : y.1 19 = 4) (h2 : y.1 17 = 4 ∨ ¬ y.1 12 < y.1 10) : fX6_comes_140 y b x = fX6_comes_173 (fX6_receive y b) x := by
  unfold fX6_comes_140 fX6_comes_168 fX6_comes_c1
  rw [if_pos h1]
  by_cases c : y.1 17 = 4
  · rw [if_pos c]
  · rw [if_neg c, if_neg (h2.resolve_left c)]
theorem m_140n {y : fk_M} {b x : Int32} (h : ¬ (y.1 19 = 4 ∧ (y.1 17 = 4 ∨ ¬ y.1 12 < y.1 10))) : fX6_comes_140 y b x = fX6_comes_173 y x := by
  unfold fX6_comes_140
  by_cases c : y.1 19 = 4
  · rw [if_pos c, if_neg (fun q => h ⟨c, Or.inl q⟩), if_pos (Decidable.of_not_not (fun q => h ⟨c, Or.inr q⟩))]
  · rw [if_neg c]
theorem c_lb1 {z : fk_C} (h : z.1 11 = 1) : fX2_isLatestByteOfCheck z = 0 := by
  unfold fX2_isLatestByteOfCheck fX2_isLatestFieldId
  rw [if_pos h, if_neg (by decide)]
theorem c_lb2 {z : fk_C} (h : z.1 11 = 2) : fX2_isLatestByteOfCheck z = if z.1 9 ≤ z.1 16 then 0 else 1 := by
  unfold fX2_isLatestByteOfCheck fX2_isLatestFieldId
  rw [if_neg (show ¬ z.1 11 = 1 from by rw [h]; decide), if_pos rfl]
theorem m_rc {y : fk_M} {b : Int32} : (upd (upd (fX6_receive y b).1 8 0) 5 0, (fX6_receive y b).2) = fX6_receive (upd (upd y.1 8 0) 5 0, y.2) b := by
  unfold fX6_receive fX6_receive_c1 fX6_raise
  have e : fX6_has (upd (upd (upd y.1 8 0) 5 0, y.2).1 15 b, (upd (upd y.1 8 0) 5 0, y.2).2) 2 = fX6_has (upd y.1 15 b, y.2) 2 := rfl
  rw [e]
  have k : ∀ s : Int32, upd (upd (upd (upd y.1 15 b) 16 s) 8 0) 5 0 = upd (upd (upd (upd y.1 8 0) 5 0) 15 b) 16 s := fun s => by
    rw [upd_comm (upd y.1 15 b) (show 16 ≠ 8 by decide), upd_comm (upd (upd y.1 15 b) 8 0) (show 16 ≠ 5 by decide), upd_comm y.1 (show 15 ≠ 8 by decide), upd_comm (upd y.1 8 0) (show 15 ≠ 5 by decide)]
  have k2 : ∀ s t : Int32, upd (upd (upd (upd (upd y.1 15 b) 16 s) 16 t) 8 0) 5 0 = upd (upd (upd (upd (upd y.1 8 0) 5 0) 15 b) 16 s) 16 t := fun s t => by
    rw [upd_comm (upd (upd y.1 15 b) 16 s) (show 16 ≠ 8 by decide), upd_comm (upd (upd (upd y.1 15 b) 16 s) 8 0) (show 16 ≠ 5 by decide), k]
  by_cases c : fX6_has (upd y.1 15 b, y.2) 2 = 0
  · rw [if_pos c, if_pos c]
    exact Prod.ext (k _) rfl
  · rw [if_neg c, if_neg c]
    exact Prod.ext (k2 _ _) rfl
theorem m_rc12 {y : fk_M} {b d : Int32} : (upd (fX6_receive y b).1 12 d, (fX6_receive y b).2) = fX6_receive (upd y.1 12 d, y.2) b := by
  unfold fX6_receive fX6_receive_c1 fX6_raise
  have e : fX6_has (upd (upd y.1 12 d, y.2).1 15 b, (upd y.1 12 d, y.2).2) 2 = fX6_has (upd y.1 15 b, y.2) 2 := rfl
  rw [e]
  have k : ∀ s : Int32, upd (upd (upd y.1 15 b) 16 s) 12 d = upd (upd (upd y.1 12 d) 15 b) 16 s := fun s => by
    rw [upd_comm (upd y.1 15 b) (show 16 ≠ 12 by decide), upd_comm y.1 (show 15 ≠ 12 by decide)]
  have k2 : ∀ s t : Int32, upd (upd (upd (upd y.1 15 b) 16 s) 16 t) 12 d = upd (upd (upd (upd y.1 12 d) 15 b) 16 s) 16 t := fun s t => by
    rw [upd_comm (upd (upd y.1 15 b) 16 s) (show 16 ≠ 12 by decide), k]
  by_cases c : fX6_has (upd y.1 15 b, y.2) 2 = 0
  · rw [if_pos c, if_pos c]
    exact Prod.ext (k _) rfl
  · rw [if_neg c, if_neg c]
    exact Prod.ext (k2 _ _) rfl
theorem rcv_10 (y : fk_M) (b : Int32) : (fX6_receive y b).1 10 = y.1 10 := (mE_receive y b).2.2.2.1
theorem rcv_8 (y : fk_M) (b : Int32) : (fX6_receive y b).1 8 = y.1 8 := (mE_receive y b).2.2.1
theorem rcv_9 (y : fk_M) (b : Int32) : (fX6_receive y b).1 9 = y.1 9 := by
  unfold fX6_receive fX6_receive_c1
  split <;> rfl
theorem rcv_a (y : fk_M) (b : Int32) : (fX6_receive y b).2 = y.2 := by
  unfold fX6_receive fX6_receive_c1
  split <;> rfl
theorem sF_more {fl st chk lf iT iS iL bg b i13 i14 i15 : Int32} {f : Nat → Int32} {g : Nat} (hfl : fl = 1 ∨ fl = 2) (hlf : lf = fl) (hst : sB st) (hbg : bg = st) (hg : g + 1 < 40) (hc : chk = cN (c4 st) f g) (hby : ∀ i, i < g → sB (f i)) (hid : fl = 1 → (0 < g → iT = f 0) ∧ (2 < g → iS = f 2) ∧ (3 < g → iL = f 3)) (hb : sB b)
    (h13 : fl = 1 → i13 = if nI g = 0 then b else iT) (h14 : fl = 1 → i14 = if nI g = 2 then b else iS) (h15 : fl = 1 → i15 = if nI g = 3 then b else iL) :
    (∀ i, i < g + 1 → sB (upd f g b i)) ∧ fX5_checkWith chk b = cN (c4 st) (upd f g b) (g + 1) ∧ (fl = 1 → (0 < g + 1 → i13 = upd f g b 0) ∧ (2 < g + 1 → i14 = upd f g b 2) ∧ (3 < g + 1 → i15 = upd f g b 3)) := by
  have hne : ∀ i, i ≠ g → upd f g b i = f i := fun i hi => pk_un hi
  refine ⟨fun i hi => ?_, ?_, fun h1 => ?_⟩
  · by_cases e : i = g
    · rw [e, pk_us]
      exact hb
    · rw [hne i e]
      exact hby i (by omega)
  · show _ = fX5_checkWith (cN (c4 st) (upd f g b) g) (upd f g b g)
    rw [pk_us, cN_congr g (fun i hi => hne i (by omega)), hc]
  · obtain ⟨d0, d2, d3⟩ := hid h1
    have key : ∀ (k : Nat) (x o : Int32), k < 40 → (x = if nI g = nI k then b else o) → (k < g → o = f k) → k < g + 1 → x = upd f g b k := by
      intro k x o hk hx ho hlt
      by_cases e : g = k
      · subst e
        rw [if_pos rfl] at hx
        rw [hx, pk_us]
      · rw [if_neg (fun q => e ((nI_eq (by omega) (by omega)).mp q))] at hx
        rw [hx, hne k (Ne.symm e)]
        exact ho (by omega)
    exact ⟨key 0 i13 iT (by decide) (h13 h1) d0, key 2 i14 iS (by decide) (h14 h1) d2, key 3 i15 iL (by decide) (h15 h1) d3⟩
theorem c_53n {z : fk_C} {s : Int32} (h : ¬ s + 2 ≤ z.1 9) : fX2_addToField_53 z s = (2, z) := by
  unfold fX2_addToField_53
  rw [if_neg h]
theorem c_53a {z : fk_C} {s : Int32} (h : s + 2 ≤ z.1 9) (h7 : z.1 7 = 1) (h10 : z.1 10 = 0) : fX2_addToField_53 z s = ((3 : Int32), ((upd (upd (upd z.1 16 ((16 : Int32) <<< (((z.1 15) &&& 1) &&& 31))) 7 0) 4 0, z.2) : fk_C)) := by
  unfold fX2_addToField_53
  rw [if_pos h, if_pos h7, c_rt1 h10, if_neg (by decide)]
theorem c_53b {z : fk_C} {s : Int32} (h : s + 2 ≤ z.1 9) (h7 : ¬ (z.1 7 = 1 ∧ z.1 10 = 0)) : fX2_addToField_53 z s = (3, (upd (upd z.1 7 0) 4 0, z.2)) := by
  unfold fX2_addToField_53
  rw [if_pos h]
  by_cases c : z.1 7 = 1
  · rw [if_pos c, c_rt0 (fun q => h7 ⟨c, q⟩), if_pos rfl]
  · rw [if_neg c]
theorem m_173n {y : fk_M} {x : Int32} (h : ¬ y.1 10 = x) : fX6_comes_173 y x = y := by
  unfold fX6_comes_173
  rw [if_neg h]
theorem m_173 {y : fk_M} {x : Int32} (h : y.1 10 = x) : fX6_comes_173 y x = if y.1 8 = 1 then fX6_idOver (upd (upd y.1 8 0) 5 0, y.2) (fX6_isRight (upd (upd y.1 8 0) 5 0, y.2)) else fX6_dataOver (upd (upd y.1 8 0) 5 0, y.2) (fX6_isRight (upd (upd y.1 8 0) 5 0, y.2)) := by
  unfold fX6_comes_173
  rw [if_pos h]
theorem sP_4 {a b c : Int32} (h : sP a b c) : a = 4 ↔ c = 4 := by
  rcases h with ⟨rfl, rfl⟩ | ⟨rfl, rfl, -⟩ | ⟨rfl, rfl, -⟩ | ⟨rfl, rfl, -⟩ | ⟨rfl, rfl, -⟩ | ⟨rfl, rfl, -⟩ | ⟨rfl, rfl, -⟩ | ⟨rfl, rfl, -⟩ | ⟨rfl, rfl, -⟩ <;> decide
theorem c_mb_keep (z : fk_C) {i : Nat} (h1 : i ≠ 17) (h2 : i ≠ 20) : (fX0_meetFieldByte z).1 i = z.1 i := by
  unfold fX0_meetFieldByte
  split
  · split
    · split
      · show upd (upd z.1 20 (z.1 12)) 17 _ i = _
        rw [pk_un h1, pk_un h2]
      · show upd (upd (upd z.1 20 (z.1 12)) 17 _) 17 _ i = _
        rw [pk_un h1, pk_un h1, pk_un h2]
    · rfl
  · rfl
theorem m_ido1 {y : fk_M} {r : Int32} (h : ¬ r = 0) : fX6_idOver y r = fX6_idOver_19 (upd y.1 12 (16 <<< (((y.2.2.1 (3 : Int32).toNatClampNeg) &&& 1) &&& 31)), y.2) r := by
  unfold fX6_idOver
  rw [if_neg h]
theorem m_ido0 {y : fk_M} {r : Int32} (h : r = 0) : fX6_idOver y r = fX6_idOver_19 y r := by
  unfold fX6_idOver
  rw [if_pos h]
/-- the byte stored, in both: what then holds, whichever way the field goes on -/
theorem fR_more {T : Nat} {z : fk_C} {y : fk_M} {b : Int32} (h : fR T z y) (h7 : ¬ z.1 7 = 0) (hb : sB b) (e12 : z.1 12 = b) (h6 : ¬ z.1 23 = 6) :
    fR T (fX0_readOneCell_c1 (fX2_addToField z).2 (fX2_addToField z).1) (fX6_comes y b) := by
  obtain ⟨⟨hI, ⟨a0, a1, a2, a3, a4, a5, a7, a16, a17, a18, a19, a20, a21, a22, a25, a33, a34⟩, hbf, hby, hda, hD, hF, hP, hS, hT, hW, hQ⟩, hC⟩ := h
  obtain ⟨hfl, hlf, hst, hbg, hgt, g, hg40, eg, ech, hfb, hid⟩ := hF.resolve_left h7
  obtain ⟨hm1, hm2, hm3, ⟨g', hgL, eg'⟩, hm5⟩ := hI
  have egt : y.1 10 = nI g := hgt.trans eg
  have egg : g' = g := (nI_eq (Nat.lt_of_lt_of_le (Nat.lt_of_lt_of_le hgL (mL_le _ _)) (by decide)) (by omega)).mp (eg'.symm.trans egt)
  subst egg
  have h8 : ¬ y.1 8 = 0 := fun q => h7 (a7.trans q)
  -- the field's size
  obtain ⟨N, x, s0, hN2, hN34, ex, es0, hgN, hNm, hx, hs0⟩ : ∃ (N : Nat) (x s0 : Int32), 2 ≤ N ∧ N ≤ 34 ∧ x = nI N ∧ s0 + 2 = nI N ∧ g' < N ∧ N = mL (y.1 8) (y.1 12) ∧ (x = if y.1 8 = 1 then 6 else y.1 12 + 2) ∧ (s0 = if z.1 7 = 1 then 4 else z.1 16) := by
    by_cases c : z.1 7 = 1
    · have c' : y.1 8 = 1 := a7.symm.trans c
      have hm : mL (y.1 8) (y.1 12) = 6 := by
        unfold mL
        rw [if_neg h8, if_pos c']
      rw [hm] at hgL
      refine ⟨6, 6, 4, by decide, by decide, by decide, by decide, hgL, hm.symm, ?_, ?_⟩
      · rw [if_pos c']
      · rw [if_pos c]
    · have c' : ¬ y.1 8 = 1 := fun q => c (a7.trans q)
      rcases hm3 with q | q
      · have hm : mL (y.1 8) (y.1 12) = 18 := by
          unfold mL
          rw [if_neg h8, if_neg c', if_pos q]
        rw [hm] at hgL
        refine ⟨18, 18, 16, by decide, by decide, by decide, by decide, hgL, hm.symm, ?_, ?_⟩
        · rw [if_neg c', q]
          decide
        · rw [if_neg c, a16, q]
      · have hm : mL (y.1 8) (y.1 12) = 34 := by
          unfold mL
          rw [if_neg h8, if_neg c', if_neg (by rw [q]; decide)]
        rw [hm] at hgL
        refine ⟨34, 34, 32, by decide, by decide, by decide, by decide, hgL, hm.symm, ?_, ?_⟩
        · rw [if_neg c', q]
          decide
        · rw [if_neg c, a16, q]
  -- both, as functions of the stored byte
  obtain ⟨ck, i13, i14, i15, eck, h13, h14, h15, ecl⟩ : ∃ ck i13 i14 i15 : Int32, ck = fX5_checkWith (z.1 10) b ∧ (z.1 7 = 1 → i13 = if nI g' = 0 then b else z.1 13) ∧ (z.1 7 = 1 → i14 = if nI g' = 2 then b else z.1 14) ∧ (z.1 7 = 1 → i15 = if nI g' = 3 then b else z.1 15) ∧ fX2_addToField z = fX2_addToField_53 (aZ z ck i13 i14 i15 (nI (g' + 1))) s0 := by
    rcases hfl with c | c
    · refine ⟨_, _, _, _, rfl, fun _ => rfl, fun _ => rfl, fun _ => rfl, ?_⟩
      rw [c_add1 c, e12, eg, nI_1, hs0, if_pos c]
    · refine ⟨fX5_checkWith (z.1 10) b, z.1 13, z.1 14, z.1 15, rfl, fun q => absurd (c.symm.trans q) (by decide), fun q => absurd (c.symm.trans q) (by decide), fun q => absurd (c.symm.trans q) (by decide), ?_⟩
      rw [c_add2 c, e12, eg, nI_1, hs0, if_neg (by rw [c]; decide)]
  have ecm : fX6_comes y b = fX6_comes_140 (aY y (nI (g' + 1)) g' b) b x := by
    unfold fX6_comes
    rw [if_neg h8, hx]
    by_cases c : y.1 8 = 1
    · rw [if_pos c, if_pos c, egt, nI_1, nI_clamp (by omega)]
    · rw [if_neg c, if_neg c, egt, nI_1, nI_clamp (by omega)]
  obtain ⟨nb, nc, nid⟩ := sF_more (f := y.2.2.1) (b := b) hfl hlf hst hbg (show g' + 1 < 40 by omega) ech hfb hid hb h13 h14 h15
  rw [← eck] at nc
  -- when a byte is got
  have hget : (z.1 23 = 4 ∧ (z.1 11 = 1 ∨ nI (g' + 1) ≤ z.1 16)) ↔ (y.1 19 = 4 ∧ (y.1 17 = 4 ∨ ¬ y.1 12 < nI (g' + 1))) := by
    rw [sP_4 hP, ← a16, Int32.not_lt]
    refine and_congr_right fun q4 => ?_
    rcases hC.1 ((sP_4 hP).mpr q4) with ⟨c1, c2⟩ | ⟨c1, c2⟩
    · exact ⟨fun _ => Or.inl (a21.symm.trans c1), fun _ => Or.inl (hlf.trans c2)⟩
    · exact ⟨fun w => Or.inr (w.resolve_left (fun e => absurd ((hlf.trans c2).symm.trans e) (by decide))), fun w => Or.inr (w.resolve_left (fun e => absurd ((a21.symm.trans c1).symm.trans e) (by decide)))⟩
  have lb : ∀ (w : fk_C), w.1 11 = z.1 11 → w.1 9 = nI (g' + 1) → w.1 16 = z.1 16 ∨ z.1 7 = 1 → w.1 23 = z.1 23 → ((w.1 23 = 4 ∧ fX2_isLatestByteOfCheck w = 0) ↔ (z.1 23 = 4 ∧ (z.1 11 = 1 ∨ nI (g' + 1) ≤ z.1 16))) := by
    intro w w11 w9 w16 w23
    rw [w23]
    refine and_congr_right fun _ => ?_
    rcases hfl with c | c
    · rw [c_lb1 (w11.trans (hlf.trans c))]
      exact ⟨fun _ => Or.inl (hlf.trans c), fun _ => rfl⟩
    · have e16 : w.1 16 = z.1 16 := w16.resolve_right (fun q => absurd (c.symm.trans q) (by decide))
      rw [c_lb2 (w11.trans (hlf.trans c)), w9, e16]
      by_cases k : nI (g' + 1) ≤ z.1 16
      · rw [if_pos k]
        exact ⟨fun _ => Or.inr k, fun _ => rfl⟩
      · rw [if_neg k]
        exact ⟨fun q => absurd q (by decide), fun q => absurd (q.resolve_left (fun e => absurd ((hlf.trans c).symm.trans e) (by decide))) k⟩
  obtain ⟨R9, r1, r2, r3, r4, r5⟩ : ∃ R9 : fk_M → fk_M, fX6_comes_140 (aY y (nI (g' + 1)) g' b) b x = fX6_comes_173 (R9 (aY y (nI (g' + 1)) g' b)) x ∧ (∀ Q : fk_M, (R9 Q).1 10 = Q.1 10 ∧ (R9 Q).1 8 = Q.1 8 ∧ (R9 Q).1 9 = Q.1 9 ∧ (R9 Q).2 = Q.2) ∧ (∀ Q : fk_M, (upd (upd (R9 Q).1 8 0) 5 0, (R9 Q).2) = R9 (upd (upd Q.1 8 0) 5 0, Q.2)) ∧ (∀ (Q : fk_M) (d : Int32), (upd (R9 Q).1 12 d, (R9 Q).2) = R9 (upd Q.1 12 d, Q.2)) ∧ (∀ (w : fk_C) (Q : fk_M), fQ T w Q → w.1 12 = b → w.1 11 = z.1 11 → w.1 9 = nI (g' + 1) → w.1 16 = z.1 16 ∨ z.1 7 = 1 → w.1 23 = z.1 23 → fQ T (fX0_meetFieldByte w) (R9 Q)) := by
    by_cases c : y.1 19 = 4 ∧ (y.1 17 = 4 ∨ ¬ y.1 12 < nI (g' + 1))
    · refine ⟨fun Q => fX6_receive Q b, m_140y c.1 c.2, fun Q => ⟨rcv_10 Q b, rcv_8 Q b, rcv_9 Q b, rcv_a Q b⟩, fun Q => m_rc, fun Q d => m_rc12, fun w Q hq w12 w11 w9 w16 w23 => ?_⟩
      have := (lb w w11 w9 w16 w23).mpr (hget.mpr c)
      exact fQ_recv hq hb w12 this.1 this.2
    · refine ⟨fun Q => Q, m_140n c, fun Q => ⟨rfl, rfl, rfl, rfl⟩, fun Q => rfl, fun Q d => rfl, fun w Q hq w12 w11 w9 w16 w23 => ?_⟩
      rw [c_mbN (fun q => c (hget.mp ((lb w w11 w9 w16 w23).mp q)))]
      exact hq
  rw [ecl, ecm, r1]
  have hsW : ∀ mp wd cl lb ck cn bm ld ds pt wr wh lbm sm mk sc : Int32, sW (z.1 23) mp wd cl lb ck cn bm ld ds pt wr wh lbm sm mk sc := fun _ _ _ _ _ _ _ _ _ _ _ _ _ _ _ _ q => absurd q h6
  by_cases ov : g' + 1 = N
  · -- the field is over
    have hov : s0 + 2 ≤ (aZ z ck i13 i14 i15 (nI (g' + 1))).1 9 := by
      show s0 + 2 ≤ nI (g' + 1)
      rw [es0, ov]
      exact nI_le (Nat.le_refl _) (by omega)
    have ex' : (R9 (aY y (nI (g' + 1)) g' b)).1 10 = x := by
      rw [(r2 _).1, ex, ← ov]
      rfl
    have hrt : ∀ w : fk_M, w.1 10 = nI (g' + 1) → w.1 9 = y.1 9 → w.2.2.1 = upd y.2.2.1 g' b → fX6_isRight w = if ck = 0 then 1 else 0 := by
      intro w w1 w2 w3
      have := m_right (q := w) (st := z.1 8) (N := g' + 1) (by omega) (by omega) w1 (w2.trans hbg) hst (by rw [w3]; exact nb)
      rw [this, w3, ← nc]
    have hrR : fX6_isRight (R9 (upd (upd (aY y (nI (g' + 1)) g' b).1 8 0) 5 0, (aY y (nI (g' + 1)) g' b).2)) = if ck = 0 then 1 else 0 := by
      obtain ⟨k1, -, k3, k4⟩ := r2 (upd (upd (aY y (nI (g' + 1)) g' b).1 8 0) 5 0, (aY y (nI (g' + 1)) g' b).2)
      exact hrt _ k1 k3 (by rw [k4])
    rw [m_173 ex', r3, hrR, (r2 _).2.1]
    have hmIo : ∀ d : Int32, (d = 16 ∨ d = 32) → ∀ u : Nat → Int32, u 2 = y.1 2 → u 3 = y.1 3 → u 8 = 0 → u 10 = nI (g' + 1) → u 12 = d → u 29 = y.1 29 → u 30 = y.1 30 → mI (u, (aY y (nI (g' + 1)) g' b).2) := by
      intro d hd u u2 u3 u8 u10 u12 u29 u30
      refine ⟨by rw [show (u, (aY y (nI (g' + 1)) g' b).2).1 2 = y.1 2 from u2]; exact hm1, by rw [show (u, (aY y (nI (g' + 1)) g' b).2).1 3 = y.1 3 from u3]; exact hm2, by rw [show (u, (aY y (nI (g' + 1)) g' b).2).1 12 = d from u12]; exact hd, ⟨g' + 1, ?_, u10⟩, by rw [show (u, (aY y (nI (g' + 1)) g' b).2).1 29 = y.1 29 from u29, show (u, (aY y (nI (g' + 1)) g' b).2).1 30 = y.1 30 from u30]; exact hm5⟩
      show g' + 1 < mL (u 8) (u 12)
      rw [u8]
      show g' + 1 < 40
      omega
    by_cases kid : z.1 7 = 1
    · -- an ID field
      have k8 : (aY y (nI (g' + 1)) g' b).1 8 = 1 := a7.symm.trans kid
      obtain ⟨d13, d14, d15⟩ := nid kid
      have hN6 : g' + 1 = 6 := by
        rw [if_pos kid] at hs0
        have q : nI N = nI 6 := by
          rw [← es0, hs0]
          decide
        have := (nI_eq (by omega) (by decide)).mp q
        omega
      have b13 : i13 = upd y.2.2.1 g' b 0 := d13 (by omega)
      have b14 : i14 = upd y.2.2.1 g' b 2 := d14 (by omega)
      have b15 : i15 = upd y.2.2.1 g' b 3 := d15 (by omega)
      have hl4 : z.1 23 = 4 → z.1 21 = 4 := fun q => by
        rcases hC.1 q with ⟨c1, -⟩ | ⟨-, c2⟩
        · exact c1
        · exact absurd (kid.symm.trans c2) (by decide)
      have hl2 : z.1 23 = 2 → ¬ z.1 21 = 4 := fun q1 q2 => hC.2 q1 q2 kid
      rw [if_pos k8]
      have fin : ∀ (Z3 : fk_C) (Q3 : fk_M), fQ T Z3 Q3 → Z3.1 7 = 0 → Z3.1 12 = b → Z3.1 11 = z.1 11 → Z3.1 9 = nI (g' + 1) → Z3.1 23 = z.1 23 → Z3.1 21 = z.1 21 → Z3.1 10 = ck → Z3.1 13 = Q3.2.2.1 0 → Z3.1 14 = Q3.2.2.1 2 → fR T (fX0_meetFieldEnd (fX0_meetFieldByte Z3)) (fX6_idOver_19 (R9 Q3) (if ck = 0 then 1 else 0)) := by
        intro Z3 Q3 hq w7 w12 w11 w9 w23 w21 w10 w13 w14
        have h1 := r5 Z3 Q3 hq w12 w11 w9 (Or.inr kid) w23
        have k := fun (i : Nat) (n1 : i ≠ 17) (n2 : i ≠ 20) => c_mb_keep Z3 (i := i) n1 n2
        refine fR_idEnd h1 ((k 7 (by decide) (by decide)).trans w7) ((k 11 (by decide) (by decide)).trans (w11.trans (hlf.trans kid))) (fun q => ?_) (fun q => ?_) ?_ ?_ ?_
        · rw [k 21 (by decide) (by decide), w21]
          exact hl4 (by rw [← w23, ← k 23 (by decide) (by decide)]; exact q)
        · rw [k 21 (by decide) (by decide), w21]
          exact hl2 (by rw [← w23, ← k 23 (by decide) (by decide)]; exact q)
        · rw [k 13 (by decide) (by decide), (r2 Q3).2.2.2]
          exact w13
        · rw [k 14 (by decide) (by decide), (r2 Q3).2.2.2]
          exact w14
        · rw [k 10 (by decide) (by decide), w10]
      by_cases c10 : ck = 0
      · -- right
        have hds := fk_ds (upd y.2.2.1 g' b 3)
        have eI : fX6_idOver (R9 (upd (upd (aY y (nI (g' + 1)) g' b).1 8 0) 5 0, (aY y (nI (g' + 1)) g' b).2)) (if ck = 0 then 1 else 0) = fX6_idOver_19 (R9 (upd (upd (upd (aY y (nI (g' + 1)) g' b).1 8 0) 5 0) 12 (16 <<< (((upd y.2.2.1 g' b 3) &&& 1) &&& 31)), (aY y (nI (g' + 1)) g' b).2)) (if ck = 0 then 1 else 0) := by
          rw [m_ido1 (by rw [if_pos c10]; decide), r4]
          have e3 := congrArg (fun q => q.2.1 3) ((r2 (upd (upd (aY y (nI (g' + 1)) g' b).1 8 0) 5 0, (aY y (nI (g' + 1)) g' b).2)).2.2.2)
          have e3' : (R9 (upd (upd (aY y (nI (g' + 1)) g' b).1 8 0) 5 0, (aY y (nI (g' + 1)) g' b).2)).2.2.1 (3 : Int32).toNatClampNeg = upd y.2.2.1 g' b 3 := e3
          rw [e3']
        rw [c_53a hov kid c10, eI]
        show fR T (fX0_readOneCell_c1 (upd (upd (upd (aZ z ck i13 i14 i15 (nI (g' + 1))).1 16 (16 <<< ((i15 &&& 1) &&& 31))) 7 0) 4 0, z.2) 3) _
        rw [c_c1_3]
        refine fin _ (upd (upd (upd (aY y (nI (g' + 1)) g' b).1 8 0) 5 0) 12 (16 <<< (((upd y.2.2.1 g' b 3) &&& 1) &&& 31)), (aY y (nI (g' + 1)) g' b).2) ?_ rfl e12 rfl rfl rfl rfl rfl b13 b14
        exact ⟨hmIo _ hds _ rfl rfl rfl rfl rfl rfl rfl, ⟨a0, a1, a2, a3, rfl, a5, rfl, (by rw [b15] : (16 : Int32) <<< ((i15 &&& 1) &&& 31) = 16 <<< (((upd y.2.2.1 g' b 3) &&& 1) &&& 31)), a17, a18, a19, a20, a21, a22, a25, a33, a34⟩, hbf, hby, hda, hD, Or.inl rfl, hP, Or.inl rfl, hT, hsW _ _ _ _ _ _ _ _ _ _ _ _ _ _ _ _, hQ⟩
      · rw [c_53b hov (fun q => c10 q.2), m_ido0 (by rw [if_neg c10])]
        show fR T (fX0_readOneCell_c1 (upd (upd (aZ z ck i13 i14 i15 (nI (g' + 1))).1 7 0) 4 0, z.2) 3) _
        rw [c_c1_3]
        refine fin _ (upd (upd (aY y (nI (g' + 1)) g' b).1 8 0) 5 0, (aY y (nI (g' + 1)) g' b).2) ?_ rfl e12 rfl rfl rfl rfl rfl b13 b14
        exact ⟨hmIo (y.1 12) hm3 _ rfl rfl rfl rfl rfl rfl rfl, ⟨a0, a1, a2, a3, rfl, a5, rfl, a16, a17, a18, a19, a20, a21, a22, a25, a33, a34⟩, hbf, hby, hda, hD, Or.inl rfl, hP, Or.inl rfl, hT, hsW _ _ _ _ _ _ _ _ _ _ _ _ _ _ _ _, hQ⟩
    · -- a data field
      have kd : z.1 7 = 2 := hfl.resolve_left kid
      have k8 : ¬ (aY y (nI (g' + 1)) g' b).1 8 = 1 := fun q => kid (a7.trans q)
      rw [if_neg k8, c_53b hov (fun q => kid q.1)]
      show fR T (fX0_readOneCell_c1 (upd (upd (aZ z ck i13 i14 i15 (nI (g' + 1))).1 7 0) 4 0, z.2) 3) _
      rw [c_c1_3]
      have hq : fQ T (upd (upd (aZ z ck i13 i14 i15 (nI (g' + 1))).1 7 0) 4 0, z.2) (upd (upd (aY y (nI (g' + 1)) g' b).1 8 0) 5 0, (aY y (nI (g' + 1)) g' b).2) :=
        ⟨hmIo (y.1 12) hm3 _ rfl rfl rfl rfl rfl rfl rfl, ⟨a0, a1, a2, a3, rfl, a5, rfl, a16, a17, a18, a19, a20, a21, a22, a25, a33, a34⟩, hbf, hby, hda, hD, Or.inl rfl, hP, Or.inl rfl, hT, hsW _ _ _ _ _ _ _ _ _ _ _ _ _ _ _ _, hQ⟩
      have h1 := r5 _ _ hq e12 rfl rfl (Or.inl rfl) rfl
      have k := fun (i : Nat) (n1 : i ≠ 17) (n2 : i ≠ 20) => c_mb_keep (upd (upd (aZ z ck i13 i14 i15 (nI (g' + 1))).1 7 0) 4 0, z.2) (i := i) n1 n2
      refine fR_dataEnd h1 ((k 7 (by decide) (by decide)).trans rfl) ((k 11 (by decide) (by decide)).trans (hlf.trans kd)) (fun q => ?_) ?_
      · rw [k 21 (by decide) (by decide)]
        have q' : z.1 23 = 4 := by
          rw [k 23 (by decide) (by decide)] at q
          exact q
        rcases hC.1 q' with ⟨-, c2⟩ | ⟨c1, -⟩
        · exact absurd (kd.symm.trans c2) (by decide)
        · exact c1
      · rw [k 10 (by decide) (by decide)]
        rfl
  · -- it goes on
    have hlt : g' + 1 < N := by omega
    have hno : ¬ s0 + 2 ≤ (aZ z ck i13 i14 i15 (nI (g' + 1))).1 9 := by
      show ¬ s0 + 2 ≤ nI (g' + 1)
      rw [es0]
      exact nI_ge hlt (by omega)
    rw [c_53n hno, m_173n (by
      rw [(r2 _).1, ex]
      exact fun q => ov ((nI_eq (by omega) (by omega)).mp q))]
    show fR T (fX0_readOneCell_c1 (aZ z ck i13 i14 i15 (nI (g' + 1))) 2) _
    rw [c_c1_2]
    have hq : fQ T (aZ z ck i13 i14 i15 (nI (g' + 1))) (aY y (nI (g' + 1)) g' b) :=
      ⟨⟨hm1, hm2, hm3, ⟨g' + 1, by rw [hNm] at hlt; exact hlt, rfl⟩, hm5⟩, ⟨a0, a1, a2, a3, a4, a5, a7, a16, a17, a18, a19, a20, a21, a22, a25, a33, a34⟩, hbf, hby, hda, hD, Or.inr ⟨hfl, hlf, hst, hbg, rfl, g' + 1, by omega, rfl, nc, nb, nid⟩, hP, hS, hT, hsW _ _ _ _ _ _ _ _ _ _ _ _ _ _ _ _, hQ⟩
    have h1 := r5 _ _ hq e12 rfl rfl (Or.inl rfl) rfl
    refine ⟨h1, ?_⟩
    rw [c_mb_keep _ (i := 23) (by decide) (by decide), c_mb_keep _ (i := 21) (by decide) (by decide), c_mb_keep _ (i := 7) (by decide) (by decide)]
    exact hC
/-! a cell is read -/
theorem fR_wnd {T : Nat} {z : fk_C} {y : fk_M} (h : fR T z y) (h6 : ¬ z.1 23 = 6) (W : Int32) : fR T (fX0_readOneCell_c1 (fX2_readCell_61 (upd z.1 3 W, z.2)).2 (fX2_readCell_61 (upd z.1 3 W, z.2)).1) (fX6_readCell_97 (upd (upd y.1 4 W) 7 ((y.1 7) + 1), y.2)) := by
  have hR := h
  obtain ⟨⟨hI, ⟨a0, a1, a2, a3, a4, a5, a7, a16, a17, a18, a19, a20, a21, a22, a25, a33, a34⟩, hbf, hby, hda, hD, hF, hP, hS, hT, hW, hQ⟩, hC⟩ := h
  unfold fX2_readCell_61 fX6_readCell_97
  rcases hS with c | ⟨c, k, hk, e6, e7⟩
  · rw [if_pos (show (upd z.1 3 W, z.2).1 4 = 0 from c), if_pos (show (upd (upd y.1 4 W) 7 ((y.1 7) + 1), y.2).1 5 = 0 from a4.symm.trans c)]
    show fR T (fX0_readOneCell_c1 (upd z.1 3 W, z.2) 0) _
    rw [c_c1_0]
    exact ⟨⟨mI_of ⟨rfl, rfl, rfl, rfl, rfl, rfl, rfl⟩ hI, ⟨a0, a1, a2, rfl, a4, a5, a7, a16, a17, a18, a19, a20, a21, a22, a25, a33, a34⟩, hbf, hby, hda, hD, hF, hP, Or.inl c, hT, hW, hQ⟩, hC⟩
  · have n4 : ¬ (upd z.1 3 W, z.2).1 4 = 0 := fun q => absurd ((show z.1 4 = 0 from q).symm.trans c) (by decide)
    have n5 : ¬ (upd (upd y.1 4 W) 7 ((y.1 7) + 1), y.2).1 5 = 0 := fun q => absurd ((show y.1 5 = 0 from q).symm.trans (a4.symm.trans c)) (by decide)
    rw [if_neg n4, if_neg n5]
    by_cases k15 : k = 15
    · have e16 : (16 : Int32) ≤ (upd z.1 3 W, z.2).1 6 + 1 := by
        show (16 : Int32) ≤ z.1 6 + 1
        rw [e6, k15]
        decide
      have e16' : (upd (upd y.1 4 W) 7 ((y.1 7) + 1), y.2).1 7 = 16 := by
        show y.1 7 + 1 = 16
        rw [e7, k15]
        decide
      rw [if_pos e16, if_pos e16']
      have hb := bE_sB W
      have hR' : fR T (upd (upd (upd (upd z.1 3 W) 6 (z.1 6 + 1)) 6 0) 12 (bE W), z.2) (upd (upd (upd y.1 4 W) 7 ((y.1 7) + 1)) 7 0, y.2) :=
        ⟨⟨mI_of ⟨rfl, rfl, rfl, rfl, rfl, rfl, rfl⟩ hI, ⟨a0, a1, a2, rfl, a4, a5, a7, a16, a17, a18, a19, a20, a21, a22, a25, a33, a34⟩, hbf, hby, hda, hD, hF, hP, Or.inr ⟨c, 0, by decide, rfl, rfl⟩, hT, hW, hQ⟩, hC⟩
      by_cases k7 : z.1 7 = 0
      · rw [if_pos (show (upd z.1 3 W, z.2).1 7 = 0 from k7)]
        exact fR_new hR' k7 hb rfl c
      · rw [if_neg (show ¬ (upd z.1 3 W, z.2).1 7 = 0 from k7)]
        exact fR_more hR' k7 hb rfl h6
    · have e16 : ¬ (16 : Int32) ≤ (upd z.1 3 W, z.2).1 6 + 1 := by
        show ¬ (16 : Int32) ≤ z.1 6 + 1
        rw [e6, nI_1]
        exact nI_ge (a := k + 1) (b := 16) (by omega) (by decide)
      have e16' : ¬ (upd (upd y.1 4 W) 7 ((y.1 7) + 1), y.2).1 7 = 16 := by
        show ¬ y.1 7 + 1 = 16
        rw [e7, nI_1]
        exact fun q => k15 (by have := (nI_eq (a := k + 1) (b := 16) (by omega) (by decide)).mp q; omega)
      rw [if_neg e16, if_neg e16']
      show fR T (fX0_readOneCell_c1 (upd (upd z.1 3 W) 6 (z.1 6 + 1), z.2) 0) _
      rw [c_c1_0]
      exact ⟨⟨mI_of ⟨rfl, rfl, rfl, rfl, rfl, rfl, rfl⟩ hI, ⟨a0, a1, a2, rfl, a4, a5, a7, a16, a17, a18, a19, a20, a21, a22, a25, a33, a34⟩, hbf, hby, hda, hD, hF, hP, Or.inr ⟨c, k + 1, by omega, fk_up1 e6, fk_up1 e7⟩, hT, hW, hQ⟩, hC⟩
theorem fR_mark {T : Nat} {z : fk_C} {y : fk_M} (h : fR T z y) (W : Int32) : fR T (fX0_readOneCell_c1 (fX2_readCell_39 (upd z.1 3 W, z.2)).2 (fX2_readCell_39 (upd z.1 3 W, z.2)).1) (fX6_readCell_74 (upd (upd y.1 4 W) 7 ((y.1 7) + 1), y.2)) := by
  obtain ⟨⟨hI, ⟨a0, a1, a2, a3, a4, a5, a7, a16, a17, a18, a19, a20, a21, a22, a25, a33, a34⟩, hbf, hby, hda, hD, hF, hP, hS, hT, hW, hQ⟩, hC⟩ := h
  show fR T (fX0_readOneCell_c1 (upd (upd (upd (upd z.1 3 W) 4 1) 5 (z.1 5 + 1)) 6 0, z.2) 0) (upd (upd (upd (upd (upd y.1 4 W) 7 ((y.1 7) + 1)) 5 1) 6 (y.1 6 + 1)) 7 0, y.2)
  rw [c_c1_0]
  exact ⟨⟨mI_of ⟨rfl, rfl, rfl, rfl, rfl, rfl, rfl⟩ hI, ⟨a0, a1, a2, rfl, rfl, (by rw [a5] : z.1 5 + 1 = y.1 6 + 1), a7, a16, a17, a18, a19, a20, a21, a22, a25, a33, a34⟩, hbf, hby, hda, hD, hF, hP, Or.inr ⟨rfl, 0, by decide, rfl, rfl⟩, hT, hW, hQ⟩, hC⟩
theorem fR_read {T : Nat} {z : fk_C} {y : fk_M} (h : fR T z y) (h6 : ¬ z.1 23 = 6) : fR T (fX0_readOneCell z) (fX6_readCell y) := by
  obtain ⟨hb1, hb2⟩ := rd_bit h.1
  have a3 := h.1.2.1.2.2.2.1
  have a4 := h.1.2.1.2.2.2.2.1
  have a7 := h.1.2.1.2.2.2.2.2.2.1
  have em : fX6_readCell y = fX6_readCell_33 y ((y.1 4) <<< ((1 : Int32) &&& 31)) (y.2.1 ((2400 * (y.1 2)) + (y.1 3)).toNatClampNeg) := by
    unfold fX6_readCell
    rcases hb2 with e | e
    · rw [if_pos e, e]
    · rw [if_neg (by rw [e]; decide), e]
  rw [em]
  unfold fX0_readOneCell
  rw [hb1]
  generalize y.2.1 ((2400 * (y.1 2)) + (y.1 3)).toNatClampNeg = bit
  unfold fX2_readCell fX6_readCell_33
  rw [← a3, ← a4, ← a7]
  generalize (((z.1 3) <<< ((1 : Int32) &&& 31)) ||| bit) &&& 65535 = W
  by_cases cM : W = 17545
  · rw [if_pos cM, if_pos cM]
    by_cases c4 : z.1 4 = 0
    · rw [if_pos c4, if_pos c4]
      exact fR_mark h W
    · rw [if_neg c4, if_neg c4]
      by_cases c7 : z.1 7 = 0
      · rw [if_pos c7, if_pos c7]
        exact fR_mark h W
      · rw [if_neg c7, if_neg c7]
        exact fR_wnd h h6 W
  · rw [if_neg cM, if_neg cM]
    exact fR_wnd h h6 W
