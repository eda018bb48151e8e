/-! writing -/
def eN (lb a : Int32) : Int32 := (((((((((((((((((((((((((0 : Int32) <<< ((2 : Int32) &&& 31)) ||| (((lb ||| ((a >>> ((7 : Int32) &&& 31)) &&& 1)) ^^^ 1) <<< ((1 : Int32) &&& 31))) ||| ((a >>> ((7 : Int32) &&& 31)) &&& 1)) <<< ((2 : Int32) &&& 31)) ||| (((((a >>> ((7 : Int32) &&& 31)) &&& 1) ||| ((a >>> ((6 : Int32) &&& 31)) &&& 1)) ^^^ 1) <<< ((1 : Int32) &&& 31))) ||| ((a >>> ((6 : Int32) &&& 31)) &&& 1)) <<< ((2 : Int32) &&& 31)) ||| (((((a >>> ((6 : Int32) &&& 31)) &&& 1) ||| ((a >>> ((5 : Int32) &&& 31)) &&& 1)) ^^^ 1) <<< ((1 : Int32) &&& 31))) ||| ((a >>> ((5 : Int32) &&& 31)) &&& 1)) <<< ((2 : Int32) &&& 31)) ||| (((((a >>> ((5 : Int32) &&& 31)) &&& 1) ||| ((a >>> ((4 : Int32) &&& 31)) &&& 1)) ^^^ 1) <<< ((1 : Int32) &&& 31))) ||| ((a >>> ((4 : Int32) &&& 31)) &&& 1)) <<< ((2 : Int32) &&& 31)) ||| (((((a >>> ((4 : Int32) &&& 31)) &&& 1) ||| ((a >>> ((3 : Int32) &&& 31)) &&& 1)) ^^^ 1) <<< ((1 : Int32) &&& 31))) ||| ((a >>> ((3 : Int32) &&& 31)) &&& 1)) <<< ((2 : Int32) &&& 31)) ||| (((((a >>> ((3 : Int32) &&& 31)) &&& 1) ||| ((a >>> ((2 : Int32) &&& 31)) &&& 1)) ^^^ 1) <<< ((1 : Int32) &&& 31))) ||| ((a >>> ((2 : Int32) &&& 31)) &&& 1)) <<< ((2 : Int32) &&& 31)) ||| (((((a >>> ((2 : Int32) &&& 31)) &&& 1) ||| ((a >>> ((1 : Int32) &&& 31)) &&& 1)) ^^^ 1) <<< ((1 : Int32) &&& 31))) ||| ((a >>> ((1 : Int32) &&& 31)) &&& 1)) <<< ((2 : Int32) &&& 31)) ||| (((((a >>> ((1 : Int32) &&& 31)) &&& 1) ||| ((a >>> ((0 : Int32) &&& 31)) &&& 1)) ^^^ 1) <<< ((1 : Int32) &&& 31))) ||| ((a >>> ((0 : Int32) &&& 31)) &&& 1))
theorem upd_upd (f : Nat → Int32) (k : Nat) (a b : Int32) : upd (upd f k a) k b = upd f k b := by
  funext j
  unfold upd
  split <;> rfl
def pU (z : fk_C) (v : Int32) : fk_C := (upd (upd (upd (upd (upd z.1 28 (v &&& 1)) 31 0) 26 (eN (z.1 28) v)) 27 16) 30 (z.1 30 + 1), z.2)
theorem c_pu (z : fk_C) (v : Int32) : fX4_putUnchecked z v = pU z v := by
  unfold fX4_putUnchecked pU eN
  rw [upd_upd, upd_upd, upd_upd, upd_upd, upd_upd, upd_upd, upd_upd, sb_shr0]
  rfl
theorem c_pb (z : fk_C) (v : Int32) : fX4_putByte z v = pU (upd z.1 29 (fX5_checkWith (z.1 29) v), z.2) v := by
  unfold fX4_putByte
  rw [c_pu]
theorem c_ph0 {z : fk_C} (h : z.1 32 = 0) : fX4_putHalfOfCheck z = pU (upd z.1 32 1, z.2) (z.1 29 >>> ((8 : Int32) &&& 31)) := by
  unfold fX4_putHalfOfCheck fX4_putHalfOfCheck_25
  rw [if_pos h, if_pos h, c_pu]
theorem c_ph1 {z : fk_C} (h : ¬ z.1 32 = 0) : fX4_putHalfOfCheck z = pU (upd z.1 32 0, z.2) (z.1 29 &&& 255) := by
  unfold fX4_putHalfOfCheck fX4_putHalfOfCheck_25
  rw [if_neg h, if_neg h, c_pu]
def pM (z : fk_C) (c : Int32) : fk_C := (upd (upd (upd (upd (upd (upd z.1 29 c) 31 1) 28 1) 26 17545) 27 16) 30 (z.1 30 + 1), z.2)
theorem c_pm0 {z : fk_C} (h : z.1 31 = 0) : fX4_putMark z = pM z (fX5_checkWith 65535 161) := by
  unfold fX4_putMark fX4_putMark_13 fX4_putWord
  rw [if_pos h]
  show (upd (upd (upd (upd (upd (upd (upd z.1 29 65535) 29 (fX5_checkWith 65535 161)) 31 1) 28 1) 26 17545) 27 16) 30 (z.1 30 + 1), z.2) = _
  rw [upd_upd]
  rfl
theorem c_pm1 {z : fk_C} (h : ¬ z.1 31 = 0) : fX4_putMark z = pM z (fX5_checkWith (z.1 29) 161) := by
  unfold fX4_putMark fX4_putMark_13 fX4_putWord
  rw [if_neg h]
  rfl
theorem eN_c : ∀ lb bit : Int32, s01 lb → s01 bit → ((lb ||| bit) ^^^ 1) <<< ((1 : Int32) &&& 31) = if lb + bit = 0 then 2 else 0 := by
  rintro lb bit (rfl | rfl) (rfl | rfl) <;> decide
theorem cd_step {n : Nat} {y : fk_M} {a v bf x : Int32} (hx : ¬ x < 0) (hb : s01 bf) : fX6_coded_11 (n + 1) y a v bf x = fX6_coded_11 n y a (((v <<< ((2 : Int32) &&& 31)) ||| (((bf ||| ((a >>> (x &&& 31)) &&& 1)) ^^^ 1) <<< ((1 : Int32) &&& 31))) ||| ((a >>> (x &&& 31)) &&& 1)) ((a >>> (x &&& 31)) &&& 1) (x + (-1)) := by
  rw [fX6_coded_11, if_neg hx, eN_c bf _ hb (fk_and1 _)]
  unfold fX6_coded_39
  by_cases c : bf + ((a >>> (x &&& 31)) &&& 1) = 0
  · rw [if_pos c, if_pos c]
  · rw [if_neg c, if_neg c]
theorem m_coded {y : fk_M} (a : Int32) (h : s01 (y.1 25)) : fX6_coded y a = eN (y.1 25) a := by
  unfold fX6_coded
  rw [cd_step (by decide) h, show (7 : Int32) + (-1) = 6 from by decide, cd_step (by decide) (fk_and1 _), show (6 : Int32) + (-1) = 5 from by decide, cd_step (by decide) (fk_and1 _), show (5 : Int32) + (-1) = 4 from by decide, cd_step (by decide) (fk_and1 _), show (4 : Int32) + (-1) = 3 from by decide, cd_step (by decide) (fk_and1 _), show (3 : Int32) + (-1) = 2 from by decide, cd_step (by decide) (fk_and1 _), show (2 : Int32) + (-1) = 1 from by decide, cd_step (by decide) (fk_and1 _), show (1 : Int32) + (-1) = 0 from by decide, cd_step (by decide) (fk_and1 _), show (0 : Int32) + (-1) = -1 from by decide, fX6_coded_11, if_pos (by decide)]
  rfl
theorem m_write {y : fk_M} (v : Int32) (h : s01 (y.1 25)) : fX6_write y v = (upd (upd y.1 22 (eN (y.1 25) v)) 25 (v &&& 1), y.2) := by
  unfold fX6_write
  rw [m_coded v h]
/-- a word is loaded, k of its cells are written -/
def sL (k : Nat) (mp wd cl lb ck cn bm ld ds pt wr wh lbm sm mk sc : Int32) : Prop := k < 16 ∧ wr = nI k ∧ cl = nI (16 - k) ∧ wd = pt ∧ sV mp lb ck cn bm ld ds wh lbm sm mk sc false
def fL (T k : Nat) (z : fk_C) (y : fk_M) : Prop := mI y ∧ sA z.1 y.1 ∧ z.2.2 = y.2.2.2 ∧ (∀ i, sB (z.2.2 i)) ∧ sB (z.1 20) ∧ sD z.2.1 y.2.1 ∧ sF (z.1 7) (z.1 8) (z.1 9) (z.1 10) (z.1 11) (z.1 13) (z.1 14) (z.1 15) (y.1 9) (y.1 10) y.2.2.1 ∧ sP (z.1 23) (z.1 21) (y.1 19) ∧ sS (z.1 4) (z.1 6) (y.1 7) ∧ z.1 23 = 6 ∧ sL k (y.1 19) (z.1 26) (z.1 27) (z.1 28) (z.1 29) (z.1 30) (z.1 31) (z.1 32) (z.1 16) (y.1 22) (y.1 23) (y.1 24) (y.1 25) (y.1 26) (y.1 27) (y.1 28) ∧ sQ (z.1 17) (z.1 23) (z.1 21)
theorem sV_ff {mp lb ck cn bm ld ds wh lbm sm mk sc : Int32} {e : Bool} (h : sV mp lb ck cn bm ld ds wh lbm sm mk sc e) : sV mp lb ck cn bm ld ds wh lbm sm mk sc false := by
  obtain ⟨h1, h2, h3, h4, h5, h6⟩ := h
  refine ⟨h1, h2, h3, h4, h5, fun q => ?_⟩
  obtain ⟨w, D, k1, k2, k3, k4, k5, -, k7⟩ := h6 q
  exact ⟨w, D, k1, k2, k3, k4, k5, fun q => absurd q (by decide), k7⟩
theorem sB_shr {c : Int32} (h : sH c) : sB (c >>> ((8 : Int32) &&& 31)) := by
  obtain ⟨n, hn, rfl⟩ := h
  exact ⟨n / 256, by omega, nI_shr8 (by omega)⟩
theorem sB_low {c : Int32} (h : sH c) : sB (c &&& 255) := by
  obtain ⟨n, hn, rfl⟩ := h
  exact ⟨n % 256, Nat.mod_lt _ (by decide), by rw [show (255 : Int32) = nI 255 from by decide, nI_and, and255]⟩
theorem sB_0 : sB 0 := ⟨0, by decide, by decide⟩
theorem sB_nn {x : Int32} (h : sB x) : ¬ x < 0 := by
  obtain ⟨n, hn, rfl⟩ := h
  exact nI_pos (by omega)
/-- a byte is asked for -/
theorem ask_both {T : Nat} {z : fk_C} {y : fk_M} (h : fR T z y) : ∃ v : Int32, sB v ∧ ∃ s s' : Int32, s = s' ∧ sQ s (z.1 23) (z.1 21) ∧ fX0_askForByte z = (v, (upd z.1 17 s, z.2)) ∧ fX6_ask y = (v, (upd y.1 16 s', y.2)) := by
  obtain ⟨⟨hI, ⟨a0, a1, a2, a3, a4, a5, a7, a16, a17, a18, a19, a20, a21, a22, a25, a33, a34⟩, hbf, hby, hda, hD, hF, hP, hS, hT, hW, hQ⟩, hC⟩ := h
  unfold fX0_askForByte fX6_ask fX0_has fX6_has fX6_ask_c1 fX6_raise
  by_cases c : z.1 17 &&& 2 = 0
  · have c' : y.1 16 &&& 2 = 0 := by rw [← a17]; exact c
    refine ⟨z.1 20, hda, z.1 17, y.1 16, a17, hQ, ?_, ?_⟩
    · rw [if_pos c, if_pos rfl, upd_self]
    · rw [if_pos c', if_pos rfl, upd_self, a20]
  · have c' : ¬ y.1 16 &&& 2 = 0 := by rw [← a17]; exact c
    refine ⟨0, sB_0, z.1 17 ||| 4, y.1 16 ||| 4, by rw [a17], sQ_or (by decide) (by decide) hQ, ?_, ?_⟩
    · rw [if_neg c, if_neg (by decide)]
    · rw [if_neg c', if_neg (by decide)]
theorem s01_low (v : Int32) : s01 (v &&& 1) := fk_and1 v
theorem s01_1 : s01 1 := Or.inr rfl
theorem fL_mk {T : Nat} {z z' : fk_C} {y y' : fk_M} (h : fR T z y) (h6 : z.1 23 = 6) (hwr : y.1 23 = 0) (hz2 : z'.2 = z.2) (hy2 : y'.2 = y.2)
    (hu : ∀ i, i ≠ 17 → i ≠ 26 → i ≠ 27 → i ≠ 28 → i ≠ 29 → i ≠ 30 → i ≠ 31 → i ≠ 32 → z'.1 i = z.1 i) (hv : ∀ i, i ≠ 16 → i ≠ 22 → i ≠ 24 → i ≠ 25 → i ≠ 26 → i ≠ 27 → i ≠ 28 → y'.1 i = y.1 i)
    (e17 : z'.1 17 = y'.1 16) (hq : sQ (z'.1 17) 6 (z.1 21)) (e27 : z'.1 27 = 16) (e26 : z'.1 26 = y'.1 22)
    (hV : sV (y.1 19) (z'.1 28) (z'.1 29) (z'.1 30) (z'.1 31) (z'.1 32) (z.1 16) (y'.1 24) (y'.1 25) (y'.1 26) (y'.1 27) (y'.1 28) false) : fL T 0 z' y' := by
  have hI' : mI y' := mI_of ⟨hv 2 (by decide) (by decide) (by decide) (by decide) (by decide) (by decide) (by decide), hv 3 (by decide) (by decide) (by decide) (by decide) (by decide) (by decide) (by decide), hv 8 (by decide) (by decide) (by decide) (by decide) (by decide) (by decide) (by decide), hv 10 (by decide) (by decide) (by decide) (by decide) (by decide) (by decide) (by decide), hv 12 (by decide) (by decide) (by decide) (by decide) (by decide) (by decide) (by decide), hv 29 (by decide) (by decide) (by decide) (by decide) (by decide) (by decide) (by decide), hv 30 (by decide) (by decide) (by decide) (by decide) (by decide) (by decide) (by decide)⟩ h.1.1
  obtain ⟨⟨hI, ⟨a0, a1, a2, a3, a4, a5, a7, a16, a17, a18, a19, a20, a21, a22, a25, a33, a34⟩, hbf, hby, hda, hD, hF, hP, hS, hT, hW, hQ⟩, hC⟩ := h
  have U : ∀ i, i ≠ 17 → i ≠ 26 → i ≠ 27 → i ≠ 28 → i ≠ 29 → i ≠ 30 → i ≠ 31 → i ≠ 32 → z'.1 i = z.1 i := hu
  have V : ∀ i, i ≠ 16 → i ≠ 22 → i ≠ 24 → i ≠ 25 → i ≠ 26 → i ≠ 27 → i ≠ 28 → y'.1 i = y.1 i := hv
  have u (i : Nat) (hi : (i == 17 || i == 26 || i == 27 || i == 28 || i == 29 || i == 30 || i == 31 || i == 32) = false) : z'.1 i = z.1 i := by
    simp at hi
    exact U i hi.1.1.1.1.1.1.1 hi.1.1.1.1.1.1.2 hi.1.1.1.1.1.2 hi.1.1.1.1.2 hi.1.1.1.2 hi.1.1.2 hi.1.2 hi.2
  have v (i : Nat) (hi : (i == 16 || i == 22 || i == 24 || i == 25 || i == 26 || i == 27 || i == 28) = false) : y'.1 i = y.1 i := by
    simp at hi
    exact V i hi.1.1.1.1.1.1 hi.1.1.1.1.1.2 hi.1.1.1.1.2 hi.1.1.1.2 hi.1.1.2 hi.1.2 hi.2
  unfold fL
  rw [hz2, hy2, u 20 rfl, u 7 rfl, u 8 rfl, u 9 rfl, u 10 rfl, u 11 rfl, u 13 rfl, u 14 rfl, u 15 rfl, v 9 rfl, v 10 rfl, u 23 rfl, u 21 rfl, v 19 rfl, u 4 rfl, u 6 rfl, v 7 rfl, u 16 rfl, v 23 rfl, h6]
  refine ⟨hI', ⟨?_, ?_, ?_, ?_, ?_, ?_, ?_, ?_, e17, ?_, ?_, ?_, ?_, ?_, ?_, ?_, ?_⟩, hbf, hby, hda, hD, hF, by rw [h6] at hP; exact hP, hS, rfl, ⟨by decide, hwr, e27, e26, hV⟩, hq⟩
  · rw [u 0 rfl, v 1 rfl]; exact a0
  · rw [u 1 rfl, v 2 rfl]; exact a1
  · rw [u 2 rfl, v 3 rfl]; exact a2
  · rw [u 3 rfl, v 4 rfl]; exact a3
  · rw [u 4 rfl, v 5 rfl]; exact a4
  · rw [u 5 rfl, v 6 rfl]; exact a5
  · rw [u 7 rfl, v 8 rfl]; exact a7
  · rw [u 16 rfl, v 12 rfl]; exact a16
  · rw [u 18 rfl, v 13 rfl]; exact a18
  · rw [u 19 rfl, v 14 rfl]; exact a19
  · rw [u 20 rfl, v 15 rfl]; exact a20
  · rw [u 21 rfl, v 17 rfl]; exact a21
  · rw [u 22 rfl, v 18 rfl]; exact a22
  · rw [u 25 rfl, v 21 rfl]; exact a25
  · rw [u 33 rfl, v 29 rfl]; exact a33
  · rw [u 34 rfl, v 30 rfl]; exact a34
theorem m_tc30 {y : fk_M} {s : Int32} (h : y.1 27 = 0) : fX6_trackByte_c3 (fX6_writeMark y) s = (upd (upd (upd (upd y.1 22 17545) 25 1) 26 (fX6_step 65535 161)) 27 s, y.2) := by
  unfold fX6_trackByte_c3
  rw [if_pos (show (fX6_writeMark y).1 27 = 0 from h)]
  rfl
theorem m_tc31 {y : fk_M} {s : Int32} (h : ¬ y.1 27 = 0) : fX6_trackByte_c3 (fX6_writeMark y) s = (upd (upd (upd (upd y.1 22 17545) 25 1) 26 (fX6_step (y.1 26) 161)) 27 s, y.2) := by
  unfold fX6_trackByte_c3
  rw [if_neg (show ¬ (fX6_writeMark y).1 27 = 0 from h)]
  rfl
/-- FORMAT: the next byte -/
theorem fL_track {T : Nat} {z : fk_C} {y : fk_M} (h : fR T z y) (h6 : z.1 23 = 6) (h8 : y.1 19 = 8) (hl : z.1 21 = 5) (hwr : y.1 23 = 0) (hV : sV (y.1 19) (z.1 28) (z.1 29) (z.1 30) (z.1 31) (z.1 32) (z.1 16) (y.1 24) (y.1 25) (y.1 26) (y.1 27) (y.1 28) true) : fL T 0 (fX0_putNextOfTrack z) (fX6_trackByte y) := by
  obtain ⟨v1, v2, v3, v4, v8, -⟩ := hV
  obtain ⟨w1, w2, w3, w4⟩ := v8 h8
  have no6 : ∀ P : Prop, y.1 19 = 6 → P := fun P q => absurd (h8.symm.trans q) (by decide)
  have hQ := h.1.2.2.2.2.2.2.2.2.2.2.2
  have a17 := h.1.2.1.2.2.2.2.2.2.2.2.1
  rw [h6] at hQ
  unfold fX0_putNextOfTrack fX6_trackByte
  rcases w4 with ⟨w4, w5⟩ | ⟨w4, w5, w6⟩
  · -- a byte is asked for
    obtain ⟨v, hv, s, s', es, hq, ec, em⟩ := ask_both h
    rw [h6] at hq
    rw [if_pos w4, if_pos (show y.1 28 < 0 from by rw [w5]; decide), ec, em]
    show fL T 0 (fX0_putNextOfTrack_c1 (upd z.1 17 s, z.2) v) (fX6_trackByte_c4 (upd y.1 16 s', y.2) v)
    unfold fX0_putNextOfTrack_c1 fX6_trackByte_c4 fX6_trackByte_c5 fX6_trackByte_43 fX6_raise
    have hq2 : sQ (s ||| 2) 6 (z.1 21) := sQ_or2 (Or.inr (Or.inr (Or.inr hl))) hq
    by_cases c5 : v = 245
    · rw [if_pos c5, if_pos c5, if_neg (show ¬ (1 : Int32) = 0 from by decide)]
      by_cases cm : z.1 31 = 0
      · rw [c_pm0 (z := (upd (upd z.1 17 s, z.2).1 17 ((upd z.1 17 s, z.2).1 17 ||| 2), (upd z.1 17 s, z.2).2)) cm, m_tc30 (y := (upd (upd y.1 16 s', y.2).1 16 ((upd y.1 16 s', y.2).1 16 ||| 2), (upd y.1 16 s', y.2).2)) (show y.1 27 = 0 from w2.symm.trans cm)]
        refine fL_mk h h6 hwr rfl rfl (fun i h1 h2 h3 h4 h5 h6 h7 h8 => by simp [pM, upd, h1, h2, h3, h4, h5, h6, h7, h8]) (fun i h1 h2 h3 h4 h5 h6 h7 => by simp [upd, h1, h2, h3, h4, h5, h6, h7]) (by show s ||| 2 = s' ||| 2; rw [es]) hq2 rfl rfl ?_
        exact ⟨rfl, s01_1, sH_cw sH_1 sB_161, by rw [st_cw sH_1 sB_161]; exact sH_cw sH_1 sB_161, fun _ => ⟨(st_cw sH_1 sB_161).symm, rfl, s01_1, Or.inl ⟨w4, w5⟩⟩, fun q => no6 _ q⟩
      · rw [c_pm1 (z := (upd (upd z.1 17 s, z.2).1 17 ((upd z.1 17 s, z.2).1 17 ||| 2), (upd z.1 17 s, z.2).2)) cm, m_tc31 (y := (upd (upd y.1 16 s', y.2).1 16 ((upd y.1 16 s', y.2).1 16 ||| 2), (upd y.1 16 s', y.2).2)) (show ¬ y.1 27 = 0 from fun q => cm (w2.trans q))]
        refine fL_mk h h6 hwr rfl rfl (fun i h1 h2 h3 h4 h5 h6 h7 h8 => by simp [pM, upd, h1, h2, h3, h4, h5, h6, h7, h8]) (fun i h1 h2 h3 h4 h5 h6 h7 => by simp [upd, h1, h2, h3, h4, h5, h6, h7]) (by show s ||| 2 = s' ||| 2; rw [es]) hq2 rfl rfl ?_
        have e9 : fX5_checkWith (z.1 29) 161 = fX6_step (y.1 26) 161 := by rw [st_cw v4 sB_161, w1]
        exact ⟨rfl, s01_1, sH_cw v3 sB_161, by show sH (fX6_step (y.1 26) 161); rw [← e9]; exact sH_cw v3 sB_161, fun _ => ⟨e9, rfl, s01_1, Or.inl ⟨w4, w5⟩⟩, fun q => no6 _ q⟩
    · rw [if_neg c5, if_neg c5, if_pos (show (0 : Int32) = 0 from rfl)]
      by_cases c7 : v = 247
      · rw [if_pos c7, if_pos c7, c_ph0 (z := (upd (upd z.1 17 s, z.2).1 17 ((upd z.1 17 s, z.2).1 17 ||| 2), (upd z.1 17 s, z.2).2)) w4]
        unfold fX6_trackByte_c2
        rw [m_write (y := (upd (upd y.1 16 s', y.2).1 16 ((upd y.1 16 s', y.2).1 16 ||| 2), (upd y.1 16 s', y.2).2)) _ (show s01 (y.1 25) from v1 ▸ v2)]
        refine fL_mk h h6 hwr rfl rfl (fun i h1 h2 h3 h4 h5 h6 h7 h8 => by simp [pU, upd, h1, h2, h3, h4, h5, h6, h7, h8]) (fun i h1 h2 h3 h4 h5 h6 h7 => by simp [upd, h1, h2, h3, h4, h5, h6, h7]) (by show s ||| 2 = s' ||| 2; rw [es]) hq2 rfl (by show eN (z.1 28) (z.1 29 >>> ((8 : Int32) &&& 31)) = eN (y.1 25) (y.1 26 >>> ((8 : Int32) &&& 31)); rw [v1, w1]) ?_
        exact ⟨(by rw [w1] : (z.1 29 >>> ((8 : Int32) &&& 31)) &&& 1 = (y.1 26 >>> ((8 : Int32) &&& 31)) &&& 1), s01_low _, v3, v4, fun _ => ⟨w1, rfl, Or.inl rfl, Or.inr ⟨rfl, (by rw [w1] : y.1 26 &&& 255 = z.1 29 &&& 255), rfl⟩⟩, fun q => no6 _ q⟩
      · rw [if_neg c7, if_neg c7, c_pb]
        unfold fX6_trackByte_c1
        rw [m_write (y := (upd (upd y.1 16 s', y.2).1 16 ((upd y.1 16 s', y.2).1 16 ||| 2), (upd y.1 16 s', y.2).2)) _ (show s01 (y.1 25) from v1 ▸ v2)]
        have e9 : fX5_checkWith (z.1 29) v = fX6_step (y.1 26) v := by rw [st_cw v4 hv, w1]
        refine fL_mk h h6 hwr rfl rfl (fun i h1 h2 h3 h4 h5 h6 h7 h8 => by simp [pU, upd, h1, h2, h3, h4, h5, h6, h7, h8]) (fun i h1 h2 h3 h4 h5 h6 h7 => by simp [upd, h1, h2, h3, h4, h5, h6, h7]) (by show s ||| 2 = s' ||| 2; rw [es]) hq2 rfl (by show eN (z.1 28) v = eN (y.1 25) v; rw [v1]) ?_
        exact ⟨rfl, s01_low _, sH_cw v3 hv, by show sH (fX6_step (y.1 26) v); rw [← e9]; exact sH_cw v3 hv, fun _ => ⟨e9, rfl, Or.inl rfl, Or.inl ⟨w4, w5⟩⟩, fun q => no6 _ q⟩
  · -- the second byte of a check
    have n32 : ¬ z.1 32 = 0 := by rw [w4]; decide
    have n28 : ¬ y.1 28 < 0 := by rw [w5]; exact sB_nn (sB_low v3)
    rw [if_neg n32, if_neg n28, c_ph1 n32]
    unfold fX6_trackByte_c6
    rw [m_write _ (show s01 (y.1 25) from v1 ▸ v2)]
    refine fL_mk h h6 hwr rfl rfl (fun i h1 h2 h3 h4 h5 h6 h7 h8 => by simp [pU, upd, h1, h2, h3, h4, h5, h6, h7, h8]) (fun i h1 h2 h3 h4 h5 h6 h7 => by simp [upd, h1, h2, h3, h4, h5, h6, h7]) a17 hQ rfl (by show eN (z.1 28) (z.1 29 &&& 255) = eN (y.1 25) (y.1 28); rw [v1, w5]) ?_
    exact ⟨(by rw [w5] : (z.1 29 &&& 255) &&& 1 = (y.1 28) &&& 1), s01_low _, v3, v4, fun _ => ⟨w1, w6.symm.trans w2, Or.inl rfl, Or.inl ⟨rfl, rfl⟩⟩, fun q => no6 _ q⟩
