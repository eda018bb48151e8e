/-! the other calls -/
theorem fR_force {T : Nat} {z : fk_C} {y : fk_M} (h : fR T z y) : (fX5_force z).1 = (fX6_force y).1 ∧ fR T (fX5_force z).2 (fX6_force y).2 := by
  have a17 := h.1.2.1.2.2.2.2.2.2.2.2.1
  unfold fX5_force fX6_force
  by_cases cb : y.1 16 &&& 1 = 0
  · rw [if_pos (m_has0 cb), if_pos (c_has0 (z := z) (show z.1 17 &&& 1 = 0 from by rw [a17]; exact cb))]
    exact ⟨rfl, h⟩
  · rw [if_neg (m_has1 cb), if_neg (c_has1 (z := z) (show ¬ z.1 17 &&& 1 = 0 from by rw [a17]; exact cb))]
    exact ⟨rfl, fR_end h.1⟩
theorem i_01 {a : Int32} (h0 : ¬ a < 0) (h1 : ¬ 1 < a) : a = 0 ∨ a = 1 := by
  obtain ⟨n, hn, rfl⟩ := i_le (N := 1) (by decide) h0 h1
  rcases (show n = 0 ∨ n = 1 by omega) with rfl | rfl
  · exact Or.inl (by decide)
  · exact Or.inr (by decide)
theorem fR_set {T : Nat} {z : fk_C} {y : fk_M} (h : fR T z y) (a b : Int32) : (fX5_set z a b).1 = (fX6_set y a b).1 ∧ fR T (fX5_set z a b).2 (fX6_set y a b).2 := by
  have a17 := h.1.2.1.2.2.2.2.2.2.2.2.1
  have no : ¬ (a = 0 ∨ a = 1) → fX5_set z a b = (0, z) := fun q => by
    unfold fX5_set
    rw [if_neg (fun w => q (Or.inl w)), if_neg (fun w => q (Or.inr w)), ite_self, ite_self]
  by_cases c1 : a < 0
  · rw [no (fun q => by rcases q with q | q <;> (rw [q] at c1; exact absurd c1 (by decide)))]
    unfold fX6_set
    rw [if_pos c1]
    exact ⟨rfl, h⟩
  by_cases c2 : 1 < a
  · rw [no (fun q => by rcases q with q | q <;> (rw [q] at c2; exact absurd c2 (by decide)))]
    unfold fX6_set
    rw [if_neg c1, if_pos c2]
    exact ⟨rfl, h⟩
  unfold fX5_set fX6_set
  rw [if_neg c1, if_neg c2]
  by_cases c3 : b < 0
  · rw [if_pos c3, if_pos (isB0 (Or.inl c3))]
    exact ⟨rfl, h⟩
  rw [if_neg c3]
  by_cases c4 : 255 < b
  · rw [if_pos c4, if_pos (isB0 (Or.inr c4))]
    exact ⟨rfl, h⟩
  rw [if_neg c4, if_neg (isB1 c3 c4)]
  by_cases cb : y.1 16 &&& 1 = 0
  · rw [if_pos (m_has0 cb), if_pos (c_has0 (z := z) (show z.1 17 &&& 1 = 0 from by rw [a17]; exact cb))]
    obtain ⟨⟨hI, ⟨a0, a1, a2, a3, a4, a5, a7, a16, a17, a18, a19, a20, a21, a22, a25, a33, a34⟩, hbf, hby, hda, hD, hF, hP, hS, hT, hW, hQ⟩, hC⟩ := h
    unfold fX6_set_43
    rcases i_01 c1 c2 with q | q
    · rw [if_pos q, if_pos q, if_neg (show ¬ a = 1 from by rw [q]; decide)]
      exact ⟨rfl, ⟨mI_of ⟨rfl, rfl, rfl, rfl, rfl, rfl, rfl⟩ hI, ⟨a0, a1, a2, a3, a4, a5, a7, a16, a17, rfl, a19, a20, a21, a22, a25, a33, a34⟩, hbf, hby, hda, hD, hF, hP, hS, hT, hW, hQ⟩, hC⟩
    · have n0 : ¬ a = 0 := by rw [q]; decide
      rw [if_neg n0, if_neg n0, if_pos q, if_pos q]
      exact ⟨rfl, ⟨mI_of ⟨rfl, rfl, rfl, rfl, rfl, rfl, rfl⟩ hI, ⟨a0, a1, a2, a3, a4, a5, a7, a16, a17, a18, rfl, a20, a21, a22, a25, a33, a34⟩, hbf, hby, hda, hD, hF, hP, hS, hT, hW, hQ⟩, hC⟩
  · rw [if_neg (m_has1 cb), if_neg (c_has1 (z := z) (show ¬ z.1 17 &&& 1 = 0 from by rw [a17]; exact cb))]
    exact ⟨rfl, h⟩
/-! the data register -/
theorem st_3 : (2 : Int32) ^^^ (-1) = -3 := by decide
theorem fR_acc {T : Nat} {z : fk_C} {y : fk_M} (h : fR T z y) {v : Int32} (hv : sB v) : fR T (fX0_acceptData z v) (fX6_drop (upd y.1 15 v, y.2) 2) := by
  obtain ⟨⟨hI, ⟨a0, a1, a2, a3, a4, a5, a7, a16, a17, a18, a19, a20, a21, a22, a25, a33, a34⟩, hbf, hby, hda, hD, hF, hP, hS, hT, hW, hQ⟩, hC⟩ := h
  exact ⟨⟨mI_of ⟨rfl, rfl, rfl, rfl, rfl, rfl, rfl⟩ hI, ⟨a0, a1, a2, a3, a4, a5, a7, a16, (by rw [a17, st_3] : z.1 17 &&& (-3) = y.1 16 &&& (2 ^^^ (-1))), a18, a19, rfl, a21, a22, a25, a33, a34⟩, hbf, hby, hv, hD, hF, hP, hS, hT, hW, sQ_m3 hQ⟩, hC⟩
theorem fR_hand {T : Nat} {z : fk_C} {y : fk_M} (h : fR T z y) : fR T (upd z.1 17 ((z.1 17) &&& (-3)), z.2) (fX6_drop y 2) := by
  have a17 := h.1.2.1.2.2.2.2.2.2.2.2.1
  have hQ := h.1.2.2.2.2.2.2.2.2.2.2.2
  exact ⟨fQ_st h.1 (by rw [a17, st_3]) (sQ_m3 hQ), h.2⟩
theorem m_give {y : fk_M} {v : Int32} (hv : sB v) : fX6_give y v = (1, fX6_drop (upd y.1 15 v, y.2) 2) := by
  unfold fX6_give fX6_give_c1
  rw [if_neg (sB_le hv).1, if_pos (sB_le hv).2.1]
theorem fR_give {T : Nat} {z : fk_C} {y : fk_M} (h : fR T z y) (a : Int32) : (fX5_give z a).1 = (fX6_give y a).1 ∧ fR T (fX5_give z a).2 (fX6_give y a).2 := by
  by_cases c1 : a < 0
  · unfold fX5_give fX6_give
    rw [if_pos (isB0 (Or.inl c1)), if_pos c1]
    exact ⟨rfl, h⟩
  by_cases c2 : 255 < a
  · unfold fX5_give fX6_give
    rw [if_pos (isB0 (Or.inr c2)), if_neg c1, if_neg (show ¬ a ≤ 255 from Int32.not_le.mpr c2)]
    exact ⟨rfl, h⟩
  rw [m_give (sB_of c1 c2)]
  unfold fX5_give
  rw [if_neg (isB1 c1 c2)]
  exact ⟨rfl, fR_acc h (sB_of c1 c2)⟩
theorem fR_take {T : Nat} {z : fk_C} {y : fk_M} (h : fR T z y) : (fX5_take z).1 = (fX6_take y).1 ∧ fR T (fX5_take z).2 (fX6_take y).2 := ⟨h.1.2.1.2.2.2.2.2.2.2.2.2.2.2.1, fR_hand h⟩
/-! the buffer -/
theorem fR_clear {T : Nat} {z : fk_C} {y : fk_M} (h : fR T z y) : fR T (fX5_clear z) (fX6_clear y) := by
  obtain ⟨⟨⟨hm1, hm2, hm3, hm4, hm5⟩, ⟨a0, a1, a2, a3, a4, a5, a7, a16, a17, a18, a19, a20, a21, a22, a25, a33, a34⟩, hbf, hby, hda, hD, hF, hP, hS, hT, hW, hQ⟩, hC⟩ := h
  exact ⟨⟨⟨hm1, hm2, hm3, hm4, 0, 0, by decide, by decide, rfl, rfl⟩, ⟨a0, a1, a2, a3, a4, a5, a7, a16, a17, a18, a19, a20, a21, a22, a25, rfl, rfl⟩, hbf, hby, hda, hD, hF, hP, hS, hT, hW, hQ⟩, hC⟩
theorem fR_protect {T : Nat} {z : fk_C} {y : fk_M} (h : fR T z y) (a : Int32) : fR T (fX5_protect z a) (fX6_protect y a) := by
  obtain ⟨⟨hI, ⟨a0, a1, a2, a3, a4, a5, a7, a16, a17, a18, a19, a20, a21, a22, a25, a33, a34⟩, hbf, hby, hda, hD, hF, hP, hS, hT, hW, hQ⟩, hC⟩ := h
  exact ⟨⟨mI_of ⟨rfl, rfl, rfl, rfl, rfl, rfl, rfl⟩ hI, ⟨rfl, a1, a2, a3, a4, a5, a7, a16, a17, a18, a19, a20, a21, a22, a25, a33, a34⟩, hbf, hby, hda, hD, hF, hP, hS, hT, hW, hQ⟩, hC⟩
theorem c_app {z : fk_C} {b : Nat} (hb : b < 200) (e : z.1 33 = nI b) (v : Int32) : fX3_append z v = (upd z.1 33 ((z.1 33) + 1), z.2.1, upd z.2.2 (z.1 33).toNatClampNeg v) := by
  unfold fX3_append
  rw [if_neg (show ¬ z.1 33 < 0 from by rw [e]; exact nI_pos (by omega)), if_neg (show ¬ 200 ≤ z.1 33 from by rw [e]; exact nI_ge (a := b) (b := 200) hb (by decide))]
theorem fR_app {T : Nat} {z : fk_C} {y : fk_M} (h : fR T z y) (hn : ¬ 200 ≤ y.1 29) {v : Int32} (hv : sB v) : fR T (fX3_append z v) (upd y.1 29 ((y.1 29) + 1), y.2.1, y.2.2.1, upd y.2.2.2 (y.1 29).toNatClampNeg v) := by
  have hI' := mI_bf1 (g := upd y.2.2.2 (y.1 29).toNatClampNeg v) h.1.1 hn
  obtain ⟨b, n, hb, -, eb, -⟩ := mI_bflt h.1.1 hn
  obtain ⟨⟨hI, ⟨a0, a1, a2, a3, a4, a5, a7, a16, a17, a18, a19, a20, a21, a22, a25, a33, a34⟩, hbf, hby, hda, hD, hF, hP, hS, hT, hW, hQ⟩, hC⟩ := h
  rw [c_app hb (a33.trans eb)]
  refine ⟨⟨hI', ⟨a0, a1, a2, a3, a4, a5, a7, a16, a17, a18, a19, a20, a21, a22, a25, (by rw [a33] : z.1 33 + 1 = y.1 29 + 1), a34⟩, ?_, ?_, hda, hD, hF, hP, hS, hT, hW, hQ⟩, hC⟩
  · show upd z.2.2 (z.1 33).toNatClampNeg v = upd y.2.2.2 (y.1 29).toNatClampNeg v
    rw [a33, hbf]
  · intro i
    show sB (upd z.2.2 (z.1 33).toNatClampNeg v i)
    by_cases c : i = (z.1 33).toNatClampNeg
    · rw [c, pk_us]
      exact hv
    · rw [pk_un c]
      exact hby i
theorem c_full {z : fk_C} (h : 200 ≤ z.1 33) (v : Int32) : fX3_append z v = z := by
  unfold fX3_append
  rw [if_pos h, ite_self]
theorem fill_both {T N : Nat} {v a : Int32} (hv : sB v) (ha : a = nI N) (hN : N ≤ 100) : ∀ (n j B : Nat) (z : fk_C) (y : fk_M), fR T z y → y.1 29 = nI (B + j) → B + N ≤ 200 → j ≤ N → N + 1 ≤ j + n → (fX5_fill_33 n z v a (nI j)).1 = (fX6_fill_38 n y v a (nI j)).1 ∧ fR T (fX5_fill_33 n z v a (nI j)).2 (fX6_fill_38 n y v a (nI j)).2 := by
  intro n
  induction n with
  | zero => intro j B z y h e h1 h2 h3; omega
  | succ n ih =>
    intro j B z y h e h1 h2 h3
    rw [fX5_fill_33, fX6_fill_38]
    by_cases c : j = N
    · rw [if_pos (show a ≤ nI j from by rw [ha, c]; exact nI_le (Nat.le_refl _) (by omega)), if_pos (show a ≤ nI j from by rw [ha, c]; exact nI_le (Nat.le_refl _) (by omega))]
      exact ⟨rfl, h⟩
    · have nj : ¬ a ≤ nI j := by rw [ha]; exact nI_ge (by omega) (by omega)
      rw [if_neg nj, if_neg nj]
      have hh := fR_app h (show ¬ 200 ≤ y.1 29 from by rw [e]; exact nI_ge (a := B + j) (b := 200) (by omega) (by decide)) hv
      have := ih (j + 1) B _ _ hh (fk_up1 e) h1 (by omega) (by omega)
      rw [← nI_1] at this
      exact this
theorem fR_fill {T : Nat} {z : fk_C} {y : fk_M} (h : fR T z y) (a b : Int32) : (fX5_fill z a b).1 = (fX6_fill y a b).1 ∧ fR T (fX5_fill z a b).2 (fX6_fill y a b).2 := by
  have a33 := h.1.2.1.2.2.2.2.2.2.2.2.2.2.2.2.2.2.2.1
  unfold fX5_fill fX6_fill
  by_cases c1 : a < 0
  · rw [if_pos (isB0 (Or.inl c1)), if_pos c1]
    exact ⟨rfl, h⟩
  by_cases c2 : 255 < a
  · rw [if_pos (isB0 (Or.inr c2)), if_neg c1, if_pos c2]
    exact ⟨rfl, h⟩
  rw [if_neg (isB1 c1 c2), if_neg c1, if_neg c2]
  by_cases c3 : b < 1
  · rw [if_pos c3, if_pos c3]
    exact ⟨rfl, h⟩
  rw [if_neg c3, if_neg c3]
  by_cases c4 : 100 < b
  · rw [if_pos c4, if_pos c4]
    exact ⟨rfl, h⟩
  rw [if_neg c4, if_neg c4]
  obtain ⟨N, hN, eN⟩ := fk_cnt c3 c4
  obtain ⟨-, -, -, -, B, m, hB, -, eB, -⟩ := h.1.1
  have es : 200 - z.1 33 = nI (200 - B) := by
    rw [a33, eB, show (200 : Int32) = nI 200 from by decide]
    exact pk_sub hB
  have ea : y.1 29 + b = nI (B + N) := by rw [eB, eN, nI_add]
  unfold fX3_hasRoomFor
  rw [es, ea]
  by_cases c : B + N ≤ 200
  · rw [if_neg (show ¬ nI (200 - B) < b from by rw [eN]; exact fun q => by have := (nI_ltI (by omega) (by omega)).mp q; omega), if_neg (show ¬ (1 : Int32) = 0 from by decide), if_pos (show nI (B + N) ≤ 200 from nI_le (b := 200) c (by decide))]
    exact fill_both (sB_of c1 c2) eN hN 101 0 B z y h eB c (Nat.zero_le _) (by omega)
  · rw [if_pos (show nI (200 - B) < b from by rw [eN]; exact (nI_ltI (by omega) (by omega)).mpr (by omega)), if_pos rfl, if_neg (show ¬ nI (B + N) ≤ 200 from nI_ge (b := B + N) (a := 200) (by omega) (by omega))]
    exact ⟨rfl, h⟩
theorem fR_buffer {T : Nat} {z : fk_C} {y : fk_M} (h : fR T z y) (a : Int32) : fX5_buffer z a = fX6_buffer y a := by
  have a33 := h.1.2.1.2.2.2.2.2.2.2.2.2.2.2.2.2.2.2.1
  have hbf := h.1.2.2.1
  obtain ⟨-, -, -, -, B, m, hB, -, eB, -⟩ := h.1.1
  unfold fX5_buffer fX6_buffer fX3_byteAt
  rw [a33, hbf]
  by_cases c1 : a = -1
  · rw [if_pos c1, if_pos c1]
  rw [if_neg c1, if_neg c1]
  by_cases c2 : a < 0
  · rw [if_pos c2, if_pos c2]
  rw [if_neg c2, if_neg c2]
  by_cases c3 : a < y.1 29
  · have c4 : a < 200 := by
      obtain ⟨j, hj, rfl⟩ := nI_of c2
      rw [eB] at c3
      have := (nI_ltI hj (by omega)).mp c3
      exact nI_lt (b := 200) (by omega) (by decide)
    rw [if_pos c3, if_neg (Int32.not_le.mpr c3), if_pos c4]
  · rw [if_neg c3, if_pos (Int32.not_lt.mp c3)]
/-! spoil, cells, look -/
theorem fR_spoil {T : Nat} {z : fk_C} {y : fk_M} (h : fR T z y) (a b : Int32) : (fX5_spoil z a b).1 = (fX6_spoil y a b).1 ∧ fR T (fX5_spoil z a b).2 (fX6_spoil y a b).2 := by
  by_cases c1 : a < 0
  · unfold fX5_spoil fX1_turnOver fX6_spoil
    rw [if_pos c1, if_pos c1]
    exact ⟨rfl, h⟩
  by_cases c2 : 3 < a
  · unfold fX5_spoil fX1_turnOver fX6_spoil
    rw [if_neg c1, if_pos ((lt_3 a).mp c2), if_neg c1, if_pos c2]
    exact ⟨rfl, h⟩
  by_cases c3 : b < 0
  · unfold fX5_spoil fX1_turnOver fX6_spoil
    rw [if_neg c1, if_neg (fun q => c2 ((lt_3 a).mpr q)), if_pos c3, if_neg c1, if_neg c2, if_pos c3]
    exact ⟨rfl, h⟩
  by_cases c4 : b < 2400
  · obtain ⟨t, ht, rfl⟩ := i_le (N := 3) (by decide) c1 c2
    obtain ⟨p, hp, rfl⟩ := fk_of (N := 2400) (by decide) c3 c4
    obtain ⟨⟨hI, ⟨a0, a1, a2, a3, a4, a5, a7, a16, a17, a18, a19, a20, a21, a22, a25, a33, a34⟩, hbf, hby, hda, hD, hF, hP, hS, hT, hW, hQ⟩, hC⟩ := h
    obtain ⟨W, hW1, w1, w2, w3⟩ := turn_both hD (show t < 4 by omega) hp
    have hfl := sD_flip hD (show t < 4 by omega) hp hW1 w1
    have em : fX6_spoil y (nI t) (nI p) = (1, (y.1, upd y.2.1 (2400 * t + p) (nI (1 - W / 2 ^ (15 - p % 16) % 2)), y.2.2.1, y.2.2.2)) := by
      unfold fX6_spoil
      rw [if_neg c1, if_neg c2, if_neg c3, if_pos c4, m_at (by omega) hp, w2]
      rcases (show W / 2 ^ (15 - p % 16) % 2 = 0 ∨ W / 2 ^ (15 - p % 16) % 2 = 1 by omega) with q | q <;> rw [q]
      · rw [if_pos (by decide)]
        rfl
      · rw [if_neg (by decide)]
        rfl
    unfold fX5_spoil
    rw [w3, em]
    exact ⟨rfl, ⟨mI_of ⟨rfl, rfl, rfl, rfl, rfl, rfl, rfl⟩ hI, ⟨a0, a1, a2, a3, a4, a5, a7, a16, a17, a18, a19, a20, a21, a22, a25, a33, a34⟩, hbf, hby, hda, hfl, hF, hP, hS, hT, hW, hQ⟩, hC⟩
  · unfold fX5_spoil fX1_turnOver fX6_spoil
    rw [if_neg c1, if_neg (fun q => c2 ((lt_3 a).mpr q)), if_neg c3, if_neg c4, if_neg c1, if_neg c2, if_neg c3, if_neg c4]
    exact ⟨rfl, h⟩
theorem cells_both {y : fk_M} {t w W : Nat} (ht : t < 4) (hw : w < 150) (hW : W < 65536) (hc : ∀ j, j < 16 → y.2.1 (2400 * t + (16 * w + j)) = nI (W / 2 ^ (15 - j) % 2)) : ∀ (n j : Nat), n + j = 17 → j ≤ 16 → fX6_cells_27 n y (nI t) (nI w) (nI (W / 2 ^ (16 - j))) (nI j) = nI W := by
  intro n
  induction n with
  | zero => intro j h1 h2; omega
  | succ n ih =>
    intro j h1 h2
    rw [fX6_cells_27]
    by_cases c : j = 16
    · rw [if_pos (show (16 : Int32) ≤ nI j from by rw [c]; decide), c, Nat.sub_self, Nat.pow_zero, Nat.div_one]
    · have hj : j < 16 := by omega
      have nj : ¬ (16 : Int32) ≤ nI j := nI_ge (a := j) (b := 16) hj (by decide)
      have eat : (((2400 : Int32) * nI t) + (16 * nI w) + nI j).toNatClampNeg = 2400 * t + (16 * w + j) := by
        rw [show (2400 : Int32) = nI 2400 from by decide, show (16 : Int32) = nI 16 from by decide, pk_mul, pk_mul, nI_add, nI_add, nI_clamp (by omega)]
        omega
      have e2 : W / 2 ^ (15 - j) = W / 2 ^ (16 - j) * 2 + W / 2 ^ (15 - j) % 2 := by
        have : W / 2 ^ (16 - j) = W / 2 ^ (15 - j) / 2 := by
          rw [Nat.div_div_eq_div_mul, ← Nat.pow_succ]
          congr 2
          omega
        rw [this]
        omega
      have hlt : W / 2 ^ (16 - j) < 65536 := Nat.lt_of_le_of_lt (Nat.div_le_self _ _) hW
      have hx : ∀ b : Nat, b < 2 → nI (W / 2 ^ (16 - j)) <<< ((1 : Int32) &&& 31) ||| nI b = nI (W / 2 ^ (16 - j) * 2 + b) := by
        intro b hb
        rw [nI_shl1 (by omega), nI_or]
        have := Nat.two_pow_add_eq_or_of_lt (i := 1) (b := b) (by omega) (W / 2 ^ (16 - j))
        rw [show (2 : Nat) ^ 1 * (W / 2 ^ (16 - j)) = W / 2 ^ (16 - j) * 2 from by omega] at this
        rw [this]
      have hnext := ih (j + 1) (by omega) (by omega)
      rw [show 16 - (j + 1) = 15 - j from by omega] at hnext
      rw [if_neg nj, eat, hc j hj]
      unfold fX6_cells_63
      rw [nI_1]
      rcases (show W / 2 ^ (15 - j) % 2 = 0 ∨ W / 2 ^ (15 - j) % 2 = 1 by omega) with q | q
      · rw [q, if_pos (show nI 0 = 0 from by decide), show (0 : Int32) = nI 0 from by decide, hx 0 (by decide)]
        rw [q] at e2
        rw [← e2]
        exact hnext
      · rw [q, if_neg (show ¬ nI 1 = 0 from by decide)]
        rw [show nI (W / 2 ^ (16 - j)) <<< ((1 : Int32) &&& 31) ||| 1 = nI (W / 2 ^ (16 - j) * 2 + 1) from hx 1 (by decide)]
        rw [q] at e2
        rw [← e2]
        exact hnext
theorem fR_cells {T : Nat} {z : fk_C} {y : fk_M} (h : fR T z y) (a b : Int32) : fX5_cells z a b = fX6_cells y a b := by
  have hD := h.1.2.2.2.2.2.1
  unfold fX5_cells fX1_wordAt fX6_cells
  by_cases c1 : a < 0
  · rw [if_pos c1, if_pos c1]
  rw [if_neg c1, if_neg c1]
  by_cases c2 : 3 < a
  · rw [if_pos ((lt_3 a).mp c2), if_pos c2]
  rw [if_neg (fun q => c2 ((lt_3 a).mpr q)), if_neg c2]
  by_cases c3 : b < 0
  · rw [if_pos c3, if_pos c3]
  rw [if_neg c3, if_neg c3]
  by_cases c4 : b < 150
  · rw [if_pos c4, if_pos c4]
    obtain ⟨t, ht, rfl⟩ := i_le (N := 3) (by decide) c1 c2
    obtain ⟨w, hw, rfl⟩ := fk_of (N := 150) (by decide) c3 c4
    obtain ⟨W, hW, w1, -⟩ := hD t (16 * w) (by omega) (by omega)
    rw [show 16 * w / 16 = w from by omega] at w1
    have hc : ∀ j, j < 16 → y.2.1 (2400 * t + (16 * w + j)) = nI (W / 2 ^ (15 - j) % 2) := by
      intro j hj
      obtain ⟨W2, h1, h2, h3⟩ := hD t (16 * w + j) (by omega) (by omega)
      rw [show (16 * w + j) / 16 = w from by omega] at h2
      rw [show (16 * w + j) % 16 = j from by omega] at h3
      have : W2 = W := (nI_eq (by omega) (by omega)).mp (h2.symm.trans w1)
      rw [h3, this]
    have := cells_both (y := y) (show t < 4 by omega) hw hW hc 17 0 (by decide) (by decide)
    rw [show W / 2 ^ (16 - 0) = 0 from Nat.div_eq_of_lt hW] at this
    rw [show fX6_cells_27 17 y (nI t) (nI w) 0 0 = nI W from this, show (150 : Int32) = nI 150 from by decide, pk_mul, nI_add, nI_clamp (by omega), Nat.mul_comm t 150, w1]
  · rw [if_neg c4, if_neg c4]
theorem fR_look {T : Nat} {z : fk_C} {y : fk_M} (h : fR T z y) (a : Int32) : fX5_look z a = fX6_look y a := by
  obtain ⟨⟨hI, ⟨a0, a1, a2, a3, a4, a5, a7, a16, a17, a18, a19, a20, a21, a22, a25, a33, a34⟩, hbf, hby, hda, hD, hF, hP, hS, hT, hW, hQ⟩, hC⟩ := h
  unfold fX5_look fX6_look
  rw [a17, a18, a19, a20, a1, a2, a4, a21]
/-! run -/
theorem fR_le {T U : Nat} (hU : T ≤ U) {z : fk_C} {y : fk_M} (h : fR T z y) : fR U z y := ⟨fQ_up hU h.1, h.2⟩
theorem run_both {N : Nat} {a : Int32} (ha : a = nI N) (hN : N ≤ 200) : ∀ (n j T U : Nat) (z : fk_C) (y : fk_M) (x : Int32), fR T z y → T + (N - j) ≤ U → U < 2 ^ 30 → j ≤ N → N + 1 ≤ j + n → (fX5_run_17 n z a x (nI j)).1 = (fX6_run_17 n y a x (nI j)).1 ∧ fR U (fX5_run_17 n z a x (nI j)).2 (fX6_run_17 n y a x (nI j)).2 := by
  intro n
  induction n with
  | zero => intro j T U z y x h h0 h1 h2 h3; omega
  | succ n ih =>
    intro j T U z y x h h0 h1 h2 h3
    rw [fX5_run_17, fX6_run_17]
    by_cases c : j = N
    · rw [if_pos (show a ≤ nI j from by rw [ha, c]; exact nI_le (Nat.le_refl _) (by omega)), if_pos (show a ≤ nI j from by rw [ha, c]; exact nI_le (Nat.le_refl _) (by omega))]
      exact ⟨rfl, fR_le (by omega) h⟩
    · have nj : ¬ a ≤ nI j := by rw [ha]; exact nI_ge (by omega) (by omega)
      rw [if_neg nj, if_neg nj]
      obtain ⟨p1, p2, p3⟩ := fR_pass (by omega) h
      have hn := fun x' => ih (j + 1) (T + 1) U _ _ x' p2 (by omega) h1 (by omega) (by omega)
      unfold fX5_run_c1 fX5_run_35 fX6_run_c1
      rw [p1, nI_1]
      rcases p3 with q | q
      · rw [q, if_pos rfl, Int32.add_zero]
        exact hn x
      · rw [q, if_neg (by decide)]
        exact hn (x + 1)
theorem fR_run {T : Nat} {z : fk_C} {y : fk_M} (h : fR T z y) (hT : T < 100000) (a : Int32) : (fX5_run z a).1 = (fX6_run y a).1 ∧ fR (T + 200) (fX5_run z a).2 (fX6_run y a).2 := by
  unfold fX5_run fX6_run
  by_cases c1 : a < 0
  · rw [if_pos c1, if_pos c1]
    exact ⟨rfl, fR_up h⟩
  rw [if_neg c1, if_neg c1]
  by_cases c2 : a ≤ 200
  · rw [if_pos c2, if_pos c2]
    obtain ⟨N, hN, rfl⟩ := i_le (N := 200) (by decide) c1 (Int32.not_lt.mpr c2)
    exact run_both rfl hN 201 0 T (T + 200) z y 0 h (by omega) (by omega) (Nat.zero_le _) (by omega)
  · rw [if_neg c2, if_neg c2]
    exact ⟨rfl, fR_up h⟩
/-! serve -/
theorem sv_none {y : fk_M} (h : y.1 16 &&& 2 = 0) (kont : fk_M → Int32 → Int32 → Int32 → Int32 × fk_M) (r x1 x2 x3 : Int32) : fX6_serve_c3 kont y r x1 x2 x3 = kont y x1 x2 (x3 + 1) := by
  have e : ∀ s, fX6_serve_49 kont y x1 x2 x3 s = kont y x1 x2 (x3 + 1) := fun s => by
    unfold fX6_serve_49 fX6_serve_107 fX6_serve_198
    rw [if_pos (m_has0 h), if_pos (m_has0 h)]
  unfold fX6_serve_c3 fX6_serve_44
  rw [e, e, ite_self, ite_self]
theorem sv_read {y : fk_M} (h : ¬ y.1 16 &&& 2 = 0) (hl : y.1 17 = 2 ∨ y.1 17 = 4) (kont : fk_M → Int32 → Int32 → Int32 → Int32 × fk_M) (r x1 x2 x3 : Int32) : fX6_serve_c3 kont y r x1 x2 x3 = kont (if 200 ≤ y.1 29 then fX6_drop y 2 else (upd (fX6_drop y 2).1 29 ((y.1 29) + 1), y.2.1, y.2.2.1, upd y.2.2.2 (y.1 29).toNatClampNeg (y.1 15))) x1 (x2 + 1) (x3 + 1) := by
  have e : fX6_serve_c3 kont y r x1 x2 x3 = fX6_serve_44 kont y x1 x2 x3 := by
    unfold fX6_serve_c3
    rcases hl with q | q
    · rw [if_pos q]
    · rw [if_neg (show ¬ y.1 17 = 2 from by rw [q]; decide), if_pos q]
  rw [e]
  unfold fX6_serve_44 fX6_serve_49
  rw [if_neg (m_has1 h), if_neg (show ¬ (1 : Int32) = 0 from by decide)]
  show fX6_serve_c2 kont (fX6_drop y 2) (y.1 15) x1 x2 x3 = _
  unfold fX6_serve_c2 fX6_serve_101 fX6_serve_198
  by_cases c : 200 ≤ y.1 29
  · rw [if_pos c, if_pos (show 200 ≤ (fX6_drop y 2).1 29 from c)]
  · rw [if_neg c, if_neg (show ¬ 200 ≤ (fX6_drop y 2).1 29 from c)]
    rfl
theorem sv_131 {y : fk_M} (h : ¬ y.1 16 &&& 2 = 0) (hl : y.1 17 = 3 ∨ y.1 17 = 5) (kont : fk_M → Int32 → Int32 → Int32 → Int32 × fk_M) (r x1 x2 x3 : Int32) : fX6_serve_c3 kont y r x1 x2 x3 = fX6_serve_131 kont y x1 x2 x3 := by
  unfold fX6_serve_c3 fX6_serve_49 fX6_serve_107
  rcases hl with q | q
  · rw [if_neg (show ¬ y.1 17 = 2 from by rw [q]; decide), if_neg (show ¬ y.1 17 = 4 from by rw [q]; decide), if_neg (m_has1 h), if_pos rfl, if_neg (m_has1 h), if_pos q]
  · rw [if_neg (show ¬ y.1 17 = 2 from by rw [q]; decide), if_neg (show ¬ y.1 17 = 4 from by rw [q]; decide), if_neg (m_has1 h), if_pos rfl, if_neg (m_has1 h), if_neg (show ¬ y.1 17 = 3 from by rw [q]; decide), if_pos q]
theorem sv_w0 {y : fk_M} (h : y.1 29 ≤ y.1 30) (kont : fk_M → Int32 → Int32 → Int32 → Int32 × fk_M) (x1 x2 x3 : Int32) : fX6_serve_131 kont y x1 x2 x3 = kont (upd (fX6_drop (upd y.1 15 0, y.2) 2).1 30 (y.1 30), y.2) x1 (x2 + 1) (x3 + 1) := by
  unfold fX6_serve_131 fX6_serve_147 fX6_serve_168 fX6_serve_c1 fX6_serve_192 fX6_serve_198
  rw [if_pos h, if_pos rfl, if_pos rfl, m_give sB_0]
  rfl
theorem sv_w1 {y : fk_M} (h : ¬ y.1 29 ≤ y.1 30) (hb : sB (y.2.2.2 (y.1 30).toNatClampNeg)) (kont : fk_M → Int32 → Int32 → Int32 → Int32 × fk_M) (x1 x2 x3 : Int32) : fX6_serve_131 kont y x1 x2 x3 = kont (upd (fX6_drop (upd y.1 15 (y.2.2.2 (y.1 30).toNatClampNeg), y.2) 2).1 30 (y.1 30 + 1), y.2) x1 (x2 + 1) (x3 + 1) := by
  unfold fX6_serve_131 fX6_serve_147 fX6_serve_168 fX6_serve_c1 fX6_serve_192 fX6_serve_198
  rw [if_neg h, if_neg (show ¬ (1 : Int32) = 0 from by decide), if_neg (show ¬ (1 : Int32) = 0 from by decide), m_give hb]
  rfl
theorem fR_next {T : Nat} {z : fk_C} {y : fk_M} (h : fR T z y) {x x' : Int32} (e : x = x') (hI' : mI (upd y.1 30 x', y.2)) : fR T (upd z.1 34 x, z.2) (upd y.1 30 x', y.2) := by
  obtain ⟨⟨hI, ⟨a0, a1, a2, a3, a4, a5, a7, a16, a17, a18, a19, a20, a21, a22, a25, a33, a34⟩, hbf, hby, hda, hD, hF, hP, hS, hT, hW, hQ⟩, hC⟩ := h
  exact ⟨⟨hI', ⟨a0, a1, a2, a3, a4, a5, a7, a16, a17, a18, a19, a20, a21, a22, a25, a33, e⟩, hbf, hby, hda, hD, hF, hP, hS, hT, hW, hQ⟩, hC⟩
theorem sv_one {T : Nat} {z : fk_C} {y : fk_M} (h : fR T z y) (hd : ¬ y.1 16 &&& 2 = 0) : ∃ Y : fk_M, (∀ (kont : fk_M → Int32 → Int32 → Int32 → Int32 × fk_M) (r x1 x2 x3 : Int32), fX6_serve_c3 kont y r x1 x2 x3 = kont Y x1 (x2 + 1) (x3 + 1)) ∧ fR T (fX5_serveOneByte z) Y := by
  have hR := h
  obtain ⟨⟨hI, ⟨a0, a1, a2, a3, a4, a5, a7, a16, a17, a18, a19, a20, a21, a22, a25, a33, a34⟩, hbf, hby, hda, hD, hF, hP, hS, hT, hW, hQ⟩, hC⟩ := h
  have hl : z.1 21 = 2 ∨ z.1 21 = 3 ∨ z.1 21 = 4 ∨ z.1 21 = 5 := hQ.2.resolve_left (by rw [a17]; exact hd)
  have rd : z.1 21 = 2 ∨ z.1 21 = 4 → ∃ Y : fk_M, (∀ (kont : fk_M → Int32 → Int32 → Int32 → Int32 × fk_M) (r x1 x2 x3 : Int32), fX6_serve_c3 kont y r x1 x2 x3 = kont Y x1 (x2 + 1) (x3 + 1)) ∧ fR T (fX5_serveOneByte z) Y := by
    intro hl
    refine ⟨_, sv_read hd (by rw [← a21]; exact hl), ?_⟩
    have ec : fX5_serveOneByte z = fX3_append (upd z.1 17 ((z.1 17) &&& (-3)), z.2) (z.1 20) := by
      unfold fX5_serveOneByte fX5_serveOneByte_c1 fX5_serveOneByte_c3
      rcases hl with q | q
      · rw [if_pos q]
        rfl
      · rw [if_neg (show ¬ z.1 21 = 2 from by rw [q]; decide), if_pos q]
        rfl
    rw [ec]
    have hh := fR_hand hR
    by_cases c : 200 ≤ y.1 29
    · rw [if_pos c, c_full (z := (upd z.1 17 ((z.1 17) &&& (-3)), z.2)) (show 200 ≤ z.1 33 from by rw [a33]; exact c)]
      exact hh
    · rw [if_neg c, a20]
      exact fR_app hh c (by rw [← a20]; exact hda)
  have wr : z.1 21 = 3 ∨ z.1 21 = 5 → ∃ Y : fk_M, (∀ (kont : fk_M → Int32 → Int32 → Int32 → Int32 × fk_M) (r x1 x2 x3 : Int32), fX6_serve_c3 kont y r x1 x2 x3 = kont Y x1 (x2 + 1) (x3 + 1)) ∧ fR T (fX5_serveOneByte z) Y := by
    intro hl
    have hlm : y.1 17 = 3 ∨ y.1 17 = 5 := by rw [← a21]; exact hl
    have ec : fX5_serveOneByte z = fX0_acceptData (fX3_nextByte z).2 (fX3_nextByte z).1 := by
      unfold fX5_serveOneByte fX5_serveOneByte_c2
      rcases hl with q | q
      · rw [if_neg (show ¬ z.1 21 = 2 from by rw [q]; decide), if_neg (show ¬ z.1 21 = 4 from by rw [q]; decide)]
      · rw [if_neg (show ¬ z.1 21 = 2 from by rw [q]; decide), if_neg (show ¬ z.1 21 = 4 from by rw [q]; decide)]
    obtain ⟨-, -, -, -, B, m, hB, hm, eB, em⟩ := hI
    have e34 : z.1 34 = nI m := a34.trans em
    have e33 : z.1 33 = nI B := a33.trans eB
    by_cases c : y.1 29 ≤ y.1 30
    · refine ⟨_, fun kont r x1 x2 x3 => (sv_131 hd hlm kont r x1 x2 x3).trans (sv_w0 c kont x1 x2 x3), ?_⟩
      have en : fX3_nextByte z = (0, z) := by
        unfold fX3_nextByte fX3_byteAt
        rw [a33, a34, if_pos c, ite_self, if_pos rfl]
      rw [ec, en]
      have h2 := fR_acc hR sB_0
      have h3 := fR_next h2 (x := z.1 34) (x' := y.1 30) a34 (mI_of ⟨rfl, rfl, rfl, rfl, rfl, rfl, rfl⟩ hR.1.1)
      rw [show upd (fX0_acceptData z 0).1 34 (z.1 34) = (fX0_acceptData z 0).1 from upd_self (fX0_acceptData z 0).1 34] at h3
      exact h3
    · refine ⟨_, fun kont r x1 x2 x3 => (sv_131 hd hlm kont r x1 x2 x3).trans (sv_w1 c (by rw [← hbf]; exact hby _) kont x1 x2 x3), ?_⟩
      have hlt : y.1 30 < y.1 29 := Int32.not_le.mp c
      have hmB : m < B := by
        rw [eB, em] at hlt
        exact (nI_ltI (by omega) (by omega)).mp hlt
      have en : fX3_nextByte z = (z.2.2 (z.1 34).toNatClampNeg, (upd z.1 34 ((z.1 34) + 1), z.2)) := by
        have eb : fX3_byteAt z (z.1 34) = z.2.2 (z.1 34).toNatClampNeg := by
          unfold fX3_byteAt
          rw [if_neg (show ¬ z.1 34 < 0 from by rw [e34]; exact nI_pos (by omega)), if_neg (show ¬ z.1 33 ≤ z.1 34 from by rw [a33, a34]; exact c), if_pos (show z.1 34 < 200 from by rw [e34]; exact nI_lt (b := 200) (by omega) (by decide))]
        unfold fX3_nextByte
        rw [eb, if_neg (sB_le (hby _)).2.2]
      rw [ec, en]
      have h1 := fR_next hR (x := z.1 34 + 1) (x' := y.1 30 + 1) (by rw [a34]) (mI_nx1 hR.1.1 hlt)
      have h2 := fR_acc h1 (v := z.2.2 (z.1 34).toNatClampNeg) (hby _)
      have e4 : (upd (fX6_drop (upd y.1 15 (y.2.2.2 (y.1 30).toNatClampNeg), y.2) 2).1 30 (y.1 30 + 1), y.2) = fX6_drop (upd (upd y.1 30 (y.1 30 + 1), y.2).1 15 (z.2.2 (z.1 34).toNatClampNeg), (upd y.1 30 (y.1 30 + 1), y.2).2) 2 := by
        rw [hbf, a34]
        show (upd (upd (upd y.1 15 _) 16 (y.1 16 &&& (2 ^^^ (-1)))) 30 _, y.2) = (upd (upd (upd y.1 30 _) 15 _) 16 (y.1 16 &&& (2 ^^^ (-1))), y.2)
        rw [upd_comm (upd y.1 15 _) (show 16 ≠ 30 by decide), upd_comm y.1 (show 15 ≠ 30 by decide)]
      rw [e4]
      exact h2
  rcases hl with q | q | q | q
  · exact rd (Or.inl q)
  · exact wr (Or.inl q)
  · exact rd (Or.inr q)
  · exact wr (Or.inr q)
theorem serve_both {N : Nat} {a : Int32} (ha : a = nI N) (hN : N ≤ 200) : ∀ (n j T U : Nat) (z : fk_C) (y : fk_M) (x : Int32), fR T z y → T + (N - j) ≤ U → U < 2 ^ 30 → j ≤ N → N + 1 ≤ j + n → (fX5_serve_17 n z a x (nI j)).1 = (fX6_serve_17 n y a x (nI j)).1 ∧ fR U (fX5_serve_17 n z a x (nI j)).2 (fX6_serve_17 n y a x (nI j)).2 := by
  intro n
  induction n with
  | zero => intro j T U z y x h h0 h1 h2 h3; omega
  | succ n ih =>
    intro j T U z y x h h0 h1 h2 h3
    rw [fX5_serve_17, fX6_serve_17]
    by_cases c : j = N
    · rw [if_pos (show a ≤ nI j from by rw [ha, c]; exact nI_le (Nat.le_refl _) (by omega)), if_pos (show a ≤ nI j from by rw [ha, c]; exact nI_le (Nat.le_refl _) (by omega))]
      exact ⟨rfl, fR_le (by omega) h⟩
    · have nj : ¬ a ≤ nI j := by rw [ha]; exact nI_ge (by omega) (by omega)
      rw [if_neg nj, if_neg nj]
      obtain ⟨-, p2, -⟩ := fR_pass (by omega) h
      have a17 := p2.1.2.1.2.2.2.2.2.2.2.2.1
      generalize (fX0_passByteTime z).2 = Z at p2 a17 ⊢
      generalize (fX6_pass y).2 = Y at p2 a17 ⊢
      generalize (fX0_passByteTime z).1 = r
      generalize (fX6_pass y).1 = r'
      unfold fX5_serve_c1 fX5_serve_48 fX5_serve_c2
      by_cases d : Y.1 16 &&& 2 = 0
      · rw [if_pos (c_has0 (z := Z) (show Z.1 17 &&& 2 = 0 from by rw [a17]; exact d)), sv_none d, nI_1]
        exact ih (j + 1) (T + 1) U _ _ x p2 (by omega) h1 (by omega) (by omega)
      · obtain ⟨Y2, e2, h4⟩ := sv_one p2 d
        rw [if_neg (c_has1 (z := Z) (show ¬ Z.1 17 &&& 2 = 0 from by rw [a17]; exact d)), e2]
        unfold fX5_serve_48
        rw [nI_1]
        exact ih (j + 1) (T + 1) U _ _ (x + 1) h4 (by omega) h1 (by omega) (by omega)
theorem fR_serve {T : Nat} {z : fk_C} {y : fk_M} (h : fR T z y) (hT : T < 100000) (a : Int32) : (fX5_serve z a).1 = (fX6_serve y a).1 ∧ fR (T + 200) (fX5_serve z a).2 (fX6_serve y a).2 := by
  unfold fX5_serve fX6_serve
  by_cases c1 : a < 0
  · rw [if_pos c1, if_pos c1]
    exact ⟨rfl, fR_up h⟩
  rw [if_neg c1, if_neg c1]
  by_cases c2 : a ≤ 200
  · rw [if_pos c2, if_pos c2]
    obtain ⟨N, hN, rfl⟩ := i_le (N := 200) (by decide) c1 (Int32.not_lt.mpr c2)
    exact serve_both rfl hN 201 0 T (T + 200) z y 0 h (by omega) (by omega) (Nat.zero_le _) (by omega)
  · rw [if_neg c2, if_neg c2]
    exact ⟨rfl, fR_up h⟩
