theorem mE_give (z : fk_M) (a : Int32) : mE z (fX6_give z a).2 := by
  unfold fX6_give fX6_give_c1
  split
  · exact mE.rf z
  · split
    · exact ⟨rfl, rfl, rfl, rfl, rfl, rfl, rfl⟩
    · exact mE.rf z
theorem mE_give' {z w : fk_M} {r a : Int32} (h : (r, w) = fX6_give z a) : mE z w := by
  have h1 := mE_give z a
  rw [← h] at h1
  exact h1
theorem mE_take' {z w : fk_M} {r : Int32} (h : (r, w) = fX6_take z) : mE z w := by
  have h1 : mE z (fX6_take z).2 := ⟨rfl, rfl, rfl, rfl, rfl, rfl, rfl⟩
  rw [← h] at h1
  exact h1
theorem mI_pass' {z w : fk_M} {r : Int32} (h : (r, w) = fX6_pass z) (hI : mI z) : mI w := by
  have h1 := mI_pass hI
  rw [← h] at h1
  exact h1
theorem mI_nx0 {z : fk_M} (hI : mI z) : mI (upd z.1 30 (z.1 30), z.2) := mI_of ⟨rfl, rfl, rfl, rfl, rfl, rfl, rfl⟩ hI
theorem mI_lt {z : fk_M} (hI : mI z) (h : z.1 30 < z.1 29) : ∃ b n : Nat, b ≤ 200 ∧ n < b ∧ z.1 29 = nI b ∧ z.1 30 = nI n := by
  obtain ⟨-, -, -, -, b, n, hb, hn, e1, e2⟩ := hI
  rw [e1, e2, nI_ltI (by omega) (by omega)] at h
  exact ⟨b, n, hb, h, e1, e2⟩
theorem mI_nx1 {z : fk_M} (hI : mI z) (h : z.1 30 < z.1 29) : mI (upd z.1 30 (z.1 30 + 1), z.2) := by
  obtain ⟨b, n, hb, hn, e1, e2⟩ := mI_lt hI h
  obtain ⟨h1, h2, h3, h4, -⟩ := hI
  exact ⟨h1, h2, h3, h4, b, n + 1, hb, hn, e1, fk_up1 e2⟩
theorem mI_nxin {z : fk_M} (hI : mI z) (h : z.1 30 < z.1 29) : vp_in (z.1 30) 200 := by
  obtain ⟨b, n, hb, hn, e1, e2⟩ := mI_lt hI h
  rw [e2]
  exact vp_in_nI (by omega) (by decide)
theorem mI_bflt {z : fk_M} (hI : mI z) (h : ¬ 200 ≤ z.1 29) : ∃ b n : Nat, b < 200 ∧ n ≤ b ∧ z.1 29 = nI b ∧ z.1 30 = nI n := by
  obtain ⟨-, -, -, -, b, n, hb, hn, e1, e2⟩ := hI
  refine ⟨b, n, ?_, hn, e1, e2⟩
  rcases Nat.lt_or_ge b 200 with q | q
  · exact q
  · exact absurd (by rw [e1]; exact (nI_leI (a := 200) (by decide) (by omega)).mpr q) h
theorem mI_bfin {z : fk_M} (hI : mI z) (h : ¬ 200 ≤ z.1 29) : vp_in (z.1 29) 200 := by
  obtain ⟨b, n, hb, hn, e1, e2⟩ := mI_bflt hI h
  rw [e1]
  exact vp_in_nI hb (by decide)
theorem mI_bf1 {z : fk_M} {g : Nat → Int32} (hI : mI z) (h : ¬ 200 ≤ z.1 29) : mI (upd z.1 29 (z.1 29 + 1), z.2.1, z.2.2.1, g) := by
  obtain ⟨b, n, hb, hn, e1, e2⟩ := mI_bflt hI h
  obtain ⟨h1, h2, h3, h4, -⟩ := hI
  exact ⟨h1, h2, h3, h4, b + 1, n, hb, by omega, fk_up1 e1, e2⟩
theorem mI_fillB {z : fk_M} {a : Int32} {N : Nat} (hI : mI z) (ha : a = nI N) (hN : N ≤ 100) (h : z.1 29 + a ≤ 200) : ∃ B : Nat, z.1 29 = nI (B + 0) ∧ B + N ≤ 200 := by
  obtain ⟨-, -, -, -, b, n, hb, hn, e1, e2⟩ := hI
  refine ⟨b, e1, ?_⟩
  rw [e1, ha, nI_add] at h
  exact (nI_leI (a := b + N) (b := 200) (by omega) (by decide)).mp h
theorem mI_bufin {z : fk_M} {a : Int32} (hI : mI z) (h1 : ¬ a < 0) (h : a < z.1 29) : vp_in a 200 := by
  obtain ⟨-, -, -, -, b, n, hb, hn, e1, e2⟩ := hI
  rw [e1] at h
  obtain ⟨j, hj, rfl⟩ := fk_of (by omega) h1 h
  exact vp_in_nI (by omega) (by decide)
