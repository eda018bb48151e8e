/-! numbers in range -/
theorem fk_of {x : Int32} {N : Nat} (hN : N < 2 ^ 31) (h : ¬ x < 0) (h2 : x < nI N) : ∃ j : Nat, j < N ∧ x = nI j := by
  obtain ⟨j, hj, rfl⟩ := nI_of h
  exact ⟨j, (nI_ltI hj hN).mp h2, rfl⟩
theorem fk_of' {x : Int32} {N : Nat} (hN : N < 2 ^ 31) (h : ¬ x < 0) (h2 : ¬ nI N ≤ x) : ∃ j : Nat, j < N ∧ x = nI j := by
  obtain ⟨j, hj, rfl⟩ := nI_of h
  refine ⟨j, ?_, rfl⟩
  rcases Nat.lt_or_ge j N with q | q
  · exact q
  · exact absurd ((nI_leI hN hj).mpr q) h2
theorem fk_in1 {a b : Int32} (h1 : ¬ a < 0) (h2 : ¬ 4 ≤ a) (h3 : ¬ b < 0) (h4 : b < 150) : vp_in (a * 150 + b) 600 := by
  obtain ⟨i, hi, rfl⟩ := fk_of' (N := 4) (by decide) h1 h2
  obtain ⟨j, hj, rfl⟩ := fk_of (N := 150) (by decide) h3 h4
  rw [show (150 : Int32) = nI 150 from by decide, pk_mul, nI_add]
  exact vp_in_nI (by omega) (by decide)
theorem fk_shr4 {n : Nat} (h : n < 2 ^ 31) : nI n >>> ((4 : Int32) &&& 31) = nI (n / 16) := pk_shrN h _ 4 (by decide)
theorem fk_in2 {a b : Int32} (h1 : ¬ a < 0) (h2 : ¬ 4 ≤ a) (h3 : ¬ b < 0) (h4 : b < 2400) : vp_in (a * 150 + (b >>> ((4 : Int32) &&& 31))) 600 := by
  obtain ⟨i, hi, rfl⟩ := fk_of' (N := 4) (by decide) h1 h2
  obtain ⟨j, hj, rfl⟩ := fk_of (N := 2400) (by decide) h3 h4
  rw [show (150 : Int32) = nI 150 from by decide, pk_mul, fk_shr4 (by omega), nI_add]
  exact vp_in_nI (by omega) (by decide)
theorem fk_in3 {x : Int32} (h1 : ¬ x < 0) (h2 : ¬ 200 ≤ x) : vp_in x 200 := by
  obtain ⟨i, hi, rfl⟩ := fk_of' (N := 200) (by decide) h1 h2
  exact vp_in_nI hi (by decide)
theorem fk_in4 {x : Int32} (h1 : ¬ x < 0) (h2 : x < 200) : vp_in x 200 := by
  obtain ⟨i, hi, rfl⟩ := fk_of (N := 200) (by decide) h1 h2
  exact vp_in_nI hi (by decide)
theorem fk_cnt {x : Int32} (h1 : ¬ x < 1) (h2 : ¬ 100 < x) : ∃ N : Nat, N ≤ 100 ∧ x = nI N := by
  have h0 : ¬ x < 0 := by
    intro h
    apply h1
    rw [Int32.lt_iff_toInt_lt] at h ⊢
    have e0 : (0 : Int32).toInt = 0 := by decide
    have e1 : (1 : Int32).toInt = 1 := by decide
    omega
  obtain ⟨j, hj, rfl⟩ := nI_of h0
  refine ⟨j, ?_, rfl⟩
  rcases Nat.lt_or_ge 100 j with q | q
  · exact absurd ((nI_ltI (a := 100) (b := j) (by decide) hj).mpr q) h2
  · exact q
