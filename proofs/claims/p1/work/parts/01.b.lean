abbrev fk_C : Type := (Nat → Int32) × (Nat → Int32) × (Nat → Int32)
/-- the reference's numbers, cells, field's bytes, buffer's bytes -/
abbrev fk_M : Type := (Nat → Int32) × (Nat → Int32) × (Nat → Int32) × (Nat → Int32)
/-- a counter that goes up -/
theorem fk_up {N j : Nat} {x M : Int32} (hx : x = nI j) (hM : M = nI N) (hj : j < 2 ^ 31) (h : ¬ M ≤ x) : j < N := by
  rcases Nat.lt_or_ge j N with q | q
  · exact q
  · exact absurd (by rw [hx, hM]; exact nI_le q hj) h
theorem fk_up1 {j : Nat} {x : Int32} (hx : x = nI j) : x + 1 = nI (j + 1) := by rw [hx]; exact nI_1 j
/-- a counter that goes down -/
theorem fk_dn {j : Nat} {x : Int32} (hx : x = nI j - 1) (h : ¬ x < 0) : ∃ i, j = i + 1 ∧ x = nI i := by
  cases j with
  | zero => exact absurd (by rw [hx]; decide) h
  | succ i => exact ⟨i, rfl, by rw [hx]; exact nI_pred i⟩
theorem fk_dn1 {j : Nat} {x : Int32} (hx : x = nI j) : x + (-1) = nI j - 1 := by rw [hx]; exact (Int32.sub_eq_add_neg _ _).symm
/-! numbers in range -/
theorem fk_of {x : Int32} {N : Nat} (hN : N < 2 ^ 31) (h : ¬ x < 0) (h2 : x < nI N) : ∃ j : Nat, j < N ∧ x = nI j := by
  obtain ⟨j, hj, rfl⟩ := nI_of h
  exact ⟨j, (nI_ltI hj hN).mp h2, rfl⟩
theorem fk_of' {x : Int32} {N : Nat} (hN : N < 2 ^ 31) (h : ¬ x < 0) (h2 : ¬ nI N ≤ x) : ∃ j : Nat, j < N ∧ x = nI j := by
  obtain ⟨j, hj, rfl⟩ := nI_of h
  refine ⟨j, ?_, rfl⟩
  rcases Nat.lt_or_ge j N with q | q
  · exact q
  · exact absurd ((nI_leI hN hj).mpr q) h2
theorem fk_in1 {a b : Int32} (h1 : ¬ a < 0) (h2 : ¬ 4 ≤ a) (h3 : ¬ b < 0) (h4 : b < 150) : vp_in (a * 150 + b) 600 := by
  obtain ⟨i, hi, rfl⟩ := fk_of' (N := 4) (by decide) h1 h2
  obtain ⟨j, hj, rfl⟩ := fk_of (N := 150) (by decide) h3 h4
  rw [show (150 : Int32) = nI 150 from by decide, pk_mul, nI_add]
  exact vp_in_nI (by omega) (by decide)
theorem fk_shr4 {n : Nat} (h : n < 2 ^ 31) : nI n >>> ((4 : Int32) &&& 31) = nI (n / 16) := pk_shrN h _ 4 (by decide)
theorem fk_in2 {a b : Int32} (h1 : ¬ a < 0) (h2 : ¬ 4 ≤ a) (h3 : ¬ b < 0) (h4 : b < 2400) : vp_in (a * 150 + (b >>> ((4 : Int32) &&& 31))) 600 := by
  obtain ⟨i, hi, rfl⟩ := fk_of' (N := 4) (by decide) h1 h2
  obtain ⟨j, hj, rfl⟩ := fk_of (N := 2400) (by decide) h3 h4
  rw [show (150 : Int32) = nI 150 from by decide, pk_mul, fk_shr4 (by omega), nI_add]
  exact vp_in_nI (by omega) (by decide)
theorem fk_in3 {x : Int32} (h1 : ¬ x < 0) (h2 : ¬ 200 ≤ x) : vp_in x 200 := by
  obtain ⟨i, hi, rfl⟩ := fk_of' (N := 200) (by decide) h1 h2
  exact vp_in_nI hi (by decide)
theorem fk_in4 {x : Int32} (h1 : ¬ x < 0) (h2 : x < 200) : vp_in x 200 := by
  obtain ⟨i, hi, rfl⟩ := fk_of (N := 200) (by decide) h1 h2
  exact vp_in_nI hi (by decide)
theorem fk_cnt {x : Int32} (h1 : ¬ x < 1) (h2 : ¬ 100 < x) : ∃ N : Nat, N ≤ 100 ∧ x = nI N := by
  have h0 : ¬ x < 0 := by
    intro h
    apply h1
    rw [Int32.lt_iff_toInt_lt] at h ⊢
    have e0 : (0 : Int32).toInt = 0 := by decide
    have e1 : (1 : Int32).toInt = 1 := by decide
    omega
  obtain ⟨j, hj, rfl⟩ := nI_of h0
  refine ⟨j, ?_, rfl⟩
  rcases Nat.lt_or_ge 100 j with q | q
  · exact absurd ((nI_ltI (a := 100) (b := j) (by decide) hj).mpr q) h2
  · exact q
def fk_c0 : fk_C := (fun i => if i = 16 then 16 else if i = 21 then (-1) else 0, fun _ => 0, fun _ => 0)
def fk_m0 : fk_M := (fun i => if i = 12 then 16 else if i = 17 then (-1) else 0, fun _ => 0, fun _ => 0, fun _ => 0)
def fX0_has (z0 : fk_C) (a1 : Int32) : Int32 :=
  (if ((z0.1 17) &&& a1) = 0 then 0 else 1)
def fX0_acceptData (z0 : fk_C) (a1 : Int32) : fk_C :=
  (upd (upd z0.1 20 a1) 17 ((z0.1 17) &&& (-3)), z0.2)
def fX0_handOutData (z0 : fk_C) : Int32 × fk_C :=
  (z0.1 20, (upd z0.1 17 ((z0.1 17) &&& (-3)), z0.2))
def fX2_reset (z0 : fk_C) : fk_C :=
  (upd (upd (upd z0.1 4 0) 5 0) 7 0, z0.2)
def fX2_forgetDataSize (z0 : fk_C) : fk_C :=
  (upd z0.1 16 16, z0.2)
def fX2_forgetWindow (z0 : fk_C) : fk_C :=
  (upd z0.1 3 0, z0.2)
def fX0_end_c1 (z : fk_C) : fk_C :=
  (upd z.1 23 0, z.2)
def fX0_end (z0 : fk_C) : fk_C :=
  (if (z0.1 23) = 6 then fX0_end_c1 (fX2_forgetWindow (upd z0.1 17 ((z0.1 17) &&& (-4)), z0.2)) else (upd (upd z0.1 17 ((z0.1 17) &&& (-4))) 23 0, z0.2))
def fX0_endWith (z0 : fk_C) (a1 : Int32) : fk_C :=
  fX0_end (upd z0.1 17 ((z0.1 17) ||| a1), z0.2)
def fX0_begin_103 (z : fk_C) (x1 : Int32) : Int32 × fk_C :=
  (if x1 = 5 then (1, (upd (upd z.1 17 ((z.1 17) ||| 2)) 23 7, z.2)) else (if x1 = 0 then (1, (upd z.1 23 1, z.2)) else (if x1 = 1 then (1, (upd z.1 23 1, z.2)) else (1, (upd z.1 23 2, z.2)))))
def fX0_begin_c1 (z : fk_C) : Int32 × fk_C :=
  (1, z)
def fX0_begin_84 (z : fk_C) (x1 : Int32) : Int32 × fk_C :=
  (if (z.1 0) = 0 then fX0_begin_103 z x1 else fX0_begin_c1 (fX0_endWith z 64))
def fX0_begin_74 (z : fk_C) (x1 : Int32) : Int32 × fk_C :=
  (if x1 = 3 then fX0_begin_84 z x1 else (if x1 = 5 then fX0_begin_84 z x1 else fX0_begin_103 z x1))
def fX0_begin_c3 (z : fk_C) (a1 : Int32) : Int32 × fk_C :=
  (if a1 = 0 then fX0_begin_74 (upd (upd z.1 18 255) 20 0, z.2) a1 else fX0_begin_74 z a1)
def fX0_begin_c2 (z : fk_C) (a1 : Int32) : Int32 × fk_C :=
  fX0_begin_c3 (fX2_forgetDataSize z) a1
def fX0_begin (z0 : fk_C) (a1 : Int32) (a2 : Int32) : Int32 × fk_C :=
  (if a1 < 0 then (0, z0) else (if 5 < a1 then (0, z0) else (if (fX0_has z0 1) = 0 then fX0_begin_c2 (fX2_reset (upd (upd (upd (upd (upd z0.1 21 a1) 22 a2) 17 1) 24 0) 25 0, z0.2)) a1 else (0, z0))))
def fX4_putWord (z0 : fk_C) (a1 : Int32) : fk_C :=
  (upd (upd (upd z0.1 26 a1) 27 16) 30 ((z0.1 30) + 1), z0.2)
def fX4_putUnchecked (z0 : fk_C) (a1 : Int32) : fk_C :=
  fX4_putWord (upd (upd (upd (upd (upd (upd (upd (upd (upd z0.1 28 ((a1 >>> ((7 : Int32) &&& 31)) &&& 1)) 28 ((a1 >>> ((6 : Int32) &&& 31)) &&& 1)) 28 ((a1 >>> ((5 : Int32) &&& 31)) &&& 1)) 28 ((a1 >>> ((4 : Int32) &&& 31)) &&& 1)) 28 ((a1 >>> ((3 : Int32) &&& 31)) &&& 1)) 28 ((a1 >>> ((2 : Int32) &&& 31)) &&& 1)) 28 ((a1 >>> ((1 : Int32) &&& 31)) &&& 1)) 28 ((a1 >>> ((0 : Int32) &&& 31)) &&& 1)) 31 0, z0.2) ((((((((((((((((((((((((0 <<< ((2 : Int32) &&& 31)) ||| ((((z0.1 28) ||| ((a1 >>> ((7 : Int32) &&& 31)) &&& 1)) ^^^ 1) <<< ((1 : Int32) &&& 31))) ||| ((a1 >>> ((7 : Int32) &&& 31)) &&& 1)) <<< ((2 : Int32) &&& 31)) ||| (((((a1 >>> ((7 : Int32) &&& 31)) &&& 1) ||| ((a1 >>> ((6 : Int32) &&& 31)) &&& 1)) ^^^ 1) <<< ((1 : Int32) &&& 31))) ||| ((a1 >>> ((6 : Int32) &&& 31)) &&& 1)) <<< ((2 : Int32) &&& 31)) ||| (((((a1 >>> ((6 : Int32) &&& 31)) &&& 1) ||| ((a1 >>> ((5 : Int32) &&& 31)) &&& 1)) ^^^ 1) <<< ((1 : Int32) &&& 31))) ||| ((a1 >>> ((5 : Int32) &&& 31)) &&& 1)) <<< ((2 : Int32) &&& 31)) ||| (((((a1 >>> ((5 : Int32) &&& 31)) &&& 1) ||| ((a1 >>> ((4 : Int32) &&& 31)) &&& 1)) ^^^ 1) <<< ((1 : Int32) &&& 31))) ||| ((a1 >>> ((4 : Int32) &&& 31)) &&& 1)) <<< ((2 : Int32) &&& 31)) ||| (((((a1 >>> ((4 : Int32) &&& 31)) &&& 1) ||| ((a1 >>> ((3 : Int32) &&& 31)) &&& 1)) ^^^ 1) <<< ((1 : Int32) &&& 31))) ||| ((a1 >>> ((3 : Int32) &&& 31)) &&& 1)) <<< ((2 : Int32) &&& 31)) ||| (((((a1 >>> ((3 : Int32) &&& 31)) &&& 1) ||| ((a1 >>> ((2 : Int32) &&& 31)) &&& 1)) ^^^ 1) <<< ((1 : Int32) &&& 31))) ||| ((a1 >>> ((2 : Int32) &&& 31)) &&& 1)) <<< ((2 : Int32) &&& 31)) ||| (((((a1 >>> ((2 : Int32) &&& 31)) &&& 1) ||| ((a1 >>> ((1 : Int32) &&& 31)) &&& 1)) ^^^ 1) <<< ((1 : Int32) &&& 31))) ||| ((a1 >>> ((1 : Int32) &&& 31)) &&& 1)) <<< ((2 : Int32) &&& 31)) ||| (((((a1 >>> ((1 : Int32) &&& 31)) &&& 1) ||| ((a1 >>> ((0 : Int32) &&& 31)) &&& 1)) ^^^ 1) <<< ((1 : Int32) &&& 31))) ||| ((a1 >>> ((0 : Int32) &&& 31)) &&& 1))
def fX4_putHalfOfCheck_25 (z : fk_C) (s0 : Int32) : fk_C :=
  (if (z.1 32) = 0 then fX4_putUnchecked (upd z.1 32 1, z.2) s0 else fX4_putUnchecked (upd z.1 32 0, z.2) s0)
def fX4_putHalfOfCheck (z0 : fk_C) : fk_C :=
  (if (z0.1 32) = 0 then fX4_putHalfOfCheck_25 z0 ((z0.1 29) >>> ((8 : Int32) &&& 31)) else fX4_putHalfOfCheck_25 z0 ((z0.1 29) &&& 255))
def fX0_askForByte (z0 : fk_C) : Int32 × fk_C :=
  (if (fX0_has z0 2) = 0 then (z0.1 20, z0) else (0, (upd z0.1 17 ((z0.1 17) ||| 4), z0.2)))
def fX5_checkWith_32 (kont : Int32 → Int32 → Int32) (x2 : Int32) (x3 : Int32) : Int32 :=
  kont (x2 &&& 65535) (x3 + 1)
def fX5_checkWith_9 : Nat → Int32 → Int32 → Int32
  | 0, x2, x3 => 0
  | n + 1, x2, x3 =>
  (if 8 ≤ x3 then x2 else (if ((x2 <<< ((1 : Int32) &&& 31)) &&& 65536) = 0 then fX5_checkWith_32 (fX5_checkWith_9 n) (x2 <<< ((1 : Int32) &&& 31)) x3 else fX5_checkWith_32 (fX5_checkWith_9 n) ((x2 <<< ((1 : Int32) &&& 31)) ^^^ 4129) x3))
def fX5_checkWith (a1 : Int32) (a2 : Int32) : Int32 :=
  fX5_checkWith_9 9 (a1 ^^^ (a2 <<< ((8 : Int32) &&& 31))) 0
def fX4_putMark_13 (z : fk_C) : fk_C :=
  fX4_putWord (upd (upd (upd z.1 29 (fX5_checkWith (z.1 29) 161)) 31 1) 28 1, z.2) 17545
def fX4_putMark (z0 : fk_C) : fk_C :=
  (if (z0.1 31) = 0 then fX4_putMark_13 (upd z0.1 29 65535, z0.2) else fX4_putMark_13 z0)
def fX4_putByte (z0 : fk_C) (a1 : Int32) : fk_C :=
  fX4_putUnchecked (upd z0.1 29 (fX5_checkWith (z0.1 29) a1), z0.2) a1
def fX0_putNextOfTrack_c1 (z : fk_C) (r19 : Int32) : fk_C :=
  (if r19 = 245 then fX4_putMark (upd z.1 17 ((z.1 17) ||| 2), z.2) else (if r19 = 247 then fX4_putHalfOfCheck (upd z.1 17 ((z.1 17) ||| 2), z.2) else fX4_putByte (upd z.1 17 ((z.1 17) ||| 2), z.2) r19))
def fX0_putNextOfTrack (z0 : fk_C) : fk_C :=
  (if (z0.1 32) = 0 then fX0_putNextOfTrack_c1 ((fX0_askForByte z0).2) (fX0_askForByte z0).1 else fX4_putHalfOfCheck z0)
def fX0_putNextOfSector_c2 (z : fk_C) (y93_x2 : Int32) (y93_x1 : Int32) : fk_C :=
  (if (y93_x2 - 1) ≤ y93_x1 then z else (upd z.1 17 ((z.1 17) ||| 2), z.2))
def fX0_putNextOfSector_c1 (z : fk_C) (r93 : Int32) (y93_x2 : Int32) (y93_x1 : Int32) : fk_C :=
  fX0_putNextOfSector_c2 (fX4_putByte z r93) y93_x2 y93_x1
def fX0_putNextOfSector (z0 : fk_C) : fk_C :=
  (if 4 ≤ (z0.1 30) then (if 7 ≤ (z0.1 30) then (if 8 ≤ (z0.1 30) then (if (8 + (z0.1 16)) ≤ (z0.1 30) then (if ((8 + (z0.1 16)) + 2) ≤ (z0.1 30) then fX4_putByte z0 78 else fX4_putHalfOfCheck z0) else fX0_putNextOfSector_c1 ((fX0_askForByte z0).2) (fX0_askForByte z0).1 (8 + (z0.1 16)) (z0.1 30)) else (if (z0.1 22) = 0 then fX4_putByte z0 251 else fX4_putByte z0 248)) else fX4_putMark z0) else fX4_putByte z0 0)
def fX4_nextCell (z0 : fk_C) : Int32 × fk_C :=
  (((z0.1 26) >>> ((((z0.1 27) - 1) &&& 15) &&& 31)) &&& 1, (upd z0.1 27 ((z0.1 27) - 1), z0.2))
def fX1_wordAt (z0 : fk_C) (a1 : Int32) (a2 : Int32) : Int32 :=
  (if a1 < 0 then (-1) else (if 4 ≤ a1 then (-1) else (if a2 < 0 then (-1) else (if a2 < 150 then z0.2.1 ((a1 * 150) + a2).toNatClampNeg else (-1)))))
def fX1_cellUnderHead (z0 : fk_C) : Int32 :=
  ((fX1_wordAt z0 (z0.1 1) ((z0.1 2) >>> ((4 : Int32) &&& 31))) >>> ((15 - ((z0.1 2) &&& 15)) &&& 31)) &&& 1
def fX1_turnOver (z0 : fk_C) (a1 : Int32) (a2 : Int32) : Int32 × fk_C :=
  (if a1 < 0 then (0, z0) else (if 4 ≤ a1 then (0, z0) else (if a2 < 0 then (0, z0) else (if a2 < 2400 then (1, (z0.1, upd z0.2.1 ((a1 * 150) + (a2 >>> ((4 : Int32) &&& 31))).toNatClampNeg ((z0.2.1 ((a1 * 150) + (a2 >>> ((4 : Int32) &&& 31))).toNatClampNeg) ^^^ ((32768 : Int32) >>> ((a2 &&& 15) &&& 31))), z0.2.2)) else (0, z0)))))
def fX1_writeUnderHead_c1 (z : fk_C) (r17 : Int32) : fk_C :=
  z
def fX1_writeUnderHead (z0 : fk_C) (a1 : Int32) : fk_C :=
  (if (fX1_cellUnderHead z0) = a1 then z0 else fX1_writeUnderHead_c1 ((fX1_turnOver z0 (z0.1 1) (z0.1 2)).2) (fX1_turnOver z0 (z0.1 1) (z0.1 2)).1)
def fX0_writeOneCell_70 (z : fk_C) (s0 : Int32) : fk_C :=
  (if (z.1 21) = 3 then (if (z.1 27) = 0 then (if s0 = 0 then z else fX0_end z) else z) else z)
def fX0_writeOneCell_c2 (z : fk_C) : fk_C :=
  (if (z.1 30) = ((8 + (z.1 16)) + 3) then fX0_writeOneCell_70 z 1 else fX0_writeOneCell_70 z 0)
def fX0_writeOneCell_c1 (z : fk_C) (r37 : Int32) : fk_C :=
  fX0_writeOneCell_c2 (fX1_writeUnderHead z r37)
def fX0_writeOneCell_29 (z : fk_C) : fk_C :=
  fX0_writeOneCell_c1 ((fX4_nextCell z).2) (fX4_nextCell z).1
def fX0_writeOneCell_c3 (z : fk_C) : fk_C :=
  fX0_writeOneCell_29 z
def fX0_writeOneCell_c4 (z : fk_C) : fk_C :=
  fX0_writeOneCell_29 z
def fX0_writeOneCell (z0 : fk_C) : fk_C :=
  (if (z0.1 27) = 0 then (if (z0.1 21) = 5 then fX0_writeOneCell_c4 (fX0_putNextOfTrack z0) else fX0_writeOneCell_c3 (fX0_putNextOfSector z0)) else fX0_writeOneCell_29 z0)
def fX2_byteInWindow (z0 : fk_C) : Int32 :=
  (((((((((((((((0 <<< ((1 : Int32) &&& 31)) ||| (((z0.1 3) >>> ((14 : Int32) &&& 31)) &&& 1)) <<< ((1 : Int32) &&& 31)) ||| (((z0.1 3) >>> ((12 : Int32) &&& 31)) &&& 1)) <<< ((1 : Int32) &&& 31)) ||| (((z0.1 3) >>> ((10 : Int32) &&& 31)) &&& 1)) <<< ((1 : Int32) &&& 31)) ||| (((z0.1 3) >>> ((8 : Int32) &&& 31)) &&& 1)) <<< ((1 : Int32) &&& 31)) ||| (((z0.1 3) >>> ((6 : Int32) &&& 31)) &&& 1)) <<< ((1 : Int32) &&& 31)) ||| (((z0.1 3) >>> ((4 : Int32) &&& 31)) &&& 1)) <<< ((1 : Int32) &&& 31)) ||| (((z0.1 3) >>> ((2 : Int32) &&& 31)) &&& 1)) <<< ((1 : Int32) &&& 31)) ||| (((z0.1 3) >>> ((0 : Int32) &&& 31)) &&& 1)
def fX2_beginField_109 : Nat → fk_C → Int32 → Int32 × fk_C
  | 0, z, x2 => (0, z)
  | n + 1, z, x2 =>
  (if 3 ≤ x2 then (1, (upd z.1 10 (fX5_checkWith (z.1 10) (z.1 8)), z.2)) else fX2_beginField_109 n (upd z.1 10 (fX5_checkWith (z.1 10) 161), z.2) (x2 + 1))
def fX2_beginField_80 (z : fk_C) : Int32 × fk_C :=
  fX2_beginField_109 4 (upd (upd (upd (upd z.1 11 (z.1 7)) 8 (z.1 12)) 9 0) 10 65535, z.2) 0
def fX2_beginField_65 (z : fk_C) : Int32 × fk_C :=
  fX2_beginField_80 (upd z.1 7 2, z.2)
def fX2_beginField_41 (z : fk_C) (x1 : Int32) : Int32 × fk_C :=
  (if x1 = 0 then (0, (upd z.1 4 0, z.2)) else (if (z.1 12) = 251 then fX2_beginField_65 z else (if (z.1 12) = 248 then fX2_beginField_65 z else (0, (upd z.1 4 0, z.2)))))
def fX2_beginField_13 (z : fk_C) (s0 : Int32) : Int32 × fk_C :=
  (if s0 = 0 then fX2_beginField_41 (upd z.1 5 0, z.2) s0 else (if (z.1 12) = 254 then fX2_beginField_80 (upd (upd z.1 5 0) 7 1, z.2) else fX2_beginField_41 (upd z.1 5 0, z.2) s0))
def fX2_beginField (z0 : fk_C) : Int32 × fk_C :=
  (if (z0.1 5) < 3 then fX2_beginField_13 z0 0 else fX2_beginField_13 z0 1)
def fX2_keepIdByte (z0 : fk_C) : fk_C :=
  (if (z0.1 9) = 0 then (upd z0.1 13 (z0.1 12), z0.2) else (if (z0.1 9) = 2 then (upd z0.1 14 (z0.1 12), z0.2) else (if (z0.1 9) = 3 then (upd z0.1 15 (z0.1 12), z0.2) else z0)))
def fX2_isCheckRight (z0 : fk_C) : Int32 :=
  (if (z0.1 10) = 0 then 1 else 0)
def fX2_addToField_53 (z : fk_C) (s0 : Int32) : Int32 × fk_C :=
  (if (s0 + 2) ≤ (z.1 9) then (if (z.1 7) = 1 then (if (fX2_isCheckRight z) = 0 then (3, (upd (upd z.1 7 0) 4 0, z.2)) else (3, (upd (upd (upd z.1 16 (16 <<< (((z.1 15) &&& 1) &&& 31))) 7 0) 4 0, z.2))) else (3, (upd (upd z.1 7 0) 4 0, z.2))) else (2, z))
def fX2_addToField_27 (z : fk_C) : Int32 × fk_C :=
  (if (z.1 7) = 1 then fX2_addToField_53 (upd z.1 9 ((z.1 9) + 1), z.2) 4 else fX2_addToField_53 (upd z.1 9 ((z.1 9) + 1), z.2) (z.1 16))
def fX2_addToField_c1 (z : fk_C) : Int32 × fk_C :=
  fX2_addToField_27 z
def fX2_addToField (z0 : fk_C) : Int32 × fk_C :=
  (if (z0.1 7) = 1 then fX2_addToField_c1 (fX2_keepIdByte (upd z0.1 10 (fX5_checkWith (z0.1 10) (z0.1 12)), z0.2)) else fX2_addToField_27 (upd z0.1 10 (fX5_checkWith (z0.1 10) (z0.1 12)), z0.2))
def fX2_readCell_61 (z : fk_C) : Int32 × fk_C :=
  (if (z.1 4) = 0 then (0, z) else (if 16 ≤ ((z.1 6) + 1) then (if (z.1 7) = 0 then fX2_beginField (upd (upd (upd z.1 6 ((z.1 6) + 1)) 6 0) 12 (fX2_byteInWindow (upd (upd z.1 6 ((z.1 6) + 1)) 6 0, z.2)), z.2) else fX2_addToField (upd (upd (upd z.1 6 ((z.1 6) + 1)) 6 0) 12 (fX2_byteInWindow (upd (upd z.1 6 ((z.1 6) + 1)) 6 0, z.2)), z.2)) else (0, (upd z.1 6 ((z.1 6) + 1), z.2))))
def fX2_readCell_39 (z : fk_C) : Int32 × fk_C :=
  (0, (upd (upd (upd z.1 4 1) 5 ((z.1 5) + 1)) 6 0, z.2))
def fX2_readCell (z0 : fk_C) (a1 : Int32) : Int32 × fk_C :=
  (if ((((z0.1 3) <<< ((1 : Int32) &&& 31)) ||| a1) &&& 65535) = 17545 then (if (z0.1 4) = 0 then fX2_readCell_39 (upd z0.1 3 ((((z0.1 3) <<< ((1 : Int32) &&& 31)) ||| a1) &&& 65535), z0.2) else (if (z0.1 7) = 0 then fX2_readCell_39 (upd z0.1 3 ((((z0.1 3) <<< ((1 : Int32) &&& 31)) ||| a1) &&& 65535), z0.2) else fX2_readCell_61 (upd z0.1 3 ((((z0.1 3) <<< ((1 : Int32) &&& 31)) ||| a1) &&& 65535), z0.2))) else fX2_readCell_61 (upd z0.1 3 ((((z0.1 3) <<< ((1 : Int32) &&& 31)) ||| a1) &&& 65535), z0.2))
def fX2_isLatestFieldId (z0 : fk_C) : Int32 :=
  (if (z0.1 11) = 1 then 1 else 0)
def fX0_meetFieldStart_34 (z : fk_C) : fk_C :=
  (if (z.1 23) = 3 then (if (fX2_isLatestFieldId z) = 0 then (if (z.1 8) = 248 then (upd (upd z.1 23 4) 17 ((z.1 17) ||| 32), z.2) else (upd z.1 23 4, z.2)) else z) else z)
def fX0_meetFieldStart (z0 : fk_C) : fk_C :=
  (if (z0.1 21) = 4 then (if (z0.1 23) = 2 then (if (fX2_isLatestFieldId z0) = 0 then fX0_meetFieldStart_34 z0 else (upd z0.1 23 4, z0.2)) else fX0_meetFieldStart_34 z0) else fX0_meetFieldStart_34 z0)
def fX2_isLatestByteOfCheck (z0 : fk_C) : Int32 :=
  (if (fX2_isLatestFieldId z0) = 0 then (if (z0.1 9) ≤ (z0.1 16) then 0 else 1) else 0)
def fX0_meetFieldByte (z0 : fk_C) : fk_C :=
  (if (z0.1 23) = 4 then (if (fX2_isLatestByteOfCheck z0) = 0 then (if (fX0_has (upd z0.1 20 (z0.1 12), z0.2) 2) = 0 then (upd (upd z0.1 20 (z0.1 12)) 17 ((z0.1 17) ||| 2), z0.2) else (upd (upd (upd z0.1 20 (z0.1 12)) 17 ((z0.1 17) ||| 4)) 17 (((z0.1 17) ||| 4) ||| 2), z0.2)) else z0) else z0)
def fX0_endReading_19 (z : fk_C) : fk_C :=
  (if (fX2_isCheckRight z) = 0 then fX0_end (upd z.1 17 ((z.1 17) ||| 8), z.2) else fX0_end z)
def fX0_endReading (z0 : fk_C) : fk_C :=
  (if (z0.1 21) = 4 then fX0_endReading_19 (upd z0.1 19 (z0.1 13), z0.2) else fX0_endReading_19 z0)
def fX0_compareId (z0 : fk_C) : fk_C :=
  (if (fX2_isCheckRight z0) = 0 then (upd z0.1 17 ((z0.1 17) ||| 8), z0.2) else (if (z0.1 13) = (z0.1 18) then (if (z0.1 14) = (z0.1 19) then (if (z0.1 21) = 3 then (upd (upd (upd (upd z0.1 17 ((z0.1 17) &&& (-9))) 24 0) 23 5) 17 (((z0.1 17) &&& (-9)) ||| 2), z0.2) else (upd (upd (upd z0.1 17 ((z0.1 17) &&& (-9))) 24 0) 23 3, z0.2)) else (upd z0.1 17 ((z0.1 17) &&& (-9)), z0.2)) else (upd z0.1 17 ((z0.1 17) &&& (-9)), z0.2)))
def fX0_meetFieldEnd (z0 : fk_C) : fk_C :=
  (if (z0.1 23) = 4 then fX0_endReading z0 else (if (fX2_isLatestFieldId z0) = 0 then z0 else (if (z0.1 23) = 2 then fX0_compareId z0 else (if (z0.1 23) = 3 then fX0_compareId z0 else z0))))
def fX0_readOneCell_c2 (z : fk_C) : fk_C :=
  fX0_meetFieldEnd z
def fX0_readOneCell_c1 (z : fk_C) (r11 : Int32) : fk_C :=
  (if r11 = 1 then fX0_meetFieldStart z else (if r11 = 2 then fX0_meetFieldByte z else (if r11 = 3 then fX0_readOneCell_c2 (fX0_meetFieldByte z) else z)))
def fX0_readOneCell (z0 : fk_C) : fk_C :=
  fX0_readOneCell_c1 ((fX2_readCell z0 (fX1_cellUnderHead z0)).2) (fX2_readCell z0 (fX1_cellUnderHead z0)).1
def fX1_turnByOneCell (z0 : fk_C) : Int32 × fk_C :=
  (if 2400 ≤ ((z0.1 2) + 1) then (1, (upd (upd z0.1 2 ((z0.1 2) + 1)) 2 0, z0.2)) else (0, (upd z0.1 2 ((z0.1 2) + 1), z0.2)))
def fX4_start (z0 : fk_C) : fk_C :=
  (upd (upd (upd (upd (upd (upd z0.1 27 0) 28 0) 29 65535) 30 0) 31 0) 32 0, z0.2)
def fX0_startWritingIfServed_c1 (z : fk_C) : fk_C :=
  fX4_start z
def fX0_startWritingIfServed (z0 : fk_C) : fk_C :=
  (if (fX0_has z0 2) = 0 then fX0_startWritingIfServed_c1 (fX2_reset (upd z0.1 23 6, z0.2)) else fX0_endWith z0 4)
def fX0_meetIndex_66 (z : fk_C) : fk_C :=
  (if (z.1 25) = 5 then fX0_endWith z 16 else z)
def fX0_meetIndex_50 (z : fk_C) : fk_C :=
  (if (z.1 23) = 2 then fX0_meetIndex_66 z else (if (z.1 23) = 3 then fX0_meetIndex_66 z else z))
def fX0_meetIndex (z0 : fk_C) : fk_C :=
  (if (z0.1 23) = 7 then fX0_startWritingIfServed (upd z0.1 25 ((z0.1 25) + 1), z0.2) else (if (z0.1 23) = 6 then (if (z0.1 21) = 5 then fX0_end (upd z0.1 25 ((z0.1 25) + 1), z0.2) else fX0_meetIndex_50 (upd z0.1 25 ((z0.1 25) + 1), z0.2)) else fX0_meetIndex_50 (upd z0.1 25 ((z0.1 25) + 1), z0.2)))
def fX1_moveHead (z0 : fk_C) (a1 : Int32) : fk_C :=
  (if ((z0.1 1) + a1) < 0 then z0 else (if 4 ≤ ((z0.1 1) + a1) then z0 else (upd z0.1 1 ((z0.1 1) + a1), z0.2)))
def fX0_moveOneTrack_63 (z : fk_C) (s0 : Int32) : fk_C :=
  fX1_moveHead (upd z.1 18 ((z.1 18) + s0), z.2) s0
def fX0_moveOneTrack_29 (z : fk_C) : fk_C :=
  (if (z.1 18) = (z.1 20) then fX0_end z else (if (z.1 20) ≤ (z.1 18) then fX0_moveOneTrack_63 z (-1) else fX0_moveOneTrack_63 z 1))
def fX0_moveOneTrack (z0 : fk_C) : fk_C :=
  (if (z0.1 21) = 0 then (if (z0.1 1) = 0 then fX0_end (upd z0.1 18 0, z0.2) else fX0_moveOneTrack_29 z0) else fX0_moveOneTrack_29 z0)
def fX0_endByteTime_63 (z : fk_C) : fk_C :=
  (if (z.1 23) = 5 then (if (z.1 24) = 11 then fX0_startWritingIfServed z else z) else z)
def fX0_endByteTime_38 (z : fk_C) : fk_C :=
  (if (z.1 23) = 3 then (if (z.1 24) = 31 then (upd z.1 23 2, z.2) else fX0_endByteTime_63 z) else fX0_endByteTime_63 z)
def fX0_endByteTime (z0 : fk_C) : fk_C :=
  (if (z0.1 23) = 1 then (if ((z0.1 24) + 1) = 3 then fX0_moveOneTrack (upd (upd z0.1 24 ((z0.1 24) + 1)) 24 0, z0.2) else fX0_endByteTime_38 (upd z0.1 24 ((z0.1 24) + 1), z0.2)) else fX0_endByteTime_38 (upd z0.1 24 ((z0.1 24) + 1), z0.2))
def fX0_passByteTime_46 (kont : fk_C → Int32 → Int32 → Int32 × fk_C) (z : fk_C) (x1 : Int32) (x2 : Int32) : Int32 × fk_C :=
  kont z x1 (x2 + 1)
def fX0_passByteTime_c2 (kont : fk_C → Int32 → Int32 → Int32 × fk_C) (z : fk_C) (x2 : Int32) : Int32 × fk_C :=
  fX0_passByteTime_46 kont z 1 x2
def fX0_passByteTime_c1 (kont : fk_C → Int32 → Int32 → Int32 × fk_C) (z : fk_C) (r34 : Int32) (x1 : Int32) (x2 : Int32) : Int32 × fk_C :=
  (if r34 = 0 then fX0_passByteTime_46 kont z x1 x2 else fX0_passByteTime_c2 kont (fX0_meetIndex z) x2)
def fX0_passByteTime_30 (kont : fk_C → Int32 → Int32 → Int32 × fk_C) (z : fk_C) (x1 : Int32) (x2 : Int32) : Int32 × fk_C :=
  fX0_passByteTime_c1 kont ((fX1_turnByOneCell z).2) (fX1_turnByOneCell z).1 x1 x2
def fX0_passByteTime_c3 (z : fk_C) (x1 : Int32) : Int32 × fk_C :=
  (x1, z)
def fX0_passByteTime_c4 (kont : fk_C → Int32 → Int32 → Int32 × fk_C) (z : fk_C) (x1 : Int32) (x2 : Int32) : Int32 × fk_C :=
  fX0_passByteTime_30 kont z x1 x2
def fX0_passByteTime_c5 (kont : fk_C → Int32 → Int32 → Int32 × fk_C) (z : fk_C) (x1 : Int32) (x2 : Int32) : Int32 × fk_C :=
  fX0_passByteTime_30 kont z x1 x2
def fX0_passByteTime_4 : Nat → fk_C → Int32 → Int32 → Int32 × fk_C
  | 0, z, x1, x2 => (0, z)
  | n + 1, z, x1, x2 =>
  (if 16 ≤ x2 then fX0_passByteTime_c3 (fX0_endByteTime z) x1 else (if (z.1 23) = 6 then fX0_passByteTime_c5 (fX0_passByteTime_4 n) (fX0_writeOneCell z) x1 x2 else fX0_passByteTime_c4 (fX0_passByteTime_4 n) (fX0_readOneCell z) x1 x2))
def fX0_passByteTime (z0 : fk_C) : Int32 × fk_C :=
  fX0_passByteTime_4 17 z0 0 0
def fX3_makeEmpty (z0 : fk_C) : fk_C :=
  (upd (upd z0.1 33 0) 34 0, z0.2)
def fX3_hasRoomFor (z0 : fk_C) (a1 : Int32) : Int32 :=
  (if (200 - (z0.1 33)) < a1 then 0 else 1)
def fX3_append (z0 : fk_C) (a1 : Int32) : fk_C :=
  (if (z0.1 33) < 0 then z0 else (if 200 ≤ (z0.1 33) then z0 else (upd z0.1 33 ((z0.1 33) + 1), z0.2.1, upd z0.2.2 (z0.1 33).toNatClampNeg a1)))
def fX3_byteAt (z0 : fk_C) (a1 : Int32) : Int32 :=
  (if a1 < 0 then (-1) else (if (z0.1 33) ≤ a1 then (-1) else (if a1 < 200 then z0.2.2 a1.toNatClampNeg else (-1))))
def fX3_nextByte (z0 : fk_C) : Int32 × fk_C :=
  (if (fX3_byteAt z0 (z0.1 34)) = (-1) then (0, z0) else (fX3_byteAt z0 (z0.1 34), (upd z0.1 34 ((z0.1 34) + 1), z0.2)))
def fX5_command (z0 : fk_C) (a1 : Int32) (a2 : Int32) : Int32 × fk_C :=
  fX0_begin z0 a1 a2
def fX5_force_c1 (z : fk_C) : Int32 × fk_C :=
  (1, z)
def fX5_force (z0 : fk_C) : Int32 × fk_C :=
  (if (fX0_has z0 1) = 0 then (0, z0) else fX5_force_c1 (fX0_end z0))
def fX5_isByte (a1 : Int32) : Int32 :=
  (if a1 < 0 then 0 else (if 255 < a1 then 0 else 1))
def fX5_set (z0 : fk_C) (a1 : Int32) (a2 : Int32) : Int32 × fk_C :=
  (if (fX5_isByte a2) = 0 then (0, z0) else (if (fX0_has z0 1) = 0 then (if a1 = 0 then (1, (upd z0.1 18 a2, z0.2)) else (if a1 = 1 then (1, (upd z0.1 19 a2, z0.2)) else (0, z0))) else (0, z0)))
def fX5_give_c1 (z : fk_C) : Int32 × fk_C :=
  (1, z)
def fX5_give (z0 : fk_C) (a1 : Int32) : Int32 × fk_C :=
  (if (fX5_isByte a1) = 0 then (0, z0) else fX5_give_c1 (fX0_acceptData z0 a1))
def fX5_take (z0 : fk_C) : Int32 × fk_C :=
  fX0_handOutData z0
def fX5_run_35 (kont : fk_C → Int32 → Int32 → Int32 → Int32 × fk_C) (z : fk_C) (x1 : Int32) (x2 : Int32) (x3 : Int32) : Int32 × fk_C :=
  kont z x1 x2 (x3 + 1)
def fX5_run_c1 (kont : fk_C → Int32 → Int32 → Int32 → Int32 × fk_C) (z : fk_C) (r26 : Int32) (x1 : Int32) (x2 : Int32) (x3 : Int32) : Int32 × fk_C :=
  (if r26 = 0 then fX5_run_35 kont z x1 x2 x3 else fX5_run_35 kont z x1 (x2 + 1) x3)
def fX5_run_17 : Nat → fk_C → Int32 → Int32 → Int32 → Int32 × fk_C
  | 0, z, x1, x2, x3 => (0, z)
  | n + 1, z, x1, x2, x3 =>
  (if x1 ≤ x3 then (x2, z) else fX5_run_c1 (fX5_run_17 n) ((fX0_passByteTime z).2) (fX0_passByteTime z).1 x1 x2 x3)
def fX5_run (z0 : fk_C) (a1 : Int32) : Int32 × fk_C :=
  (if a1 < 0 then ((-1), z0) else (if a1 ≤ 200 then fX5_run_17 201 z0 a1 0 0 else ((-1), z0)))
def fX5_serveOneByte_c1 (z : fk_C) (r30 : Int32) : fk_C :=
  fX3_append z r30
def fX5_serveOneByte_c2 (z : fk_C) (r47 : Int32) : fk_C :=
  fX0_acceptData z r47
def fX5_serveOneByte_c3 (z : fk_C) (r30 : Int32) : fk_C :=
  fX3_append z r30
def fX5_serveOneByte (z0 : fk_C) : fk_C :=
  (if (z0.1 21) = 2 then fX5_serveOneByte_c1 ((fX0_handOutData z0).2) (fX0_handOutData z0).1 else (if (z0.1 21) = 4 then fX5_serveOneByte_c3 ((fX0_handOutData z0).2) (fX0_handOutData z0).1 else fX5_serveOneByte_c2 ((fX3_nextByte z0).2) (fX3_nextByte z0).1))
def fX5_serve_48 (kont : fk_C → Int32 → Int32 → Int32 → Int32 × fk_C) (z : fk_C) (x1 : Int32) (x2 : Int32) (x3 : Int32) : Int32 × fk_C :=
  kont z x1 x2 (x3 + 1)
def fX5_serve_c2 (kont : fk_C → Int32 → Int32 → Int32 → Int32 × fk_C) (z : fk_C) (x1 : Int32) (x2 : Int32) (x3 : Int32) : Int32 × fk_C :=
  fX5_serve_48 kont z x1 (x2 + 1) x3
def fX5_serve_c1 (kont : fk_C → Int32 → Int32 → Int32 → Int32 × fk_C) (z : fk_C) (r26 : Int32) (x1 : Int32) (x2 : Int32) (x3 : Int32) : Int32 × fk_C :=
  (if (fX0_has z 2) = 0 then fX5_serve_48 kont z x1 x2 x3 else fX5_serve_c2 kont (fX5_serveOneByte z) x1 x2 x3)
def fX5_serve_17 : Nat → fk_C → Int32 → Int32 → Int32 → Int32 × fk_C
  | 0, z, x1, x2, x3 => (0, z)
  | n + 1, z, x1, x2, x3 =>
  (if x1 ≤ x3 then (x2, z) else fX5_serve_c1 (fX5_serve_17 n) ((fX0_passByteTime z).2) (fX0_passByteTime z).1 x1 x2 x3)
def fX5_serve (z0 : fk_C) (a1 : Int32) : Int32 × fk_C :=
  (if a1 < 0 then ((-1), z0) else (if a1 ≤ 200 then fX5_serve_17 201 z0 a1 0 0 else ((-1), z0)))
def fX5_clear (z0 : fk_C) : fk_C :=
  fX3_makeEmpty z0
def fX5_fill_c1 (kont : fk_C → Int32 → Int32 → Int32 → Int32 × fk_C) (z : fk_C) (x1 : Int32) (x2 : Int32) (x3 : Int32) : Int32 × fk_C :=
  kont z x1 x2 (x3 + 1)
def fX5_fill_33 : Nat → fk_C → Int32 → Int32 → Int32 → Int32 × fk_C
  | 0, z, x1, x2, x3 => (0, z)
  | n + 1, z, x1, x2, x3 =>
  (if x2 ≤ x3 then (1, z) else fX5_fill_c1 (fX5_fill_33 n) (fX3_append z x1) x1 x2 x3)
def fX5_fill (z0 : fk_C) (a1 : Int32) (a2 : Int32) : Int32 × fk_C :=
  (if (fX5_isByte a1) = 0 then (0, z0) else (if a2 < 1 then (0, z0) else (if 100 < a2 then (0, z0) else (if (fX3_hasRoomFor z0 a2) = 0 then (0, z0) else fX5_fill_33 101 z0 a1 a2 0))))
def fX5_buffer (z0 : fk_C) (a1 : Int32) : Int32 :=
  (if a1 = (-1) then z0.1 33 else fX3_byteAt z0 a1)
def fX5_protect (z0 : fk_C) (a1 : Int32) : fk_C :=
  (upd z0.1 0 a1, z0.2)
def fX5_spoil (z0 : fk_C) (a1 : Int32) (a2 : Int32) : Int32 × fk_C :=
  fX1_turnOver z0 a1 a2
def fX5_cells (z0 : fk_C) (a1 : Int32) (a2 : Int32) : Int32 :=
  fX1_wordAt z0 a1 a2
def fX5_look (z0 : fk_C) (a1 : Int32) : Int32 :=
  (if a1 = 0 then z0.1 17 else if a1 = 1 then z0.1 18 else if a1 = 2 then z0.1 19 else if a1 = 3 then z0.1 20 else if a1 = 4 then z0.1 1 else if a1 = 5 then z0.1 2 else if a1 = 6 then (if (z0.1 4) = 0 then 0 else 1) else if a1 = 7 then z0.1 21 else (-1))
