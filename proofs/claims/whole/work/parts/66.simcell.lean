/-! a cell is written -/
theorem bit_tb (n i : Nat) : n / 2 ^ i % 2 = (n.testBit i).toNat := by
  rw [Nat.testBit_eq_decide_div_mod_eq]
  rcases (show n / 2 ^ i % 2 = 0 ∨ n / 2 ^ i % 2 = 1 by omega) with h | h <;> rw [h] <;> rfl
theorem bit_flip {W a b : Nat} : (W ^^^ 2 ^ a) / 2 ^ b % 2 = if a = b then 1 - W / 2 ^ b % 2 else W / 2 ^ b % 2 := by
  rw [bit_tb, bit_tb, Nat.testBit_xor, Nat.testBit_two_pow]
  by_cases e : a = b
  · rw [if_pos e]
    cases W.testBit b <;> simp [e]
  · rw [if_neg e]
    simp [e]
theorem nI_pw {m : Nat} (h : m < 16) : (32768 : Int32) >>> (nI m &&& 31) = nI (2 ^ (15 - m)) := by
  rw [show (32768 : Int32) = nI 32768 from by decide, nI_shr (by decide) (by omega)]
  congr 1
  have : 2 ^ 15 = 2 ^ (15 - m) * 2 ^ m := by rw [← Nat.pow_add]; congr 1; omega
  rw [show (32768 : Nat) = 2 ^ 15 from rfl, this]
  exact Nat.mul_div_cancel _ (Nat.two_pow_pos m)
theorem sD_flip {w c : Nat → Int32} (h : sD w c) {t p : Nat} (ht : t < 4) (hp : p < 2400) {W : Nat} (hW : W < 65536) (ew : w (150 * t + p / 16) = nI W) : sD (upd w (150 * t + p / 16) (nI (W ^^^ 2 ^ (15 - p % 16)))) (upd c (2400 * t + p) (nI (1 - W / 2 ^ (15 - p % 16) % 2))) := by
  intro t' p' ht' hp'
  have hx : W ^^^ 2 ^ (15 - p % 16) < 65536 := Nat.xor_lt_two_pow (n := 16) hW (Nat.pow_lt_pow_right (by decide) (by omega))
  by_cases e : 150 * t' + p' / 16 = 150 * t + p / 16
  · refine ⟨W ^^^ 2 ^ (15 - p % 16), hx, by rw [e, pk_us], ?_⟩
    rw [bit_flip]
    by_cases e2 : 15 - p % 16 = 15 - p' % 16
    · have : 2400 * t' + p' = 2400 * t + p := by omega
      rw [if_pos e2, this, pk_us, e2]
    · have hne : 2400 * t' + p' ≠ 2400 * t + p := by omega
      rw [if_neg e2, pk_un hne]
      obtain ⟨W2, h1, h2, h3⟩ := h t' p' ht' hp'
      rw [e] at h2
      have : W2 = W := (nI_eq (by omega) (by omega)).mp (h2.symm.trans ew)
      rw [h3, this]
  · have hne : 2400 * t' + p' ≠ 2400 * t + p := by omega
    rw [pk_un e, pk_un hne]
    exact h t' p' ht' hp'
/-- turning a cell over, in both -/
theorem turn_both {z : fk_C} {y : fk_M} (h : sD z.2.1 y.2.1) {t p : Nat} (ht : t < 4) (hp : p < 2400) : ∃ W : Nat, W < 65536 ∧ z.2.1 (150 * t + p / 16) = nI W ∧ y.2.1 (2400 * t + p) = nI (W / 2 ^ (15 - p % 16) % 2) ∧ fX1_turnOver z (nI t) (nI p) = (1, (z.1, upd z.2.1 (150 * t + p / 16) (nI (W ^^^ 2 ^ (15 - p % 16))), z.2.2)) := by
  obtain ⟨W, hW, e1, e2⟩ := h t p ht hp
  refine ⟨W, hW, e1, e2, ?_⟩
  unfold fX1_turnOver
  rw [if_neg (nI_pos (by omega)), if_neg (show ¬ (4 : Int32) ≤ nI t from nI_ge (a := t) (b := 4) ht (by decide)), if_neg (nI_pos (by omega)), if_pos (show nI p < 2400 from nI_lt (a := p) (b := 2400) hp (by decide))]
  rw [fk_shr4 (by omega), show (150 : Int32) = nI 150 from by decide, pk_mul, nI_add, nI_clamp (by omega), nI_and15, nI_pw (Nat.mod_lt _ (by decide)), Nat.mul_comm t 150, e1, nI_xor]
theorem s01_nI {x : Int32} (h : s01 x) : ∃ b : Nat, b < 2 ∧ x = nI b := by
  rcases h with rfl | rfl
  · exact ⟨0, by decide, by decide⟩
  · exact ⟨1, by decide, by decide⟩
theorem put_both {T : Nat} {z : fk_C} {y : fk_M} (hq : mI y) (a1 : z.1 1 = y.1 2) (a2 : z.1 2 = y.1 3) (hD : sD z.2.1 y.2.1) {b : Int32} (hb : s01 b) : ∃ w' : Nat → Int32, fX1_writeUnderHead z b = (z.1, w', z.2.2) ∧ sD w' (upd y.2.1 ((2400 * (y.1 2)) + (y.1 3)).toNatClampNeg b) := by
  obtain ⟨⟨t, ht, e1⟩, ⟨p, hp, e2⟩, -⟩ := hq
  obtain ⟨W, hW, w1, w2, w3⟩ := turn_both hD ht hp
  obtain ⟨n, hn, rfl⟩ := s01_nI hb
  have ecell : fX1_cellUnderHead z = nI (W / 2 ^ (15 - p % 16) % 2) := by
    unfold fX1_cellUnderHead
    rw [a1, a2, e1, e2, rd_word ht hp, w1, nI_and15, nI_15sub (Nat.mod_lt _ (by decide)), nI_shr (by omega) (by omega), nI_and1]
  unfold fX1_writeUnderHead fX1_writeUnderHead_c1
  rw [ecell, e1, e2, m_at ht hp]
  by_cases c : W / 2 ^ (15 - p % 16) % 2 = n
  · rw [if_pos (by rw [c])]
    refine ⟨z.2.1, rfl, ?_⟩
    rw [← c, ← w2, upd_self]
    exact hD
  · rw [if_neg (fun q => c ((nI_eq (by omega) (by omega)).mp q)), a1, a2, e1, e2, w3]
    refine ⟨_, rfl, ?_⟩
    have : n = 1 - W / 2 ^ (15 - p % 16) % 2 := by omega
    rw [this]
    exact sD_flip hD ht hp hW w1
theorem sV_e {mp lb ck cn bm ld ds wh lbm sm mk sc : Int32} {e : Bool} (h : sV mp lb ck cn bm ld ds wh lbm sm mk sc false) (hw : mp = 6 → ¬ wh = ds + 11) : sV mp lb ck cn bm ld ds wh lbm sm mk sc e := by
  obtain ⟨h1, h2, h3, h4, h5, h6⟩ := h
  refine ⟨h1, h2, h3, h4, h5, fun q => ?_⟩
  obtain ⟨w, D, k1, k2, k3, k4, k5, -, k7⟩ := h6 q
  refine ⟨w, D, k1, k2, k3, k4, k5, fun _ => ?_, k7⟩
  have := hw q
  rw [k2, k4, show (11 : Int32) = nI 11 from by decide, nI_add] at this
  have : w ≠ D + 11 := fun e => this (by rw [e])
  omega
theorem fR_cell {T k : Nat} {z : fk_C} {y : fk_M} (h : fL T k z y) : fR T (fX0_writeOneCell_29 z) (fX6_writeCell_27 y) := by
  obtain ⟨hI, ⟨a0, a1, a2, a3, a4, a5, a7, a16, a17, a18, a19, a20, a21, a22, a25, a33, a34⟩, hbf, hby, hda, hD, hF, hP, hS, h6, ⟨hk, ewr, ecl, ewd, hV⟩, hQ⟩ := h
  have ek : 16 - k = (15 - k) + 1 := by omega
  have ecl1 : z.1 27 - 1 = nI (15 - k) := by
    rw [ecl, ek]
    exact nI_pred (15 - k)
  -- the cell, the same in both
  obtain ⟨bit, hbit, eb⟩ : ∃ bit : Int32, s01 bit ∧ fX4_nextCell z = (bit, (upd z.1 27 (nI (15 - k)), z.2)) ∧ (((y.1 22) >>> ((15 - (y.1 23)) &&& 31)) &&& 1) = bit := by
    refine ⟨_, fk_and1 _, ?_, rfl⟩
    unfold fX4_nextCell
    rw [ecl1, ewr, nI_15sub hk, nI_and15, Nat.mod_eq_of_lt (show 15 - k < 16 by omega), ewd]
  obtain ⟨w', hw1, hw2⟩ := put_both (T := T) (z := (upd z.1 27 (nI (15 - k)), z.2)) hI a1 a2 hD hbit
  have hm67 : fX6_writeCell_27 y = fX6_writeCell_67 y ((2400 * (y.1 2)) + (y.1 3)) bit := by
    unfold fX6_writeCell_27
    rw [eb.2]
    rcases hbit with e | e
    · rw [if_neg (by rw [e]; decide), e]
    · rw [if_pos e, e]
  rw [hm67]
  unfold fX0_writeOneCell_29 fX0_writeOneCell_c1
  rw [eb.1]
  show fR T (fX0_writeOneCell_c2 (fX1_writeUnderHead (upd z.1 27 (nI (15 - k)), z.2) bit)) _
  rw [hw1]
  -- the states behind the cell
  have key : ∀ s1 : Int32, s1 = (if k = 15 then 0 else nI (k + 1)) → fX6_writeCell_67 y ((2400 * (y.1 2)) + (y.1 3)) bit = fX6_writeCell_88 (y.1, upd y.2.1 ((2400 * (y.1 2)) + (y.1 3)).toNatClampNeg bit, y.2.2.1, y.2.2.2) s1 := by
    intro s1 hs
    unfold fX6_writeCell_67
    by_cases c : k = 15
    · rw [if_pos (show y.1 23 = 15 from by rw [ewr, c]; decide), hs, if_pos c]
    · rw [if_neg (show ¬ y.1 23 = 15 from by rw [ewr]; exact fun q => c ((nI_eq (b := 15) (by omega) (by decide)).mp q)), hs, if_neg c, fk_up1 ewr]
  rw [key _ rfl]
  generalize hcy : upd y.2.1 ((2400 * (y.1 2)) + (y.1 3)).toNatClampNeg bit = cy at hw2
  have hP' : (y.1 19 = 6 ∧ z.1 21 = 3) ∨ (y.1 19 = 8 ∧ z.1 21 = 5) := by
    rcases hP with ⟨q, -⟩ | ⟨q, -⟩ | ⟨q, -⟩ | ⟨q, -⟩ | ⟨q, -⟩ | ⟨q, -⟩ | ⟨-, q1, q2⟩ | ⟨-, q1, q2⟩ | ⟨q, -⟩
    all_goals first | exact Or.inl ⟨q1, q2⟩ | exact Or.inr ⟨q1, q2⟩ | exact absurd (h6.symm.trans q) (by decide)
  have hsT : ∀ bt ct : Int32, sT T (z.1 23) bt ct := fun bt ct => ⟨fun q => absurd (h6.symm.trans q) (by decide), fun q => absurd (h6.symm.trans q) (by decide), fun q => absurd (h6.symm.trans q) (by decide)⟩
  have hsC : sC (z.1 23) (z.1 21) (z.1 7) := ⟨fun q => absurd (h6.symm.trans q) (by decide), fun q => absurd (h6.symm.trans q) (by decide)⟩
  -- without an end
  have stay : ∀ s1 : Int32, s1 = (if k = 15 then 0 else nI (k + 1)) → (k = 15 → y.1 19 = 6 → ¬ y.1 24 = z.1 16 + 11) → fR T (upd z.1 27 (nI (15 - k)), w', z.2.2) (upd y.1 23 s1, cy, y.2.2.1, y.2.2.2) := by
    intro s1 hs hn
    refine ⟨⟨mI_of ⟨rfl, rfl, rfl, rfl, rfl, rfl, rfl⟩ hI, ⟨a0, a1, a2, a3, a4, a5, a7, a16, a17, a18, a19, a20, a21, a22, a25, a33, a34⟩, hbf, hby, hda, hw2, hF, hP, hS, hsT _ _, fun _ => ?_, hQ⟩, hsC⟩
    by_cases c : k = 15
    · rw [if_pos c] at hs
      subst c
      exact Or.inl ⟨rfl, hs, sV_e hV (hn rfl)⟩
    · rw [if_neg c] at hs
      exact Or.inr ⟨⟨k + 1, by omega, by omega, hs, by show nI (15 - k) = nI (16 - (k + 1)); congr 1; omega, ewd⟩, hV⟩
  unfold fX0_writeOneCell_c2 fX6_writeCell_88
  rcases hP' with ⟨p1, p2⟩ | ⟨p1, p2⟩
  · rw [if_pos (show (y.1, cy, y.2.2.1, y.2.2.2).1 19 = 6 from p1)]
    have ecnt : z.1 30 = y.1 24 := by
      obtain ⟨w, D, -, -, e1, e2, -⟩ := hV.2.2.2.2.2 p1
      rw [e1, e2]
    have e11 : ((8 : Int32) + z.1 16) + 3 = y.1 12 + 11 := by
      obtain ⟨w, D, -, e0, -⟩ := hV.2.2.2.2.2 p1
      rw [← a16, e0, show (8 : Int32) = nI 8 from by decide, show (3 : Int32) = nI 3 from by decide, show (11 : Int32) = nI 11 from by decide, nI_add, nI_add, nI_add]
      congr 1
      omega
    by_cases c : k = 15
    · rw [if_pos c]
      rw [if_pos (show (0 : Int32) = 0 from rfl)]
      have ez : nI (15 - k) = 0 := by rw [c]; decide
      by_cases cw : z.1 30 = ((8 : Int32) + z.1 16) + 3
      · have cw' : (y.1, cy, y.2.2.1, y.2.2.2).1 24 = (y.1, cy, y.2.2.1, y.2.2.2).1 12 + 11 := by
          show y.1 24 = y.1 12 + 11
          rw [← ecnt, cw, e11]
        rw [if_pos (show (upd z.1 27 (nI (15 - k)), w', z.2.2).1 30 = (8 + (upd z.1 27 (nI (15 - k)), w', z.2.2).1 16) + 3 from cw), if_pos cw']
        unfold fX0_writeOneCell_70
        rw [if_pos (show (upd z.1 27 (nI (15 - k)), w', z.2.2).1 21 = 3 from p2), if_pos (show (upd z.1 27 (nI (15 - k)), w', z.2.2).1 27 = 0 from ez), if_neg (by decide)]
        -- it ends: the writer's numbers no longer matter
        have hend : ∀ (A : fk_C) (B : fk_M), A.1 23 = 6 → B.1 19 = 6 → mI B → sA A.1 B.1 → A.2.2 = B.2.2.2 → (∀ i, sB (A.2.2 i)) → sB (A.1 20) → sD A.2.1 B.2.1 → sF (A.1 7) (A.1 8) (A.1 9) (A.1 10) (A.1 11) (A.1 13) (A.1 14) (A.1 15) (B.1 9) (B.1 10) B.2.2.1 → sS (A.1 4) (A.1 6) (B.1 7) → fR T (fX0_end A) (fX6_end B) := by
          intro A B c6 d6 hI2 ⟨b0, b1, b2, b3, b4, b5, b7, b16, b17, b18, b19, b20, b21, b22, b25, b33, b34⟩ g1 g2 g3 g4 g5 g6
          have hI' := mI_of (mE_end B) hI2
          have e17 : A.1 17 &&& (-4) = (B.1 16 &&& (1 ^^^ (-1))) &&& (2 ^^^ (-1)) := by rw [st_m4, b17]
          have q' : sQ (A.1 17 &&& (-4)) 0 (A.1 21) := ⟨fun q => absurd rfl q, Or.inl (st_42 _)⟩
          rw [m_end6 (Or.inl d6)] at hI' ⊢
          rw [c_end6 c6]
          exact ⟨⟨hI', ⟨b0, b1, b2, rfl, b4, b5, b7, b16, e17, b18, b19, b20, b21, b22, b25, b33, b34⟩, g1, g2, g3, g4, g5, Or.inl ⟨rfl, rfl⟩, g6, sT_0, sW_0, q'⟩, sC_0⟩
        exact hend _ _ h6 p1 (mI_of ⟨rfl, rfl, rfl, rfl, rfl, rfl, rfl⟩ hI) ⟨a0, a1, a2, a3, a4, a5, a7, a16, a17, a18, a19, a20, a21, a22, a25, a33, a34⟩ hbf hby hda hw2 hF hS
      · have cw' : ¬ (y.1, cy, y.2.2.1, y.2.2.2).1 24 = (y.1, cy, y.2.2.1, y.2.2.2).1 12 + 11 := by
          show ¬ y.1 24 = y.1 12 + 11
          rw [← ecnt, ← e11]
          exact cw
        rw [if_neg (show ¬ (upd z.1 27 (nI (15 - k)), w', z.2.2).1 30 = (8 + (upd z.1 27 (nI (15 - k)), w', z.2.2).1 16) + 3 from cw), if_neg cw']
        have e70 : fX0_writeOneCell_70 (upd z.1 27 (nI (15 - k)), w', z.2.2) 0 = (upd z.1 27 (nI (15 - k)), w', z.2.2) := by
          unfold fX0_writeOneCell_70
          rw [if_pos (show (upd z.1 27 (nI (15 - k)), w', z.2.2).1 21 = 3 from p2), if_pos (show (upd z.1 27 (nI (15 - k)), w', z.2.2).1 27 = 0 from ez), if_pos rfl]
        rw [e70]
        exact stay 0 (by rw [if_pos c]) (fun _ _ q => cw' (by show y.1 24 = y.1 12 + 11; rw [← a16]; exact q))
    · rw [if_neg c]
      have hne0 : ¬ nI (k + 1) = 0 := nI_ne0 (by omega) (by omega)
      have nz : ¬ (upd z.1 27 (nI (15 - k)), w', z.2.2).1 27 = 0 := nI_ne0 (n := 15 - k) (by omega) (by omega)
      rw [if_neg hne0]
      have e70 : ∀ s : Int32, fX0_writeOneCell_70 (upd z.1 27 (nI (15 - k)), w', z.2.2) s = (upd z.1 27 (nI (15 - k)), w', z.2.2) := by
        intro s
        unfold fX0_writeOneCell_70
        rw [if_pos (show (upd z.1 27 (nI (15 - k)), w', z.2.2).1 21 = 3 from p2), if_neg nz]
      rw [e70, e70, ite_self]
      exact stay _ (by rw [if_neg c]) (fun q => absurd q c)
  · rw [if_neg (show ¬ (y.1, cy, y.2.2.1, y.2.2.2).1 19 = 6 from fun q => absurd (p1.symm.trans q) (by decide))]
    have e70 : ∀ s : Int32, fX0_writeOneCell_70 (upd z.1 27 (nI (15 - k)), w', z.2.2) s = (upd z.1 27 (nI (15 - k)), w', z.2.2) := by
      intro s
      unfold fX0_writeOneCell_70
      rw [if_neg (show ¬ (upd z.1 27 (nI (15 - k)), w', z.2.2).1 21 = 3 from fun q => absurd (p2.symm.trans q) (by decide))]
    rw [e70, e70, ite_self]
    exact stay _ rfl (fun _ q => absurd (p1.symm.trans q) (by decide))
theorem fR_write {T : Nat} {z : fk_C} {y : fk_M} (h : fR T z y) (h6 : z.1 23 = 6) : fR T (fX0_writeOneCell z) (fX6_writeCell y) := by
  have hR := h
  obtain ⟨⟨hI, hA, hbf, hby, hda, hD, hF, hP, hS, hT, hW, hQ⟩, hC⟩ := h
  have hP' : (y.1 19 = 6 ∧ z.1 21 = 3) ∨ (y.1 19 = 8 ∧ z.1 21 = 5) := by
    rcases hP with ⟨q, -⟩ | ⟨q, -⟩ | ⟨q, -⟩ | ⟨q, -⟩ | ⟨q, -⟩ | ⟨q, -⟩ | ⟨-, q1, q2⟩ | ⟨-, q1, q2⟩ | ⟨q, -⟩
    all_goals first | exact Or.inl ⟨q1, q2⟩ | exact Or.inr ⟨q1, q2⟩ | exact absurd (h6.symm.trans q) (by decide)
  unfold fX0_writeOneCell fX6_writeCell fX0_writeOneCell_c3 fX0_writeOneCell_c4 fX6_writeCell_c1 fX6_writeCell_c2
  rcases hW h6 with ⟨c1, c2, hV⟩ | ⟨⟨k, k0, k16, e1, e2, e3⟩, hV⟩
  · rw [if_pos c1, if_pos c2]
    rcases hP' with ⟨p1, p2⟩ | ⟨p1, p2⟩
    · rw [if_neg (show ¬ z.1 21 = 5 from fun q => absurd (p2.symm.trans q) (by decide)), if_pos p1]
      exact fR_cell (fL_sector hR h6 p1 p2 c2 hV)
    · rw [if_pos p2, if_neg (show ¬ y.1 19 = 6 from fun q => absurd (p1.symm.trans q) (by decide))]
      exact fR_cell (fL_track hR h6 p1 p2 c2 hV)
  · rw [if_neg (show ¬ z.1 27 = 0 from by rw [e2]; exact nI_ne0 (by omega) (by omega)), if_neg (show ¬ y.1 23 = 0 from by rw [e1]; exact nI_ne0 k0 (by omega))]
    exact fR_cell (k := k) ⟨hI, hA, hbf, hby, hda, hD, hF, hP, hS, h6, ⟨k16, e1, e2, e3, hV⟩, hQ⟩
