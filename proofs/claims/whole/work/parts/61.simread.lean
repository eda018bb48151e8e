/-! reading a cell -/
theorem s_sh : ∀ n, n < 32 → ((nI n &&& 31).toBitVec.smod 32).toNat = n := by decide +kernel
theorem nI_shr {n k : Nat} (h : n < 2 ^ 31) (hk : k < 32) : nI n >>> (nI k &&& 31) = nI (n / 2 ^ k) := pk_shrN h _ k (s_sh k hk)
theorem nI_and15 (p : Nat) : nI p &&& 15 = nI (p % 16) := by rw [show (15 : Int32) = nI 15 from by decide, nI_and, and15]
theorem nI_and1 (p : Nat) : nI p &&& 1 = nI (p % 2) := by rw [show (1 : Int32) = nI 1 from by decide, nI_and, and1]
theorem nI_15sub {k : Nat} (h : k < 16) : 15 - nI k = nI (15 - k) := by
  rw [show (15 : Int32) = nI 15 from by decide]
  exact pk_sub (by omega)
theorem rd_word {z : fk_C} {h p : Nat} (hh : h < 4) (hp : p < 2400) : fX1_wordAt z (nI h) (nI p >>> ((4 : Int32) &&& 31)) = z.2.1 (150 * h + p / 16) := by
  rw [fk_shr4 (by omega)]
  unfold fX1_wordAt
  rw [if_neg (nI_pos (by omega)), if_neg (show ¬ (4 : Int32) ≤ nI h from nI_ge (a := h) (b := 4) hh (by decide)), if_neg (nI_pos (by omega)), if_pos (show nI (p / 16) < 150 from nI_lt (a := p / 16) (b := 150) (by omega) (by decide))]
  rw [show (150 : Int32) = nI 150 from by decide, pk_mul, nI_add, nI_clamp (by omega), Nat.mul_comm]
theorem m_at {h p : Nat} (hh : h < 4) (hp : p < 2400) : (2400 * nI h + nI p).toNatClampNeg = 2400 * h + p := by
  rw [show (2400 : Int32) = nI 2400 from by decide, pk_mul, nI_add, nI_clamp (by omega)]
theorem nI_01 (n : Nat) : s01 (nI (n % 2)) := by
  rcases (show n % 2 = 0 ∨ n % 2 = 1 by omega) with h | h <;> rw [h]
  · exact Or.inl (by decide)
  · exact Or.inr (by decide)
theorem rd_bit {T : Nat} {z : fk_C} {y : fk_M} (h : fQ T z y) : fX1_cellUnderHead z = y.2.1 ((2400 * (y.1 2)) + (y.1 3)).toNatClampNeg ∧ s01 (y.2.1 ((2400 * (y.1 2)) + (y.1 3)).toNatClampNeg) := by
  obtain ⟨⟨⟨hd, hh, e1⟩, ⟨p, hp, e2⟩, -⟩, ⟨a0, a1, a2, -⟩, hbf, hby, hda, hD, -⟩ := h
  obtain ⟨W, hW, w1, w2⟩ := hD hd p hh hp
  unfold fX1_cellUnderHead
  rw [a1, a2, e1, e2, rd_word hh hp, w1, m_at hh hp, w2, nI_and15, nI_15sub (Nat.mod_lt _ (by decide)), nI_shr (by omega) (by omega), nI_and1]
  exact ⟨rfl, nI_01 _⟩
/-- the byte in the window -/
def bE (w : Int32) : Int32 := (((((((((((((((((0 : Int32) <<< ((1 : Int32) &&& 31)) ||| ((w >>> ((14 : Int32) &&& 31)) &&& 1)) <<< ((1 : Int32) &&& 31)) ||| ((w >>> ((12 : Int32) &&& 31)) &&& 1)) <<< ((1 : Int32) &&& 31)) ||| ((w >>> ((10 : Int32) &&& 31)) &&& 1)) <<< ((1 : Int32) &&& 31)) ||| ((w >>> ((8 : Int32) &&& 31)) &&& 1)) <<< ((1 : Int32) &&& 31)) ||| ((w >>> ((6 : Int32) &&& 31)) &&& 1)) <<< ((1 : Int32) &&& 31)) ||| ((w >>> ((4 : Int32) &&& 31)) &&& 1)) <<< ((1 : Int32) &&& 31)) ||| ((w >>> ((2 : Int32) &&& 31)) &&& 1)) <<< ((1 : Int32) &&& 31)) ||| ((w >>> ((0 : Int32) &&& 31)) &&& 1))
theorem bE_c (z : fk_C) : fX2_byteInWindow z = bE (z.1 3) := rfl
def sN (k : Nat) (x : Int32) : Prop := ∃ n : Nat, n < 2 ^ k ∧ x = nI n
theorem sN_bit {k : Nat} {x w : Int32} (hk : k < 20) (h : sN k x) : sN (k + 1) ((x <<< ((1 : Int32) &&& 31)) ||| (w &&& 1)) := by
  obtain ⟨n, hn, rfl⟩ := h
  have h20 : n < 2 ^ 20 := Nat.lt_of_lt_of_le hn (Nat.pow_le_pow_right (by decide) (by omega))
  rw [nI_shl1 (by omega)]
  rcases fk_and1 w with e | e <;> rw [e]
  · refine ⟨n * 2, by rw [Nat.pow_succ]; omega, ?_⟩
    rw [show (0 : Int32) = nI 0 from by decide, nI_or, Nat.or_zero]
  · refine ⟨n * 2 + 1, by rw [Nat.pow_succ]; omega, ?_⟩
    rw [show (1 : Int32) = nI 1 from by decide, nI_or]
    have := Nat.two_pow_add_eq_or_of_lt (i := 1) (b := 1) (by decide) n
    rw [show (2 : Nat) ^ 1 * n = n * 2 from by omega] at this
    rw [this]
theorem bE_sB (w : Int32) : sB (bE w) := by
  have h0 : sN 0 (0 : Int32) := ⟨0, by decide, by decide⟩
  have h := sN_bit (w := w >>> ((0 : Int32) &&& 31)) (k := 7) (by decide) (sN_bit (w := w >>> ((2 : Int32) &&& 31)) (k := 6) (by decide) (sN_bit (w := w >>> ((4 : Int32) &&& 31)) (k := 5) (by decide) (sN_bit (w := w >>> ((6 : Int32) &&& 31)) (k := 4) (by decide) (sN_bit (w := w >>> ((8 : Int32) &&& 31)) (k := 3) (by decide) (sN_bit (w := w >>> ((10 : Int32) &&& 31)) (k := 2) (by decide) (sN_bit (w := w >>> ((12 : Int32) &&& 31)) (k := 1) (by decide) (sN_bit (w := w >>> ((14 : Int32) &&& 31)) (k := 0) (by decide) h0)))))))
  exact h
/-! a field begins -/
theorem c_ms1 {z : fk_C} (h1 : z.1 11 = 1) (h2 : z.1 21 = 4) (h3 : z.1 23 = 2) : fX0_meetFieldStart z = (upd z.1 23 4, z.2) := by
  simp [fX0_meetFieldStart, fX2_isLatestFieldId, h1, h2, h3]
theorem c_ms0 {z : fk_C} (h1 : z.1 11 = 1) (h2 : ¬ (z.1 21 = 4 ∧ z.1 23 = 2)) : fX0_meetFieldStart z = z := by
  by_cases c1 : z.1 21 = 4
  · have c2 : ¬ z.1 23 = 2 := fun q => h2 ⟨c1, q⟩
    simp [fX0_meetFieldStart, fX0_meetFieldStart_34, fX2_isLatestFieldId, h1, c1, c2]
  · simp [fX0_meetFieldStart, fX0_meetFieldStart_34, fX2_isLatestFieldId, h1, c1]
theorem c_ms34 {z : fk_C} (h1 : z.1 11 = 2) : fX0_meetFieldStart z = fX0_meetFieldStart_34 z := by
  simp [fX0_meetFieldStart, fX2_isLatestFieldId, h1]
theorem c_ms2 {z : fk_C} (h1 : z.1 11 = 2) (h3 : z.1 23 = 3) (h4 : z.1 8 = 248) : fX0_meetFieldStart z = (upd (upd z.1 23 4) 17 (z.1 17 ||| 32), z.2) := by
  rw [c_ms34 h1]
  simp [fX0_meetFieldStart_34, fX2_isLatestFieldId, h1, h3, h4]
theorem c_ms2' {z : fk_C} (h1 : z.1 11 = 2) (h3 : z.1 23 = 3) (h4 : ¬ z.1 8 = 248) : fX0_meetFieldStart z = (upd z.1 23 4, z.2) := by
  rw [c_ms34 h1]
  simp [fX0_meetFieldStart_34, fX2_isLatestFieldId, h1, h3, h4]
theorem c_ms20 {z : fk_C} (h1 : z.1 11 = 2) (h3 : ¬ z.1 23 = 3) : fX0_meetFieldStart z = z := by
  rw [c_ms34 h1]
  simp [fX0_meetFieldStart_34, h3]
theorem m_b41 (y : fk_M) (b : Int32) : fX6_begins_41 y 1 b = y := by
  unfold fX6_begins_41
  rw [if_neg (by decide)]
theorem m_bg1 {y : fk_M} {b : Int32} (h2 : y.1 17 = 4) (h3 : y.1 19 = 2) : fX6_begins y 1 b = (upd (upd (upd (upd y.1 8 1) 9 b) 10 0) 19 4, y.2) := by
  unfold fX6_begins
  rw [if_pos rfl, if_pos h2, if_pos h3, m_b41]
theorem m_bg0 {y : fk_M} {b : Int32} (h2 : ¬ (y.1 17 = 4 ∧ y.1 19 = 2)) : fX6_begins y 1 b = (upd (upd (upd y.1 8 1) 9 b) 10 0, y.2) := by
  unfold fX6_begins
  rw [if_pos rfl]
  by_cases c1 : y.1 17 = 4
  · rw [if_pos c1, if_neg (fun q => h2 ⟨c1, q⟩), m_b41]
  · rw [if_neg c1, m_b41]
theorem m_bg2 {y : fk_M} {b : Int32} (h2 : y.1 17 = 2) (h3 : y.1 19 = 3) (h4 : b = 248) : fX6_begins y 2 b = (upd (upd (upd (upd (upd y.1 8 2) 9 b) 10 0) 19 4) 16 (y.1 16 ||| 32), y.2) := by
  unfold fX6_begins fX6_begins_41
  rw [if_neg (by decide), if_pos rfl, if_pos (show (upd (upd (upd y.1 8 2) 9 b) 10 0, y.2).1 17 = 2 from h2), if_pos (show (upd (upd (upd y.1 8 2) 9 b) 10 0, y.2).1 19 = 3 from h3), if_pos h4]
  rfl
theorem m_bg2' {y : fk_M} {b : Int32} (h2 : y.1 17 = 2) (h3 : y.1 19 = 3) (h4 : ¬ b = 248) : fX6_begins y 2 b = (upd (upd (upd (upd y.1 8 2) 9 b) 10 0) 19 4, y.2) := by
  unfold fX6_begins fX6_begins_41
  rw [if_neg (by decide), if_pos rfl, if_pos (show (upd (upd (upd y.1 8 2) 9 b) 10 0, y.2).1 17 = 2 from h2), if_pos (show (upd (upd (upd y.1 8 2) 9 b) 10 0, y.2).1 19 = 3 from h3), if_neg h4]
theorem m_bg20 {y : fk_M} {b : Int32} (h3 : ¬ (y.1 17 = 2 ∧ y.1 19 = 3)) : fX6_begins y 2 b = (upd (upd (upd y.1 8 2) 9 b) 10 0, y.2) := by
  unfold fX6_begins fX6_begins_41
  rw [if_neg (by decide), if_pos rfl]
  by_cases c1 : y.1 17 = 2
  · rw [if_pos (show (upd (upd (upd y.1 8 2) 9 b) 10 0, y.2).1 17 = 2 from c1), if_neg (show ¬ (upd (upd (upd y.1 8 2) 9 b) 10 0, y.2).1 19 = 3 from fun q => h3 ⟨c1, q⟩)]
  · rw [if_neg (show ¬ (upd (upd (upd y.1 8 2) 9 b) 10 0, y.2).1 17 = 2 from c1)]
theorem c_b80 (z : fk_C) : fX2_beginField_80 z = (1, (upd (upd (upd (upd (upd (upd (upd (upd z.1 11 (z.1 7)) 8 (z.1 12)) 9 0) 10 65535) 10 (fX5_checkWith 65535 161)) 10 (fX5_checkWith (fX5_checkWith 65535 161) 161)) 10 (fX5_checkWith (fX5_checkWith (fX5_checkWith 65535 161) 161) 161)) 10 (c4 (z.1 12)), z.2)) := by
  unfold fX2_beginField_80
  rw [fX2_beginField_109, if_neg (by decide), fX2_beginField_109, if_neg (by decide), fX2_beginField_109, if_neg (by decide), fX2_beginField_109, if_pos (by decide)]
  simp only [c4, pk_us, pk_un (show (8 : Nat) ≠ 10 by decide), pk_un (show (8 : Nat) ≠ 9 by decide)]
theorem c_c1_1 (z : fk_C) : fX0_readOneCell_c1 z 1 = fX0_meetFieldStart z := by
  unfold fX0_readOneCell_c1
  rw [if_pos rfl]
theorem c_c1_0 (z : fk_C) : fX0_readOneCell_c1 z 0 = z := by
  unfold fX0_readOneCell_c1
  rw [if_neg (by decide), if_neg (by decide), if_neg (by decide)]
theorem c_c1_2 (z : fk_C) : fX0_readOneCell_c1 z 2 = fX0_meetFieldByte z := by
  unfold fX0_readOneCell_c1
  rw [if_neg (by decide), if_pos rfl]
theorem c_c1_3 (z : fk_C) : fX0_readOneCell_c1 z 3 = fX0_meetFieldEnd (fX0_meetFieldByte z) := by
  unfold fX0_readOneCell_c1
  rw [if_neg (by decide), if_neg (by decide), if_pos rfl]
  rfl
theorem sP_24 {a b c : Int32} (h : sP a b c) (hb : b = 4) : a = 2 ↔ c = 2 := by
  subst hb
  rcases h with ⟨rfl, rfl⟩ | ⟨rfl, rfl, -⟩ | ⟨rfl, rfl, -⟩ | ⟨rfl, rfl, -⟩ | ⟨rfl, rfl, -⟩ | ⟨rfl, rfl, -⟩ | ⟨rfl, rfl, -⟩ | ⟨rfl, rfl, -⟩ | ⟨rfl, rfl, -⟩ <;> decide
theorem sP_3 {a b c : Int32} (h : sP a b c) : a = 3 ↔ (b = 2 ∧ c = 3) := by
  rcases h with ⟨rfl, rfl⟩ | ⟨rfl, rfl, -⟩ | ⟨rfl, rfl, -⟩ | ⟨rfl, rfl, h⟩ | ⟨rfl, rfl, -⟩ | ⟨rfl, rfl, -⟩ | ⟨rfl, rfl, -⟩ | ⟨rfl, rfl, -⟩ | ⟨rfl, rfl, -⟩
  · exact ⟨fun q => absurd q (by decide), fun q => absurd q.2 (by decide)⟩
  · exact ⟨fun q => absurd q (by decide), fun q => absurd q.2 (by decide)⟩
  · exact ⟨fun q => absurd q (by decide), fun q => absurd q.2 (by decide)⟩
  · exact ⟨fun _ => ⟨h, rfl⟩, fun _ => rfl⟩
  · exact ⟨fun q => absurd q (by decide), fun q => absurd q.2 (by decide)⟩
  · exact ⟨fun q => absurd q (by decide), fun q => absurd q.2 (by decide)⟩
  · exact ⟨fun q => absurd q (by decide), fun q => absurd q.2 (by decide)⟩
  · exact ⟨fun q => absurd q (by decide), fun q => absurd q.2 (by decide)⟩
  · exact ⟨fun q => absurd q (by decide), fun q => absurd q.2 (by decide)⟩
theorem sT_4 {T : Nat} {b c : Int32} : sT T 4 b c := ⟨fun q => absurd q (by decide), fun q => absurd q (by decide), fun q => absurd q (by decide)⟩
theorem sW_4 {mp wd cl lb ck cn bm ld ds pt wr wh lbm sm mk sc : Int32} : sW 4 mp wd cl lb ck cn bm ld ds pt wr wh lbm sm mk sc := fun q => absurd q (by decide)
theorem sQ_n {x a a' b : Int32} (h : sQ x a b) (ha : ¬ a = 0) : sQ x a' b := ⟨fun _ => h.1 ha, h.2⟩
theorem sQ_nz {a k : Int32} (h : a = k) (hk : ¬ k = 0) : ¬ a = 0 := fun q => hk (h.symm.trans q)
theorem sC_41 {b : Int32} (h : b = 4) : sC 4 b 1 := ⟨fun _ => Or.inl ⟨h, rfl⟩, fun q => absurd q (by decide)⟩
theorem sC_42 {b : Int32} (h : b = 2) : sC 4 b 2 := ⟨fun _ => Or.inr ⟨h, rfl⟩, fun q => absurd q (by decide)⟩
theorem sC_f1 {a b f : Int32} (h : sC a b f) (h0 : f = 0) (hn : ¬ (b = 4 ∧ a = 2)) : sC a b 1 := ⟨fun q => by rcases h.1 q with ⟨-, e⟩ | ⟨-, e⟩ <;> exact absurd (h0.symm.trans e) (by decide), fun q1 q2 => absurd ⟨q2, q1⟩ hn⟩
theorem sC_f2 {a b f : Int32} (h : sC a b f) (h0 : f = 0) : sC a b 2 := ⟨fun q => by rcases h.1 q with ⟨-, e⟩ | ⟨-, e⟩ <;> exact absurd (h0.symm.trans e) (by decide), fun _ _ q => absurd q (by decide)⟩
theorem sC_3 {b c : Int32} : sC 3 b c := ⟨fun q => absurd q (by decide), fun q => absurd q (by decide)⟩
theorem sC_5 {b c : Int32} : sC 5 b c := ⟨fun q => absurd q (by decide), fun q => absurd q (by decide)⟩
theorem sT_5 {T : Nat} : sT T 5 0 1 := ⟨fun q => absurd q (by decide), fun q => absurd q (by decide), fun _ => ⟨0, by decide, rfl, rfl⟩⟩
theorem sT_3 {T : Nat} : sT T 3 0 1 := ⟨fun q => absurd q (by decide), fun _ => ⟨0, by decide, rfl, rfl⟩, fun q => absurd q (by decide)⟩
theorem sW_3 {mp wd cl lb ck cn bm ld ds pt wr wh lbm sm mk sc : Int32} : sW 3 mp wd cl lb ck cn bm ld ds pt wr wh lbm sm mk sc := fun q => absurd q (by decide)
theorem sW_5 {mp wd cl lb ck cn bm ld ds pt wr wh lbm sm mk sc : Int32} : sW 5 mp wd cl lb ck cn bm ld ds pt wr wh lbm sm mk sc := fun q => absurd q (by decide)
/-- a field begins: of a kind, with a byte -/
theorem fR_begins {T : Nat} {z : fk_C} {y : fk_M} {b f : Int32} (h : fR T z y) (h7 : z.1 7 = 0) (hb : sB b) (e12 : z.1 12 = b) (h4 : z.1 4 = 1) (hf : f = 1 ∨ f = 2) :
    fR T (fX0_readOneCell_c1 (fX2_beginField_80 (upd (upd z.1 5 0) 7 f, z.2)).2 (fX2_beginField_80 (upd (upd z.1 5 0) 7 f, z.2)).1) (fX6_begins (upd (upd y.1 6 0) 5 1, y.2) f b) := by
  have hI' := mI_begins (z := (upd (upd y.1 6 0) 5 1, y.2)) (mI_of ⟨rfl, rfl, rfl, rfl, rfl, rfl, rfl⟩ h.1.1) f b
  obtain ⟨⟨hI, ⟨a0, a1, a2, a3, a4, a5, a7, a16, a17, a18, a19, a20, a21, a22, a25, a33, a34⟩, hbf, hby, hda, hD, hF, hP, hS, hT, hW, hQ⟩, hC⟩ := h
  have hS' : sS (z.1 4) (z.1 6) (y.1 7) := hS
  have k0 : sF f b 0 (c4 b) f (z.1 13) (z.1 14) (z.1 15) b 0 y.2.2.1 := Or.inr ⟨hf, rfl, hb, rfl, rfl, 0, by decide, by decide, rfl, fun i q => absurd q (Nat.not_lt_zero i), fun _ => ⟨fun q => absurd q (by decide), fun q => absurd q (by decide), fun q => absurd q (by decide)⟩⟩
  rw [c_b80]
  show fR T (fX0_readOneCell_c1 (upd (upd (upd (upd (upd (upd (upd (upd (upd (upd z.1 5 0) 7 f) 11 f) 8 (z.1 12)) 9 0) 10 65535) 10 (fX5_checkWith 65535 161)) 10 (fX5_checkWith (fX5_checkWith 65535 161) 161)) 10 (fX5_checkWith (fX5_checkWith (fX5_checkWith 65535 161) 161) 161)) 10 (c4 (z.1 12)), z.2) 1) _
  rw [c_c1_1, e12]
  generalize fX5_checkWith 65535 161 = g1
  generalize fX5_checkWith g1 161 = g2
  generalize fX5_checkWith g2 161 = g3
  generalize c4 b = g4 at k0 ⊢
  rcases hf with rfl | rfl
  · by_cases c : z.1 21 = 4 ∧ z.1 23 = 2
    · have c19 : y.1 19 = 2 := (sP_24 hP c.1).mp c.2
      rw [m_bg1 (y := (upd (upd y.1 6 0) 5 1, y.2)) (a21 ▸ c.1) c19] at hI' ⊢
      rw [c_ms1 (z := (upd (upd (upd (upd (upd (upd (upd (upd (upd (upd z.1 5 0) 7 1) 11 1) 8 b) 9 0) 10 65535) 10 g1) 10 g2) 10 g3) 10 g4, z.2)) rfl c.1 c.2]
      exact ⟨⟨hI', ⟨a0, a1, a2, a3, h4, rfl, rfl, a16, a17, a18, a19, a20, a21, a22, a25, a33, a34⟩, hbf, hby, hda, hD, k0, Or.inr (Or.inr (Or.inr (Or.inr (Or.inl ⟨rfl, rfl, Or.inr c.1⟩)))), hS', sT_4, sW_4, sQ_n (a' := 4) hQ (sQ_nz c.2 (by decide))⟩, sC_41 c.1⟩
    · have c' : ¬ (y.1 17 = 4 ∧ y.1 19 = 2) := fun q => c ⟨a21.trans q.1, (sP_24 hP (a21.trans q.1)).mpr q.2⟩
      rw [m_bg0 (y := (upd (upd y.1 6 0) 5 1, y.2)) c'] at hI' ⊢
      rw [c_ms0 (z := (upd (upd (upd (upd (upd (upd (upd (upd (upd (upd z.1 5 0) 7 1) 11 1) 8 b) 9 0) 10 65535) 10 g1) 10 g2) 10 g3) 10 g4, z.2)) rfl c]
      exact ⟨⟨hI', ⟨a0, a1, a2, a3, h4, rfl, rfl, a16, a17, a18, a19, a20, a21, a22, a25, a33, a34⟩, hbf, hby, hda, hD, k0, hP, hS', hT, hW, hQ⟩, sC_f1 hC h7 c⟩
  · by_cases c : z.1 23 = 3
    · have c3 := (sP_3 hP).mp c
      by_cases c8 : b = 248
      · rw [m_bg2 (y := (upd (upd y.1 6 0) 5 1, y.2)) (a21 ▸ c3.1) c3.2 c8] at hI' ⊢
        rw [c_ms2 (z := (upd (upd (upd (upd (upd (upd (upd (upd (upd (upd z.1 5 0) 7 2) 11 2) 8 b) 9 0) 10 65535) 10 g1) 10 g2) 10 g3) 10 g4, z.2)) rfl c c8]
        exact ⟨⟨hI', ⟨a0, a1, a2, a3, h4, rfl, rfl, a16, (by rw [a17] : z.1 17 ||| 32 = y.1 16 ||| 32), a18, a19, a20, a21, a22, a25, a33, a34⟩, hbf, hby, hda, hD, k0, Or.inr (Or.inr (Or.inr (Or.inr (Or.inl ⟨rfl, rfl, Or.inl c3.1⟩)))), hS', sT_4, sW_4, sQ_or (by decide) (by decide) (sQ_n (a' := 4) hQ (sQ_nz c (by decide)))⟩, sC_42 c3.1⟩
      · rw [m_bg2' (y := (upd (upd y.1 6 0) 5 1, y.2)) (a21 ▸ c3.1) c3.2 c8] at hI' ⊢
        rw [c_ms2' (z := (upd (upd (upd (upd (upd (upd (upd (upd (upd (upd z.1 5 0) 7 2) 11 2) 8 b) 9 0) 10 65535) 10 g1) 10 g2) 10 g3) 10 g4, z.2)) rfl c c8]
        exact ⟨⟨hI', ⟨a0, a1, a2, a3, h4, rfl, rfl, a16, a17, a18, a19, a20, a21, a22, a25, a33, a34⟩, hbf, hby, hda, hD, k0, Or.inr (Or.inr (Or.inr (Or.inr (Or.inl ⟨rfl, rfl, Or.inl c3.1⟩)))), hS', sT_4, sW_4, sQ_n (a' := 4) hQ (sQ_nz c (by decide))⟩, sC_42 c3.1⟩
    · have c' : ¬ (y.1 17 = 2 ∧ y.1 19 = 3) := fun q => c ((sP_3 hP).mpr ⟨a21.trans q.1, q.2⟩)
      rw [m_bg20 (y := (upd (upd y.1 6 0) 5 1, y.2)) c'] at hI' ⊢
      rw [c_ms20 (z := (upd (upd (upd (upd (upd (upd (upd (upd (upd (upd z.1 5 0) 7 2) 11 2) 8 b) 9 0) 10 65535) 10 g1) 10 g2) 10 g3) 10 g4, z.2)) rfl c]
      exact ⟨⟨hI', ⟨a0, a1, a2, a3, h4, rfl, rfl, a16, a17, a18, a19, a20, a21, a22, a25, a33, a34⟩, hbf, hby, hda, hD, k0, hP, hS', hT, hW, hQ⟩, sC_f2 hC h7⟩
