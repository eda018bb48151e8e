/-! what holds of the reference's numbers between its steps -/
def mE (z w : fk_M) : Prop := w.1 2 = z.1 2 ∧ w.1 3 = z.1 3 ∧ w.1 8 = z.1 8 ∧ w.1 10 = z.1 10 ∧ w.1 12 = z.1 12 ∧ w.1 29 = z.1 29 ∧ w.1 30 = z.1 30
def mL (f d : Int32) : Nat := if f = 0 then 40 else if f = 1 then 6 else if d = 16 then 18 else 34
def mI (z : fk_M) : Prop := (∃ h : Nat, h < 4 ∧ z.1 2 = nI h) ∧ (∃ p : Nat, p < 2400 ∧ z.1 3 = nI p) ∧ (z.1 12 = 16 ∨ z.1 12 = 32) ∧ (∃ g : Nat, g < mL (z.1 8) (z.1 12) ∧ z.1 10 = nI g) ∧ ∃ b n : Nat, b ≤ 200 ∧ n ≤ b ∧ z.1 29 = nI b ∧ z.1 30 = nI n
theorem mE.rf (z : fk_M) : mE z z := ⟨rfl, rfl, rfl, rfl, rfl, rfl, rfl⟩
theorem mE.tr {a b c : fk_M} (h : mE a b) (k : mE b c) : mE a c := ⟨k.1.trans h.1, k.2.1.trans h.2.1, k.2.2.1.trans h.2.2.1, k.2.2.2.1.trans h.2.2.2.1, k.2.2.2.2.1.trans h.2.2.2.2.1, k.2.2.2.2.2.1.trans h.2.2.2.2.2.1, k.2.2.2.2.2.2.trans h.2.2.2.2.2.2⟩
theorem mI_of {z w : fk_M} (h : mE z w) (hI : mI z) : mI w := by
  obtain ⟨h1, h2, h3, h4, h5, h6, h7⟩ := h
  unfold mI
  rw [h1, h2, h3, h4, h5, h6, h7]
  exact hI
theorem mL_le (f d : Int32) : mL f d ≤ 40 := by
  unfold mL
  repeat' split
  all_goals omega
theorem mI_cell {z : fk_M} (hI : mI z) : vp_in (2400 * z.1 2 + z.1 3) 9600 := by
  obtain ⟨⟨h, hh, e1⟩, ⟨p, hp, e2⟩, -⟩ := hI
  rw [e1, e2, show (2400 : Int32) = nI 2400 from by decide, pk_mul, nI_add]
  exact vp_in_nI (by omega) (by decide)
theorem mI_got {z : fk_M} (hI : mI z) : vp_in (z.1 10) 40 := by
  obtain ⟨-, -, -, ⟨g, hg, e⟩, -⟩ := hI
  rw [e]
  exact vp_in_nI (Nat.lt_of_lt_of_le hg (mL_le _ _)) (by decide)
theorem mI_size {z : fk_M} (hI : mI z) : ∃ g : Nat, 2 ≤ g ∧ g ≤ 40 ∧ z.1 12 + 2 = nI g := by
  obtain ⟨-, -, h | h, -⟩ := hI
  · exact ⟨18, by omega, by omega, by rw [h]; decide⟩
  · exact ⟨34, by omega, by omega, by rw [h]; decide⟩
theorem mE_raise (z : fk_M) (a : Int32) : mE z (fX6_raise z a) := ⟨rfl, rfl, rfl, rfl, rfl, rfl, rfl⟩
theorem mE_drop (z : fk_M) (a : Int32) : mE z (fX6_drop z a) := ⟨rfl, rfl, rfl, rfl, rfl, rfl, rfl⟩
theorem mE_end (z : fk_M) : mE z (fX6_end z) := by
  unfold fX6_end fX6_end_c1 fX6_end_c2
  repeat' split
  all_goals exact ⟨rfl, rfl, rfl, rfl, rfl, rfl, rfl⟩
theorem mE_receive (z : fk_M) (a : Int32) : mE z (fX6_receive z a) := by
  unfold fX6_receive fX6_receive_c1
  split
  all_goals exact ⟨rfl, rfl, rfl, rfl, rfl, rfl, rfl⟩
theorem mE_ask (z : fk_M) : mE z (fX6_ask z).2 := by
  unfold fX6_ask fX6_ask_c1
  split
  all_goals exact ⟨rfl, rfl, rfl, rfl, rfl, rfl, rfl⟩
theorem mE_write (z : fk_M) (a : Int32) : mE z (fX6_write z a) := ⟨rfl, rfl, rfl, rfl, rfl, rfl, rfl⟩
theorem mE_sectorByte (z : fk_M) : mE z (fX6_sectorByte z) := by
  unfold fX6_sectorByte
  split
  · split
    · split
      · split <;> exact ⟨rfl, rfl, rfl, rfl, rfl, rfl, rfl⟩
      · split
        · split
          · exact ⟨rfl, rfl, rfl, rfl, rfl, rfl, rfl⟩
          · split <;> exact ⟨rfl, rfl, rfl, rfl, rfl, rfl, rfl⟩
        · refine (mE_ask z).tr ?_
          unfold fX6_sectorByte_c6
          split <;> exact ⟨rfl, rfl, rfl, rfl, rfl, rfl, rfl⟩
    · exact ⟨rfl, rfl, rfl, rfl, rfl, rfl, rfl⟩
  · exact ⟨rfl, rfl, rfl, rfl, rfl, rfl, rfl⟩
theorem mE_trackByte (z : fk_M) : mE z (fX6_trackByte z) := by
  unfold fX6_trackByte
  split
  · refine (mE_ask z).tr ?_
    unfold fX6_trackByte_c4 fX6_trackByte_c5 fX6_trackByte_43
    have h1 : ∀ (y : fk_M) (s x : Int32), mE y (fX6_trackByte_c1 (fX6_write y x) s x) := fun y s x => ⟨rfl, rfl, rfl, rfl, rfl, rfl, rfl⟩
    have h2 : ∀ (y : fk_M) (s x : Int32), mE y (fX6_trackByte_c2 (fX6_write y x) s) := fun y s x => ⟨rfl, rfl, rfl, rfl, rfl, rfl, rfl⟩
    have h3 : ∀ (y : fk_M) (s : Int32), mE y (fX6_trackByte_c3 (fX6_writeMark y) s) := fun y s => by
      unfold fX6_trackByte_c3
      split <;> exact ⟨rfl, rfl, rfl, rfl, rfl, rfl, rfl⟩
    repeat' split
    all_goals refine (mE_raise _ 2).tr ?_
    all_goals first | exact h3 _ _ | exact h2 _ _ _ | exact h1 _ _ _
  · exact ⟨rfl, rfl, rfl, rfl, rfl, rfl, rfl⟩
theorem mI_reset {z : fk_M} (hI : mI z) : mI (fX6_reset z) := by
  obtain ⟨h1, h2, h3, ⟨g, hg, e⟩, h5⟩ := hI
  exact ⟨h1, h2, h3, ⟨g, Nat.lt_of_lt_of_le hg (mL_le _ _), e⟩, h5⟩
theorem mI_startWriting {z : fk_M} (hI : mI z) (a : Int32) : mI (fX6_startWriting z a) := by
  unfold fX6_startWriting
  have h : mI (fX6_reset (upd z.1 19 a, z.2)) := mI_reset (mI_of ⟨rfl, rfl, rfl, rfl, rfl, rfl, rfl⟩ hI)
  exact mI_of ⟨rfl, rfl, rfl, rfl, rfl, rfl, rfl⟩ h
theorem mI_fieldUp {z : fk_M} (hI : mI z) (f b : Int32) : mI (upd (upd (upd z.1 8 f) 9 b) 10 0, z.2) := by
  obtain ⟨h1, h2, h3, -, h5⟩ := hI
  refine ⟨h1, h2, h3, ⟨0, ?_, rfl⟩, h5⟩
  unfold mL
  repeat' split
  all_goals omega
theorem mE_begins41 (z : fk_M) (a b : Int32) : mE z (fX6_begins_41 z a b) := by
  unfold fX6_begins_41
  repeat' split
  all_goals exact ⟨rfl, rfl, rfl, rfl, rfl, rfl, rfl⟩
theorem mI_begins {z : fk_M} (hI : mI z) (f b : Int32) : mI (fX6_begins z f b) := by
  unfold fX6_begins
  repeat' split
  all_goals refine mI_of ((mE.tr ?_ (mE_begins41 _ _ _))) (mI_fieldUp hI f b)
  all_goals exact ⟨rfl, rfl, rfl, rfl, rfl, rfl, rfl⟩
theorem mE_idOver168 (z : fk_M) (a : Int32) : mE z (fX6_idOver_168 z a) := by
  unfold fX6_idOver_168
  split <;> exact ⟨rfl, rfl, rfl, rfl, rfl, rfl, rfl⟩
theorem mE_idOver105 (z : fk_M) (a b : Int32) : mE z (fX6_idOver_105 z a b) := by
  unfold fX6_idOver_105
  split
  · exact mE.rf z
  · split
    · exact mE_raise _ _
    · refine (mE_drop z 8).tr ?_
      unfold fX6_idOver_c1
      repeat' split
      all_goals first | exact mE_idOver168 _ _ | exact mE.rf _
theorem mE_idOver60 (z : fk_M) (a : Int32) : mE z (fX6_idOver_60 z a) := by
  unfold fX6_idOver_60 fX6_idOver_84 fX6_idOver_100 fX6_idOver_104
  repeat' split
  all_goals exact mE_idOver105 _ _ _
theorem mE_idOver19 (z : fk_M) (a : Int32) : mE z (fX6_idOver_19 z a) := by
  unfold fX6_idOver_19 fX6_idOver_c2
  split
  · split
    · split
      · exact mE.tr (mE.tr ⟨rfl, rfl, rfl, rfl, rfl, rfl, rfl⟩ (mE_raise (upd z.1 14 (z.2.2.1 (0 : Int32).toNatClampNeg), z.2) 8)) (mE_end _)
      · exact mE.tr ⟨rfl, rfl, rfl, rfl, rfl, rfl, rfl⟩ (mE_end (upd z.1 14 (z.2.2.1 (0 : Int32).toNatClampNeg), z.2))
    · exact mE_idOver60 _ _
  · exact mE_idOver60 _ _
theorem fk_and1 (x : Int32) : x &&& 1 = 0 ∨ x &&& 1 = 1 := by
  obtain ⟨j, hj, e⟩ := pk_andE x (m := 1) 1 (by decide)
  rw [e]
  have : j = 0 ∨ j = 1 := by omega
  rcases this with rfl | rfl
  · exact Or.inl (by decide)
  · exact Or.inr (by decide)
theorem fk_ds (x : Int32) : (16 : Int32) <<< ((x &&& 1) &&& 31) = 16 ∨ (16 : Int32) <<< ((x &&& 1) &&& 31) = 32 := by
  rcases fk_and1 x with h | h <;> rw [h]
  · exact Or.inl (by decide)
  · exact Or.inr (by decide)
theorem mI_idOver {z : fk_M} (hI : mI z) (h0 : z.1 8 = 0) (a : Int32) : mI (fX6_idOver z a) := by
  unfold fX6_idOver
  split
  · exact mI_of (mE_idOver19 _ _) hI
  · refine mI_of (mE_idOver19 _ _) ?_
    obtain ⟨h1, h2, h3, ⟨g, hg, e⟩, h5⟩ := hI
    refine ⟨h1, h2, fk_ds _, ⟨g, ?_, e⟩, h5⟩
    show g < mL (z.1 8) _
    unfold mL at hg ⊢
    rw [if_pos h0] at hg ⊢
    exact hg
theorem mE_dataOver (z : fk_M) (a : Int32) : mE z (fX6_dataOver z a) := by
  unfold fX6_dataOver fX6_dataOver_c1
  split
  · split
    · split
      · exact (mE_raise z 8).tr (mE_end _)
      · exact mE_end _
    · exact mE.rf _
  · exact mE.rf _
/-- of a field that goes on: its size -/
def mZ (z : fk_M) (x : Int32) : Prop := x = if z.1 8 = 1 then 6 else z.1 12 + 2
theorem mI_comes173 {z : fk_M} {x : Int32} (h1 : ∃ h : Nat, h < 4 ∧ z.1 2 = nI h) (h2 : ∃ p : Nat, p < 2400 ∧ z.1 3 = nI p) (h3 : z.1 12 = 16 ∨ z.1 12 = 32) (h4 : ∃ g : Nat, g < mL (z.1 8) (z.1 12) ∧ z.1 10 = nI g + 1) (h5 : ∃ b n : Nat, b ≤ 200 ∧ n ≤ b ∧ z.1 29 = nI b ∧ z.1 30 = nI n) (h8 : ¬ z.1 8 = 0) (hx : mZ z x) : mI (fX6_comes_173 z x) := by
  obtain ⟨g, hg, e⟩ := h4
  rw [nI_1] at e
  have hL : g < 40 := Nat.lt_of_lt_of_le hg (mL_le _ _)
  unfold fX6_comes_173
  split
  · rename_i c
    have hI : mI (upd (upd z.1 8 0) 5 0, z.2) := by
      refine ⟨h1, h2, h3, ⟨g + 1, ?_, e⟩, h5⟩
      show g + 1 < mL 0 _
      have : g + 1 < 40 := by
        unfold mL at hg
        rw [if_neg h8] at hg
        split at hg
        · omega
        · split at hg <;> omega
      exact this
    split
    · exact mI_idOver hI rfl _
    · exact mI_of (mE_dataOver _ _) hI
  · rename_i c
    refine ⟨h1, h2, h3, ⟨g + 1, ?_, e⟩, h5⟩
    have hne : ∀ N : Nat, N < 2 ^ 31 → x = nI N → g + 1 ≠ N := fun N _ hN hh => c (by rw [e, hN, hh])
    unfold mL at hg ⊢
    unfold mZ at hx
    rw [if_neg h8] at hg ⊢
    split at hg
    · rename_i c1
      rw [if_pos c1] at hx ⊢
      have := hne 6 (by decide) hx
      omega
    · rename_i c1
      rw [if_neg c1] at hx ⊢
      split at hg
      · rename_i c2
        rw [if_pos c2]
        rw [c2] at hx
        have := hne 18 (by decide) (hx.trans (by decide))
        omega
      · rename_i c2
        rw [if_neg c2]
        have c3 : z.1 12 = 32 := h3.resolve_left c2
        rw [c3] at hx
        have := hne 34 (by decide) (hx.trans (by decide))
        omega
theorem mI_comes {z : fk_M} (hI : mI z) (b : Int32) : mI (fX6_comes z b) := by
  unfold fX6_comes
  by_cases c : z.1 8 = 0
  · rw [if_pos c]
    have k1 : mI (upd (upd z.1 6 0) 5 0, z.2) := mI_of ⟨rfl, rfl, rfl, rfl, rfl, rfl, rfl⟩ hI
    have k2 : ∀ f, mI (fX6_begins (upd (upd z.1 6 0) 5 1, z.2) f b) := fun f => mI_begins (z := (upd (upd z.1 6 0) 5 1, z.2)) (mI_of ⟨rfl, rfl, rfl, rfl, rfl, rfl, rfl⟩ hI) f b
    repeat' split
    all_goals first | exact k1 | exact k2 _
  · rw [if_neg c]
    obtain ⟨h1, h2, h3, ⟨g, hg, e⟩, h5⟩ := hI
    have key : ∀ x : Int32, x = (if z.1 8 = 1 then 6 else z.1 12 + 2) → mI (fX6_comes_140 (upd z.1 10 ((z.1 10) + 1), z.2.1, upd z.2.2.1 (z.1 10).toNatClampNeg b, z.2.2.2) b x) := by
      intro x hx
      have k3 : mI (fX6_comes_173 (upd z.1 10 ((z.1 10) + 1), z.2.1, upd z.2.2.1 (z.1 10).toNatClampNeg b, z.2.2.2) x) := mI_comes173 h1 h2 h3 ⟨g, hg, by rw [← e]; rfl⟩ h5 c hx
      have k4 : mI (fX6_comes_168 (upd z.1 10 ((z.1 10) + 1), z.2.1, upd z.2.2.1 (z.1 10).toNatClampNeg b, z.2.2.2) b x) := by
        unfold fX6_comes_168 fX6_comes_c1
        obtain ⟨e1, e2, e3, e4, e5, e6, e7⟩ := mE_receive (upd z.1 10 ((z.1 10) + 1), z.2.1, upd z.2.2.1 (z.1 10).toNatClampNeg b, z.2.2.2) b
        refine mI_comes173 (by rw [e1]; exact h1) (by rw [e2]; exact h2) (by rw [e5]; exact h3) ⟨g, by rw [e3, e5]; exact hg, by rw [e4, ← e]; rfl⟩ (by rw [e6, e7]; exact h5) (by rw [e3]; exact c) ?_
        unfold mZ
        rw [e3, e5]
        exact hx
      unfold fX6_comes_140
      repeat' split
      all_goals first | exact k3 | exact k4
    split
    · rename_i c1
      exact key 6 (by rw [if_pos c1])
    · rename_i c1
      exact key _ (by rw [if_neg c1])
theorem mI_readCell97 {z : fk_M} (hI : mI z) : mI (fX6_readCell_97 z) := by
  unfold fX6_readCell_97
  split
  · exact hI
  · split
    · exact mI_comes (z := (upd z.1 7 0, z.2)) (mI_of ⟨rfl, rfl, rfl, rfl, rfl, rfl, rfl⟩ hI) _
    · exact hI
theorem mI_readCell33 {z : fk_M} (hI : mI z) (x y : Int32) : mI (fX6_readCell_33 z x y) := by
  have h0 : mI (upd (upd z.1 4 ((x ||| y) &&& 65535)) 7 ((z.1 7) + 1), z.2) := mI_of ⟨rfl, rfl, rfl, rfl, rfl, rfl, rfl⟩ hI
  have h1 := mI_readCell97 h0
  have h2 : mI (fX6_readCell_74 (upd (upd z.1 4 ((x ||| y) &&& 65535)) 7 ((z.1 7) + 1), z.2)) := mI_of ⟨rfl, rfl, rfl, rfl, rfl, rfl, rfl⟩ h0
  unfold fX6_readCell_33
  split
  · split
    · exact h2
    · split
      · exact h2
      · exact h1
  · exact h1
theorem mI_readCell {z : fk_M} (hI : mI z) : mI (fX6_readCell z) := by
  unfold fX6_readCell
  split
  · exact mI_readCell33 hI _ _
  · exact mI_readCell33 hI _ _
theorem mE_writeCell27 (z : fk_M) : mE z (fX6_writeCell_27 z) := by
  have h : ∀ (y : fk_M) (s : Int32), mE y (fX6_writeCell_88 y s) := by
    intro y s
    unfold fX6_writeCell_88
    split
    · split
      · split
        · exact mE.tr ⟨rfl, rfl, rfl, rfl, rfl, rfl, rfl⟩ (mE_end (upd y.1 23 s, y.2))
        · exact ⟨rfl, rfl, rfl, rfl, rfl, rfl, rfl⟩
      · exact ⟨rfl, rfl, rfl, rfl, rfl, rfl, rfl⟩
    · exact ⟨rfl, rfl, rfl, rfl, rfl, rfl, rfl⟩
  unfold fX6_writeCell_27 fX6_writeCell_67
  repeat' split
  all_goals exact mE.tr ⟨rfl, rfl, rfl, rfl, rfl, rfl, rfl⟩ (h _ _)
theorem mI_writeCell {z : fk_M} (hI : mI z) : mI (fX6_writeCell z) := by
  unfold fX6_writeCell fX6_writeCell_c1 fX6_writeCell_c2
  repeat' split
  · exact mI_of ((mE_sectorByte z).tr (mE_writeCell27 _)) hI
  · exact mI_of ((mE_trackByte z).tr (mE_writeCell27 _)) hI
  · exact mI_of (mE_writeCell27 _) hI
theorem mI_index {z : fk_M} (hI : mI z) : mI (fX6_index z) := by
  have h0 : mI (upd z.1 21 ((z.1 21) + 1), z.2) := mI_of ⟨rfl, rfl, rfl, rfl, rfl, rfl, rfl⟩ hI
  have h1 : ∀ a, mI (fX6_end (fX6_raise (upd z.1 21 ((z.1 21) + 1), z.2) a)) := fun a => mI_of ((mE_raise _ a).tr (mE_end _)) h0
  unfold fX6_index
  split
  · exact mI_of (mE_end _) h0
  · split
    · split
      · exact mI_startWriting h0 8
      · exact h1 4
    · split
      · split
        · exact h1 16
        · split
          · exact h1 16
          · exact h0
      · exact h0
theorem mI_stepHead60 {z : fk_M} (hI : mI z) (s : Int32) : mI (fX6_stepHead_60 z s) := by
  unfold fX6_stepHead_60
  split
  · exact mI_of ⟨rfl, rfl, rfl, rfl, rfl, rfl, rfl⟩ hI
  · rename_i c1
    split
    · rename_i c2
      obtain ⟨-, h2⟩ := hI
      obtain ⟨j, hj, e⟩ := nI_of2 (M := 3) (n := 3) (by decide) c1 c2
      exact ⟨⟨j, by omega, e⟩, h2⟩
    · exact mI_of ⟨rfl, rfl, rfl, rfl, rfl, rfl, rfl⟩ hI
theorem mI_stepHead26 {z : fk_M} (hI : mI z) : mI (fX6_stepHead_26 z) := by
  unfold fX6_stepHead_26
  split
  · exact mI_of (mE_end _) hI
  · split
    · exact mI_stepHead60 hI _
    · exact mI_stepHead60 hI _
theorem mI_stepHead {z : fk_M} (hI : mI z) : mI (fX6_stepHead z) := by
  unfold fX6_stepHead
  split
  · split
    · exact mI_of (mE.tr ⟨rfl, rfl, rfl, rfl, rfl, rfl, rfl⟩ (mE_end (upd z.1 13 0, z.2))) hI
    · exact mI_stepHead26 hI
  · exact mI_stepHead26 hI
theorem mI_later {z : fk_M} (hI : mI z) : mI (fX6_later z) := by
  have h0 : mI (upd z.1 20 ((z.1 20) + 1), z.2) := mI_of ⟨rfl, rfl, rfl, rfl, rfl, rfl, rfl⟩ hI
  have h1 : mI (fX6_later_110 z) := by
    unfold fX6_later_110
    split
    · exact mI_of ⟨rfl, rfl, rfl, rfl, rfl, rfl, rfl⟩ (mI_startWriting hI 6)
    · exact h0
  unfold fX6_later
  split
  · split
    · exact mI_stepHead h0
    · exact h0
  · split
    · split
      · exact mI_of ⟨rfl, rfl, rfl, rfl, rfl, rfl, rfl⟩ hI
      · exact mI_of ⟨rfl, rfl, rfl, rfl, rfl, rfl, rfl⟩ hI
    · split
      · split
        · split
          · exact h1
          · exact mI_of (((mE_raise z 4).tr (mE_end _)).tr ⟨rfl, rfl, rfl, rfl, rfl, rfl, rfl⟩) hI
        · exact h1
      · exact hI
theorem mI_place {z : fk_M} (hI : mI z) (h : ¬ z.1 3 + 1 = 2400) : mI (upd z.1 3 ((z.1 3) + 1), z.2) := by
  obtain ⟨h1, ⟨p, hp, e⟩, h3⟩ := hI
  refine ⟨h1, ⟨p + 1, ?_, ?_⟩, h3⟩
  · have : p + 1 ≠ 2400 := fun q => h (by rw [e, nI_1, q]; decide)
    omega
  · show z.1 3 + 1 = _
    rw [e, nI_1]
theorem mI_place0 {z : fk_M} (hI : mI z) (x : Int32) : mI (upd (upd z.1 3 x) 3 0, z.2) := by
  obtain ⟨h1, -, h3⟩ := hI
  exact ⟨h1, ⟨0, by omega, rfl⟩, h3⟩
theorem mI_pass39 {z : fk_M} (hI : mI z) {kont : fk_M → Int32 → Int32 → Int32 × fk_M} (hk : ∀ y a b, mI y → mI (kont y a b).2) (a b : Int32) : mI (fX6_pass_39 kont z a b).2 := by
  unfold fX6_pass_39 fX6_pass_c1 fX6_pass_71
  split
  · exact hk _ _ _ (mI_index (mI_place0 hI _))
  · rename_i c
    exact hk _ _ _ (mI_place hI c)
theorem mI_pass4 : ∀ (n : Nat) (z : fk_M) (a b : Int32), mI z → mI (fX6_pass_4 n z a b).2 := by
  intro n
  induction n with
  | zero => intro z a b hI; exact hI
  | succ n ih =>
    intro z a b hI
    rw [fX6_pass_4]
    repeat' split
    · exact mI_later hI
    · exact mI_pass39 (mI_writeCell hI) ih a b
    · exact mI_pass39 (mI_writeCell hI) ih a b
    · exact mI_pass39 (mI_readCell hI) ih a b
theorem mI_pass {z : fk_M} (hI : mI z) : mI (fX6_pass z).2 := mI_pass4 17 z 0 0 hI
theorem fk_vn {x : Int32} (h : x = 0 ∨ x = 1) : vp_nar .boolean x = x := by rcases h with rfl | rfl <;> decide
theorem fk_in5 {a b : Int32} (h1 : ¬ a < 0) (h2 : ¬ 3 < a) (h3 : ¬ b < 0) (h4 : b < 2400) : vp_in (2400 * a + b) 9600 := by
  obtain ⟨i, hi, rfl⟩ := nI_of h1
  have hi4 : i ≤ 3 := by
    rcases Nat.lt_or_ge 3 i with q | q
    · exact absurd ((nI_ltI (a := 3) (b := i) (by decide) hi).mpr q) h2
    · exact q
  obtain ⟨j, hj, rfl⟩ := fk_of (N := 2400) (by decide) h3 h4
  rw [show (2400 : Int32) = nI 2400 from by decide, pk_mul, nI_add]
  exact vp_in_nI (by omega) (by decide)
theorem fk_in6 {a b c : Int32} {n : Nat} (h1 : ¬ a < 0) (h2 : ¬ 3 < a) (h3 : ¬ b < 0) (h4 : b < 150) (h5 : c = nI n) (h6 : n < 16) : vp_in (2400 * a + 16 * b + c) 9600 := by
  obtain ⟨i, hi, rfl⟩ := nI_of h1
  have hi4 : i ≤ 3 := by
    rcases Nat.lt_or_ge 3 i with q | q
    · exact absurd ((nI_ltI (a := 3) (b := i) (by decide) hi).mpr q) h2
    · exact q
  obtain ⟨j, hj, rfl⟩ := fk_of (N := 150) (by decide) h3 h4
  rw [h5, show (2400 : Int32) = nI 2400 from by decide, show (16 : Int32) = nI 16 from by decide, pk_mul, pk_mul, nI_add, nI_add]
  exact vp_in_nI (by omega) (by decide)
