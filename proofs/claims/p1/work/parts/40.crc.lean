/-! bytes, words, checks as numbers -/
def sB (x : Int32) : Prop := ∃ n : Nat, n < 256 ∧ x = nI n
def sH (x : Int32) : Prop := ∃ n : Nat, n < 65536 ∧ x = nI n
def s01 (x : Int32) : Prop := x = 0 ∨ x = 1
theorem nI_xor (a b : Nat) : nI a ^^^ nI b = nI (a ^^^ b) := by
  apply Int32.toBitVec_inj.mp
  show BitVec.ofNat 32 a ^^^ BitVec.ofNat 32 b = BitVec.ofNat 32 (a ^^^ b)
  apply BitVec.eq_of_toNat_eq
  simp [BitVec.toNat_xor, BitVec.toNat_ofNat, Nat.xor_mod_two_pow]
theorem nI_or (a b : Nat) : nI a ||| nI b = nI (a ||| b) := by
  apply Int32.toBitVec_inj.mp
  show BitVec.ofNat 32 a ||| BitVec.ofNat 32 b = BitVec.ofNat 32 (a ||| b)
  apply BitVec.eq_of_toNat_eq
  simp [BitVec.toNat_or, BitVec.toNat_ofNat, Nat.or_mod_two_pow]
theorem nI_and (a b : Nat) : nI a &&& nI b = nI (a &&& b) := by
  apply Int32.toBitVec_inj.mp
  show BitVec.ofNat 32 a &&& BitVec.ofNat 32 b = BitVec.ofNat 32 (a &&& b)
  apply BitVec.eq_of_toNat_eq
  simp [BitVec.toNat_and, BitVec.toNat_ofNat, Nat.and_mod_two_pow]
theorem nI_shl1 {n : Nat} (h : n < 2 ^ 31) : nI n <<< ((1 : Int32) &&& 31) = nI (n * 2) := pk_shlN _ 1 (by decide) (by omega)
theorem nI_shl8 {n : Nat} (h : n < 2 ^ 24) : nI n <<< ((8 : Int32) &&& 31) = nI (n * 256) := pk_shlN _ 8 (by decide) (by omega)
/-- a step of the check -/
def tN (c : Nat) : Nat := if c * 2 < 65536 then c * 2 else ((c * 2) ^^^ 4129) % 65536
def tI (r : Nat) : Nat := if r % 2 = 0 then r / 2 else ((r ^^^ 4129) + 65536) / 2
theorem tN_lt (c : Nat) : tN c < 65536 := by
  unfold tN
  split
  · assumption
  · exact Nat.mod_lt _ (by decide)
set_option maxRecDepth 100000 in
theorem tI_tN' : ∀ h, h < 256 → ∀ l, l < 256 → tI (tN (h * 256 + l)) = h * 256 + l := by decide +kernel
theorem tI_tN {c : Nat} (h : c < 65536) : tI (tN c) = c := by
  have h1 := tI_tN' (c / 256) (by omega) (c % 256) (Nat.mod_lt _ (by decide))
  have h2 : c / 256 * 256 + c % 256 = c := by omega
  rw [h2] at h1
  exact h1
theorem tN_inj {a b : Nat} (ha : a < 65536) (hb : b < 65536) (h : tN a = tN b) : a = b := by
  rw [← tI_tN ha, ← tI_tN hb, h]
def tK : Nat → Nat → Nat
  | 0, c => c
  | n + 1, c => tK n (tN c)
theorem tK_lt : ∀ (n : Nat) {c : Nat}, c < 65536 → tK n c < 65536
  | 0, _, h => h
  | n + 1, c, _ => tK_lt n (tN_lt c)
theorem tK_inj : ∀ (n : Nat) {a b : Nat}, a < 65536 → b < 65536 → tK n a = tK n b → a = b
  | 0, _, _, _, _, h => h
  | n + 1, a, b, ha, hb, h => tN_inj ha hb (tK_inj n (tN_lt a) (tN_lt b) h)
theorem tK_8l : ∀ l, l < 256 → tK 8 l = l * 256 := by decide +kernel
theorem and65535 (n : Nat) : n &&& 65535 = n % 65536 := Nat.and_two_pow_sub_one_eq_mod n 16
theorem and255 (n : Nat) : n &&& 255 = n % 256 := Nat.and_two_pow_sub_one_eq_mod n 8
theorem and15 (n : Nat) : n &&& 15 = n % 16 := Nat.and_two_pow_sub_one_eq_mod n 4
theorem and1 (n : Nat) : n &&& 1 = n % 2 := Nat.and_two_pow_sub_one_eq_mod n 1
theorem and65536 {n : Nat} (h : n < 131072) : n &&& 65536 = if n < 65536 then 0 else 65536 := by
  have key : ∀ i, (n &&& 65536).testBit i = (n.testBit i && decide (16 = i)) := by
    intro i
    rw [Nat.testBit_and, show (65536 : Nat) = 2 ^ 16 from rfl, Nat.testBit_two_pow]
  by_cases c : n < 65536
  · rw [if_pos c]
    apply Nat.eq_of_testBit_eq
    intro i
    rw [key, Nat.zero_testBit]
    by_cases q : 16 = i
    · subst q
      rw [Nat.testBit_lt_two_pow (show n < 2 ^ 16 from c)]
      rfl
    · simp [q]
  · rw [if_neg c]
    apply Nat.eq_of_testBit_eq
    intro i
    rw [key, show (65536 : Nat) = 2 ^ 16 from rfl, Nat.testBit_two_pow]
    by_cases q : 16 = i
    · subst q
      have : n.testBit 16 = true := by
        rw [Nat.testBit_eq_decide_div_mod_eq]
        have : n / 2 ^ 16 % 2 = 1 := by omega
        simp [this]
      rw [this]
      rfl
    · simp [q]
theorem xor_eq0 {a b : Nat} (h : a ^^^ b = 0) : a = b := by
  have h1 : a ^^^ (a ^^^ b) = b := by rw [← Nat.xor_assoc, Nat.xor_self, Nat.zero_xor]
  rw [h, Nat.xor_zero] at h1
  exact h1
theorem cw9 : ∀ (n j c : Nat), j ≤ 8 → 8 + 1 ≤ j + n → c < 65536 → fX5_checkWith_9 n (nI c) (nI j) = nI (tK (8 - j) c) := by
  intro n
  induction n with
  | zero => intro j c h1 h2; omega
  | succ n ih =>
    intro j c h1 h2 hc
    rw [fX5_checkWith_9]
    by_cases hj : j = 8
    · subst hj
      rw [if_pos (show (8 : Int32) ≤ nI 8 from by decide)]
      rfl
    · rw [if_neg (show ¬ (8 : Int32) ≤ nI j from nI_ge (a := j) (b := 8) (by omega) (by decide))]
      rw [nI_shl1 (by omega), show (65536 : Int32) = nI 65536 from by decide, nI_and, and65536 (by omega)]
      have e8 : 8 - j = (8 - (j + 1)) + 1 := by omega
      unfold fX5_checkWith_32
      rw [show (65535 : Int32) = nI 65535 from by decide, show (4129 : Int32) = nI 4129 from by decide, nI_1 j, nI_xor, nI_and, nI_and, and65535, and65535]
      rw [e8]
      show _ = nI (tK (8 - (j + 1)) (tN c))
      by_cases hb : c * 2 < 65536
      · rw [if_pos hb, if_pos (show nI 0 = 0 from by decide), Nat.mod_eq_of_lt hb, ih (j + 1) (c * 2) (by omega) (by omega) hb]
        unfold tN
        rw [if_pos hb]
      · rw [if_neg hb, if_neg (show ¬ nI 65536 = 0 from by decide), ih (j + 1) _ (by omega) (by omega) (Nat.mod_lt _ (by decide))]
        unfold tN
        rw [if_neg hb]
theorem st9 : ∀ (n j c : Nat), j ≤ 8 → 8 + 1 ≤ j + n → c < 65536 → fX6_step_9 n (nI c) (nI j) = nI (tK (8 - j) c) := by
  intro n
  induction n with
  | zero => intro j c h1 h2; omega
  | succ n ih =>
    intro j c h1 h2 hc
    rw [fX6_step_9]
    by_cases hj : j = 8
    · subst hj
      rw [if_pos (show (8 : Int32) ≤ nI 8 from by decide)]
      rfl
    · rw [if_neg (show ¬ (8 : Int32) ≤ nI j from nI_ge (a := j) (b := 8) (by omega) (by decide))]
      have e8 : 8 - j = (8 - (j + 1)) + 1 := by omega
      unfold fX6_step_37
      rw [nI_shl1 (by omega), show (65535 : Int32) = nI 65535 from by decide, show (4129 : Int32) = nI 4129 from by decide, nI_1 j, nI_xor, nI_and, and65535]
      rw [e8]
      show _ = nI (tK (8 - (j + 1)) (tN c))
      by_cases hb : c * 2 < 65536
      · rw [if_pos ((nI_leI (a := c * 2) (b := 65535) (by omega) (by decide)).mpr (by omega)), ih (j + 1) (c * 2) (by omega) (by omega) hb]
        unfold tN
        rw [if_pos hb]
      · rw [if_neg (fun q => hb (by have := (nI_leI (a := c * 2) (b := 65535) (by omega) (by decide)).mp q; omega)), ih (j + 1) _ (by omega) (by omega) (Nat.mod_lt _ (by decide))]
        unfold tN
        rw [if_neg hb]
theorem xor_lt {c b : Nat} (hc : c < 65536) (hb : b < 256) : c ^^^ b * 256 < 65536 := Nat.xor_lt_two_pow (n := 16) (by omega) (by omega)
theorem cw_nI {c b : Nat} (hc : c < 65536) (hb : b < 256) : fX5_checkWith (nI c) (nI b) = nI (tK 8 (c ^^^ b * 256)) := by
  unfold fX5_checkWith
  rw [nI_shl8 (by omega), nI_xor]
  exact cw9 9 0 _ (by omega) (by omega) (xor_lt hc hb)
theorem st_nI {c b : Nat} (hc : c < 65536) (hb : b < 256) : fX6_step (nI c) (nI b) = nI (tK 8 (c ^^^ b * 256)) := by
  unfold fX6_step
  rw [nI_shl8 (by omega), nI_xor]
  exact st9 9 0 _ (by omega) (by omega) (xor_lt hc hb)
theorem st_cw {c b : Int32} (hc : sH c) (hb : sB b) : fX6_step c b = fX5_checkWith c b := by
  obtain ⟨n, hn, rfl⟩ := hc
  obtain ⟨m, hm, rfl⟩ := hb
  rw [st_nI hn hm, cw_nI hn hm]
theorem sH_cw {c b : Int32} (hc : sH c) (hb : sB b) : sH (fX5_checkWith c b) := by
  obtain ⟨n, hn, rfl⟩ := hc
  obtain ⟨m, hm, rfl⟩ := hb
  exact ⟨_, tK_lt 8 (xor_lt hn hm), cw_nI hn hm⟩
theorem nI_shr8 {n : Nat} (h : n < 2 ^ 31) : nI n >>> ((8 : Int32) &&& 31) = nI (n / 256) := pk_shrN h _ 8 (by decide)
/-- the check comes to 0 over its own two bytes just when they are right -/
theorem crc_right {c h l : Int32} (hc : sH c) (hh : sB h) (hl : sB l) : fX5_checkWith (fX5_checkWith c h) l = 0 ↔ (h = c >>> ((8 : Int32) &&& 31) ∧ l = c &&& 255) := by
  obtain ⟨n, hn, rfl⟩ := hc
  obtain ⟨a, ha, rfl⟩ := hh
  obtain ⟨b, hb, rfl⟩ := hl
  have hx := xor_lt hn ha
  have ht := tK_lt 8 hx
  rw [cw_nI hn ha, cw_nI ht hb, nI_shr8 (by omega), show (255 : Int32) = nI 255 from by decide, nI_and, and255, show (0 : Int32) = nI 0 from by decide,
    nI_eq (by have := tK_lt 8 (xor_lt ht hb); omega) (by decide), nI_eq (by omega) (by omega), nI_eq (by omega) (by omega)]
  constructor
  · intro h0
    have h1 : tK 8 (n ^^^ a * 256) ^^^ b * 256 = 0 := tK_inj 8 (xor_lt ht hb) (by decide) (by rw [h0]; decide)
    have h2 : tK 8 (n ^^^ a * 256) = b * 256 := xor_eq0 h1
    have h3 : n ^^^ a * 256 = b := tK_inj 8 hx (by omega) (by rw [h2, tK_8l b hb])
    have h4 : n = b ^^^ a * 256 := by rw [← h3, Nat.xor_assoc, Nat.xor_self, Nat.xor_zero]
    have h5 : b ^^^ a * 256 = a * 256 + b := by
      rw [Nat.xor_comm]
      have := Nat.two_pow_add_eq_or_of_lt (i := 8) hb a
      rw [show (2 : Nat) ^ 8 * a = a * 256 from by omega] at this
      rw [this]
      apply Nat.eq_of_testBit_eq
      intro i
      rw [Nat.testBit_xor, Nat.testBit_or]
      have hA : (a * 256).testBit i = (decide (8 ≤ i) && a.testBit (i - 8)) := by
        rw [show a * 256 = a * 2 ^ 8 from rfl, Nat.testBit_mul_two_pow]
      have hB : 8 ≤ i → b.testBit i = false := fun q => Nat.testBit_lt_two_pow (Nat.lt_of_lt_of_le hb (Nat.pow_le_pow_right (n := 2) (by decide) q))
      rw [hA]
      by_cases q : 8 ≤ i
      · simp [hB q]
      · simp [q]
    rw [h5] at h4
    omega
  · rintro ⟨h1, h2⟩
    have h4 : n ^^^ a * 256 = b := by
      have h5 : n = a * 256 ^^^ b := by
        apply Nat.eq_of_testBit_eq
        intro i
        rw [Nat.testBit_xor, show a * 256 = a * 2 ^ 8 from rfl, Nat.testBit_mul_two_pow, h1, h2, show (256 : Nat) = 2 ^ 8 from rfl, Nat.testBit_div_two_pow, Nat.testBit_mod_two_pow]
        by_cases q : 8 ≤ i
        · have : ¬ i < 8 := by omega
          simp [q, this, Nat.sub_add_cancel q, Nat.add_sub_cancel' q]
        · have : i < 8 := by omega
          simp [q, this]
      rw [h5, Nat.xor_comm (a * 256) b, Nat.xor_assoc, Nat.xor_self, Nat.xor_zero]
    rw [h4, tK_8l b hb, Nat.xor_self]
    decide
