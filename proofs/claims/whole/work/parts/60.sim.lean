/-! THE RELATION between the class's state and the reference's -/
def cN (c : Int32) (f : Nat → Int32) : Nat → Int32
  | 0 => c
  | n + 1 => fX5_checkWith (cN c f n) (f n)
def c4 (b : Int32) : Int32 := fX5_checkWith (fX5_checkWith (fX5_checkWith (fX5_checkWith 65535 161) 161) 161) b
def sA (u v : Nat → Int32) : Prop := u 0 = v 1 ∧ u 1 = v 2 ∧ u 2 = v 3 ∧ u 3 = v 4 ∧ u 4 = v 5 ∧ u 5 = v 6 ∧ u 7 = v 8 ∧ u 16 = v 12 ∧ u 17 = v 16 ∧ u 18 = v 13 ∧ u 19 = v 14 ∧ u 20 = v 15 ∧ u 21 = v 17 ∧ u 22 = v 18 ∧ u 25 = v 21 ∧ u 33 = v 29 ∧ u 34 = v 30
/-- a field that goes on -/
def sF (fl st cnt chk lf iT iS iL bg gt : Int32) (f : Nat → Int32) : Prop := fl = 0 ∨ ((fl = 1 ∨ fl = 2) ∧ lf = fl ∧ sB st ∧ bg = st ∧ gt = cnt ∧ ∃ g : Nat, g < 40 ∧ cnt = nI g ∧ chk = cN (c4 st) f g ∧ (∀ i, i < g → sB (f i)) ∧ (fl = 1 → (0 < g → iT = f 0) ∧ (2 < g → iS = f 2) ∧ (3 < g → iL = f 3)))
/-- what the command does -/
def sP (ph lt mp : Int32) : Prop := (ph = 0 ∧ mp = 0) ∨ (ph = 1 ∧ mp = 1 ∧ (lt = 0 ∨ lt = 1)) ∨ (ph = 2 ∧ mp = 2 ∧ (lt = 2 ∨ lt = 3 ∨ lt = 4)) ∨ (ph = 3 ∧ mp = 3 ∧ lt = 2) ∨ (ph = 4 ∧ mp = 4 ∧ (lt = 2 ∨ lt = 4)) ∨ (ph = 5 ∧ mp = 5 ∧ lt = 3) ∨ (ph = 6 ∧ mp = 6 ∧ lt = 3) ∨ (ph = 6 ∧ mp = 8 ∧ lt = 5) ∨ (ph = 7 ∧ mp = 7 ∧ lt = 5)
def sC (ph lt fl : Int32) : Prop := (ph = 4 → (lt = 4 ∧ fl = 1) ∨ (lt = 2 ∧ fl = 2)) ∧ (ph = 2 → lt = 4 → ¬ fl = 1)
/-- cells since the last mark or byte -/
def sS (st cs si : Int32) : Prop := st = 0 ∨ (st = 1 ∧ ∃ k : Nat, k < 16 ∧ cs = nI k ∧ si = nI k)
/-- byte times -/
def sT (T : Nat) (ph bt ct : Int32) : Prop := (ph = 1 → ∃ k : Nat, k ≤ T ∧ ct = nI k ∧ bt = nI (k % 3)) ∧ (ph = 3 → ∃ k : Nat, k < 31 ∧ bt = nI k ∧ ct = nI (k + 1)) ∧ (ph = 5 → ∃ k : Nat, k < 11 ∧ bt = nI k ∧ ct = nI (k + 1))
/-- the writer, the cells of the word apart -/
def sV (mp lb ck cn bm ld ds wh lbm sm mk sc : Int32) (e : Bool) : Prop := lb = lbm ∧ s01 lb ∧ sH ck ∧ sH sm ∧ (mp = 8 → ck = sm ∧ bm = mk ∧ s01 bm ∧ ((ld = 0 ∧ sc = (-1)) ∨ (ld = 1 ∧ sc = ck &&& 255 ∧ bm = 0))) ∧ (mp = 6 → ∃ w D : Nat, (D = 16 ∨ D = 32) ∧ ds = nI D ∧ cn = nI w ∧ wh = nI w ∧ w ≤ D + 11 ∧ (e = true → w ≤ D + 10) ∧ (w ≤ 4 → sm = 65535 ∧ bm = 0) ∧ (5 ≤ w → w ≤ D + 10 → ck = sm) ∧ (w = 5 ∨ w = 6 → bm = 1) ∧ ld = (if w = D + 9 then 1 else 0))
def sW (ph mp wd cl lb ck cn bm ld ds pt wr wh lbm sm mk sc : Int32) : Prop := ph = 6 → (cl = 0 ∧ wr = 0 ∧ sV mp lb ck cn bm ld ds wh lbm sm mk sc true) ∨ ((∃ k : Nat, 0 < k ∧ k < 16 ∧ wr = nI k ∧ cl = nI (16 - k) ∧ wd = pt) ∧ sV mp lb ck cn bm ld ds wh lbm sm mk sc false)
/-- the disk's cells -/
def sD (w c : Nat → Int32) : Prop := ∀ t p : Nat, t < 4 → p < 2400 → ∃ W : Nat, W < 65536 ∧ w (150 * t + p / 16) = nI W ∧ c (2400 * t + p) = nI (W / 2 ^ (15 - p % 16) % 2)
def sQ (st ph lt : Int32) : Prop := (¬ ph = 0 → ¬ st &&& 1 = 0) ∧ (st &&& 2 = 0 ∨ lt = 2 ∨ lt = 3 ∨ lt = 4 ∨ lt = 5)
/-- all but what a command that reads knows of the field -/
def fQ (T : Nat) (z : fk_C) (y : fk_M) : Prop := mI y ∧ sA z.1 y.1 ∧ z.2.2 = y.2.2.2 ∧ (∀ i, sB (z.2.2 i)) ∧ sB (z.1 20) ∧ sD z.2.1 y.2.1 ∧ sF (z.1 7) (z.1 8) (z.1 9) (z.1 10) (z.1 11) (z.1 13) (z.1 14) (z.1 15) (y.1 9) (y.1 10) y.2.2.1 ∧ sP (z.1 23) (z.1 21) (y.1 19) ∧ sS (z.1 4) (z.1 6) (y.1 7) ∧ sT T (z.1 23) (z.1 24) (y.1 20) ∧ sW (z.1 23) (y.1 19) (z.1 26) (z.1 27) (z.1 28) (z.1 29) (z.1 30) (z.1 31) (z.1 32) (z.1 16) (y.1 22) (y.1 23) (y.1 24) (y.1 25) (y.1 26) (y.1 27) (y.1 28) ∧ sQ (z.1 17) (z.1 23) (z.1 21)
def fR (T : Nat) (z : fk_C) (y : fk_M) : Prop := fQ T z y ∧ sC (z.1 23) (z.1 21) (z.1 7)
theorem fR_mI {T : Nat} {z : fk_C} {y : fk_M} (h : fR T z y) : mI y := h.1.1
theorem sT_up {T U : Nat} (hU : T ≤ U) {a b c : Int32} (h : sT T a b c) : sT U a b c := ⟨fun q => by obtain ⟨k, h1, h2⟩ := h.1 q; exact ⟨k, by omega, h2⟩, h.2⟩
theorem fQ_up {T U : Nat} (hU : T ≤ U) {z : fk_C} {y : fk_M} (h : fQ T z y) : fQ U z y := by
  obtain ⟨h1, h2, h3, h4, h5, h6, h7, h8, h9, h10, h11⟩ := h
  exact ⟨h1, h2, h3, h4, h5, h6, h7, h8, h9, sT_up hU h10, h11⟩
theorem fR_up {T : Nat} {z : fk_C} {y : fk_M} (h : fR T z y) : fR (T + 200) z y := ⟨fQ_up (by omega) h.1, h.2⟩
/-! numbers of the status -/
theorem st_m4 (x : Int32) : (x &&& (1 ^^^ (-1))) &&& (2 ^^^ (-1)) = x &&& (-4) := by
  rw [Int32.and_assoc, show ((1 : Int32) ^^^ (-1)) &&& (2 ^^^ (-1)) = -4 from by decide]
theorem st_42 (x : Int32) : (x &&& (-4)) &&& 2 = 0 := by
  rw [Int32.and_assoc, show ((-4 : Int32)) &&& 2 = 0 from by decide, Int32.and_zero]
theorem st_or {x m k : Int32} (h : m &&& k = 0) : (x ||| m) &&& k = x &&& k := by
  apply Int32.toBitVec_inj.mp
  have h' : m.toBitVec &&& k.toBitVec = 0#32 := by rw [← Int32.toBitVec_and, h]; rfl
  rw [Int32.toBitVec_and, Int32.toBitVec_or, Int32.toBitVec_and]
  apply BitVec.eq_of_getLsbD_eq
  intro i hi
  have hb : (m.toBitVec &&& k.toBitVec).getLsbD i = false := by rw [h']; simp
  simp only [BitVec.getLsbD_and, BitVec.getLsbD_or] at hb ⊢
  cases h1 : k.toBitVec.getLsbD i <;> simp_all
theorem st_and {x m k : Int32} (h : m &&& k = k) : (x &&& m) &&& k = x &&& k := by rw [Int32.and_assoc, h]
theorem sQ_or {x m a b : Int32} (h1 : m &&& 1 = 0) (h2 : m &&& 2 = 0) (h : sQ x a b) : sQ (x ||| m) a b := ⟨fun q => by rw [st_or h1]; exact h.1 q, by rw [st_or h2]; exact h.2⟩
theorem sQ_or2 {x a b : Int32} (hb : b = 2 ∨ b = 3 ∨ b = 4 ∨ b = 5) (h : sQ x a b) : sQ (x ||| 2) a b := ⟨fun q => by rw [st_or (by decide)]; exact h.1 q, Or.inr hb⟩
theorem sQ_and {x m a b : Int32} (h1 : m &&& 1 = 1) (h2 : m &&& 2 = 2) (h : sQ x a b) : sQ (x &&& m) a b := ⟨fun q => by rw [st_and h1]; exact h.1 q, by rw [st_and h2]; exact h.2⟩
theorem sQ_m3 {x a b : Int32} (h : sQ x a b) : sQ (x &&& (-3)) a b := ⟨fun q => by rw [st_and (by decide)]; exact h.1 q, Or.inl (by rw [Int32.and_assoc, show ((-3 : Int32)) &&& 2 = 0 from by decide, Int32.and_zero])⟩
/-! ends -/
theorem c_end6 {z : fk_C} (h : z.1 23 = 6) : fX0_end z = (upd (upd (upd z.1 17 (z.1 17 &&& (-4))) 3 0) 23 0, z.2) := by
  unfold fX0_end
  rw [if_pos h]
  rfl
theorem c_endN {z : fk_C} (h : ¬ z.1 23 = 6) : fX0_end z = (upd (upd z.1 17 (z.1 17 &&& (-4))) 23 0, z.2) := by
  unfold fX0_end
  rw [if_neg h]
theorem m_end6 {y : fk_M} (h : y.1 19 = 6 ∨ y.1 19 = 8) : fX6_end y = (upd (upd (upd (upd y.1 16 (y.1 16 &&& (1 ^^^ (-1)))) 16 ((y.1 16 &&& (1 ^^^ (-1))) &&& (2 ^^^ (-1)))) 4 0) 19 0, y.2) := by
  show fX6_end_c2 (fX6_drop (fX6_drop y 1) 2) = _
  unfold fX6_end_c2
  rcases h with h | h
  · rw [if_pos (show (fX6_drop (fX6_drop y 1) 2).1 19 = 6 from h)]
    rfl
  · rw [if_neg (show ¬ (fX6_drop (fX6_drop y 1) 2).1 19 = 6 from fun q => absurd (h.symm.trans q) (by decide)), if_pos (show (fX6_drop (fX6_drop y 1) 2).1 19 = 8 from h)]
    rfl
theorem m_endN {y : fk_M} (h6 : ¬ y.1 19 = 6) (h8 : ¬ y.1 19 = 8) : fX6_end y = (upd (upd (upd y.1 16 (y.1 16 &&& (1 ^^^ (-1)))) 16 ((y.1 16 &&& (1 ^^^ (-1))) &&& (2 ^^^ (-1)))) 19 0, y.2) := by
  show fX6_end_c2 (fX6_drop (fX6_drop y 1) 2) = _
  unfold fX6_end_c2
  rw [if_neg (show ¬ (fX6_drop (fX6_drop y 1) 2).1 19 = 6 from h6), if_neg (show ¬ (fX6_drop (fX6_drop y 1) 2).1 19 = 8 from h8)]
  rfl
theorem sP_6 {a b c : Int32} (h : sP a b c) : a = 6 ↔ (c = 6 ∨ c = 8) := by
  rcases h with ⟨rfl, rfl⟩ | ⟨rfl, rfl, -⟩ | ⟨rfl, rfl, -⟩ | ⟨rfl, rfl, -⟩ | ⟨rfl, rfl, -⟩ | ⟨rfl, rfl, -⟩ | ⟨rfl, rfl, -⟩ | ⟨rfl, rfl, -⟩ | ⟨rfl, rfl, -⟩ <;> decide
theorem sC_0 {b c : Int32} : sC 0 b c := ⟨fun q => absurd q (by decide), fun q => absurd q (by decide)⟩
theorem sT_0 {T : Nat} {b c : Int32} : sT T 0 b c := ⟨fun q => absurd q (by decide), fun q => absurd q (by decide), fun q => absurd q (by decide)⟩
theorem sW_0 {mp wd cl lb ck cn bm ld ds pt wr wh lbm sm mk sc : Int32} : sW 0 mp wd cl lb ck cn bm ld ds pt wr wh lbm sm mk sc := fun q => absurd q (by decide)
theorem fR_end {T : Nat} {z : fk_C} {y : fk_M} (h : fQ T z y) : fR T (fX0_end z) (fX6_end y) := by
  have hI' := mI_of (mE_end y) h.1
  obtain ⟨hI, ⟨a0, a1, a2, a3, a4, a5, a7, a16, a17, a18, a19, a20, a21, a22, a25, a33, a34⟩, hbf, hby, hda, hD, hF, hP, hS, hT, hW, hQ⟩ := h
  have e17 : z.1 17 &&& (-4) = (y.1 16 &&& (1 ^^^ (-1))) &&& (2 ^^^ (-1)) := by rw [st_m4, a17]
  have q' : sQ (z.1 17 &&& (-4)) 0 (z.1 21) := ⟨fun q => absurd rfl q, Or.inl (st_42 _)⟩
  by_cases c : z.1 23 = 6
  · have c' := (sP_6 hP).mp c
    rw [m_end6 c'] at hI' ⊢
    rw [c_end6 c]
    exact ⟨⟨hI', ⟨a0, a1, a2, rfl, a4, a5, a7, a16, e17, a18, a19, a20, a21, a22, a25, a33, a34⟩, hbf, hby, hda, hD, hF, Or.inl ⟨rfl, rfl⟩, hS, sT_0, sW_0, q'⟩, sC_0⟩
  · have c6 : ¬ y.1 19 = 6 := fun q => c ((sP_6 hP).mpr (Or.inl q))
    have c8 : ¬ y.1 19 = 8 := fun q => c ((sP_6 hP).mpr (Or.inr q))
    rw [m_endN c6 c8] at hI' ⊢
    rw [c_endN c]
    exact ⟨⟨hI', ⟨a0, a1, a2, a3, a4, a5, a7, a16, e17, a18, a19, a20, a21, a22, a25, a33, a34⟩, hbf, hby, hda, hD, hF, Or.inl ⟨rfl, rfl⟩, hS, sT_0, sW_0, q'⟩, sC_0⟩
/-- the status, in both -/
theorem fQ_st {T : Nat} {z : fk_C} {y : fk_M} (h : fQ T z y) {s s' : Int32} (e : s = s') (hq : sQ s (z.1 23) (z.1 21)) : fQ T (upd z.1 17 s, z.2) (upd y.1 16 s', y.2) := by
  obtain ⟨hI, ⟨a0, a1, a2, a3, a4, a5, a7, a16, a17, a18, a19, a20, a21, a22, a25, a33, a34⟩, hbf, hby, hda, hD, hF, hP, hS, hT, hW, hQ⟩ := h
  exact ⟨mI_of ⟨rfl, rfl, rfl, rfl, rfl, rfl, rfl⟩ hI, ⟨a0, a1, a2, a3, a4, a5, a7, a16, e, a18, a19, a20, a21, a22, a25, a33, a34⟩, hbf, hby, hda, hD, hF, hP, hS, hT, hW, hq⟩
theorem fR_endWith {T : Nat} {z : fk_C} {y : fk_M} (h : fQ T z y) {m : Int32} (h1 : m &&& 1 = 0) (h2 : m &&& 2 = 0) : fR T (fX0_endWith z m) (fX6_end (fX6_raise y m)) := by
  have ha := h.2.1.2.2.2.2.2.2.2.2.1
  have hq := h.2.2.2.2.2.2.2.2.2.2.2
  exact fR_end (fQ_st h (by rw [ha]) (sQ_or h1 h2 hq))
/-- the start -/
theorem fR_0 : fR 0 fk_c0 fk_m0 := by
  refine ⟨⟨⟨⟨0, by decide, rfl⟩, ⟨0, by decide, rfl⟩, Or.inl rfl, ⟨0, by decide, rfl⟩, 0, 0, by decide, by decide, rfl, rfl⟩, ⟨rfl, rfl, rfl, rfl, rfl, rfl, rfl, rfl, rfl, rfl, rfl, rfl, rfl, rfl, rfl, rfl, rfl⟩, rfl, fun _ => ⟨0, by decide, rfl⟩, ⟨0, by decide, rfl⟩, fun t p _ _ => ⟨0, by decide, rfl, ?_⟩, Or.inl rfl, Or.inl ⟨rfl, rfl⟩, Or.inl rfl, sT_0, sW_0, ⟨fun q => absurd rfl q, Or.inl rfl⟩⟩, sC_0⟩
  rw [Nat.zero_div]
  rfl
