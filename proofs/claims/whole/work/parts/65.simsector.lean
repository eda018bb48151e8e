/-! WRITE: the next byte -/
theorem sV_6 {mp lb ck cn bm ld ds wh lbm sm mk sc : Int32} {w D : Nat} (h6 : mp = 6) (h1 : lb = lbm) (h2 : s01 lb) (h3 : sH ck) (h4 : sH sm) (hD : D = 16 ∨ D = 32) (eD : ds = nI D) (ecn : cn = nI w) (ewh : wh = nI w) (hw : w ≤ D + 11) (q4 : w ≤ 4 → sm = 65535 ∧ bm = 0) (q5 : 5 ≤ w → w ≤ D + 10 → ck = sm) (q56 : w = 5 ∨ w = 6 → bm = 1) (qld : ld = if w = D + 9 then 1 else 0) : sV mp lb ck cn bm ld ds wh lbm sm mk sc false :=
  ⟨h1, h2, h3, h4, fun q => absurd (h6.symm.trans q) (by decide), fun _ => ⟨w, D, hD, eD, ecn, ewh, hw, fun q => absurd q (by decide), q4, q5, q56, qld⟩⟩
theorem fL_sector {T : Nat} {z : fk_C} {y : fk_M} (h : fR T z y) (h6 : z.1 23 = 6) (h6m : y.1 19 = 6) (hl : z.1 21 = 3) (hwr : y.1 23 = 0) (hV : sV (y.1 19) (z.1 28) (z.1 29) (z.1 30) (z.1 31) (z.1 32) (z.1 16) (y.1 24) (y.1 25) (y.1 26) (y.1 27) (y.1 28) true) : fL T 0 (fX0_putNextOfSector z) (fX6_sectorByte y) := by
  obtain ⟨v1, v2, v3, v4, -, v6⟩ := hV
  obtain ⟨w, D, hD, eD, ecn, ewh, hw11, hw10, q4, q5, q56, qld⟩ := v6 h6m
  have hw : w ≤ D + 10 := hw10 rfl
  have hQ := h.1.2.2.2.2.2.2.2.2.2.2.2
  have a17 := h.1.2.1.2.2.2.2.2.2.2.2.1
  have a16 := h.1.2.1.2.2.2.2.2.2.2.1
  have a22 := h.1.2.1.2.2.2.2.2.2.2.2.2.2.2.2.2.1
  have eDm : y.1 12 = nI D := a16.symm.trans eD
  have v25 : s01 (y.1 25) := v1 ▸ v2
  rw [h6] at hQ
  have le4 : ∀ k : Nat, k < 2 ^ 20 → (nI k ≤ nI w ↔ k ≤ w) := fun k hk => nI_leI (by omega) (by omega)
  have ecn1 : z.1 30 + 1 = nI (w + 1) := fk_up1 ecn
  have ewh1 : y.1 24 + 1 = nI (w + 1) := fk_up1 ewh
  have e8D : 8 + z.1 16 = nI (8 + D) := by rw [eD, show (8 : Int32) = nI 8 from by decide, nI_add]
  have e10D : 8 + z.1 16 + 2 = nI (8 + D + 2) := by rw [e8D, show (2 : Int32) = nI 2 from by decide, nI_add]
  unfold fX0_putNextOfSector fX6_sectorByte
  by_cases c4 : w < 4
  · rw [if_neg (show ¬ (4 : Int32) ≤ z.1 30 from by rw [ecn]; exact fun q => by have := (le4 4 (by decide)).mp q; omega), if_neg (show ¬ (4 : Int32) ≤ y.1 24 from by rw [ewh]; exact fun q => by have := (le4 4 (by decide)).mp q; omega), c_pb]
    unfold fX6_sectorByte_c9
    rw [m_write _ v25]
    refine fL_mk h h6 hwr rfl rfl (fun i h1 h2 h3 h4 h5 h6 h7 h8 => by simp [pU, upd, h1, h2, h3, h4, h5, h6, h7, h8]) (fun i h1 h2 h3 h4 h5 h6 h7 => by simp [upd, h1, h2, h3, h4, h5, h6, h7]) a17 hQ rfl (by show eN (z.1 28) 0 = eN (y.1 25) 0; rw [v1]) ?_
    exact sV_6 h6m rfl (s01_low _) (sH_cw v3 sB_0) v4 hD eD ecn1 ewh1 (by omega) (fun _ => ⟨(q4 (by omega)).1, rfl⟩) (fun q => absurd q (by omega)) (fun q => absurd q (by omega)) (by show z.1 32 = _; rw [qld, if_neg (by omega), if_neg (by omega)])
  · rw [if_pos (show (4 : Int32) ≤ z.1 30 from by rw [ecn]; exact (le4 4 (by decide)).mpr (by omega)), if_pos (show (4 : Int32) ≤ y.1 24 from by rw [ewh]; exact (le4 4 (by decide)).mpr (by omega))]
    by_cases c7 : w < 7
    · rw [if_neg (show ¬ (7 : Int32) ≤ z.1 30 from by rw [ecn]; exact fun q => by have := (le4 7 (by decide)).mp q; omega), if_neg (show ¬ (7 : Int32) ≤ y.1 24 from by rw [ewh]; exact fun q => by have := (le4 7 (by decide)).mp q; omega)]
      unfold fX6_sectorByte_c8 fX6_writeMark
      by_cases c44 : w = 4
      · obtain ⟨s1, s2⟩ := q4 (by omega)
        rw [c_pm0 s2]
        have e9 : fX5_checkWith 65535 161 = fX6_step (y.1 26) 161 := by rw [s1, st_cw sH_1 sB_161]
        refine fL_mk h h6 hwr rfl rfl (fun i h1 h2 h3 h4 h5 h6 h7 h8 => by simp [pM, upd, h1, h2, h3, h4, h5, h6, h7, h8]) (fun i h1 h2 h3 h4 h5 h6 h7 => by simp [upd, h1, h2, h3, h4, h5, h6, h7]) a17 hQ rfl rfl ?_
        exact sV_6 h6m rfl s01_1 (sH_cw sH_1 sB_161) (by show sH (fX6_step (y.1 26) 161); rw [← e9]; exact sH_cw sH_1 sB_161) hD eD ecn1 ewh1 (by omega) (fun q => absurd q (by omega)) (fun _ _ => e9) (fun _ => rfl) (by show z.1 32 = _; rw [qld, if_neg (by omega), if_neg (by omega)])
      · have s2 := q56 (by omega)
        have s1 := q5 (by omega) (by omega)
        rw [c_pm1 (by rw [s2]; decide)]
        have e9 : fX5_checkWith (z.1 29) 161 = fX6_step (y.1 26) 161 := by rw [st_cw v4 sB_161, s1]
        refine fL_mk h h6 hwr rfl rfl (fun i h1 h2 h3 h4 h5 h6 h7 h8 => by simp [pM, upd, h1, h2, h3, h4, h5, h6, h7, h8]) (fun i h1 h2 h3 h4 h5 h6 h7 => by simp [upd, h1, h2, h3, h4, h5, h6, h7]) a17 hQ rfl rfl ?_
        exact sV_6 h6m rfl s01_1 (sH_cw v3 sB_161) (by show sH (fX6_step (y.1 26) 161); rw [← e9]; exact sH_cw v3 sB_161) hD eD ecn1 ewh1 (by omega) (fun q => absurd q (by omega)) (fun _ _ => e9) (fun _ => rfl) (by show z.1 32 = _; rw [qld, if_neg (by omega), if_neg (by omega)])
    · have s1 := q5 (by omega) hw
      rw [if_pos (show (7 : Int32) ≤ z.1 30 from by rw [ecn]; exact (le4 7 (by decide)).mpr (by omega)), if_pos (show (7 : Int32) ≤ y.1 24 from by rw [ewh]; exact (le4 7 (by decide)).mpr (by omega))]
      by_cases c8 : w = 7
      · rw [if_neg (show ¬ (8 : Int32) ≤ z.1 30 from by rw [ecn]; exact fun q => by have := (le4 8 (by decide)).mp q; omega), if_pos (show y.1 24 = 7 from by rw [ewh, c8]; decide)]
        have fin : ∀ b : Int32, sB b → fL T 0 (fX4_putByte z b) (fX6_sectorByte_84 y b) := by
          intro b hb
          rw [c_pb]
          unfold fX6_sectorByte_84 fX6_sectorByte_c2
          rw [m_write _ v25]
          have e9 : fX5_checkWith (z.1 29) b = fX6_step (y.1 26) b := by rw [st_cw v4 hb, s1]
          refine fL_mk h h6 hwr rfl rfl (fun i h1 h2 h3 h4 h5 h6 h7 h8 => by simp [pU, upd, h1, h2, h3, h4, h5, h6, h7, h8]) (fun i h1 h2 h3 h4 h5 h6 h7 => by simp [upd, h1, h2, h3, h4, h5, h6, h7]) a17 hQ rfl (by show eN (z.1 28) b = eN (y.1 25) b; rw [v1]) ?_
          exact sV_6 h6m rfl (s01_low _) (sH_cw v3 hb) (by show sH (fX6_step (y.1 26) b); rw [← e9]; exact sH_cw v3 hb) hD eD ecn1 ewh1 (by omega) (fun q => absurd q (by omega)) (fun _ _ => e9) (fun q => absurd q (by omega)) (by show z.1 32 = _; rw [qld, if_neg (by omega), if_neg (by omega)])
        by_cases c22 : z.1 22 = 0
        · rw [if_pos c22, if_pos (show y.1 18 = 0 from a22.symm.trans c22)]
          exact fin 251 ⟨251, by decide, by decide⟩
        · rw [if_neg c22, if_neg (show ¬ y.1 18 = 0 from fun q => c22 (a22.trans q))]
          exact fin 248 ⟨248, by decide, by decide⟩
      · have ek : y.1 24 - 8 = nI (w - 8) := by
          rw [ewh, show (8 : Int32) = nI 8 from by decide]
          exact pk_sub (by omega)
        rw [if_pos (show (8 : Int32) ≤ z.1 30 from by rw [ecn]; exact (le4 8 (by decide)).mpr (by omega)), if_neg (show ¬ y.1 24 = 7 from by rw [ewh]; exact fun q => c8 ((nI_eq (b := 7) (by omega) (by decide)).mp q)), e8D, show (nI (8 + D)) + 2 = nI (8 + D + 2) from by rw [← e8D]; exact e10D, ecn, ek, eDm]
        by_cases cD : w < 8 + D
        · rw [if_neg (show ¬ nI (8 + D) ≤ nI w from nI_ge cD (by omega)), if_neg (show ¬ nI D ≤ nI (w - 8) from nI_ge (by omega) (by omega))]
          obtain ⟨v, hv, s, s', es, hq, ec, em⟩ := ask_both h
          rw [h6] at hq
          rw [ec, em]
          have e9 : fX5_checkWith (z.1 29) v = fX6_step (y.1 26) v := by rw [st_cw v4 hv, s1]
          show fL T 0 (fX0_putNextOfSector_c1 (upd z.1 17 s, z.2) v (nI (8 + D)) (nI w)) (fX6_sectorByte_c6 (upd y.1 16 s', y.2) v (nI (w - 8)) (nI D))
          unfold fX0_putNextOfSector_c1 fX0_putNextOfSector_c2 fX6_sectorByte_c6 fX6_sectorByte_c7 fX6_sectorByte_127 fX6_sectorByte_c1 fX6_raise
          rw [c_pb, show (nI (8 + D)) - 1 = nI (8 + D - 1) from by rw [show (1 : Int32) = nI 1 from by decide]; exact pk_sub (by omega), nI_1]
          by_cases cl : w = 7 + D
          · rw [if_pos (show nI (8 + D - 1) ≤ nI w from nI_le (by omega) (by omega)), if_pos (show nI D ≤ nI (w - 8 + 1) from nI_le (by omega) (by omega)), m_write (y := (upd y.1 16 s', y.2)) _ v25]
            refine fL_mk h h6 hwr rfl rfl (fun i h1 h2 h3 h4 h5 h6 h7 h8 => by simp [pU, upd, h1, h2, h3, h4, h5, h6, h7, h8]) (fun i h1 h2 h3 h4 h5 h6 h7 => by simp [upd, h1, h2, h3, h4, h5, h6, h7]) es hq rfl (by show eN (z.1 28) v = eN (y.1 25) v; rw [v1]) ?_
            exact sV_6 h6m rfl (s01_low _) (sH_cw v3 hv) (by show sH (fX6_step (y.1 26) v); rw [← e9]; exact sH_cw v3 hv) hD eD ecn1 ewh1 (by omega) (fun q => absurd q (by omega)) (fun _ _ => e9) (fun q => absurd q (by omega)) (by show z.1 32 = _; rw [qld, if_neg (by omega), if_neg (by omega)])
          · rw [if_neg (show ¬ nI (8 + D - 1) ≤ nI w from nI_ge (by omega) (by omega)), if_neg (show ¬ nI D ≤ nI (w - 8 + 1) from nI_ge (by omega) (by omega)), m_write (y := (upd (upd y.1 16 s', y.2).1 16 ((upd y.1 16 s', y.2).1 16 ||| 2), (upd y.1 16 s', y.2).2)) _ v25]
            refine fL_mk h h6 hwr rfl rfl (fun i h1 h2 h3 h4 h5 h6 h7 h8 => by simp [pU, upd, h1, h2, h3, h4, h5, h6, h7, h8]) (fun i h1 h2 h3 h4 h5 h6 h7 => by simp [upd, h1, h2, h3, h4, h5, h6, h7]) (by show s ||| 2 = s' ||| 2; rw [es]) (sQ_or2 (Or.inr (Or.inl hl)) hq) rfl (by show eN (z.1 28) v = eN (y.1 25) v; rw [v1]) ?_
            exact sV_6 h6m rfl (s01_low _) (sH_cw v3 hv) (by show sH (fX6_step (y.1 26) v); rw [← e9]; exact sH_cw v3 hv) hD eD ecn1 ewh1 (by omega) (fun q => absurd q (by omega)) (fun _ _ => e9) (fun q => absurd q (by omega)) (by show z.1 32 = _; rw [qld, if_neg (by omega), if_neg (by omega)])
        · rw [if_pos (show nI (8 + D) ≤ nI w from nI_le (by omega) (by omega)), if_pos (show nI D ≤ nI (w - 8) from nI_le (by omega) (by omega))]
          by_cases ce : w = 8 + D
          · have ld0 : z.1 32 = 0 := by rw [qld, if_neg (by omega)]
            rw [if_neg (show ¬ nI (8 + D + 2) ≤ nI w from nI_ge (by omega) (by omega)), if_pos (show nI (w - 8) = nI D from by rw [ce]; congr 1; omega), c_ph0 ld0]
            unfold fX6_sectorByte_c5
            rw [m_write _ v25]
            refine fL_mk h h6 hwr rfl rfl (fun i h1 h2 h3 h4 h5 h6 h7 h8 => by simp [pU, upd, h1, h2, h3, h4, h5, h6, h7, h8]) (fun i h1 h2 h3 h4 h5 h6 h7 => by simp [upd, h1, h2, h3, h4, h5, h6, h7]) a17 hQ rfl (by show eN (z.1 28) (z.1 29 >>> ((8 : Int32) &&& 31)) = eN (y.1 25) (y.1 26 >>> ((8 : Int32) &&& 31)); rw [v1, s1]) ?_
            exact sV_6 h6m (by show (z.1 29 >>> ((8 : Int32) &&& 31)) &&& 1 = (y.1 26 >>> ((8 : Int32) &&& 31)) &&& 1; rw [s1]) (s01_low _) v3 v4 hD eD ecn1 ewh1 (by omega) (fun q => absurd q (by omega)) (fun _ _ => s1) (fun q => absurd q (by omega)) (by show (1 : Int32) = _; rw [if_pos (by omega)])
          · have nk : ¬ nI (w - 8) = nI D := fun q => ce (by have := (nI_eq (by omega) (by omega)).mp q; omega)
            have eD1 : nI D + 1 = nI (D + 1) := nI_1 D
            rw [if_neg nk, eD1]
            by_cases cf : w = 9 + D
            · have ld1 : ¬ z.1 32 = 0 := by
                rw [qld, if_pos (by omega)]
                decide
              rw [if_neg (show ¬ nI (8 + D + 2) ≤ nI w from nI_ge (by omega) (by omega)), if_pos (show nI (w - 8) = nI (D + 1) from by rw [cf]; congr 1; omega), c_ph1 ld1]
              unfold fX6_sectorByte_c4
              rw [m_write _ v25]
              refine fL_mk h h6 hwr rfl rfl (fun i h1 h2 h3 h4 h5 h6 h7 h8 => by simp [pU, upd, h1, h2, h3, h4, h5, h6, h7, h8]) (fun i h1 h2 h3 h4 h5 h6 h7 => by simp [upd, h1, h2, h3, h4, h5, h6, h7]) a17 hQ rfl (by show eN (z.1 28) (z.1 29 &&& 255) = eN (y.1 25) (y.1 26 &&& 255); rw [v1, s1]) ?_
              exact sV_6 h6m (by show (z.1 29 &&& 255) &&& 1 = (y.1 26 &&& 255) &&& 1; rw [s1]) (s01_low _) v3 v4 hD eD ecn1 ewh1 (by omega) (fun q => absurd q (by omega)) (fun _ _ => s1) (fun q => absurd q (by omega)) (by show (0 : Int32) = _; rw [if_neg (by omega)])
            · have cg : w = 10 + D := by omega
              rw [if_pos (show nI (8 + D + 2) ≤ nI w from nI_le (by omega) (by omega)), if_neg (show ¬ nI (w - 8) = nI (D + 1) from fun q => cf (by have := (nI_eq (by omega) (by omega)).mp q; omega)), c_pb]
              unfold fX6_sectorByte_c3
              rw [m_write _ v25]
              have hb : sB 78 := ⟨78, by decide, by decide⟩
              refine fL_mk h h6 hwr rfl rfl (fun i h1 h2 h3 h4 h5 h6 h7 h8 => by simp [pU, upd, h1, h2, h3, h4, h5, h6, h7, h8]) (fun i h1 h2 h3 h4 h5 h6 h7 => by simp [upd, h1, h2, h3, h4, h5, h6, h7]) a17 hQ rfl (by show eN (z.1 28) 78 = eN (y.1 25) 78; rw [v1]) ?_
              exact sV_6 h6m rfl (s01_low _) (sH_cw v3 hb) v4 hD eD ecn1 ewh1 (by omega) (fun q => absurd q (by omega)) (fun _ q => absurd q (by omega)) (fun q => absurd q (by omega)) (by show z.1 32 = _; rw [qld, if_neg (by omega), if_neg (by omega)])
