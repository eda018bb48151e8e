-- FloppyDesk$Controller.has(I)Z
def fX0_has (z0 : fk_C) (a1 : Int32) : Int32 :=
  (if ((z0.1 17) &&& a1) = 0 then 0 else 1)
set_option maxHeartbeats 4000000 in
set_option maxRecDepth 100000 in
theorem c_X0_has (l : Launch) (G : va_G) (q : Nat → Nat) (k : Nat → ClassId) (sz : Nat) (z0 : fk_C) (a1 : Int32) : fk_Mp l yX0_has wsX0_has ({ frames := 0, cells := 0, slots := 0, locals := 0 } : Room) G (fk_cW q k) (fk_cT k) [.ref (q 4), .int a1] sz z0 (fX0_has z0 a1) := by
  refine fk_head (cc := cX0_has) (maxL := 2) (ret := (some .boolean)) (QQ := fun A => va_Qi (fun r (_ : Unit) => r = fX0_has z0 a1) (fun _ => fk_At G (fk_cW q k) (fk_cT k) A z0) A) (by decide) rfl (Nat.le_of_ble_eq_true rfl) ?_ sz
  intro p e s m below meth c A ls hx hb hr hlk hml hown hts hK hN hA hP hD hS hl
  have hown : s.vm.findClass RX0 = some m.cls := hown
  have F9 : CallFix p m c cX0_has 2 s ([.ref (q 4), .int a1] : List Value).toArray wsX0_has RX0 := ⟨hx, hb, hml, hown, hts⟩
  have hl : lv_has ls 2 [(0, .ref (q 4)), (1, .int a1)] := hl
  have hfl_30 := hts (.fieldLink RX0 30 "FloppyDesk$Controller" "status" "I") (by decide +kernel)
  have hi_0 : ∀ w ∈ u_ws RX0 TX0 12, w ∈ wsX0_has := by decide +kernel
  refine lv_aload_n hx hb dX0_has_0 rfl (lv_at hl 0 rfl) ?_
  refine va_get (D := G) (ci := 0) (v := .int (z0.1 17)) (C := RX0) (T := TX0) (N := 12) hx hb hts hi_0 hown hK hP 4 rfl rfl 3 (by decide) hfl_30 (fun _ h9 => h9) rfl dX0_has_1 ?_
  refine lv_iload_n hx hb dX0_has_4 rfl (lv_at hl 1 rfl) ?_
  refine lv_iand hx hb dX0_has_5 ?_
  refine lv_if_eq (tgt := 13) hx hb dX0_has_6 (by decide) (fun c6 => ?_) (fun c6 => ?_)
  · refine lv_iconst (v := 0) hx hb dX0_has_13 (by decide) ?_
    exact fk_pret hx hb hr hlk hK hP hD hS rfl (Eq.symm (by rw [fX0_has, if_pos c6] <;> rfl)) dX0_has_14
  · refine lv_iconst (v := 1) hx hb dX0_has_9 (by decide) ?_
    refine lv_goto (tgt := 14) hx hb dX0_has_10 (by decide) ?_
    exact fk_pret hx hb hr hlk hK hP hD hS rfl (Eq.symm (by rw [fX0_has, if_neg c6] <;> rfl)) dX0_has_14
-- FloppyDesk$Controller.acceptData(I)V
def fX0_acceptData (z0 : fk_C) (a1 : Int32) : fk_C :=
  (upd (upd z0.1 20 a1) 17 ((z0.1 17) &&& (-3)), z0.2)
set_option maxHeartbeats 4000000 in
set_option maxRecDepth 100000 in
theorem c_X0_acceptData (l : Launch) (G : va_G) (q : Nat → Nat) (k : Nat → ClassId) (sz : Nat) (z0 : fk_C) (a1 : Int32) : fk_Mv l yX0_acceptData wsX0_acceptData ({ frames := 0, cells := 0, slots := 0, locals := 0 } : Room) G (fk_cW q k) (fk_cT k) [.ref (q 4), .int a1] sz z0 (fX0_acceptData z0 a1) := by
  refine fk_head (cc := cX0_acceptData) (maxL := 2) (ret := none) (QQ := fun A => va_Qv (fun z1 => z1 = fX0_acceptData z0 a1) (fk_At G (fk_cW q k) (fk_cT k) A) A) (by decide) rfl (Nat.le_of_ble_eq_true rfl) ?_ sz
  intro p e s m below meth c A ls hx hb hr hlk hml hown hts hK hN hA hP hD hS hl
  have hown : s.vm.findClass RX0 = some m.cls := hown
  have F9 : CallFix p m c cX0_acceptData 2 s ([.ref (q 4), .int a1] : List Value).toArray wsX0_acceptData RX0 := ⟨hx, hb, hml, hown, hts⟩
  have hl : lv_has ls 2 [(0, .ref (q 4)), (1, .int a1)] := hl
  have hfl_30 := hts (.fieldLink RX0 30 "FloppyDesk$Controller" "status" "I") (by decide +kernel)
  have hfl_33 := hts (.fieldLink RX0 33 "FloppyDesk$Controller" "data" "I") (by decide +kernel)
  have hi_0 : ∀ w ∈ u_ws RX0 TX0 12, w ∈ wsX0_acceptData := by decide +kernel
  refine lv_aload_n hx hb dX0_acceptData_0 rfl (lv_at hl 0 rfl) ?_
  refine lv_iload_n hx hb dX0_acceptData_1 rfl (lv_at hl 1 rfl) ?_
  refine va_put (D := G) (ci := 0) (v := .int a1) (ty := .int) (C := RX0) (T := TX0) (N := 12) hx hb hts hi_0 tyX0 tyX0_ok nmX0 hown hK hP hD hS 4 rfl rfl 6 (by decide) hfl_33 (fun _ h9 => h9) rfl (by decide +kernel) rfl rfl (Nat.le_of_ble_eq_true rfl) dX0_acceptData_2 (fun H locs hP hD hS => ?_)
  have hP : va_P G vwCl ((fk_cW q k) (upd z0.1 20 a1, z0.2)) H := hP
  have hD : va_D A ((fk_cW q k) (upd z0.1 20 a1, z0.2)) := hD
  refine lv_aload_n hx hb dX0_acceptData_5 rfl (lv_at hl 0 rfl) ?_
  refine lv_dup hx hb dX0_acceptData_6 rfl ?_
  refine va_get (D := G) (ci := 0) (v := .int (z0.1 17)) (C := RX0) (T := TX0) (N := 12) hx hb hts hi_0 hown hK hP 4 rfl rfl 3 (by decide) hfl_30 (fun _ h9 => h9) rfl dX0_acceptData_7 ?_
  refine lv_bipush (v := (-3)) hx hb dX0_acceptData_10 (by decide) ?_
  refine lv_iand hx hb dX0_acceptData_12 ?_
  refine va_put (D := G) (ci := 0) (v := .int ((z0.1 17) &&& (-3))) (ty := .int) (C := RX0) (T := TX0) (N := 12) hx hb hts hi_0 tyX0 tyX0_ok nmX0 hown hK hP hD hS 4 rfl rfl 3 (by decide) hfl_30 (fun _ h9 => h9) rfl (by decide +kernel) rfl rfl (Nat.le_of_ble_eq_true rfl) dX0_acceptData_13 (fun H locs hP hD hS => ?_)
  have hP : va_P G vwCl ((fk_cW q k) (upd (upd z0.1 20 a1) 17 ((z0.1 17) &&& (-3)), z0.2)) H := hP
  have hD : va_D A ((fk_cW q k) (upd (upd z0.1 20 a1) 17 ((z0.1 17) &&& (-3)), z0.2)) := hD
  exact fk_vret hx hb hr hlk hK hP hD hS (Eq.symm (by rw [fX0_acceptData] <;> rfl)) dX0_acceptData_16
-- FloppyDesk$Controller.handOutData()I
def fX0_handOutData (z0 : fk_C) : Int32 × fk_C :=
  (z0.1 20, (upd z0.1 17 ((z0.1 17) &&& (-3)), z0.2))
set_option maxHeartbeats 4000000 in
set_option maxRecDepth 100000 in
theorem c_X0_handOutData (l : Launch) (G : va_G) (q : Nat → Nat) (k : Nat → ClassId) (sz : Nat) (z0 : fk_C) : fk_Mi l yX0_handOutData wsX0_handOutData ({ frames := 0, cells := 0, slots := 0, locals := 0 } : Room) G (fk_cW q k) (fk_cT k) [.ref (q 4)] sz z0 (fX0_handOutData z0) := by
  refine fk_head (cc := cX0_handOutData) (maxL := 1) (ret := (some .int)) (QQ := fun A => va_Qi (fun r z1 => (r, z1) = fX0_handOutData z0) (fk_At G (fk_cW q k) (fk_cT k) A) A) (by decide) rfl (Nat.le_of_ble_eq_true rfl) ?_ sz
  intro p e s m below meth c A ls hx hb hr hlk hml hown hts hK hN hA hP hD hS hl
  have hown : s.vm.findClass RX0 = some m.cls := hown
  have F9 : CallFix p m c cX0_handOutData 1 s ([.ref (q 4)] : List Value).toArray wsX0_handOutData RX0 := ⟨hx, hb, hml, hown, hts⟩
  have hl : lv_has ls 1 [(0, .ref (q 4))] := hl
  have hfl_30 := hts (.fieldLink RX0 30 "FloppyDesk$Controller" "status" "I") (by decide +kernel)
  have hfl_33 := hts (.fieldLink RX0 33 "FloppyDesk$Controller" "data" "I") (by decide +kernel)
  have hi_0 : ∀ w ∈ u_ws RX0 TX0 12, w ∈ wsX0_handOutData := by decide +kernel
  refine lv_aload_n hx hb dX0_handOutData_0 rfl (lv_at hl 0 rfl) ?_
  refine lv_dup hx hb dX0_handOutData_1 rfl ?_
  refine va_get (D := G) (ci := 0) (v := .int (z0.1 17)) (C := RX0) (T := TX0) (N := 12) hx hb hts hi_0 hown hK hP 4 rfl rfl 3 (by decide) hfl_30 (fun _ h9 => h9) rfl dX0_handOutData_2 ?_
  refine lv_bipush (v := (-3)) hx hb dX0_handOutData_5 (by decide) ?_
  refine lv_iand hx hb dX0_handOutData_7 ?_
  refine va_put (D := G) (ci := 0) (v := .int ((z0.1 17) &&& (-3))) (ty := .int) (C := RX0) (T := TX0) (N := 12) hx hb hts hi_0 tyX0 tyX0_ok nmX0 hown hK hP hD hS 4 rfl rfl 3 (by decide) hfl_30 (fun _ h9 => h9) rfl (by decide +kernel) rfl rfl (Nat.le_of_ble_eq_true rfl) dX0_handOutData_8 (fun H locs hP hD hS => ?_)
  have hP : va_P G vwCl ((fk_cW q k) (upd z0.1 17 ((z0.1 17) &&& (-3)), z0.2)) H := hP
  have hD : va_D A ((fk_cW q k) (upd z0.1 17 ((z0.1 17) &&& (-3)), z0.2)) := hD
  refine lv_aload_n hx hb dX0_handOutData_11 rfl (lv_at hl 0 rfl) ?_
  refine va_get (D := G) (ci := 0) (v := .int (z0.1 20)) (C := RX0) (T := TX0) (N := 12) hx hb hts hi_0 hown hK hP 4 rfl rfl 6 (by decide) hfl_33 (fun _ h9 => h9) rfl dX0_handOutData_12 ?_
  exact fk_iret hx hb hr hlk hK hP hD hS rfl (Eq.symm (by rw [fX0_handOutData] <;> rfl)) dX0_handOutData_15
-- FloppyDesk$Reader.reset()V
def fX2_reset (z0 : fk_C) : fk_C :=
  (upd (upd (upd z0.1 4 0) 5 0) 7 0, z0.2)
set_option maxHeartbeats 4000000 in
set_option maxRecDepth 100000 in
theorem c_X2_reset (l : Launch) (G : va_G) (q : Nat → Nat) (k : Nat → ClassId) (sz : Nat) (z0 : fk_C) : fk_Mv l yX2_reset wsX2_reset ({ frames := 0, cells := 0, slots := 0, locals := 0 } : Room) G (fk_cW q k) (fk_cT k) [.ref (q 3)] sz z0 (fX2_reset z0) := by
  refine fk_head (cc := cX2_reset) (maxL := 1) (ret := none) (QQ := fun A => va_Qv (fun z1 => z1 = fX2_reset z0) (fk_At G (fk_cW q k) (fk_cT k) A) A) (by decide) rfl (Nat.le_of_ble_eq_true rfl) ?_ sz
  intro p e s m below meth c A ls hx hb hr hlk hml hown hts hK hN hA hP hD hS hl
  have hown : s.vm.findClass RX2 = some m.cls := hown
  have F9 : CallFix p m c cX2_reset 1 s ([.ref (q 3)] : List Value).toArray wsX2_reset RX2 := ⟨hx, hb, hml, hown, hts⟩
  have hl : lv_has ls 1 [(0, .ref (q 3))] := hl
  have hfl_15 := hts (.fieldLink RX2 15 "FloppyDesk$Reader" "inStep" "Z") (by decide +kernel)
  have hfl_19 := hts (.fieldLink RX2 19 "FloppyDesk$Reader" "marks" "I") (by decide +kernel)
  have hfl_22 := hts (.fieldLink RX2 22 "FloppyDesk$Reader" "field" "I") (by decide +kernel)
  have hi_2 : ∀ w ∈ u_ws RX2 TX2 14, w ∈ wsX2_reset := by decide +kernel
  refine lv_aload_n hx hb dX2_reset_0 rfl (lv_at hl 0 rfl) ?_
  refine lv_iconst (v := 0) hx hb dX2_reset_1 (by decide) ?_
  refine va_put (D := G) (ci := 2) (v := .int 0) (ty := .boolean) (C := RX2) (T := TX2) (N := 14) hx hb hts hi_2 tyX2 tyX2_ok nmX2 hown hK hP hD hS 3 rfl rfl 1 (by decide) hfl_15 (fun _ h9 => h9) rfl (by decide +kernel) rfl rfl (Nat.le_of_ble_eq_true rfl) dX2_reset_2 (fun H locs hP hD hS => ?_)
  have hP : va_P G vwCl ((fk_cW q k) (upd z0.1 4 0, z0.2)) H := hP
  have hD : va_D A ((fk_cW q k) (upd z0.1 4 0, z0.2)) := hD
  refine lv_aload_n hx hb dX2_reset_5 rfl (lv_at hl 0 rfl) ?_
  refine lv_iconst (v := 0) hx hb dX2_reset_6 (by decide) ?_
  refine va_put (D := G) (ci := 2) (v := .int 0) (ty := .int) (C := RX2) (T := TX2) (N := 14) hx hb hts hi_2 tyX2 tyX2_ok nmX2 hown hK hP hD hS 3 rfl rfl 2 (by decide) hfl_19 (fun _ h9 => h9) rfl (by decide +kernel) rfl rfl (Nat.le_of_ble_eq_true rfl) dX2_reset_7 (fun H locs hP hD hS => ?_)
  have hP : va_P G vwCl ((fk_cW q k) (upd (upd z0.1 4 0) 5 0, z0.2)) H := hP
  have hD : va_D A ((fk_cW q k) (upd (upd z0.1 4 0) 5 0, z0.2)) := hD
  refine lv_aload_n hx hb dX2_reset_10 rfl (lv_at hl 0 rfl) ?_
  refine lv_iconst (v := 0) hx hb dX2_reset_11 (by decide) ?_
  refine va_put (D := G) (ci := 2) (v := .int 0) (ty := .int) (C := RX2) (T := TX2) (N := 14) hx hb hts hi_2 tyX2 tyX2_ok nmX2 hown hK hP hD hS 3 rfl rfl 4 (by decide) hfl_22 (fun _ h9 => h9) rfl (by decide +kernel) rfl rfl (Nat.le_of_ble_eq_true rfl) dX2_reset_12 (fun H locs hP hD hS => ?_)
  have hP : va_P G vwCl ((fk_cW q k) (upd (upd (upd z0.1 4 0) 5 0) 7 0, z0.2)) H := hP
  have hD : va_D A ((fk_cW q k) (upd (upd (upd z0.1 4 0) 5 0) 7 0, z0.2)) := hD
  exact fk_vret hx hb hr hlk hK hP hD hS (Eq.symm (by rw [fX2_reset] <;> rfl)) dX2_reset_15
-- FloppyDesk$Reader.forgetDataSize()V
def fX2_forgetDataSize (z0 : fk_C) : fk_C :=
  (upd z0.1 16 16, z0.2)
set_option maxHeartbeats 4000000 in
set_option maxRecDepth 100000 in
theorem c_X2_forgetDataSize (l : Launch) (G : va_G) (q : Nat → Nat) (k : Nat → ClassId) (sz : Nat) (z0 : fk_C) : fk_Mv l yX2_forgetDataSize wsX2_forgetDataSize ({ frames := 0, cells := 0, slots := 0, locals := 0 } : Room) G (fk_cW q k) (fk_cT k) [.ref (q 3)] sz z0 (fX2_forgetDataSize z0) := by
  refine fk_head (cc := cX2_forgetDataSize) (maxL := 1) (ret := none) (QQ := fun A => va_Qv (fun z1 => z1 = fX2_forgetDataSize z0) (fk_At G (fk_cW q k) (fk_cT k) A) A) (by decide) rfl (Nat.le_of_ble_eq_true rfl) ?_ sz
  intro p e s m below meth c A ls hx hb hr hlk hml hown hts hK hN hA hP hD hS hl
  have hown : s.vm.findClass RX2 = some m.cls := hown
  have F9 : CallFix p m c cX2_forgetDataSize 1 s ([.ref (q 3)] : List Value).toArray wsX2_forgetDataSize RX2 := ⟨hx, hb, hml, hown, hts⟩
  have hl : lv_has ls 1 [(0, .ref (q 3))] := hl
  have hfl_11 := hts (.fieldLink RX2 11 "FloppyDesk$Reader" "dataSize" "I") (by decide +kernel)
  have hi_2 : ∀ w ∈ u_ws RX2 TX2 14, w ∈ wsX2_forgetDataSize := by decide +kernel
  refine lv_aload_n hx hb dX2_forgetDataSize_0 rfl (lv_at hl 0 rfl) ?_
  refine lv_bipush (v := 16) hx hb dX2_forgetDataSize_1 (by decide) ?_
  refine va_put (D := G) (ci := 2) (v := .int 16) (ty := .int) (C := RX2) (T := TX2) (N := 14) hx hb hts hi_2 tyX2 tyX2_ok nmX2 hown hK hP hD hS 3 rfl rfl 13 (by decide) hfl_11 (fun _ h9 => h9) rfl (by decide +kernel) rfl rfl (Nat.le_of_ble_eq_true rfl) dX2_forgetDataSize_3 (fun H locs hP hD hS => ?_)
  have hP : va_P G vwCl ((fk_cW q k) (upd z0.1 16 16, z0.2)) H := hP
  have hD : va_D A ((fk_cW q k) (upd z0.1 16 16, z0.2)) := hD
  exact fk_vret hx hb hr hlk hK hP hD hS (Eq.symm (by rw [fX2_forgetDataSize] <;> rfl)) dX2_forgetDataSize_6
-- FloppyDesk$Reader.forgetWindow()V
def fX2_forgetWindow (z0 : fk_C) : fk_C :=
  (upd z0.1 3 0, z0.2)
set_option maxHeartbeats 4000000 in
set_option maxRecDepth 100000 in
theorem c_X2_forgetWindow (l : Launch) (G : va_G) (q : Nat → Nat) (k : Nat → ClassId) (sz : Nat) (z0 : fk_C) : fk_Mv l yX2_forgetWindow wsX2_forgetWindow ({ frames := 0, cells := 0, slots := 0, locals := 0 } : Room) G (fk_cW q k) (fk_cT k) [.ref (q 3)] sz z0 (fX2_forgetWindow z0) := by
  refine fk_head (cc := cX2_forgetWindow) (maxL := 1) (ret := none) (QQ := fun A => va_Qv (fun z1 => z1 = fX2_forgetWindow z0) (fk_At G (fk_cW q k) (fk_cT k) A) A) (by decide) rfl (Nat.le_of_ble_eq_true rfl) ?_ sz
  intro p e s m below meth c A ls hx hb hr hlk hml hown hts hK hN hA hP hD hS hl
  have hown : s.vm.findClass RX2 = some m.cls := hown
  have F9 : CallFix p m c cX2_forgetWindow 1 s ([.ref (q 3)] : List Value).toArray wsX2_forgetWindow RX2 := ⟨hx, hb, hml, hown, hts⟩
  have hl : lv_has ls 1 [(0, .ref (q 3))] := hl
  have hfl_25 := hts (.fieldLink RX2 25 "FloppyDesk$Reader" "window" "I") (by decide +kernel)
  have hi_2 : ∀ w ∈ u_ws RX2 TX2 14, w ∈ wsX2_forgetWindow := by decide +kernel
  refine lv_aload_n hx hb dX2_forgetWindow_0 rfl (lv_at hl 0 rfl) ?_
  refine lv_iconst (v := 0) hx hb dX2_forgetWindow_1 (by decide) ?_
  refine va_put (D := G) (ci := 2) (v := .int 0) (ty := .int) (C := RX2) (T := TX2) (N := 14) hx hb hts hi_2 tyX2 tyX2_ok nmX2 hown hK hP hD hS 3 rfl rfl 0 (by decide) hfl_25 (fun _ h9 => h9) rfl (by decide +kernel) rfl rfl (Nat.le_of_ble_eq_true rfl) dX2_forgetWindow_2 (fun H locs hP hD hS => ?_)
  have hP : va_P G vwCl ((fk_cW q k) (upd z0.1 3 0, z0.2)) H := hP
  have hD : va_D A ((fk_cW q k) (upd z0.1 3 0, z0.2)) := hD
  exact fk_vret hx hb hr hlk hK hP hD hS (Eq.symm (by rw [fX2_forgetWindow] <;> rfl)) dX2_forgetWindow_5
-- FloppyDesk$Controller.end()V
def fX0_end_c1 (z : fk_C) : fk_C :=
  (upd z.1 23 0, z.2)
def fX0_end (z0 : fk_C) : fk_C :=
  (if (z0.1 23) = 6 then fX0_end_c1 (fX2_forgetWindow (upd z0.1 17 ((z0.1 17) &&& (-4)), z0.2)) else (upd (upd z0.1 17 ((z0.1 17) &&& (-4))) 23 0, z0.2))
set_option maxHeartbeats 4000000 in
set_option maxRecDepth 100000 in
theorem c_X0_end (l : Launch) (G : va_G) (q : Nat → Nat) (k : Nat → ClassId) (sz : Nat) (z0 : fk_C) : fk_Mv l yX0_end wsX0_end ({ frames := 1, cells := 0, slots := 0, locals := 20 } : Room) G (fk_cW q k) (fk_cT k) [.ref (q 4)] sz z0 (fX0_end z0) := by
  refine fk_head (cc := cX0_end) (maxL := 1) (ret := none) (QQ := fun A => va_Qv (fun z1 => z1 = fX0_end z0) (fk_At G (fk_cW q k) (fk_cT k) A) A) (by decide) rfl (Nat.le_of_ble_eq_true rfl) ?_ sz
  intro p e s m below meth c A ls hx hb hr hlk hml hown hts hK hN hA hP hD hS hl
  have hown : s.vm.findClass RX0 = some m.cls := hown
  have F9 : CallFix p m c cX0_end 1 s ([.ref (q 4)] : List Value).toArray wsX0_end RX0 := ⟨hx, hb, hml, hown, hts⟩
  have hl : lv_has ls 1 [(0, .ref (q 4))] := hl
  have hfl_15 := hts (.fieldLink RX0 15 "FloppyDesk$Controller" "reader" "LFloppyDesk$Reader;") (by decide +kernel)
  have hfl_30 := hts (.fieldLink RX0 30 "FloppyDesk$Controller" "status" "I") (by decide +kernel)
  have hfl_70 := hts (.fieldLink RX0 70 "FloppyDesk$Controller" "phase" "I") (by decide +kernel)
  have hi_0 : ∀ w ∈ u_ws RX0 TX0 12, w ∈ wsX0_end := by decide +kernel
  refine lv_aload_n hx hb dX0_end_0 rfl (lv_at hl 0 rfl) ?_
  refine lv_dup hx hb dX0_end_1 rfl ?_
  refine va_get (D := G) (ci := 0) (v := .int (z0.1 17)) (C := RX0) (T := TX0) (N := 12) hx hb hts hi_0 hown hK hP 4 rfl rfl 3 (by decide) hfl_30 (fun _ h9 => h9) rfl dX0_end_2 ?_
  refine lv_bipush (v := (-4)) hx hb dX0_end_5 (by decide) ?_
  refine lv_iand hx hb dX0_end_7 ?_
  refine va_put (D := G) (ci := 0) (v := .int ((z0.1 17) &&& (-4))) (ty := .int) (C := RX0) (T := TX0) (N := 12) hx hb hts hi_0 tyX0 tyX0_ok nmX0 hown hK hP hD hS 4 rfl rfl 3 (by decide) hfl_30 (fun _ h9 => h9) rfl (by decide +kernel) rfl rfl (Nat.le_of_ble_eq_true rfl) dX0_end_8 (fun H locs hP hD hS => ?_)
  have hP : va_P G vwCl ((fk_cW q k) (upd z0.1 17 ((z0.1 17) &&& (-4)), z0.2)) H := hP
  have hD : va_D A ((fk_cW q k) (upd z0.1 17 ((z0.1 17) &&& (-4)), z0.2)) := hD
  refine lv_aload_n hx hb dX0_end_11 rfl (lv_at hl 0 rfl) ?_
  refine va_get (D := G) (ci := 0) (v := .int (z0.1 23)) (C := RX0) (T := TX0) (N := 12) hx hb hts hi_0 hown hK hP 4 rfl rfl 9 (by decide) hfl_70 (fun _ h9 => h9) rfl dX0_end_12 ?_
  refine lv_bipush (v := 6) hx hb dX0_end_15 (by decide) ?_
  refine lv_icmp_ne (tgt := 27) hx hb dX0_end_17 (by decide) (fun c17 => ?_) (fun c17 => ?_)
  · refine lv_aload_n hx hb dX0_end_27 rfl (lv_at hl 0 rfl) ?_
    refine lv_iconst (v := 0) hx hb dX0_end_28 (by decide) ?_
    refine va_put (D := G) (ci := 0) (v := .int 0) (ty := .int) (C := RX0) (T := TX0) (N := 12) hx hb hts hi_0 tyX0 tyX0_ok nmX0 hown hK hP hD hS 4 rfl rfl 9 (by decide) hfl_70 (fun _ h9 => h9) rfl (by decide +kernel) rfl rfl (Nat.le_of_ble_eq_true rfl) dX0_end_29 (fun H locs hP hD hS => ?_)
    have hP : va_P G vwCl ((fk_cW q k) (upd (upd z0.1 17 ((z0.1 17) &&& (-4))) 23 0, z0.2)) H := hP
    have hD : va_D A ((fk_cW q k) (upd (upd z0.1 17 ((z0.1 17) &&& (-4))) 23 0, z0.2)) := hD
    exact fk_vret hx hb hr hlk hK hP hD hS (Eq.symm (by rw [fX0_end, if_neg c17] <;> rfl)) dX0_end_32
  · refine lv_aload_n hx hb dX0_end_20 rfl (lv_at hl 0 rfl) ?_
    refine va_get (D := G) (ci := 0) (v := .ref (q 3)) (C := RX0) (T := TX0) (N := 12) hx hb hts hi_0 hown hK hP 4 rfl rfl 1 (by decide) hfl_15 (fun _ h9 => h9) rfl dX0_end_21 ?_
    refine fk_Vv (Wd := (fk_cW q k)) (z := (upd z0.1 17 ((z0.1 17) &&& (-4)), z0.2)) (As := []) (rest := []) F9 (c_X2_forgetWindow l G q k _ (upd z0.1 17 ((z0.1 17) &&& (-4)), z0.2)) (cwV 0 hts gX0_end_X2_forgetWindow rfl rfl rfl (by decide +kernel) ⟨Nat.le_of_ble_eq_true rfl, Nat.le_of_ble_eq_true rfl⟩) (va_recv hK hP (ci := 2) (q0 := 3) rfl rfl) hK hP hD hS hA hN rfl hl.1 rfl (Nat.le_of_ble_eq_true rfl) dX0_end_24 ⟨Nat.zero_le _, Nat.zero_le _⟩ (fun z H locs hw hP hD hS => ?_)
    have hf : fX0_end z0 = fX0_end_c1 z := by rw [fX0_end, if_pos c17, ← hw] <;> rfl
    refine lv_aload_n hx hb dX0_end_27 rfl (lv_at hl 0 rfl) ?_
    refine lv_iconst (v := 0) hx hb dX0_end_28 (by decide) ?_
    refine va_put (D := G) (ci := 0) (v := .int 0) (ty := .int) (C := RX0) (T := TX0) (N := 12) hx hb hts hi_0 tyX0 tyX0_ok nmX0 hown hK hP hD hS 4 rfl rfl 9 (by decide) hfl_70 (fun _ h9 => h9) rfl (by decide +kernel) rfl rfl (Nat.le_of_ble_eq_true rfl) dX0_end_29 (fun H locs hP hD hS => ?_)
    have hP : va_P G vwCl ((fk_cW q k) (upd z.1 23 0, z.2)) H := hP
    have hD : va_D A ((fk_cW q k) (upd z.1 23 0, z.2)) := hD
    exact fk_vret hx hb hr hlk hK hP hD hS (Eq.symm (by rw [hf, fX0_end_c1] <;> rfl)) dX0_end_32
-- FloppyDesk$Controller.endWith(I)V
def fX0_endWith (z0 : fk_C) (a1 : Int32) : fk_C :=
  fX0_end (upd z0.1 17 ((z0.1 17) ||| a1), z0.2)
set_option maxHeartbeats 4000000 in
set_option maxRecDepth 100000 in
theorem c_X0_endWith (l : Launch) (G : va_G) (q : Nat → Nat) (k : Nat → ClassId) (sz : Nat) (z0 : fk_C) (a1 : Int32) : fk_Mv l yX0_endWith wsX0_endWith ({ frames := 2, cells := 0, slots := 0, locals := 40 } : Room) G (fk_cW q k) (fk_cT k) [.ref (q 4), .int a1] sz z0 (fX0_endWith z0 a1) := by
  refine fk_head (cc := cX0_endWith) (maxL := 2) (ret := none) (QQ := fun A => va_Qv (fun z1 => z1 = fX0_endWith z0 a1) (fk_At G (fk_cW q k) (fk_cT k) A) A) (by decide) rfl (Nat.le_of_ble_eq_true rfl) ?_ sz
  intro p e s m below meth c A ls hx hb hr hlk hml hown hts hK hN hA hP hD hS hl
  have hown : s.vm.findClass RX0 = some m.cls := hown
  have F9 : CallFix p m c cX0_endWith 2 s ([.ref (q 4), .int a1] : List Value).toArray wsX0_endWith RX0 := ⟨hx, hb, hml, hown, hts⟩
  have hl : lv_has ls 2 [(0, .ref (q 4)), (1, .int a1)] := hl
  have hfl_30 := hts (.fieldLink RX0 30 "FloppyDesk$Controller" "status" "I") (by decide +kernel)
  have hi_0 : ∀ w ∈ u_ws RX0 TX0 12, w ∈ wsX0_endWith := by decide +kernel
  refine lv_aload_n hx hb dX0_endWith_0 rfl (lv_at hl 0 rfl) ?_
  refine lv_dup hx hb dX0_endWith_1 rfl ?_
  refine va_get (D := G) (ci := 0) (v := .int (z0.1 17)) (C := RX0) (T := TX0) (N := 12) hx hb hts hi_0 hown hK hP 4 rfl rfl 3 (by decide) hfl_30 (fun _ h9 => h9) rfl dX0_endWith_2 ?_
  refine lv_iload_n hx hb dX0_endWith_5 rfl (lv_at hl 1 rfl) ?_
  refine lv_ior hx hb dX0_endWith_6 ?_
  refine va_put (D := G) (ci := 0) (v := .int ((z0.1 17) ||| a1)) (ty := .int) (C := RX0) (T := TX0) (N := 12) hx hb hts hi_0 tyX0 tyX0_ok nmX0 hown hK hP hD hS 4 rfl rfl 3 (by decide) hfl_30 (fun _ h9 => h9) rfl (by decide +kernel) rfl rfl (Nat.le_of_ble_eq_true rfl) dX0_endWith_7 (fun H locs hP hD hS => ?_)
  have hP : va_P G vwCl ((fk_cW q k) (upd z0.1 17 ((z0.1 17) ||| a1), z0.2)) H := hP
  have hD : va_D A ((fk_cW q k) (upd z0.1 17 ((z0.1 17) ||| a1), z0.2)) := hD
  refine lv_aload_n hx hb dX0_endWith_10 rfl (lv_at hl 0 rfl) ?_
  have hl := lv_sub hl [] (l' := []) rfl
  refine fk_Vv (Wd := (fk_cW q k)) (z := (upd z0.1 17 ((z0.1 17) ||| a1), z0.2)) (As := []) (rest := []) F9 (c_X0_end l G q k _ (upd z0.1 17 ((z0.1 17) ||| a1), z0.2)) (cwV 0 hts gX0_endWith_X0_end rfl rfl rfl (by decide +kernel) ⟨Nat.le_of_ble_eq_true rfl, Nat.le_of_ble_eq_true rfl⟩) (va_recv hK hP (ci := 0) (q0 := 4) rfl rfl) hK hP hD hS hA hN rfl hl.1 rfl (Nat.le_of_ble_eq_true rfl) dX0_endWith_11 ⟨Nat.zero_le _, Nat.zero_le _⟩ (fun z H locs hw hP hD hS => ?_)
  exact fk_vret hx hb hr hlk hK hP hD hS (hw.trans (Eq.symm (by rw [fX0_endWith] <;> rfl))) dX0_endWith_14
-- FloppyDesk$Controller.begin(IZ)Z
def fX0_begin_103 (z : fk_C) (x1 : Int32) : Int32 × fk_C :=
  (if x1 = 5 then (1, (upd (upd z.1 17 ((z.1 17) ||| 2)) 23 7, z.2)) else (if x1 = 0 then (1, (upd z.1 23 1, z.2)) else (if x1 = 1 then (1, (upd z.1 23 1, z.2)) else (1, (upd z.1 23 2, z.2)))))
def fX0_begin_c1 (z : fk_C) : Int32 × fk_C :=
  (1, z)
def fX0_begin_84 (z : fk_C) (x1 : Int32) : Int32 × fk_C :=
  (if (z.1 0) = 0 then fX0_begin_103 z x1 else fX0_begin_c1 (fX0_endWith z 64))
def fX0_begin_74 (z : fk_C) (x1 : Int32) : Int32 × fk_C :=
  (if x1 = 3 then fX0_begin_84 z x1 else (if x1 = 5 then fX0_begin_84 z x1 else fX0_begin_103 z x1))
def fX0_begin_c3 (z : fk_C) (a1 : Int32) : Int32 × fk_C :=
  (if a1 = 0 then fX0_begin_74 (upd (upd z.1 18 255) 20 0, z.2) a1 else fX0_begin_74 z a1)
def fX0_begin_c2 (z : fk_C) (a1 : Int32) : Int32 × fk_C :=
  fX0_begin_c3 (fX2_forgetDataSize z) a1
def fX0_begin (z0 : fk_C) (a1 : Int32) (a2 : Int32) : Int32 × fk_C :=
  (if a1 < 0 then (0, z0) else (if 5 < a1 then (0, z0) else (if (fX0_has z0 1) = 0 then fX0_begin_c2 (fX2_reset (upd (upd (upd (upd (upd z0.1 21 a1) 22 a2) 17 1) 24 0) 25 0, z0.2)) a1 else (0, z0))))
set_option maxHeartbeats 4000000 in
set_option maxRecDepth 100000 in
theorem c_X0_begin (l : Launch) (G : va_G) (q : Nat → Nat) (k : Nat → ClassId) (sz : Nat) (z0 : fk_C) (a1 : Int32) (a2 : Int32) (hb_a2 : a2 = 0 ∨ a2 = 1) : fk_Mi l yX0_begin wsX0_begin ({ frames := 3, cells := 0, slots := 0, locals := 61 } : Room) G (fk_cW q k) (fk_cT k) [.ref (q 4), .int a1, .int a2] sz z0 (fX0_begin z0 a1 a2) := by
  refine fk_head (cc := cX0_begin) (maxL := 3) (ret := (some .boolean)) (QQ := fun A => va_Qi (fun r z1 => (r, z1) = fX0_begin z0 a1 a2) (fk_At G (fk_cW q k) (fk_cT k) A) A) (by decide) rfl (Nat.le_of_ble_eq_true rfl) ?_ sz
  intro p e s m below meth c A ls hx hb hr hlk hml hown hts hK hN hA hP hD hS hl
  have hown : s.vm.findClass RX0 = some m.cls := hown
  have F9 : CallFix p m c cX0_begin 3 s ([.ref (q 4), .int a1, .int a2] : List Value).toArray wsX0_begin RX0 := ⟨hx, hb, hml, hown, hts⟩
  have hl : lv_has ls 3 [(0, .ref (q 4)), (1, .int a1), (2, .int a2)] := hl
  have hfl_9 := hts (.fieldLink RX0 9 "FloppyDesk$Controller" "disk" "LFloppyDesk$Disk;") (by decide +kernel)
  have hfl_15 := hts (.fieldLink RX0 15 "FloppyDesk$Controller" "reader" "LFloppyDesk$Reader;") (by decide +kernel)
  have hfl_26 := hts (.fieldLink RX0 26 "FloppyDesk$Controller" "latest" "I") (by decide +kernel)
  have hfl_30 := hts (.fieldLink RX0 30 "FloppyDesk$Controller" "status" "I") (by decide +kernel)
  have hfl_33 := hts (.fieldLink RX0 33 "FloppyDesk$Controller" "data" "I") (by decide +kernel)
  have hfl_40 := hts (.fieldLink RX0 40 "FloppyDesk$Controller" "writesDeleted" "Z") (by decide +kernel)
  have hfl_44 := hts (.fieldLink RX0 44 "FloppyDesk$Controller" "byteTimes" "I") (by decide +kernel)
  have hfl_47 := hts (.fieldLink RX0 47 "FloppyDesk$Controller" "indexes" "I") (by decide +kernel)
  have hfl_58 := hts (.fieldLink RX0 58 "FloppyDesk$Controller" "track" "I") (by decide +kernel)
  have hfl_70 := hts (.fieldLink RX0 70 "FloppyDesk$Controller" "phase" "I") (by decide +kernel)
  have hi_0 : ∀ w ∈ u_ws RX0 TX0 12, w ∈ wsX0_begin := by decide +kernel
  have hi_1 : ∀ w ∈ u_ws RX1 TX1 4, w ∈ wsX0_begin := by decide +kernel
  have h103 : ∀ (z : fk_C) (x1 : Int32) (H : Heap) (locs : List Loc) (ls : Array Slot), fX0_begin z0 a1 a2 = fX0_begin_103 z x1 → va_P G vwCl ((fk_cW q k) z) H → va_D A ((fk_cW q k) z) → va_S A s.heap H locs → lv_has ls 3 [(0, .ref (q 4)), (1, .int x1)] → W p l e ({ frames := 3, cells := 0, slots := 0, locals := 61 } : Room) s m ([.ref (q 4), .int a1, .int a2] : List Value).toArray below meth c H locs 0 0 (MQ below (va_Qi (fun r z1 => (r, z1) = fX0_begin z0 a1 a2) (fk_At G (fk_cW q k) (fk_cT k) A) A) ([.ref (q 4), .int a1, .int a2] : List Value).toArray s 0 0 A) (F0 m 103 ls []) := by
    intro z x1 H locs ls hf  hP hD hS hl
    refine lv_iload_n hx hb dX0_begin_103 rfl (lv_at hl 1 rfl) ?_
    refine lv_iconst (v := 5) hx hb dX0_begin_104 (by decide) ?_
    refine lv_icmp_ne (tgt := 127) hx hb dX0_begin_105 (by decide) (fun c105 => ?_) (fun c105 => ?_)
    · refine lv_aload_n hx hb dX0_begin_127 rfl (lv_at hl 0 rfl) ?_
      refine lv_iload_n hx hb dX0_begin_128 rfl (lv_at hl 1 rfl) ?_
      refine lv_if_eq (tgt := 137) hx hb dX0_begin_129 (by decide) (fun c129 => ?_) (fun c129 => ?_)
      · refine lv_iconst (v := 1) hx hb dX0_begin_137 (by decide) ?_
        refine lv_goto (tgt := 142) hx hb dX0_begin_138 (by decide) ?_
        refine va_put (D := G) (ci := 0) (v := .int 1) (ty := .int) (C := RX0) (T := TX0) (N := 12) hx hb hts hi_0 tyX0 tyX0_ok nmX0 hown hK hP hD hS 4 rfl rfl 9 (by decide) hfl_70 (fun _ h9 => h9) rfl (by decide +kernel) rfl rfl (Nat.le_of_ble_eq_true rfl) dX0_begin_142 (fun H locs hP hD hS => ?_)
        have hP : va_P G vwCl ((fk_cW q k) (upd z.1 23 1, z.2)) H := hP
        have hD : va_D A ((fk_cW q k) (upd z.1 23 1, z.2)) := hD
        refine lv_iconst (v := 1) hx hb dX0_begin_145 (by decide) ?_
        exact fk_iret hx hb hr hlk hK hP hD hS rfl (Eq.symm (by rw [hf, fX0_begin_103, if_neg c105, if_pos c129] <;> rfl)) dX0_begin_146
      · refine lv_iload_n hx hb dX0_begin_132 rfl (lv_at hl 1 rfl) ?_
        refine lv_iconst (v := 1) hx hb dX0_begin_133 (by decide) ?_
        refine lv_icmp_ne (tgt := 141) hx hb dX0_begin_134 (by decide) (fun c134 => ?_) (fun c134 => ?_)
        · refine lv_iconst (v := 2) hx hb dX0_begin_141 (by decide) ?_
          refine va_put (D := G) (ci := 0) (v := .int 2) (ty := .int) (C := RX0) (T := TX0) (N := 12) hx hb hts hi_0 tyX0 tyX0_ok nmX0 hown hK hP hD hS 4 rfl rfl 9 (by decide) hfl_70 (fun _ h9 => h9) rfl (by decide +kernel) rfl rfl (Nat.le_of_ble_eq_true rfl) dX0_begin_142 (fun H locs hP hD hS => ?_)
          have hP : va_P G vwCl ((fk_cW q k) (upd z.1 23 2, z.2)) H := hP
          have hD : va_D A ((fk_cW q k) (upd z.1 23 2, z.2)) := hD
          refine lv_iconst (v := 1) hx hb dX0_begin_145 (by decide) ?_
          exact fk_iret hx hb hr hlk hK hP hD hS rfl (Eq.symm (by rw [hf, fX0_begin_103, if_neg c105, if_neg c129, if_neg c134] <;> rfl)) dX0_begin_146
        · refine lv_iconst (v := 1) hx hb dX0_begin_137 (by decide) ?_
          refine lv_goto (tgt := 142) hx hb dX0_begin_138 (by decide) ?_
          refine va_put (D := G) (ci := 0) (v := .int 1) (ty := .int) (C := RX0) (T := TX0) (N := 12) hx hb hts hi_0 tyX0 tyX0_ok nmX0 hown hK hP hD hS 4 rfl rfl 9 (by decide) hfl_70 (fun _ h9 => h9) rfl (by decide +kernel) rfl rfl (Nat.le_of_ble_eq_true rfl) dX0_begin_142 (fun H locs hP hD hS => ?_)
          have hP : va_P G vwCl ((fk_cW q k) (upd z.1 23 1, z.2)) H := hP
          have hD : va_D A ((fk_cW q k) (upd z.1 23 1, z.2)) := hD
          refine lv_iconst (v := 1) hx hb dX0_begin_145 (by decide) ?_
          exact fk_iret hx hb hr hlk hK hP hD hS rfl (Eq.symm (by rw [hf, fX0_begin_103, if_neg c105, if_neg c129, if_pos c134] <;> rfl)) dX0_begin_146
    · refine lv_aload_n hx hb dX0_begin_108 rfl (lv_at hl 0 rfl) ?_
      refine lv_dup hx hb dX0_begin_109 rfl ?_
      refine va_get (D := G) (ci := 0) (v := .int (z.1 17)) (C := RX0) (T := TX0) (N := 12) hx hb hts hi_0 hown hK hP 4 rfl rfl 3 (by decide) hfl_30 (fun _ h9 => h9) rfl dX0_begin_110 ?_
      refine lv_iconst (v := 2) hx hb dX0_begin_113 (by decide) ?_
      refine lv_ior hx hb dX0_begin_114 ?_
      refine va_put (D := G) (ci := 0) (v := .int ((z.1 17) ||| 2)) (ty := .int) (C := RX0) (T := TX0) (N := 12) hx hb hts hi_0 tyX0 tyX0_ok nmX0 hown hK hP hD hS 4 rfl rfl 3 (by decide) hfl_30 (fun _ h9 => h9) rfl (by decide +kernel) rfl rfl (Nat.le_of_ble_eq_true rfl) dX0_begin_115 (fun H locs hP hD hS => ?_)
      have hP : va_P G vwCl ((fk_cW q k) (upd z.1 17 ((z.1 17) ||| 2), z.2)) H := hP
      have hD : va_D A ((fk_cW q k) (upd z.1 17 ((z.1 17) ||| 2), z.2)) := hD
      refine lv_aload_n hx hb dX0_begin_118 rfl (lv_at hl 0 rfl) ?_
      refine lv_bipush (v := 7) hx hb dX0_begin_119 (by decide) ?_
      refine va_put (D := G) (ci := 0) (v := .int 7) (ty := .int) (C := RX0) (T := TX0) (N := 12) hx hb hts hi_0 tyX0 tyX0_ok nmX0 hown hK hP hD hS 4 rfl rfl 9 (by decide) hfl_70 (fun _ h9 => h9) rfl (by decide +kernel) rfl rfl (Nat.le_of_ble_eq_true rfl) dX0_begin_121 (fun H locs hP hD hS => ?_)
      have hP : va_P G vwCl ((fk_cW q k) (upd (upd z.1 17 ((z.1 17) ||| 2)) 23 7, z.2)) H := hP
      have hD : va_D A ((fk_cW q k) (upd (upd z.1 17 ((z.1 17) ||| 2)) 23 7, z.2)) := hD
      refine lv_goto (tgt := 145) hx hb dX0_begin_124 (by decide) ?_
      refine lv_iconst (v := 1) hx hb dX0_begin_145 (by decide) ?_
      exact fk_iret hx hb hr hlk hK hP hD hS rfl (Eq.symm (by rw [hf, fX0_begin_103, if_pos c105] <;> rfl)) dX0_begin_146
  have h84 : ∀ (z : fk_C) (x1 : Int32) (H : Heap) (locs : List Loc) (ls : Array Slot), fX0_begin z0 a1 a2 = fX0_begin_84 z x1 → va_P G vwCl ((fk_cW q k) z) H → va_D A ((fk_cW q k) z) → va_S A s.heap H locs → lv_has ls 3 [(0, .ref (q 4)), (1, .int x1)] → W p l e ({ frames := 3, cells := 0, slots := 0, locals := 61 } : Room) s m ([.ref (q 4), .int a1, .int a2] : List Value).toArray below meth c H locs 0 0 (MQ below (va_Qi (fun r z1 => (r, z1) = fX0_begin z0 a1 a2) (fk_At G (fk_cW q k) (fk_cT k) A) A) ([.ref (q 4), .int a1, .int a2] : List Value).toArray s 0 0 A) (F0 m 84 ls []) := by
    intro z x1 H locs ls hf  hP hD hS hl
    refine lv_aload_n hx hb dX0_begin_84 rfl (lv_at hl 0 rfl) ?_
    refine va_get (D := G) (ci := 0) (v := .ref (q 1)) (C := RX0) (T := TX0) (N := 12) hx hb hts hi_0 hown hK hP 4 rfl rfl 0 (by decide) hfl_9 (fun _ h9 => h9) rfl dX0_begin_85 ?_
    refine va_getN (D := G) (ci := 1) (v := .int (z.1 0)) (C := RX1) (T := TX1) (N := 4) hx hb hts hi_1 hown hK hP 1 rfl rfl 1 (by decide) (hN.f 0 rfl) (fun _ h9 => h9) rfl dX0_begin_88 ?_
    refine lv_if_eq (tgt := 103) hx hb dX0_begin_91 (by decide) (fun c91 => ?_) (fun c91 => ?_)
    · exact h103 z x1 _ _ ls (by rw [hf, fX0_begin_84, if_pos c91] <;> rfl) hP hD hS (lv_sub hl [0, 1] rfl)
    · refine lv_aload_n hx hb dX0_begin_94 rfl (lv_at hl 0 rfl) ?_
      refine lv_bipush (v := 64) hx hb dX0_begin_95 (by decide) ?_
      have hl := lv_sub hl [] (l' := []) rfl
      refine fk_Vv (Wd := (fk_cW q k)) (z := z) (As := [.int 64]) (rest := []) F9 (c_X0_endWith l G q k _ z 64) (cwV 1 hts gX0_begin_X0_endWith rfl rfl rfl (by decide +kernel) ⟨Nat.le_of_ble_eq_true rfl, Nat.le_of_ble_eq_true rfl⟩) (va_recv hK hP (ci := 0) (q0 := 4) rfl rfl) hK hP hD hS hA hN rfl hl.1 rfl (Nat.le_of_ble_eq_true rfl) dX0_begin_97 ⟨Nat.zero_le _, Nat.zero_le _⟩ (fun z H locs hw hP hD hS => ?_)
      have hf : fX0_begin z0 a1 a2 = fX0_begin_c1 z := by rw [hf, fX0_begin_84, if_neg c91, ← hw] <;> rfl
      refine lv_goto (tgt := 145) hx hb dX0_begin_100 (by decide) ?_
      refine lv_iconst (v := 1) hx hb dX0_begin_145 (by decide) ?_
      exact fk_iret hx hb hr hlk hK hP hD hS rfl (Eq.symm (by rw [hf, fX0_begin_c1] <;> rfl)) dX0_begin_146
  have h74 : ∀ (z : fk_C) (x1 : Int32) (H : Heap) (locs : List Loc) (ls : Array Slot), fX0_begin z0 a1 a2 = fX0_begin_74 z x1 → va_P G vwCl ((fk_cW q k) z) H → va_D A ((fk_cW q k) z) → va_S A s.heap H locs → lv_has ls 3 [(0, .ref (q 4)), (1, .int x1)] → W p l e ({ frames := 3, cells := 0, slots := 0, locals := 61 } : Room) s m ([.ref (q 4), .int a1, .int a2] : List Value).toArray below meth c H locs 0 0 (MQ below (va_Qi (fun r z1 => (r, z1) = fX0_begin z0 a1 a2) (fk_At G (fk_cW q k) (fk_cT k) A) A) ([.ref (q 4), .int a1, .int a2] : List Value).toArray s 0 0 A) (F0 m 74 ls []) := by
    intro z x1 H locs ls hf  hP hD hS hl
    refine lv_iload_n hx hb dX0_begin_74 rfl (lv_at hl 1 rfl) ?_
    refine lv_iconst (v := 3) hx hb dX0_begin_75 (by decide) ?_
    refine lv_icmp_eq (tgt := 84) hx hb dX0_begin_76 (by decide) (fun c76 => ?_) (fun c76 => ?_)
    · exact h84 z x1 _ _ ls (by rw [hf, fX0_begin_74, if_pos c76] <;> rfl) hP hD hS (lv_sub hl [0, 1] rfl)
    · refine lv_iload_n hx hb dX0_begin_79 rfl (lv_at hl 1 rfl) ?_
      refine lv_iconst (v := 5) hx hb dX0_begin_80 (by decide) ?_
      refine lv_icmp_ne (tgt := 103) hx hb dX0_begin_81 (by decide) (fun c81 => ?_) (fun c81 => ?_)
      · exact h103 z x1 _ _ ls (by rw [hf, fX0_begin_74, if_neg c76, if_neg c81] <;> rfl) hP hD hS (lv_sub hl [0, 1] rfl)
      · exact h84 z x1 _ _ ls (by rw [hf, fX0_begin_74, if_neg c76, if_pos c81] <;> rfl) hP hD hS (lv_sub hl [0, 1] rfl)
  refine lv_iload_n hx hb dX0_begin_0 rfl (lv_at hl 1 rfl) ?_
  refine lv_if_lt (tgt := 17) hx hb dX0_begin_1 (by decide) (fun c1 => ?_) (fun c1 => ?_)
  · refine lv_iconst (v := 0) hx hb dX0_begin_17 (by decide) ?_
    exact fk_iret hx hb hr hlk hK hP hD hS rfl (Eq.symm (by rw [fX0_begin, if_pos c1] <;> rfl)) dX0_begin_18
  · refine lv_iload_n hx hb dX0_begin_4 rfl (lv_at hl 1 rfl) ?_
    refine lv_iconst (v := 5) hx hb dX0_begin_5 (by decide) ?_
    refine lv_icmp_gt (tgt := 17) hx hb dX0_begin_6 (by decide) (fun c6 => ?_) (fun c6 => ?_)
    · refine lv_iconst (v := 0) hx hb dX0_begin_17 (by decide) ?_
      exact fk_iret hx hb hr hlk hK hP hD hS rfl (Eq.symm (by rw [fX0_begin, if_neg c1, if_pos c6] <;> rfl)) dX0_begin_18
    · refine lv_aload_n hx hb dX0_begin_9 rfl (lv_at hl 0 rfl) ?_
      refine lv_iconst (v := 1) hx hb dX0_begin_10 (by decide) ?_
      refine fk_Vp (Wd := (fk_cW q k)) (z := z0) (As := [.int 1]) (rest := []) F9 (c_X0_has l G q k _ z0 1) (cwV 1 hts gX0_begin_X0_has rfl rfl rfl (by decide +kernel) ⟨Nat.le_of_ble_eq_true rfl, Nat.le_of_ble_eq_true rfl⟩) (va_recv hK hP (ci := 0) (q0 := 4) rfl rfl) hK hP hD hS hA hN rfl hl.1 rfl (Nat.le_of_ble_eq_true rfl) dX0_begin_11 ⟨Nat.zero_le _, Nat.zero_le _⟩ (fun H locs hP hD hS => ?_)
      refine lv_if_eq (tgt := 19) hx hb dX0_begin_14 (by decide) (fun c14 => ?_) (fun c14 => ?_)
      · refine lv_aload_n hx hb dX0_begin_19 rfl (lv_at hl 0 rfl) ?_
        refine lv_iload_n hx hb dX0_begin_20 rfl (lv_at hl 1 rfl) ?_
        refine va_put (D := G) (ci := 0) (v := .int a1) (ty := .int) (C := RX0) (T := TX0) (N := 12) hx hb hts hi_0 tyX0 tyX0_ok nmX0 hown hK hP hD hS 4 rfl rfl 7 (by decide) hfl_26 (fun _ h9 => h9) rfl (by decide +kernel) rfl rfl (Nat.le_of_ble_eq_true rfl) dX0_begin_21 (fun H locs hP hD hS => ?_)
        have hP : va_P G vwCl ((fk_cW q k) (upd z0.1 21 a1, z0.2)) H := hP
        have hD : va_D A ((fk_cW q k) (upd z0.1 21 a1, z0.2)) := hD
        refine lv_aload_n hx hb dX0_begin_24 rfl (lv_at hl 0 rfl) ?_
        refine lv_iload_n hx hb dX0_begin_25 rfl (lv_at hl 2 rfl) ?_
        refine va_put (D := G) (ci := 0) (v := .int a2) (ty := .boolean) (C := RX0) (T := TX0) (N := 12) hx hb hts hi_0 tyX0 tyX0_ok nmX0 hown hK hP hD hS 4 rfl rfl 8 (by decide) hfl_40 (fun _ h9 => h9) rfl (by decide +kernel) (fk_nb hb_a2) (fk_fb hb_a2) (Nat.le_of_ble_eq_true rfl) dX0_begin_26 (fun H locs hP hD hS => ?_)
        have hP : va_P G vwCl ((fk_cW q k) (upd (upd z0.1 21 a1) 22 a2, z0.2)) H := hP
        have hD : va_D A ((fk_cW q k) (upd (upd z0.1 21 a1) 22 a2, z0.2)) := hD
        refine lv_aload_n hx hb dX0_begin_29 rfl (lv_at hl 0 rfl) ?_
        refine lv_iconst (v := 1) hx hb dX0_begin_30 (by decide) ?_
        refine va_put (D := G) (ci := 0) (v := .int 1) (ty := .int) (C := RX0) (T := TX0) (N := 12) hx hb hts hi_0 tyX0 tyX0_ok nmX0 hown hK hP hD hS 4 rfl rfl 3 (by decide) hfl_30 (fun _ h9 => h9) rfl (by decide +kernel) rfl rfl (Nat.le_of_ble_eq_true rfl) dX0_begin_31 (fun H locs hP hD hS => ?_)
        have hP : va_P G vwCl ((fk_cW q k) (upd (upd (upd z0.1 21 a1) 22 a2) 17 1, z0.2)) H := hP
        have hD : va_D A ((fk_cW q k) (upd (upd (upd z0.1 21 a1) 22 a2) 17 1, z0.2)) := hD
        refine lv_aload_n hx hb dX0_begin_34 rfl (lv_at hl 0 rfl) ?_
        refine lv_iconst (v := 0) hx hb dX0_begin_35 (by decide) ?_
        refine va_put (D := G) (ci := 0) (v := .int 0) (ty := .int) (C := RX0) (T := TX0) (N := 12) hx hb hts hi_0 tyX0 tyX0_ok nmX0 hown hK hP hD hS 4 rfl rfl 10 (by decide) hfl_44 (fun _ h9 => h9) rfl (by decide +kernel) rfl rfl (Nat.le_of_ble_eq_true rfl) dX0_begin_36 (fun H locs hP hD hS => ?_)
        have hP : va_P G vwCl ((fk_cW q k) (upd (upd (upd (upd z0.1 21 a1) 22 a2) 17 1) 24 0, z0.2)) H := hP
        have hD : va_D A ((fk_cW q k) (upd (upd (upd (upd z0.1 21 a1) 22 a2) 17 1) 24 0, z0.2)) := hD
        refine lv_aload_n hx hb dX0_begin_39 rfl (lv_at hl 0 rfl) ?_
        refine lv_iconst (v := 0) hx hb dX0_begin_40 (by decide) ?_
        refine va_put (D := G) (ci := 0) (v := .int 0) (ty := .int) (C := RX0) (T := TX0) (N := 12) hx hb hts hi_0 tyX0 tyX0_ok nmX0 hown hK hP hD hS 4 rfl rfl 11 (by decide) hfl_47 (fun _ h9 => h9) rfl (by decide +kernel) rfl rfl (Nat.le_of_ble_eq_true rfl) dX0_begin_41 (fun H locs hP hD hS => ?_)
        have hP : va_P G vwCl ((fk_cW q k) (upd (upd (upd (upd (upd z0.1 21 a1) 22 a2) 17 1) 24 0) 25 0, z0.2)) H := hP
        have hD : va_D A ((fk_cW q k) (upd (upd (upd (upd (upd z0.1 21 a1) 22 a2) 17 1) 24 0) 25 0, z0.2)) := hD
        refine lv_aload_n hx hb dX0_begin_44 rfl (lv_at hl 0 rfl) ?_
        refine va_get (D := G) (ci := 0) (v := .ref (q 3)) (C := RX0) (T := TX0) (N := 12) hx hb hts hi_0 hown hK hP 4 rfl rfl 1 (by decide) hfl_15 (fun _ h9 => h9) rfl dX0_begin_45 ?_
        have hl := lv_sub hl [0, 1] (l' := [(0, .ref (q 4)), (1, .int a1)]) rfl
        refine fk_Vv (Wd := (fk_cW q k)) (z := (upd (upd (upd (upd (upd z0.1 21 a1) 22 a2) 17 1) 24 0) 25 0, z0.2)) (As := []) (rest := []) F9 (c_X2_reset l G q k _ (upd (upd (upd (upd (upd z0.1 21 a1) 22 a2) 17 1) 24 0) 25 0, z0.2)) (cwV 0 hts gX0_begin_X2_reset rfl rfl rfl (by decide +kernel) ⟨Nat.le_of_ble_eq_true rfl, Nat.le_of_ble_eq_true rfl⟩) (va_recv hK hP (ci := 2) (q0 := 3) rfl rfl) hK hP hD hS hA hN rfl hl.1 rfl (Nat.le_of_ble_eq_true rfl) dX0_begin_48 ⟨Nat.zero_le _, Nat.zero_le _⟩ (fun z H locs hw hP hD hS => ?_)
        have hf : fX0_begin z0 a1 a2 = fX0_begin_c2 z a1 := by rw [fX0_begin, if_neg c1, if_neg c6, if_pos c14, ← hw] <;> rfl
        refine lv_aload_n hx hb dX0_begin_51 rfl (lv_at hl 0 rfl) ?_
        refine va_get (D := G) (ci := 0) (v := .ref (q 3)) (C := RX0) (T := TX0) (N := 12) hx hb hts hi_0 hown hK hP 4 rfl rfl 1 (by decide) hfl_15 (fun _ h9 => h9) rfl dX0_begin_52 ?_
        refine fk_Vv (Wd := (fk_cW q k)) (z := z) (As := []) (rest := []) F9 (c_X2_forgetDataSize l G q k _ z) (cwV 0 hts gX0_begin_X2_forgetDataSize rfl rfl rfl (by decide +kernel) ⟨Nat.le_of_ble_eq_true rfl, Nat.le_of_ble_eq_true rfl⟩) (va_recv hK hP (ci := 2) (q0 := 3) rfl rfl) hK hP hD hS hA hN rfl hl.1 rfl (Nat.le_of_ble_eq_true rfl) dX0_begin_55 ⟨Nat.zero_le _, Nat.zero_le _⟩ (fun z H locs hw hP hD hS => ?_)
        have hf : fX0_begin z0 a1 a2 = fX0_begin_c3 z a1 := by rw [hf, fX0_begin_c2, ← hw] <;> rfl
        refine lv_iload_n hx hb dX0_begin_58 rfl (lv_at hl 1 rfl) ?_
        refine lv_if_ne (tgt := 74) hx hb dX0_begin_59 (by decide) (fun c59 => ?_) (fun c59 => ?_)
        · exact h74 z a1 _ _ ls (by rw [hf, fX0_begin_c3, if_neg c59] <;> rfl) hP hD hS (lv_sub hl [0, 1] rfl)
        · refine lv_aload_n hx hb dX0_begin_62 rfl (lv_at hl 0 rfl) ?_
          refine lv_sipush (v := 255) hx hb dX0_begin_63 (by decide) ?_
          refine va_put (D := G) (ci := 0) (v := .int 255) (ty := .int) (C := RX0) (T := TX0) (N := 12) hx hb hts hi_0 tyX0 tyX0_ok nmX0 hown hK hP hD hS 4 rfl rfl 4 (by decide) hfl_58 (fun _ h9 => h9) rfl (by decide +kernel) rfl rfl (Nat.le_of_ble_eq_true rfl) dX0_begin_66 (fun H locs hP hD hS => ?_)
          have hP : va_P G vwCl ((fk_cW q k) (upd z.1 18 255, z.2)) H := hP
          have hD : va_D A ((fk_cW q k) (upd z.1 18 255, z.2)) := hD
          refine lv_aload_n hx hb dX0_begin_69 rfl (lv_at hl 0 rfl) ?_
          refine lv_iconst (v := 0) hx hb dX0_begin_70 (by decide) ?_
          refine va_put (D := G) (ci := 0) (v := .int 0) (ty := .int) (C := RX0) (T := TX0) (N := 12) hx hb hts hi_0 tyX0 tyX0_ok nmX0 hown hK hP hD hS 4 rfl rfl 6 (by decide) hfl_33 (fun _ h9 => h9) rfl (by decide +kernel) rfl rfl (Nat.le_of_ble_eq_true rfl) dX0_begin_71 (fun H locs hP hD hS => ?_)
          have hP : va_P G vwCl ((fk_cW q k) (upd (upd z.1 18 255) 20 0, z.2)) H := hP
          have hD : va_D A ((fk_cW q k) (upd (upd z.1 18 255) 20 0, z.2)) := hD
          exact h74 (upd (upd z.1 18 255) 20 0, z.2) a1 _ _ ls (by rw [hf, fX0_begin_c3, if_pos c59] <;> rfl) hP hD hS (lv_sub hl [0, 1] rfl)
      · refine lv_iconst (v := 0) hx hb dX0_begin_17 (by decide) ?_
        exact fk_iret hx hb hr hlk hK hP hD hS rfl (Eq.symm (by rw [fX0_begin, if_neg c1, if_neg c6, if_neg c14] <;> rfl)) dX0_begin_18
-- FloppyDesk$Writer.putWord(I)V
def fX4_putWord (z0 : fk_C) (a1 : Int32) : fk_C :=
  (upd (upd (upd z0.1 26 a1) 27 16) 30 ((z0.1 30) + 1), z0.2)
set_option maxHeartbeats 4000000 in
set_option maxRecDepth 100000 in
theorem c_X4_putWord (l : Launch) (G : va_G) (q : Nat → Nat) (k : Nat → ClassId) (sz : Nat) (z0 : fk_C) (a1 : Int32) : fk_Mv l yX4_putWord wsX4_putWord ({ frames := 0, cells := 0, slots := 0, locals := 0 } : Room) G (fk_cW q k) (fk_cT k) [.ref (q 5), .int a1] sz z0 (fX4_putWord z0 a1) := by
  refine fk_head (cc := cX4_putWord) (maxL := 2) (ret := none) (QQ := fun A => va_Qv (fun z1 => z1 = fX4_putWord z0 a1) (fk_At G (fk_cW q k) (fk_cT k) A) A) (by decide) rfl (Nat.le_of_ble_eq_true rfl) ?_ sz
  intro p e s m below meth c A ls hx hb hr hlk hml hown hts hK hN hA hP hD hS hl
  have hown : s.vm.findClass RX4 = some m.cls := hown
  have F9 : CallFix p m c cX4_putWord 2 s ([.ref (q 5), .int a1] : List Value).toArray wsX4_putWord RX4 := ⟨hx, hb, hml, hown, hts⟩
  have hl : lv_has ls 2 [(0, .ref (q 5)), (1, .int a1)] := hl
  have hfl_9 := hts (.fieldLink RX4 9 "FloppyDesk$Writer" "cellsLeft" "I") (by decide +kernel)
  have hfl_22 := hts (.fieldLink RX4 22 "FloppyDesk$Writer" "count" "I") (by decide +kernel)
  have hfl_43 := hts (.fieldLink RX4 43 "FloppyDesk$Writer" "word" "I") (by decide +kernel)
  have hi_4 : ∀ w ∈ u_ws RX4 TX4 7, w ∈ wsX4_putWord := by decide +kernel
  refine lv_aload_n hx hb dX4_putWord_0 rfl (lv_at hl 0 rfl) ?_
  refine lv_iload_n hx hb dX4_putWord_1 rfl (lv_at hl 1 rfl) ?_
  refine va_put (D := G) (ci := 4) (v := .int a1) (ty := .int) (C := RX4) (T := TX4) (N := 7) hx hb hts hi_4 tyX4 tyX4_ok nmX4 hown hK hP hD hS 5 rfl rfl 0 (by decide) hfl_43 (fun _ h9 => h9) rfl (by decide +kernel) rfl rfl (Nat.le_of_ble_eq_true rfl) dX4_putWord_2 (fun H locs hP hD hS => ?_)
  have hP : va_P G vwCl ((fk_cW q k) (upd z0.1 26 a1, z0.2)) H := hP
  have hD : va_D A ((fk_cW q k) (upd z0.1 26 a1, z0.2)) := hD
  refine lv_aload_n hx hb dX4_putWord_5 rfl (lv_at hl 0 rfl) ?_
  refine lv_bipush (v := 16) hx hb dX4_putWord_6 (by decide) ?_
  refine va_put (D := G) (ci := 4) (v := .int 16) (ty := .int) (C := RX4) (T := TX4) (N := 7) hx hb hts hi_4 tyX4 tyX4_ok nmX4 hown hK hP hD hS 5 rfl rfl 1 (by decide) hfl_9 (fun _ h9 => h9) rfl (by decide +kernel) rfl rfl (Nat.le_of_ble_eq_true rfl) dX4_putWord_8 (fun H locs hP hD hS => ?_)
  have hP : va_P G vwCl ((fk_cW q k) (upd (upd z0.1 26 a1) 27 16, z0.2)) H := hP
  have hD : va_D A ((fk_cW q k) (upd (upd z0.1 26 a1) 27 16, z0.2)) := hD
  refine lv_aload_n hx hb dX4_putWord_11 rfl (lv_at hl 0 rfl) ?_
  refine lv_dup hx hb dX4_putWord_12 rfl ?_
  refine va_get (D := G) (ci := 4) (v := .int (z0.1 30)) (C := RX4) (T := TX4) (N := 7) hx hb hts hi_4 hown hK hP 5 rfl rfl 4 (by decide) hfl_22 (fun _ h9 => h9) rfl dX4_putWord_13 ?_
  refine lv_iconst (v := 1) hx hb dX4_putWord_16 (by decide) ?_
  refine lv_iadd hx hb dX4_putWord_17 ?_
  refine va_put (D := G) (ci := 4) (v := .int ((z0.1 30) + 1)) (ty := .int) (C := RX4) (T := TX4) (N := 7) hx hb hts hi_4 tyX4 tyX4_ok nmX4 hown hK hP hD hS 5 rfl rfl 4 (by decide) hfl_22 (fun _ h9 => h9) rfl (by decide +kernel) rfl rfl (Nat.le_of_ble_eq_true rfl) dX4_putWord_18 (fun H locs hP hD hS => ?_)
  have hP : va_P G vwCl ((fk_cW q k) (upd (upd (upd z0.1 26 a1) 27 16) 30 ((z0.1 30) + 1), z0.2)) H := hP
  have hD : va_D A ((fk_cW q k) (upd (upd (upd z0.1 26 a1) 27 16) 30 ((z0.1 30) + 1), z0.2)) := hD
  exact fk_vret hx hb hr hlk hK hP hD hS (Eq.symm (by rw [fX4_putWord] <;> rfl)) dX4_putWord_21
-- FloppyDesk$Writer.putUnchecked(I)V
def fX4_putUnchecked (z0 : fk_C) (a1 : Int32) : fk_C :=
  fX4_putWord (upd (upd (upd (upd (upd (upd (upd (upd (upd z0.1 28 ((a1 >>> ((7 : Int32) &&& 31)) &&& 1)) 28 ((a1 >>> ((6 : Int32) &&& 31)) &&& 1)) 28 ((a1 >>> ((5 : Int32) &&& 31)) &&& 1)) 28 ((a1 >>> ((4 : Int32) &&& 31)) &&& 1)) 28 ((a1 >>> ((3 : Int32) &&& 31)) &&& 1)) 28 ((a1 >>> ((2 : Int32) &&& 31)) &&& 1)) 28 ((a1 >>> ((1 : Int32) &&& 31)) &&& 1)) 28 ((a1 >>> ((0 : Int32) &&& 31)) &&& 1)) 31 0, z0.2) ((((((((((((((((((((((((0 <<< ((2 : Int32) &&& 31)) ||| ((((z0.1 28) ||| ((a1 >>> ((7 : Int32) &&& 31)) &&& 1)) ^^^ 1) <<< ((1 : Int32) &&& 31))) ||| ((a1 >>> ((7 : Int32) &&& 31)) &&& 1)) <<< ((2 : Int32) &&& 31)) ||| (((((a1 >>> ((7 : Int32) &&& 31)) &&& 1) ||| ((a1 >>> ((6 : Int32) &&& 31)) &&& 1)) ^^^ 1) <<< ((1 : Int32) &&& 31))) ||| ((a1 >>> ((6 : Int32) &&& 31)) &&& 1)) <<< ((2 : Int32) &&& 31)) ||| (((((a1 >>> ((6 : Int32) &&& 31)) &&& 1) ||| ((a1 >>> ((5 : Int32) &&& 31)) &&& 1)) ^^^ 1) <<< ((1 : Int32) &&& 31))) ||| ((a1 >>> ((5 : Int32) &&& 31)) &&& 1)) <<< ((2 : Int32) &&& 31)) ||| (((((a1 >>> ((5 : Int32) &&& 31)) &&& 1) ||| ((a1 >>> ((4 : Int32) &&& 31)) &&& 1)) ^^^ 1) <<< ((1 : Int32) &&& 31))) ||| ((a1 >>> ((4 : Int32) &&& 31)) &&& 1)) <<< ((2 : Int32) &&& 31)) ||| (((((a1 >>> ((4 : Int32) &&& 31)) &&& 1) ||| ((a1 >>> ((3 : Int32) &&& 31)) &&& 1)) ^^^ 1) <<< ((1 : Int32) &&& 31))) ||| ((a1 >>> ((3 : Int32) &&& 31)) &&& 1)) <<< ((2 : Int32) &&& 31)) ||| (((((a1 >>> ((3 : Int32) &&& 31)) &&& 1) ||| ((a1 >>> ((2 : Int32) &&& 31)) &&& 1)) ^^^ 1) <<< ((1 : Int32) &&& 31))) ||| ((a1 >>> ((2 : Int32) &&& 31)) &&& 1)) <<< ((2 : Int32) &&& 31)) ||| (((((a1 >>> ((2 : Int32) &&& 31)) &&& 1) ||| ((a1 >>> ((1 : Int32) &&& 31)) &&& 1)) ^^^ 1) <<< ((1 : Int32) &&& 31))) ||| ((a1 >>> ((1 : Int32) &&& 31)) &&& 1)) <<< ((2 : Int32) &&& 31)) ||| (((((a1 >>> ((1 : Int32) &&& 31)) &&& 1) ||| ((a1 >>> ((0 : Int32) &&& 31)) &&& 1)) ^^^ 1) <<< ((1 : Int32) &&& 31))) ||| ((a1 >>> ((0 : Int32) &&& 31)) &&& 1))
set_option maxHeartbeats 4000000 in
set_option maxRecDepth 100000 in
theorem c_X4_putUnchecked (l : Launch) (G : va_G) (q : Nat → Nat) (k : Nat → ClassId) (sz : Nat) (z0 : fk_C) (a1 : Int32) : fk_Mv l yX4_putUnchecked wsX4_putUnchecked ({ frames := 1, cells := 0, slots := 0, locals := 21 } : Room) G (fk_cW q k) (fk_cT k) [.ref (q 5), .int a1] sz z0 (fX4_putUnchecked z0 a1) := by
  refine fk_head (cc := cX4_putUnchecked) (maxL := 6) (ret := none) (QQ := fun A => va_Qv (fun z1 => z1 = fX4_putUnchecked z0 a1) (fk_At G (fk_cW q k) (fk_cT k) A) A) (by decide) rfl (Nat.le_of_ble_eq_true rfl) ?_ sz
  intro p e s m below meth c A ls hx hb hr hlk hml hown hts hK hN hA hP hD hS hl
  have hown : s.vm.findClass RX4 = some m.cls := hown
  have F9 : CallFix p m c cX4_putUnchecked 6 s ([.ref (q 5), .int a1] : List Value).toArray wsX4_putUnchecked RX4 := ⟨hx, hb, hml, hown, hts⟩
  have hl : lv_has ls 6 [(0, .ref (q 5)), (1, .int a1)] := hl
  have hfl_15 := hts (.fieldLink RX4 15 "FloppyDesk$Writer" "lastBit" "I") (by decide +kernel)
  have hfl_25 := hts (.fieldLink RX4 25 "FloppyDesk$Writer" "isBehindMark" "Z") (by decide +kernel)
  have hi_4 : ∀ w ∈ u_ws RX4 TX4 7, w ∈ wsX4_putUnchecked := by decide +kernel
  refine lv_iconst (v := 0) hx hb dX4_putUnchecked_0 (by decide) ?_
  refine lv_istore_n (lv' := [(2, .int 0), (0, .ref (q 5)), (1, .int a1)]) hx hb dX4_putUnchecked_1 rfl hl (by decide) rfl (fun ls hl => ?_)
  refine lv_bipush (v := 7) hx hb dX4_putUnchecked_2 (by decide) ?_
  refine lv_istore_n (lv' := [(3, .int 7), (2, .int 0), (0, .ref (q 5)), (1, .int a1)]) hx hb dX4_putUnchecked_4 rfl hl (by decide) rfl (fun ls hl => ?_)
  refine lv_iload_n hx hb dX4_putUnchecked_5 rfl (lv_at hl 0 rfl) ?_
  refine lv_if_lt (tgt := 51) hx hb dX4_putUnchecked_6 (by decide) (fun h9 => absurd h9 (by decide)) (fun _ => ?_)
  refine lv_iload_n hx hb dX4_putUnchecked_9 rfl (lv_at hl 3 rfl) ?_
  refine lv_iload_n hx hb dX4_putUnchecked_10 rfl (lv_at hl 0 rfl) ?_
  refine lv_ishr hx hb dX4_putUnchecked_11 ?_
  refine lv_iconst (v := 1) hx hb dX4_putUnchecked_12 (by decide) ?_
  refine lv_iand hx hb dX4_putUnchecked_13 ?_
  refine lv_istore (lv' := [(4, .int ((a1 >>> ((7 : Int32) &&& 31)) &&& 1)), (3, .int 7), (2, .int 0), (0, .ref (q 5)), (1, .int a1)]) hx hb dX4_putUnchecked_14 hl (by decide) rfl (fun ls hl => ?_)
  refine lv_aload_n hx hb dX4_putUnchecked_16 rfl (lv_at hl 3 rfl) ?_
  refine va_get (D := G) (ci := 4) (v := .int (z0.1 28)) (C := RX4) (T := TX4) (N := 7) hx hb hts hi_4 hown hK hP 5 rfl rfl 2 (by decide) hfl_15 (fun _ h9 => h9) rfl dX4_putUnchecked_17 ?_
  refine lv_iload hx hb dX4_putUnchecked_20 (lv_at hl 0 rfl) ?_
  refine lv_ior hx hb dX4_putUnchecked_22 ?_
  refine lv_iconst (v := 1) hx hb dX4_putUnchecked_23 (by decide) ?_
  refine lv_ixor hx hb dX4_putUnchecked_24 ?_
  refine lv_istore (lv' := [(5, .int (((z0.1 28) ||| ((a1 >>> ((7 : Int32) &&& 31)) &&& 1)) ^^^ 1)), (4, .int ((a1 >>> ((7 : Int32) &&& 31)) &&& 1)), (3, .int 7), (2, .int 0), (0, .ref (q 5)), (1, .int a1)]) hx hb dX4_putUnchecked_25 hl (by decide) rfl (fun ls hl => ?_)
  refine lv_iload_n hx hb dX4_putUnchecked_27 rfl (lv_at hl 3 rfl) ?_
  refine lv_iconst (v := 2) hx hb dX4_putUnchecked_28 (by decide) ?_
  refine lv_ishl hx hb dX4_putUnchecked_29 ?_
  refine lv_iload hx hb dX4_putUnchecked_30 (lv_at hl 0 rfl) ?_
  refine lv_iconst (v := 1) hx hb dX4_putUnchecked_32 (by decide) ?_
  refine lv_ishl hx hb dX4_putUnchecked_33 ?_
  refine lv_ior hx hb dX4_putUnchecked_34 ?_
  refine lv_iload hx hb dX4_putUnchecked_35 (lv_at hl 1 rfl) ?_
  refine lv_ior hx hb dX4_putUnchecked_37 ?_
  refine lv_istore_n (lv' := [(2, .int (((0 <<< ((2 : Int32) &&& 31)) ||| ((((z0.1 28) ||| ((a1 >>> ((7 : Int32) &&& 31)) &&& 1)) ^^^ 1) <<< ((1 : Int32) &&& 31))) ||| ((a1 >>> ((7 : Int32) &&& 31)) &&& 1))), (5, .int (((z0.1 28) ||| ((a1 >>> ((7 : Int32) &&& 31)) &&& 1)) ^^^ 1)), (4, .int ((a1 >>> ((7 : Int32) &&& 31)) &&& 1)), (3, .int 7), (0, .ref (q 5)), (1, .int a1)]) hx hb dX4_putUnchecked_38 rfl hl (by decide) rfl (fun ls hl => ?_)
  refine lv_aload_n hx hb dX4_putUnchecked_39 rfl (lv_at hl 4 rfl) ?_
  refine lv_iload hx hb dX4_putUnchecked_40 (lv_at hl 2 rfl) ?_
  refine va_put (D := G) (ci := 4) (v := .int ((a1 >>> ((7 : Int32) &&& 31)) &&& 1)) (ty := .int) (C := RX4) (T := TX4) (N := 7) hx hb hts hi_4 tyX4 tyX4_ok nmX4 hown hK hP hD hS 5 rfl rfl 2 (by decide) hfl_15 (fun _ h9 => h9) rfl (by decide +kernel) rfl rfl (Nat.le_of_ble_eq_true rfl) dX4_putUnchecked_42 (fun H locs hP hD hS => ?_)
  have hP : va_P G vwCl ((fk_cW q k) (upd z0.1 28 ((a1 >>> ((7 : Int32) &&& 31)) &&& 1), z0.2)) H := hP
  have hD : va_D A ((fk_cW q k) (upd z0.1 28 ((a1 >>> ((7 : Int32) &&& 31)) &&& 1), z0.2)) := hD
  refine lv_iinc (v := 6) (lv' := [(3, .int 6), (2, .int (((0 <<< ((2 : Int32) &&& 31)) ||| ((((z0.1 28) ||| ((a1 >>> ((7 : Int32) &&& 31)) &&& 1)) ^^^ 1) <<< ((1 : Int32) &&& 31))) ||| ((a1 >>> ((7 : Int32) &&& 31)) &&& 1))), (5, .int (((z0.1 28) ||| ((a1 >>> ((7 : Int32) &&& 31)) &&& 1)) ^^^ 1)), (4, .int ((a1 >>> ((7 : Int32) &&& 31)) &&& 1)), (0, .ref (q 5)), (1, .int a1)]) hx hb dX4_putUnchecked_45 hl (k := 3) rfl (by decide) (by decide) rfl (fun ls hl => ?_)
  refine lv_goto (tgt := 5) hx hb dX4_putUnchecked_48 (by decide) ?_
  refine lv_iload_n hx hb dX4_putUnchecked_5 rfl (lv_at hl 0 rfl) ?_
  refine lv_if_lt (tgt := 51) hx hb dX4_putUnchecked_6 (by decide) (fun h9 => absurd h9 (by decide)) (fun _ => ?_)
  refine lv_iload_n hx hb dX4_putUnchecked_9 rfl (lv_at hl 5 rfl) ?_
  refine lv_iload_n hx hb dX4_putUnchecked_10 rfl (lv_at hl 0 rfl) ?_
  refine lv_ishr hx hb dX4_putUnchecked_11 ?_
  refine lv_iconst (v := 1) hx hb dX4_putUnchecked_12 (by decide) ?_
  refine lv_iand hx hb dX4_putUnchecked_13 ?_
  refine lv_istore (lv' := [(4, .int ((a1 >>> ((6 : Int32) &&& 31)) &&& 1)), (3, .int 6), (2, .int (((0 <<< ((2 : Int32) &&& 31)) ||| ((((z0.1 28) ||| ((a1 >>> ((7 : Int32) &&& 31)) &&& 1)) ^^^ 1) <<< ((1 : Int32) &&& 31))) ||| ((a1 >>> ((7 : Int32) &&& 31)) &&& 1))), (5, .int (((z0.1 28) ||| ((a1 >>> ((7 : Int32) &&& 31)) &&& 1)) ^^^ 1)), (0, .ref (q 5)), (1, .int a1)]) hx hb dX4_putUnchecked_14 hl (by decide) rfl (fun ls hl => ?_)
  refine lv_aload_n hx hb dX4_putUnchecked_16 rfl (lv_at hl 4 rfl) ?_
  refine va_get (D := G) (ci := 4) (v := .int ((a1 >>> ((7 : Int32) &&& 31)) &&& 1)) (C := RX4) (T := TX4) (N := 7) hx hb hts hi_4 hown hK hP 5 rfl rfl 2 (by decide) hfl_15 (fun _ h9 => h9) rfl dX4_putUnchecked_17 ?_
  refine lv_iload hx hb dX4_putUnchecked_20 (lv_at hl 0 rfl) ?_
  refine lv_ior hx hb dX4_putUnchecked_22 ?_
  refine lv_iconst (v := 1) hx hb dX4_putUnchecked_23 (by decide) ?_
  refine lv_ixor hx hb dX4_putUnchecked_24 ?_
  refine lv_istore (lv' := [(5, .int ((((a1 >>> ((7 : Int32) &&& 31)) &&& 1) ||| ((a1 >>> ((6 : Int32) &&& 31)) &&& 1)) ^^^ 1)), (4, .int ((a1 >>> ((6 : Int32) &&& 31)) &&& 1)), (3, .int 6), (2, .int (((0 <<< ((2 : Int32) &&& 31)) ||| ((((z0.1 28) ||| ((a1 >>> ((7 : Int32) &&& 31)) &&& 1)) ^^^ 1) <<< ((1 : Int32) &&& 31))) ||| ((a1 >>> ((7 : Int32) &&& 31)) &&& 1))), (0, .ref (q 5)), (1, .int a1)]) hx hb dX4_putUnchecked_25 hl (by decide) rfl (fun ls hl => ?_)
  refine lv_iload_n hx hb dX4_putUnchecked_27 rfl (lv_at hl 3 rfl) ?_
  refine lv_iconst (v := 2) hx hb dX4_putUnchecked_28 (by decide) ?_
  refine lv_ishl hx hb dX4_putUnchecked_29 ?_
  refine lv_iload hx hb dX4_putUnchecked_30 (lv_at hl 0 rfl) ?_
  refine lv_iconst (v := 1) hx hb dX4_putUnchecked_32 (by decide) ?_
  refine lv_ishl hx hb dX4_putUnchecked_33 ?_
  refine lv_ior hx hb dX4_putUnchecked_34 ?_
  refine lv_iload hx hb dX4_putUnchecked_35 (lv_at hl 1 rfl) ?_
  refine lv_ior hx hb dX4_putUnchecked_37 ?_
  refine lv_istore_n (lv' := [(2, .int ((((((0 <<< ((2 : Int32) &&& 31)) ||| ((((z0.1 28) ||| ((a1 >>> ((7 : Int32) &&& 31)) &&& 1)) ^^^ 1) <<< ((1 : Int32) &&& 31))) ||| ((a1 >>> ((7 : Int32) &&& 31)) &&& 1)) <<< ((2 : Int32) &&& 31)) ||| (((((a1 >>> ((7 : Int32) &&& 31)) &&& 1) ||| ((a1 >>> ((6 : Int32) &&& 31)) &&& 1)) ^^^ 1) <<< ((1 : Int32) &&& 31))) ||| ((a1 >>> ((6 : Int32) &&& 31)) &&& 1))), (5, .int ((((a1 >>> ((7 : Int32) &&& 31)) &&& 1) ||| ((a1 >>> ((6 : Int32) &&& 31)) &&& 1)) ^^^ 1)), (4, .int ((a1 >>> ((6 : Int32) &&& 31)) &&& 1)), (3, .int 6), (0, .ref (q 5)), (1, .int a1)]) hx hb dX4_putUnchecked_38 rfl hl (by decide) rfl (fun ls hl => ?_)
  refine lv_aload_n hx hb dX4_putUnchecked_39 rfl (lv_at hl 4 rfl) ?_
  refine lv_iload hx hb dX4_putUnchecked_40 (lv_at hl 2 rfl) ?_
  refine va_put (D := G) (ci := 4) (v := .int ((a1 >>> ((6 : Int32) &&& 31)) &&& 1)) (ty := .int) (C := RX4) (T := TX4) (N := 7) hx hb hts hi_4 tyX4 tyX4_ok nmX4 hown hK hP hD hS 5 rfl rfl 2 (by decide) hfl_15 (fun _ h9 => h9) rfl (by decide +kernel) rfl rfl (Nat.le_of_ble_eq_true rfl) dX4_putUnchecked_42 (fun H locs hP hD hS => ?_)
  have hP : va_P G vwCl ((fk_cW q k) (upd (upd z0.1 28 ((a1 >>> ((7 : Int32) &&& 31)) &&& 1)) 28 ((a1 >>> ((6 : Int32) &&& 31)) &&& 1), z0.2)) H := hP
  have hD : va_D A ((fk_cW q k) (upd (upd z0.1 28 ((a1 >>> ((7 : Int32) &&& 31)) &&& 1)) 28 ((a1 >>> ((6 : Int32) &&& 31)) &&& 1), z0.2)) := hD
  refine lv_iinc (v := 5) (lv' := [(3, .int 5), (2, .int ((((((0 <<< ((2 : Int32) &&& 31)) ||| ((((z0.1 28) ||| ((a1 >>> ((7 : Int32) &&& 31)) &&& 1)) ^^^ 1) <<< ((1 : Int32) &&& 31))) ||| ((a1 >>> ((7 : Int32) &&& 31)) &&& 1)) <<< ((2 : Int32) &&& 31)) ||| (((((a1 >>> ((7 : Int32) &&& 31)) &&& 1) ||| ((a1 >>> ((6 : Int32) &&& 31)) &&& 1)) ^^^ 1) <<< ((1 : Int32) &&& 31))) ||| ((a1 >>> ((6 : Int32) &&& 31)) &&& 1))), (5, .int ((((a1 >>> ((7 : Int32) &&& 31)) &&& 1) ||| ((a1 >>> ((6 : Int32) &&& 31)) &&& 1)) ^^^ 1)), (4, .int ((a1 >>> ((6 : Int32) &&& 31)) &&& 1)), (0, .ref (q 5)), (1, .int a1)]) hx hb dX4_putUnchecked_45 hl (k := 3) rfl (by decide) (by decide) rfl (fun ls hl => ?_)
  refine lv_goto (tgt := 5) hx hb dX4_putUnchecked_48 (by decide) ?_
  refine lv_iload_n hx hb dX4_putUnchecked_5 rfl (lv_at hl 0 rfl) ?_
  refine lv_if_lt (tgt := 51) hx hb dX4_putUnchecked_6 (by decide) (fun h9 => absurd h9 (by decide)) (fun _ => ?_)
  refine lv_iload_n hx hb dX4_putUnchecked_9 rfl (lv_at hl 5 rfl) ?_
  refine lv_iload_n hx hb dX4_putUnchecked_10 rfl (lv_at hl 0 rfl) ?_
  refine lv_ishr hx hb dX4_putUnchecked_11 ?_
  refine lv_iconst (v := 1) hx hb dX4_putUnchecked_12 (by decide) ?_
  refine lv_iand hx hb dX4_putUnchecked_13 ?_
  refine lv_istore (lv' := [(4, .int ((a1 >>> ((5 : Int32) &&& 31)) &&& 1)), (3, .int 5), (2, .int ((((((0 <<< ((2 : Int32) &&& 31)) ||| ((((z0.1 28) ||| ((a1 >>> ((7 : Int32) &&& 31)) &&& 1)) ^^^ 1) <<< ((1 : Int32) &&& 31))) ||| ((a1 >>> ((7 : Int32) &&& 31)) &&& 1)) <<< ((2 : Int32) &&& 31)) ||| (((((a1 >>> ((7 : Int32) &&& 31)) &&& 1) ||| ((a1 >>> ((6 : Int32) &&& 31)) &&& 1)) ^^^ 1) <<< ((1 : Int32) &&& 31))) ||| ((a1 >>> ((6 : Int32) &&& 31)) &&& 1))), (5, .int ((((a1 >>> ((7 : Int32) &&& 31)) &&& 1) ||| ((a1 >>> ((6 : Int32) &&& 31)) &&& 1)) ^^^ 1)), (0, .ref (q 5)), (1, .int a1)]) hx hb dX4_putUnchecked_14 hl (by decide) rfl (fun ls hl => ?_)
  refine lv_aload_n hx hb dX4_putUnchecked_16 rfl (lv_at hl 4 rfl) ?_
  refine va_get (D := G) (ci := 4) (v := .int ((a1 >>> ((6 : Int32) &&& 31)) &&& 1)) (C := RX4) (T := TX4) (N := 7) hx hb hts hi_4 hown hK hP 5 rfl rfl 2 (by decide) hfl_15 (fun _ h9 => h9) rfl dX4_putUnchecked_17 ?_
  refine lv_iload hx hb dX4_putUnchecked_20 (lv_at hl 0 rfl) ?_
  refine lv_ior hx hb dX4_putUnchecked_22 ?_
  refine lv_iconst (v := 1) hx hb dX4_putUnchecked_23 (by decide) ?_
  refine lv_ixor hx hb dX4_putUnchecked_24 ?_
  refine lv_istore (lv' := [(5, .int ((((a1 >>> ((6 : Int32) &&& 31)) &&& 1) ||| ((a1 >>> ((5 : Int32) &&& 31)) &&& 1)) ^^^ 1)), (4, .int ((a1 >>> ((5 : Int32) &&& 31)) &&& 1)), (3, .int 5), (2, .int ((((((0 <<< ((2 : Int32) &&& 31)) ||| ((((z0.1 28) ||| ((a1 >>> ((7 : Int32) &&& 31)) &&& 1)) ^^^ 1) <<< ((1 : Int32) &&& 31))) ||| ((a1 >>> ((7 : Int32) &&& 31)) &&& 1)) <<< ((2 : Int32) &&& 31)) ||| (((((a1 >>> ((7 : Int32) &&& 31)) &&& 1) ||| ((a1 >>> ((6 : Int32) &&& 31)) &&& 1)) ^^^ 1) <<< ((1 : Int32) &&& 31))) ||| ((a1 >>> ((6 : Int32) &&& 31)) &&& 1))), (0, .ref (q 5)), (1, .int a1)]) hx hb dX4_putUnchecked_25 hl (by decide) rfl (fun ls hl => ?_)
  refine lv_iload_n hx hb dX4_putUnchecked_27 rfl (lv_at hl 3 rfl) ?_
  refine lv_iconst (v := 2) hx hb dX4_putUnchecked_28 (by decide) ?_
  refine lv_ishl hx hb dX4_putUnchecked_29 ?_
  refine lv_iload hx hb dX4_putUnchecked_30 (lv_at hl 0 rfl) ?_
  refine lv_iconst (v := 1) hx hb dX4_putUnchecked_32 (by decide) ?_
  refine lv_ishl hx hb dX4_putUnchecked_33 ?_
  refine lv_ior hx hb dX4_putUnchecked_34 ?_
  refine lv_iload hx hb dX4_putUnchecked_35 (lv_at hl 1 rfl) ?_
  refine lv_ior hx hb dX4_putUnchecked_37 ?_
  refine lv_istore_n (lv' := [(2, .int (((((((((0 <<< ((2 : Int32) &&& 31)) ||| ((((z0.1 28) ||| ((a1 >>> ((7 : Int32) &&& 31)) &&& 1)) ^^^ 1) <<< ((1 : Int32) &&& 31))) ||| ((a1 >>> ((7 : Int32) &&& 31)) &&& 1)) <<< ((2 : Int32) &&& 31)) ||| (((((a1 >>> ((7 : Int32) &&& 31)) &&& 1) ||| ((a1 >>> ((6 : Int32) &&& 31)) &&& 1)) ^^^ 1) <<< ((1 : Int32) &&& 31))) ||| ((a1 >>> ((6 : Int32) &&& 31)) &&& 1)) <<< ((2 : Int32) &&& 31)) ||| (((((a1 >>> ((6 : Int32) &&& 31)) &&& 1) ||| ((a1 >>> ((5 : Int32) &&& 31)) &&& 1)) ^^^ 1) <<< ((1 : Int32) &&& 31))) ||| ((a1 >>> ((5 : Int32) &&& 31)) &&& 1))), (5, .int ((((a1 >>> ((6 : Int32) &&& 31)) &&& 1) ||| ((a1 >>> ((5 : Int32) &&& 31)) &&& 1)) ^^^ 1)), (4, .int ((a1 >>> ((5 : Int32) &&& 31)) &&& 1)), (3, .int 5), (0, .ref (q 5)), (1, .int a1)]) hx hb dX4_putUnchecked_38 rfl hl (by decide) rfl (fun ls hl => ?_)
  refine lv_aload_n hx hb dX4_putUnchecked_39 rfl (lv_at hl 4 rfl) ?_
  refine lv_iload hx hb dX4_putUnchecked_40 (lv_at hl 2 rfl) ?_
  refine va_put (D := G) (ci := 4) (v := .int ((a1 >>> ((5 : Int32) &&& 31)) &&& 1)) (ty := .int) (C := RX4) (T := TX4) (N := 7) hx hb hts hi_4 tyX4 tyX4_ok nmX4 hown hK hP hD hS 5 rfl rfl 2 (by decide) hfl_15 (fun _ h9 => h9) rfl (by decide +kernel) rfl rfl (Nat.le_of_ble_eq_true rfl) dX4_putUnchecked_42 (fun H locs hP hD hS => ?_)
  have hP : va_P G vwCl ((fk_cW q k) (upd (upd (upd z0.1 28 ((a1 >>> ((7 : Int32) &&& 31)) &&& 1)) 28 ((a1 >>> ((6 : Int32) &&& 31)) &&& 1)) 28 ((a1 >>> ((5 : Int32) &&& 31)) &&& 1), z0.2)) H := hP
  have hD : va_D A ((fk_cW q k) (upd (upd (upd z0.1 28 ((a1 >>> ((7 : Int32) &&& 31)) &&& 1)) 28 ((a1 >>> ((6 : Int32) &&& 31)) &&& 1)) 28 ((a1 >>> ((5 : Int32) &&& 31)) &&& 1), z0.2)) := hD
  refine lv_iinc (v := 4) (lv' := [(3, .int 4), (2, .int (((((((((0 <<< ((2 : Int32) &&& 31)) ||| ((((z0.1 28) ||| ((a1 >>> ((7 : Int32) &&& 31)) &&& 1)) ^^^ 1) <<< ((1 : Int32) &&& 31))) ||| ((a1 >>> ((7 : Int32) &&& 31)) &&& 1)) <<< ((2 : Int32) &&& 31)) ||| (((((a1 >>> ((7 : Int32) &&& 31)) &&& 1) ||| ((a1 >>> ((6 : Int32) &&& 31)) &&& 1)) ^^^ 1) <<< ((1 : Int32) &&& 31))) ||| ((a1 >>> ((6 : Int32) &&& 31)) &&& 1)) <<< ((2 : Int32) &&& 31)) ||| (((((a1 >>> ((6 : Int32) &&& 31)) &&& 1) ||| ((a1 >>> ((5 : Int32) &&& 31)) &&& 1)) ^^^ 1) <<< ((1 : Int32) &&& 31))) ||| ((a1 >>> ((5 : Int32) &&& 31)) &&& 1))), (5, .int ((((a1 >>> ((6 : Int32) &&& 31)) &&& 1) ||| ((a1 >>> ((5 : Int32) &&& 31)) &&& 1)) ^^^ 1)), (4, .int ((a1 >>> ((5 : Int32) &&& 31)) &&& 1)), (0, .ref (q 5)), (1, .int a1)]) hx hb dX4_putUnchecked_45 hl (k := 3) rfl (by decide) (by decide) rfl (fun ls hl => ?_)
  refine lv_goto (tgt := 5) hx hb dX4_putUnchecked_48 (by decide) ?_
  refine lv_iload_n hx hb dX4_putUnchecked_5 rfl (lv_at hl 0 rfl) ?_
  refine lv_if_lt (tgt := 51) hx hb dX4_putUnchecked_6 (by decide) (fun h9 => absurd h9 (by decide)) (fun _ => ?_)
  refine lv_iload_n hx hb dX4_putUnchecked_9 rfl (lv_at hl 5 rfl) ?_
  refine lv_iload_n hx hb dX4_putUnchecked_10 rfl (lv_at hl 0 rfl) ?_
  refine lv_ishr hx hb dX4_putUnchecked_11 ?_
  refine lv_iconst (v := 1) hx hb dX4_putUnchecked_12 (by decide) ?_
  refine lv_iand hx hb dX4_putUnchecked_13 ?_
  refine lv_istore (lv' := [(4, .int ((a1 >>> ((4 : Int32) &&& 31)) &&& 1)), (3, .int 4), (2, .int (((((((((0 <<< ((2 : Int32) &&& 31)) ||| ((((z0.1 28) ||| ((a1 >>> ((7 : Int32) &&& 31)) &&& 1)) ^^^ 1) <<< ((1 : Int32) &&& 31))) ||| ((a1 >>> ((7 : Int32) &&& 31)) &&& 1)) <<< ((2 : Int32) &&& 31)) ||| (((((a1 >>> ((7 : Int32) &&& 31)) &&& 1) ||| ((a1 >>> ((6 : Int32) &&& 31)) &&& 1)) ^^^ 1) <<< ((1 : Int32) &&& 31))) ||| ((a1 >>> ((6 : Int32) &&& 31)) &&& 1)) <<< ((2 : Int32) &&& 31)) ||| (((((a1 >>> ((6 : Int32) &&& 31)) &&& 1) ||| ((a1 >>> ((5 : Int32) &&& 31)) &&& 1)) ^^^ 1) <<< ((1 : Int32) &&& 31))) ||| ((a1 >>> ((5 : Int32) &&& 31)) &&& 1))), (5, .int ((((a1 >>> ((6 : Int32) &&& 31)) &&& 1) ||| ((a1 >>> ((5 : Int32) &&& 31)) &&& 1)) ^^^ 1)), (0, .ref (q 5)), (1, .int a1)]) hx hb dX4_putUnchecked_14 hl (by decide) rfl (fun ls hl => ?_)
  refine lv_aload_n hx hb dX4_putUnchecked_16 rfl (lv_at hl 4 rfl) ?_
  refine va_get (D := G) (ci := 4) (v := .int ((a1 >>> ((5 : Int32) &&& 31)) &&& 1)) (C := RX4) (T := TX4) (N := 7) hx hb hts hi_4 hown hK hP 5 rfl rfl 2 (by decide) hfl_15 (fun _ h9 => h9) rfl dX4_putUnchecked_17 ?_
  refine lv_iload hx hb dX4_putUnchecked_20 (lv_at hl 0 rfl) ?_
  refine lv_ior hx hb dX4_putUnchecked_22 ?_
  refine lv_iconst (v := 1) hx hb dX4_putUnchecked_23 (by decide) ?_
  refine lv_ixor hx hb dX4_putUnchecked_24 ?_
  refine lv_istore (lv' := [(5, .int ((((a1 >>> ((5 : Int32) &&& 31)) &&& 1) ||| ((a1 >>> ((4 : Int32) &&& 31)) &&& 1)) ^^^ 1)), (4, .int ((a1 >>> ((4 : Int32) &&& 31)) &&& 1)), (3, .int 4), (2, .int (((((((((0 <<< ((2 : Int32) &&& 31)) ||| ((((z0.1 28) ||| ((a1 >>> ((7 : Int32) &&& 31)) &&& 1)) ^^^ 1) <<< ((1 : Int32) &&& 31))) ||| ((a1 >>> ((7 : Int32) &&& 31)) &&& 1)) <<< ((2 : Int32) &&& 31)) ||| (((((a1 >>> ((7 : Int32) &&& 31)) &&& 1) ||| ((a1 >>> ((6 : Int32) &&& 31)) &&& 1)) ^^^ 1) <<< ((1 : Int32) &&& 31))) ||| ((a1 >>> ((6 : Int32) &&& 31)) &&& 1)) <<< ((2 : Int32) &&& 31)) ||| (((((a1 >>> ((6 : Int32) &&& 31)) &&& 1) ||| ((a1 >>> ((5 : Int32) &&& 31)) &&& 1)) ^^^ 1) <<< ((1 : Int32) &&& 31))) ||| ((a1 >>> ((5 : Int32) &&& 31)) &&& 1))), (0, .ref (q 5)), (1, .int a1)]) hx hb dX4_putUnchecked_25 hl (by decide) rfl (fun ls hl => ?_)
  refine lv_iload_n hx hb dX4_putUnchecked_27 rfl (lv_at hl 3 rfl) ?_
  refine lv_iconst (v := 2) hx hb dX4_putUnchecked_28 (by decide) ?_
  refine lv_ishl hx hb dX4_putUnchecked_29 ?_
  refine lv_iload hx hb dX4_putUnchecked_30 (lv_at hl 0 rfl) ?_
  refine lv_iconst (v := 1) hx hb dX4_putUnchecked_32 (by decide) ?_
  refine lv_ishl hx hb dX4_putUnchecked_33 ?_
  refine lv_ior hx hb dX4_putUnchecked_34 ?_
  refine lv_iload hx hb dX4_putUnchecked_35 (lv_at hl 1 rfl) ?_
  refine lv_ior hx hb dX4_putUnchecked_37 ?_
  refine lv_istore_n (lv' := [(2, .int ((((((((((((0 <<< ((2 : Int32) &&& 31)) ||| ((((z0.1 28) ||| ((a1 >>> ((7 : Int32) &&& 31)) &&& 1)) ^^^ 1) <<< ((1 : Int32) &&& 31))) ||| ((a1 >>> ((7 : Int32) &&& 31)) &&& 1)) <<< ((2 : Int32) &&& 31)) ||| (((((a1 >>> ((7 : Int32) &&& 31)) &&& 1) ||| ((a1 >>> ((6 : Int32) &&& 31)) &&& 1)) ^^^ 1) <<< ((1 : Int32) &&& 31))) ||| ((a1 >>> ((6 : Int32) &&& 31)) &&& 1)) <<< ((2 : Int32) &&& 31)) ||| (((((a1 >>> ((6 : Int32) &&& 31)) &&& 1) ||| ((a1 >>> ((5 : Int32) &&& 31)) &&& 1)) ^^^ 1) <<< ((1 : Int32) &&& 31))) ||| ((a1 >>> ((5 : Int32) &&& 31)) &&& 1)) <<< ((2 : Int32) &&& 31)) ||| (((((a1 >>> ((5 : Int32) &&& 31)) &&& 1) ||| ((a1 >>> ((4 : Int32) &&& 31)) &&& 1)) ^^^ 1) <<< ((1 : Int32) &&& 31))) ||| ((a1 >>> ((4 : Int32) &&& 31)) &&& 1))), (5, .int ((((a1 >>> ((5 : Int32) &&& 31)) &&& 1) ||| ((a1 >>> ((4 : Int32) &&& 31)) &&& 1)) ^^^ 1)), (4, .int ((a1 >>> ((4 : Int32) &&& 31)) &&& 1)), (3, .int 4), (0, .ref (q 5)), (1, .int a1)]) hx hb dX4_putUnchecked_38 rfl hl (by decide) rfl (fun ls hl => ?_)
  refine lv_aload_n hx hb dX4_putUnchecked_39 rfl (lv_at hl 4 rfl) ?_
  refine lv_iload hx hb dX4_putUnchecked_40 (lv_at hl 2 rfl) ?_
  refine va_put (D := G) (ci := 4) (v := .int ((a1 >>> ((4 : Int32) &&& 31)) &&& 1)) (ty := .int) (C := RX4) (T := TX4) (N := 7) hx hb hts hi_4 tyX4 tyX4_ok nmX4 hown hK hP hD hS 5 rfl rfl 2 (by decide) hfl_15 (fun _ h9 => h9) rfl (by decide +kernel) rfl rfl (Nat.le_of_ble_eq_true rfl) dX4_putUnchecked_42 (fun H locs hP hD hS => ?_)
  have hP : va_P G vwCl ((fk_cW q k) (upd (upd (upd (upd z0.1 28 ((a1 >>> ((7 : Int32) &&& 31)) &&& 1)) 28 ((a1 >>> ((6 : Int32) &&& 31)) &&& 1)) 28 ((a1 >>> ((5 : Int32) &&& 31)) &&& 1)) 28 ((a1 >>> ((4 : Int32) &&& 31)) &&& 1), z0.2)) H := hP
  have hD : va_D A ((fk_cW q k) (upd (upd (upd (upd z0.1 28 ((a1 >>> ((7 : Int32) &&& 31)) &&& 1)) 28 ((a1 >>> ((6 : Int32) &&& 31)) &&& 1)) 28 ((a1 >>> ((5 : Int32) &&& 31)) &&& 1)) 28 ((a1 >>> ((4 : Int32) &&& 31)) &&& 1), z0.2)) := hD
  refine lv_iinc (v := 3) (lv' := [(3, .int 3), (2, .int ((((((((((((0 <<< ((2 : Int32) &&& 31)) ||| ((((z0.1 28) ||| ((a1 >>> ((7 : Int32) &&& 31)) &&& 1)) ^^^ 1) <<< ((1 : Int32) &&& 31))) ||| ((a1 >>> ((7 : Int32) &&& 31)) &&& 1)) <<< ((2 : Int32) &&& 31)) ||| (((((a1 >>> ((7 : Int32) &&& 31)) &&& 1) ||| ((a1 >>> ((6 : Int32) &&& 31)) &&& 1)) ^^^ 1) <<< ((1 : Int32) &&& 31))) ||| ((a1 >>> ((6 : Int32) &&& 31)) &&& 1)) <<< ((2 : Int32) &&& 31)) ||| (((((a1 >>> ((6 : Int32) &&& 31)) &&& 1) ||| ((a1 >>> ((5 : Int32) &&& 31)) &&& 1)) ^^^ 1) <<< ((1 : Int32) &&& 31))) ||| ((a1 >>> ((5 : Int32) &&& 31)) &&& 1)) <<< ((2 : Int32) &&& 31)) ||| (((((a1 >>> ((5 : Int32) &&& 31)) &&& 1) ||| ((a1 >>> ((4 : Int32) &&& 31)) &&& 1)) ^^^ 1) <<< ((1 : Int32) &&& 31))) ||| ((a1 >>> ((4 : Int32) &&& 31)) &&& 1))), (5, .int ((((a1 >>> ((5 : Int32) &&& 31)) &&& 1) ||| ((a1 >>> ((4 : Int32) &&& 31)) &&& 1)) ^^^ 1)), (4, .int ((a1 >>> ((4 : Int32) &&& 31)) &&& 1)), (0, .ref (q 5)), (1, .int a1)]) hx hb dX4_putUnchecked_45 hl (k := 3) rfl (by decide) (by decide) rfl (fun ls hl => ?_)
  refine lv_goto (tgt := 5) hx hb dX4_putUnchecked_48 (by decide) ?_
  refine lv_iload_n hx hb dX4_putUnchecked_5 rfl (lv_at hl 0 rfl) ?_
  refine lv_if_lt (tgt := 51) hx hb dX4_putUnchecked_6 (by decide) (fun h9 => absurd h9 (by decide)) (fun _ => ?_)
  refine lv_iload_n hx hb dX4_putUnchecked_9 rfl (lv_at hl 5 rfl) ?_
  refine lv_iload_n hx hb dX4_putUnchecked_10 rfl (lv_at hl 0 rfl) ?_
  refine lv_ishr hx hb dX4_putUnchecked_11 ?_
  refine lv_iconst (v := 1) hx hb dX4_putUnchecked_12 (by decide) ?_
  refine lv_iand hx hb dX4_putUnchecked_13 ?_
  refine lv_istore (lv' := [(4, .int ((a1 >>> ((3 : Int32) &&& 31)) &&& 1)), (3, .int 3), (2, .int ((((((((((((0 <<< ((2 : Int32) &&& 31)) ||| ((((z0.1 28) ||| ((a1 >>> ((7 : Int32) &&& 31)) &&& 1)) ^^^ 1) <<< ((1 : Int32) &&& 31))) ||| ((a1 >>> ((7 : Int32) &&& 31)) &&& 1)) <<< ((2 : Int32) &&& 31)) ||| (((((a1 >>> ((7 : Int32) &&& 31)) &&& 1) ||| ((a1 >>> ((6 : Int32) &&& 31)) &&& 1)) ^^^ 1) <<< ((1 : Int32) &&& 31))) ||| ((a1 >>> ((6 : Int32) &&& 31)) &&& 1)) <<< ((2 : Int32) &&& 31)) ||| (((((a1 >>> ((6 : Int32) &&& 31)) &&& 1) ||| ((a1 >>> ((5 : Int32) &&& 31)) &&& 1)) ^^^ 1) <<< ((1 : Int32) &&& 31))) ||| ((a1 >>> ((5 : Int32) &&& 31)) &&& 1)) <<< ((2 : Int32) &&& 31)) ||| (((((a1 >>> ((5 : Int32) &&& 31)) &&& 1) ||| ((a1 >>> ((4 : Int32) &&& 31)) &&& 1)) ^^^ 1) <<< ((1 : Int32) &&& 31))) ||| ((a1 >>> ((4 : Int32) &&& 31)) &&& 1))), (5, .int ((((a1 >>> ((5 : Int32) &&& 31)) &&& 1) ||| ((a1 >>> ((4 : Int32) &&& 31)) &&& 1)) ^^^ 1)), (0, .ref (q 5)), (1, .int a1)]) hx hb dX4_putUnchecked_14 hl (by decide) rfl (fun ls hl => ?_)
  refine lv_aload_n hx hb dX4_putUnchecked_16 rfl (lv_at hl 4 rfl) ?_
  refine va_get (D := G) (ci := 4) (v := .int ((a1 >>> ((4 : Int32) &&& 31)) &&& 1)) (C := RX4) (T := TX4) (N := 7) hx hb hts hi_4 hown hK hP 5 rfl rfl 2 (by decide) hfl_15 (fun _ h9 => h9) rfl dX4_putUnchecked_17 ?_
  refine lv_iload hx hb dX4_putUnchecked_20 (lv_at hl 0 rfl) ?_
  refine lv_ior hx hb dX4_putUnchecked_22 ?_
  refine lv_iconst (v := 1) hx hb dX4_putUnchecked_23 (by decide) ?_
  refine lv_ixor hx hb dX4_putUnchecked_24 ?_
  refine lv_istore (lv' := [(5, .int ((((a1 >>> ((4 : Int32) &&& 31)) &&& 1) ||| ((a1 >>> ((3 : Int32) &&& 31)) &&& 1)) ^^^ 1)), (4, .int ((a1 >>> ((3 : Int32) &&& 31)) &&& 1)), (3, .int 3), (2, .int ((((((((((((0 <<< ((2 : Int32) &&& 31)) ||| ((((z0.1 28) ||| ((a1 >>> ((7 : Int32) &&& 31)) &&& 1)) ^^^ 1) <<< ((1 : Int32) &&& 31))) ||| ((a1 >>> ((7 : Int32) &&& 31)) &&& 1)) <<< ((2 : Int32) &&& 31)) ||| (((((a1 >>> ((7 : Int32) &&& 31)) &&& 1) ||| ((a1 >>> ((6 : Int32) &&& 31)) &&& 1)) ^^^ 1) <<< ((1 : Int32) &&& 31))) ||| ((a1 >>> ((6 : Int32) &&& 31)) &&& 1)) <<< ((2 : Int32) &&& 31)) ||| (((((a1 >>> ((6 : Int32) &&& 31)) &&& 1) ||| ((a1 >>> ((5 : Int32) &&& 31)) &&& 1)) ^^^ 1) <<< ((1 : Int32) &&& 31))) ||| ((a1 >>> ((5 : Int32) &&& 31)) &&& 1)) <<< ((2 : Int32) &&& 31)) ||| (((((a1 >>> ((5 : Int32) &&& 31)) &&& 1) ||| ((a1 >>> ((4 : Int32) &&& 31)) &&& 1)) ^^^ 1) <<< ((1 : Int32) &&& 31))) ||| ((a1 >>> ((4 : Int32) &&& 31)) &&& 1))), (0, .ref (q 5)), (1, .int a1)]) hx hb dX4_putUnchecked_25 hl (by decide) rfl (fun ls hl => ?_)
  refine lv_iload_n hx hb dX4_putUnchecked_27 rfl (lv_at hl 3 rfl) ?_
  refine lv_iconst (v := 2) hx hb dX4_putUnchecked_28 (by decide) ?_
  refine lv_ishl hx hb dX4_putUnchecked_29 ?_
  refine lv_iload hx hb dX4_putUnchecked_30 (lv_at hl 0 rfl) ?_
  refine lv_iconst (v := 1) hx hb dX4_putUnchecked_32 (by decide) ?_
  refine lv_ishl hx hb dX4_putUnchecked_33 ?_
  refine lv_ior hx hb dX4_putUnchecked_34 ?_
  refine lv_iload hx hb dX4_putUnchecked_35 (lv_at hl 1 rfl) ?_
  refine lv_ior hx hb dX4_putUnchecked_37 ?_
  refine lv_istore_n (lv' := [(2, .int (((((((((((((((0 <<< ((2 : Int32) &&& 31)) ||| ((((z0.1 28) ||| ((a1 >>> ((7 : Int32) &&& 31)) &&& 1)) ^^^ 1) <<< ((1 : Int32) &&& 31))) ||| ((a1 >>> ((7 : Int32) &&& 31)) &&& 1)) <<< ((2 : Int32) &&& 31)) ||| (((((a1 >>> ((7 : Int32) &&& 31)) &&& 1) ||| ((a1 >>> ((6 : Int32) &&& 31)) &&& 1)) ^^^ 1) <<< ((1 : Int32) &&& 31))) ||| ((a1 >>> ((6 : Int32) &&& 31)) &&& 1)) <<< ((2 : Int32) &&& 31)) ||| (((((a1 >>> ((6 : Int32) &&& 31)) &&& 1) ||| ((a1 >>> ((5 : Int32) &&& 31)) &&& 1)) ^^^ 1) <<< ((1 : Int32) &&& 31))) ||| ((a1 >>> ((5 : Int32) &&& 31)) &&& 1)) <<< ((2 : Int32) &&& 31)) ||| (((((a1 >>> ((5 : Int32) &&& 31)) &&& 1) ||| ((a1 >>> ((4 : Int32) &&& 31)) &&& 1)) ^^^ 1) <<< ((1 : Int32) &&& 31))) ||| ((a1 >>> ((4 : Int32) &&& 31)) &&& 1)) <<< ((2 : Int32) &&& 31)) ||| (((((a1 >>> ((4 : Int32) &&& 31)) &&& 1) ||| ((a1 >>> ((3 : Int32) &&& 31)) &&& 1)) ^^^ 1) <<< ((1 : Int32) &&& 31))) ||| ((a1 >>> ((3 : Int32) &&& 31)) &&& 1))), (5, .int ((((a1 >>> ((4 : Int32) &&& 31)) &&& 1) ||| ((a1 >>> ((3 : Int32) &&& 31)) &&& 1)) ^^^ 1)), (4, .int ((a1 >>> ((3 : Int32) &&& 31)) &&& 1)), (3, .int 3), (0, .ref (q 5)), (1, .int a1)]) hx hb dX4_putUnchecked_38 rfl hl (by decide) rfl (fun ls hl => ?_)
  refine lv_aload_n hx hb dX4_putUnchecked_39 rfl (lv_at hl 4 rfl) ?_
  refine lv_iload hx hb dX4_putUnchecked_40 (lv_at hl 2 rfl) ?_
  refine va_put (D := G) (ci := 4) (v := .int ((a1 >>> ((3 : Int32) &&& 31)) &&& 1)) (ty := .int) (C := RX4) (T := TX4) (N := 7) hx hb hts hi_4 tyX4 tyX4_ok nmX4 hown hK hP hD hS 5 rfl rfl 2 (by decide) hfl_15 (fun _ h9 => h9) rfl (by decide +kernel) rfl rfl (Nat.le_of_ble_eq_true rfl) dX4_putUnchecked_42 (fun H locs hP hD hS => ?_)
  have hP : va_P G vwCl ((fk_cW q k) (upd (upd (upd (upd (upd z0.1 28 ((a1 >>> ((7 : Int32) &&& 31)) &&& 1)) 28 ((a1 >>> ((6 : Int32) &&& 31)) &&& 1)) 28 ((a1 >>> ((5 : Int32) &&& 31)) &&& 1)) 28 ((a1 >>> ((4 : Int32) &&& 31)) &&& 1)) 28 ((a1 >>> ((3 : Int32) &&& 31)) &&& 1), z0.2)) H := hP
  have hD : va_D A ((fk_cW q k) (upd (upd (upd (upd (upd z0.1 28 ((a1 >>> ((7 : Int32) &&& 31)) &&& 1)) 28 ((a1 >>> ((6 : Int32) &&& 31)) &&& 1)) 28 ((a1 >>> ((5 : Int32) &&& 31)) &&& 1)) 28 ((a1 >>> ((4 : Int32) &&& 31)) &&& 1)) 28 ((a1 >>> ((3 : Int32) &&& 31)) &&& 1), z0.2)) := hD
  refine lv_iinc (v := 2) (lv' := [(3, .int 2), (2, .int (((((((((((((((0 <<< ((2 : Int32) &&& 31)) ||| ((((z0.1 28) ||| ((a1 >>> ((7 : Int32) &&& 31)) &&& 1)) ^^^ 1) <<< ((1 : Int32) &&& 31))) ||| ((a1 >>> ((7 : Int32) &&& 31)) &&& 1)) <<< ((2 : Int32) &&& 31)) ||| (((((a1 >>> ((7 : Int32) &&& 31)) &&& 1) ||| ((a1 >>> ((6 : Int32) &&& 31)) &&& 1)) ^^^ 1) <<< ((1 : Int32) &&& 31))) ||| ((a1 >>> ((6 : Int32) &&& 31)) &&& 1)) <<< ((2 : Int32) &&& 31)) ||| (((((a1 >>> ((6 : Int32) &&& 31)) &&& 1) ||| ((a1 >>> ((5 : Int32) &&& 31)) &&& 1)) ^^^ 1) <<< ((1 : Int32) &&& 31))) ||| ((a1 >>> ((5 : Int32) &&& 31)) &&& 1)) <<< ((2 : Int32) &&& 31)) ||| (((((a1 >>> ((5 : Int32) &&& 31)) &&& 1) ||| ((a1 >>> ((4 : Int32) &&& 31)) &&& 1)) ^^^ 1) <<< ((1 : Int32) &&& 31))) ||| ((a1 >>> ((4 : Int32) &&& 31)) &&& 1)) <<< ((2 : Int32) &&& 31)) ||| (((((a1 >>> ((4 : Int32) &&& 31)) &&& 1) ||| ((a1 >>> ((3 : Int32) &&& 31)) &&& 1)) ^^^ 1) <<< ((1 : Int32) &&& 31))) ||| ((a1 >>> ((3 : Int32) &&& 31)) &&& 1))), (5, .int ((((a1 >>> ((4 : Int32) &&& 31)) &&& 1) ||| ((a1 >>> ((3 : Int32) &&& 31)) &&& 1)) ^^^ 1)), (4, .int ((a1 >>> ((3 : Int32) &&& 31)) &&& 1)), (0, .ref (q 5)), (1, .int a1)]) hx hb dX4_putUnchecked_45 hl (k := 3) rfl (by decide) (by decide) rfl (fun ls hl => ?_)
  refine lv_goto (tgt := 5) hx hb dX4_putUnchecked_48 (by decide) ?_
  refine lv_iload_n hx hb dX4_putUnchecked_5 rfl (lv_at hl 0 rfl) ?_
  refine lv_if_lt (tgt := 51) hx hb dX4_putUnchecked_6 (by decide) (fun h9 => absurd h9 (by decide)) (fun _ => ?_)
  refine lv_iload_n hx hb dX4_putUnchecked_9 rfl (lv_at hl 5 rfl) ?_
  refine lv_iload_n hx hb dX4_putUnchecked_10 rfl (lv_at hl 0 rfl) ?_
  refine lv_ishr hx hb dX4_putUnchecked_11 ?_
  refine lv_iconst (v := 1) hx hb dX4_putUnchecked_12 (by decide) ?_
  refine lv_iand hx hb dX4_putUnchecked_13 ?_
  refine lv_istore (lv' := [(4, .int ((a1 >>> ((2 : Int32) &&& 31)) &&& 1)), (3, .int 2), (2, .int (((((((((((((((0 <<< ((2 : Int32) &&& 31)) ||| ((((z0.1 28) ||| ((a1 >>> ((7 : Int32) &&& 31)) &&& 1)) ^^^ 1) <<< ((1 : Int32) &&& 31))) ||| ((a1 >>> ((7 : Int32) &&& 31)) &&& 1)) <<< ((2 : Int32) &&& 31)) ||| (((((a1 >>> ((7 : Int32) &&& 31)) &&& 1) ||| ((a1 >>> ((6 : Int32) &&& 31)) &&& 1)) ^^^ 1) <<< ((1 : Int32) &&& 31))) ||| ((a1 >>> ((6 : Int32) &&& 31)) &&& 1)) <<< ((2 : Int32) &&& 31)) ||| (((((a1 >>> ((6 : Int32) &&& 31)) &&& 1) ||| ((a1 >>> ((5 : Int32) &&& 31)) &&& 1)) ^^^ 1) <<< ((1 : Int32) &&& 31))) ||| ((a1 >>> ((5 : Int32) &&& 31)) &&& 1)) <<< ((2 : Int32) &&& 31)) ||| (((((a1 >>> ((5 : Int32) &&& 31)) &&& 1) ||| ((a1 >>> ((4 : Int32) &&& 31)) &&& 1)) ^^^ 1) <<< ((1 : Int32) &&& 31))) ||| ((a1 >>> ((4 : Int32) &&& 31)) &&& 1)) <<< ((2 : Int32) &&& 31)) ||| (((((a1 >>> ((4 : Int32) &&& 31)) &&& 1) ||| ((a1 >>> ((3 : Int32) &&& 31)) &&& 1)) ^^^ 1) <<< ((1 : Int32) &&& 31))) ||| ((a1 >>> ((3 : Int32) &&& 31)) &&& 1))), (5, .int ((((a1 >>> ((4 : Int32) &&& 31)) &&& 1) ||| ((a1 >>> ((3 : Int32) &&& 31)) &&& 1)) ^^^ 1)), (0, .ref (q 5)), (1, .int a1)]) hx hb dX4_putUnchecked_14 hl (by decide) rfl (fun ls hl => ?_)
  refine lv_aload_n hx hb dX4_putUnchecked_16 rfl (lv_at hl 4 rfl) ?_
  refine va_get (D := G) (ci := 4) (v := .int ((a1 >>> ((3 : Int32) &&& 31)) &&& 1)) (C := RX4) (T := TX4) (N := 7) hx hb hts hi_4 hown hK hP 5 rfl rfl 2 (by decide) hfl_15 (fun _ h9 => h9) rfl dX4_putUnchecked_17 ?_
  refine lv_iload hx hb dX4_putUnchecked_20 (lv_at hl 0 rfl) ?_
  refine lv_ior hx hb dX4_putUnchecked_22 ?_
  refine lv_iconst (v := 1) hx hb dX4_putUnchecked_23 (by decide) ?_
  refine lv_ixor hx hb dX4_putUnchecked_24 ?_
  refine lv_istore (lv' := [(5, .int ((((a1 >>> ((3 : Int32) &&& 31)) &&& 1) ||| ((a1 >>> ((2 : Int32) &&& 31)) &&& 1)) ^^^ 1)), (4, .int ((a1 >>> ((2 : Int32) &&& 31)) &&& 1)), (3, .int 2), (2, .int (((((((((((((((0 <<< ((2 : Int32) &&& 31)) ||| ((((z0.1 28) ||| ((a1 >>> ((7 : Int32) &&& 31)) &&& 1)) ^^^ 1) <<< ((1 : Int32) &&& 31))) ||| ((a1 >>> ((7 : Int32) &&& 31)) &&& 1)) <<< ((2 : Int32) &&& 31)) ||| (((((a1 >>> ((7 : Int32) &&& 31)) &&& 1) ||| ((a1 >>> ((6 : Int32) &&& 31)) &&& 1)) ^^^ 1) <<< ((1 : Int32) &&& 31))) ||| ((a1 >>> ((6 : Int32) &&& 31)) &&& 1)) <<< ((2 : Int32) &&& 31)) ||| (((((a1 >>> ((6 : Int32) &&& 31)) &&& 1) ||| ((a1 >>> ((5 : Int32) &&& 31)) &&& 1)) ^^^ 1) <<< ((1 : Int32) &&& 31))) ||| ((a1 >>> ((5 : Int32) &&& 31)) &&& 1)) <<< ((2 : Int32) &&& 31)) ||| (((((a1 >>> ((5 : Int32) &&& 31)) &&& 1) ||| ((a1 >>> ((4 : Int32) &&& 31)) &&& 1)) ^^^ 1) <<< ((1 : Int32) &&& 31))) ||| ((a1 >>> ((4 : Int32) &&& 31)) &&& 1)) <<< ((2 : Int32) &&& 31)) ||| (((((a1 >>> ((4 : Int32) &&& 31)) &&& 1) ||| ((a1 >>> ((3 : Int32) &&& 31)) &&& 1)) ^^^ 1) <<< ((1 : Int32) &&& 31))) ||| ((a1 >>> ((3 : Int32) &&& 31)) &&& 1))), (0, .ref (q 5)), (1, .int a1)]) hx hb dX4_putUnchecked_25 hl (by decide) rfl (fun ls hl => ?_)
  refine lv_iload_n hx hb dX4_putUnchecked_27 rfl (lv_at hl 3 rfl) ?_
  refine lv_iconst (v := 2) hx hb dX4_putUnchecked_28 (by decide) ?_
  refine lv_ishl hx hb dX4_putUnchecked_29 ?_
  refine lv_iload hx hb dX4_putUnchecked_30 (lv_at hl 0 rfl) ?_
  refine lv_iconst (v := 1) hx hb dX4_putUnchecked_32 (by decide) ?_
  refine lv_ishl hx hb dX4_putUnchecked_33 ?_
  refine lv_ior hx hb dX4_putUnchecked_34 ?_
  refine lv_iload hx hb dX4_putUnchecked_35 (lv_at hl 1 rfl) ?_
  refine lv_ior hx hb dX4_putUnchecked_37 ?_
  refine lv_istore_n (lv' := [(2, .int ((((((((((((((((((0 <<< ((2 : Int32) &&& 31)) ||| ((((z0.1 28) ||| ((a1 >>> ((7 : Int32) &&& 31)) &&& 1)) ^^^ 1) <<< ((1 : Int32) &&& 31))) ||| ((a1 >>> ((7 : Int32) &&& 31)) &&& 1)) <<< ((2 : Int32) &&& 31)) ||| (((((a1 >>> ((7 : Int32) &&& 31)) &&& 1) ||| ((a1 >>> ((6 : Int32) &&& 31)) &&& 1)) ^^^ 1) <<< ((1 : Int32) &&& 31))) ||| ((a1 >>> ((6 : Int32) &&& 31)) &&& 1)) <<< ((2 : Int32) &&& 31)) ||| (((((a1 >>> ((6 : Int32) &&& 31)) &&& 1) ||| ((a1 >>> ((5 : Int32) &&& 31)) &&& 1)) ^^^ 1) <<< ((1 : Int32) &&& 31))) ||| ((a1 >>> ((5 : Int32) &&& 31)) &&& 1)) <<< ((2 : Int32) &&& 31)) ||| (((((a1 >>> ((5 : Int32) &&& 31)) &&& 1) ||| ((a1 >>> ((4 : Int32) &&& 31)) &&& 1)) ^^^ 1) <<< ((1 : Int32) &&& 31))) ||| ((a1 >>> ((4 : Int32) &&& 31)) &&& 1)) <<< ((2 : Int32) &&& 31)) ||| (((((a1 >>> ((4 : Int32) &&& 31)) &&& 1) ||| ((a1 >>> ((3 : Int32) &&& 31)) &&& 1)) ^^^ 1) <<< ((1 : Int32) &&& 31))) ||| ((a1 >>> ((3 : Int32) &&& 31)) &&& 1)) <<< ((2 : Int32) &&& 31)) ||| (((((a1 >>> ((3 : Int32) &&& 31)) &&& 1) ||| ((a1 >>> ((2 : Int32) &&& 31)) &&& 1)) ^^^ 1) <<< ((1 : Int32) &&& 31))) ||| ((a1 >>> ((2 : Int32) &&& 31)) &&& 1))), (5, .int ((((a1 >>> ((3 : Int32) &&& 31)) &&& 1) ||| ((a1 >>> ((2 : Int32) &&& 31)) &&& 1)) ^^^ 1)), (4, .int ((a1 >>> ((2 : Int32) &&& 31)) &&& 1)), (3, .int 2), (0, .ref (q 5)), (1, .int a1)]) hx hb dX4_putUnchecked_38 rfl hl (by decide) rfl (fun ls hl => ?_)
  refine lv_aload_n hx hb dX4_putUnchecked_39 rfl (lv_at hl 4 rfl) ?_
  refine lv_iload hx hb dX4_putUnchecked_40 (lv_at hl 2 rfl) ?_
  refine va_put (D := G) (ci := 4) (v := .int ((a1 >>> ((2 : Int32) &&& 31)) &&& 1)) (ty := .int) (C := RX4) (T := TX4) (N := 7) hx hb hts hi_4 tyX4 tyX4_ok nmX4 hown hK hP hD hS 5 rfl rfl 2 (by decide) hfl_15 (fun _ h9 => h9) rfl (by decide +kernel) rfl rfl (Nat.le_of_ble_eq_true rfl) dX4_putUnchecked_42 (fun H locs hP hD hS => ?_)
  have hP : va_P G vwCl ((fk_cW q k) (upd (upd (upd (upd (upd (upd z0.1 28 ((a1 >>> ((7 : Int32) &&& 31)) &&& 1)) 28 ((a1 >>> ((6 : Int32) &&& 31)) &&& 1)) 28 ((a1 >>> ((5 : Int32) &&& 31)) &&& 1)) 28 ((a1 >>> ((4 : Int32) &&& 31)) &&& 1)) 28 ((a1 >>> ((3 : Int32) &&& 31)) &&& 1)) 28 ((a1 >>> ((2 : Int32) &&& 31)) &&& 1), z0.2)) H := hP
  have hD : va_D A ((fk_cW q k) (upd (upd (upd (upd (upd (upd z0.1 28 ((a1 >>> ((7 : Int32) &&& 31)) &&& 1)) 28 ((a1 >>> ((6 : Int32) &&& 31)) &&& 1)) 28 ((a1 >>> ((5 : Int32) &&& 31)) &&& 1)) 28 ((a1 >>> ((4 : Int32) &&& 31)) &&& 1)) 28 ((a1 >>> ((3 : Int32) &&& 31)) &&& 1)) 28 ((a1 >>> ((2 : Int32) &&& 31)) &&& 1), z0.2)) := hD
  refine lv_iinc (v := 1) (lv' := [(3, .int 1), (2, .int ((((((((((((((((((0 <<< ((2 : Int32) &&& 31)) ||| ((((z0.1 28) ||| ((a1 >>> ((7 : Int32) &&& 31)) &&& 1)) ^^^ 1) <<< ((1 : Int32) &&& 31))) ||| ((a1 >>> ((7 : Int32) &&& 31)) &&& 1)) <<< ((2 : Int32) &&& 31)) ||| (((((a1 >>> ((7 : Int32) &&& 31)) &&& 1) ||| ((a1 >>> ((6 : Int32) &&& 31)) &&& 1)) ^^^ 1) <<< ((1 : Int32) &&& 31))) ||| ((a1 >>> ((6 : Int32) &&& 31)) &&& 1)) <<< ((2 : Int32) &&& 31)) ||| (((((a1 >>> ((6 : Int32) &&& 31)) &&& 1) ||| ((a1 >>> ((5 : Int32) &&& 31)) &&& 1)) ^^^ 1) <<< ((1 : Int32) &&& 31))) ||| ((a1 >>> ((5 : Int32) &&& 31)) &&& 1)) <<< ((2 : Int32) &&& 31)) ||| (((((a1 >>> ((5 : Int32) &&& 31)) &&& 1) ||| ((a1 >>> ((4 : Int32) &&& 31)) &&& 1)) ^^^ 1) <<< ((1 : Int32) &&& 31))) ||| ((a1 >>> ((4 : Int32) &&& 31)) &&& 1)) <<< ((2 : Int32) &&& 31)) ||| (((((a1 >>> ((4 : Int32) &&& 31)) &&& 1) ||| ((a1 >>> ((3 : Int32) &&& 31)) &&& 1)) ^^^ 1) <<< ((1 : Int32) &&& 31))) ||| ((a1 >>> ((3 : Int32) &&& 31)) &&& 1)) <<< ((2 : Int32) &&& 31)) ||| (((((a1 >>> ((3 : Int32) &&& 31)) &&& 1) ||| ((a1 >>> ((2 : Int32) &&& 31)) &&& 1)) ^^^ 1) <<< ((1 : Int32) &&& 31))) ||| ((a1 >>> ((2 : Int32) &&& 31)) &&& 1))), (5, .int ((((a1 >>> ((3 : Int32) &&& 31)) &&& 1) ||| ((a1 >>> ((2 : Int32) &&& 31)) &&& 1)) ^^^ 1)), (4, .int ((a1 >>> ((2 : Int32) &&& 31)) &&& 1)), (0, .ref (q 5)), (1, .int a1)]) hx hb dX4_putUnchecked_45 hl (k := 3) rfl (by decide) (by decide) rfl (fun ls hl => ?_)
  refine lv_goto (tgt := 5) hx hb dX4_putUnchecked_48 (by decide) ?_
  refine lv_iload_n hx hb dX4_putUnchecked_5 rfl (lv_at hl 0 rfl) ?_
  refine lv_if_lt (tgt := 51) hx hb dX4_putUnchecked_6 (by decide) (fun h9 => absurd h9 (by decide)) (fun _ => ?_)
  refine lv_iload_n hx hb dX4_putUnchecked_9 rfl (lv_at hl 5 rfl) ?_
  refine lv_iload_n hx hb dX4_putUnchecked_10 rfl (lv_at hl 0 rfl) ?_
  refine lv_ishr hx hb dX4_putUnchecked_11 ?_
  refine lv_iconst (v := 1) hx hb dX4_putUnchecked_12 (by decide) ?_
  refine lv_iand hx hb dX4_putUnchecked_13 ?_
  refine lv_istore (lv' := [(4, .int ((a1 >>> ((1 : Int32) &&& 31)) &&& 1)), (3, .int 1), (2, .int ((((((((((((((((((0 <<< ((2 : Int32) &&& 31)) ||| ((((z0.1 28) ||| ((a1 >>> ((7 : Int32) &&& 31)) &&& 1)) ^^^ 1) <<< ((1 : Int32) &&& 31))) ||| ((a1 >>> ((7 : Int32) &&& 31)) &&& 1)) <<< ((2 : Int32) &&& 31)) ||| (((((a1 >>> ((7 : Int32) &&& 31)) &&& 1) ||| ((a1 >>> ((6 : Int32) &&& 31)) &&& 1)) ^^^ 1) <<< ((1 : Int32) &&& 31))) ||| ((a1 >>> ((6 : Int32) &&& 31)) &&& 1)) <<< ((2 : Int32) &&& 31)) ||| (((((a1 >>> ((6 : Int32) &&& 31)) &&& 1) ||| ((a1 >>> ((5 : Int32) &&& 31)) &&& 1)) ^^^ 1) <<< ((1 : Int32) &&& 31))) ||| ((a1 >>> ((5 : Int32) &&& 31)) &&& 1)) <<< ((2 : Int32) &&& 31)) ||| (((((a1 >>> ((5 : Int32) &&& 31)) &&& 1) ||| ((a1 >>> ((4 : Int32) &&& 31)) &&& 1)) ^^^ 1) <<< ((1 : Int32) &&& 31))) ||| ((a1 >>> ((4 : Int32) &&& 31)) &&& 1)) <<< ((2 : Int32) &&& 31)) ||| (((((a1 >>> ((4 : Int32) &&& 31)) &&& 1) ||| ((a1 >>> ((3 : Int32) &&& 31)) &&& 1)) ^^^ 1) <<< ((1 : Int32) &&& 31))) ||| ((a1 >>> ((3 : Int32) &&& 31)) &&& 1)) <<< ((2 : Int32) &&& 31)) ||| (((((a1 >>> ((3 : Int32) &&& 31)) &&& 1) ||| ((a1 >>> ((2 : Int32) &&& 31)) &&& 1)) ^^^ 1) <<< ((1 : Int32) &&& 31))) ||| ((a1 >>> ((2 : Int32) &&& 31)) &&& 1))), (5, .int ((((a1 >>> ((3 : Int32) &&& 31)) &&& 1) ||| ((a1 >>> ((2 : Int32) &&& 31)) &&& 1)) ^^^ 1)), (0, .ref (q 5)), (1, .int a1)]) hx hb dX4_putUnchecked_14 hl (by decide) rfl (fun ls hl => ?_)
  refine lv_aload_n hx hb dX4_putUnchecked_16 rfl (lv_at hl 4 rfl) ?_
  refine va_get (D := G) (ci := 4) (v := .int ((a1 >>> ((2 : Int32) &&& 31)) &&& 1)) (C := RX4) (T := TX4) (N := 7) hx hb hts hi_4 hown hK hP 5 rfl rfl 2 (by decide) hfl_15 (fun _ h9 => h9) rfl dX4_putUnchecked_17 ?_
  refine lv_iload hx hb dX4_putUnchecked_20 (lv_at hl 0 rfl) ?_
  refine lv_ior hx hb dX4_putUnchecked_22 ?_
  refine lv_iconst (v := 1) hx hb dX4_putUnchecked_23 (by decide) ?_
  refine lv_ixor hx hb dX4_putUnchecked_24 ?_
  refine lv_istore (lv' := [(5, .int ((((a1 >>> ((2 : Int32) &&& 31)) &&& 1) ||| ((a1 >>> ((1 : Int32) &&& 31)) &&& 1)) ^^^ 1)), (4, .int ((a1 >>> ((1 : Int32) &&& 31)) &&& 1)), (3, .int 1), (2, .int ((((((((((((((((((0 <<< ((2 : Int32) &&& 31)) ||| ((((z0.1 28) ||| ((a1 >>> ((7 : Int32) &&& 31)) &&& 1)) ^^^ 1) <<< ((1 : Int32) &&& 31))) ||| ((a1 >>> ((7 : Int32) &&& 31)) &&& 1)) <<< ((2 : Int32) &&& 31)) ||| (((((a1 >>> ((7 : Int32) &&& 31)) &&& 1) ||| ((a1 >>> ((6 : Int32) &&& 31)) &&& 1)) ^^^ 1) <<< ((1 : Int32) &&& 31))) ||| ((a1 >>> ((6 : Int32) &&& 31)) &&& 1)) <<< ((2 : Int32) &&& 31)) ||| (((((a1 >>> ((6 : Int32) &&& 31)) &&& 1) ||| ((a1 >>> ((5 : Int32) &&& 31)) &&& 1)) ^^^ 1) <<< ((1 : Int32) &&& 31))) ||| ((a1 >>> ((5 : Int32) &&& 31)) &&& 1)) <<< ((2 : Int32) &&& 31)) ||| (((((a1 >>> ((5 : Int32) &&& 31)) &&& 1) ||| ((a1 >>> ((4 : Int32) &&& 31)) &&& 1)) ^^^ 1) <<< ((1 : Int32) &&& 31))) ||| ((a1 >>> ((4 : Int32) &&& 31)) &&& 1)) <<< ((2 : Int32) &&& 31)) ||| (((((a1 >>> ((4 : Int32) &&& 31)) &&& 1) ||| ((a1 >>> ((3 : Int32) &&& 31)) &&& 1)) ^^^ 1) <<< ((1 : Int32) &&& 31))) ||| ((a1 >>> ((3 : Int32) &&& 31)) &&& 1)) <<< ((2 : Int32) &&& 31)) ||| (((((a1 >>> ((3 : Int32) &&& 31)) &&& 1) ||| ((a1 >>> ((2 : Int32) &&& 31)) &&& 1)) ^^^ 1) <<< ((1 : Int32) &&& 31))) ||| ((a1 >>> ((2 : Int32) &&& 31)) &&& 1))), (0, .ref (q 5)), (1, .int a1)]) hx hb dX4_putUnchecked_25 hl (by decide) rfl (fun ls hl => ?_)
  refine lv_iload_n hx hb dX4_putUnchecked_27 rfl (lv_at hl 3 rfl) ?_
  refine lv_iconst (v := 2) hx hb dX4_putUnchecked_28 (by decide) ?_
  refine lv_ishl hx hb dX4_putUnchecked_29 ?_
  refine lv_iload hx hb dX4_putUnchecked_30 (lv_at hl 0 rfl) ?_
  refine lv_iconst (v := 1) hx hb dX4_putUnchecked_32 (by decide) ?_
  refine lv_ishl hx hb dX4_putUnchecked_33 ?_
  refine lv_ior hx hb dX4_putUnchecked_34 ?_
  refine lv_iload hx hb dX4_putUnchecked_35 (lv_at hl 1 rfl) ?_
  refine lv_ior hx hb dX4_putUnchecked_37 ?_
  refine lv_istore_n (lv' := [(2, .int (((((((((((((((((((((0 <<< ((2 : Int32) &&& 31)) ||| ((((z0.1 28) ||| ((a1 >>> ((7 : Int32) &&& 31)) &&& 1)) ^^^ 1) <<< ((1 : Int32) &&& 31))) ||| ((a1 >>> ((7 : Int32) &&& 31)) &&& 1)) <<< ((2 : Int32) &&& 31)) ||| (((((a1 >>> ((7 : Int32) &&& 31)) &&& 1) ||| ((a1 >>> ((6 : Int32) &&& 31)) &&& 1)) ^^^ 1) <<< ((1 : Int32) &&& 31))) ||| ((a1 >>> ((6 : Int32) &&& 31)) &&& 1)) <<< ((2 : Int32) &&& 31)) ||| (((((a1 >>> ((6 : Int32) &&& 31)) &&& 1) ||| ((a1 >>> ((5 : Int32) &&& 31)) &&& 1)) ^^^ 1) <<< ((1 : Int32) &&& 31))) ||| ((a1 >>> ((5 : Int32) &&& 31)) &&& 1)) <<< ((2 : Int32) &&& 31)) ||| (((((a1 >>> ((5 : Int32) &&& 31)) &&& 1) ||| ((a1 >>> ((4 : Int32) &&& 31)) &&& 1)) ^^^ 1) <<< ((1 : Int32) &&& 31))) ||| ((a1 >>> ((4 : Int32) &&& 31)) &&& 1)) <<< ((2 : Int32) &&& 31)) ||| (((((a1 >>> ((4 : Int32) &&& 31)) &&& 1) ||| ((a1 >>> ((3 : Int32) &&& 31)) &&& 1)) ^^^ 1) <<< ((1 : Int32) &&& 31))) ||| ((a1 >>> ((3 : Int32) &&& 31)) &&& 1)) <<< ((2 : Int32) &&& 31)) ||| (((((a1 >>> ((3 : Int32) &&& 31)) &&& 1) ||| ((a1 >>> ((2 : Int32) &&& 31)) &&& 1)) ^^^ 1) <<< ((1 : Int32) &&& 31))) ||| ((a1 >>> ((2 : Int32) &&& 31)) &&& 1)) <<< ((2 : Int32) &&& 31)) ||| (((((a1 >>> ((2 : Int32) &&& 31)) &&& 1) ||| ((a1 >>> ((1 : Int32) &&& 31)) &&& 1)) ^^^ 1) <<< ((1 : Int32) &&& 31))) ||| ((a1 >>> ((1 : Int32) &&& 31)) &&& 1))), (5, .int ((((a1 >>> ((2 : Int32) &&& 31)) &&& 1) ||| ((a1 >>> ((1 : Int32) &&& 31)) &&& 1)) ^^^ 1)), (4, .int ((a1 >>> ((1 : Int32) &&& 31)) &&& 1)), (3, .int 1), (0, .ref (q 5)), (1, .int a1)]) hx hb dX4_putUnchecked_38 rfl hl (by decide) rfl (fun ls hl => ?_)
  refine lv_aload_n hx hb dX4_putUnchecked_39 rfl (lv_at hl 4 rfl) ?_
  refine lv_iload hx hb dX4_putUnchecked_40 (lv_at hl 2 rfl) ?_
  refine va_put (D := G) (ci := 4) (v := .int ((a1 >>> ((1 : Int32) &&& 31)) &&& 1)) (ty := .int) (C := RX4) (T := TX4) (N := 7) hx hb hts hi_4 tyX4 tyX4_ok nmX4 hown hK hP hD hS 5 rfl rfl 2 (by decide) hfl_15 (fun _ h9 => h9) rfl (by decide +kernel) rfl rfl (Nat.le_of_ble_eq_true rfl) dX4_putUnchecked_42 (fun H locs hP hD hS => ?_)
  have hP : va_P G vwCl ((fk_cW q k) (upd (upd (upd (upd (upd (upd (upd z0.1 28 ((a1 >>> ((7 : Int32) &&& 31)) &&& 1)) 28 ((a1 >>> ((6 : Int32) &&& 31)) &&& 1)) 28 ((a1 >>> ((5 : Int32) &&& 31)) &&& 1)) 28 ((a1 >>> ((4 : Int32) &&& 31)) &&& 1)) 28 ((a1 >>> ((3 : Int32) &&& 31)) &&& 1)) 28 ((a1 >>> ((2 : Int32) &&& 31)) &&& 1)) 28 ((a1 >>> ((1 : Int32) &&& 31)) &&& 1), z0.2)) H := hP
  have hD : va_D A ((fk_cW q k) (upd (upd (upd (upd (upd (upd (upd z0.1 28 ((a1 >>> ((7 : Int32) &&& 31)) &&& 1)) 28 ((a1 >>> ((6 : Int32) &&& 31)) &&& 1)) 28 ((a1 >>> ((5 : Int32) &&& 31)) &&& 1)) 28 ((a1 >>> ((4 : Int32) &&& 31)) &&& 1)) 28 ((a1 >>> ((3 : Int32) &&& 31)) &&& 1)) 28 ((a1 >>> ((2 : Int32) &&& 31)) &&& 1)) 28 ((a1 >>> ((1 : Int32) &&& 31)) &&& 1), z0.2)) := hD
  refine lv_iinc (v := 0) (lv' := [(3, .int 0), (2, .int (((((((((((((((((((((0 <<< ((2 : Int32) &&& 31)) ||| ((((z0.1 28) ||| ((a1 >>> ((7 : Int32) &&& 31)) &&& 1)) ^^^ 1) <<< ((1 : Int32) &&& 31))) ||| ((a1 >>> ((7 : Int32) &&& 31)) &&& 1)) <<< ((2 : Int32) &&& 31)) ||| (((((a1 >>> ((7 : Int32) &&& 31)) &&& 1) ||| ((a1 >>> ((6 : Int32) &&& 31)) &&& 1)) ^^^ 1) <<< ((1 : Int32) &&& 31))) ||| ((a1 >>> ((6 : Int32) &&& 31)) &&& 1)) <<< ((2 : Int32) &&& 31)) ||| (((((a1 >>> ((6 : Int32) &&& 31)) &&& 1) ||| ((a1 >>> ((5 : Int32) &&& 31)) &&& 1)) ^^^ 1) <<< ((1 : Int32) &&& 31))) ||| ((a1 >>> ((5 : Int32) &&& 31)) &&& 1)) <<< ((2 : Int32) &&& 31)) ||| (((((a1 >>> ((5 : Int32) &&& 31)) &&& 1) ||| ((a1 >>> ((4 : Int32) &&& 31)) &&& 1)) ^^^ 1) <<< ((1 : Int32) &&& 31))) ||| ((a1 >>> ((4 : Int32) &&& 31)) &&& 1)) <<< ((2 : Int32) &&& 31)) ||| (((((a1 >>> ((4 : Int32) &&& 31)) &&& 1) ||| ((a1 >>> ((3 : Int32) &&& 31)) &&& 1)) ^^^ 1) <<< ((1 : Int32) &&& 31))) ||| ((a1 >>> ((3 : Int32) &&& 31)) &&& 1)) <<< ((2 : Int32) &&& 31)) ||| (((((a1 >>> ((3 : Int32) &&& 31)) &&& 1) ||| ((a1 >>> ((2 : Int32) &&& 31)) &&& 1)) ^^^ 1) <<< ((1 : Int32) &&& 31))) ||| ((a1 >>> ((2 : Int32) &&& 31)) &&& 1)) <<< ((2 : Int32) &&& 31)) ||| (((((a1 >>> ((2 : Int32) &&& 31)) &&& 1) ||| ((a1 >>> ((1 : Int32) &&& 31)) &&& 1)) ^^^ 1) <<< ((1 : Int32) &&& 31))) ||| ((a1 >>> ((1 : Int32) &&& 31)) &&& 1))), (5, .int ((((a1 >>> ((2 : Int32) &&& 31)) &&& 1) ||| ((a1 >>> ((1 : Int32) &&& 31)) &&& 1)) ^^^ 1)), (4, .int ((a1 >>> ((1 : Int32) &&& 31)) &&& 1)), (0, .ref (q 5)), (1, .int a1)]) hx hb dX4_putUnchecked_45 hl (k := 3) rfl (by decide) (by decide) rfl (fun ls hl => ?_)
  refine lv_goto (tgt := 5) hx hb dX4_putUnchecked_48 (by decide) ?_
  refine lv_iload_n hx hb dX4_putUnchecked_5 rfl (lv_at hl 0 rfl) ?_
  refine lv_if_lt (tgt := 51) hx hb dX4_putUnchecked_6 (by decide) (fun h9 => absurd h9 (by decide)) (fun _ => ?_)
  refine lv_iload_n hx hb dX4_putUnchecked_9 rfl (lv_at hl 5 rfl) ?_
  refine lv_iload_n hx hb dX4_putUnchecked_10 rfl (lv_at hl 0 rfl) ?_
  refine lv_ishr hx hb dX4_putUnchecked_11 ?_
  refine lv_iconst (v := 1) hx hb dX4_putUnchecked_12 (by decide) ?_
  refine lv_iand hx hb dX4_putUnchecked_13 ?_
  refine lv_istore (lv' := [(4, .int ((a1 >>> ((0 : Int32) &&& 31)) &&& 1)), (3, .int 0), (2, .int (((((((((((((((((((((0 <<< ((2 : Int32) &&& 31)) ||| ((((z0.1 28) ||| ((a1 >>> ((7 : Int32) &&& 31)) &&& 1)) ^^^ 1) <<< ((1 : Int32) &&& 31))) ||| ((a1 >>> ((7 : Int32) &&& 31)) &&& 1)) <<< ((2 : Int32) &&& 31)) ||| (((((a1 >>> ((7 : Int32) &&& 31)) &&& 1) ||| ((a1 >>> ((6 : Int32) &&& 31)) &&& 1)) ^^^ 1) <<< ((1 : Int32) &&& 31))) ||| ((a1 >>> ((6 : Int32) &&& 31)) &&& 1)) <<< ((2 : Int32) &&& 31)) ||| (((((a1 >>> ((6 : Int32) &&& 31)) &&& 1) ||| ((a1 >>> ((5 : Int32) &&& 31)) &&& 1)) ^^^ 1) <<< ((1 : Int32) &&& 31))) ||| ((a1 >>> ((5 : Int32) &&& 31)) &&& 1)) <<< ((2 : Int32) &&& 31)) ||| (((((a1 >>> ((5 : Int32) &&& 31)) &&& 1) ||| ((a1 >>> ((4 : Int32) &&& 31)) &&& 1)) ^^^ 1) <<< ((1 : Int32) &&& 31))) ||| ((a1 >>> ((4 : Int32) &&& 31)) &&& 1)) <<< ((2 : Int32) &&& 31)) ||| (((((a1 >>> ((4 : Int32) &&& 31)) &&& 1) ||| ((a1 >>> ((3 : Int32) &&& 31)) &&& 1)) ^^^ 1) <<< ((1 : Int32) &&& 31))) ||| ((a1 >>> ((3 : Int32) &&& 31)) &&& 1)) <<< ((2 : Int32) &&& 31)) ||| (((((a1 >>> ((3 : Int32) &&& 31)) &&& 1) ||| ((a1 >>> ((2 : Int32) &&& 31)) &&& 1)) ^^^ 1) <<< ((1 : Int32) &&& 31))) ||| ((a1 >>> ((2 : Int32) &&& 31)) &&& 1)) <<< ((2 : Int32) &&& 31)) ||| (((((a1 >>> ((2 : Int32) &&& 31)) &&& 1) ||| ((a1 >>> ((1 : Int32) &&& 31)) &&& 1)) ^^^ 1) <<< ((1 : Int32) &&& 31))) ||| ((a1 >>> ((1 : Int32) &&& 31)) &&& 1))), (5, .int ((((a1 >>> ((2 : Int32) &&& 31)) &&& 1) ||| ((a1 >>> ((1 : Int32) &&& 31)) &&& 1)) ^^^ 1)), (0, .ref (q 5)), (1, .int a1)]) hx hb dX4_putUnchecked_14 hl (by decide) rfl (fun ls hl => ?_)
  refine lv_aload_n hx hb dX4_putUnchecked_16 rfl (lv_at hl 4 rfl) ?_
  refine va_get (D := G) (ci := 4) (v := .int ((a1 >>> ((1 : Int32) &&& 31)) &&& 1)) (C := RX4) (T := TX4) (N := 7) hx hb hts hi_4 hown hK hP 5 rfl rfl 2 (by decide) hfl_15 (fun _ h9 => h9) rfl dX4_putUnchecked_17 ?_
  refine lv_iload hx hb dX4_putUnchecked_20 (lv_at hl 0 rfl) ?_
  refine lv_ior hx hb dX4_putUnchecked_22 ?_
  refine lv_iconst (v := 1) hx hb dX4_putUnchecked_23 (by decide) ?_
  refine lv_ixor hx hb dX4_putUnchecked_24 ?_
  refine lv_istore (lv' := [(5, .int ((((a1 >>> ((1 : Int32) &&& 31)) &&& 1) ||| ((a1 >>> ((0 : Int32) &&& 31)) &&& 1)) ^^^ 1)), (4, .int ((a1 >>> ((0 : Int32) &&& 31)) &&& 1)), (3, .int 0), (2, .int (((((((((((((((((((((0 <<< ((2 : Int32) &&& 31)) ||| ((((z0.1 28) ||| ((a1 >>> ((7 : Int32) &&& 31)) &&& 1)) ^^^ 1) <<< ((1 : Int32) &&& 31))) ||| ((a1 >>> ((7 : Int32) &&& 31)) &&& 1)) <<< ((2 : Int32) &&& 31)) ||| (((((a1 >>> ((7 : Int32) &&& 31)) &&& 1) ||| ((a1 >>> ((6 : Int32) &&& 31)) &&& 1)) ^^^ 1) <<< ((1 : Int32) &&& 31))) ||| ((a1 >>> ((6 : Int32) &&& 31)) &&& 1)) <<< ((2 : Int32) &&& 31)) ||| (((((a1 >>> ((6 : Int32) &&& 31)) &&& 1) ||| ((a1 >>> ((5 : Int32) &&& 31)) &&& 1)) ^^^ 1) <<< ((1 : Int32) &&& 31))) ||| ((a1 >>> ((5 : Int32) &&& 31)) &&& 1)) <<< ((2 : Int32) &&& 31)) ||| (((((a1 >>> ((5 : Int32) &&& 31)) &&& 1) ||| ((a1 >>> ((4 : Int32) &&& 31)) &&& 1)) ^^^ 1) <<< ((1 : Int32) &&& 31))) ||| ((a1 >>> ((4 : Int32) &&& 31)) &&& 1)) <<< ((2 : Int32) &&& 31)) ||| (((((a1 >>> ((4 : Int32) &&& 31)) &&& 1) ||| ((a1 >>> ((3 : Int32) &&& 31)) &&& 1)) ^^^ 1) <<< ((1 : Int32) &&& 31))) ||| ((a1 >>> ((3 : Int32) &&& 31)) &&& 1)) <<< ((2 : Int32) &&& 31)) ||| (((((a1 >>> ((3 : Int32) &&& 31)) &&& 1) ||| ((a1 >>> ((2 : Int32) &&& 31)) &&& 1)) ^^^ 1) <<< ((1 : Int32) &&& 31))) ||| ((a1 >>> ((2 : Int32) &&& 31)) &&& 1)) <<< ((2 : Int32) &&& 31)) ||| (((((a1 >>> ((2 : Int32) &&& 31)) &&& 1) ||| ((a1 >>> ((1 : Int32) &&& 31)) &&& 1)) ^^^ 1) <<< ((1 : Int32) &&& 31))) ||| ((a1 >>> ((1 : Int32) &&& 31)) &&& 1))), (0, .ref (q 5)), (1, .int a1)]) hx hb dX4_putUnchecked_25 hl (by decide) rfl (fun ls hl => ?_)
  refine lv_iload_n hx hb dX4_putUnchecked_27 rfl (lv_at hl 3 rfl) ?_
  refine lv_iconst (v := 2) hx hb dX4_putUnchecked_28 (by decide) ?_
  refine lv_ishl hx hb dX4_putUnchecked_29 ?_
  refine lv_iload hx hb dX4_putUnchecked_30 (lv_at hl 0 rfl) ?_
  refine lv_iconst (v := 1) hx hb dX4_putUnchecked_32 (by decide) ?_
  refine lv_ishl hx hb dX4_putUnchecked_33 ?_
  refine lv_ior hx hb dX4_putUnchecked_34 ?_
  refine lv_iload hx hb dX4_putUnchecked_35 (lv_at hl 1 rfl) ?_
  refine lv_ior hx hb dX4_putUnchecked_37 ?_
  refine lv_istore_n (lv' := [(2, .int ((((((((((((((((((((((((0 <<< ((2 : Int32) &&& 31)) ||| ((((z0.1 28) ||| ((a1 >>> ((7 : Int32) &&& 31)) &&& 1)) ^^^ 1) <<< ((1 : Int32) &&& 31))) ||| ((a1 >>> ((7 : Int32) &&& 31)) &&& 1)) <<< ((2 : Int32) &&& 31)) ||| (((((a1 >>> ((7 : Int32) &&& 31)) &&& 1) ||| ((a1 >>> ((6 : Int32) &&& 31)) &&& 1)) ^^^ 1) <<< ((1 : Int32) &&& 31))) ||| ((a1 >>> ((6 : Int32) &&& 31)) &&& 1)) <<< ((2 : Int32) &&& 31)) ||| (((((a1 >>> ((6 : Int32) &&& 31)) &&& 1) ||| ((a1 >>> ((5 : Int32) &&& 31)) &&& 1)) ^^^ 1) <<< ((1 : Int32) &&& 31))) ||| ((a1 >>> ((5 : Int32) &&& 31)) &&& 1)) <<< ((2 : Int32) &&& 31)) ||| (((((a1 >>> ((5 : Int32) &&& 31)) &&& 1) ||| ((a1 >>> ((4 : Int32) &&& 31)) &&& 1)) ^^^ 1) <<< ((1 : Int32) &&& 31))) ||| ((a1 >>> ((4 : Int32) &&& 31)) &&& 1)) <<< ((2 : Int32) &&& 31)) ||| (((((a1 >>> ((4 : Int32) &&& 31)) &&& 1) ||| ((a1 >>> ((3 : Int32) &&& 31)) &&& 1)) ^^^ 1) <<< ((1 : Int32) &&& 31))) ||| ((a1 >>> ((3 : Int32) &&& 31)) &&& 1)) <<< ((2 : Int32) &&& 31)) ||| (((((a1 >>> ((3 : Int32) &&& 31)) &&& 1) ||| ((a1 >>> ((2 : Int32) &&& 31)) &&& 1)) ^^^ 1) <<< ((1 : Int32) &&& 31))) ||| ((a1 >>> ((2 : Int32) &&& 31)) &&& 1)) <<< ((2 : Int32) &&& 31)) ||| (((((a1 >>> ((2 : Int32) &&& 31)) &&& 1) ||| ((a1 >>> ((1 : Int32) &&& 31)) &&& 1)) ^^^ 1) <<< ((1 : Int32) &&& 31))) ||| ((a1 >>> ((1 : Int32) &&& 31)) &&& 1)) <<< ((2 : Int32) &&& 31)) ||| (((((a1 >>> ((1 : Int32) &&& 31)) &&& 1) ||| ((a1 >>> ((0 : Int32) &&& 31)) &&& 1)) ^^^ 1) <<< ((1 : Int32) &&& 31))) ||| ((a1 >>> ((0 : Int32) &&& 31)) &&& 1))), (5, .int ((((a1 >>> ((1 : Int32) &&& 31)) &&& 1) ||| ((a1 >>> ((0 : Int32) &&& 31)) &&& 1)) ^^^ 1)), (4, .int ((a1 >>> ((0 : Int32) &&& 31)) &&& 1)), (3, .int 0), (0, .ref (q 5)), (1, .int a1)]) hx hb dX4_putUnchecked_38 rfl hl (by decide) rfl (fun ls hl => ?_)
  refine lv_aload_n hx hb dX4_putUnchecked_39 rfl (lv_at hl 4 rfl) ?_
  refine lv_iload hx hb dX4_putUnchecked_40 (lv_at hl 2 rfl) ?_
  refine va_put (D := G) (ci := 4) (v := .int ((a1 >>> ((0 : Int32) &&& 31)) &&& 1)) (ty := .int) (C := RX4) (T := TX4) (N := 7) hx hb hts hi_4 tyX4 tyX4_ok nmX4 hown hK hP hD hS 5 rfl rfl 2 (by decide) hfl_15 (fun _ h9 => h9) rfl (by decide +kernel) rfl rfl (Nat.le_of_ble_eq_true rfl) dX4_putUnchecked_42 (fun H locs hP hD hS => ?_)
  have hP : va_P G vwCl ((fk_cW q k) (upd (upd (upd (upd (upd (upd (upd (upd z0.1 28 ((a1 >>> ((7 : Int32) &&& 31)) &&& 1)) 28 ((a1 >>> ((6 : Int32) &&& 31)) &&& 1)) 28 ((a1 >>> ((5 : Int32) &&& 31)) &&& 1)) 28 ((a1 >>> ((4 : Int32) &&& 31)) &&& 1)) 28 ((a1 >>> ((3 : Int32) &&& 31)) &&& 1)) 28 ((a1 >>> ((2 : Int32) &&& 31)) &&& 1)) 28 ((a1 >>> ((1 : Int32) &&& 31)) &&& 1)) 28 ((a1 >>> ((0 : Int32) &&& 31)) &&& 1), z0.2)) H := hP
  have hD : va_D A ((fk_cW q k) (upd (upd (upd (upd (upd (upd (upd (upd z0.1 28 ((a1 >>> ((7 : Int32) &&& 31)) &&& 1)) 28 ((a1 >>> ((6 : Int32) &&& 31)) &&& 1)) 28 ((a1 >>> ((5 : Int32) &&& 31)) &&& 1)) 28 ((a1 >>> ((4 : Int32) &&& 31)) &&& 1)) 28 ((a1 >>> ((3 : Int32) &&& 31)) &&& 1)) 28 ((a1 >>> ((2 : Int32) &&& 31)) &&& 1)) 28 ((a1 >>> ((1 : Int32) &&& 31)) &&& 1)) 28 ((a1 >>> ((0 : Int32) &&& 31)) &&& 1), z0.2)) := hD
  refine lv_iinc (v := (-1)) (lv' := [(3, .int (-1)), (2, .int ((((((((((((((((((((((((0 <<< ((2 : Int32) &&& 31)) ||| ((((z0.1 28) ||| ((a1 >>> ((7 : Int32) &&& 31)) &&& 1)) ^^^ 1) <<< ((1 : Int32) &&& 31))) ||| ((a1 >>> ((7 : Int32) &&& 31)) &&& 1)) <<< ((2 : Int32) &&& 31)) ||| (((((a1 >>> ((7 : Int32) &&& 31)) &&& 1) ||| ((a1 >>> ((6 : Int32) &&& 31)) &&& 1)) ^^^ 1) <<< ((1 : Int32) &&& 31))) ||| ((a1 >>> ((6 : Int32) &&& 31)) &&& 1)) <<< ((2 : Int32) &&& 31)) ||| (((((a1 >>> ((6 : Int32) &&& 31)) &&& 1) ||| ((a1 >>> ((5 : Int32) &&& 31)) &&& 1)) ^^^ 1) <<< ((1 : Int32) &&& 31))) ||| ((a1 >>> ((5 : Int32) &&& 31)) &&& 1)) <<< ((2 : Int32) &&& 31)) ||| (((((a1 >>> ((5 : Int32) &&& 31)) &&& 1) ||| ((a1 >>> ((4 : Int32) &&& 31)) &&& 1)) ^^^ 1) <<< ((1 : Int32) &&& 31))) ||| ((a1 >>> ((4 : Int32) &&& 31)) &&& 1)) <<< ((2 : Int32) &&& 31)) ||| (((((a1 >>> ((4 : Int32) &&& 31)) &&& 1) ||| ((a1 >>> ((3 : Int32) &&& 31)) &&& 1)) ^^^ 1) <<< ((1 : Int32) &&& 31))) ||| ((a1 >>> ((3 : Int32) &&& 31)) &&& 1)) <<< ((2 : Int32) &&& 31)) ||| (((((a1 >>> ((3 : Int32) &&& 31)) &&& 1) ||| ((a1 >>> ((2 : Int32) &&& 31)) &&& 1)) ^^^ 1) <<< ((1 : Int32) &&& 31))) ||| ((a1 >>> ((2 : Int32) &&& 31)) &&& 1)) <<< ((2 : Int32) &&& 31)) ||| (((((a1 >>> ((2 : Int32) &&& 31)) &&& 1) ||| ((a1 >>> ((1 : Int32) &&& 31)) &&& 1)) ^^^ 1) <<< ((1 : Int32) &&& 31))) ||| ((a1 >>> ((1 : Int32) &&& 31)) &&& 1)) <<< ((2 : Int32) &&& 31)) ||| (((((a1 >>> ((1 : Int32) &&& 31)) &&& 1) ||| ((a1 >>> ((0 : Int32) &&& 31)) &&& 1)) ^^^ 1) <<< ((1 : Int32) &&& 31))) ||| ((a1 >>> ((0 : Int32) &&& 31)) &&& 1))), (5, .int ((((a1 >>> ((1 : Int32) &&& 31)) &&& 1) ||| ((a1 >>> ((0 : Int32) &&& 31)) &&& 1)) ^^^ 1)), (4, .int ((a1 >>> ((0 : Int32) &&& 31)) &&& 1)), (0, .ref (q 5)), (1, .int a1)]) hx hb dX4_putUnchecked_45 hl (k := 3) rfl (by decide) (by decide) rfl (fun ls hl => ?_)
  refine lv_goto (tgt := 5) hx hb dX4_putUnchecked_48 (by decide) ?_
  refine lv_iload_n hx hb dX4_putUnchecked_5 rfl (lv_at hl 0 rfl) ?_
  refine lv_if_lt (tgt := 51) hx hb dX4_putUnchecked_6 (by decide) (fun _ => ?_) (fun h9 => absurd h9 (by decide))
  refine lv_aload_n hx hb dX4_putUnchecked_51 rfl (lv_at hl 4 rfl) ?_
  refine lv_iconst (v := 0) hx hb dX4_putUnchecked_52 (by decide) ?_
  refine va_put (D := G) (ci := 4) (v := .int 0) (ty := .boolean) (C := RX4) (T := TX4) (N := 7) hx hb hts hi_4 tyX4 tyX4_ok nmX4 hown hK hP hD hS 5 rfl rfl 5 (by decide) hfl_25 (fun _ h9 => h9) rfl (by decide +kernel) rfl rfl (Nat.le_of_ble_eq_true rfl) dX4_putUnchecked_53 (fun H locs hP hD hS => ?_)
  have hP : va_P G vwCl ((fk_cW q k) (upd (upd (upd (upd (upd (upd (upd (upd (upd z0.1 28 ((a1 >>> ((7 : Int32) &&& 31)) &&& 1)) 28 ((a1 >>> ((6 : Int32) &&& 31)) &&& 1)) 28 ((a1 >>> ((5 : Int32) &&& 31)) &&& 1)) 28 ((a1 >>> ((4 : Int32) &&& 31)) &&& 1)) 28 ((a1 >>> ((3 : Int32) &&& 31)) &&& 1)) 28 ((a1 >>> ((2 : Int32) &&& 31)) &&& 1)) 28 ((a1 >>> ((1 : Int32) &&& 31)) &&& 1)) 28 ((a1 >>> ((0 : Int32) &&& 31)) &&& 1)) 31 0, z0.2)) H := hP
  have hD : va_D A ((fk_cW q k) (upd (upd (upd (upd (upd (upd (upd (upd (upd z0.1 28 ((a1 >>> ((7 : Int32) &&& 31)) &&& 1)) 28 ((a1 >>> ((6 : Int32) &&& 31)) &&& 1)) 28 ((a1 >>> ((5 : Int32) &&& 31)) &&& 1)) 28 ((a1 >>> ((4 : Int32) &&& 31)) &&& 1)) 28 ((a1 >>> ((3 : Int32) &&& 31)) &&& 1)) 28 ((a1 >>> ((2 : Int32) &&& 31)) &&& 1)) 28 ((a1 >>> ((1 : Int32) &&& 31)) &&& 1)) 28 ((a1 >>> ((0 : Int32) &&& 31)) &&& 1)) 31 0, z0.2)) := hD
  refine lv_aload_n hx hb dX4_putUnchecked_56 rfl (lv_at hl 4 rfl) ?_
  refine lv_iload_n hx hb dX4_putUnchecked_57 rfl (lv_at hl 1 rfl) ?_
  have hl := lv_sub hl [] (l' := []) rfl
  refine fk_Vv (Wd := (fk_cW q k)) (z := (upd (upd (upd (upd (upd (upd (upd (upd (upd z0.1 28 ((a1 >>> ((7 : Int32) &&& 31)) &&& 1)) 28 ((a1 >>> ((6 : Int32) &&& 31)) &&& 1)) 28 ((a1 >>> ((5 : Int32) &&& 31)) &&& 1)) 28 ((a1 >>> ((4 : Int32) &&& 31)) &&& 1)) 28 ((a1 >>> ((3 : Int32) &&& 31)) &&& 1)) 28 ((a1 >>> ((2 : Int32) &&& 31)) &&& 1)) 28 ((a1 >>> ((1 : Int32) &&& 31)) &&& 1)) 28 ((a1 >>> ((0 : Int32) &&& 31)) &&& 1)) 31 0, z0.2)) (As := [.int ((((((((((((((((((((((((0 <<< ((2 : Int32) &&& 31)) ||| ((((z0.1 28) ||| ((a1 >>> ((7 : Int32) &&& 31)) &&& 1)) ^^^ 1) <<< ((1 : Int32) &&& 31))) ||| ((a1 >>> ((7 : Int32) &&& 31)) &&& 1)) <<< ((2 : Int32) &&& 31)) ||| (((((a1 >>> ((7 : Int32) &&& 31)) &&& 1) ||| ((a1 >>> ((6 : Int32) &&& 31)) &&& 1)) ^^^ 1) <<< ((1 : Int32) &&& 31))) ||| ((a1 >>> ((6 : Int32) &&& 31)) &&& 1)) <<< ((2 : Int32) &&& 31)) ||| (((((a1 >>> ((6 : Int32) &&& 31)) &&& 1) ||| ((a1 >>> ((5 : Int32) &&& 31)) &&& 1)) ^^^ 1) <<< ((1 : Int32) &&& 31))) ||| ((a1 >>> ((5 : Int32) &&& 31)) &&& 1)) <<< ((2 : Int32) &&& 31)) ||| (((((a1 >>> ((5 : Int32) &&& 31)) &&& 1) ||| ((a1 >>> ((4 : Int32) &&& 31)) &&& 1)) ^^^ 1) <<< ((1 : Int32) &&& 31))) ||| ((a1 >>> ((4 : Int32) &&& 31)) &&& 1)) <<< ((2 : Int32) &&& 31)) ||| (((((a1 >>> ((4 : Int32) &&& 31)) &&& 1) ||| ((a1 >>> ((3 : Int32) &&& 31)) &&& 1)) ^^^ 1) <<< ((1 : Int32) &&& 31))) ||| ((a1 >>> ((3 : Int32) &&& 31)) &&& 1)) <<< ((2 : Int32) &&& 31)) ||| (((((a1 >>> ((3 : Int32) &&& 31)) &&& 1) ||| ((a1 >>> ((2 : Int32) &&& 31)) &&& 1)) ^^^ 1) <<< ((1 : Int32) &&& 31))) ||| ((a1 >>> ((2 : Int32) &&& 31)) &&& 1)) <<< ((2 : Int32) &&& 31)) ||| (((((a1 >>> ((2 : Int32) &&& 31)) &&& 1) ||| ((a1 >>> ((1 : Int32) &&& 31)) &&& 1)) ^^^ 1) <<< ((1 : Int32) &&& 31))) ||| ((a1 >>> ((1 : Int32) &&& 31)) &&& 1)) <<< ((2 : Int32) &&& 31)) ||| (((((a1 >>> ((1 : Int32) &&& 31)) &&& 1) ||| ((a1 >>> ((0 : Int32) &&& 31)) &&& 1)) ^^^ 1) <<< ((1 : Int32) &&& 31))) ||| ((a1 >>> ((0 : Int32) &&& 31)) &&& 1))]) (rest := []) F9 (c_X4_putWord l G q k _ (upd (upd (upd (upd (upd (upd (upd (upd (upd z0.1 28 ((a1 >>> ((7 : Int32) &&& 31)) &&& 1)) 28 ((a1 >>> ((6 : Int32) &&& 31)) &&& 1)) 28 ((a1 >>> ((5 : Int32) &&& 31)) &&& 1)) 28 ((a1 >>> ((4 : Int32) &&& 31)) &&& 1)) 28 ((a1 >>> ((3 : Int32) &&& 31)) &&& 1)) 28 ((a1 >>> ((2 : Int32) &&& 31)) &&& 1)) 28 ((a1 >>> ((1 : Int32) &&& 31)) &&& 1)) 28 ((a1 >>> ((0 : Int32) &&& 31)) &&& 1)) 31 0, z0.2) ((((((((((((((((((((((((0 <<< ((2 : Int32) &&& 31)) ||| ((((z0.1 28) ||| ((a1 >>> ((7 : Int32) &&& 31)) &&& 1)) ^^^ 1) <<< ((1 : Int32) &&& 31))) ||| ((a1 >>> ((7 : Int32) &&& 31)) &&& 1)) <<< ((2 : Int32) &&& 31)) ||| (((((a1 >>> ((7 : Int32) &&& 31)) &&& 1) ||| ((a1 >>> ((6 : Int32) &&& 31)) &&& 1)) ^^^ 1) <<< ((1 : Int32) &&& 31))) ||| ((a1 >>> ((6 : Int32) &&& 31)) &&& 1)) <<< ((2 : Int32) &&& 31)) ||| (((((a1 >>> ((6 : Int32) &&& 31)) &&& 1) ||| ((a1 >>> ((5 : Int32) &&& 31)) &&& 1)) ^^^ 1) <<< ((1 : Int32) &&& 31))) ||| ((a1 >>> ((5 : Int32) &&& 31)) &&& 1)) <<< ((2 : Int32) &&& 31)) ||| (((((a1 >>> ((5 : Int32) &&& 31)) &&& 1) ||| ((a1 >>> ((4 : Int32) &&& 31)) &&& 1)) ^^^ 1) <<< ((1 : Int32) &&& 31))) ||| ((a1 >>> ((4 : Int32) &&& 31)) &&& 1)) <<< ((2 : Int32) &&& 31)) ||| (((((a1 >>> ((4 : Int32) &&& 31)) &&& 1) ||| ((a1 >>> ((3 : Int32) &&& 31)) &&& 1)) ^^^ 1) <<< ((1 : Int32) &&& 31))) ||| ((a1 >>> ((3 : Int32) &&& 31)) &&& 1)) <<< ((2 : Int32) &&& 31)) ||| (((((a1 >>> ((3 : Int32) &&& 31)) &&& 1) ||| ((a1 >>> ((2 : Int32) &&& 31)) &&& 1)) ^^^ 1) <<< ((1 : Int32) &&& 31))) ||| ((a1 >>> ((2 : Int32) &&& 31)) &&& 1)) <<< ((2 : Int32) &&& 31)) ||| (((((a1 >>> ((2 : Int32) &&& 31)) &&& 1) ||| ((a1 >>> ((1 : Int32) &&& 31)) &&& 1)) ^^^ 1) <<< ((1 : Int32) &&& 31))) ||| ((a1 >>> ((1 : Int32) &&& 31)) &&& 1)) <<< ((2 : Int32) &&& 31)) ||| (((((a1 >>> ((1 : Int32) &&& 31)) &&& 1) ||| ((a1 >>> ((0 : Int32) &&& 31)) &&& 1)) ^^^ 1) <<< ((1 : Int32) &&& 31))) ||| ((a1 >>> ((0 : Int32) &&& 31)) &&& 1))) (cwV 1 hts gX4_putUnchecked_X4_putWord rfl rfl rfl (by decide +kernel) ⟨Nat.le_of_ble_eq_true rfl, Nat.le_of_ble_eq_true rfl⟩) (va_recv hK hP (ci := 4) (q0 := 5) rfl rfl) hK hP hD hS hA hN rfl hl.1 rfl (Nat.le_of_ble_eq_true rfl) dX4_putUnchecked_58 ⟨Nat.zero_le _, Nat.zero_le _⟩ (fun z H locs hw hP hD hS => ?_)
  exact fk_vret hx hb hr hlk hK hP hD hS (hw.trans (Eq.symm (by rw [fX4_putUnchecked] <;> rfl))) dX4_putUnchecked_61
-- FloppyDesk$Writer.putHalfOfCheck()V
def fX4_putHalfOfCheck_25 (z : fk_C) (s0 : Int32) : fk_C :=
  (if (z.1 32) = 0 then fX4_putUnchecked (upd z.1 32 1, z.2) s0 else fX4_putUnchecked (upd z.1 32 0, z.2) s0)
def fX4_putHalfOfCheck (z0 : fk_C) : fk_C :=
  (if (z0.1 32) = 0 then fX4_putHalfOfCheck_25 z0 ((z0.1 29) >>> ((8 : Int32) &&& 31)) else fX4_putHalfOfCheck_25 z0 ((z0.1 29) &&& 255))
set_option maxHeartbeats 4000000 in
set_option maxRecDepth 100000 in
theorem c_X4_putHalfOfCheck (l : Launch) (G : va_G) (q : Nat → Nat) (k : Nat → ClassId) (sz : Nat) (z0 : fk_C) : fk_Mv l yX4_putHalfOfCheck wsX4_putHalfOfCheck ({ frames := 2, cells := 0, slots := 0, locals := 46 } : Room) G (fk_cW q k) (fk_cT k) [.ref (q 5)] sz z0 (fX4_putHalfOfCheck z0) := by
  refine fk_head (cc := cX4_putHalfOfCheck) (maxL := 2) (ret := none) (QQ := fun A => va_Qv (fun z1 => z1 = fX4_putHalfOfCheck z0) (fk_At G (fk_cW q k) (fk_cT k) A) A) (by decide) rfl (Nat.le_of_ble_eq_true rfl) ?_ sz
  intro p e s m below meth c A ls hx hb hr hlk hml hown hts hK hN hA hP hD hS hl
  have hown : s.vm.findClass RX4 = some m.cls := hown
  have F9 : CallFix p m c cX4_putHalfOfCheck 2 s ([.ref (q 5)] : List Value).toArray wsX4_putHalfOfCheck RX4 := ⟨hx, hb, hml, hown, hts⟩
  have hl : lv_has ls 2 [(0, .ref (q 5))] := hl
  have hfl_19 := hts (.fieldLink RX4 19 "FloppyDesk$Writer" "check" "I") (by decide +kernel)
  have hfl_29 := hts (.fieldLink RX4 29 "FloppyDesk$Writer" "isLowCheckDue" "Z") (by decide +kernel)
  have hi_4 : ∀ w ∈ u_ws RX4 TX4 7, w ∈ wsX4_putHalfOfCheck := by decide +kernel
  have h25 : ∀ (z : fk_C) (s0 : Int32) (H : Heap) (locs : List Loc) (ls : Array Slot), fX4_putHalfOfCheck z0 = fX4_putHalfOfCheck_25 z s0 → va_P G vwCl ((fk_cW q k) z) H → va_D A ((fk_cW q k) z) → va_S A s.heap H locs → lv_has ls 2 [(0, .ref (q 5))] → W p l e ({ frames := 2, cells := 0, slots := 0, locals := 46 } : Room) s m ([.ref (q 5)] : List Value).toArray below meth c H locs 0 0 (MQ below (va_Qv (fun z1 => z1 = fX4_putHalfOfCheck z0) (fk_At G (fk_cW q k) (fk_cT k) A) A) ([.ref (q 5)] : List Value).toArray s 0 0 A) (F0 m 25 ls [.int s0]) := by
    intro z s0 H locs ls hf  hP hD hS hl
    refine lv_istore_n (lv' := [(1, .int s0), (0, .ref (q 5))]) hx hb dX4_putHalfOfCheck_25 rfl hl (by decide) rfl (fun ls hl => ?_)
    refine lv_aload_n hx hb dX4_putHalfOfCheck_26 rfl (lv_at hl 1 rfl) ?_
    refine lv_aload_n hx hb dX4_putHalfOfCheck_27 rfl (lv_at hl 1 rfl) ?_
    refine va_get (D := G) (ci := 4) (v := .int (z.1 32)) (C := RX4) (T := TX4) (N := 7) hx hb hts hi_4 hown hK hP 5 rfl rfl 6 (by decide) hfl_29 (fun _ h9 => h9) rfl dX4_putHalfOfCheck_28 ?_
    refine lv_if_ne (tgt := 38) hx hb dX4_putHalfOfCheck_31 (by decide) (fun c31 => ?_) (fun c31 => ?_)
    · refine lv_iconst (v := 0) hx hb dX4_putHalfOfCheck_38 (by decide) ?_
      refine va_put (D := G) (ci := 4) (v := .int 0) (ty := .boolean) (C := RX4) (T := TX4) (N := 7) hx hb hts hi_4 tyX4 tyX4_ok nmX4 hown hK hP hD hS 5 rfl rfl 6 (by decide) hfl_29 (fun _ h9 => h9) rfl (by decide +kernel) rfl rfl (Nat.le_of_ble_eq_true rfl) dX4_putHalfOfCheck_39 (fun H locs hP hD hS => ?_)
      have hP : va_P G vwCl ((fk_cW q k) (upd z.1 32 0, z.2)) H := hP
      have hD : va_D A ((fk_cW q k) (upd z.1 32 0, z.2)) := hD
      refine lv_aload_n hx hb dX4_putHalfOfCheck_42 rfl (lv_at hl 1 rfl) ?_
      refine lv_iload_n hx hb dX4_putHalfOfCheck_43 rfl (lv_at hl 0 rfl) ?_
      have hl := lv_sub hl [] (l' := []) rfl
      refine fk_Vv (Wd := (fk_cW q k)) (z := (upd z.1 32 0, z.2)) (As := [.int s0]) (rest := []) F9 (c_X4_putUnchecked l G q k _ (upd z.1 32 0, z.2) s0) (cwV 1 hts gX4_putHalfOfCheck_X4_putUnchecked rfl rfl rfl (by decide +kernel) ⟨Nat.le_of_ble_eq_true rfl, Nat.le_of_ble_eq_true rfl⟩) (va_recv hK hP (ci := 4) (q0 := 5) rfl rfl) hK hP hD hS hA hN rfl hl.1 rfl (Nat.le_of_ble_eq_true rfl) dX4_putHalfOfCheck_44 ⟨Nat.zero_le _, Nat.zero_le _⟩ (fun z H locs hw hP hD hS => ?_)
      exact fk_vret hx hb hr hlk hK hP hD hS (hw.trans (Eq.symm (by rw [hf, fX4_putHalfOfCheck_25, if_neg c31] <;> rfl))) dX4_putHalfOfCheck_47
    · refine lv_iconst (v := 1) hx hb dX4_putHalfOfCheck_34 (by decide) ?_
      refine lv_goto (tgt := 39) hx hb dX4_putHalfOfCheck_35 (by decide) ?_
      refine va_put (D := G) (ci := 4) (v := .int 1) (ty := .boolean) (C := RX4) (T := TX4) (N := 7) hx hb hts hi_4 tyX4 tyX4_ok nmX4 hown hK hP hD hS 5 rfl rfl 6 (by decide) hfl_29 (fun _ h9 => h9) rfl (by decide +kernel) rfl rfl (Nat.le_of_ble_eq_true rfl) dX4_putHalfOfCheck_39 (fun H locs hP hD hS => ?_)
      have hP : va_P G vwCl ((fk_cW q k) (upd z.1 32 1, z.2)) H := hP
      have hD : va_D A ((fk_cW q k) (upd z.1 32 1, z.2)) := hD
      refine lv_aload_n hx hb dX4_putHalfOfCheck_42 rfl (lv_at hl 1 rfl) ?_
      refine lv_iload_n hx hb dX4_putHalfOfCheck_43 rfl (lv_at hl 0 rfl) ?_
      have hl := lv_sub hl [] (l' := []) rfl
      refine fk_Vv (Wd := (fk_cW q k)) (z := (upd z.1 32 1, z.2)) (As := [.int s0]) (rest := []) F9 (c_X4_putUnchecked l G q k _ (upd z.1 32 1, z.2) s0) (cwV 1 hts gX4_putHalfOfCheck_X4_putUnchecked rfl rfl rfl (by decide +kernel) ⟨Nat.le_of_ble_eq_true rfl, Nat.le_of_ble_eq_true rfl⟩) (va_recv hK hP (ci := 4) (q0 := 5) rfl rfl) hK hP hD hS hA hN rfl hl.1 rfl (Nat.le_of_ble_eq_true rfl) dX4_putHalfOfCheck_44 ⟨Nat.zero_le _, Nat.zero_le _⟩ (fun z H locs hw hP hD hS => ?_)
      exact fk_vret hx hb hr hlk hK hP hD hS (hw.trans (Eq.symm (by rw [hf, fX4_putHalfOfCheck_25, if_pos c31] <;> rfl))) dX4_putHalfOfCheck_47
  refine lv_aload_n hx hb dX4_putHalfOfCheck_0 rfl (lv_at hl 0 rfl) ?_
  refine va_get (D := G) (ci := 4) (v := .int (z0.1 32)) (C := RX4) (T := TX4) (N := 7) hx hb hts hi_4 hown hK hP 5 rfl rfl 6 (by decide) hfl_29 (fun _ h9 => h9) rfl dX4_putHalfOfCheck_1 ?_
  refine lv_if_eq (tgt := 18) hx hb dX4_putHalfOfCheck_4 (by decide) (fun c4 => ?_) (fun c4 => ?_)
  · refine lv_aload_n hx hb dX4_putHalfOfCheck_18 rfl (lv_at hl 0 rfl) ?_
    refine va_get (D := G) (ci := 4) (v := .int (z0.1 29)) (C := RX4) (T := TX4) (N := 7) hx hb hts hi_4 hown hK hP 5 rfl rfl 3 (by decide) hfl_19 (fun _ h9 => h9) rfl dX4_putHalfOfCheck_19 ?_
    refine lv_bipush (v := 8) hx hb dX4_putHalfOfCheck_22 (by decide) ?_
    refine lv_ishr hx hb dX4_putHalfOfCheck_24 ?_
    exact h25 z0 ((z0.1 29) >>> ((8 : Int32) &&& 31)) _ _ ls (by rw [fX4_putHalfOfCheck, if_pos c4] <;> rfl) hP hD hS (lv_sub hl [0] rfl)
  · refine lv_aload_n hx hb dX4_putHalfOfCheck_7 rfl (lv_at hl 0 rfl) ?_
    refine va_get (D := G) (ci := 4) (v := .int (z0.1 29)) (C := RX4) (T := TX4) (N := 7) hx hb hts hi_4 hown hK hP 5 rfl rfl 3 (by decide) hfl_19 (fun _ h9 => h9) rfl dX4_putHalfOfCheck_8 ?_
    refine lv_sipush (v := 255) hx hb dX4_putHalfOfCheck_11 (by decide) ?_
    refine lv_iand hx hb dX4_putHalfOfCheck_14 ?_
    refine lv_goto (tgt := 25) hx hb dX4_putHalfOfCheck_15 (by decide) ?_
    exact h25 z0 ((z0.1 29) &&& 255) _ _ ls (by rw [fX4_putHalfOfCheck, if_neg c4] <;> rfl) hP hD hS (lv_sub hl [0] rfl)
-- FloppyDesk$Controller.askForByte()I
def fX0_askForByte (z0 : fk_C) : Int32 × fk_C :=
  (if (fX0_has z0 2) = 0 then (z0.1 20, z0) else (0, (upd z0.1 17 ((z0.1 17) ||| 4), z0.2)))
set_option maxHeartbeats 4000000 in
set_option maxRecDepth 100000 in
theorem c_X0_askForByte (l : Launch) (G : va_G) (q : Nat → Nat) (k : Nat → ClassId) (sz : Nat) (z0 : fk_C) : fk_Mi l yX0_askForByte wsX0_askForByte ({ frames := 1, cells := 0, slots := 0, locals := 21 } : Room) G (fk_cW q k) (fk_cT k) [.ref (q 4)] sz z0 (fX0_askForByte z0) := by
  refine fk_head (cc := cX0_askForByte) (maxL := 1) (ret := (some .int)) (QQ := fun A => va_Qi (fun r z1 => (r, z1) = fX0_askForByte z0) (fk_At G (fk_cW q k) (fk_cT k) A) A) (by decide) rfl (Nat.le_of_ble_eq_true rfl) ?_ sz
  intro p e s m below meth c A ls hx hb hr hlk hml hown hts hK hN hA hP hD hS hl
  have hown : s.vm.findClass RX0 = some m.cls := hown
  have F9 : CallFix p m c cX0_askForByte 1 s ([.ref (q 4)] : List Value).toArray wsX0_askForByte RX0 := ⟨hx, hb, hml, hown, hts⟩
  have hl : lv_has ls 1 [(0, .ref (q 4))] := hl
  have hfl_30 := hts (.fieldLink RX0 30 "FloppyDesk$Controller" "status" "I") (by decide +kernel)
  have hfl_33 := hts (.fieldLink RX0 33 "FloppyDesk$Controller" "data" "I") (by decide +kernel)
  have hi_0 : ∀ w ∈ u_ws RX0 TX0 12, w ∈ wsX0_askForByte := by decide +kernel
  refine lv_aload_n hx hb dX0_askForByte_0 rfl (lv_at hl 0 rfl) ?_
  refine lv_iconst (v := 2) hx hb dX0_askForByte_1 (by decide) ?_
  refine fk_Vp (Wd := (fk_cW q k)) (z := z0) (As := [.int 2]) (rest := []) F9 (c_X0_has l G q k _ z0 2) (cwV 1 hts gX0_askForByte_X0_has rfl rfl rfl (by decide +kernel) ⟨Nat.le_of_ble_eq_true rfl, Nat.le_of_ble_eq_true rfl⟩) (va_recv hK hP (ci := 0) (q0 := 4) rfl rfl) hK hP hD hS hA hN rfl hl.1 rfl (Nat.le_of_ble_eq_true rfl) dX0_askForByte_2 ⟨Nat.zero_le _, Nat.zero_le _⟩ (fun H locs hP hD hS => ?_)
  refine lv_if_eq (tgt := 20) hx hb dX0_askForByte_5 (by decide) (fun c5 => ?_) (fun c5 => ?_)
  · refine lv_aload_n hx hb dX0_askForByte_20 rfl (lv_at hl 0 rfl) ?_
    refine va_get (D := G) (ci := 0) (v := .int (z0.1 20)) (C := RX0) (T := TX0) (N := 12) hx hb hts hi_0 hown hK hP 4 rfl rfl 6 (by decide) hfl_33 (fun _ h9 => h9) rfl dX0_askForByte_21 ?_
    exact fk_iret hx hb hr hlk hK hP hD hS rfl (Eq.symm (by rw [fX0_askForByte, if_pos c5] <;> rfl)) dX0_askForByte_24
  · refine lv_aload_n hx hb dX0_askForByte_8 rfl (lv_at hl 0 rfl) ?_
    refine lv_dup hx hb dX0_askForByte_9 rfl ?_
    refine va_get (D := G) (ci := 0) (v := .int (z0.1 17)) (C := RX0) (T := TX0) (N := 12) hx hb hts hi_0 hown hK hP 4 rfl rfl 3 (by decide) hfl_30 (fun _ h9 => h9) rfl dX0_askForByte_10 ?_
    refine lv_iconst (v := 4) hx hb dX0_askForByte_13 (by decide) ?_
    refine lv_ior hx hb dX0_askForByte_14 ?_
    refine va_put (D := G) (ci := 0) (v := .int ((z0.1 17) ||| 4)) (ty := .int) (C := RX0) (T := TX0) (N := 12) hx hb hts hi_0 tyX0 tyX0_ok nmX0 hown hK hP hD hS 4 rfl rfl 3 (by decide) hfl_30 (fun _ h9 => h9) rfl (by decide +kernel) rfl rfl (Nat.le_of_ble_eq_true rfl) dX0_askForByte_15 (fun H locs hP hD hS => ?_)
    have hP : va_P G vwCl ((fk_cW q k) (upd z0.1 17 ((z0.1 17) ||| 4), z0.2)) H := hP
    have hD : va_D A ((fk_cW q k) (upd z0.1 17 ((z0.1 17) ||| 4), z0.2)) := hD
    refine lv_iconst (v := 0) hx hb dX0_askForByte_18 (by decide) ?_
    exact fk_iret hx hb hr hlk hK hP hD hS rfl (Eq.symm (by rw [fX0_askForByte, if_neg c5] <;> rfl)) dX0_askForByte_19
-- FloppyDesk.checkWith(II)I
def fX5_checkWith_32 (kont : Int32 → Int32 → Int32) (x2 : Int32) (x3 : Int32) : Int32 :=
  kont (x2 &&& 65535) (x3 + 1)
def fX5_checkWith_9 : Nat → Int32 → Int32 → Int32
  | 0, x2, x3 => 0
  | n + 1, x2, x3 =>
  (if 8 ≤ x3 then x2 else (if ((x2 <<< ((1 : Int32) &&& 31)) &&& 65536) = 0 then fX5_checkWith_32 (fX5_checkWith_9 n) (x2 <<< ((1 : Int32) &&& 31)) x3 else fX5_checkWith_32 (fX5_checkWith_9 n) ((x2 <<< ((1 : Int32) &&& 31)) ^^^ 4129) x3))
def fX5_checkWith (a1 : Int32) (a2 : Int32) : Int32 :=
  fX5_checkWith_9 9 (a1 ^^^ (a2 <<< ((8 : Int32) &&& 31))) 0
set_option maxHeartbeats 4000000 in
set_option maxRecDepth 100000 in
theorem c_X5_checkWith (l : Launch) (G : va_G) (q : Nat → Nat) (k : Nat → ClassId) (sz : Nat) (z0 : fk_C) (a1 : Int32) (a2 : Int32) : fk_Mp l yX5_checkWith wsX5_checkWith ({ frames := 0, cells := 0, slots := 0, locals := 0 } : Room) G (fk_cW q k) (fk_cT k) [.int a1, .int a2] sz z0 (fX5_checkWith a1 a2) := by
  refine fk_head (cc := cX5_checkWith) (maxL := 4) (ret := (some .int)) (QQ := fun A => va_Qi (fun r (_ : Unit) => r = fX5_checkWith a1 a2) (fun _ => fk_At G (fk_cW q k) (fk_cT k) A z0) A) (by decide) rfl (Nat.le_of_ble_eq_true rfl) ?_ sz
  intro p e s m below meth c A ls hx hb hr hlk hml hown hts hK hN hA hP hD hS hl
  have hown : s.vm.findClass RX5 = some m.cls := hown
  have F9 : CallFix p m c cX5_checkWith 4 s ([.int a1, .int a2] : List Value).toArray wsX5_checkWith RX5 := ⟨hx, hb, hml, hown, hts⟩
  have hl : lv_has ls 4 [(0, .int a1), (1, .int a2)] := hl
  have hcst_124 := hts (.constant RX5 124 65536) (by decide +kernel)
  have hcst_125 := hts (.constant RX5 125 65535) (by decide +kernel)
  have h9 : ∀ (n : Nat) (j : Nat) (x2 : Int32) (x3 : Int32) (H : Heap) (locs : List Loc) (ls : Array Slot), fX5_checkWith a1 a2 = fX5_checkWith_9 n x2 x3 → (x3 = nI j) → (j ≤ 8) → (8 + 1 ≤ j + n) → va_P G vwCl ((fk_cW q k) z0) H → va_D A ((fk_cW q k) z0) → va_S A s.heap H locs → lv_has ls 4 [(2, .int x2), (3, .int x3)] → W p l e ({ frames := 0, cells := 0, slots := 0, locals := 0 } : Room) s m ([.int a1, .int a2] : List Value).toArray below meth c H locs 0 0 (MQ below (va_Qi (fun r (_ : Unit) => r = fX5_checkWith a1 a2) (fun _ => fk_At G (fk_cW q k) (fk_cT k) A z0) A) ([.int a1, .int a2] : List Value).toArray s 0 0 A) (F0 m 9 ls []) := by
    intro n
    induction n with
    | zero =>
      intro j x2 x3 H locs ls hf hj hjN hfu hP hD hS hl
      exact absurd hfu (by omega)
    | succ n ih =>
      intro j x2 x3 H locs ls hf hj hjN hfu hP hD hS hl
      have h32 : ∀ (x2 : Int32) (H : Heap) (locs : List Loc) (ls : Array Slot), fX5_checkWith a1 a2 = fX5_checkWith_32 (fX5_checkWith_9 n) x2 x3 → (j < 8) → va_P G vwCl ((fk_cW q k) z0) H → va_D A ((fk_cW q k) z0) → va_S A s.heap H locs → lv_has ls 4 [(2, .int x2), (3, .int x3)] → W p l e ({ frames := 0, cells := 0, slots := 0, locals := 0 } : Room) s m ([.int a1, .int a2] : List Value).toArray below meth c H locs 0 0 (MQ below (va_Qi (fun r (_ : Unit) => r = fX5_checkWith a1 a2) (fun _ => fk_At G (fk_cW q k) (fk_cT k) A z0) A) ([.int a1, .int a2] : List Value).toArray s 0 0 A) (F0 m 32 ls []) := by
        intro x2 H locs ls hf hlt hP hD hS hl
        refine lv_iload_n hx hb dX5_checkWith_32 rfl (lv_at hl 0 rfl) ?_
        refine lv_ldc (own := RX5) (v := 65535) hx hb hown hcst_125 dX5_checkWith_33 ?_
        refine lv_iand hx hb dX5_checkWith_35 ?_
        refine lv_istore_n (lv' := [(2, .int (x2 &&& 65535)), (3, .int x3)]) hx hb dX5_checkWith_36 rfl hl (by decide) rfl (fun ls hl => ?_)
        refine lv_iinc (v := x3 + 1) (lv' := [(3, .int (x3 + 1)), (2, .int (x2 &&& 65535))]) hx hb dX5_checkWith_37 hl (k := 1) rfl (by rfl) (by decide) rfl (fun ls hl => ?_)
        refine lv_goto (tgt := 9) hx hb dX5_checkWith_40 (by decide) ?_
        exact ih (j + 1) (x2 &&& 65535) (x3 + 1) _ _ ls (by rw [hf, fX5_checkWith_32] <;> rfl) (fk_up1 hj) (by omega) (by omega) hP hD hS (lv_sub hl [1, 0] rfl)
      refine lv_iload_n hx hb dX5_checkWith_9 rfl (lv_at hl 1 rfl) ?_
      refine lv_bipush (v := 8) hx hb dX5_checkWith_10 (by decide) ?_
      refine lv_icmp_ge (tgt := 43) hx hb dX5_checkWith_12 (by decide) (fun c12 => ?_) (fun c12 => ?_)
      · refine lv_iload_n hx hb dX5_checkWith_43 rfl (lv_at hl 0 rfl) ?_
        exact fk_pret hx hb hr hlk hK hP hD hS rfl (Eq.symm (by rw [hf, fX5_checkWith_9, if_pos c12] <;> rfl)) dX5_checkWith_44
      · have hlt : j < 8 := fk_up hj (by decide) (by omega) c12
        refine lv_iload_n hx hb dX5_checkWith_15 rfl (lv_at hl 0 rfl) ?_
        refine lv_iconst (v := 1) hx hb dX5_checkWith_16 (by decide) ?_
        refine lv_ishl hx hb dX5_checkWith_17 ?_
        refine lv_istore_n (lv' := [(2, .int (x2 <<< ((1 : Int32) &&& 31))), (3, .int x3)]) hx hb dX5_checkWith_18 rfl hl (by decide) rfl (fun ls hl => ?_)
        refine lv_iload_n hx hb dX5_checkWith_19 rfl (lv_at hl 0 rfl) ?_
        refine lv_ldc (own := RX5) (v := 65536) hx hb hown hcst_124 dX5_checkWith_20 ?_
        refine lv_iand hx hb dX5_checkWith_22 ?_
        refine lv_if_eq (tgt := 32) hx hb dX5_checkWith_23 (by decide) (fun c23 => ?_) (fun c23 => ?_)
        · exact h32 (x2 <<< ((1 : Int32) &&& 31)) _ _ ls (by rw [hf, fX5_checkWith_9, if_neg c12, if_pos c23] <;> rfl) hlt hP hD hS (lv_sub hl [0, 1] rfl)
        · refine lv_iload_n hx hb dX5_checkWith_26 rfl (lv_at hl 0 rfl) ?_
          refine lv_sipush (v := 4129) hx hb dX5_checkWith_27 (by decide) ?_
          refine lv_ixor hx hb dX5_checkWith_30 ?_
          refine lv_istore_n (lv' := [(2, .int ((x2 <<< ((1 : Int32) &&& 31)) ^^^ 4129)), (3, .int x3)]) hx hb dX5_checkWith_31 rfl hl (by decide) rfl (fun ls hl => ?_)
          exact h32 ((x2 <<< ((1 : Int32) &&& 31)) ^^^ 4129) _ _ ls (by rw [hf, fX5_checkWith_9, if_neg c12, if_neg c23] <;> rfl) hlt hP hD hS (lv_sub hl [0, 1] rfl)
  refine lv_iload_n hx hb dX5_checkWith_0 rfl (lv_at hl 0 rfl) ?_
  refine lv_iload_n hx hb dX5_checkWith_1 rfl (lv_at hl 1 rfl) ?_
  refine lv_bipush (v := 8) hx hb dX5_checkWith_2 (by decide) ?_
  refine lv_ishl hx hb dX5_checkWith_4 ?_
  refine lv_ixor hx hb dX5_checkWith_5 ?_
  refine lv_istore_n (lv' := [(2, .int (a1 ^^^ (a2 <<< ((8 : Int32) &&& 31)))), (0, .int a1), (1, .int a2)]) hx hb dX5_checkWith_6 rfl hl (by decide) rfl (fun ls hl => ?_)
  refine lv_iconst (v := 0) hx hb dX5_checkWith_7 (by decide) ?_
  refine lv_istore_n (lv' := [(3, .int 0), (2, .int (a1 ^^^ (a2 <<< ((8 : Int32) &&& 31)))), (0, .int a1), (1, .int a2)]) hx hb dX5_checkWith_8 rfl hl (by decide) rfl (fun ls hl => ?_)
  exact h9 9 0 (a1 ^^^ (a2 <<< ((8 : Int32) &&& 31))) 0 _ _ ls (by rw [fX5_checkWith] <;> rfl) (by decide) (by omega) (by omega) hP hD hS (lv_sub hl [1, 0] rfl)
-- FloppyDesk$Writer.putMark()V
def fX4_putMark_13 (z : fk_C) : fk_C :=
  fX4_putWord (upd (upd (upd z.1 29 (fX5_checkWith (z.1 29) 161)) 31 1) 28 1, z.2) 17545
def fX4_putMark (z0 : fk_C) : fk_C :=
  (if (z0.1 31) = 0 then fX4_putMark_13 (upd z0.1 29 65535, z0.2) else fX4_putMark_13 z0)
set_option maxHeartbeats 4000000 in
set_option maxRecDepth 100000 in
theorem c_X4_putMark (l : Launch) (G : va_G) (q : Nat → Nat) (k : Nat → ClassId) (sz : Nat) (z0 : fk_C) : fk_Mv l yX4_putMark wsX4_putMark ({ frames := 1, cells := 0, slots := 0, locals := 23 } : Room) G (fk_cW q k) (fk_cT k) [.ref (q 5)] sz z0 (fX4_putMark z0) := by
  refine fk_head (cc := cX4_putMark) (maxL := 1) (ret := none) (QQ := fun A => va_Qv (fun z1 => z1 = fX4_putMark z0) (fk_At G (fk_cW q k) (fk_cT k) A) A) (by decide) rfl (Nat.le_of_ble_eq_true rfl) ?_ sz
  intro p e s m below meth c A ls hx hb hr hlk hml hown hts hK hN hA hP hD hS hl
  have hown : s.vm.findClass RX4 = some m.cls := hown
  have F9 : CallFix p m c cX4_putMark 1 s ([.ref (q 5)] : List Value).toArray wsX4_putMark RX4 := ⟨hx, hb, hml, hown, hts⟩
  have hl : lv_has ls 1 [(0, .ref (q 5))] := hl
  have hcst_18 := hts (.constant RX4 18 65535) (by decide +kernel)
  have hfl_15 := hts (.fieldLink RX4 15 "FloppyDesk$Writer" "lastBit" "I") (by decide +kernel)
  have hfl_19 := hts (.fieldLink RX4 19 "FloppyDesk$Writer" "check" "I") (by decide +kernel)
  have hfl_25 := hts (.fieldLink RX4 25 "FloppyDesk$Writer" "isBehindMark" "Z") (by decide +kernel)
  have hi_4 : ∀ w ∈ u_ws RX4 TX4 7, w ∈ wsX4_putMark := by decide +kernel
  have h13 : ∀ (z : fk_C) (H : Heap) (locs : List Loc) (ls : Array Slot), fX4_putMark z0 = fX4_putMark_13 z  → va_P G vwCl ((fk_cW q k) z) H → va_D A ((fk_cW q k) z) → va_S A s.heap H locs → lv_has ls 1 [(0, .ref (q 5))] → W p l e ({ frames := 1, cells := 0, slots := 0, locals := 23 } : Room) s m ([.ref (q 5)] : List Value).toArray below meth c H locs 0 0 (MQ below (va_Qv (fun z1 => z1 = fX4_putMark z0) (fk_At G (fk_cW q k) (fk_cT k) A) A) ([.ref (q 5)] : List Value).toArray s 0 0 A) (F0 m 13 ls []) := by
    intro z H locs ls hf  hP hD hS hl
    refine lv_aload_n hx hb dX4_putMark_13 rfl (lv_at hl 0 rfl) ?_
    refine lv_aload_n hx hb dX4_putMark_14 rfl (lv_at hl 0 rfl) ?_
    refine va_get (D := G) (ci := 4) (v := .int (z.1 29)) (C := RX4) (T := TX4) (N := 7) hx hb hts hi_4 hown hK hP 5 rfl rfl 3 (by decide) hfl_19 (fun _ h9 => h9) rfl dX4_putMark_15 ?_
    refine lv_sipush (v := 161) hx hb dX4_putMark_18 (by decide) ?_
    refine fk_Np (Wd := (fk_cW q k)) (z := z) (As := [.int (z.1 29), .int 161]) (rest := [.ref (q 5)]) F9 (c_X5_checkWith l G q k _ z (z.1 29) 161) ⟨va_cnB 2 hts gX4_putMark_X5_checkWith_n32 rfl rfl rfl (hN.m 1 rfl) (hts (.initialized RX5) (by decide +kernel)) (by decide +kernel) ⟨Nat.le_of_ble_eq_true rfl, Nat.le_of_ble_eq_true rfl⟩, hts (.static yX5_checkWith) (by decide +kernel), trivial⟩ hK hP hD hS hA hN rfl hl.1 rfl (Nat.le_of_ble_eq_true rfl) dX4_putMark_21 ⟨Nat.zero_le _, Nat.zero_le _⟩ (fun H locs hP hD hS => ?_)
    refine va_put (D := G) (ci := 4) (v := .int (fX5_checkWith (z.1 29) 161)) (ty := .int) (C := RX4) (T := TX4) (N := 7) hx hb hts hi_4 tyX4 tyX4_ok nmX4 hown hK hP hD hS 5 rfl rfl 3 (by decide) hfl_19 (fun _ h9 => h9) rfl (by decide +kernel) rfl rfl (Nat.le_of_ble_eq_true rfl) dX4_putMark_24 (fun H locs hP hD hS => ?_)
    have hP : va_P G vwCl ((fk_cW q k) (upd z.1 29 (fX5_checkWith (z.1 29) 161), z.2)) H := hP
    have hD : va_D A ((fk_cW q k) (upd z.1 29 (fX5_checkWith (z.1 29) 161), z.2)) := hD
    refine lv_aload_n hx hb dX4_putMark_27 rfl (lv_at hl 0 rfl) ?_
    refine lv_iconst (v := 1) hx hb dX4_putMark_28 (by decide) ?_
    refine va_put (D := G) (ci := 4) (v := .int 1) (ty := .boolean) (C := RX4) (T := TX4) (N := 7) hx hb hts hi_4 tyX4 tyX4_ok nmX4 hown hK hP hD hS 5 rfl rfl 5 (by decide) hfl_25 (fun _ h9 => h9) rfl (by decide +kernel) rfl rfl (Nat.le_of_ble_eq_true rfl) dX4_putMark_29 (fun H locs hP hD hS => ?_)
    have hP : va_P G vwCl ((fk_cW q k) (upd (upd z.1 29 (fX5_checkWith (z.1 29) 161)) 31 1, z.2)) H := hP
    have hD : va_D A ((fk_cW q k) (upd (upd z.1 29 (fX5_checkWith (z.1 29) 161)) 31 1, z.2)) := hD
    refine lv_aload_n hx hb dX4_putMark_32 rfl (lv_at hl 0 rfl) ?_
    refine lv_iconst (v := 1) hx hb dX4_putMark_33 (by decide) ?_
    refine va_put (D := G) (ci := 4) (v := .int 1) (ty := .int) (C := RX4) (T := TX4) (N := 7) hx hb hts hi_4 tyX4 tyX4_ok nmX4 hown hK hP hD hS 5 rfl rfl 2 (by decide) hfl_15 (fun _ h9 => h9) rfl (by decide +kernel) rfl rfl (Nat.le_of_ble_eq_true rfl) dX4_putMark_34 (fun H locs hP hD hS => ?_)
    have hP : va_P G vwCl ((fk_cW q k) (upd (upd (upd z.1 29 (fX5_checkWith (z.1 29) 161)) 31 1) 28 1, z.2)) H := hP
    have hD : va_D A ((fk_cW q k) (upd (upd (upd z.1 29 (fX5_checkWith (z.1 29) 161)) 31 1) 28 1, z.2)) := hD
    refine lv_aload_n hx hb dX4_putMark_37 rfl (lv_at hl 0 rfl) ?_
    refine lv_sipush (v := 17545) hx hb dX4_putMark_38 (by decide) ?_
    have hl := lv_sub hl [] (l' := []) rfl
    refine fk_Vv (Wd := (fk_cW q k)) (z := (upd (upd (upd z.1 29 (fX5_checkWith (z.1 29) 161)) 31 1) 28 1, z.2)) (As := [.int 17545]) (rest := []) F9 (c_X4_putWord l G q k _ (upd (upd (upd z.1 29 (fX5_checkWith (z.1 29) 161)) 31 1) 28 1, z.2) 17545) (cwV 1 hts gX4_putMark_X4_putWord rfl rfl rfl (by decide +kernel) ⟨Nat.le_of_ble_eq_true rfl, Nat.le_of_ble_eq_true rfl⟩) (va_recv hK hP (ci := 4) (q0 := 5) rfl rfl) hK hP hD hS hA hN rfl hl.1 rfl (Nat.le_of_ble_eq_true rfl) dX4_putMark_41 ⟨Nat.zero_le _, Nat.zero_le _⟩ (fun z H locs hw hP hD hS => ?_)
    exact fk_vret hx hb hr hlk hK hP hD hS (hw.trans (Eq.symm (by rw [hf, fX4_putMark_13] <;> rfl))) dX4_putMark_44
  refine lv_aload_n hx hb dX4_putMark_0 rfl (lv_at hl 0 rfl) ?_
  refine va_get (D := G) (ci := 4) (v := .int (z0.1 31)) (C := RX4) (T := TX4) (N := 7) hx hb hts hi_4 hown hK hP 5 rfl rfl 5 (by decide) hfl_25 (fun _ h9 => h9) rfl dX4_putMark_1 ?_
  refine lv_if_ne (tgt := 13) hx hb dX4_putMark_4 (by decide) (fun c4 => ?_) (fun c4 => ?_)
  · exact h13 z0 _ _ ls (by rw [fX4_putMark, if_neg c4] <;> rfl) hP hD hS (lv_sub hl [0] rfl)
  · refine lv_aload_n hx hb dX4_putMark_7 rfl (lv_at hl 0 rfl) ?_
    refine lv_ldc (own := RX4) (v := 65535) hx hb hown hcst_18 dX4_putMark_8 ?_
    refine va_put (D := G) (ci := 4) (v := .int 65535) (ty := .int) (C := RX4) (T := TX4) (N := 7) hx hb hts hi_4 tyX4 tyX4_ok nmX4 hown hK hP hD hS 5 rfl rfl 3 (by decide) hfl_19 (fun _ h9 => h9) rfl (by decide +kernel) rfl rfl (Nat.le_of_ble_eq_true rfl) dX4_putMark_10 (fun H locs hP hD hS => ?_)
    have hP : va_P G vwCl ((fk_cW q k) (upd z0.1 29 65535, z0.2)) H := hP
    have hD : va_D A ((fk_cW q k) (upd z0.1 29 65535, z0.2)) := hD
    exact h13 (upd z0.1 29 65535, z0.2) _ _ ls (by rw [fX4_putMark, if_pos c4] <;> rfl) hP hD hS (lv_sub hl [0] rfl)
-- FloppyDesk$Writer.putByte(I)V
def fX4_putByte (z0 : fk_C) (a1 : Int32) : fk_C :=
  fX4_putUnchecked (upd z0.1 29 (fX5_checkWith (z0.1 29) a1), z0.2) a1
set_option maxHeartbeats 4000000 in
set_option maxRecDepth 100000 in
theorem c_X4_putByte (l : Launch) (G : va_G) (q : Nat → Nat) (k : Nat → ClassId) (sz : Nat) (z0 : fk_C) (a1 : Int32) : fk_Mv l yX4_putByte wsX4_putByte ({ frames := 2, cells := 0, slots := 0, locals := 46 } : Room) G (fk_cW q k) (fk_cT k) [.ref (q 5), .int a1] sz z0 (fX4_putByte z0 a1) := by
  refine fk_head (cc := cX4_putByte) (maxL := 2) (ret := none) (QQ := fun A => va_Qv (fun z1 => z1 = fX4_putByte z0 a1) (fk_At G (fk_cW q k) (fk_cT k) A) A) (by decide) rfl (Nat.le_of_ble_eq_true rfl) ?_ sz
  intro p e s m below meth c A ls hx hb hr hlk hml hown hts hK hN hA hP hD hS hl
  have hown : s.vm.findClass RX4 = some m.cls := hown
  have F9 : CallFix p m c cX4_putByte 2 s ([.ref (q 5), .int a1] : List Value).toArray wsX4_putByte RX4 := ⟨hx, hb, hml, hown, hts⟩
  have hl : lv_has ls 2 [(0, .ref (q 5)), (1, .int a1)] := hl
  have hfl_19 := hts (.fieldLink RX4 19 "FloppyDesk$Writer" "check" "I") (by decide +kernel)
  have hi_4 : ∀ w ∈ u_ws RX4 TX4 7, w ∈ wsX4_putByte := by decide +kernel
  refine lv_aload_n hx hb dX4_putByte_0 rfl (lv_at hl 0 rfl) ?_
  refine lv_aload_n hx hb dX4_putByte_1 rfl (lv_at hl 0 rfl) ?_
  refine va_get (D := G) (ci := 4) (v := .int (z0.1 29)) (C := RX4) (T := TX4) (N := 7) hx hb hts hi_4 hown hK hP 5 rfl rfl 3 (by decide) hfl_19 (fun _ h9 => h9) rfl dX4_putByte_2 ?_
  refine lv_iload_n hx hb dX4_putByte_5 rfl (lv_at hl 1 rfl) ?_
  refine fk_Np (Wd := (fk_cW q k)) (z := z0) (As := [.int (z0.1 29), .int a1]) (rest := [.ref (q 5)]) F9 (c_X5_checkWith l G q k _ z0 (z0.1 29) a1) ⟨va_cnB 2 hts gX4_putByte_X5_checkWith_n32 rfl rfl rfl (hN.m 1 rfl) (hts (.initialized RX5) (by decide +kernel)) (by decide +kernel) ⟨Nat.le_of_ble_eq_true rfl, Nat.le_of_ble_eq_true rfl⟩, hts (.static yX5_checkWith) (by decide +kernel), trivial⟩ hK hP hD hS hA hN rfl hl.1 rfl (Nat.le_of_ble_eq_true rfl) dX4_putByte_6 ⟨Nat.zero_le _, Nat.zero_le _⟩ (fun H locs hP hD hS => ?_)
  refine va_put (D := G) (ci := 4) (v := .int (fX5_checkWith (z0.1 29) a1)) (ty := .int) (C := RX4) (T := TX4) (N := 7) hx hb hts hi_4 tyX4 tyX4_ok nmX4 hown hK hP hD hS 5 rfl rfl 3 (by decide) hfl_19 (fun _ h9 => h9) rfl (by decide +kernel) rfl rfl (Nat.le_of_ble_eq_true rfl) dX4_putByte_9 (fun H locs hP hD hS => ?_)
  have hP : va_P G vwCl ((fk_cW q k) (upd z0.1 29 (fX5_checkWith (z0.1 29) a1), z0.2)) H := hP
  have hD : va_D A ((fk_cW q k) (upd z0.1 29 (fX5_checkWith (z0.1 29) a1), z0.2)) := hD
  refine lv_aload_n hx hb dX4_putByte_12 rfl (lv_at hl 0 rfl) ?_
  refine lv_iload_n hx hb dX4_putByte_13 rfl (lv_at hl 1 rfl) ?_
  have hl := lv_sub hl [] (l' := []) rfl
  refine fk_Vv (Wd := (fk_cW q k)) (z := (upd z0.1 29 (fX5_checkWith (z0.1 29) a1), z0.2)) (As := [.int a1]) (rest := []) F9 (c_X4_putUnchecked l G q k _ (upd z0.1 29 (fX5_checkWith (z0.1 29) a1), z0.2) a1) (cwV 1 hts gX4_putByte_X4_putUnchecked rfl rfl rfl (by decide +kernel) ⟨Nat.le_of_ble_eq_true rfl, Nat.le_of_ble_eq_true rfl⟩) (va_recv hK hP (ci := 4) (q0 := 5) rfl rfl) hK hP hD hS hA hN rfl hl.1 rfl (Nat.le_of_ble_eq_true rfl) dX4_putByte_14 ⟨Nat.zero_le _, Nat.zero_le _⟩ (fun z H locs hw hP hD hS => ?_)
  exact fk_vret hx hb hr hlk hK hP hD hS (hw.trans (Eq.symm (by rw [fX4_putByte] <;> rfl))) dX4_putByte_17
-- FloppyDesk$Controller.putNextOfTrack()V
def fX0_putNextOfTrack_c1 (z : fk_C) (r19 : Int32) : fk_C :=
  (if r19 = 245 then fX4_putMark (upd z.1 17 ((z.1 17) ||| 2), z.2) else (if r19 = 247 then fX4_putHalfOfCheck (upd z.1 17 ((z.1 17) ||| 2), z.2) else fX4_putByte (upd z.1 17 ((z.1 17) ||| 2), z.2) r19))
def fX0_putNextOfTrack (z0 : fk_C) : fk_C :=
  (if (z0.1 32) = 0 then fX0_putNextOfTrack_c1 ((fX0_askForByte z0).2) (fX0_askForByte z0).1 else fX4_putHalfOfCheck z0)
set_option maxHeartbeats 4000000 in
set_option maxRecDepth 100000 in
theorem c_X0_putNextOfTrack (l : Launch) (G : va_G) (q : Nat → Nat) (k : Nat → ClassId) (sz : Nat) (z0 : fk_C) : fk_Mv l yX0_putNextOfTrack wsX0_putNextOfTrack ({ frames := 3, cells := 0, slots := 0, locals := 67 } : Room) G (fk_cW q k) (fk_cT k) [.ref (q 4)] sz z0 (fX0_putNextOfTrack z0) := by
  refine fk_head (cc := cX0_putNextOfTrack) (maxL := 2) (ret := none) (QQ := fun A => va_Qv (fun z1 => z1 = fX0_putNextOfTrack z0) (fk_At G (fk_cW q k) (fk_cT k) A) A) (by decide) rfl (Nat.le_of_ble_eq_true rfl) ?_ sz
  intro p e s m below meth c A ls hx hb hr hlk hml hown hts hK hN hA hP hD hS hl
  have hown : s.vm.findClass RX0 = some m.cls := hown
  have F9 : CallFix p m c cX0_putNextOfTrack 2 s ([.ref (q 4)] : List Value).toArray wsX0_putNextOfTrack RX0 := ⟨hx, hb, hml, hown, hts⟩
  have hl : lv_has ls 2 [(0, .ref (q 4))] := hl
  have hfl_22 := hts (.fieldLink RX0 22 "FloppyDesk$Controller" "writer" "LFloppyDesk$Writer;") (by decide +kernel)
  have hfl_30 := hts (.fieldLink RX0 30 "FloppyDesk$Controller" "status" "I") (by decide +kernel)
  have hi_0 : ∀ w ∈ u_ws RX0 TX0 12, w ∈ wsX0_putNextOfTrack := by decide +kernel
  have hi_4 : ∀ w ∈ u_ws RX4 TX4 7, w ∈ wsX0_putNextOfTrack := by decide +kernel
  refine lv_aload_n hx hb dX0_putNextOfTrack_0 rfl (lv_at hl 0 rfl) ?_
  refine va_get (D := G) (ci := 0) (v := .ref (q 5)) (C := RX0) (T := TX0) (N := 12) hx hb hts hi_0 hown hK hP 4 rfl rfl 2 (by decide) hfl_22 (fun _ h9 => h9) rfl dX0_putNextOfTrack_1 ?_
  refine va_getN (D := G) (ci := 4) (v := .int (z0.1 32)) (C := RX4) (T := TX4) (N := 7) hx hb hts hi_4 hown hK hP 5 rfl rfl 6 (by decide) (hN.f 9 rfl) (fun _ h9 => h9) rfl dX0_putNextOfTrack_4 ?_
  refine lv_if_eq (tgt := 18) hx hb dX0_putNextOfTrack_7 (by decide) (fun c7 => ?_) (fun c7 => ?_)
  · refine lv_aload_n hx hb dX0_putNextOfTrack_18 rfl (lv_at hl 0 rfl) ?_
    refine fk_Vi (Wd := (fk_cW q k)) (z := z0) (As := []) (rest := []) F9 (c_X0_askForByte l G q k _ z0) (cwV 0 hts gX0_putNextOfTrack_X0_askForByte rfl rfl rfl (by decide +kernel) ⟨Nat.le_of_ble_eq_true rfl, Nat.le_of_ble_eq_true rfl⟩) (va_recv hK hP (ci := 0) (q0 := 4) rfl rfl) hK hP hD hS hA hN rfl hl.1 rfl (Nat.le_of_ble_eq_true rfl) dX0_putNextOfTrack_19 ⟨Nat.zero_le _, Nat.zero_le _⟩ (fun r19 z H locs hw hP hD hS => ?_)
    have hf : fX0_putNextOfTrack z0 = fX0_putNextOfTrack_c1 z r19 := by rw [fX0_putNextOfTrack, if_pos c7, ← hw] <;> rfl
    refine lv_istore_n (lv' := [(1, .int r19), (0, .ref (q 4))]) hx hb dX0_putNextOfTrack_22 rfl hl (by decide) rfl (fun ls hl => ?_)
    refine lv_aload_n hx hb dX0_putNextOfTrack_23 rfl (lv_at hl 1 rfl) ?_
    refine lv_dup hx hb dX0_putNextOfTrack_24 rfl ?_
    refine va_get (D := G) (ci := 0) (v := .int (z.1 17)) (C := RX0) (T := TX0) (N := 12) hx hb hts hi_0 hown hK hP 4 rfl rfl 3 (by decide) hfl_30 (fun _ h9 => h9) rfl dX0_putNextOfTrack_25 ?_
    refine lv_iconst (v := 2) hx hb dX0_putNextOfTrack_28 (by decide) ?_
    refine lv_ior hx hb dX0_putNextOfTrack_29 ?_
    refine va_put (D := G) (ci := 0) (v := .int ((z.1 17) ||| 2)) (ty := .int) (C := RX0) (T := TX0) (N := 12) hx hb hts hi_0 tyX0 tyX0_ok nmX0 hown hK hP hD hS 4 rfl rfl 3 (by decide) hfl_30 (fun _ h9 => h9) rfl (by decide +kernel) rfl rfl (Nat.le_of_ble_eq_true rfl) dX0_putNextOfTrack_30 (fun H locs hP hD hS => ?_)
    have hP : va_P G vwCl ((fk_cW q k) (upd z.1 17 ((z.1 17) ||| 2), z.2)) H := hP
    have hD : va_D A ((fk_cW q k) (upd z.1 17 ((z.1 17) ||| 2), z.2)) := hD
    refine lv_iload_n hx hb dX0_putNextOfTrack_33 rfl (lv_at hl 0 rfl) ?_
    refine lv_sipush (v := 245) hx hb dX0_putNextOfTrack_34 (by decide) ?_
    refine lv_icmp_ne (tgt := 50) hx hb dX0_putNextOfTrack_37 (by decide) (fun c37 => ?_) (fun c37 => ?_)
    · refine lv_iload_n hx hb dX0_putNextOfTrack_50 rfl (lv_at hl 0 rfl) ?_
      refine lv_sipush (v := 247) hx hb dX0_putNextOfTrack_51 (by decide) ?_
      refine lv_icmp_ne (tgt := 67) hx hb dX0_putNextOfTrack_54 (by decide) (fun c54 => ?_) (fun c54 => ?_)
      · refine lv_aload_n hx hb dX0_putNextOfTrack_67 rfl (lv_at hl 1 rfl) ?_
        refine va_get (D := G) (ci := 0) (v := .ref (q 5)) (C := RX0) (T := TX0) (N := 12) hx hb hts hi_0 hown hK hP 4 rfl rfl 2 (by decide) hfl_22 (fun _ h9 => h9) rfl dX0_putNextOfTrack_68 ?_
        refine lv_iload_n hx hb dX0_putNextOfTrack_71 rfl (lv_at hl 0 rfl) ?_
        have hl := lv_sub hl [] (l' := []) rfl
        refine fk_Vv (Wd := (fk_cW q k)) (z := (upd z.1 17 ((z.1 17) ||| 2), z.2)) (As := [.int r19]) (rest := []) F9 (c_X4_putByte l G q k _ (upd z.1 17 ((z.1 17) ||| 2), z.2) r19) (cwV 1 hts gX0_putNextOfTrack_X4_putByte rfl rfl rfl (by decide +kernel) ⟨Nat.le_of_ble_eq_true rfl, Nat.le_of_ble_eq_true rfl⟩) (va_recv hK hP (ci := 4) (q0 := 5) rfl rfl) hK hP hD hS hA hN rfl hl.1 rfl (Nat.le_of_ble_eq_true rfl) dX0_putNextOfTrack_72 ⟨Nat.zero_le _, Nat.zero_le _⟩ (fun z H locs hw hP hD hS => ?_)
        exact fk_vret hx hb hr hlk hK hP hD hS (hw.trans (Eq.symm (by rw [hf, fX0_putNextOfTrack_c1, if_neg c37, if_neg c54] <;> rfl))) dX0_putNextOfTrack_75
      · refine lv_aload_n hx hb dX0_putNextOfTrack_57 rfl (lv_at hl 1 rfl) ?_
        refine va_get (D := G) (ci := 0) (v := .ref (q 5)) (C := RX0) (T := TX0) (N := 12) hx hb hts hi_0 hown hK hP 4 rfl rfl 2 (by decide) hfl_22 (fun _ h9 => h9) rfl dX0_putNextOfTrack_58 ?_
        have hl := lv_sub hl [] (l' := []) rfl
        refine fk_Vv (Wd := (fk_cW q k)) (z := (upd z.1 17 ((z.1 17) ||| 2), z.2)) (As := []) (rest := []) F9 (c_X4_putHalfOfCheck l G q k _ (upd z.1 17 ((z.1 17) ||| 2), z.2)) (cwV 0 hts gX0_putNextOfTrack_X4_putHalfOfCheck rfl rfl rfl (by decide +kernel) ⟨Nat.le_of_ble_eq_true rfl, Nat.le_of_ble_eq_true rfl⟩) (va_recv hK hP (ci := 4) (q0 := 5) rfl rfl) hK hP hD hS hA hN rfl hl.1 rfl (Nat.le_of_ble_eq_true rfl) dX0_putNextOfTrack_61 ⟨Nat.zero_le _, Nat.zero_le _⟩ (fun z H locs hw hP hD hS => ?_)
        refine lv_goto (tgt := 75) hx hb dX0_putNextOfTrack_64 (by decide) ?_
        exact fk_vret hx hb hr hlk hK hP hD hS (hw.trans (Eq.symm (by rw [hf, fX0_putNextOfTrack_c1, if_neg c37, if_pos c54] <;> rfl))) dX0_putNextOfTrack_75
    · refine lv_aload_n hx hb dX0_putNextOfTrack_40 rfl (lv_at hl 1 rfl) ?_
      refine va_get (D := G) (ci := 0) (v := .ref (q 5)) (C := RX0) (T := TX0) (N := 12) hx hb hts hi_0 hown hK hP 4 rfl rfl 2 (by decide) hfl_22 (fun _ h9 => h9) rfl dX0_putNextOfTrack_41 ?_
      have hl := lv_sub hl [] (l' := []) rfl
      refine fk_Vv (Wd := (fk_cW q k)) (z := (upd z.1 17 ((z.1 17) ||| 2), z.2)) (As := []) (rest := []) F9 (c_X4_putMark l G q k _ (upd z.1 17 ((z.1 17) ||| 2), z.2)) (cwV 0 hts gX0_putNextOfTrack_X4_putMark rfl rfl rfl (by decide +kernel) ⟨Nat.le_of_ble_eq_true rfl, Nat.le_of_ble_eq_true rfl⟩) (va_recv hK hP (ci := 4) (q0 := 5) rfl rfl) hK hP hD hS hA hN rfl hl.1 rfl (Nat.le_of_ble_eq_true rfl) dX0_putNextOfTrack_44 ⟨Nat.zero_le _, Nat.zero_le _⟩ (fun z H locs hw hP hD hS => ?_)
      refine lv_goto (tgt := 75) hx hb dX0_putNextOfTrack_47 (by decide) ?_
      exact fk_vret hx hb hr hlk hK hP hD hS (hw.trans (Eq.symm (by rw [hf, fX0_putNextOfTrack_c1, if_pos c37] <;> rfl))) dX0_putNextOfTrack_75
  · refine lv_aload_n hx hb dX0_putNextOfTrack_10 rfl (lv_at hl 0 rfl) ?_
    refine va_get (D := G) (ci := 0) (v := .ref (q 5)) (C := RX0) (T := TX0) (N := 12) hx hb hts hi_0 hown hK hP 4 rfl rfl 2 (by decide) hfl_22 (fun _ h9 => h9) rfl dX0_putNextOfTrack_11 ?_
    have hl := lv_sub hl [] (l' := []) rfl
    refine fk_Vv (Wd := (fk_cW q k)) (z := z0) (As := []) (rest := []) F9 (c_X4_putHalfOfCheck l G q k _ z0) (cwV 0 hts gX0_putNextOfTrack_X4_putHalfOfCheck rfl rfl rfl (by decide +kernel) ⟨Nat.le_of_ble_eq_true rfl, Nat.le_of_ble_eq_true rfl⟩) (va_recv hK hP (ci := 4) (q0 := 5) rfl rfl) hK hP hD hS hA hN rfl hl.1 rfl (Nat.le_of_ble_eq_true rfl) dX0_putNextOfTrack_14 ⟨Nat.zero_le _, Nat.zero_le _⟩ (fun z H locs hw hP hD hS => ?_)
    exact fk_vret hx hb hr hlk hK hP hD hS (hw.trans (Eq.symm (by rw [fX0_putNextOfTrack, if_neg c7] <;> rfl))) dX0_putNextOfTrack_17
-- FloppyDesk$Controller.putNextOfSector()V
def fX0_putNextOfSector_c2 (z : fk_C) (y93_x2 : Int32) (y93_x1 : Int32) : fk_C :=
  (if (y93_x2 - 1) ≤ y93_x1 then z else (upd z.1 17 ((z.1 17) ||| 2), z.2))
def fX0_putNextOfSector_c1 (z : fk_C) (r93 : Int32) (y93_x2 : Int32) (y93_x1 : Int32) : fk_C :=
  fX0_putNextOfSector_c2 (fX4_putByte z r93) y93_x2 y93_x1
def fX0_putNextOfSector (z0 : fk_C) : fk_C :=
  (if 4 ≤ (z0.1 30) then (if 7 ≤ (z0.1 30) then (if 8 ≤ (z0.1 30) then (if (8 + (z0.1 16)) ≤ (z0.1 30) then (if ((8 + (z0.1 16)) + 2) ≤ (z0.1 30) then fX4_putByte z0 78 else fX4_putHalfOfCheck z0) else fX0_putNextOfSector_c1 ((fX0_askForByte z0).2) (fX0_askForByte z0).1 (8 + (z0.1 16)) (z0.1 30)) else (if (z0.1 22) = 0 then fX4_putByte z0 251 else fX4_putByte z0 248)) else fX4_putMark z0) else fX4_putByte z0 0)
set_option maxHeartbeats 4000000 in
set_option maxRecDepth 100000 in
theorem c_X0_putNextOfSector (l : Launch) (G : va_G) (q : Nat → Nat) (k : Nat → ClassId) (sz : Nat) (z0 : fk_C) : fk_Mv l yX0_putNextOfSector wsX0_putNextOfSector ({ frames := 3, cells := 0, slots := 0, locals := 67 } : Room) G (fk_cW q k) (fk_cT k) [.ref (q 4)] sz z0 (fX0_putNextOfSector z0) := by
  refine fk_head (cc := cX0_putNextOfSector) (maxL := 3) (ret := none) (QQ := fun A => va_Qv (fun z1 => z1 = fX0_putNextOfSector z0) (fk_At G (fk_cW q k) (fk_cT k) A) A) (by decide) rfl (Nat.le_of_ble_eq_true rfl) ?_ sz
  intro p e s m below meth c A ls hx hb hr hlk hml hown hts hK hN hA hP hD hS hl
  have hown : s.vm.findClass RX0 = some m.cls := hown
  have F9 : CallFix p m c cX0_putNextOfSector 3 s ([.ref (q 4)] : List Value).toArray wsX0_putNextOfSector RX0 := ⟨hx, hb, hml, hown, hts⟩
  have hl : lv_has ls 3 [(0, .ref (q 4))] := hl
  have hfl_15 := hts (.fieldLink RX0 15 "FloppyDesk$Controller" "reader" "LFloppyDesk$Reader;") (by decide +kernel)
  have hfl_22 := hts (.fieldLink RX0 22 "FloppyDesk$Controller" "writer" "LFloppyDesk$Writer;") (by decide +kernel)
  have hfl_30 := hts (.fieldLink RX0 30 "FloppyDesk$Controller" "status" "I") (by decide +kernel)
  have hfl_40 := hts (.fieldLink RX0 40 "FloppyDesk$Controller" "writesDeleted" "Z") (by decide +kernel)
  have hi_0 : ∀ w ∈ u_ws RX0 TX0 12, w ∈ wsX0_putNextOfSector := by decide +kernel
  have hi_2 : ∀ w ∈ u_ws RX2 TX2 14, w ∈ wsX0_putNextOfSector := by decide +kernel
  have hi_4 : ∀ w ∈ u_ws RX4 TX4 7, w ∈ wsX0_putNextOfSector := by decide +kernel
  refine lv_aload_n hx hb dX0_putNextOfSector_0 rfl (lv_at hl 0 rfl) ?_
  refine va_get (D := G) (ci := 0) (v := .ref (q 5)) (C := RX0) (T := TX0) (N := 12) hx hb hts hi_0 hown hK hP 4 rfl rfl 2 (by decide) hfl_22 (fun _ h9 => h9) rfl dX0_putNextOfSector_1 ?_
  refine va_getN (D := G) (ci := 4) (v := .int (z0.1 30)) (C := RX4) (T := TX4) (N := 7) hx hb hts hi_4 hown hK hP 5 rfl rfl 4 (by decide) (hN.f 7 rfl) (fun _ h9 => h9) rfl dX0_putNextOfSector_4 ?_
  refine lv_istore_n (lv' := [(1, .int (z0.1 30)), (0, .ref (q 4))]) hx hb dX0_putNextOfSector_7 rfl hl (by decide) rfl (fun ls hl => ?_)
  refine lv_bipush (v := 8) hx hb dX0_putNextOfSector_8 (by decide) ?_
  refine lv_aload_n hx hb dX0_putNextOfSector_10 rfl (lv_at hl 1 rfl) ?_
  refine va_get (D := G) (ci := 0) (v := .ref (q 3)) (C := RX0) (T := TX0) (N := 12) hx hb hts hi_0 hown hK hP 4 rfl rfl 1 (by decide) hfl_15 (fun _ h9 => h9) rfl dX0_putNextOfSector_11 ?_
  refine va_getN (D := G) (ci := 2) (v := .int (z0.1 16)) (C := RX2) (T := TX2) (N := 14) hx hb hts hi_2 hown hK hP 3 rfl rfl 13 (by decide) (hN.f 8 rfl) (fun _ h9 => h9) rfl dX0_putNextOfSector_14 ?_
  refine lv_iadd hx hb dX0_putNextOfSector_17 ?_
  refine lv_istore_n (lv' := [(2, .int (8 + (z0.1 16))), (1, .int (z0.1 30)), (0, .ref (q 4))]) hx hb dX0_putNextOfSector_18 rfl hl (by decide) rfl (fun ls hl => ?_)
  refine lv_iload_n hx hb dX0_putNextOfSector_19 rfl (lv_at hl 1 rfl) ?_
  refine lv_iconst (v := 4) hx hb dX0_putNextOfSector_20 (by decide) ?_
  refine lv_icmp_ge (tgt := 35) hx hb dX0_putNextOfSector_21 (by decide) (fun c21 => ?_) (fun c21 => ?_)
  · refine lv_iload_n hx hb dX0_putNextOfSector_35 rfl (lv_at hl 1 rfl) ?_
    refine lv_bipush (v := 7) hx hb dX0_putNextOfSector_36 (by decide) ?_
    refine lv_icmp_ge (tgt := 51) hx hb dX0_putNextOfSector_38 (by decide) (fun c38 => ?_) (fun c38 => ?_)
    · refine lv_iload_n hx hb dX0_putNextOfSector_51 rfl (lv_at hl 1 rfl) ?_
      refine lv_bipush (v := 8) hx hb dX0_putNextOfSector_52 (by decide) ?_
      refine lv_icmp_ge (tgt := 83) hx hb dX0_putNextOfSector_54 (by decide) (fun c54 => ?_) (fun c54 => ?_)
      · refine lv_iload_n hx hb dX0_putNextOfSector_83 rfl (lv_at hl 1 rfl) ?_
        refine lv_iload_n hx hb dX0_putNextOfSector_84 rfl (lv_at hl 0 rfl) ?_
        refine lv_icmp_ge (tgt := 119) hx hb dX0_putNextOfSector_85 (by decide) (fun c85 => ?_) (fun c85 => ?_)
        · refine lv_iload_n hx hb dX0_putNextOfSector_119 rfl (lv_at hl 1 rfl) ?_
          refine lv_iload_n hx hb dX0_putNextOfSector_120 rfl (lv_at hl 0 rfl) ?_
          refine lv_iconst (v := 2) hx hb dX0_putNextOfSector_121 (by decide) ?_
          refine lv_iadd hx hb dX0_putNextOfSector_122 ?_
          refine lv_icmp_ge (tgt := 136) hx hb dX0_putNextOfSector_123 (by decide) (fun c123 => ?_) (fun c123 => ?_)
          · refine lv_aload_n hx hb dX0_putNextOfSector_136 rfl (lv_at hl 2 rfl) ?_
            refine va_get (D := G) (ci := 0) (v := .ref (q 5)) (C := RX0) (T := TX0) (N := 12) hx hb hts hi_0 hown hK hP 4 rfl rfl 2 (by decide) hfl_22 (fun _ h9 => h9) rfl dX0_putNextOfSector_137 ?_
            refine lv_bipush (v := 78) hx hb dX0_putNextOfSector_140 (by decide) ?_
            have hl := lv_sub hl [] (l' := []) rfl
            refine fk_Vv (Wd := (fk_cW q k)) (z := z0) (As := [.int 78]) (rest := []) F9 (c_X4_putByte l G q k _ z0 78) (cwV 1 hts gX0_putNextOfSector_X4_putByte rfl rfl rfl (by decide +kernel) ⟨Nat.le_of_ble_eq_true rfl, Nat.le_of_ble_eq_true rfl⟩) (va_recv hK hP (ci := 4) (q0 := 5) rfl rfl) hK hP hD hS hA hN rfl hl.1 rfl (Nat.le_of_ble_eq_true rfl) dX0_putNextOfSector_142 ⟨Nat.zero_le _, Nat.zero_le _⟩ (fun z H locs hw hP hD hS => ?_)
            exact fk_vret hx hb hr hlk hK hP hD hS (hw.trans (Eq.symm (by rw [fX0_putNextOfSector, if_pos c21, if_pos c38, if_pos c54, if_pos c85, if_pos c123] <;> rfl))) dX0_putNextOfSector_145
          · refine lv_aload_n hx hb dX0_putNextOfSector_126 rfl (lv_at hl 2 rfl) ?_
            refine va_get (D := G) (ci := 0) (v := .ref (q 5)) (C := RX0) (T := TX0) (N := 12) hx hb hts hi_0 hown hK hP 4 rfl rfl 2 (by decide) hfl_22 (fun _ h9 => h9) rfl dX0_putNextOfSector_127 ?_
            have hl := lv_sub hl [] (l' := []) rfl
            refine fk_Vv (Wd := (fk_cW q k)) (z := z0) (As := []) (rest := []) F9 (c_X4_putHalfOfCheck l G q k _ z0) (cwV 0 hts gX0_putNextOfSector_X4_putHalfOfCheck rfl rfl rfl (by decide +kernel) ⟨Nat.le_of_ble_eq_true rfl, Nat.le_of_ble_eq_true rfl⟩) (va_recv hK hP (ci := 4) (q0 := 5) rfl rfl) hK hP hD hS hA hN rfl hl.1 rfl (Nat.le_of_ble_eq_true rfl) dX0_putNextOfSector_130 ⟨Nat.zero_le _, Nat.zero_le _⟩ (fun z H locs hw hP hD hS => ?_)
            refine lv_goto (tgt := 145) hx hb dX0_putNextOfSector_133 (by decide) ?_
            exact fk_vret hx hb hr hlk hK hP hD hS (hw.trans (Eq.symm (by rw [fX0_putNextOfSector, if_pos c21, if_pos c38, if_pos c54, if_pos c85, if_neg c123] <;> rfl))) dX0_putNextOfSector_145
        · refine lv_aload_n hx hb dX0_putNextOfSector_88 rfl (lv_at hl 2 rfl) ?_
          refine va_get (D := G) (ci := 0) (v := .ref (q 5)) (C := RX0) (T := TX0) (N := 12) hx hb hts hi_0 hown hK hP 4 rfl rfl 2 (by decide) hfl_22 (fun _ h9 => h9) rfl dX0_putNextOfSector_89 ?_
          refine lv_aload_n hx hb dX0_putNextOfSector_92 rfl (lv_at hl 2 rfl) ?_
          obtain ⟨y93_x2, ey93_x2⟩ : ∃ y9 : Int32, y9 = 8 + (z0.1 16) := ⟨_, rfl⟩
          obtain ⟨y93_x1, ey93_x1⟩ : ∃ y9 : Int32, y9 = z0.1 30 := ⟨_, rfl⟩
          have hl : lv_has ls 3 [(2, .int y93_x2), (1, .int y93_x1), (0, .ref (q 4))] := by rw [ey93_x2, ey93_x1]; exact hl
          refine fk_Vi (Wd := (fk_cW q k)) (z := z0) (As := []) (rest := [.ref (q 5)]) F9 (c_X0_askForByte l G q k _ z0) (cwV 0 hts gX0_putNextOfSector_X0_askForByte rfl rfl rfl (by decide +kernel) ⟨Nat.le_of_ble_eq_true rfl, Nat.le_of_ble_eq_true rfl⟩) (va_recv hK hP (ci := 0) (q0 := 4) rfl rfl) hK hP hD hS hA hN rfl hl.1 rfl (Nat.le_of_ble_eq_true rfl) dX0_putNextOfSector_93 ⟨Nat.zero_le _, Nat.zero_le _⟩ (fun r93 z H locs hw hP hD hS => ?_)
          have hf : fX0_putNextOfSector z0 = fX0_putNextOfSector_c1 z r93 y93_x2 y93_x1 := by rw [ey93_x2, ey93_x1, fX0_putNextOfSector, if_pos c21, if_pos c38, if_pos c54, if_neg c85, ← hw] <;> rfl
          refine fk_Vv (Wd := (fk_cW q k)) (z := z) (As := [.int r93]) (rest := []) F9 (c_X4_putByte l G q k _ z r93) (cwV 1 hts gX0_putNextOfSector_X4_putByte rfl rfl rfl (by decide +kernel) ⟨Nat.le_of_ble_eq_true rfl, Nat.le_of_ble_eq_true rfl⟩) (va_recv hK hP (ci := 4) (q0 := 5) rfl rfl) hK hP hD hS hA hN rfl hl.1 rfl (Nat.le_of_ble_eq_true rfl) dX0_putNextOfSector_96 ⟨Nat.zero_le _, Nat.zero_le _⟩ (fun z H locs hw hP hD hS => ?_)
          have hf : fX0_putNextOfSector z0 = fX0_putNextOfSector_c2 z y93_x2 y93_x1 := by rw [hf, fX0_putNextOfSector_c1, ← hw] <;> rfl
          refine lv_iload_n hx hb dX0_putNextOfSector_99 rfl (lv_at hl 1 rfl) ?_
          refine lv_iload_n hx hb dX0_putNextOfSector_100 rfl (lv_at hl 0 rfl) ?_
          refine lv_iconst (v := 1) hx hb dX0_putNextOfSector_101 (by decide) ?_
          refine lv_isub hx hb dX0_putNextOfSector_102 ?_
          refine lv_icmp_ge (tgt := 145) hx hb dX0_putNextOfSector_103 (by decide) (fun c103 => ?_) (fun c103 => ?_)
          · exact fk_vret hx hb hr hlk hK hP hD hS (Eq.symm (by rw [hf, fX0_putNextOfSector_c2, if_pos c103] <;> rfl)) dX0_putNextOfSector_145
          · refine lv_aload_n hx hb dX0_putNextOfSector_106 rfl (lv_at hl 2 rfl) ?_
            refine lv_dup hx hb dX0_putNextOfSector_107 rfl ?_
            refine va_get (D := G) (ci := 0) (v := .int (z.1 17)) (C := RX0) (T := TX0) (N := 12) hx hb hts hi_0 hown hK hP 4 rfl rfl 3 (by decide) hfl_30 (fun _ h9 => h9) rfl dX0_putNextOfSector_108 ?_
            refine lv_iconst (v := 2) hx hb dX0_putNextOfSector_111 (by decide) ?_
            refine lv_ior hx hb dX0_putNextOfSector_112 ?_
            refine va_put (D := G) (ci := 0) (v := .int ((z.1 17) ||| 2)) (ty := .int) (C := RX0) (T := TX0) (N := 12) hx hb hts hi_0 tyX0 tyX0_ok nmX0 hown hK hP hD hS 4 rfl rfl 3 (by decide) hfl_30 (fun _ h9 => h9) rfl (by decide +kernel) rfl rfl (Nat.le_of_ble_eq_true rfl) dX0_putNextOfSector_113 (fun H locs hP hD hS => ?_)
            have hP : va_P G vwCl ((fk_cW q k) (upd z.1 17 ((z.1 17) ||| 2), z.2)) H := hP
            have hD : va_D A ((fk_cW q k) (upd z.1 17 ((z.1 17) ||| 2), z.2)) := hD
            refine lv_goto (tgt := 145) hx hb dX0_putNextOfSector_116 (by decide) ?_
            exact fk_vret hx hb hr hlk hK hP hD hS (Eq.symm (by rw [hf, fX0_putNextOfSector_c2, if_neg c103] <;> rfl)) dX0_putNextOfSector_145
      · refine lv_aload_n hx hb dX0_putNextOfSector_57 rfl (lv_at hl 2 rfl) ?_
        refine va_get (D := G) (ci := 0) (v := .ref (q 5)) (C := RX0) (T := TX0) (N := 12) hx hb hts hi_0 hown hK hP 4 rfl rfl 2 (by decide) hfl_22 (fun _ h9 => h9) rfl dX0_putNextOfSector_58 ?_
        refine lv_aload_n hx hb dX0_putNextOfSector_61 rfl (lv_at hl 2 rfl) ?_
        refine va_get (D := G) (ci := 0) (v := .int (z0.1 22)) (C := RX0) (T := TX0) (N := 12) hx hb hts hi_0 hown hK hP 4 rfl rfl 8 (by decide) hfl_40 (fun _ h9 => h9) rfl dX0_putNextOfSector_62 ?_
        refine lv_if_eq (tgt := 74) hx hb dX0_putNextOfSector_65 (by decide) (fun c65 => ?_) (fun c65 => ?_)
        · refine lv_sipush (v := 251) hx hb dX0_putNextOfSector_74 (by decide) ?_
          have hl := lv_sub hl [] (l' := []) rfl
          refine fk_Vv (Wd := (fk_cW q k)) (z := z0) (As := [.int 251]) (rest := []) F9 (c_X4_putByte l G q k _ z0 251) (cwV 1 hts gX0_putNextOfSector_X4_putByte rfl rfl rfl (by decide +kernel) ⟨Nat.le_of_ble_eq_true rfl, Nat.le_of_ble_eq_true rfl⟩) (va_recv hK hP (ci := 4) (q0 := 5) rfl rfl) hK hP hD hS hA hN rfl hl.1 rfl (Nat.le_of_ble_eq_true rfl) dX0_putNextOfSector_77 ⟨Nat.zero_le _, Nat.zero_le _⟩ (fun z H locs hw hP hD hS => ?_)
          refine lv_goto (tgt := 145) hx hb dX0_putNextOfSector_80 (by decide) ?_
          exact fk_vret hx hb hr hlk hK hP hD hS (hw.trans (Eq.symm (by rw [fX0_putNextOfSector, if_pos c21, if_pos c38, if_neg c54, if_pos c65] <;> rfl))) dX0_putNextOfSector_145
        · refine lv_sipush (v := 248) hx hb dX0_putNextOfSector_68 (by decide) ?_
          refine lv_goto (tgt := 77) hx hb dX0_putNextOfSector_71 (by decide) ?_
          have hl := lv_sub hl [] (l' := []) rfl
          refine fk_Vv (Wd := (fk_cW q k)) (z := z0) (As := [.int 248]) (rest := []) F9 (c_X4_putByte l G q k _ z0 248) (cwV 1 hts gX0_putNextOfSector_X4_putByte rfl rfl rfl (by decide +kernel) ⟨Nat.le_of_ble_eq_true rfl, Nat.le_of_ble_eq_true rfl⟩) (va_recv hK hP (ci := 4) (q0 := 5) rfl rfl) hK hP hD hS hA hN rfl hl.1 rfl (Nat.le_of_ble_eq_true rfl) dX0_putNextOfSector_77 ⟨Nat.zero_le _, Nat.zero_le _⟩ (fun z H locs hw hP hD hS => ?_)
          refine lv_goto (tgt := 145) hx hb dX0_putNextOfSector_80 (by decide) ?_
          exact fk_vret hx hb hr hlk hK hP hD hS (hw.trans (Eq.symm (by rw [fX0_putNextOfSector, if_pos c21, if_pos c38, if_neg c54, if_neg c65] <;> rfl))) dX0_putNextOfSector_145
    · refine lv_aload_n hx hb dX0_putNextOfSector_41 rfl (lv_at hl 2 rfl) ?_
      refine va_get (D := G) (ci := 0) (v := .ref (q 5)) (C := RX0) (T := TX0) (N := 12) hx hb hts hi_0 hown hK hP 4 rfl rfl 2 (by decide) hfl_22 (fun _ h9 => h9) rfl dX0_putNextOfSector_42 ?_
      have hl := lv_sub hl [] (l' := []) rfl
      refine fk_Vv (Wd := (fk_cW q k)) (z := z0) (As := []) (rest := []) F9 (c_X4_putMark l G q k _ z0) (cwV 0 hts gX0_putNextOfSector_X4_putMark rfl rfl rfl (by decide +kernel) ⟨Nat.le_of_ble_eq_true rfl, Nat.le_of_ble_eq_true rfl⟩) (va_recv hK hP (ci := 4) (q0 := 5) rfl rfl) hK hP hD hS hA hN rfl hl.1 rfl (Nat.le_of_ble_eq_true rfl) dX0_putNextOfSector_45 ⟨Nat.zero_le _, Nat.zero_le _⟩ (fun z H locs hw hP hD hS => ?_)
      refine lv_goto (tgt := 145) hx hb dX0_putNextOfSector_48 (by decide) ?_
      exact fk_vret hx hb hr hlk hK hP hD hS (hw.trans (Eq.symm (by rw [fX0_putNextOfSector, if_pos c21, if_neg c38] <;> rfl))) dX0_putNextOfSector_145
  · refine lv_aload_n hx hb dX0_putNextOfSector_24 rfl (lv_at hl 2 rfl) ?_
    refine va_get (D := G) (ci := 0) (v := .ref (q 5)) (C := RX0) (T := TX0) (N := 12) hx hb hts hi_0 hown hK hP 4 rfl rfl 2 (by decide) hfl_22 (fun _ h9 => h9) rfl dX0_putNextOfSector_25 ?_
    refine lv_iconst (v := 0) hx hb dX0_putNextOfSector_28 (by decide) ?_
    have hl := lv_sub hl [] (l' := []) rfl
    refine fk_Vv (Wd := (fk_cW q k)) (z := z0) (As := [.int 0]) (rest := []) F9 (c_X4_putByte l G q k _ z0 0) (cwV 1 hts gX0_putNextOfSector_X4_putByte rfl rfl rfl (by decide +kernel) ⟨Nat.le_of_ble_eq_true rfl, Nat.le_of_ble_eq_true rfl⟩) (va_recv hK hP (ci := 4) (q0 := 5) rfl rfl) hK hP hD hS hA hN rfl hl.1 rfl (Nat.le_of_ble_eq_true rfl) dX0_putNextOfSector_29 ⟨Nat.zero_le _, Nat.zero_le _⟩ (fun z H locs hw hP hD hS => ?_)
    refine lv_goto (tgt := 145) hx hb dX0_putNextOfSector_32 (by decide) ?_
    exact fk_vret hx hb hr hlk hK hP hD hS (hw.trans (Eq.symm (by rw [fX0_putNextOfSector, if_neg c21] <;> rfl))) dX0_putNextOfSector_145
-- FloppyDesk$Writer.nextCell()I
def fX4_nextCell (z0 : fk_C) : Int32 × fk_C :=
  (((z0.1 26) >>> ((((z0.1 27) - 1) &&& 15) &&& 31)) &&& 1, (upd z0.1 27 ((z0.1 27) - 1), z0.2))
set_option maxHeartbeats 4000000 in
set_option maxRecDepth 100000 in
theorem c_X4_nextCell (l : Launch) (G : va_G) (q : Nat → Nat) (k : Nat → ClassId) (sz : Nat) (z0 : fk_C) : fk_Mi l yX4_nextCell wsX4_nextCell ({ frames := 0, cells := 0, slots := 0, locals := 0 } : Room) G (fk_cW q k) (fk_cT k) [.ref (q 5)] sz z0 (fX4_nextCell z0) := by
  refine fk_head (cc := cX4_nextCell) (maxL := 1) (ret := (some .int)) (QQ := fun A => va_Qi (fun r z1 => (r, z1) = fX4_nextCell z0) (fk_At G (fk_cW q k) (fk_cT k) A) A) (by decide) rfl (Nat.le_of_ble_eq_true rfl) ?_ sz
  intro p e s m below meth c A ls hx hb hr hlk hml hown hts hK hN hA hP hD hS hl
  have hown : s.vm.findClass RX4 = some m.cls := hown
  have F9 : CallFix p m c cX4_nextCell 1 s ([.ref (q 5)] : List Value).toArray wsX4_nextCell RX4 := ⟨hx, hb, hml, hown, hts⟩
  have hl : lv_has ls 1 [(0, .ref (q 5))] := hl
  have hfl_9 := hts (.fieldLink RX4 9 "FloppyDesk$Writer" "cellsLeft" "I") (by decide +kernel)
  have hfl_43 := hts (.fieldLink RX4 43 "FloppyDesk$Writer" "word" "I") (by decide +kernel)
  have hi_4 : ∀ w ∈ u_ws RX4 TX4 7, w ∈ wsX4_nextCell := by decide +kernel
  refine lv_aload_n hx hb dX4_nextCell_0 rfl (lv_at hl 0 rfl) ?_
  refine lv_dup hx hb dX4_nextCell_1 rfl ?_
  refine va_get (D := G) (ci := 4) (v := .int (z0.1 27)) (C := RX4) (T := TX4) (N := 7) hx hb hts hi_4 hown hK hP 5 rfl rfl 1 (by decide) hfl_9 (fun _ h9 => h9) rfl dX4_nextCell_2 ?_
  refine lv_iconst (v := 1) hx hb dX4_nextCell_5 (by decide) ?_
  refine lv_isub hx hb dX4_nextCell_6 ?_
  refine va_put (D := G) (ci := 4) (v := .int ((z0.1 27) - 1)) (ty := .int) (C := RX4) (T := TX4) (N := 7) hx hb hts hi_4 tyX4 tyX4_ok nmX4 hown hK hP hD hS 5 rfl rfl 1 (by decide) hfl_9 (fun _ h9 => h9) rfl (by decide +kernel) rfl rfl (Nat.le_of_ble_eq_true rfl) dX4_nextCell_7 (fun H locs hP hD hS => ?_)
  have hP : va_P G vwCl ((fk_cW q k) (upd z0.1 27 ((z0.1 27) - 1), z0.2)) H := hP
  have hD : va_D A ((fk_cW q k) (upd z0.1 27 ((z0.1 27) - 1), z0.2)) := hD
  refine lv_aload_n hx hb dX4_nextCell_10 rfl (lv_at hl 0 rfl) ?_
  refine va_get (D := G) (ci := 4) (v := .int (z0.1 26)) (C := RX4) (T := TX4) (N := 7) hx hb hts hi_4 hown hK hP 5 rfl rfl 0 (by decide) hfl_43 (fun _ h9 => h9) rfl dX4_nextCell_11 ?_
  refine lv_aload_n hx hb dX4_nextCell_14 rfl (lv_at hl 0 rfl) ?_
  refine va_get (D := G) (ci := 4) (v := .int ((z0.1 27) - 1)) (C := RX4) (T := TX4) (N := 7) hx hb hts hi_4 hown hK hP 5 rfl rfl 1 (by decide) hfl_9 (fun _ h9 => h9) rfl dX4_nextCell_15 ?_
  refine lv_bipush (v := 15) hx hb dX4_nextCell_18 (by decide) ?_
  refine lv_iand hx hb dX4_nextCell_20 ?_
  refine lv_ishr hx hb dX4_nextCell_21 ?_
  refine lv_iconst (v := 1) hx hb dX4_nextCell_22 (by decide) ?_
  refine lv_iand hx hb dX4_nextCell_23 ?_
  exact fk_iret hx hb hr hlk hK hP hD hS rfl (Eq.symm (by rw [fX4_nextCell] <;> rfl)) dX4_nextCell_24
-- FloppyDesk$Disk.wordAt(II)I
def fX1_wordAt (z0 : fk_C) (a1 : Int32) (a2 : Int32) : Int32 :=
  (if a1 < 0 then (-1) else (if 4 ≤ a1 then (-1) else (if a2 < 0 then (-1) else (if a2 < 150 then z0.2.1 ((a1 * 150) + a2).toNatClampNeg else (-1)))))
set_option maxHeartbeats 4000000 in
set_option maxRecDepth 100000 in
theorem c_X1_wordAt (l : Launch) (G : va_G) (q : Nat → Nat) (k : Nat → ClassId) (sz : Nat) (z0 : fk_C) (a1 : Int32) (a2 : Int32) : fk_Mp l yX1_wordAt wsX1_wordAt ({ frames := 0, cells := 0, slots := 0, locals := 0 } : Room) G (fk_cW q k) (fk_cT k) [.ref (q 1), .int a1, .int a2] sz z0 (fX1_wordAt z0 a1 a2) := by
  refine fk_head (cc := cX1_wordAt) (maxL := 3) (ret := (some .int)) (QQ := fun A => va_Qi (fun r (_ : Unit) => r = fX1_wordAt z0 a1 a2) (fun _ => fk_At G (fk_cW q k) (fk_cT k) A z0) A) (by decide) rfl (Nat.le_of_ble_eq_true rfl) ?_ sz
  intro p e s m below meth c A ls hx hb hr hlk hml hown hts hK hN hA hP hD hS hl
  have hown : s.vm.findClass RX1 = some m.cls := hown
  have F9 : CallFix p m c cX1_wordAt 3 s ([.ref (q 1), .int a1, .int a2] : List Value).toArray wsX1_wordAt RX1 := ⟨hx, hb, hml, hown, hts⟩
  have hl : lv_has ls 3 [(0, .ref (q 1)), (1, .int a1), (2, .int a2)] := hl
  have hfl_9 := hts (.fieldLink RX1 9 "FloppyDesk$Disk" "words" "[I") (by decide +kernel)
  have hi_1 : ∀ w ∈ u_ws RX1 TX1 4, w ∈ wsX1_wordAt := by decide +kernel
  refine lv_iload_n hx hb dX1_wordAt_0 rfl (lv_at hl 1 rfl) ?_
  refine lv_if_lt (tgt := 20) hx hb dX1_wordAt_1 (by decide) (fun c1 => ?_) (fun c1 => ?_)
  · refine lv_iconst (v := (-1)) hx hb dX1_wordAt_20 (by decide) ?_
    exact fk_pret hx hb hr hlk hK hP hD hS rfl (Eq.symm (by rw [fX1_wordAt, if_pos c1] <;> rfl)) dX1_wordAt_21
  · refine lv_iload_n hx hb dX1_wordAt_4 rfl (lv_at hl 1 rfl) ?_
    refine lv_iconst (v := 4) hx hb dX1_wordAt_5 (by decide) ?_
    refine lv_icmp_ge (tgt := 20) hx hb dX1_wordAt_6 (by decide) (fun c6 => ?_) (fun c6 => ?_)
    · refine lv_iconst (v := (-1)) hx hb dX1_wordAt_20 (by decide) ?_
      exact fk_pret hx hb hr hlk hK hP hD hS rfl (Eq.symm (by rw [fX1_wordAt, if_neg c1, if_pos c6] <;> rfl)) dX1_wordAt_21
    · refine lv_iload_n hx hb dX1_wordAt_9 rfl (lv_at hl 2 rfl) ?_
      refine lv_if_lt (tgt := 20) hx hb dX1_wordAt_10 (by decide) (fun c10 => ?_) (fun c10 => ?_)
      · refine lv_iconst (v := (-1)) hx hb dX1_wordAt_20 (by decide) ?_
        exact fk_pret hx hb hr hlk hK hP hD hS rfl (Eq.symm (by rw [fX1_wordAt, if_neg c1, if_neg c6, if_pos c10] <;> rfl)) dX1_wordAt_21
      · refine lv_iload_n hx hb dX1_wordAt_13 rfl (lv_at hl 2 rfl) ?_
        refine lv_sipush (v := 150) hx hb dX1_wordAt_14 (by decide) ?_
        refine lv_icmp_lt (tgt := 22) hx hb dX1_wordAt_17 (by decide) (fun c17 => ?_) (fun c17 => ?_)
        · refine lv_aload_n hx hb dX1_wordAt_22 rfl (lv_at hl 0 rfl) ?_
          refine va_get (D := G) (ci := 1) (v := .ref (q 2)) (C := RX1) (T := TX1) (N := 4) hx hb hts hi_1 hown hK hP 1 rfl rfl 0 (by decide) hfl_9 (fun _ h9 => h9) rfl dX1_wordAt_23 ?_
          refine lv_iload_n hx hb dX1_wordAt_26 rfl (lv_at hl 1 rfl) ?_
          refine lv_sipush (v := 150) hx hb dX1_wordAt_27 (by decide) ?_
          refine lv_imul hx hb dX1_wordAt_30 ?_
          refine lv_iload_n hx hb dX1_wordAt_31 rfl (lv_at hl 2 rfl) ?_
          refine lv_iadd hx hb dX1_wordAt_32 ?_
          have hin_33 : vp_in ((a1 * 150) + a2) 600 := by exact fk_in1 c1 c6 c10 c17
          refine va_iald (f := z0.2.1) hx hb hK hP 2 0 rfl rfl hin_33 dX1_wordAt_33 ?_
          exact fk_pret hx hb hr hlk hK hP hD hS rfl (Eq.symm (by rw [fX1_wordAt, if_neg c1, if_neg c6, if_neg c10, if_pos c17] <;> rfl)) dX1_wordAt_34
        · refine lv_iconst (v := (-1)) hx hb dX1_wordAt_20 (by decide) ?_
          exact fk_pret hx hb hr hlk hK hP hD hS rfl (Eq.symm (by rw [fX1_wordAt, if_neg c1, if_neg c6, if_neg c10, if_neg c17] <;> rfl)) dX1_wordAt_21
-- FloppyDesk$Disk.cellUnderHead()I
def fX1_cellUnderHead (z0 : fk_C) : Int32 :=
  ((fX1_wordAt z0 (z0.1 1) ((z0.1 2) >>> ((4 : Int32) &&& 31))) >>> ((15 - ((z0.1 2) &&& 15)) &&& 31)) &&& 1
set_option maxHeartbeats 4000000 in
set_option maxRecDepth 100000 in
theorem c_X1_cellUnderHead (l : Launch) (G : va_G) (q : Nat → Nat) (k : Nat → ClassId) (sz : Nat) (z0 : fk_C) : fk_Mp l yX1_cellUnderHead wsX1_cellUnderHead ({ frames := 1, cells := 0, slots := 0, locals := 22 } : Room) G (fk_cW q k) (fk_cT k) [.ref (q 1)] sz z0 (fX1_cellUnderHead z0) := by
  refine fk_head (cc := cX1_cellUnderHead) (maxL := 1) (ret := (some .int)) (QQ := fun A => va_Qi (fun r (_ : Unit) => r = fX1_cellUnderHead z0) (fun _ => fk_At G (fk_cW q k) (fk_cT k) A z0) A) (by decide) rfl (Nat.le_of_ble_eq_true rfl) ?_ sz
  intro p e s m below meth c A ls hx hb hr hlk hml hown hts hK hN hA hP hD hS hl
  have hown : s.vm.findClass RX1 = some m.cls := hown
  have F9 : CallFix p m c cX1_cellUnderHead 1 s ([.ref (q 1)] : List Value).toArray wsX1_cellUnderHead RX1 := ⟨hx, hb, hml, hown, hts⟩
  have hl : lv_has ls 1 [(0, .ref (q 1))] := hl
  have hfl_16 := hts (.fieldLink RX1 16 "FloppyDesk$Disk" "headTrack" "I") (by decide +kernel)
  have hfl_20 := hts (.fieldLink RX1 20 "FloppyDesk$Disk" "place" "I") (by decide +kernel)
  have hi_1 : ∀ w ∈ u_ws RX1 TX1 4, w ∈ wsX1_cellUnderHead := by decide +kernel
  refine lv_aload_n hx hb dX1_cellUnderHead_0 rfl (lv_at hl 0 rfl) ?_
  refine lv_aload_n hx hb dX1_cellUnderHead_1 rfl (lv_at hl 0 rfl) ?_
  refine va_get (D := G) (ci := 1) (v := .int (z0.1 1)) (C := RX1) (T := TX1) (N := 4) hx hb hts hi_1 hown hK hP 1 rfl rfl 2 (by decide) hfl_16 (fun _ h9 => h9) rfl dX1_cellUnderHead_2 ?_
  refine lv_aload_n hx hb dX1_cellUnderHead_5 rfl (lv_at hl 0 rfl) ?_
  refine va_get (D := G) (ci := 1) (v := .int (z0.1 2)) (C := RX1) (T := TX1) (N := 4) hx hb hts hi_1 hown hK hP 1 rfl rfl 3 (by decide) hfl_20 (fun _ h9 => h9) rfl dX1_cellUnderHead_6 ?_
  refine lv_iconst (v := 4) hx hb dX1_cellUnderHead_9 (by decide) ?_
  refine lv_ishr hx hb dX1_cellUnderHead_10 ?_
  refine fk_Vp (Wd := (fk_cW q k)) (z := z0) (As := [.int (z0.1 1), .int ((z0.1 2) >>> ((4 : Int32) &&& 31))]) (rest := []) F9 (c_X1_wordAt l G q k _ z0 (z0.1 1) ((z0.1 2) >>> ((4 : Int32) &&& 31))) (cwV 2 hts gX1_cellUnderHead_X1_wordAt rfl rfl rfl (by decide +kernel) ⟨Nat.le_of_ble_eq_true rfl, Nat.le_of_ble_eq_true rfl⟩) (va_recv hK hP (ci := 1) (q0 := 1) rfl rfl) hK hP hD hS hA hN rfl hl.1 rfl (Nat.le_of_ble_eq_true rfl) dX1_cellUnderHead_11 ⟨Nat.zero_le _, Nat.zero_le _⟩ (fun H locs hP hD hS => ?_)
  refine lv_bipush (v := 15) hx hb dX1_cellUnderHead_14 (by decide) ?_
  refine lv_aload_n hx hb dX1_cellUnderHead_16 rfl (lv_at hl 0 rfl) ?_
  refine va_get (D := G) (ci := 1) (v := .int (z0.1 2)) (C := RX1) (T := TX1) (N := 4) hx hb hts hi_1 hown hK hP 1 rfl rfl 3 (by decide) hfl_20 (fun _ h9 => h9) rfl dX1_cellUnderHead_17 ?_
  refine lv_bipush (v := 15) hx hb dX1_cellUnderHead_20 (by decide) ?_
  refine lv_iand hx hb dX1_cellUnderHead_22 ?_
  refine lv_isub hx hb dX1_cellUnderHead_23 ?_
  refine lv_ishr hx hb dX1_cellUnderHead_24 ?_
  refine lv_iconst (v := 1) hx hb dX1_cellUnderHead_25 (by decide) ?_
  refine lv_iand hx hb dX1_cellUnderHead_26 ?_
  exact fk_pret hx hb hr hlk hK hP hD hS rfl (Eq.symm (by rw [fX1_cellUnderHead] <;> rfl)) dX1_cellUnderHead_27
-- FloppyDesk$Disk.turnOver(II)Z
def fX1_turnOver (z0 : fk_C) (a1 : Int32) (a2 : Int32) : Int32 × fk_C :=
  (if a1 < 0 then (0, z0) else (if 4 ≤ a1 then (0, z0) else (if a2 < 0 then (0, z0) else (if a2 < 2400 then (1, (z0.1, upd z0.2.1 ((a1 * 150) + (a2 >>> ((4 : Int32) &&& 31))).toNatClampNeg ((z0.2.1 ((a1 * 150) + (a2 >>> ((4 : Int32) &&& 31))).toNatClampNeg) ^^^ ((32768 : Int32) >>> ((a2 &&& 15) &&& 31))), z0.2.2)) else (0, z0)))))
set_option maxHeartbeats 4000000 in
set_option maxRecDepth 100000 in
theorem c_X1_turnOver (l : Launch) (G : va_G) (q : Nat → Nat) (k : Nat → ClassId) (sz : Nat) (z0 : fk_C) (a1 : Int32) (a2 : Int32) : fk_Mi l yX1_turnOver wsX1_turnOver ({ frames := 0, cells := 0, slots := 0, locals := 0 } : Room) G (fk_cW q k) (fk_cT k) [.ref (q 1), .int a1, .int a2] sz z0 (fX1_turnOver z0 a1 a2) := by
  refine fk_head (cc := cX1_turnOver) (maxL := 3) (ret := (some .boolean)) (QQ := fun A => va_Qi (fun r z1 => (r, z1) = fX1_turnOver z0 a1 a2) (fk_At G (fk_cW q k) (fk_cT k) A) A) (by decide) rfl (Nat.le_of_ble_eq_true rfl) ?_ sz
  intro p e s m below meth c A ls hx hb hr hlk hml hown hts hK hN hA hP hD hS hl
  have hown : s.vm.findClass RX1 = some m.cls := hown
  have F9 : CallFix p m c cX1_turnOver 3 s ([.ref (q 1), .int a1, .int a2] : List Value).toArray wsX1_turnOver RX1 := ⟨hx, hb, hml, hown, hts⟩
  have hl : lv_has ls 3 [(0, .ref (q 1)), (1, .int a1), (2, .int a2)] := hl
  have hcst_15 := hts (.constant RX1 15 32768) (by decide +kernel)
  have hfl_9 := hts (.fieldLink RX1 9 "FloppyDesk$Disk" "words" "[I") (by decide +kernel)
  have hi_1 : ∀ w ∈ u_ws RX1 TX1 4, w ∈ wsX1_turnOver := by decide +kernel
  refine lv_iload_n hx hb dX1_turnOver_0 rfl (lv_at hl 1 rfl) ?_
  refine lv_if_lt (tgt := 20) hx hb dX1_turnOver_1 (by decide) (fun c1 => ?_) (fun c1 => ?_)
  · refine lv_iconst (v := 0) hx hb dX1_turnOver_20 (by decide) ?_
    exact fk_iret hx hb hr hlk hK hP hD hS rfl (Eq.symm (by rw [fX1_turnOver, if_pos c1] <;> rfl)) dX1_turnOver_21
  · refine lv_iload_n hx hb dX1_turnOver_4 rfl (lv_at hl 1 rfl) ?_
    refine lv_iconst (v := 4) hx hb dX1_turnOver_5 (by decide) ?_
    refine lv_icmp_ge (tgt := 20) hx hb dX1_turnOver_6 (by decide) (fun c6 => ?_) (fun c6 => ?_)
    · refine lv_iconst (v := 0) hx hb dX1_turnOver_20 (by decide) ?_
      exact fk_iret hx hb hr hlk hK hP hD hS rfl (Eq.symm (by rw [fX1_turnOver, if_neg c1, if_pos c6] <;> rfl)) dX1_turnOver_21
    · refine lv_iload_n hx hb dX1_turnOver_9 rfl (lv_at hl 2 rfl) ?_
      refine lv_if_lt (tgt := 20) hx hb dX1_turnOver_10 (by decide) (fun c10 => ?_) (fun c10 => ?_)
      · refine lv_iconst (v := 0) hx hb dX1_turnOver_20 (by decide) ?_
        exact fk_iret hx hb hr hlk hK hP hD hS rfl (Eq.symm (by rw [fX1_turnOver, if_neg c1, if_neg c6, if_pos c10] <;> rfl)) dX1_turnOver_21
      · refine lv_iload_n hx hb dX1_turnOver_13 rfl (lv_at hl 2 rfl) ?_
        refine lv_sipush (v := 2400) hx hb dX1_turnOver_14 (by decide) ?_
        refine lv_icmp_lt (tgt := 22) hx hb dX1_turnOver_17 (by decide) (fun c17 => ?_) (fun c17 => ?_)
        · refine lv_aload_n hx hb dX1_turnOver_22 rfl (lv_at hl 0 rfl) ?_
          refine va_get (D := G) (ci := 1) (v := .ref (q 2)) (C := RX1) (T := TX1) (N := 4) hx hb hts hi_1 hown hK hP 1 rfl rfl 0 (by decide) hfl_9 (fun _ h9 => h9) rfl dX1_turnOver_23 ?_
          refine lv_iload_n hx hb dX1_turnOver_26 rfl (lv_at hl 1 rfl) ?_
          refine lv_sipush (v := 150) hx hb dX1_turnOver_27 (by decide) ?_
          refine lv_imul hx hb dX1_turnOver_30 ?_
          refine lv_iload_n hx hb dX1_turnOver_31 rfl (lv_at hl 2 rfl) ?_
          refine lv_iconst (v := 4) hx hb dX1_turnOver_32 (by decide) ?_
          refine lv_ishr hx hb dX1_turnOver_33 ?_
          refine lv_iadd hx hb dX1_turnOver_34 ?_
          refine lv_dup2_11 hx hb dX1_turnOver_35 rfl rfl ?_
          have hin_36 : vp_in ((a1 * 150) + (a2 >>> ((4 : Int32) &&& 31))) 600 := by exact fk_in2 c1 c6 c10 c17
          refine va_iald (f := z0.2.1) hx hb hK hP 2 0 rfl rfl hin_36 dX1_turnOver_36 ?_
          refine lv_ldc (own := RX1) (v := 32768) hx hb hown hcst_15 dX1_turnOver_37 ?_
          refine lv_iload_n hx hb dX1_turnOver_39 rfl (lv_at hl 2 rfl) ?_
          refine lv_bipush (v := 15) hx hb dX1_turnOver_40 (by decide) ?_
          refine lv_iand hx hb dX1_turnOver_42 ?_
          refine lv_ishr hx hb dX1_turnOver_43 ?_
          refine lv_ixor hx hb dX1_turnOver_44 ?_
          have hin_45 : vp_in ((a1 * 150) + (a2 >>> ((4 : Int32) &&& 31))) 600 := by exact fk_in2 c1 c6 c10 c17
          refine va_iast (f := z0.2.1) (x := (z0.2.1 ((a1 * 150) + (a2 >>> ((4 : Int32) &&& 31))).toNatClampNeg) ^^^ ((32768 : Int32) >>> ((a2 &&& 15) &&& 31))) hx hb hK hP hD hS 2 0 rfl rfl hin_45 dX1_turnOver_45 (fun H locs hP hD hS => ?_)
          have hP : va_P G vwCl ((fk_cW q k) (z0.1, upd z0.2.1 ((a1 * 150) + (a2 >>> ((4 : Int32) &&& 31))).toNatClampNeg ((z0.2.1 ((a1 * 150) + (a2 >>> ((4 : Int32) &&& 31))).toNatClampNeg) ^^^ ((32768 : Int32) >>> ((a2 &&& 15) &&& 31))), z0.2.2)) H := hP
          have hD : va_D A ((fk_cW q k) (z0.1, upd z0.2.1 ((a1 * 150) + (a2 >>> ((4 : Int32) &&& 31))).toNatClampNeg ((z0.2.1 ((a1 * 150) + (a2 >>> ((4 : Int32) &&& 31))).toNatClampNeg) ^^^ ((32768 : Int32) >>> ((a2 &&& 15) &&& 31))), z0.2.2)) := hD
          refine lv_iconst (v := 1) hx hb dX1_turnOver_46 (by decide) ?_
          exact fk_iret hx hb hr hlk hK hP hD hS rfl (Eq.symm (by rw [fX1_turnOver, if_neg c1, if_neg c6, if_neg c10, if_pos c17] <;> rfl)) dX1_turnOver_47
        · refine lv_iconst (v := 0) hx hb dX1_turnOver_20 (by decide) ?_
          exact fk_iret hx hb hr hlk hK hP hD hS rfl (Eq.symm (by rw [fX1_turnOver, if_neg c1, if_neg c6, if_neg c10, if_neg c17] <;> rfl)) dX1_turnOver_21
-- FloppyDesk$Disk.writeUnderHead(I)V
def fX1_writeUnderHead_c1 (z : fk_C) (r17 : Int32) : fk_C :=
  z
def fX1_writeUnderHead (z0 : fk_C) (a1 : Int32) : fk_C :=
  (if (fX1_cellUnderHead z0) = a1 then z0 else fX1_writeUnderHead_c1 ((fX1_turnOver z0 (z0.1 1) (z0.1 2)).2) (fX1_turnOver z0 (z0.1 1) (z0.1 2)).1)
set_option maxHeartbeats 4000000 in
set_option maxRecDepth 100000 in
theorem c_X1_writeUnderHead (l : Launch) (G : va_G) (q : Nat → Nat) (k : Nat → ClassId) (sz : Nat) (z0 : fk_C) (a1 : Int32) : fk_Mv l yX1_writeUnderHead wsX1_writeUnderHead ({ frames := 2, cells := 0, slots := 0, locals := 42 } : Room) G (fk_cW q k) (fk_cT k) [.ref (q 1), .int a1] sz z0 (fX1_writeUnderHead z0 a1) := by
  refine fk_head (cc := cX1_writeUnderHead) (maxL := 2) (ret := none) (QQ := fun A => va_Qv (fun z1 => z1 = fX1_writeUnderHead z0 a1) (fk_At G (fk_cW q k) (fk_cT k) A) A) (by decide) rfl (Nat.le_of_ble_eq_true rfl) ?_ sz
  intro p e s m below meth c A ls hx hb hr hlk hml hown hts hK hN hA hP hD hS hl
  have hown : s.vm.findClass RX1 = some m.cls := hown
  have F9 : CallFix p m c cX1_writeUnderHead 2 s ([.ref (q 1), .int a1] : List Value).toArray wsX1_writeUnderHead RX1 := ⟨hx, hb, hml, hown, hts⟩
  have hl : lv_has ls 2 [(0, .ref (q 1)), (1, .int a1)] := hl
  have hfl_16 := hts (.fieldLink RX1 16 "FloppyDesk$Disk" "headTrack" "I") (by decide +kernel)
  have hfl_20 := hts (.fieldLink RX1 20 "FloppyDesk$Disk" "place" "I") (by decide +kernel)
  have hi_1 : ∀ w ∈ u_ws RX1 TX1 4, w ∈ wsX1_writeUnderHead := by decide +kernel
  refine lv_aload_n hx hb dX1_writeUnderHead_0 rfl (lv_at hl 0 rfl) ?_
  refine fk_Vp (Wd := (fk_cW q k)) (z := z0) (As := []) (rest := []) F9 (c_X1_cellUnderHead l G q k _ z0) (cwV 0 hts gX1_writeUnderHead_X1_cellUnderHead rfl rfl rfl (by decide +kernel) ⟨Nat.le_of_ble_eq_true rfl, Nat.le_of_ble_eq_true rfl⟩) (va_recv hK hP (ci := 1) (q0 := 1) rfl rfl) hK hP hD hS hA hN rfl hl.1 rfl (Nat.le_of_ble_eq_true rfl) dX1_writeUnderHead_1 ⟨Nat.zero_le _, Nat.zero_le _⟩ (fun H locs hP hD hS => ?_)
  refine lv_iload_n hx hb dX1_writeUnderHead_4 rfl (lv_at hl 1 rfl) ?_
  refine lv_icmp_eq (tgt := 21) hx hb dX1_writeUnderHead_5 (by decide) (fun c5 => ?_) (fun c5 => ?_)
  · exact fk_vret hx hb hr hlk hK hP hD hS (Eq.symm (by rw [fX1_writeUnderHead, if_pos c5] <;> rfl)) dX1_writeUnderHead_21
  · refine lv_aload_n hx hb dX1_writeUnderHead_8 rfl (lv_at hl 0 rfl) ?_
    refine lv_aload_n hx hb dX1_writeUnderHead_9 rfl (lv_at hl 0 rfl) ?_
    refine va_get (D := G) (ci := 1) (v := .int (z0.1 1)) (C := RX1) (T := TX1) (N := 4) hx hb hts hi_1 hown hK hP 1 rfl rfl 2 (by decide) hfl_16 (fun _ h9 => h9) rfl dX1_writeUnderHead_10 ?_
    refine lv_aload_n hx hb dX1_writeUnderHead_13 rfl (lv_at hl 0 rfl) ?_
    refine va_get (D := G) (ci := 1) (v := .int (z0.1 2)) (C := RX1) (T := TX1) (N := 4) hx hb hts hi_1 hown hK hP 1 rfl rfl 3 (by decide) hfl_20 (fun _ h9 => h9) rfl dX1_writeUnderHead_14 ?_
    have hl := lv_sub hl [] (l' := []) rfl
    refine fk_Vi (Wd := (fk_cW q k)) (z := z0) (As := [.int (z0.1 1), .int (z0.1 2)]) (rest := []) F9 (c_X1_turnOver l G q k _ z0 (z0.1 1) (z0.1 2)) (cwV 2 hts gX1_writeUnderHead_X1_turnOver rfl rfl rfl (by decide +kernel) ⟨Nat.le_of_ble_eq_true rfl, Nat.le_of_ble_eq_true rfl⟩) (va_recv hK hP (ci := 1) (q0 := 1) rfl rfl) hK hP hD hS hA hN rfl hl.1 rfl (Nat.le_of_ble_eq_true rfl) dX1_writeUnderHead_17 ⟨Nat.zero_le _, Nat.zero_le _⟩ (fun r17 z H locs hw hP hD hS => ?_)
    have hf : fX1_writeUnderHead z0 a1 = fX1_writeUnderHead_c1 z r17 := by rw [fX1_writeUnderHead, if_neg c5, ← hw] <;> rfl
    refine lv_pop hx hb dX1_writeUnderHead_20 rfl ?_
    exact fk_vret hx hb hr hlk hK hP hD hS (Eq.symm (by rw [hf, fX1_writeUnderHead_c1] <;> rfl)) dX1_writeUnderHead_21
-- FloppyDesk$Controller.writeOneCell()V
def fX0_writeOneCell_70 (z : fk_C) (s0 : Int32) : fk_C :=
  (if (z.1 21) = 3 then (if (z.1 27) = 0 then (if s0 = 0 then z else fX0_end z) else z) else z)
def fX0_writeOneCell_c2 (z : fk_C) : fk_C :=
  (if (z.1 30) = ((8 + (z.1 16)) + 3) then fX0_writeOneCell_70 z 1 else fX0_writeOneCell_70 z 0)
def fX0_writeOneCell_c1 (z : fk_C) (r37 : Int32) : fk_C :=
  fX0_writeOneCell_c2 (fX1_writeUnderHead z r37)
def fX0_writeOneCell_29 (z : fk_C) : fk_C :=
  fX0_writeOneCell_c1 ((fX4_nextCell z).2) (fX4_nextCell z).1
def fX0_writeOneCell_c3 (z : fk_C) : fk_C :=
  fX0_writeOneCell_29 z
def fX0_writeOneCell_c4 (z : fk_C) : fk_C :=
  fX0_writeOneCell_29 z
def fX0_writeOneCell (z0 : fk_C) : fk_C :=
  (if (z0.1 27) = 0 then (if (z0.1 21) = 5 then fX0_writeOneCell_c4 (fX0_putNextOfTrack z0) else fX0_writeOneCell_c3 (fX0_putNextOfSector z0)) else fX0_writeOneCell_29 z0)
set_option maxHeartbeats 4000000 in
set_option maxRecDepth 100000 in
theorem c_X0_writeOneCell (l : Launch) (G : va_G) (q : Nat → Nat) (k : Nat → ClassId) (sz : Nat) (z0 : fk_C) : fk_Mv l yX0_writeOneCell wsX0_writeOneCell ({ frames := 4, cells := 0, slots := 0, locals := 89 } : Room) G (fk_cW q k) (fk_cT k) [.ref (q 4)] sz z0 (fX0_writeOneCell z0) := by
  refine fk_head (cc := cX0_writeOneCell) (maxL := 2) (ret := none) (QQ := fun A => va_Qv (fun z1 => z1 = fX0_writeOneCell z0) (fk_At G (fk_cW q k) (fk_cT k) A) A) (by decide) rfl (Nat.le_of_ble_eq_true rfl) ?_ sz
  intro p e s m below meth c A ls hx hb hr hlk hml hown hts hK hN hA hP hD hS hl
  have hown : s.vm.findClass RX0 = some m.cls := hown
  have F9 : CallFix p m c cX0_writeOneCell 2 s ([.ref (q 4)] : List Value).toArray wsX0_writeOneCell RX0 := ⟨hx, hb, hml, hown, hts⟩
  have hl : lv_has ls 2 [(0, .ref (q 4))] := hl
  have hfl_9 := hts (.fieldLink RX0 9 "FloppyDesk$Controller" "disk" "LFloppyDesk$Disk;") (by decide +kernel)
  have hfl_15 := hts (.fieldLink RX0 15 "FloppyDesk$Controller" "reader" "LFloppyDesk$Reader;") (by decide +kernel)
  have hfl_22 := hts (.fieldLink RX0 22 "FloppyDesk$Controller" "writer" "LFloppyDesk$Writer;") (by decide +kernel)
  have hfl_26 := hts (.fieldLink RX0 26 "FloppyDesk$Controller" "latest" "I") (by decide +kernel)
  have hi_0 : ∀ w ∈ u_ws RX0 TX0 12, w ∈ wsX0_writeOneCell := by decide +kernel
  have hi_2 : ∀ w ∈ u_ws RX2 TX2 14, w ∈ wsX0_writeOneCell := by decide +kernel
  have hi_4 : ∀ w ∈ u_ws RX4 TX4 7, w ∈ wsX0_writeOneCell := by decide +kernel
  have h70 : ∀ (z : fk_C) (s0 : Int32) (H : Heap) (locs : List Loc) (ls : Array Slot), fX0_writeOneCell z0 = fX0_writeOneCell_70 z s0 → va_P G vwCl ((fk_cW q k) z) H → va_D A ((fk_cW q k) z) → va_S A s.heap H locs → lv_has ls 2 [(0, .ref (q 4))] → W p l e ({ frames := 4, cells := 0, slots := 0, locals := 89 } : Room) s m ([.ref (q 4)] : List Value).toArray below meth c H locs 0 0 (MQ below (va_Qv (fun z1 => z1 = fX0_writeOneCell z0) (fk_At G (fk_cW q k) (fk_cT k) A) A) ([.ref (q 4)] : List Value).toArray s 0 0 A) (F0 m 70 ls [.int s0]) := by
    intro z s0 H locs ls hf  hP hD hS hl
    refine lv_istore_n (lv' := [(1, .int s0), (0, .ref (q 4))]) hx hb dX0_writeOneCell_70 rfl hl (by decide) rfl (fun ls hl => ?_)
    refine lv_aload_n hx hb dX0_writeOneCell_71 rfl (lv_at hl 1 rfl) ?_
    refine va_get (D := G) (ci := 0) (v := .int (z.1 21)) (C := RX0) (T := TX0) (N := 12) hx hb hts hi_0 hown hK hP 4 rfl rfl 7 (by decide) hfl_26 (fun _ h9 => h9) rfl dX0_writeOneCell_72 ?_
    refine lv_iconst (v := 3) hx hb dX0_writeOneCell_75 (by decide) ?_
    refine lv_icmp_ne (tgt := 97) hx hb dX0_writeOneCell_76 (by decide) (fun c76 => ?_) (fun c76 => ?_)
    · exact fk_vret hx hb hr hlk hK hP hD hS (Eq.symm (by rw [hf, fX0_writeOneCell_70, if_neg c76] <;> rfl)) dX0_writeOneCell_97
    · refine lv_aload_n hx hb dX0_writeOneCell_79 rfl (lv_at hl 1 rfl) ?_
      refine va_get (D := G) (ci := 0) (v := .ref (q 5)) (C := RX0) (T := TX0) (N := 12) hx hb hts hi_0 hown hK hP 4 rfl rfl 2 (by decide) hfl_22 (fun _ h9 => h9) rfl dX0_writeOneCell_80 ?_
      refine va_getN (D := G) (ci := 4) (v := .int (z.1 27)) (C := RX4) (T := TX4) (N := 7) hx hb hts hi_4 hown hK hP 5 rfl rfl 1 (by decide) (hN.f 6 rfl) (fun _ h9 => h9) rfl dX0_writeOneCell_83 ?_
      refine lv_if_ne (tgt := 97) hx hb dX0_writeOneCell_86 (by decide) (fun c86 => ?_) (fun c86 => ?_)
      · exact fk_vret hx hb hr hlk hK hP hD hS (Eq.symm (by rw [hf, fX0_writeOneCell_70, if_pos c76, if_neg c86] <;> rfl)) dX0_writeOneCell_97
      · refine lv_iload_n hx hb dX0_writeOneCell_89 rfl (lv_at hl 0 rfl) ?_
        refine lv_if_eq (tgt := 97) hx hb dX0_writeOneCell_90 (by decide) (fun c90 => ?_) (fun c90 => ?_)
        · exact fk_vret hx hb hr hlk hK hP hD hS (Eq.symm (by rw [hf, fX0_writeOneCell_70, if_pos c76, if_pos c86, if_pos c90] <;> rfl)) dX0_writeOneCell_97
        · refine lv_aload_n hx hb dX0_writeOneCell_93 rfl (lv_at hl 1 rfl) ?_
          have hl := lv_sub hl [] (l' := []) rfl
          refine fk_Vv (Wd := (fk_cW q k)) (z := z) (As := []) (rest := []) F9 (c_X0_end l G q k _ z) (cwV 0 hts gX0_writeOneCell_X0_end rfl rfl rfl (by decide +kernel) ⟨Nat.le_of_ble_eq_true rfl, Nat.le_of_ble_eq_true rfl⟩) (va_recv hK hP (ci := 0) (q0 := 4) rfl rfl) hK hP hD hS hA hN rfl hl.1 rfl (Nat.le_of_ble_eq_true rfl) dX0_writeOneCell_94 ⟨Nat.zero_le _, Nat.zero_le _⟩ (fun z H locs hw hP hD hS => ?_)
          exact fk_vret hx hb hr hlk hK hP hD hS (hw.trans (Eq.symm (by rw [hf, fX0_writeOneCell_70, if_pos c76, if_pos c86, if_neg c90] <;> rfl))) dX0_writeOneCell_97
  have h29 : ∀ (z : fk_C) (H : Heap) (locs : List Loc) (ls : Array Slot), fX0_writeOneCell z0 = fX0_writeOneCell_29 z  → va_P G vwCl ((fk_cW q k) z) H → va_D A ((fk_cW q k) z) → va_S A s.heap H locs → lv_has ls 2 [(0, .ref (q 4))] → W p l e ({ frames := 4, cells := 0, slots := 0, locals := 89 } : Room) s m ([.ref (q 4)] : List Value).toArray below meth c H locs 0 0 (MQ below (va_Qv (fun z1 => z1 = fX0_writeOneCell z0) (fk_At G (fk_cW q k) (fk_cT k) A) A) ([.ref (q 4)] : List Value).toArray s 0 0 A) (F0 m 29 ls []) := by
    intro z H locs ls hf  hP hD hS hl
    refine lv_aload_n hx hb dX0_writeOneCell_29 rfl (lv_at hl 0 rfl) ?_
    refine va_get (D := G) (ci := 0) (v := .ref (q 1)) (C := RX0) (T := TX0) (N := 12) hx hb hts hi_0 hown hK hP 4 rfl rfl 0 (by decide) hfl_9 (fun _ h9 => h9) rfl dX0_writeOneCell_30 ?_
    refine lv_aload_n hx hb dX0_writeOneCell_33 rfl (lv_at hl 0 rfl) ?_
    refine va_get (D := G) (ci := 0) (v := .ref (q 5)) (C := RX0) (T := TX0) (N := 12) hx hb hts hi_0 hown hK hP 4 rfl rfl 2 (by decide) hfl_22 (fun _ h9 => h9) rfl dX0_writeOneCell_34 ?_
    refine fk_Vi (Wd := (fk_cW q k)) (z := z) (As := []) (rest := [.ref (q 1)]) F9 (c_X4_nextCell l G q k _ z) (cwV 0 hts gX0_writeOneCell_X4_nextCell rfl rfl rfl (by decide +kernel) ⟨Nat.le_of_ble_eq_true rfl, Nat.le_of_ble_eq_true rfl⟩) (va_recv hK hP (ci := 4) (q0 := 5) rfl rfl) hK hP hD hS hA hN rfl hl.1 rfl (Nat.le_of_ble_eq_true rfl) dX0_writeOneCell_37 ⟨Nat.zero_le _, Nat.zero_le _⟩ (fun r37 z H locs hw hP hD hS => ?_)
    have hf : fX0_writeOneCell z0 = fX0_writeOneCell_c1 z r37 := by rw [hf, fX0_writeOneCell_29, ← hw] <;> rfl
    refine fk_Vv (Wd := (fk_cW q k)) (z := z) (As := [.int r37]) (rest := []) F9 (c_X1_writeUnderHead l G q k _ z r37) (cwV 1 hts gX0_writeOneCell_X1_writeUnderHead rfl rfl rfl (by decide +kernel) ⟨Nat.le_of_ble_eq_true rfl, Nat.le_of_ble_eq_true rfl⟩) (va_recv hK hP (ci := 1) (q0 := 1) rfl rfl) hK hP hD hS hA hN rfl hl.1 rfl (Nat.le_of_ble_eq_true rfl) dX0_writeOneCell_40 ⟨Nat.zero_le _, Nat.zero_le _⟩ (fun z H locs hw hP hD hS => ?_)
    have hf : fX0_writeOneCell z0 = fX0_writeOneCell_c2 z := by rw [hf, fX0_writeOneCell_c1, ← hw] <;> rfl
    refine lv_aload_n hx hb dX0_writeOneCell_43 rfl (lv_at hl 0 rfl) ?_
    refine va_get (D := G) (ci := 0) (v := .ref (q 5)) (C := RX0) (T := TX0) (N := 12) hx hb hts hi_0 hown hK hP 4 rfl rfl 2 (by decide) hfl_22 (fun _ h9 => h9) rfl dX0_writeOneCell_44 ?_
    refine va_getN (D := G) (ci := 4) (v := .int (z.1 30)) (C := RX4) (T := TX4) (N := 7) hx hb hts hi_4 hown hK hP 5 rfl rfl 4 (by decide) (hN.f 7 rfl) (fun _ h9 => h9) rfl dX0_writeOneCell_47 ?_
    refine lv_bipush (v := 8) hx hb dX0_writeOneCell_50 (by decide) ?_
    refine lv_aload_n hx hb dX0_writeOneCell_52 rfl (lv_at hl 0 rfl) ?_
    refine va_get (D := G) (ci := 0) (v := .ref (q 3)) (C := RX0) (T := TX0) (N := 12) hx hb hts hi_0 hown hK hP 4 rfl rfl 1 (by decide) hfl_15 (fun _ h9 => h9) rfl dX0_writeOneCell_53 ?_
    refine va_getN (D := G) (ci := 2) (v := .int (z.1 16)) (C := RX2) (T := TX2) (N := 14) hx hb hts hi_2 hown hK hP 3 rfl rfl 13 (by decide) (hN.f 8 rfl) (fun _ h9 => h9) rfl dX0_writeOneCell_56 ?_
    refine lv_iadd hx hb dX0_writeOneCell_59 ?_
    refine lv_iconst (v := 3) hx hb dX0_writeOneCell_60 (by decide) ?_
    refine lv_iadd hx hb dX0_writeOneCell_61 ?_
    refine lv_icmp_ne (tgt := 69) hx hb dX0_writeOneCell_62 (by decide) (fun c62 => ?_) (fun c62 => ?_)
    · refine lv_iconst (v := 0) hx hb dX0_writeOneCell_69 (by decide) ?_
      exact h70 z 0 _ _ ls (by rw [hf, fX0_writeOneCell_c2, if_neg c62] <;> rfl) hP hD hS (lv_sub hl [0] rfl)
    · refine lv_iconst (v := 1) hx hb dX0_writeOneCell_65 (by decide) ?_
      refine lv_goto (tgt := 70) hx hb dX0_writeOneCell_66 (by decide) ?_
      exact h70 z 1 _ _ ls (by rw [hf, fX0_writeOneCell_c2, if_pos c62] <;> rfl) hP hD hS (lv_sub hl [0] rfl)
  refine lv_aload_n hx hb dX0_writeOneCell_0 rfl (lv_at hl 0 rfl) ?_
  refine va_get (D := G) (ci := 0) (v := .ref (q 5)) (C := RX0) (T := TX0) (N := 12) hx hb hts hi_0 hown hK hP 4 rfl rfl 2 (by decide) hfl_22 (fun _ h9 => h9) rfl dX0_writeOneCell_1 ?_
  refine va_getN (D := G) (ci := 4) (v := .int (z0.1 27)) (C := RX4) (T := TX4) (N := 7) hx hb hts hi_4 hown hK hP 5 rfl rfl 1 (by decide) (hN.f 6 rfl) (fun _ h9 => h9) rfl dX0_writeOneCell_4 ?_
  refine lv_if_ne (tgt := 29) hx hb dX0_writeOneCell_7 (by decide) (fun c7 => ?_) (fun c7 => ?_)
  · exact h29 z0 _ _ ls (by rw [fX0_writeOneCell, if_neg c7] <;> rfl) hP hD hS (lv_sub hl [0] rfl)
  · refine lv_aload_n hx hb dX0_writeOneCell_10 rfl (lv_at hl 0 rfl) ?_
    refine va_get (D := G) (ci := 0) (v := .int (z0.1 21)) (C := RX0) (T := TX0) (N := 12) hx hb hts hi_0 hown hK hP 4 rfl rfl 7 (by decide) hfl_26 (fun _ h9 => h9) rfl dX0_writeOneCell_11 ?_
    refine lv_iconst (v := 5) hx hb dX0_writeOneCell_14 (by decide) ?_
    refine lv_icmp_ne (tgt := 25) hx hb dX0_writeOneCell_15 (by decide) (fun c15 => ?_) (fun c15 => ?_)
    · refine lv_aload_n hx hb dX0_writeOneCell_25 rfl (lv_at hl 0 rfl) ?_
      refine fk_Vv (Wd := (fk_cW q k)) (z := z0) (As := []) (rest := []) F9 (c_X0_putNextOfSector l G q k _ z0) (cwV 0 hts gX0_writeOneCell_X0_putNextOfSector rfl rfl rfl (by decide +kernel) ⟨Nat.le_of_ble_eq_true rfl, Nat.le_of_ble_eq_true rfl⟩) (va_recv hK hP (ci := 0) (q0 := 4) rfl rfl) hK hP hD hS hA hN rfl hl.1 rfl (Nat.le_of_ble_eq_true rfl) dX0_writeOneCell_26 ⟨Nat.zero_le _, Nat.zero_le _⟩ (fun z H locs hw hP hD hS => ?_)
      have hf : fX0_writeOneCell z0 = fX0_writeOneCell_c3 z := by rw [fX0_writeOneCell, if_pos c7, if_neg c15, ← hw] <;> rfl
      exact h29 z _ _ ls (by rw [hf, fX0_writeOneCell_c3] <;> rfl) hP hD hS (lv_sub hl [0] rfl)
    · refine lv_aload_n hx hb dX0_writeOneCell_18 rfl (lv_at hl 0 rfl) ?_
      refine fk_Vv (Wd := (fk_cW q k)) (z := z0) (As := []) (rest := []) F9 (c_X0_putNextOfTrack l G q k _ z0) (cwV 0 hts gX0_writeOneCell_X0_putNextOfTrack rfl rfl rfl (by decide +kernel) ⟨Nat.le_of_ble_eq_true rfl, Nat.le_of_ble_eq_true rfl⟩) (va_recv hK hP (ci := 0) (q0 := 4) rfl rfl) hK hP hD hS hA hN rfl hl.1 rfl (Nat.le_of_ble_eq_true rfl) dX0_writeOneCell_19 ⟨Nat.zero_le _, Nat.zero_le _⟩ (fun z H locs hw hP hD hS => ?_)
      have hf : fX0_writeOneCell z0 = fX0_writeOneCell_c4 z := by rw [fX0_writeOneCell, if_pos c7, if_pos c15, ← hw] <;> rfl
      refine lv_goto (tgt := 29) hx hb dX0_writeOneCell_22 (by decide) ?_
      exact h29 z _ _ ls (by rw [hf, fX0_writeOneCell_c4] <;> rfl) hP hD hS (lv_sub hl [0] rfl)
