-- FloppyDesk$Reader.byteInWindow()I
def fX2_byteInWindow (z0 : fk_C) : Int32 :=
  (((((((((((((((0 <<< ((1 : Int32) &&& 31)) ||| (((z0.1 3) >>> ((14 : Int32) &&& 31)) &&& 1)) <<< ((1 : Int32) &&& 31)) ||| (((z0.1 3) >>> ((12 : Int32) &&& 31)) &&& 1)) <<< ((1 : Int32) &&& 31)) ||| (((z0.1 3) >>> ((10 : Int32) &&& 31)) &&& 1)) <<< ((1 : Int32) &&& 31)) ||| (((z0.1 3) >>> ((8 : Int32) &&& 31)) &&& 1)) <<< ((1 : Int32) &&& 31)) ||| (((z0.1 3) >>> ((6 : Int32) &&& 31)) &&& 1)) <<< ((1 : Int32) &&& 31)) ||| (((z0.1 3) >>> ((4 : Int32) &&& 31)) &&& 1)) <<< ((1 : Int32) &&& 31)) ||| (((z0.1 3) >>> ((2 : Int32) &&& 31)) &&& 1)) <<< ((1 : Int32) &&& 31)) ||| (((z0.1 3) >>> ((0 : Int32) &&& 31)) &&& 1)
set_option maxHeartbeats 4000000 in
set_option maxRecDepth 100000 in
theorem c_X2_byteInWindow (l : Launch) (G : va_G) (q : Nat → Nat) (k : Nat → ClassId) (sz : Nat) (z0 : fk_C) : fk_Mp l yX2_byteInWindow wsX2_byteInWindow ({ frames := 0, cells := 0, slots := 0, locals := 0 } : Room) G (fk_cW q k) (fk_cT k) [.ref (q 3)] sz z0 (fX2_byteInWindow z0) := by
  refine fk_head (cc := cX2_byteInWindow) (maxL := 3) (ret := (some .int)) (QQ := fun A => va_Qi (fun r (_ : Unit) => r = fX2_byteInWindow z0) (fun _ => fk_At G (fk_cW q k) (fk_cT k) A z0) A) (by decide) rfl (Nat.le_of_ble_eq_true rfl) ?_ sz
  intro p e s m below meth c A ls hx hb hr hlk hml hown hts hK hN hA hP hD hS hl
  have hown : s.vm.findClass RX2 = some m.cls := hown
  have F9 : CallFix p m c cX2_byteInWindow 3 s ([.ref (q 3)] : List Value).toArray wsX2_byteInWindow RX2 := ⟨hx, hb, hml, hown, hts⟩
  have hl : lv_has ls 3 [(0, .ref (q 3))] := hl
  have hfl_25 := hts (.fieldLink RX2 25 "FloppyDesk$Reader" "window" "I") (by decide +kernel)
  have hi_2 : ∀ w ∈ u_ws RX2 TX2 14, w ∈ wsX2_byteInWindow := by decide +kernel
  refine lv_iconst (v := 0) hx hb dX2_byteInWindow_0 (by decide) ?_
  refine lv_istore_n (lv' := [(1, .int 0), (0, .ref (q 3))]) hx hb dX2_byteInWindow_1 rfl hl (by decide) rfl (fun ls hl => ?_)
  refine lv_bipush (v := 14) hx hb dX2_byteInWindow_2 (by decide) ?_
  refine lv_istore_n (lv' := [(2, .int 14), (1, .int 0), (0, .ref (q 3))]) hx hb dX2_byteInWindow_4 rfl hl (by decide) rfl (fun ls hl => ?_)
  refine lv_iload_n hx hb dX2_byteInWindow_5 rfl (lv_at hl 0 rfl) ?_
  refine lv_if_lt (tgt := 28) hx hb dX2_byteInWindow_6 (by decide) (fun h9 => absurd h9 (by decide)) (fun _ => ?_)
  refine lv_iload_n hx hb dX2_byteInWindow_9 rfl (lv_at hl 1 rfl) ?_
  refine lv_iconst (v := 1) hx hb dX2_byteInWindow_10 (by decide) ?_
  refine lv_ishl hx hb dX2_byteInWindow_11 ?_
  refine lv_aload_n hx hb dX2_byteInWindow_12 rfl (lv_at hl 2 rfl) ?_
  refine va_get (D := G) (ci := 2) (v := .int (z0.1 3)) (C := RX2) (T := TX2) (N := 14) hx hb hts hi_2 hown hK hP 3 rfl rfl 0 (by decide) hfl_25 (fun _ h9 => h9) rfl dX2_byteInWindow_13 ?_
  refine lv_iload_n hx hb dX2_byteInWindow_16 rfl (lv_at hl 0 rfl) ?_
  refine lv_ishr hx hb dX2_byteInWindow_17 ?_
  refine lv_iconst (v := 1) hx hb dX2_byteInWindow_18 (by decide) ?_
  refine lv_iand hx hb dX2_byteInWindow_19 ?_
  refine lv_ior hx hb dX2_byteInWindow_20 ?_
  refine lv_istore_n (lv' := [(1, .int ((0 <<< ((1 : Int32) &&& 31)) ||| (((z0.1 3) >>> ((14 : Int32) &&& 31)) &&& 1))), (2, .int 14), (0, .ref (q 3))]) hx hb dX2_byteInWindow_21 rfl hl (by decide) rfl (fun ls hl => ?_)
  refine lv_iinc (v := 12) (lv' := [(2, .int 12), (1, .int ((0 <<< ((1 : Int32) &&& 31)) ||| (((z0.1 3) >>> ((14 : Int32) &&& 31)) &&& 1))), (0, .ref (q 3))]) hx hb dX2_byteInWindow_22 hl (k := 1) rfl (by decide) (by decide) rfl (fun ls hl => ?_)
  refine lv_goto (tgt := 5) hx hb dX2_byteInWindow_25 (by decide) ?_
  refine lv_iload_n hx hb dX2_byteInWindow_5 rfl (lv_at hl 0 rfl) ?_
  refine lv_if_lt (tgt := 28) hx hb dX2_byteInWindow_6 (by decide) (fun h9 => absurd h9 (by decide)) (fun _ => ?_)
  refine lv_iload_n hx hb dX2_byteInWindow_9 rfl (lv_at hl 1 rfl) ?_
  refine lv_iconst (v := 1) hx hb dX2_byteInWindow_10 (by decide) ?_
  refine lv_ishl hx hb dX2_byteInWindow_11 ?_
  refine lv_aload_n hx hb dX2_byteInWindow_12 rfl (lv_at hl 2 rfl) ?_
  refine va_get (D := G) (ci := 2) (v := .int (z0.1 3)) (C := RX2) (T := TX2) (N := 14) hx hb hts hi_2 hown hK hP 3 rfl rfl 0 (by decide) hfl_25 (fun _ h9 => h9) rfl dX2_byteInWindow_13 ?_
  refine lv_iload_n hx hb dX2_byteInWindow_16 rfl (lv_at hl 0 rfl) ?_
  refine lv_ishr hx hb dX2_byteInWindow_17 ?_
  refine lv_iconst (v := 1) hx hb dX2_byteInWindow_18 (by decide) ?_
  refine lv_iand hx hb dX2_byteInWindow_19 ?_
  refine lv_ior hx hb dX2_byteInWindow_20 ?_
  refine lv_istore_n (lv' := [(1, .int ((((0 <<< ((1 : Int32) &&& 31)) ||| (((z0.1 3) >>> ((14 : Int32) &&& 31)) &&& 1)) <<< ((1 : Int32) &&& 31)) ||| (((z0.1 3) >>> ((12 : Int32) &&& 31)) &&& 1))), (2, .int 12), (0, .ref (q 3))]) hx hb dX2_byteInWindow_21 rfl hl (by decide) rfl (fun ls hl => ?_)
  refine lv_iinc (v := 10) (lv' := [(2, .int 10), (1, .int ((((0 <<< ((1 : Int32) &&& 31)) ||| (((z0.1 3) >>> ((14 : Int32) &&& 31)) &&& 1)) <<< ((1 : Int32) &&& 31)) ||| (((z0.1 3) >>> ((12 : Int32) &&& 31)) &&& 1))), (0, .ref (q 3))]) hx hb dX2_byteInWindow_22 hl (k := 1) rfl (by decide) (by decide) rfl (fun ls hl => ?_)
  refine lv_goto (tgt := 5) hx hb dX2_byteInWindow_25 (by decide) ?_
  refine lv_iload_n hx hb dX2_byteInWindow_5 rfl (lv_at hl 0 rfl) ?_
  refine lv_if_lt (tgt := 28) hx hb dX2_byteInWindow_6 (by decide) (fun h9 => absurd h9 (by decide)) (fun _ => ?_)
  refine lv_iload_n hx hb dX2_byteInWindow_9 rfl (lv_at hl 1 rfl) ?_
  refine lv_iconst (v := 1) hx hb dX2_byteInWindow_10 (by decide) ?_
  refine lv_ishl hx hb dX2_byteInWindow_11 ?_
  refine lv_aload_n hx hb dX2_byteInWindow_12 rfl (lv_at hl 2 rfl) ?_
  refine va_get (D := G) (ci := 2) (v := .int (z0.1 3)) (C := RX2) (T := TX2) (N := 14) hx hb hts hi_2 hown hK hP 3 rfl rfl 0 (by decide) hfl_25 (fun _ h9 => h9) rfl dX2_byteInWindow_13 ?_
  refine lv_iload_n hx hb dX2_byteInWindow_16 rfl (lv_at hl 0 rfl) ?_
  refine lv_ishr hx hb dX2_byteInWindow_17 ?_
  refine lv_iconst (v := 1) hx hb dX2_byteInWindow_18 (by decide) ?_
  refine lv_iand hx hb dX2_byteInWindow_19 ?_
  refine lv_ior hx hb dX2_byteInWindow_20 ?_
  refine lv_istore_n (lv' := [(1, .int ((((((0 <<< ((1 : Int32) &&& 31)) ||| (((z0.1 3) >>> ((14 : Int32) &&& 31)) &&& 1)) <<< ((1 : Int32) &&& 31)) ||| (((z0.1 3) >>> ((12 : Int32) &&& 31)) &&& 1)) <<< ((1 : Int32) &&& 31)) ||| (((z0.1 3) >>> ((10 : Int32) &&& 31)) &&& 1))), (2, .int 10), (0, .ref (q 3))]) hx hb dX2_byteInWindow_21 rfl hl (by decide) rfl (fun ls hl => ?_)
  refine lv_iinc (v := 8) (lv' := [(2, .int 8), (1, .int ((((((0 <<< ((1 : Int32) &&& 31)) ||| (((z0.1 3) >>> ((14 : Int32) &&& 31)) &&& 1)) <<< ((1 : Int32) &&& 31)) ||| (((z0.1 3) >>> ((12 : Int32) &&& 31)) &&& 1)) <<< ((1 : Int32) &&& 31)) ||| (((z0.1 3) >>> ((10 : Int32) &&& 31)) &&& 1))), (0, .ref (q 3))]) hx hb dX2_byteInWindow_22 hl (k := 1) rfl (by decide) (by decide) rfl (fun ls hl => ?_)
  refine lv_goto (tgt := 5) hx hb dX2_byteInWindow_25 (by decide) ?_
  refine lv_iload_n hx hb dX2_byteInWindow_5 rfl (lv_at hl 0 rfl) ?_
  refine lv_if_lt (tgt := 28) hx hb dX2_byteInWindow_6 (by decide) (fun h9 => absurd h9 (by decide)) (fun _ => ?_)
  refine lv_iload_n hx hb dX2_byteInWindow_9 rfl (lv_at hl 1 rfl) ?_
  refine lv_iconst (v := 1) hx hb dX2_byteInWindow_10 (by decide) ?_
  refine lv_ishl hx hb dX2_byteInWindow_11 ?_
  refine lv_aload_n hx hb dX2_byteInWindow_12 rfl (lv_at hl 2 rfl) ?_
  refine va_get (D := G) (ci := 2) (v := .int (z0.1 3)) (C := RX2) (T := TX2) (N := 14) hx hb hts hi_2 hown hK hP 3 rfl rfl 0 (by decide) hfl_25 (fun _ h9 => h9) rfl dX2_byteInWindow_13 ?_
  refine lv_iload_n hx hb dX2_byteInWindow_16 rfl (lv_at hl 0 rfl) ?_
  refine lv_ishr hx hb dX2_byteInWindow_17 ?_
  refine lv_iconst (v := 1) hx hb dX2_byteInWindow_18 (by decide) ?_
  refine lv_iand hx hb dX2_byteInWindow_19 ?_
  refine lv_ior hx hb dX2_byteInWindow_20 ?_
  refine lv_istore_n (lv' := [(1, .int ((((((((0 <<< ((1 : Int32) &&& 31)) ||| (((z0.1 3) >>> ((14 : Int32) &&& 31)) &&& 1)) <<< ((1 : Int32) &&& 31)) ||| (((z0.1 3) >>> ((12 : Int32) &&& 31)) &&& 1)) <<< ((1 : Int32) &&& 31)) ||| (((z0.1 3) >>> ((10 : Int32) &&& 31)) &&& 1)) <<< ((1 : Int32) &&& 31)) ||| (((z0.1 3) >>> ((8 : Int32) &&& 31)) &&& 1))), (2, .int 8), (0, .ref (q 3))]) hx hb dX2_byteInWindow_21 rfl hl (by decide) rfl (fun ls hl => ?_)
  refine lv_iinc (v := 6) (lv' := [(2, .int 6), (1, .int ((((((((0 <<< ((1 : Int32) &&& 31)) ||| (((z0.1 3) >>> ((14 : Int32) &&& 31)) &&& 1)) <<< ((1 : Int32) &&& 31)) ||| (((z0.1 3) >>> ((12 : Int32) &&& 31)) &&& 1)) <<< ((1 : Int32) &&& 31)) ||| (((z0.1 3) >>> ((10 : Int32) &&& 31)) &&& 1)) <<< ((1 : Int32) &&& 31)) ||| (((z0.1 3) >>> ((8 : Int32) &&& 31)) &&& 1))), (0, .ref (q 3))]) hx hb dX2_byteInWindow_22 hl (k := 1) rfl (by decide) (by decide) rfl (fun ls hl => ?_)
  refine lv_goto (tgt := 5) hx hb dX2_byteInWindow_25 (by decide) ?_
  refine lv_iload_n hx hb dX2_byteInWindow_5 rfl (lv_at hl 0 rfl) ?_
  refine lv_if_lt (tgt := 28) hx hb dX2_byteInWindow_6 (by decide) (fun h9 => absurd h9 (by decide)) (fun _ => ?_)
  refine lv_iload_n hx hb dX2_byteInWindow_9 rfl (lv_at hl 1 rfl) ?_
  refine lv_iconst (v := 1) hx hb dX2_byteInWindow_10 (by decide) ?_
  refine lv_ishl hx hb dX2_byteInWindow_11 ?_
  refine lv_aload_n hx hb dX2_byteInWindow_12 rfl (lv_at hl 2 rfl) ?_
  refine va_get (D := G) (ci := 2) (v := .int (z0.1 3)) (C := RX2) (T := TX2) (N := 14) hx hb hts hi_2 hown hK hP 3 rfl rfl 0 (by decide) hfl_25 (fun _ h9 => h9) rfl dX2_byteInWindow_13 ?_
  refine lv_iload_n hx hb dX2_byteInWindow_16 rfl (lv_at hl 0 rfl) ?_
  refine lv_ishr hx hb dX2_byteInWindow_17 ?_
  refine lv_iconst (v := 1) hx hb dX2_byteInWindow_18 (by decide) ?_
  refine lv_iand hx hb dX2_byteInWindow_19 ?_
  refine lv_ior hx hb dX2_byteInWindow_20 ?_
  refine lv_istore_n (lv' := [(1, .int ((((((((((0 <<< ((1 : Int32) &&& 31)) ||| (((z0.1 3) >>> ((14 : Int32) &&& 31)) &&& 1)) <<< ((1 : Int32) &&& 31)) ||| (((z0.1 3) >>> ((12 : Int32) &&& 31)) &&& 1)) <<< ((1 : Int32) &&& 31)) ||| (((z0.1 3) >>> ((10 : Int32) &&& 31)) &&& 1)) <<< ((1 : Int32) &&& 31)) ||| (((z0.1 3) >>> ((8 : Int32) &&& 31)) &&& 1)) <<< ((1 : Int32) &&& 31)) ||| (((z0.1 3) >>> ((6 : Int32) &&& 31)) &&& 1))), (2, .int 6), (0, .ref (q 3))]) hx hb dX2_byteInWindow_21 rfl hl (by decide) rfl (fun ls hl => ?_)
  refine lv_iinc (v := 4) (lv' := [(2, .int 4), (1, .int ((((((((((0 <<< ((1 : Int32) &&& 31)) ||| (((z0.1 3) >>> ((14 : Int32) &&& 31)) &&& 1)) <<< ((1 : Int32) &&& 31)) ||| (((z0.1 3) >>> ((12 : Int32) &&& 31)) &&& 1)) <<< ((1 : Int32) &&& 31)) ||| (((z0.1 3) >>> ((10 : Int32) &&& 31)) &&& 1)) <<< ((1 : Int32) &&& 31)) ||| (((z0.1 3) >>> ((8 : Int32) &&& 31)) &&& 1)) <<< ((1 : Int32) &&& 31)) ||| (((z0.1 3) >>> ((6 : Int32) &&& 31)) &&& 1))), (0, .ref (q 3))]) hx hb dX2_byteInWindow_22 hl (k := 1) rfl (by decide) (by decide) rfl (fun ls hl => ?_)
  refine lv_goto (tgt := 5) hx hb dX2_byteInWindow_25 (by decide) ?_
  refine lv_iload_n hx hb dX2_byteInWindow_5 rfl (lv_at hl 0 rfl) ?_
  refine lv_if_lt (tgt := 28) hx hb dX2_byteInWindow_6 (by decide) (fun h9 => absurd h9 (by decide)) (fun _ => ?_)
  refine lv_iload_n hx hb dX2_byteInWindow_9 rfl (lv_at hl 1 rfl) ?_
  refine lv_iconst (v := 1) hx hb dX2_byteInWindow_10 (by decide) ?_
  refine lv_ishl hx hb dX2_byteInWindow_11 ?_
  refine lv_aload_n hx hb dX2_byteInWindow_12 rfl (lv_at hl 2 rfl) ?_
  refine va_get (D := G) (ci := 2) (v := .int (z0.1 3)) (C := RX2) (T := TX2) (N := 14) hx hb hts hi_2 hown hK hP 3 rfl rfl 0 (by decide) hfl_25 (fun _ h9 => h9) rfl dX2_byteInWindow_13 ?_
  refine lv_iload_n hx hb dX2_byteInWindow_16 rfl (lv_at hl 0 rfl) ?_
  refine lv_ishr hx hb dX2_byteInWindow_17 ?_
  refine lv_iconst (v := 1) hx hb dX2_byteInWindow_18 (by decide) ?_
  refine lv_iand hx hb dX2_byteInWindow_19 ?_
  refine lv_ior hx hb dX2_byteInWindow_20 ?_
  refine lv_istore_n (lv' := [(1, .int ((((((((((((0 <<< ((1 : Int32) &&& 31)) ||| (((z0.1 3) >>> ((14 : Int32) &&& 31)) &&& 1)) <<< ((1 : Int32) &&& 31)) ||| (((z0.1 3) >>> ((12 : Int32) &&& 31)) &&& 1)) <<< ((1 : Int32) &&& 31)) ||| (((z0.1 3) >>> ((10 : Int32) &&& 31)) &&& 1)) <<< ((1 : Int32) &&& 31)) ||| (((z0.1 3) >>> ((8 : Int32) &&& 31)) &&& 1)) <<< ((1 : Int32) &&& 31)) ||| (((z0.1 3) >>> ((6 : Int32) &&& 31)) &&& 1)) <<< ((1 : Int32) &&& 31)) ||| (((z0.1 3) >>> ((4 : Int32) &&& 31)) &&& 1))), (2, .int 4), (0, .ref (q 3))]) hx hb dX2_byteInWindow_21 rfl hl (by decide) rfl (fun ls hl => ?_)
  refine lv_iinc (v := 2) (lv' := [(2, .int 2), (1, .int ((((((((((((0 <<< ((1 : Int32) &&& 31)) ||| (((z0.1 3) >>> ((14 : Int32) &&& 31)) &&& 1)) <<< ((1 : Int32) &&& 31)) ||| (((z0.1 3) >>> ((12 : Int32) &&& 31)) &&& 1)) <<< ((1 : Int32) &&& 31)) ||| (((z0.1 3) >>> ((10 : Int32) &&& 31)) &&& 1)) <<< ((1 : Int32) &&& 31)) ||| (((z0.1 3) >>> ((8 : Int32) &&& 31)) &&& 1)) <<< ((1 : Int32) &&& 31)) ||| (((z0.1 3) >>> ((6 : Int32) &&& 31)) &&& 1)) <<< ((1 : Int32) &&& 31)) ||| (((z0.1 3) >>> ((4 : Int32) &&& 31)) &&& 1))), (0, .ref (q 3))]) hx hb dX2_byteInWindow_22 hl (k := 1) rfl (by decide) (by decide) rfl (fun ls hl => ?_)
  refine lv_goto (tgt := 5) hx hb dX2_byteInWindow_25 (by decide) ?_
  refine lv_iload_n hx hb dX2_byteInWindow_5 rfl (lv_at hl 0 rfl) ?_
  refine lv_if_lt (tgt := 28) hx hb dX2_byteInWindow_6 (by decide) (fun h9 => absurd h9 (by decide)) (fun _ => ?_)
  refine lv_iload_n hx hb dX2_byteInWindow_9 rfl (lv_at hl 1 rfl) ?_
  refine lv_iconst (v := 1) hx hb dX2_byteInWindow_10 (by decide) ?_
  refine lv_ishl hx hb dX2_byteInWindow_11 ?_
  refine lv_aload_n hx hb dX2_byteInWindow_12 rfl (lv_at hl 2 rfl) ?_
  refine va_get (D := G) (ci := 2) (v := .int (z0.1 3)) (C := RX2) (T := TX2) (N := 14) hx hb hts hi_2 hown hK hP 3 rfl rfl 0 (by decide) hfl_25 (fun _ h9 => h9) rfl dX2_byteInWindow_13 ?_
  refine lv_iload_n hx hb dX2_byteInWindow_16 rfl (lv_at hl 0 rfl) ?_
  refine lv_ishr hx hb dX2_byteInWindow_17 ?_
  refine lv_iconst (v := 1) hx hb dX2_byteInWindow_18 (by decide) ?_
  refine lv_iand hx hb dX2_byteInWindow_19 ?_
  refine lv_ior hx hb dX2_byteInWindow_20 ?_
  refine lv_istore_n (lv' := [(1, .int ((((((((((((((0 <<< ((1 : Int32) &&& 31)) ||| (((z0.1 3) >>> ((14 : Int32) &&& 31)) &&& 1)) <<< ((1 : Int32) &&& 31)) ||| (((z0.1 3) >>> ((12 : Int32) &&& 31)) &&& 1)) <<< ((1 : Int32) &&& 31)) ||| (((z0.1 3) >>> ((10 : Int32) &&& 31)) &&& 1)) <<< ((1 : Int32) &&& 31)) ||| (((z0.1 3) >>> ((8 : Int32) &&& 31)) &&& 1)) <<< ((1 : Int32) &&& 31)) ||| (((z0.1 3) >>> ((6 : Int32) &&& 31)) &&& 1)) <<< ((1 : Int32) &&& 31)) ||| (((z0.1 3) >>> ((4 : Int32) &&& 31)) &&& 1)) <<< ((1 : Int32) &&& 31)) ||| (((z0.1 3) >>> ((2 : Int32) &&& 31)) &&& 1))), (2, .int 2), (0, .ref (q 3))]) hx hb dX2_byteInWindow_21 rfl hl (by decide) rfl (fun ls hl => ?_)
  refine lv_iinc (v := 0) (lv' := [(2, .int 0), (1, .int ((((((((((((((0 <<< ((1 : Int32) &&& 31)) ||| (((z0.1 3) >>> ((14 : Int32) &&& 31)) &&& 1)) <<< ((1 : Int32) &&& 31)) ||| (((z0.1 3) >>> ((12 : Int32) &&& 31)) &&& 1)) <<< ((1 : Int32) &&& 31)) ||| (((z0.1 3) >>> ((10 : Int32) &&& 31)) &&& 1)) <<< ((1 : Int32) &&& 31)) ||| (((z0.1 3) >>> ((8 : Int32) &&& 31)) &&& 1)) <<< ((1 : Int32) &&& 31)) ||| (((z0.1 3) >>> ((6 : Int32) &&& 31)) &&& 1)) <<< ((1 : Int32) &&& 31)) ||| (((z0.1 3) >>> ((4 : Int32) &&& 31)) &&& 1)) <<< ((1 : Int32) &&& 31)) ||| (((z0.1 3) >>> ((2 : Int32) &&& 31)) &&& 1))), (0, .ref (q 3))]) hx hb dX2_byteInWindow_22 hl (k := 1) rfl (by decide) (by decide) rfl (fun ls hl => ?_)
  refine lv_goto (tgt := 5) hx hb dX2_byteInWindow_25 (by decide) ?_
  refine lv_iload_n hx hb dX2_byteInWindow_5 rfl (lv_at hl 0 rfl) ?_
  refine lv_if_lt (tgt := 28) hx hb dX2_byteInWindow_6 (by decide) (fun h9 => absurd h9 (by decide)) (fun _ => ?_)
  refine lv_iload_n hx hb dX2_byteInWindow_9 rfl (lv_at hl 1 rfl) ?_
  refine lv_iconst (v := 1) hx hb dX2_byteInWindow_10 (by decide) ?_
  refine lv_ishl hx hb dX2_byteInWindow_11 ?_
  refine lv_aload_n hx hb dX2_byteInWindow_12 rfl (lv_at hl 2 rfl) ?_
  refine va_get (D := G) (ci := 2) (v := .int (z0.1 3)) (C := RX2) (T := TX2) (N := 14) hx hb hts hi_2 hown hK hP 3 rfl rfl 0 (by decide) hfl_25 (fun _ h9 => h9) rfl dX2_byteInWindow_13 ?_
  refine lv_iload_n hx hb dX2_byteInWindow_16 rfl (lv_at hl 0 rfl) ?_
  refine lv_ishr hx hb dX2_byteInWindow_17 ?_
  refine lv_iconst (v := 1) hx hb dX2_byteInWindow_18 (by decide) ?_
  refine lv_iand hx hb dX2_byteInWindow_19 ?_
  refine lv_ior hx hb dX2_byteInWindow_20 ?_
  refine lv_istore_n (lv' := [(1, .int ((((((((((((((((0 <<< ((1 : Int32) &&& 31)) ||| (((z0.1 3) >>> ((14 : Int32) &&& 31)) &&& 1)) <<< ((1 : Int32) &&& 31)) ||| (((z0.1 3) >>> ((12 : Int32) &&& 31)) &&& 1)) <<< ((1 : Int32) &&& 31)) ||| (((z0.1 3) >>> ((10 : Int32) &&& 31)) &&& 1)) <<< ((1 : Int32) &&& 31)) ||| (((z0.1 3) >>> ((8 : Int32) &&& 31)) &&& 1)) <<< ((1 : Int32) &&& 31)) ||| (((z0.1 3) >>> ((6 : Int32) &&& 31)) &&& 1)) <<< ((1 : Int32) &&& 31)) ||| (((z0.1 3) >>> ((4 : Int32) &&& 31)) &&& 1)) <<< ((1 : Int32) &&& 31)) ||| (((z0.1 3) >>> ((2 : Int32) &&& 31)) &&& 1)) <<< ((1 : Int32) &&& 31)) ||| (((z0.1 3) >>> ((0 : Int32) &&& 31)) &&& 1))), (2, .int 0), (0, .ref (q 3))]) hx hb dX2_byteInWindow_21 rfl hl (by decide) rfl (fun ls hl => ?_)
  refine lv_iinc (v := (-2)) (lv' := [(2, .int (-2)), (1, .int ((((((((((((((((0 <<< ((1 : Int32) &&& 31)) ||| (((z0.1 3) >>> ((14 : Int32) &&& 31)) &&& 1)) <<< ((1 : Int32) &&& 31)) ||| (((z0.1 3) >>> ((12 : Int32) &&& 31)) &&& 1)) <<< ((1 : Int32) &&& 31)) ||| (((z0.1 3) >>> ((10 : Int32) &&& 31)) &&& 1)) <<< ((1 : Int32) &&& 31)) ||| (((z0.1 3) >>> ((8 : Int32) &&& 31)) &&& 1)) <<< ((1 : Int32) &&& 31)) ||| (((z0.1 3) >>> ((6 : Int32) &&& 31)) &&& 1)) <<< ((1 : Int32) &&& 31)) ||| (((z0.1 3) >>> ((4 : Int32) &&& 31)) &&& 1)) <<< ((1 : Int32) &&& 31)) ||| (((z0.1 3) >>> ((2 : Int32) &&& 31)) &&& 1)) <<< ((1 : Int32) &&& 31)) ||| (((z0.1 3) >>> ((0 : Int32) &&& 31)) &&& 1))), (0, .ref (q 3))]) hx hb dX2_byteInWindow_22 hl (k := 1) rfl (by decide) (by decide) rfl (fun ls hl => ?_)
  refine lv_goto (tgt := 5) hx hb dX2_byteInWindow_25 (by decide) ?_
  refine lv_iload_n hx hb dX2_byteInWindow_5 rfl (lv_at hl 0 rfl) ?_
  refine lv_if_lt (tgt := 28) hx hb dX2_byteInWindow_6 (by decide) (fun _ => ?_) (fun h9 => absurd h9 (by decide))
  refine lv_iload_n hx hb dX2_byteInWindow_28 rfl (lv_at hl 1 rfl) ?_
  exact fk_pret hx hb hr hlk hK hP hD hS rfl (Eq.symm (by rw [fX2_byteInWindow] <;> rfl)) dX2_byteInWindow_29
-- FloppyDesk$Reader.beginField()I
def fX2_beginField_109 : Nat → fk_C → Int32 → Int32 × fk_C
  | 0, z, x2 => (0, z)
  | n + 1, z, x2 =>
  (if 3 ≤ x2 then (1, (upd z.1 10 (fX5_checkWith (z.1 10) (z.1 8)), z.2)) else fX2_beginField_109 n (upd z.1 10 (fX5_checkWith (z.1 10) 161), z.2) (x2 + 1))
def fX2_beginField_80 (z : fk_C) : Int32 × fk_C :=
  fX2_beginField_109 4 (upd (upd (upd (upd z.1 11 (z.1 7)) 8 (z.1 12)) 9 0) 10 65535, z.2) 0
def fX2_beginField_65 (z : fk_C) : Int32 × fk_C :=
  fX2_beginField_80 (upd z.1 7 2, z.2)
def fX2_beginField_41 (z : fk_C) (x1 : Int32) : Int32 × fk_C :=
  (if x1 = 0 then (0, (upd z.1 4 0, z.2)) else (if (z.1 12) = 251 then fX2_beginField_65 z else (if (z.1 12) = 248 then fX2_beginField_65 z else (0, (upd z.1 4 0, z.2)))))
def fX2_beginField_13 (z : fk_C) (s0 : Int32) : Int32 × fk_C :=
  (if s0 = 0 then fX2_beginField_41 (upd z.1 5 0, z.2) s0 else (if (z.1 12) = 254 then fX2_beginField_80 (upd (upd z.1 5 0) 7 1, z.2) else fX2_beginField_41 (upd z.1 5 0, z.2) s0))
def fX2_beginField (z0 : fk_C) : Int32 × fk_C :=
  (if (z0.1 5) < 3 then fX2_beginField_13 z0 0 else fX2_beginField_13 z0 1)
set_option maxHeartbeats 4000000 in
set_option maxRecDepth 100000 in
theorem c_X2_beginField (l : Launch) (G : va_G) (q : Nat → Nat) (k : Nat → ClassId) (sz : Nat) (z0 : fk_C) : fk_Mi l yX2_beginField wsX2_beginField ({ frames := 1, cells := 0, slots := 0, locals := 23 } : Room) G (fk_cW q k) (fk_cT k) [.ref (q 3)] sz z0 (fX2_beginField z0) := by
  refine fk_head (cc := cX2_beginField) (maxL := 3) (ret := (some .int)) (QQ := fun A => va_Qi (fun r z1 => (r, z1) = fX2_beginField z0) (fk_At G (fk_cW q k) (fk_cT k) A) A) (by decide) rfl (Nat.le_of_ble_eq_true rfl) ?_ sz
  intro p e s m below meth c A ls hx hb hr hlk hml hown hts hK hN hA hP hD hS hl
  have hown : s.vm.findClass RX2 = some m.cls := hown
  have F9 : CallFix p m c cX2_beginField 3 s ([.ref (q 3)] : List Value).toArray wsX2_beginField RX2 := ⟨hx, hb, hml, hown, hts⟩
  have hl : lv_has ls 3 [(0, .ref (q 3))] := hl
  have hcst_28 := hts (.constant RX2 28 65535) (by decide +kernel)
  have hfl_15 := hts (.fieldLink RX2 15 "FloppyDesk$Reader" "inStep" "Z") (by decide +kernel)
  have hfl_19 := hts (.fieldLink RX2 19 "FloppyDesk$Reader" "marks" "I") (by decide +kernel)
  have hfl_22 := hts (.fieldLink RX2 22 "FloppyDesk$Reader" "field" "I") (by decide +kernel)
  have hfl_36 := hts (.fieldLink RX2 36 "FloppyDesk$Reader" "latestByte" "I") (by decide +kernel)
  have hfl_45 := hts (.fieldLink RX2 45 "FloppyDesk$Reader" "latestField" "I") (by decide +kernel)
  have hfl_48 := hts (.fieldLink RX2 48 "FloppyDesk$Reader" "fieldStart" "I") (by decide +kernel)
  have hfl_51 := hts (.fieldLink RX2 51 "FloppyDesk$Reader" "fieldBytes" "I") (by decide +kernel)
  have hfl_54 := hts (.fieldLink RX2 54 "FloppyDesk$Reader" "fieldCheck" "I") (by decide +kernel)
  have hi_2 : ∀ w ∈ u_ws RX2 TX2 14, w ∈ wsX2_beginField := by decide +kernel
  have h109 : ∀ (n : Nat) (j : Nat) (z : fk_C) (x2 : Int32) (H : Heap) (locs : List Loc) (ls : Array Slot), fX2_beginField z0 = fX2_beginField_109 n z x2 → (x2 = nI j) → (j ≤ 3) → (3 + 1 ≤ j + n) → va_P G vwCl ((fk_cW q k) z) H → va_D A ((fk_cW q k) z) → va_S A s.heap H locs → lv_has ls 3 [(0, .ref (q 3)), (2, .int x2)] → W p l e ({ frames := 1, cells := 0, slots := 0, locals := 23 } : Room) s m ([.ref (q 3)] : List Value).toArray below meth c H locs 0 0 (MQ below (va_Qi (fun r z1 => (r, z1) = fX2_beginField z0) (fk_At G (fk_cW q k) (fk_cT k) A) A) ([.ref (q 3)] : List Value).toArray s 0 0 A) (F0 m 109 ls []) := by
    intro n
    induction n with
    | zero =>
      intro j z x2 H locs ls hf hj hjN hfu hP hD hS hl
      exact absurd hfu (by omega)
    | succ n ih =>
      intro j z x2 H locs ls hf hj hjN hfu hP hD hS hl
      refine lv_iload_n hx hb dX2_beginField_109 rfl (lv_at hl 1 rfl) ?_
      refine lv_iconst (v := 3) hx hb dX2_beginField_110 (by decide) ?_
      refine lv_icmp_ge (tgt := 134) hx hb dX2_beginField_111 (by decide) (fun c111 => ?_) (fun c111 => ?_)
      · refine lv_aload_n hx hb dX2_beginField_134 rfl (lv_at hl 0 rfl) ?_
        refine lv_aload_n hx hb dX2_beginField_135 rfl (lv_at hl 0 rfl) ?_
        refine va_get (D := G) (ci := 2) (v := .int (z.1 10)) (C := RX2) (T := TX2) (N := 14) hx hb hts hi_2 hown hK hP 3 rfl rfl 7 (by decide) hfl_54 (fun _ h9 => h9) rfl dX2_beginField_136 ?_
        refine lv_aload_n hx hb dX2_beginField_139 rfl (lv_at hl 0 rfl) ?_
        refine va_get (D := G) (ci := 2) (v := .int (z.1 8)) (C := RX2) (T := TX2) (N := 14) hx hb hts hi_2 hown hK hP 3 rfl rfl 5 (by decide) hfl_48 (fun _ h9 => h9) rfl dX2_beginField_140 ?_
        refine fk_Np (Wd := (fk_cW q k)) (z := z) (As := [.int (z.1 10), .int (z.1 8)]) (rest := [.ref (q 3)]) F9 (c_X5_checkWith l G q k _ z (z.1 10) (z.1 8)) ⟨va_cnB 2 hts gX2_beginField_X5_checkWith_n57 rfl rfl rfl (hN.m 2 rfl) (hts (.initialized RX5) (by decide +kernel)) (by decide +kernel) ⟨Nat.le_of_ble_eq_true rfl, Nat.le_of_ble_eq_true rfl⟩, hts (.static yX5_checkWith) (by decide +kernel), trivial⟩ hK hP hD hS hA hN rfl hl.1 rfl (Nat.le_of_ble_eq_true rfl) dX2_beginField_143 ⟨Nat.zero_le _, Nat.zero_le _⟩ (fun H locs hP hD hS => ?_)
        refine va_put (D := G) (ci := 2) (v := .int (fX5_checkWith (z.1 10) (z.1 8))) (ty := .int) (C := RX2) (T := TX2) (N := 14) hx hb hts hi_2 tyX2 tyX2_ok nmX2 hown hK hP hD hS 3 rfl rfl 7 (by decide) hfl_54 (fun _ h9 => h9) rfl (by decide +kernel) rfl rfl (Nat.le_of_ble_eq_true rfl) dX2_beginField_146 (fun H locs hP hD hS => ?_)
        have hP : va_P G vwCl ((fk_cW q k) (upd z.1 10 (fX5_checkWith (z.1 10) (z.1 8)), z.2)) H := hP
        have hD : va_D A ((fk_cW q k) (upd z.1 10 (fX5_checkWith (z.1 10) (z.1 8)), z.2)) := hD
        refine lv_iconst (v := 1) hx hb dX2_beginField_149 (by decide) ?_
        exact fk_iret hx hb hr hlk hK hP hD hS rfl (Eq.symm (by rw [hf, fX2_beginField_109, if_pos c111] <;> rfl)) dX2_beginField_150
      · have hlt : j < 3 := fk_up hj (by decide) (by omega) c111
        refine lv_aload_n hx hb dX2_beginField_114 rfl (lv_at hl 0 rfl) ?_
        refine lv_aload_n hx hb dX2_beginField_115 rfl (lv_at hl 0 rfl) ?_
        refine va_get (D := G) (ci := 2) (v := .int (z.1 10)) (C := RX2) (T := TX2) (N := 14) hx hb hts hi_2 hown hK hP 3 rfl rfl 7 (by decide) hfl_54 (fun _ h9 => h9) rfl dX2_beginField_116 ?_
        refine lv_sipush (v := 161) hx hb dX2_beginField_119 (by decide) ?_
        refine fk_Np (Wd := (fk_cW q k)) (z := z) (As := [.int (z.1 10), .int 161]) (rest := [.ref (q 3)]) F9 (c_X5_checkWith l G q k _ z (z.1 10) 161) ⟨va_cnB 2 hts gX2_beginField_X5_checkWith_n57 rfl rfl rfl (hN.m 2 rfl) (hts (.initialized RX5) (by decide +kernel)) (by decide +kernel) ⟨Nat.le_of_ble_eq_true rfl, Nat.le_of_ble_eq_true rfl⟩, hts (.static yX5_checkWith) (by decide +kernel), trivial⟩ hK hP hD hS hA hN rfl hl.1 rfl (Nat.le_of_ble_eq_true rfl) dX2_beginField_122 ⟨Nat.zero_le _, Nat.zero_le _⟩ (fun H locs hP hD hS => ?_)
        refine va_put (D := G) (ci := 2) (v := .int (fX5_checkWith (z.1 10) 161)) (ty := .int) (C := RX2) (T := TX2) (N := 14) hx hb hts hi_2 tyX2 tyX2_ok nmX2 hown hK hP hD hS 3 rfl rfl 7 (by decide) hfl_54 (fun _ h9 => h9) rfl (by decide +kernel) rfl rfl (Nat.le_of_ble_eq_true rfl) dX2_beginField_125 (fun H locs hP hD hS => ?_)
        have hP : va_P G vwCl ((fk_cW q k) (upd z.1 10 (fX5_checkWith (z.1 10) 161), z.2)) H := hP
        have hD : va_D A ((fk_cW q k) (upd z.1 10 (fX5_checkWith (z.1 10) 161), z.2)) := hD
        refine lv_iinc (v := x2 + 1) (lv' := [(2, .int (x2 + 1)), (0, .ref (q 3))]) hx hb dX2_beginField_128 hl (k := 1) rfl (by rfl) (by decide) rfl (fun ls hl => ?_)
        refine lv_goto (tgt := 109) hx hb dX2_beginField_131 (by decide) ?_
        exact ih (j + 1) (upd z.1 10 (fX5_checkWith (z.1 10) 161), z.2) (x2 + 1) _ _ ls (by rw [hf, fX2_beginField_109, if_neg c111] <;> rfl) (fk_up1 hj) (by omega) (by omega) hP hD hS (lv_sub hl [1, 0] rfl)
  have h80 : ∀ (z : fk_C) (H : Heap) (locs : List Loc) (ls : Array Slot), fX2_beginField z0 = fX2_beginField_80 z  → va_P G vwCl ((fk_cW q k) z) H → va_D A ((fk_cW q k) z) → va_S A s.heap H locs → lv_has ls 3 [(0, .ref (q 3))] → W p l e ({ frames := 1, cells := 0, slots := 0, locals := 23 } : Room) s m ([.ref (q 3)] : List Value).toArray below meth c H locs 0 0 (MQ below (va_Qi (fun r z1 => (r, z1) = fX2_beginField z0) (fk_At G (fk_cW q k) (fk_cT k) A) A) ([.ref (q 3)] : List Value).toArray s 0 0 A) (F0 m 80 ls []) := by
    intro z H locs ls hf  hP hD hS hl
    refine lv_aload_n hx hb dX2_beginField_80 rfl (lv_at hl 0 rfl) ?_
    refine lv_aload_n hx hb dX2_beginField_81 rfl (lv_at hl 0 rfl) ?_
    refine va_get (D := G) (ci := 2) (v := .int (z.1 7)) (C := RX2) (T := TX2) (N := 14) hx hb hts hi_2 hown hK hP 3 rfl rfl 4 (by decide) hfl_22 (fun _ h9 => h9) rfl dX2_beginField_82 ?_
    refine va_put (D := G) (ci := 2) (v := .int (z.1 7)) (ty := .int) (C := RX2) (T := TX2) (N := 14) hx hb hts hi_2 tyX2 tyX2_ok nmX2 hown hK hP hD hS 3 rfl rfl 8 (by decide) hfl_45 (fun _ h9 => h9) rfl (by decide +kernel) rfl rfl (Nat.le_of_ble_eq_true rfl) dX2_beginField_85 (fun H locs hP hD hS => ?_)
    have hP : va_P G vwCl ((fk_cW q k) (upd z.1 11 (z.1 7), z.2)) H := hP
    have hD : va_D A ((fk_cW q k) (upd z.1 11 (z.1 7), z.2)) := hD
    refine lv_aload_n hx hb dX2_beginField_88 rfl (lv_at hl 0 rfl) ?_
    refine lv_aload_n hx hb dX2_beginField_89 rfl (lv_at hl 0 rfl) ?_
    refine va_get (D := G) (ci := 2) (v := .int (z.1 12)) (C := RX2) (T := TX2) (N := 14) hx hb hts hi_2 hown hK hP 3 rfl rfl 9 (by decide) hfl_36 (fun _ h9 => h9) rfl dX2_beginField_90 ?_
    refine va_put (D := G) (ci := 2) (v := .int (z.1 12)) (ty := .int) (C := RX2) (T := TX2) (N := 14) hx hb hts hi_2 tyX2 tyX2_ok nmX2 hown hK hP hD hS 3 rfl rfl 5 (by decide) hfl_48 (fun _ h9 => h9) rfl (by decide +kernel) rfl rfl (Nat.le_of_ble_eq_true rfl) dX2_beginField_93 (fun H locs hP hD hS => ?_)
    have hP : va_P G vwCl ((fk_cW q k) (upd (upd z.1 11 (z.1 7)) 8 (z.1 12), z.2)) H := hP
    have hD : va_D A ((fk_cW q k) (upd (upd z.1 11 (z.1 7)) 8 (z.1 12), z.2)) := hD
    refine lv_aload_n hx hb dX2_beginField_96 rfl (lv_at hl 0 rfl) ?_
    refine lv_iconst (v := 0) hx hb dX2_beginField_97 (by decide) ?_
    refine va_put (D := G) (ci := 2) (v := .int 0) (ty := .int) (C := RX2) (T := TX2) (N := 14) hx hb hts hi_2 tyX2 tyX2_ok nmX2 hown hK hP hD hS 3 rfl rfl 6 (by decide) hfl_51 (fun _ h9 => h9) rfl (by decide +kernel) rfl rfl (Nat.le_of_ble_eq_true rfl) dX2_beginField_98 (fun H locs hP hD hS => ?_)
    have hP : va_P G vwCl ((fk_cW q k) (upd (upd (upd z.1 11 (z.1 7)) 8 (z.1 12)) 9 0, z.2)) H := hP
    have hD : va_D A ((fk_cW q k) (upd (upd (upd z.1 11 (z.1 7)) 8 (z.1 12)) 9 0, z.2)) := hD
    refine lv_aload_n hx hb dX2_beginField_101 rfl (lv_at hl 0 rfl) ?_
    refine lv_ldc (own := RX2) (v := 65535) hx hb hown hcst_28 dX2_beginField_102 ?_
    refine va_put (D := G) (ci := 2) (v := .int 65535) (ty := .int) (C := RX2) (T := TX2) (N := 14) hx hb hts hi_2 tyX2 tyX2_ok nmX2 hown hK hP hD hS 3 rfl rfl 7 (by decide) hfl_54 (fun _ h9 => h9) rfl (by decide +kernel) rfl rfl (Nat.le_of_ble_eq_true rfl) dX2_beginField_104 (fun H locs hP hD hS => ?_)
    have hP : va_P G vwCl ((fk_cW q k) (upd (upd (upd (upd z.1 11 (z.1 7)) 8 (z.1 12)) 9 0) 10 65535, z.2)) H := hP
    have hD : va_D A ((fk_cW q k) (upd (upd (upd (upd z.1 11 (z.1 7)) 8 (z.1 12)) 9 0) 10 65535, z.2)) := hD
    refine lv_iconst (v := 0) hx hb dX2_beginField_107 (by decide) ?_
    refine lv_istore_n (lv' := [(2, .int 0), (0, .ref (q 3))]) hx hb dX2_beginField_108 rfl hl (by decide) rfl (fun ls hl => ?_)
    exact h109 4 0 (upd (upd (upd (upd z.1 11 (z.1 7)) 8 (z.1 12)) 9 0) 10 65535, z.2) 0 _ _ ls (by rw [hf, fX2_beginField_80] <;> rfl) (by decide) (by omega) (by omega) hP hD hS (lv_sub hl [1, 0] rfl)
  have h65 : ∀ (z : fk_C) (H : Heap) (locs : List Loc) (ls : Array Slot), fX2_beginField z0 = fX2_beginField_65 z  → va_P G vwCl ((fk_cW q k) z) H → va_D A ((fk_cW q k) z) → va_S A s.heap H locs → lv_has ls 3 [(0, .ref (q 3))] → W p l e ({ frames := 1, cells := 0, slots := 0, locals := 23 } : Room) s m ([.ref (q 3)] : List Value).toArray below meth c H locs 0 0 (MQ below (va_Qi (fun r z1 => (r, z1) = fX2_beginField z0) (fk_At G (fk_cW q k) (fk_cT k) A) A) ([.ref (q 3)] : List Value).toArray s 0 0 A) (F0 m 65 ls []) := by
    intro z H locs ls hf  hP hD hS hl
    refine lv_aload_n hx hb dX2_beginField_65 rfl (lv_at hl 0 rfl) ?_
    refine lv_iconst (v := 2) hx hb dX2_beginField_66 (by decide) ?_
    refine va_put (D := G) (ci := 2) (v := .int 2) (ty := .int) (C := RX2) (T := TX2) (N := 14) hx hb hts hi_2 tyX2 tyX2_ok nmX2 hown hK hP hD hS 3 rfl rfl 4 (by decide) hfl_22 (fun _ h9 => h9) rfl (by decide +kernel) rfl rfl (Nat.le_of_ble_eq_true rfl) dX2_beginField_67 (fun H locs hP hD hS => ?_)
    have hP : va_P G vwCl ((fk_cW q k) (upd z.1 7 2, z.2)) H := hP
    have hD : va_D A ((fk_cW q k) (upd z.1 7 2, z.2)) := hD
    refine lv_goto (tgt := 80) hx hb dX2_beginField_70 (by decide) ?_
    exact h80 (upd z.1 7 2, z.2) _ _ ls (by rw [hf, fX2_beginField_65] <;> rfl) hP hD hS (lv_sub hl [0] rfl)
  have h41 : ∀ (z : fk_C) (x1 : Int32) (H : Heap) (locs : List Loc) (ls : Array Slot), fX2_beginField z0 = fX2_beginField_41 z x1 → va_P G vwCl ((fk_cW q k) z) H → va_D A ((fk_cW q k) z) → va_S A s.heap H locs → lv_has ls 3 [(0, .ref (q 3)), (1, .int x1)] → W p l e ({ frames := 1, cells := 0, slots := 0, locals := 23 } : Room) s m ([.ref (q 3)] : List Value).toArray below meth c H locs 0 0 (MQ below (va_Qi (fun r z1 => (r, z1) = fX2_beginField z0) (fk_At G (fk_cW q k) (fk_cT k) A) A) ([.ref (q 3)] : List Value).toArray s 0 0 A) (F0 m 41 ls []) := by
    intro z x1 H locs ls hf  hP hD hS hl
    refine lv_iload_n hx hb dX2_beginField_41 rfl (lv_at hl 1 rfl) ?_
    refine lv_if_eq (tgt := 73) hx hb dX2_beginField_42 (by decide) (fun c42 => ?_) (fun c42 => ?_)
    · refine lv_aload_n hx hb dX2_beginField_73 rfl (lv_at hl 0 rfl) ?_
      refine lv_iconst (v := 0) hx hb dX2_beginField_74 (by decide) ?_
      refine va_put (D := G) (ci := 2) (v := .int 0) (ty := .boolean) (C := RX2) (T := TX2) (N := 14) hx hb hts hi_2 tyX2 tyX2_ok nmX2 hown hK hP hD hS 3 rfl rfl 1 (by decide) hfl_15 (fun _ h9 => h9) rfl (by decide +kernel) rfl rfl (Nat.le_of_ble_eq_true rfl) dX2_beginField_75 (fun H locs hP hD hS => ?_)
      have hP : va_P G vwCl ((fk_cW q k) (upd z.1 4 0, z.2)) H := hP
      have hD : va_D A ((fk_cW q k) (upd z.1 4 0, z.2)) := hD
      refine lv_iconst (v := 0) hx hb dX2_beginField_78 (by decide) ?_
      exact fk_iret hx hb hr hlk hK hP hD hS rfl (Eq.symm (by rw [hf, fX2_beginField_41, if_pos c42] <;> rfl)) dX2_beginField_79
    · refine lv_aload_n hx hb dX2_beginField_45 rfl (lv_at hl 0 rfl) ?_
      refine va_get (D := G) (ci := 2) (v := .int (z.1 12)) (C := RX2) (T := TX2) (N := 14) hx hb hts hi_2 hown hK hP 3 rfl rfl 9 (by decide) hfl_36 (fun _ h9 => h9) rfl dX2_beginField_46 ?_
      refine lv_sipush (v := 251) hx hb dX2_beginField_49 (by decide) ?_
      refine lv_icmp_eq (tgt := 65) hx hb dX2_beginField_52 (by decide) (fun c52 => ?_) (fun c52 => ?_)
      · exact h65 z _ _ ls (by rw [hf, fX2_beginField_41, if_neg c42, if_pos c52] <;> rfl) hP hD hS (lv_sub hl [0] rfl)
      · refine lv_aload_n hx hb dX2_beginField_55 rfl (lv_at hl 0 rfl) ?_
        refine va_get (D := G) (ci := 2) (v := .int (z.1 12)) (C := RX2) (T := TX2) (N := 14) hx hb hts hi_2 hown hK hP 3 rfl rfl 9 (by decide) hfl_36 (fun _ h9 => h9) rfl dX2_beginField_56 ?_
        refine lv_sipush (v := 248) hx hb dX2_beginField_59 (by decide) ?_
        refine lv_icmp_ne (tgt := 73) hx hb dX2_beginField_62 (by decide) (fun c62 => ?_) (fun c62 => ?_)
        · refine lv_aload_n hx hb dX2_beginField_73 rfl (lv_at hl 0 rfl) ?_
          refine lv_iconst (v := 0) hx hb dX2_beginField_74 (by decide) ?_
          refine va_put (D := G) (ci := 2) (v := .int 0) (ty := .boolean) (C := RX2) (T := TX2) (N := 14) hx hb hts hi_2 tyX2 tyX2_ok nmX2 hown hK hP hD hS 3 rfl rfl 1 (by decide) hfl_15 (fun _ h9 => h9) rfl (by decide +kernel) rfl rfl (Nat.le_of_ble_eq_true rfl) dX2_beginField_75 (fun H locs hP hD hS => ?_)
          have hP : va_P G vwCl ((fk_cW q k) (upd z.1 4 0, z.2)) H := hP
          have hD : va_D A ((fk_cW q k) (upd z.1 4 0, z.2)) := hD
          refine lv_iconst (v := 0) hx hb dX2_beginField_78 (by decide) ?_
          exact fk_iret hx hb hr hlk hK hP hD hS rfl (Eq.symm (by rw [hf, fX2_beginField_41, if_neg c42, if_neg c52, if_neg c62] <;> rfl)) dX2_beginField_79
        · exact h65 z _ _ ls (by rw [hf, fX2_beginField_41, if_neg c42, if_neg c52, if_pos c62] <;> rfl) hP hD hS (lv_sub hl [0] rfl)
  have h13 : ∀ (z : fk_C) (s0 : Int32) (H : Heap) (locs : List Loc) (ls : Array Slot), fX2_beginField z0 = fX2_beginField_13 z s0 → va_P G vwCl ((fk_cW q k) z) H → va_D A ((fk_cW q k) z) → va_S A s.heap H locs → lv_has ls 3 [(0, .ref (q 3))] → W p l e ({ frames := 1, cells := 0, slots := 0, locals := 23 } : Room) s m ([.ref (q 3)] : List Value).toArray below meth c H locs 0 0 (MQ below (va_Qi (fun r z1 => (r, z1) = fX2_beginField z0) (fk_At G (fk_cW q k) (fk_cT k) A) A) ([.ref (q 3)] : List Value).toArray s 0 0 A) (F0 m 13 ls [.int s0]) := by
    intro z s0 H locs ls hf  hP hD hS hl
    refine lv_istore_n (lv' := [(1, .int s0), (0, .ref (q 3))]) hx hb dX2_beginField_13 rfl hl (by decide) rfl (fun ls hl => ?_)
    refine lv_aload_n hx hb dX2_beginField_14 rfl (lv_at hl 1 rfl) ?_
    refine lv_iconst (v := 0) hx hb dX2_beginField_15 (by decide) ?_
    refine va_put (D := G) (ci := 2) (v := .int 0) (ty := .int) (C := RX2) (T := TX2) (N := 14) hx hb hts hi_2 tyX2 tyX2_ok nmX2 hown hK hP hD hS 3 rfl rfl 2 (by decide) hfl_19 (fun _ h9 => h9) rfl (by decide +kernel) rfl rfl (Nat.le_of_ble_eq_true rfl) dX2_beginField_16 (fun H locs hP hD hS => ?_)
    have hP : va_P G vwCl ((fk_cW q k) (upd z.1 5 0, z.2)) H := hP
    have hD : va_D A ((fk_cW q k) (upd z.1 5 0, z.2)) := hD
    refine lv_iload_n hx hb dX2_beginField_19 rfl (lv_at hl 0 rfl) ?_
    refine lv_if_eq (tgt := 41) hx hb dX2_beginField_20 (by decide) (fun c20 => ?_) (fun c20 => ?_)
    · exact h41 (upd z.1 5 0, z.2) s0 _ _ ls (by rw [hf, fX2_beginField_13, if_pos c20] <;> rfl) hP hD hS (lv_sub hl [1, 0] rfl)
    · refine lv_aload_n hx hb dX2_beginField_23 rfl (lv_at hl 1 rfl) ?_
      refine va_get (D := G) (ci := 2) (v := .int (z.1 12)) (C := RX2) (T := TX2) (N := 14) hx hb hts hi_2 hown hK hP 3 rfl rfl 9 (by decide) hfl_36 (fun _ h9 => h9) rfl dX2_beginField_24 ?_
      refine lv_sipush (v := 254) hx hb dX2_beginField_27 (by decide) ?_
      refine lv_icmp_ne (tgt := 41) hx hb dX2_beginField_30 (by decide) (fun c30 => ?_) (fun c30 => ?_)
      · exact h41 (upd z.1 5 0, z.2) s0 _ _ ls (by rw [hf, fX2_beginField_13, if_neg c20, if_neg c30] <;> rfl) hP hD hS (lv_sub hl [1, 0] rfl)
      · refine lv_aload_n hx hb dX2_beginField_33 rfl (lv_at hl 1 rfl) ?_
        refine lv_iconst (v := 1) hx hb dX2_beginField_34 (by decide) ?_
        refine va_put (D := G) (ci := 2) (v := .int 1) (ty := .int) (C := RX2) (T := TX2) (N := 14) hx hb hts hi_2 tyX2 tyX2_ok nmX2 hown hK hP hD hS 3 rfl rfl 4 (by decide) hfl_22 (fun _ h9 => h9) rfl (by decide +kernel) rfl rfl (Nat.le_of_ble_eq_true rfl) dX2_beginField_35 (fun H locs hP hD hS => ?_)
        have hP : va_P G vwCl ((fk_cW q k) (upd (upd z.1 5 0) 7 1, z.2)) H := hP
        have hD : va_D A ((fk_cW q k) (upd (upd z.1 5 0) 7 1, z.2)) := hD
        refine lv_goto (tgt := 80) hx hb dX2_beginField_38 (by decide) ?_
        exact h80 (upd (upd z.1 5 0) 7 1, z.2) _ _ ls (by rw [hf, fX2_beginField_13, if_neg c20, if_pos c30] <;> rfl) hP hD hS (lv_sub hl [1] rfl)
  refine lv_aload_n hx hb dX2_beginField_0 rfl (lv_at hl 0 rfl) ?_
  refine va_get (D := G) (ci := 2) (v := .int (z0.1 5)) (C := RX2) (T := TX2) (N := 14) hx hb hts hi_2 hown hK hP 3 rfl rfl 2 (by decide) hfl_19 (fun _ h9 => h9) rfl dX2_beginField_1 ?_
  refine lv_iconst (v := 3) hx hb dX2_beginField_4 (by decide) ?_
  refine lv_icmp_lt (tgt := 12) hx hb dX2_beginField_5 (by decide) (fun c5 => ?_) (fun c5 => ?_)
  · refine lv_iconst (v := 0) hx hb dX2_beginField_12 (by decide) ?_
    exact h13 z0 0 _ _ ls (by rw [fX2_beginField, if_pos c5] <;> rfl) hP hD hS (lv_sub hl [0] rfl)
  · refine lv_iconst (v := 1) hx hb dX2_beginField_8 (by decide) ?_
    refine lv_goto (tgt := 13) hx hb dX2_beginField_9 (by decide) ?_
    exact h13 z0 1 _ _ ls (by rw [fX2_beginField, if_neg c5] <;> rfl) hP hD hS (lv_sub hl [0] rfl)
-- FloppyDesk$Reader.keepIdByte()V
def fX2_keepIdByte (z0 : fk_C) : fk_C :=
  (if (z0.1 9) = 0 then (upd z0.1 13 (z0.1 12), z0.2) else (if (z0.1 9) = 2 then (upd z0.1 14 (z0.1 12), z0.2) else (if (z0.1 9) = 3 then (upd z0.1 15 (z0.1 12), z0.2) else z0)))
set_option maxHeartbeats 4000000 in
set_option maxRecDepth 100000 in
theorem c_X2_keepIdByte (l : Launch) (G : va_G) (q : Nat → Nat) (k : Nat → ClassId) (sz : Nat) (z0 : fk_C) : fk_Mv l yX2_keepIdByte wsX2_keepIdByte ({ frames := 0, cells := 0, slots := 0, locals := 0 } : Room) G (fk_cW q k) (fk_cT k) [.ref (q 3)] sz z0 (fX2_keepIdByte z0) := by
  refine fk_head (cc := cX2_keepIdByte) (maxL := 1) (ret := none) (QQ := fun A => va_Qv (fun z1 => z1 = fX2_keepIdByte z0) (fk_At G (fk_cW q k) (fk_cT k) A) A) (by decide) rfl (Nat.le_of_ble_eq_true rfl) ?_ sz
  intro p e s m below meth c A ls hx hb hr hlk hml hown hts hK hN hA hP hD hS hl
  have hown : s.vm.findClass RX2 = some m.cls := hown
  have F9 : CallFix p m c cX2_keepIdByte 1 s ([.ref (q 3)] : List Value).toArray wsX2_keepIdByte RX2 := ⟨hx, hb, hml, hown, hts⟩
  have hl : lv_has ls 1 [(0, .ref (q 3))] := hl
  have hfl_36 := hts (.fieldLink RX2 36 "FloppyDesk$Reader" "latestByte" "I") (by decide +kernel)
  have hfl_51 := hts (.fieldLink RX2 51 "FloppyDesk$Reader" "fieldBytes" "I") (by decide +kernel)
  have hfl_68 := hts (.fieldLink RX2 68 "FloppyDesk$Reader" "idLength" "I") (by decide +kernel)
  have hfl_71 := hts (.fieldLink RX2 71 "FloppyDesk$Reader" "idTrack" "I") (by decide +kernel)
  have hfl_74 := hts (.fieldLink RX2 74 "FloppyDesk$Reader" "idSector" "I") (by decide +kernel)
  have hi_2 : ∀ w ∈ u_ws RX2 TX2 14, w ∈ wsX2_keepIdByte := by decide +kernel
  refine lv_aload_n hx hb dX2_keepIdByte_0 rfl (lv_at hl 0 rfl) ?_
  refine va_get (D := G) (ci := 2) (v := .int (z0.1 9)) (C := RX2) (T := TX2) (N := 14) hx hb hts hi_2 hown hK hP 3 rfl rfl 6 (by decide) hfl_51 (fun _ h9 => h9) rfl dX2_keepIdByte_1 ?_
  refine lv_if_ne (tgt := 18) hx hb dX2_keepIdByte_4 (by decide) (fun c4 => ?_) (fun c4 => ?_)
  · refine lv_aload_n hx hb dX2_keepIdByte_18 rfl (lv_at hl 0 rfl) ?_
    refine va_get (D := G) (ci := 2) (v := .int (z0.1 9)) (C := RX2) (T := TX2) (N := 14) hx hb hts hi_2 hown hK hP 3 rfl rfl 6 (by decide) hfl_51 (fun _ h9 => h9) rfl dX2_keepIdByte_19 ?_
    refine lv_iconst (v := 2) hx hb dX2_keepIdByte_22 (by decide) ?_
    refine lv_icmp_ne (tgt := 37) hx hb dX2_keepIdByte_23 (by decide) (fun c23 => ?_) (fun c23 => ?_)
    · refine lv_aload_n hx hb dX2_keepIdByte_37 rfl (lv_at hl 0 rfl) ?_
      refine va_get (D := G) (ci := 2) (v := .int (z0.1 9)) (C := RX2) (T := TX2) (N := 14) hx hb hts hi_2 hown hK hP 3 rfl rfl 6 (by decide) hfl_51 (fun _ h9 => h9) rfl dX2_keepIdByte_38 ?_
      refine lv_iconst (v := 3) hx hb dX2_keepIdByte_41 (by decide) ?_
      refine lv_icmp_ne (tgt := 53) hx hb dX2_keepIdByte_42 (by decide) (fun c42 => ?_) (fun c42 => ?_)
      · exact fk_vret hx hb hr hlk hK hP hD hS (Eq.symm (by rw [fX2_keepIdByte, if_neg c4, if_neg c23, if_neg c42] <;> rfl)) dX2_keepIdByte_53
      · refine lv_aload_n hx hb dX2_keepIdByte_45 rfl (lv_at hl 0 rfl) ?_
        refine lv_aload_n hx hb dX2_keepIdByte_46 rfl (lv_at hl 0 rfl) ?_
        refine va_get (D := G) (ci := 2) (v := .int (z0.1 12)) (C := RX2) (T := TX2) (N := 14) hx hb hts hi_2 hown hK hP 3 rfl rfl 9 (by decide) hfl_36 (fun _ h9 => h9) rfl dX2_keepIdByte_47 ?_
        refine va_put (D := G) (ci := 2) (v := .int (z0.1 12)) (ty := .int) (C := RX2) (T := TX2) (N := 14) hx hb hts hi_2 tyX2 tyX2_ok nmX2 hown hK hP hD hS 3 rfl rfl 12 (by decide) hfl_68 (fun _ h9 => h9) rfl (by decide +kernel) rfl rfl (Nat.le_of_ble_eq_true rfl) dX2_keepIdByte_50 (fun H locs hP hD hS => ?_)
        have hP : va_P G vwCl ((fk_cW q k) (upd z0.1 15 (z0.1 12), z0.2)) H := hP
        have hD : va_D A ((fk_cW q k) (upd z0.1 15 (z0.1 12), z0.2)) := hD
        exact fk_vret hx hb hr hlk hK hP hD hS (Eq.symm (by rw [fX2_keepIdByte, if_neg c4, if_neg c23, if_pos c42] <;> rfl)) dX2_keepIdByte_53
    · refine lv_aload_n hx hb dX2_keepIdByte_26 rfl (lv_at hl 0 rfl) ?_
      refine lv_aload_n hx hb dX2_keepIdByte_27 rfl (lv_at hl 0 rfl) ?_
      refine va_get (D := G) (ci := 2) (v := .int (z0.1 12)) (C := RX2) (T := TX2) (N := 14) hx hb hts hi_2 hown hK hP 3 rfl rfl 9 (by decide) hfl_36 (fun _ h9 => h9) rfl dX2_keepIdByte_28 ?_
      refine va_put (D := G) (ci := 2) (v := .int (z0.1 12)) (ty := .int) (C := RX2) (T := TX2) (N := 14) hx hb hts hi_2 tyX2 tyX2_ok nmX2 hown hK hP hD hS 3 rfl rfl 11 (by decide) hfl_74 (fun _ h9 => h9) rfl (by decide +kernel) rfl rfl (Nat.le_of_ble_eq_true rfl) dX2_keepIdByte_31 (fun H locs hP hD hS => ?_)
      have hP : va_P G vwCl ((fk_cW q k) (upd z0.1 14 (z0.1 12), z0.2)) H := hP
      have hD : va_D A ((fk_cW q k) (upd z0.1 14 (z0.1 12), z0.2)) := hD
      refine lv_goto (tgt := 53) hx hb dX2_keepIdByte_34 (by decide) ?_
      exact fk_vret hx hb hr hlk hK hP hD hS (Eq.symm (by rw [fX2_keepIdByte, if_neg c4, if_pos c23] <;> rfl)) dX2_keepIdByte_53
  · refine lv_aload_n hx hb dX2_keepIdByte_7 rfl (lv_at hl 0 rfl) ?_
    refine lv_aload_n hx hb dX2_keepIdByte_8 rfl (lv_at hl 0 rfl) ?_
    refine va_get (D := G) (ci := 2) (v := .int (z0.1 12)) (C := RX2) (T := TX2) (N := 14) hx hb hts hi_2 hown hK hP 3 rfl rfl 9 (by decide) hfl_36 (fun _ h9 => h9) rfl dX2_keepIdByte_9 ?_
    refine va_put (D := G) (ci := 2) (v := .int (z0.1 12)) (ty := .int) (C := RX2) (T := TX2) (N := 14) hx hb hts hi_2 tyX2 tyX2_ok nmX2 hown hK hP hD hS 3 rfl rfl 10 (by decide) hfl_71 (fun _ h9 => h9) rfl (by decide +kernel) rfl rfl (Nat.le_of_ble_eq_true rfl) dX2_keepIdByte_12 (fun H locs hP hD hS => ?_)
    have hP : va_P G vwCl ((fk_cW q k) (upd z0.1 13 (z0.1 12), z0.2)) H := hP
    have hD : va_D A ((fk_cW q k) (upd z0.1 13 (z0.1 12), z0.2)) := hD
    refine lv_goto (tgt := 53) hx hb dX2_keepIdByte_15 (by decide) ?_
    exact fk_vret hx hb hr hlk hK hP hD hS (Eq.symm (by rw [fX2_keepIdByte, if_pos c4] <;> rfl)) dX2_keepIdByte_53
-- FloppyDesk$Reader.isCheckRight()Z
def fX2_isCheckRight (z0 : fk_C) : Int32 :=
  (if (z0.1 10) = 0 then 1 else 0)
set_option maxHeartbeats 4000000 in
set_option maxRecDepth 100000 in
theorem c_X2_isCheckRight (l : Launch) (G : va_G) (q : Nat → Nat) (k : Nat → ClassId) (sz : Nat) (z0 : fk_C) : fk_Mp l yX2_isCheckRight wsX2_isCheckRight ({ frames := 0, cells := 0, slots := 0, locals := 0 } : Room) G (fk_cW q k) (fk_cT k) [.ref (q 3)] sz z0 (fX2_isCheckRight z0) := by
  refine fk_head (cc := cX2_isCheckRight) (maxL := 1) (ret := (some .boolean)) (QQ := fun A => va_Qi (fun r (_ : Unit) => r = fX2_isCheckRight z0) (fun _ => fk_At G (fk_cW q k) (fk_cT k) A z0) A) (by decide) rfl (Nat.le_of_ble_eq_true rfl) ?_ sz
  intro p e s m below meth c A ls hx hb hr hlk hml hown hts hK hN hA hP hD hS hl
  have hown : s.vm.findClass RX2 = some m.cls := hown
  have F9 : CallFix p m c cX2_isCheckRight 1 s ([.ref (q 3)] : List Value).toArray wsX2_isCheckRight RX2 := ⟨hx, hb, hml, hown, hts⟩
  have hl : lv_has ls 1 [(0, .ref (q 3))] := hl
  have hfl_54 := hts (.fieldLink RX2 54 "FloppyDesk$Reader" "fieldCheck" "I") (by decide +kernel)
  have hi_2 : ∀ w ∈ u_ws RX2 TX2 14, w ∈ wsX2_isCheckRight := by decide +kernel
  refine lv_aload_n hx hb dX2_isCheckRight_0 rfl (lv_at hl 0 rfl) ?_
  refine va_get (D := G) (ci := 2) (v := .int (z0.1 10)) (C := RX2) (T := TX2) (N := 14) hx hb hts hi_2 hown hK hP 3 rfl rfl 7 (by decide) hfl_54 (fun _ h9 => h9) rfl dX2_isCheckRight_1 ?_
  refine lv_if_ne (tgt := 11) hx hb dX2_isCheckRight_4 (by decide) (fun c4 => ?_) (fun c4 => ?_)
  · refine lv_iconst (v := 0) hx hb dX2_isCheckRight_11 (by decide) ?_
    exact fk_pret hx hb hr hlk hK hP hD hS rfl (Eq.symm (by rw [fX2_isCheckRight, if_neg c4] <;> rfl)) dX2_isCheckRight_12
  · refine lv_iconst (v := 1) hx hb dX2_isCheckRight_7 (by decide) ?_
    refine lv_goto (tgt := 12) hx hb dX2_isCheckRight_8 (by decide) ?_
    exact fk_pret hx hb hr hlk hK hP hD hS rfl (Eq.symm (by rw [fX2_isCheckRight, if_pos c4] <;> rfl)) dX2_isCheckRight_12
-- FloppyDesk$Reader.addToField()I
def fX2_addToField_53 (z : fk_C) (s0 : Int32) : Int32 × fk_C :=
  (if (s0 + 2) ≤ (z.1 9) then (if (z.1 7) = 1 then (if (fX2_isCheckRight z) = 0 then (3, (upd (upd z.1 7 0) 4 0, z.2)) else (3, (upd (upd (upd z.1 16 (16 <<< (((z.1 15) &&& 1) &&& 31))) 7 0) 4 0, z.2))) else (3, (upd (upd z.1 7 0) 4 0, z.2))) else (2, z))
def fX2_addToField_27 (z : fk_C) : Int32 × fk_C :=
  (if (z.1 7) = 1 then fX2_addToField_53 (upd z.1 9 ((z.1 9) + 1), z.2) 4 else fX2_addToField_53 (upd z.1 9 ((z.1 9) + 1), z.2) (z.1 16))
def fX2_addToField_c1 (z : fk_C) : Int32 × fk_C :=
  fX2_addToField_27 z
def fX2_addToField (z0 : fk_C) : Int32 × fk_C :=
  (if (z0.1 7) = 1 then fX2_addToField_c1 (fX2_keepIdByte (upd z0.1 10 (fX5_checkWith (z0.1 10) (z0.1 12)), z0.2)) else fX2_addToField_27 (upd z0.1 10 (fX5_checkWith (z0.1 10) (z0.1 12)), z0.2))
set_option maxHeartbeats 4000000 in
set_option maxRecDepth 100000 in
theorem c_X2_addToField (l : Launch) (G : va_G) (q : Nat → Nat) (k : Nat → ClassId) (sz : Nat) (z0 : fk_C) : fk_Mi l yX2_addToField wsX2_addToField ({ frames := 1, cells := 0, slots := 0, locals := 23 } : Room) G (fk_cW q k) (fk_cT k) [.ref (q 3)] sz z0 (fX2_addToField z0) := by
  refine fk_head (cc := cX2_addToField) (maxL := 2) (ret := (some .int)) (QQ := fun A => va_Qi (fun r z1 => (r, z1) = fX2_addToField z0) (fk_At G (fk_cW q k) (fk_cT k) A) A) (by decide) rfl (Nat.le_of_ble_eq_true rfl) ?_ sz
  intro p e s m below meth c A ls hx hb hr hlk hml hown hts hK hN hA hP hD hS hl
  have hown : s.vm.findClass RX2 = some m.cls := hown
  have F9 : CallFix p m c cX2_addToField 2 s ([.ref (q 3)] : List Value).toArray wsX2_addToField RX2 := ⟨hx, hb, hml, hown, hts⟩
  have hl : lv_has ls 2 [(0, .ref (q 3))] := hl
  have hfl_11 := hts (.fieldLink RX2 11 "FloppyDesk$Reader" "dataSize" "I") (by decide +kernel)
  have hfl_15 := hts (.fieldLink RX2 15 "FloppyDesk$Reader" "inStep" "Z") (by decide +kernel)
  have hfl_22 := hts (.fieldLink RX2 22 "FloppyDesk$Reader" "field" "I") (by decide +kernel)
  have hfl_36 := hts (.fieldLink RX2 36 "FloppyDesk$Reader" "latestByte" "I") (by decide +kernel)
  have hfl_51 := hts (.fieldLink RX2 51 "FloppyDesk$Reader" "fieldBytes" "I") (by decide +kernel)
  have hfl_54 := hts (.fieldLink RX2 54 "FloppyDesk$Reader" "fieldCheck" "I") (by decide +kernel)
  have hfl_68 := hts (.fieldLink RX2 68 "FloppyDesk$Reader" "idLength" "I") (by decide +kernel)
  have hi_2 : ∀ w ∈ u_ws RX2 TX2 14, w ∈ wsX2_addToField := by decide +kernel
  have h53 : ∀ (z : fk_C) (s0 : Int32) (H : Heap) (locs : List Loc) (ls : Array Slot), fX2_addToField z0 = fX2_addToField_53 z s0 → va_P G vwCl ((fk_cW q k) z) H → va_D A ((fk_cW q k) z) → va_S A s.heap H locs → lv_has ls 2 [(0, .ref (q 3))] → W p l e ({ frames := 1, cells := 0, slots := 0, locals := 23 } : Room) s m ([.ref (q 3)] : List Value).toArray below meth c H locs 0 0 (MQ below (va_Qi (fun r z1 => (r, z1) = fX2_addToField z0) (fk_At G (fk_cW q k) (fk_cT k) A) A) ([.ref (q 3)] : List Value).toArray s 0 0 A) (F0 m 53 ls [.int s0]) := by
    intro z s0 H locs ls hf  hP hD hS hl
    refine lv_istore_n (lv' := [(1, .int s0), (0, .ref (q 3))]) hx hb dX2_addToField_53 rfl hl (by decide) rfl (fun ls hl => ?_)
    refine lv_aload_n hx hb dX2_addToField_54 rfl (lv_at hl 1 rfl) ?_
    refine va_get (D := G) (ci := 2) (v := .int (z.1 9)) (C := RX2) (T := TX2) (N := 14) hx hb hts hi_2 hown hK hP 3 rfl rfl 6 (by decide) hfl_51 (fun _ h9 => h9) rfl dX2_addToField_55 ?_
    refine lv_iload_n hx hb dX2_addToField_58 rfl (lv_at hl 0 rfl) ?_
    refine lv_iconst (v := 2) hx hb dX2_addToField_59 (by decide) ?_
    refine lv_iadd hx hb dX2_addToField_60 ?_
    refine lv_icmp_ge (tgt := 66) hx hb dX2_addToField_61 (by decide) (fun c61 => ?_) (fun c61 => ?_)
    · refine lv_aload_n hx hb dX2_addToField_66 rfl (lv_at hl 1 rfl) ?_
      refine va_get (D := G) (ci := 2) (v := .int (z.1 7)) (C := RX2) (T := TX2) (N := 14) hx hb hts hi_2 hown hK hP 3 rfl rfl 4 (by decide) hfl_22 (fun _ h9 => h9) rfl dX2_addToField_67 ?_
      refine lv_iconst (v := 1) hx hb dX2_addToField_70 (by decide) ?_
      refine lv_icmp_ne (tgt := 94) hx hb dX2_addToField_71 (by decide) (fun c71 => ?_) (fun c71 => ?_)
      · refine lv_aload_n hx hb dX2_addToField_94 rfl (lv_at hl 1 rfl) ?_
        refine lv_iconst (v := 0) hx hb dX2_addToField_95 (by decide) ?_
        refine va_put (D := G) (ci := 2) (v := .int 0) (ty := .int) (C := RX2) (T := TX2) (N := 14) hx hb hts hi_2 tyX2 tyX2_ok nmX2 hown hK hP hD hS 3 rfl rfl 4 (by decide) hfl_22 (fun _ h9 => h9) rfl (by decide +kernel) rfl rfl (Nat.le_of_ble_eq_true rfl) dX2_addToField_96 (fun H locs hP hD hS => ?_)
        have hP : va_P G vwCl ((fk_cW q k) (upd z.1 7 0, z.2)) H := hP
        have hD : va_D A ((fk_cW q k) (upd z.1 7 0, z.2)) := hD
        refine lv_aload_n hx hb dX2_addToField_99 rfl (lv_at hl 1 rfl) ?_
        refine lv_iconst (v := 0) hx hb dX2_addToField_100 (by decide) ?_
        refine va_put (D := G) (ci := 2) (v := .int 0) (ty := .boolean) (C := RX2) (T := TX2) (N := 14) hx hb hts hi_2 tyX2 tyX2_ok nmX2 hown hK hP hD hS 3 rfl rfl 1 (by decide) hfl_15 (fun _ h9 => h9) rfl (by decide +kernel) rfl rfl (Nat.le_of_ble_eq_true rfl) dX2_addToField_101 (fun H locs hP hD hS => ?_)
        have hP : va_P G vwCl ((fk_cW q k) (upd (upd z.1 7 0) 4 0, z.2)) H := hP
        have hD : va_D A ((fk_cW q k) (upd (upd z.1 7 0) 4 0, z.2)) := hD
        refine lv_iconst (v := 3) hx hb dX2_addToField_104 (by decide) ?_
        exact fk_iret hx hb hr hlk hK hP hD hS rfl (Eq.symm (by rw [hf, fX2_addToField_53, if_pos c61, if_neg c71] <;> rfl)) dX2_addToField_105
      · refine lv_aload_n hx hb dX2_addToField_74 rfl (lv_at hl 1 rfl) ?_
        refine fk_Vp (Wd := (fk_cW q k)) (z := z) (As := []) (rest := []) F9 (c_X2_isCheckRight l G q k _ z) (cwV 0 hts gX2_addToField_X2_isCheckRight rfl rfl rfl (by decide +kernel) ⟨Nat.le_of_ble_eq_true rfl, Nat.le_of_ble_eq_true rfl⟩) (va_recv hK hP (ci := 2) (q0 := 3) rfl rfl) hK hP hD hS hA hN rfl hl.1 rfl (Nat.le_of_ble_eq_true rfl) dX2_addToField_75 ⟨Nat.zero_le _, Nat.zero_le _⟩ (fun H locs hP hD hS => ?_)
        refine lv_if_eq (tgt := 94) hx hb dX2_addToField_78 (by decide) (fun c78 => ?_) (fun c78 => ?_)
        · refine lv_aload_n hx hb dX2_addToField_94 rfl (lv_at hl 1 rfl) ?_
          refine lv_iconst (v := 0) hx hb dX2_addToField_95 (by decide) ?_
          refine va_put (D := G) (ci := 2) (v := .int 0) (ty := .int) (C := RX2) (T := TX2) (N := 14) hx hb hts hi_2 tyX2 tyX2_ok nmX2 hown hK hP hD hS 3 rfl rfl 4 (by decide) hfl_22 (fun _ h9 => h9) rfl (by decide +kernel) rfl rfl (Nat.le_of_ble_eq_true rfl) dX2_addToField_96 (fun H locs hP hD hS => ?_)
          have hP : va_P G vwCl ((fk_cW q k) (upd z.1 7 0, z.2)) H := hP
          have hD : va_D A ((fk_cW q k) (upd z.1 7 0, z.2)) := hD
          refine lv_aload_n hx hb dX2_addToField_99 rfl (lv_at hl 1 rfl) ?_
          refine lv_iconst (v := 0) hx hb dX2_addToField_100 (by decide) ?_
          refine va_put (D := G) (ci := 2) (v := .int 0) (ty := .boolean) (C := RX2) (T := TX2) (N := 14) hx hb hts hi_2 tyX2 tyX2_ok nmX2 hown hK hP hD hS 3 rfl rfl 1 (by decide) hfl_15 (fun _ h9 => h9) rfl (by decide +kernel) rfl rfl (Nat.le_of_ble_eq_true rfl) dX2_addToField_101 (fun H locs hP hD hS => ?_)
          have hP : va_P G vwCl ((fk_cW q k) (upd (upd z.1 7 0) 4 0, z.2)) H := hP
          have hD : va_D A ((fk_cW q k) (upd (upd z.1 7 0) 4 0, z.2)) := hD
          refine lv_iconst (v := 3) hx hb dX2_addToField_104 (by decide) ?_
          exact fk_iret hx hb hr hlk hK hP hD hS rfl (Eq.symm (by rw [hf, fX2_addToField_53, if_pos c61, if_pos c71, if_pos c78] <;> rfl)) dX2_addToField_105
        · refine lv_aload_n hx hb dX2_addToField_81 rfl (lv_at hl 1 rfl) ?_
          refine lv_bipush (v := 16) hx hb dX2_addToField_82 (by decide) ?_
          refine lv_aload_n hx hb dX2_addToField_84 rfl (lv_at hl 1 rfl) ?_
          refine va_get (D := G) (ci := 2) (v := .int (z.1 15)) (C := RX2) (T := TX2) (N := 14) hx hb hts hi_2 hown hK hP 3 rfl rfl 12 (by decide) hfl_68 (fun _ h9 => h9) rfl dX2_addToField_85 ?_
          refine lv_iconst (v := 1) hx hb dX2_addToField_88 (by decide) ?_
          refine lv_iand hx hb dX2_addToField_89 ?_
          refine lv_ishl hx hb dX2_addToField_90 ?_
          refine va_put (D := G) (ci := 2) (v := .int (16 <<< (((z.1 15) &&& 1) &&& 31))) (ty := .int) (C := RX2) (T := TX2) (N := 14) hx hb hts hi_2 tyX2 tyX2_ok nmX2 hown hK hP hD hS 3 rfl rfl 13 (by decide) hfl_11 (fun _ h9 => h9) rfl (by decide +kernel) rfl rfl (Nat.le_of_ble_eq_true rfl) dX2_addToField_91 (fun H locs hP hD hS => ?_)
          have hP : va_P G vwCl ((fk_cW q k) (upd z.1 16 (16 <<< (((z.1 15) &&& 1) &&& 31)), z.2)) H := hP
          have hD : va_D A ((fk_cW q k) (upd z.1 16 (16 <<< (((z.1 15) &&& 1) &&& 31)), z.2)) := hD
          refine lv_aload_n hx hb dX2_addToField_94 rfl (lv_at hl 1 rfl) ?_
          refine lv_iconst (v := 0) hx hb dX2_addToField_95 (by decide) ?_
          refine va_put (D := G) (ci := 2) (v := .int 0) (ty := .int) (C := RX2) (T := TX2) (N := 14) hx hb hts hi_2 tyX2 tyX2_ok nmX2 hown hK hP hD hS 3 rfl rfl 4 (by decide) hfl_22 (fun _ h9 => h9) rfl (by decide +kernel) rfl rfl (Nat.le_of_ble_eq_true rfl) dX2_addToField_96 (fun H locs hP hD hS => ?_)
          have hP : va_P G vwCl ((fk_cW q k) (upd (upd z.1 16 (16 <<< (((z.1 15) &&& 1) &&& 31))) 7 0, z.2)) H := hP
          have hD : va_D A ((fk_cW q k) (upd (upd z.1 16 (16 <<< (((z.1 15) &&& 1) &&& 31))) 7 0, z.2)) := hD
          refine lv_aload_n hx hb dX2_addToField_99 rfl (lv_at hl 1 rfl) ?_
          refine lv_iconst (v := 0) hx hb dX2_addToField_100 (by decide) ?_
          refine va_put (D := G) (ci := 2) (v := .int 0) (ty := .boolean) (C := RX2) (T := TX2) (N := 14) hx hb hts hi_2 tyX2 tyX2_ok nmX2 hown hK hP hD hS 3 rfl rfl 1 (by decide) hfl_15 (fun _ h9 => h9) rfl (by decide +kernel) rfl rfl (Nat.le_of_ble_eq_true rfl) dX2_addToField_101 (fun H locs hP hD hS => ?_)
          have hP : va_P G vwCl ((fk_cW q k) (upd (upd (upd z.1 16 (16 <<< (((z.1 15) &&& 1) &&& 31))) 7 0) 4 0, z.2)) H := hP
          have hD : va_D A ((fk_cW q k) (upd (upd (upd z.1 16 (16 <<< (((z.1 15) &&& 1) &&& 31))) 7 0) 4 0, z.2)) := hD
          refine lv_iconst (v := 3) hx hb dX2_addToField_104 (by decide) ?_
          exact fk_iret hx hb hr hlk hK hP hD hS rfl (Eq.symm (by rw [hf, fX2_addToField_53, if_pos c61, if_pos c71, if_neg c78] <;> rfl)) dX2_addToField_105
    · refine lv_iconst (v := 2) hx hb dX2_addToField_64 (by decide) ?_
      exact fk_iret hx hb hr hlk hK hP hD hS rfl (Eq.symm (by rw [hf, fX2_addToField_53, if_neg c61] <;> rfl)) dX2_addToField_65
  have h27 : ∀ (z : fk_C) (H : Heap) (locs : List Loc) (ls : Array Slot), fX2_addToField z0 = fX2_addToField_27 z  → va_P G vwCl ((fk_cW q k) z) H → va_D A ((fk_cW q k) z) → va_S A s.heap H locs → lv_has ls 2 [(0, .ref (q 3))] → W p l e ({ frames := 1, cells := 0, slots := 0, locals := 23 } : Room) s m ([.ref (q 3)] : List Value).toArray below meth c H locs 0 0 (MQ below (va_Qi (fun r z1 => (r, z1) = fX2_addToField z0) (fk_At G (fk_cW q k) (fk_cT k) A) A) ([.ref (q 3)] : List Value).toArray s 0 0 A) (F0 m 27 ls []) := by
    intro z H locs ls hf  hP hD hS hl
    refine lv_aload_n hx hb dX2_addToField_27 rfl (lv_at hl 0 rfl) ?_
    refine lv_dup hx hb dX2_addToField_28 rfl ?_
    refine va_get (D := G) (ci := 2) (v := .int (z.1 9)) (C := RX2) (T := TX2) (N := 14) hx hb hts hi_2 hown hK hP 3 rfl rfl 6 (by decide) hfl_51 (fun _ h9 => h9) rfl dX2_addToField_29 ?_
    refine lv_iconst (v := 1) hx hb dX2_addToField_32 (by decide) ?_
    refine lv_iadd hx hb dX2_addToField_33 ?_
    refine va_put (D := G) (ci := 2) (v := .int ((z.1 9) + 1)) (ty := .int) (C := RX2) (T := TX2) (N := 14) hx hb hts hi_2 tyX2 tyX2_ok nmX2 hown hK hP hD hS 3 rfl rfl 6 (by decide) hfl_51 (fun _ h9 => h9) rfl (by decide +kernel) rfl rfl (Nat.le_of_ble_eq_true rfl) dX2_addToField_34 (fun H locs hP hD hS => ?_)
    have hP : va_P G vwCl ((fk_cW q k) (upd z.1 9 ((z.1 9) + 1), z.2)) H := hP
    have hD : va_D A ((fk_cW q k) (upd z.1 9 ((z.1 9) + 1), z.2)) := hD
    refine lv_aload_n hx hb dX2_addToField_37 rfl (lv_at hl 0 rfl) ?_
    refine va_get (D := G) (ci := 2) (v := .int (z.1 7)) (C := RX2) (T := TX2) (N := 14) hx hb hts hi_2 hown hK hP 3 rfl rfl 4 (by decide) hfl_22 (fun _ h9 => h9) rfl dX2_addToField_38 ?_
    refine lv_iconst (v := 1) hx hb dX2_addToField_41 (by decide) ?_
    refine lv_icmp_ne (tgt := 49) hx hb dX2_addToField_42 (by decide) (fun c42 => ?_) (fun c42 => ?_)
    · refine lv_aload_n hx hb dX2_addToField_49 rfl (lv_at hl 0 rfl) ?_
      refine va_get (D := G) (ci := 2) (v := .int (z.1 16)) (C := RX2) (T := TX2) (N := 14) hx hb hts hi_2 hown hK hP 3 rfl rfl 13 (by decide) hfl_11 (fun _ h9 => h9) rfl dX2_addToField_50 ?_
      exact h53 (upd z.1 9 ((z.1 9) + 1), z.2) (z.1 16) _ _ ls (by rw [hf, fX2_addToField_27, if_neg c42] <;> rfl) hP hD hS (lv_sub hl [0] rfl)
    · refine lv_iconst (v := 4) hx hb dX2_addToField_45 (by decide) ?_
      refine lv_goto (tgt := 53) hx hb dX2_addToField_46 (by decide) ?_
      exact h53 (upd z.1 9 ((z.1 9) + 1), z.2) 4 _ _ ls (by rw [hf, fX2_addToField_27, if_pos c42] <;> rfl) hP hD hS (lv_sub hl [0] rfl)
  refine lv_aload_n hx hb dX2_addToField_0 rfl (lv_at hl 0 rfl) ?_
  refine lv_aload_n hx hb dX2_addToField_1 rfl (lv_at hl 0 rfl) ?_
  refine va_get (D := G) (ci := 2) (v := .int (z0.1 10)) (C := RX2) (T := TX2) (N := 14) hx hb hts hi_2 hown hK hP 3 rfl rfl 7 (by decide) hfl_54 (fun _ h9 => h9) rfl dX2_addToField_2 ?_
  refine lv_aload_n hx hb dX2_addToField_5 rfl (lv_at hl 0 rfl) ?_
  refine va_get (D := G) (ci := 2) (v := .int (z0.1 12)) (C := RX2) (T := TX2) (N := 14) hx hb hts hi_2 hown hK hP 3 rfl rfl 9 (by decide) hfl_36 (fun _ h9 => h9) rfl dX2_addToField_6 ?_
  refine fk_Np (Wd := (fk_cW q k)) (z := z0) (As := [.int (z0.1 10), .int (z0.1 12)]) (rest := [.ref (q 3)]) F9 (c_X5_checkWith l G q k _ z0 (z0.1 10) (z0.1 12)) ⟨va_cnB 2 hts gX2_addToField_X5_checkWith_n57 rfl rfl rfl (hN.m 2 rfl) (hts (.initialized RX5) (by decide +kernel)) (by decide +kernel) ⟨Nat.le_of_ble_eq_true rfl, Nat.le_of_ble_eq_true rfl⟩, hts (.static yX5_checkWith) (by decide +kernel), trivial⟩ hK hP hD hS hA hN rfl hl.1 rfl (Nat.le_of_ble_eq_true rfl) dX2_addToField_9 ⟨Nat.zero_le _, Nat.zero_le _⟩ (fun H locs hP hD hS => ?_)
  refine va_put (D := G) (ci := 2) (v := .int (fX5_checkWith (z0.1 10) (z0.1 12))) (ty := .int) (C := RX2) (T := TX2) (N := 14) hx hb hts hi_2 tyX2 tyX2_ok nmX2 hown hK hP hD hS 3 rfl rfl 7 (by decide) hfl_54 (fun _ h9 => h9) rfl (by decide +kernel) rfl rfl (Nat.le_of_ble_eq_true rfl) dX2_addToField_12 (fun H locs hP hD hS => ?_)
  have hP : va_P G vwCl ((fk_cW q k) (upd z0.1 10 (fX5_checkWith (z0.1 10) (z0.1 12)), z0.2)) H := hP
  have hD : va_D A ((fk_cW q k) (upd z0.1 10 (fX5_checkWith (z0.1 10) (z0.1 12)), z0.2)) := hD
  refine lv_aload_n hx hb dX2_addToField_15 rfl (lv_at hl 0 rfl) ?_
  refine va_get (D := G) (ci := 2) (v := .int (z0.1 7)) (C := RX2) (T := TX2) (N := 14) hx hb hts hi_2 hown hK hP 3 rfl rfl 4 (by decide) hfl_22 (fun _ h9 => h9) rfl dX2_addToField_16 ?_
  refine lv_iconst (v := 1) hx hb dX2_addToField_19 (by decide) ?_
  refine lv_icmp_ne (tgt := 27) hx hb dX2_addToField_20 (by decide) (fun c20 => ?_) (fun c20 => ?_)
  · exact h27 (upd z0.1 10 (fX5_checkWith (z0.1 10) (z0.1 12)), z0.2) _ _ ls (by rw [fX2_addToField, if_neg c20] <;> rfl) hP hD hS (lv_sub hl [0] rfl)
  · refine lv_aload_n hx hb dX2_addToField_23 rfl (lv_at hl 0 rfl) ?_
    refine fk_Vv (Wd := (fk_cW q k)) (z := (upd z0.1 10 (fX5_checkWith (z0.1 10) (z0.1 12)), z0.2)) (As := []) (rest := []) F9 (c_X2_keepIdByte l G q k _ (upd z0.1 10 (fX5_checkWith (z0.1 10) (z0.1 12)), z0.2)) (cwV 0 hts gX2_addToField_X2_keepIdByte rfl rfl rfl (by decide +kernel) ⟨Nat.le_of_ble_eq_true rfl, Nat.le_of_ble_eq_true rfl⟩) (va_recv hK hP (ci := 2) (q0 := 3) rfl rfl) hK hP hD hS hA hN rfl hl.1 rfl (Nat.le_of_ble_eq_true rfl) dX2_addToField_24 ⟨Nat.zero_le _, Nat.zero_le _⟩ (fun z H locs hw hP hD hS => ?_)
    have hf : fX2_addToField z0 = fX2_addToField_c1 z := by rw [fX2_addToField, if_pos c20, ← hw] <;> rfl
    exact h27 z _ _ ls (by rw [hf, fX2_addToField_c1] <;> rfl) hP hD hS (lv_sub hl [0] rfl)
-- FloppyDesk$Reader.readCell(I)I
def fX2_readCell_61 (z : fk_C) : Int32 × fk_C :=
  (if (z.1 4) = 0 then (0, z) else (if 16 ≤ ((z.1 6) + 1) then (if (z.1 7) = 0 then fX2_beginField (upd (upd (upd z.1 6 ((z.1 6) + 1)) 6 0) 12 (fX2_byteInWindow (upd (upd z.1 6 ((z.1 6) + 1)) 6 0, z.2)), z.2) else fX2_addToField (upd (upd (upd z.1 6 ((z.1 6) + 1)) 6 0) 12 (fX2_byteInWindow (upd (upd z.1 6 ((z.1 6) + 1)) 6 0, z.2)), z.2)) else (0, (upd z.1 6 ((z.1 6) + 1), z.2))))
def fX2_readCell_39 (z : fk_C) : Int32 × fk_C :=
  (0, (upd (upd (upd z.1 4 1) 5 ((z.1 5) + 1)) 6 0, z.2))
def fX2_readCell (z0 : fk_C) (a1 : Int32) : Int32 × fk_C :=
  (if ((((z0.1 3) <<< ((1 : Int32) &&& 31)) ||| a1) &&& 65535) = 17545 then (if (z0.1 4) = 0 then fX2_readCell_39 (upd z0.1 3 ((((z0.1 3) <<< ((1 : Int32) &&& 31)) ||| a1) &&& 65535), z0.2) else (if (z0.1 7) = 0 then fX2_readCell_39 (upd z0.1 3 ((((z0.1 3) <<< ((1 : Int32) &&& 31)) ||| a1) &&& 65535), z0.2) else fX2_readCell_61 (upd z0.1 3 ((((z0.1 3) <<< ((1 : Int32) &&& 31)) ||| a1) &&& 65535), z0.2))) else fX2_readCell_61 (upd z0.1 3 ((((z0.1 3) <<< ((1 : Int32) &&& 31)) ||| a1) &&& 65535), z0.2))
set_option maxHeartbeats 4000000 in
set_option maxRecDepth 100000 in
theorem c_X2_readCell (l : Launch) (G : va_G) (q : Nat → Nat) (k : Nat → ClassId) (sz : Nat) (z0 : fk_C) (a1 : Int32) : fk_Mi l yX2_readCell wsX2_readCell ({ frames := 2, cells := 0, slots := 0, locals := 45 } : Room) G (fk_cW q k) (fk_cT k) [.ref (q 3), .int a1] sz z0 (fX2_readCell z0 a1) := by
  refine fk_head (cc := cX2_readCell) (maxL := 2) (ret := (some .int)) (QQ := fun A => va_Qi (fun r z1 => (r, z1) = fX2_readCell z0 a1) (fk_At G (fk_cW q k) (fk_cT k) A) A) (by decide) rfl (Nat.le_of_ble_eq_true rfl) ?_ sz
  intro p e s m below meth c A ls hx hb hr hlk hml hown hts hK hN hA hP hD hS hl
  have hown : s.vm.findClass RX2 = some m.cls := hown
  have F9 : CallFix p m c cX2_readCell 2 s ([.ref (q 3), .int a1] : List Value).toArray wsX2_readCell RX2 := ⟨hx, hb, hml, hown, hts⟩
  have hl : lv_has ls 2 [(0, .ref (q 3)), (1, .int a1)] := hl
  have hcst_28 := hts (.constant RX2 28 65535) (by decide +kernel)
  have hfl_15 := hts (.fieldLink RX2 15 "FloppyDesk$Reader" "inStep" "Z") (by decide +kernel)
  have hfl_19 := hts (.fieldLink RX2 19 "FloppyDesk$Reader" "marks" "I") (by decide +kernel)
  have hfl_22 := hts (.fieldLink RX2 22 "FloppyDesk$Reader" "field" "I") (by decide +kernel)
  have hfl_25 := hts (.fieldLink RX2 25 "FloppyDesk$Reader" "window" "I") (by decide +kernel)
  have hfl_29 := hts (.fieldLink RX2 29 "FloppyDesk$Reader" "cellsSince" "I") (by decide +kernel)
  have hfl_36 := hts (.fieldLink RX2 36 "FloppyDesk$Reader" "latestByte" "I") (by decide +kernel)
  have hi_2 : ∀ w ∈ u_ws RX2 TX2 14, w ∈ wsX2_readCell := by decide +kernel
  have h61 : ∀ (z : fk_C) (H : Heap) (locs : List Loc) (ls : Array Slot), fX2_readCell z0 a1 = fX2_readCell_61 z  → va_P G vwCl ((fk_cW q k) z) H → va_D A ((fk_cW q k) z) → va_S A s.heap H locs → lv_has ls 2 [(0, .ref (q 3))] → W p l e ({ frames := 2, cells := 0, slots := 0, locals := 45 } : Room) s m ([.ref (q 3), .int a1] : List Value).toArray below meth c H locs 0 0 (MQ below (va_Qi (fun r z1 => (r, z1) = fX2_readCell z0 a1) (fk_At G (fk_cW q k) (fk_cT k) A) A) ([.ref (q 3), .int a1] : List Value).toArray s 0 0 A) (F0 m 61 ls []) := by
    intro z H locs ls hf  hP hD hS hl
    refine lv_aload_n hx hb dX2_readCell_61 rfl (lv_at hl 0 rfl) ?_
    refine va_get (D := G) (ci := 2) (v := .int (z.1 4)) (C := RX2) (T := TX2) (N := 14) hx hb hts hi_2 hown hK hP 3 rfl rfl 1 (by decide) hfl_15 (fun _ h9 => h9) rfl dX2_readCell_62 ?_
    refine lv_if_ne (tgt := 70) hx hb dX2_readCell_65 (by decide) (fun c65 => ?_) (fun c65 => ?_)
    · refine lv_aload_n hx hb dX2_readCell_70 rfl (lv_at hl 0 rfl) ?_
      refine lv_dup hx hb dX2_readCell_71 rfl ?_
      refine va_get (D := G) (ci := 2) (v := .int (z.1 6)) (C := RX2) (T := TX2) (N := 14) hx hb hts hi_2 hown hK hP 3 rfl rfl 3 (by decide) hfl_29 (fun _ h9 => h9) rfl dX2_readCell_72 ?_
      refine lv_iconst (v := 1) hx hb dX2_readCell_75 (by decide) ?_
      refine lv_iadd hx hb dX2_readCell_76 ?_
      refine va_put (D := G) (ci := 2) (v := .int ((z.1 6) + 1)) (ty := .int) (C := RX2) (T := TX2) (N := 14) hx hb hts hi_2 tyX2 tyX2_ok nmX2 hown hK hP hD hS 3 rfl rfl 3 (by decide) hfl_29 (fun _ h9 => h9) rfl (by decide +kernel) rfl rfl (Nat.le_of_ble_eq_true rfl) dX2_readCell_77 (fun H locs hP hD hS => ?_)
      have hP : va_P G vwCl ((fk_cW q k) (upd z.1 6 ((z.1 6) + 1), z.2)) H := hP
      have hD : va_D A ((fk_cW q k) (upd z.1 6 ((z.1 6) + 1), z.2)) := hD
      refine lv_aload_n hx hb dX2_readCell_80 rfl (lv_at hl 0 rfl) ?_
      refine va_get (D := G) (ci := 2) (v := .int ((z.1 6) + 1)) (C := RX2) (T := TX2) (N := 14) hx hb hts hi_2 hown hK hP 3 rfl rfl 3 (by decide) hfl_29 (fun _ h9 => h9) rfl dX2_readCell_81 ?_
      refine lv_bipush (v := 16) hx hb dX2_readCell_84 (by decide) ?_
      refine lv_icmp_ge (tgt := 91) hx hb dX2_readCell_86 (by decide) (fun c86 => ?_) (fun c86 => ?_)
      · refine lv_aload_n hx hb dX2_readCell_91 rfl (lv_at hl 0 rfl) ?_
        refine lv_iconst (v := 0) hx hb dX2_readCell_92 (by decide) ?_
        refine va_put (D := G) (ci := 2) (v := .int 0) (ty := .int) (C := RX2) (T := TX2) (N := 14) hx hb hts hi_2 tyX2 tyX2_ok nmX2 hown hK hP hD hS 3 rfl rfl 3 (by decide) hfl_29 (fun _ h9 => h9) rfl (by decide +kernel) rfl rfl (Nat.le_of_ble_eq_true rfl) dX2_readCell_93 (fun H locs hP hD hS => ?_)
        have hP : va_P G vwCl ((fk_cW q k) (upd (upd z.1 6 ((z.1 6) + 1)) 6 0, z.2)) H := hP
        have hD : va_D A ((fk_cW q k) (upd (upd z.1 6 ((z.1 6) + 1)) 6 0, z.2)) := hD
        refine lv_aload_n hx hb dX2_readCell_96 rfl (lv_at hl 0 rfl) ?_
        refine lv_aload_n hx hb dX2_readCell_97 rfl (lv_at hl 0 rfl) ?_
        refine fk_Vp (Wd := (fk_cW q k)) (z := (upd (upd z.1 6 ((z.1 6) + 1)) 6 0, z.2)) (As := []) (rest := [.ref (q 3)]) F9 (c_X2_byteInWindow l G q k _ (upd (upd z.1 6 ((z.1 6) + 1)) 6 0, z.2)) (cwV 0 hts gX2_readCell_X2_byteInWindow rfl rfl rfl (by decide +kernel) ⟨Nat.le_of_ble_eq_true rfl, Nat.le_of_ble_eq_true rfl⟩) (va_recv hK hP (ci := 2) (q0 := 3) rfl rfl) hK hP hD hS hA hN rfl hl.1 rfl (Nat.le_of_ble_eq_true rfl) dX2_readCell_98 ⟨Nat.zero_le _, Nat.zero_le _⟩ (fun H locs hP hD hS => ?_)
        refine va_put (D := G) (ci := 2) (v := .int (fX2_byteInWindow (upd (upd z.1 6 ((z.1 6) + 1)) 6 0, z.2))) (ty := .int) (C := RX2) (T := TX2) (N := 14) hx hb hts hi_2 tyX2 tyX2_ok nmX2 hown hK hP hD hS 3 rfl rfl 9 (by decide) hfl_36 (fun _ h9 => h9) rfl (by decide +kernel) rfl rfl (Nat.le_of_ble_eq_true rfl) dX2_readCell_101 (fun H locs hP hD hS => ?_)
        have hP : va_P G vwCl ((fk_cW q k) (upd (upd (upd z.1 6 ((z.1 6) + 1)) 6 0) 12 (fX2_byteInWindow (upd (upd z.1 6 ((z.1 6) + 1)) 6 0, z.2)), z.2)) H := hP
        have hD : va_D A ((fk_cW q k) (upd (upd (upd z.1 6 ((z.1 6) + 1)) 6 0) 12 (fX2_byteInWindow (upd (upd z.1 6 ((z.1 6) + 1)) 6 0, z.2)), z.2)) := hD
        refine lv_aload_n hx hb dX2_readCell_104 rfl (lv_at hl 0 rfl) ?_
        refine va_get (D := G) (ci := 2) (v := .int (z.1 7)) (C := RX2) (T := TX2) (N := 14) hx hb hts hi_2 hown hK hP 3 rfl rfl 4 (by decide) hfl_22 (fun _ h9 => h9) rfl dX2_readCell_105 ?_
        refine lv_if_ne (tgt := 118) hx hb dX2_readCell_108 (by decide) (fun c108 => ?_) (fun c108 => ?_)
        · refine lv_aload_n hx hb dX2_readCell_118 rfl (lv_at hl 0 rfl) ?_
          have hl := lv_sub hl [] (l' := []) rfl
          refine fk_Vi (Wd := (fk_cW q k)) (z := (upd (upd (upd z.1 6 ((z.1 6) + 1)) 6 0) 12 (fX2_byteInWindow (upd (upd z.1 6 ((z.1 6) + 1)) 6 0, z.2)), z.2)) (As := []) (rest := []) F9 (c_X2_addToField l G q k _ (upd (upd (upd z.1 6 ((z.1 6) + 1)) 6 0) 12 (fX2_byteInWindow (upd (upd z.1 6 ((z.1 6) + 1)) 6 0, z.2)), z.2)) (cwV 0 hts gX2_readCell_X2_addToField rfl rfl rfl (by decide +kernel) ⟨Nat.le_of_ble_eq_true rfl, Nat.le_of_ble_eq_true rfl⟩) (va_recv hK hP (ci := 2) (q0 := 3) rfl rfl) hK hP hD hS hA hN rfl hl.1 rfl (Nat.le_of_ble_eq_true rfl) dX2_readCell_119 ⟨Nat.zero_le _, Nat.zero_le _⟩ (fun r119 z H locs hw hP hD hS => ?_)
          exact fk_iret hx hb hr hlk hK hP hD hS rfl (hw.trans (Eq.symm (by rw [hf, fX2_readCell_61, if_neg c65, if_pos c86, if_neg c108] <;> rfl))) dX2_readCell_122
        · refine lv_aload_n hx hb dX2_readCell_111 rfl (lv_at hl 0 rfl) ?_
          have hl := lv_sub hl [] (l' := []) rfl
          refine fk_Vi (Wd := (fk_cW q k)) (z := (upd (upd (upd z.1 6 ((z.1 6) + 1)) 6 0) 12 (fX2_byteInWindow (upd (upd z.1 6 ((z.1 6) + 1)) 6 0, z.2)), z.2)) (As := []) (rest := []) F9 (c_X2_beginField l G q k _ (upd (upd (upd z.1 6 ((z.1 6) + 1)) 6 0) 12 (fX2_byteInWindow (upd (upd z.1 6 ((z.1 6) + 1)) 6 0, z.2)), z.2)) (cwV 0 hts gX2_readCell_X2_beginField rfl rfl rfl (by decide +kernel) ⟨Nat.le_of_ble_eq_true rfl, Nat.le_of_ble_eq_true rfl⟩) (va_recv hK hP (ci := 2) (q0 := 3) rfl rfl) hK hP hD hS hA hN rfl hl.1 rfl (Nat.le_of_ble_eq_true rfl) dX2_readCell_112 ⟨Nat.zero_le _, Nat.zero_le _⟩ (fun r112 z H locs hw hP hD hS => ?_)
          refine lv_goto (tgt := 122) hx hb dX2_readCell_115 (by decide) ?_
          exact fk_iret hx hb hr hlk hK hP hD hS rfl (hw.trans (Eq.symm (by rw [hf, fX2_readCell_61, if_neg c65, if_pos c86, if_pos c108] <;> rfl))) dX2_readCell_122
      · refine lv_iconst (v := 0) hx hb dX2_readCell_89 (by decide) ?_
        exact fk_iret hx hb hr hlk hK hP hD hS rfl (Eq.symm (by rw [hf, fX2_readCell_61, if_neg c65, if_neg c86] <;> rfl)) dX2_readCell_90
    · refine lv_iconst (v := 0) hx hb dX2_readCell_68 (by decide) ?_
      exact fk_iret hx hb hr hlk hK hP hD hS rfl (Eq.symm (by rw [hf, fX2_readCell_61, if_pos c65] <;> rfl)) dX2_readCell_69
  have h39 : ∀ (z : fk_C) (H : Heap) (locs : List Loc) (ls : Array Slot), fX2_readCell z0 a1 = fX2_readCell_39 z  → va_P G vwCl ((fk_cW q k) z) H → va_D A ((fk_cW q k) z) → va_S A s.heap H locs → lv_has ls 2 [(0, .ref (q 3))] → W p l e ({ frames := 2, cells := 0, slots := 0, locals := 45 } : Room) s m ([.ref (q 3), .int a1] : List Value).toArray below meth c H locs 0 0 (MQ below (va_Qi (fun r z1 => (r, z1) = fX2_readCell z0 a1) (fk_At G (fk_cW q k) (fk_cT k) A) A) ([.ref (q 3), .int a1] : List Value).toArray s 0 0 A) (F0 m 39 ls []) := by
    intro z H locs ls hf  hP hD hS hl
    refine lv_aload_n hx hb dX2_readCell_39 rfl (lv_at hl 0 rfl) ?_
    refine lv_iconst (v := 1) hx hb dX2_readCell_40 (by decide) ?_
    refine va_put (D := G) (ci := 2) (v := .int 1) (ty := .boolean) (C := RX2) (T := TX2) (N := 14) hx hb hts hi_2 tyX2 tyX2_ok nmX2 hown hK hP hD hS 3 rfl rfl 1 (by decide) hfl_15 (fun _ h9 => h9) rfl (by decide +kernel) rfl rfl (Nat.le_of_ble_eq_true rfl) dX2_readCell_41 (fun H locs hP hD hS => ?_)
    have hP : va_P G vwCl ((fk_cW q k) (upd z.1 4 1, z.2)) H := hP
    have hD : va_D A ((fk_cW q k) (upd z.1 4 1, z.2)) := hD
    refine lv_aload_n hx hb dX2_readCell_44 rfl (lv_at hl 0 rfl) ?_
    refine lv_dup hx hb dX2_readCell_45 rfl ?_
    refine va_get (D := G) (ci := 2) (v := .int (z.1 5)) (C := RX2) (T := TX2) (N := 14) hx hb hts hi_2 hown hK hP 3 rfl rfl 2 (by decide) hfl_19 (fun _ h9 => h9) rfl dX2_readCell_46 ?_
    refine lv_iconst (v := 1) hx hb dX2_readCell_49 (by decide) ?_
    refine lv_iadd hx hb dX2_readCell_50 ?_
    refine va_put (D := G) (ci := 2) (v := .int ((z.1 5) + 1)) (ty := .int) (C := RX2) (T := TX2) (N := 14) hx hb hts hi_2 tyX2 tyX2_ok nmX2 hown hK hP hD hS 3 rfl rfl 2 (by decide) hfl_19 (fun _ h9 => h9) rfl (by decide +kernel) rfl rfl (Nat.le_of_ble_eq_true rfl) dX2_readCell_51 (fun H locs hP hD hS => ?_)
    have hP : va_P G vwCl ((fk_cW q k) (upd (upd z.1 4 1) 5 ((z.1 5) + 1), z.2)) H := hP
    have hD : va_D A ((fk_cW q k) (upd (upd z.1 4 1) 5 ((z.1 5) + 1), z.2)) := hD
    refine lv_aload_n hx hb dX2_readCell_54 rfl (lv_at hl 0 rfl) ?_
    refine lv_iconst (v := 0) hx hb dX2_readCell_55 (by decide) ?_
    refine va_put (D := G) (ci := 2) (v := .int 0) (ty := .int) (C := RX2) (T := TX2) (N := 14) hx hb hts hi_2 tyX2 tyX2_ok nmX2 hown hK hP hD hS 3 rfl rfl 3 (by decide) hfl_29 (fun _ h9 => h9) rfl (by decide +kernel) rfl rfl (Nat.le_of_ble_eq_true rfl) dX2_readCell_56 (fun H locs hP hD hS => ?_)
    have hP : va_P G vwCl ((fk_cW q k) (upd (upd (upd z.1 4 1) 5 ((z.1 5) + 1)) 6 0, z.2)) H := hP
    have hD : va_D A ((fk_cW q k) (upd (upd (upd z.1 4 1) 5 ((z.1 5) + 1)) 6 0, z.2)) := hD
    refine lv_iconst (v := 0) hx hb dX2_readCell_59 (by decide) ?_
    exact fk_iret hx hb hr hlk hK hP hD hS rfl (Eq.symm (by rw [hf, fX2_readCell_39] <;> rfl)) dX2_readCell_60
  refine lv_aload_n hx hb dX2_readCell_0 rfl (lv_at hl 0 rfl) ?_
  refine lv_aload_n hx hb dX2_readCell_1 rfl (lv_at hl 0 rfl) ?_
  refine va_get (D := G) (ci := 2) (v := .int (z0.1 3)) (C := RX2) (T := TX2) (N := 14) hx hb hts hi_2 hown hK hP 3 rfl rfl 0 (by decide) hfl_25 (fun _ h9 => h9) rfl dX2_readCell_2 ?_
  refine lv_iconst (v := 1) hx hb dX2_readCell_5 (by decide) ?_
  refine lv_ishl hx hb dX2_readCell_6 ?_
  refine lv_iload_n hx hb dX2_readCell_7 rfl (lv_at hl 1 rfl) ?_
  refine lv_ior hx hb dX2_readCell_8 ?_
  refine lv_ldc (own := RX2) (v := 65535) hx hb hown hcst_28 dX2_readCell_9 ?_
  refine lv_iand hx hb dX2_readCell_11 ?_
  refine va_put (D := G) (ci := 2) (v := .int ((((z0.1 3) <<< ((1 : Int32) &&& 31)) ||| a1) &&& 65535)) (ty := .int) (C := RX2) (T := TX2) (N := 14) hx hb hts hi_2 tyX2 tyX2_ok nmX2 hown hK hP hD hS 3 rfl rfl 0 (by decide) hfl_25 (fun _ h9 => h9) rfl (by decide +kernel) rfl rfl (Nat.le_of_ble_eq_true rfl) dX2_readCell_12 (fun H locs hP hD hS => ?_)
  have hP : va_P G vwCl ((fk_cW q k) (upd z0.1 3 ((((z0.1 3) <<< ((1 : Int32) &&& 31)) ||| a1) &&& 65535), z0.2)) H := hP
  have hD : va_D A ((fk_cW q k) (upd z0.1 3 ((((z0.1 3) <<< ((1 : Int32) &&& 31)) ||| a1) &&& 65535), z0.2)) := hD
  refine lv_aload_n hx hb dX2_readCell_15 rfl (lv_at hl 0 rfl) ?_
  refine va_get (D := G) (ci := 2) (v := .int ((((z0.1 3) <<< ((1 : Int32) &&& 31)) ||| a1) &&& 65535)) (C := RX2) (T := TX2) (N := 14) hx hb hts hi_2 hown hK hP 3 rfl rfl 0 (by decide) hfl_25 (fun _ h9 => h9) rfl dX2_readCell_16 ?_
  refine lv_sipush (v := 17545) hx hb dX2_readCell_19 (by decide) ?_
  refine lv_icmp_ne (tgt := 61) hx hb dX2_readCell_22 (by decide) (fun c22 => ?_) (fun c22 => ?_)
  · exact h61 (upd z0.1 3 ((((z0.1 3) <<< ((1 : Int32) &&& 31)) ||| a1) &&& 65535), z0.2) _ _ ls (by rw [fX2_readCell, if_neg c22] <;> rfl) hP hD hS (lv_sub hl [0] rfl)
  · refine lv_aload_n hx hb dX2_readCell_25 rfl (lv_at hl 0 rfl) ?_
    refine va_get (D := G) (ci := 2) (v := .int (z0.1 4)) (C := RX2) (T := TX2) (N := 14) hx hb hts hi_2 hown hK hP 3 rfl rfl 1 (by decide) hfl_15 (fun _ h9 => h9) rfl dX2_readCell_26 ?_
    refine lv_if_eq (tgt := 39) hx hb dX2_readCell_29 (by decide) (fun c29 => ?_) (fun c29 => ?_)
    · exact h39 (upd z0.1 3 ((((z0.1 3) <<< ((1 : Int32) &&& 31)) ||| a1) &&& 65535), z0.2) _ _ ls (by rw [fX2_readCell, if_pos c22, if_pos c29] <;> rfl) hP hD hS (lv_sub hl [0] rfl)
    · refine lv_aload_n hx hb dX2_readCell_32 rfl (lv_at hl 0 rfl) ?_
      refine va_get (D := G) (ci := 2) (v := .int (z0.1 7)) (C := RX2) (T := TX2) (N := 14) hx hb hts hi_2 hown hK hP 3 rfl rfl 4 (by decide) hfl_22 (fun _ h9 => h9) rfl dX2_readCell_33 ?_
      refine lv_if_ne (tgt := 61) hx hb dX2_readCell_36 (by decide) (fun c36 => ?_) (fun c36 => ?_)
      · exact h61 (upd z0.1 3 ((((z0.1 3) <<< ((1 : Int32) &&& 31)) ||| a1) &&& 65535), z0.2) _ _ ls (by rw [fX2_readCell, if_pos c22, if_neg c29, if_neg c36] <;> rfl) hP hD hS (lv_sub hl [0] rfl)
      · exact h39 (upd z0.1 3 ((((z0.1 3) <<< ((1 : Int32) &&& 31)) ||| a1) &&& 65535), z0.2) _ _ ls (by rw [fX2_readCell, if_pos c22, if_neg c29, if_pos c36] <;> rfl) hP hD hS (lv_sub hl [0] rfl)
-- FloppyDesk$Reader.isLatestFieldId()Z
def fX2_isLatestFieldId (z0 : fk_C) : Int32 :=
  (if (z0.1 11) = 1 then 1 else 0)
set_option maxHeartbeats 4000000 in
set_option maxRecDepth 100000 in
theorem c_X2_isLatestFieldId (l : Launch) (G : va_G) (q : Nat → Nat) (k : Nat → ClassId) (sz : Nat) (z0 : fk_C) : fk_Mp l yX2_isLatestFieldId wsX2_isLatestFieldId ({ frames := 0, cells := 0, slots := 0, locals := 0 } : Room) G (fk_cW q k) (fk_cT k) [.ref (q 3)] sz z0 (fX2_isLatestFieldId z0) := by
  refine fk_head (cc := cX2_isLatestFieldId) (maxL := 1) (ret := (some .boolean)) (QQ := fun A => va_Qi (fun r (_ : Unit) => r = fX2_isLatestFieldId z0) (fun _ => fk_At G (fk_cW q k) (fk_cT k) A z0) A) (by decide) rfl (Nat.le_of_ble_eq_true rfl) ?_ sz
  intro p e s m below meth c A ls hx hb hr hlk hml hown hts hK hN hA hP hD hS hl
  have hown : s.vm.findClass RX2 = some m.cls := hown
  have F9 : CallFix p m c cX2_isLatestFieldId 1 s ([.ref (q 3)] : List Value).toArray wsX2_isLatestFieldId RX2 := ⟨hx, hb, hml, hown, hts⟩
  have hl : lv_has ls 1 [(0, .ref (q 3))] := hl
  have hfl_45 := hts (.fieldLink RX2 45 "FloppyDesk$Reader" "latestField" "I") (by decide +kernel)
  have hi_2 : ∀ w ∈ u_ws RX2 TX2 14, w ∈ wsX2_isLatestFieldId := by decide +kernel
  refine lv_aload_n hx hb dX2_isLatestFieldId_0 rfl (lv_at hl 0 rfl) ?_
  refine va_get (D := G) (ci := 2) (v := .int (z0.1 11)) (C := RX2) (T := TX2) (N := 14) hx hb hts hi_2 hown hK hP 3 rfl rfl 8 (by decide) hfl_45 (fun _ h9 => h9) rfl dX2_isLatestFieldId_1 ?_
  refine lv_iconst (v := 1) hx hb dX2_isLatestFieldId_4 (by decide) ?_
  refine lv_icmp_ne (tgt := 12) hx hb dX2_isLatestFieldId_5 (by decide) (fun c5 => ?_) (fun c5 => ?_)
  · refine lv_iconst (v := 0) hx hb dX2_isLatestFieldId_12 (by decide) ?_
    exact fk_pret hx hb hr hlk hK hP hD hS rfl (Eq.symm (by rw [fX2_isLatestFieldId, if_neg c5] <;> rfl)) dX2_isLatestFieldId_13
  · refine lv_iconst (v := 1) hx hb dX2_isLatestFieldId_8 (by decide) ?_
    refine lv_goto (tgt := 13) hx hb dX2_isLatestFieldId_9 (by decide) ?_
    exact fk_pret hx hb hr hlk hK hP hD hS rfl (Eq.symm (by rw [fX2_isLatestFieldId, if_pos c5] <;> rfl)) dX2_isLatestFieldId_13
-- FloppyDesk$Controller.meetFieldStart()V
def fX0_meetFieldStart_34 (z : fk_C) : fk_C :=
  (if (z.1 23) = 3 then (if (fX2_isLatestFieldId z) = 0 then (if (z.1 8) = 248 then (upd (upd z.1 23 4) 17 ((z.1 17) ||| 32), z.2) else (upd z.1 23 4, z.2)) else z) else z)
def fX0_meetFieldStart (z0 : fk_C) : fk_C :=
  (if (z0.1 21) = 4 then (if (z0.1 23) = 2 then (if (fX2_isLatestFieldId z0) = 0 then fX0_meetFieldStart_34 z0 else (upd z0.1 23 4, z0.2)) else fX0_meetFieldStart_34 z0) else fX0_meetFieldStart_34 z0)
set_option maxHeartbeats 4000000 in
set_option maxRecDepth 100000 in
theorem c_X0_meetFieldStart (l : Launch) (G : va_G) (q : Nat → Nat) (k : Nat → ClassId) (sz : Nat) (z0 : fk_C) : fk_Mv l yX0_meetFieldStart wsX0_meetFieldStart ({ frames := 1, cells := 0, slots := 0, locals := 20 } : Room) G (fk_cW q k) (fk_cT k) [.ref (q 4)] sz z0 (fX0_meetFieldStart z0) := by
  refine fk_head (cc := cX0_meetFieldStart) (maxL := 1) (ret := none) (QQ := fun A => va_Qv (fun z1 => z1 = fX0_meetFieldStart z0) (fk_At G (fk_cW q k) (fk_cT k) A) A) (by decide) rfl (Nat.le_of_ble_eq_true rfl) ?_ sz
  intro p e s m below meth c A ls hx hb hr hlk hml hown hts hK hN hA hP hD hS hl
  have hown : s.vm.findClass RX0 = some m.cls := hown
  have F9 : CallFix p m c cX0_meetFieldStart 1 s ([.ref (q 4)] : List Value).toArray wsX0_meetFieldStart RX0 := ⟨hx, hb, hml, hown, hts⟩
  have hl : lv_has ls 1 [(0, .ref (q 4))] := hl
  have hfl_15 := hts (.fieldLink RX0 15 "FloppyDesk$Controller" "reader" "LFloppyDesk$Reader;") (by decide +kernel)
  have hfl_26 := hts (.fieldLink RX0 26 "FloppyDesk$Controller" "latest" "I") (by decide +kernel)
  have hfl_30 := hts (.fieldLink RX0 30 "FloppyDesk$Controller" "status" "I") (by decide +kernel)
  have hfl_70 := hts (.fieldLink RX0 70 "FloppyDesk$Controller" "phase" "I") (by decide +kernel)
  have hi_0 : ∀ w ∈ u_ws RX0 TX0 12, w ∈ wsX0_meetFieldStart := by decide +kernel
  have hi_2 : ∀ w ∈ u_ws RX2 TX2 14, w ∈ wsX0_meetFieldStart := by decide +kernel
  have h34 : ∀ (z : fk_C) (H : Heap) (locs : List Loc) (ls : Array Slot), fX0_meetFieldStart z0 = fX0_meetFieldStart_34 z  → va_P G vwCl ((fk_cW q k) z) H → va_D A ((fk_cW q k) z) → va_S A s.heap H locs → lv_has ls 1 [(0, .ref (q 4))] → W p l e ({ frames := 1, cells := 0, slots := 0, locals := 20 } : Room) s m ([.ref (q 4)] : List Value).toArray below meth c H locs 0 0 (MQ below (va_Qv (fun z1 => z1 = fX0_meetFieldStart z0) (fk_At G (fk_cW q k) (fk_cT k) A) A) ([.ref (q 4)] : List Value).toArray s 0 0 A) (F0 m 34 ls []) := by
    intro z H locs ls hf  hP hD hS hl
    refine lv_aload_n hx hb dX0_meetFieldStart_34 rfl (lv_at hl 0 rfl) ?_
    refine va_get (D := G) (ci := 0) (v := .int (z.1 23)) (C := RX0) (T := TX0) (N := 12) hx hb hts hi_0 hown hK hP 4 rfl rfl 9 (by decide) hfl_70 (fun _ h9 => h9) rfl dX0_meetFieldStart_35 ?_
    refine lv_iconst (v := 3) hx hb dX0_meetFieldStart_38 (by decide) ?_
    refine lv_icmp_ne (tgt := 81) hx hb dX0_meetFieldStart_39 (by decide) (fun c39 => ?_) (fun c39 => ?_)
    · exact fk_vret hx hb hr hlk hK hP hD hS (Eq.symm (by rw [hf, fX0_meetFieldStart_34, if_neg c39] <;> rfl)) dX0_meetFieldStart_81
    · refine lv_aload_n hx hb dX0_meetFieldStart_42 rfl (lv_at hl 0 rfl) ?_
      refine va_get (D := G) (ci := 0) (v := .ref (q 3)) (C := RX0) (T := TX0) (N := 12) hx hb hts hi_0 hown hK hP 4 rfl rfl 1 (by decide) hfl_15 (fun _ h9 => h9) rfl dX0_meetFieldStart_43 ?_
      refine fk_Vp (Wd := (fk_cW q k)) (z := z) (As := []) (rest := []) F9 (c_X2_isLatestFieldId l G q k _ z) (cwV 0 hts gX0_meetFieldStart_X2_isLatestFieldId rfl rfl rfl (by decide +kernel) ⟨Nat.le_of_ble_eq_true rfl, Nat.le_of_ble_eq_true rfl⟩) (va_recv hK hP (ci := 2) (q0 := 3) rfl rfl) hK hP hD hS hA hN rfl hl.1 rfl (Nat.le_of_ble_eq_true rfl) dX0_meetFieldStart_46 ⟨Nat.zero_le _, Nat.zero_le _⟩ (fun H locs hP hD hS => ?_)
      refine lv_if_ne (tgt := 81) hx hb dX0_meetFieldStart_49 (by decide) (fun c49 => ?_) (fun c49 => ?_)
      · exact fk_vret hx hb hr hlk hK hP hD hS (Eq.symm (by rw [hf, fX0_meetFieldStart_34, if_pos c39, if_neg c49] <;> rfl)) dX0_meetFieldStart_81
      · refine lv_aload_n hx hb dX0_meetFieldStart_52 rfl (lv_at hl 0 rfl) ?_
        refine lv_iconst (v := 4) hx hb dX0_meetFieldStart_53 (by decide) ?_
        refine va_put (D := G) (ci := 0) (v := .int 4) (ty := .int) (C := RX0) (T := TX0) (N := 12) hx hb hts hi_0 tyX0 tyX0_ok nmX0 hown hK hP hD hS 4 rfl rfl 9 (by decide) hfl_70 (fun _ h9 => h9) rfl (by decide +kernel) rfl rfl (Nat.le_of_ble_eq_true rfl) dX0_meetFieldStart_54 (fun H locs hP hD hS => ?_)
        have hP : va_P G vwCl ((fk_cW q k) (upd z.1 23 4, z.2)) H := hP
        have hD : va_D A ((fk_cW q k) (upd z.1 23 4, z.2)) := hD
        refine lv_aload_n hx hb dX0_meetFieldStart_57 rfl (lv_at hl 0 rfl) ?_
        refine va_get (D := G) (ci := 0) (v := .ref (q 3)) (C := RX0) (T := TX0) (N := 12) hx hb hts hi_0 hown hK hP 4 rfl rfl 1 (by decide) hfl_15 (fun _ h9 => h9) rfl dX0_meetFieldStart_58 ?_
        refine va_getN (D := G) (ci := 2) (v := .int (z.1 8)) (C := RX2) (T := TX2) (N := 14) hx hb hts hi_2 hown hK hP 3 rfl rfl 5 (by decide) (hN.f 2 rfl) (fun _ h9 => h9) rfl dX0_meetFieldStart_61 ?_
        refine lv_sipush (v := 248) hx hb dX0_meetFieldStart_64 (by decide) ?_
        refine lv_icmp_ne (tgt := 81) hx hb dX0_meetFieldStart_67 (by decide) (fun c67 => ?_) (fun c67 => ?_)
        · exact fk_vret hx hb hr hlk hK hP hD hS (Eq.symm (by rw [hf, fX0_meetFieldStart_34, if_pos c39, if_pos c49, if_neg c67] <;> rfl)) dX0_meetFieldStart_81
        · refine lv_aload_n hx hb dX0_meetFieldStart_70 rfl (lv_at hl 0 rfl) ?_
          refine lv_dup hx hb dX0_meetFieldStart_71 rfl ?_
          refine va_get (D := G) (ci := 0) (v := .int (z.1 17)) (C := RX0) (T := TX0) (N := 12) hx hb hts hi_0 hown hK hP 4 rfl rfl 3 (by decide) hfl_30 (fun _ h9 => h9) rfl dX0_meetFieldStart_72 ?_
          refine lv_bipush (v := 32) hx hb dX0_meetFieldStart_75 (by decide) ?_
          refine lv_ior hx hb dX0_meetFieldStart_77 ?_
          refine va_put (D := G) (ci := 0) (v := .int ((z.1 17) ||| 32)) (ty := .int) (C := RX0) (T := TX0) (N := 12) hx hb hts hi_0 tyX0 tyX0_ok nmX0 hown hK hP hD hS 4 rfl rfl 3 (by decide) hfl_30 (fun _ h9 => h9) rfl (by decide +kernel) rfl rfl (Nat.le_of_ble_eq_true rfl) dX0_meetFieldStart_78 (fun H locs hP hD hS => ?_)
          have hP : va_P G vwCl ((fk_cW q k) (upd (upd z.1 23 4) 17 ((z.1 17) ||| 32), z.2)) H := hP
          have hD : va_D A ((fk_cW q k) (upd (upd z.1 23 4) 17 ((z.1 17) ||| 32), z.2)) := hD
          exact fk_vret hx hb hr hlk hK hP hD hS (Eq.symm (by rw [hf, fX0_meetFieldStart_34, if_pos c39, if_pos c49, if_pos c67] <;> rfl)) dX0_meetFieldStart_81
  refine lv_aload_n hx hb dX0_meetFieldStart_0 rfl (lv_at hl 0 rfl) ?_
  refine va_get (D := G) (ci := 0) (v := .int (z0.1 21)) (C := RX0) (T := TX0) (N := 12) hx hb hts hi_0 hown hK hP 4 rfl rfl 7 (by decide) hfl_26 (fun _ h9 => h9) rfl dX0_meetFieldStart_1 ?_
  refine lv_iconst (v := 4) hx hb dX0_meetFieldStart_4 (by decide) ?_
  refine lv_icmp_ne (tgt := 34) hx hb dX0_meetFieldStart_5 (by decide) (fun c5 => ?_) (fun c5 => ?_)
  · exact h34 z0 _ _ ls (by rw [fX0_meetFieldStart, if_neg c5] <;> rfl) hP hD hS (lv_sub hl [0] rfl)
  · refine lv_aload_n hx hb dX0_meetFieldStart_8 rfl (lv_at hl 0 rfl) ?_
    refine va_get (D := G) (ci := 0) (v := .int (z0.1 23)) (C := RX0) (T := TX0) (N := 12) hx hb hts hi_0 hown hK hP 4 rfl rfl 9 (by decide) hfl_70 (fun _ h9 => h9) rfl dX0_meetFieldStart_9 ?_
    refine lv_iconst (v := 2) hx hb dX0_meetFieldStart_12 (by decide) ?_
    refine lv_icmp_ne (tgt := 34) hx hb dX0_meetFieldStart_13 (by decide) (fun c13 => ?_) (fun c13 => ?_)
    · exact h34 z0 _ _ ls (by rw [fX0_meetFieldStart, if_pos c5, if_neg c13] <;> rfl) hP hD hS (lv_sub hl [0] rfl)
    · refine lv_aload_n hx hb dX0_meetFieldStart_16 rfl (lv_at hl 0 rfl) ?_
      refine va_get (D := G) (ci := 0) (v := .ref (q 3)) (C := RX0) (T := TX0) (N := 12) hx hb hts hi_0 hown hK hP 4 rfl rfl 1 (by decide) hfl_15 (fun _ h9 => h9) rfl dX0_meetFieldStart_17 ?_
      refine fk_Vp (Wd := (fk_cW q k)) (z := z0) (As := []) (rest := []) F9 (c_X2_isLatestFieldId l G q k _ z0) (cwV 0 hts gX0_meetFieldStart_X2_isLatestFieldId rfl rfl rfl (by decide +kernel) ⟨Nat.le_of_ble_eq_true rfl, Nat.le_of_ble_eq_true rfl⟩) (va_recv hK hP (ci := 2) (q0 := 3) rfl rfl) hK hP hD hS hA hN rfl hl.1 rfl (Nat.le_of_ble_eq_true rfl) dX0_meetFieldStart_20 ⟨Nat.zero_le _, Nat.zero_le _⟩ (fun H locs hP hD hS => ?_)
      refine lv_if_eq (tgt := 34) hx hb dX0_meetFieldStart_23 (by decide) (fun c23 => ?_) (fun c23 => ?_)
      · exact h34 z0 _ _ ls (by rw [fX0_meetFieldStart, if_pos c5, if_pos c13, if_pos c23] <;> rfl) hP hD hS (lv_sub hl [0] rfl)
      · refine lv_aload_n hx hb dX0_meetFieldStart_26 rfl (lv_at hl 0 rfl) ?_
        refine lv_iconst (v := 4) hx hb dX0_meetFieldStart_27 (by decide) ?_
        refine va_put (D := G) (ci := 0) (v := .int 4) (ty := .int) (C := RX0) (T := TX0) (N := 12) hx hb hts hi_0 tyX0 tyX0_ok nmX0 hown hK hP hD hS 4 rfl rfl 9 (by decide) hfl_70 (fun _ h9 => h9) rfl (by decide +kernel) rfl rfl (Nat.le_of_ble_eq_true rfl) dX0_meetFieldStart_28 (fun H locs hP hD hS => ?_)
        have hP : va_P G vwCl ((fk_cW q k) (upd z0.1 23 4, z0.2)) H := hP
        have hD : va_D A ((fk_cW q k) (upd z0.1 23 4, z0.2)) := hD
        refine lv_goto (tgt := 81) hx hb dX0_meetFieldStart_31 (by decide) ?_
        exact fk_vret hx hb hr hlk hK hP hD hS (Eq.symm (by rw [fX0_meetFieldStart, if_pos c5, if_pos c13, if_neg c23] <;> rfl)) dX0_meetFieldStart_81
-- FloppyDesk$Reader.isLatestByteOfCheck()Z
def fX2_isLatestByteOfCheck (z0 : fk_C) : Int32 :=
  (if (fX2_isLatestFieldId z0) = 0 then (if (z0.1 9) ≤ (z0.1 16) then 0 else 1) else 0)
set_option maxHeartbeats 4000000 in
set_option maxRecDepth 100000 in
theorem c_X2_isLatestByteOfCheck (l : Launch) (G : va_G) (q : Nat → Nat) (k : Nat → ClassId) (sz : Nat) (z0 : fk_C) : fk_Mp l yX2_isLatestByteOfCheck wsX2_isLatestByteOfCheck ({ frames := 1, cells := 0, slots := 0, locals := 20 } : Room) G (fk_cW q k) (fk_cT k) [.ref (q 3)] sz z0 (fX2_isLatestByteOfCheck z0) := by
  refine fk_head (cc := cX2_isLatestByteOfCheck) (maxL := 1) (ret := (some .boolean)) (QQ := fun A => va_Qi (fun r (_ : Unit) => r = fX2_isLatestByteOfCheck z0) (fun _ => fk_At G (fk_cW q k) (fk_cT k) A z0) A) (by decide) rfl (Nat.le_of_ble_eq_true rfl) ?_ sz
  intro p e s m below meth c A ls hx hb hr hlk hml hown hts hK hN hA hP hD hS hl
  have hown : s.vm.findClass RX2 = some m.cls := hown
  have F9 : CallFix p m c cX2_isLatestByteOfCheck 1 s ([.ref (q 3)] : List Value).toArray wsX2_isLatestByteOfCheck RX2 := ⟨hx, hb, hml, hown, hts⟩
  have hl : lv_has ls 1 [(0, .ref (q 3))] := hl
  have hfl_11 := hts (.fieldLink RX2 11 "FloppyDesk$Reader" "dataSize" "I") (by decide +kernel)
  have hfl_51 := hts (.fieldLink RX2 51 "FloppyDesk$Reader" "fieldBytes" "I") (by decide +kernel)
  have hi_2 : ∀ w ∈ u_ws RX2 TX2 14, w ∈ wsX2_isLatestByteOfCheck := by decide +kernel
  refine lv_aload_n hx hb dX2_isLatestByteOfCheck_0 rfl (lv_at hl 0 rfl) ?_
  refine fk_Vp (Wd := (fk_cW q k)) (z := z0) (As := []) (rest := []) F9 (c_X2_isLatestFieldId l G q k _ z0) (cwV 0 hts gX2_isLatestByteOfCheck_X2_isLatestFieldId rfl rfl rfl (by decide +kernel) ⟨Nat.le_of_ble_eq_true rfl, Nat.le_of_ble_eq_true rfl⟩) (va_recv hK hP (ci := 2) (q0 := 3) rfl rfl) hK hP hD hS hA hN rfl hl.1 rfl (Nat.le_of_ble_eq_true rfl) dX2_isLatestByteOfCheck_1 ⟨Nat.zero_le _, Nat.zero_le _⟩ (fun H locs hP hD hS => ?_)
  refine lv_if_ne (tgt := 22) hx hb dX2_isLatestByteOfCheck_4 (by decide) (fun c4 => ?_) (fun c4 => ?_)
  · refine lv_iconst (v := 0) hx hb dX2_isLatestByteOfCheck_22 (by decide) ?_
    exact fk_pret hx hb hr hlk hK hP hD hS rfl (Eq.symm (by rw [fX2_isLatestByteOfCheck, if_neg c4] <;> rfl)) dX2_isLatestByteOfCheck_23
  · refine lv_aload_n hx hb dX2_isLatestByteOfCheck_7 rfl (lv_at hl 0 rfl) ?_
    refine va_get (D := G) (ci := 2) (v := .int (z0.1 9)) (C := RX2) (T := TX2) (N := 14) hx hb hts hi_2 hown hK hP 3 rfl rfl 6 (by decide) hfl_51 (fun _ h9 => h9) rfl dX2_isLatestByteOfCheck_8 ?_
    refine lv_aload_n hx hb dX2_isLatestByteOfCheck_11 rfl (lv_at hl 0 rfl) ?_
    refine va_get (D := G) (ci := 2) (v := .int (z0.1 16)) (C := RX2) (T := TX2) (N := 14) hx hb hts hi_2 hown hK hP 3 rfl rfl 13 (by decide) hfl_11 (fun _ h9 => h9) rfl dX2_isLatestByteOfCheck_12 ?_
    refine lv_icmp_le (tgt := 22) hx hb dX2_isLatestByteOfCheck_15 (by decide) (fun c15 => ?_) (fun c15 => ?_)
    · refine lv_iconst (v := 0) hx hb dX2_isLatestByteOfCheck_22 (by decide) ?_
      exact fk_pret hx hb hr hlk hK hP hD hS rfl (Eq.symm (by rw [fX2_isLatestByteOfCheck, if_pos c4, if_pos c15] <;> rfl)) dX2_isLatestByteOfCheck_23
    · refine lv_iconst (v := 1) hx hb dX2_isLatestByteOfCheck_18 (by decide) ?_
      refine lv_goto (tgt := 23) hx hb dX2_isLatestByteOfCheck_19 (by decide) ?_
      exact fk_pret hx hb hr hlk hK hP hD hS rfl (Eq.symm (by rw [fX2_isLatestByteOfCheck, if_pos c4, if_neg c15] <;> rfl)) dX2_isLatestByteOfCheck_23
-- FloppyDesk$Controller.meetFieldByte()V
def fX0_meetFieldByte (z0 : fk_C) : fk_C :=
  (if (z0.1 23) = 4 then (if (fX2_isLatestByteOfCheck z0) = 0 then (if (fX0_has (upd z0.1 20 (z0.1 12), z0.2) 2) = 0 then (upd (upd z0.1 20 (z0.1 12)) 17 ((z0.1 17) ||| 2), z0.2) else (upd (upd (upd z0.1 20 (z0.1 12)) 17 ((z0.1 17) ||| 4)) 17 (((z0.1 17) ||| 4) ||| 2), z0.2)) else z0) else z0)
set_option maxHeartbeats 4000000 in
set_option maxRecDepth 100000 in
theorem c_X0_meetFieldByte (l : Launch) (G : va_G) (q : Nat → Nat) (k : Nat → ClassId) (sz : Nat) (z0 : fk_C) : fk_Mv l yX0_meetFieldByte wsX0_meetFieldByte ({ frames := 2, cells := 0, slots := 0, locals := 40 } : Room) G (fk_cW q k) (fk_cT k) [.ref (q 4)] sz z0 (fX0_meetFieldByte z0) := by
  refine fk_head (cc := cX0_meetFieldByte) (maxL := 1) (ret := none) (QQ := fun A => va_Qv (fun z1 => z1 = fX0_meetFieldByte z0) (fk_At G (fk_cW q k) (fk_cT k) A) A) (by decide) rfl (Nat.le_of_ble_eq_true rfl) ?_ sz
  intro p e s m below meth c A ls hx hb hr hlk hml hown hts hK hN hA hP hD hS hl
  have hown : s.vm.findClass RX0 = some m.cls := hown
  have F9 : CallFix p m c cX0_meetFieldByte 1 s ([.ref (q 4)] : List Value).toArray wsX0_meetFieldByte RX0 := ⟨hx, hb, hml, hown, hts⟩
  have hl : lv_has ls 1 [(0, .ref (q 4))] := hl
  have hfl_15 := hts (.fieldLink RX0 15 "FloppyDesk$Controller" "reader" "LFloppyDesk$Reader;") (by decide +kernel)
  have hfl_30 := hts (.fieldLink RX0 30 "FloppyDesk$Controller" "status" "I") (by decide +kernel)
  have hfl_33 := hts (.fieldLink RX0 33 "FloppyDesk$Controller" "data" "I") (by decide +kernel)
  have hfl_70 := hts (.fieldLink RX0 70 "FloppyDesk$Controller" "phase" "I") (by decide +kernel)
  have hi_0 : ∀ w ∈ u_ws RX0 TX0 12, w ∈ wsX0_meetFieldByte := by decide +kernel
  have hi_2 : ∀ w ∈ u_ws RX2 TX2 14, w ∈ wsX0_meetFieldByte := by decide +kernel
  refine lv_aload_n hx hb dX0_meetFieldByte_0 rfl (lv_at hl 0 rfl) ?_
  refine va_get (D := G) (ci := 0) (v := .int (z0.1 23)) (C := RX0) (T := TX0) (N := 12) hx hb hts hi_0 hown hK hP 4 rfl rfl 9 (by decide) hfl_70 (fun _ h9 => h9) rfl dX0_meetFieldByte_1 ?_
  refine lv_iconst (v := 4) hx hb dX0_meetFieldByte_4 (by decide) ?_
  refine lv_icmp_ne (tgt := 18) hx hb dX0_meetFieldByte_5 (by decide) (fun c5 => ?_) (fun c5 => ?_)
  · exact fk_vret hx hb hr hlk hK hP hD hS (Eq.symm (by rw [fX0_meetFieldByte, if_neg c5] <;> rfl)) dX0_meetFieldByte_18
  · refine lv_aload_n hx hb dX0_meetFieldByte_8 rfl (lv_at hl 0 rfl) ?_
    refine va_get (D := G) (ci := 0) (v := .ref (q 3)) (C := RX0) (T := TX0) (N := 12) hx hb hts hi_0 hown hK hP 4 rfl rfl 1 (by decide) hfl_15 (fun _ h9 => h9) rfl dX0_meetFieldByte_9 ?_
    refine fk_Vp (Wd := (fk_cW q k)) (z := z0) (As := []) (rest := []) F9 (c_X2_isLatestByteOfCheck l G q k _ z0) (cwV 0 hts gX0_meetFieldByte_X2_isLatestByteOfCheck rfl rfl rfl (by decide +kernel) ⟨Nat.le_of_ble_eq_true rfl, Nat.le_of_ble_eq_true rfl⟩) (va_recv hK hP (ci := 2) (q0 := 3) rfl rfl) hK hP hD hS hA hN rfl hl.1 rfl (Nat.le_of_ble_eq_true rfl) dX0_meetFieldByte_12 ⟨Nat.zero_le _, Nat.zero_le _⟩ (fun H locs hP hD hS => ?_)
    refine lv_if_eq (tgt := 19) hx hb dX0_meetFieldByte_15 (by decide) (fun c15 => ?_) (fun c15 => ?_)
    · refine lv_aload_n hx hb dX0_meetFieldByte_19 rfl (lv_at hl 0 rfl) ?_
      refine lv_aload_n hx hb dX0_meetFieldByte_20 rfl (lv_at hl 0 rfl) ?_
      refine va_get (D := G) (ci := 0) (v := .ref (q 3)) (C := RX0) (T := TX0) (N := 12) hx hb hts hi_0 hown hK hP 4 rfl rfl 1 (by decide) hfl_15 (fun _ h9 => h9) rfl dX0_meetFieldByte_21 ?_
      refine va_getN (D := G) (ci := 2) (v := .int (z0.1 12)) (C := RX2) (T := TX2) (N := 14) hx hb hts hi_2 hown hK hP 3 rfl rfl 9 (by decide) (hN.f 3 rfl) (fun _ h9 => h9) rfl dX0_meetFieldByte_24 ?_
      refine va_put (D := G) (ci := 0) (v := .int (z0.1 12)) (ty := .int) (C := RX0) (T := TX0) (N := 12) hx hb hts hi_0 tyX0 tyX0_ok nmX0 hown hK hP hD hS 4 rfl rfl 6 (by decide) hfl_33 (fun _ h9 => h9) rfl (by decide +kernel) rfl rfl (Nat.le_of_ble_eq_true rfl) dX0_meetFieldByte_27 (fun H locs hP hD hS => ?_)
      have hP : va_P G vwCl ((fk_cW q k) (upd z0.1 20 (z0.1 12), z0.2)) H := hP
      have hD : va_D A ((fk_cW q k) (upd z0.1 20 (z0.1 12), z0.2)) := hD
      refine lv_aload_n hx hb dX0_meetFieldByte_30 rfl (lv_at hl 0 rfl) ?_
      refine lv_iconst (v := 2) hx hb dX0_meetFieldByte_31 (by decide) ?_
      refine fk_Vp (Wd := (fk_cW q k)) (z := (upd z0.1 20 (z0.1 12), z0.2)) (As := [.int 2]) (rest := []) F9 (c_X0_has l G q k _ (upd z0.1 20 (z0.1 12), z0.2) 2) (cwV 1 hts gX0_meetFieldByte_X0_has rfl rfl rfl (by decide +kernel) ⟨Nat.le_of_ble_eq_true rfl, Nat.le_of_ble_eq_true rfl⟩) (va_recv hK hP (ci := 0) (q0 := 4) rfl rfl) hK hP hD hS hA hN rfl hl.1 rfl (Nat.le_of_ble_eq_true rfl) dX0_meetFieldByte_32 ⟨Nat.zero_le _, Nat.zero_le _⟩ (fun H locs hP hD hS => ?_)
      refine lv_if_eq (tgt := 48) hx hb dX0_meetFieldByte_35 (by decide) (fun c35 => ?_) (fun c35 => ?_)
      · refine lv_aload_n hx hb dX0_meetFieldByte_48 rfl (lv_at hl 0 rfl) ?_
        refine lv_dup hx hb dX0_meetFieldByte_49 rfl ?_
        refine va_get (D := G) (ci := 0) (v := .int (z0.1 17)) (C := RX0) (T := TX0) (N := 12) hx hb hts hi_0 hown hK hP 4 rfl rfl 3 (by decide) hfl_30 (fun _ h9 => h9) rfl dX0_meetFieldByte_50 ?_
        refine lv_iconst (v := 2) hx hb dX0_meetFieldByte_53 (by decide) ?_
        refine lv_ior hx hb dX0_meetFieldByte_54 ?_
        refine va_put (D := G) (ci := 0) (v := .int ((z0.1 17) ||| 2)) (ty := .int) (C := RX0) (T := TX0) (N := 12) hx hb hts hi_0 tyX0 tyX0_ok nmX0 hown hK hP hD hS 4 rfl rfl 3 (by decide) hfl_30 (fun _ h9 => h9) rfl (by decide +kernel) rfl rfl (Nat.le_of_ble_eq_true rfl) dX0_meetFieldByte_55 (fun H locs hP hD hS => ?_)
        have hP : va_P G vwCl ((fk_cW q k) (upd (upd z0.1 20 (z0.1 12)) 17 ((z0.1 17) ||| 2), z0.2)) H := hP
        have hD : va_D A ((fk_cW q k) (upd (upd z0.1 20 (z0.1 12)) 17 ((z0.1 17) ||| 2), z0.2)) := hD
        exact fk_vret hx hb hr hlk hK hP hD hS (Eq.symm (by rw [fX0_meetFieldByte, if_pos c5, if_pos c15, if_pos c35] <;> rfl)) dX0_meetFieldByte_58
      · refine lv_aload_n hx hb dX0_meetFieldByte_38 rfl (lv_at hl 0 rfl) ?_
        refine lv_dup hx hb dX0_meetFieldByte_39 rfl ?_
        refine va_get (D := G) (ci := 0) (v := .int (z0.1 17)) (C := RX0) (T := TX0) (N := 12) hx hb hts hi_0 hown hK hP 4 rfl rfl 3 (by decide) hfl_30 (fun _ h9 => h9) rfl dX0_meetFieldByte_40 ?_
        refine lv_iconst (v := 4) hx hb dX0_meetFieldByte_43 (by decide) ?_
        refine lv_ior hx hb dX0_meetFieldByte_44 ?_
        refine va_put (D := G) (ci := 0) (v := .int ((z0.1 17) ||| 4)) (ty := .int) (C := RX0) (T := TX0) (N := 12) hx hb hts hi_0 tyX0 tyX0_ok nmX0 hown hK hP hD hS 4 rfl rfl 3 (by decide) hfl_30 (fun _ h9 => h9) rfl (by decide +kernel) rfl rfl (Nat.le_of_ble_eq_true rfl) dX0_meetFieldByte_45 (fun H locs hP hD hS => ?_)
        have hP : va_P G vwCl ((fk_cW q k) (upd (upd z0.1 20 (z0.1 12)) 17 ((z0.1 17) ||| 4), z0.2)) H := hP
        have hD : va_D A ((fk_cW q k) (upd (upd z0.1 20 (z0.1 12)) 17 ((z0.1 17) ||| 4), z0.2)) := hD
        refine lv_aload_n hx hb dX0_meetFieldByte_48 rfl (lv_at hl 0 rfl) ?_
        refine lv_dup hx hb dX0_meetFieldByte_49 rfl ?_
        refine va_get (D := G) (ci := 0) (v := .int ((z0.1 17) ||| 4)) (C := RX0) (T := TX0) (N := 12) hx hb hts hi_0 hown hK hP 4 rfl rfl 3 (by decide) hfl_30 (fun _ h9 => h9) rfl dX0_meetFieldByte_50 ?_
        refine lv_iconst (v := 2) hx hb dX0_meetFieldByte_53 (by decide) ?_
        refine lv_ior hx hb dX0_meetFieldByte_54 ?_
        refine va_put (D := G) (ci := 0) (v := .int (((z0.1 17) ||| 4) ||| 2)) (ty := .int) (C := RX0) (T := TX0) (N := 12) hx hb hts hi_0 tyX0 tyX0_ok nmX0 hown hK hP hD hS 4 rfl rfl 3 (by decide) hfl_30 (fun _ h9 => h9) rfl (by decide +kernel) rfl rfl (Nat.le_of_ble_eq_true rfl) dX0_meetFieldByte_55 (fun H locs hP hD hS => ?_)
        have hP : va_P G vwCl ((fk_cW q k) (upd (upd (upd z0.1 20 (z0.1 12)) 17 ((z0.1 17) ||| 4)) 17 (((z0.1 17) ||| 4) ||| 2), z0.2)) H := hP
        have hD : va_D A ((fk_cW q k) (upd (upd (upd z0.1 20 (z0.1 12)) 17 ((z0.1 17) ||| 4)) 17 (((z0.1 17) ||| 4) ||| 2), z0.2)) := hD
        exact fk_vret hx hb hr hlk hK hP hD hS (Eq.symm (by rw [fX0_meetFieldByte, if_pos c5, if_pos c15, if_neg c35] <;> rfl)) dX0_meetFieldByte_58
    · exact fk_vret hx hb hr hlk hK hP hD hS (Eq.symm (by rw [fX0_meetFieldByte, if_pos c5, if_neg c15] <;> rfl)) dX0_meetFieldByte_18
-- FloppyDesk$Controller.endReading()V
def fX0_endReading_19 (z : fk_C) : fk_C :=
  (if (fX2_isCheckRight z) = 0 then fX0_end (upd z.1 17 ((z.1 17) ||| 8), z.2) else fX0_end z)
def fX0_endReading (z0 : fk_C) : fk_C :=
  (if (z0.1 21) = 4 then fX0_endReading_19 (upd z0.1 19 (z0.1 13), z0.2) else fX0_endReading_19 z0)
set_option maxHeartbeats 4000000 in
set_option maxRecDepth 100000 in
theorem c_X0_endReading (l : Launch) (G : va_G) (q : Nat → Nat) (k : Nat → ClassId) (sz : Nat) (z0 : fk_C) : fk_Mv l yX0_endReading wsX0_endReading ({ frames := 2, cells := 0, slots := 0, locals := 40 } : Room) G (fk_cW q k) (fk_cT k) [.ref (q 4)] sz z0 (fX0_endReading z0) := by
  refine fk_head (cc := cX0_endReading) (maxL := 1) (ret := none) (QQ := fun A => va_Qv (fun z1 => z1 = fX0_endReading z0) (fk_At G (fk_cW q k) (fk_cT k) A) A) (by decide) rfl (Nat.le_of_ble_eq_true rfl) ?_ sz
  intro p e s m below meth c A ls hx hb hr hlk hml hown hts hK hN hA hP hD hS hl
  have hown : s.vm.findClass RX0 = some m.cls := hown
  have F9 : CallFix p m c cX0_endReading 1 s ([.ref (q 4)] : List Value).toArray wsX0_endReading RX0 := ⟨hx, hb, hml, hown, hts⟩
  have hl : lv_has ls 1 [(0, .ref (q 4))] := hl
  have hfl_15 := hts (.fieldLink RX0 15 "FloppyDesk$Controller" "reader" "LFloppyDesk$Reader;") (by decide +kernel)
  have hfl_26 := hts (.fieldLink RX0 26 "FloppyDesk$Controller" "latest" "I") (by decide +kernel)
  have hfl_30 := hts (.fieldLink RX0 30 "FloppyDesk$Controller" "status" "I") (by decide +kernel)
  have hfl_148 := hts (.fieldLink RX0 148 "FloppyDesk$Controller" "sector" "I") (by decide +kernel)
  have hi_0 : ∀ w ∈ u_ws RX0 TX0 12, w ∈ wsX0_endReading := by decide +kernel
  have hi_2 : ∀ w ∈ u_ws RX2 TX2 14, w ∈ wsX0_endReading := by decide +kernel
  have h19 : ∀ (z : fk_C) (H : Heap) (locs : List Loc) (ls : Array Slot), fX0_endReading z0 = fX0_endReading_19 z  → va_P G vwCl ((fk_cW q k) z) H → va_D A ((fk_cW q k) z) → va_S A s.heap H locs → lv_has ls 1 [(0, .ref (q 4))] → W p l e ({ frames := 2, cells := 0, slots := 0, locals := 40 } : Room) s m ([.ref (q 4)] : List Value).toArray below meth c H locs 0 0 (MQ below (va_Qv (fun z1 => z1 = fX0_endReading z0) (fk_At G (fk_cW q k) (fk_cT k) A) A) ([.ref (q 4)] : List Value).toArray s 0 0 A) (F0 m 19 ls []) := by
    intro z H locs ls hf  hP hD hS hl
    refine lv_aload_n hx hb dX0_endReading_19 rfl (lv_at hl 0 rfl) ?_
    refine va_get (D := G) (ci := 0) (v := .ref (q 3)) (C := RX0) (T := TX0) (N := 12) hx hb hts hi_0 hown hK hP 4 rfl rfl 1 (by decide) hfl_15 (fun _ h9 => h9) rfl dX0_endReading_20 ?_
    refine fk_Vp (Wd := (fk_cW q k)) (z := z) (As := []) (rest := []) F9 (c_X2_isCheckRight l G q k _ z) (cwV 0 hts gX0_endReading_X2_isCheckRight rfl rfl rfl (by decide +kernel) ⟨Nat.le_of_ble_eq_true rfl, Nat.le_of_ble_eq_true rfl⟩) (va_recv hK hP (ci := 2) (q0 := 3) rfl rfl) hK hP hD hS hA hN rfl hl.1 rfl (Nat.le_of_ble_eq_true rfl) dX0_endReading_23 ⟨Nat.zero_le _, Nat.zero_le _⟩ (fun H locs hP hD hS => ?_)
    refine lv_if_ne (tgt := 40) hx hb dX0_endReading_26 (by decide) (fun c26 => ?_) (fun c26 => ?_)
    · refine lv_aload_n hx hb dX0_endReading_40 rfl (lv_at hl 0 rfl) ?_
      have hl := lv_sub hl [] (l' := []) rfl
      refine fk_Vv (Wd := (fk_cW q k)) (z := z) (As := []) (rest := []) F9 (c_X0_end l G q k _ z) (cwV 0 hts gX0_endReading_X0_end rfl rfl rfl (by decide +kernel) ⟨Nat.le_of_ble_eq_true rfl, Nat.le_of_ble_eq_true rfl⟩) (va_recv hK hP (ci := 0) (q0 := 4) rfl rfl) hK hP hD hS hA hN rfl hl.1 rfl (Nat.le_of_ble_eq_true rfl) dX0_endReading_41 ⟨Nat.zero_le _, Nat.zero_le _⟩ (fun z H locs hw hP hD hS => ?_)
      exact fk_vret hx hb hr hlk hK hP hD hS (hw.trans (Eq.symm (by rw [hf, fX0_endReading_19, if_neg c26] <;> rfl))) dX0_endReading_44
    · refine lv_aload_n hx hb dX0_endReading_29 rfl (lv_at hl 0 rfl) ?_
      refine lv_dup hx hb dX0_endReading_30 rfl ?_
      refine va_get (D := G) (ci := 0) (v := .int (z.1 17)) (C := RX0) (T := TX0) (N := 12) hx hb hts hi_0 hown hK hP 4 rfl rfl 3 (by decide) hfl_30 (fun _ h9 => h9) rfl dX0_endReading_31 ?_
      refine lv_bipush (v := 8) hx hb dX0_endReading_34 (by decide) ?_
      refine lv_ior hx hb dX0_endReading_36 ?_
      refine va_put (D := G) (ci := 0) (v := .int ((z.1 17) ||| 8)) (ty := .int) (C := RX0) (T := TX0) (N := 12) hx hb hts hi_0 tyX0 tyX0_ok nmX0 hown hK hP hD hS 4 rfl rfl 3 (by decide) hfl_30 (fun _ h9 => h9) rfl (by decide +kernel) rfl rfl (Nat.le_of_ble_eq_true rfl) dX0_endReading_37 (fun H locs hP hD hS => ?_)
      have hP : va_P G vwCl ((fk_cW q k) (upd z.1 17 ((z.1 17) ||| 8), z.2)) H := hP
      have hD : va_D A ((fk_cW q k) (upd z.1 17 ((z.1 17) ||| 8), z.2)) := hD
      refine lv_aload_n hx hb dX0_endReading_40 rfl (lv_at hl 0 rfl) ?_
      have hl := lv_sub hl [] (l' := []) rfl
      refine fk_Vv (Wd := (fk_cW q k)) (z := (upd z.1 17 ((z.1 17) ||| 8), z.2)) (As := []) (rest := []) F9 (c_X0_end l G q k _ (upd z.1 17 ((z.1 17) ||| 8), z.2)) (cwV 0 hts gX0_endReading_X0_end rfl rfl rfl (by decide +kernel) ⟨Nat.le_of_ble_eq_true rfl, Nat.le_of_ble_eq_true rfl⟩) (va_recv hK hP (ci := 0) (q0 := 4) rfl rfl) hK hP hD hS hA hN rfl hl.1 rfl (Nat.le_of_ble_eq_true rfl) dX0_endReading_41 ⟨Nat.zero_le _, Nat.zero_le _⟩ (fun z H locs hw hP hD hS => ?_)
      exact fk_vret hx hb hr hlk hK hP hD hS (hw.trans (Eq.symm (by rw [hf, fX0_endReading_19, if_pos c26] <;> rfl))) dX0_endReading_44
  refine lv_aload_n hx hb dX0_endReading_0 rfl (lv_at hl 0 rfl) ?_
  refine va_get (D := G) (ci := 0) (v := .int (z0.1 21)) (C := RX0) (T := TX0) (N := 12) hx hb hts hi_0 hown hK hP 4 rfl rfl 7 (by decide) hfl_26 (fun _ h9 => h9) rfl dX0_endReading_1 ?_
  refine lv_iconst (v := 4) hx hb dX0_endReading_4 (by decide) ?_
  refine lv_icmp_ne (tgt := 19) hx hb dX0_endReading_5 (by decide) (fun c5 => ?_) (fun c5 => ?_)
  · exact h19 z0 _ _ ls (by rw [fX0_endReading, if_neg c5] <;> rfl) hP hD hS (lv_sub hl [0] rfl)
  · refine lv_aload_n hx hb dX0_endReading_8 rfl (lv_at hl 0 rfl) ?_
    refine lv_aload_n hx hb dX0_endReading_9 rfl (lv_at hl 0 rfl) ?_
    refine va_get (D := G) (ci := 0) (v := .ref (q 3)) (C := RX0) (T := TX0) (N := 12) hx hb hts hi_0 hown hK hP 4 rfl rfl 1 (by decide) hfl_15 (fun _ h9 => h9) rfl dX0_endReading_10 ?_
    refine va_getN (D := G) (ci := 2) (v := .int (z0.1 13)) (C := RX2) (T := TX2) (N := 14) hx hb hts hi_2 hown hK hP 3 rfl rfl 10 (by decide) (hN.f 4 rfl) (fun _ h9 => h9) rfl dX0_endReading_13 ?_
    refine va_put (D := G) (ci := 0) (v := .int (z0.1 13)) (ty := .int) (C := RX0) (T := TX0) (N := 12) hx hb hts hi_0 tyX0 tyX0_ok nmX0 hown hK hP hD hS 4 rfl rfl 5 (by decide) hfl_148 (fun _ h9 => h9) rfl (by decide +kernel) rfl rfl (Nat.le_of_ble_eq_true rfl) dX0_endReading_16 (fun H locs hP hD hS => ?_)
    have hP : va_P G vwCl ((fk_cW q k) (upd z0.1 19 (z0.1 13), z0.2)) H := hP
    have hD : va_D A ((fk_cW q k) (upd z0.1 19 (z0.1 13), z0.2)) := hD
    exact h19 (upd z0.1 19 (z0.1 13), z0.2) _ _ ls (by rw [fX0_endReading, if_pos c5] <;> rfl) hP hD hS (lv_sub hl [0] rfl)
-- FloppyDesk$Controller.compareId()V
def fX0_compareId (z0 : fk_C) : fk_C :=
  (if (fX2_isCheckRight z0) = 0 then (upd z0.1 17 ((z0.1 17) ||| 8), z0.2) else (if (z0.1 13) = (z0.1 18) then (if (z0.1 14) = (z0.1 19) then (if (z0.1 21) = 3 then (upd (upd (upd (upd z0.1 17 ((z0.1 17) &&& (-9))) 24 0) 23 5) 17 (((z0.1 17) &&& (-9)) ||| 2), z0.2) else (upd (upd (upd z0.1 17 ((z0.1 17) &&& (-9))) 24 0) 23 3, z0.2)) else (upd z0.1 17 ((z0.1 17) &&& (-9)), z0.2)) else (upd z0.1 17 ((z0.1 17) &&& (-9)), z0.2)))
set_option maxHeartbeats 4000000 in
set_option maxRecDepth 100000 in
theorem c_X0_compareId (l : Launch) (G : va_G) (q : Nat → Nat) (k : Nat → ClassId) (sz : Nat) (z0 : fk_C) : fk_Mv l yX0_compareId wsX0_compareId ({ frames := 1, cells := 0, slots := 0, locals := 20 } : Room) G (fk_cW q k) (fk_cT k) [.ref (q 4)] sz z0 (fX0_compareId z0) := by
  refine fk_head (cc := cX0_compareId) (maxL := 1) (ret := none) (QQ := fun A => va_Qv (fun z1 => z1 = fX0_compareId z0) (fk_At G (fk_cW q k) (fk_cT k) A) A) (by decide) rfl (Nat.le_of_ble_eq_true rfl) ?_ sz
  intro p e s m below meth c A ls hx hb hr hlk hml hown hts hK hN hA hP hD hS hl
  have hown : s.vm.findClass RX0 = some m.cls := hown
  have F9 : CallFix p m c cX0_compareId 1 s ([.ref (q 4)] : List Value).toArray wsX0_compareId RX0 := ⟨hx, hb, hml, hown, hts⟩
  have hl : lv_has ls 1 [(0, .ref (q 4))] := hl
  have hfl_15 := hts (.fieldLink RX0 15 "FloppyDesk$Controller" "reader" "LFloppyDesk$Reader;") (by decide +kernel)
  have hfl_26 := hts (.fieldLink RX0 26 "FloppyDesk$Controller" "latest" "I") (by decide +kernel)
  have hfl_30 := hts (.fieldLink RX0 30 "FloppyDesk$Controller" "status" "I") (by decide +kernel)
  have hfl_44 := hts (.fieldLink RX0 44 "FloppyDesk$Controller" "byteTimes" "I") (by decide +kernel)
  have hfl_58 := hts (.fieldLink RX0 58 "FloppyDesk$Controller" "track" "I") (by decide +kernel)
  have hfl_70 := hts (.fieldLink RX0 70 "FloppyDesk$Controller" "phase" "I") (by decide +kernel)
  have hfl_148 := hts (.fieldLink RX0 148 "FloppyDesk$Controller" "sector" "I") (by decide +kernel)
  have hi_0 : ∀ w ∈ u_ws RX0 TX0 12, w ∈ wsX0_compareId := by decide +kernel
  have hi_2 : ∀ w ∈ u_ws RX2 TX2 14, w ∈ wsX0_compareId := by decide +kernel
  refine lv_aload_n hx hb dX0_compareId_0 rfl (lv_at hl 0 rfl) ?_
  refine va_get (D := G) (ci := 0) (v := .ref (q 3)) (C := RX0) (T := TX0) (N := 12) hx hb hts hi_0 hown hK hP 4 rfl rfl 1 (by decide) hfl_15 (fun _ h9 => h9) rfl dX0_compareId_1 ?_
  refine fk_Vp (Wd := (fk_cW q k)) (z := z0) (As := []) (rest := []) F9 (c_X2_isCheckRight l G q k _ z0) (cwV 0 hts gX0_compareId_X2_isCheckRight rfl rfl rfl (by decide +kernel) ⟨Nat.le_of_ble_eq_true rfl, Nat.le_of_ble_eq_true rfl⟩) (va_recv hK hP (ci := 2) (q0 := 3) rfl rfl) hK hP hD hS hA hN rfl hl.1 rfl (Nat.le_of_ble_eq_true rfl) dX0_compareId_4 ⟨Nat.zero_le _, Nat.zero_le _⟩ (fun H locs hP hD hS => ?_)
  refine lv_if_ne (tgt := 22) hx hb dX0_compareId_7 (by decide) (fun c7 => ?_) (fun c7 => ?_)
  · refine lv_aload_n hx hb dX0_compareId_22 rfl (lv_at hl 0 rfl) ?_
    refine lv_dup hx hb dX0_compareId_23 rfl ?_
    refine va_get (D := G) (ci := 0) (v := .int (z0.1 17)) (C := RX0) (T := TX0) (N := 12) hx hb hts hi_0 hown hK hP 4 rfl rfl 3 (by decide) hfl_30 (fun _ h9 => h9) rfl dX0_compareId_24 ?_
    refine lv_bipush (v := (-9)) hx hb dX0_compareId_27 (by decide) ?_
    refine lv_iand hx hb dX0_compareId_29 ?_
    refine va_put (D := G) (ci := 0) (v := .int ((z0.1 17) &&& (-9))) (ty := .int) (C := RX0) (T := TX0) (N := 12) hx hb hts hi_0 tyX0 tyX0_ok nmX0 hown hK hP hD hS 4 rfl rfl 3 (by decide) hfl_30 (fun _ h9 => h9) rfl (by decide +kernel) rfl rfl (Nat.le_of_ble_eq_true rfl) dX0_compareId_30 (fun H locs hP hD hS => ?_)
    have hP : va_P G vwCl ((fk_cW q k) (upd z0.1 17 ((z0.1 17) &&& (-9)), z0.2)) H := hP
    have hD : va_D A ((fk_cW q k) (upd z0.1 17 ((z0.1 17) &&& (-9)), z0.2)) := hD
    refine lv_aload_n hx hb dX0_compareId_33 rfl (lv_at hl 0 rfl) ?_
    refine va_get (D := G) (ci := 0) (v := .ref (q 3)) (C := RX0) (T := TX0) (N := 12) hx hb hts hi_0 hown hK hP 4 rfl rfl 1 (by decide) hfl_15 (fun _ h9 => h9) rfl dX0_compareId_34 ?_
    refine va_getN (D := G) (ci := 2) (v := .int (z0.1 13)) (C := RX2) (T := TX2) (N := 14) hx hb hts hi_2 hown hK hP 3 rfl rfl 10 (by decide) (hN.f 4 rfl) (fun _ h9 => h9) rfl dX0_compareId_37 ?_
    refine lv_aload_n hx hb dX0_compareId_40 rfl (lv_at hl 0 rfl) ?_
    refine va_get (D := G) (ci := 0) (v := .int (z0.1 18)) (C := RX0) (T := TX0) (N := 12) hx hb hts hi_0 hown hK hP 4 rfl rfl 4 (by decide) hfl_58 (fun _ h9 => h9) rfl dX0_compareId_41 ?_
    refine lv_icmp_ne (tgt := 61) hx hb dX0_compareId_44 (by decide) (fun c44 => ?_) (fun c44 => ?_)
    · exact fk_vret hx hb hr hlk hK hP hD hS (Eq.symm (by rw [fX0_compareId, if_neg c7, if_neg c44] <;> rfl)) dX0_compareId_61
    · refine lv_aload_n hx hb dX0_compareId_47 rfl (lv_at hl 0 rfl) ?_
      refine va_get (D := G) (ci := 0) (v := .ref (q 3)) (C := RX0) (T := TX0) (N := 12) hx hb hts hi_0 hown hK hP 4 rfl rfl 1 (by decide) hfl_15 (fun _ h9 => h9) rfl dX0_compareId_48 ?_
      refine va_getN (D := G) (ci := 2) (v := .int (z0.1 14)) (C := RX2) (T := TX2) (N := 14) hx hb hts hi_2 hown hK hP 3 rfl rfl 11 (by decide) (hN.f 5 rfl) (fun _ h9 => h9) rfl dX0_compareId_51 ?_
      refine lv_aload_n hx hb dX0_compareId_54 rfl (lv_at hl 0 rfl) ?_
      refine va_get (D := G) (ci := 0) (v := .int (z0.1 19)) (C := RX0) (T := TX0) (N := 12) hx hb hts hi_0 hown hK hP 4 rfl rfl 5 (by decide) hfl_148 (fun _ h9 => h9) rfl dX0_compareId_55 ?_
      refine lv_icmp_eq (tgt := 62) hx hb dX0_compareId_58 (by decide) (fun c58 => ?_) (fun c58 => ?_)
      · refine lv_aload_n hx hb dX0_compareId_62 rfl (lv_at hl 0 rfl) ?_
        refine lv_iconst (v := 0) hx hb dX0_compareId_63 (by decide) ?_
        refine va_put (D := G) (ci := 0) (v := .int 0) (ty := .int) (C := RX0) (T := TX0) (N := 12) hx hb hts hi_0 tyX0 tyX0_ok nmX0 hown hK hP hD hS 4 rfl rfl 10 (by decide) hfl_44 (fun _ h9 => h9) rfl (by decide +kernel) rfl rfl (Nat.le_of_ble_eq_true rfl) dX0_compareId_64 (fun H locs hP hD hS => ?_)
        have hP : va_P G vwCl ((fk_cW q k) (upd (upd z0.1 17 ((z0.1 17) &&& (-9))) 24 0, z0.2)) H := hP
        have hD : va_D A ((fk_cW q k) (upd (upd z0.1 17 ((z0.1 17) &&& (-9))) 24 0, z0.2)) := hD
        refine lv_aload_n hx hb dX0_compareId_67 rfl (lv_at hl 0 rfl) ?_
        refine va_get (D := G) (ci := 0) (v := .int (z0.1 21)) (C := RX0) (T := TX0) (N := 12) hx hb hts hi_0 hown hK hP 4 rfl rfl 7 (by decide) hfl_26 (fun _ h9 => h9) rfl dX0_compareId_68 ?_
        refine lv_iconst (v := 3) hx hb dX0_compareId_71 (by decide) ?_
        refine lv_icmp_ne (tgt := 93) hx hb dX0_compareId_72 (by decide) (fun c72 => ?_) (fun c72 => ?_)
        · refine lv_aload_n hx hb dX0_compareId_93 rfl (lv_at hl 0 rfl) ?_
          refine lv_iconst (v := 3) hx hb dX0_compareId_94 (by decide) ?_
          refine va_put (D := G) (ci := 0) (v := .int 3) (ty := .int) (C := RX0) (T := TX0) (N := 12) hx hb hts hi_0 tyX0 tyX0_ok nmX0 hown hK hP hD hS 4 rfl rfl 9 (by decide) hfl_70 (fun _ h9 => h9) rfl (by decide +kernel) rfl rfl (Nat.le_of_ble_eq_true rfl) dX0_compareId_95 (fun H locs hP hD hS => ?_)
          have hP : va_P G vwCl ((fk_cW q k) (upd (upd (upd z0.1 17 ((z0.1 17) &&& (-9))) 24 0) 23 3, z0.2)) H := hP
          have hD : va_D A ((fk_cW q k) (upd (upd (upd z0.1 17 ((z0.1 17) &&& (-9))) 24 0) 23 3, z0.2)) := hD
          exact fk_vret hx hb hr hlk hK hP hD hS (Eq.symm (by rw [fX0_compareId, if_neg c7, if_pos c44, if_pos c58, if_neg c72] <;> rfl)) dX0_compareId_98
        · refine lv_aload_n hx hb dX0_compareId_75 rfl (lv_at hl 0 rfl) ?_
          refine lv_iconst (v := 5) hx hb dX0_compareId_76 (by decide) ?_
          refine va_put (D := G) (ci := 0) (v := .int 5) (ty := .int) (C := RX0) (T := TX0) (N := 12) hx hb hts hi_0 tyX0 tyX0_ok nmX0 hown hK hP hD hS 4 rfl rfl 9 (by decide) hfl_70 (fun _ h9 => h9) rfl (by decide +kernel) rfl rfl (Nat.le_of_ble_eq_true rfl) dX0_compareId_77 (fun H locs hP hD hS => ?_)
          have hP : va_P G vwCl ((fk_cW q k) (upd (upd (upd z0.1 17 ((z0.1 17) &&& (-9))) 24 0) 23 5, z0.2)) H := hP
          have hD : va_D A ((fk_cW q k) (upd (upd (upd z0.1 17 ((z0.1 17) &&& (-9))) 24 0) 23 5, z0.2)) := hD
          refine lv_aload_n hx hb dX0_compareId_80 rfl (lv_at hl 0 rfl) ?_
          refine lv_dup hx hb dX0_compareId_81 rfl ?_
          refine va_get (D := G) (ci := 0) (v := .int ((z0.1 17) &&& (-9))) (C := RX0) (T := TX0) (N := 12) hx hb hts hi_0 hown hK hP 4 rfl rfl 3 (by decide) hfl_30 (fun _ h9 => h9) rfl dX0_compareId_82 ?_
          refine lv_iconst (v := 2) hx hb dX0_compareId_85 (by decide) ?_
          refine lv_ior hx hb dX0_compareId_86 ?_
          refine va_put (D := G) (ci := 0) (v := .int (((z0.1 17) &&& (-9)) ||| 2)) (ty := .int) (C := RX0) (T := TX0) (N := 12) hx hb hts hi_0 tyX0 tyX0_ok nmX0 hown hK hP hD hS 4 rfl rfl 3 (by decide) hfl_30 (fun _ h9 => h9) rfl (by decide +kernel) rfl rfl (Nat.le_of_ble_eq_true rfl) dX0_compareId_87 (fun H locs hP hD hS => ?_)
          have hP : va_P G vwCl ((fk_cW q k) (upd (upd (upd (upd z0.1 17 ((z0.1 17) &&& (-9))) 24 0) 23 5) 17 (((z0.1 17) &&& (-9)) ||| 2), z0.2)) H := hP
          have hD : va_D A ((fk_cW q k) (upd (upd (upd (upd z0.1 17 ((z0.1 17) &&& (-9))) 24 0) 23 5) 17 (((z0.1 17) &&& (-9)) ||| 2), z0.2)) := hD
          refine lv_goto (tgt := 98) hx hb dX0_compareId_90 (by decide) ?_
          exact fk_vret hx hb hr hlk hK hP hD hS (Eq.symm (by rw [fX0_compareId, if_neg c7, if_pos c44, if_pos c58, if_pos c72] <;> rfl)) dX0_compareId_98
      · exact fk_vret hx hb hr hlk hK hP hD hS (Eq.symm (by rw [fX0_compareId, if_neg c7, if_pos c44, if_neg c58] <;> rfl)) dX0_compareId_61
  · refine lv_aload_n hx hb dX0_compareId_10 rfl (lv_at hl 0 rfl) ?_
    refine lv_dup hx hb dX0_compareId_11 rfl ?_
    refine va_get (D := G) (ci := 0) (v := .int (z0.1 17)) (C := RX0) (T := TX0) (N := 12) hx hb hts hi_0 hown hK hP 4 rfl rfl 3 (by decide) hfl_30 (fun _ h9 => h9) rfl dX0_compareId_12 ?_
    refine lv_bipush (v := 8) hx hb dX0_compareId_15 (by decide) ?_
    refine lv_ior hx hb dX0_compareId_17 ?_
    refine va_put (D := G) (ci := 0) (v := .int ((z0.1 17) ||| 8)) (ty := .int) (C := RX0) (T := TX0) (N := 12) hx hb hts hi_0 tyX0 tyX0_ok nmX0 hown hK hP hD hS 4 rfl rfl 3 (by decide) hfl_30 (fun _ h9 => h9) rfl (by decide +kernel) rfl rfl (Nat.le_of_ble_eq_true rfl) dX0_compareId_18 (fun H locs hP hD hS => ?_)
    have hP : va_P G vwCl ((fk_cW q k) (upd z0.1 17 ((z0.1 17) ||| 8), z0.2)) H := hP
    have hD : va_D A ((fk_cW q k) (upd z0.1 17 ((z0.1 17) ||| 8), z0.2)) := hD
    exact fk_vret hx hb hr hlk hK hP hD hS (Eq.symm (by rw [fX0_compareId, if_pos c7] <;> rfl)) dX0_compareId_21
-- FloppyDesk$Controller.meetFieldEnd()V
def fX0_meetFieldEnd (z0 : fk_C) : fk_C :=
  (if (z0.1 23) = 4 then fX0_endReading z0 else (if (fX2_isLatestFieldId z0) = 0 then z0 else (if (z0.1 23) = 2 then fX0_compareId z0 else (if (z0.1 23) = 3 then fX0_compareId z0 else z0))))
set_option maxHeartbeats 4000000 in
set_option maxRecDepth 100000 in
theorem c_X0_meetFieldEnd (l : Launch) (G : va_G) (q : Nat → Nat) (k : Nat → ClassId) (sz : Nat) (z0 : fk_C) : fk_Mv l yX0_meetFieldEnd wsX0_meetFieldEnd ({ frames := 3, cells := 0, slots := 0, locals := 60 } : Room) G (fk_cW q k) (fk_cT k) [.ref (q 4)] sz z0 (fX0_meetFieldEnd z0) := by
  refine fk_head (cc := cX0_meetFieldEnd) (maxL := 1) (ret := none) (QQ := fun A => va_Qv (fun z1 => z1 = fX0_meetFieldEnd z0) (fk_At G (fk_cW q k) (fk_cT k) A) A) (by decide) rfl (Nat.le_of_ble_eq_true rfl) ?_ sz
  intro p e s m below meth c A ls hx hb hr hlk hml hown hts hK hN hA hP hD hS hl
  have hown : s.vm.findClass RX0 = some m.cls := hown
  have F9 : CallFix p m c cX0_meetFieldEnd 1 s ([.ref (q 4)] : List Value).toArray wsX0_meetFieldEnd RX0 := ⟨hx, hb, hml, hown, hts⟩
  have hl : lv_has ls 1 [(0, .ref (q 4))] := hl
  have hfl_15 := hts (.fieldLink RX0 15 "FloppyDesk$Controller" "reader" "LFloppyDesk$Reader;") (by decide +kernel)
  have hfl_70 := hts (.fieldLink RX0 70 "FloppyDesk$Controller" "phase" "I") (by decide +kernel)
  have hi_0 : ∀ w ∈ u_ws RX0 TX0 12, w ∈ wsX0_meetFieldEnd := by decide +kernel
  refine lv_aload_n hx hb dX0_meetFieldEnd_0 rfl (lv_at hl 0 rfl) ?_
  refine va_get (D := G) (ci := 0) (v := .int (z0.1 23)) (C := RX0) (T := TX0) (N := 12) hx hb hts hi_0 hown hK hP 4 rfl rfl 9 (by decide) hfl_70 (fun _ h9 => h9) rfl dX0_meetFieldEnd_1 ?_
  refine lv_iconst (v := 4) hx hb dX0_meetFieldEnd_4 (by decide) ?_
  refine lv_icmp_ne (tgt := 15) hx hb dX0_meetFieldEnd_5 (by decide) (fun c5 => ?_) (fun c5 => ?_)
  · refine lv_aload_n hx hb dX0_meetFieldEnd_15 rfl (lv_at hl 0 rfl) ?_
    refine va_get (D := G) (ci := 0) (v := .ref (q 3)) (C := RX0) (T := TX0) (N := 12) hx hb hts hi_0 hown hK hP 4 rfl rfl 1 (by decide) hfl_15 (fun _ h9 => h9) rfl dX0_meetFieldEnd_16 ?_
    refine fk_Vp (Wd := (fk_cW q k)) (z := z0) (As := []) (rest := []) F9 (c_X2_isLatestFieldId l G q k _ z0) (cwV 0 hts gX0_meetFieldEnd_X2_isLatestFieldId rfl rfl rfl (by decide +kernel) ⟨Nat.le_of_ble_eq_true rfl, Nat.le_of_ble_eq_true rfl⟩) (va_recv hK hP (ci := 2) (q0 := 3) rfl rfl) hK hP hD hS hA hN rfl hl.1 rfl (Nat.le_of_ble_eq_true rfl) dX0_meetFieldEnd_19 ⟨Nat.zero_le _, Nat.zero_le _⟩ (fun H locs hP hD hS => ?_)
    refine lv_if_eq (tgt := 45) hx hb dX0_meetFieldEnd_22 (by decide) (fun c22 => ?_) (fun c22 => ?_)
    · exact fk_vret hx hb hr hlk hK hP hD hS (Eq.symm (by rw [fX0_meetFieldEnd, if_neg c5, if_pos c22] <;> rfl)) dX0_meetFieldEnd_45
    · refine lv_aload_n hx hb dX0_meetFieldEnd_25 rfl (lv_at hl 0 rfl) ?_
      refine va_get (D := G) (ci := 0) (v := .int (z0.1 23)) (C := RX0) (T := TX0) (N := 12) hx hb hts hi_0 hown hK hP 4 rfl rfl 9 (by decide) hfl_70 (fun _ h9 => h9) rfl dX0_meetFieldEnd_26 ?_
      refine lv_iconst (v := 2) hx hb dX0_meetFieldEnd_29 (by decide) ?_
      refine lv_icmp_eq (tgt := 41) hx hb dX0_meetFieldEnd_30 (by decide) (fun c30 => ?_) (fun c30 => ?_)
      · refine lv_aload_n hx hb dX0_meetFieldEnd_41 rfl (lv_at hl 0 rfl) ?_
        have hl := lv_sub hl [] (l' := []) rfl
        refine fk_Vv (Wd := (fk_cW q k)) (z := z0) (As := []) (rest := []) F9 (c_X0_compareId l G q k _ z0) (cwV 0 hts gX0_meetFieldEnd_X0_compareId rfl rfl rfl (by decide +kernel) ⟨Nat.le_of_ble_eq_true rfl, Nat.le_of_ble_eq_true rfl⟩) (va_recv hK hP (ci := 0) (q0 := 4) rfl rfl) hK hP hD hS hA hN rfl hl.1 rfl (Nat.le_of_ble_eq_true rfl) dX0_meetFieldEnd_42 ⟨Nat.zero_le _, Nat.zero_le _⟩ (fun z H locs hw hP hD hS => ?_)
        exact fk_vret hx hb hr hlk hK hP hD hS (hw.trans (Eq.symm (by rw [fX0_meetFieldEnd, if_neg c5, if_neg c22, if_pos c30] <;> rfl))) dX0_meetFieldEnd_45
      · refine lv_aload_n hx hb dX0_meetFieldEnd_33 rfl (lv_at hl 0 rfl) ?_
        refine va_get (D := G) (ci := 0) (v := .int (z0.1 23)) (C := RX0) (T := TX0) (N := 12) hx hb hts hi_0 hown hK hP 4 rfl rfl 9 (by decide) hfl_70 (fun _ h9 => h9) rfl dX0_meetFieldEnd_34 ?_
        refine lv_iconst (v := 3) hx hb dX0_meetFieldEnd_37 (by decide) ?_
        refine lv_icmp_ne (tgt := 45) hx hb dX0_meetFieldEnd_38 (by decide) (fun c38 => ?_) (fun c38 => ?_)
        · exact fk_vret hx hb hr hlk hK hP hD hS (Eq.symm (by rw [fX0_meetFieldEnd, if_neg c5, if_neg c22, if_neg c30, if_neg c38] <;> rfl)) dX0_meetFieldEnd_45
        · refine lv_aload_n hx hb dX0_meetFieldEnd_41 rfl (lv_at hl 0 rfl) ?_
          have hl := lv_sub hl [] (l' := []) rfl
          refine fk_Vv (Wd := (fk_cW q k)) (z := z0) (As := []) (rest := []) F9 (c_X0_compareId l G q k _ z0) (cwV 0 hts gX0_meetFieldEnd_X0_compareId rfl rfl rfl (by decide +kernel) ⟨Nat.le_of_ble_eq_true rfl, Nat.le_of_ble_eq_true rfl⟩) (va_recv hK hP (ci := 0) (q0 := 4) rfl rfl) hK hP hD hS hA hN rfl hl.1 rfl (Nat.le_of_ble_eq_true rfl) dX0_meetFieldEnd_42 ⟨Nat.zero_le _, Nat.zero_le _⟩ (fun z H locs hw hP hD hS => ?_)
          exact fk_vret hx hb hr hlk hK hP hD hS (hw.trans (Eq.symm (by rw [fX0_meetFieldEnd, if_neg c5, if_neg c22, if_neg c30, if_pos c38] <;> rfl))) dX0_meetFieldEnd_45
  · refine lv_aload_n hx hb dX0_meetFieldEnd_8 rfl (lv_at hl 0 rfl) ?_
    have hl := lv_sub hl [] (l' := []) rfl
    refine fk_Vv (Wd := (fk_cW q k)) (z := z0) (As := []) (rest := []) F9 (c_X0_endReading l G q k _ z0) (cwV 0 hts gX0_meetFieldEnd_X0_endReading rfl rfl rfl (by decide +kernel) ⟨Nat.le_of_ble_eq_true rfl, Nat.le_of_ble_eq_true rfl⟩) (va_recv hK hP (ci := 0) (q0 := 4) rfl rfl) hK hP hD hS hA hN rfl hl.1 rfl (Nat.le_of_ble_eq_true rfl) dX0_meetFieldEnd_9 ⟨Nat.zero_le _, Nat.zero_le _⟩ (fun z H locs hw hP hD hS => ?_)
    refine lv_goto (tgt := 45) hx hb dX0_meetFieldEnd_12 (by decide) ?_
    exact fk_vret hx hb hr hlk hK hP hD hS (hw.trans (Eq.symm (by rw [fX0_meetFieldEnd, if_pos c5] <;> rfl))) dX0_meetFieldEnd_45
-- FloppyDesk$Controller.readOneCell()V
def fX0_readOneCell_c2 (z : fk_C) : fk_C :=
  fX0_meetFieldEnd z
def fX0_readOneCell_c1 (z : fk_C) (r11 : Int32) : fk_C :=
  (if r11 = 1 then fX0_meetFieldStart z else (if r11 = 2 then fX0_meetFieldByte z else (if r11 = 3 then fX0_readOneCell_c2 (fX0_meetFieldByte z) else z)))
def fX0_readOneCell (z0 : fk_C) : fk_C :=
  fX0_readOneCell_c1 ((fX2_readCell z0 (fX1_cellUnderHead z0)).2) (fX2_readCell z0 (fX1_cellUnderHead z0)).1
set_option maxHeartbeats 4000000 in
set_option maxRecDepth 100000 in
theorem c_X0_readOneCell (l : Launch) (G : va_G) (q : Nat → Nat) (k : Nat → ClassId) (sz : Nat) (z0 : fk_C) : fk_Mv l yX0_readOneCell wsX0_readOneCell ({ frames := 4, cells := 0, slots := 0, locals := 80 } : Room) G (fk_cW q k) (fk_cT k) [.ref (q 4)] sz z0 (fX0_readOneCell z0) := by
  refine fk_head (cc := cX0_readOneCell) (maxL := 2) (ret := none) (QQ := fun A => va_Qv (fun z1 => z1 = fX0_readOneCell z0) (fk_At G (fk_cW q k) (fk_cT k) A) A) (by decide) rfl (Nat.le_of_ble_eq_true rfl) ?_ sz
  intro p e s m below meth c A ls hx hb hr hlk hml hown hts hK hN hA hP hD hS hl
  have hown : s.vm.findClass RX0 = some m.cls := hown
  have F9 : CallFix p m c cX0_readOneCell 2 s ([.ref (q 4)] : List Value).toArray wsX0_readOneCell RX0 := ⟨hx, hb, hml, hown, hts⟩
  have hl : lv_has ls 2 [(0, .ref (q 4))] := hl
  have hfl_9 := hts (.fieldLink RX0 9 "FloppyDesk$Controller" "disk" "LFloppyDesk$Disk;") (by decide +kernel)
  have hfl_15 := hts (.fieldLink RX0 15 "FloppyDesk$Controller" "reader" "LFloppyDesk$Reader;") (by decide +kernel)
  have hi_0 : ∀ w ∈ u_ws RX0 TX0 12, w ∈ wsX0_readOneCell := by decide +kernel
  refine lv_aload_n hx hb dX0_readOneCell_0 rfl (lv_at hl 0 rfl) ?_
  refine va_get (D := G) (ci := 0) (v := .ref (q 3)) (C := RX0) (T := TX0) (N := 12) hx hb hts hi_0 hown hK hP 4 rfl rfl 1 (by decide) hfl_15 (fun _ h9 => h9) rfl dX0_readOneCell_1 ?_
  refine lv_aload_n hx hb dX0_readOneCell_4 rfl (lv_at hl 0 rfl) ?_
  refine va_get (D := G) (ci := 0) (v := .ref (q 1)) (C := RX0) (T := TX0) (N := 12) hx hb hts hi_0 hown hK hP 4 rfl rfl 0 (by decide) hfl_9 (fun _ h9 => h9) rfl dX0_readOneCell_5 ?_
  refine fk_Vp (Wd := (fk_cW q k)) (z := z0) (As := []) (rest := [.ref (q 3)]) F9 (c_X1_cellUnderHead l G q k _ z0) (cwV 0 hts gX0_readOneCell_X1_cellUnderHead rfl rfl rfl (by decide +kernel) ⟨Nat.le_of_ble_eq_true rfl, Nat.le_of_ble_eq_true rfl⟩) (va_recv hK hP (ci := 1) (q0 := 1) rfl rfl) hK hP hD hS hA hN rfl hl.1 rfl (Nat.le_of_ble_eq_true rfl) dX0_readOneCell_8 ⟨Nat.zero_le _, Nat.zero_le _⟩ (fun H locs hP hD hS => ?_)
  refine fk_Vi (Wd := (fk_cW q k)) (z := z0) (As := [.int (fX1_cellUnderHead z0)]) (rest := []) F9 (c_X2_readCell l G q k _ z0 (fX1_cellUnderHead z0)) (cwV 1 hts gX0_readOneCell_X2_readCell rfl rfl rfl (by decide +kernel) ⟨Nat.le_of_ble_eq_true rfl, Nat.le_of_ble_eq_true rfl⟩) (va_recv hK hP (ci := 2) (q0 := 3) rfl rfl) hK hP hD hS hA hN rfl hl.1 rfl (Nat.le_of_ble_eq_true rfl) dX0_readOneCell_11 ⟨Nat.zero_le _, Nat.zero_le _⟩ (fun r11 z H locs hw hP hD hS => ?_)
  have hf : fX0_readOneCell z0 = fX0_readOneCell_c1 z r11 := by rw [fX0_readOneCell, ← hw] <;> rfl
  refine lv_istore_n (lv' := [(1, .int r11), (0, .ref (q 4))]) hx hb dX0_readOneCell_14 rfl hl (by decide) rfl (fun ls hl => ?_)
  refine lv_iload_n hx hb dX0_readOneCell_15 rfl (lv_at hl 0 rfl) ?_
  refine lv_iconst (v := 1) hx hb dX0_readOneCell_16 (by decide) ?_
  refine lv_icmp_ne (tgt := 27) hx hb dX0_readOneCell_17 (by decide) (fun c17 => ?_) (fun c17 => ?_)
  · refine lv_iload_n hx hb dX0_readOneCell_27 rfl (lv_at hl 0 rfl) ?_
    refine lv_iconst (v := 2) hx hb dX0_readOneCell_28 (by decide) ?_
    refine lv_icmp_ne (tgt := 39) hx hb dX0_readOneCell_29 (by decide) (fun c29 => ?_) (fun c29 => ?_)
    · refine lv_iload_n hx hb dX0_readOneCell_39 rfl (lv_at hl 0 rfl) ?_
      refine lv_iconst (v := 3) hx hb dX0_readOneCell_40 (by decide) ?_
      refine lv_icmp_ne (tgt := 52) hx hb dX0_readOneCell_41 (by decide) (fun c41 => ?_) (fun c41 => ?_)
      · exact fk_vret hx hb hr hlk hK hP hD hS (Eq.symm (by rw [hf, fX0_readOneCell_c1, if_neg c17, if_neg c29, if_neg c41] <;> rfl)) dX0_readOneCell_52
      · refine lv_aload_n hx hb dX0_readOneCell_44 rfl (lv_at hl 1 rfl) ?_
        have hl := lv_sub hl [1] (l' := [(0, .ref (q 4))]) rfl
        refine fk_Vv (Wd := (fk_cW q k)) (z := z) (As := []) (rest := []) F9 (c_X0_meetFieldByte l G q k _ z) (cwV 0 hts gX0_readOneCell_X0_meetFieldByte rfl rfl rfl (by decide +kernel) ⟨Nat.le_of_ble_eq_true rfl, Nat.le_of_ble_eq_true rfl⟩) (va_recv hK hP (ci := 0) (q0 := 4) rfl rfl) hK hP hD hS hA hN rfl hl.1 rfl (Nat.le_of_ble_eq_true rfl) dX0_readOneCell_45 ⟨Nat.zero_le _, Nat.zero_le _⟩ (fun z H locs hw hP hD hS => ?_)
        have hf : fX0_readOneCell z0 = fX0_readOneCell_c2 z := by rw [hf, fX0_readOneCell_c1, if_neg c17, if_neg c29, if_pos c41, ← hw] <;> rfl
        refine lv_aload_n hx hb dX0_readOneCell_48 rfl (lv_at hl 0 rfl) ?_
        have hl := lv_sub hl [] (l' := []) rfl
        refine fk_Vv (Wd := (fk_cW q k)) (z := z) (As := []) (rest := []) F9 (c_X0_meetFieldEnd l G q k _ z) (cwV 0 hts gX0_readOneCell_X0_meetFieldEnd rfl rfl rfl (by decide +kernel) ⟨Nat.le_of_ble_eq_true rfl, Nat.le_of_ble_eq_true rfl⟩) (va_recv hK hP (ci := 0) (q0 := 4) rfl rfl) hK hP hD hS hA hN rfl hl.1 rfl (Nat.le_of_ble_eq_true rfl) dX0_readOneCell_49 ⟨Nat.zero_le _, Nat.zero_le _⟩ (fun z H locs hw hP hD hS => ?_)
        exact fk_vret hx hb hr hlk hK hP hD hS (hw.trans (Eq.symm (by rw [hf, fX0_readOneCell_c2] <;> rfl))) dX0_readOneCell_52
    · refine lv_aload_n hx hb dX0_readOneCell_32 rfl (lv_at hl 1 rfl) ?_
      have hl := lv_sub hl [] (l' := []) rfl
      refine fk_Vv (Wd := (fk_cW q k)) (z := z) (As := []) (rest := []) F9 (c_X0_meetFieldByte l G q k _ z) (cwV 0 hts gX0_readOneCell_X0_meetFieldByte rfl rfl rfl (by decide +kernel) ⟨Nat.le_of_ble_eq_true rfl, Nat.le_of_ble_eq_true rfl⟩) (va_recv hK hP (ci := 0) (q0 := 4) rfl rfl) hK hP hD hS hA hN rfl hl.1 rfl (Nat.le_of_ble_eq_true rfl) dX0_readOneCell_33 ⟨Nat.zero_le _, Nat.zero_le _⟩ (fun z H locs hw hP hD hS => ?_)
      refine lv_goto (tgt := 52) hx hb dX0_readOneCell_36 (by decide) ?_
      exact fk_vret hx hb hr hlk hK hP hD hS (hw.trans (Eq.symm (by rw [hf, fX0_readOneCell_c1, if_neg c17, if_pos c29] <;> rfl))) dX0_readOneCell_52
  · refine lv_aload_n hx hb dX0_readOneCell_20 rfl (lv_at hl 1 rfl) ?_
    have hl := lv_sub hl [] (l' := []) rfl
    refine fk_Vv (Wd := (fk_cW q k)) (z := z) (As := []) (rest := []) F9 (c_X0_meetFieldStart l G q k _ z) (cwV 0 hts gX0_readOneCell_X0_meetFieldStart rfl rfl rfl (by decide +kernel) ⟨Nat.le_of_ble_eq_true rfl, Nat.le_of_ble_eq_true rfl⟩) (va_recv hK hP (ci := 0) (q0 := 4) rfl rfl) hK hP hD hS hA hN rfl hl.1 rfl (Nat.le_of_ble_eq_true rfl) dX0_readOneCell_21 ⟨Nat.zero_le _, Nat.zero_le _⟩ (fun z H locs hw hP hD hS => ?_)
    refine lv_goto (tgt := 52) hx hb dX0_readOneCell_24 (by decide) ?_
    exact fk_vret hx hb hr hlk hK hP hD hS (hw.trans (Eq.symm (by rw [hf, fX0_readOneCell_c1, if_pos c17] <;> rfl))) dX0_readOneCell_52
-- FloppyDesk$Disk.turnByOneCell()Z
def fX1_turnByOneCell (z0 : fk_C) : Int32 × fk_C :=
  (if 2400 ≤ ((z0.1 2) + 1) then (1, (upd (upd z0.1 2 ((z0.1 2) + 1)) 2 0, z0.2)) else (0, (upd z0.1 2 ((z0.1 2) + 1), z0.2)))
set_option maxHeartbeats 4000000 in
set_option maxRecDepth 100000 in
theorem c_X1_turnByOneCell (l : Launch) (G : va_G) (q : Nat → Nat) (k : Nat → ClassId) (sz : Nat) (z0 : fk_C) : fk_Mi l yX1_turnByOneCell wsX1_turnByOneCell ({ frames := 0, cells := 0, slots := 0, locals := 0 } : Room) G (fk_cW q k) (fk_cT k) [.ref (q 1)] sz z0 (fX1_turnByOneCell z0) := by
  refine fk_head (cc := cX1_turnByOneCell) (maxL := 1) (ret := (some .boolean)) (QQ := fun A => va_Qi (fun r z1 => (r, z1) = fX1_turnByOneCell z0) (fk_At G (fk_cW q k) (fk_cT k) A) A) (by decide) rfl (Nat.le_of_ble_eq_true rfl) ?_ sz
  intro p e s m below meth c A ls hx hb hr hlk hml hown hts hK hN hA hP hD hS hl
  have hown : s.vm.findClass RX1 = some m.cls := hown
  have F9 : CallFix p m c cX1_turnByOneCell 1 s ([.ref (q 1)] : List Value).toArray wsX1_turnByOneCell RX1 := ⟨hx, hb, hml, hown, hts⟩
  have hl : lv_has ls 1 [(0, .ref (q 1))] := hl
  have hfl_20 := hts (.fieldLink RX1 20 "FloppyDesk$Disk" "place" "I") (by decide +kernel)
  have hi_1 : ∀ w ∈ u_ws RX1 TX1 4, w ∈ wsX1_turnByOneCell := by decide +kernel
  refine lv_aload_n hx hb dX1_turnByOneCell_0 rfl (lv_at hl 0 rfl) ?_
  refine lv_dup hx hb dX1_turnByOneCell_1 rfl ?_
  refine va_get (D := G) (ci := 1) (v := .int (z0.1 2)) (C := RX1) (T := TX1) (N := 4) hx hb hts hi_1 hown hK hP 1 rfl rfl 3 (by decide) hfl_20 (fun _ h9 => h9) rfl dX1_turnByOneCell_2 ?_
  refine lv_iconst (v := 1) hx hb dX1_turnByOneCell_5 (by decide) ?_
  refine lv_iadd hx hb dX1_turnByOneCell_6 ?_
  refine va_put (D := G) (ci := 1) (v := .int ((z0.1 2) + 1)) (ty := .int) (C := RX1) (T := TX1) (N := 4) hx hb hts hi_1 tyX1 tyX1_ok nmX1 hown hK hP hD hS 1 rfl rfl 3 (by decide) hfl_20 (fun _ h9 => h9) rfl (by decide +kernel) rfl rfl (Nat.le_of_ble_eq_true rfl) dX1_turnByOneCell_7 (fun H locs hP hD hS => ?_)
  have hP : va_P G vwCl ((fk_cW q k) (upd z0.1 2 ((z0.1 2) + 1), z0.2)) H := hP
  have hD : va_D A ((fk_cW q k) (upd z0.1 2 ((z0.1 2) + 1), z0.2)) := hD
  refine lv_aload_n hx hb dX1_turnByOneCell_10 rfl (lv_at hl 0 rfl) ?_
  refine va_get (D := G) (ci := 1) (v := .int ((z0.1 2) + 1)) (C := RX1) (T := TX1) (N := 4) hx hb hts hi_1 hown hK hP 1 rfl rfl 3 (by decide) hfl_20 (fun _ h9 => h9) rfl dX1_turnByOneCell_11 ?_
  refine lv_sipush (v := 2400) hx hb dX1_turnByOneCell_14 (by decide) ?_
  refine lv_icmp_ge (tgt := 22) hx hb dX1_turnByOneCell_17 (by decide) (fun c17 => ?_) (fun c17 => ?_)
  · refine lv_aload_n hx hb dX1_turnByOneCell_22 rfl (lv_at hl 0 rfl) ?_
    refine lv_iconst (v := 0) hx hb dX1_turnByOneCell_23 (by decide) ?_
    refine va_put (D := G) (ci := 1) (v := .int 0) (ty := .int) (C := RX1) (T := TX1) (N := 4) hx hb hts hi_1 tyX1 tyX1_ok nmX1 hown hK hP hD hS 1 rfl rfl 3 (by decide) hfl_20 (fun _ h9 => h9) rfl (by decide +kernel) rfl rfl (Nat.le_of_ble_eq_true rfl) dX1_turnByOneCell_24 (fun H locs hP hD hS => ?_)
    have hP : va_P G vwCl ((fk_cW q k) (upd (upd z0.1 2 ((z0.1 2) + 1)) 2 0, z0.2)) H := hP
    have hD : va_D A ((fk_cW q k) (upd (upd z0.1 2 ((z0.1 2) + 1)) 2 0, z0.2)) := hD
    refine lv_iconst (v := 1) hx hb dX1_turnByOneCell_27 (by decide) ?_
    exact fk_iret hx hb hr hlk hK hP hD hS rfl (Eq.symm (by rw [fX1_turnByOneCell, if_pos c17] <;> rfl)) dX1_turnByOneCell_28
  · refine lv_iconst (v := 0) hx hb dX1_turnByOneCell_20 (by decide) ?_
    exact fk_iret hx hb hr hlk hK hP hD hS rfl (Eq.symm (by rw [fX1_turnByOneCell, if_neg c17] <;> rfl)) dX1_turnByOneCell_21
-- FloppyDesk$Writer.start()V
def fX4_start (z0 : fk_C) : fk_C :=
  (upd (upd (upd (upd (upd (upd z0.1 27 0) 28 0) 29 65535) 30 0) 31 0) 32 0, z0.2)
set_option maxHeartbeats 4000000 in
set_option maxRecDepth 100000 in
theorem c_X4_start (l : Launch) (G : va_G) (q : Nat → Nat) (k : Nat → ClassId) (sz : Nat) (z0 : fk_C) : fk_Mv l yX4_start wsX4_start ({ frames := 0, cells := 0, slots := 0, locals := 0 } : Room) G (fk_cW q k) (fk_cT k) [.ref (q 5)] sz z0 (fX4_start z0) := by
  refine fk_head (cc := cX4_start) (maxL := 1) (ret := none) (QQ := fun A => va_Qv (fun z1 => z1 = fX4_start z0) (fk_At G (fk_cW q k) (fk_cT k) A) A) (by decide) rfl (Nat.le_of_ble_eq_true rfl) ?_ sz
  intro p e s m below meth c A ls hx hb hr hlk hml hown hts hK hN hA hP hD hS hl
  have hown : s.vm.findClass RX4 = some m.cls := hown
  have F9 : CallFix p m c cX4_start 1 s ([.ref (q 5)] : List Value).toArray wsX4_start RX4 := ⟨hx, hb, hml, hown, hts⟩
  have hl : lv_has ls 1 [(0, .ref (q 5))] := hl
  have hcst_18 := hts (.constant RX4 18 65535) (by decide +kernel)
  have hfl_9 := hts (.fieldLink RX4 9 "FloppyDesk$Writer" "cellsLeft" "I") (by decide +kernel)
  have hfl_15 := hts (.fieldLink RX4 15 "FloppyDesk$Writer" "lastBit" "I") (by decide +kernel)
  have hfl_19 := hts (.fieldLink RX4 19 "FloppyDesk$Writer" "check" "I") (by decide +kernel)
  have hfl_22 := hts (.fieldLink RX4 22 "FloppyDesk$Writer" "count" "I") (by decide +kernel)
  have hfl_25 := hts (.fieldLink RX4 25 "FloppyDesk$Writer" "isBehindMark" "Z") (by decide +kernel)
  have hfl_29 := hts (.fieldLink RX4 29 "FloppyDesk$Writer" "isLowCheckDue" "Z") (by decide +kernel)
  have hi_4 : ∀ w ∈ u_ws RX4 TX4 7, w ∈ wsX4_start := by decide +kernel
  refine lv_aload_n hx hb dX4_start_0 rfl (lv_at hl 0 rfl) ?_
  refine lv_iconst (v := 0) hx hb dX4_start_1 (by decide) ?_
  refine va_put (D := G) (ci := 4) (v := .int 0) (ty := .int) (C := RX4) (T := TX4) (N := 7) hx hb hts hi_4 tyX4 tyX4_ok nmX4 hown hK hP hD hS 5 rfl rfl 1 (by decide) hfl_9 (fun _ h9 => h9) rfl (by decide +kernel) rfl rfl (Nat.le_of_ble_eq_true rfl) dX4_start_2 (fun H locs hP hD hS => ?_)
  have hP : va_P G vwCl ((fk_cW q k) (upd z0.1 27 0, z0.2)) H := hP
  have hD : va_D A ((fk_cW q k) (upd z0.1 27 0, z0.2)) := hD
  refine lv_aload_n hx hb dX4_start_5 rfl (lv_at hl 0 rfl) ?_
  refine lv_iconst (v := 0) hx hb dX4_start_6 (by decide) ?_
  refine va_put (D := G) (ci := 4) (v := .int 0) (ty := .int) (C := RX4) (T := TX4) (N := 7) hx hb hts hi_4 tyX4 tyX4_ok nmX4 hown hK hP hD hS 5 rfl rfl 2 (by decide) hfl_15 (fun _ h9 => h9) rfl (by decide +kernel) rfl rfl (Nat.le_of_ble_eq_true rfl) dX4_start_7 (fun H locs hP hD hS => ?_)
  have hP : va_P G vwCl ((fk_cW q k) (upd (upd z0.1 27 0) 28 0, z0.2)) H := hP
  have hD : va_D A ((fk_cW q k) (upd (upd z0.1 27 0) 28 0, z0.2)) := hD
  refine lv_aload_n hx hb dX4_start_10 rfl (lv_at hl 0 rfl) ?_
  refine lv_ldc (own := RX4) (v := 65535) hx hb hown hcst_18 dX4_start_11 ?_
  refine va_put (D := G) (ci := 4) (v := .int 65535) (ty := .int) (C := RX4) (T := TX4) (N := 7) hx hb hts hi_4 tyX4 tyX4_ok nmX4 hown hK hP hD hS 5 rfl rfl 3 (by decide) hfl_19 (fun _ h9 => h9) rfl (by decide +kernel) rfl rfl (Nat.le_of_ble_eq_true rfl) dX4_start_13 (fun H locs hP hD hS => ?_)
  have hP : va_P G vwCl ((fk_cW q k) (upd (upd (upd z0.1 27 0) 28 0) 29 65535, z0.2)) H := hP
  have hD : va_D A ((fk_cW q k) (upd (upd (upd z0.1 27 0) 28 0) 29 65535, z0.2)) := hD
  refine lv_aload_n hx hb dX4_start_16 rfl (lv_at hl 0 rfl) ?_
  refine lv_iconst (v := 0) hx hb dX4_start_17 (by decide) ?_
  refine va_put (D := G) (ci := 4) (v := .int 0) (ty := .int) (C := RX4) (T := TX4) (N := 7) hx hb hts hi_4 tyX4 tyX4_ok nmX4 hown hK hP hD hS 5 rfl rfl 4 (by decide) hfl_22 (fun _ h9 => h9) rfl (by decide +kernel) rfl rfl (Nat.le_of_ble_eq_true rfl) dX4_start_18 (fun H locs hP hD hS => ?_)
  have hP : va_P G vwCl ((fk_cW q k) (upd (upd (upd (upd z0.1 27 0) 28 0) 29 65535) 30 0, z0.2)) H := hP
  have hD : va_D A ((fk_cW q k) (upd (upd (upd (upd z0.1 27 0) 28 0) 29 65535) 30 0, z0.2)) := hD
  refine lv_aload_n hx hb dX4_start_21 rfl (lv_at hl 0 rfl) ?_
  refine lv_iconst (v := 0) hx hb dX4_start_22 (by decide) ?_
  refine va_put (D := G) (ci := 4) (v := .int 0) (ty := .boolean) (C := RX4) (T := TX4) (N := 7) hx hb hts hi_4 tyX4 tyX4_ok nmX4 hown hK hP hD hS 5 rfl rfl 5 (by decide) hfl_25 (fun _ h9 => h9) rfl (by decide +kernel) rfl rfl (Nat.le_of_ble_eq_true rfl) dX4_start_23 (fun H locs hP hD hS => ?_)
  have hP : va_P G vwCl ((fk_cW q k) (upd (upd (upd (upd (upd z0.1 27 0) 28 0) 29 65535) 30 0) 31 0, z0.2)) H := hP
  have hD : va_D A ((fk_cW q k) (upd (upd (upd (upd (upd z0.1 27 0) 28 0) 29 65535) 30 0) 31 0, z0.2)) := hD
  refine lv_aload_n hx hb dX4_start_26 rfl (lv_at hl 0 rfl) ?_
  refine lv_iconst (v := 0) hx hb dX4_start_27 (by decide) ?_
  refine va_put (D := G) (ci := 4) (v := .int 0) (ty := .boolean) (C := RX4) (T := TX4) (N := 7) hx hb hts hi_4 tyX4 tyX4_ok nmX4 hown hK hP hD hS 5 rfl rfl 6 (by decide) hfl_29 (fun _ h9 => h9) rfl (by decide +kernel) rfl rfl (Nat.le_of_ble_eq_true rfl) dX4_start_28 (fun H locs hP hD hS => ?_)
  have hP : va_P G vwCl ((fk_cW q k) (upd (upd (upd (upd (upd (upd z0.1 27 0) 28 0) 29 65535) 30 0) 31 0) 32 0, z0.2)) H := hP
  have hD : va_D A ((fk_cW q k) (upd (upd (upd (upd (upd (upd z0.1 27 0) 28 0) 29 65535) 30 0) 31 0) 32 0, z0.2)) := hD
  exact fk_vret hx hb hr hlk hK hP hD hS (Eq.symm (by rw [fX4_start] <;> rfl)) dX4_start_31
-- FloppyDesk$Controller.startWritingIfServed()V
def fX0_startWritingIfServed_c1 (z : fk_C) : fk_C :=
  fX4_start z
def fX0_startWritingIfServed (z0 : fk_C) : fk_C :=
  (if (fX0_has z0 2) = 0 then fX0_startWritingIfServed_c1 (fX2_reset (upd z0.1 23 6, z0.2)) else fX0_endWith z0 4)
set_option maxHeartbeats 4000000 in
set_option maxRecDepth 100000 in
theorem c_X0_startWritingIfServed (l : Launch) (G : va_G) (q : Nat → Nat) (k : Nat → ClassId) (sz : Nat) (z0 : fk_C) : fk_Mv l yX0_startWritingIfServed wsX0_startWritingIfServed ({ frames := 3, cells := 0, slots := 0, locals := 61 } : Room) G (fk_cW q k) (fk_cT k) [.ref (q 4)] sz z0 (fX0_startWritingIfServed z0) := by
  refine fk_head (cc := cX0_startWritingIfServed) (maxL := 1) (ret := none) (QQ := fun A => va_Qv (fun z1 => z1 = fX0_startWritingIfServed z0) (fk_At G (fk_cW q k) (fk_cT k) A) A) (by decide) rfl (Nat.le_of_ble_eq_true rfl) ?_ sz
  intro p e s m below meth c A ls hx hb hr hlk hml hown hts hK hN hA hP hD hS hl
  have hown : s.vm.findClass RX0 = some m.cls := hown
  have F9 : CallFix p m c cX0_startWritingIfServed 1 s ([.ref (q 4)] : List Value).toArray wsX0_startWritingIfServed RX0 := ⟨hx, hb, hml, hown, hts⟩
  have hl : lv_has ls 1 [(0, .ref (q 4))] := hl
  have hfl_15 := hts (.fieldLink RX0 15 "FloppyDesk$Controller" "reader" "LFloppyDesk$Reader;") (by decide +kernel)
  have hfl_22 := hts (.fieldLink RX0 22 "FloppyDesk$Controller" "writer" "LFloppyDesk$Writer;") (by decide +kernel)
  have hfl_70 := hts (.fieldLink RX0 70 "FloppyDesk$Controller" "phase" "I") (by decide +kernel)
  have hi_0 : ∀ w ∈ u_ws RX0 TX0 12, w ∈ wsX0_startWritingIfServed := by decide +kernel
  refine lv_aload_n hx hb dX0_startWritingIfServed_0 rfl (lv_at hl 0 rfl) ?_
  refine lv_iconst (v := 2) hx hb dX0_startWritingIfServed_1 (by decide) ?_
  refine fk_Vp (Wd := (fk_cW q k)) (z := z0) (As := [.int 2]) (rest := []) F9 (c_X0_has l G q k _ z0 2) (cwV 1 hts gX0_startWritingIfServed_X0_has rfl rfl rfl (by decide +kernel) ⟨Nat.le_of_ble_eq_true rfl, Nat.le_of_ble_eq_true rfl⟩) (va_recv hK hP (ci := 0) (q0 := 4) rfl rfl) hK hP hD hS hA hN rfl hl.1 rfl (Nat.le_of_ble_eq_true rfl) dX0_startWritingIfServed_2 ⟨Nat.zero_le _, Nat.zero_le _⟩ (fun H locs hP hD hS => ?_)
  refine lv_if_eq (tgt := 14) hx hb dX0_startWritingIfServed_5 (by decide) (fun c5 => ?_) (fun c5 => ?_)
  · refine lv_aload_n hx hb dX0_startWritingIfServed_14 rfl (lv_at hl 0 rfl) ?_
    refine lv_bipush (v := 6) hx hb dX0_startWritingIfServed_15 (by decide) ?_
    refine va_put (D := G) (ci := 0) (v := .int 6) (ty := .int) (C := RX0) (T := TX0) (N := 12) hx hb hts hi_0 tyX0 tyX0_ok nmX0 hown hK hP hD hS 4 rfl rfl 9 (by decide) hfl_70 (fun _ h9 => h9) rfl (by decide +kernel) rfl rfl (Nat.le_of_ble_eq_true rfl) dX0_startWritingIfServed_17 (fun H locs hP hD hS => ?_)
    have hP : va_P G vwCl ((fk_cW q k) (upd z0.1 23 6, z0.2)) H := hP
    have hD : va_D A ((fk_cW q k) (upd z0.1 23 6, z0.2)) := hD
    refine lv_aload_n hx hb dX0_startWritingIfServed_20 rfl (lv_at hl 0 rfl) ?_
    refine va_get (D := G) (ci := 0) (v := .ref (q 3)) (C := RX0) (T := TX0) (N := 12) hx hb hts hi_0 hown hK hP 4 rfl rfl 1 (by decide) hfl_15 (fun _ h9 => h9) rfl dX0_startWritingIfServed_21 ?_
    refine fk_Vv (Wd := (fk_cW q k)) (z := (upd z0.1 23 6, z0.2)) (As := []) (rest := []) F9 (c_X2_reset l G q k _ (upd z0.1 23 6, z0.2)) (cwV 0 hts gX0_startWritingIfServed_X2_reset rfl rfl rfl (by decide +kernel) ⟨Nat.le_of_ble_eq_true rfl, Nat.le_of_ble_eq_true rfl⟩) (va_recv hK hP (ci := 2) (q0 := 3) rfl rfl) hK hP hD hS hA hN rfl hl.1 rfl (Nat.le_of_ble_eq_true rfl) dX0_startWritingIfServed_24 ⟨Nat.zero_le _, Nat.zero_le _⟩ (fun z H locs hw hP hD hS => ?_)
    have hf : fX0_startWritingIfServed z0 = fX0_startWritingIfServed_c1 z := by rw [fX0_startWritingIfServed, if_pos c5, ← hw] <;> rfl
    refine lv_aload_n hx hb dX0_startWritingIfServed_27 rfl (lv_at hl 0 rfl) ?_
    refine va_get (D := G) (ci := 0) (v := .ref (q 5)) (C := RX0) (T := TX0) (N := 12) hx hb hts hi_0 hown hK hP 4 rfl rfl 2 (by decide) hfl_22 (fun _ h9 => h9) rfl dX0_startWritingIfServed_28 ?_
    have hl := lv_sub hl [] (l' := []) rfl
    refine fk_Vv (Wd := (fk_cW q k)) (z := z) (As := []) (rest := []) F9 (c_X4_start l G q k _ z) (cwV 0 hts gX0_startWritingIfServed_X4_start rfl rfl rfl (by decide +kernel) ⟨Nat.le_of_ble_eq_true rfl, Nat.le_of_ble_eq_true rfl⟩) (va_recv hK hP (ci := 4) (q0 := 5) rfl rfl) hK hP hD hS hA hN rfl hl.1 rfl (Nat.le_of_ble_eq_true rfl) dX0_startWritingIfServed_31 ⟨Nat.zero_le _, Nat.zero_le _⟩ (fun z H locs hw hP hD hS => ?_)
    exact fk_vret hx hb hr hlk hK hP hD hS (hw.trans (Eq.symm (by rw [hf, fX0_startWritingIfServed_c1] <;> rfl))) dX0_startWritingIfServed_34
  · refine lv_aload_n hx hb dX0_startWritingIfServed_8 rfl (lv_at hl 0 rfl) ?_
    refine lv_iconst (v := 4) hx hb dX0_startWritingIfServed_9 (by decide) ?_
    have hl := lv_sub hl [] (l' := []) rfl
    refine fk_Vv (Wd := (fk_cW q k)) (z := z0) (As := [.int 4]) (rest := []) F9 (c_X0_endWith l G q k _ z0 4) (cwV 1 hts gX0_startWritingIfServed_X0_endWith rfl rfl rfl (by decide +kernel) ⟨Nat.le_of_ble_eq_true rfl, Nat.le_of_ble_eq_true rfl⟩) (va_recv hK hP (ci := 0) (q0 := 4) rfl rfl) hK hP hD hS hA hN rfl hl.1 rfl (Nat.le_of_ble_eq_true rfl) dX0_startWritingIfServed_10 ⟨Nat.zero_le _, Nat.zero_le _⟩ (fun z H locs hw hP hD hS => ?_)
    exact fk_vret hx hb hr hlk hK hP hD hS (hw.trans (Eq.symm (by rw [fX0_startWritingIfServed, if_neg c5] <;> rfl))) dX0_startWritingIfServed_13
-- FloppyDesk$Controller.meetIndex()V
def fX0_meetIndex_66 (z : fk_C) : fk_C :=
  (if (z.1 25) = 5 then fX0_endWith z 16 else z)
def fX0_meetIndex_50 (z : fk_C) : fk_C :=
  (if (z.1 23) = 2 then fX0_meetIndex_66 z else (if (z.1 23) = 3 then fX0_meetIndex_66 z else z))
def fX0_meetIndex (z0 : fk_C) : fk_C :=
  (if (z0.1 23) = 7 then fX0_startWritingIfServed (upd z0.1 25 ((z0.1 25) + 1), z0.2) else (if (z0.1 23) = 6 then (if (z0.1 21) = 5 then fX0_end (upd z0.1 25 ((z0.1 25) + 1), z0.2) else fX0_meetIndex_50 (upd z0.1 25 ((z0.1 25) + 1), z0.2)) else fX0_meetIndex_50 (upd z0.1 25 ((z0.1 25) + 1), z0.2)))
set_option maxHeartbeats 4000000 in
set_option maxRecDepth 100000 in
theorem c_X0_meetIndex (l : Launch) (G : va_G) (q : Nat → Nat) (k : Nat → ClassId) (sz : Nat) (z0 : fk_C) : fk_Mv l yX0_meetIndex wsX0_meetIndex ({ frames := 4, cells := 0, slots := 0, locals := 81 } : Room) G (fk_cW q k) (fk_cT k) [.ref (q 4)] sz z0 (fX0_meetIndex z0) := by
  refine fk_head (cc := cX0_meetIndex) (maxL := 1) (ret := none) (QQ := fun A => va_Qv (fun z1 => z1 = fX0_meetIndex z0) (fk_At G (fk_cW q k) (fk_cT k) A) A) (by decide) rfl (Nat.le_of_ble_eq_true rfl) ?_ sz
  intro p e s m below meth c A ls hx hb hr hlk hml hown hts hK hN hA hP hD hS hl
  have hown : s.vm.findClass RX0 = some m.cls := hown
  have F9 : CallFix p m c cX0_meetIndex 1 s ([.ref (q 4)] : List Value).toArray wsX0_meetIndex RX0 := ⟨hx, hb, hml, hown, hts⟩
  have hl : lv_has ls 1 [(0, .ref (q 4))] := hl
  have hfl_26 := hts (.fieldLink RX0 26 "FloppyDesk$Controller" "latest" "I") (by decide +kernel)
  have hfl_47 := hts (.fieldLink RX0 47 "FloppyDesk$Controller" "indexes" "I") (by decide +kernel)
  have hfl_70 := hts (.fieldLink RX0 70 "FloppyDesk$Controller" "phase" "I") (by decide +kernel)
  have hi_0 : ∀ w ∈ u_ws RX0 TX0 12, w ∈ wsX0_meetIndex := by decide +kernel
  have h66 : ∀ (z : fk_C) (H : Heap) (locs : List Loc) (ls : Array Slot), fX0_meetIndex z0 = fX0_meetIndex_66 z  → va_P G vwCl ((fk_cW q k) z) H → va_D A ((fk_cW q k) z) → va_S A s.heap H locs → lv_has ls 1 [(0, .ref (q 4))] → W p l e ({ frames := 4, cells := 0, slots := 0, locals := 81 } : Room) s m ([.ref (q 4)] : List Value).toArray below meth c H locs 0 0 (MQ below (va_Qv (fun z1 => z1 = fX0_meetIndex z0) (fk_At G (fk_cW q k) (fk_cT k) A) A) ([.ref (q 4)] : List Value).toArray s 0 0 A) (F0 m 66 ls []) := by
    intro z H locs ls hf  hP hD hS hl
    refine lv_aload_n hx hb dX0_meetIndex_66 rfl (lv_at hl 0 rfl) ?_
    refine va_get (D := G) (ci := 0) (v := .int (z.1 25)) (C := RX0) (T := TX0) (N := 12) hx hb hts hi_0 hown hK hP 4 rfl rfl 11 (by decide) hfl_47 (fun _ h9 => h9) rfl dX0_meetIndex_67 ?_
    refine lv_iconst (v := 5) hx hb dX0_meetIndex_70 (by decide) ?_
    refine lv_icmp_ne (tgt := 80) hx hb dX0_meetIndex_71 (by decide) (fun c71 => ?_) (fun c71 => ?_)
    · exact fk_vret hx hb hr hlk hK hP hD hS (Eq.symm (by rw [hf, fX0_meetIndex_66, if_neg c71] <;> rfl)) dX0_meetIndex_80
    · refine lv_aload_n hx hb dX0_meetIndex_74 rfl (lv_at hl 0 rfl) ?_
      refine lv_bipush (v := 16) hx hb dX0_meetIndex_75 (by decide) ?_
      have hl := lv_sub hl [] (l' := []) rfl
      refine fk_Vv (Wd := (fk_cW q k)) (z := z) (As := [.int 16]) (rest := []) F9 (c_X0_endWith l G q k _ z 16) (cwV 1 hts gX0_meetIndex_X0_endWith rfl rfl rfl (by decide +kernel) ⟨Nat.le_of_ble_eq_true rfl, Nat.le_of_ble_eq_true rfl⟩) (va_recv hK hP (ci := 0) (q0 := 4) rfl rfl) hK hP hD hS hA hN rfl hl.1 rfl (Nat.le_of_ble_eq_true rfl) dX0_meetIndex_77 ⟨Nat.zero_le _, Nat.zero_le _⟩ (fun z H locs hw hP hD hS => ?_)
      exact fk_vret hx hb hr hlk hK hP hD hS (hw.trans (Eq.symm (by rw [hf, fX0_meetIndex_66, if_pos c71] <;> rfl))) dX0_meetIndex_80
  have h50 : ∀ (z : fk_C) (H : Heap) (locs : List Loc) (ls : Array Slot), fX0_meetIndex z0 = fX0_meetIndex_50 z  → va_P G vwCl ((fk_cW q k) z) H → va_D A ((fk_cW q k) z) → va_S A s.heap H locs → lv_has ls 1 [(0, .ref (q 4))] → W p l e ({ frames := 4, cells := 0, slots := 0, locals := 81 } : Room) s m ([.ref (q 4)] : List Value).toArray below meth c H locs 0 0 (MQ below (va_Qv (fun z1 => z1 = fX0_meetIndex z0) (fk_At G (fk_cW q k) (fk_cT k) A) A) ([.ref (q 4)] : List Value).toArray s 0 0 A) (F0 m 50 ls []) := by
    intro z H locs ls hf  hP hD hS hl
    refine lv_aload_n hx hb dX0_meetIndex_50 rfl (lv_at hl 0 rfl) ?_
    refine va_get (D := G) (ci := 0) (v := .int (z.1 23)) (C := RX0) (T := TX0) (N := 12) hx hb hts hi_0 hown hK hP 4 rfl rfl 9 (by decide) hfl_70 (fun _ h9 => h9) rfl dX0_meetIndex_51 ?_
    refine lv_iconst (v := 2) hx hb dX0_meetIndex_54 (by decide) ?_
    refine lv_icmp_eq (tgt := 66) hx hb dX0_meetIndex_55 (by decide) (fun c55 => ?_) (fun c55 => ?_)
    · exact h66 z _ _ ls (by rw [hf, fX0_meetIndex_50, if_pos c55] <;> rfl) hP hD hS (lv_sub hl [0] rfl)
    · refine lv_aload_n hx hb dX0_meetIndex_58 rfl (lv_at hl 0 rfl) ?_
      refine va_get (D := G) (ci := 0) (v := .int (z.1 23)) (C := RX0) (T := TX0) (N := 12) hx hb hts hi_0 hown hK hP 4 rfl rfl 9 (by decide) hfl_70 (fun _ h9 => h9) rfl dX0_meetIndex_59 ?_
      refine lv_iconst (v := 3) hx hb dX0_meetIndex_62 (by decide) ?_
      refine lv_icmp_ne (tgt := 80) hx hb dX0_meetIndex_63 (by decide) (fun c63 => ?_) (fun c63 => ?_)
      · exact fk_vret hx hb hr hlk hK hP hD hS (Eq.symm (by rw [hf, fX0_meetIndex_50, if_neg c55, if_neg c63] <;> rfl)) dX0_meetIndex_80
      · exact h66 z _ _ ls (by rw [hf, fX0_meetIndex_50, if_neg c55, if_pos c63] <;> rfl) hP hD hS (lv_sub hl [0] rfl)
  refine lv_aload_n hx hb dX0_meetIndex_0 rfl (lv_at hl 0 rfl) ?_
  refine lv_dup hx hb dX0_meetIndex_1 rfl ?_
  refine va_get (D := G) (ci := 0) (v := .int (z0.1 25)) (C := RX0) (T := TX0) (N := 12) hx hb hts hi_0 hown hK hP 4 rfl rfl 11 (by decide) hfl_47 (fun _ h9 => h9) rfl dX0_meetIndex_2 ?_
  refine lv_iconst (v := 1) hx hb dX0_meetIndex_5 (by decide) ?_
  refine lv_iadd hx hb dX0_meetIndex_6 ?_
  refine va_put (D := G) (ci := 0) (v := .int ((z0.1 25) + 1)) (ty := .int) (C := RX0) (T := TX0) (N := 12) hx hb hts hi_0 tyX0 tyX0_ok nmX0 hown hK hP hD hS 4 rfl rfl 11 (by decide) hfl_47 (fun _ h9 => h9) rfl (by decide +kernel) rfl rfl (Nat.le_of_ble_eq_true rfl) dX0_meetIndex_7 (fun H locs hP hD hS => ?_)
  have hP : va_P G vwCl ((fk_cW q k) (upd z0.1 25 ((z0.1 25) + 1), z0.2)) H := hP
  have hD : va_D A ((fk_cW q k) (upd z0.1 25 ((z0.1 25) + 1), z0.2)) := hD
  refine lv_aload_n hx hb dX0_meetIndex_10 rfl (lv_at hl 0 rfl) ?_
  refine va_get (D := G) (ci := 0) (v := .int (z0.1 23)) (C := RX0) (T := TX0) (N := 12) hx hb hts hi_0 hown hK hP 4 rfl rfl 9 (by decide) hfl_70 (fun _ h9 => h9) rfl dX0_meetIndex_11 ?_
  refine lv_bipush (v := 7) hx hb dX0_meetIndex_14 (by decide) ?_
  refine lv_icmp_ne (tgt := 26) hx hb dX0_meetIndex_16 (by decide) (fun c16 => ?_) (fun c16 => ?_)
  · refine lv_aload_n hx hb dX0_meetIndex_26 rfl (lv_at hl 0 rfl) ?_
    refine va_get (D := G) (ci := 0) (v := .int (z0.1 23)) (C := RX0) (T := TX0) (N := 12) hx hb hts hi_0 hown hK hP 4 rfl rfl 9 (by decide) hfl_70 (fun _ h9 => h9) rfl dX0_meetIndex_27 ?_
    refine lv_bipush (v := 6) hx hb dX0_meetIndex_30 (by decide) ?_
    refine lv_icmp_ne (tgt := 50) hx hb dX0_meetIndex_32 (by decide) (fun c32 => ?_) (fun c32 => ?_)
    · exact h50 (upd z0.1 25 ((z0.1 25) + 1), z0.2) _ _ ls (by rw [fX0_meetIndex, if_neg c16, if_neg c32] <;> rfl) hP hD hS (lv_sub hl [0] rfl)
    · refine lv_aload_n hx hb dX0_meetIndex_35 rfl (lv_at hl 0 rfl) ?_
      refine va_get (D := G) (ci := 0) (v := .int (z0.1 21)) (C := RX0) (T := TX0) (N := 12) hx hb hts hi_0 hown hK hP 4 rfl rfl 7 (by decide) hfl_26 (fun _ h9 => h9) rfl dX0_meetIndex_36 ?_
      refine lv_iconst (v := 5) hx hb dX0_meetIndex_39 (by decide) ?_
      refine lv_icmp_ne (tgt := 50) hx hb dX0_meetIndex_40 (by decide) (fun c40 => ?_) (fun c40 => ?_)
      · exact h50 (upd z0.1 25 ((z0.1 25) + 1), z0.2) _ _ ls (by rw [fX0_meetIndex, if_neg c16, if_pos c32, if_neg c40] <;> rfl) hP hD hS (lv_sub hl [0] rfl)
      · refine lv_aload_n hx hb dX0_meetIndex_43 rfl (lv_at hl 0 rfl) ?_
        have hl := lv_sub hl [] (l' := []) rfl
        refine fk_Vv (Wd := (fk_cW q k)) (z := (upd z0.1 25 ((z0.1 25) + 1), z0.2)) (As := []) (rest := []) F9 (c_X0_end l G q k _ (upd z0.1 25 ((z0.1 25) + 1), z0.2)) (cwV 0 hts gX0_meetIndex_X0_end rfl rfl rfl (by decide +kernel) ⟨Nat.le_of_ble_eq_true rfl, Nat.le_of_ble_eq_true rfl⟩) (va_recv hK hP (ci := 0) (q0 := 4) rfl rfl) hK hP hD hS hA hN rfl hl.1 rfl (Nat.le_of_ble_eq_true rfl) dX0_meetIndex_44 ⟨Nat.zero_le _, Nat.zero_le _⟩ (fun z H locs hw hP hD hS => ?_)
        refine lv_goto (tgt := 80) hx hb dX0_meetIndex_47 (by decide) ?_
        exact fk_vret hx hb hr hlk hK hP hD hS (hw.trans (Eq.symm (by rw [fX0_meetIndex, if_neg c16, if_pos c32, if_pos c40] <;> rfl))) dX0_meetIndex_80
  · refine lv_aload_n hx hb dX0_meetIndex_19 rfl (lv_at hl 0 rfl) ?_
    have hl := lv_sub hl [] (l' := []) rfl
    refine fk_Vv (Wd := (fk_cW q k)) (z := (upd z0.1 25 ((z0.1 25) + 1), z0.2)) (As := []) (rest := []) F9 (c_X0_startWritingIfServed l G q k _ (upd z0.1 25 ((z0.1 25) + 1), z0.2)) (cwV 0 hts gX0_meetIndex_X0_startWritingIfServed rfl rfl rfl (by decide +kernel) ⟨Nat.le_of_ble_eq_true rfl, Nat.le_of_ble_eq_true rfl⟩) (va_recv hK hP (ci := 0) (q0 := 4) rfl rfl) hK hP hD hS hA hN rfl hl.1 rfl (Nat.le_of_ble_eq_true rfl) dX0_meetIndex_20 ⟨Nat.zero_le _, Nat.zero_le _⟩ (fun z H locs hw hP hD hS => ?_)
    refine lv_goto (tgt := 80) hx hb dX0_meetIndex_23 (by decide) ?_
    exact fk_vret hx hb hr hlk hK hP hD hS (hw.trans (Eq.symm (by rw [fX0_meetIndex, if_pos c16] <;> rfl))) dX0_meetIndex_80
-- FloppyDesk$Disk.moveHead(I)V
def fX1_moveHead (z0 : fk_C) (a1 : Int32) : fk_C :=
  (if ((z0.1 1) + a1) < 0 then z0 else (if 4 ≤ ((z0.1 1) + a1) then z0 else (upd z0.1 1 ((z0.1 1) + a1), z0.2)))
set_option maxHeartbeats 4000000 in
set_option maxRecDepth 100000 in
theorem c_X1_moveHead (l : Launch) (G : va_G) (q : Nat → Nat) (k : Nat → ClassId) (sz : Nat) (z0 : fk_C) (a1 : Int32) : fk_Mv l yX1_moveHead wsX1_moveHead ({ frames := 0, cells := 0, slots := 0, locals := 0 } : Room) G (fk_cW q k) (fk_cT k) [.ref (q 1), .int a1] sz z0 (fX1_moveHead z0 a1) := by
  refine fk_head (cc := cX1_moveHead) (maxL := 3) (ret := none) (QQ := fun A => va_Qv (fun z1 => z1 = fX1_moveHead z0 a1) (fk_At G (fk_cW q k) (fk_cT k) A) A) (by decide) rfl (Nat.le_of_ble_eq_true rfl) ?_ sz
  intro p e s m below meth c A ls hx hb hr hlk hml hown hts hK hN hA hP hD hS hl
  have hown : s.vm.findClass RX1 = some m.cls := hown
  have F9 : CallFix p m c cX1_moveHead 3 s ([.ref (q 1), .int a1] : List Value).toArray wsX1_moveHead RX1 := ⟨hx, hb, hml, hown, hts⟩
  have hl : lv_has ls 3 [(0, .ref (q 1)), (1, .int a1)] := hl
  have hfl_16 := hts (.fieldLink RX1 16 "FloppyDesk$Disk" "headTrack" "I") (by decide +kernel)
  have hi_1 : ∀ w ∈ u_ws RX1 TX1 4, w ∈ wsX1_moveHead := by decide +kernel
  refine lv_aload_n hx hb dX1_moveHead_0 rfl (lv_at hl 0 rfl) ?_
  refine va_get (D := G) (ci := 1) (v := .int (z0.1 1)) (C := RX1) (T := TX1) (N := 4) hx hb hts hi_1 hown hK hP 1 rfl rfl 2 (by decide) hfl_16 (fun _ h9 => h9) rfl dX1_moveHead_1 ?_
  refine lv_iload_n hx hb dX1_moveHead_4 rfl (lv_at hl 1 rfl) ?_
  refine lv_iadd hx hb dX1_moveHead_5 ?_
  refine lv_istore_n (lv' := [(2, .int ((z0.1 1) + a1)), (0, .ref (q 1)), (1, .int a1)]) hx hb dX1_moveHead_6 rfl hl (by decide) rfl (fun ls hl => ?_)
  refine lv_iload_n hx hb dX1_moveHead_7 rfl (lv_at hl 0 rfl) ?_
  refine lv_if_lt (tgt := 21) hx hb dX1_moveHead_8 (by decide) (fun c8 => ?_) (fun c8 => ?_)
  · exact fk_vret hx hb hr hlk hK hP hD hS (Eq.symm (by rw [fX1_moveHead, if_pos c8] <;> rfl)) dX1_moveHead_21
  · refine lv_iload_n hx hb dX1_moveHead_11 rfl (lv_at hl 0 rfl) ?_
    refine lv_iconst (v := 4) hx hb dX1_moveHead_12 (by decide) ?_
    refine lv_icmp_ge (tgt := 21) hx hb dX1_moveHead_13 (by decide) (fun c13 => ?_) (fun c13 => ?_)
    · exact fk_vret hx hb hr hlk hK hP hD hS (Eq.symm (by rw [fX1_moveHead, if_neg c8, if_pos c13] <;> rfl)) dX1_moveHead_21
    · refine lv_aload_n hx hb dX1_moveHead_16 rfl (lv_at hl 1 rfl) ?_
      refine lv_iload_n hx hb dX1_moveHead_17 rfl (lv_at hl 0 rfl) ?_
      refine va_put (D := G) (ci := 1) (v := .int ((z0.1 1) + a1)) (ty := .int) (C := RX1) (T := TX1) (N := 4) hx hb hts hi_1 tyX1 tyX1_ok nmX1 hown hK hP hD hS 1 rfl rfl 2 (by decide) hfl_16 (fun _ h9 => h9) rfl (by decide +kernel) rfl rfl (Nat.le_of_ble_eq_true rfl) dX1_moveHead_18 (fun H locs hP hD hS => ?_)
      have hP : va_P G vwCl ((fk_cW q k) (upd z0.1 1 ((z0.1 1) + a1), z0.2)) H := hP
      have hD : va_D A ((fk_cW q k) (upd z0.1 1 ((z0.1 1) + a1), z0.2)) := hD
      exact fk_vret hx hb hr hlk hK hP hD hS (Eq.symm (by rw [fX1_moveHead, if_neg c8, if_neg c13] <;> rfl)) dX1_moveHead_21
-- FloppyDesk$Controller.moveOneTrack()V
def fX0_moveOneTrack_63 (z : fk_C) (s0 : Int32) : fk_C :=
  fX1_moveHead (upd z.1 18 ((z.1 18) + s0), z.2) s0
def fX0_moveOneTrack_29 (z : fk_C) : fk_C :=
  (if (z.1 18) = (z.1 20) then fX0_end z else (if (z.1 20) ≤ (z.1 18) then fX0_moveOneTrack_63 z (-1) else fX0_moveOneTrack_63 z 1))
def fX0_moveOneTrack (z0 : fk_C) : fk_C :=
  (if (z0.1 21) = 0 then (if (z0.1 1) = 0 then fX0_end (upd z0.1 18 0, z0.2) else fX0_moveOneTrack_29 z0) else fX0_moveOneTrack_29 z0)
set_option maxHeartbeats 4000000 in
set_option maxRecDepth 100000 in
theorem c_X0_moveOneTrack (l : Launch) (G : va_G) (q : Nat → Nat) (k : Nat → ClassId) (sz : Nat) (z0 : fk_C) : fk_Mv l yX0_moveOneTrack wsX0_moveOneTrack ({ frames := 2, cells := 0, slots := 0, locals := 40 } : Room) G (fk_cW q k) (fk_cT k) [.ref (q 4)] sz z0 (fX0_moveOneTrack z0) := by
  refine fk_head (cc := cX0_moveOneTrack) (maxL := 2) (ret := none) (QQ := fun A => va_Qv (fun z1 => z1 = fX0_moveOneTrack z0) (fk_At G (fk_cW q k) (fk_cT k) A) A) (by decide) rfl (Nat.le_of_ble_eq_true rfl) ?_ sz
  intro p e s m below meth c A ls hx hb hr hlk hml hown hts hK hN hA hP hD hS hl
  have hown : s.vm.findClass RX0 = some m.cls := hown
  have F9 : CallFix p m c cX0_moveOneTrack 2 s ([.ref (q 4)] : List Value).toArray wsX0_moveOneTrack RX0 := ⟨hx, hb, hml, hown, hts⟩
  have hl : lv_has ls 2 [(0, .ref (q 4))] := hl
  have hfl_9 := hts (.fieldLink RX0 9 "FloppyDesk$Controller" "disk" "LFloppyDesk$Disk;") (by decide +kernel)
  have hfl_26 := hts (.fieldLink RX0 26 "FloppyDesk$Controller" "latest" "I") (by decide +kernel)
  have hfl_33 := hts (.fieldLink RX0 33 "FloppyDesk$Controller" "data" "I") (by decide +kernel)
  have hfl_58 := hts (.fieldLink RX0 58 "FloppyDesk$Controller" "track" "I") (by decide +kernel)
  have hi_0 : ∀ w ∈ u_ws RX0 TX0 12, w ∈ wsX0_moveOneTrack := by decide +kernel
  have hi_1 : ∀ w ∈ u_ws RX1 TX1 4, w ∈ wsX0_moveOneTrack := by decide +kernel
  have h63 : ∀ (z : fk_C) (s0 : Int32) (H : Heap) (locs : List Loc) (ls : Array Slot), fX0_moveOneTrack z0 = fX0_moveOneTrack_63 z s0 → va_P G vwCl ((fk_cW q k) z) H → va_D A ((fk_cW q k) z) → va_S A s.heap H locs → lv_has ls 2 [(0, .ref (q 4))] → W p l e ({ frames := 2, cells := 0, slots := 0, locals := 40 } : Room) s m ([.ref (q 4)] : List Value).toArray below meth c H locs 0 0 (MQ below (va_Qv (fun z1 => z1 = fX0_moveOneTrack z0) (fk_At G (fk_cW q k) (fk_cT k) A) A) ([.ref (q 4)] : List Value).toArray s 0 0 A) (F0 m 63 ls [.int s0]) := by
    intro z s0 H locs ls hf  hP hD hS hl
    refine lv_istore_n (lv' := [(1, .int s0), (0, .ref (q 4))]) hx hb dX0_moveOneTrack_63 rfl hl (by decide) rfl (fun ls hl => ?_)
    refine lv_aload_n hx hb dX0_moveOneTrack_64 rfl (lv_at hl 1 rfl) ?_
    refine lv_dup hx hb dX0_moveOneTrack_65 rfl ?_
    refine va_get (D := G) (ci := 0) (v := .int (z.1 18)) (C := RX0) (T := TX0) (N := 12) hx hb hts hi_0 hown hK hP 4 rfl rfl 4 (by decide) hfl_58 (fun _ h9 => h9) rfl dX0_moveOneTrack_66 ?_
    refine lv_iload_n hx hb dX0_moveOneTrack_69 rfl (lv_at hl 0 rfl) ?_
    refine lv_iadd hx hb dX0_moveOneTrack_70 ?_
    refine va_put (D := G) (ci := 0) (v := .int ((z.1 18) + s0)) (ty := .int) (C := RX0) (T := TX0) (N := 12) hx hb hts hi_0 tyX0 tyX0_ok nmX0 hown hK hP hD hS 4 rfl rfl 4 (by decide) hfl_58 (fun _ h9 => h9) rfl (by decide +kernel) rfl rfl (Nat.le_of_ble_eq_true rfl) dX0_moveOneTrack_71 (fun H locs hP hD hS => ?_)
    have hP : va_P G vwCl ((fk_cW q k) (upd z.1 18 ((z.1 18) + s0), z.2)) H := hP
    have hD : va_D A ((fk_cW q k) (upd z.1 18 ((z.1 18) + s0), z.2)) := hD
    refine lv_aload_n hx hb dX0_moveOneTrack_74 rfl (lv_at hl 1 rfl) ?_
    refine va_get (D := G) (ci := 0) (v := .ref (q 1)) (C := RX0) (T := TX0) (N := 12) hx hb hts hi_0 hown hK hP 4 rfl rfl 0 (by decide) hfl_9 (fun _ h9 => h9) rfl dX0_moveOneTrack_75 ?_
    refine lv_iload_n hx hb dX0_moveOneTrack_78 rfl (lv_at hl 0 rfl) ?_
    have hl := lv_sub hl [] (l' := []) rfl
    refine fk_Vv (Wd := (fk_cW q k)) (z := (upd z.1 18 ((z.1 18) + s0), z.2)) (As := [.int s0]) (rest := []) F9 (c_X1_moveHead l G q k _ (upd z.1 18 ((z.1 18) + s0), z.2) s0) (cwV 1 hts gX0_moveOneTrack_X1_moveHead rfl rfl rfl (by decide +kernel) ⟨Nat.le_of_ble_eq_true rfl, Nat.le_of_ble_eq_true rfl⟩) (va_recv hK hP (ci := 1) (q0 := 1) rfl rfl) hK hP hD hS hA hN rfl hl.1 rfl (Nat.le_of_ble_eq_true rfl) dX0_moveOneTrack_79 ⟨Nat.zero_le _, Nat.zero_le _⟩ (fun z H locs hw hP hD hS => ?_)
    exact fk_vret hx hb hr hlk hK hP hD hS (hw.trans (Eq.symm (by rw [hf, fX0_moveOneTrack_63] <;> rfl))) dX0_moveOneTrack_82
  have h29 : ∀ (z : fk_C) (H : Heap) (locs : List Loc) (ls : Array Slot), fX0_moveOneTrack z0 = fX0_moveOneTrack_29 z  → va_P G vwCl ((fk_cW q k) z) H → va_D A ((fk_cW q k) z) → va_S A s.heap H locs → lv_has ls 2 [(0, .ref (q 4))] → W p l e ({ frames := 2, cells := 0, slots := 0, locals := 40 } : Room) s m ([.ref (q 4)] : List Value).toArray below meth c H locs 0 0 (MQ below (va_Qv (fun z1 => z1 = fX0_moveOneTrack z0) (fk_At G (fk_cW q k) (fk_cT k) A) A) ([.ref (q 4)] : List Value).toArray s 0 0 A) (F0 m 29 ls []) := by
    intro z H locs ls hf  hP hD hS hl
    refine lv_aload_n hx hb dX0_moveOneTrack_29 rfl (lv_at hl 0 rfl) ?_
    refine va_get (D := G) (ci := 0) (v := .int (z.1 18)) (C := RX0) (T := TX0) (N := 12) hx hb hts hi_0 hown hK hP 4 rfl rfl 4 (by decide) hfl_58 (fun _ h9 => h9) rfl dX0_moveOneTrack_30 ?_
    refine lv_aload_n hx hb dX0_moveOneTrack_33 rfl (lv_at hl 0 rfl) ?_
    refine va_get (D := G) (ci := 0) (v := .int (z.1 20)) (C := RX0) (T := TX0) (N := 12) hx hb hts hi_0 hown hK hP 4 rfl rfl 6 (by decide) hfl_33 (fun _ h9 => h9) rfl dX0_moveOneTrack_34 ?_
    refine lv_icmp_ne (tgt := 47) hx hb dX0_moveOneTrack_37 (by decide) (fun c37 => ?_) (fun c37 => ?_)
    · refine lv_aload_n hx hb dX0_moveOneTrack_47 rfl (lv_at hl 0 rfl) ?_
      refine va_get (D := G) (ci := 0) (v := .int (z.1 18)) (C := RX0) (T := TX0) (N := 12) hx hb hts hi_0 hown hK hP 4 rfl rfl 4 (by decide) hfl_58 (fun _ h9 => h9) rfl dX0_moveOneTrack_48 ?_
      refine lv_aload_n hx hb dX0_moveOneTrack_51 rfl (lv_at hl 0 rfl) ?_
      refine va_get (D := G) (ci := 0) (v := .int (z.1 20)) (C := RX0) (T := TX0) (N := 12) hx hb hts hi_0 hown hK hP 4 rfl rfl 6 (by decide) hfl_33 (fun _ h9 => h9) rfl dX0_moveOneTrack_52 ?_
      refine lv_icmp_ge (tgt := 62) hx hb dX0_moveOneTrack_55 (by decide) (fun c55 => ?_) (fun c55 => ?_)
      · refine lv_iconst (v := (-1)) hx hb dX0_moveOneTrack_62 (by decide) ?_
        exact h63 z (-1) _ _ ls (by rw [hf, fX0_moveOneTrack_29, if_neg c37, if_pos c55] <;> rfl) hP hD hS (lv_sub hl [0] rfl)
      · refine lv_iconst (v := 1) hx hb dX0_moveOneTrack_58 (by decide) ?_
        refine lv_goto (tgt := 63) hx hb dX0_moveOneTrack_59 (by decide) ?_
        exact h63 z 1 _ _ ls (by rw [hf, fX0_moveOneTrack_29, if_neg c37, if_neg c55] <;> rfl) hP hD hS (lv_sub hl [0] rfl)
    · refine lv_aload_n hx hb dX0_moveOneTrack_40 rfl (lv_at hl 0 rfl) ?_
      have hl := lv_sub hl [] (l' := []) rfl
      refine fk_Vv (Wd := (fk_cW q k)) (z := z) (As := []) (rest := []) F9 (c_X0_end l G q k _ z) (cwV 0 hts gX0_moveOneTrack_X0_end rfl rfl rfl (by decide +kernel) ⟨Nat.le_of_ble_eq_true rfl, Nat.le_of_ble_eq_true rfl⟩) (va_recv hK hP (ci := 0) (q0 := 4) rfl rfl) hK hP hD hS hA hN rfl hl.1 rfl (Nat.le_of_ble_eq_true rfl) dX0_moveOneTrack_41 ⟨Nat.zero_le _, Nat.zero_le _⟩ (fun z H locs hw hP hD hS => ?_)
      refine lv_goto (tgt := 82) hx hb dX0_moveOneTrack_44 (by decide) ?_
      exact fk_vret hx hb hr hlk hK hP hD hS (hw.trans (Eq.symm (by rw [hf, fX0_moveOneTrack_29, if_pos c37] <;> rfl))) dX0_moveOneTrack_82
  refine lv_aload_n hx hb dX0_moveOneTrack_0 rfl (lv_at hl 0 rfl) ?_
  refine va_get (D := G) (ci := 0) (v := .int (z0.1 21)) (C := RX0) (T := TX0) (N := 12) hx hb hts hi_0 hown hK hP 4 rfl rfl 7 (by decide) hfl_26 (fun _ h9 => h9) rfl dX0_moveOneTrack_1 ?_
  refine lv_if_ne (tgt := 29) hx hb dX0_moveOneTrack_4 (by decide) (fun c4 => ?_) (fun c4 => ?_)
  · exact h29 z0 _ _ ls (by rw [fX0_moveOneTrack, if_neg c4] <;> rfl) hP hD hS (lv_sub hl [0] rfl)
  · refine lv_aload_n hx hb dX0_moveOneTrack_7 rfl (lv_at hl 0 rfl) ?_
    refine va_get (D := G) (ci := 0) (v := .ref (q 1)) (C := RX0) (T := TX0) (N := 12) hx hb hts hi_0 hown hK hP 4 rfl rfl 0 (by decide) hfl_9 (fun _ h9 => h9) rfl dX0_moveOneTrack_8 ?_
    refine va_getN (D := G) (ci := 1) (v := .int (z0.1 1)) (C := RX1) (T := TX1) (N := 4) hx hb hts hi_1 hown hK hP 1 rfl rfl 2 (by decide) (hN.f 1 rfl) (fun _ h9 => h9) rfl dX0_moveOneTrack_11 ?_
    refine lv_if_ne (tgt := 29) hx hb dX0_moveOneTrack_14 (by decide) (fun c14 => ?_) (fun c14 => ?_)
    · exact h29 z0 _ _ ls (by rw [fX0_moveOneTrack, if_pos c4, if_neg c14] <;> rfl) hP hD hS (lv_sub hl [0] rfl)
    · refine lv_aload_n hx hb dX0_moveOneTrack_17 rfl (lv_at hl 0 rfl) ?_
      refine lv_iconst (v := 0) hx hb dX0_moveOneTrack_18 (by decide) ?_
      refine va_put (D := G) (ci := 0) (v := .int 0) (ty := .int) (C := RX0) (T := TX0) (N := 12) hx hb hts hi_0 tyX0 tyX0_ok nmX0 hown hK hP hD hS 4 rfl rfl 4 (by decide) hfl_58 (fun _ h9 => h9) rfl (by decide +kernel) rfl rfl (Nat.le_of_ble_eq_true rfl) dX0_moveOneTrack_19 (fun H locs hP hD hS => ?_)
      have hP : va_P G vwCl ((fk_cW q k) (upd z0.1 18 0, z0.2)) H := hP
      have hD : va_D A ((fk_cW q k) (upd z0.1 18 0, z0.2)) := hD
      refine lv_aload_n hx hb dX0_moveOneTrack_22 rfl (lv_at hl 0 rfl) ?_
      have hl := lv_sub hl [] (l' := []) rfl
      refine fk_Vv (Wd := (fk_cW q k)) (z := (upd z0.1 18 0, z0.2)) (As := []) (rest := []) F9 (c_X0_end l G q k _ (upd z0.1 18 0, z0.2)) (cwV 0 hts gX0_moveOneTrack_X0_end rfl rfl rfl (by decide +kernel) ⟨Nat.le_of_ble_eq_true rfl, Nat.le_of_ble_eq_true rfl⟩) (va_recv hK hP (ci := 0) (q0 := 4) rfl rfl) hK hP hD hS hA hN rfl hl.1 rfl (Nat.le_of_ble_eq_true rfl) dX0_moveOneTrack_23 ⟨Nat.zero_le _, Nat.zero_le _⟩ (fun z H locs hw hP hD hS => ?_)
      refine lv_goto (tgt := 82) hx hb dX0_moveOneTrack_26 (by decide) ?_
      exact fk_vret hx hb hr hlk hK hP hD hS (hw.trans (Eq.symm (by rw [fX0_moveOneTrack, if_pos c4, if_pos c14] <;> rfl))) dX0_moveOneTrack_82
-- FloppyDesk$Controller.endByteTime()V
def fX0_endByteTime_63 (z : fk_C) : fk_C :=
  (if (z.1 23) = 5 then (if (z.1 24) = 11 then fX0_startWritingIfServed z else z) else z)
def fX0_endByteTime_38 (z : fk_C) : fk_C :=
  (if (z.1 23) = 3 then (if (z.1 24) = 31 then (upd z.1 23 2, z.2) else fX0_endByteTime_63 z) else fX0_endByteTime_63 z)
def fX0_endByteTime (z0 : fk_C) : fk_C :=
  (if (z0.1 23) = 1 then (if ((z0.1 24) + 1) = 3 then fX0_moveOneTrack (upd (upd z0.1 24 ((z0.1 24) + 1)) 24 0, z0.2) else fX0_endByteTime_38 (upd z0.1 24 ((z0.1 24) + 1), z0.2)) else fX0_endByteTime_38 (upd z0.1 24 ((z0.1 24) + 1), z0.2))
set_option maxHeartbeats 4000000 in
set_option maxRecDepth 100000 in
theorem c_X0_endByteTime (l : Launch) (G : va_G) (q : Nat → Nat) (k : Nat → ClassId) (sz : Nat) (z0 : fk_C) : fk_Mv l yX0_endByteTime wsX0_endByteTime ({ frames := 4, cells := 0, slots := 0, locals := 81 } : Room) G (fk_cW q k) (fk_cT k) [.ref (q 4)] sz z0 (fX0_endByteTime z0) := by
  refine fk_head (cc := cX0_endByteTime) (maxL := 1) (ret := none) (QQ := fun A => va_Qv (fun z1 => z1 = fX0_endByteTime z0) (fk_At G (fk_cW q k) (fk_cT k) A) A) (by decide) rfl (Nat.le_of_ble_eq_true rfl) ?_ sz
  intro p e s m below meth c A ls hx hb hr hlk hml hown hts hK hN hA hP hD hS hl
  have hown : s.vm.findClass RX0 = some m.cls := hown
  have F9 : CallFix p m c cX0_endByteTime 1 s ([.ref (q 4)] : List Value).toArray wsX0_endByteTime RX0 := ⟨hx, hb, hml, hown, hts⟩
  have hl : lv_has ls 1 [(0, .ref (q 4))] := hl
  have hfl_44 := hts (.fieldLink RX0 44 "FloppyDesk$Controller" "byteTimes" "I") (by decide +kernel)
  have hfl_70 := hts (.fieldLink RX0 70 "FloppyDesk$Controller" "phase" "I") (by decide +kernel)
  have hi_0 : ∀ w ∈ u_ws RX0 TX0 12, w ∈ wsX0_endByteTime := by decide +kernel
  have h63 : ∀ (z : fk_C) (H : Heap) (locs : List Loc) (ls : Array Slot), fX0_endByteTime z0 = fX0_endByteTime_63 z  → va_P G vwCl ((fk_cW q k) z) H → va_D A ((fk_cW q k) z) → va_S A s.heap H locs → lv_has ls 1 [(0, .ref (q 4))] → W p l e ({ frames := 4, cells := 0, slots := 0, locals := 81 } : Room) s m ([.ref (q 4)] : List Value).toArray below meth c H locs 0 0 (MQ below (va_Qv (fun z1 => z1 = fX0_endByteTime z0) (fk_At G (fk_cW q k) (fk_cT k) A) A) ([.ref (q 4)] : List Value).toArray s 0 0 A) (F0 m 63 ls []) := by
    intro z H locs ls hf  hP hD hS hl
    refine lv_aload_n hx hb dX0_endByteTime_63 rfl (lv_at hl 0 rfl) ?_
    refine va_get (D := G) (ci := 0) (v := .int (z.1 23)) (C := RX0) (T := TX0) (N := 12) hx hb hts hi_0 hown hK hP 4 rfl rfl 9 (by decide) hfl_70 (fun _ h9 => h9) rfl dX0_endByteTime_64 ?_
    refine lv_iconst (v := 5) hx hb dX0_endByteTime_67 (by decide) ?_
    refine lv_icmp_ne (tgt := 84) hx hb dX0_endByteTime_68 (by decide) (fun c68 => ?_) (fun c68 => ?_)
    · exact fk_vret hx hb hr hlk hK hP hD hS (Eq.symm (by rw [hf, fX0_endByteTime_63, if_neg c68] <;> rfl)) dX0_endByteTime_84
    · refine lv_aload_n hx hb dX0_endByteTime_71 rfl (lv_at hl 0 rfl) ?_
      refine va_get (D := G) (ci := 0) (v := .int (z.1 24)) (C := RX0) (T := TX0) (N := 12) hx hb hts hi_0 hown hK hP 4 rfl rfl 10 (by decide) hfl_44 (fun _ h9 => h9) rfl dX0_endByteTime_72 ?_
      refine lv_bipush (v := 11) hx hb dX0_endByteTime_75 (by decide) ?_
      refine lv_icmp_ne (tgt := 84) hx hb dX0_endByteTime_77 (by decide) (fun c77 => ?_) (fun c77 => ?_)
      · exact fk_vret hx hb hr hlk hK hP hD hS (Eq.symm (by rw [hf, fX0_endByteTime_63, if_pos c68, if_neg c77] <;> rfl)) dX0_endByteTime_84
      · refine lv_aload_n hx hb dX0_endByteTime_80 rfl (lv_at hl 0 rfl) ?_
        have hl := lv_sub hl [] (l' := []) rfl
        refine fk_Vv (Wd := (fk_cW q k)) (z := z) (As := []) (rest := []) F9 (c_X0_startWritingIfServed l G q k _ z) (cwV 0 hts gX0_endByteTime_X0_startWritingIfServed rfl rfl rfl (by decide +kernel) ⟨Nat.le_of_ble_eq_true rfl, Nat.le_of_ble_eq_true rfl⟩) (va_recv hK hP (ci := 0) (q0 := 4) rfl rfl) hK hP hD hS hA hN rfl hl.1 rfl (Nat.le_of_ble_eq_true rfl) dX0_endByteTime_81 ⟨Nat.zero_le _, Nat.zero_le _⟩ (fun z H locs hw hP hD hS => ?_)
        exact fk_vret hx hb hr hlk hK hP hD hS (hw.trans (Eq.symm (by rw [hf, fX0_endByteTime_63, if_pos c68, if_pos c77] <;> rfl))) dX0_endByteTime_84
  have h38 : ∀ (z : fk_C) (H : Heap) (locs : List Loc) (ls : Array Slot), fX0_endByteTime z0 = fX0_endByteTime_38 z  → va_P G vwCl ((fk_cW q k) z) H → va_D A ((fk_cW q k) z) → va_S A s.heap H locs → lv_has ls 1 [(0, .ref (q 4))] → W p l e ({ frames := 4, cells := 0, slots := 0, locals := 81 } : Room) s m ([.ref (q 4)] : List Value).toArray below meth c H locs 0 0 (MQ below (va_Qv (fun z1 => z1 = fX0_endByteTime z0) (fk_At G (fk_cW q k) (fk_cT k) A) A) ([.ref (q 4)] : List Value).toArray s 0 0 A) (F0 m 38 ls []) := by
    intro z H locs ls hf  hP hD hS hl
    refine lv_aload_n hx hb dX0_endByteTime_38 rfl (lv_at hl 0 rfl) ?_
    refine va_get (D := G) (ci := 0) (v := .int (z.1 23)) (C := RX0) (T := TX0) (N := 12) hx hb hts hi_0 hown hK hP 4 rfl rfl 9 (by decide) hfl_70 (fun _ h9 => h9) rfl dX0_endByteTime_39 ?_
    refine lv_iconst (v := 3) hx hb dX0_endByteTime_42 (by decide) ?_
    refine lv_icmp_ne (tgt := 63) hx hb dX0_endByteTime_43 (by decide) (fun c43 => ?_) (fun c43 => ?_)
    · exact h63 z _ _ ls (by rw [hf, fX0_endByteTime_38, if_neg c43] <;> rfl) hP hD hS (lv_sub hl [0] rfl)
    · refine lv_aload_n hx hb dX0_endByteTime_46 rfl (lv_at hl 0 rfl) ?_
      refine va_get (D := G) (ci := 0) (v := .int (z.1 24)) (C := RX0) (T := TX0) (N := 12) hx hb hts hi_0 hown hK hP 4 rfl rfl 10 (by decide) hfl_44 (fun _ h9 => h9) rfl dX0_endByteTime_47 ?_
      refine lv_bipush (v := 31) hx hb dX0_endByteTime_50 (by decide) ?_
      refine lv_icmp_ne (tgt := 63) hx hb dX0_endByteTime_52 (by decide) (fun c52 => ?_) (fun c52 => ?_)
      · exact h63 z _ _ ls (by rw [hf, fX0_endByteTime_38, if_pos c43, if_neg c52] <;> rfl) hP hD hS (lv_sub hl [0] rfl)
      · refine lv_aload_n hx hb dX0_endByteTime_55 rfl (lv_at hl 0 rfl) ?_
        refine lv_iconst (v := 2) hx hb dX0_endByteTime_56 (by decide) ?_
        refine va_put (D := G) (ci := 0) (v := .int 2) (ty := .int) (C := RX0) (T := TX0) (N := 12) hx hb hts hi_0 tyX0 tyX0_ok nmX0 hown hK hP hD hS 4 rfl rfl 9 (by decide) hfl_70 (fun _ h9 => h9) rfl (by decide +kernel) rfl rfl (Nat.le_of_ble_eq_true rfl) dX0_endByteTime_57 (fun H locs hP hD hS => ?_)
        have hP : va_P G vwCl ((fk_cW q k) (upd z.1 23 2, z.2)) H := hP
        have hD : va_D A ((fk_cW q k) (upd z.1 23 2, z.2)) := hD
        refine lv_goto (tgt := 84) hx hb dX0_endByteTime_60 (by decide) ?_
        exact fk_vret hx hb hr hlk hK hP hD hS (Eq.symm (by rw [hf, fX0_endByteTime_38, if_pos c43, if_pos c52] <;> rfl)) dX0_endByteTime_84
  refine lv_aload_n hx hb dX0_endByteTime_0 rfl (lv_at hl 0 rfl) ?_
  refine lv_dup hx hb dX0_endByteTime_1 rfl ?_
  refine va_get (D := G) (ci := 0) (v := .int (z0.1 24)) (C := RX0) (T := TX0) (N := 12) hx hb hts hi_0 hown hK hP 4 rfl rfl 10 (by decide) hfl_44 (fun _ h9 => h9) rfl dX0_endByteTime_2 ?_
  refine lv_iconst (v := 1) hx hb dX0_endByteTime_5 (by decide) ?_
  refine lv_iadd hx hb dX0_endByteTime_6 ?_
  refine va_put (D := G) (ci := 0) (v := .int ((z0.1 24) + 1)) (ty := .int) (C := RX0) (T := TX0) (N := 12) hx hb hts hi_0 tyX0 tyX0_ok nmX0 hown hK hP hD hS 4 rfl rfl 10 (by decide) hfl_44 (fun _ h9 => h9) rfl (by decide +kernel) rfl rfl (Nat.le_of_ble_eq_true rfl) dX0_endByteTime_7 (fun H locs hP hD hS => ?_)
  have hP : va_P G vwCl ((fk_cW q k) (upd z0.1 24 ((z0.1 24) + 1), z0.2)) H := hP
  have hD : va_D A ((fk_cW q k) (upd z0.1 24 ((z0.1 24) + 1), z0.2)) := hD
  refine lv_aload_n hx hb dX0_endByteTime_10 rfl (lv_at hl 0 rfl) ?_
  refine va_get (D := G) (ci := 0) (v := .int (z0.1 23)) (C := RX0) (T := TX0) (N := 12) hx hb hts hi_0 hown hK hP 4 rfl rfl 9 (by decide) hfl_70 (fun _ h9 => h9) rfl dX0_endByteTime_11 ?_
  refine lv_iconst (v := 1) hx hb dX0_endByteTime_14 (by decide) ?_
  refine lv_icmp_ne (tgt := 38) hx hb dX0_endByteTime_15 (by decide) (fun c15 => ?_) (fun c15 => ?_)
  · exact h38 (upd z0.1 24 ((z0.1 24) + 1), z0.2) _ _ ls (by rw [fX0_endByteTime, if_neg c15] <;> rfl) hP hD hS (lv_sub hl [0] rfl)
  · refine lv_aload_n hx hb dX0_endByteTime_18 rfl (lv_at hl 0 rfl) ?_
    refine va_get (D := G) (ci := 0) (v := .int ((z0.1 24) + 1)) (C := RX0) (T := TX0) (N := 12) hx hb hts hi_0 hown hK hP 4 rfl rfl 10 (by decide) hfl_44 (fun _ h9 => h9) rfl dX0_endByteTime_19 ?_
    refine lv_iconst (v := 3) hx hb dX0_endByteTime_22 (by decide) ?_
    refine lv_icmp_ne (tgt := 38) hx hb dX0_endByteTime_23 (by decide) (fun c23 => ?_) (fun c23 => ?_)
    · exact h38 (upd z0.1 24 ((z0.1 24) + 1), z0.2) _ _ ls (by rw [fX0_endByteTime, if_pos c15, if_neg c23] <;> rfl) hP hD hS (lv_sub hl [0] rfl)
    · refine lv_aload_n hx hb dX0_endByteTime_26 rfl (lv_at hl 0 rfl) ?_
      refine lv_iconst (v := 0) hx hb dX0_endByteTime_27 (by decide) ?_
      refine va_put (D := G) (ci := 0) (v := .int 0) (ty := .int) (C := RX0) (T := TX0) (N := 12) hx hb hts hi_0 tyX0 tyX0_ok nmX0 hown hK hP hD hS 4 rfl rfl 10 (by decide) hfl_44 (fun _ h9 => h9) rfl (by decide +kernel) rfl rfl (Nat.le_of_ble_eq_true rfl) dX0_endByteTime_28 (fun H locs hP hD hS => ?_)
      have hP : va_P G vwCl ((fk_cW q k) (upd (upd z0.1 24 ((z0.1 24) + 1)) 24 0, z0.2)) H := hP
      have hD : va_D A ((fk_cW q k) (upd (upd z0.1 24 ((z0.1 24) + 1)) 24 0, z0.2)) := hD
      refine lv_aload_n hx hb dX0_endByteTime_31 rfl (lv_at hl 0 rfl) ?_
      have hl := lv_sub hl [] (l' := []) rfl
      refine fk_Vv (Wd := (fk_cW q k)) (z := (upd (upd z0.1 24 ((z0.1 24) + 1)) 24 0, z0.2)) (As := []) (rest := []) F9 (c_X0_moveOneTrack l G q k _ (upd (upd z0.1 24 ((z0.1 24) + 1)) 24 0, z0.2)) (cwV 0 hts gX0_endByteTime_X0_moveOneTrack rfl rfl rfl (by decide +kernel) ⟨Nat.le_of_ble_eq_true rfl, Nat.le_of_ble_eq_true rfl⟩) (va_recv hK hP (ci := 0) (q0 := 4) rfl rfl) hK hP hD hS hA hN rfl hl.1 rfl (Nat.le_of_ble_eq_true rfl) dX0_endByteTime_32 ⟨Nat.zero_le _, Nat.zero_le _⟩ (fun z H locs hw hP hD hS => ?_)
      refine lv_goto (tgt := 84) hx hb dX0_endByteTime_35 (by decide) ?_
      exact fk_vret hx hb hr hlk hK hP hD hS (hw.trans (Eq.symm (by rw [fX0_endByteTime, if_pos c15, if_pos c23] <;> rfl))) dX0_endByteTime_84
-- FloppyDesk$Controller.passByteTime()Z
def fX0_passByteTime_46 (kont : fk_C → Int32 → Int32 → Int32 × fk_C) (z : fk_C) (x1 : Int32) (x2 : Int32) : Int32 × fk_C :=
  kont z x1 (x2 + 1)
def fX0_passByteTime_c2 (kont : fk_C → Int32 → Int32 → Int32 × fk_C) (z : fk_C) (x2 : Int32) : Int32 × fk_C :=
  fX0_passByteTime_46 kont z 1 x2
def fX0_passByteTime_c1 (kont : fk_C → Int32 → Int32 → Int32 × fk_C) (z : fk_C) (r34 : Int32) (x1 : Int32) (x2 : Int32) : Int32 × fk_C :=
  (if r34 = 0 then fX0_passByteTime_46 kont z x1 x2 else fX0_passByteTime_c2 kont (fX0_meetIndex z) x2)
def fX0_passByteTime_30 (kont : fk_C → Int32 → Int32 → Int32 × fk_C) (z : fk_C) (x1 : Int32) (x2 : Int32) : Int32 × fk_C :=
  fX0_passByteTime_c1 kont ((fX1_turnByOneCell z).2) (fX1_turnByOneCell z).1 x1 x2
def fX0_passByteTime_c3 (z : fk_C) (x1 : Int32) : Int32 × fk_C :=
  (x1, z)
def fX0_passByteTime_c4 (kont : fk_C → Int32 → Int32 → Int32 × fk_C) (z : fk_C) (x1 : Int32) (x2 : Int32) : Int32 × fk_C :=
  fX0_passByteTime_30 kont z x1 x2
def fX0_passByteTime_c5 (kont : fk_C → Int32 → Int32 → Int32 × fk_C) (z : fk_C) (x1 : Int32) (x2 : Int32) : Int32 × fk_C :=
  fX0_passByteTime_30 kont z x1 x2
def fX0_passByteTime_4 : Nat → fk_C → Int32 → Int32 → Int32 × fk_C
  | 0, z, x1, x2 => (0, z)
  | n + 1, z, x1, x2 =>
  (if 16 ≤ x2 then fX0_passByteTime_c3 (fX0_endByteTime z) x1 else (if (z.1 23) = 6 then fX0_passByteTime_c5 (fX0_passByteTime_4 n) (fX0_writeOneCell z) x1 x2 else fX0_passByteTime_c4 (fX0_passByteTime_4 n) (fX0_readOneCell z) x1 x2))
def fX0_passByteTime (z0 : fk_C) : Int32 × fk_C :=
  fX0_passByteTime_4 17 z0 0 0
set_option maxHeartbeats 4000000 in
set_option maxRecDepth 100000 in
theorem c_X0_passByteTime (l : Launch) (G : va_G) (q : Nat → Nat) (k : Nat → ClassId) (sz : Nat) (z0 : fk_C) : fk_Mi l yX0_passByteTime wsX0_passByteTime ({ frames := 5, cells := 0, slots := 0, locals := 110 } : Room) G (fk_cW q k) (fk_cT k) [.ref (q 4)] sz z0 (fX0_passByteTime z0) := by
  refine fk_head (cc := cX0_passByteTime) (maxL := 3) (ret := (some .boolean)) (QQ := fun A => va_Qi (fun r z1 => (r, z1) = fX0_passByteTime z0) (fk_At G (fk_cW q k) (fk_cT k) A) A) (by decide) rfl (Nat.le_of_ble_eq_true rfl) ?_ sz
  intro p e s m below meth c A ls hx hb hr hlk hml hown hts hK hN hA hP hD hS hl
  have hown : s.vm.findClass RX0 = some m.cls := hown
  have F9 : CallFix p m c cX0_passByteTime 3 s ([.ref (q 4)] : List Value).toArray wsX0_passByteTime RX0 := ⟨hx, hb, hml, hown, hts⟩
  have hl : lv_has ls 3 [(0, .ref (q 4))] := hl
  have hfl_9 := hts (.fieldLink RX0 9 "FloppyDesk$Controller" "disk" "LFloppyDesk$Disk;") (by decide +kernel)
  have hfl_70 := hts (.fieldLink RX0 70 "FloppyDesk$Controller" "phase" "I") (by decide +kernel)
  have hi_0 : ∀ w ∈ u_ws RX0 TX0 12, w ∈ wsX0_passByteTime := by decide +kernel
  have h4 : ∀ (n : Nat) (j : Nat) (z : fk_C) (x1 : Int32) (x2 : Int32) (H : Heap) (locs : List Loc) (ls : Array Slot), fX0_passByteTime z0 = fX0_passByteTime_4 n z x1 x2 → (x2 = nI j) → (j ≤ 16) → (16 + 1 ≤ j + n) → (x1 = 0 ∨ x1 = 1) → va_P G vwCl ((fk_cW q k) z) H → va_D A ((fk_cW q k) z) → va_S A s.heap H locs → lv_has ls 3 [(0, .ref (q 4)), (1, .int x1), (2, .int x2)] → W p l e ({ frames := 5, cells := 0, slots := 0, locals := 110 } : Room) s m ([.ref (q 4)] : List Value).toArray below meth c H locs 0 0 (MQ below (va_Qi (fun r z1 => (r, z1) = fX0_passByteTime z0) (fk_At G (fk_cW q k) (fk_cT k) A) A) ([.ref (q 4)] : List Value).toArray s 0 0 A) (F0 m 4 ls []) := by
    intro n
    induction n with
    | zero =>
      intro j z x1 x2 H locs ls hf hj hjN hfu hb_x1 hP hD hS hl
      exact absurd hfu (by omega)
    | succ n ih =>
      intro j z x1 x2 H locs ls hf hj hjN hfu hb_x1 hP hD hS hl
      have h46 : ∀ (z : fk_C) (x1 : Int32) (H : Heap) (locs : List Loc) (ls : Array Slot), fX0_passByteTime z0 = fX0_passByteTime_46 (fX0_passByteTime_4 n) z x1 x2 → (j < 16) → (x1 = 0 ∨ x1 = 1) → va_P G vwCl ((fk_cW q k) z) H → va_D A ((fk_cW q k) z) → va_S A s.heap H locs → lv_has ls 3 [(0, .ref (q 4)), (1, .int x1), (2, .int x2)] → W p l e ({ frames := 5, cells := 0, slots := 0, locals := 110 } : Room) s m ([.ref (q 4)] : List Value).toArray below meth c H locs 0 0 (MQ below (va_Qi (fun r z1 => (r, z1) = fX0_passByteTime z0) (fk_At G (fk_cW q k) (fk_cT k) A) A) ([.ref (q 4)] : List Value).toArray s 0 0 A) (F0 m 46 ls []) := by
        intro z x1 H locs ls hf hlt hb_x1 hP hD hS hl
        refine lv_iinc (v := x2 + 1) (lv' := [(2, .int (x2 + 1)), (0, .ref (q 4)), (1, .int x1)]) hx hb dX0_passByteTime_46 hl (k := 2) rfl (by rfl) (by decide) rfl (fun ls hl => ?_)
        refine lv_goto (tgt := 4) hx hb dX0_passByteTime_49 (by decide) ?_
        exact ih (j + 1) z x1 (x2 + 1) _ _ ls (by rw [hf, fX0_passByteTime_46] <;> rfl) (fk_up1 hj) (by omega) (by omega) hb_x1 hP hD hS (lv_sub hl [1, 2, 0] rfl)
      have h30 : ∀ (z : fk_C) (H : Heap) (locs : List Loc) (ls : Array Slot), fX0_passByteTime z0 = fX0_passByteTime_30 (fX0_passByteTime_4 n) z x1 x2 → (j < 16) → va_P G vwCl ((fk_cW q k) z) H → va_D A ((fk_cW q k) z) → va_S A s.heap H locs → lv_has ls 3 [(0, .ref (q 4)), (1, .int x1), (2, .int x2)] → W p l e ({ frames := 5, cells := 0, slots := 0, locals := 110 } : Room) s m ([.ref (q 4)] : List Value).toArray below meth c H locs 0 0 (MQ below (va_Qi (fun r z1 => (r, z1) = fX0_passByteTime z0) (fk_At G (fk_cW q k) (fk_cT k) A) A) ([.ref (q 4)] : List Value).toArray s 0 0 A) (F0 m 30 ls []) := by
        intro z H locs ls hf hlt hP hD hS hl
        refine lv_aload_n hx hb dX0_passByteTime_30 rfl (lv_at hl 0 rfl) ?_
        refine va_get (D := G) (ci := 0) (v := .ref (q 1)) (C := RX0) (T := TX0) (N := 12) hx hb hts hi_0 hown hK hP 4 rfl rfl 0 (by decide) hfl_9 (fun _ h9 => h9) rfl dX0_passByteTime_31 ?_
        refine fk_Vi (Wd := (fk_cW q k)) (z := z) (As := []) (rest := []) F9 (c_X1_turnByOneCell l G q k _ z) (cwV 0 hts gX0_passByteTime_X1_turnByOneCell rfl rfl rfl (by decide +kernel) ⟨Nat.le_of_ble_eq_true rfl, Nat.le_of_ble_eq_true rfl⟩) (va_recv hK hP (ci := 1) (q0 := 1) rfl rfl) hK hP hD hS hA hN rfl hl.1 rfl (Nat.le_of_ble_eq_true rfl) dX0_passByteTime_34 ⟨Nat.zero_le _, Nat.zero_le _⟩ (fun r34 z H locs hw hP hD hS => ?_)
        have hf : fX0_passByteTime z0 = fX0_passByteTime_c1 (fX0_passByteTime_4 n) z r34 x1 x2 := by rw [hf, fX0_passByteTime_30, ← hw] <;> rfl
        refine lv_if_eq (tgt := 46) hx hb dX0_passByteTime_37 (by decide) (fun c37 => ?_) (fun c37 => ?_)
        · exact h46 z x1 _ _ ls (by rw [hf, fX0_passByteTime_c1, if_pos c37] <;> rfl) hlt hb_x1 hP hD hS (lv_sub hl [0, 1, 2] rfl)
        · refine lv_iconst (v := 1) hx hb dX0_passByteTime_40 (by decide) ?_
          refine lv_istore_n (lv' := [(1, .int 1), (0, .ref (q 4)), (2, .int x2)]) hx hb dX0_passByteTime_41 rfl hl (by decide) rfl (fun ls hl => ?_)
          refine lv_aload_n hx hb dX0_passByteTime_42 rfl (lv_at hl 1 rfl) ?_
          refine fk_Vv (Wd := (fk_cW q k)) (z := z) (As := []) (rest := []) F9 (c_X0_meetIndex l G q k _ z) (cwV 0 hts gX0_passByteTime_X0_meetIndex rfl rfl rfl (by decide +kernel) ⟨Nat.le_of_ble_eq_true rfl, Nat.le_of_ble_eq_true rfl⟩) (va_recv hK hP (ci := 0) (q0 := 4) rfl rfl) hK hP hD hS hA hN rfl hl.1 rfl (Nat.le_of_ble_eq_true rfl) dX0_passByteTime_43 ⟨Nat.zero_le _, Nat.zero_le _⟩ (fun z H locs hw hP hD hS => ?_)
          have hf : fX0_passByteTime z0 = fX0_passByteTime_c2 (fX0_passByteTime_4 n) z x2 := by rw [hf, fX0_passByteTime_c1, if_neg c37, ← hw] <;> rfl
          exact h46 z 1 _ _ ls (by rw [hf, fX0_passByteTime_c2] <;> rfl) hlt (Or.inr rfl) hP hD hS (lv_sub hl [1, 0, 2] rfl)
      refine lv_iload_n hx hb dX0_passByteTime_4 rfl (lv_at hl 2 rfl) ?_
      refine lv_bipush (v := 16) hx hb dX0_passByteTime_5 (by decide) ?_
      refine lv_icmp_ge (tgt := 52) hx hb dX0_passByteTime_7 (by decide) (fun c7 => ?_) (fun c7 => ?_)
      · refine lv_aload_n hx hb dX0_passByteTime_52 rfl (lv_at hl 0 rfl) ?_
        have hl := lv_sub hl [1] (l' := [(1, .int x1)]) rfl
        refine fk_Vv (Wd := (fk_cW q k)) (z := z) (As := []) (rest := []) F9 (c_X0_endByteTime l G q k _ z) (cwV 0 hts gX0_passByteTime_X0_endByteTime rfl rfl rfl (by decide +kernel) ⟨Nat.le_of_ble_eq_true rfl, Nat.le_of_ble_eq_true rfl⟩) (va_recv hK hP (ci := 0) (q0 := 4) rfl rfl) hK hP hD hS hA hN rfl hl.1 rfl (Nat.le_of_ble_eq_true rfl) dX0_passByteTime_53 ⟨Nat.zero_le _, Nat.zero_le _⟩ (fun z H locs hw hP hD hS => ?_)
        have hf : fX0_passByteTime z0 = fX0_passByteTime_c3 z x1 := by rw [hf, fX0_passByteTime_4, if_pos c7, ← hw] <;> rfl
        refine lv_iload_n hx hb dX0_passByteTime_56 rfl (lv_at hl 0 rfl) ?_
        exact fk_iret hx hb hr hlk hK hP hD hS (fk_nb hb_x1) (Eq.symm (by rw [hf, fX0_passByteTime_c3] <;> rfl)) dX0_passByteTime_57
      · have hlt : j < 16 := fk_up hj (by decide) (by omega) c7
        refine lv_aload_n hx hb dX0_passByteTime_10 rfl (lv_at hl 0 rfl) ?_
        refine va_get (D := G) (ci := 0) (v := .int (z.1 23)) (C := RX0) (T := TX0) (N := 12) hx hb hts hi_0 hown hK hP 4 rfl rfl 9 (by decide) hfl_70 (fun _ h9 => h9) rfl dX0_passByteTime_11 ?_
        refine lv_bipush (v := 6) hx hb dX0_passByteTime_14 (by decide) ?_
        refine lv_icmp_ne (tgt := 26) hx hb dX0_passByteTime_16 (by decide) (fun c16 => ?_) (fun c16 => ?_)
        · refine lv_aload_n hx hb dX0_passByteTime_26 rfl (lv_at hl 0 rfl) ?_
          refine fk_Vv (Wd := (fk_cW q k)) (z := z) (As := []) (rest := []) F9 (c_X0_readOneCell l G q k _ z) (cwV 0 hts gX0_passByteTime_X0_readOneCell rfl rfl rfl (by decide +kernel) ⟨Nat.le_of_ble_eq_true rfl, Nat.le_of_ble_eq_true rfl⟩) (va_recv hK hP (ci := 0) (q0 := 4) rfl rfl) hK hP hD hS hA hN rfl hl.1 rfl (Nat.le_of_ble_eq_true rfl) dX0_passByteTime_27 ⟨Nat.zero_le _, Nat.zero_le _⟩ (fun z H locs hw hP hD hS => ?_)
          have hf : fX0_passByteTime z0 = fX0_passByteTime_c4 (fX0_passByteTime_4 n) z x1 x2 := by rw [hf, fX0_passByteTime_4, if_neg c7, if_neg c16, ← hw] <;> rfl
          exact h30 z _ _ ls (by rw [hf, fX0_passByteTime_c4] <;> rfl) hlt hP hD hS (lv_sub hl [0, 1, 2] rfl)
        · refine lv_aload_n hx hb dX0_passByteTime_19 rfl (lv_at hl 0 rfl) ?_
          refine fk_Vv (Wd := (fk_cW q k)) (z := z) (As := []) (rest := []) F9 (c_X0_writeOneCell l G q k _ z) (cwV 0 hts gX0_passByteTime_X0_writeOneCell rfl rfl rfl (by decide +kernel) ⟨Nat.le_of_ble_eq_true rfl, Nat.le_of_ble_eq_true rfl⟩) (va_recv hK hP (ci := 0) (q0 := 4) rfl rfl) hK hP hD hS hA hN rfl hl.1 rfl (Nat.le_of_ble_eq_true rfl) dX0_passByteTime_20 ⟨Nat.zero_le _, Nat.zero_le _⟩ (fun z H locs hw hP hD hS => ?_)
          have hf : fX0_passByteTime z0 = fX0_passByteTime_c5 (fX0_passByteTime_4 n) z x1 x2 := by rw [hf, fX0_passByteTime_4, if_neg c7, if_pos c16, ← hw] <;> rfl
          refine lv_goto (tgt := 30) hx hb dX0_passByteTime_23 (by decide) ?_
          exact h30 z _ _ ls (by rw [hf, fX0_passByteTime_c5] <;> rfl) hlt hP hD hS (lv_sub hl [0, 1, 2] rfl)
  refine lv_iconst (v := 0) hx hb dX0_passByteTime_0 (by decide) ?_
  refine lv_istore_n (lv' := [(1, .int 0), (0, .ref (q 4))]) hx hb dX0_passByteTime_1 rfl hl (by decide) rfl (fun ls hl => ?_)
  refine lv_iconst (v := 0) hx hb dX0_passByteTime_2 (by decide) ?_
  refine lv_istore_n (lv' := [(2, .int 0), (1, .int 0), (0, .ref (q 4))]) hx hb dX0_passByteTime_3 rfl hl (by decide) rfl (fun ls hl => ?_)
  exact h4 17 0 z0 0 0 _ _ ls (by rw [fX0_passByteTime] <;> rfl) (by decide) (by omega) (by omega) (Or.inl rfl) hP hD hS (lv_sub hl [2, 1, 0] rfl)
