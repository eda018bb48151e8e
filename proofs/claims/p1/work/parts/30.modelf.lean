-- FloppyDeskModel.step(II)I
def fX6_step_37 (kont : Int32 → Int32 → Int32) (x3 : Int32) (s0 : Int32) : Int32 :=
  kont s0 (x3 + 1)
def fX6_step_9 : Nat → Int32 → Int32 → Int32
  | 0, x2, x3 => 0
  | n + 1, x2, x3 =>
  (if 8 ≤ x3 then x2 else (if (x2 <<< ((1 : Int32) &&& 31)) ≤ 65535 then fX6_step_37 (fX6_step_9 n) x3 (x2 <<< ((1 : Int32) &&& 31)) else fX6_step_37 (fX6_step_9 n) x3 (((x2 <<< ((1 : Int32) &&& 31)) ^^^ 4129) &&& 65535)))
def fX6_step (a1 : Int32) (a2 : Int32) : Int32 :=
  fX6_step_9 9 (a1 ^^^ (a2 <<< ((8 : Int32) &&& 31))) 0
-- FloppyDeskModel.isRight()Z
def fX6_isRight_35 : Nat → fk_M → Int32 → Int32 → Int32
  | 0, z0, x1, x2 => 0
  | n + 1, z0, x1, x2 =>
  (if ((z0.1 10) - 2) ≤ x2 then (if (z0.2.2.1 ((z0.1 10) - 2).toNatClampNeg) = (x1 >>> ((8 : Int32) &&& 31)) then (if (z0.2.2.1 ((z0.1 10) - 1).toNatClampNeg) = (x1 &&& 255) then 1 else 0) else 0) else fX6_isRight_35 n z0 (fX6_step x1 (z0.2.2.1 x2.toNatClampNeg)) (x2 + 1))
def fX6_isRight_5 : Nat → fk_M → Int32 → Int32 → Int32
  | 0, z0, x1, x2 => 0
  | n + 1, z0, x1, x2 =>
  (if 3 ≤ x2 then fX6_isRight_35 41 z0 (fX6_step x1 (z0.1 9)) 0 else fX6_isRight_5 n z0 (fX6_step x1 161) (x2 + 1))
def fX6_isRight (z0 : fk_M) : Int32 :=
  fX6_isRight_5 4 z0 65535 0
-- FloppyDeskModel.raise(I)V
def fX6_raise (z0 : fk_M) (a1 : Int32) : fk_M :=
  (upd z0.1 16 ((z0.1 16) ||| a1), z0.2)
-- FloppyDeskModel.drop(I)V
def fX6_drop (z0 : fk_M) (a1 : Int32) : fk_M :=
  (upd z0.1 16 ((z0.1 16) &&& (a1 ^^^ (-1))), z0.2)
-- FloppyDeskModel.has(I)Z
def fX6_has (z0 : fk_M) (a1 : Int32) : Int32 :=
  (if ((z0.1 16) &&& a1) = 0 then 0 else 1)
-- FloppyDeskModel.reset()V
def fX6_reset (z0 : fk_M) : fk_M :=
  (upd (upd (upd z0.1 5 0) 6 0) 8 0, z0.2)
-- FloppyDeskModel.end()V
def fX6_end_c2 (z : fk_M) : fk_M :=
  (if (z.1 19) = 6 then (upd (upd z.1 4 0) 19 0, z.2) else (if (z.1 19) = 8 then (upd (upd z.1 4 0) 19 0, z.2) else (upd z.1 19 0, z.2)))
def fX6_end_c1 (z : fk_M) : fk_M :=
  fX6_end_c2 (fX6_drop z 2)
def fX6_end (z0 : fk_M) : fk_M :=
  fX6_end_c1 (fX6_drop z0 1)
-- FloppyDeskModel.receive(I)V
def fX6_receive_c1 (z : fk_M) : fk_M :=
  fX6_raise z 2
def fX6_receive (z0 : fk_M) (a1 : Int32) : fk_M :=
  (if (fX6_has (upd z0.1 15 a1, z0.2) 2) = 0 then fX6_raise (upd z0.1 15 a1, z0.2) 2 else fX6_receive_c1 (fX6_raise (upd z0.1 15 a1, z0.2) 4))
-- FloppyDeskModel.ask()I
def fX6_ask_c1 (z : fk_M) : Int32 × fk_M :=
  (0, z)
def fX6_ask (z0 : fk_M) : Int32 × fk_M :=
  (if (fX6_has z0 2) = 0 then (z0.1 15, z0) else fX6_ask_c1 (fX6_raise z0 4))
-- FloppyDeskModel.begins(II)V
def fX6_begins_41 (z : fk_M) (x1 : Int32) (x2 : Int32) : fk_M :=
  (if x1 = 2 then (if (z.1 17) = 2 then (if (z.1 19) = 3 then (if x2 = 248 then fX6_raise (upd z.1 19 4, z.2) 32 else (upd z.1 19 4, z.2)) else z) else z) else z)
def fX6_begins (z0 : fk_M) (a1 : Int32) (a2 : Int32) : fk_M :=
  (if a1 = 1 then (if (z0.1 17) = 4 then (if (z0.1 19) = 2 then fX6_begins_41 (upd (upd (upd (upd z0.1 8 a1) 9 a2) 10 0) 19 4, z0.2) a1 a2 else fX6_begins_41 (upd (upd (upd z0.1 8 a1) 9 a2) 10 0, z0.2) a1 a2) else fX6_begins_41 (upd (upd (upd z0.1 8 a1) 9 a2) 10 0, z0.2) a1 a2) else fX6_begins_41 (upd (upd (upd z0.1 8 a1) 9 a2) 10 0, z0.2) a1 a2)
-- FloppyDeskModel.idOver(Z)V
def fX6_idOver_168 (z : fk_M) (s1 : Int32) : fk_M :=
  (if (z.1 17) = 3 then fX6_raise (upd (upd z.1 19 s1) 20 1, z.2) 2 else (upd (upd z.1 19 s1) 20 1, z.2))
def fX6_idOver_c1 (z : fk_M) : fk_M :=
  (if (z.2.2.1 (0 : Int32).toNatClampNeg) = (z.1 13) then (if (z.2.2.1 (2 : Int32).toNatClampNeg) = (z.1 14) then (if (z.1 17) = 2 then fX6_idOver_168 z 3 else fX6_idOver_168 z 5) else z) else z)
def fX6_idOver_105 (z : fk_M) (x1 : Int32) (s0 : Int32) : fk_M :=
  (if s0 = 0 then z else (if x1 = 0 then fX6_raise z 8 else fX6_idOver_c1 (fX6_drop z 8)))
def fX6_idOver_104 (z : fk_M) (x1 : Int32) : fk_M :=
  fX6_idOver_105 z x1 0
def fX6_idOver_100 (z : fk_M) (x1 : Int32) : fk_M :=
  fX6_idOver_105 z x1 1
def fX6_idOver_84 (z : fk_M) (x1 : Int32) : fk_M :=
  (if (z.1 17) = 3 then (if (z.1 19) = 2 then fX6_idOver_100 z x1 else fX6_idOver_104 z x1) else fX6_idOver_104 z x1)
def fX6_idOver_60 (z : fk_M) (x1 : Int32) : fk_M :=
  (if (z.1 17) = 2 then (if (z.1 19) = 2 then fX6_idOver_100 z x1 else (if (z.1 19) = 3 then fX6_idOver_100 z x1 else fX6_idOver_84 z x1)) else fX6_idOver_84 z x1)
def fX6_idOver_c2 (z : fk_M) : fk_M :=
  fX6_end z
def fX6_idOver_19 (z : fk_M) (x1 : Int32) : fk_M :=
  (if (z.1 17) = 4 then (if (z.1 19) = 4 then (if x1 = 0 then fX6_idOver_c2 (fX6_raise (upd z.1 14 (z.2.2.1 (0 : Int32).toNatClampNeg), z.2) 8) else fX6_end (upd z.1 14 (z.2.2.1 (0 : Int32).toNatClampNeg), z.2)) else fX6_idOver_60 z x1) else fX6_idOver_60 z x1)
def fX6_idOver (z0 : fk_M) (a1 : Int32) : fk_M :=
  (if a1 = 0 then fX6_idOver_19 z0 a1 else fX6_idOver_19 (upd z0.1 12 ((16 : Int32) <<< (((z0.2.2.1 (3 : Int32).toNatClampNeg) &&& 1) &&& 31)), z0.2) a1)
-- FloppyDeskModel.dataOver(Z)V
def fX6_dataOver_c1 (z : fk_M) : fk_M :=
  fX6_end z
def fX6_dataOver (z0 : fk_M) (a1 : Int32) : fk_M :=
  (if (z0.1 17) = 2 then (if (z0.1 19) = 4 then (if a1 = 0 then fX6_dataOver_c1 (fX6_raise z0 8) else fX6_end z0) else z0) else z0)
-- FloppyDeskModel.comes(I)V
def fX6_comes_173 (z : fk_M) (x2 : Int32) : fk_M :=
  (if (z.1 10) = x2 then (if (z.1 8) = 1 then fX6_idOver (upd (upd z.1 8 0) 5 0, z.2) (fX6_isRight (upd (upd z.1 8 0) 5 0, z.2)) else fX6_dataOver (upd (upd z.1 8 0) 5 0, z.2) (fX6_isRight (upd (upd z.1 8 0) 5 0, z.2))) else z)
def fX6_comes_c1 (z : fk_M) (x2 : Int32) : fk_M :=
  fX6_comes_173 z x2
def fX6_comes_168 (z : fk_M) (x1 : Int32) (x2 : Int32) : fk_M :=
  fX6_comes_c1 (fX6_receive z x1) x2
def fX6_comes_140 (z : fk_M) (x1 : Int32) (s0 : Int32) : fk_M :=
  (if (z.1 19) = 4 then (if (z.1 17) = 4 then fX6_comes_168 z x1 s0 else (if (z.1 12) < (z.1 10) then fX6_comes_173 z s0 else fX6_comes_168 z x1 s0)) else fX6_comes_173 z s0)
def fX6_comes (z0 : fk_M) (a1 : Int32) : fk_M :=
  (if (z0.1 8) = 0 then (if (z0.1 6) ≤ 2 then (if (z0.1 6) ≤ 2 then (upd (upd z0.1 6 0) 5 0, z0.2) else (if a1 = 251 then fX6_begins (upd (upd z0.1 6 0) 5 1, z0.2) 2 a1 else (if a1 = 248 then fX6_begins (upd (upd z0.1 6 0) 5 1, z0.2) 2 a1 else (upd (upd z0.1 6 0) 5 0, z0.2)))) else (if a1 = 254 then (if (z0.1 6) ≤ 2 then fX6_begins (upd (upd z0.1 6 0) 5 1, z0.2) 1 a1 else (if a1 = 251 then fX6_begins (upd (upd z0.1 6 0) 5 1, z0.2) 1 a1 else (if a1 = 248 then fX6_begins (upd (upd z0.1 6 0) 5 1, z0.2) 1 a1 else fX6_begins (upd (upd z0.1 6 0) 5 1, z0.2) 1 a1))) else (if (z0.1 6) ≤ 2 then (upd (upd z0.1 6 0) 5 0, z0.2) else (if a1 = 251 then fX6_begins (upd (upd z0.1 6 0) 5 1, z0.2) 2 a1 else (if a1 = 248 then fX6_begins (upd (upd z0.1 6 0) 5 1, z0.2) 2 a1 else (upd (upd z0.1 6 0) 5 0, z0.2)))))) else (if (z0.1 8) = 1 then fX6_comes_140 (upd z0.1 10 ((z0.1 10) + 1), z0.2.1, upd z0.2.2.1 (z0.1 10).toNatClampNeg a1, z0.2.2.2) a1 6 else fX6_comes_140 (upd z0.1 10 ((z0.1 10) + 1), z0.2.1, upd z0.2.2.1 (z0.1 10).toNatClampNeg a1, z0.2.2.2) a1 ((z0.1 12) + 2)))
-- FloppyDeskModel.readCell()V
def fX6_readCell_97 (z : fk_M) : fk_M :=
  (if (z.1 5) = 0 then z else (if (z.1 7) = 16 then fX6_comes (upd z.1 7 0, z.2) (((((((((((((((((0 : Int32) <<< ((1 : Int32) &&& 31)) ||| (((z.1 4) >>> ((14 : Int32) &&& 31)) &&& 1)) <<< ((1 : Int32) &&& 31)) ||| (((z.1 4) >>> ((12 : Int32) &&& 31)) &&& 1)) <<< ((1 : Int32) &&& 31)) ||| (((z.1 4) >>> ((10 : Int32) &&& 31)) &&& 1)) <<< ((1 : Int32) &&& 31)) ||| (((z.1 4) >>> ((8 : Int32) &&& 31)) &&& 1)) <<< ((1 : Int32) &&& 31)) ||| (((z.1 4) >>> ((6 : Int32) &&& 31)) &&& 1)) <<< ((1 : Int32) &&& 31)) ||| (((z.1 4) >>> ((4 : Int32) &&& 31)) &&& 1)) <<< ((1 : Int32) &&& 31)) ||| (((z.1 4) >>> ((2 : Int32) &&& 31)) &&& 1)) <<< ((1 : Int32) &&& 31)) ||| (((z.1 4) >>> ((0 : Int32) &&& 31)) &&& 1)) else z))
def fX6_readCell_74 (z : fk_M) : fk_M :=
  (upd (upd (upd z.1 5 1) 6 ((z.1 6) + 1)) 7 0, z.2)
def fX6_readCell_33 (z : fk_M) (s1 : Int32) (s2 : Int32) : fk_M :=
  (if ((s1 ||| s2) &&& 65535) = 17545 then (if (z.1 5) = 0 then fX6_readCell_74 (upd (upd z.1 4 ((s1 ||| s2) &&& 65535)) 7 ((z.1 7) + 1), z.2) else (if (z.1 8) = 0 then fX6_readCell_74 (upd (upd z.1 4 ((s1 ||| s2) &&& 65535)) 7 ((z.1 7) + 1), z.2) else fX6_readCell_97 (upd (upd z.1 4 ((s1 ||| s2) &&& 65535)) 7 ((z.1 7) + 1), z.2))) else fX6_readCell_97 (upd (upd z.1 4 ((s1 ||| s2) &&& 65535)) 7 ((z.1 7) + 1), z.2))
def fX6_readCell (z0 : fk_M) : fk_M :=
  (if (z0.2.1 ((2400 * (z0.1 2)) + (z0.1 3)).toNatClampNeg) = 0 then fX6_readCell_33 z0 ((z0.1 4) <<< ((1 : Int32) &&& 31)) 0 else fX6_readCell_33 z0 ((z0.1 4) <<< ((1 : Int32) &&& 31)) 1)
-- FloppyDeskModel.startWriting(I)V
def fX6_startWriting_c1 (z : fk_M) : fk_M :=
  (upd (upd (upd (upd (upd (upd z.1 23 0) 24 0) 25 0) 26 65535) 27 0) 28 (-1), z.2)
def fX6_startWriting (z0 : fk_M) (a1 : Int32) : fk_M :=
  fX6_startWriting_c1 (fX6_reset (upd z0.1 19 a1, z0.2))
-- FloppyDeskModel.coded(I)I
def fX6_coded_39 (kont : fk_M → Int32 → Int32 → Int32 → Int32 → Int32) (z0 : fk_M) (x1 : Int32) (x4 : Int32) (x5 : Int32) (s0 : Int32) (s1 : Int32) : Int32 :=
  kont z0 x1 ((s0 ||| s1) ||| x5) x5 (x4 + (-1))
def fX6_coded_11 : Nat → fk_M → Int32 → Int32 → Int32 → Int32 → Int32
  | 0, z0, x1, x2, x3, x4 => 0
  | n + 1, z0, x1, x2, x3, x4 =>
  (if x4 < 0 then x2 else (if (x3 + ((x1 >>> (x4 &&& 31)) &&& 1)) = 0 then fX6_coded_39 (fX6_coded_11 n) z0 x1 x4 ((x1 >>> (x4 &&& 31)) &&& 1) (x2 <<< ((2 : Int32) &&& 31)) 2 else fX6_coded_39 (fX6_coded_11 n) z0 x1 x4 ((x1 >>> (x4 &&& 31)) &&& 1) (x2 <<< ((2 : Int32) &&& 31)) 0))
def fX6_coded (z0 : fk_M) (a1 : Int32) : Int32 :=
  fX6_coded_11 9 z0 a1 0 (z0.1 25) 7
-- FloppyDeskModel.write(I)V
def fX6_write (z0 : fk_M) (a1 : Int32) : fk_M :=
  (upd (upd z0.1 22 (fX6_coded z0 a1)) 25 (a1 &&& 1), z0.2)
-- FloppyDeskModel.writeMark()V
def fX6_writeMark (z0 : fk_M) : fk_M :=
  (upd (upd z0.1 22 17545) 25 1, z0.2)
-- FloppyDeskModel.sectorByte()V
def fX6_sectorByte_c1 (z : fk_M) (x3 : Int32) : fk_M :=
  (upd (upd z.1 26 (fX6_step (z.1 26) x3)) 24 ((z.1 24) + 1), z.2)
def fX6_sectorByte_127 (z : fk_M) (x3 : Int32) : fk_M :=
  fX6_sectorByte_c1 (fX6_write z x3) x3
def fX6_sectorByte_c2 (z : fk_M) (s0 : Int32) : fk_M :=
  (upd (upd z.1 26 (fX6_step (z.1 26) s0)) 24 ((z.1 24) + 1), z.2)
def fX6_sectorByte_84 (z : fk_M) (s0 : Int32) : fk_M :=
  fX6_sectorByte_c2 (fX6_write z s0) s0
def fX6_sectorByte_c3 (z : fk_M) : fk_M :=
  (upd z.1 24 ((z.1 24) + 1), z.2)
def fX6_sectorByte_c4 (z : fk_M) : fk_M :=
  (upd z.1 24 ((z.1 24) + 1), z.2)
def fX6_sectorByte_c5 (z : fk_M) : fk_M :=
  (upd z.1 24 ((z.1 24) + 1), z.2)
def fX6_sectorByte_c7 (z : fk_M) (r111 : Int32) : fk_M :=
  fX6_sectorByte_127 z r111
def fX6_sectorByte_c6 (z : fk_M) (r111 : Int32) (y111_x2 : Int32) (y111_x1 : Int32) : fk_M :=
  (if y111_x1 ≤ (y111_x2 + 1) then fX6_sectorByte_127 z r111 else fX6_sectorByte_c7 (fX6_raise z 2) r111)
def fX6_sectorByte_c8 (z : fk_M) : fk_M :=
  (upd (upd z.1 26 (fX6_step (z.1 26) 161)) 24 ((z.1 24) + 1), z.2)
def fX6_sectorByte_c9 (z : fk_M) : fk_M :=
  (upd z.1 24 ((z.1 24) + 1), z.2)
def fX6_sectorByte (z0 : fk_M) : fk_M :=
  (if 4 ≤ (z0.1 24) then (if 7 ≤ (z0.1 24) then (if (z0.1 24) = 7 then (if (z0.1 18) = 0 then fX6_sectorByte_84 z0 251 else fX6_sectorByte_84 z0 248) else (if (z0.1 12) ≤ ((z0.1 24) - 8) then (if ((z0.1 24) - 8) = (z0.1 12) then fX6_sectorByte_c5 (fX6_write z0 ((z0.1 26) >>> ((8 : Int32) &&& 31))) else (if ((z0.1 24) - 8) = ((z0.1 12) + 1) then fX6_sectorByte_c4 (fX6_write z0 ((z0.1 26) &&& 255)) else fX6_sectorByte_c3 (fX6_write z0 78))) else fX6_sectorByte_c6 ((fX6_ask z0).2) (fX6_ask z0).1 ((z0.1 24) - 8) (z0.1 12))) else fX6_sectorByte_c8 (fX6_writeMark z0)) else fX6_sectorByte_c9 (fX6_write z0 0))
-- FloppyDeskModel.trackByte()V
def fX6_trackByte_c1 (z : fk_M) (s0 : Int32) (x1 : Int32) : fk_M :=
  (upd (upd z.1 26 (fX6_step (z.1 26) x1)) 27 s0, z.2)
def fX6_trackByte_c2 (z : fk_M) (s0 : Int32) : fk_M :=
  (upd (upd z.1 28 ((z.1 26) &&& 255)) 27 s0, z.2)
def fX6_trackByte_c3 (z : fk_M) (s0 : Int32) : fk_M :=
  (if (z.1 27) = 0 then (upd (upd z.1 26 (fX6_step 65535 161)) 27 s0, z.2) else (upd (upd z.1 26 (fX6_step (z.1 26) 161)) 27 s0, z.2))
def fX6_trackByte_43 (z : fk_M) (x1 : Int32) (s0 : Int32) : fk_M :=
  (if s0 = 0 then (if x1 = 247 then fX6_trackByte_c2 (fX6_write z ((z.1 26) >>> ((8 : Int32) &&& 31))) s0 else fX6_trackByte_c1 (fX6_write z x1) s0 x1) else fX6_trackByte_c3 (fX6_writeMark z) s0)
def fX6_trackByte_c5 (z : fk_M) (r22 : Int32) : fk_M :=
  (if r22 = 245 then fX6_trackByte_43 z r22 1 else fX6_trackByte_43 z r22 0)
def fX6_trackByte_c4 (z : fk_M) (r22 : Int32) : fk_M :=
  fX6_trackByte_c5 (fX6_raise z 2) r22
def fX6_trackByte_c6 (z : fk_M) : fk_M :=
  (upd z.1 28 (-1), z.2)
def fX6_trackByte (z0 : fk_M) : fk_M :=
  (if (z0.1 28) < 0 then fX6_trackByte_c4 ((fX6_ask z0).2) (fX6_ask z0).1 else fX6_trackByte_c6 (fX6_write z0 (z0.1 28)))
-- FloppyDeskModel.writeCell()V
def fX6_writeCell_88 (z : fk_M) (s1 : Int32) : fk_M :=
  (if (z.1 19) = 6 then (if s1 = 0 then (if (z.1 24) = ((z.1 12) + 11) then fX6_end (upd z.1 23 s1, z.2) else (upd z.1 23 s1, z.2)) else (upd z.1 23 s1, z.2)) else (upd z.1 23 s1, z.2))
def fX6_writeCell_67 (z : fk_M) (s1 : Int32) (s2 : Int32) : fk_M :=
  (if (z.1 23) = 15 then fX6_writeCell_88 (z.1, upd z.2.1 s1.toNatClampNeg s2, z.2.2.1, z.2.2.2) 0 else fX6_writeCell_88 (z.1, upd z.2.1 s1.toNatClampNeg s2, z.2.2.1, z.2.2.2) ((z.1 23) + 1))
def fX6_writeCell_27 (z : fk_M) : fk_M :=
  (if (((z.1 22) >>> ((15 - (z.1 23)) &&& 31)) &&& 1) = 1 then fX6_writeCell_67 z ((2400 * (z.1 2)) + (z.1 3)) 1 else fX6_writeCell_67 z ((2400 * (z.1 2)) + (z.1 3)) 0)
def fX6_writeCell_c1 (z : fk_M) : fk_M :=
  fX6_writeCell_27 z
def fX6_writeCell_c2 (z : fk_M) : fk_M :=
  fX6_writeCell_27 z
def fX6_writeCell (z0 : fk_M) : fk_M :=
  (if (z0.1 23) = 0 then (if (z0.1 19) = 6 then fX6_writeCell_c2 (fX6_sectorByte z0) else fX6_writeCell_c1 (fX6_trackByte z0)) else fX6_writeCell_27 z0)
-- FloppyDeskModel.index()V
def fX6_index_c1 (z : fk_M) : fk_M :=
  fX6_end z
def fX6_index_c2 (z : fk_M) : fk_M :=
  fX6_end z
def fX6_index_c3 (z : fk_M) : fk_M :=
  fX6_end z
def fX6_index (z0 : fk_M) : fk_M :=
  (if (z0.1 19) = 8 then fX6_end (upd z0.1 21 ((z0.1 21) + 1), z0.2) else (if (z0.1 19) = 7 then (if (fX6_has (upd z0.1 21 ((z0.1 21) + 1), z0.2) 2) = 0 then fX6_startWriting (upd z0.1 21 ((z0.1 21) + 1), z0.2) 8 else fX6_index_c3 (fX6_raise (upd z0.1 21 ((z0.1 21) + 1), z0.2) 4)) else (if ((z0.1 21) + 1) = 5 then (if (z0.1 19) = 2 then fX6_index_c1 (fX6_raise (upd z0.1 21 ((z0.1 21) + 1), z0.2) 16) else (if (z0.1 19) = 3 then fX6_index_c2 (fX6_raise (upd z0.1 21 ((z0.1 21) + 1), z0.2) 16) else (upd z0.1 21 ((z0.1 21) + 1), z0.2))) else (upd z0.1 21 ((z0.1 21) + 1), z0.2))))
-- FloppyDeskModel.stepHead()V
def fX6_stepHead_60 (z : fk_M) (s0 : Int32) : fk_M :=
  (if ((z.1 2) + s0) < 0 then (upd (upd z.1 13 ((z.1 13) + s0)) 2 (z.1 2), z.2) else (if ((z.1 2) + s0) ≤ 3 then (upd (upd z.1 13 ((z.1 13) + s0)) 2 ((z.1 2) + s0), z.2) else (upd (upd z.1 13 ((z.1 13) + s0)) 2 (z.1 2), z.2)))
def fX6_stepHead_26 (z : fk_M) : fk_M :=
  (if (z.1 13) = (z.1 15) then fX6_end z else (if (z.1 15) ≤ (z.1 13) then fX6_stepHead_60 z (-1) else fX6_stepHead_60 z 1))
def fX6_stepHead (z0 : fk_M) : fk_M :=
  (if (z0.1 17) = 0 then (if (z0.1 2) = 0 then fX6_end (upd z0.1 13 0, z0.2) else fX6_stepHead_26 z0) else fX6_stepHead_26 z0)
-- FloppyDeskModel.later()V
def fX6_later_c1 (z : fk_M) : fk_M :=
  (upd z.1 20 ((z.1 20) + 1), z.2)
def fX6_later_110 (z : fk_M) : fk_M :=
  (if (z.1 20) = 11 then fX6_later_c1 (fX6_startWriting z 6) else (upd z.1 20 ((z.1 20) + 1), z.2))
def fX6_later_c3 (z : fk_M) : fk_M :=
  (upd z.1 20 ((z.1 20) + 1), z.2)
def fX6_later_c2 (z : fk_M) : fk_M :=
  fX6_later_c3 (fX6_end z)
def fX6_later (z0 : fk_M) : fk_M :=
  (if (z0.1 19) = 1 then (if (((z0.1 20) + 1) - ((z0.1 20) + 1) / 3 * 3) = 0 then fX6_stepHead (upd z0.1 20 ((z0.1 20) + 1), z0.2) else (upd z0.1 20 ((z0.1 20) + 1), z0.2)) else (if (z0.1 19) = 3 then (if (z0.1 20) = 31 then (upd (upd z0.1 19 2) 20 ((z0.1 20) + 1), z0.2) else (upd (upd z0.1 19 3) 20 ((z0.1 20) + 1), z0.2)) else (if (z0.1 19) = 5 then (if (z0.1 20) = 11 then (if (fX6_has z0 2) = 0 then fX6_later_110 z0 else fX6_later_c2 (fX6_raise z0 4)) else fX6_later_110 z0) else z0)))
-- FloppyDeskModel.pass()I
def fX6_pass_71 (kont : fk_M → Int32 → Int32 → Int32 × fk_M) (z : fk_M) (x1 : Int32) (x2 : Int32) : Int32 × fk_M :=
  kont z x1 (x2 + 1)
def fX6_pass_c1 (kont : fk_M → Int32 → Int32 → Int32 × fk_M) (z : fk_M) (y68_x1 : Int32) (x2 : Int32) : Int32 × fk_M :=
  fX6_pass_71 kont z y68_x1 x2
def fX6_pass_39 (kont : fk_M → Int32 → Int32 → Int32 × fk_M) (z : fk_M) (x1 : Int32) (x2 : Int32) : Int32 × fk_M :=
  (if ((z.1 3) + 1) = 2400 then fX6_pass_c1 kont (fX6_index (upd (upd z.1 3 ((z.1 3) + 1)) 3 0, z.2)) (x1 + 1) x2 else fX6_pass_71 kont (upd z.1 3 ((z.1 3) + 1), z.2) x1 x2)
def fX6_pass_c2 (kont : fk_M → Int32 → Int32 → Int32 × fk_M) (z : fk_M) (x1 : Int32) (x2 : Int32) : Int32 × fk_M :=
  fX6_pass_39 kont z x1 x2
def fX6_pass_28 (kont : fk_M → Int32 → Int32 → Int32 × fk_M) (z : fk_M) (x1 : Int32) (x2 : Int32) : Int32 × fk_M :=
  fX6_pass_c2 kont (fX6_writeCell z) x1 x2
def fX6_pass_c3 (z : fk_M) (x1 : Int32) : Int32 × fk_M :=
  (x1, z)
def fX6_pass_c4 (kont : fk_M → Int32 → Int32 → Int32 × fk_M) (z : fk_M) (x1 : Int32) (x2 : Int32) : Int32 × fk_M :=
  fX6_pass_39 kont z x1 x2
def fX6_pass_4 : Nat → fk_M → Int32 → Int32 → Int32 × fk_M
  | 0, z, x1, x2 => (0, z)
  | n + 1, z, x1, x2 =>
  (if 16 ≤ x2 then fX6_pass_c3 (fX6_later z) x1 else (if (z.1 19) = 6 then fX6_pass_28 (fX6_pass_4 n) z x1 x2 else (if (z.1 19) = 8 then fX6_pass_28 (fX6_pass_4 n) z x1 x2 else fX6_pass_c4 (fX6_pass_4 n) (fX6_readCell z) x1 x2)))
def fX6_pass (z0 : fk_M) : Int32 × fk_M :=
  fX6_pass_4 17 z0 0 0
-- FloppyDeskModel.command(IZ)Z
def fX6_command_c1 (z : fk_M) : Int32 × fk_M :=
  (1, z)
def fX6_command_124 (z : fk_M) (x1 : Int32) : Int32 × fk_M :=
  (if x1 = 5 then fX6_command_c1 (fX6_raise z 2) else (1, z))
def fX6_command_c3 (z : fk_M) : Int32 × fk_M :=
  (1, z)
def fX6_command_c2 (z : fk_M) : Int32 × fk_M :=
  fX6_command_c3 (fX6_end z)
def fX6_command_c5 (z : fk_M) : Int32 × fk_M :=
  (1, z)
def fX6_command_c4 (z : fk_M) : Int32 × fk_M :=
  fX6_command_c5 (fX6_end z)
def fX6_command_91 (z : fk_M) (x1 : Int32) (s1 : Int32) : Int32 × fk_M :=
  (if (z.1 1) = 0 then fX6_command_124 (upd z.1 19 s1, z.2) x1 else (if x1 = 3 then fX6_command_c2 (fX6_raise (upd z.1 19 s1, z.2) 64) else (if x1 = 5 then fX6_command_c4 (fX6_raise (upd z.1 19 s1, z.2) 64) else fX6_command_124 (upd z.1 19 s1, z.2) x1)))
def fX6_command_70 (z : fk_M) (x1 : Int32) : Int32 × fk_M :=
  (if 2 ≤ x1 then (if x1 = 5 then fX6_command_91 z x1 7 else fX6_command_91 z x1 2) else fX6_command_91 z x1 1)
def fX6_command_c6 (z : fk_M) (a1 : Int32) : Int32 × fk_M :=
  (if a1 = 0 then fX6_command_70 (upd (upd (upd (upd (upd z.1 12 16) 21 0) 20 0) 13 255) 15 0, z.2) a1 else fX6_command_70 (upd (upd (upd z.1 12 16) 21 0) 20 0, z.2) a1)
def fX6_command (z0 : fk_M) (a1 : Int32) (a2 : Int32) : Int32 × fk_M :=
  (if a1 < 0 then (0, z0) else (if 5 < a1 then (0, z0) else (if (fX6_has z0 1) = 0 then fX6_command_c6 (fX6_reset (upd (upd (upd z0.1 17 a1) 16 1) 18 a2, z0.2)) a1 else (0, z0))))
-- FloppyDeskModel.force()Z
def fX6_force_c1 (z : fk_M) : Int32 × fk_M :=
  (1, z)
def fX6_force (z0 : fk_M) : Int32 × fk_M :=
  (if (fX6_has z0 1) = 0 then (0, z0) else fX6_force_c1 (fX6_end z0))
-- FloppyDeskModel.set(II)Z
def fX6_set_43 (z : fk_M) (x1 : Int32) (x2 : Int32) (s1 : Int32) : Int32 × fk_M :=
  (if x1 = 1 then (1, (upd (upd z.1 13 s1) 14 x2, z.2)) else (1, (upd (upd z.1 13 s1) 14 (z.1 14), z.2)))
def fX6_set (z0 : fk_M) (a1 : Int32) (a2 : Int32) : Int32 × fk_M :=
  (if a1 < 0 then (0, z0) else (if 1 < a1 then (0, z0) else (if a2 < 0 then (0, z0) else (if 255 < a2 then (0, z0) else (if (fX6_has z0 1) = 0 then (if a1 = 0 then fX6_set_43 z0 a1 a2 a2 else fX6_set_43 z0 a1 a2 (z0.1 13)) else (0, z0))))))
-- FloppyDeskModel.give(I)Z
def fX6_give_c1 (z : fk_M) : Int32 × fk_M :=
  (1, z)
def fX6_give (z0 : fk_M) (a1 : Int32) : Int32 × fk_M :=
  (if a1 < 0 then (0, z0) else (if a1 ≤ 255 then fX6_give_c1 (fX6_drop (upd z0.1 15 a1, z0.2) 2) else (0, z0)))
-- FloppyDeskModel.take()I
def fX6_take_c1 (z : fk_M) : Int32 × fk_M :=
  (z.1 15, z)
def fX6_take (z0 : fk_M) : Int32 × fk_M :=
  fX6_take_c1 (fX6_drop z0 2)
-- FloppyDeskModel.run(I)I
def fX6_run_c1 (kont : fk_M → Int32 → Int32 → Int32 → Int32 × fk_M) (z : fk_M) (r24 : Int32) (x1 : Int32) (x3 : Int32) (x2 : Int32) : Int32 × fk_M :=
  kont z x1 (x2 + r24) (x3 + 1)
def fX6_run_17 : Nat → fk_M → Int32 → Int32 → Int32 → Int32 × fk_M
  | 0, z, x1, x2, x3 => (0, z)
  | n + 1, z, x1, x2, x3 =>
  (if x1 ≤ x3 then (x2, z) else fX6_run_c1 (fX6_run_17 n) ((fX6_pass z).2) (fX6_pass z).1 x1 x3 x2)
def fX6_run (z0 : fk_M) (a1 : Int32) : Int32 × fk_M :=
  (if a1 < 0 then ((-1), z0) else (if a1 ≤ 200 then fX6_run_17 201 z0 a1 0 0 else ((-1), z0)))
-- FloppyDeskModel.serve(I)I
def fX6_serve_198 (kont : fk_M → Int32 → Int32 → Int32 → Int32 × fk_M) (z : fk_M) (x1 : Int32) (x2 : Int32) (x3 : Int32) : Int32 × fk_M :=
  kont z x1 x2 (x3 + 1)
def fX6_serve_192 (kont : fk_M → Int32 → Int32 → Int32 → Int32 × fk_M) (z : fk_M) (x1 : Int32) (x2 : Int32) (x3 : Int32) (s1 : Int32) : Int32 × fk_M :=
  fX6_serve_198 kont (upd z.1 30 s1, z.2) x1 (x2 + 1) x3
def fX6_serve_c1 (kont : fk_M → Int32 → Int32 → Int32 → Int32 × fk_M) (z : fk_M) (r168 : Int32) (x1 : Int32) (x2 : Int32) (x3 : Int32) (x6 : Int32) : Int32 × fk_M :=
  (if x6 = 0 then fX6_serve_192 kont z x1 x2 x3 (z.1 30) else fX6_serve_192 kont z x1 x2 x3 ((z.1 30) + 1))
def fX6_serve_168 (kont : fk_M → Int32 → Int32 → Int32 → Int32 × fk_M) (z : fk_M) (x1 : Int32) (x2 : Int32) (x3 : Int32) (x6 : Int32) (s1 : Int32) : Int32 × fk_M :=
  fX6_serve_c1 kont ((fX6_give z s1).2) (fX6_give z s1).1 x1 x2 x3 x6
def fX6_serve_147 (kont : fk_M → Int32 → Int32 → Int32 → Int32 × fk_M) (z : fk_M) (x1 : Int32) (x2 : Int32) (x3 : Int32) (s0 : Int32) : Int32 × fk_M :=
  (if s0 = 0 then fX6_serve_168 kont z x1 x2 x3 s0 0 else fX6_serve_168 kont z x1 x2 x3 s0 (z.2.2.2 (z.1 30).toNatClampNeg))
def fX6_serve_131 (kont : fk_M → Int32 → Int32 → Int32 → Int32 × fk_M) (z : fk_M) (x1 : Int32) (x2 : Int32) (x3 : Int32) : Int32 × fk_M :=
  (if (z.1 29) ≤ (z.1 30) then fX6_serve_147 kont z x1 x2 x3 0 else fX6_serve_147 kont z x1 x2 x3 1)
def fX6_serve_107 (kont : fk_M → Int32 → Int32 → Int32 → Int32 × fk_M) (z : fk_M) (x1 : Int32) (x2 : Int32) (x3 : Int32) : Int32 × fk_M :=
  (if (fX6_has z 2) = 0 then fX6_serve_198 kont z x1 x2 x3 else (if (z.1 17) = 3 then fX6_serve_131 kont z x1 x2 x3 else (if (z.1 17) = 5 then fX6_serve_131 kont z x1 x2 x3 else fX6_serve_198 kont z x1 x2 x3)))
def fX6_serve_101 (kont : fk_M → Int32 → Int32 → Int32 → Int32 × fk_M) (z : fk_M) (x1 : Int32) (x2 : Int32) (x3 : Int32) : Int32 × fk_M :=
  fX6_serve_198 kont z x1 (x2 + 1) x3
def fX6_serve_c2 (kont : fk_M → Int32 → Int32 → Int32 → Int32 × fk_M) (z : fk_M) (r65 : Int32) (x1 : Int32) (x2 : Int32) (x3 : Int32) : Int32 × fk_M :=
  (if 200 ≤ (z.1 29) then fX6_serve_101 kont z x1 x2 x3 else fX6_serve_101 kont (upd z.1 29 ((z.1 29) + 1), z.2.1, z.2.2.1, upd z.2.2.2 (z.1 29).toNatClampNeg r65) x1 x2 x3)
def fX6_serve_49 (kont : fk_M → Int32 → Int32 → Int32 → Int32 × fk_M) (z : fk_M) (x1 : Int32) (x2 : Int32) (x3 : Int32) (s0 : Int32) : Int32 × fk_M :=
  (if (fX6_has z 2) = 0 then fX6_serve_107 kont z x1 x2 x3 else (if s0 = 0 then fX6_serve_107 kont z x1 x2 x3 else fX6_serve_c2 kont ((fX6_take z).2) (fX6_take z).1 x1 x2 x3))
def fX6_serve_44 (kont : fk_M → Int32 → Int32 → Int32 → Int32 × fk_M) (z : fk_M) (x1 : Int32) (x2 : Int32) (x3 : Int32) : Int32 × fk_M :=
  fX6_serve_49 kont z x1 x2 x3 1
def fX6_serve_c3 (kont : fk_M → Int32 → Int32 → Int32 → Int32 × fk_M) (z : fk_M) (r23 : Int32) (x1 : Int32) (x2 : Int32) (x3 : Int32) : Int32 × fk_M :=
  (if (z.1 17) = 2 then fX6_serve_44 kont z x1 x2 x3 else (if (z.1 17) = 4 then fX6_serve_44 kont z x1 x2 x3 else fX6_serve_49 kont z x1 x2 x3 0))
def fX6_serve_17 : Nat → fk_M → Int32 → Int32 → Int32 → Int32 × fk_M
  | 0, z, x1, x2, x3 => (0, z)
  | n + 1, z, x1, x2, x3 =>
  (if x1 ≤ x3 then (x2, z) else fX6_serve_c3 (fX6_serve_17 n) ((fX6_pass z).2) (fX6_pass z).1 x1 x2 x3)
def fX6_serve (z0 : fk_M) (a1 : Int32) : Int32 × fk_M :=
  (if a1 < 0 then ((-1), z0) else (if a1 ≤ 200 then fX6_serve_17 201 z0 a1 0 0 else ((-1), z0)))
-- FloppyDeskModel.clear()V
def fX6_clear (z0 : fk_M) : fk_M :=
  (upd (upd z0.1 29 0) 30 0, z0.2)
-- FloppyDeskModel.fill(II)Z
def fX6_fill_38 : Nat → fk_M → Int32 → Int32 → Int32 → Int32 × fk_M
  | 0, z, x1, x2, x3 => (0, z)
  | n + 1, z, x1, x2, x3 =>
  (if x2 ≤ x3 then (1, z) else fX6_fill_38 n (upd z.1 29 ((z.1 29) + 1), z.2.1, z.2.2.1, upd z.2.2.2 (z.1 29).toNatClampNeg x1) x1 x2 (x3 + 1))
def fX6_fill (z0 : fk_M) (a1 : Int32) (a2 : Int32) : Int32 × fk_M :=
  (if a1 < 0 then (0, z0) else (if 255 < a1 then (0, z0) else (if a2 < 1 then (0, z0) else (if 100 < a2 then (0, z0) else (if ((z0.1 29) + a2) ≤ 200 then fX6_fill_38 101 z0 a1 a2 0 else (0, z0))))))
-- FloppyDeskModel.buffer(I)I
def fX6_buffer (z0 : fk_M) (a1 : Int32) : Int32 :=
  (if a1 = (-1) then z0.1 29 else (if a1 < 0 then (-1) else (if a1 < (z0.1 29) then z0.2.2.2 a1.toNatClampNeg else (-1))))
-- FloppyDeskModel.protect(Z)V
def fX6_protect (z0 : fk_M) (a1 : Int32) : fk_M :=
  (upd z0.1 1 a1, z0.2)
-- FloppyDeskModel.spoil(II)Z
def fX6_spoil (z0 : fk_M) (a1 : Int32) (a2 : Int32) : Int32 × fk_M :=
  (if a1 < 0 then (0, z0) else (if 3 < a1 then (0, z0) else (if a2 < 0 then (0, z0) else (if a2 < 2400 then (if (z0.2.1 ((2400 * a1) + a2).toNatClampNeg) = 0 then (1, (z0.1, upd z0.2.1 ((2400 * a1) + a2).toNatClampNeg 1, z0.2.2.1, z0.2.2.2)) else (1, (z0.1, upd z0.2.1 ((2400 * a1) + a2).toNatClampNeg 0, z0.2.2.1, z0.2.2.2))) else (0, z0)))))
-- FloppyDeskModel.cells(II)I
def fX6_cells_63 (kont : fk_M → Int32 → Int32 → Int32 → Int32 → Int32) (z0 : fk_M) (x1 : Int32) (x2 : Int32) (x4 : Int32) (s0 : Int32) (s1 : Int32) : Int32 :=
  kont z0 x1 x2 (s0 ||| s1) (x4 + 1)
def fX6_cells_27 : Nat → fk_M → Int32 → Int32 → Int32 → Int32 → Int32
  | 0, z0, x1, x2, x3, x4 => 0
  | n + 1, z0, x1, x2, x3, x4 =>
  (if 16 ≤ x4 then x3 else (if (z0.2.1 (((2400 * x1) + (16 * x2)) + x4).toNatClampNeg) = 0 then fX6_cells_63 (fX6_cells_27 n) z0 x1 x2 x4 (x3 <<< ((1 : Int32) &&& 31)) 0 else fX6_cells_63 (fX6_cells_27 n) z0 x1 x2 x4 (x3 <<< ((1 : Int32) &&& 31)) 1))
def fX6_cells (z0 : fk_M) (a1 : Int32) (a2 : Int32) : Int32 :=
  (if a1 < 0 then (-1) else (if 3 < a1 then (-1) else (if a2 < 0 then (-1) else (if a2 < 150 then fX6_cells_27 17 z0 a1 a2 0 0 else (-1)))))
-- FloppyDeskModel.look(I)I
def fX6_look (z0 : fk_M) (a1 : Int32) : Int32 :=
  (if a1 = 0 then z0.1 16 else if a1 = 1 then z0.1 13 else if a1 = 2 then z0.1 14 else if a1 = 3 then z0.1 15 else if a1 = 4 then z0.1 2 else if a1 = 5 then z0.1 3 else if a1 = 6 then (if (z0.1 5) = 0 then 0 else 1) else if a1 = 7 then z0.1 17 else (-1))
