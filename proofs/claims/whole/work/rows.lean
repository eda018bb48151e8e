section
-- ===== PART A: goes FIRST, ahead of the names: the tables' words, and 'selects' of the private methods out of them =====
/-- a private method of a class that the tables say can be made, by its rows of tables_1 -/
def lw_okq (q : MethodName × Nat) : Prop := (q.1.cls ≠ "java/lang/invoke/MethodHandle" ∧ q.1.cls ≠ "java/lang/invoke/VarHandle") ∧ Cond.instantiable q.1.cls q.2 ∈ tables_1 ∧ Cond.privateMethod q.1 ∈ tables_1 ∧ Cond.instanceMethod q.1 ∈ tables_1
theorem lw_p0 : lw_okq (⟨"FloppyDesk$Controller", "endWith", "(I)V"⟩, 12) := ⟨⟨by decide +kernel, by decide +kernel⟩, List.mem_of_getElem? (i := 96) (by decide +kernel), List.mem_of_getElem? (i := 225) (by decide +kernel), List.mem_of_getElem? (i := 226) (by decide +kernel)⟩
theorem lw_p1 : lw_okq (⟨"FloppyDesk$Controller", "writeOneCell", "()V"⟩, 12) := ⟨⟨by decide +kernel, by decide +kernel⟩, List.mem_of_getElem? (i := 96) (by decide +kernel), List.mem_of_getElem? (i := 274) (by decide +kernel), List.mem_of_getElem? (i := 275) (by decide +kernel)⟩
theorem lw_p2 : lw_okq (⟨"FloppyDesk$Controller", "putNextOfTrack", "()V"⟩, 12) := ⟨⟨by decide +kernel, by decide +kernel⟩, List.mem_of_getElem? (i := 96) (by decide +kernel), List.mem_of_getElem? (i := 278) (by decide +kernel), List.mem_of_getElem? (i := 279) (by decide +kernel)⟩
theorem lw_p3 : lw_okq (⟨"FloppyDesk$Writer", "putUnchecked", "(I)V"⟩, 7) := ⟨⟨by decide +kernel, by decide +kernel⟩, List.mem_of_getElem? (i := 102) (by decide +kernel), List.mem_of_getElem? (i := 286) (by decide +kernel), List.mem_of_getElem? (i := 287) (by decide +kernel)⟩
theorem lw_p4 : lw_okq (⟨"FloppyDesk$Writer", "putWord", "(I)V"⟩, 7) := ⟨⟨by decide +kernel, by decide +kernel⟩, List.mem_of_getElem? (i := 102) (by decide +kernel), List.mem_of_getElem? (i := 290) (by decide +kernel), List.mem_of_getElem? (i := 291) (by decide +kernel)⟩
theorem lw_p5 : lw_okq (⟨"FloppyDesk$Controller", "askForByte", "()I"⟩, 12) := ⟨⟨by decide +kernel, by decide +kernel⟩, List.mem_of_getElem? (i := 96) (by decide +kernel), List.mem_of_getElem? (i := 294) (by decide +kernel), List.mem_of_getElem? (i := 295) (by decide +kernel)⟩
theorem lw_p6 : lw_okq (⟨"FloppyDesk$Controller", "putNextOfSector", "()V"⟩, 12) := ⟨⟨by decide +kernel, by decide +kernel⟩, List.mem_of_getElem? (i := 96) (by decide +kernel), List.mem_of_getElem? (i := 312) (by decide +kernel), List.mem_of_getElem? (i := 313) (by decide +kernel)⟩
theorem lw_p7 : lw_okq (⟨"FloppyDesk$Controller", "readOneCell", "()V"⟩, 12) := ⟨⟨by decide +kernel, by decide +kernel⟩, List.mem_of_getElem? (i := 96) (by decide +kernel), List.mem_of_getElem? (i := 337) (by decide +kernel), List.mem_of_getElem? (i := 338) (by decide +kernel)⟩
theorem lw_p8 : lw_okq (⟨"FloppyDesk$Reader", "byteInWindow", "()I"⟩, 14) := ⟨⟨by decide +kernel, by decide +kernel⟩, List.mem_of_getElem? (i := 41) (by decide +kernel), List.mem_of_getElem? (i := 347) (by decide +kernel), List.mem_of_getElem? (i := 348) (by decide +kernel)⟩
theorem lw_p9 : lw_okq (⟨"FloppyDesk$Reader", "beginField", "()I"⟩, 14) := ⟨⟨by decide +kernel, by decide +kernel⟩, List.mem_of_getElem? (i := 41) (by decide +kernel), List.mem_of_getElem? (i := 351) (by decide +kernel), List.mem_of_getElem? (i := 352) (by decide +kernel)⟩
theorem lw_p10 : lw_okq (⟨"FloppyDesk$Reader", "addToField", "()I"⟩, 14) := ⟨⟨by decide +kernel, by decide +kernel⟩, List.mem_of_getElem? (i := 41) (by decide +kernel), List.mem_of_getElem? (i := 356) (by decide +kernel), List.mem_of_getElem? (i := 357) (by decide +kernel)⟩
theorem lw_p11 : lw_okq (⟨"FloppyDesk$Reader", "keepIdByte", "()V"⟩, 14) := ⟨⟨by decide +kernel, by decide +kernel⟩, List.mem_of_getElem? (i := 41) (by decide +kernel), List.mem_of_getElem? (i := 360) (by decide +kernel), List.mem_of_getElem? (i := 361) (by decide +kernel)⟩
theorem lw_p12 : lw_okq (⟨"FloppyDesk$Controller", "meetFieldStart", "()V"⟩, 12) := ⟨⟨by decide +kernel, by decide +kernel⟩, List.mem_of_getElem? (i := 96) (by decide +kernel), List.mem_of_getElem? (i := 368) (by decide +kernel), List.mem_of_getElem? (i := 369) (by decide +kernel)⟩
theorem lw_p13 : lw_okq (⟨"FloppyDesk$Controller", "meetFieldByte", "()V"⟩, 12) := ⟨⟨by decide +kernel, by decide +kernel⟩, List.mem_of_getElem? (i := 96) (by decide +kernel), List.mem_of_getElem? (i := 376) (by decide +kernel), List.mem_of_getElem? (i := 377) (by decide +kernel)⟩
theorem lw_p14 : lw_okq (⟨"FloppyDesk$Controller", "meetFieldEnd", "()V"⟩, 12) := ⟨⟨by decide +kernel, by decide +kernel⟩, List.mem_of_getElem? (i := 96) (by decide +kernel), List.mem_of_getElem? (i := 385) (by decide +kernel), List.mem_of_getElem? (i := 386) (by decide +kernel)⟩
theorem lw_p15 : lw_okq (⟨"FloppyDesk$Controller", "endReading", "()V"⟩, 12) := ⟨⟨by decide +kernel, by decide +kernel⟩, List.mem_of_getElem? (i := 96) (by decide +kernel), List.mem_of_getElem? (i := 389) (by decide +kernel), List.mem_of_getElem? (i := 390) (by decide +kernel)⟩
def lw_privs_1 : List (MethodName × Nat) := [(⟨"FloppyDesk$Controller", "endWith", "(I)V"⟩, 12), (⟨"FloppyDesk$Controller", "writeOneCell", "()V"⟩, 12), (⟨"FloppyDesk$Controller", "putNextOfTrack", "()V"⟩, 12), (⟨"FloppyDesk$Writer", "putUnchecked", "(I)V"⟩, 7), (⟨"FloppyDesk$Writer", "putWord", "(I)V"⟩, 7), (⟨"FloppyDesk$Controller", "askForByte", "()I"⟩, 12), (⟨"FloppyDesk$Controller", "putNextOfSector", "()V"⟩, 12), (⟨"FloppyDesk$Controller", "readOneCell", "()V"⟩, 12), (⟨"FloppyDesk$Reader", "byteInWindow", "()I"⟩, 14), (⟨"FloppyDesk$Reader", "beginField", "()I"⟩, 14), (⟨"FloppyDesk$Reader", "addToField", "()I"⟩, 14), (⟨"FloppyDesk$Reader", "keepIdByte", "()V"⟩, 14), (⟨"FloppyDesk$Controller", "meetFieldStart", "()V"⟩, 12), (⟨"FloppyDesk$Controller", "meetFieldByte", "()V"⟩, 12), (⟨"FloppyDesk$Controller", "meetFieldEnd", "()V"⟩, 12), (⟨"FloppyDesk$Controller", "endReading", "()V"⟩, 12)]
theorem lw_r1 : ∀ q ∈ lw_privs_1, lw_okq q := List.forall_mem_cons.mpr ⟨lw_p0, List.forall_mem_cons.mpr ⟨lw_p1, List.forall_mem_cons.mpr ⟨lw_p2, List.forall_mem_cons.mpr ⟨lw_p3, List.forall_mem_cons.mpr ⟨lw_p4, List.forall_mem_cons.mpr ⟨lw_p5, List.forall_mem_cons.mpr ⟨lw_p6, List.forall_mem_cons.mpr ⟨lw_p7, List.forall_mem_cons.mpr ⟨lw_p8, List.forall_mem_cons.mpr ⟨lw_p9, List.forall_mem_cons.mpr ⟨lw_p10, List.forall_mem_cons.mpr ⟨lw_p11, List.forall_mem_cons.mpr ⟨lw_p12, List.forall_mem_cons.mpr ⟨lw_p13, List.forall_mem_cons.mpr ⟨lw_p14, List.forall_mem_cons.mpr ⟨lw_p15, fun _ h => absurd h List.not_mem_nil⟩⟩⟩⟩⟩⟩⟩⟩⟩⟩⟩⟩⟩⟩⟩⟩
theorem lw_p16 : lw_okq (⟨"FloppyDesk$Controller", "compareId", "()V"⟩, 12) := ⟨⟨by decide +kernel, by decide +kernel⟩, List.mem_of_getElem? (i := 96) (by decide +kernel), List.mem_of_getElem? (i := 394) (by decide +kernel), List.mem_of_getElem? (i := 395) (by decide +kernel)⟩
theorem lw_p17 : lw_okq (⟨"FloppyDesk$Controller", "meetIndex", "()V"⟩, 12) := ⟨⟨by decide +kernel, by decide +kernel⟩, List.mem_of_getElem? (i := 96) (by decide +kernel), List.mem_of_getElem? (i := 402) (by decide +kernel), List.mem_of_getElem? (i := 403) (by decide +kernel)⟩
theorem lw_p18 : lw_okq (⟨"FloppyDesk$Controller", "startWritingIfServed", "()V"⟩, 12) := ⟨⟨by decide +kernel, by decide +kernel⟩, List.mem_of_getElem? (i := 96) (by decide +kernel), List.mem_of_getElem? (i := 406) (by decide +kernel), List.mem_of_getElem? (i := 407) (by decide +kernel)⟩
theorem lw_p19 : lw_okq (⟨"FloppyDesk$Controller", "endByteTime", "()V"⟩, 12) := ⟨⟨by decide +kernel, by decide +kernel⟩, List.mem_of_getElem? (i := 96) (by decide +kernel), List.mem_of_getElem? (i := 414) (by decide +kernel), List.mem_of_getElem? (i := 415) (by decide +kernel)⟩
theorem lw_p20 : lw_okq (⟨"FloppyDesk$Controller", "moveOneTrack", "()V"⟩, 12) := ⟨⟨by decide +kernel, by decide +kernel⟩, List.mem_of_getElem? (i := 96) (by decide +kernel), List.mem_of_getElem? (i := 418) (by decide +kernel), List.mem_of_getElem? (i := 419) (by decide +kernel)⟩
theorem lw_p21 : lw_okq (⟨"FloppyDesk", "serveOneByte", "()V"⟩, 4) := ⟨⟨by decide +kernel, by decide +kernel⟩, List.mem_of_getElem? (i := 9) (by decide +kernel), List.mem_of_getElem? (i := 430) (by decide +kernel), List.mem_of_getElem? (i := 431) (by decide +kernel)⟩
theorem lw_p22 : lw_okq (⟨"FloppyDeskModel", "has", "(I)Z"⟩, 32) := ⟨⟨by decide +kernel, by decide +kernel⟩, List.mem_of_getElem? (i := 485) (by decide +kernel), List.mem_of_getElem? (i := 593) (by decide +kernel), List.mem_of_getElem? (i := 594) (by decide +kernel)⟩
theorem lw_p23 : lw_okq (⟨"FloppyDeskModel", "reset", "()V"⟩, 32) := ⟨⟨by decide +kernel, by decide +kernel⟩, List.mem_of_getElem? (i := 485) (by decide +kernel), List.mem_of_getElem? (i := 597) (by decide +kernel), List.mem_of_getElem? (i := 598) (by decide +kernel)⟩
theorem lw_p24 : lw_okq (⟨"FloppyDeskModel", "raise", "(I)V"⟩, 32) := ⟨⟨by decide +kernel, by decide +kernel⟩, List.mem_of_getElem? (i := 485) (by decide +kernel), List.mem_of_getElem? (i := 601) (by decide +kernel), List.mem_of_getElem? (i := 602) (by decide +kernel)⟩
theorem lw_p25 : lw_okq (⟨"FloppyDeskModel", "end", "()V"⟩, 32) := ⟨⟨by decide +kernel, by decide +kernel⟩, List.mem_of_getElem? (i := 485) (by decide +kernel), List.mem_of_getElem? (i := 605) (by decide +kernel), List.mem_of_getElem? (i := 606) (by decide +kernel)⟩
theorem lw_p26 : lw_okq (⟨"FloppyDeskModel", "drop", "(I)V"⟩, 32) := ⟨⟨by decide +kernel, by decide +kernel⟩, List.mem_of_getElem? (i := 485) (by decide +kernel), List.mem_of_getElem? (i := 609) (by decide +kernel), List.mem_of_getElem? (i := 610) (by decide +kernel)⟩
theorem lw_p27 : lw_okq (⟨"FloppyDeskModel", "pass", "()I"⟩, 32) := ⟨⟨by decide +kernel, by decide +kernel⟩, List.mem_of_getElem? (i := 485) (by decide +kernel), List.mem_of_getElem? (i := 633) (by decide +kernel), List.mem_of_getElem? (i := 634) (by decide +kernel)⟩
theorem lw_p28 : lw_okq (⟨"FloppyDeskModel", "writeCell", "()V"⟩, 32) := ⟨⟨by decide +kernel, by decide +kernel⟩, List.mem_of_getElem? (i := 485) (by decide +kernel), List.mem_of_getElem? (i := 637) (by decide +kernel), List.mem_of_getElem? (i := 638) (by decide +kernel)⟩
theorem lw_p29 : lw_okq (⟨"FloppyDeskModel", "sectorByte", "()V"⟩, 32) := ⟨⟨by decide +kernel, by decide +kernel⟩, List.mem_of_getElem? (i := 485) (by decide +kernel), List.mem_of_getElem? (i := 641) (by decide +kernel), List.mem_of_getElem? (i := 642) (by decide +kernel)⟩
theorem lw_p30 : lw_okq (⟨"FloppyDeskModel", "write", "(I)V"⟩, 32) := ⟨⟨by decide +kernel, by decide +kernel⟩, List.mem_of_getElem? (i := 485) (by decide +kernel), List.mem_of_getElem? (i := 645) (by decide +kernel), List.mem_of_getElem? (i := 646) (by decide +kernel)⟩
theorem lw_p31 : lw_okq (⟨"FloppyDeskModel", "coded", "(I)I"⟩, 32) := ⟨⟨by decide +kernel, by decide +kernel⟩, List.mem_of_getElem? (i := 485) (by decide +kernel), List.mem_of_getElem? (i := 649) (by decide +kernel), List.mem_of_getElem? (i := 650) (by decide +kernel)⟩
def lw_privs_2 : List (MethodName × Nat) := [(⟨"FloppyDesk$Controller", "compareId", "()V"⟩, 12), (⟨"FloppyDesk$Controller", "meetIndex", "()V"⟩, 12), (⟨"FloppyDesk$Controller", "startWritingIfServed", "()V"⟩, 12), (⟨"FloppyDesk$Controller", "endByteTime", "()V"⟩, 12), (⟨"FloppyDesk$Controller", "moveOneTrack", "()V"⟩, 12), (⟨"FloppyDesk", "serveOneByte", "()V"⟩, 4), (⟨"FloppyDeskModel", "has", "(I)Z"⟩, 32), (⟨"FloppyDeskModel", "reset", "()V"⟩, 32), (⟨"FloppyDeskModel", "raise", "(I)V"⟩, 32), (⟨"FloppyDeskModel", "end", "()V"⟩, 32), (⟨"FloppyDeskModel", "drop", "(I)V"⟩, 32), (⟨"FloppyDeskModel", "pass", "()I"⟩, 32), (⟨"FloppyDeskModel", "writeCell", "()V"⟩, 32), (⟨"FloppyDeskModel", "sectorByte", "()V"⟩, 32), (⟨"FloppyDeskModel", "write", "(I)V"⟩, 32), (⟨"FloppyDeskModel", "coded", "(I)I"⟩, 32)]
theorem lw_r2 : ∀ q ∈ lw_privs_2, lw_okq q := List.forall_mem_cons.mpr ⟨lw_p16, List.forall_mem_cons.mpr ⟨lw_p17, List.forall_mem_cons.mpr ⟨lw_p18, List.forall_mem_cons.mpr ⟨lw_p19, List.forall_mem_cons.mpr ⟨lw_p20, List.forall_mem_cons.mpr ⟨lw_p21, List.forall_mem_cons.mpr ⟨lw_p22, List.forall_mem_cons.mpr ⟨lw_p23, List.forall_mem_cons.mpr ⟨lw_p24, List.forall_mem_cons.mpr ⟨lw_p25, List.forall_mem_cons.mpr ⟨lw_p26, List.forall_mem_cons.mpr ⟨lw_p27, List.forall_mem_cons.mpr ⟨lw_p28, List.forall_mem_cons.mpr ⟨lw_p29, List.forall_mem_cons.mpr ⟨lw_p30, List.forall_mem_cons.mpr ⟨lw_p31, fun _ h => absurd h List.not_mem_nil⟩⟩⟩⟩⟩⟩⟩⟩⟩⟩⟩⟩⟩⟩⟩⟩
theorem lw_p32 : lw_okq (⟨"FloppyDeskModel", "writeMark", "()V"⟩, 32) := ⟨⟨by decide +kernel, by decide +kernel⟩, List.mem_of_getElem? (i := 485) (by decide +kernel), List.mem_of_getElem? (i := 653) (by decide +kernel), List.mem_of_getElem? (i := 654) (by decide +kernel)⟩
theorem lw_p33 : lw_okq (⟨"FloppyDeskModel", "ask", "()I"⟩, 32) := ⟨⟨by decide +kernel, by decide +kernel⟩, List.mem_of_getElem? (i := 485) (by decide +kernel), List.mem_of_getElem? (i := 661) (by decide +kernel), List.mem_of_getElem? (i := 662) (by decide +kernel)⟩
theorem lw_p34 : lw_okq (⟨"FloppyDeskModel", "trackByte", "()V"⟩, 32) := ⟨⟨by decide +kernel, by decide +kernel⟩, List.mem_of_getElem? (i := 485) (by decide +kernel), List.mem_of_getElem? (i := 665) (by decide +kernel), List.mem_of_getElem? (i := 666) (by decide +kernel)⟩
theorem lw_p35 : lw_okq (⟨"FloppyDeskModel", "readCell", "()V"⟩, 32) := ⟨⟨by decide +kernel, by decide +kernel⟩, List.mem_of_getElem? (i := 485) (by decide +kernel), List.mem_of_getElem? (i := 669) (by decide +kernel), List.mem_of_getElem? (i := 670) (by decide +kernel)⟩
theorem lw_p36 : lw_okq (⟨"FloppyDeskModel", "comes", "(I)V"⟩, 32) := ⟨⟨by decide +kernel, by decide +kernel⟩, List.mem_of_getElem? (i := 485) (by decide +kernel), List.mem_of_getElem? (i := 673) (by decide +kernel), List.mem_of_getElem? (i := 674) (by decide +kernel)⟩
theorem lw_p37 : lw_okq (⟨"FloppyDeskModel", "begins", "(II)V"⟩, 32) := ⟨⟨by decide +kernel, by decide +kernel⟩, List.mem_of_getElem? (i := 485) (by decide +kernel), List.mem_of_getElem? (i := 677) (by decide +kernel), List.mem_of_getElem? (i := 678) (by decide +kernel)⟩
theorem lw_p38 : lw_okq (⟨"FloppyDeskModel", "receive", "(I)V"⟩, 32) := ⟨⟨by decide +kernel, by decide +kernel⟩, List.mem_of_getElem? (i := 485) (by decide +kernel), List.mem_of_getElem? (i := 681) (by decide +kernel), List.mem_of_getElem? (i := 682) (by decide +kernel)⟩
theorem lw_p39 : lw_okq (⟨"FloppyDeskModel", "isRight", "()Z"⟩, 32) := ⟨⟨by decide +kernel, by decide +kernel⟩, List.mem_of_getElem? (i := 485) (by decide +kernel), List.mem_of_getElem? (i := 685) (by decide +kernel), List.mem_of_getElem? (i := 686) (by decide +kernel)⟩
theorem lw_p40 : lw_okq (⟨"FloppyDeskModel", "idOver", "(Z)V"⟩, 32) := ⟨⟨by decide +kernel, by decide +kernel⟩, List.mem_of_getElem? (i := 485) (by decide +kernel), List.mem_of_getElem? (i := 689) (by decide +kernel), List.mem_of_getElem? (i := 690) (by decide +kernel)⟩
theorem lw_p41 : lw_okq (⟨"FloppyDeskModel", "dataOver", "(Z)V"⟩, 32) := ⟨⟨by decide +kernel, by decide +kernel⟩, List.mem_of_getElem? (i := 485) (by decide +kernel), List.mem_of_getElem? (i := 693) (by decide +kernel), List.mem_of_getElem? (i := 694) (by decide +kernel)⟩
theorem lw_p42 : lw_okq (⟨"FloppyDeskModel", "index", "()V"⟩, 32) := ⟨⟨by decide +kernel, by decide +kernel⟩, List.mem_of_getElem? (i := 485) (by decide +kernel), List.mem_of_getElem? (i := 697) (by decide +kernel), List.mem_of_getElem? (i := 698) (by decide +kernel)⟩
theorem lw_p43 : lw_okq (⟨"FloppyDeskModel", "startWriting", "(I)V"⟩, 32) := ⟨⟨by decide +kernel, by decide +kernel⟩, List.mem_of_getElem? (i := 485) (by decide +kernel), List.mem_of_getElem? (i := 701) (by decide +kernel), List.mem_of_getElem? (i := 702) (by decide +kernel)⟩
theorem lw_p44 : lw_okq (⟨"FloppyDeskModel", "later", "()V"⟩, 32) := ⟨⟨by decide +kernel, by decide +kernel⟩, List.mem_of_getElem? (i := 485) (by decide +kernel), List.mem_of_getElem? (i := 705) (by decide +kernel), List.mem_of_getElem? (i := 706) (by decide +kernel)⟩
theorem lw_p45 : lw_okq (⟨"FloppyDeskModel", "stepHead", "()V"⟩, 32) := ⟨⟨by decide +kernel, by decide +kernel⟩, List.mem_of_getElem? (i := 485) (by decide +kernel), List.mem_of_getElem? (i := 709) (by decide +kernel), List.mem_of_getElem? (i := 710) (by decide +kernel)⟩
def lw_privs_3 : List (MethodName × Nat) := [(⟨"FloppyDeskModel", "writeMark", "()V"⟩, 32), (⟨"FloppyDeskModel", "ask", "()I"⟩, 32), (⟨"FloppyDeskModel", "trackByte", "()V"⟩, 32), (⟨"FloppyDeskModel", "readCell", "()V"⟩, 32), (⟨"FloppyDeskModel", "comes", "(I)V"⟩, 32), (⟨"FloppyDeskModel", "begins", "(II)V"⟩, 32), (⟨"FloppyDeskModel", "receive", "(I)V"⟩, 32), (⟨"FloppyDeskModel", "isRight", "()Z"⟩, 32), (⟨"FloppyDeskModel", "idOver", "(Z)V"⟩, 32), (⟨"FloppyDeskModel", "dataOver", "(Z)V"⟩, 32), (⟨"FloppyDeskModel", "index", "()V"⟩, 32), (⟨"FloppyDeskModel", "startWriting", "(I)V"⟩, 32), (⟨"FloppyDeskModel", "later", "()V"⟩, 32), (⟨"FloppyDeskModel", "stepHead", "()V"⟩, 32)]
theorem lw_r3 : ∀ q ∈ lw_privs_3, lw_okq q := List.forall_mem_cons.mpr ⟨lw_p32, List.forall_mem_cons.mpr ⟨lw_p33, List.forall_mem_cons.mpr ⟨lw_p34, List.forall_mem_cons.mpr ⟨lw_p35, List.forall_mem_cons.mpr ⟨lw_p36, List.forall_mem_cons.mpr ⟨lw_p37, List.forall_mem_cons.mpr ⟨lw_p38, List.forall_mem_cons.mpr ⟨lw_p39, List.forall_mem_cons.mpr ⟨lw_p40, List.forall_mem_cons.mpr ⟨lw_p41, List.forall_mem_cons.mpr ⟨lw_p42, List.forall_mem_cons.mpr ⟨lw_p43, List.forall_mem_cons.mpr ⟨lw_p44, List.forall_mem_cons.mpr ⟨lw_p45, fun _ h => absurd h List.not_mem_nil⟩⟩⟩⟩⟩⟩⟩⟩⟩⟩⟩⟩⟩⟩
def lw_privs : List (MethodName × Nat) := lw_privs_1 ++ (lw_privs_2 ++ (lw_privs_3))
def lw_tbl : List Cond := k2_sels lw_privs ++ tables_1
theorem lw_privs_ok : ∀ q ∈ lw_privs, lw_okq q := by
  show ∀ q ∈ lw_privs_1 ++ (lw_privs_2 ++ (lw_privs_3)), lw_okq q
  exact List.forall_mem_append.mpr ⟨lw_r1, List.forall_mem_append.mpr ⟨lw_r2, lw_r3⟩⟩
end
section
/-! ===== BEGIN words of one list among another's, by their places ===== -/
theorem goodIn_r {big : List Cond} (ws : List Cond) (ps : List Nat) (hp : ws = ps.filterMap (fun i => big[i]?)) (h : ws.all goodWord = true) : GoodIn big ws := by
  intro w hw
  have h1 := List.all_eq_true.mp h w hw
  rw [hp] at hw
  obtain ⟨i, -, hi⟩ := List.mem_filterMap.mp hw
  have hm : w ∈ big := by first | exact List.mem_of_getElem? hi | exact List.getElem?_mem hi
  exact ⟨hm, good_of_word h1⟩
theorem goodIn_app {big a b : List Cond} (ha : GoodIn big a) (hb : GoodIn big b) : GoodIn big (a ++ b) := fun w h => (List.mem_append.mp h).elim (ha w) (hb w)
theorem goodIn_ca {big a b : List Cond} {c : Cond} (ha : GoodIn big (c :: a)) (hb : GoodIn big b) : GoodIn big (c :: (a ++ b)) := fun w h => (List.mem_cons.mp h).elim (fun e => ha w (List.mem_cons.mpr (Or.inl e))) (fun h => (List.mem_append.mp h).elim (fun h => ha w (List.mem_cons.mpr (Or.inr h))) (hb w))
theorem goodIn_sub {big ws : List Cond} (hm : ∀ w ∈ ws, w ∈ big) (h : ws.all goodWord = true) : GoodIn big ws := fun w hw => ⟨hm w hw, good_of_word (List.all_eq_true.mp h w hw)⟩
/-! ===== END ===== -/

/-! ===== BEGIN printed: names, fields, word lists, decode rows ===== -/
def RX0 : String := "FloppyDesk$Controller"
def TX0 : u_T := fun k => match k with
  | 0 => ("FloppyDesk$Controller", "disk", "LFloppyDesk$Disk;", true)
  | 1 => ("FloppyDesk$Controller", "reader", "LFloppyDesk$Reader;", true)
  | 2 => ("FloppyDesk$Controller", "writer", "LFloppyDesk$Writer;", true)
  | 3 => ("FloppyDesk$Controller", "status", "I", false)
  | 4 => ("FloppyDesk$Controller", "track", "I", false)
  | 5 => ("FloppyDesk$Controller", "sector", "I", false)
  | 6 => ("FloppyDesk$Controller", "data", "I", false)
  | 7 => ("FloppyDesk$Controller", "latest", "I", false)
  | 8 => ("FloppyDesk$Controller", "writesDeleted", "Z", false)
  | 9 => ("FloppyDesk$Controller", "phase", "I", false)
  | 10 => ("FloppyDesk$Controller", "byteTimes", "I", false)
  | _ => ("FloppyDesk$Controller", "indexes", "I", false)
def tyX0 : Nat → FieldType := fun k => match k with
  | 0 => .object "FloppyDesk$Disk"
  | 1 => .object "FloppyDesk$Reader"
  | 2 => .object "FloppyDesk$Writer"
  | 3 => .int
  | 4 => .int
  | 5 => .int
  | 6 => .int
  | 7 => .int
  | 8 => .boolean
  | 9 => .int
  | 10 => .int
  | _ => .int
abbrev wsX00 : List Cond := u_ws RX0 TX0 12
theorem nmX0 : ∀ a, a < 12 → ∀ b, b < 12 → a ≠ b → (TX0 a).2.1 ≠ (TX0 b).2.1 := by decide +kernel
theorem tyX0_ok : ∀ k, k < 12 → parseFieldDescriptor (TX0 k).2.2.1 = some (tyX0 k) := by decide +kernel
abbrev cX0_init : ByteArray := prog_2_method_1_code
def yX0_init : MethodName := ⟨RX0, "<init>", "(LFloppyDesk$Disk;LFloppyDesk$Reader;)V"⟩
abbrev cX0_has : ByteArray := prog_2_method_2_code
def yX0_has : MethodName := ⟨RX0, "has", "(I)Z"⟩
abbrev cX0_acceptData : ByteArray := prog_2_method_3_code
def yX0_acceptData : MethodName := ⟨RX0, "acceptData", "(I)V"⟩
abbrev cX0_handOutData : ByteArray := prog_2_method_4_code
def yX0_handOutData : MethodName := ⟨RX0, "handOutData", "()I"⟩
abbrev cX0_begin : ByteArray := prog_2_method_5_code
def yX0_begin : MethodName := ⟨RX0, "begin", "(IZ)Z"⟩
abbrev cX0_end : ByteArray := prog_2_method_6_code
def yX0_end : MethodName := ⟨RX0, "end", "()V"⟩
abbrev cX0_endWith : ByteArray := prog_2_method_7_code
def yX0_endWith : MethodName := ⟨RX0, "endWith", "(I)V"⟩
abbrev cX0_passByteTime : ByteArray := prog_2_method_8_code
def yX0_passByteTime : MethodName := ⟨RX0, "passByteTime", "()Z"⟩
abbrev cX0_meetIndex : ByteArray := prog_2_method_9_code
def yX0_meetIndex : MethodName := ⟨RX0, "meetIndex", "()V"⟩
abbrev cX0_endByteTime : ByteArray := prog_2_method_10_code
def yX0_endByteTime : MethodName := ⟨RX0, "endByteTime", "()V"⟩
abbrev cX0_moveOneTrack : ByteArray := prog_2_method_11_code
def yX0_moveOneTrack : MethodName := ⟨RX0, "moveOneTrack", "()V"⟩
abbrev cX0_startWritingIfServed : ByteArray := prog_2_method_12_code
def yX0_startWritingIfServed : MethodName := ⟨RX0, "startWritingIfServed", "()V"⟩
abbrev cX0_readOneCell : ByteArray := prog_2_method_13_code
def yX0_readOneCell : MethodName := ⟨RX0, "readOneCell", "()V"⟩
abbrev cX0_meetFieldStart : ByteArray := prog_2_method_14_code
def yX0_meetFieldStart : MethodName := ⟨RX0, "meetFieldStart", "()V"⟩
abbrev cX0_meetFieldByte : ByteArray := prog_2_method_15_code
def yX0_meetFieldByte : MethodName := ⟨RX0, "meetFieldByte", "()V"⟩
abbrev cX0_meetFieldEnd : ByteArray := prog_2_method_16_code
def yX0_meetFieldEnd : MethodName := ⟨RX0, "meetFieldEnd", "()V"⟩
abbrev cX0_endReading : ByteArray := prog_2_method_17_code
def yX0_endReading : MethodName := ⟨RX0, "endReading", "()V"⟩
abbrev cX0_compareId : ByteArray := prog_2_method_18_code
def yX0_compareId : MethodName := ⟨RX0, "compareId", "()V"⟩
abbrev cX0_writeOneCell : ByteArray := prog_2_method_19_code
def yX0_writeOneCell : MethodName := ⟨RX0, "writeOneCell", "()V"⟩
abbrev cX0_putNextOfTrack : ByteArray := prog_2_method_20_code
def yX0_putNextOfTrack : MethodName := ⟨RX0, "putNextOfTrack", "()V"⟩
abbrev cX0_putNextOfSector : ByteArray := prog_2_method_21_code
def yX0_putNextOfSector : MethodName := ⟨RX0, "putNextOfSector", "()V"⟩
abbrev cX0_askForByte : ByteArray := prog_2_method_22_code
def yX0_askForByte : MethodName := ⟨RX0, "askForByte", "()I"⟩
def RX1 : String := "FloppyDesk$Disk"
def TX1 : u_T := fun k => match k with
  | 0 => ("FloppyDesk$Disk", "words", "[I", true)
  | 1 => ("FloppyDesk$Disk", "isProtected", "Z", false)
  | 2 => ("FloppyDesk$Disk", "headTrack", "I", false)
  | _ => ("FloppyDesk$Disk", "place", "I", false)
def tyX1 : Nat → FieldType := fun k => match k with
  | 0 => .array .int
  | 1 => .boolean
  | 2 => .int
  | _ => .int
abbrev wsX10 : List Cond := u_ws RX1 TX1 4
theorem nmX1 : ∀ a, a < 4 → ∀ b, b < 4 → a ≠ b → (TX1 a).2.1 ≠ (TX1 b).2.1 := by decide +kernel
theorem tyX1_ok : ∀ k, k < 4 → parseFieldDescriptor (TX1 k).2.2.1 = some (tyX1 k) := by decide +kernel
abbrev cX1_init : ByteArray := prog_3_method_1_code
def yX1_init : MethodName := ⟨RX1, "<init>", "()V"⟩
abbrev cX1_wordAt : ByteArray := prog_3_method_2_code
def yX1_wordAt : MethodName := ⟨RX1, "wordAt", "(II)I"⟩
abbrev cX1_turnOver : ByteArray := prog_3_method_3_code
def yX1_turnOver : MethodName := ⟨RX1, "turnOver", "(II)Z"⟩
abbrev cX1_cellUnderHead : ByteArray := prog_3_method_4_code
def yX1_cellUnderHead : MethodName := ⟨RX1, "cellUnderHead", "()I"⟩
abbrev cX1_writeUnderHead : ByteArray := prog_3_method_5_code
def yX1_writeUnderHead : MethodName := ⟨RX1, "writeUnderHead", "(I)V"⟩
abbrev cX1_turnByOneCell : ByteArray := prog_3_method_6_code
def yX1_turnByOneCell : MethodName := ⟨RX1, "turnByOneCell", "()Z"⟩
abbrev cX1_moveHead : ByteArray := prog_3_method_7_code
def yX1_moveHead : MethodName := ⟨RX1, "moveHead", "(I)V"⟩
def RX2 : String := "FloppyDesk$Reader"
def TX2 : u_T := fun k => match k with
  | 0 => ("FloppyDesk$Reader", "window", "I", false)
  | 1 => ("FloppyDesk$Reader", "inStep", "Z", false)
  | 2 => ("FloppyDesk$Reader", "marks", "I", false)
  | 3 => ("FloppyDesk$Reader", "cellsSince", "I", false)
  | 4 => ("FloppyDesk$Reader", "field", "I", false)
  | 5 => ("FloppyDesk$Reader", "fieldStart", "I", false)
  | 6 => ("FloppyDesk$Reader", "fieldBytes", "I", false)
  | 7 => ("FloppyDesk$Reader", "fieldCheck", "I", false)
  | 8 => ("FloppyDesk$Reader", "latestField", "I", false)
  | 9 => ("FloppyDesk$Reader", "latestByte", "I", false)
  | 10 => ("FloppyDesk$Reader", "idTrack", "I", false)
  | 11 => ("FloppyDesk$Reader", "idSector", "I", false)
  | 12 => ("FloppyDesk$Reader", "idLength", "I", false)
  | _ => ("FloppyDesk$Reader", "dataSize", "I", false)
def tyX2 : Nat → FieldType := fun k => match k with
  | 0 => .int
  | 1 => .boolean
  | 2 => .int
  | 3 => .int
  | 4 => .int
  | 5 => .int
  | 6 => .int
  | 7 => .int
  | 8 => .int
  | 9 => .int
  | 10 => .int
  | 11 => .int
  | 12 => .int
  | _ => .int
abbrev wsX20 : List Cond := u_ws RX2 TX2 14
theorem nmX2 : ∀ a, a < 14 → ∀ b, b < 14 → a ≠ b → (TX2 a).2.1 ≠ (TX2 b).2.1 := by decide +kernel
theorem tyX2_ok : ∀ k, k < 14 → parseFieldDescriptor (TX2 k).2.2.1 = some (tyX2 k) := by decide +kernel
abbrev cX2_init : ByteArray := prog_4_method_1_code
def yX2_init : MethodName := ⟨RX2, "<init>", "()V"⟩
abbrev cX2_reset : ByteArray := prog_4_method_2_code
def yX2_reset : MethodName := ⟨RX2, "reset", "()V"⟩
abbrev cX2_forgetDataSize : ByteArray := prog_4_method_3_code
def yX2_forgetDataSize : MethodName := ⟨RX2, "forgetDataSize", "()V"⟩
abbrev cX2_forgetWindow : ByteArray := prog_4_method_4_code
def yX2_forgetWindow : MethodName := ⟨RX2, "forgetWindow", "()V"⟩
abbrev cX2_readCell : ByteArray := prog_4_method_5_code
def yX2_readCell : MethodName := ⟨RX2, "readCell", "(I)I"⟩
abbrev cX2_byteInWindow : ByteArray := prog_4_method_6_code
def yX2_byteInWindow : MethodName := ⟨RX2, "byteInWindow", "()I"⟩
abbrev cX2_beginField : ByteArray := prog_4_method_7_code
def yX2_beginField : MethodName := ⟨RX2, "beginField", "()I"⟩
abbrev cX2_addToField : ByteArray := prog_4_method_8_code
def yX2_addToField : MethodName := ⟨RX2, "addToField", "()I"⟩
abbrev cX2_keepIdByte : ByteArray := prog_4_method_9_code
def yX2_keepIdByte : MethodName := ⟨RX2, "keepIdByte", "()V"⟩
abbrev cX2_isCheckRight : ByteArray := prog_4_method_10_code
def yX2_isCheckRight : MethodName := ⟨RX2, "isCheckRight", "()Z"⟩
abbrev cX2_isLatestFieldId : ByteArray := prog_4_method_11_code
def yX2_isLatestFieldId : MethodName := ⟨RX2, "isLatestFieldId", "()Z"⟩
abbrev cX2_isLatestByteOfCheck : ByteArray := prog_4_method_12_code
def yX2_isLatestByteOfCheck : MethodName := ⟨RX2, "isLatestByteOfCheck", "()Z"⟩
def RX3 : String := "FloppyDesk$Store"
def TX3 : u_T := fun k => match k with
  | 0 => ("FloppyDesk$Store", "bytes", "[I", true)
  | 1 => ("FloppyDesk$Store", "size", "I", false)
  | _ => ("FloppyDesk$Store", "next", "I", false)
def tyX3 : Nat → FieldType := fun k => match k with
  | 0 => .array .int
  | 1 => .int
  | _ => .int
abbrev wsX30 : List Cond := u_ws RX3 TX3 3
theorem nmX3 : ∀ a, a < 3 → ∀ b, b < 3 → a ≠ b → (TX3 a).2.1 ≠ (TX3 b).2.1 := by decide +kernel
theorem tyX3_ok : ∀ k, k < 3 → parseFieldDescriptor (TX3 k).2.2.1 = some (tyX3 k) := by decide +kernel
abbrev cX3_init : ByteArray := prog_5_method_1_code
def yX3_init : MethodName := ⟨RX3, "<init>", "()V"⟩
abbrev cX3_makeEmpty : ByteArray := prog_5_method_2_code
def yX3_makeEmpty : MethodName := ⟨RX3, "makeEmpty", "()V"⟩
abbrev cX3_hasRoomFor : ByteArray := prog_5_method_3_code
def yX3_hasRoomFor : MethodName := ⟨RX3, "hasRoomFor", "(I)Z"⟩
abbrev cX3_append : ByteArray := prog_5_method_4_code
def yX3_append : MethodName := ⟨RX3, "append", "(I)V"⟩
abbrev cX3_byteAt : ByteArray := prog_5_method_5_code
def yX3_byteAt : MethodName := ⟨RX3, "byteAt", "(I)I"⟩
abbrev cX3_nextByte : ByteArray := prog_5_method_6_code
def yX3_nextByte : MethodName := ⟨RX3, "nextByte", "()I"⟩
def RX4 : String := "FloppyDesk$Writer"
def TX4 : u_T := fun k => match k with
  | 0 => ("FloppyDesk$Writer", "word", "I", false)
  | 1 => ("FloppyDesk$Writer", "cellsLeft", "I", false)
  | 2 => ("FloppyDesk$Writer", "lastBit", "I", false)
  | 3 => ("FloppyDesk$Writer", "check", "I", false)
  | 4 => ("FloppyDesk$Writer", "count", "I", false)
  | 5 => ("FloppyDesk$Writer", "isBehindMark", "Z", false)
  | _ => ("FloppyDesk$Writer", "isLowCheckDue", "Z", false)
def tyX4 : Nat → FieldType := fun k => match k with
  | 0 => .int
  | 1 => .int
  | 2 => .int
  | 3 => .int
  | 4 => .int
  | 5 => .boolean
  | _ => .boolean
abbrev wsX40 : List Cond := u_ws RX4 TX4 7
theorem nmX4 : ∀ a, a < 7 → ∀ b, b < 7 → a ≠ b → (TX4 a).2.1 ≠ (TX4 b).2.1 := by decide +kernel
theorem tyX4_ok : ∀ k, k < 7 → parseFieldDescriptor (TX4 k).2.2.1 = some (tyX4 k) := by decide +kernel
abbrev cX4_init : ByteArray := prog_6_method_1_code
def yX4_init : MethodName := ⟨RX4, "<init>", "()V"⟩
abbrev cX4_start : ByteArray := prog_6_method_2_code
def yX4_start : MethodName := ⟨RX4, "start", "()V"⟩
abbrev cX4_putMark : ByteArray := prog_6_method_3_code
def yX4_putMark : MethodName := ⟨RX4, "putMark", "()V"⟩
abbrev cX4_putByte : ByteArray := prog_6_method_4_code
def yX4_putByte : MethodName := ⟨RX4, "putByte", "(I)V"⟩
abbrev cX4_putHalfOfCheck : ByteArray := prog_6_method_5_code
def yX4_putHalfOfCheck : MethodName := ⟨RX4, "putHalfOfCheck", "()V"⟩
abbrev cX4_nextCell : ByteArray := prog_6_method_6_code
def yX4_nextCell : MethodName := ⟨RX4, "nextCell", "()I"⟩
abbrev cX4_putUnchecked : ByteArray := prog_6_method_7_code
def yX4_putUnchecked : MethodName := ⟨RX4, "putUnchecked", "(I)V"⟩
abbrev cX4_putWord : ByteArray := prog_6_method_8_code
def yX4_putWord : MethodName := ⟨RX4, "putWord", "(I)V"⟩
def RX5 : String := "FloppyDesk"
def TX5 : u_T := fun k => match k with
  | 0 => ("FloppyDesk", "disk", "LFloppyDesk$Disk;", true)
  | 1 => ("FloppyDesk", "reader", "LFloppyDesk$Reader;", true)
  | 2 => ("FloppyDesk", "controller", "LFloppyDesk$Controller;", true)
  | _ => ("FloppyDesk", "store", "LFloppyDesk$Store;", true)
def tyX5 : Nat → FieldType := fun k => match k with
  | 0 => .object "FloppyDesk$Disk"
  | 1 => .object "FloppyDesk$Reader"
  | 2 => .object "FloppyDesk$Controller"
  | _ => .object "FloppyDesk$Store"
abbrev wsX50 : List Cond := u_ws RX5 TX5 4
theorem nmX5 : ∀ a, a < 4 → ∀ b, b < 4 → a ≠ b → (TX5 a).2.1 ≠ (TX5 b).2.1 := by decide +kernel
theorem tyX5_ok : ∀ k, k < 4 → parseFieldDescriptor (TX5 k).2.2.1 = some (tyX5 k) := by decide +kernel
abbrev cX5_init : ByteArray := prog_1_method_1_code
def yX5_init : MethodName := ⟨RX5, "<init>", "()V"⟩
abbrev cX5_command : ByteArray := prog_1_method_2_code
def yX5_command : MethodName := ⟨RX5, "command", "(IZ)Z"⟩
abbrev cX5_force : ByteArray := prog_1_method_3_code
def yX5_force : MethodName := ⟨RX5, "force", "()Z"⟩
abbrev cX5_set : ByteArray := prog_1_method_4_code
def yX5_set : MethodName := ⟨RX5, "set", "(II)Z"⟩
abbrev cX5_give : ByteArray := prog_1_method_5_code
def yX5_give : MethodName := ⟨RX5, "give", "(I)Z"⟩
abbrev cX5_take : ByteArray := prog_1_method_6_code
def yX5_take : MethodName := ⟨RX5, "take", "()I"⟩
abbrev cX5_run : ByteArray := prog_1_method_7_code
def yX5_run : MethodName := ⟨RX5, "run", "(I)I"⟩
abbrev cX5_serve : ByteArray := prog_1_method_8_code
def yX5_serve : MethodName := ⟨RX5, "serve", "(I)I"⟩
abbrev cX5_serveOneByte : ByteArray := prog_1_method_9_code
def yX5_serveOneByte : MethodName := ⟨RX5, "serveOneByte", "()V"⟩
abbrev cX5_clear : ByteArray := prog_1_method_10_code
def yX5_clear : MethodName := ⟨RX5, "clear", "()V"⟩
abbrev cX5_fill : ByteArray := prog_1_method_11_code
def yX5_fill : MethodName := ⟨RX5, "fill", "(II)Z"⟩
abbrev cX5_buffer : ByteArray := prog_1_method_12_code
def yX5_buffer : MethodName := ⟨RX5, "buffer", "(I)I"⟩
abbrev cX5_protect : ByteArray := prog_1_method_13_code
def yX5_protect : MethodName := ⟨RX5, "protect", "(Z)V"⟩
abbrev cX5_spoil : ByteArray := prog_1_method_14_code
def yX5_spoil : MethodName := ⟨RX5, "spoil", "(II)Z"⟩
abbrev cX5_cells : ByteArray := prog_1_method_15_code
def yX5_cells : MethodName := ⟨RX5, "cells", "(II)I"⟩
abbrev cX5_look : ByteArray := prog_1_method_16_code
def yX5_look : MethodName := ⟨RX5, "look", "(I)I"⟩
abbrev cX5_isByte : ByteArray := prog_1_method_17_code
def yX5_isByte : MethodName := ⟨RX5, "isByte", "(I)Z"⟩
abbrev cX5_checkWith : ByteArray := prog_1_method_18_code
def yX5_checkWith : MethodName := ⟨RX5, "checkWith", "(II)I"⟩
def RX6 : String := "FloppyDeskModel"
def TX6 : u_T := fun k => match k with
  | 0 => ("FloppyDeskModel", "cell", "[Z", false)
  | 1 => ("FloppyDeskModel", "shut", "Z", false)
  | 2 => ("FloppyDeskModel", "head", "I", false)
  | 3 => ("FloppyDeskModel", "place", "I", false)
  | 4 => ("FloppyDeskModel", "window", "I", false)
  | 5 => ("FloppyDeskModel", "inStep", "Z", false)
  | 6 => ("FloppyDeskModel", "marks", "I", false)
  | 7 => ("FloppyDeskModel", "since", "I", false)
  | 8 => ("FloppyDeskModel", "field", "I", false)
  | 9 => ("FloppyDeskModel", "began", "I", false)
  | 10 => ("FloppyDeskModel", "got", "I", false)
  | 11 => ("FloppyDeskModel", "bytes", "[I", false)
  | 12 => ("FloppyDeskModel", "dataSize", "I", false)
  | 13 => ("FloppyDeskModel", "track", "I", false)
  | 14 => ("FloppyDeskModel", "sector", "I", false)
  | 15 => ("FloppyDeskModel", "data", "I", false)
  | 16 => ("FloppyDeskModel", "status", "I", false)
  | 17 => ("FloppyDeskModel", "latest", "I", false)
  | 18 => ("FloppyDeskModel", "removes", "Z", false)
  | 19 => ("FloppyDeskModel", "phase", "I", false)
  | 20 => ("FloppyDeskModel", "count", "I", false)
  | 21 => ("FloppyDeskModel", "indexes", "I", false)
  | 22 => ("FloppyDeskModel", "pattern", "I", false)
  | 23 => ("FloppyDeskModel", "written", "I", false)
  | 24 => ("FloppyDeskModel", "which", "I", false)
  | 25 => ("FloppyDeskModel", "lastBit", "I", false)
  | 26 => ("FloppyDeskModel", "sum", "I", false)
  | 27 => ("FloppyDeskModel", "lastMark", "Z", false)
  | 28 => ("FloppyDeskModel", "second", "I", false)
  | 29 => ("FloppyDeskModel", "buffered", "I", false)
  | 30 => ("FloppyDeskModel", "next", "I", false)
  | _ => ("FloppyDeskModel", "buffer", "[I", false)
def tyX6 : Nat → FieldType := fun k => match k with
  | 0 => .array .boolean
  | 1 => .boolean
  | 2 => .int
  | 3 => .int
  | 4 => .int
  | 5 => .boolean
  | 6 => .int
  | 7 => .int
  | 8 => .int
  | 9 => .int
  | 10 => .int
  | 11 => .array .int
  | 12 => .int
  | 13 => .int
  | 14 => .int
  | 15 => .int
  | 16 => .int
  | 17 => .int
  | 18 => .boolean
  | 19 => .int
  | 20 => .int
  | 21 => .int
  | 22 => .int
  | 23 => .int
  | 24 => .int
  | 25 => .int
  | 26 => .int
  | 27 => .boolean
  | 28 => .int
  | 29 => .int
  | 30 => .int
  | _ => .array .int
abbrev wsX60 : List Cond := u_ws RX6 TX6 32
theorem nmX6 : ∀ a, a < 32 → ∀ b, b < 32 → a ≠ b → (TX6 a).2.1 ≠ (TX6 b).2.1 := by decide +kernel
theorem tyX6_ok : ∀ k, k < 32 → parseFieldDescriptor (TX6 k).2.2.1 = some (tyX6 k) := by decide +kernel
abbrev cX6_init : ByteArray := prog_8_method_1_code
def yX6_init : MethodName := ⟨RX6, "<init>", "()V"⟩
abbrev cX6_step : ByteArray := prog_8_method_2_code
def yX6_step : MethodName := ⟨RX6, "step", "(II)I"⟩
abbrev cX6_isRight : ByteArray := prog_8_method_3_code
def yX6_isRight : MethodName := ⟨RX6, "isRight", "()Z"⟩
abbrev cX6_raise : ByteArray := prog_8_method_4_code
def yX6_raise : MethodName := ⟨RX6, "raise", "(I)V"⟩
abbrev cX6_drop : ByteArray := prog_8_method_5_code
def yX6_drop : MethodName := ⟨RX6, "drop", "(I)V"⟩
abbrev cX6_has : ByteArray := prog_8_method_6_code
def yX6_has : MethodName := ⟨RX6, "has", "(I)Z"⟩
abbrev cX6_reset : ByteArray := prog_8_method_7_code
def yX6_reset : MethodName := ⟨RX6, "reset", "()V"⟩
abbrev cX6_end : ByteArray := prog_8_method_8_code
def yX6_end : MethodName := ⟨RX6, "end", "()V"⟩
abbrev cX6_receive : ByteArray := prog_8_method_9_code
def yX6_receive : MethodName := ⟨RX6, "receive", "(I)V"⟩
abbrev cX6_ask : ByteArray := prog_8_method_10_code
def yX6_ask : MethodName := ⟨RX6, "ask", "()I"⟩
abbrev cX6_begins : ByteArray := prog_8_method_11_code
def yX6_begins : MethodName := ⟨RX6, "begins", "(II)V"⟩
abbrev cX6_idOver : ByteArray := prog_8_method_12_code
def yX6_idOver : MethodName := ⟨RX6, "idOver", "(Z)V"⟩
abbrev cX6_dataOver : ByteArray := prog_8_method_13_code
def yX6_dataOver : MethodName := ⟨RX6, "dataOver", "(Z)V"⟩
abbrev cX6_comes : ByteArray := prog_8_method_14_code
def yX6_comes : MethodName := ⟨RX6, "comes", "(I)V"⟩
abbrev cX6_readCell : ByteArray := prog_8_method_15_code
def yX6_readCell : MethodName := ⟨RX6, "readCell", "()V"⟩
abbrev cX6_startWriting : ByteArray := prog_8_method_16_code
def yX6_startWriting : MethodName := ⟨RX6, "startWriting", "(I)V"⟩
abbrev cX6_coded : ByteArray := prog_8_method_17_code
def yX6_coded : MethodName := ⟨RX6, "coded", "(I)I"⟩
abbrev cX6_write : ByteArray := prog_8_method_18_code
def yX6_write : MethodName := ⟨RX6, "write", "(I)V"⟩
abbrev cX6_writeMark : ByteArray := prog_8_method_19_code
def yX6_writeMark : MethodName := ⟨RX6, "writeMark", "()V"⟩
abbrev cX6_sectorByte : ByteArray := prog_8_method_20_code
def yX6_sectorByte : MethodName := ⟨RX6, "sectorByte", "()V"⟩
abbrev cX6_trackByte : ByteArray := prog_8_method_21_code
def yX6_trackByte : MethodName := ⟨RX6, "trackByte", "()V"⟩
abbrev cX6_writeCell : ByteArray := prog_8_method_22_code
def yX6_writeCell : MethodName := ⟨RX6, "writeCell", "()V"⟩
abbrev cX6_index : ByteArray := prog_8_method_23_code
def yX6_index : MethodName := ⟨RX6, "index", "()V"⟩
abbrev cX6_stepHead : ByteArray := prog_8_method_24_code
def yX6_stepHead : MethodName := ⟨RX6, "stepHead", "()V"⟩
abbrev cX6_later : ByteArray := prog_8_method_25_code
def yX6_later : MethodName := ⟨RX6, "later", "()V"⟩
abbrev cX6_pass : ByteArray := prog_8_method_26_code
def yX6_pass : MethodName := ⟨RX6, "pass", "()I"⟩
abbrev cX6_command : ByteArray := prog_8_method_27_code
def yX6_command : MethodName := ⟨RX6, "command", "(IZ)Z"⟩
abbrev cX6_force : ByteArray := prog_8_method_28_code
def yX6_force : MethodName := ⟨RX6, "force", "()Z"⟩
abbrev cX6_set : ByteArray := prog_8_method_29_code
def yX6_set : MethodName := ⟨RX6, "set", "(II)Z"⟩
abbrev cX6_give : ByteArray := prog_8_method_30_code
def yX6_give : MethodName := ⟨RX6, "give", "(I)Z"⟩
abbrev cX6_take : ByteArray := prog_8_method_31_code
def yX6_take : MethodName := ⟨RX6, "take", "()I"⟩
abbrev cX6_run : ByteArray := prog_8_method_32_code
def yX6_run : MethodName := ⟨RX6, "run", "(I)I"⟩
abbrev cX6_serve : ByteArray := prog_8_method_33_code
def yX6_serve : MethodName := ⟨RX6, "serve", "(I)I"⟩
abbrev cX6_clear : ByteArray := prog_8_method_34_code
def yX6_clear : MethodName := ⟨RX6, "clear", "()V"⟩
abbrev cX6_fill : ByteArray := prog_8_method_35_code
def yX6_fill : MethodName := ⟨RX6, "fill", "(II)Z"⟩
abbrev cX6_buffer : ByteArray := prog_8_method_36_code
def yX6_buffer : MethodName := ⟨RX6, "buffer", "(I)I"⟩
abbrev cX6_protect : ByteArray := prog_8_method_37_code
def yX6_protect : MethodName := ⟨RX6, "protect", "(Z)V"⟩
abbrev cX6_spoil : ByteArray := prog_8_method_38_code
def yX6_spoil : MethodName := ⟨RX6, "spoil", "(II)Z"⟩
abbrev cX6_cells : ByteArray := prog_8_method_39_code
def yX6_cells : MethodName := ⟨RX6, "cells", "(II)I"⟩
abbrev cX6_look : ByteArray := prog_8_method_40_code
def yX6_look : MethodName := ⟨RX6, "look", "(I)I"⟩
def RL : String := "FloppyDeskLaw"
abbrev cL_law : ByteArray := code
def yL_law : MethodName := ⟨RL, "law", "([I)Z"⟩
def wsX4_init : List Cond := .code yX4_init cX4_init 1 none :: ([.methodLink RX4 3 objectInit, .instanceMethod objectInit, .code objectInit ⟨#[0xb1]⟩ 1 none])
def wsX0_init : List Cond := .code yX0_init cX0_init 3 none :: ([.methodLink RX0 3 objectInit, .instanceMethod objectInit, .code objectInit ⟨#[0xb1]⟩ 1 none, .fieldLink RX0 9 "FloppyDesk$Controller" "disk" "LFloppyDesk$Disk;", .fieldLink RX0 15 "FloppyDesk$Controller" "reader" "LFloppyDesk$Reader;", .classLink RX0 19 RX4, .instantiable RX4 7, .initialized RX4, .fieldLink RX0 22 "FloppyDesk$Controller" "writer" "LFloppyDesk$Writer;", .fieldLink RX0 26 "FloppyDesk$Controller" "latest" "I", .instanceMethod yX4_init, .code yX4_init cX4_init 1 none, .methodLink RX4 3 objectInit] ++ wsX00 ++ wsX40)
def wsX0_has : List Cond := .code yX0_has cX0_has 2 (some .boolean) :: ([.fieldLink RX0 30 "FloppyDesk$Controller" "status" "I"] ++ wsX00)
def wsX0_acceptData : List Cond := .code yX0_acceptData cX0_acceptData 2 none :: ([.fieldLink RX0 33 "FloppyDesk$Controller" "data" "I", .fieldLink RX0 30 "FloppyDesk$Controller" "status" "I"] ++ wsX00)
def wsX0_handOutData : List Cond := .code yX0_handOutData cX0_handOutData 1 (some .int) :: ([.fieldLink RX0 30 "FloppyDesk$Controller" "status" "I", .fieldLink RX0 33 "FloppyDesk$Controller" "data" "I"] ++ wsX00)
def wsX2_reset : List Cond := .code yX2_reset cX2_reset 1 none :: ([.fieldLink RX2 15 "FloppyDesk$Reader" "inStep" "Z", .fieldLink RX2 19 "FloppyDesk$Reader" "marks" "I", .fieldLink RX2 22 "FloppyDesk$Reader" "field" "I"] ++ wsX20)
def wsX2_forgetDataSize : List Cond := .code yX2_forgetDataSize cX2_forgetDataSize 1 none :: ([.fieldLink RX2 11 "FloppyDesk$Reader" "dataSize" "I"] ++ wsX20)
def wsX2_forgetWindow : List Cond := .code yX2_forgetWindow cX2_forgetWindow 1 none :: ([.fieldLink RX2 25 "FloppyDesk$Reader" "window" "I"] ++ wsX20)
def wsX0_end : List Cond := .code yX0_end cX0_end 1 none :: ([.fieldLink RX0 30 "FloppyDesk$Controller" "status" "I", .fieldLink RX0 70 "FloppyDesk$Controller" "phase" "I", .fieldLink RX0 15 "FloppyDesk$Controller" "reader" "LFloppyDesk$Reader;", .methodLink RX0 73 yX2_forgetWindow, .instanceMethod yX2_forgetWindow, .selects RX2 yX2_forgetWindow yX2_forgetWindow, .initialized RX2, .code yX2_forgetWindow cX2_forgetWindow 1 none, .fieldLink RX2 25 "FloppyDesk$Reader" "window" "I"] ++ wsX00 ++ wsX20)
def wsX0_endWith : List Cond := .code yX0_endWith cX0_endWith 2 none :: ([.fieldLink RX0 30 "FloppyDesk$Controller" "status" "I", .methodLink RX0 76 yX0_end, .instanceMethod yX0_end, .selects RX0 yX0_end yX0_end, .initialized RX0, .code yX0_end cX0_end 1 none, .fieldLink RX0 70 "FloppyDesk$Controller" "phase" "I", .fieldLink RX0 15 "FloppyDesk$Controller" "reader" "LFloppyDesk$Reader;", .methodLink RX0 73 yX2_forgetWindow, .instanceMethod yX2_forgetWindow, .selects RX2 yX2_forgetWindow yX2_forgetWindow, .initialized RX2, .code yX2_forgetWindow cX2_forgetWindow 1 none, .fieldLink RX2 25 "FloppyDesk$Reader" "window" "I"] ++ wsX00 ++ wsX20)
def wsX0_begin_r1 : List Cond := [Cond.fieldLink RX0 26 "FloppyDesk$Controller" "latest" "I", Cond.fieldLink RX0 40 "FloppyDesk$Controller" "writesDeleted" "Z", Cond.fieldLink RX0 30 "FloppyDesk$Controller" "status" "I", Cond.fieldLink RX0 44 "FloppyDesk$Controller" "byteTimes" "I", Cond.fieldLink RX0 47 "FloppyDesk$Controller" "indexes" "I", Cond.fieldLink RX0 15 "FloppyDesk$Controller" "reader" "LFloppyDesk$Reader;", Cond.fieldLink RX0 58 "FloppyDesk$Controller" "track" "I", Cond.fieldLink RX0 33 "FloppyDesk$Controller" "data" "I", Cond.fieldLink RX0 9 "FloppyDesk$Controller" "disk" "LFloppyDesk$Disk;", Cond.fieldLink RX0 70 "FloppyDesk$Controller" "phase" "I", Cond.methodLink RX0 36 yX0_has, Cond.instanceMethod yX0_has, Cond.selects RX0 yX0_has yX0_has, Cond.initialized RX0, Cond.code yX0_has cX0_has 2 (some .boolean), Cond.methodLink RX0 50 yX2_reset, Cond.instanceMethod yX2_reset, Cond.selects RX2 yX2_reset yX2_reset, Cond.initialized RX2, Cond.code yX2_reset cX2_reset 1 none, Cond.fieldLink RX2 15 "FloppyDesk$Reader" "inStep" "Z", Cond.fieldLink RX2 19 "FloppyDesk$Reader" "marks" "I", Cond.fieldLink RX2 22 "FloppyDesk$Reader" "field" "I", Cond.methodLink RX0 55 yX2_forgetDataSize]
def wsX0_begin_r2 : List Cond := [Cond.instanceMethod yX2_forgetDataSize, Cond.selects RX2 yX2_forgetDataSize yX2_forgetDataSize, Cond.code yX2_forgetDataSize cX2_forgetDataSize 1 none, Cond.fieldLink RX2 11 "FloppyDesk$Reader" "dataSize" "I", Cond.methodLink RX0 66 yX0_endWith, Cond.instanceMethod yX0_endWith, Cond.selects RX0 yX0_endWith yX0_endWith, Cond.code yX0_endWith cX0_endWith 2 none, Cond.methodLink RX0 76 yX0_end, Cond.instanceMethod yX0_end, Cond.selects RX0 yX0_end yX0_end, Cond.code yX0_end cX0_end 1 none, Cond.methodLink RX0 73 yX2_forgetWindow, Cond.instanceMethod yX2_forgetWindow, Cond.selects RX2 yX2_forgetWindow yX2_forgetWindow, Cond.code yX2_forgetWindow cX2_forgetWindow 1 none, Cond.fieldLink RX2 25 "FloppyDesk$Reader" "window" "I"]
def wsX0_begin : List Cond := .code yX0_begin cX0_begin 3 (some .boolean) :: ((wsX0_begin_r1 ++ wsX0_begin_r2) ++ wsX00 ++ wsX10 ++ wsX20)
def wsX4_putWord : List Cond := .code yX4_putWord cX4_putWord 2 none :: ([.fieldLink RX4 43 "FloppyDesk$Writer" "word" "I", .fieldLink RX4 9 "FloppyDesk$Writer" "cellsLeft" "I", .fieldLink RX4 22 "FloppyDesk$Writer" "count" "I"] ++ wsX40)
def wsX4_putUnchecked : List Cond := .code yX4_putUnchecked cX4_putUnchecked 6 none :: ([.fieldLink RX4 15 "FloppyDesk$Writer" "lastBit" "I", .fieldLink RX4 25 "FloppyDesk$Writer" "isBehindMark" "Z", .methodLink RX4 36 yX4_putWord, .instanceMethod yX4_putWord, .selects RX4 yX4_putWord yX4_putWord, .initialized RX4, .code yX4_putWord cX4_putWord 2 none, .fieldLink RX4 43 "FloppyDesk$Writer" "word" "I", .fieldLink RX4 9 "FloppyDesk$Writer" "cellsLeft" "I", .fieldLink RX4 22 "FloppyDesk$Writer" "count" "I"] ++ wsX40)
def wsX4_putHalfOfCheck : List Cond := .code yX4_putHalfOfCheck cX4_putHalfOfCheck 2 none :: ([.fieldLink RX4 29 "FloppyDesk$Writer" "isLowCheckDue" "Z", .fieldLink RX4 19 "FloppyDesk$Writer" "check" "I", .methodLink RX4 40 yX4_putUnchecked, .instanceMethod yX4_putUnchecked, .selects RX4 yX4_putUnchecked yX4_putUnchecked, .initialized RX4, .code yX4_putUnchecked cX4_putUnchecked 6 none, .fieldLink RX4 15 "FloppyDesk$Writer" "lastBit" "I", .fieldLink RX4 25 "FloppyDesk$Writer" "isBehindMark" "Z", .methodLink RX4 36 yX4_putWord, .instanceMethod yX4_putWord, .selects RX4 yX4_putWord yX4_putWord, .code yX4_putWord cX4_putWord 2 none, .fieldLink RX4 43 "FloppyDesk$Writer" "word" "I", .fieldLink RX4 9 "FloppyDesk$Writer" "cellsLeft" "I", .fieldLink RX4 22 "FloppyDesk$Writer" "count" "I"] ++ wsX40)
def wsX0_askForByte : List Cond := .code yX0_askForByte cX0_askForByte 1 (some .int) :: ([.fieldLink RX0 30 "FloppyDesk$Controller" "status" "I", .fieldLink RX0 33 "FloppyDesk$Controller" "data" "I", .methodLink RX0 36 yX0_has, .instanceMethod yX0_has, .selects RX0 yX0_has yX0_has, .initialized RX0, .code yX0_has cX0_has 2 (some .boolean)] ++ wsX00)
def wsX5_checkWith : List Cond := .code yX5_checkWith cX5_checkWith 4 (some .int) :: ([.constant RX5 124 (65536), .constant RX5 125 (65535)])
def wsX4_putMark : List Cond := .code yX4_putMark cX4_putMark 1 none :: ([.fieldLink RX4 25 "FloppyDesk$Writer" "isBehindMark" "Z", .constant RX4 18 (65535), .fieldLink RX4 19 "FloppyDesk$Writer" "check" "I", .fieldLink RX4 15 "FloppyDesk$Writer" "lastBit" "I", .static yX5_checkWith, .initialized RX5, .code yX5_checkWith cX5_checkWith 4 (some .int), .constant RX5 124 (65536), .constant RX5 125 (65535), .methodLink RX4 36 yX4_putWord, .instanceMethod yX4_putWord, .selects RX4 yX4_putWord yX4_putWord, .initialized RX4, .code yX4_putWord cX4_putWord 2 none, .fieldLink RX4 43 "FloppyDesk$Writer" "word" "I", .fieldLink RX4 9 "FloppyDesk$Writer" "cellsLeft" "I", .fieldLink RX4 22 "FloppyDesk$Writer" "count" "I"] ++ wsX40)
def wsX4_putByte : List Cond := .code yX4_putByte cX4_putByte 2 none :: ([.fieldLink RX4 19 "FloppyDesk$Writer" "check" "I", .static yX5_checkWith, .initialized RX5, .code yX5_checkWith cX5_checkWith 4 (some .int), .constant RX5 124 (65536), .constant RX5 125 (65535), .methodLink RX4 40 yX4_putUnchecked, .instanceMethod yX4_putUnchecked, .selects RX4 yX4_putUnchecked yX4_putUnchecked, .initialized RX4, .code yX4_putUnchecked cX4_putUnchecked 6 none, .fieldLink RX4 15 "FloppyDesk$Writer" "lastBit" "I", .fieldLink RX4 25 "FloppyDesk$Writer" "isBehindMark" "Z", .methodLink RX4 36 yX4_putWord, .instanceMethod yX4_putWord, .selects RX4 yX4_putWord yX4_putWord, .code yX4_putWord cX4_putWord 2 none, .fieldLink RX4 43 "FloppyDesk$Writer" "word" "I", .fieldLink RX4 9 "FloppyDesk$Writer" "cellsLeft" "I", .fieldLink RX4 22 "FloppyDesk$Writer" "count" "I"] ++ wsX40)
def wsX0_putNextOfTrack_r1 : List Cond := [Cond.fieldLink RX0 22 "FloppyDesk$Controller" "writer" "LFloppyDesk$Writer;", Cond.fieldLink RX0 30 "FloppyDesk$Controller" "status" "I", Cond.methodLink RX0 181 yX4_putHalfOfCheck, Cond.instanceMethod yX4_putHalfOfCheck, Cond.selects RX4 yX4_putHalfOfCheck yX4_putHalfOfCheck, Cond.initialized RX4, Cond.code yX4_putHalfOfCheck cX4_putHalfOfCheck 2 none, Cond.fieldLink RX4 29 "FloppyDesk$Writer" "isLowCheckDue" "Z", Cond.fieldLink RX4 19 "FloppyDesk$Writer" "check" "I", Cond.methodLink RX4 40 yX4_putUnchecked, Cond.instanceMethod yX4_putUnchecked, Cond.selects RX4 yX4_putUnchecked yX4_putUnchecked, Cond.code yX4_putUnchecked cX4_putUnchecked 6 none, Cond.fieldLink RX4 15 "FloppyDesk$Writer" "lastBit" "I", Cond.fieldLink RX4 25 "FloppyDesk$Writer" "isBehindMark" "Z", Cond.methodLink RX4 36 yX4_putWord, Cond.instanceMethod yX4_putWord, Cond.selects RX4 yX4_putWord yX4_putWord, Cond.code yX4_putWord cX4_putWord 2 none, Cond.fieldLink RX4 43 "FloppyDesk$Writer" "word" "I", Cond.fieldLink RX4 9 "FloppyDesk$Writer" "cellsLeft" "I", Cond.fieldLink RX4 22 "FloppyDesk$Writer" "count" "I", Cond.methodLink RX0 184 yX0_askForByte, Cond.instanceMethod yX0_askForByte]
def wsX0_putNextOfTrack_r2 : List Cond := [Cond.selects RX0 yX0_askForByte yX0_askForByte, Cond.initialized RX0, Cond.code yX0_askForByte cX0_askForByte 1 (some .int), Cond.fieldLink RX0 33 "FloppyDesk$Controller" "data" "I", Cond.methodLink RX0 36 yX0_has, Cond.instanceMethod yX0_has, Cond.selects RX0 yX0_has yX0_has, Cond.code yX0_has cX0_has 2 (some .boolean), Cond.methodLink RX0 187 yX4_putMark, Cond.instanceMethod yX4_putMark, Cond.selects RX4 yX4_putMark yX4_putMark, Cond.code yX4_putMark cX4_putMark 1 none, Cond.constant RX4 18 (65535), Cond.static yX5_checkWith, Cond.initialized RX5, Cond.code yX5_checkWith cX5_checkWith 4 (some .int), Cond.constant RX5 124 (65536), Cond.constant RX5 125 (65535), Cond.methodLink RX0 190 yX4_putByte, Cond.instanceMethod yX4_putByte, Cond.selects RX4 yX4_putByte yX4_putByte, Cond.code yX4_putByte cX4_putByte 2 none]
def wsX0_putNextOfTrack : List Cond := .code yX0_putNextOfTrack cX0_putNextOfTrack 2 none :: ((wsX0_putNextOfTrack_r1 ++ wsX0_putNextOfTrack_r2) ++ wsX00 ++ wsX40)
def wsX0_putNextOfSector_r1 : List Cond := [Cond.fieldLink RX0 22 "FloppyDesk$Controller" "writer" "LFloppyDesk$Writer;", Cond.fieldLink RX0 15 "FloppyDesk$Controller" "reader" "LFloppyDesk$Reader;", Cond.fieldLink RX0 40 "FloppyDesk$Controller" "writesDeleted" "Z", Cond.fieldLink RX0 30 "FloppyDesk$Controller" "status" "I", Cond.methodLink RX0 190 yX4_putByte, Cond.instanceMethod yX4_putByte, Cond.selects RX4 yX4_putByte yX4_putByte, Cond.initialized RX4, Cond.code yX4_putByte cX4_putByte 2 none, Cond.fieldLink RX4 19 "FloppyDesk$Writer" "check" "I", Cond.static yX5_checkWith, Cond.initialized RX5, Cond.code yX5_checkWith cX5_checkWith 4 (some .int), Cond.constant RX5 124 (65536), Cond.constant RX5 125 (65535), Cond.methodLink RX4 40 yX4_putUnchecked, Cond.instanceMethod yX4_putUnchecked, Cond.selects RX4 yX4_putUnchecked yX4_putUnchecked, Cond.code yX4_putUnchecked cX4_putUnchecked 6 none, Cond.fieldLink RX4 15 "FloppyDesk$Writer" "lastBit" "I", Cond.fieldLink RX4 25 "FloppyDesk$Writer" "isBehindMark" "Z", Cond.methodLink RX4 36 yX4_putWord, Cond.instanceMethod yX4_putWord, Cond.selects RX4 yX4_putWord yX4_putWord]
def wsX0_putNextOfSector_r2 : List Cond := [Cond.code yX4_putWord cX4_putWord 2 none, Cond.fieldLink RX4 43 "FloppyDesk$Writer" "word" "I", Cond.fieldLink RX4 9 "FloppyDesk$Writer" "cellsLeft" "I", Cond.fieldLink RX4 22 "FloppyDesk$Writer" "count" "I", Cond.methodLink RX0 187 yX4_putMark, Cond.instanceMethod yX4_putMark, Cond.selects RX4 yX4_putMark yX4_putMark, Cond.code yX4_putMark cX4_putMark 1 none, Cond.constant RX4 18 (65535), Cond.methodLink RX0 184 yX0_askForByte, Cond.instanceMethod yX0_askForByte, Cond.selects RX0 yX0_askForByte yX0_askForByte, Cond.initialized RX0, Cond.code yX0_askForByte cX0_askForByte 1 (some .int), Cond.fieldLink RX0 33 "FloppyDesk$Controller" "data" "I", Cond.methodLink RX0 36 yX0_has, Cond.instanceMethod yX0_has, Cond.selects RX0 yX0_has yX0_has, Cond.code yX0_has cX0_has 2 (some .boolean), Cond.methodLink RX0 181 yX4_putHalfOfCheck, Cond.instanceMethod yX4_putHalfOfCheck, Cond.selects RX4 yX4_putHalfOfCheck yX4_putHalfOfCheck, Cond.code yX4_putHalfOfCheck cX4_putHalfOfCheck 2 none, Cond.fieldLink RX4 29 "FloppyDesk$Writer" "isLowCheckDue" "Z"]
def wsX0_putNextOfSector : List Cond := .code yX0_putNextOfSector cX0_putNextOfSector 3 none :: ((wsX0_putNextOfSector_r1 ++ wsX0_putNextOfSector_r2) ++ wsX00 ++ wsX40 ++ wsX20)
def wsX4_nextCell : List Cond := .code yX4_nextCell cX4_nextCell 1 (some .int) :: ([.fieldLink RX4 9 "FloppyDesk$Writer" "cellsLeft" "I", .fieldLink RX4 43 "FloppyDesk$Writer" "word" "I"] ++ wsX40)
def wsX1_wordAt : List Cond := .code yX1_wordAt cX1_wordAt 3 (some .int) :: ([.fieldLink RX1 9 "FloppyDesk$Disk" "words" "[I"] ++ wsX10)
def wsX1_cellUnderHead : List Cond := .code yX1_cellUnderHead cX1_cellUnderHead 1 (some .int) :: ([.fieldLink RX1 16 "FloppyDesk$Disk" "headTrack" "I", .fieldLink RX1 20 "FloppyDesk$Disk" "place" "I", .methodLink RX1 23 yX1_wordAt, .instanceMethod yX1_wordAt, .selects RX1 yX1_wordAt yX1_wordAt, .initialized RX1, .code yX1_wordAt cX1_wordAt 3 (some .int), .fieldLink RX1 9 "FloppyDesk$Disk" "words" "[I"] ++ wsX10)
def wsX1_turnOver : List Cond := .code yX1_turnOver cX1_turnOver 3 (some .boolean) :: ([.fieldLink RX1 9 "FloppyDesk$Disk" "words" "[I", .constant RX1 15 (32768)] ++ wsX10)
def wsX1_writeUnderHead : List Cond := .code yX1_writeUnderHead cX1_writeUnderHead 2 none :: ([.fieldLink RX1 16 "FloppyDesk$Disk" "headTrack" "I", .fieldLink RX1 20 "FloppyDesk$Disk" "place" "I", .methodLink RX1 27 yX1_cellUnderHead, .instanceMethod yX1_cellUnderHead, .selects RX1 yX1_cellUnderHead yX1_cellUnderHead, .initialized RX1, .code yX1_cellUnderHead cX1_cellUnderHead 1 (some .int), .methodLink RX1 23 yX1_wordAt, .instanceMethod yX1_wordAt, .selects RX1 yX1_wordAt yX1_wordAt, .code yX1_wordAt cX1_wordAt 3 (some .int), .fieldLink RX1 9 "FloppyDesk$Disk" "words" "[I", .methodLink RX1 31 yX1_turnOver, .instanceMethod yX1_turnOver, .selects RX1 yX1_turnOver yX1_turnOver, .code yX1_turnOver cX1_turnOver 3 (some .boolean), .constant RX1 15 (32768)] ++ wsX10)
def wsX0_writeOneCell_r1 : List Cond := [Cond.fieldLink RX0 22 "FloppyDesk$Controller" "writer" "LFloppyDesk$Writer;", Cond.fieldLink RX0 26 "FloppyDesk$Controller" "latest" "I", Cond.fieldLink RX0 9 "FloppyDesk$Controller" "disk" "LFloppyDesk$Disk;", Cond.fieldLink RX0 15 "FloppyDesk$Controller" "reader" "LFloppyDesk$Reader;", Cond.methodLink RX0 160 yX0_putNextOfTrack, Cond.instanceMethod yX0_putNextOfTrack, Cond.selects RX0 yX0_putNextOfTrack yX0_putNextOfTrack, Cond.initialized RX0, Cond.code yX0_putNextOfTrack cX0_putNextOfTrack 2 none, Cond.fieldLink RX0 30 "FloppyDesk$Controller" "status" "I", Cond.methodLink RX0 181 yX4_putHalfOfCheck, Cond.instanceMethod yX4_putHalfOfCheck, Cond.selects RX4 yX4_putHalfOfCheck yX4_putHalfOfCheck, Cond.initialized RX4, Cond.code yX4_putHalfOfCheck cX4_putHalfOfCheck 2 none, Cond.fieldLink RX4 29 "FloppyDesk$Writer" "isLowCheckDue" "Z", Cond.fieldLink RX4 19 "FloppyDesk$Writer" "check" "I", Cond.methodLink RX4 40 yX4_putUnchecked, Cond.instanceMethod yX4_putUnchecked, Cond.selects RX4 yX4_putUnchecked yX4_putUnchecked, Cond.code yX4_putUnchecked cX4_putUnchecked 6 none, Cond.fieldLink RX4 15 "FloppyDesk$Writer" "lastBit" "I", Cond.fieldLink RX4 25 "FloppyDesk$Writer" "isBehindMark" "Z", Cond.methodLink RX4 36 yX4_putWord]
def wsX0_writeOneCell_r2 : List Cond := [Cond.instanceMethod yX4_putWord, Cond.selects RX4 yX4_putWord yX4_putWord, Cond.code yX4_putWord cX4_putWord 2 none, Cond.fieldLink RX4 43 "FloppyDesk$Writer" "word" "I", Cond.fieldLink RX4 9 "FloppyDesk$Writer" "cellsLeft" "I", Cond.fieldLink RX4 22 "FloppyDesk$Writer" "count" "I", Cond.methodLink RX0 184 yX0_askForByte, Cond.instanceMethod yX0_askForByte, Cond.selects RX0 yX0_askForByte yX0_askForByte, Cond.code yX0_askForByte cX0_askForByte 1 (some .int), Cond.fieldLink RX0 33 "FloppyDesk$Controller" "data" "I", Cond.methodLink RX0 36 yX0_has, Cond.instanceMethod yX0_has, Cond.selects RX0 yX0_has yX0_has, Cond.code yX0_has cX0_has 2 (some .boolean), Cond.methodLink RX0 187 yX4_putMark, Cond.instanceMethod yX4_putMark, Cond.selects RX4 yX4_putMark yX4_putMark, Cond.code yX4_putMark cX4_putMark 1 none, Cond.constant RX4 18 (65535), Cond.static yX5_checkWith, Cond.initialized RX5, Cond.code yX5_checkWith cX5_checkWith 4 (some .int), Cond.constant RX5 124 (65536)]
def wsX0_writeOneCell_r3 : List Cond := [Cond.constant RX5 125 (65535), Cond.methodLink RX0 190 yX4_putByte, Cond.instanceMethod yX4_putByte, Cond.selects RX4 yX4_putByte yX4_putByte, Cond.code yX4_putByte cX4_putByte 2 none, Cond.methodLink RX0 163 yX0_putNextOfSector, Cond.instanceMethod yX0_putNextOfSector, Cond.selects RX0 yX0_putNextOfSector yX0_putNextOfSector, Cond.code yX0_putNextOfSector cX0_putNextOfSector 3 none, Cond.fieldLink RX0 40 "FloppyDesk$Controller" "writesDeleted" "Z", Cond.methodLink RX0 166 yX4_nextCell, Cond.instanceMethod yX4_nextCell, Cond.selects RX4 yX4_nextCell yX4_nextCell, Cond.code yX4_nextCell cX4_nextCell 1 (some .int), Cond.methodLink RX0 169 yX1_writeUnderHead, Cond.instanceMethod yX1_writeUnderHead, Cond.selects RX1 yX1_writeUnderHead yX1_writeUnderHead, Cond.initialized RX1, Cond.code yX1_writeUnderHead cX1_writeUnderHead 2 none, Cond.fieldLink RX1 16 "FloppyDesk$Disk" "headTrack" "I", Cond.fieldLink RX1 20 "FloppyDesk$Disk" "place" "I", Cond.methodLink RX1 27 yX1_cellUnderHead, Cond.instanceMethod yX1_cellUnderHead, Cond.selects RX1 yX1_cellUnderHead yX1_cellUnderHead]
def wsX0_writeOneCell_r4 : List Cond := [Cond.code yX1_cellUnderHead cX1_cellUnderHead 1 (some .int), Cond.methodLink RX1 23 yX1_wordAt, Cond.instanceMethod yX1_wordAt, Cond.selects RX1 yX1_wordAt yX1_wordAt, Cond.code yX1_wordAt cX1_wordAt 3 (some .int), Cond.fieldLink RX1 9 "FloppyDesk$Disk" "words" "[I", Cond.methodLink RX1 31 yX1_turnOver, Cond.instanceMethod yX1_turnOver, Cond.selects RX1 yX1_turnOver yX1_turnOver, Cond.code yX1_turnOver cX1_turnOver 3 (some .boolean), Cond.constant RX1 15 (32768), Cond.methodLink RX0 76 yX0_end, Cond.instanceMethod yX0_end, Cond.selects RX0 yX0_end yX0_end, Cond.code yX0_end cX0_end 1 none, Cond.fieldLink RX0 70 "FloppyDesk$Controller" "phase" "I", Cond.methodLink RX0 73 yX2_forgetWindow, Cond.instanceMethod yX2_forgetWindow, Cond.selects RX2 yX2_forgetWindow yX2_forgetWindow, Cond.initialized RX2, Cond.code yX2_forgetWindow cX2_forgetWindow 1 none, Cond.fieldLink RX2 25 "FloppyDesk$Reader" "window" "I"]
def wsX0_writeOneCell : List Cond := .code yX0_writeOneCell cX0_writeOneCell 2 none :: ((wsX0_writeOneCell_r1 ++ (wsX0_writeOneCell_r2 ++ (wsX0_writeOneCell_r3 ++ wsX0_writeOneCell_r4))) ++ wsX00 ++ wsX40 ++ wsX20 ++ wsX10)
def wsX2_byteInWindow : List Cond := .code yX2_byteInWindow cX2_byteInWindow 3 (some .int) :: ([.fieldLink RX2 25 "FloppyDesk$Reader" "window" "I"] ++ wsX20)
def wsX2_beginField : List Cond := .code yX2_beginField cX2_beginField 3 (some .int) :: ([.fieldLink RX2 19 "FloppyDesk$Reader" "marks" "I", .fieldLink RX2 36 "FloppyDesk$Reader" "latestByte" "I", .fieldLink RX2 22 "FloppyDesk$Reader" "field" "I", .fieldLink RX2 15 "FloppyDesk$Reader" "inStep" "Z", .fieldLink RX2 45 "FloppyDesk$Reader" "latestField" "I", .fieldLink RX2 48 "FloppyDesk$Reader" "fieldStart" "I", .fieldLink RX2 51 "FloppyDesk$Reader" "fieldBytes" "I", .constant RX2 28 (65535), .fieldLink RX2 54 "FloppyDesk$Reader" "fieldCheck" "I", .static yX5_checkWith, .initialized RX5, .code yX5_checkWith cX5_checkWith 4 (some .int), .constant RX5 124 (65536), .constant RX5 125 (65535)] ++ wsX20)
def wsX2_keepIdByte : List Cond := .code yX2_keepIdByte cX2_keepIdByte 1 none :: ([.fieldLink RX2 51 "FloppyDesk$Reader" "fieldBytes" "I", .fieldLink RX2 36 "FloppyDesk$Reader" "latestByte" "I", .fieldLink RX2 71 "FloppyDesk$Reader" "idTrack" "I", .fieldLink RX2 74 "FloppyDesk$Reader" "idSector" "I", .fieldLink RX2 68 "FloppyDesk$Reader" "idLength" "I"] ++ wsX20)
def wsX2_isCheckRight : List Cond := .code yX2_isCheckRight cX2_isCheckRight 1 (some .boolean) :: ([.fieldLink RX2 54 "FloppyDesk$Reader" "fieldCheck" "I"] ++ wsX20)
def wsX2_addToField : List Cond := .code yX2_addToField cX2_addToField 2 (some .int) :: ([.fieldLink RX2 54 "FloppyDesk$Reader" "fieldCheck" "I", .fieldLink RX2 36 "FloppyDesk$Reader" "latestByte" "I", .fieldLink RX2 22 "FloppyDesk$Reader" "field" "I", .fieldLink RX2 51 "FloppyDesk$Reader" "fieldBytes" "I", .fieldLink RX2 11 "FloppyDesk$Reader" "dataSize" "I", .fieldLink RX2 68 "FloppyDesk$Reader" "idLength" "I", .fieldLink RX2 15 "FloppyDesk$Reader" "inStep" "Z", .static yX5_checkWith, .initialized RX5, .code yX5_checkWith cX5_checkWith 4 (some .int), .constant RX5 124 (65536), .constant RX5 125 (65535), .methodLink RX2 61 yX2_keepIdByte, .instanceMethod yX2_keepIdByte, .selects RX2 yX2_keepIdByte yX2_keepIdByte, .initialized RX2, .code yX2_keepIdByte cX2_keepIdByte 1 none, .fieldLink RX2 71 "FloppyDesk$Reader" "idTrack" "I", .fieldLink RX2 74 "FloppyDesk$Reader" "idSector" "I", .methodLink RX2 64 yX2_isCheckRight, .instanceMethod yX2_isCheckRight, .selects RX2 yX2_isCheckRight yX2_isCheckRight, .code yX2_isCheckRight cX2_isCheckRight 1 (some .boolean)] ++ wsX20)
def wsX2_readCell_r1 : List Cond := [Cond.fieldLink RX2 25 "FloppyDesk$Reader" "window" "I", Cond.constant RX2 28 (65535), Cond.fieldLink RX2 15 "FloppyDesk$Reader" "inStep" "Z", Cond.fieldLink RX2 22 "FloppyDesk$Reader" "field" "I", Cond.fieldLink RX2 19 "FloppyDesk$Reader" "marks" "I", Cond.fieldLink RX2 29 "FloppyDesk$Reader" "cellsSince" "I", Cond.fieldLink RX2 36 "FloppyDesk$Reader" "latestByte" "I", Cond.methodLink RX2 32 yX2_byteInWindow, Cond.instanceMethod yX2_byteInWindow, Cond.selects RX2 yX2_byteInWindow yX2_byteInWindow, Cond.initialized RX2, Cond.code yX2_byteInWindow cX2_byteInWindow 3 (some .int), Cond.methodLink RX2 39 yX2_beginField, Cond.instanceMethod yX2_beginField, Cond.selects RX2 yX2_beginField yX2_beginField, Cond.code yX2_beginField cX2_beginField 3 (some .int), Cond.fieldLink RX2 45 "FloppyDesk$Reader" "latestField" "I", Cond.fieldLink RX2 48 "FloppyDesk$Reader" "fieldStart" "I", Cond.fieldLink RX2 51 "FloppyDesk$Reader" "fieldBytes" "I", Cond.fieldLink RX2 54 "FloppyDesk$Reader" "fieldCheck" "I", Cond.static yX5_checkWith, Cond.initialized RX5, Cond.code yX5_checkWith cX5_checkWith 4 (some .int), Cond.constant RX5 124 (65536)]
def wsX2_readCell_r2 : List Cond := [Cond.constant RX5 125 (65535), Cond.methodLink RX2 42 yX2_addToField, Cond.instanceMethod yX2_addToField, Cond.selects RX2 yX2_addToField yX2_addToField, Cond.code yX2_addToField cX2_addToField 2 (some .int), Cond.fieldLink RX2 11 "FloppyDesk$Reader" "dataSize" "I", Cond.fieldLink RX2 68 "FloppyDesk$Reader" "idLength" "I", Cond.methodLink RX2 61 yX2_keepIdByte, Cond.instanceMethod yX2_keepIdByte, Cond.selects RX2 yX2_keepIdByte yX2_keepIdByte, Cond.code yX2_keepIdByte cX2_keepIdByte 1 none, Cond.fieldLink RX2 71 "FloppyDesk$Reader" "idTrack" "I", Cond.fieldLink RX2 74 "FloppyDesk$Reader" "idSector" "I", Cond.methodLink RX2 64 yX2_isCheckRight, Cond.instanceMethod yX2_isCheckRight, Cond.selects RX2 yX2_isCheckRight yX2_isCheckRight, Cond.code yX2_isCheckRight cX2_isCheckRight 1 (some .boolean)]
def wsX2_readCell : List Cond := .code yX2_readCell cX2_readCell 2 (some .int) :: ((wsX2_readCell_r1 ++ wsX2_readCell_r2) ++ wsX20)
def wsX2_isLatestFieldId : List Cond := .code yX2_isLatestFieldId cX2_isLatestFieldId 1 (some .boolean) :: ([.fieldLink RX2 45 "FloppyDesk$Reader" "latestField" "I"] ++ wsX20)
def wsX0_meetFieldStart : List Cond := .code yX0_meetFieldStart cX0_meetFieldStart 1 none :: ([.fieldLink RX0 26 "FloppyDesk$Controller" "latest" "I", .fieldLink RX0 70 "FloppyDesk$Controller" "phase" "I", .fieldLink RX0 15 "FloppyDesk$Controller" "reader" "LFloppyDesk$Reader;", .fieldLink RX0 30 "FloppyDesk$Controller" "status" "I", .methodLink RX0 127 yX2_isLatestFieldId, .instanceMethod yX2_isLatestFieldId, .selects RX2 yX2_isLatestFieldId yX2_isLatestFieldId, .initialized RX2, .code yX2_isLatestFieldId cX2_isLatestFieldId 1 (some .boolean), .fieldLink RX2 45 "FloppyDesk$Reader" "latestField" "I"] ++ wsX00 ++ wsX20)
def wsX2_isLatestByteOfCheck : List Cond := .code yX2_isLatestByteOfCheck cX2_isLatestByteOfCheck 1 (some .boolean) :: ([.fieldLink RX2 51 "FloppyDesk$Reader" "fieldBytes" "I", .fieldLink RX2 11 "FloppyDesk$Reader" "dataSize" "I", .methodLink RX2 77 yX2_isLatestFieldId, .instanceMethod yX2_isLatestFieldId, .selects RX2 yX2_isLatestFieldId yX2_isLatestFieldId, .initialized RX2, .code yX2_isLatestFieldId cX2_isLatestFieldId 1 (some .boolean), .fieldLink RX2 45 "FloppyDesk$Reader" "latestField" "I"] ++ wsX20)
def wsX0_meetFieldByte : List Cond := .code yX0_meetFieldByte cX0_meetFieldByte 1 none :: ([.fieldLink RX0 70 "FloppyDesk$Controller" "phase" "I", .fieldLink RX0 15 "FloppyDesk$Controller" "reader" "LFloppyDesk$Reader;", .fieldLink RX0 33 "FloppyDesk$Controller" "data" "I", .fieldLink RX0 30 "FloppyDesk$Controller" "status" "I", .methodLink RX0 133 yX2_isLatestByteOfCheck, .instanceMethod yX2_isLatestByteOfCheck, .selects RX2 yX2_isLatestByteOfCheck yX2_isLatestByteOfCheck, .initialized RX2, .code yX2_isLatestByteOfCheck cX2_isLatestByteOfCheck 1 (some .boolean), .fieldLink RX2 51 "FloppyDesk$Reader" "fieldBytes" "I", .fieldLink RX2 11 "FloppyDesk$Reader" "dataSize" "I", .methodLink RX2 77 yX2_isLatestFieldId, .instanceMethod yX2_isLatestFieldId, .selects RX2 yX2_isLatestFieldId yX2_isLatestFieldId, .code yX2_isLatestFieldId cX2_isLatestFieldId 1 (some .boolean), .fieldLink RX2 45 "FloppyDesk$Reader" "latestField" "I", .methodLink RX0 36 yX0_has, .instanceMethod yX0_has, .selects RX0 yX0_has yX0_has, .initialized RX0, .code yX0_has cX0_has 2 (some .boolean)] ++ wsX00 ++ wsX20)
def wsX0_endReading : List Cond := .code yX0_endReading cX0_endReading 1 none :: ([.fieldLink RX0 26 "FloppyDesk$Controller" "latest" "I", .fieldLink RX0 15 "FloppyDesk$Controller" "reader" "LFloppyDesk$Reader;", .fieldLink RX0 148 "FloppyDesk$Controller" "sector" "I", .fieldLink RX0 30 "FloppyDesk$Controller" "status" "I", .methodLink RX0 151 yX2_isCheckRight, .instanceMethod yX2_isCheckRight, .selects RX2 yX2_isCheckRight yX2_isCheckRight, .initialized RX2, .code yX2_isCheckRight cX2_isCheckRight 1 (some .boolean), .fieldLink RX2 54 "FloppyDesk$Reader" "fieldCheck" "I", .methodLink RX0 76 yX0_end, .instanceMethod yX0_end, .selects RX0 yX0_end yX0_end, .initialized RX0, .code yX0_end cX0_end 1 none, .fieldLink RX0 70 "FloppyDesk$Controller" "phase" "I", .methodLink RX0 73 yX2_forgetWindow, .instanceMethod yX2_forgetWindow, .selects RX2 yX2_forgetWindow yX2_forgetWindow, .code yX2_forgetWindow cX2_forgetWindow 1 none, .fieldLink RX2 25 "FloppyDesk$Reader" "window" "I"] ++ wsX00 ++ wsX20)
def wsX0_compareId : List Cond := .code yX0_compareId cX0_compareId 1 none :: ([.fieldLink RX0 15 "FloppyDesk$Controller" "reader" "LFloppyDesk$Reader;", .fieldLink RX0 30 "FloppyDesk$Controller" "status" "I", .fieldLink RX0 58 "FloppyDesk$Controller" "track" "I", .fieldLink RX0 148 "FloppyDesk$Controller" "sector" "I", .fieldLink RX0 44 "FloppyDesk$Controller" "byteTimes" "I", .fieldLink RX0 26 "FloppyDesk$Controller" "latest" "I", .fieldLink RX0 70 "FloppyDesk$Controller" "phase" "I", .methodLink RX0 151 yX2_isCheckRight, .instanceMethod yX2_isCheckRight, .selects RX2 yX2_isCheckRight yX2_isCheckRight, .initialized RX2, .code yX2_isCheckRight cX2_isCheckRight 1 (some .boolean), .fieldLink RX2 54 "FloppyDesk$Reader" "fieldCheck" "I"] ++ wsX00 ++ wsX20)
def wsX0_meetFieldEnd_r1 : List Cond := [Cond.fieldLink RX0 70 "FloppyDesk$Controller" "phase" "I", Cond.fieldLink RX0 15 "FloppyDesk$Controller" "reader" "LFloppyDesk$Reader;", Cond.methodLink RX0 139 yX0_endReading, Cond.instanceMethod yX0_endReading, Cond.selects RX0 yX0_endReading yX0_endReading, Cond.initialized RX0, Cond.code yX0_endReading cX0_endReading 1 none, Cond.fieldLink RX0 26 "FloppyDesk$Controller" "latest" "I", Cond.fieldLink RX0 148 "FloppyDesk$Controller" "sector" "I", Cond.fieldLink RX0 30 "FloppyDesk$Controller" "status" "I", Cond.methodLink RX0 151 yX2_isCheckRight, Cond.instanceMethod yX2_isCheckRight, Cond.selects RX2 yX2_isCheckRight yX2_isCheckRight, Cond.initialized RX2, Cond.code yX2_isCheckRight cX2_isCheckRight 1 (some .boolean), Cond.fieldLink RX2 54 "FloppyDesk$Reader" "fieldCheck" "I", Cond.methodLink RX0 76 yX0_end, Cond.instanceMethod yX0_end, Cond.selects RX0 yX0_end yX0_end, Cond.code yX0_end cX0_end 1 none, Cond.methodLink RX0 73 yX2_forgetWindow, Cond.instanceMethod yX2_forgetWindow, Cond.selects RX2 yX2_forgetWindow yX2_forgetWindow, Cond.code yX2_forgetWindow cX2_forgetWindow 1 none]
def wsX0_meetFieldEnd_r2 : List Cond := [Cond.fieldLink RX2 25 "FloppyDesk$Reader" "window" "I", Cond.methodLink RX0 127 yX2_isLatestFieldId, Cond.instanceMethod yX2_isLatestFieldId, Cond.selects RX2 yX2_isLatestFieldId yX2_isLatestFieldId, Cond.code yX2_isLatestFieldId cX2_isLatestFieldId 1 (some .boolean), Cond.fieldLink RX2 45 "FloppyDesk$Reader" "latestField" "I", Cond.methodLink RX0 142 yX0_compareId, Cond.instanceMethod yX0_compareId, Cond.selects RX0 yX0_compareId yX0_compareId, Cond.code yX0_compareId cX0_compareId 1 none, Cond.fieldLink RX0 58 "FloppyDesk$Controller" "track" "I", Cond.fieldLink RX0 44 "FloppyDesk$Controller" "byteTimes" "I"]
def wsX0_meetFieldEnd : List Cond := .code yX0_meetFieldEnd cX0_meetFieldEnd 1 none :: ((wsX0_meetFieldEnd_r1 ++ wsX0_meetFieldEnd_r2) ++ wsX00 ++ wsX20)
def wsX0_readOneCell_r1 : List Cond := [Cond.fieldLink RX0 15 "FloppyDesk$Controller" "reader" "LFloppyDesk$Reader;", Cond.fieldLink RX0 9 "FloppyDesk$Controller" "disk" "LFloppyDesk$Disk;", Cond.methodLink RX0 110 yX1_cellUnderHead, Cond.instanceMethod yX1_cellUnderHead, Cond.selects RX1 yX1_cellUnderHead yX1_cellUnderHead, Cond.initialized RX1, Cond.code yX1_cellUnderHead cX1_cellUnderHead 1 (some .int), Cond.fieldLink RX1 16 "FloppyDesk$Disk" "headTrack" "I", Cond.fieldLink RX1 20 "FloppyDesk$Disk" "place" "I", Cond.methodLink RX1 23 yX1_wordAt, Cond.instanceMethod yX1_wordAt, Cond.selects RX1 yX1_wordAt yX1_wordAt, Cond.code yX1_wordAt cX1_wordAt 3 (some .int), Cond.fieldLink RX1 9 "FloppyDesk$Disk" "words" "[I", Cond.methodLink RX0 114 yX2_readCell, Cond.instanceMethod yX2_readCell, Cond.selects RX2 yX2_readCell yX2_readCell, Cond.initialized RX2, Cond.code yX2_readCell cX2_readCell 2 (some .int), Cond.fieldLink RX2 25 "FloppyDesk$Reader" "window" "I", Cond.constant RX2 28 (65535), Cond.fieldLink RX2 15 "FloppyDesk$Reader" "inStep" "Z", Cond.fieldLink RX2 22 "FloppyDesk$Reader" "field" "I", Cond.fieldLink RX2 19 "FloppyDesk$Reader" "marks" "I"]
def wsX0_readOneCell_r2 : List Cond := [Cond.fieldLink RX2 29 "FloppyDesk$Reader" "cellsSince" "I", Cond.fieldLink RX2 36 "FloppyDesk$Reader" "latestByte" "I", Cond.methodLink RX2 32 yX2_byteInWindow, Cond.instanceMethod yX2_byteInWindow, Cond.selects RX2 yX2_byteInWindow yX2_byteInWindow, Cond.code yX2_byteInWindow cX2_byteInWindow 3 (some .int), Cond.methodLink RX2 39 yX2_beginField, Cond.instanceMethod yX2_beginField, Cond.selects RX2 yX2_beginField yX2_beginField, Cond.code yX2_beginField cX2_beginField 3 (some .int), Cond.fieldLink RX2 45 "FloppyDesk$Reader" "latestField" "I", Cond.fieldLink RX2 48 "FloppyDesk$Reader" "fieldStart" "I", Cond.fieldLink RX2 51 "FloppyDesk$Reader" "fieldBytes" "I", Cond.fieldLink RX2 54 "FloppyDesk$Reader" "fieldCheck" "I", Cond.static yX5_checkWith, Cond.initialized RX5, Cond.code yX5_checkWith cX5_checkWith 4 (some .int), Cond.constant RX5 124 (65536), Cond.constant RX5 125 (65535), Cond.methodLink RX2 42 yX2_addToField, Cond.instanceMethod yX2_addToField, Cond.selects RX2 yX2_addToField yX2_addToField, Cond.code yX2_addToField cX2_addToField 2 (some .int), Cond.fieldLink RX2 11 "FloppyDesk$Reader" "dataSize" "I"]
def wsX0_readOneCell_r3 : List Cond := [Cond.fieldLink RX2 68 "FloppyDesk$Reader" "idLength" "I", Cond.methodLink RX2 61 yX2_keepIdByte, Cond.instanceMethod yX2_keepIdByte, Cond.selects RX2 yX2_keepIdByte yX2_keepIdByte, Cond.code yX2_keepIdByte cX2_keepIdByte 1 none, Cond.fieldLink RX2 71 "FloppyDesk$Reader" "idTrack" "I", Cond.fieldLink RX2 74 "FloppyDesk$Reader" "idSector" "I", Cond.methodLink RX2 64 yX2_isCheckRight, Cond.instanceMethod yX2_isCheckRight, Cond.selects RX2 yX2_isCheckRight yX2_isCheckRight, Cond.code yX2_isCheckRight cX2_isCheckRight 1 (some .boolean), Cond.methodLink RX0 118 yX0_meetFieldStart, Cond.instanceMethod yX0_meetFieldStart, Cond.selects RX0 yX0_meetFieldStart yX0_meetFieldStart, Cond.initialized RX0, Cond.code yX0_meetFieldStart cX0_meetFieldStart 1 none, Cond.fieldLink RX0 26 "FloppyDesk$Controller" "latest" "I", Cond.fieldLink RX0 70 "FloppyDesk$Controller" "phase" "I", Cond.fieldLink RX0 30 "FloppyDesk$Controller" "status" "I", Cond.methodLink RX0 127 yX2_isLatestFieldId, Cond.instanceMethod yX2_isLatestFieldId, Cond.selects RX2 yX2_isLatestFieldId yX2_isLatestFieldId, Cond.code yX2_isLatestFieldId cX2_isLatestFieldId 1 (some .boolean), Cond.methodLink RX0 121 yX0_meetFieldByte]
def wsX0_readOneCell_r4 : List Cond := [Cond.instanceMethod yX0_meetFieldByte, Cond.selects RX0 yX0_meetFieldByte yX0_meetFieldByte, Cond.code yX0_meetFieldByte cX0_meetFieldByte 1 none, Cond.fieldLink RX0 33 "FloppyDesk$Controller" "data" "I", Cond.methodLink RX0 133 yX2_isLatestByteOfCheck, Cond.instanceMethod yX2_isLatestByteOfCheck, Cond.selects RX2 yX2_isLatestByteOfCheck yX2_isLatestByteOfCheck, Cond.code yX2_isLatestByteOfCheck cX2_isLatestByteOfCheck 1 (some .boolean), Cond.methodLink RX2 77 yX2_isLatestFieldId, Cond.methodLink RX0 36 yX0_has, Cond.instanceMethod yX0_has, Cond.selects RX0 yX0_has yX0_has, Cond.code yX0_has cX0_has 2 (some .boolean), Cond.methodLink RX0 124 yX0_meetFieldEnd, Cond.instanceMethod yX0_meetFieldEnd, Cond.selects RX0 yX0_meetFieldEnd yX0_meetFieldEnd, Cond.code yX0_meetFieldEnd cX0_meetFieldEnd 1 none, Cond.methodLink RX0 139 yX0_endReading, Cond.instanceMethod yX0_endReading, Cond.selects RX0 yX0_endReading yX0_endReading, Cond.code yX0_endReading cX0_endReading 1 none, Cond.fieldLink RX0 148 "FloppyDesk$Controller" "sector" "I", Cond.methodLink RX0 151 yX2_isCheckRight, Cond.methodLink RX0 76 yX0_end]
def wsX0_readOneCell_r5 : List Cond := [Cond.instanceMethod yX0_end, Cond.selects RX0 yX0_end yX0_end, Cond.code yX0_end cX0_end 1 none, Cond.methodLink RX0 73 yX2_forgetWindow, Cond.instanceMethod yX2_forgetWindow, Cond.selects RX2 yX2_forgetWindow yX2_forgetWindow, Cond.code yX2_forgetWindow cX2_forgetWindow 1 none, Cond.methodLink RX0 142 yX0_compareId, Cond.instanceMethod yX0_compareId, Cond.selects RX0 yX0_compareId yX0_compareId, Cond.code yX0_compareId cX0_compareId 1 none, Cond.fieldLink RX0 58 "FloppyDesk$Controller" "track" "I", Cond.fieldLink RX0 44 "FloppyDesk$Controller" "byteTimes" "I"]
def wsX0_readOneCell : List Cond := .code yX0_readOneCell cX0_readOneCell 2 none :: ((wsX0_readOneCell_r1 ++ (wsX0_readOneCell_r2 ++ (wsX0_readOneCell_r3 ++ (wsX0_readOneCell_r4 ++ wsX0_readOneCell_r5)))) ++ wsX00 ++ wsX10 ++ wsX20)
def wsX1_turnByOneCell : List Cond := .code yX1_turnByOneCell cX1_turnByOneCell 1 (some .boolean) :: ([.fieldLink RX1 20 "FloppyDesk$Disk" "place" "I"] ++ wsX10)
def wsX4_start : List Cond := .code yX4_start cX4_start 1 none :: ([.fieldLink RX4 9 "FloppyDesk$Writer" "cellsLeft" "I", .fieldLink RX4 15 "FloppyDesk$Writer" "lastBit" "I", .constant RX4 18 (65535), .fieldLink RX4 19 "FloppyDesk$Writer" "check" "I", .fieldLink RX4 22 "FloppyDesk$Writer" "count" "I", .fieldLink RX4 25 "FloppyDesk$Writer" "isBehindMark" "Z", .fieldLink RX4 29 "FloppyDesk$Writer" "isLowCheckDue" "Z"] ++ wsX40)
def wsX0_startWritingIfServed_r1 : List Cond := [Cond.fieldLink RX0 70 "FloppyDesk$Controller" "phase" "I", Cond.fieldLink RX0 15 "FloppyDesk$Controller" "reader" "LFloppyDesk$Reader;", Cond.fieldLink RX0 22 "FloppyDesk$Controller" "writer" "LFloppyDesk$Writer;", Cond.methodLink RX0 36 yX0_has, Cond.instanceMethod yX0_has, Cond.selects RX0 yX0_has yX0_has, Cond.initialized RX0, Cond.code yX0_has cX0_has 2 (some .boolean), Cond.fieldLink RX0 30 "FloppyDesk$Controller" "status" "I", Cond.methodLink RX0 66 yX0_endWith, Cond.instanceMethod yX0_endWith, Cond.selects RX0 yX0_endWith yX0_endWith, Cond.code yX0_endWith cX0_endWith 2 none, Cond.methodLink RX0 76 yX0_end, Cond.instanceMethod yX0_end, Cond.selects RX0 yX0_end yX0_end, Cond.code yX0_end cX0_end 1 none, Cond.methodLink RX0 73 yX2_forgetWindow, Cond.instanceMethod yX2_forgetWindow, Cond.selects RX2 yX2_forgetWindow yX2_forgetWindow, Cond.initialized RX2, Cond.code yX2_forgetWindow cX2_forgetWindow 1 none, Cond.fieldLink RX2 25 "FloppyDesk$Reader" "window" "I", Cond.methodLink RX0 50 yX2_reset]
def wsX0_startWritingIfServed_r2 : List Cond := [Cond.instanceMethod yX2_reset, Cond.selects RX2 yX2_reset yX2_reset, Cond.code yX2_reset cX2_reset 1 none, Cond.fieldLink RX2 15 "FloppyDesk$Reader" "inStep" "Z", Cond.fieldLink RX2 19 "FloppyDesk$Reader" "marks" "I", Cond.fieldLink RX2 22 "FloppyDesk$Reader" "field" "I", Cond.methodLink RX0 107 yX4_start, Cond.instanceMethod yX4_start, Cond.selects RX4 yX4_start yX4_start, Cond.initialized RX4, Cond.code yX4_start cX4_start 1 none, Cond.fieldLink RX4 9 "FloppyDesk$Writer" "cellsLeft" "I", Cond.fieldLink RX4 15 "FloppyDesk$Writer" "lastBit" "I", Cond.constant RX4 18 (65535), Cond.fieldLink RX4 19 "FloppyDesk$Writer" "check" "I", Cond.fieldLink RX4 22 "FloppyDesk$Writer" "count" "I", Cond.fieldLink RX4 25 "FloppyDesk$Writer" "isBehindMark" "Z", Cond.fieldLink RX4 29 "FloppyDesk$Writer" "isLowCheckDue" "Z"]
def wsX0_startWritingIfServed : List Cond := .code yX0_startWritingIfServed cX0_startWritingIfServed 1 none :: ((wsX0_startWritingIfServed_r1 ++ wsX0_startWritingIfServed_r2) ++ wsX00 ++ wsX20 ++ wsX40)
def wsX0_meetIndex_r1 : List Cond := [Cond.fieldLink RX0 47 "FloppyDesk$Controller" "indexes" "I", Cond.fieldLink RX0 70 "FloppyDesk$Controller" "phase" "I", Cond.fieldLink RX0 26 "FloppyDesk$Controller" "latest" "I", Cond.methodLink RX0 95 yX0_startWritingIfServed, Cond.instanceMethod yX0_startWritingIfServed, Cond.selects RX0 yX0_startWritingIfServed yX0_startWritingIfServed, Cond.initialized RX0, Cond.code yX0_startWritingIfServed cX0_startWritingIfServed 1 none, Cond.fieldLink RX0 15 "FloppyDesk$Controller" "reader" "LFloppyDesk$Reader;", Cond.fieldLink RX0 22 "FloppyDesk$Controller" "writer" "LFloppyDesk$Writer;", Cond.methodLink RX0 36 yX0_has, Cond.instanceMethod yX0_has, Cond.selects RX0 yX0_has yX0_has, Cond.code yX0_has cX0_has 2 (some .boolean), Cond.fieldLink RX0 30 "FloppyDesk$Controller" "status" "I", Cond.methodLink RX0 66 yX0_endWith, Cond.instanceMethod yX0_endWith, Cond.selects RX0 yX0_endWith yX0_endWith, Cond.code yX0_endWith cX0_endWith 2 none, Cond.methodLink RX0 76 yX0_end, Cond.instanceMethod yX0_end, Cond.selects RX0 yX0_end yX0_end, Cond.code yX0_end cX0_end 1 none, Cond.methodLink RX0 73 yX2_forgetWindow]
def wsX0_meetIndex_r2 : List Cond := [Cond.instanceMethod yX2_forgetWindow, Cond.selects RX2 yX2_forgetWindow yX2_forgetWindow, Cond.initialized RX2, Cond.code yX2_forgetWindow cX2_forgetWindow 1 none, Cond.fieldLink RX2 25 "FloppyDesk$Reader" "window" "I", Cond.methodLink RX0 50 yX2_reset, Cond.instanceMethod yX2_reset, Cond.selects RX2 yX2_reset yX2_reset, Cond.code yX2_reset cX2_reset 1 none, Cond.fieldLink RX2 15 "FloppyDesk$Reader" "inStep" "Z", Cond.fieldLink RX2 19 "FloppyDesk$Reader" "marks" "I", Cond.fieldLink RX2 22 "FloppyDesk$Reader" "field" "I", Cond.methodLink RX0 107 yX4_start, Cond.instanceMethod yX4_start, Cond.selects RX4 yX4_start yX4_start, Cond.initialized RX4, Cond.code yX4_start cX4_start 1 none, Cond.fieldLink RX4 9 "FloppyDesk$Writer" "cellsLeft" "I", Cond.fieldLink RX4 15 "FloppyDesk$Writer" "lastBit" "I", Cond.constant RX4 18 (65535), Cond.fieldLink RX4 19 "FloppyDesk$Writer" "check" "I", Cond.fieldLink RX4 22 "FloppyDesk$Writer" "count" "I", Cond.fieldLink RX4 25 "FloppyDesk$Writer" "isBehindMark" "Z", Cond.fieldLink RX4 29 "FloppyDesk$Writer" "isLowCheckDue" "Z"]
def wsX0_meetIndex : List Cond := .code yX0_meetIndex cX0_meetIndex 1 none :: ((wsX0_meetIndex_r1 ++ wsX0_meetIndex_r2) ++ wsX00 ++ wsX20 ++ wsX40)
def wsX1_moveHead : List Cond := .code yX1_moveHead cX1_moveHead 3 none :: ([.fieldLink RX1 16 "FloppyDesk$Disk" "headTrack" "I"] ++ wsX10)
def wsX0_moveOneTrack : List Cond := .code yX0_moveOneTrack cX0_moveOneTrack 2 none :: ([.fieldLink RX0 26 "FloppyDesk$Controller" "latest" "I", .fieldLink RX0 9 "FloppyDesk$Controller" "disk" "LFloppyDesk$Disk;", .fieldLink RX0 58 "FloppyDesk$Controller" "track" "I", .fieldLink RX0 33 "FloppyDesk$Controller" "data" "I", .methodLink RX0 76 yX0_end, .instanceMethod yX0_end, .selects RX0 yX0_end yX0_end, .initialized RX0, .code yX0_end cX0_end 1 none, .fieldLink RX0 30 "FloppyDesk$Controller" "status" "I", .fieldLink RX0 70 "FloppyDesk$Controller" "phase" "I", .fieldLink RX0 15 "FloppyDesk$Controller" "reader" "LFloppyDesk$Reader;", .methodLink RX0 73 yX2_forgetWindow, .instanceMethod yX2_forgetWindow, .selects RX2 yX2_forgetWindow yX2_forgetWindow, .initialized RX2, .code yX2_forgetWindow cX2_forgetWindow 1 none, .fieldLink RX2 25 "FloppyDesk$Reader" "window" "I", .methodLink RX0 104 yX1_moveHead, .instanceMethod yX1_moveHead, .selects RX1 yX1_moveHead yX1_moveHead, .initialized RX1, .code yX1_moveHead cX1_moveHead 3 none, .fieldLink RX1 16 "FloppyDesk$Disk" "headTrack" "I"] ++ wsX00 ++ wsX10 ++ wsX20)
def wsX0_endByteTime_r1 : List Cond := [Cond.fieldLink RX0 44 "FloppyDesk$Controller" "byteTimes" "I", Cond.fieldLink RX0 70 "FloppyDesk$Controller" "phase" "I", Cond.methodLink RX0 98 yX0_moveOneTrack, Cond.instanceMethod yX0_moveOneTrack, Cond.selects RX0 yX0_moveOneTrack yX0_moveOneTrack, Cond.initialized RX0, Cond.code yX0_moveOneTrack cX0_moveOneTrack 2 none, Cond.fieldLink RX0 26 "FloppyDesk$Controller" "latest" "I", Cond.fieldLink RX0 9 "FloppyDesk$Controller" "disk" "LFloppyDesk$Disk;", Cond.fieldLink RX0 58 "FloppyDesk$Controller" "track" "I", Cond.fieldLink RX0 33 "FloppyDesk$Controller" "data" "I", Cond.methodLink RX0 76 yX0_end, Cond.instanceMethod yX0_end, Cond.selects RX0 yX0_end yX0_end, Cond.code yX0_end cX0_end 1 none, Cond.fieldLink RX0 30 "FloppyDesk$Controller" "status" "I", Cond.fieldLink RX0 15 "FloppyDesk$Controller" "reader" "LFloppyDesk$Reader;", Cond.methodLink RX0 73 yX2_forgetWindow, Cond.instanceMethod yX2_forgetWindow, Cond.selects RX2 yX2_forgetWindow yX2_forgetWindow, Cond.initialized RX2, Cond.code yX2_forgetWindow cX2_forgetWindow 1 none, Cond.fieldLink RX2 25 "FloppyDesk$Reader" "window" "I", Cond.methodLink RX0 104 yX1_moveHead]
def wsX0_endByteTime_r2 : List Cond := [Cond.instanceMethod yX1_moveHead, Cond.selects RX1 yX1_moveHead yX1_moveHead, Cond.initialized RX1, Cond.code yX1_moveHead cX1_moveHead 3 none, Cond.fieldLink RX1 16 "FloppyDesk$Disk" "headTrack" "I", Cond.methodLink RX0 95 yX0_startWritingIfServed, Cond.instanceMethod yX0_startWritingIfServed, Cond.selects RX0 yX0_startWritingIfServed yX0_startWritingIfServed, Cond.code yX0_startWritingIfServed cX0_startWritingIfServed 1 none, Cond.fieldLink RX0 22 "FloppyDesk$Controller" "writer" "LFloppyDesk$Writer;", Cond.methodLink RX0 36 yX0_has, Cond.instanceMethod yX0_has, Cond.selects RX0 yX0_has yX0_has, Cond.code yX0_has cX0_has 2 (some .boolean), Cond.methodLink RX0 66 yX0_endWith, Cond.instanceMethod yX0_endWith, Cond.selects RX0 yX0_endWith yX0_endWith, Cond.code yX0_endWith cX0_endWith 2 none, Cond.methodLink RX0 50 yX2_reset, Cond.instanceMethod yX2_reset, Cond.selects RX2 yX2_reset yX2_reset, Cond.code yX2_reset cX2_reset 1 none, Cond.fieldLink RX2 15 "FloppyDesk$Reader" "inStep" "Z", Cond.fieldLink RX2 19 "FloppyDesk$Reader" "marks" "I"]
def wsX0_endByteTime_r3 : List Cond := [Cond.fieldLink RX2 22 "FloppyDesk$Reader" "field" "I", Cond.methodLink RX0 107 yX4_start, Cond.instanceMethod yX4_start, Cond.selects RX4 yX4_start yX4_start, Cond.initialized RX4, Cond.code yX4_start cX4_start 1 none, Cond.fieldLink RX4 9 "FloppyDesk$Writer" "cellsLeft" "I", Cond.fieldLink RX4 15 "FloppyDesk$Writer" "lastBit" "I", Cond.constant RX4 18 (65535), Cond.fieldLink RX4 19 "FloppyDesk$Writer" "check" "I", Cond.fieldLink RX4 22 "FloppyDesk$Writer" "count" "I", Cond.fieldLink RX4 25 "FloppyDesk$Writer" "isBehindMark" "Z", Cond.fieldLink RX4 29 "FloppyDesk$Writer" "isLowCheckDue" "Z"]
def wsX0_endByteTime : List Cond := .code yX0_endByteTime cX0_endByteTime 1 none :: ((wsX0_endByteTime_r1 ++ (wsX0_endByteTime_r2 ++ wsX0_endByteTime_r3)) ++ wsX00 ++ wsX10 ++ wsX20 ++ wsX40)
def wsX0_passByteTime_r1 : List Cond := [Cond.fieldLink RX0 70 "FloppyDesk$Controller" "phase" "I", Cond.fieldLink RX0 9 "FloppyDesk$Controller" "disk" "LFloppyDesk$Disk;", Cond.methodLink RX0 79 yX0_writeOneCell, Cond.instanceMethod yX0_writeOneCell, Cond.selects RX0 yX0_writeOneCell yX0_writeOneCell, Cond.initialized RX0, Cond.code yX0_writeOneCell cX0_writeOneCell 2 none, Cond.fieldLink RX0 22 "FloppyDesk$Controller" "writer" "LFloppyDesk$Writer;", Cond.fieldLink RX0 26 "FloppyDesk$Controller" "latest" "I", Cond.fieldLink RX0 15 "FloppyDesk$Controller" "reader" "LFloppyDesk$Reader;", Cond.methodLink RX0 160 yX0_putNextOfTrack, Cond.instanceMethod yX0_putNextOfTrack, Cond.selects RX0 yX0_putNextOfTrack yX0_putNextOfTrack, Cond.code yX0_putNextOfTrack cX0_putNextOfTrack 2 none, Cond.fieldLink RX0 30 "FloppyDesk$Controller" "status" "I", Cond.methodLink RX0 181 yX4_putHalfOfCheck, Cond.instanceMethod yX4_putHalfOfCheck, Cond.selects RX4 yX4_putHalfOfCheck yX4_putHalfOfCheck, Cond.initialized RX4, Cond.code yX4_putHalfOfCheck cX4_putHalfOfCheck 2 none, Cond.fieldLink RX4 29 "FloppyDesk$Writer" "isLowCheckDue" "Z", Cond.fieldLink RX4 19 "FloppyDesk$Writer" "check" "I", Cond.methodLink RX4 40 yX4_putUnchecked, Cond.instanceMethod yX4_putUnchecked]
def wsX0_passByteTime_r2 : List Cond := [Cond.selects RX4 yX4_putUnchecked yX4_putUnchecked, Cond.code yX4_putUnchecked cX4_putUnchecked 6 none, Cond.fieldLink RX4 15 "FloppyDesk$Writer" "lastBit" "I", Cond.fieldLink RX4 25 "FloppyDesk$Writer" "isBehindMark" "Z", Cond.methodLink RX4 36 yX4_putWord, Cond.instanceMethod yX4_putWord, Cond.selects RX4 yX4_putWord yX4_putWord, Cond.code yX4_putWord cX4_putWord 2 none, Cond.fieldLink RX4 43 "FloppyDesk$Writer" "word" "I", Cond.fieldLink RX4 9 "FloppyDesk$Writer" "cellsLeft" "I", Cond.fieldLink RX4 22 "FloppyDesk$Writer" "count" "I", Cond.methodLink RX0 184 yX0_askForByte, Cond.instanceMethod yX0_askForByte, Cond.selects RX0 yX0_askForByte yX0_askForByte, Cond.code yX0_askForByte cX0_askForByte 1 (some .int), Cond.fieldLink RX0 33 "FloppyDesk$Controller" "data" "I", Cond.methodLink RX0 36 yX0_has, Cond.instanceMethod yX0_has, Cond.selects RX0 yX0_has yX0_has, Cond.code yX0_has cX0_has 2 (some .boolean), Cond.methodLink RX0 187 yX4_putMark, Cond.instanceMethod yX4_putMark, Cond.selects RX4 yX4_putMark yX4_putMark, Cond.code yX4_putMark cX4_putMark 1 none]
def wsX0_passByteTime_r3 : List Cond := [Cond.constant RX4 18 (65535), Cond.static yX5_checkWith, Cond.initialized RX5, Cond.code yX5_checkWith cX5_checkWith 4 (some .int), Cond.constant RX5 124 (65536), Cond.constant RX5 125 (65535), Cond.methodLink RX0 190 yX4_putByte, Cond.instanceMethod yX4_putByte, Cond.selects RX4 yX4_putByte yX4_putByte, Cond.code yX4_putByte cX4_putByte 2 none, Cond.methodLink RX0 163 yX0_putNextOfSector, Cond.instanceMethod yX0_putNextOfSector, Cond.selects RX0 yX0_putNextOfSector yX0_putNextOfSector, Cond.code yX0_putNextOfSector cX0_putNextOfSector 3 none, Cond.fieldLink RX0 40 "FloppyDesk$Controller" "writesDeleted" "Z", Cond.methodLink RX0 166 yX4_nextCell, Cond.instanceMethod yX4_nextCell, Cond.selects RX4 yX4_nextCell yX4_nextCell, Cond.code yX4_nextCell cX4_nextCell 1 (some .int), Cond.methodLink RX0 169 yX1_writeUnderHead, Cond.instanceMethod yX1_writeUnderHead, Cond.selects RX1 yX1_writeUnderHead yX1_writeUnderHead, Cond.initialized RX1, Cond.code yX1_writeUnderHead cX1_writeUnderHead 2 none]
def wsX0_passByteTime_r4 : List Cond := [Cond.fieldLink RX1 16 "FloppyDesk$Disk" "headTrack" "I", Cond.fieldLink RX1 20 "FloppyDesk$Disk" "place" "I", Cond.methodLink RX1 27 yX1_cellUnderHead, Cond.instanceMethod yX1_cellUnderHead, Cond.selects RX1 yX1_cellUnderHead yX1_cellUnderHead, Cond.code yX1_cellUnderHead cX1_cellUnderHead 1 (some .int), Cond.methodLink RX1 23 yX1_wordAt, Cond.instanceMethod yX1_wordAt, Cond.selects RX1 yX1_wordAt yX1_wordAt, Cond.code yX1_wordAt cX1_wordAt 3 (some .int), Cond.fieldLink RX1 9 "FloppyDesk$Disk" "words" "[I", Cond.methodLink RX1 31 yX1_turnOver, Cond.instanceMethod yX1_turnOver, Cond.selects RX1 yX1_turnOver yX1_turnOver, Cond.code yX1_turnOver cX1_turnOver 3 (some .boolean), Cond.constant RX1 15 (32768), Cond.methodLink RX0 76 yX0_end, Cond.instanceMethod yX0_end, Cond.selects RX0 yX0_end yX0_end, Cond.code yX0_end cX0_end 1 none, Cond.methodLink RX0 73 yX2_forgetWindow, Cond.instanceMethod yX2_forgetWindow, Cond.selects RX2 yX2_forgetWindow yX2_forgetWindow, Cond.initialized RX2]
def wsX0_passByteTime_r5 : List Cond := [Cond.code yX2_forgetWindow cX2_forgetWindow 1 none, Cond.fieldLink RX2 25 "FloppyDesk$Reader" "window" "I", Cond.methodLink RX0 82 yX0_readOneCell, Cond.instanceMethod yX0_readOneCell, Cond.selects RX0 yX0_readOneCell yX0_readOneCell, Cond.code yX0_readOneCell cX0_readOneCell 2 none, Cond.methodLink RX0 110 yX1_cellUnderHead, Cond.methodLink RX0 114 yX2_readCell, Cond.instanceMethod yX2_readCell, Cond.selects RX2 yX2_readCell yX2_readCell, Cond.code yX2_readCell cX2_readCell 2 (some .int), Cond.constant RX2 28 (65535), Cond.fieldLink RX2 15 "FloppyDesk$Reader" "inStep" "Z", Cond.fieldLink RX2 22 "FloppyDesk$Reader" "field" "I", Cond.fieldLink RX2 19 "FloppyDesk$Reader" "marks" "I", Cond.fieldLink RX2 29 "FloppyDesk$Reader" "cellsSince" "I", Cond.fieldLink RX2 36 "FloppyDesk$Reader" "latestByte" "I", Cond.methodLink RX2 32 yX2_byteInWindow, Cond.instanceMethod yX2_byteInWindow, Cond.selects RX2 yX2_byteInWindow yX2_byteInWindow, Cond.code yX2_byteInWindow cX2_byteInWindow 3 (some .int), Cond.methodLink RX2 39 yX2_beginField, Cond.instanceMethod yX2_beginField, Cond.selects RX2 yX2_beginField yX2_beginField]
def wsX0_passByteTime_r6 : List Cond := [Cond.code yX2_beginField cX2_beginField 3 (some .int), Cond.fieldLink RX2 45 "FloppyDesk$Reader" "latestField" "I", Cond.fieldLink RX2 48 "FloppyDesk$Reader" "fieldStart" "I", Cond.fieldLink RX2 51 "FloppyDesk$Reader" "fieldBytes" "I", Cond.fieldLink RX2 54 "FloppyDesk$Reader" "fieldCheck" "I", Cond.methodLink RX2 42 yX2_addToField, Cond.instanceMethod yX2_addToField, Cond.selects RX2 yX2_addToField yX2_addToField, Cond.code yX2_addToField cX2_addToField 2 (some .int), Cond.fieldLink RX2 11 "FloppyDesk$Reader" "dataSize" "I", Cond.fieldLink RX2 68 "FloppyDesk$Reader" "idLength" "I", Cond.methodLink RX2 61 yX2_keepIdByte, Cond.instanceMethod yX2_keepIdByte, Cond.selects RX2 yX2_keepIdByte yX2_keepIdByte, Cond.code yX2_keepIdByte cX2_keepIdByte 1 none, Cond.fieldLink RX2 71 "FloppyDesk$Reader" "idTrack" "I", Cond.fieldLink RX2 74 "FloppyDesk$Reader" "idSector" "I", Cond.methodLink RX2 64 yX2_isCheckRight, Cond.instanceMethod yX2_isCheckRight, Cond.selects RX2 yX2_isCheckRight yX2_isCheckRight, Cond.code yX2_isCheckRight cX2_isCheckRight 1 (some .boolean), Cond.methodLink RX0 118 yX0_meetFieldStart, Cond.instanceMethod yX0_meetFieldStart, Cond.selects RX0 yX0_meetFieldStart yX0_meetFieldStart]
def wsX0_passByteTime_r7 : List Cond := [Cond.code yX0_meetFieldStart cX0_meetFieldStart 1 none, Cond.methodLink RX0 127 yX2_isLatestFieldId, Cond.instanceMethod yX2_isLatestFieldId, Cond.selects RX2 yX2_isLatestFieldId yX2_isLatestFieldId, Cond.code yX2_isLatestFieldId cX2_isLatestFieldId 1 (some .boolean), Cond.methodLink RX0 121 yX0_meetFieldByte, Cond.instanceMethod yX0_meetFieldByte, Cond.selects RX0 yX0_meetFieldByte yX0_meetFieldByte, Cond.code yX0_meetFieldByte cX0_meetFieldByte 1 none, Cond.methodLink RX0 133 yX2_isLatestByteOfCheck, Cond.instanceMethod yX2_isLatestByteOfCheck, Cond.selects RX2 yX2_isLatestByteOfCheck yX2_isLatestByteOfCheck, Cond.code yX2_isLatestByteOfCheck cX2_isLatestByteOfCheck 1 (some .boolean), Cond.methodLink RX2 77 yX2_isLatestFieldId, Cond.methodLink RX0 124 yX0_meetFieldEnd, Cond.instanceMethod yX0_meetFieldEnd, Cond.selects RX0 yX0_meetFieldEnd yX0_meetFieldEnd, Cond.code yX0_meetFieldEnd cX0_meetFieldEnd 1 none, Cond.methodLink RX0 139 yX0_endReading, Cond.instanceMethod yX0_endReading, Cond.selects RX0 yX0_endReading yX0_endReading, Cond.code yX0_endReading cX0_endReading 1 none, Cond.fieldLink RX0 148 "FloppyDesk$Controller" "sector" "I", Cond.methodLink RX0 151 yX2_isCheckRight]
def wsX0_passByteTime_r8 : List Cond := [Cond.methodLink RX0 142 yX0_compareId, Cond.instanceMethod yX0_compareId, Cond.selects RX0 yX0_compareId yX0_compareId, Cond.code yX0_compareId cX0_compareId 1 none, Cond.fieldLink RX0 58 "FloppyDesk$Controller" "track" "I", Cond.fieldLink RX0 44 "FloppyDesk$Controller" "byteTimes" "I", Cond.methodLink RX0 85 yX1_turnByOneCell, Cond.instanceMethod yX1_turnByOneCell, Cond.selects RX1 yX1_turnByOneCell yX1_turnByOneCell, Cond.code yX1_turnByOneCell cX1_turnByOneCell 1 (some .boolean), Cond.methodLink RX0 89 yX0_meetIndex, Cond.instanceMethod yX0_meetIndex, Cond.selects RX0 yX0_meetIndex yX0_meetIndex, Cond.code yX0_meetIndex cX0_meetIndex 1 none, Cond.fieldLink RX0 47 "FloppyDesk$Controller" "indexes" "I", Cond.methodLink RX0 95 yX0_startWritingIfServed, Cond.instanceMethod yX0_startWritingIfServed, Cond.selects RX0 yX0_startWritingIfServed yX0_startWritingIfServed, Cond.code yX0_startWritingIfServed cX0_startWritingIfServed 1 none, Cond.methodLink RX0 66 yX0_endWith, Cond.instanceMethod yX0_endWith, Cond.selects RX0 yX0_endWith yX0_endWith, Cond.code yX0_endWith cX0_endWith 2 none, Cond.methodLink RX0 50 yX2_reset]
def wsX0_passByteTime_r9 : List Cond := [Cond.instanceMethod yX2_reset, Cond.selects RX2 yX2_reset yX2_reset, Cond.code yX2_reset cX2_reset 1 none, Cond.methodLink RX0 107 yX4_start, Cond.instanceMethod yX4_start, Cond.selects RX4 yX4_start yX4_start, Cond.code yX4_start cX4_start 1 none, Cond.methodLink RX0 92 yX0_endByteTime, Cond.instanceMethod yX0_endByteTime, Cond.selects RX0 yX0_endByteTime yX0_endByteTime, Cond.code yX0_endByteTime cX0_endByteTime 1 none, Cond.methodLink RX0 98 yX0_moveOneTrack, Cond.instanceMethod yX0_moveOneTrack, Cond.selects RX0 yX0_moveOneTrack yX0_moveOneTrack, Cond.code yX0_moveOneTrack cX0_moveOneTrack 2 none, Cond.methodLink RX0 104 yX1_moveHead, Cond.instanceMethod yX1_moveHead, Cond.selects RX1 yX1_moveHead yX1_moveHead, Cond.code yX1_moveHead cX1_moveHead 3 none]
def wsX0_passByteTime : List Cond := .code yX0_passByteTime cX0_passByteTime 3 (some .boolean) :: ((wsX0_passByteTime_r1 ++ (wsX0_passByteTime_r2 ++ (wsX0_passByteTime_r3 ++ (wsX0_passByteTime_r4 ++ (wsX0_passByteTime_r5 ++ (wsX0_passByteTime_r6 ++ (wsX0_passByteTime_r7 ++ (wsX0_passByteTime_r8 ++ wsX0_passByteTime_r9)))))))) ++ wsX00 ++ wsX40 ++ wsX20 ++ wsX10)
def wsX1_init : List Cond := .code yX1_init cX1_init 1 none :: ([.methodLink RX1 3 objectInit, .instanceMethod objectInit, .code objectInit ⟨#[0xb1]⟩ 1 none, .arrayClass .int, .fieldLink RX1 9 "FloppyDesk$Disk" "words" "[I"] ++ wsX10)
def wsX2_init : List Cond := .code yX2_init cX2_init 1 none :: ([.methodLink RX2 3 objectInit, .instanceMethod objectInit, .code objectInit ⟨#[0xb1]⟩ 1 none, .fieldLink RX2 11 "FloppyDesk$Reader" "dataSize" "I"] ++ wsX20)
def wsX3_init : List Cond := .code yX3_init cX3_init 1 none :: ([.methodLink RX3 3 objectInit, .instanceMethod objectInit, .code objectInit ⟨#[0xb1]⟩ 1 none, .arrayClass .int, .fieldLink RX3 11 "FloppyDesk$Store" "bytes" "[I"] ++ wsX30)
def wsX3_makeEmpty : List Cond := .code yX3_makeEmpty cX3_makeEmpty 1 none :: ([.fieldLink RX3 15 "FloppyDesk$Store" "size" "I", .fieldLink RX3 19 "FloppyDesk$Store" "next" "I"] ++ wsX30)
def wsX3_hasRoomFor : List Cond := .code yX3_hasRoomFor cX3_hasRoomFor 2 (some .boolean) :: ([.fieldLink RX3 15 "FloppyDesk$Store" "size" "I"] ++ wsX30)
def wsX3_append : List Cond := .code yX3_append cX3_append 2 none :: ([.fieldLink RX3 15 "FloppyDesk$Store" "size" "I", .fieldLink RX3 11 "FloppyDesk$Store" "bytes" "[I"] ++ wsX30)
def wsX3_byteAt : List Cond := .code yX3_byteAt cX3_byteAt 2 (some .int) :: ([.fieldLink RX3 15 "FloppyDesk$Store" "size" "I", .fieldLink RX3 11 "FloppyDesk$Store" "bytes" "[I"] ++ wsX30)
def wsX3_nextByte : List Cond := .code yX3_nextByte cX3_nextByte 2 (some .int) :: ([.fieldLink RX3 19 "FloppyDesk$Store" "next" "I", .methodLink RX3 22 yX3_byteAt, .instanceMethod yX3_byteAt, .selects RX3 yX3_byteAt yX3_byteAt, .initialized RX3, .code yX3_byteAt cX3_byteAt 2 (some .int), .fieldLink RX3 15 "FloppyDesk$Store" "size" "I", .fieldLink RX3 11 "FloppyDesk$Store" "bytes" "[I"] ++ wsX30)
def wsX5_init_r1 : List Cond := [Cond.methodLink RX5 1 objectInit, Cond.instanceMethod objectInit, Cond.code objectInit ⟨#[0xb1]⟩ 1 none, Cond.classLink RX5 7 RX1, Cond.instantiable RX1 4, Cond.initialized RX1, Cond.fieldLink RX5 10 "FloppyDesk" "disk" "LFloppyDesk$Disk;", Cond.classLink RX5 16 RX2, Cond.instantiable RX2 14, Cond.initialized RX2, Cond.fieldLink RX5 19 "FloppyDesk" "reader" "LFloppyDesk$Reader;", Cond.classLink RX5 23 RX0, Cond.instantiable RX0 12, Cond.initialized RX0, Cond.fieldLink RX5 28 "FloppyDesk" "controller" "LFloppyDesk$Controller;", Cond.classLink RX5 32 RX3, Cond.instantiable RX3 3, Cond.initialized RX3, Cond.fieldLink RX5 35 "FloppyDesk" "store" "LFloppyDesk$Store;", Cond.methodLink RX5 9 yX1_init, Cond.instanceMethod yX1_init, Cond.code yX1_init cX1_init 1 none, Cond.methodLink RX1 3 objectInit, Cond.arrayClass .int]
def wsX5_init_r2 : List Cond := [Cond.fieldLink RX1 9 "FloppyDesk$Disk" "words" "[I", Cond.methodLink RX5 18 yX2_init, Cond.instanceMethod yX2_init, Cond.code yX2_init cX2_init 1 none, Cond.methodLink RX2 3 objectInit, Cond.fieldLink RX2 11 "FloppyDesk$Reader" "dataSize" "I", Cond.methodLink RX5 25 yX0_init, Cond.instanceMethod yX0_init, Cond.code yX0_init cX0_init 3 none, Cond.methodLink RX0 3 objectInit, Cond.fieldLink RX0 9 "FloppyDesk$Controller" "disk" "LFloppyDesk$Disk;", Cond.fieldLink RX0 15 "FloppyDesk$Controller" "reader" "LFloppyDesk$Reader;", Cond.classLink RX0 19 RX4, Cond.instantiable RX4 7, Cond.initialized RX4, Cond.fieldLink RX0 22 "FloppyDesk$Controller" "writer" "LFloppyDesk$Writer;", Cond.fieldLink RX0 26 "FloppyDesk$Controller" "latest" "I", Cond.instanceMethod yX4_init, Cond.code yX4_init cX4_init 1 none, Cond.methodLink RX4 3 objectInit, Cond.methodLink RX5 34 yX3_init, Cond.instanceMethod yX3_init, Cond.code yX3_init cX3_init 1 none, Cond.methodLink RX3 3 objectInit]
def wsX5_init_r3 : List Cond := [Cond.fieldLink RX3 11 "FloppyDesk$Store" "bytes" "[I"]
def wsX5_init : List Cond := .code yX5_init cX5_init 1 none :: ((wsX5_init_r1 ++ (wsX5_init_r2 ++ wsX5_init_r3)) ++ wsX10 ++ wsX50 ++ wsX20 ++ wsX00 ++ wsX30 ++ wsX40)
def wsX5_command_r1 : List Cond := [Cond.fieldLink RX5 28 "FloppyDesk" "controller" "LFloppyDesk$Controller;", Cond.methodLink RX5 39 yX0_begin, Cond.instanceMethod yX0_begin, Cond.selects RX0 yX0_begin yX0_begin, Cond.initialized RX0, Cond.code yX0_begin cX0_begin 3 (some .boolean), Cond.fieldLink RX0 26 "FloppyDesk$Controller" "latest" "I", Cond.fieldLink RX0 40 "FloppyDesk$Controller" "writesDeleted" "Z", Cond.fieldLink RX0 30 "FloppyDesk$Controller" "status" "I", Cond.fieldLink RX0 44 "FloppyDesk$Controller" "byteTimes" "I", Cond.fieldLink RX0 47 "FloppyDesk$Controller" "indexes" "I", Cond.fieldLink RX0 15 "FloppyDesk$Controller" "reader" "LFloppyDesk$Reader;", Cond.fieldLink RX0 58 "FloppyDesk$Controller" "track" "I", Cond.fieldLink RX0 33 "FloppyDesk$Controller" "data" "I", Cond.fieldLink RX0 9 "FloppyDesk$Controller" "disk" "LFloppyDesk$Disk;", Cond.fieldLink RX0 70 "FloppyDesk$Controller" "phase" "I", Cond.methodLink RX0 36 yX0_has, Cond.instanceMethod yX0_has, Cond.selects RX0 yX0_has yX0_has, Cond.code yX0_has cX0_has 2 (some .boolean), Cond.methodLink RX0 50 yX2_reset, Cond.instanceMethod yX2_reset, Cond.selects RX2 yX2_reset yX2_reset, Cond.initialized RX2]
def wsX5_command_r2 : List Cond := [Cond.code yX2_reset cX2_reset 1 none, Cond.fieldLink RX2 15 "FloppyDesk$Reader" "inStep" "Z", Cond.fieldLink RX2 19 "FloppyDesk$Reader" "marks" "I", Cond.fieldLink RX2 22 "FloppyDesk$Reader" "field" "I", Cond.methodLink RX0 55 yX2_forgetDataSize, Cond.instanceMethod yX2_forgetDataSize, Cond.selects RX2 yX2_forgetDataSize yX2_forgetDataSize, Cond.code yX2_forgetDataSize cX2_forgetDataSize 1 none, Cond.fieldLink RX2 11 "FloppyDesk$Reader" "dataSize" "I", Cond.methodLink RX0 66 yX0_endWith, Cond.instanceMethod yX0_endWith, Cond.selects RX0 yX0_endWith yX0_endWith, Cond.code yX0_endWith cX0_endWith 2 none, Cond.methodLink RX0 76 yX0_end, Cond.instanceMethod yX0_end, Cond.selects RX0 yX0_end yX0_end, Cond.code yX0_end cX0_end 1 none, Cond.methodLink RX0 73 yX2_forgetWindow, Cond.instanceMethod yX2_forgetWindow, Cond.selects RX2 yX2_forgetWindow yX2_forgetWindow, Cond.code yX2_forgetWindow cX2_forgetWindow 1 none, Cond.fieldLink RX2 25 "FloppyDesk$Reader" "window" "I"]
def wsX5_command : List Cond := .code yX5_command cX5_command 3 (some .boolean) :: ((wsX5_command_r1 ++ wsX5_command_r2) ++ wsX50 ++ wsX00 ++ wsX10 ++ wsX20)
def wsX5_force : List Cond := .code yX5_force cX5_force 1 (some .boolean) :: ([.fieldLink RX5 28 "FloppyDesk" "controller" "LFloppyDesk$Controller;", .methodLink RX5 43 yX0_has, .instanceMethod yX0_has, .selects RX0 yX0_has yX0_has, .initialized RX0, .code yX0_has cX0_has 2 (some .boolean), .fieldLink RX0 30 "FloppyDesk$Controller" "status" "I", .methodLink RX5 47 yX0_end, .instanceMethod yX0_end, .selects RX0 yX0_end yX0_end, .code yX0_end cX0_end 1 none, .fieldLink RX0 70 "FloppyDesk$Controller" "phase" "I", .fieldLink RX0 15 "FloppyDesk$Controller" "reader" "LFloppyDesk$Reader;", .methodLink RX0 73 yX2_forgetWindow, .instanceMethod yX2_forgetWindow, .selects RX2 yX2_forgetWindow yX2_forgetWindow, .initialized RX2, .code yX2_forgetWindow cX2_forgetWindow 1 none, .fieldLink RX2 25 "FloppyDesk$Reader" "window" "I"] ++ wsX50 ++ wsX00 ++ wsX20)
def wsX5_isByte : List Cond := .code yX5_isByte cX5_isByte 1 (some .boolean) :: ([])
def wsX5_set : List Cond := .code yX5_set cX5_set 3 (some .boolean) :: ([.fieldLink RX5 28 "FloppyDesk" "controller" "LFloppyDesk$Controller;", .methodLink RX5 50 yX5_isByte, .static yX5_isByte, .initialized RX5, .code yX5_isByte cX5_isByte 1 (some .boolean), .methodLink RX5 43 yX0_has, .instanceMethod yX0_has, .selects RX0 yX0_has yX0_has, .initialized RX0, .code yX0_has cX0_has 2 (some .boolean), .fieldLink RX0 30 "FloppyDesk$Controller" "status" "I"] ++ wsX50 ++ wsX00)
def wsX5_give : List Cond := .code yX5_give cX5_give 2 (some .boolean) :: ([.fieldLink RX5 28 "FloppyDesk" "controller" "LFloppyDesk$Controller;", .methodLink RX5 50 yX5_isByte, .static yX5_isByte, .initialized RX5, .code yX5_isByte cX5_isByte 1 (some .boolean), .methodLink RX5 60 yX0_acceptData, .instanceMethod yX0_acceptData, .selects RX0 yX0_acceptData yX0_acceptData, .initialized RX0, .code yX0_acceptData cX0_acceptData 2 none, .fieldLink RX0 33 "FloppyDesk$Controller" "data" "I", .fieldLink RX0 30 "FloppyDesk$Controller" "status" "I"] ++ wsX50 ++ wsX00)
def wsX5_take : List Cond := .code yX5_take cX5_take 1 (some .int) :: ([.fieldLink RX5 28 "FloppyDesk" "controller" "LFloppyDesk$Controller;", .methodLink RX5 64 yX0_handOutData, .instanceMethod yX0_handOutData, .selects RX0 yX0_handOutData yX0_handOutData, .initialized RX0, .code yX0_handOutData cX0_handOutData 1 (some .int), .fieldLink RX0 30 "FloppyDesk$Controller" "status" "I", .fieldLink RX0 33 "FloppyDesk$Controller" "data" "I"] ++ wsX50 ++ wsX00)
def wsX5_run_r1 : List Cond := [Cond.fieldLink RX5 28 "FloppyDesk" "controller" "LFloppyDesk$Controller;", Cond.methodLink RX5 68 yX0_passByteTime, Cond.instanceMethod yX0_passByteTime, Cond.selects RX0 yX0_passByteTime yX0_passByteTime, Cond.initialized RX0, Cond.code yX0_passByteTime cX0_passByteTime 3 (some .boolean), Cond.fieldLink RX0 70 "FloppyDesk$Controller" "phase" "I", Cond.fieldLink RX0 9 "FloppyDesk$Controller" "disk" "LFloppyDesk$Disk;", Cond.methodLink RX0 79 yX0_writeOneCell, Cond.instanceMethod yX0_writeOneCell, Cond.selects RX0 yX0_writeOneCell yX0_writeOneCell, Cond.code yX0_writeOneCell cX0_writeOneCell 2 none, Cond.fieldLink RX0 22 "FloppyDesk$Controller" "writer" "LFloppyDesk$Writer;", Cond.fieldLink RX0 26 "FloppyDesk$Controller" "latest" "I", Cond.fieldLink RX0 15 "FloppyDesk$Controller" "reader" "LFloppyDesk$Reader;", Cond.methodLink RX0 160 yX0_putNextOfTrack, Cond.instanceMethod yX0_putNextOfTrack, Cond.selects RX0 yX0_putNextOfTrack yX0_putNextOfTrack, Cond.code yX0_putNextOfTrack cX0_putNextOfTrack 2 none, Cond.fieldLink RX0 30 "FloppyDesk$Controller" "status" "I", Cond.methodLink RX0 181 yX4_putHalfOfCheck, Cond.instanceMethod yX4_putHalfOfCheck, Cond.selects RX4 yX4_putHalfOfCheck yX4_putHalfOfCheck, Cond.initialized RX4]
def wsX5_run_r2 : List Cond := [Cond.code yX4_putHalfOfCheck cX4_putHalfOfCheck 2 none, Cond.fieldLink RX4 29 "FloppyDesk$Writer" "isLowCheckDue" "Z", Cond.fieldLink RX4 19 "FloppyDesk$Writer" "check" "I", Cond.methodLink RX4 40 yX4_putUnchecked, Cond.instanceMethod yX4_putUnchecked, Cond.selects RX4 yX4_putUnchecked yX4_putUnchecked, Cond.code yX4_putUnchecked cX4_putUnchecked 6 none, Cond.fieldLink RX4 15 "FloppyDesk$Writer" "lastBit" "I", Cond.fieldLink RX4 25 "FloppyDesk$Writer" "isBehindMark" "Z", Cond.methodLink RX4 36 yX4_putWord, Cond.instanceMethod yX4_putWord, Cond.selects RX4 yX4_putWord yX4_putWord, Cond.code yX4_putWord cX4_putWord 2 none, Cond.fieldLink RX4 43 "FloppyDesk$Writer" "word" "I", Cond.fieldLink RX4 9 "FloppyDesk$Writer" "cellsLeft" "I", Cond.fieldLink RX4 22 "FloppyDesk$Writer" "count" "I", Cond.methodLink RX0 184 yX0_askForByte, Cond.instanceMethod yX0_askForByte, Cond.selects RX0 yX0_askForByte yX0_askForByte, Cond.code yX0_askForByte cX0_askForByte 1 (some .int), Cond.fieldLink RX0 33 "FloppyDesk$Controller" "data" "I", Cond.methodLink RX0 36 yX0_has, Cond.instanceMethod yX0_has, Cond.selects RX0 yX0_has yX0_has]
def wsX5_run_r3 : List Cond := [Cond.code yX0_has cX0_has 2 (some .boolean), Cond.methodLink RX0 187 yX4_putMark, Cond.instanceMethod yX4_putMark, Cond.selects RX4 yX4_putMark yX4_putMark, Cond.code yX4_putMark cX4_putMark 1 none, Cond.constant RX4 18 (65535), Cond.static yX5_checkWith, Cond.initialized RX5, Cond.code yX5_checkWith cX5_checkWith 4 (some .int), Cond.constant RX5 124 (65536), Cond.constant RX5 125 (65535), Cond.methodLink RX0 190 yX4_putByte, Cond.instanceMethod yX4_putByte, Cond.selects RX4 yX4_putByte yX4_putByte, Cond.code yX4_putByte cX4_putByte 2 none, Cond.methodLink RX0 163 yX0_putNextOfSector, Cond.instanceMethod yX0_putNextOfSector, Cond.selects RX0 yX0_putNextOfSector yX0_putNextOfSector, Cond.code yX0_putNextOfSector cX0_putNextOfSector 3 none, Cond.fieldLink RX0 40 "FloppyDesk$Controller" "writesDeleted" "Z", Cond.methodLink RX0 166 yX4_nextCell, Cond.instanceMethod yX4_nextCell, Cond.selects RX4 yX4_nextCell yX4_nextCell, Cond.code yX4_nextCell cX4_nextCell 1 (some .int)]
def wsX5_run_r4 : List Cond := [Cond.methodLink RX0 169 yX1_writeUnderHead, Cond.instanceMethod yX1_writeUnderHead, Cond.selects RX1 yX1_writeUnderHead yX1_writeUnderHead, Cond.initialized RX1, Cond.code yX1_writeUnderHead cX1_writeUnderHead 2 none, Cond.fieldLink RX1 16 "FloppyDesk$Disk" "headTrack" "I", Cond.fieldLink RX1 20 "FloppyDesk$Disk" "place" "I", Cond.methodLink RX1 27 yX1_cellUnderHead, Cond.instanceMethod yX1_cellUnderHead, Cond.selects RX1 yX1_cellUnderHead yX1_cellUnderHead, Cond.code yX1_cellUnderHead cX1_cellUnderHead 1 (some .int), Cond.methodLink RX1 23 yX1_wordAt, Cond.instanceMethod yX1_wordAt, Cond.selects RX1 yX1_wordAt yX1_wordAt, Cond.code yX1_wordAt cX1_wordAt 3 (some .int), Cond.fieldLink RX1 9 "FloppyDesk$Disk" "words" "[I", Cond.methodLink RX1 31 yX1_turnOver, Cond.instanceMethod yX1_turnOver, Cond.selects RX1 yX1_turnOver yX1_turnOver, Cond.code yX1_turnOver cX1_turnOver 3 (some .boolean), Cond.constant RX1 15 (32768), Cond.methodLink RX0 76 yX0_end, Cond.instanceMethod yX0_end, Cond.selects RX0 yX0_end yX0_end]
def wsX5_run_r5 : List Cond := [Cond.code yX0_end cX0_end 1 none, Cond.methodLink RX0 73 yX2_forgetWindow, Cond.instanceMethod yX2_forgetWindow, Cond.selects RX2 yX2_forgetWindow yX2_forgetWindow, Cond.initialized RX2, Cond.code yX2_forgetWindow cX2_forgetWindow 1 none, Cond.fieldLink RX2 25 "FloppyDesk$Reader" "window" "I", Cond.methodLink RX0 82 yX0_readOneCell, Cond.instanceMethod yX0_readOneCell, Cond.selects RX0 yX0_readOneCell yX0_readOneCell, Cond.code yX0_readOneCell cX0_readOneCell 2 none, Cond.methodLink RX0 110 yX1_cellUnderHead, Cond.methodLink RX0 114 yX2_readCell, Cond.instanceMethod yX2_readCell, Cond.selects RX2 yX2_readCell yX2_readCell, Cond.code yX2_readCell cX2_readCell 2 (some .int), Cond.constant RX2 28 (65535), Cond.fieldLink RX2 15 "FloppyDesk$Reader" "inStep" "Z", Cond.fieldLink RX2 22 "FloppyDesk$Reader" "field" "I", Cond.fieldLink RX2 19 "FloppyDesk$Reader" "marks" "I", Cond.fieldLink RX2 29 "FloppyDesk$Reader" "cellsSince" "I", Cond.fieldLink RX2 36 "FloppyDesk$Reader" "latestByte" "I", Cond.methodLink RX2 32 yX2_byteInWindow, Cond.instanceMethod yX2_byteInWindow]
def wsX5_run_r6 : List Cond := [Cond.selects RX2 yX2_byteInWindow yX2_byteInWindow, Cond.code yX2_byteInWindow cX2_byteInWindow 3 (some .int), Cond.methodLink RX2 39 yX2_beginField, Cond.instanceMethod yX2_beginField, Cond.selects RX2 yX2_beginField yX2_beginField, Cond.code yX2_beginField cX2_beginField 3 (some .int), Cond.fieldLink RX2 45 "FloppyDesk$Reader" "latestField" "I", Cond.fieldLink RX2 48 "FloppyDesk$Reader" "fieldStart" "I", Cond.fieldLink RX2 51 "FloppyDesk$Reader" "fieldBytes" "I", Cond.fieldLink RX2 54 "FloppyDesk$Reader" "fieldCheck" "I", Cond.methodLink RX2 42 yX2_addToField, Cond.instanceMethod yX2_addToField, Cond.selects RX2 yX2_addToField yX2_addToField, Cond.code yX2_addToField cX2_addToField 2 (some .int), Cond.fieldLink RX2 11 "FloppyDesk$Reader" "dataSize" "I", Cond.fieldLink RX2 68 "FloppyDesk$Reader" "idLength" "I", Cond.methodLink RX2 61 yX2_keepIdByte, Cond.instanceMethod yX2_keepIdByte, Cond.selects RX2 yX2_keepIdByte yX2_keepIdByte, Cond.code yX2_keepIdByte cX2_keepIdByte 1 none, Cond.fieldLink RX2 71 "FloppyDesk$Reader" "idTrack" "I", Cond.fieldLink RX2 74 "FloppyDesk$Reader" "idSector" "I", Cond.methodLink RX2 64 yX2_isCheckRight, Cond.instanceMethod yX2_isCheckRight]
def wsX5_run_r7 : List Cond := [Cond.selects RX2 yX2_isCheckRight yX2_isCheckRight, Cond.code yX2_isCheckRight cX2_isCheckRight 1 (some .boolean), Cond.methodLink RX0 118 yX0_meetFieldStart, Cond.instanceMethod yX0_meetFieldStart, Cond.selects RX0 yX0_meetFieldStart yX0_meetFieldStart, Cond.code yX0_meetFieldStart cX0_meetFieldStart 1 none, Cond.methodLink RX0 127 yX2_isLatestFieldId, Cond.instanceMethod yX2_isLatestFieldId, Cond.selects RX2 yX2_isLatestFieldId yX2_isLatestFieldId, Cond.code yX2_isLatestFieldId cX2_isLatestFieldId 1 (some .boolean), Cond.methodLink RX0 121 yX0_meetFieldByte, Cond.instanceMethod yX0_meetFieldByte, Cond.selects RX0 yX0_meetFieldByte yX0_meetFieldByte, Cond.code yX0_meetFieldByte cX0_meetFieldByte 1 none, Cond.methodLink RX0 133 yX2_isLatestByteOfCheck, Cond.instanceMethod yX2_isLatestByteOfCheck, Cond.selects RX2 yX2_isLatestByteOfCheck yX2_isLatestByteOfCheck, Cond.code yX2_isLatestByteOfCheck cX2_isLatestByteOfCheck 1 (some .boolean), Cond.methodLink RX2 77 yX2_isLatestFieldId, Cond.methodLink RX0 124 yX0_meetFieldEnd, Cond.instanceMethod yX0_meetFieldEnd, Cond.selects RX0 yX0_meetFieldEnd yX0_meetFieldEnd, Cond.code yX0_meetFieldEnd cX0_meetFieldEnd 1 none, Cond.methodLink RX0 139 yX0_endReading]
def wsX5_run_r8 : List Cond := [Cond.instanceMethod yX0_endReading, Cond.selects RX0 yX0_endReading yX0_endReading, Cond.code yX0_endReading cX0_endReading 1 none, Cond.fieldLink RX0 148 "FloppyDesk$Controller" "sector" "I", Cond.methodLink RX0 151 yX2_isCheckRight, Cond.methodLink RX0 142 yX0_compareId, Cond.instanceMethod yX0_compareId, Cond.selects RX0 yX0_compareId yX0_compareId, Cond.code yX0_compareId cX0_compareId 1 none, Cond.fieldLink RX0 58 "FloppyDesk$Controller" "track" "I", Cond.fieldLink RX0 44 "FloppyDesk$Controller" "byteTimes" "I", Cond.methodLink RX0 85 yX1_turnByOneCell, Cond.instanceMethod yX1_turnByOneCell, Cond.selects RX1 yX1_turnByOneCell yX1_turnByOneCell, Cond.code yX1_turnByOneCell cX1_turnByOneCell 1 (some .boolean), Cond.methodLink RX0 89 yX0_meetIndex, Cond.instanceMethod yX0_meetIndex, Cond.selects RX0 yX0_meetIndex yX0_meetIndex, Cond.code yX0_meetIndex cX0_meetIndex 1 none, Cond.fieldLink RX0 47 "FloppyDesk$Controller" "indexes" "I", Cond.methodLink RX0 95 yX0_startWritingIfServed, Cond.instanceMethod yX0_startWritingIfServed, Cond.selects RX0 yX0_startWritingIfServed yX0_startWritingIfServed, Cond.code yX0_startWritingIfServed cX0_startWritingIfServed 1 none]
def wsX5_run_r9 : List Cond := [Cond.methodLink RX0 66 yX0_endWith, Cond.instanceMethod yX0_endWith, Cond.selects RX0 yX0_endWith yX0_endWith, Cond.code yX0_endWith cX0_endWith 2 none, Cond.methodLink RX0 50 yX2_reset, Cond.instanceMethod yX2_reset, Cond.selects RX2 yX2_reset yX2_reset, Cond.code yX2_reset cX2_reset 1 none, Cond.methodLink RX0 107 yX4_start, Cond.instanceMethod yX4_start, Cond.selects RX4 yX4_start yX4_start, Cond.code yX4_start cX4_start 1 none, Cond.methodLink RX0 92 yX0_endByteTime, Cond.instanceMethod yX0_endByteTime, Cond.selects RX0 yX0_endByteTime yX0_endByteTime, Cond.code yX0_endByteTime cX0_endByteTime 1 none, Cond.methodLink RX0 98 yX0_moveOneTrack, Cond.instanceMethod yX0_moveOneTrack, Cond.selects RX0 yX0_moveOneTrack yX0_moveOneTrack, Cond.code yX0_moveOneTrack cX0_moveOneTrack 2 none, Cond.methodLink RX0 104 yX1_moveHead, Cond.instanceMethod yX1_moveHead, Cond.selects RX1 yX1_moveHead yX1_moveHead, Cond.code yX1_moveHead cX1_moveHead 3 none]
def wsX5_run : List Cond := .code yX5_run cX5_run 4 (some .int) :: ((wsX5_run_r1 ++ (wsX5_run_r2 ++ (wsX5_run_r3 ++ (wsX5_run_r4 ++ (wsX5_run_r5 ++ (wsX5_run_r6 ++ (wsX5_run_r7 ++ (wsX5_run_r8 ++ wsX5_run_r9)))))))) ++ wsX50 ++ wsX00 ++ wsX40 ++ wsX20 ++ wsX10)
def wsX5_serveOneByte_r1 : List Cond := [Cond.fieldLink RX5 28 "FloppyDesk" "controller" "LFloppyDesk$Controller;", Cond.fieldLink RX5 35 "FloppyDesk" "store" "LFloppyDesk$Store;", Cond.methodLink RX5 64 yX0_handOutData, Cond.instanceMethod yX0_handOutData, Cond.selects RX0 yX0_handOutData yX0_handOutData, Cond.initialized RX0, Cond.code yX0_handOutData cX0_handOutData 1 (some .int), Cond.fieldLink RX0 30 "FloppyDesk$Controller" "status" "I", Cond.fieldLink RX0 33 "FloppyDesk$Controller" "data" "I", Cond.methodLink RX5 78 yX3_append, Cond.instanceMethod yX3_append, Cond.selects RX3 yX3_append yX3_append, Cond.initialized RX3, Cond.code yX3_append cX3_append 2 none, Cond.fieldLink RX3 15 "FloppyDesk$Store" "size" "I", Cond.fieldLink RX3 11 "FloppyDesk$Store" "bytes" "[I", Cond.methodLink RX5 81 yX3_nextByte, Cond.instanceMethod yX3_nextByte, Cond.selects RX3 yX3_nextByte yX3_nextByte, Cond.code yX3_nextByte cX3_nextByte 2 (some .int), Cond.fieldLink RX3 19 "FloppyDesk$Store" "next" "I", Cond.methodLink RX3 22 yX3_byteAt, Cond.instanceMethod yX3_byteAt, Cond.selects RX3 yX3_byteAt yX3_byteAt]
def wsX5_serveOneByte_r2 : List Cond := [Cond.code yX3_byteAt cX3_byteAt 2 (some .int), Cond.methodLink RX5 60 yX0_acceptData, Cond.instanceMethod yX0_acceptData, Cond.selects RX0 yX0_acceptData yX0_acceptData, Cond.code yX0_acceptData cX0_acceptData 2 none]
def wsX5_serveOneByte : List Cond := .code yX5_serveOneByte cX5_serveOneByte 1 none :: ((wsX5_serveOneByte_r1 ++ wsX5_serveOneByte_r2) ++ wsX50 ++ wsX00 ++ wsX30)
def wsX5_serve_r1 : List Cond := [Cond.fieldLink RX5 28 "FloppyDesk" "controller" "LFloppyDesk$Controller;", Cond.methodLink RX5 68 yX0_passByteTime, Cond.instanceMethod yX0_passByteTime, Cond.selects RX0 yX0_passByteTime yX0_passByteTime, Cond.initialized RX0, Cond.code yX0_passByteTime cX0_passByteTime 3 (some .boolean), Cond.fieldLink RX0 70 "FloppyDesk$Controller" "phase" "I", Cond.fieldLink RX0 9 "FloppyDesk$Controller" "disk" "LFloppyDesk$Disk;", Cond.methodLink RX0 79 yX0_writeOneCell, Cond.instanceMethod yX0_writeOneCell, Cond.selects RX0 yX0_writeOneCell yX0_writeOneCell, Cond.code yX0_writeOneCell cX0_writeOneCell 2 none, Cond.fieldLink RX0 22 "FloppyDesk$Controller" "writer" "LFloppyDesk$Writer;", Cond.fieldLink RX0 26 "FloppyDesk$Controller" "latest" "I", Cond.fieldLink RX0 15 "FloppyDesk$Controller" "reader" "LFloppyDesk$Reader;", Cond.methodLink RX0 160 yX0_putNextOfTrack, Cond.instanceMethod yX0_putNextOfTrack, Cond.selects RX0 yX0_putNextOfTrack yX0_putNextOfTrack, Cond.code yX0_putNextOfTrack cX0_putNextOfTrack 2 none, Cond.fieldLink RX0 30 "FloppyDesk$Controller" "status" "I", Cond.methodLink RX0 181 yX4_putHalfOfCheck, Cond.instanceMethod yX4_putHalfOfCheck, Cond.selects RX4 yX4_putHalfOfCheck yX4_putHalfOfCheck, Cond.initialized RX4]
def wsX5_serve_r2 : List Cond := [Cond.code yX4_putHalfOfCheck cX4_putHalfOfCheck 2 none, Cond.fieldLink RX4 29 "FloppyDesk$Writer" "isLowCheckDue" "Z", Cond.fieldLink RX4 19 "FloppyDesk$Writer" "check" "I", Cond.methodLink RX4 40 yX4_putUnchecked, Cond.instanceMethod yX4_putUnchecked, Cond.selects RX4 yX4_putUnchecked yX4_putUnchecked, Cond.code yX4_putUnchecked cX4_putUnchecked 6 none, Cond.fieldLink RX4 15 "FloppyDesk$Writer" "lastBit" "I", Cond.fieldLink RX4 25 "FloppyDesk$Writer" "isBehindMark" "Z", Cond.methodLink RX4 36 yX4_putWord, Cond.instanceMethod yX4_putWord, Cond.selects RX4 yX4_putWord yX4_putWord, Cond.code yX4_putWord cX4_putWord 2 none, Cond.fieldLink RX4 43 "FloppyDesk$Writer" "word" "I", Cond.fieldLink RX4 9 "FloppyDesk$Writer" "cellsLeft" "I", Cond.fieldLink RX4 22 "FloppyDesk$Writer" "count" "I", Cond.methodLink RX0 184 yX0_askForByte, Cond.instanceMethod yX0_askForByte, Cond.selects RX0 yX0_askForByte yX0_askForByte, Cond.code yX0_askForByte cX0_askForByte 1 (some .int), Cond.fieldLink RX0 33 "FloppyDesk$Controller" "data" "I", Cond.methodLink RX0 36 yX0_has, Cond.instanceMethod yX0_has, Cond.selects RX0 yX0_has yX0_has]
def wsX5_serve_r3 : List Cond := [Cond.code yX0_has cX0_has 2 (some .boolean), Cond.methodLink RX0 187 yX4_putMark, Cond.instanceMethod yX4_putMark, Cond.selects RX4 yX4_putMark yX4_putMark, Cond.code yX4_putMark cX4_putMark 1 none, Cond.constant RX4 18 (65535), Cond.static yX5_checkWith, Cond.initialized RX5, Cond.code yX5_checkWith cX5_checkWith 4 (some .int), Cond.constant RX5 124 (65536), Cond.constant RX5 125 (65535), Cond.methodLink RX0 190 yX4_putByte, Cond.instanceMethod yX4_putByte, Cond.selects RX4 yX4_putByte yX4_putByte, Cond.code yX4_putByte cX4_putByte 2 none, Cond.methodLink RX0 163 yX0_putNextOfSector, Cond.instanceMethod yX0_putNextOfSector, Cond.selects RX0 yX0_putNextOfSector yX0_putNextOfSector, Cond.code yX0_putNextOfSector cX0_putNextOfSector 3 none, Cond.fieldLink RX0 40 "FloppyDesk$Controller" "writesDeleted" "Z", Cond.methodLink RX0 166 yX4_nextCell, Cond.instanceMethod yX4_nextCell, Cond.selects RX4 yX4_nextCell yX4_nextCell, Cond.code yX4_nextCell cX4_nextCell 1 (some .int)]
def wsX5_serve_r4 : List Cond := [Cond.methodLink RX0 169 yX1_writeUnderHead, Cond.instanceMethod yX1_writeUnderHead, Cond.selects RX1 yX1_writeUnderHead yX1_writeUnderHead, Cond.initialized RX1, Cond.code yX1_writeUnderHead cX1_writeUnderHead 2 none, Cond.fieldLink RX1 16 "FloppyDesk$Disk" "headTrack" "I", Cond.fieldLink RX1 20 "FloppyDesk$Disk" "place" "I", Cond.methodLink RX1 27 yX1_cellUnderHead, Cond.instanceMethod yX1_cellUnderHead, Cond.selects RX1 yX1_cellUnderHead yX1_cellUnderHead, Cond.code yX1_cellUnderHead cX1_cellUnderHead 1 (some .int), Cond.methodLink RX1 23 yX1_wordAt, Cond.instanceMethod yX1_wordAt, Cond.selects RX1 yX1_wordAt yX1_wordAt, Cond.code yX1_wordAt cX1_wordAt 3 (some .int), Cond.fieldLink RX1 9 "FloppyDesk$Disk" "words" "[I", Cond.methodLink RX1 31 yX1_turnOver, Cond.instanceMethod yX1_turnOver, Cond.selects RX1 yX1_turnOver yX1_turnOver, Cond.code yX1_turnOver cX1_turnOver 3 (some .boolean), Cond.constant RX1 15 (32768), Cond.methodLink RX0 76 yX0_end, Cond.instanceMethod yX0_end, Cond.selects RX0 yX0_end yX0_end]
def wsX5_serve_r5 : List Cond := [Cond.code yX0_end cX0_end 1 none, Cond.methodLink RX0 73 yX2_forgetWindow, Cond.instanceMethod yX2_forgetWindow, Cond.selects RX2 yX2_forgetWindow yX2_forgetWindow, Cond.initialized RX2, Cond.code yX2_forgetWindow cX2_forgetWindow 1 none, Cond.fieldLink RX2 25 "FloppyDesk$Reader" "window" "I", Cond.methodLink RX0 82 yX0_readOneCell, Cond.instanceMethod yX0_readOneCell, Cond.selects RX0 yX0_readOneCell yX0_readOneCell, Cond.code yX0_readOneCell cX0_readOneCell 2 none, Cond.methodLink RX0 110 yX1_cellUnderHead, Cond.methodLink RX0 114 yX2_readCell, Cond.instanceMethod yX2_readCell, Cond.selects RX2 yX2_readCell yX2_readCell, Cond.code yX2_readCell cX2_readCell 2 (some .int), Cond.constant RX2 28 (65535), Cond.fieldLink RX2 15 "FloppyDesk$Reader" "inStep" "Z", Cond.fieldLink RX2 22 "FloppyDesk$Reader" "field" "I", Cond.fieldLink RX2 19 "FloppyDesk$Reader" "marks" "I", Cond.fieldLink RX2 29 "FloppyDesk$Reader" "cellsSince" "I", Cond.fieldLink RX2 36 "FloppyDesk$Reader" "latestByte" "I", Cond.methodLink RX2 32 yX2_byteInWindow, Cond.instanceMethod yX2_byteInWindow]
def wsX5_serve_r6 : List Cond := [Cond.selects RX2 yX2_byteInWindow yX2_byteInWindow, Cond.code yX2_byteInWindow cX2_byteInWindow 3 (some .int), Cond.methodLink RX2 39 yX2_beginField, Cond.instanceMethod yX2_beginField, Cond.selects RX2 yX2_beginField yX2_beginField, Cond.code yX2_beginField cX2_beginField 3 (some .int), Cond.fieldLink RX2 45 "FloppyDesk$Reader" "latestField" "I", Cond.fieldLink RX2 48 "FloppyDesk$Reader" "fieldStart" "I", Cond.fieldLink RX2 51 "FloppyDesk$Reader" "fieldBytes" "I", Cond.fieldLink RX2 54 "FloppyDesk$Reader" "fieldCheck" "I", Cond.methodLink RX2 42 yX2_addToField, Cond.instanceMethod yX2_addToField, Cond.selects RX2 yX2_addToField yX2_addToField, Cond.code yX2_addToField cX2_addToField 2 (some .int), Cond.fieldLink RX2 11 "FloppyDesk$Reader" "dataSize" "I", Cond.fieldLink RX2 68 "FloppyDesk$Reader" "idLength" "I", Cond.methodLink RX2 61 yX2_keepIdByte, Cond.instanceMethod yX2_keepIdByte, Cond.selects RX2 yX2_keepIdByte yX2_keepIdByte, Cond.code yX2_keepIdByte cX2_keepIdByte 1 none, Cond.fieldLink RX2 71 "FloppyDesk$Reader" "idTrack" "I", Cond.fieldLink RX2 74 "FloppyDesk$Reader" "idSector" "I", Cond.methodLink RX2 64 yX2_isCheckRight, Cond.instanceMethod yX2_isCheckRight]
def wsX5_serve_r7 : List Cond := [Cond.selects RX2 yX2_isCheckRight yX2_isCheckRight, Cond.code yX2_isCheckRight cX2_isCheckRight 1 (some .boolean), Cond.methodLink RX0 118 yX0_meetFieldStart, Cond.instanceMethod yX0_meetFieldStart, Cond.selects RX0 yX0_meetFieldStart yX0_meetFieldStart, Cond.code yX0_meetFieldStart cX0_meetFieldStart 1 none, Cond.methodLink RX0 127 yX2_isLatestFieldId, Cond.instanceMethod yX2_isLatestFieldId, Cond.selects RX2 yX2_isLatestFieldId yX2_isLatestFieldId, Cond.code yX2_isLatestFieldId cX2_isLatestFieldId 1 (some .boolean), Cond.methodLink RX0 121 yX0_meetFieldByte, Cond.instanceMethod yX0_meetFieldByte, Cond.selects RX0 yX0_meetFieldByte yX0_meetFieldByte, Cond.code yX0_meetFieldByte cX0_meetFieldByte 1 none, Cond.methodLink RX0 133 yX2_isLatestByteOfCheck, Cond.instanceMethod yX2_isLatestByteOfCheck, Cond.selects RX2 yX2_isLatestByteOfCheck yX2_isLatestByteOfCheck, Cond.code yX2_isLatestByteOfCheck cX2_isLatestByteOfCheck 1 (some .boolean), Cond.methodLink RX2 77 yX2_isLatestFieldId, Cond.methodLink RX0 124 yX0_meetFieldEnd, Cond.instanceMethod yX0_meetFieldEnd, Cond.selects RX0 yX0_meetFieldEnd yX0_meetFieldEnd, Cond.code yX0_meetFieldEnd cX0_meetFieldEnd 1 none, Cond.methodLink RX0 139 yX0_endReading]
def wsX5_serve_r8 : List Cond := [Cond.instanceMethod yX0_endReading, Cond.selects RX0 yX0_endReading yX0_endReading, Cond.code yX0_endReading cX0_endReading 1 none, Cond.fieldLink RX0 148 "FloppyDesk$Controller" "sector" "I", Cond.methodLink RX0 151 yX2_isCheckRight, Cond.methodLink RX0 142 yX0_compareId, Cond.instanceMethod yX0_compareId, Cond.selects RX0 yX0_compareId yX0_compareId, Cond.code yX0_compareId cX0_compareId 1 none, Cond.fieldLink RX0 58 "FloppyDesk$Controller" "track" "I", Cond.fieldLink RX0 44 "FloppyDesk$Controller" "byteTimes" "I", Cond.methodLink RX0 85 yX1_turnByOneCell, Cond.instanceMethod yX1_turnByOneCell, Cond.selects RX1 yX1_turnByOneCell yX1_turnByOneCell, Cond.code yX1_turnByOneCell cX1_turnByOneCell 1 (some .boolean), Cond.methodLink RX0 89 yX0_meetIndex, Cond.instanceMethod yX0_meetIndex, Cond.selects RX0 yX0_meetIndex yX0_meetIndex, Cond.code yX0_meetIndex cX0_meetIndex 1 none, Cond.fieldLink RX0 47 "FloppyDesk$Controller" "indexes" "I", Cond.methodLink RX0 95 yX0_startWritingIfServed, Cond.instanceMethod yX0_startWritingIfServed, Cond.selects RX0 yX0_startWritingIfServed yX0_startWritingIfServed, Cond.code yX0_startWritingIfServed cX0_startWritingIfServed 1 none]
def wsX5_serve_r9 : List Cond := [Cond.methodLink RX0 66 yX0_endWith, Cond.instanceMethod yX0_endWith, Cond.selects RX0 yX0_endWith yX0_endWith, Cond.code yX0_endWith cX0_endWith 2 none, Cond.methodLink RX0 50 yX2_reset, Cond.instanceMethod yX2_reset, Cond.selects RX2 yX2_reset yX2_reset, Cond.code yX2_reset cX2_reset 1 none, Cond.methodLink RX0 107 yX4_start, Cond.instanceMethod yX4_start, Cond.selects RX4 yX4_start yX4_start, Cond.code yX4_start cX4_start 1 none, Cond.methodLink RX0 92 yX0_endByteTime, Cond.instanceMethod yX0_endByteTime, Cond.selects RX0 yX0_endByteTime yX0_endByteTime, Cond.code yX0_endByteTime cX0_endByteTime 1 none, Cond.methodLink RX0 98 yX0_moveOneTrack, Cond.instanceMethod yX0_moveOneTrack, Cond.selects RX0 yX0_moveOneTrack yX0_moveOneTrack, Cond.code yX0_moveOneTrack cX0_moveOneTrack 2 none, Cond.methodLink RX0 104 yX1_moveHead, Cond.instanceMethod yX1_moveHead, Cond.selects RX1 yX1_moveHead yX1_moveHead, Cond.code yX1_moveHead cX1_moveHead 3 none]
def wsX5_serve_r10 : List Cond := [Cond.methodLink RX5 43 yX0_has, Cond.methodLink RX5 72 yX5_serveOneByte, Cond.instanceMethod yX5_serveOneByte, Cond.selects RX5 yX5_serveOneByte yX5_serveOneByte, Cond.code yX5_serveOneByte cX5_serveOneByte 1 none, Cond.fieldLink RX5 35 "FloppyDesk" "store" "LFloppyDesk$Store;", Cond.methodLink RX5 64 yX0_handOutData, Cond.instanceMethod yX0_handOutData, Cond.selects RX0 yX0_handOutData yX0_handOutData, Cond.code yX0_handOutData cX0_handOutData 1 (some .int), Cond.methodLink RX5 78 yX3_append, Cond.instanceMethod yX3_append, Cond.selects RX3 yX3_append yX3_append, Cond.initialized RX3, Cond.code yX3_append cX3_append 2 none, Cond.fieldLink RX3 15 "FloppyDesk$Store" "size" "I", Cond.fieldLink RX3 11 "FloppyDesk$Store" "bytes" "[I", Cond.methodLink RX5 81 yX3_nextByte, Cond.instanceMethod yX3_nextByte, Cond.selects RX3 yX3_nextByte yX3_nextByte, Cond.code yX3_nextByte cX3_nextByte 2 (some .int), Cond.fieldLink RX3 19 "FloppyDesk$Store" "next" "I", Cond.methodLink RX3 22 yX3_byteAt, Cond.instanceMethod yX3_byteAt]
def wsX5_serve_r11 : List Cond := [Cond.selects RX3 yX3_byteAt yX3_byteAt, Cond.code yX3_byteAt cX3_byteAt 2 (some .int), Cond.methodLink RX5 60 yX0_acceptData, Cond.instanceMethod yX0_acceptData, Cond.selects RX0 yX0_acceptData yX0_acceptData, Cond.code yX0_acceptData cX0_acceptData 2 none]
def wsX5_serve : List Cond := .code yX5_serve cX5_serve 4 (some .int) :: ((wsX5_serve_r1 ++ (wsX5_serve_r2 ++ (wsX5_serve_r3 ++ (wsX5_serve_r4 ++ (wsX5_serve_r5 ++ (wsX5_serve_r6 ++ (wsX5_serve_r7 ++ (wsX5_serve_r8 ++ (wsX5_serve_r9 ++ (wsX5_serve_r10 ++ wsX5_serve_r11)))))))))) ++ wsX50 ++ wsX00 ++ wsX40 ++ wsX20 ++ wsX10 ++ wsX30)
def wsX5_clear : List Cond := .code yX5_clear cX5_clear 1 none :: ([.fieldLink RX5 35 "FloppyDesk" "store" "LFloppyDesk$Store;", .methodLink RX5 84 yX3_makeEmpty, .instanceMethod yX3_makeEmpty, .selects RX3 yX3_makeEmpty yX3_makeEmpty, .initialized RX3, .code yX3_makeEmpty cX3_makeEmpty 1 none, .fieldLink RX3 15 "FloppyDesk$Store" "size" "I", .fieldLink RX3 19 "FloppyDesk$Store" "next" "I"] ++ wsX50 ++ wsX30)
def wsX5_fill : List Cond := .code yX5_fill cX5_fill 4 (some .boolean) :: ([.fieldLink RX5 35 "FloppyDesk" "store" "LFloppyDesk$Store;", .methodLink RX5 50 yX5_isByte, .static yX5_isByte, .initialized RX5, .code yX5_isByte cX5_isByte 1 (some .boolean), .methodLink RX5 87 yX3_hasRoomFor, .instanceMethod yX3_hasRoomFor, .selects RX3 yX3_hasRoomFor yX3_hasRoomFor, .initialized RX3, .code yX3_hasRoomFor cX3_hasRoomFor 2 (some .boolean), .fieldLink RX3 15 "FloppyDesk$Store" "size" "I", .methodLink RX5 78 yX3_append, .instanceMethod yX3_append, .selects RX3 yX3_append yX3_append, .code yX3_append cX3_append 2 none, .fieldLink RX3 11 "FloppyDesk$Store" "bytes" "[I"] ++ wsX50 ++ wsX30)
def wsX5_buffer : List Cond := .code yX5_buffer cX5_buffer 2 (some .int) :: ([.fieldLink RX5 35 "FloppyDesk" "store" "LFloppyDesk$Store;", .methodLink RX5 93 yX3_byteAt, .instanceMethod yX3_byteAt, .selects RX3 yX3_byteAt yX3_byteAt, .initialized RX3, .code yX3_byteAt cX3_byteAt 2 (some .int), .fieldLink RX3 15 "FloppyDesk$Store" "size" "I", .fieldLink RX3 11 "FloppyDesk$Store" "bytes" "[I"] ++ wsX50 ++ wsX30)
def wsX5_protect : List Cond := .code yX5_protect cX5_protect 2 none :: ([.fieldLink RX5 10 "FloppyDesk" "disk" "LFloppyDesk$Disk;"] ++ wsX50 ++ wsX10)
def wsX5_spoil : List Cond := .code yX5_spoil cX5_spoil 3 (some .boolean) :: ([.fieldLink RX5 10 "FloppyDesk" "disk" "LFloppyDesk$Disk;", .methodLink RX5 101 yX1_turnOver, .instanceMethod yX1_turnOver, .selects RX1 yX1_turnOver yX1_turnOver, .initialized RX1, .code yX1_turnOver cX1_turnOver 3 (some .boolean), .fieldLink RX1 9 "FloppyDesk$Disk" "words" "[I", .constant RX1 15 (32768)] ++ wsX50 ++ wsX10)
def wsX5_cells : List Cond := .code yX5_cells cX5_cells 3 (some .int) :: ([.fieldLink RX5 10 "FloppyDesk" "disk" "LFloppyDesk$Disk;", .methodLink RX5 105 yX1_wordAt, .instanceMethod yX1_wordAt, .selects RX1 yX1_wordAt yX1_wordAt, .initialized RX1, .code yX1_wordAt cX1_wordAt 3 (some .int), .fieldLink RX1 9 "FloppyDesk$Disk" "words" "[I"] ++ wsX50 ++ wsX10)
def wsX5_look : List Cond := .code yX5_look cX5_look 2 (some .int) :: ([.fieldLink RX5 28 "FloppyDesk" "controller" "LFloppyDesk$Controller;", .fieldLink RX5 10 "FloppyDesk" "disk" "LFloppyDesk$Disk;", .fieldLink RX5 19 "FloppyDesk" "reader" "LFloppyDesk$Reader;"] ++ wsX50 ++ wsX00 ++ wsX10 ++ wsX20)
def wsX6_init : List Cond := .code yX6_init cX6_init 1 none :: ([.methodLink RX6 1 objectInit, .instanceMethod objectInit, .code objectInit ⟨#[0xb1]⟩ 1 none, .arrayClass .boolean, .fieldLink RX6 7 "FloppyDeskModel" "cell" "[Z", .arrayClass .int, .fieldLink RX6 13 "FloppyDeskModel" "bytes" "[I", .fieldLink RX6 17 "FloppyDeskModel" "dataSize" "I", .fieldLink RX6 21 "FloppyDeskModel" "latest" "I", .fieldLink RX6 24 "FloppyDeskModel" "buffer" "[I"] ++ wsX60)
def wsX6_step : List Cond := .code yX6_step cX6_step 4 (some .int) :: ([.constant RX6 27 (65535)])
def wsX6_isRight : List Cond := .code yX6_isRight cX6_isRight 3 (some .boolean) :: ([.constant RX6 27 (65535), .fieldLink RX6 32 "FloppyDeskModel" "began" "I", .fieldLink RX6 35 "FloppyDeskModel" "got" "I", .fieldLink RX6 13 "FloppyDeskModel" "bytes" "[I", .methodLink RX6 28 yX6_step, .static yX6_step, .initialized RX6, .code yX6_step cX6_step 4 (some .int)] ++ wsX60)
def wsX6_raise : List Cond := .code yX6_raise cX6_raise 2 none :: ([.fieldLink RX6 38 "FloppyDeskModel" "status" "I"] ++ wsX60)
def wsX6_drop : List Cond := .code yX6_drop cX6_drop 2 none :: ([.fieldLink RX6 38 "FloppyDeskModel" "status" "I"] ++ wsX60)
def wsX6_has : List Cond := .code yX6_has cX6_has 2 (some .boolean) :: ([.fieldLink RX6 38 "FloppyDeskModel" "status" "I"] ++ wsX60)
def wsX6_reset : List Cond := .code yX6_reset cX6_reset 1 none :: ([.fieldLink RX6 41 "FloppyDeskModel" "inStep" "Z", .fieldLink RX6 45 "FloppyDeskModel" "marks" "I", .fieldLink RX6 48 "FloppyDeskModel" "field" "I"] ++ wsX60)
def wsX6_end : List Cond := .code yX6_end cX6_end 1 none :: ([.fieldLink RX6 55 "FloppyDeskModel" "phase" "I", .fieldLink RX6 58 "FloppyDeskModel" "window" "I", .methodLink RX6 51 yX6_drop, .instanceMethod yX6_drop, .selects RX6 yX6_drop yX6_drop, .initialized RX6, .code yX6_drop cX6_drop 2 none, .fieldLink RX6 38 "FloppyDeskModel" "status" "I"] ++ wsX60)
def wsX6_receive : List Cond := .code yX6_receive cX6_receive 2 none :: ([.fieldLink RX6 61 "FloppyDeskModel" "data" "I", .methodLink RX6 64 yX6_has, .instanceMethod yX6_has, .selects RX6 yX6_has yX6_has, .initialized RX6, .code yX6_has cX6_has 2 (some .boolean), .fieldLink RX6 38 "FloppyDeskModel" "status" "I", .methodLink RX6 68 yX6_raise, .instanceMethod yX6_raise, .selects RX6 yX6_raise yX6_raise, .code yX6_raise cX6_raise 2 none] ++ wsX60)
def wsX6_ask : List Cond := .code yX6_ask cX6_ask 1 (some .int) :: ([.fieldLink RX6 61 "FloppyDeskModel" "data" "I", .methodLink RX6 64 yX6_has, .instanceMethod yX6_has, .selects RX6 yX6_has yX6_has, .initialized RX6, .code yX6_has cX6_has 2 (some .boolean), .fieldLink RX6 38 "FloppyDeskModel" "status" "I", .methodLink RX6 68 yX6_raise, .instanceMethod yX6_raise, .selects RX6 yX6_raise yX6_raise, .code yX6_raise cX6_raise 2 none] ++ wsX60)
def wsX6_begins : List Cond := .code yX6_begins cX6_begins 3 none :: ([.fieldLink RX6 48 "FloppyDeskModel" "field" "I", .fieldLink RX6 32 "FloppyDeskModel" "began" "I", .fieldLink RX6 35 "FloppyDeskModel" "got" "I", .fieldLink RX6 21 "FloppyDeskModel" "latest" "I", .fieldLink RX6 55 "FloppyDeskModel" "phase" "I", .methodLink RX6 68 yX6_raise, .instanceMethod yX6_raise, .selects RX6 yX6_raise yX6_raise, .initialized RX6, .code yX6_raise cX6_raise 2 none, .fieldLink RX6 38 "FloppyDeskModel" "status" "I"] ++ wsX60)
def wsX6_idOver : List Cond := .code yX6_idOver cX6_idOver 3 none :: ([.fieldLink RX6 13 "FloppyDeskModel" "bytes" "[I", .fieldLink RX6 17 "FloppyDeskModel" "dataSize" "I", .fieldLink RX6 21 "FloppyDeskModel" "latest" "I", .fieldLink RX6 55 "FloppyDeskModel" "phase" "I", .fieldLink RX6 71 "FloppyDeskModel" "sector" "I", .fieldLink RX6 77 "FloppyDeskModel" "track" "I", .fieldLink RX6 80 "FloppyDeskModel" "count" "I", .methodLink RX6 68 yX6_raise, .instanceMethod yX6_raise, .selects RX6 yX6_raise yX6_raise, .initialized RX6, .code yX6_raise cX6_raise 2 none, .fieldLink RX6 38 "FloppyDeskModel" "status" "I", .methodLink RX6 74 yX6_end, .instanceMethod yX6_end, .selects RX6 yX6_end yX6_end, .code yX6_end cX6_end 1 none, .fieldLink RX6 58 "FloppyDeskModel" "window" "I", .methodLink RX6 51 yX6_drop, .instanceMethod yX6_drop, .selects RX6 yX6_drop yX6_drop, .code yX6_drop cX6_drop 2 none] ++ wsX60)
def wsX6_dataOver : List Cond := .code yX6_dataOver cX6_dataOver 2 none :: ([.fieldLink RX6 21 "FloppyDeskModel" "latest" "I", .fieldLink RX6 55 "FloppyDeskModel" "phase" "I", .methodLink RX6 68 yX6_raise, .instanceMethod yX6_raise, .selects RX6 yX6_raise yX6_raise, .initialized RX6, .code yX6_raise cX6_raise 2 none, .fieldLink RX6 38 "FloppyDeskModel" "status" "I", .methodLink RX6 74 yX6_end, .instanceMethod yX6_end, .selects RX6 yX6_end yX6_end, .code yX6_end cX6_end 1 none, .fieldLink RX6 58 "FloppyDeskModel" "window" "I", .methodLink RX6 51 yX6_drop, .instanceMethod yX6_drop, .selects RX6 yX6_drop yX6_drop, .code yX6_drop cX6_drop 2 none] ++ wsX60)
def wsX6_comes_r1 : List Cond := [Cond.fieldLink RX6 48 "FloppyDeskModel" "field" "I", Cond.fieldLink RX6 45 "FloppyDeskModel" "marks" "I", Cond.fieldLink RX6 41 "FloppyDeskModel" "inStep" "Z", Cond.fieldLink RX6 13 "FloppyDeskModel" "bytes" "[I", Cond.fieldLink RX6 35 "FloppyDeskModel" "got" "I", Cond.fieldLink RX6 17 "FloppyDeskModel" "dataSize" "I", Cond.fieldLink RX6 55 "FloppyDeskModel" "phase" "I", Cond.fieldLink RX6 21 "FloppyDeskModel" "latest" "I", Cond.methodLink RX6 83 yX6_begins, Cond.instanceMethod yX6_begins, Cond.selects RX6 yX6_begins yX6_begins, Cond.initialized RX6, Cond.code yX6_begins cX6_begins 3 none, Cond.fieldLink RX6 32 "FloppyDeskModel" "began" "I", Cond.methodLink RX6 68 yX6_raise, Cond.instanceMethod yX6_raise, Cond.selects RX6 yX6_raise yX6_raise, Cond.code yX6_raise cX6_raise 2 none, Cond.fieldLink RX6 38 "FloppyDeskModel" "status" "I", Cond.methodLink RX6 87 yX6_receive, Cond.instanceMethod yX6_receive, Cond.selects RX6 yX6_receive yX6_receive, Cond.code yX6_receive cX6_receive 2 none, Cond.fieldLink RX6 61 "FloppyDeskModel" "data" "I"]
def wsX6_comes_r2 : List Cond := [Cond.methodLink RX6 64 yX6_has, Cond.instanceMethod yX6_has, Cond.selects RX6 yX6_has yX6_has, Cond.code yX6_has cX6_has 2 (some .boolean), Cond.methodLink RX6 90 yX6_isRight, Cond.instanceMethod yX6_isRight, Cond.selects RX6 yX6_isRight yX6_isRight, Cond.code yX6_isRight cX6_isRight 3 (some .boolean), Cond.constant RX6 27 (65535), Cond.methodLink RX6 28 yX6_step, Cond.static yX6_step, Cond.code yX6_step cX6_step 4 (some .int), Cond.methodLink RX6 94 yX6_idOver, Cond.instanceMethod yX6_idOver, Cond.selects RX6 yX6_idOver yX6_idOver, Cond.code yX6_idOver cX6_idOver 3 none, Cond.fieldLink RX6 71 "FloppyDeskModel" "sector" "I", Cond.fieldLink RX6 77 "FloppyDeskModel" "track" "I", Cond.fieldLink RX6 80 "FloppyDeskModel" "count" "I", Cond.methodLink RX6 74 yX6_end, Cond.instanceMethod yX6_end, Cond.selects RX6 yX6_end yX6_end, Cond.code yX6_end cX6_end 1 none, Cond.fieldLink RX6 58 "FloppyDeskModel" "window" "I"]
def wsX6_comes_r3 : List Cond := [Cond.methodLink RX6 51 yX6_drop, Cond.instanceMethod yX6_drop, Cond.selects RX6 yX6_drop yX6_drop, Cond.code yX6_drop cX6_drop 2 none, Cond.methodLink RX6 98 yX6_dataOver, Cond.instanceMethod yX6_dataOver, Cond.selects RX6 yX6_dataOver yX6_dataOver, Cond.code yX6_dataOver cX6_dataOver 2 none]
def wsX6_comes : List Cond := .code yX6_comes cX6_comes 5 none :: ((wsX6_comes_r1 ++ (wsX6_comes_r2 ++ wsX6_comes_r3)) ++ wsX60)
def wsX6_readCell_r1 : List Cond := [Cond.fieldLink RX6 58 "FloppyDeskModel" "window" "I", Cond.fieldLink RX6 7 "FloppyDeskModel" "cell" "[Z", Cond.fieldLink RX6 101 "FloppyDeskModel" "head" "I", Cond.fieldLink RX6 104 "FloppyDeskModel" "place" "I", Cond.constant RX6 27 (65535), Cond.fieldLink RX6 107 "FloppyDeskModel" "since" "I", Cond.fieldLink RX6 41 "FloppyDeskModel" "inStep" "Z", Cond.fieldLink RX6 48 "FloppyDeskModel" "field" "I", Cond.fieldLink RX6 45 "FloppyDeskModel" "marks" "I", Cond.methodLink RX6 110 yX6_comes, Cond.instanceMethod yX6_comes, Cond.selects RX6 yX6_comes yX6_comes, Cond.initialized RX6, Cond.code yX6_comes cX6_comes 5 none, Cond.fieldLink RX6 13 "FloppyDeskModel" "bytes" "[I", Cond.fieldLink RX6 35 "FloppyDeskModel" "got" "I", Cond.fieldLink RX6 17 "FloppyDeskModel" "dataSize" "I", Cond.fieldLink RX6 55 "FloppyDeskModel" "phase" "I", Cond.fieldLink RX6 21 "FloppyDeskModel" "latest" "I", Cond.methodLink RX6 83 yX6_begins, Cond.instanceMethod yX6_begins, Cond.selects RX6 yX6_begins yX6_begins, Cond.code yX6_begins cX6_begins 3 none, Cond.fieldLink RX6 32 "FloppyDeskModel" "began" "I"]
def wsX6_readCell_r2 : List Cond := [Cond.methodLink RX6 68 yX6_raise, Cond.instanceMethod yX6_raise, Cond.selects RX6 yX6_raise yX6_raise, Cond.code yX6_raise cX6_raise 2 none, Cond.fieldLink RX6 38 "FloppyDeskModel" "status" "I", Cond.methodLink RX6 87 yX6_receive, Cond.instanceMethod yX6_receive, Cond.selects RX6 yX6_receive yX6_receive, Cond.code yX6_receive cX6_receive 2 none, Cond.fieldLink RX6 61 "FloppyDeskModel" "data" "I", Cond.methodLink RX6 64 yX6_has, Cond.instanceMethod yX6_has, Cond.selects RX6 yX6_has yX6_has, Cond.code yX6_has cX6_has 2 (some .boolean), Cond.methodLink RX6 90 yX6_isRight, Cond.instanceMethod yX6_isRight, Cond.selects RX6 yX6_isRight yX6_isRight, Cond.code yX6_isRight cX6_isRight 3 (some .boolean), Cond.methodLink RX6 28 yX6_step, Cond.static yX6_step, Cond.code yX6_step cX6_step 4 (some .int), Cond.methodLink RX6 94 yX6_idOver, Cond.instanceMethod yX6_idOver, Cond.selects RX6 yX6_idOver yX6_idOver]
def wsX6_readCell_r3 : List Cond := [Cond.code yX6_idOver cX6_idOver 3 none, Cond.fieldLink RX6 71 "FloppyDeskModel" "sector" "I", Cond.fieldLink RX6 77 "FloppyDeskModel" "track" "I", Cond.fieldLink RX6 80 "FloppyDeskModel" "count" "I", Cond.methodLink RX6 74 yX6_end, Cond.instanceMethod yX6_end, Cond.selects RX6 yX6_end yX6_end, Cond.code yX6_end cX6_end 1 none, Cond.methodLink RX6 51 yX6_drop, Cond.instanceMethod yX6_drop, Cond.selects RX6 yX6_drop yX6_drop, Cond.code yX6_drop cX6_drop 2 none, Cond.methodLink RX6 98 yX6_dataOver, Cond.instanceMethod yX6_dataOver, Cond.selects RX6 yX6_dataOver yX6_dataOver, Cond.code yX6_dataOver cX6_dataOver 2 none]
def wsX6_readCell : List Cond := .code yX6_readCell cX6_readCell 3 none :: ((wsX6_readCell_r1 ++ (wsX6_readCell_r2 ++ wsX6_readCell_r3)) ++ wsX60)
def wsX6_startWriting : List Cond := .code yX6_startWriting cX6_startWriting 2 none :: ([.fieldLink RX6 55 "FloppyDeskModel" "phase" "I", .fieldLink RX6 116 "FloppyDeskModel" "written" "I", .fieldLink RX6 119 "FloppyDeskModel" "which" "I", .fieldLink RX6 122 "FloppyDeskModel" "lastBit" "I", .constant RX6 27 (65535), .fieldLink RX6 125 "FloppyDeskModel" "sum" "I", .fieldLink RX6 128 "FloppyDeskModel" "lastMark" "Z", .fieldLink RX6 131 "FloppyDeskModel" "second" "I", .methodLink RX6 113 yX6_reset, .instanceMethod yX6_reset, .selects RX6 yX6_reset yX6_reset, .initialized RX6, .code yX6_reset cX6_reset 1 none, .fieldLink RX6 41 "FloppyDeskModel" "inStep" "Z", .fieldLink RX6 45 "FloppyDeskModel" "marks" "I", .fieldLink RX6 48 "FloppyDeskModel" "field" "I"] ++ wsX60)
def wsX6_coded : List Cond := .code yX6_coded cX6_coded 6 (some .int) :: ([.fieldLink RX6 122 "FloppyDeskModel" "lastBit" "I"] ++ wsX60)
def wsX6_write : List Cond := .code yX6_write cX6_write 2 none :: ([.fieldLink RX6 138 "FloppyDeskModel" "pattern" "I", .fieldLink RX6 122 "FloppyDeskModel" "lastBit" "I", .methodLink RX6 134 yX6_coded, .instanceMethod yX6_coded, .selects RX6 yX6_coded yX6_coded, .initialized RX6, .code yX6_coded cX6_coded 6 (some .int)] ++ wsX60)
def wsX6_writeMark : List Cond := .code yX6_writeMark cX6_writeMark 1 none :: ([.fieldLink RX6 138 "FloppyDeskModel" "pattern" "I", .fieldLink RX6 122 "FloppyDeskModel" "lastBit" "I"] ++ wsX60)
def wsX6_sectorByte_r1 : List Cond := [Cond.fieldLink RX6 17 "FloppyDeskModel" "dataSize" "I", Cond.fieldLink RX6 119 "FloppyDeskModel" "which" "I", Cond.fieldLink RX6 125 "FloppyDeskModel" "sum" "I", Cond.fieldLink RX6 147 "FloppyDeskModel" "removes" "Z", Cond.methodLink RX6 141 yX6_write, Cond.instanceMethod yX6_write, Cond.selects RX6 yX6_write yX6_write, Cond.initialized RX6, Cond.code yX6_write cX6_write 2 none, Cond.fieldLink RX6 138 "FloppyDeskModel" "pattern" "I", Cond.fieldLink RX6 122 "FloppyDeskModel" "lastBit" "I", Cond.methodLink RX6 134 yX6_coded, Cond.instanceMethod yX6_coded, Cond.selects RX6 yX6_coded yX6_coded, Cond.code yX6_coded cX6_coded 6 (some .int), Cond.methodLink RX6 144 yX6_writeMark, Cond.instanceMethod yX6_writeMark, Cond.selects RX6 yX6_writeMark yX6_writeMark, Cond.code yX6_writeMark cX6_writeMark 1 none, Cond.methodLink RX6 28 yX6_step, Cond.static yX6_step, Cond.code yX6_step cX6_step 4 (some .int), Cond.constant RX6 27 (65535), Cond.methodLink RX6 150 yX6_ask]
def wsX6_sectorByte_r2 : List Cond := [Cond.instanceMethod yX6_ask, Cond.selects RX6 yX6_ask yX6_ask, Cond.code yX6_ask cX6_ask 1 (some .int), Cond.fieldLink RX6 61 "FloppyDeskModel" "data" "I", Cond.methodLink RX6 64 yX6_has, Cond.instanceMethod yX6_has, Cond.selects RX6 yX6_has yX6_has, Cond.code yX6_has cX6_has 2 (some .boolean), Cond.fieldLink RX6 38 "FloppyDeskModel" "status" "I", Cond.methodLink RX6 68 yX6_raise, Cond.instanceMethod yX6_raise, Cond.selects RX6 yX6_raise yX6_raise, Cond.code yX6_raise cX6_raise 2 none]
def wsX6_sectorByte : List Cond := .code yX6_sectorByte cX6_sectorByte 4 none :: ((wsX6_sectorByte_r1 ++ wsX6_sectorByte_r2) ++ wsX60)
def wsX6_trackByte_r1 : List Cond := [Cond.fieldLink RX6 131 "FloppyDeskModel" "second" "I", Cond.fieldLink RX6 128 "FloppyDeskModel" "lastMark" "Z", Cond.fieldLink RX6 125 "FloppyDeskModel" "sum" "I", Cond.constant RX6 27 (65535), Cond.methodLink RX6 141 yX6_write, Cond.instanceMethod yX6_write, Cond.selects RX6 yX6_write yX6_write, Cond.initialized RX6, Cond.code yX6_write cX6_write 2 none, Cond.fieldLink RX6 138 "FloppyDeskModel" "pattern" "I", Cond.fieldLink RX6 122 "FloppyDeskModel" "lastBit" "I", Cond.methodLink RX6 134 yX6_coded, Cond.instanceMethod yX6_coded, Cond.selects RX6 yX6_coded yX6_coded, Cond.code yX6_coded cX6_coded 6 (some .int), Cond.methodLink RX6 150 yX6_ask, Cond.instanceMethod yX6_ask, Cond.selects RX6 yX6_ask yX6_ask, Cond.code yX6_ask cX6_ask 1 (some .int), Cond.fieldLink RX6 61 "FloppyDeskModel" "data" "I", Cond.methodLink RX6 64 yX6_has, Cond.instanceMethod yX6_has, Cond.selects RX6 yX6_has yX6_has, Cond.code yX6_has cX6_has 2 (some .boolean)]
def wsX6_trackByte_r2 : List Cond := [Cond.fieldLink RX6 38 "FloppyDeskModel" "status" "I", Cond.methodLink RX6 68 yX6_raise, Cond.instanceMethod yX6_raise, Cond.selects RX6 yX6_raise yX6_raise, Cond.code yX6_raise cX6_raise 2 none, Cond.methodLink RX6 144 yX6_writeMark, Cond.instanceMethod yX6_writeMark, Cond.selects RX6 yX6_writeMark yX6_writeMark, Cond.code yX6_writeMark cX6_writeMark 1 none, Cond.methodLink RX6 28 yX6_step, Cond.static yX6_step, Cond.code yX6_step cX6_step 4 (some .int)]
def wsX6_trackByte : List Cond := .code yX6_trackByte cX6_trackByte 3 none :: ((wsX6_trackByte_r1 ++ wsX6_trackByte_r2) ++ wsX60)
def wsX6_writeCell_r1 : List Cond := [Cond.fieldLink RX6 116 "FloppyDeskModel" "written" "I", Cond.fieldLink RX6 55 "FloppyDeskModel" "phase" "I", Cond.fieldLink RX6 7 "FloppyDeskModel" "cell" "[Z", Cond.fieldLink RX6 101 "FloppyDeskModel" "head" "I", Cond.fieldLink RX6 104 "FloppyDeskModel" "place" "I", Cond.fieldLink RX6 138 "FloppyDeskModel" "pattern" "I", Cond.fieldLink RX6 119 "FloppyDeskModel" "which" "I", Cond.fieldLink RX6 17 "FloppyDeskModel" "dataSize" "I", Cond.methodLink RX6 154 yX6_sectorByte, Cond.instanceMethod yX6_sectorByte, Cond.selects RX6 yX6_sectorByte yX6_sectorByte, Cond.initialized RX6, Cond.code yX6_sectorByte cX6_sectorByte 4 none, Cond.fieldLink RX6 125 "FloppyDeskModel" "sum" "I", Cond.fieldLink RX6 147 "FloppyDeskModel" "removes" "Z", Cond.methodLink RX6 141 yX6_write, Cond.instanceMethod yX6_write, Cond.selects RX6 yX6_write yX6_write, Cond.code yX6_write cX6_write 2 none, Cond.fieldLink RX6 122 "FloppyDeskModel" "lastBit" "I", Cond.methodLink RX6 134 yX6_coded, Cond.instanceMethod yX6_coded, Cond.selects RX6 yX6_coded yX6_coded, Cond.code yX6_coded cX6_coded 6 (some .int)]
def wsX6_writeCell_r2 : List Cond := [Cond.methodLink RX6 144 yX6_writeMark, Cond.instanceMethod yX6_writeMark, Cond.selects RX6 yX6_writeMark yX6_writeMark, Cond.code yX6_writeMark cX6_writeMark 1 none, Cond.methodLink RX6 28 yX6_step, Cond.static yX6_step, Cond.code yX6_step cX6_step 4 (some .int), Cond.constant RX6 27 (65535), Cond.methodLink RX6 150 yX6_ask, Cond.instanceMethod yX6_ask, Cond.selects RX6 yX6_ask yX6_ask, Cond.code yX6_ask cX6_ask 1 (some .int), Cond.fieldLink RX6 61 "FloppyDeskModel" "data" "I", Cond.methodLink RX6 64 yX6_has, Cond.instanceMethod yX6_has, Cond.selects RX6 yX6_has yX6_has, Cond.code yX6_has cX6_has 2 (some .boolean), Cond.fieldLink RX6 38 "FloppyDeskModel" "status" "I", Cond.methodLink RX6 68 yX6_raise, Cond.instanceMethod yX6_raise, Cond.selects RX6 yX6_raise yX6_raise, Cond.code yX6_raise cX6_raise 2 none, Cond.methodLink RX6 157 yX6_trackByte, Cond.instanceMethod yX6_trackByte]
def wsX6_writeCell_r3 : List Cond := [Cond.selects RX6 yX6_trackByte yX6_trackByte, Cond.code yX6_trackByte cX6_trackByte 3 none, Cond.fieldLink RX6 131 "FloppyDeskModel" "second" "I", Cond.fieldLink RX6 128 "FloppyDeskModel" "lastMark" "Z", Cond.methodLink RX6 74 yX6_end, Cond.instanceMethod yX6_end, Cond.selects RX6 yX6_end yX6_end, Cond.code yX6_end cX6_end 1 none, Cond.fieldLink RX6 58 "FloppyDeskModel" "window" "I", Cond.methodLink RX6 51 yX6_drop, Cond.instanceMethod yX6_drop, Cond.selects RX6 yX6_drop yX6_drop, Cond.code yX6_drop cX6_drop 2 none]
def wsX6_writeCell : List Cond := .code yX6_writeCell cX6_writeCell 1 none :: ((wsX6_writeCell_r1 ++ (wsX6_writeCell_r2 ++ wsX6_writeCell_r3)) ++ wsX60)
def wsX6_index_r1 : List Cond := [Cond.fieldLink RX6 160 "FloppyDeskModel" "indexes" "I", Cond.fieldLink RX6 55 "FloppyDeskModel" "phase" "I", Cond.methodLink RX6 74 yX6_end, Cond.instanceMethod yX6_end, Cond.selects RX6 yX6_end yX6_end, Cond.initialized RX6, Cond.code yX6_end cX6_end 1 none, Cond.fieldLink RX6 58 "FloppyDeskModel" "window" "I", Cond.methodLink RX6 51 yX6_drop, Cond.instanceMethod yX6_drop, Cond.selects RX6 yX6_drop yX6_drop, Cond.code yX6_drop cX6_drop 2 none, Cond.fieldLink RX6 38 "FloppyDeskModel" "status" "I", Cond.methodLink RX6 64 yX6_has, Cond.instanceMethod yX6_has, Cond.selects RX6 yX6_has yX6_has, Cond.code yX6_has cX6_has 2 (some .boolean), Cond.methodLink RX6 68 yX6_raise, Cond.instanceMethod yX6_raise, Cond.selects RX6 yX6_raise yX6_raise, Cond.code yX6_raise cX6_raise 2 none, Cond.methodLink RX6 163 yX6_startWriting, Cond.instanceMethod yX6_startWriting, Cond.selects RX6 yX6_startWriting yX6_startWriting]
def wsX6_index_r2 : List Cond := [Cond.code yX6_startWriting cX6_startWriting 2 none, Cond.fieldLink RX6 116 "FloppyDeskModel" "written" "I", Cond.fieldLink RX6 119 "FloppyDeskModel" "which" "I", Cond.fieldLink RX6 122 "FloppyDeskModel" "lastBit" "I", Cond.constant RX6 27 (65535), Cond.fieldLink RX6 125 "FloppyDeskModel" "sum" "I", Cond.fieldLink RX6 128 "FloppyDeskModel" "lastMark" "Z", Cond.fieldLink RX6 131 "FloppyDeskModel" "second" "I", Cond.methodLink RX6 113 yX6_reset, Cond.instanceMethod yX6_reset, Cond.selects RX6 yX6_reset yX6_reset, Cond.code yX6_reset cX6_reset 1 none, Cond.fieldLink RX6 41 "FloppyDeskModel" "inStep" "Z", Cond.fieldLink RX6 45 "FloppyDeskModel" "marks" "I", Cond.fieldLink RX6 48 "FloppyDeskModel" "field" "I"]
def wsX6_index : List Cond := .code yX6_index cX6_index 1 none :: ((wsX6_index_r1 ++ wsX6_index_r2) ++ wsX60)
def wsX6_stepHead : List Cond := .code yX6_stepHead cX6_stepHead 2 none :: ([.fieldLink RX6 21 "FloppyDeskModel" "latest" "I", .fieldLink RX6 101 "FloppyDeskModel" "head" "I", .fieldLink RX6 77 "FloppyDeskModel" "track" "I", .fieldLink RX6 61 "FloppyDeskModel" "data" "I", .methodLink RX6 74 yX6_end, .instanceMethod yX6_end, .selects RX6 yX6_end yX6_end, .initialized RX6, .code yX6_end cX6_end 1 none, .fieldLink RX6 55 "FloppyDeskModel" "phase" "I", .fieldLink RX6 58 "FloppyDeskModel" "window" "I", .methodLink RX6 51 yX6_drop, .instanceMethod yX6_drop, .selects RX6 yX6_drop yX6_drop, .code yX6_drop cX6_drop 2 none, .fieldLink RX6 38 "FloppyDeskModel" "status" "I"] ++ wsX60)
def wsX6_later_r1 : List Cond := [Cond.fieldLink RX6 55 "FloppyDeskModel" "phase" "I", Cond.fieldLink RX6 80 "FloppyDeskModel" "count" "I", Cond.methodLink RX6 166 yX6_stepHead, Cond.instanceMethod yX6_stepHead, Cond.selects RX6 yX6_stepHead yX6_stepHead, Cond.initialized RX6, Cond.code yX6_stepHead cX6_stepHead 2 none, Cond.fieldLink RX6 21 "FloppyDeskModel" "latest" "I", Cond.fieldLink RX6 101 "FloppyDeskModel" "head" "I", Cond.fieldLink RX6 77 "FloppyDeskModel" "track" "I", Cond.fieldLink RX6 61 "FloppyDeskModel" "data" "I", Cond.methodLink RX6 74 yX6_end, Cond.instanceMethod yX6_end, Cond.selects RX6 yX6_end yX6_end, Cond.code yX6_end cX6_end 1 none, Cond.fieldLink RX6 58 "FloppyDeskModel" "window" "I", Cond.methodLink RX6 51 yX6_drop, Cond.instanceMethod yX6_drop, Cond.selects RX6 yX6_drop yX6_drop, Cond.code yX6_drop cX6_drop 2 none, Cond.fieldLink RX6 38 "FloppyDeskModel" "status" "I", Cond.methodLink RX6 64 yX6_has, Cond.instanceMethod yX6_has, Cond.selects RX6 yX6_has yX6_has]
def wsX6_later_r2 : List Cond := [Cond.code yX6_has cX6_has 2 (some .boolean), Cond.methodLink RX6 68 yX6_raise, Cond.instanceMethod yX6_raise, Cond.selects RX6 yX6_raise yX6_raise, Cond.code yX6_raise cX6_raise 2 none, Cond.methodLink RX6 163 yX6_startWriting, Cond.instanceMethod yX6_startWriting, Cond.selects RX6 yX6_startWriting yX6_startWriting, Cond.code yX6_startWriting cX6_startWriting 2 none, Cond.fieldLink RX6 116 "FloppyDeskModel" "written" "I", Cond.fieldLink RX6 119 "FloppyDeskModel" "which" "I", Cond.fieldLink RX6 122 "FloppyDeskModel" "lastBit" "I", Cond.constant RX6 27 (65535), Cond.fieldLink RX6 125 "FloppyDeskModel" "sum" "I", Cond.fieldLink RX6 128 "FloppyDeskModel" "lastMark" "Z", Cond.fieldLink RX6 131 "FloppyDeskModel" "second" "I", Cond.methodLink RX6 113 yX6_reset, Cond.instanceMethod yX6_reset, Cond.selects RX6 yX6_reset yX6_reset, Cond.code yX6_reset cX6_reset 1 none, Cond.fieldLink RX6 41 "FloppyDeskModel" "inStep" "Z", Cond.fieldLink RX6 45 "FloppyDeskModel" "marks" "I", Cond.fieldLink RX6 48 "FloppyDeskModel" "field" "I"]
def wsX6_later : List Cond := .code yX6_later cX6_later 1 none :: ((wsX6_later_r1 ++ wsX6_later_r2) ++ wsX60)
def wsX6_pass_r1 : List Cond := [Cond.fieldLink RX6 55 "FloppyDeskModel" "phase" "I", Cond.fieldLink RX6 104 "FloppyDeskModel" "place" "I", Cond.methodLink RX6 169 yX6_writeCell, Cond.instanceMethod yX6_writeCell, Cond.selects RX6 yX6_writeCell yX6_writeCell, Cond.initialized RX6, Cond.code yX6_writeCell cX6_writeCell 1 none, Cond.fieldLink RX6 116 "FloppyDeskModel" "written" "I", Cond.fieldLink RX6 7 "FloppyDeskModel" "cell" "[Z", Cond.fieldLink RX6 101 "FloppyDeskModel" "head" "I", Cond.fieldLink RX6 138 "FloppyDeskModel" "pattern" "I", Cond.fieldLink RX6 119 "FloppyDeskModel" "which" "I", Cond.fieldLink RX6 17 "FloppyDeskModel" "dataSize" "I", Cond.methodLink RX6 154 yX6_sectorByte, Cond.instanceMethod yX6_sectorByte, Cond.selects RX6 yX6_sectorByte yX6_sectorByte, Cond.code yX6_sectorByte cX6_sectorByte 4 none, Cond.fieldLink RX6 125 "FloppyDeskModel" "sum" "I", Cond.fieldLink RX6 147 "FloppyDeskModel" "removes" "Z", Cond.methodLink RX6 141 yX6_write, Cond.instanceMethod yX6_write, Cond.selects RX6 yX6_write yX6_write, Cond.code yX6_write cX6_write 2 none, Cond.fieldLink RX6 122 "FloppyDeskModel" "lastBit" "I"]
def wsX6_pass_r2 : List Cond := [Cond.methodLink RX6 134 yX6_coded, Cond.instanceMethod yX6_coded, Cond.selects RX6 yX6_coded yX6_coded, Cond.code yX6_coded cX6_coded 6 (some .int), Cond.methodLink RX6 144 yX6_writeMark, Cond.instanceMethod yX6_writeMark, Cond.selects RX6 yX6_writeMark yX6_writeMark, Cond.code yX6_writeMark cX6_writeMark 1 none, Cond.methodLink RX6 28 yX6_step, Cond.static yX6_step, Cond.code yX6_step cX6_step 4 (some .int), Cond.constant RX6 27 (65535), Cond.methodLink RX6 150 yX6_ask, Cond.instanceMethod yX6_ask, Cond.selects RX6 yX6_ask yX6_ask, Cond.code yX6_ask cX6_ask 1 (some .int), Cond.fieldLink RX6 61 "FloppyDeskModel" "data" "I", Cond.methodLink RX6 64 yX6_has, Cond.instanceMethod yX6_has, Cond.selects RX6 yX6_has yX6_has, Cond.code yX6_has cX6_has 2 (some .boolean), Cond.fieldLink RX6 38 "FloppyDeskModel" "status" "I", Cond.methodLink RX6 68 yX6_raise, Cond.instanceMethod yX6_raise]
def wsX6_pass_r3 : List Cond := [Cond.selects RX6 yX6_raise yX6_raise, Cond.code yX6_raise cX6_raise 2 none, Cond.methodLink RX6 157 yX6_trackByte, Cond.instanceMethod yX6_trackByte, Cond.selects RX6 yX6_trackByte yX6_trackByte, Cond.code yX6_trackByte cX6_trackByte 3 none, Cond.fieldLink RX6 131 "FloppyDeskModel" "second" "I", Cond.fieldLink RX6 128 "FloppyDeskModel" "lastMark" "Z", Cond.methodLink RX6 74 yX6_end, Cond.instanceMethod yX6_end, Cond.selects RX6 yX6_end yX6_end, Cond.code yX6_end cX6_end 1 none, Cond.fieldLink RX6 58 "FloppyDeskModel" "window" "I", Cond.methodLink RX6 51 yX6_drop, Cond.instanceMethod yX6_drop, Cond.selects RX6 yX6_drop yX6_drop, Cond.code yX6_drop cX6_drop 2 none, Cond.methodLink RX6 172 yX6_readCell, Cond.instanceMethod yX6_readCell, Cond.selects RX6 yX6_readCell yX6_readCell, Cond.code yX6_readCell cX6_readCell 3 none, Cond.fieldLink RX6 107 "FloppyDeskModel" "since" "I", Cond.fieldLink RX6 41 "FloppyDeskModel" "inStep" "Z", Cond.fieldLink RX6 48 "FloppyDeskModel" "field" "I"]
def wsX6_pass_r4 : List Cond := [Cond.fieldLink RX6 45 "FloppyDeskModel" "marks" "I", Cond.methodLink RX6 110 yX6_comes, Cond.instanceMethod yX6_comes, Cond.selects RX6 yX6_comes yX6_comes, Cond.code yX6_comes cX6_comes 5 none, Cond.fieldLink RX6 13 "FloppyDeskModel" "bytes" "[I", Cond.fieldLink RX6 35 "FloppyDeskModel" "got" "I", Cond.fieldLink RX6 21 "FloppyDeskModel" "latest" "I", Cond.methodLink RX6 83 yX6_begins, Cond.instanceMethod yX6_begins, Cond.selects RX6 yX6_begins yX6_begins, Cond.code yX6_begins cX6_begins 3 none, Cond.fieldLink RX6 32 "FloppyDeskModel" "began" "I", Cond.methodLink RX6 87 yX6_receive, Cond.instanceMethod yX6_receive, Cond.selects RX6 yX6_receive yX6_receive, Cond.code yX6_receive cX6_receive 2 none, Cond.methodLink RX6 90 yX6_isRight, Cond.instanceMethod yX6_isRight, Cond.selects RX6 yX6_isRight yX6_isRight, Cond.code yX6_isRight cX6_isRight 3 (some .boolean), Cond.methodLink RX6 94 yX6_idOver, Cond.instanceMethod yX6_idOver, Cond.selects RX6 yX6_idOver yX6_idOver]
def wsX6_pass_r5 : List Cond := [Cond.code yX6_idOver cX6_idOver 3 none, Cond.fieldLink RX6 71 "FloppyDeskModel" "sector" "I", Cond.fieldLink RX6 77 "FloppyDeskModel" "track" "I", Cond.fieldLink RX6 80 "FloppyDeskModel" "count" "I", Cond.methodLink RX6 98 yX6_dataOver, Cond.instanceMethod yX6_dataOver, Cond.selects RX6 yX6_dataOver yX6_dataOver, Cond.code yX6_dataOver cX6_dataOver 2 none, Cond.methodLink RX6 175 yX6_index, Cond.instanceMethod yX6_index, Cond.selects RX6 yX6_index yX6_index, Cond.code yX6_index cX6_index 1 none, Cond.fieldLink RX6 160 "FloppyDeskModel" "indexes" "I", Cond.methodLink RX6 163 yX6_startWriting, Cond.instanceMethod yX6_startWriting, Cond.selects RX6 yX6_startWriting yX6_startWriting, Cond.code yX6_startWriting cX6_startWriting 2 none, Cond.methodLink RX6 113 yX6_reset, Cond.instanceMethod yX6_reset, Cond.selects RX6 yX6_reset yX6_reset, Cond.code yX6_reset cX6_reset 1 none, Cond.methodLink RX6 178 yX6_later, Cond.instanceMethod yX6_later, Cond.selects RX6 yX6_later yX6_later]
def wsX6_pass_r6 : List Cond := [Cond.code yX6_later cX6_later 1 none, Cond.methodLink RX6 166 yX6_stepHead, Cond.instanceMethod yX6_stepHead, Cond.selects RX6 yX6_stepHead yX6_stepHead, Cond.code yX6_stepHead cX6_stepHead 2 none]
def wsX6_pass : List Cond := .code yX6_pass cX6_pass 3 (some .int) :: ((wsX6_pass_r1 ++ (wsX6_pass_r2 ++ (wsX6_pass_r3 ++ (wsX6_pass_r4 ++ (wsX6_pass_r5 ++ wsX6_pass_r6))))) ++ wsX60)
def wsX6_command_r1 : List Cond := [Cond.fieldLink RX6 21 "FloppyDeskModel" "latest" "I", Cond.fieldLink RX6 38 "FloppyDeskModel" "status" "I", Cond.fieldLink RX6 147 "FloppyDeskModel" "removes" "Z", Cond.fieldLink RX6 17 "FloppyDeskModel" "dataSize" "I", Cond.fieldLink RX6 160 "FloppyDeskModel" "indexes" "I", Cond.fieldLink RX6 80 "FloppyDeskModel" "count" "I", Cond.fieldLink RX6 77 "FloppyDeskModel" "track" "I", Cond.fieldLink RX6 61 "FloppyDeskModel" "data" "I", Cond.fieldLink RX6 55 "FloppyDeskModel" "phase" "I", Cond.fieldLink RX6 181 "FloppyDeskModel" "shut" "Z", Cond.methodLink RX6 64 yX6_has, Cond.instanceMethod yX6_has, Cond.selects RX6 yX6_has yX6_has, Cond.initialized RX6, Cond.code yX6_has cX6_has 2 (some .boolean), Cond.methodLink RX6 113 yX6_reset, Cond.instanceMethod yX6_reset, Cond.selects RX6 yX6_reset yX6_reset, Cond.code yX6_reset cX6_reset 1 none, Cond.fieldLink RX6 41 "FloppyDeskModel" "inStep" "Z", Cond.fieldLink RX6 45 "FloppyDeskModel" "marks" "I", Cond.fieldLink RX6 48 "FloppyDeskModel" "field" "I", Cond.methodLink RX6 68 yX6_raise, Cond.instanceMethod yX6_raise]
def wsX6_command_r2 : List Cond := [Cond.selects RX6 yX6_raise yX6_raise, Cond.code yX6_raise cX6_raise 2 none, Cond.methodLink RX6 74 yX6_end, Cond.instanceMethod yX6_end, Cond.selects RX6 yX6_end yX6_end, Cond.code yX6_end cX6_end 1 none, Cond.fieldLink RX6 58 "FloppyDeskModel" "window" "I", Cond.methodLink RX6 51 yX6_drop, Cond.instanceMethod yX6_drop, Cond.selects RX6 yX6_drop yX6_drop, Cond.code yX6_drop cX6_drop 2 none]
def wsX6_command : List Cond := .code yX6_command cX6_command 3 (some .boolean) :: ((wsX6_command_r1 ++ wsX6_command_r2) ++ wsX60)
def wsX6_force : List Cond := .code yX6_force cX6_force 1 (some .boolean) :: ([.methodLink RX6 64 yX6_has, .instanceMethod yX6_has, .selects RX6 yX6_has yX6_has, .initialized RX6, .code yX6_has cX6_has 2 (some .boolean), .fieldLink RX6 38 "FloppyDeskModel" "status" "I", .methodLink RX6 74 yX6_end, .instanceMethod yX6_end, .selects RX6 yX6_end yX6_end, .code yX6_end cX6_end 1 none, .fieldLink RX6 55 "FloppyDeskModel" "phase" "I", .fieldLink RX6 58 "FloppyDeskModel" "window" "I", .methodLink RX6 51 yX6_drop, .instanceMethod yX6_drop, .selects RX6 yX6_drop yX6_drop, .code yX6_drop cX6_drop 2 none] ++ wsX60)
def wsX6_set : List Cond := .code yX6_set cX6_set 3 (some .boolean) :: ([.fieldLink RX6 77 "FloppyDeskModel" "track" "I", .fieldLink RX6 71 "FloppyDeskModel" "sector" "I", .methodLink RX6 64 yX6_has, .instanceMethod yX6_has, .selects RX6 yX6_has yX6_has, .initialized RX6, .code yX6_has cX6_has 2 (some .boolean), .fieldLink RX6 38 "FloppyDeskModel" "status" "I"] ++ wsX60)
def wsX6_give : List Cond := .code yX6_give cX6_give 2 (some .boolean) :: ([.fieldLink RX6 61 "FloppyDeskModel" "data" "I", .methodLink RX6 51 yX6_drop, .instanceMethod yX6_drop, .selects RX6 yX6_drop yX6_drop, .initialized RX6, .code yX6_drop cX6_drop 2 none, .fieldLink RX6 38 "FloppyDeskModel" "status" "I"] ++ wsX60)
def wsX6_take : List Cond := .code yX6_take cX6_take 1 (some .int) :: ([.fieldLink RX6 61 "FloppyDeskModel" "data" "I", .methodLink RX6 51 yX6_drop, .instanceMethod yX6_drop, .selects RX6 yX6_drop yX6_drop, .initialized RX6, .code yX6_drop cX6_drop 2 none, .fieldLink RX6 38 "FloppyDeskModel" "status" "I"] ++ wsX60)
def wsX6_run_r1 : List Cond := [Cond.methodLink RX6 184 yX6_pass, Cond.instanceMethod yX6_pass, Cond.selects RX6 yX6_pass yX6_pass, Cond.initialized RX6, Cond.code yX6_pass cX6_pass 3 (some .int), Cond.fieldLink RX6 55 "FloppyDeskModel" "phase" "I", Cond.fieldLink RX6 104 "FloppyDeskModel" "place" "I", Cond.methodLink RX6 169 yX6_writeCell, Cond.instanceMethod yX6_writeCell, Cond.selects RX6 yX6_writeCell yX6_writeCell, Cond.code yX6_writeCell cX6_writeCell 1 none, Cond.fieldLink RX6 116 "FloppyDeskModel" "written" "I", Cond.fieldLink RX6 7 "FloppyDeskModel" "cell" "[Z", Cond.fieldLink RX6 101 "FloppyDeskModel" "head" "I", Cond.fieldLink RX6 138 "FloppyDeskModel" "pattern" "I", Cond.fieldLink RX6 119 "FloppyDeskModel" "which" "I", Cond.fieldLink RX6 17 "FloppyDeskModel" "dataSize" "I", Cond.methodLink RX6 154 yX6_sectorByte, Cond.instanceMethod yX6_sectorByte, Cond.selects RX6 yX6_sectorByte yX6_sectorByte, Cond.code yX6_sectorByte cX6_sectorByte 4 none, Cond.fieldLink RX6 125 "FloppyDeskModel" "sum" "I", Cond.fieldLink RX6 147 "FloppyDeskModel" "removes" "Z", Cond.methodLink RX6 141 yX6_write]
def wsX6_run_r2 : List Cond := [Cond.instanceMethod yX6_write, Cond.selects RX6 yX6_write yX6_write, Cond.code yX6_write cX6_write 2 none, Cond.fieldLink RX6 122 "FloppyDeskModel" "lastBit" "I", Cond.methodLink RX6 134 yX6_coded, Cond.instanceMethod yX6_coded, Cond.selects RX6 yX6_coded yX6_coded, Cond.code yX6_coded cX6_coded 6 (some .int), Cond.methodLink RX6 144 yX6_writeMark, Cond.instanceMethod yX6_writeMark, Cond.selects RX6 yX6_writeMark yX6_writeMark, Cond.code yX6_writeMark cX6_writeMark 1 none, Cond.methodLink RX6 28 yX6_step, Cond.static yX6_step, Cond.code yX6_step cX6_step 4 (some .int), Cond.constant RX6 27 (65535), Cond.methodLink RX6 150 yX6_ask, Cond.instanceMethod yX6_ask, Cond.selects RX6 yX6_ask yX6_ask, Cond.code yX6_ask cX6_ask 1 (some .int), Cond.fieldLink RX6 61 "FloppyDeskModel" "data" "I", Cond.methodLink RX6 64 yX6_has, Cond.instanceMethod yX6_has, Cond.selects RX6 yX6_has yX6_has]
def wsX6_run_r3 : List Cond := [Cond.code yX6_has cX6_has 2 (some .boolean), Cond.fieldLink RX6 38 "FloppyDeskModel" "status" "I", Cond.methodLink RX6 68 yX6_raise, Cond.instanceMethod yX6_raise, Cond.selects RX6 yX6_raise yX6_raise, Cond.code yX6_raise cX6_raise 2 none, Cond.methodLink RX6 157 yX6_trackByte, Cond.instanceMethod yX6_trackByte, Cond.selects RX6 yX6_trackByte yX6_trackByte, Cond.code yX6_trackByte cX6_trackByte 3 none, Cond.fieldLink RX6 131 "FloppyDeskModel" "second" "I", Cond.fieldLink RX6 128 "FloppyDeskModel" "lastMark" "Z", Cond.methodLink RX6 74 yX6_end, Cond.instanceMethod yX6_end, Cond.selects RX6 yX6_end yX6_end, Cond.code yX6_end cX6_end 1 none, Cond.fieldLink RX6 58 "FloppyDeskModel" "window" "I", Cond.methodLink RX6 51 yX6_drop, Cond.instanceMethod yX6_drop, Cond.selects RX6 yX6_drop yX6_drop, Cond.code yX6_drop cX6_drop 2 none, Cond.methodLink RX6 172 yX6_readCell, Cond.instanceMethod yX6_readCell, Cond.selects RX6 yX6_readCell yX6_readCell]
def wsX6_run_r4 : List Cond := [Cond.code yX6_readCell cX6_readCell 3 none, Cond.fieldLink RX6 107 "FloppyDeskModel" "since" "I", Cond.fieldLink RX6 41 "FloppyDeskModel" "inStep" "Z", Cond.fieldLink RX6 48 "FloppyDeskModel" "field" "I", Cond.fieldLink RX6 45 "FloppyDeskModel" "marks" "I", Cond.methodLink RX6 110 yX6_comes, Cond.instanceMethod yX6_comes, Cond.selects RX6 yX6_comes yX6_comes, Cond.code yX6_comes cX6_comes 5 none, Cond.fieldLink RX6 13 "FloppyDeskModel" "bytes" "[I", Cond.fieldLink RX6 35 "FloppyDeskModel" "got" "I", Cond.fieldLink RX6 21 "FloppyDeskModel" "latest" "I", Cond.methodLink RX6 83 yX6_begins, Cond.instanceMethod yX6_begins, Cond.selects RX6 yX6_begins yX6_begins, Cond.code yX6_begins cX6_begins 3 none, Cond.fieldLink RX6 32 "FloppyDeskModel" "began" "I", Cond.methodLink RX6 87 yX6_receive, Cond.instanceMethod yX6_receive, Cond.selects RX6 yX6_receive yX6_receive, Cond.code yX6_receive cX6_receive 2 none, Cond.methodLink RX6 90 yX6_isRight, Cond.instanceMethod yX6_isRight, Cond.selects RX6 yX6_isRight yX6_isRight]
def wsX6_run_r5 : List Cond := [Cond.code yX6_isRight cX6_isRight 3 (some .boolean), Cond.methodLink RX6 94 yX6_idOver, Cond.instanceMethod yX6_idOver, Cond.selects RX6 yX6_idOver yX6_idOver, Cond.code yX6_idOver cX6_idOver 3 none, Cond.fieldLink RX6 71 "FloppyDeskModel" "sector" "I", Cond.fieldLink RX6 77 "FloppyDeskModel" "track" "I", Cond.fieldLink RX6 80 "FloppyDeskModel" "count" "I", Cond.methodLink RX6 98 yX6_dataOver, Cond.instanceMethod yX6_dataOver, Cond.selects RX6 yX6_dataOver yX6_dataOver, Cond.code yX6_dataOver cX6_dataOver 2 none, Cond.methodLink RX6 175 yX6_index, Cond.instanceMethod yX6_index, Cond.selects RX6 yX6_index yX6_index, Cond.code yX6_index cX6_index 1 none, Cond.fieldLink RX6 160 "FloppyDeskModel" "indexes" "I", Cond.methodLink RX6 163 yX6_startWriting, Cond.instanceMethod yX6_startWriting, Cond.selects RX6 yX6_startWriting yX6_startWriting, Cond.code yX6_startWriting cX6_startWriting 2 none, Cond.methodLink RX6 113 yX6_reset, Cond.instanceMethod yX6_reset, Cond.selects RX6 yX6_reset yX6_reset]
def wsX6_run_r6 : List Cond := [Cond.code yX6_reset cX6_reset 1 none, Cond.methodLink RX6 178 yX6_later, Cond.instanceMethod yX6_later, Cond.selects RX6 yX6_later yX6_later, Cond.code yX6_later cX6_later 1 none, Cond.methodLink RX6 166 yX6_stepHead, Cond.instanceMethod yX6_stepHead, Cond.selects RX6 yX6_stepHead yX6_stepHead, Cond.code yX6_stepHead cX6_stepHead 2 none]
def wsX6_run : List Cond := .code yX6_run cX6_run 4 (some .int) :: ((wsX6_run_r1 ++ (wsX6_run_r2 ++ (wsX6_run_r3 ++ (wsX6_run_r4 ++ (wsX6_run_r5 ++ wsX6_run_r6))))) ++ wsX60)
def wsX6_serve_r1 : List Cond := [Cond.fieldLink RX6 21 "FloppyDeskModel" "latest" "I", Cond.fieldLink RX6 190 "FloppyDeskModel" "buffered" "I", Cond.fieldLink RX6 24 "FloppyDeskModel" "buffer" "[I", Cond.fieldLink RX6 193 "FloppyDeskModel" "next" "I", Cond.methodLink RX6 184 yX6_pass, Cond.instanceMethod yX6_pass, Cond.selects RX6 yX6_pass yX6_pass, Cond.initialized RX6, Cond.code yX6_pass cX6_pass 3 (some .int), Cond.fieldLink RX6 55 "FloppyDeskModel" "phase" "I", Cond.fieldLink RX6 104 "FloppyDeskModel" "place" "I", Cond.methodLink RX6 169 yX6_writeCell, Cond.instanceMethod yX6_writeCell, Cond.selects RX6 yX6_writeCell yX6_writeCell, Cond.code yX6_writeCell cX6_writeCell 1 none, Cond.fieldLink RX6 116 "FloppyDeskModel" "written" "I", Cond.fieldLink RX6 7 "FloppyDeskModel" "cell" "[Z", Cond.fieldLink RX6 101 "FloppyDeskModel" "head" "I", Cond.fieldLink RX6 138 "FloppyDeskModel" "pattern" "I", Cond.fieldLink RX6 119 "FloppyDeskModel" "which" "I", Cond.fieldLink RX6 17 "FloppyDeskModel" "dataSize" "I", Cond.methodLink RX6 154 yX6_sectorByte, Cond.instanceMethod yX6_sectorByte, Cond.selects RX6 yX6_sectorByte yX6_sectorByte]
def wsX6_serve_r2 : List Cond := [Cond.code yX6_sectorByte cX6_sectorByte 4 none, Cond.fieldLink RX6 125 "FloppyDeskModel" "sum" "I", Cond.fieldLink RX6 147 "FloppyDeskModel" "removes" "Z", Cond.methodLink RX6 141 yX6_write, Cond.instanceMethod yX6_write, Cond.selects RX6 yX6_write yX6_write, Cond.code yX6_write cX6_write 2 none, Cond.fieldLink RX6 122 "FloppyDeskModel" "lastBit" "I", Cond.methodLink RX6 134 yX6_coded, Cond.instanceMethod yX6_coded, Cond.selects RX6 yX6_coded yX6_coded, Cond.code yX6_coded cX6_coded 6 (some .int), Cond.methodLink RX6 144 yX6_writeMark, Cond.instanceMethod yX6_writeMark, Cond.selects RX6 yX6_writeMark yX6_writeMark, Cond.code yX6_writeMark cX6_writeMark 1 none, Cond.methodLink RX6 28 yX6_step, Cond.static yX6_step, Cond.code yX6_step cX6_step 4 (some .int), Cond.constant RX6 27 (65535), Cond.methodLink RX6 150 yX6_ask, Cond.instanceMethod yX6_ask, Cond.selects RX6 yX6_ask yX6_ask, Cond.code yX6_ask cX6_ask 1 (some .int)]
def wsX6_serve_r3 : List Cond := [Cond.fieldLink RX6 61 "FloppyDeskModel" "data" "I", Cond.methodLink RX6 64 yX6_has, Cond.instanceMethod yX6_has, Cond.selects RX6 yX6_has yX6_has, Cond.code yX6_has cX6_has 2 (some .boolean), Cond.fieldLink RX6 38 "FloppyDeskModel" "status" "I", Cond.methodLink RX6 68 yX6_raise, Cond.instanceMethod yX6_raise, Cond.selects RX6 yX6_raise yX6_raise, Cond.code yX6_raise cX6_raise 2 none, Cond.methodLink RX6 157 yX6_trackByte, Cond.instanceMethod yX6_trackByte, Cond.selects RX6 yX6_trackByte yX6_trackByte, Cond.code yX6_trackByte cX6_trackByte 3 none, Cond.fieldLink RX6 131 "FloppyDeskModel" "second" "I", Cond.fieldLink RX6 128 "FloppyDeskModel" "lastMark" "Z", Cond.methodLink RX6 74 yX6_end, Cond.instanceMethod yX6_end, Cond.selects RX6 yX6_end yX6_end, Cond.code yX6_end cX6_end 1 none, Cond.fieldLink RX6 58 "FloppyDeskModel" "window" "I", Cond.methodLink RX6 51 yX6_drop, Cond.instanceMethod yX6_drop, Cond.selects RX6 yX6_drop yX6_drop]
def wsX6_serve_r4 : List Cond := [Cond.code yX6_drop cX6_drop 2 none, Cond.methodLink RX6 172 yX6_readCell, Cond.instanceMethod yX6_readCell, Cond.selects RX6 yX6_readCell yX6_readCell, Cond.code yX6_readCell cX6_readCell 3 none, Cond.fieldLink RX6 107 "FloppyDeskModel" "since" "I", Cond.fieldLink RX6 41 "FloppyDeskModel" "inStep" "Z", Cond.fieldLink RX6 48 "FloppyDeskModel" "field" "I", Cond.fieldLink RX6 45 "FloppyDeskModel" "marks" "I", Cond.methodLink RX6 110 yX6_comes, Cond.instanceMethod yX6_comes, Cond.selects RX6 yX6_comes yX6_comes, Cond.code yX6_comes cX6_comes 5 none, Cond.fieldLink RX6 13 "FloppyDeskModel" "bytes" "[I", Cond.fieldLink RX6 35 "FloppyDeskModel" "got" "I", Cond.methodLink RX6 83 yX6_begins, Cond.instanceMethod yX6_begins, Cond.selects RX6 yX6_begins yX6_begins, Cond.code yX6_begins cX6_begins 3 none, Cond.fieldLink RX6 32 "FloppyDeskModel" "began" "I", Cond.methodLink RX6 87 yX6_receive, Cond.instanceMethod yX6_receive, Cond.selects RX6 yX6_receive yX6_receive, Cond.code yX6_receive cX6_receive 2 none]
def wsX6_serve_r5 : List Cond := [Cond.methodLink RX6 90 yX6_isRight, Cond.instanceMethod yX6_isRight, Cond.selects RX6 yX6_isRight yX6_isRight, Cond.code yX6_isRight cX6_isRight 3 (some .boolean), Cond.methodLink RX6 94 yX6_idOver, Cond.instanceMethod yX6_idOver, Cond.selects RX6 yX6_idOver yX6_idOver, Cond.code yX6_idOver cX6_idOver 3 none, Cond.fieldLink RX6 71 "FloppyDeskModel" "sector" "I", Cond.fieldLink RX6 77 "FloppyDeskModel" "track" "I", Cond.fieldLink RX6 80 "FloppyDeskModel" "count" "I", Cond.methodLink RX6 98 yX6_dataOver, Cond.instanceMethod yX6_dataOver, Cond.selects RX6 yX6_dataOver yX6_dataOver, Cond.code yX6_dataOver cX6_dataOver 2 none, Cond.methodLink RX6 175 yX6_index, Cond.instanceMethod yX6_index, Cond.selects RX6 yX6_index yX6_index, Cond.code yX6_index cX6_index 1 none, Cond.fieldLink RX6 160 "FloppyDeskModel" "indexes" "I", Cond.methodLink RX6 163 yX6_startWriting, Cond.instanceMethod yX6_startWriting, Cond.selects RX6 yX6_startWriting yX6_startWriting, Cond.code yX6_startWriting cX6_startWriting 2 none]
def wsX6_serve_r6 : List Cond := [Cond.methodLink RX6 113 yX6_reset, Cond.instanceMethod yX6_reset, Cond.selects RX6 yX6_reset yX6_reset, Cond.code yX6_reset cX6_reset 1 none, Cond.methodLink RX6 178 yX6_later, Cond.instanceMethod yX6_later, Cond.selects RX6 yX6_later yX6_later, Cond.code yX6_later cX6_later 1 none, Cond.methodLink RX6 166 yX6_stepHead, Cond.instanceMethod yX6_stepHead, Cond.selects RX6 yX6_stepHead yX6_stepHead, Cond.code yX6_stepHead cX6_stepHead 2 none, Cond.methodLink RX6 187 yX6_take, Cond.instanceMethod yX6_take, Cond.selects RX6 yX6_take yX6_take, Cond.code yX6_take cX6_take 1 (some .int), Cond.methodLink RX6 196 yX6_give, Cond.instanceMethod yX6_give, Cond.selects RX6 yX6_give yX6_give, Cond.code yX6_give cX6_give 2 (some .boolean)]
def wsX6_serve : List Cond := .code yX6_serve cX6_serve 8 (some .int) :: ((wsX6_serve_r1 ++ (wsX6_serve_r2 ++ (wsX6_serve_r3 ++ (wsX6_serve_r4 ++ (wsX6_serve_r5 ++ wsX6_serve_r6))))) ++ wsX60)
def wsX6_clear : List Cond := .code yX6_clear cX6_clear 1 none :: ([.fieldLink RX6 190 "FloppyDeskModel" "buffered" "I", .fieldLink RX6 193 "FloppyDeskModel" "next" "I"] ++ wsX60)
def wsX6_fill : List Cond := .code yX6_fill cX6_fill 4 (some .boolean) :: ([.fieldLink RX6 190 "FloppyDeskModel" "buffered" "I", .fieldLink RX6 24 "FloppyDeskModel" "buffer" "[I"] ++ wsX60)
def wsX6_buffer : List Cond := .code yX6_buffer cX6_buffer 2 (some .int) :: ([.fieldLink RX6 190 "FloppyDeskModel" "buffered" "I", .fieldLink RX6 24 "FloppyDeskModel" "buffer" "[I"] ++ wsX60)
def wsX6_protect : List Cond := .code yX6_protect cX6_protect 2 none :: ([.fieldLink RX6 181 "FloppyDeskModel" "shut" "Z"] ++ wsX60)
def wsX6_spoil : List Cond := .code yX6_spoil cX6_spoil 3 (some .boolean) :: ([.fieldLink RX6 7 "FloppyDeskModel" "cell" "[Z"] ++ wsX60)
def wsX6_cells : List Cond := .code yX6_cells cX6_cells 5 (some .int) :: ([.fieldLink RX6 7 "FloppyDeskModel" "cell" "[Z"] ++ wsX60)
def wsX6_look : List Cond := .code yX6_look cX6_look 2 (some .int) :: ([.fieldLink RX6 38 "FloppyDeskModel" "status" "I", .fieldLink RX6 77 "FloppyDeskModel" "track" "I", .fieldLink RX6 71 "FloppyDeskModel" "sector" "I", .fieldLink RX6 61 "FloppyDeskModel" "data" "I", .fieldLink RX6 101 "FloppyDeskModel" "head" "I", .fieldLink RX6 104 "FloppyDeskModel" "place" "I", .fieldLink RX6 41 "FloppyDeskModel" "inStep" "Z", .fieldLink RX6 21 "FloppyDeskModel" "latest" "I"] ++ wsX60)
abbrev vwCl : List vw_C := [(RX0, TX0, 12), (RX1, TX1, 4), (RX2, TX2, 14), (RX3, TX3, 3), (RX4, TX4, 7), (RX5, TX5, 4), (RX6, TX6, 32)]
end
section
set_option maxRecDepth 20000 in
theorem ggX0_init_X4_init : GoodIn wsX0_init wsX4_init := goodIn_r _ [12, 13, 2, 3] (by decide +kernel) (by decide +kernel)
set_option maxRecDepth 20000 in
theorem gX0_init_X4_init_n21 : GoodIn wsX0_init (wsX4_init) := ggX0_init_X4_init
theorem dX0_init_0 : decode cX0_init 0 = .ok (.aload_n 0, 1) := by decide +kernel
theorem dX0_init_1 : decode cX0_init 1 = .ok (.invokespecial 3, 3) := by decide +kernel
theorem dX0_init_4 : decode cX0_init 4 = .ok (.aload_n 0, 1) := by decide +kernel
theorem dX0_init_5 : decode cX0_init 5 = .ok (.aload_n 1, 1) := by decide +kernel
theorem dX0_init_6 : decode cX0_init 6 = .ok (.putfield 9, 3) := by decide +kernel
theorem dX0_init_9 : decode cX0_init 9 = .ok (.aload_n 0, 1) := by decide +kernel
theorem dX0_init_10 : decode cX0_init 10 = .ok (.aload_n 2, 1) := by decide +kernel
theorem dX0_init_11 : decode cX0_init 11 = .ok (.putfield 15, 3) := by decide +kernel
theorem dX0_init_14 : decode cX0_init 14 = .ok (.aload_n 0, 1) := by decide +kernel
theorem dX0_init_15 : decode cX0_init 15 = .ok (.new 19, 3) := by decide +kernel
theorem dX0_init_18 : decode cX0_init 18 = .ok (.dup, 1) := by decide +kernel
theorem dX0_init_19 : decode cX0_init 19 = .ok (.invokespecial 21, 3) := by decide +kernel
theorem dX0_init_22 : decode cX0_init 22 = .ok (.putfield 22, 3) := by decide +kernel
theorem dX0_init_25 : decode cX0_init 25 = .ok (.aload_n 0, 1) := by decide +kernel
theorem dX0_init_26 : decode cX0_init 26 = .ok (.iconst (-1), 1) := by decide +kernel
theorem dX0_init_27 : decode cX0_init 27 = .ok (.putfield 26, 3) := by decide +kernel
theorem dX0_init_30 : decode cX0_init 30 = .ok (.return_, 1) := by decide +kernel
theorem dX0_has_0 : decode cX0_has 0 = .ok (.aload_n 0, 1) := by decide +kernel
theorem dX0_has_1 : decode cX0_has 1 = .ok (.getfield 30, 3) := by decide +kernel
theorem dX0_has_4 : decode cX0_has 4 = .ok (.iload_n 1, 1) := by decide +kernel
theorem dX0_has_5 : decode cX0_has 5 = .ok (.iand, 1) := by decide +kernel
theorem dX0_has_6 : decode cX0_has 6 = .ok (.ifCond .eq 7, 3) := by decide +kernel
theorem dX0_has_9 : decode cX0_has 9 = .ok (.iconst 1, 1) := by decide +kernel
theorem dX0_has_10 : decode cX0_has 10 = .ok (.goto 4, 3) := by decide +kernel
theorem dX0_has_13 : decode cX0_has 13 = .ok (.iconst 0, 1) := by decide +kernel
theorem dX0_has_14 : decode cX0_has 14 = .ok (.ireturn, 1) := by decide +kernel
theorem dX0_acceptData_0 : decode cX0_acceptData 0 = .ok (.aload_n 0, 1) := by decide +kernel
theorem dX0_acceptData_1 : decode cX0_acceptData 1 = .ok (.iload_n 1, 1) := by decide +kernel
theorem dX0_acceptData_2 : decode cX0_acceptData 2 = .ok (.putfield 33, 3) := by decide +kernel
theorem dX0_acceptData_5 : decode cX0_acceptData 5 = .ok (.aload_n 0, 1) := by decide +kernel
theorem dX0_acceptData_6 : decode cX0_acceptData 6 = .ok (.dup, 1) := by decide +kernel
theorem dX0_acceptData_7 : decode cX0_acceptData 7 = .ok (.getfield 30, 3) := by decide +kernel
theorem dX0_acceptData_10 : decode cX0_acceptData 10 = .ok (.bipush (-3), 2) := by decide +kernel
theorem dX0_acceptData_12 : decode cX0_acceptData 12 = .ok (.iand, 1) := by decide +kernel
theorem dX0_acceptData_13 : decode cX0_acceptData 13 = .ok (.putfield 30, 3) := by decide +kernel
theorem dX0_acceptData_16 : decode cX0_acceptData 16 = .ok (.return_, 1) := by decide +kernel
theorem dX0_handOutData_0 : decode cX0_handOutData 0 = .ok (.aload_n 0, 1) := by decide +kernel
theorem dX0_handOutData_1 : decode cX0_handOutData 1 = .ok (.dup, 1) := by decide +kernel
theorem dX0_handOutData_2 : decode cX0_handOutData 2 = .ok (.getfield 30, 3) := by decide +kernel
theorem dX0_handOutData_5 : decode cX0_handOutData 5 = .ok (.bipush (-3), 2) := by decide +kernel
theorem dX0_handOutData_7 : decode cX0_handOutData 7 = .ok (.iand, 1) := by decide +kernel
theorem dX0_handOutData_8 : decode cX0_handOutData 8 = .ok (.putfield 30, 3) := by decide +kernel
theorem dX0_handOutData_11 : decode cX0_handOutData 11 = .ok (.aload_n 0, 1) := by decide +kernel
theorem dX0_handOutData_12 : decode cX0_handOutData 12 = .ok (.getfield 33, 3) := by decide +kernel
theorem dX0_handOutData_15 : decode cX0_handOutData 15 = .ok (.ireturn, 1) := by decide +kernel
set_option maxRecDepth 20000 in
theorem ggX0_begin_X0_has : GoodIn wsX0_begin wsX0_has := goodIn_r _ [15, 3, 42, 43, 44, 45, 46, 47, 48, 49, 50, 51, 52, 53] (by decide +kernel) (by decide +kernel)
set_option maxRecDepth 20000 in
theorem gX0_begin_X0_has : GoodIn wsX0_begin (wsV RX0 36 RX0 yX0_has wsX0_has) := goodIn_app (goodIn_of _ (by decide +kernel)) ggX0_begin_X0_has
set_option maxRecDepth 20000 in
theorem ggX0_begin_X2_reset : GoodIn wsX0_begin wsX2_reset := goodIn_r _ [20, 21, 22, 23, 58, 59, 60, 61, 62, 63, 64, 65, 66, 67, 68, 69, 70, 71] (by decide +kernel) (by decide +kernel)
set_option maxRecDepth 20000 in
theorem gX0_begin_X2_reset : GoodIn wsX0_begin (wsV RX0 50 RX2 yX2_reset wsX2_reset) := goodIn_app (goodIn_of _ (by decide +kernel)) ggX0_begin_X2_reset
set_option maxRecDepth 20000 in
theorem ggX0_begin_X2_forgetDataSize : GoodIn wsX0_begin wsX2_forgetDataSize := goodIn_r _ [27, 28, 58, 59, 60, 61, 62, 63, 64, 65, 66, 67, 68, 69, 70, 71] (by decide +kernel) (by decide +kernel)
set_option maxRecDepth 20000 in
theorem gX0_begin_X2_forgetDataSize : GoodIn wsX0_begin (wsV RX0 55 RX2 yX2_forgetDataSize wsX2_forgetDataSize) := goodIn_app (goodIn_of _ (by decide +kernel)) ggX0_begin_X2_forgetDataSize
set_option maxRecDepth 20000 in
theorem ggX0_begin_X0_endWith : GoodIn wsX0_begin wsX0_endWith := goodIn_r _ [32, 3, 33, 34, 35, 14, 36, 10, 6, 37, 38, 39, 19, 40, 41, 42, 43, 44, 45, 46, 47, 48, 49, 50, 51, 52, 53, 58, 59, 60, 61, 62, 63, 64, 65, 66, 67, 68, 69, 70, 71] (by decide +kernel) (by decide +kernel)
set_option maxRecDepth 20000 in
theorem gX0_begin_X0_endWith : GoodIn wsX0_begin (wsV RX0 66 RX0 yX0_endWith wsX0_endWith) := goodIn_app (goodIn_of _ (by decide +kernel)) ggX0_begin_X0_endWith
theorem dX0_begin_0 : decode cX0_begin 0 = .ok (.iload_n 1, 1) := by decide +kernel
theorem dX0_begin_1 : decode cX0_begin 1 = .ok (.ifCond .lt 16, 3) := by decide +kernel
theorem dX0_begin_4 : decode cX0_begin 4 = .ok (.iload_n 1, 1) := by decide +kernel
theorem dX0_begin_5 : decode cX0_begin 5 = .ok (.iconst 5, 1) := by decide +kernel
theorem dX0_begin_6 : decode cX0_begin 6 = .ok (.if_icmp .gt 11, 3) := by decide +kernel
theorem dX0_begin_9 : decode cX0_begin 9 = .ok (.aload_n 0, 1) := by decide +kernel
theorem dX0_begin_10 : decode cX0_begin 10 = .ok (.iconst 1, 1) := by decide +kernel
theorem dX0_begin_11 : decode cX0_begin 11 = .ok (.invokevirtual 36, 3) := by decide +kernel
theorem dX0_begin_14 : decode cX0_begin 14 = .ok (.ifCond .eq 5, 3) := by decide +kernel
theorem dX0_begin_17 : decode cX0_begin 17 = .ok (.iconst 0, 1) := by decide +kernel
theorem dX0_begin_18 : decode cX0_begin 18 = .ok (.ireturn, 1) := by decide +kernel
theorem dX0_begin_19 : decode cX0_begin 19 = .ok (.aload_n 0, 1) := by decide +kernel
theorem dX0_begin_20 : decode cX0_begin 20 = .ok (.iload_n 1, 1) := by decide +kernel
theorem dX0_begin_21 : decode cX0_begin 21 = .ok (.putfield 26, 3) := by decide +kernel
theorem dX0_begin_24 : decode cX0_begin 24 = .ok (.aload_n 0, 1) := by decide +kernel
theorem dX0_begin_25 : decode cX0_begin 25 = .ok (.iload_n 2, 1) := by decide +kernel
theorem dX0_begin_26 : decode cX0_begin 26 = .ok (.putfield 40, 3) := by decide +kernel
theorem dX0_begin_29 : decode cX0_begin 29 = .ok (.aload_n 0, 1) := by decide +kernel
theorem dX0_begin_30 : decode cX0_begin 30 = .ok (.iconst 1, 1) := by decide +kernel
theorem dX0_begin_31 : decode cX0_begin 31 = .ok (.putfield 30, 3) := by decide +kernel
theorem dX0_begin_34 : decode cX0_begin 34 = .ok (.aload_n 0, 1) := by decide +kernel
theorem dX0_begin_35 : decode cX0_begin 35 = .ok (.iconst 0, 1) := by decide +kernel
theorem dX0_begin_36 : decode cX0_begin 36 = .ok (.putfield 44, 3) := by decide +kernel
theorem dX0_begin_39 : decode cX0_begin 39 = .ok (.aload_n 0, 1) := by decide +kernel
theorem dX0_begin_40 : decode cX0_begin 40 = .ok (.iconst 0, 1) := by decide +kernel
theorem dX0_begin_41 : decode cX0_begin 41 = .ok (.putfield 47, 3) := by decide +kernel
theorem dX0_begin_44 : decode cX0_begin 44 = .ok (.aload_n 0, 1) := by decide +kernel
theorem dX0_begin_45 : decode cX0_begin 45 = .ok (.getfield 15, 3) := by decide +kernel
theorem dX0_begin_48 : decode cX0_begin 48 = .ok (.invokevirtual 50, 3) := by decide +kernel
theorem dX0_begin_51 : decode cX0_begin 51 = .ok (.aload_n 0, 1) := by decide +kernel
theorem dX0_begin_52 : decode cX0_begin 52 = .ok (.getfield 15, 3) := by decide +kernel
theorem dX0_begin_55 : decode cX0_begin 55 = .ok (.invokevirtual 55, 3) := by decide +kernel
theorem dX0_begin_58 : decode cX0_begin 58 = .ok (.iload_n 1, 1) := by decide +kernel
theorem dX0_begin_59 : decode cX0_begin 59 = .ok (.ifCond .ne 15, 3) := by decide +kernel
theorem dX0_begin_62 : decode cX0_begin 62 = .ok (.aload_n 0, 1) := by decide +kernel
theorem dX0_begin_63 : decode cX0_begin 63 = .ok (.sipush 255, 3) := by decide +kernel
theorem dX0_begin_66 : decode cX0_begin 66 = .ok (.putfield 58, 3) := by decide +kernel
theorem dX0_begin_69 : decode cX0_begin 69 = .ok (.aload_n 0, 1) := by decide +kernel
theorem dX0_begin_70 : decode cX0_begin 70 = .ok (.iconst 0, 1) := by decide +kernel
theorem dX0_begin_71 : decode cX0_begin 71 = .ok (.putfield 33, 3) := by decide +kernel
theorem dX0_begin_74 : decode cX0_begin 74 = .ok (.iload_n 1, 1) := by decide +kernel
theorem dX0_begin_75 : decode cX0_begin 75 = .ok (.iconst 3, 1) := by decide +kernel
theorem dX0_begin_76 : decode cX0_begin 76 = .ok (.if_icmp .eq 8, 3) := by decide +kernel
theorem dX0_begin_79 : decode cX0_begin 79 = .ok (.iload_n 1, 1) := by decide +kernel
theorem dX0_begin_80 : decode cX0_begin 80 = .ok (.iconst 5, 1) := by decide +kernel
theorem dX0_begin_81 : decode cX0_begin 81 = .ok (.if_icmp .ne 22, 3) := by decide +kernel
theorem dX0_begin_84 : decode cX0_begin 84 = .ok (.aload_n 0, 1) := by decide +kernel
theorem dX0_begin_85 : decode cX0_begin 85 = .ok (.getfield 9, 3) := by decide +kernel
theorem dX0_begin_88 : decode cX0_begin 88 = .ok (.getfield 61, 3) := by decide +kernel
theorem dX0_begin_91 : decode cX0_begin 91 = .ok (.ifCond .eq 12, 3) := by decide +kernel
theorem dX0_begin_94 : decode cX0_begin 94 = .ok (.aload_n 0, 1) := by decide +kernel
theorem dX0_begin_95 : decode cX0_begin 95 = .ok (.bipush 64, 2) := by decide +kernel
theorem dX0_begin_97 : decode cX0_begin 97 = .ok (.invokevirtual 66, 3) := by decide +kernel
theorem dX0_begin_100 : decode cX0_begin 100 = .ok (.goto 45, 3) := by decide +kernel
theorem dX0_begin_103 : decode cX0_begin 103 = .ok (.iload_n 1, 1) := by decide +kernel
theorem dX0_begin_104 : decode cX0_begin 104 = .ok (.iconst 5, 1) := by decide +kernel
theorem dX0_begin_105 : decode cX0_begin 105 = .ok (.if_icmp .ne 22, 3) := by decide +kernel
theorem dX0_begin_108 : decode cX0_begin 108 = .ok (.aload_n 0, 1) := by decide +kernel
theorem dX0_begin_109 : decode cX0_begin 109 = .ok (.dup, 1) := by decide +kernel
theorem dX0_begin_110 : decode cX0_begin 110 = .ok (.getfield 30, 3) := by decide +kernel
theorem dX0_begin_113 : decode cX0_begin 113 = .ok (.iconst 2, 1) := by decide +kernel
theorem dX0_begin_114 : decode cX0_begin 114 = .ok (.ior, 1) := by decide +kernel
theorem dX0_begin_115 : decode cX0_begin 115 = .ok (.putfield 30, 3) := by decide +kernel
theorem dX0_begin_118 : decode cX0_begin 118 = .ok (.aload_n 0, 1) := by decide +kernel
theorem dX0_begin_119 : decode cX0_begin 119 = .ok (.bipush 7, 2) := by decide +kernel
theorem dX0_begin_121 : decode cX0_begin 121 = .ok (.putfield 70, 3) := by decide +kernel
theorem dX0_begin_124 : decode cX0_begin 124 = .ok (.goto 21, 3) := by decide +kernel
theorem dX0_begin_127 : decode cX0_begin 127 = .ok (.aload_n 0, 1) := by decide +kernel
theorem dX0_begin_128 : decode cX0_begin 128 = .ok (.iload_n 1, 1) := by decide +kernel
theorem dX0_begin_129 : decode cX0_begin 129 = .ok (.ifCond .eq 8, 3) := by decide +kernel
theorem dX0_begin_132 : decode cX0_begin 132 = .ok (.iload_n 1, 1) := by decide +kernel
theorem dX0_begin_133 : decode cX0_begin 133 = .ok (.iconst 1, 1) := by decide +kernel
theorem dX0_begin_134 : decode cX0_begin 134 = .ok (.if_icmp .ne 7, 3) := by decide +kernel
theorem dX0_begin_137 : decode cX0_begin 137 = .ok (.iconst 1, 1) := by decide +kernel
theorem dX0_begin_138 : decode cX0_begin 138 = .ok (.goto 4, 3) := by decide +kernel
theorem dX0_begin_141 : decode cX0_begin 141 = .ok (.iconst 2, 1) := by decide +kernel
theorem dX0_begin_142 : decode cX0_begin 142 = .ok (.putfield 70, 3) := by decide +kernel
theorem dX0_begin_145 : decode cX0_begin 145 = .ok (.iconst 1, 1) := by decide +kernel
theorem dX0_begin_146 : decode cX0_begin 146 = .ok (.ireturn, 1) := by decide +kernel
set_option maxRecDepth 20000 in
theorem ggX0_end_X2_forgetWindow : GoodIn wsX0_end wsX2_forgetWindow := goodIn_r _ [8, 9, 22, 23, 24, 25, 26, 27, 28, 29, 30, 31, 32, 33, 34, 35] (by decide +kernel) (by decide +kernel)
set_option maxRecDepth 20000 in
theorem gX0_end_X2_forgetWindow : GoodIn wsX0_end (wsV RX0 73 RX2 yX2_forgetWindow wsX2_forgetWindow) := goodIn_app (goodIn_of _ (by decide +kernel)) ggX0_end_X2_forgetWindow
theorem dX0_end_0 : decode cX0_end 0 = .ok (.aload_n 0, 1) := by decide +kernel
theorem dX0_end_1 : decode cX0_end 1 = .ok (.dup, 1) := by decide +kernel
theorem dX0_end_2 : decode cX0_end 2 = .ok (.getfield 30, 3) := by decide +kernel
theorem dX0_end_5 : decode cX0_end 5 = .ok (.bipush (-4), 2) := by decide +kernel
theorem dX0_end_7 : decode cX0_end 7 = .ok (.iand, 1) := by decide +kernel
theorem dX0_end_8 : decode cX0_end 8 = .ok (.putfield 30, 3) := by decide +kernel
theorem dX0_end_11 : decode cX0_end 11 = .ok (.aload_n 0, 1) := by decide +kernel
theorem dX0_end_12 : decode cX0_end 12 = .ok (.getfield 70, 3) := by decide +kernel
theorem dX0_end_15 : decode cX0_end 15 = .ok (.bipush 6, 2) := by decide +kernel
theorem dX0_end_17 : decode cX0_end 17 = .ok (.if_icmp .ne 10, 3) := by decide +kernel
theorem dX0_end_20 : decode cX0_end 20 = .ok (.aload_n 0, 1) := by decide +kernel
theorem dX0_end_21 : decode cX0_end 21 = .ok (.getfield 15, 3) := by decide +kernel
theorem dX0_end_24 : decode cX0_end 24 = .ok (.invokevirtual 73, 3) := by decide +kernel
theorem dX0_end_27 : decode cX0_end 27 = .ok (.aload_n 0, 1) := by decide +kernel
theorem dX0_end_28 : decode cX0_end 28 = .ok (.iconst 0, 1) := by decide +kernel
theorem dX0_end_29 : decode cX0_end 29 = .ok (.putfield 70, 3) := by decide +kernel
theorem dX0_end_32 : decode cX0_end 32 = .ok (.return_, 1) := by decide +kernel
set_option maxRecDepth 20000 in
theorem ggX0_endWith_X0_end : GoodIn wsX0_endWith wsX0_end := goodIn_r _ [6, 1, 7, 8, 9, 10, 11, 12, 13, 14, 15, 16, 17, 18, 19, 20, 21, 22, 23, 24, 25, 26, 27, 28, 29, 30, 31, 32, 33, 34, 35, 36, 37, 38, 39, 40] (by decide +kernel) (by decide +kernel)
set_option maxRecDepth 20000 in
theorem gX0_endWith_X0_end : GoodIn wsX0_endWith (wsV RX0 76 RX0 yX0_end wsX0_end) := goodIn_app (goodIn_of _ (by decide +kernel)) ggX0_endWith_X0_end
theorem dX0_endWith_0 : decode cX0_endWith 0 = .ok (.aload_n 0, 1) := by decide +kernel
theorem dX0_endWith_1 : decode cX0_endWith 1 = .ok (.dup, 1) := by decide +kernel
theorem dX0_endWith_2 : decode cX0_endWith 2 = .ok (.getfield 30, 3) := by decide +kernel
theorem dX0_endWith_5 : decode cX0_endWith 5 = .ok (.iload_n 1, 1) := by decide +kernel
theorem dX0_endWith_6 : decode cX0_endWith 6 = .ok (.ior, 1) := by decide +kernel
theorem dX0_endWith_7 : decode cX0_endWith 7 = .ok (.putfield 30, 3) := by decide +kernel
theorem dX0_endWith_10 : decode cX0_endWith 10 = .ok (.aload_n 0, 1) := by decide +kernel
theorem dX0_endWith_11 : decode cX0_endWith 11 = .ok (.invokevirtual 76, 3) := by decide +kernel
theorem dX0_endWith_14 : decode cX0_endWith 14 = .ok (.return_, 1) := by decide +kernel
set_option maxRecDepth 20000 in
theorem ggX0_passByteTime_X0_writeOneCell : GoodIn wsX0_passByteTime wsX0_writeOneCell := goodIn_r _ [7, 8, 9, 2, 10, 11, 12, 13, 6, 14, 15, 16, 17, 18, 19, 20, 21, 22, 23, 24, 25, 26, 27, 28, 29, 30, 31, 32, 33, 34, 35, 36, 37, 38, 39, 40, 41, 42, 43, 44, 45, 46, 47, 48, 49, 50, 51, 52, 53, 54, 55, 56, 57, 58, 59, 60, 61, 62, 63, 64, 65, 66, 67, 68, 69, 70, 71, 72, 73, 74, 75, 76, 77, 78, 79, 80, 81, 82, 83, 84, 85, 86, 87, 88, 89, 90, 91, 92, 1, 93, 94, 95, 96, 97, 98, 212, 213, 214, 215, 216, 217, 218, 219, 220, 221, 222, 223, 224, 225, 226, 227, 228, 229, 230, 231, 232, 233, 234, 235, 236, 237, 238, 239, 240, 241, 242, 243, 244, 245, 246, 247, 248] (by decide +kernel) (by decide +kernel)
set_option maxRecDepth 20000 in
theorem gX0_passByteTime_X0_writeOneCell : GoodIn wsX0_passByteTime (wsV RX0 79 RX0 yX0_writeOneCell wsX0_writeOneCell) := goodIn_app (goodIn_of _ (by decide +kernel)) ggX0_passByteTime_X0_writeOneCell
set_option maxRecDepth 20000 in
theorem ggX0_passByteTime_X0_readOneCell : GoodIn wsX0_passByteTime wsX0_readOneCell := goodIn_r _ [102, 10, 2, 103, 76, 77, 71, 78, 73, 74, 79, 80, 81, 82, 83, 104, 105, 106, 96, 107, 98, 108, 109, 110, 111, 112, 113, 114, 115, 116, 117, 118, 119, 120, 121, 122, 123, 124, 125, 50, 51, 52, 53, 54, 126, 127, 128, 129, 130, 131, 132, 133, 134, 135, 136, 137, 138, 139, 140, 141, 142, 143, 144, 6, 145, 9, 1, 15, 146, 147, 148, 149, 150, 151, 152, 153, 40, 154, 155, 156, 157, 158, 41, 42, 43, 44, 159, 160, 161, 162, 163, 164, 165, 166, 167, 168, 89, 90, 91, 92, 93, 94, 95, 97, 169, 170, 171, 172, 173, 174, 212, 213, 214, 215, 216, 217, 218, 219, 220, 221, 222, 223, 245, 246, 247, 248, 231, 232, 233, 234, 235, 236, 237, 238, 239, 240, 241, 242, 243, 244] (by decide +kernel) (by decide +kernel)
set_option maxRecDepth 20000 in
theorem gX0_passByteTime_X0_readOneCell : GoodIn wsX0_passByteTime (wsV RX0 82 RX0 yX0_readOneCell wsX0_readOneCell) := goodIn_app (goodIn_of _ (by decide +kernel)) ggX0_passByteTime_X0_readOneCell
set_option maxRecDepth 20000 in
theorem ggX0_passByteTime_X1_turnByOneCell : GoodIn wsX0_passByteTime wsX1_turnByOneCell := goodIn_r _ [178, 74, 245, 246, 247, 248] (by decide +kernel) (by decide +kernel)
set_option maxRecDepth 20000 in
theorem gX0_passByteTime_X1_turnByOneCell : GoodIn wsX0_passByteTime (wsV RX0 85 RX1 yX1_turnByOneCell wsX1_turnByOneCell) := goodIn_app (goodIn_of _ (by decide +kernel)) ggX0_passByteTime_X1_turnByOneCell
set_option maxRecDepth 20000 in
theorem ggX0_passByteTime_X0_meetIndex : GoodIn wsX0_passByteTime wsX0_meetIndex := goodIn_r _ [182, 183, 1, 9, 184, 185, 186, 6, 187, 10, 8, 41, 42, 43, 44, 15, 188, 189, 190, 191, 89, 90, 91, 92, 93, 94, 95, 96, 97, 98, 192, 193, 194, 195, 109, 111, 110, 196, 197, 198, 19, 199, 34, 27, 49, 22, 35, 28, 21, 212, 213, 214, 215, 216, 217, 218, 219, 220, 221, 222, 223, 231, 232, 233, 234, 235, 236, 237, 238, 239, 240, 241, 242, 243, 244, 224, 225, 226, 227, 228, 229, 230] (by decide +kernel) (by decide +kernel)
set_option maxRecDepth 20000 in
theorem gX0_passByteTime_X0_meetIndex : GoodIn wsX0_passByteTime (wsV RX0 89 RX0 yX0_meetIndex wsX0_meetIndex) := goodIn_app (goodIn_of _ (by decide +kernel)) ggX0_passByteTime_X0_meetIndex
set_option maxRecDepth 20000 in
theorem ggX0_passByteTime_X0_endByteTime : GoodIn wsX0_passByteTime wsX0_endByteTime := goodIn_r _ [203, 174, 1, 204, 205, 206, 6, 207, 9, 2, 173, 40, 89, 90, 91, 92, 15, 10, 93, 94, 95, 96, 97, 98, 208, 209, 210, 71, 211, 73, 184, 185, 186, 187, 8, 41, 42, 43, 44, 188, 189, 190, 191, 192, 193, 194, 195, 109, 111, 110, 196, 197, 198, 19, 199, 34, 27, 49, 22, 35, 28, 21, 212, 213, 214, 215, 216, 217, 218, 219, 220, 221, 222, 223, 245, 246, 247, 248, 231, 232, 233, 234, 235, 236, 237, 238, 239, 240, 241, 242, 243, 244, 224, 225, 226, 227, 228, 229, 230] (by decide +kernel) (by decide +kernel)
set_option maxRecDepth 20000 in
theorem gX0_passByteTime_X0_endByteTime : GoodIn wsX0_passByteTime (wsV RX0 92 RX0 yX0_endByteTime wsX0_endByteTime) := goodIn_app (goodIn_of _ (by decide +kernel)) ggX0_passByteTime_X0_endByteTime
theorem dX0_passByteTime_0 : decode cX0_passByteTime 0 = .ok (.iconst 0, 1) := by decide +kernel
theorem dX0_passByteTime_1 : decode cX0_passByteTime 1 = .ok (.istore_n 1, 1) := by decide +kernel
theorem dX0_passByteTime_2 : decode cX0_passByteTime 2 = .ok (.iconst 0, 1) := by decide +kernel
theorem dX0_passByteTime_3 : decode cX0_passByteTime 3 = .ok (.istore_n 2, 1) := by decide +kernel
theorem dX0_passByteTime_4 : decode cX0_passByteTime 4 = .ok (.iload_n 2, 1) := by decide +kernel
theorem dX0_passByteTime_5 : decode cX0_passByteTime 5 = .ok (.bipush 16, 2) := by decide +kernel
theorem dX0_passByteTime_7 : decode cX0_passByteTime 7 = .ok (.if_icmp .ge 45, 3) := by decide +kernel
theorem dX0_passByteTime_10 : decode cX0_passByteTime 10 = .ok (.aload_n 0, 1) := by decide +kernel
theorem dX0_passByteTime_11 : decode cX0_passByteTime 11 = .ok (.getfield 70, 3) := by decide +kernel
theorem dX0_passByteTime_14 : decode cX0_passByteTime 14 = .ok (.bipush 6, 2) := by decide +kernel
theorem dX0_passByteTime_16 : decode cX0_passByteTime 16 = .ok (.if_icmp .ne 10, 3) := by decide +kernel
theorem dX0_passByteTime_19 : decode cX0_passByteTime 19 = .ok (.aload_n 0, 1) := by decide +kernel
theorem dX0_passByteTime_20 : decode cX0_passByteTime 20 = .ok (.invokevirtual 79, 3) := by decide +kernel
theorem dX0_passByteTime_23 : decode cX0_passByteTime 23 = .ok (.goto 7, 3) := by decide +kernel
theorem dX0_passByteTime_26 : decode cX0_passByteTime 26 = .ok (.aload_n 0, 1) := by decide +kernel
theorem dX0_passByteTime_27 : decode cX0_passByteTime 27 = .ok (.invokevirtual 82, 3) := by decide +kernel
theorem dX0_passByteTime_30 : decode cX0_passByteTime 30 = .ok (.aload_n 0, 1) := by decide +kernel
theorem dX0_passByteTime_31 : decode cX0_passByteTime 31 = .ok (.getfield 9, 3) := by decide +kernel
theorem dX0_passByteTime_34 : decode cX0_passByteTime 34 = .ok (.invokevirtual 85, 3) := by decide +kernel
theorem dX0_passByteTime_37 : decode cX0_passByteTime 37 = .ok (.ifCond .eq 9, 3) := by decide +kernel
theorem dX0_passByteTime_40 : decode cX0_passByteTime 40 = .ok (.iconst 1, 1) := by decide +kernel
theorem dX0_passByteTime_41 : decode cX0_passByteTime 41 = .ok (.istore_n 1, 1) := by decide +kernel
theorem dX0_passByteTime_42 : decode cX0_passByteTime 42 = .ok (.aload_n 0, 1) := by decide +kernel
theorem dX0_passByteTime_43 : decode cX0_passByteTime 43 = .ok (.invokevirtual 89, 3) := by decide +kernel
theorem dX0_passByteTime_46 : decode cX0_passByteTime 46 = .ok (.iinc 2 1, 3) := by decide +kernel
theorem dX0_passByteTime_49 : decode cX0_passByteTime 49 = .ok (.goto (-45), 3) := by decide +kernel
theorem dX0_passByteTime_52 : decode cX0_passByteTime 52 = .ok (.aload_n 0, 1) := by decide +kernel
theorem dX0_passByteTime_53 : decode cX0_passByteTime 53 = .ok (.invokevirtual 92, 3) := by decide +kernel
theorem dX0_passByteTime_56 : decode cX0_passByteTime 56 = .ok (.iload_n 1, 1) := by decide +kernel
theorem dX0_passByteTime_57 : decode cX0_passByteTime 57 = .ok (.ireturn, 1) := by decide +kernel
set_option maxRecDepth 20000 in
theorem ggX0_meetIndex_X0_startWritingIfServed : GoodIn wsX0_meetIndex wsX0_startWritingIfServed := goodIn_r _ [8, 2, 9, 10, 11, 12, 13, 7, 14, 15, 16, 17, 18, 19, 20, 21, 22, 23, 24, 25, 26, 27, 28, 29, 30, 31, 32, 33, 34, 35, 36, 37, 38, 39, 40, 41, 42, 43, 44, 45, 46, 47, 48, 49, 50, 51, 52, 53, 54, 55, 56, 57, 58, 59, 60, 61, 62, 63, 64, 65, 66, 67, 68, 69, 70, 71, 72, 73, 74, 75, 76, 77, 78, 79, 80, 81] (by decide +kernel) (by decide +kernel)
set_option maxRecDepth 20000 in
theorem gX0_meetIndex_X0_startWritingIfServed : GoodIn wsX0_meetIndex (wsV RX0 95 RX0 yX0_startWritingIfServed wsX0_startWritingIfServed) := goodIn_app (goodIn_of _ (by decide +kernel)) ggX0_meetIndex_X0_startWritingIfServed
set_option maxRecDepth 20000 in
theorem ggX0_meetIndex_X0_end : GoodIn wsX0_meetIndex wsX0_end := goodIn_r _ [23, 15, 2, 9, 24, 25, 26, 27, 28, 29, 49, 50, 51, 52, 53, 54, 55, 56, 57, 58, 59, 60, 61, 62, 63, 64, 65, 66, 67, 68, 69, 70, 71, 72, 73, 74] (by decide +kernel) (by decide +kernel)
set_option maxRecDepth 20000 in
theorem gX0_meetIndex_X0_end : GoodIn wsX0_meetIndex (wsV RX0 76 RX0 yX0_end wsX0_end) := goodIn_app (goodIn_of _ (by decide +kernel)) ggX0_meetIndex_X0_end
set_option maxRecDepth 20000 in
theorem ggX0_meetIndex_X0_endWith : GoodIn wsX0_meetIndex wsX0_endWith := goodIn_r _ [19, 15, 20, 21, 22, 7, 23, 2, 9, 24, 25, 26, 27, 28, 29, 49, 50, 51, 52, 53, 54, 55, 56, 57, 58, 59, 60, 61, 62, 63, 64, 65, 66, 67, 68, 69, 70, 71, 72, 73, 74] (by decide +kernel) (by decide +kernel)
set_option maxRecDepth 20000 in
theorem gX0_meetIndex_X0_endWith : GoodIn wsX0_meetIndex (wsV RX0 66 RX0 yX0_endWith wsX0_endWith) := goodIn_app (goodIn_of _ (by decide +kernel)) ggX0_meetIndex_X0_endWith
theorem dX0_meetIndex_0 : decode cX0_meetIndex 0 = .ok (.aload_n 0, 1) := by decide +kernel
theorem dX0_meetIndex_1 : decode cX0_meetIndex 1 = .ok (.dup, 1) := by decide +kernel
theorem dX0_meetIndex_2 : decode cX0_meetIndex 2 = .ok (.getfield 47, 3) := by decide +kernel
theorem dX0_meetIndex_5 : decode cX0_meetIndex 5 = .ok (.iconst 1, 1) := by decide +kernel
theorem dX0_meetIndex_6 : decode cX0_meetIndex 6 = .ok (.iadd, 1) := by decide +kernel
theorem dX0_meetIndex_7 : decode cX0_meetIndex 7 = .ok (.putfield 47, 3) := by decide +kernel
theorem dX0_meetIndex_10 : decode cX0_meetIndex 10 = .ok (.aload_n 0, 1) := by decide +kernel
theorem dX0_meetIndex_11 : decode cX0_meetIndex 11 = .ok (.getfield 70, 3) := by decide +kernel
theorem dX0_meetIndex_14 : decode cX0_meetIndex 14 = .ok (.bipush 7, 2) := by decide +kernel
theorem dX0_meetIndex_16 : decode cX0_meetIndex 16 = .ok (.if_icmp .ne 10, 3) := by decide +kernel
theorem dX0_meetIndex_19 : decode cX0_meetIndex 19 = .ok (.aload_n 0, 1) := by decide +kernel
theorem dX0_meetIndex_20 : decode cX0_meetIndex 20 = .ok (.invokevirtual 95, 3) := by decide +kernel
theorem dX0_meetIndex_23 : decode cX0_meetIndex 23 = .ok (.goto 57, 3) := by decide +kernel
theorem dX0_meetIndex_26 : decode cX0_meetIndex 26 = .ok (.aload_n 0, 1) := by decide +kernel
theorem dX0_meetIndex_27 : decode cX0_meetIndex 27 = .ok (.getfield 70, 3) := by decide +kernel
theorem dX0_meetIndex_30 : decode cX0_meetIndex 30 = .ok (.bipush 6, 2) := by decide +kernel
theorem dX0_meetIndex_32 : decode cX0_meetIndex 32 = .ok (.if_icmp .ne 18, 3) := by decide +kernel
theorem dX0_meetIndex_35 : decode cX0_meetIndex 35 = .ok (.aload_n 0, 1) := by decide +kernel
theorem dX0_meetIndex_36 : decode cX0_meetIndex 36 = .ok (.getfield 26, 3) := by decide +kernel
theorem dX0_meetIndex_39 : decode cX0_meetIndex 39 = .ok (.iconst 5, 1) := by decide +kernel
theorem dX0_meetIndex_40 : decode cX0_meetIndex 40 = .ok (.if_icmp .ne 10, 3) := by decide +kernel
theorem dX0_meetIndex_43 : decode cX0_meetIndex 43 = .ok (.aload_n 0, 1) := by decide +kernel
theorem dX0_meetIndex_44 : decode cX0_meetIndex 44 = .ok (.invokevirtual 76, 3) := by decide +kernel
theorem dX0_meetIndex_47 : decode cX0_meetIndex 47 = .ok (.goto 33, 3) := by decide +kernel
theorem dX0_meetIndex_50 : decode cX0_meetIndex 50 = .ok (.aload_n 0, 1) := by decide +kernel
theorem dX0_meetIndex_51 : decode cX0_meetIndex 51 = .ok (.getfield 70, 3) := by decide +kernel
theorem dX0_meetIndex_54 : decode cX0_meetIndex 54 = .ok (.iconst 2, 1) := by decide +kernel
theorem dX0_meetIndex_55 : decode cX0_meetIndex 55 = .ok (.if_icmp .eq 11, 3) := by decide +kernel
theorem dX0_meetIndex_58 : decode cX0_meetIndex 58 = .ok (.aload_n 0, 1) := by decide +kernel
theorem dX0_meetIndex_59 : decode cX0_meetIndex 59 = .ok (.getfield 70, 3) := by decide +kernel
theorem dX0_meetIndex_62 : decode cX0_meetIndex 62 = .ok (.iconst 3, 1) := by decide +kernel
theorem dX0_meetIndex_63 : decode cX0_meetIndex 63 = .ok (.if_icmp .ne 17, 3) := by decide +kernel
theorem dX0_meetIndex_66 : decode cX0_meetIndex 66 = .ok (.aload_n 0, 1) := by decide +kernel
theorem dX0_meetIndex_67 : decode cX0_meetIndex 67 = .ok (.getfield 47, 3) := by decide +kernel
theorem dX0_meetIndex_70 : decode cX0_meetIndex 70 = .ok (.iconst 5, 1) := by decide +kernel
theorem dX0_meetIndex_71 : decode cX0_meetIndex 71 = .ok (.if_icmp .ne 9, 3) := by decide +kernel
theorem dX0_meetIndex_74 : decode cX0_meetIndex 74 = .ok (.aload_n 0, 1) := by decide +kernel
theorem dX0_meetIndex_75 : decode cX0_meetIndex 75 = .ok (.bipush 16, 2) := by decide +kernel
theorem dX0_meetIndex_77 : decode cX0_meetIndex 77 = .ok (.invokevirtual 66, 3) := by decide +kernel
theorem dX0_meetIndex_80 : decode cX0_meetIndex 80 = .ok (.return_, 1) := by decide +kernel
set_option maxRecDepth 20000 in
theorem ggX0_endByteTime_X0_moveOneTrack : GoodIn wsX0_endByteTime wsX0_moveOneTrack := goodIn_r _ [7, 8, 9, 10, 11, 12, 13, 14, 6, 15, 16, 2, 17, 18, 19, 20, 21, 22, 23, 24, 25, 26, 27, 28, 29, 62, 63, 64, 65, 66, 67, 68, 69, 70, 71, 72, 73, 74, 75, 76, 77, 78, 79, 80, 81, 82, 83, 84, 85, 86, 87, 88, 89, 90, 91] (by decide +kernel) (by decide +kernel)
set_option maxRecDepth 20000 in
theorem gX0_endByteTime_X0_moveOneTrack : GoodIn wsX0_endByteTime (wsV RX0 98 RX0 yX0_moveOneTrack wsX0_moveOneTrack) := goodIn_app (goodIn_of _ (by decide +kernel)) ggX0_endByteTime_X0_moveOneTrack
set_option maxRecDepth 20000 in
theorem ggX0_endByteTime_X0_startWritingIfServed : GoodIn wsX0_endByteTime wsX0_startWritingIfServed := goodIn_r _ [33, 2, 17, 34, 35, 36, 37, 6, 38, 16, 39, 40, 41, 42, 12, 13, 14, 15, 18, 19, 20, 21, 22, 23, 43, 44, 45, 46, 47, 48, 49, 50, 51, 52, 53, 54, 55, 56, 57, 58, 59, 60, 61, 62, 63, 64, 65, 66, 67, 68, 69, 70, 71, 72, 73, 78, 79, 80, 81, 82, 83, 84, 85, 86, 87, 88, 89, 90, 91, 92, 93, 94, 95, 96, 97, 98] (by decide +kernel) (by decide +kernel)
set_option maxRecDepth 20000 in
theorem gX0_endByteTime_X0_startWritingIfServed : GoodIn wsX0_endByteTime (wsV RX0 95 RX0 yX0_startWritingIfServed wsX0_startWritingIfServed) := goodIn_app (goodIn_of _ (by decide +kernel)) ggX0_endByteTime_X0_startWritingIfServed
theorem dX0_endByteTime_0 : decode cX0_endByteTime 0 = .ok (.aload_n 0, 1) := by decide +kernel
theorem dX0_endByteTime_1 : decode cX0_endByteTime 1 = .ok (.dup, 1) := by decide +kernel
theorem dX0_endByteTime_2 : decode cX0_endByteTime 2 = .ok (.getfield 44, 3) := by decide +kernel
theorem dX0_endByteTime_5 : decode cX0_endByteTime 5 = .ok (.iconst 1, 1) := by decide +kernel
theorem dX0_endByteTime_6 : decode cX0_endByteTime 6 = .ok (.iadd, 1) := by decide +kernel
theorem dX0_endByteTime_7 : decode cX0_endByteTime 7 = .ok (.putfield 44, 3) := by decide +kernel
theorem dX0_endByteTime_10 : decode cX0_endByteTime 10 = .ok (.aload_n 0, 1) := by decide +kernel
theorem dX0_endByteTime_11 : decode cX0_endByteTime 11 = .ok (.getfield 70, 3) := by decide +kernel
theorem dX0_endByteTime_14 : decode cX0_endByteTime 14 = .ok (.iconst 1, 1) := by decide +kernel
theorem dX0_endByteTime_15 : decode cX0_endByteTime 15 = .ok (.if_icmp .ne 23, 3) := by decide +kernel
theorem dX0_endByteTime_18 : decode cX0_endByteTime 18 = .ok (.aload_n 0, 1) := by decide +kernel
theorem dX0_endByteTime_19 : decode cX0_endByteTime 19 = .ok (.getfield 44, 3) := by decide +kernel
theorem dX0_endByteTime_22 : decode cX0_endByteTime 22 = .ok (.iconst 3, 1) := by decide +kernel
theorem dX0_endByteTime_23 : decode cX0_endByteTime 23 = .ok (.if_icmp .ne 15, 3) := by decide +kernel
theorem dX0_endByteTime_26 : decode cX0_endByteTime 26 = .ok (.aload_n 0, 1) := by decide +kernel
theorem dX0_endByteTime_27 : decode cX0_endByteTime 27 = .ok (.iconst 0, 1) := by decide +kernel
theorem dX0_endByteTime_28 : decode cX0_endByteTime 28 = .ok (.putfield 44, 3) := by decide +kernel
theorem dX0_endByteTime_31 : decode cX0_endByteTime 31 = .ok (.aload_n 0, 1) := by decide +kernel
theorem dX0_endByteTime_32 : decode cX0_endByteTime 32 = .ok (.invokevirtual 98, 3) := by decide +kernel
theorem dX0_endByteTime_35 : decode cX0_endByteTime 35 = .ok (.goto 49, 3) := by decide +kernel
theorem dX0_endByteTime_38 : decode cX0_endByteTime 38 = .ok (.aload_n 0, 1) := by decide +kernel
theorem dX0_endByteTime_39 : decode cX0_endByteTime 39 = .ok (.getfield 70, 3) := by decide +kernel
theorem dX0_endByteTime_42 : decode cX0_endByteTime 42 = .ok (.iconst 3, 1) := by decide +kernel
theorem dX0_endByteTime_43 : decode cX0_endByteTime 43 = .ok (.if_icmp .ne 20, 3) := by decide +kernel
theorem dX0_endByteTime_46 : decode cX0_endByteTime 46 = .ok (.aload_n 0, 1) := by decide +kernel
theorem dX0_endByteTime_47 : decode cX0_endByteTime 47 = .ok (.getfield 44, 3) := by decide +kernel
theorem dX0_endByteTime_50 : decode cX0_endByteTime 50 = .ok (.bipush 31, 2) := by decide +kernel
theorem dX0_endByteTime_52 : decode cX0_endByteTime 52 = .ok (.if_icmp .ne 11, 3) := by decide +kernel
theorem dX0_endByteTime_55 : decode cX0_endByteTime 55 = .ok (.aload_n 0, 1) := by decide +kernel
theorem dX0_endByteTime_56 : decode cX0_endByteTime 56 = .ok (.iconst 2, 1) := by decide +kernel
theorem dX0_endByteTime_57 : decode cX0_endByteTime 57 = .ok (.putfield 70, 3) := by decide +kernel
theorem dX0_endByteTime_60 : decode cX0_endByteTime 60 = .ok (.goto 24, 3) := by decide +kernel
theorem dX0_endByteTime_63 : decode cX0_endByteTime 63 = .ok (.aload_n 0, 1) := by decide +kernel
theorem dX0_endByteTime_64 : decode cX0_endByteTime 64 = .ok (.getfield 70, 3) := by decide +kernel
theorem dX0_endByteTime_67 : decode cX0_endByteTime 67 = .ok (.iconst 5, 1) := by decide +kernel
theorem dX0_endByteTime_68 : decode cX0_endByteTime 68 = .ok (.if_icmp .ne 16, 3) := by decide +kernel
theorem dX0_endByteTime_71 : decode cX0_endByteTime 71 = .ok (.aload_n 0, 1) := by decide +kernel
theorem dX0_endByteTime_72 : decode cX0_endByteTime 72 = .ok (.getfield 44, 3) := by decide +kernel
theorem dX0_endByteTime_75 : decode cX0_endByteTime 75 = .ok (.bipush 11, 2) := by decide +kernel
theorem dX0_endByteTime_77 : decode cX0_endByteTime 77 = .ok (.if_icmp .ne 7, 3) := by decide +kernel
theorem dX0_endByteTime_80 : decode cX0_endByteTime 80 = .ok (.aload_n 0, 1) := by decide +kernel
theorem dX0_endByteTime_81 : decode cX0_endByteTime 81 = .ok (.invokevirtual 95, 3) := by decide +kernel
theorem dX0_endByteTime_84 : decode cX0_endByteTime 84 = .ok (.return_, 1) := by decide +kernel
set_option maxRecDepth 20000 in
theorem ggX0_moveOneTrack_X0_end : GoodIn wsX0_moveOneTrack wsX0_end := goodIn_r _ [9, 10, 11, 12, 13, 14, 15, 16, 17, 18, 25, 26, 27, 28, 29, 30, 31, 32, 33, 34, 35, 36, 41, 42, 43, 44, 45, 46, 47, 48, 49, 50, 51, 52, 53, 54] (by decide +kernel) (by decide +kernel)
set_option maxRecDepth 20000 in
theorem gX0_moveOneTrack_X0_end : GoodIn wsX0_moveOneTrack (wsV RX0 76 RX0 yX0_end wsX0_end) := goodIn_app (goodIn_of _ (by decide +kernel)) ggX0_moveOneTrack_X0_end
set_option maxRecDepth 20000 in
theorem ggX0_moveOneTrack_X1_moveHead : GoodIn wsX0_moveOneTrack wsX1_moveHead := goodIn_r _ [23, 24, 37, 38, 39, 40] (by decide +kernel) (by decide +kernel)
set_option maxRecDepth 20000 in
theorem gX0_moveOneTrack_X1_moveHead : GoodIn wsX0_moveOneTrack (wsV RX0 104 RX1 yX1_moveHead wsX1_moveHead) := goodIn_app (goodIn_of _ (by decide +kernel)) ggX0_moveOneTrack_X1_moveHead
theorem dX0_moveOneTrack_0 : decode cX0_moveOneTrack 0 = .ok (.aload_n 0, 1) := by decide +kernel
theorem dX0_moveOneTrack_1 : decode cX0_moveOneTrack 1 = .ok (.getfield 26, 3) := by decide +kernel
theorem dX0_moveOneTrack_4 : decode cX0_moveOneTrack 4 = .ok (.ifCond .ne 25, 3) := by decide +kernel
theorem dX0_moveOneTrack_7 : decode cX0_moveOneTrack 7 = .ok (.aload_n 0, 1) := by decide +kernel
theorem dX0_moveOneTrack_8 : decode cX0_moveOneTrack 8 = .ok (.getfield 9, 3) := by decide +kernel
theorem dX0_moveOneTrack_11 : decode cX0_moveOneTrack 11 = .ok (.getfield 101, 3) := by decide +kernel
theorem dX0_moveOneTrack_14 : decode cX0_moveOneTrack 14 = .ok (.ifCond .ne 15, 3) := by decide +kernel
theorem dX0_moveOneTrack_17 : decode cX0_moveOneTrack 17 = .ok (.aload_n 0, 1) := by decide +kernel
theorem dX0_moveOneTrack_18 : decode cX0_moveOneTrack 18 = .ok (.iconst 0, 1) := by decide +kernel
theorem dX0_moveOneTrack_19 : decode cX0_moveOneTrack 19 = .ok (.putfield 58, 3) := by decide +kernel
theorem dX0_moveOneTrack_22 : decode cX0_moveOneTrack 22 = .ok (.aload_n 0, 1) := by decide +kernel
theorem dX0_moveOneTrack_23 : decode cX0_moveOneTrack 23 = .ok (.invokevirtual 76, 3) := by decide +kernel
theorem dX0_moveOneTrack_26 : decode cX0_moveOneTrack 26 = .ok (.goto 56, 3) := by decide +kernel
theorem dX0_moveOneTrack_29 : decode cX0_moveOneTrack 29 = .ok (.aload_n 0, 1) := by decide +kernel
theorem dX0_moveOneTrack_30 : decode cX0_moveOneTrack 30 = .ok (.getfield 58, 3) := by decide +kernel
theorem dX0_moveOneTrack_33 : decode cX0_moveOneTrack 33 = .ok (.aload_n 0, 1) := by decide +kernel
theorem dX0_moveOneTrack_34 : decode cX0_moveOneTrack 34 = .ok (.getfield 33, 3) := by decide +kernel
theorem dX0_moveOneTrack_37 : decode cX0_moveOneTrack 37 = .ok (.if_icmp .ne 10, 3) := by decide +kernel
theorem dX0_moveOneTrack_40 : decode cX0_moveOneTrack 40 = .ok (.aload_n 0, 1) := by decide +kernel
theorem dX0_moveOneTrack_41 : decode cX0_moveOneTrack 41 = .ok (.invokevirtual 76, 3) := by decide +kernel
theorem dX0_moveOneTrack_44 : decode cX0_moveOneTrack 44 = .ok (.goto 38, 3) := by decide +kernel
theorem dX0_moveOneTrack_47 : decode cX0_moveOneTrack 47 = .ok (.aload_n 0, 1) := by decide +kernel
theorem dX0_moveOneTrack_48 : decode cX0_moveOneTrack 48 = .ok (.getfield 58, 3) := by decide +kernel
theorem dX0_moveOneTrack_51 : decode cX0_moveOneTrack 51 = .ok (.aload_n 0, 1) := by decide +kernel
theorem dX0_moveOneTrack_52 : decode cX0_moveOneTrack 52 = .ok (.getfield 33, 3) := by decide +kernel
theorem dX0_moveOneTrack_55 : decode cX0_moveOneTrack 55 = .ok (.if_icmp .ge 7, 3) := by decide +kernel
theorem dX0_moveOneTrack_58 : decode cX0_moveOneTrack 58 = .ok (.iconst 1, 1) := by decide +kernel
theorem dX0_moveOneTrack_59 : decode cX0_moveOneTrack 59 = .ok (.goto 4, 3) := by decide +kernel
theorem dX0_moveOneTrack_62 : decode cX0_moveOneTrack 62 = .ok (.iconst (-1), 1) := by decide +kernel
theorem dX0_moveOneTrack_63 : decode cX0_moveOneTrack 63 = .ok (.istore_n 1, 1) := by decide +kernel
theorem dX0_moveOneTrack_64 : decode cX0_moveOneTrack 64 = .ok (.aload_n 0, 1) := by decide +kernel
theorem dX0_moveOneTrack_65 : decode cX0_moveOneTrack 65 = .ok (.dup, 1) := by decide +kernel
theorem dX0_moveOneTrack_66 : decode cX0_moveOneTrack 66 = .ok (.getfield 58, 3) := by decide +kernel
theorem dX0_moveOneTrack_69 : decode cX0_moveOneTrack 69 = .ok (.iload_n 1, 1) := by decide +kernel
theorem dX0_moveOneTrack_70 : decode cX0_moveOneTrack 70 = .ok (.iadd, 1) := by decide +kernel
theorem dX0_moveOneTrack_71 : decode cX0_moveOneTrack 71 = .ok (.putfield 58, 3) := by decide +kernel
theorem dX0_moveOneTrack_74 : decode cX0_moveOneTrack 74 = .ok (.aload_n 0, 1) := by decide +kernel
theorem dX0_moveOneTrack_75 : decode cX0_moveOneTrack 75 = .ok (.getfield 9, 3) := by decide +kernel
theorem dX0_moveOneTrack_78 : decode cX0_moveOneTrack 78 = .ok (.iload_n 1, 1) := by decide +kernel
theorem dX0_moveOneTrack_79 : decode cX0_moveOneTrack 79 = .ok (.invokevirtual 104, 3) := by decide +kernel
theorem dX0_moveOneTrack_82 : decode cX0_moveOneTrack 82 = .ok (.return_, 1) := by decide +kernel
set_option maxRecDepth 20000 in
theorem ggX0_startWritingIfServed_X0_has : GoodIn wsX0_startWritingIfServed wsX0_has := goodIn_r _ [8, 9, 43, 44, 45, 46, 47, 48, 49, 50, 51, 52, 53, 54] (by decide +kernel) (by decide +kernel)
set_option maxRecDepth 20000 in
theorem gX0_startWritingIfServed_X0_has : GoodIn wsX0_startWritingIfServed (wsV RX0 36 RX0 yX0_has wsX0_has) := goodIn_app (goodIn_of _ (by decide +kernel)) ggX0_startWritingIfServed_X0_has
set_option maxRecDepth 20000 in
theorem ggX0_startWritingIfServed_X0_endWith : GoodIn wsX0_startWritingIfServed wsX0_endWith := goodIn_r _ [13, 9, 14, 15, 16, 7, 17, 1, 2, 18, 19, 20, 21, 22, 23, 43, 44, 45, 46, 47, 48, 49, 50, 51, 52, 53, 54, 55, 56, 57, 58, 59, 60, 61, 62, 63, 64, 65, 66, 67, 68] (by decide +kernel) (by decide +kernel)
set_option maxRecDepth 20000 in
theorem gX0_startWritingIfServed_X0_endWith : GoodIn wsX0_startWritingIfServed (wsV RX0 66 RX0 yX0_endWith wsX0_endWith) := goodIn_app (goodIn_of _ (by decide +kernel)) ggX0_startWritingIfServed_X0_endWith
set_option maxRecDepth 20000 in
theorem ggX0_startWritingIfServed_X2_reset : GoodIn wsX0_startWritingIfServed wsX2_reset := goodIn_r _ [27, 28, 29, 30, 55, 56, 57, 58, 59, 60, 61, 62, 63, 64, 65, 66, 67, 68] (by decide +kernel) (by decide +kernel)
set_option maxRecDepth 20000 in
theorem gX0_startWritingIfServed_X2_reset : GoodIn wsX0_startWritingIfServed (wsV RX0 50 RX2 yX2_reset wsX2_reset) := goodIn_app (goodIn_of _ (by decide +kernel)) ggX0_startWritingIfServed_X2_reset
set_option maxRecDepth 20000 in
theorem ggX0_startWritingIfServed_X4_start : GoodIn wsX0_startWritingIfServed wsX4_start := goodIn_r _ [35, 36, 37, 38, 39, 40, 41, 42, 69, 70, 71, 72, 73, 74, 75] (by decide +kernel) (by decide +kernel)
set_option maxRecDepth 20000 in
theorem gX0_startWritingIfServed_X4_start : GoodIn wsX0_startWritingIfServed (wsV RX0 107 RX4 yX4_start wsX4_start) := goodIn_app (goodIn_of _ (by decide +kernel)) ggX0_startWritingIfServed_X4_start
theorem dX0_startWritingIfServed_0 : decode cX0_startWritingIfServed 0 = .ok (.aload_n 0, 1) := by decide +kernel
theorem dX0_startWritingIfServed_1 : decode cX0_startWritingIfServed 1 = .ok (.iconst 2, 1) := by decide +kernel
theorem dX0_startWritingIfServed_2 : decode cX0_startWritingIfServed 2 = .ok (.invokevirtual 36, 3) := by decide +kernel
theorem dX0_startWritingIfServed_5 : decode cX0_startWritingIfServed 5 = .ok (.ifCond .eq 9, 3) := by decide +kernel
theorem dX0_startWritingIfServed_8 : decode cX0_startWritingIfServed 8 = .ok (.aload_n 0, 1) := by decide +kernel
theorem dX0_startWritingIfServed_9 : decode cX0_startWritingIfServed 9 = .ok (.iconst 4, 1) := by decide +kernel
theorem dX0_startWritingIfServed_10 : decode cX0_startWritingIfServed 10 = .ok (.invokevirtual 66, 3) := by decide +kernel
theorem dX0_startWritingIfServed_13 : decode cX0_startWritingIfServed 13 = .ok (.return_, 1) := by decide +kernel
theorem dX0_startWritingIfServed_14 : decode cX0_startWritingIfServed 14 = .ok (.aload_n 0, 1) := by decide +kernel
theorem dX0_startWritingIfServed_15 : decode cX0_startWritingIfServed 15 = .ok (.bipush 6, 2) := by decide +kernel
theorem dX0_startWritingIfServed_17 : decode cX0_startWritingIfServed 17 = .ok (.putfield 70, 3) := by decide +kernel
theorem dX0_startWritingIfServed_20 : decode cX0_startWritingIfServed 20 = .ok (.aload_n 0, 1) := by decide +kernel
theorem dX0_startWritingIfServed_21 : decode cX0_startWritingIfServed 21 = .ok (.getfield 15, 3) := by decide +kernel
theorem dX0_startWritingIfServed_24 : decode cX0_startWritingIfServed 24 = .ok (.invokevirtual 50, 3) := by decide +kernel
theorem dX0_startWritingIfServed_27 : decode cX0_startWritingIfServed 27 = .ok (.aload_n 0, 1) := by decide +kernel
theorem dX0_startWritingIfServed_28 : decode cX0_startWritingIfServed 28 = .ok (.getfield 22, 3) := by decide +kernel
theorem dX0_startWritingIfServed_31 : decode cX0_startWritingIfServed 31 = .ok (.invokevirtual 107, 3) := by decide +kernel
theorem dX0_startWritingIfServed_34 : decode cX0_startWritingIfServed 34 = .ok (.return_, 1) := by decide +kernel
set_option maxRecDepth 20000 in
theorem ggX0_readOneCell_X1_cellUnderHead : GoodIn wsX0_readOneCell wsX1_cellUnderHead := goodIn_r _ [7, 8, 9, 10, 11, 12, 6, 13, 14, 122, 123, 124, 125] (by decide +kernel) (by decide +kernel)
set_option maxRecDepth 20000 in
theorem gX0_readOneCell_X1_cellUnderHead : GoodIn wsX0_readOneCell (wsV RX0 110 RX1 yX1_cellUnderHead wsX1_cellUnderHead) := goodIn_app (goodIn_of _ (by decide +kernel)) ggX0_readOneCell_X1_cellUnderHead
set_option maxRecDepth 20000 in
theorem ggX0_readOneCell_X2_readCell : GoodIn wsX0_readOneCell wsX2_readCell := goodIn_r _ [19, 20, 21, 22, 23, 24, 25, 26, 27, 28, 29, 18, 30, 31, 32, 33, 34, 35, 36, 37, 38, 39, 40, 41, 42, 43, 44, 45, 46, 47, 48, 49, 50, 51, 52, 53, 54, 55, 56, 57, 58, 59, 126, 127, 128, 129, 130, 131, 132, 133, 134, 135, 136, 137, 138, 139] (by decide +kernel) (by decide +kernel)
set_option maxRecDepth 20000 in
theorem gX0_readOneCell_X2_readCell : GoodIn wsX0_readOneCell (wsV RX0 114 RX2 yX2_readCell wsX2_readCell) := goodIn_app (goodIn_of _ (by decide +kernel)) ggX0_readOneCell_X2_readCell
set_option maxRecDepth 20000 in
theorem ggX0_readOneCell_X0_meetFieldStart : GoodIn wsX0_readOneCell wsX0_meetFieldStart := goodIn_r _ [64, 65, 66, 1, 67, 68, 69, 70, 18, 71, 35, 110, 111, 112, 113, 114, 115, 116, 117, 118, 119, 120, 121, 126, 127, 128, 129, 130, 131, 132, 133, 134, 135, 136, 137, 138, 139] (by decide +kernel) (by decide +kernel)
set_option maxRecDepth 20000 in
theorem gX0_readOneCell_X0_meetFieldStart : GoodIn wsX0_readOneCell (wsV RX0 118 RX0 yX0_meetFieldStart wsX0_meetFieldStart) := goodIn_app (goodIn_of _ (by decide +kernel)) ggX0_readOneCell_X0_meetFieldStart
set_option maxRecDepth 20000 in
theorem ggX0_readOneCell_X0_meetFieldByte : GoodIn wsX0_readOneCell wsX0_meetFieldByte := goodIn_r _ [75, 66, 1, 76, 67, 77, 78, 79, 18, 80, 37, 48, 81, 69, 70, 71, 35, 82, 83, 84, 63, 85, 110, 111, 112, 113, 114, 115, 116, 117, 118, 119, 120, 121, 126, 127, 128, 129, 130, 131, 132, 133, 134, 135, 136, 137, 138, 139] (by decide +kernel) (by decide +kernel)
set_option maxRecDepth 20000 in
theorem gX0_readOneCell_X0_meetFieldByte : GoodIn wsX0_readOneCell (wsV RX0 121 RX0 yX0_meetFieldByte wsX0_meetFieldByte) := goodIn_app (goodIn_of _ (by decide +kernel)) ggX0_readOneCell_X0_meetFieldByte
set_option maxRecDepth 20000 in
theorem ggX0_readOneCell_X0_meetFieldEnd : GoodIn wsX0_readOneCell wsX0_meetFieldEnd := goodIn_r _ [89, 66, 1, 90, 91, 92, 63, 93, 65, 94, 67, 95, 57, 58, 18, 59, 38, 96, 97, 98, 99, 100, 101, 102, 103, 20, 68, 69, 70, 71, 35, 104, 105, 106, 107, 108, 109, 110, 111, 112, 113, 114, 115, 116, 117, 118, 119, 120, 121, 126, 127, 128, 129, 130, 131, 132, 133, 134, 135, 136, 137, 138, 139] (by decide +kernel) (by decide +kernel)
set_option maxRecDepth 20000 in
theorem gX0_readOneCell_X0_meetFieldEnd : GoodIn wsX0_readOneCell (wsV RX0 124 RX0 yX0_meetFieldEnd wsX0_meetFieldEnd) := goodIn_app (goodIn_of _ (by decide +kernel)) ggX0_readOneCell_X0_meetFieldEnd
theorem dX0_readOneCell_0 : decode cX0_readOneCell 0 = .ok (.aload_n 0, 1) := by decide +kernel
theorem dX0_readOneCell_1 : decode cX0_readOneCell 1 = .ok (.getfield 15, 3) := by decide +kernel
theorem dX0_readOneCell_4 : decode cX0_readOneCell 4 = .ok (.aload_n 0, 1) := by decide +kernel
theorem dX0_readOneCell_5 : decode cX0_readOneCell 5 = .ok (.getfield 9, 3) := by decide +kernel
theorem dX0_readOneCell_8 : decode cX0_readOneCell 8 = .ok (.invokevirtual 110, 3) := by decide +kernel
theorem dX0_readOneCell_11 : decode cX0_readOneCell 11 = .ok (.invokevirtual 114, 3) := by decide +kernel
theorem dX0_readOneCell_14 : decode cX0_readOneCell 14 = .ok (.istore_n 1, 1) := by decide +kernel
theorem dX0_readOneCell_15 : decode cX0_readOneCell 15 = .ok (.iload_n 1, 1) := by decide +kernel
theorem dX0_readOneCell_16 : decode cX0_readOneCell 16 = .ok (.iconst 1, 1) := by decide +kernel
theorem dX0_readOneCell_17 : decode cX0_readOneCell 17 = .ok (.if_icmp .ne 10, 3) := by decide +kernel
theorem dX0_readOneCell_20 : decode cX0_readOneCell 20 = .ok (.aload_n 0, 1) := by decide +kernel
theorem dX0_readOneCell_21 : decode cX0_readOneCell 21 = .ok (.invokevirtual 118, 3) := by decide +kernel
theorem dX0_readOneCell_24 : decode cX0_readOneCell 24 = .ok (.goto 28, 3) := by decide +kernel
theorem dX0_readOneCell_27 : decode cX0_readOneCell 27 = .ok (.iload_n 1, 1) := by decide +kernel
theorem dX0_readOneCell_28 : decode cX0_readOneCell 28 = .ok (.iconst 2, 1) := by decide +kernel
theorem dX0_readOneCell_29 : decode cX0_readOneCell 29 = .ok (.if_icmp .ne 10, 3) := by decide +kernel
theorem dX0_readOneCell_32 : decode cX0_readOneCell 32 = .ok (.aload_n 0, 1) := by decide +kernel
theorem dX0_readOneCell_33 : decode cX0_readOneCell 33 = .ok (.invokevirtual 121, 3) := by decide +kernel
theorem dX0_readOneCell_36 : decode cX0_readOneCell 36 = .ok (.goto 16, 3) := by decide +kernel
theorem dX0_readOneCell_39 : decode cX0_readOneCell 39 = .ok (.iload_n 1, 1) := by decide +kernel
theorem dX0_readOneCell_40 : decode cX0_readOneCell 40 = .ok (.iconst 3, 1) := by decide +kernel
theorem dX0_readOneCell_41 : decode cX0_readOneCell 41 = .ok (.if_icmp .ne 11, 3) := by decide +kernel
theorem dX0_readOneCell_44 : decode cX0_readOneCell 44 = .ok (.aload_n 0, 1) := by decide +kernel
theorem dX0_readOneCell_45 : decode cX0_readOneCell 45 = .ok (.invokevirtual 121, 3) := by decide +kernel
theorem dX0_readOneCell_48 : decode cX0_readOneCell 48 = .ok (.aload_n 0, 1) := by decide +kernel
theorem dX0_readOneCell_49 : decode cX0_readOneCell 49 = .ok (.invokevirtual 124, 3) := by decide +kernel
theorem dX0_readOneCell_52 : decode cX0_readOneCell 52 = .ok (.return_, 1) := by decide +kernel
set_option maxRecDepth 20000 in
theorem ggX0_meetFieldStart_X2_isLatestFieldId : GoodIn wsX0_meetFieldStart wsX2_isLatestFieldId := goodIn_r _ [9, 10, 23, 24, 25, 26, 27, 28, 29, 30, 31, 32, 33, 34, 35, 36] (by decide +kernel) (by decide +kernel)
set_option maxRecDepth 20000 in
theorem gX0_meetFieldStart_X2_isLatestFieldId : GoodIn wsX0_meetFieldStart (wsV RX0 127 RX2 yX2_isLatestFieldId wsX2_isLatestFieldId) := goodIn_app (goodIn_of _ (by decide +kernel)) ggX0_meetFieldStart_X2_isLatestFieldId
theorem dX0_meetFieldStart_0 : decode cX0_meetFieldStart 0 = .ok (.aload_n 0, 1) := by decide +kernel
theorem dX0_meetFieldStart_1 : decode cX0_meetFieldStart 1 = .ok (.getfield 26, 3) := by decide +kernel
theorem dX0_meetFieldStart_4 : decode cX0_meetFieldStart 4 = .ok (.iconst 4, 1) := by decide +kernel
theorem dX0_meetFieldStart_5 : decode cX0_meetFieldStart 5 = .ok (.if_icmp .ne 29, 3) := by decide +kernel
theorem dX0_meetFieldStart_8 : decode cX0_meetFieldStart 8 = .ok (.aload_n 0, 1) := by decide +kernel
theorem dX0_meetFieldStart_9 : decode cX0_meetFieldStart 9 = .ok (.getfield 70, 3) := by decide +kernel
theorem dX0_meetFieldStart_12 : decode cX0_meetFieldStart 12 = .ok (.iconst 2, 1) := by decide +kernel
theorem dX0_meetFieldStart_13 : decode cX0_meetFieldStart 13 = .ok (.if_icmp .ne 21, 3) := by decide +kernel
theorem dX0_meetFieldStart_16 : decode cX0_meetFieldStart 16 = .ok (.aload_n 0, 1) := by decide +kernel
theorem dX0_meetFieldStart_17 : decode cX0_meetFieldStart 17 = .ok (.getfield 15, 3) := by decide +kernel
theorem dX0_meetFieldStart_20 : decode cX0_meetFieldStart 20 = .ok (.invokevirtual 127, 3) := by decide +kernel
theorem dX0_meetFieldStart_23 : decode cX0_meetFieldStart 23 = .ok (.ifCond .eq 11, 3) := by decide +kernel
theorem dX0_meetFieldStart_26 : decode cX0_meetFieldStart 26 = .ok (.aload_n 0, 1) := by decide +kernel
theorem dX0_meetFieldStart_27 : decode cX0_meetFieldStart 27 = .ok (.iconst 4, 1) := by decide +kernel
theorem dX0_meetFieldStart_28 : decode cX0_meetFieldStart 28 = .ok (.putfield 70, 3) := by decide +kernel
theorem dX0_meetFieldStart_31 : decode cX0_meetFieldStart 31 = .ok (.goto 50, 3) := by decide +kernel
theorem dX0_meetFieldStart_34 : decode cX0_meetFieldStart 34 = .ok (.aload_n 0, 1) := by decide +kernel
theorem dX0_meetFieldStart_35 : decode cX0_meetFieldStart 35 = .ok (.getfield 70, 3) := by decide +kernel
theorem dX0_meetFieldStart_38 : decode cX0_meetFieldStart 38 = .ok (.iconst 3, 1) := by decide +kernel
theorem dX0_meetFieldStart_39 : decode cX0_meetFieldStart 39 = .ok (.if_icmp .ne 42, 3) := by decide +kernel
theorem dX0_meetFieldStart_42 : decode cX0_meetFieldStart 42 = .ok (.aload_n 0, 1) := by decide +kernel
theorem dX0_meetFieldStart_43 : decode cX0_meetFieldStart 43 = .ok (.getfield 15, 3) := by decide +kernel
theorem dX0_meetFieldStart_46 : decode cX0_meetFieldStart 46 = .ok (.invokevirtual 127, 3) := by decide +kernel
theorem dX0_meetFieldStart_49 : decode cX0_meetFieldStart 49 = .ok (.ifCond .ne 32, 3) := by decide +kernel
theorem dX0_meetFieldStart_52 : decode cX0_meetFieldStart 52 = .ok (.aload_n 0, 1) := by decide +kernel
theorem dX0_meetFieldStart_53 : decode cX0_meetFieldStart 53 = .ok (.iconst 4, 1) := by decide +kernel
theorem dX0_meetFieldStart_54 : decode cX0_meetFieldStart 54 = .ok (.putfield 70, 3) := by decide +kernel
theorem dX0_meetFieldStart_57 : decode cX0_meetFieldStart 57 = .ok (.aload_n 0, 1) := by decide +kernel
theorem dX0_meetFieldStart_58 : decode cX0_meetFieldStart 58 = .ok (.getfield 15, 3) := by decide +kernel
theorem dX0_meetFieldStart_61 : decode cX0_meetFieldStart 61 = .ok (.getfield 130, 3) := by decide +kernel
theorem dX0_meetFieldStart_64 : decode cX0_meetFieldStart 64 = .ok (.sipush 248, 3) := by decide +kernel
theorem dX0_meetFieldStart_67 : decode cX0_meetFieldStart 67 = .ok (.if_icmp .ne 14, 3) := by decide +kernel
theorem dX0_meetFieldStart_70 : decode cX0_meetFieldStart 70 = .ok (.aload_n 0, 1) := by decide +kernel
theorem dX0_meetFieldStart_71 : decode cX0_meetFieldStart 71 = .ok (.dup, 1) := by decide +kernel
theorem dX0_meetFieldStart_72 : decode cX0_meetFieldStart 72 = .ok (.getfield 30, 3) := by decide +kernel
theorem dX0_meetFieldStart_75 : decode cX0_meetFieldStart 75 = .ok (.bipush 32, 2) := by decide +kernel
theorem dX0_meetFieldStart_77 : decode cX0_meetFieldStart 77 = .ok (.ior, 1) := by decide +kernel
theorem dX0_meetFieldStart_78 : decode cX0_meetFieldStart 78 = .ok (.putfield 30, 3) := by decide +kernel
theorem dX0_meetFieldStart_81 : decode cX0_meetFieldStart 81 = .ok (.return_, 1) := by decide +kernel
set_option maxRecDepth 20000 in
theorem ggX0_meetFieldByte_X2_isLatestByteOfCheck : GoodIn wsX0_meetFieldByte wsX2_isLatestByteOfCheck := goodIn_r _ [9, 10, 11, 12, 13, 14, 8, 15, 16, 34, 35, 36, 37, 38, 39, 40, 41, 42, 43, 44, 45, 46, 47] (by decide +kernel) (by decide +kernel)
set_option maxRecDepth 20000 in
theorem gX0_meetFieldByte_X2_isLatestByteOfCheck : GoodIn wsX0_meetFieldByte (wsV RX0 133 RX2 yX2_isLatestByteOfCheck wsX2_isLatestByteOfCheck) := goodIn_app (goodIn_of _ (by decide +kernel)) ggX0_meetFieldByte_X2_isLatestByteOfCheck
set_option maxRecDepth 20000 in
theorem ggX0_meetFieldByte_X0_has : GoodIn wsX0_meetFieldByte wsX0_has := goodIn_r _ [21, 4, 22, 23, 24, 25, 26, 27, 28, 29, 30, 31, 32, 33] (by decide +kernel) (by decide +kernel)
set_option maxRecDepth 20000 in
theorem gX0_meetFieldByte_X0_has : GoodIn wsX0_meetFieldByte (wsV RX0 36 RX0 yX0_has wsX0_has) := goodIn_app (goodIn_of _ (by decide +kernel)) ggX0_meetFieldByte_X0_has
theorem dX0_meetFieldByte_0 : decode cX0_meetFieldByte 0 = .ok (.aload_n 0, 1) := by decide +kernel
theorem dX0_meetFieldByte_1 : decode cX0_meetFieldByte 1 = .ok (.getfield 70, 3) := by decide +kernel
theorem dX0_meetFieldByte_4 : decode cX0_meetFieldByte 4 = .ok (.iconst 4, 1) := by decide +kernel
theorem dX0_meetFieldByte_5 : decode cX0_meetFieldByte 5 = .ok (.if_icmp .ne 13, 3) := by decide +kernel
theorem dX0_meetFieldByte_8 : decode cX0_meetFieldByte 8 = .ok (.aload_n 0, 1) := by decide +kernel
theorem dX0_meetFieldByte_9 : decode cX0_meetFieldByte 9 = .ok (.getfield 15, 3) := by decide +kernel
theorem dX0_meetFieldByte_12 : decode cX0_meetFieldByte 12 = .ok (.invokevirtual 133, 3) := by decide +kernel
theorem dX0_meetFieldByte_15 : decode cX0_meetFieldByte 15 = .ok (.ifCond .eq 4, 3) := by decide +kernel
theorem dX0_meetFieldByte_18 : decode cX0_meetFieldByte 18 = .ok (.return_, 1) := by decide +kernel
theorem dX0_meetFieldByte_19 : decode cX0_meetFieldByte 19 = .ok (.aload_n 0, 1) := by decide +kernel
theorem dX0_meetFieldByte_20 : decode cX0_meetFieldByte 20 = .ok (.aload_n 0, 1) := by decide +kernel
theorem dX0_meetFieldByte_21 : decode cX0_meetFieldByte 21 = .ok (.getfield 15, 3) := by decide +kernel
theorem dX0_meetFieldByte_24 : decode cX0_meetFieldByte 24 = .ok (.getfield 136, 3) := by decide +kernel
theorem dX0_meetFieldByte_27 : decode cX0_meetFieldByte 27 = .ok (.putfield 33, 3) := by decide +kernel
theorem dX0_meetFieldByte_30 : decode cX0_meetFieldByte 30 = .ok (.aload_n 0, 1) := by decide +kernel
theorem dX0_meetFieldByte_31 : decode cX0_meetFieldByte 31 = .ok (.iconst 2, 1) := by decide +kernel
theorem dX0_meetFieldByte_32 : decode cX0_meetFieldByte 32 = .ok (.invokevirtual 36, 3) := by decide +kernel
theorem dX0_meetFieldByte_35 : decode cX0_meetFieldByte 35 = .ok (.ifCond .eq 13, 3) := by decide +kernel
theorem dX0_meetFieldByte_38 : decode cX0_meetFieldByte 38 = .ok (.aload_n 0, 1) := by decide +kernel
theorem dX0_meetFieldByte_39 : decode cX0_meetFieldByte 39 = .ok (.dup, 1) := by decide +kernel
theorem dX0_meetFieldByte_40 : decode cX0_meetFieldByte 40 = .ok (.getfield 30, 3) := by decide +kernel
theorem dX0_meetFieldByte_43 : decode cX0_meetFieldByte 43 = .ok (.iconst 4, 1) := by decide +kernel
theorem dX0_meetFieldByte_44 : decode cX0_meetFieldByte 44 = .ok (.ior, 1) := by decide +kernel
theorem dX0_meetFieldByte_45 : decode cX0_meetFieldByte 45 = .ok (.putfield 30, 3) := by decide +kernel
theorem dX0_meetFieldByte_48 : decode cX0_meetFieldByte 48 = .ok (.aload_n 0, 1) := by decide +kernel
theorem dX0_meetFieldByte_49 : decode cX0_meetFieldByte 49 = .ok (.dup, 1) := by decide +kernel
theorem dX0_meetFieldByte_50 : decode cX0_meetFieldByte 50 = .ok (.getfield 30, 3) := by decide +kernel
theorem dX0_meetFieldByte_53 : decode cX0_meetFieldByte 53 = .ok (.iconst 2, 1) := by decide +kernel
theorem dX0_meetFieldByte_54 : decode cX0_meetFieldByte 54 = .ok (.ior, 1) := by decide +kernel
theorem dX0_meetFieldByte_55 : decode cX0_meetFieldByte 55 = .ok (.putfield 30, 3) := by decide +kernel
theorem dX0_meetFieldByte_58 : decode cX0_meetFieldByte 58 = .ok (.return_, 1) := by decide +kernel
set_option maxRecDepth 20000 in
theorem ggX0_meetFieldEnd_X0_endReading : GoodIn wsX0_meetFieldEnd wsX0_endReading := goodIn_r _ [7, 8, 2, 9, 10, 11, 12, 13, 14, 15, 16, 17, 18, 19, 6, 20, 1, 21, 22, 23, 24, 25, 37, 38, 39, 40, 41, 42, 43, 44, 45, 46, 47, 48, 49, 50, 51, 52, 53, 54, 55, 56, 57, 58, 59, 60, 61, 62] (by decide +kernel) (by decide +kernel)
set_option maxRecDepth 20000 in
theorem gX0_meetFieldEnd_X0_endReading : GoodIn wsX0_meetFieldEnd (wsV RX0 139 RX0 yX0_endReading wsX0_endReading) := goodIn_app (goodIn_of _ (by decide +kernel)) ggX0_meetFieldEnd_X0_endReading
set_option maxRecDepth 20000 in
theorem ggX0_meetFieldEnd_X2_isLatestFieldId : GoodIn wsX0_meetFieldEnd wsX2_isLatestFieldId := goodIn_r _ [29, 30, 49, 50, 51, 52, 53, 54, 55, 56, 57, 58, 59, 60, 61, 62] (by decide +kernel) (by decide +kernel)
set_option maxRecDepth 20000 in
theorem gX0_meetFieldEnd_X2_isLatestFieldId : GoodIn wsX0_meetFieldEnd (wsV RX0 127 RX2 yX2_isLatestFieldId wsX2_isLatestFieldId) := goodIn_app (goodIn_of _ (by decide +kernel)) ggX0_meetFieldEnd_X2_isLatestFieldId
set_option maxRecDepth 20000 in
theorem ggX0_meetFieldEnd_X0_compareId : GoodIn wsX0_meetFieldEnd wsX0_compareId := goodIn_r _ [34, 2, 10, 35, 9, 36, 8, 1, 11, 12, 13, 14, 15, 16, 37, 38, 39, 40, 41, 42, 43, 44, 45, 46, 47, 48, 49, 50, 51, 52, 53, 54, 55, 56, 57, 58, 59, 60, 61, 62] (by decide +kernel) (by decide +kernel)
set_option maxRecDepth 20000 in
theorem gX0_meetFieldEnd_X0_compareId : GoodIn wsX0_meetFieldEnd (wsV RX0 142 RX0 yX0_compareId wsX0_compareId) := goodIn_app (goodIn_of _ (by decide +kernel)) ggX0_meetFieldEnd_X0_compareId
theorem dX0_meetFieldEnd_0 : decode cX0_meetFieldEnd 0 = .ok (.aload_n 0, 1) := by decide +kernel
theorem dX0_meetFieldEnd_1 : decode cX0_meetFieldEnd 1 = .ok (.getfield 70, 3) := by decide +kernel
theorem dX0_meetFieldEnd_4 : decode cX0_meetFieldEnd 4 = .ok (.iconst 4, 1) := by decide +kernel
theorem dX0_meetFieldEnd_5 : decode cX0_meetFieldEnd 5 = .ok (.if_icmp .ne 10, 3) := by decide +kernel
theorem dX0_meetFieldEnd_8 : decode cX0_meetFieldEnd 8 = .ok (.aload_n 0, 1) := by decide +kernel
theorem dX0_meetFieldEnd_9 : decode cX0_meetFieldEnd 9 = .ok (.invokevirtual 139, 3) := by decide +kernel
theorem dX0_meetFieldEnd_12 : decode cX0_meetFieldEnd 12 = .ok (.goto 33, 3) := by decide +kernel
theorem dX0_meetFieldEnd_15 : decode cX0_meetFieldEnd 15 = .ok (.aload_n 0, 1) := by decide +kernel
theorem dX0_meetFieldEnd_16 : decode cX0_meetFieldEnd 16 = .ok (.getfield 15, 3) := by decide +kernel
theorem dX0_meetFieldEnd_19 : decode cX0_meetFieldEnd 19 = .ok (.invokevirtual 127, 3) := by decide +kernel
theorem dX0_meetFieldEnd_22 : decode cX0_meetFieldEnd 22 = .ok (.ifCond .eq 23, 3) := by decide +kernel
theorem dX0_meetFieldEnd_25 : decode cX0_meetFieldEnd 25 = .ok (.aload_n 0, 1) := by decide +kernel
theorem dX0_meetFieldEnd_26 : decode cX0_meetFieldEnd 26 = .ok (.getfield 70, 3) := by decide +kernel
theorem dX0_meetFieldEnd_29 : decode cX0_meetFieldEnd 29 = .ok (.iconst 2, 1) := by decide +kernel
theorem dX0_meetFieldEnd_30 : decode cX0_meetFieldEnd 30 = .ok (.if_icmp .eq 11, 3) := by decide +kernel
theorem dX0_meetFieldEnd_33 : decode cX0_meetFieldEnd 33 = .ok (.aload_n 0, 1) := by decide +kernel
theorem dX0_meetFieldEnd_34 : decode cX0_meetFieldEnd 34 = .ok (.getfield 70, 3) := by decide +kernel
theorem dX0_meetFieldEnd_37 : decode cX0_meetFieldEnd 37 = .ok (.iconst 3, 1) := by decide +kernel
theorem dX0_meetFieldEnd_38 : decode cX0_meetFieldEnd 38 = .ok (.if_icmp .ne 7, 3) := by decide +kernel
theorem dX0_meetFieldEnd_41 : decode cX0_meetFieldEnd 41 = .ok (.aload_n 0, 1) := by decide +kernel
theorem dX0_meetFieldEnd_42 : decode cX0_meetFieldEnd 42 = .ok (.invokevirtual 142, 3) := by decide +kernel
theorem dX0_meetFieldEnd_45 : decode cX0_meetFieldEnd 45 = .ok (.return_, 1) := by decide +kernel
set_option maxRecDepth 20000 in
theorem ggX0_endReading_X2_isCheckRight : GoodIn wsX0_endReading wsX2_isCheckRight := goodIn_r _ [9, 10, 34, 35, 36, 37, 38, 39, 40, 41, 42, 43, 44, 45, 46, 47] (by decide +kernel) (by decide +kernel)
set_option maxRecDepth 20000 in
theorem gX0_endReading_X2_isCheckRight : GoodIn wsX0_endReading (wsV RX0 151 RX2 yX2_isCheckRight wsX2_isCheckRight) := goodIn_app (goodIn_of _ (by decide +kernel)) ggX0_endReading_X2_isCheckRight
set_option maxRecDepth 20000 in
theorem ggX0_endReading_X0_end : GoodIn wsX0_endReading wsX0_end := goodIn_r _ [15, 4, 16, 2, 17, 18, 19, 8, 20, 21, 22, 23, 24, 25, 26, 27, 28, 29, 30, 31, 32, 33, 34, 35, 36, 37, 38, 39, 40, 41, 42, 43, 44, 45, 46, 47] (by decide +kernel) (by decide +kernel)
set_option maxRecDepth 20000 in
theorem gX0_endReading_X0_end : GoodIn wsX0_endReading (wsV RX0 76 RX0 yX0_end wsX0_end) := goodIn_app (goodIn_of _ (by decide +kernel)) ggX0_endReading_X0_end
theorem dX0_endReading_0 : decode cX0_endReading 0 = .ok (.aload_n 0, 1) := by decide +kernel
theorem dX0_endReading_1 : decode cX0_endReading 1 = .ok (.getfield 26, 3) := by decide +kernel
theorem dX0_endReading_4 : decode cX0_endReading 4 = .ok (.iconst 4, 1) := by decide +kernel
theorem dX0_endReading_5 : decode cX0_endReading 5 = .ok (.if_icmp .ne 14, 3) := by decide +kernel
theorem dX0_endReading_8 : decode cX0_endReading 8 = .ok (.aload_n 0, 1) := by decide +kernel
theorem dX0_endReading_9 : decode cX0_endReading 9 = .ok (.aload_n 0, 1) := by decide +kernel
theorem dX0_endReading_10 : decode cX0_endReading 10 = .ok (.getfield 15, 3) := by decide +kernel
theorem dX0_endReading_13 : decode cX0_endReading 13 = .ok (.getfield 145, 3) := by decide +kernel
theorem dX0_endReading_16 : decode cX0_endReading 16 = .ok (.putfield 148, 3) := by decide +kernel
theorem dX0_endReading_19 : decode cX0_endReading 19 = .ok (.aload_n 0, 1) := by decide +kernel
theorem dX0_endReading_20 : decode cX0_endReading 20 = .ok (.getfield 15, 3) := by decide +kernel
theorem dX0_endReading_23 : decode cX0_endReading 23 = .ok (.invokevirtual 151, 3) := by decide +kernel
theorem dX0_endReading_26 : decode cX0_endReading 26 = .ok (.ifCond .ne 14, 3) := by decide +kernel
theorem dX0_endReading_29 : decode cX0_endReading 29 = .ok (.aload_n 0, 1) := by decide +kernel
theorem dX0_endReading_30 : decode cX0_endReading 30 = .ok (.dup, 1) := by decide +kernel
theorem dX0_endReading_31 : decode cX0_endReading 31 = .ok (.getfield 30, 3) := by decide +kernel
theorem dX0_endReading_34 : decode cX0_endReading 34 = .ok (.bipush 8, 2) := by decide +kernel
theorem dX0_endReading_36 : decode cX0_endReading 36 = .ok (.ior, 1) := by decide +kernel
theorem dX0_endReading_37 : decode cX0_endReading 37 = .ok (.putfield 30, 3) := by decide +kernel
theorem dX0_endReading_40 : decode cX0_endReading 40 = .ok (.aload_n 0, 1) := by decide +kernel
theorem dX0_endReading_41 : decode cX0_endReading 41 = .ok (.invokevirtual 76, 3) := by decide +kernel
theorem dX0_endReading_44 : decode cX0_endReading 44 = .ok (.return_, 1) := by decide +kernel
set_option maxRecDepth 20000 in
theorem ggX0_compareId_X2_isCheckRight : GoodIn wsX0_compareId wsX2_isCheckRight := goodIn_r _ [12, 13, 26, 27, 28, 29, 30, 31, 32, 33, 34, 35, 36, 37, 38, 39] (by decide +kernel) (by decide +kernel)
set_option maxRecDepth 20000 in
theorem gX0_compareId_X2_isCheckRight : GoodIn wsX0_compareId (wsV RX0 151 RX2 yX2_isCheckRight wsX2_isCheckRight) := goodIn_app (goodIn_of _ (by decide +kernel)) ggX0_compareId_X2_isCheckRight
theorem dX0_compareId_0 : decode cX0_compareId 0 = .ok (.aload_n 0, 1) := by decide +kernel
theorem dX0_compareId_1 : decode cX0_compareId 1 = .ok (.getfield 15, 3) := by decide +kernel
theorem dX0_compareId_4 : decode cX0_compareId 4 = .ok (.invokevirtual 151, 3) := by decide +kernel
theorem dX0_compareId_7 : decode cX0_compareId 7 = .ok (.ifCond .ne 15, 3) := by decide +kernel
theorem dX0_compareId_10 : decode cX0_compareId 10 = .ok (.aload_n 0, 1) := by decide +kernel
theorem dX0_compareId_11 : decode cX0_compareId 11 = .ok (.dup, 1) := by decide +kernel
theorem dX0_compareId_12 : decode cX0_compareId 12 = .ok (.getfield 30, 3) := by decide +kernel
theorem dX0_compareId_15 : decode cX0_compareId 15 = .ok (.bipush 8, 2) := by decide +kernel
theorem dX0_compareId_17 : decode cX0_compareId 17 = .ok (.ior, 1) := by decide +kernel
theorem dX0_compareId_18 : decode cX0_compareId 18 = .ok (.putfield 30, 3) := by decide +kernel
theorem dX0_compareId_21 : decode cX0_compareId 21 = .ok (.return_, 1) := by decide +kernel
theorem dX0_compareId_22 : decode cX0_compareId 22 = .ok (.aload_n 0, 1) := by decide +kernel
theorem dX0_compareId_23 : decode cX0_compareId 23 = .ok (.dup, 1) := by decide +kernel
theorem dX0_compareId_24 : decode cX0_compareId 24 = .ok (.getfield 30, 3) := by decide +kernel
theorem dX0_compareId_27 : decode cX0_compareId 27 = .ok (.bipush (-9), 2) := by decide +kernel
theorem dX0_compareId_29 : decode cX0_compareId 29 = .ok (.iand, 1) := by decide +kernel
theorem dX0_compareId_30 : decode cX0_compareId 30 = .ok (.putfield 30, 3) := by decide +kernel
theorem dX0_compareId_33 : decode cX0_compareId 33 = .ok (.aload_n 0, 1) := by decide +kernel
theorem dX0_compareId_34 : decode cX0_compareId 34 = .ok (.getfield 15, 3) := by decide +kernel
theorem dX0_compareId_37 : decode cX0_compareId 37 = .ok (.getfield 145, 3) := by decide +kernel
theorem dX0_compareId_40 : decode cX0_compareId 40 = .ok (.aload_n 0, 1) := by decide +kernel
theorem dX0_compareId_41 : decode cX0_compareId 41 = .ok (.getfield 58, 3) := by decide +kernel
theorem dX0_compareId_44 : decode cX0_compareId 44 = .ok (.if_icmp .ne 17, 3) := by decide +kernel
theorem dX0_compareId_47 : decode cX0_compareId 47 = .ok (.aload_n 0, 1) := by decide +kernel
theorem dX0_compareId_48 : decode cX0_compareId 48 = .ok (.getfield 15, 3) := by decide +kernel
theorem dX0_compareId_51 : decode cX0_compareId 51 = .ok (.getfield 154, 3) := by decide +kernel
theorem dX0_compareId_54 : decode cX0_compareId 54 = .ok (.aload_n 0, 1) := by decide +kernel
theorem dX0_compareId_55 : decode cX0_compareId 55 = .ok (.getfield 148, 3) := by decide +kernel
theorem dX0_compareId_58 : decode cX0_compareId 58 = .ok (.if_icmp .eq 4, 3) := by decide +kernel
theorem dX0_compareId_61 : decode cX0_compareId 61 = .ok (.return_, 1) := by decide +kernel
theorem dX0_compareId_62 : decode cX0_compareId 62 = .ok (.aload_n 0, 1) := by decide +kernel
theorem dX0_compareId_63 : decode cX0_compareId 63 = .ok (.iconst 0, 1) := by decide +kernel
theorem dX0_compareId_64 : decode cX0_compareId 64 = .ok (.putfield 44, 3) := by decide +kernel
theorem dX0_compareId_67 : decode cX0_compareId 67 = .ok (.aload_n 0, 1) := by decide +kernel
theorem dX0_compareId_68 : decode cX0_compareId 68 = .ok (.getfield 26, 3) := by decide +kernel
theorem dX0_compareId_71 : decode cX0_compareId 71 = .ok (.iconst 3, 1) := by decide +kernel
theorem dX0_compareId_72 : decode cX0_compareId 72 = .ok (.if_icmp .ne 21, 3) := by decide +kernel
theorem dX0_compareId_75 : decode cX0_compareId 75 = .ok (.aload_n 0, 1) := by decide +kernel
theorem dX0_compareId_76 : decode cX0_compareId 76 = .ok (.iconst 5, 1) := by decide +kernel
theorem dX0_compareId_77 : decode cX0_compareId 77 = .ok (.putfield 70, 3) := by decide +kernel
theorem dX0_compareId_80 : decode cX0_compareId 80 = .ok (.aload_n 0, 1) := by decide +kernel
theorem dX0_compareId_81 : decode cX0_compareId 81 = .ok (.dup, 1) := by decide +kernel
theorem dX0_compareId_82 : decode cX0_compareId 82 = .ok (.getfield 30, 3) := by decide +kernel
theorem dX0_compareId_85 : decode cX0_compareId 85 = .ok (.iconst 2, 1) := by decide +kernel
theorem dX0_compareId_86 : decode cX0_compareId 86 = .ok (.ior, 1) := by decide +kernel
theorem dX0_compareId_87 : decode cX0_compareId 87 = .ok (.putfield 30, 3) := by decide +kernel
theorem dX0_compareId_90 : decode cX0_compareId 90 = .ok (.goto 8, 3) := by decide +kernel
theorem dX0_compareId_93 : decode cX0_compareId 93 = .ok (.aload_n 0, 1) := by decide +kernel
theorem dX0_compareId_94 : decode cX0_compareId 94 = .ok (.iconst 3, 1) := by decide +kernel
theorem dX0_compareId_95 : decode cX0_compareId 95 = .ok (.putfield 70, 3) := by decide +kernel
theorem dX0_compareId_98 : decode cX0_compareId 98 = .ok (.return_, 1) := by decide +kernel
set_option maxRecDepth 20000 in
theorem ggX0_writeOneCell_X0_putNextOfTrack : GoodIn wsX0_writeOneCell wsX0_putNextOfTrack := goodIn_r _ [9, 1, 10, 11, 12, 13, 14, 15, 16, 17, 18, 19, 20, 21, 22, 23, 24, 25, 26, 27, 28, 29, 30, 31, 32, 33, 8, 34, 35, 36, 37, 38, 39, 40, 41, 42, 43, 44, 45, 46, 47, 48, 49, 50, 51, 52, 53, 95, 96, 97, 98, 99, 100, 101, 102, 103, 104, 105, 106, 107, 108, 109, 110, 111, 112, 113] (by decide +kernel) (by decide +kernel)
set_option maxRecDepth 20000 in
theorem gX0_writeOneCell_X0_putNextOfTrack : GoodIn wsX0_writeOneCell (wsV RX0 160 RX0 yX0_putNextOfTrack wsX0_putNextOfTrack) := goodIn_app (goodIn_of _ (by decide +kernel)) ggX0_writeOneCell_X0_putNextOfTrack
set_option maxRecDepth 20000 in
theorem ggX0_writeOneCell_X0_putNextOfSector : GoodIn wsX0_writeOneCell wsX0_putNextOfSector := goodIn_r _ [57, 1, 4, 58, 10, 50, 51, 52, 14, 53, 17, 45, 46, 47, 48, 49, 18, 19, 20, 21, 22, 23, 24, 25, 26, 27, 28, 29, 30, 40, 41, 42, 43, 44, 31, 32, 33, 8, 34, 35, 36, 37, 38, 39, 11, 12, 13, 15, 16, 95, 96, 97, 98, 99, 100, 101, 102, 103, 104, 105, 106, 107, 108, 109, 110, 111, 112, 113, 114, 115, 116, 117, 118, 119, 120, 121, 122, 123, 124, 125, 126, 127] (by decide +kernel) (by decide +kernel)
set_option maxRecDepth 20000 in
theorem gX0_writeOneCell_X0_putNextOfSector : GoodIn wsX0_writeOneCell (wsV RX0 163 RX0 yX0_putNextOfSector wsX0_putNextOfSector) := goodIn_app (goodIn_of _ (by decide +kernel)) ggX0_writeOneCell_X0_putNextOfSector
set_option maxRecDepth 20000 in
theorem ggX0_writeOneCell_X4_nextCell : GoodIn wsX0_writeOneCell wsX4_nextCell := goodIn_r _ [62, 29, 28, 107, 108, 109, 110, 111, 112, 113] (by decide +kernel) (by decide +kernel)
set_option maxRecDepth 20000 in
theorem gX0_writeOneCell_X4_nextCell : GoodIn wsX0_writeOneCell (wsV RX0 166 RX4 yX4_nextCell wsX4_nextCell) := goodIn_app (goodIn_of _ (by decide +kernel)) ggX0_writeOneCell_X4_nextCell
set_option maxRecDepth 20000 in
theorem ggX0_writeOneCell_X1_writeUnderHead : GoodIn wsX0_writeOneCell wsX1_writeUnderHead := goodIn_r _ [67, 68, 69, 70, 71, 72, 66, 73, 74, 75, 76, 77, 78, 79, 80, 81, 82, 83, 128, 129, 130, 131] (by decide +kernel) (by decide +kernel)
set_option maxRecDepth 20000 in
theorem gX0_writeOneCell_X1_writeUnderHead : GoodIn wsX0_writeOneCell (wsV RX0 169 RX1 yX1_writeUnderHead wsX1_writeUnderHead) := goodIn_app (goodIn_of _ (by decide +kernel)) ggX0_writeOneCell_X1_writeUnderHead
set_option maxRecDepth 20000 in
theorem ggX0_writeOneCell_X0_end : GoodIn wsX0_writeOneCell wsX0_end := goodIn_r _ [87, 10, 88, 4, 89, 90, 91, 92, 93, 94, 95, 96, 97, 98, 99, 100, 101, 102, 103, 104, 105, 106, 114, 115, 116, 117, 118, 119, 120, 121, 122, 123, 124, 125, 126, 127] (by decide +kernel) (by decide +kernel)
set_option maxRecDepth 20000 in
theorem gX0_writeOneCell_X0_end : GoodIn wsX0_writeOneCell (wsV RX0 76 RX0 yX0_end wsX0_end) := goodIn_app (goodIn_of _ (by decide +kernel)) ggX0_writeOneCell_X0_end
theorem dX0_writeOneCell_0 : decode cX0_writeOneCell 0 = .ok (.aload_n 0, 1) := by decide +kernel
theorem dX0_writeOneCell_1 : decode cX0_writeOneCell 1 = .ok (.getfield 22, 3) := by decide +kernel
theorem dX0_writeOneCell_4 : decode cX0_writeOneCell 4 = .ok (.getfield 157, 3) := by decide +kernel
theorem dX0_writeOneCell_7 : decode cX0_writeOneCell 7 = .ok (.ifCond .ne 22, 3) := by decide +kernel
theorem dX0_writeOneCell_10 : decode cX0_writeOneCell 10 = .ok (.aload_n 0, 1) := by decide +kernel
theorem dX0_writeOneCell_11 : decode cX0_writeOneCell 11 = .ok (.getfield 26, 3) := by decide +kernel
theorem dX0_writeOneCell_14 : decode cX0_writeOneCell 14 = .ok (.iconst 5, 1) := by decide +kernel
theorem dX0_writeOneCell_15 : decode cX0_writeOneCell 15 = .ok (.if_icmp .ne 10, 3) := by decide +kernel
theorem dX0_writeOneCell_18 : decode cX0_writeOneCell 18 = .ok (.aload_n 0, 1) := by decide +kernel
theorem dX0_writeOneCell_19 : decode cX0_writeOneCell 19 = .ok (.invokevirtual 160, 3) := by decide +kernel
theorem dX0_writeOneCell_22 : decode cX0_writeOneCell 22 = .ok (.goto 7, 3) := by decide +kernel
theorem dX0_writeOneCell_25 : decode cX0_writeOneCell 25 = .ok (.aload_n 0, 1) := by decide +kernel
theorem dX0_writeOneCell_26 : decode cX0_writeOneCell 26 = .ok (.invokevirtual 163, 3) := by decide +kernel
theorem dX0_writeOneCell_29 : decode cX0_writeOneCell 29 = .ok (.aload_n 0, 1) := by decide +kernel
theorem dX0_writeOneCell_30 : decode cX0_writeOneCell 30 = .ok (.getfield 9, 3) := by decide +kernel
theorem dX0_writeOneCell_33 : decode cX0_writeOneCell 33 = .ok (.aload_n 0, 1) := by decide +kernel
theorem dX0_writeOneCell_34 : decode cX0_writeOneCell 34 = .ok (.getfield 22, 3) := by decide +kernel
theorem dX0_writeOneCell_37 : decode cX0_writeOneCell 37 = .ok (.invokevirtual 166, 3) := by decide +kernel
theorem dX0_writeOneCell_40 : decode cX0_writeOneCell 40 = .ok (.invokevirtual 169, 3) := by decide +kernel
theorem dX0_writeOneCell_43 : decode cX0_writeOneCell 43 = .ok (.aload_n 0, 1) := by decide +kernel
theorem dX0_writeOneCell_44 : decode cX0_writeOneCell 44 = .ok (.getfield 22, 3) := by decide +kernel
theorem dX0_writeOneCell_47 : decode cX0_writeOneCell 47 = .ok (.getfield 172, 3) := by decide +kernel
theorem dX0_writeOneCell_50 : decode cX0_writeOneCell 50 = .ok (.bipush 8, 2) := by decide +kernel
theorem dX0_writeOneCell_52 : decode cX0_writeOneCell 52 = .ok (.aload_n 0, 1) := by decide +kernel
theorem dX0_writeOneCell_53 : decode cX0_writeOneCell 53 = .ok (.getfield 15, 3) := by decide +kernel
theorem dX0_writeOneCell_56 : decode cX0_writeOneCell 56 = .ok (.getfield 175, 3) := by decide +kernel
theorem dX0_writeOneCell_59 : decode cX0_writeOneCell 59 = .ok (.iadd, 1) := by decide +kernel
theorem dX0_writeOneCell_60 : decode cX0_writeOneCell 60 = .ok (.iconst 3, 1) := by decide +kernel
theorem dX0_writeOneCell_61 : decode cX0_writeOneCell 61 = .ok (.iadd, 1) := by decide +kernel
theorem dX0_writeOneCell_62 : decode cX0_writeOneCell 62 = .ok (.if_icmp .ne 7, 3) := by decide +kernel
theorem dX0_writeOneCell_65 : decode cX0_writeOneCell 65 = .ok (.iconst 1, 1) := by decide +kernel
theorem dX0_writeOneCell_66 : decode cX0_writeOneCell 66 = .ok (.goto 4, 3) := by decide +kernel
theorem dX0_writeOneCell_69 : decode cX0_writeOneCell 69 = .ok (.iconst 0, 1) := by decide +kernel
theorem dX0_writeOneCell_70 : decode cX0_writeOneCell 70 = .ok (.istore_n 1, 1) := by decide +kernel
theorem dX0_writeOneCell_71 : decode cX0_writeOneCell 71 = .ok (.aload_n 0, 1) := by decide +kernel
theorem dX0_writeOneCell_72 : decode cX0_writeOneCell 72 = .ok (.getfield 26, 3) := by decide +kernel
theorem dX0_writeOneCell_75 : decode cX0_writeOneCell 75 = .ok (.iconst 3, 1) := by decide +kernel
theorem dX0_writeOneCell_76 : decode cX0_writeOneCell 76 = .ok (.if_icmp .ne 21, 3) := by decide +kernel
theorem dX0_writeOneCell_79 : decode cX0_writeOneCell 79 = .ok (.aload_n 0, 1) := by decide +kernel
theorem dX0_writeOneCell_80 : decode cX0_writeOneCell 80 = .ok (.getfield 22, 3) := by decide +kernel
theorem dX0_writeOneCell_83 : decode cX0_writeOneCell 83 = .ok (.getfield 157, 3) := by decide +kernel
theorem dX0_writeOneCell_86 : decode cX0_writeOneCell 86 = .ok (.ifCond .ne 11, 3) := by decide +kernel
theorem dX0_writeOneCell_89 : decode cX0_writeOneCell 89 = .ok (.iload_n 1, 1) := by decide +kernel
theorem dX0_writeOneCell_90 : decode cX0_writeOneCell 90 = .ok (.ifCond .eq 7, 3) := by decide +kernel
theorem dX0_writeOneCell_93 : decode cX0_writeOneCell 93 = .ok (.aload_n 0, 1) := by decide +kernel
theorem dX0_writeOneCell_94 : decode cX0_writeOneCell 94 = .ok (.invokevirtual 76, 3) := by decide +kernel
theorem dX0_writeOneCell_97 : decode cX0_writeOneCell 97 = .ok (.return_, 1) := by decide +kernel
set_option maxRecDepth 20000 in
theorem ggX0_putNextOfTrack_X4_putHalfOfCheck : GoodIn wsX0_putNextOfTrack wsX4_putHalfOfCheck := goodIn_r _ [7, 8, 9, 10, 11, 12, 6, 13, 14, 15, 16, 17, 18, 19, 20, 21, 22, 59, 60, 61, 62, 63, 64, 65] (by decide +kernel) (by decide +kernel)
set_option maxRecDepth 20000 in
theorem gX0_putNextOfTrack_X4_putHalfOfCheck : GoodIn wsX0_putNextOfTrack (wsV RX0 181 RX4 yX4_putHalfOfCheck wsX4_putHalfOfCheck) := goodIn_app (goodIn_of _ (by decide +kernel)) ggX0_putNextOfTrack_X4_putHalfOfCheck
set_option maxRecDepth 20000 in
theorem ggX0_putNextOfTrack_X0_askForByte : GoodIn wsX0_putNextOfTrack wsX0_askForByte := goodIn_r _ [27, 2, 28, 29, 30, 31, 26, 32, 47, 48, 49, 50, 51, 52, 53, 54, 55, 56, 57, 58] (by decide +kernel) (by decide +kernel)
set_option maxRecDepth 20000 in
theorem gX0_putNextOfTrack_X0_askForByte : GoodIn wsX0_putNextOfTrack (wsV RX0 184 RX0 yX0_askForByte wsX0_askForByte) := goodIn_app (goodIn_of _ (by decide +kernel)) ggX0_putNextOfTrack_X0_askForByte
set_option maxRecDepth 20000 in
theorem ggX0_putNextOfTrack_X4_putMark : GoodIn wsX0_putNextOfTrack wsX4_putMark := goodIn_r _ [36, 15, 37, 9, 14, 38, 39, 40, 41, 42, 16, 17, 18, 6, 19, 20, 21, 22, 59, 60, 61, 62, 63, 64, 65] (by decide +kernel) (by decide +kernel)
set_option maxRecDepth 20000 in
theorem gX0_putNextOfTrack_X4_putMark : GoodIn wsX0_putNextOfTrack (wsV RX0 187 RX4 yX4_putMark wsX4_putMark) := goodIn_app (goodIn_of _ (by decide +kernel)) ggX0_putNextOfTrack_X4_putMark
set_option maxRecDepth 20000 in
theorem ggX0_putNextOfTrack_X4_putByte : GoodIn wsX0_putNextOfTrack wsX4_putByte := goodIn_r _ [46, 9, 38, 39, 40, 41, 42, 10, 11, 12, 6, 13, 14, 15, 16, 17, 18, 19, 20, 21, 22, 59, 60, 61, 62, 63, 64, 65] (by decide +kernel) (by decide +kernel)
set_option maxRecDepth 20000 in
theorem gX0_putNextOfTrack_X4_putByte : GoodIn wsX0_putNextOfTrack (wsV RX0 190 RX4 yX4_putByte wsX4_putByte) := goodIn_app (goodIn_of _ (by decide +kernel)) ggX0_putNextOfTrack_X4_putByte
theorem dX0_putNextOfTrack_0 : decode cX0_putNextOfTrack 0 = .ok (.aload_n 0, 1) := by decide +kernel
theorem dX0_putNextOfTrack_1 : decode cX0_putNextOfTrack 1 = .ok (.getfield 22, 3) := by decide +kernel
theorem dX0_putNextOfTrack_4 : decode cX0_putNextOfTrack 4 = .ok (.getfield 178, 3) := by decide +kernel
theorem dX0_putNextOfTrack_7 : decode cX0_putNextOfTrack 7 = .ok (.ifCond .eq 11, 3) := by decide +kernel
theorem dX0_putNextOfTrack_10 : decode cX0_putNextOfTrack 10 = .ok (.aload_n 0, 1) := by decide +kernel
theorem dX0_putNextOfTrack_11 : decode cX0_putNextOfTrack 11 = .ok (.getfield 22, 3) := by decide +kernel
theorem dX0_putNextOfTrack_14 : decode cX0_putNextOfTrack 14 = .ok (.invokevirtual 181, 3) := by decide +kernel
theorem dX0_putNextOfTrack_17 : decode cX0_putNextOfTrack 17 = .ok (.return_, 1) := by decide +kernel
theorem dX0_putNextOfTrack_18 : decode cX0_putNextOfTrack 18 = .ok (.aload_n 0, 1) := by decide +kernel
theorem dX0_putNextOfTrack_19 : decode cX0_putNextOfTrack 19 = .ok (.invokevirtual 184, 3) := by decide +kernel
theorem dX0_putNextOfTrack_22 : decode cX0_putNextOfTrack 22 = .ok (.istore_n 1, 1) := by decide +kernel
theorem dX0_putNextOfTrack_23 : decode cX0_putNextOfTrack 23 = .ok (.aload_n 0, 1) := by decide +kernel
theorem dX0_putNextOfTrack_24 : decode cX0_putNextOfTrack 24 = .ok (.dup, 1) := by decide +kernel
theorem dX0_putNextOfTrack_25 : decode cX0_putNextOfTrack 25 = .ok (.getfield 30, 3) := by decide +kernel
theorem dX0_putNextOfTrack_28 : decode cX0_putNextOfTrack 28 = .ok (.iconst 2, 1) := by decide +kernel
theorem dX0_putNextOfTrack_29 : decode cX0_putNextOfTrack 29 = .ok (.ior, 1) := by decide +kernel
theorem dX0_putNextOfTrack_30 : decode cX0_putNextOfTrack 30 = .ok (.putfield 30, 3) := by decide +kernel
theorem dX0_putNextOfTrack_33 : decode cX0_putNextOfTrack 33 = .ok (.iload_n 1, 1) := by decide +kernel
theorem dX0_putNextOfTrack_34 : decode cX0_putNextOfTrack 34 = .ok (.sipush 245, 3) := by decide +kernel
theorem dX0_putNextOfTrack_37 : decode cX0_putNextOfTrack 37 = .ok (.if_icmp .ne 13, 3) := by decide +kernel
theorem dX0_putNextOfTrack_40 : decode cX0_putNextOfTrack 40 = .ok (.aload_n 0, 1) := by decide +kernel
theorem dX0_putNextOfTrack_41 : decode cX0_putNextOfTrack 41 = .ok (.getfield 22, 3) := by decide +kernel
theorem dX0_putNextOfTrack_44 : decode cX0_putNextOfTrack 44 = .ok (.invokevirtual 187, 3) := by decide +kernel
theorem dX0_putNextOfTrack_47 : decode cX0_putNextOfTrack 47 = .ok (.goto 28, 3) := by decide +kernel
theorem dX0_putNextOfTrack_50 : decode cX0_putNextOfTrack 50 = .ok (.iload_n 1, 1) := by decide +kernel
theorem dX0_putNextOfTrack_51 : decode cX0_putNextOfTrack 51 = .ok (.sipush 247, 3) := by decide +kernel
theorem dX0_putNextOfTrack_54 : decode cX0_putNextOfTrack 54 = .ok (.if_icmp .ne 13, 3) := by decide +kernel
theorem dX0_putNextOfTrack_57 : decode cX0_putNextOfTrack 57 = .ok (.aload_n 0, 1) := by decide +kernel
theorem dX0_putNextOfTrack_58 : decode cX0_putNextOfTrack 58 = .ok (.getfield 22, 3) := by decide +kernel
theorem dX0_putNextOfTrack_61 : decode cX0_putNextOfTrack 61 = .ok (.invokevirtual 181, 3) := by decide +kernel
theorem dX0_putNextOfTrack_64 : decode cX0_putNextOfTrack 64 = .ok (.goto 11, 3) := by decide +kernel
theorem dX0_putNextOfTrack_67 : decode cX0_putNextOfTrack 67 = .ok (.aload_n 0, 1) := by decide +kernel
theorem dX0_putNextOfTrack_68 : decode cX0_putNextOfTrack 68 = .ok (.getfield 22, 3) := by decide +kernel
theorem dX0_putNextOfTrack_71 : decode cX0_putNextOfTrack 71 = .ok (.iload_n 1, 1) := by decide +kernel
theorem dX0_putNextOfTrack_72 : decode cX0_putNextOfTrack 72 = .ok (.invokevirtual 190, 3) := by decide +kernel
theorem dX0_putNextOfTrack_75 : decode cX0_putNextOfTrack 75 = .ok (.return_, 1) := by decide +kernel
set_option maxRecDepth 20000 in
theorem ggX0_putNextOfSector_X4_putByte : GoodIn wsX0_putNextOfSector wsX4_putByte := goodIn_r _ [9, 10, 11, 12, 13, 14, 15, 16, 17, 18, 8, 19, 20, 21, 22, 23, 24, 25, 26, 27, 28, 61, 62, 63, 64, 65, 66, 67] (by decide +kernel) (by decide +kernel)
set_option maxRecDepth 20000 in
theorem gX0_putNextOfSector_X4_putByte : GoodIn wsX0_putNextOfSector (wsV RX0 190 RX4 yX4_putByte wsX4_putByte) := goodIn_app (goodIn_of _ (by decide +kernel)) ggX0_putNextOfSector_X4_putByte
set_option maxRecDepth 20000 in
theorem ggX0_putNextOfSector_X4_putMark : GoodIn wsX0_putNextOfSector wsX4_putMark := goodIn_r _ [32, 21, 33, 10, 20, 11, 12, 13, 14, 15, 22, 23, 24, 8, 25, 26, 27, 28, 61, 62, 63, 64, 65, 66, 67] (by decide +kernel) (by decide +kernel)
set_option maxRecDepth 20000 in
theorem gX0_putNextOfSector_X4_putMark : GoodIn wsX0_putNextOfSector (wsV RX0 187 RX4 yX4_putMark wsX4_putMark) := goodIn_app (goodIn_of _ (by decide +kernel)) ggX0_putNextOfSector_X4_putMark
set_option maxRecDepth 20000 in
theorem ggX0_putNextOfSector_X0_askForByte : GoodIn wsX0_putNextOfSector wsX0_askForByte := goodIn_r _ [38, 4, 39, 40, 41, 42, 37, 43, 49, 50, 51, 52, 53, 54, 55, 56, 57, 58, 59, 60] (by decide +kernel) (by decide +kernel)
set_option maxRecDepth 20000 in
theorem gX0_putNextOfSector_X0_askForByte : GoodIn wsX0_putNextOfSector (wsV RX0 184 RX0 yX0_askForByte wsX0_askForByte) := goodIn_app (goodIn_of _ (by decide +kernel)) ggX0_putNextOfSector_X0_askForByte
set_option maxRecDepth 20000 in
theorem ggX0_putNextOfSector_X4_putHalfOfCheck : GoodIn wsX0_putNextOfSector wsX4_putHalfOfCheck := goodIn_r _ [47, 48, 10, 16, 17, 18, 8, 19, 20, 21, 22, 23, 24, 25, 26, 27, 28, 61, 62, 63, 64, 65, 66, 67] (by decide +kernel) (by decide +kernel)
set_option maxRecDepth 20000 in
theorem gX0_putNextOfSector_X4_putHalfOfCheck : GoodIn wsX0_putNextOfSector (wsV RX0 181 RX4 yX4_putHalfOfCheck wsX4_putHalfOfCheck) := goodIn_app (goodIn_of _ (by decide +kernel)) ggX0_putNextOfSector_X4_putHalfOfCheck
theorem dX0_putNextOfSector_0 : decode cX0_putNextOfSector 0 = .ok (.aload_n 0, 1) := by decide +kernel
theorem dX0_putNextOfSector_1 : decode cX0_putNextOfSector 1 = .ok (.getfield 22, 3) := by decide +kernel
theorem dX0_putNextOfSector_4 : decode cX0_putNextOfSector 4 = .ok (.getfield 172, 3) := by decide +kernel
theorem dX0_putNextOfSector_7 : decode cX0_putNextOfSector 7 = .ok (.istore_n 1, 1) := by decide +kernel
theorem dX0_putNextOfSector_8 : decode cX0_putNextOfSector 8 = .ok (.bipush 8, 2) := by decide +kernel
theorem dX0_putNextOfSector_10 : decode cX0_putNextOfSector 10 = .ok (.aload_n 0, 1) := by decide +kernel
theorem dX0_putNextOfSector_11 : decode cX0_putNextOfSector 11 = .ok (.getfield 15, 3) := by decide +kernel
theorem dX0_putNextOfSector_14 : decode cX0_putNextOfSector 14 = .ok (.getfield 175, 3) := by decide +kernel
theorem dX0_putNextOfSector_17 : decode cX0_putNextOfSector 17 = .ok (.iadd, 1) := by decide +kernel
theorem dX0_putNextOfSector_18 : decode cX0_putNextOfSector 18 = .ok (.istore_n 2, 1) := by decide +kernel
theorem dX0_putNextOfSector_19 : decode cX0_putNextOfSector 19 = .ok (.iload_n 1, 1) := by decide +kernel
theorem dX0_putNextOfSector_20 : decode cX0_putNextOfSector 20 = .ok (.iconst 4, 1) := by decide +kernel
theorem dX0_putNextOfSector_21 : decode cX0_putNextOfSector 21 = .ok (.if_icmp .ge 14, 3) := by decide +kernel
theorem dX0_putNextOfSector_24 : decode cX0_putNextOfSector 24 = .ok (.aload_n 0, 1) := by decide +kernel
theorem dX0_putNextOfSector_25 : decode cX0_putNextOfSector 25 = .ok (.getfield 22, 3) := by decide +kernel
theorem dX0_putNextOfSector_28 : decode cX0_putNextOfSector 28 = .ok (.iconst 0, 1) := by decide +kernel
theorem dX0_putNextOfSector_29 : decode cX0_putNextOfSector 29 = .ok (.invokevirtual 190, 3) := by decide +kernel
theorem dX0_putNextOfSector_32 : decode cX0_putNextOfSector 32 = .ok (.goto 113, 3) := by decide +kernel
theorem dX0_putNextOfSector_35 : decode cX0_putNextOfSector 35 = .ok (.iload_n 1, 1) := by decide +kernel
theorem dX0_putNextOfSector_36 : decode cX0_putNextOfSector 36 = .ok (.bipush 7, 2) := by decide +kernel
theorem dX0_putNextOfSector_38 : decode cX0_putNextOfSector 38 = .ok (.if_icmp .ge 13, 3) := by decide +kernel
theorem dX0_putNextOfSector_41 : decode cX0_putNextOfSector 41 = .ok (.aload_n 0, 1) := by decide +kernel
theorem dX0_putNextOfSector_42 : decode cX0_putNextOfSector 42 = .ok (.getfield 22, 3) := by decide +kernel
theorem dX0_putNextOfSector_45 : decode cX0_putNextOfSector 45 = .ok (.invokevirtual 187, 3) := by decide +kernel
theorem dX0_putNextOfSector_48 : decode cX0_putNextOfSector 48 = .ok (.goto 97, 3) := by decide +kernel
theorem dX0_putNextOfSector_51 : decode cX0_putNextOfSector 51 = .ok (.iload_n 1, 1) := by decide +kernel
theorem dX0_putNextOfSector_52 : decode cX0_putNextOfSector 52 = .ok (.bipush 8, 2) := by decide +kernel
theorem dX0_putNextOfSector_54 : decode cX0_putNextOfSector 54 = .ok (.if_icmp .ge 29, 3) := by decide +kernel
theorem dX0_putNextOfSector_57 : decode cX0_putNextOfSector 57 = .ok (.aload_n 0, 1) := by decide +kernel
theorem dX0_putNextOfSector_58 : decode cX0_putNextOfSector 58 = .ok (.getfield 22, 3) := by decide +kernel
theorem dX0_putNextOfSector_61 : decode cX0_putNextOfSector 61 = .ok (.aload_n 0, 1) := by decide +kernel
theorem dX0_putNextOfSector_62 : decode cX0_putNextOfSector 62 = .ok (.getfield 40, 3) := by decide +kernel
theorem dX0_putNextOfSector_65 : decode cX0_putNextOfSector 65 = .ok (.ifCond .eq 9, 3) := by decide +kernel
theorem dX0_putNextOfSector_68 : decode cX0_putNextOfSector 68 = .ok (.sipush 248, 3) := by decide +kernel
theorem dX0_putNextOfSector_71 : decode cX0_putNextOfSector 71 = .ok (.goto 6, 3) := by decide +kernel
theorem dX0_putNextOfSector_74 : decode cX0_putNextOfSector 74 = .ok (.sipush 251, 3) := by decide +kernel
theorem dX0_putNextOfSector_77 : decode cX0_putNextOfSector 77 = .ok (.invokevirtual 190, 3) := by decide +kernel
theorem dX0_putNextOfSector_80 : decode cX0_putNextOfSector 80 = .ok (.goto 65, 3) := by decide +kernel
theorem dX0_putNextOfSector_83 : decode cX0_putNextOfSector 83 = .ok (.iload_n 1, 1) := by decide +kernel
theorem dX0_putNextOfSector_84 : decode cX0_putNextOfSector 84 = .ok (.iload_n 2, 1) := by decide +kernel
theorem dX0_putNextOfSector_85 : decode cX0_putNextOfSector 85 = .ok (.if_icmp .ge 34, 3) := by decide +kernel
theorem dX0_putNextOfSector_88 : decode cX0_putNextOfSector 88 = .ok (.aload_n 0, 1) := by decide +kernel
theorem dX0_putNextOfSector_89 : decode cX0_putNextOfSector 89 = .ok (.getfield 22, 3) := by decide +kernel
theorem dX0_putNextOfSector_92 : decode cX0_putNextOfSector 92 = .ok (.aload_n 0, 1) := by decide +kernel
theorem dX0_putNextOfSector_93 : decode cX0_putNextOfSector 93 = .ok (.invokevirtual 184, 3) := by decide +kernel
theorem dX0_putNextOfSector_96 : decode cX0_putNextOfSector 96 = .ok (.invokevirtual 190, 3) := by decide +kernel
theorem dX0_putNextOfSector_99 : decode cX0_putNextOfSector 99 = .ok (.iload_n 1, 1) := by decide +kernel
theorem dX0_putNextOfSector_100 : decode cX0_putNextOfSector 100 = .ok (.iload_n 2, 1) := by decide +kernel
theorem dX0_putNextOfSector_101 : decode cX0_putNextOfSector 101 = .ok (.iconst 1, 1) := by decide +kernel
theorem dX0_putNextOfSector_102 : decode cX0_putNextOfSector 102 = .ok (.isub, 1) := by decide +kernel
theorem dX0_putNextOfSector_103 : decode cX0_putNextOfSector 103 = .ok (.if_icmp .ge 42, 3) := by decide +kernel
theorem dX0_putNextOfSector_106 : decode cX0_putNextOfSector 106 = .ok (.aload_n 0, 1) := by decide +kernel
theorem dX0_putNextOfSector_107 : decode cX0_putNextOfSector 107 = .ok (.dup, 1) := by decide +kernel
theorem dX0_putNextOfSector_108 : decode cX0_putNextOfSector 108 = .ok (.getfield 30, 3) := by decide +kernel
theorem dX0_putNextOfSector_111 : decode cX0_putNextOfSector 111 = .ok (.iconst 2, 1) := by decide +kernel
theorem dX0_putNextOfSector_112 : decode cX0_putNextOfSector 112 = .ok (.ior, 1) := by decide +kernel
theorem dX0_putNextOfSector_113 : decode cX0_putNextOfSector 113 = .ok (.putfield 30, 3) := by decide +kernel
theorem dX0_putNextOfSector_116 : decode cX0_putNextOfSector 116 = .ok (.goto 29, 3) := by decide +kernel
theorem dX0_putNextOfSector_119 : decode cX0_putNextOfSector 119 = .ok (.iload_n 1, 1) := by decide +kernel
theorem dX0_putNextOfSector_120 : decode cX0_putNextOfSector 120 = .ok (.iload_n 2, 1) := by decide +kernel
theorem dX0_putNextOfSector_121 : decode cX0_putNextOfSector 121 = .ok (.iconst 2, 1) := by decide +kernel
theorem dX0_putNextOfSector_122 : decode cX0_putNextOfSector 122 = .ok (.iadd, 1) := by decide +kernel
theorem dX0_putNextOfSector_123 : decode cX0_putNextOfSector 123 = .ok (.if_icmp .ge 13, 3) := by decide +kernel
theorem dX0_putNextOfSector_126 : decode cX0_putNextOfSector 126 = .ok (.aload_n 0, 1) := by decide +kernel
theorem dX0_putNextOfSector_127 : decode cX0_putNextOfSector 127 = .ok (.getfield 22, 3) := by decide +kernel
theorem dX0_putNextOfSector_130 : decode cX0_putNextOfSector 130 = .ok (.invokevirtual 181, 3) := by decide +kernel
theorem dX0_putNextOfSector_133 : decode cX0_putNextOfSector 133 = .ok (.goto 12, 3) := by decide +kernel
theorem dX0_putNextOfSector_136 : decode cX0_putNextOfSector 136 = .ok (.aload_n 0, 1) := by decide +kernel
theorem dX0_putNextOfSector_137 : decode cX0_putNextOfSector 137 = .ok (.getfield 22, 3) := by decide +kernel
theorem dX0_putNextOfSector_140 : decode cX0_putNextOfSector 140 = .ok (.bipush 78, 2) := by decide +kernel
theorem dX0_putNextOfSector_142 : decode cX0_putNextOfSector 142 = .ok (.invokevirtual 190, 3) := by decide +kernel
theorem dX0_putNextOfSector_145 : decode cX0_putNextOfSector 145 = .ok (.return_, 1) := by decide +kernel
set_option maxRecDepth 20000 in
theorem ggX0_askForByte_X0_has : GoodIn wsX0_askForByte wsX0_has := goodIn_r _ [7, 1, 8, 9, 10, 11, 12, 13, 14, 15, 16, 17, 18, 19] (by decide +kernel) (by decide +kernel)
set_option maxRecDepth 20000 in
theorem gX0_askForByte_X0_has : GoodIn wsX0_askForByte (wsV RX0 36 RX0 yX0_has wsX0_has) := goodIn_app (goodIn_of _ (by decide +kernel)) ggX0_askForByte_X0_has
theorem dX0_askForByte_0 : decode cX0_askForByte 0 = .ok (.aload_n 0, 1) := by decide +kernel
theorem dX0_askForByte_1 : decode cX0_askForByte 1 = .ok (.iconst 2, 1) := by decide +kernel
theorem dX0_askForByte_2 : decode cX0_askForByte 2 = .ok (.invokevirtual 36, 3) := by decide +kernel
theorem dX0_askForByte_5 : decode cX0_askForByte 5 = .ok (.ifCond .eq 15, 3) := by decide +kernel
theorem dX0_askForByte_8 : decode cX0_askForByte 8 = .ok (.aload_n 0, 1) := by decide +kernel
theorem dX0_askForByte_9 : decode cX0_askForByte 9 = .ok (.dup, 1) := by decide +kernel
theorem dX0_askForByte_10 : decode cX0_askForByte 10 = .ok (.getfield 30, 3) := by decide +kernel
theorem dX0_askForByte_13 : decode cX0_askForByte 13 = .ok (.iconst 4, 1) := by decide +kernel
theorem dX0_askForByte_14 : decode cX0_askForByte 14 = .ok (.ior, 1) := by decide +kernel
theorem dX0_askForByte_15 : decode cX0_askForByte 15 = .ok (.putfield 30, 3) := by decide +kernel
theorem dX0_askForByte_18 : decode cX0_askForByte 18 = .ok (.iconst 0, 1) := by decide +kernel
theorem dX0_askForByte_19 : decode cX0_askForByte 19 = .ok (.ireturn, 1) := by decide +kernel
theorem dX0_askForByte_20 : decode cX0_askForByte 20 = .ok (.aload_n 0, 1) := by decide +kernel
theorem dX0_askForByte_21 : decode cX0_askForByte 21 = .ok (.getfield 33, 3) := by decide +kernel
theorem dX0_askForByte_24 : decode cX0_askForByte 24 = .ok (.ireturn, 1) := by decide +kernel
end
section
theorem dX1_init_0 : decode cX1_init 0 = .ok (.aload_n 0, 1) := by decide +kernel
theorem dX1_init_1 : decode cX1_init 1 = .ok (.invokespecial 3, 3) := by decide +kernel
theorem dX1_init_4 : decode cX1_init 4 = .ok (.aload_n 0, 1) := by decide +kernel
theorem dX1_init_5 : decode cX1_init 5 = .ok (.sipush 600, 3) := by decide +kernel
theorem dX1_init_8 : decode cX1_init 8 = .ok (.newarray .int, 2) := by decide +kernel
theorem dX1_init_10 : decode cX1_init 10 = .ok (.putfield 9, 3) := by decide +kernel
theorem dX1_init_13 : decode cX1_init 13 = .ok (.return_, 1) := by decide +kernel
theorem dX1_wordAt_0 : decode cX1_wordAt 0 = .ok (.iload_n 1, 1) := by decide +kernel
theorem dX1_wordAt_1 : decode cX1_wordAt 1 = .ok (.ifCond .lt 19, 3) := by decide +kernel
theorem dX1_wordAt_4 : decode cX1_wordAt 4 = .ok (.iload_n 1, 1) := by decide +kernel
theorem dX1_wordAt_5 : decode cX1_wordAt 5 = .ok (.iconst 4, 1) := by decide +kernel
theorem dX1_wordAt_6 : decode cX1_wordAt 6 = .ok (.if_icmp .ge 14, 3) := by decide +kernel
theorem dX1_wordAt_9 : decode cX1_wordAt 9 = .ok (.iload_n 2, 1) := by decide +kernel
theorem dX1_wordAt_10 : decode cX1_wordAt 10 = .ok (.ifCond .lt 10, 3) := by decide +kernel
theorem dX1_wordAt_13 : decode cX1_wordAt 13 = .ok (.iload_n 2, 1) := by decide +kernel
theorem dX1_wordAt_14 : decode cX1_wordAt 14 = .ok (.sipush 150, 3) := by decide +kernel
theorem dX1_wordAt_17 : decode cX1_wordAt 17 = .ok (.if_icmp .lt 5, 3) := by decide +kernel
theorem dX1_wordAt_20 : decode cX1_wordAt 20 = .ok (.iconst (-1), 1) := by decide +kernel
theorem dX1_wordAt_21 : decode cX1_wordAt 21 = .ok (.ireturn, 1) := by decide +kernel
theorem dX1_wordAt_22 : decode cX1_wordAt 22 = .ok (.aload_n 0, 1) := by decide +kernel
theorem dX1_wordAt_23 : decode cX1_wordAt 23 = .ok (.getfield 9, 3) := by decide +kernel
theorem dX1_wordAt_26 : decode cX1_wordAt 26 = .ok (.iload_n 1, 1) := by decide +kernel
theorem dX1_wordAt_27 : decode cX1_wordAt 27 = .ok (.sipush 150, 3) := by decide +kernel
theorem dX1_wordAt_30 : decode cX1_wordAt 30 = .ok (.imul, 1) := by decide +kernel
theorem dX1_wordAt_31 : decode cX1_wordAt 31 = .ok (.iload_n 2, 1) := by decide +kernel
theorem dX1_wordAt_32 : decode cX1_wordAt 32 = .ok (.iadd, 1) := by decide +kernel
theorem dX1_wordAt_33 : decode cX1_wordAt 33 = .ok (.iaload, 1) := by decide +kernel
theorem dX1_wordAt_34 : decode cX1_wordAt 34 = .ok (.ireturn, 1) := by decide +kernel
theorem dX1_turnOver_0 : decode cX1_turnOver 0 = .ok (.iload_n 1, 1) := by decide +kernel
theorem dX1_turnOver_1 : decode cX1_turnOver 1 = .ok (.ifCond .lt 19, 3) := by decide +kernel
theorem dX1_turnOver_4 : decode cX1_turnOver 4 = .ok (.iload_n 1, 1) := by decide +kernel
theorem dX1_turnOver_5 : decode cX1_turnOver 5 = .ok (.iconst 4, 1) := by decide +kernel
theorem dX1_turnOver_6 : decode cX1_turnOver 6 = .ok (.if_icmp .ge 14, 3) := by decide +kernel
theorem dX1_turnOver_9 : decode cX1_turnOver 9 = .ok (.iload_n 2, 1) := by decide +kernel
theorem dX1_turnOver_10 : decode cX1_turnOver 10 = .ok (.ifCond .lt 10, 3) := by decide +kernel
theorem dX1_turnOver_13 : decode cX1_turnOver 13 = .ok (.iload_n 2, 1) := by decide +kernel
theorem dX1_turnOver_14 : decode cX1_turnOver 14 = .ok (.sipush 2400, 3) := by decide +kernel
theorem dX1_turnOver_17 : decode cX1_turnOver 17 = .ok (.if_icmp .lt 5, 3) := by decide +kernel
theorem dX1_turnOver_20 : decode cX1_turnOver 20 = .ok (.iconst 0, 1) := by decide +kernel
theorem dX1_turnOver_21 : decode cX1_turnOver 21 = .ok (.ireturn, 1) := by decide +kernel
theorem dX1_turnOver_22 : decode cX1_turnOver 22 = .ok (.aload_n 0, 1) := by decide +kernel
theorem dX1_turnOver_23 : decode cX1_turnOver 23 = .ok (.getfield 9, 3) := by decide +kernel
theorem dX1_turnOver_26 : decode cX1_turnOver 26 = .ok (.iload_n 1, 1) := by decide +kernel
theorem dX1_turnOver_27 : decode cX1_turnOver 27 = .ok (.sipush 150, 3) := by decide +kernel
theorem dX1_turnOver_30 : decode cX1_turnOver 30 = .ok (.imul, 1) := by decide +kernel
theorem dX1_turnOver_31 : decode cX1_turnOver 31 = .ok (.iload_n 2, 1) := by decide +kernel
theorem dX1_turnOver_32 : decode cX1_turnOver 32 = .ok (.iconst 4, 1) := by decide +kernel
theorem dX1_turnOver_33 : decode cX1_turnOver 33 = .ok (.ishr, 1) := by decide +kernel
theorem dX1_turnOver_34 : decode cX1_turnOver 34 = .ok (.iadd, 1) := by decide +kernel
theorem dX1_turnOver_35 : decode cX1_turnOver 35 = .ok (.dup2, 1) := by decide +kernel
theorem dX1_turnOver_36 : decode cX1_turnOver 36 = .ok (.iaload, 1) := by decide +kernel
theorem dX1_turnOver_37 : decode cX1_turnOver 37 = .ok (.ldc 15, 2) := by decide +kernel
theorem dX1_turnOver_39 : decode cX1_turnOver 39 = .ok (.iload_n 2, 1) := by decide +kernel
theorem dX1_turnOver_40 : decode cX1_turnOver 40 = .ok (.bipush 15, 2) := by decide +kernel
theorem dX1_turnOver_42 : decode cX1_turnOver 42 = .ok (.iand, 1) := by decide +kernel
theorem dX1_turnOver_43 : decode cX1_turnOver 43 = .ok (.ishr, 1) := by decide +kernel
theorem dX1_turnOver_44 : decode cX1_turnOver 44 = .ok (.ixor, 1) := by decide +kernel
theorem dX1_turnOver_45 : decode cX1_turnOver 45 = .ok (.iastore, 1) := by decide +kernel
theorem dX1_turnOver_46 : decode cX1_turnOver 46 = .ok (.iconst 1, 1) := by decide +kernel
theorem dX1_turnOver_47 : decode cX1_turnOver 47 = .ok (.ireturn, 1) := by decide +kernel
set_option maxRecDepth 20000 in
theorem ggX1_cellUnderHead_X1_wordAt : GoodIn wsX1_cellUnderHead wsX1_wordAt := goodIn_r _ [7, 8, 9, 10, 11, 12] (by decide +kernel) (by decide +kernel)
set_option maxRecDepth 20000 in
theorem gX1_cellUnderHead_X1_wordAt : GoodIn wsX1_cellUnderHead (wsV RX1 23 RX1 yX1_wordAt wsX1_wordAt) := goodIn_app (goodIn_of _ (by decide +kernel)) ggX1_cellUnderHead_X1_wordAt
theorem dX1_cellUnderHead_0 : decode cX1_cellUnderHead 0 = .ok (.aload_n 0, 1) := by decide +kernel
theorem dX1_cellUnderHead_1 : decode cX1_cellUnderHead 1 = .ok (.aload_n 0, 1) := by decide +kernel
theorem dX1_cellUnderHead_2 : decode cX1_cellUnderHead 2 = .ok (.getfield 16, 3) := by decide +kernel
theorem dX1_cellUnderHead_5 : decode cX1_cellUnderHead 5 = .ok (.aload_n 0, 1) := by decide +kernel
theorem dX1_cellUnderHead_6 : decode cX1_cellUnderHead 6 = .ok (.getfield 20, 3) := by decide +kernel
theorem dX1_cellUnderHead_9 : decode cX1_cellUnderHead 9 = .ok (.iconst 4, 1) := by decide +kernel
theorem dX1_cellUnderHead_10 : decode cX1_cellUnderHead 10 = .ok (.ishr, 1) := by decide +kernel
theorem dX1_cellUnderHead_11 : decode cX1_cellUnderHead 11 = .ok (.invokevirtual 23, 3) := by decide +kernel
theorem dX1_cellUnderHead_14 : decode cX1_cellUnderHead 14 = .ok (.bipush 15, 2) := by decide +kernel
theorem dX1_cellUnderHead_16 : decode cX1_cellUnderHead 16 = .ok (.aload_n 0, 1) := by decide +kernel
theorem dX1_cellUnderHead_17 : decode cX1_cellUnderHead 17 = .ok (.getfield 20, 3) := by decide +kernel
theorem dX1_cellUnderHead_20 : decode cX1_cellUnderHead 20 = .ok (.bipush 15, 2) := by decide +kernel
theorem dX1_cellUnderHead_22 : decode cX1_cellUnderHead 22 = .ok (.iand, 1) := by decide +kernel
theorem dX1_cellUnderHead_23 : decode cX1_cellUnderHead 23 = .ok (.isub, 1) := by decide +kernel
theorem dX1_cellUnderHead_24 : decode cX1_cellUnderHead 24 = .ok (.ishr, 1) := by decide +kernel
theorem dX1_cellUnderHead_25 : decode cX1_cellUnderHead 25 = .ok (.iconst 1, 1) := by decide +kernel
theorem dX1_cellUnderHead_26 : decode cX1_cellUnderHead 26 = .ok (.iand, 1) := by decide +kernel
theorem dX1_cellUnderHead_27 : decode cX1_cellUnderHead 27 = .ok (.ireturn, 1) := by decide +kernel
set_option maxRecDepth 20000 in
theorem ggX1_writeUnderHead_X1_cellUnderHead : GoodIn wsX1_writeUnderHead wsX1_cellUnderHead := goodIn_r _ [7, 1, 2, 8, 9, 10, 6, 11, 12, 18, 19, 20, 21] (by decide +kernel) (by decide +kernel)
set_option maxRecDepth 20000 in
theorem gX1_writeUnderHead_X1_cellUnderHead : GoodIn wsX1_writeUnderHead (wsV RX1 27 RX1 yX1_cellUnderHead wsX1_cellUnderHead) := goodIn_app (goodIn_of _ (by decide +kernel)) ggX1_writeUnderHead_X1_cellUnderHead
set_option maxRecDepth 20000 in
theorem ggX1_writeUnderHead_X1_turnOver : GoodIn wsX1_writeUnderHead wsX1_turnOver := goodIn_r _ [16, 12, 17, 18, 19, 20, 21] (by decide +kernel) (by decide +kernel)
set_option maxRecDepth 20000 in
theorem gX1_writeUnderHead_X1_turnOver : GoodIn wsX1_writeUnderHead (wsV RX1 31 RX1 yX1_turnOver wsX1_turnOver) := goodIn_app (goodIn_of _ (by decide +kernel)) ggX1_writeUnderHead_X1_turnOver
theorem dX1_writeUnderHead_0 : decode cX1_writeUnderHead 0 = .ok (.aload_n 0, 1) := by decide +kernel
theorem dX1_writeUnderHead_1 : decode cX1_writeUnderHead 1 = .ok (.invokevirtual 27, 3) := by decide +kernel
theorem dX1_writeUnderHead_4 : decode cX1_writeUnderHead 4 = .ok (.iload_n 1, 1) := by decide +kernel
theorem dX1_writeUnderHead_5 : decode cX1_writeUnderHead 5 = .ok (.if_icmp .eq 16, 3) := by decide +kernel
theorem dX1_writeUnderHead_8 : decode cX1_writeUnderHead 8 = .ok (.aload_n 0, 1) := by decide +kernel
theorem dX1_writeUnderHead_9 : decode cX1_writeUnderHead 9 = .ok (.aload_n 0, 1) := by decide +kernel
theorem dX1_writeUnderHead_10 : decode cX1_writeUnderHead 10 = .ok (.getfield 16, 3) := by decide +kernel
theorem dX1_writeUnderHead_13 : decode cX1_writeUnderHead 13 = .ok (.aload_n 0, 1) := by decide +kernel
theorem dX1_writeUnderHead_14 : decode cX1_writeUnderHead 14 = .ok (.getfield 20, 3) := by decide +kernel
theorem dX1_writeUnderHead_17 : decode cX1_writeUnderHead 17 = .ok (.invokevirtual 31, 3) := by decide +kernel
theorem dX1_writeUnderHead_20 : decode cX1_writeUnderHead 20 = .ok (.pop, 1) := by decide +kernel
theorem dX1_writeUnderHead_21 : decode cX1_writeUnderHead 21 = .ok (.return_, 1) := by decide +kernel
theorem dX1_turnByOneCell_0 : decode cX1_turnByOneCell 0 = .ok (.aload_n 0, 1) := by decide +kernel
theorem dX1_turnByOneCell_1 : decode cX1_turnByOneCell 1 = .ok (.dup, 1) := by decide +kernel
theorem dX1_turnByOneCell_2 : decode cX1_turnByOneCell 2 = .ok (.getfield 20, 3) := by decide +kernel
theorem dX1_turnByOneCell_5 : decode cX1_turnByOneCell 5 = .ok (.iconst 1, 1) := by decide +kernel
theorem dX1_turnByOneCell_6 : decode cX1_turnByOneCell 6 = .ok (.iadd, 1) := by decide +kernel
theorem dX1_turnByOneCell_7 : decode cX1_turnByOneCell 7 = .ok (.putfield 20, 3) := by decide +kernel
theorem dX1_turnByOneCell_10 : decode cX1_turnByOneCell 10 = .ok (.aload_n 0, 1) := by decide +kernel
theorem dX1_turnByOneCell_11 : decode cX1_turnByOneCell 11 = .ok (.getfield 20, 3) := by decide +kernel
theorem dX1_turnByOneCell_14 : decode cX1_turnByOneCell 14 = .ok (.sipush 2400, 3) := by decide +kernel
theorem dX1_turnByOneCell_17 : decode cX1_turnByOneCell 17 = .ok (.if_icmp .ge 5, 3) := by decide +kernel
theorem dX1_turnByOneCell_20 : decode cX1_turnByOneCell 20 = .ok (.iconst 0, 1) := by decide +kernel
theorem dX1_turnByOneCell_21 : decode cX1_turnByOneCell 21 = .ok (.ireturn, 1) := by decide +kernel
theorem dX1_turnByOneCell_22 : decode cX1_turnByOneCell 22 = .ok (.aload_n 0, 1) := by decide +kernel
theorem dX1_turnByOneCell_23 : decode cX1_turnByOneCell 23 = .ok (.iconst 0, 1) := by decide +kernel
theorem dX1_turnByOneCell_24 : decode cX1_turnByOneCell 24 = .ok (.putfield 20, 3) := by decide +kernel
theorem dX1_turnByOneCell_27 : decode cX1_turnByOneCell 27 = .ok (.iconst 1, 1) := by decide +kernel
theorem dX1_turnByOneCell_28 : decode cX1_turnByOneCell 28 = .ok (.ireturn, 1) := by decide +kernel
theorem dX1_moveHead_0 : decode cX1_moveHead 0 = .ok (.aload_n 0, 1) := by decide +kernel
theorem dX1_moveHead_1 : decode cX1_moveHead 1 = .ok (.getfield 16, 3) := by decide +kernel
theorem dX1_moveHead_4 : decode cX1_moveHead 4 = .ok (.iload_n 1, 1) := by decide +kernel
theorem dX1_moveHead_5 : decode cX1_moveHead 5 = .ok (.iadd, 1) := by decide +kernel
theorem dX1_moveHead_6 : decode cX1_moveHead 6 = .ok (.istore_n 2, 1) := by decide +kernel
theorem dX1_moveHead_7 : decode cX1_moveHead 7 = .ok (.iload_n 2, 1) := by decide +kernel
theorem dX1_moveHead_8 : decode cX1_moveHead 8 = .ok (.ifCond .lt 13, 3) := by decide +kernel
theorem dX1_moveHead_11 : decode cX1_moveHead 11 = .ok (.iload_n 2, 1) := by decide +kernel
theorem dX1_moveHead_12 : decode cX1_moveHead 12 = .ok (.iconst 4, 1) := by decide +kernel
theorem dX1_moveHead_13 : decode cX1_moveHead 13 = .ok (.if_icmp .ge 8, 3) := by decide +kernel
theorem dX1_moveHead_16 : decode cX1_moveHead 16 = .ok (.aload_n 0, 1) := by decide +kernel
theorem dX1_moveHead_17 : decode cX1_moveHead 17 = .ok (.iload_n 2, 1) := by decide +kernel
theorem dX1_moveHead_18 : decode cX1_moveHead 18 = .ok (.putfield 16, 3) := by decide +kernel
theorem dX1_moveHead_21 : decode cX1_moveHead 21 = .ok (.return_, 1) := by decide +kernel
theorem dX2_init_0 : decode cX2_init 0 = .ok (.aload_n 0, 1) := by decide +kernel
theorem dX2_init_1 : decode cX2_init 1 = .ok (.invokespecial 3, 3) := by decide +kernel
theorem dX2_init_4 : decode cX2_init 4 = .ok (.aload_n 0, 1) := by decide +kernel
theorem dX2_init_5 : decode cX2_init 5 = .ok (.bipush 16, 2) := by decide +kernel
theorem dX2_init_7 : decode cX2_init 7 = .ok (.putfield 11, 3) := by decide +kernel
theorem dX2_init_10 : decode cX2_init 10 = .ok (.return_, 1) := by decide +kernel
theorem dX2_reset_0 : decode cX2_reset 0 = .ok (.aload_n 0, 1) := by decide +kernel
theorem dX2_reset_1 : decode cX2_reset 1 = .ok (.iconst 0, 1) := by decide +kernel
theorem dX2_reset_2 : decode cX2_reset 2 = .ok (.putfield 15, 3) := by decide +kernel
theorem dX2_reset_5 : decode cX2_reset 5 = .ok (.aload_n 0, 1) := by decide +kernel
theorem dX2_reset_6 : decode cX2_reset 6 = .ok (.iconst 0, 1) := by decide +kernel
theorem dX2_reset_7 : decode cX2_reset 7 = .ok (.putfield 19, 3) := by decide +kernel
theorem dX2_reset_10 : decode cX2_reset 10 = .ok (.aload_n 0, 1) := by decide +kernel
theorem dX2_reset_11 : decode cX2_reset 11 = .ok (.iconst 0, 1) := by decide +kernel
theorem dX2_reset_12 : decode cX2_reset 12 = .ok (.putfield 22, 3) := by decide +kernel
theorem dX2_reset_15 : decode cX2_reset 15 = .ok (.return_, 1) := by decide +kernel
theorem dX2_forgetDataSize_0 : decode cX2_forgetDataSize 0 = .ok (.aload_n 0, 1) := by decide +kernel
theorem dX2_forgetDataSize_1 : decode cX2_forgetDataSize 1 = .ok (.bipush 16, 2) := by decide +kernel
theorem dX2_forgetDataSize_3 : decode cX2_forgetDataSize 3 = .ok (.putfield 11, 3) := by decide +kernel
theorem dX2_forgetDataSize_6 : decode cX2_forgetDataSize 6 = .ok (.return_, 1) := by decide +kernel
theorem dX2_forgetWindow_0 : decode cX2_forgetWindow 0 = .ok (.aload_n 0, 1) := by decide +kernel
theorem dX2_forgetWindow_1 : decode cX2_forgetWindow 1 = .ok (.iconst 0, 1) := by decide +kernel
theorem dX2_forgetWindow_2 : decode cX2_forgetWindow 2 = .ok (.putfield 25, 3) := by decide +kernel
theorem dX2_forgetWindow_5 : decode cX2_forgetWindow 5 = .ok (.return_, 1) := by decide +kernel
set_option maxRecDepth 20000 in
theorem ggX2_readCell_X2_byteInWindow : GoodIn wsX2_readCell wsX2_byteInWindow := goodIn_r _ [12, 1, 42, 43, 44, 45, 46, 47, 48, 49, 50, 51, 52, 53, 54, 55] (by decide +kernel) (by decide +kernel)
set_option maxRecDepth 20000 in
theorem gX2_readCell_X2_byteInWindow : GoodIn wsX2_readCell (wsV RX2 32 RX2 yX2_byteInWindow wsX2_byteInWindow) := goodIn_app (goodIn_of _ (by decide +kernel)) ggX2_readCell_X2_byteInWindow
set_option maxRecDepth 20000 in
theorem ggX2_readCell_X2_beginField : GoodIn wsX2_readCell wsX2_beginField := goodIn_r _ [16, 5, 7, 4, 3, 17, 18, 19, 2, 20, 21, 22, 23, 24, 25, 42, 43, 44, 45, 46, 47, 48, 49, 50, 51, 52, 53, 54, 55] (by decide +kernel) (by decide +kernel)
set_option maxRecDepth 20000 in
theorem gX2_readCell_X2_beginField : GoodIn wsX2_readCell (wsV RX2 39 RX2 yX2_beginField wsX2_beginField) := goodIn_app (goodIn_of _ (by decide +kernel)) ggX2_readCell_X2_beginField
set_option maxRecDepth 20000 in
theorem ggX2_readCell_X2_addToField : GoodIn wsX2_readCell wsX2_addToField := goodIn_r _ [29, 20, 7, 4, 19, 30, 31, 3, 21, 22, 23, 24, 25, 32, 33, 34, 11, 35, 36, 37, 38, 39, 40, 41, 42, 43, 44, 45, 46, 47, 48, 49, 50, 51, 52, 53, 54, 55] (by decide +kernel) (by decide +kernel)
set_option maxRecDepth 20000 in
theorem gX2_readCell_X2_addToField : GoodIn wsX2_readCell (wsV RX2 42 RX2 yX2_addToField wsX2_addToField) := goodIn_app (goodIn_of _ (by decide +kernel)) ggX2_readCell_X2_addToField
theorem dX2_readCell_0 : decode cX2_readCell 0 = .ok (.aload_n 0, 1) := by decide +kernel
theorem dX2_readCell_1 : decode cX2_readCell 1 = .ok (.aload_n 0, 1) := by decide +kernel
theorem dX2_readCell_2 : decode cX2_readCell 2 = .ok (.getfield 25, 3) := by decide +kernel
theorem dX2_readCell_5 : decode cX2_readCell 5 = .ok (.iconst 1, 1) := by decide +kernel
theorem dX2_readCell_6 : decode cX2_readCell 6 = .ok (.ishl, 1) := by decide +kernel
theorem dX2_readCell_7 : decode cX2_readCell 7 = .ok (.iload_n 1, 1) := by decide +kernel
theorem dX2_readCell_8 : decode cX2_readCell 8 = .ok (.ior, 1) := by decide +kernel
theorem dX2_readCell_9 : decode cX2_readCell 9 = .ok (.ldc 28, 2) := by decide +kernel
theorem dX2_readCell_11 : decode cX2_readCell 11 = .ok (.iand, 1) := by decide +kernel
theorem dX2_readCell_12 : decode cX2_readCell 12 = .ok (.putfield 25, 3) := by decide +kernel
theorem dX2_readCell_15 : decode cX2_readCell 15 = .ok (.aload_n 0, 1) := by decide +kernel
theorem dX2_readCell_16 : decode cX2_readCell 16 = .ok (.getfield 25, 3) := by decide +kernel
theorem dX2_readCell_19 : decode cX2_readCell 19 = .ok (.sipush 17545, 3) := by decide +kernel
theorem dX2_readCell_22 : decode cX2_readCell 22 = .ok (.if_icmp .ne 39, 3) := by decide +kernel
theorem dX2_readCell_25 : decode cX2_readCell 25 = .ok (.aload_n 0, 1) := by decide +kernel
theorem dX2_readCell_26 : decode cX2_readCell 26 = .ok (.getfield 15, 3) := by decide +kernel
theorem dX2_readCell_29 : decode cX2_readCell 29 = .ok (.ifCond .eq 10, 3) := by decide +kernel
theorem dX2_readCell_32 : decode cX2_readCell 32 = .ok (.aload_n 0, 1) := by decide +kernel
theorem dX2_readCell_33 : decode cX2_readCell 33 = .ok (.getfield 22, 3) := by decide +kernel
theorem dX2_readCell_36 : decode cX2_readCell 36 = .ok (.ifCond .ne 25, 3) := by decide +kernel
theorem dX2_readCell_39 : decode cX2_readCell 39 = .ok (.aload_n 0, 1) := by decide +kernel
theorem dX2_readCell_40 : decode cX2_readCell 40 = .ok (.iconst 1, 1) := by decide +kernel
theorem dX2_readCell_41 : decode cX2_readCell 41 = .ok (.putfield 15, 3) := by decide +kernel
theorem dX2_readCell_44 : decode cX2_readCell 44 = .ok (.aload_n 0, 1) := by decide +kernel
theorem dX2_readCell_45 : decode cX2_readCell 45 = .ok (.dup, 1) := by decide +kernel
theorem dX2_readCell_46 : decode cX2_readCell 46 = .ok (.getfield 19, 3) := by decide +kernel
theorem dX2_readCell_49 : decode cX2_readCell 49 = .ok (.iconst 1, 1) := by decide +kernel
theorem dX2_readCell_50 : decode cX2_readCell 50 = .ok (.iadd, 1) := by decide +kernel
theorem dX2_readCell_51 : decode cX2_readCell 51 = .ok (.putfield 19, 3) := by decide +kernel
theorem dX2_readCell_54 : decode cX2_readCell 54 = .ok (.aload_n 0, 1) := by decide +kernel
theorem dX2_readCell_55 : decode cX2_readCell 55 = .ok (.iconst 0, 1) := by decide +kernel
theorem dX2_readCell_56 : decode cX2_readCell 56 = .ok (.putfield 29, 3) := by decide +kernel
theorem dX2_readCell_59 : decode cX2_readCell 59 = .ok (.iconst 0, 1) := by decide +kernel
theorem dX2_readCell_60 : decode cX2_readCell 60 = .ok (.ireturn, 1) := by decide +kernel
theorem dX2_readCell_61 : decode cX2_readCell 61 = .ok (.aload_n 0, 1) := by decide +kernel
theorem dX2_readCell_62 : decode cX2_readCell 62 = .ok (.getfield 15, 3) := by decide +kernel
theorem dX2_readCell_65 : decode cX2_readCell 65 = .ok (.ifCond .ne 5, 3) := by decide +kernel
theorem dX2_readCell_68 : decode cX2_readCell 68 = .ok (.iconst 0, 1) := by decide +kernel
theorem dX2_readCell_69 : decode cX2_readCell 69 = .ok (.ireturn, 1) := by decide +kernel
theorem dX2_readCell_70 : decode cX2_readCell 70 = .ok (.aload_n 0, 1) := by decide +kernel
theorem dX2_readCell_71 : decode cX2_readCell 71 = .ok (.dup, 1) := by decide +kernel
theorem dX2_readCell_72 : decode cX2_readCell 72 = .ok (.getfield 29, 3) := by decide +kernel
theorem dX2_readCell_75 : decode cX2_readCell 75 = .ok (.iconst 1, 1) := by decide +kernel
theorem dX2_readCell_76 : decode cX2_readCell 76 = .ok (.iadd, 1) := by decide +kernel
theorem dX2_readCell_77 : decode cX2_readCell 77 = .ok (.putfield 29, 3) := by decide +kernel
theorem dX2_readCell_80 : decode cX2_readCell 80 = .ok (.aload_n 0, 1) := by decide +kernel
theorem dX2_readCell_81 : decode cX2_readCell 81 = .ok (.getfield 29, 3) := by decide +kernel
theorem dX2_readCell_84 : decode cX2_readCell 84 = .ok (.bipush 16, 2) := by decide +kernel
theorem dX2_readCell_86 : decode cX2_readCell 86 = .ok (.if_icmp .ge 5, 3) := by decide +kernel
theorem dX2_readCell_89 : decode cX2_readCell 89 = .ok (.iconst 0, 1) := by decide +kernel
theorem dX2_readCell_90 : decode cX2_readCell 90 = .ok (.ireturn, 1) := by decide +kernel
theorem dX2_readCell_91 : decode cX2_readCell 91 = .ok (.aload_n 0, 1) := by decide +kernel
theorem dX2_readCell_92 : decode cX2_readCell 92 = .ok (.iconst 0, 1) := by decide +kernel
theorem dX2_readCell_93 : decode cX2_readCell 93 = .ok (.putfield 29, 3) := by decide +kernel
theorem dX2_readCell_96 : decode cX2_readCell 96 = .ok (.aload_n 0, 1) := by decide +kernel
theorem dX2_readCell_97 : decode cX2_readCell 97 = .ok (.aload_n 0, 1) := by decide +kernel
theorem dX2_readCell_98 : decode cX2_readCell 98 = .ok (.invokevirtual 32, 3) := by decide +kernel
theorem dX2_readCell_101 : decode cX2_readCell 101 = .ok (.putfield 36, 3) := by decide +kernel
theorem dX2_readCell_104 : decode cX2_readCell 104 = .ok (.aload_n 0, 1) := by decide +kernel
theorem dX2_readCell_105 : decode cX2_readCell 105 = .ok (.getfield 22, 3) := by decide +kernel
theorem dX2_readCell_108 : decode cX2_readCell 108 = .ok (.ifCond .ne 10, 3) := by decide +kernel
theorem dX2_readCell_111 : decode cX2_readCell 111 = .ok (.aload_n 0, 1) := by decide +kernel
theorem dX2_readCell_112 : decode cX2_readCell 112 = .ok (.invokevirtual 39, 3) := by decide +kernel
theorem dX2_readCell_115 : decode cX2_readCell 115 = .ok (.goto 7, 3) := by decide +kernel
theorem dX2_readCell_118 : decode cX2_readCell 118 = .ok (.aload_n 0, 1) := by decide +kernel
theorem dX2_readCell_119 : decode cX2_readCell 119 = .ok (.invokevirtual 42, 3) := by decide +kernel
theorem dX2_readCell_122 : decode cX2_readCell 122 = .ok (.ireturn, 1) := by decide +kernel
theorem dX2_byteInWindow_0 : decode cX2_byteInWindow 0 = .ok (.iconst 0, 1) := by decide +kernel
theorem dX2_byteInWindow_1 : decode cX2_byteInWindow 1 = .ok (.istore_n 1, 1) := by decide +kernel
theorem dX2_byteInWindow_2 : decode cX2_byteInWindow 2 = .ok (.bipush 14, 2) := by decide +kernel
theorem dX2_byteInWindow_4 : decode cX2_byteInWindow 4 = .ok (.istore_n 2, 1) := by decide +kernel
theorem dX2_byteInWindow_5 : decode cX2_byteInWindow 5 = .ok (.iload_n 2, 1) := by decide +kernel
theorem dX2_byteInWindow_6 : decode cX2_byteInWindow 6 = .ok (.ifCond .lt 22, 3) := by decide +kernel
theorem dX2_byteInWindow_9 : decode cX2_byteInWindow 9 = .ok (.iload_n 1, 1) := by decide +kernel
theorem dX2_byteInWindow_10 : decode cX2_byteInWindow 10 = .ok (.iconst 1, 1) := by decide +kernel
theorem dX2_byteInWindow_11 : decode cX2_byteInWindow 11 = .ok (.ishl, 1) := by decide +kernel
theorem dX2_byteInWindow_12 : decode cX2_byteInWindow 12 = .ok (.aload_n 0, 1) := by decide +kernel
theorem dX2_byteInWindow_13 : decode cX2_byteInWindow 13 = .ok (.getfield 25, 3) := by decide +kernel
theorem dX2_byteInWindow_16 : decode cX2_byteInWindow 16 = .ok (.iload_n 2, 1) := by decide +kernel
theorem dX2_byteInWindow_17 : decode cX2_byteInWindow 17 = .ok (.ishr, 1) := by decide +kernel
theorem dX2_byteInWindow_18 : decode cX2_byteInWindow 18 = .ok (.iconst 1, 1) := by decide +kernel
theorem dX2_byteInWindow_19 : decode cX2_byteInWindow 19 = .ok (.iand, 1) := by decide +kernel
theorem dX2_byteInWindow_20 : decode cX2_byteInWindow 20 = .ok (.ior, 1) := by decide +kernel
theorem dX2_byteInWindow_21 : decode cX2_byteInWindow 21 = .ok (.istore_n 1, 1) := by decide +kernel
theorem dX2_byteInWindow_22 : decode cX2_byteInWindow 22 = .ok (.iinc 2 (-2), 3) := by decide +kernel
theorem dX2_byteInWindow_25 : decode cX2_byteInWindow 25 = .ok (.goto (-20), 3) := by decide +kernel
theorem dX2_byteInWindow_28 : decode cX2_byteInWindow 28 = .ok (.iload_n 1, 1) := by decide +kernel
theorem dX2_byteInWindow_29 : decode cX2_byteInWindow 29 = .ok (.ireturn, 1) := by decide +kernel
set_option maxRecDepth 20000 in
theorem ggX2_beginField_X5_checkWith : GoodIn wsX2_beginField wsX5_checkWith := goodIn_r _ [12, 13, 14] (by decide +kernel) (by decide +kernel)
set_option maxRecDepth 20000 in
theorem gX2_beginField_X5_checkWith_n57 : GoodIn wsX2_beginField (wsX5_checkWith) := ggX2_beginField_X5_checkWith
theorem dX2_beginField_0 : decode cX2_beginField 0 = .ok (.aload_n 0, 1) := by decide +kernel
theorem dX2_beginField_1 : decode cX2_beginField 1 = .ok (.getfield 19, 3) := by decide +kernel
theorem dX2_beginField_4 : decode cX2_beginField 4 = .ok (.iconst 3, 1) := by decide +kernel
theorem dX2_beginField_5 : decode cX2_beginField 5 = .ok (.if_icmp .lt 7, 3) := by decide +kernel
theorem dX2_beginField_8 : decode cX2_beginField 8 = .ok (.iconst 1, 1) := by decide +kernel
theorem dX2_beginField_9 : decode cX2_beginField 9 = .ok (.goto 4, 3) := by decide +kernel
theorem dX2_beginField_12 : decode cX2_beginField 12 = .ok (.iconst 0, 1) := by decide +kernel
theorem dX2_beginField_13 : decode cX2_beginField 13 = .ok (.istore_n 1, 1) := by decide +kernel
theorem dX2_beginField_14 : decode cX2_beginField 14 = .ok (.aload_n 0, 1) := by decide +kernel
theorem dX2_beginField_15 : decode cX2_beginField 15 = .ok (.iconst 0, 1) := by decide +kernel
theorem dX2_beginField_16 : decode cX2_beginField 16 = .ok (.putfield 19, 3) := by decide +kernel
theorem dX2_beginField_19 : decode cX2_beginField 19 = .ok (.iload_n 1, 1) := by decide +kernel
theorem dX2_beginField_20 : decode cX2_beginField 20 = .ok (.ifCond .eq 21, 3) := by decide +kernel
theorem dX2_beginField_23 : decode cX2_beginField 23 = .ok (.aload_n 0, 1) := by decide +kernel
theorem dX2_beginField_24 : decode cX2_beginField 24 = .ok (.getfield 36, 3) := by decide +kernel
theorem dX2_beginField_27 : decode cX2_beginField 27 = .ok (.sipush 254, 3) := by decide +kernel
theorem dX2_beginField_30 : decode cX2_beginField 30 = .ok (.if_icmp .ne 11, 3) := by decide +kernel
theorem dX2_beginField_33 : decode cX2_beginField 33 = .ok (.aload_n 0, 1) := by decide +kernel
theorem dX2_beginField_34 : decode cX2_beginField 34 = .ok (.iconst 1, 1) := by decide +kernel
theorem dX2_beginField_35 : decode cX2_beginField 35 = .ok (.putfield 22, 3) := by decide +kernel
theorem dX2_beginField_38 : decode cX2_beginField 38 = .ok (.goto 42, 3) := by decide +kernel
theorem dX2_beginField_41 : decode cX2_beginField 41 = .ok (.iload_n 1, 1) := by decide +kernel
theorem dX2_beginField_42 : decode cX2_beginField 42 = .ok (.ifCond .eq 31, 3) := by decide +kernel
theorem dX2_beginField_45 : decode cX2_beginField 45 = .ok (.aload_n 0, 1) := by decide +kernel
theorem dX2_beginField_46 : decode cX2_beginField 46 = .ok (.getfield 36, 3) := by decide +kernel
theorem dX2_beginField_49 : decode cX2_beginField 49 = .ok (.sipush 251, 3) := by decide +kernel
theorem dX2_beginField_52 : decode cX2_beginField 52 = .ok (.if_icmp .eq 13, 3) := by decide +kernel
theorem dX2_beginField_55 : decode cX2_beginField 55 = .ok (.aload_n 0, 1) := by decide +kernel
theorem dX2_beginField_56 : decode cX2_beginField 56 = .ok (.getfield 36, 3) := by decide +kernel
theorem dX2_beginField_59 : decode cX2_beginField 59 = .ok (.sipush 248, 3) := by decide +kernel
theorem dX2_beginField_62 : decode cX2_beginField 62 = .ok (.if_icmp .ne 11, 3) := by decide +kernel
theorem dX2_beginField_65 : decode cX2_beginField 65 = .ok (.aload_n 0, 1) := by decide +kernel
theorem dX2_beginField_66 : decode cX2_beginField 66 = .ok (.iconst 2, 1) := by decide +kernel
theorem dX2_beginField_67 : decode cX2_beginField 67 = .ok (.putfield 22, 3) := by decide +kernel
theorem dX2_beginField_70 : decode cX2_beginField 70 = .ok (.goto 10, 3) := by decide +kernel
theorem dX2_beginField_73 : decode cX2_beginField 73 = .ok (.aload_n 0, 1) := by decide +kernel
theorem dX2_beginField_74 : decode cX2_beginField 74 = .ok (.iconst 0, 1) := by decide +kernel
theorem dX2_beginField_75 : decode cX2_beginField 75 = .ok (.putfield 15, 3) := by decide +kernel
theorem dX2_beginField_78 : decode cX2_beginField 78 = .ok (.iconst 0, 1) := by decide +kernel
theorem dX2_beginField_79 : decode cX2_beginField 79 = .ok (.ireturn, 1) := by decide +kernel
theorem dX2_beginField_80 : decode cX2_beginField 80 = .ok (.aload_n 0, 1) := by decide +kernel
theorem dX2_beginField_81 : decode cX2_beginField 81 = .ok (.aload_n 0, 1) := by decide +kernel
theorem dX2_beginField_82 : decode cX2_beginField 82 = .ok (.getfield 22, 3) := by decide +kernel
theorem dX2_beginField_85 : decode cX2_beginField 85 = .ok (.putfield 45, 3) := by decide +kernel
theorem dX2_beginField_88 : decode cX2_beginField 88 = .ok (.aload_n 0, 1) := by decide +kernel
theorem dX2_beginField_89 : decode cX2_beginField 89 = .ok (.aload_n 0, 1) := by decide +kernel
theorem dX2_beginField_90 : decode cX2_beginField 90 = .ok (.getfield 36, 3) := by decide +kernel
theorem dX2_beginField_93 : decode cX2_beginField 93 = .ok (.putfield 48, 3) := by decide +kernel
theorem dX2_beginField_96 : decode cX2_beginField 96 = .ok (.aload_n 0, 1) := by decide +kernel
theorem dX2_beginField_97 : decode cX2_beginField 97 = .ok (.iconst 0, 1) := by decide +kernel
theorem dX2_beginField_98 : decode cX2_beginField 98 = .ok (.putfield 51, 3) := by decide +kernel
theorem dX2_beginField_101 : decode cX2_beginField 101 = .ok (.aload_n 0, 1) := by decide +kernel
theorem dX2_beginField_102 : decode cX2_beginField 102 = .ok (.ldc 28, 2) := by decide +kernel
theorem dX2_beginField_104 : decode cX2_beginField 104 = .ok (.putfield 54, 3) := by decide +kernel
theorem dX2_beginField_107 : decode cX2_beginField 107 = .ok (.iconst 0, 1) := by decide +kernel
theorem dX2_beginField_108 : decode cX2_beginField 108 = .ok (.istore_n 2, 1) := by decide +kernel
theorem dX2_beginField_109 : decode cX2_beginField 109 = .ok (.iload_n 2, 1) := by decide +kernel
theorem dX2_beginField_110 : decode cX2_beginField 110 = .ok (.iconst 3, 1) := by decide +kernel
theorem dX2_beginField_111 : decode cX2_beginField 111 = .ok (.if_icmp .ge 23, 3) := by decide +kernel
theorem dX2_beginField_114 : decode cX2_beginField 114 = .ok (.aload_n 0, 1) := by decide +kernel
theorem dX2_beginField_115 : decode cX2_beginField 115 = .ok (.aload_n 0, 1) := by decide +kernel
theorem dX2_beginField_116 : decode cX2_beginField 116 = .ok (.getfield 54, 3) := by decide +kernel
theorem dX2_beginField_119 : decode cX2_beginField 119 = .ok (.sipush 161, 3) := by decide +kernel
theorem dX2_beginField_122 : decode cX2_beginField 122 = .ok (.invokestatic 57, 3) := by decide +kernel
theorem dX2_beginField_125 : decode cX2_beginField 125 = .ok (.putfield 54, 3) := by decide +kernel
theorem dX2_beginField_128 : decode cX2_beginField 128 = .ok (.iinc 2 1, 3) := by decide +kernel
theorem dX2_beginField_131 : decode cX2_beginField 131 = .ok (.goto (-22), 3) := by decide +kernel
theorem dX2_beginField_134 : decode cX2_beginField 134 = .ok (.aload_n 0, 1) := by decide +kernel
theorem dX2_beginField_135 : decode cX2_beginField 135 = .ok (.aload_n 0, 1) := by decide +kernel
theorem dX2_beginField_136 : decode cX2_beginField 136 = .ok (.getfield 54, 3) := by decide +kernel
theorem dX2_beginField_139 : decode cX2_beginField 139 = .ok (.aload_n 0, 1) := by decide +kernel
theorem dX2_beginField_140 : decode cX2_beginField 140 = .ok (.getfield 48, 3) := by decide +kernel
theorem dX2_beginField_143 : decode cX2_beginField 143 = .ok (.invokestatic 57, 3) := by decide +kernel
theorem dX2_beginField_146 : decode cX2_beginField 146 = .ok (.putfield 54, 3) := by decide +kernel
theorem dX2_beginField_149 : decode cX2_beginField 149 = .ok (.iconst 1, 1) := by decide +kernel
theorem dX2_beginField_150 : decode cX2_beginField 150 = .ok (.ireturn, 1) := by decide +kernel
set_option maxRecDepth 20000 in
theorem ggX2_addToField_X5_checkWith : GoodIn wsX2_addToField wsX5_checkWith := goodIn_r _ [10, 11, 12] (by decide +kernel) (by decide +kernel)
set_option maxRecDepth 20000 in
theorem gX2_addToField_X5_checkWith_n57 : GoodIn wsX2_addToField (wsX5_checkWith) := ggX2_addToField_X5_checkWith
set_option maxRecDepth 20000 in
theorem ggX2_addToField_X2_keepIdByte : GoodIn wsX2_addToField wsX2_keepIdByte := goodIn_r _ [17, 4, 2, 18, 19, 6, 24, 25, 26, 27, 28, 29, 30, 31, 32, 33, 34, 35, 36, 37] (by decide +kernel) (by decide +kernel)
set_option maxRecDepth 20000 in
theorem gX2_addToField_X2_keepIdByte : GoodIn wsX2_addToField (wsV RX2 61 RX2 yX2_keepIdByte wsX2_keepIdByte) := goodIn_app (goodIn_of _ (by decide +kernel)) ggX2_addToField_X2_keepIdByte
set_option maxRecDepth 20000 in
theorem ggX2_addToField_X2_isCheckRight : GoodIn wsX2_addToField wsX2_isCheckRight := goodIn_r _ [23, 1, 24, 25, 26, 27, 28, 29, 30, 31, 32, 33, 34, 35, 36, 37] (by decide +kernel) (by decide +kernel)
set_option maxRecDepth 20000 in
theorem gX2_addToField_X2_isCheckRight : GoodIn wsX2_addToField (wsV RX2 64 RX2 yX2_isCheckRight wsX2_isCheckRight) := goodIn_app (goodIn_of _ (by decide +kernel)) ggX2_addToField_X2_isCheckRight
theorem dX2_addToField_0 : decode cX2_addToField 0 = .ok (.aload_n 0, 1) := by decide +kernel
theorem dX2_addToField_1 : decode cX2_addToField 1 = .ok (.aload_n 0, 1) := by decide +kernel
theorem dX2_addToField_2 : decode cX2_addToField 2 = .ok (.getfield 54, 3) := by decide +kernel
theorem dX2_addToField_5 : decode cX2_addToField 5 = .ok (.aload_n 0, 1) := by decide +kernel
theorem dX2_addToField_6 : decode cX2_addToField 6 = .ok (.getfield 36, 3) := by decide +kernel
theorem dX2_addToField_9 : decode cX2_addToField 9 = .ok (.invokestatic 57, 3) := by decide +kernel
theorem dX2_addToField_12 : decode cX2_addToField 12 = .ok (.putfield 54, 3) := by decide +kernel
theorem dX2_addToField_15 : decode cX2_addToField 15 = .ok (.aload_n 0, 1) := by decide +kernel
theorem dX2_addToField_16 : decode cX2_addToField 16 = .ok (.getfield 22, 3) := by decide +kernel
theorem dX2_addToField_19 : decode cX2_addToField 19 = .ok (.iconst 1, 1) := by decide +kernel
theorem dX2_addToField_20 : decode cX2_addToField 20 = .ok (.if_icmp .ne 7, 3) := by decide +kernel
theorem dX2_addToField_23 : decode cX2_addToField 23 = .ok (.aload_n 0, 1) := by decide +kernel
theorem dX2_addToField_24 : decode cX2_addToField 24 = .ok (.invokevirtual 61, 3) := by decide +kernel
theorem dX2_addToField_27 : decode cX2_addToField 27 = .ok (.aload_n 0, 1) := by decide +kernel
theorem dX2_addToField_28 : decode cX2_addToField 28 = .ok (.dup, 1) := by decide +kernel
theorem dX2_addToField_29 : decode cX2_addToField 29 = .ok (.getfield 51, 3) := by decide +kernel
theorem dX2_addToField_32 : decode cX2_addToField 32 = .ok (.iconst 1, 1) := by decide +kernel
theorem dX2_addToField_33 : decode cX2_addToField 33 = .ok (.iadd, 1) := by decide +kernel
theorem dX2_addToField_34 : decode cX2_addToField 34 = .ok (.putfield 51, 3) := by decide +kernel
theorem dX2_addToField_37 : decode cX2_addToField 37 = .ok (.aload_n 0, 1) := by decide +kernel
theorem dX2_addToField_38 : decode cX2_addToField 38 = .ok (.getfield 22, 3) := by decide +kernel
theorem dX2_addToField_41 : decode cX2_addToField 41 = .ok (.iconst 1, 1) := by decide +kernel
theorem dX2_addToField_42 : decode cX2_addToField 42 = .ok (.if_icmp .ne 7, 3) := by decide +kernel
theorem dX2_addToField_45 : decode cX2_addToField 45 = .ok (.iconst 4, 1) := by decide +kernel
theorem dX2_addToField_46 : decode cX2_addToField 46 = .ok (.goto 7, 3) := by decide +kernel
theorem dX2_addToField_49 : decode cX2_addToField 49 = .ok (.aload_n 0, 1) := by decide +kernel
theorem dX2_addToField_50 : decode cX2_addToField 50 = .ok (.getfield 11, 3) := by decide +kernel
theorem dX2_addToField_53 : decode cX2_addToField 53 = .ok (.istore_n 1, 1) := by decide +kernel
theorem dX2_addToField_54 : decode cX2_addToField 54 = .ok (.aload_n 0, 1) := by decide +kernel
theorem dX2_addToField_55 : decode cX2_addToField 55 = .ok (.getfield 51, 3) := by decide +kernel
theorem dX2_addToField_58 : decode cX2_addToField 58 = .ok (.iload_n 1, 1) := by decide +kernel
theorem dX2_addToField_59 : decode cX2_addToField 59 = .ok (.iconst 2, 1) := by decide +kernel
theorem dX2_addToField_60 : decode cX2_addToField 60 = .ok (.iadd, 1) := by decide +kernel
theorem dX2_addToField_61 : decode cX2_addToField 61 = .ok (.if_icmp .ge 5, 3) := by decide +kernel
theorem dX2_addToField_64 : decode cX2_addToField 64 = .ok (.iconst 2, 1) := by decide +kernel
theorem dX2_addToField_65 : decode cX2_addToField 65 = .ok (.ireturn, 1) := by decide +kernel
theorem dX2_addToField_66 : decode cX2_addToField 66 = .ok (.aload_n 0, 1) := by decide +kernel
theorem dX2_addToField_67 : decode cX2_addToField 67 = .ok (.getfield 22, 3) := by decide +kernel
theorem dX2_addToField_70 : decode cX2_addToField 70 = .ok (.iconst 1, 1) := by decide +kernel
theorem dX2_addToField_71 : decode cX2_addToField 71 = .ok (.if_icmp .ne 23, 3) := by decide +kernel
theorem dX2_addToField_74 : decode cX2_addToField 74 = .ok (.aload_n 0, 1) := by decide +kernel
theorem dX2_addToField_75 : decode cX2_addToField 75 = .ok (.invokevirtual 64, 3) := by decide +kernel
theorem dX2_addToField_78 : decode cX2_addToField 78 = .ok (.ifCond .eq 16, 3) := by decide +kernel
theorem dX2_addToField_81 : decode cX2_addToField 81 = .ok (.aload_n 0, 1) := by decide +kernel
theorem dX2_addToField_82 : decode cX2_addToField 82 = .ok (.bipush 16, 2) := by decide +kernel
theorem dX2_addToField_84 : decode cX2_addToField 84 = .ok (.aload_n 0, 1) := by decide +kernel
theorem dX2_addToField_85 : decode cX2_addToField 85 = .ok (.getfield 68, 3) := by decide +kernel
theorem dX2_addToField_88 : decode cX2_addToField 88 = .ok (.iconst 1, 1) := by decide +kernel
theorem dX2_addToField_89 : decode cX2_addToField 89 = .ok (.iand, 1) := by decide +kernel
theorem dX2_addToField_90 : decode cX2_addToField 90 = .ok (.ishl, 1) := by decide +kernel
theorem dX2_addToField_91 : decode cX2_addToField 91 = .ok (.putfield 11, 3) := by decide +kernel
theorem dX2_addToField_94 : decode cX2_addToField 94 = .ok (.aload_n 0, 1) := by decide +kernel
theorem dX2_addToField_95 : decode cX2_addToField 95 = .ok (.iconst 0, 1) := by decide +kernel
theorem dX2_addToField_96 : decode cX2_addToField 96 = .ok (.putfield 22, 3) := by decide +kernel
theorem dX2_addToField_99 : decode cX2_addToField 99 = .ok (.aload_n 0, 1) := by decide +kernel
theorem dX2_addToField_100 : decode cX2_addToField 100 = .ok (.iconst 0, 1) := by decide +kernel
theorem dX2_addToField_101 : decode cX2_addToField 101 = .ok (.putfield 15, 3) := by decide +kernel
theorem dX2_addToField_104 : decode cX2_addToField 104 = .ok (.iconst 3, 1) := by decide +kernel
theorem dX2_addToField_105 : decode cX2_addToField 105 = .ok (.ireturn, 1) := by decide +kernel
theorem dX2_keepIdByte_0 : decode cX2_keepIdByte 0 = .ok (.aload_n 0, 1) := by decide +kernel
theorem dX2_keepIdByte_1 : decode cX2_keepIdByte 1 = .ok (.getfield 51, 3) := by decide +kernel
theorem dX2_keepIdByte_4 : decode cX2_keepIdByte 4 = .ok (.ifCond .ne 14, 3) := by decide +kernel
theorem dX2_keepIdByte_7 : decode cX2_keepIdByte 7 = .ok (.aload_n 0, 1) := by decide +kernel
theorem dX2_keepIdByte_8 : decode cX2_keepIdByte 8 = .ok (.aload_n 0, 1) := by decide +kernel
theorem dX2_keepIdByte_9 : decode cX2_keepIdByte 9 = .ok (.getfield 36, 3) := by decide +kernel
theorem dX2_keepIdByte_12 : decode cX2_keepIdByte 12 = .ok (.putfield 71, 3) := by decide +kernel
theorem dX2_keepIdByte_15 : decode cX2_keepIdByte 15 = .ok (.goto 38, 3) := by decide +kernel
theorem dX2_keepIdByte_18 : decode cX2_keepIdByte 18 = .ok (.aload_n 0, 1) := by decide +kernel
theorem dX2_keepIdByte_19 : decode cX2_keepIdByte 19 = .ok (.getfield 51, 3) := by decide +kernel
theorem dX2_keepIdByte_22 : decode cX2_keepIdByte 22 = .ok (.iconst 2, 1) := by decide +kernel
theorem dX2_keepIdByte_23 : decode cX2_keepIdByte 23 = .ok (.if_icmp .ne 14, 3) := by decide +kernel
theorem dX2_keepIdByte_26 : decode cX2_keepIdByte 26 = .ok (.aload_n 0, 1) := by decide +kernel
theorem dX2_keepIdByte_27 : decode cX2_keepIdByte 27 = .ok (.aload_n 0, 1) := by decide +kernel
theorem dX2_keepIdByte_28 : decode cX2_keepIdByte 28 = .ok (.getfield 36, 3) := by decide +kernel
theorem dX2_keepIdByte_31 : decode cX2_keepIdByte 31 = .ok (.putfield 74, 3) := by decide +kernel
theorem dX2_keepIdByte_34 : decode cX2_keepIdByte 34 = .ok (.goto 19, 3) := by decide +kernel
theorem dX2_keepIdByte_37 : decode cX2_keepIdByte 37 = .ok (.aload_n 0, 1) := by decide +kernel
theorem dX2_keepIdByte_38 : decode cX2_keepIdByte 38 = .ok (.getfield 51, 3) := by decide +kernel
theorem dX2_keepIdByte_41 : decode cX2_keepIdByte 41 = .ok (.iconst 3, 1) := by decide +kernel
theorem dX2_keepIdByte_42 : decode cX2_keepIdByte 42 = .ok (.if_icmp .ne 11, 3) := by decide +kernel
theorem dX2_keepIdByte_45 : decode cX2_keepIdByte 45 = .ok (.aload_n 0, 1) := by decide +kernel
theorem dX2_keepIdByte_46 : decode cX2_keepIdByte 46 = .ok (.aload_n 0, 1) := by decide +kernel
theorem dX2_keepIdByte_47 : decode cX2_keepIdByte 47 = .ok (.getfield 36, 3) := by decide +kernel
theorem dX2_keepIdByte_50 : decode cX2_keepIdByte 50 = .ok (.putfield 68, 3) := by decide +kernel
theorem dX2_keepIdByte_53 : decode cX2_keepIdByte 53 = .ok (.return_, 1) := by decide +kernel
theorem dX2_isCheckRight_0 : decode cX2_isCheckRight 0 = .ok (.aload_n 0, 1) := by decide +kernel
theorem dX2_isCheckRight_1 : decode cX2_isCheckRight 1 = .ok (.getfield 54, 3) := by decide +kernel
theorem dX2_isCheckRight_4 : decode cX2_isCheckRight 4 = .ok (.ifCond .ne 7, 3) := by decide +kernel
theorem dX2_isCheckRight_7 : decode cX2_isCheckRight 7 = .ok (.iconst 1, 1) := by decide +kernel
theorem dX2_isCheckRight_8 : decode cX2_isCheckRight 8 = .ok (.goto 4, 3) := by decide +kernel
theorem dX2_isCheckRight_11 : decode cX2_isCheckRight 11 = .ok (.iconst 0, 1) := by decide +kernel
theorem dX2_isCheckRight_12 : decode cX2_isCheckRight 12 = .ok (.ireturn, 1) := by decide +kernel
theorem dX2_isLatestFieldId_0 : decode cX2_isLatestFieldId 0 = .ok (.aload_n 0, 1) := by decide +kernel
theorem dX2_isLatestFieldId_1 : decode cX2_isLatestFieldId 1 = .ok (.getfield 45, 3) := by decide +kernel
theorem dX2_isLatestFieldId_4 : decode cX2_isLatestFieldId 4 = .ok (.iconst 1, 1) := by decide +kernel
theorem dX2_isLatestFieldId_5 : decode cX2_isLatestFieldId 5 = .ok (.if_icmp .ne 7, 3) := by decide +kernel
theorem dX2_isLatestFieldId_8 : decode cX2_isLatestFieldId 8 = .ok (.iconst 1, 1) := by decide +kernel
theorem dX2_isLatestFieldId_9 : decode cX2_isLatestFieldId 9 = .ok (.goto 4, 3) := by decide +kernel
theorem dX2_isLatestFieldId_12 : decode cX2_isLatestFieldId 12 = .ok (.iconst 0, 1) := by decide +kernel
theorem dX2_isLatestFieldId_13 : decode cX2_isLatestFieldId 13 = .ok (.ireturn, 1) := by decide +kernel
set_option maxRecDepth 20000 in
theorem ggX2_isLatestByteOfCheck_X2_isLatestFieldId : GoodIn wsX2_isLatestByteOfCheck wsX2_isLatestFieldId := goodIn_r _ [7, 8, 9, 10, 11, 12, 13, 14, 15, 16, 17, 18, 19, 20, 21, 22] (by decide +kernel) (by decide +kernel)
set_option maxRecDepth 20000 in
theorem gX2_isLatestByteOfCheck_X2_isLatestFieldId : GoodIn wsX2_isLatestByteOfCheck (wsV RX2 77 RX2 yX2_isLatestFieldId wsX2_isLatestFieldId) := goodIn_app (goodIn_of _ (by decide +kernel)) ggX2_isLatestByteOfCheck_X2_isLatestFieldId
theorem dX2_isLatestByteOfCheck_0 : decode cX2_isLatestByteOfCheck 0 = .ok (.aload_n 0, 1) := by decide +kernel
theorem dX2_isLatestByteOfCheck_1 : decode cX2_isLatestByteOfCheck 1 = .ok (.invokevirtual 77, 3) := by decide +kernel
theorem dX2_isLatestByteOfCheck_4 : decode cX2_isLatestByteOfCheck 4 = .ok (.ifCond .ne 18, 3) := by decide +kernel
theorem dX2_isLatestByteOfCheck_7 : decode cX2_isLatestByteOfCheck 7 = .ok (.aload_n 0, 1) := by decide +kernel
theorem dX2_isLatestByteOfCheck_8 : decode cX2_isLatestByteOfCheck 8 = .ok (.getfield 51, 3) := by decide +kernel
theorem dX2_isLatestByteOfCheck_11 : decode cX2_isLatestByteOfCheck 11 = .ok (.aload_n 0, 1) := by decide +kernel
theorem dX2_isLatestByteOfCheck_12 : decode cX2_isLatestByteOfCheck 12 = .ok (.getfield 11, 3) := by decide +kernel
theorem dX2_isLatestByteOfCheck_15 : decode cX2_isLatestByteOfCheck 15 = .ok (.if_icmp .le 7, 3) := by decide +kernel
theorem dX2_isLatestByteOfCheck_18 : decode cX2_isLatestByteOfCheck 18 = .ok (.iconst 1, 1) := by decide +kernel
theorem dX2_isLatestByteOfCheck_19 : decode cX2_isLatestByteOfCheck 19 = .ok (.goto 4, 3) := by decide +kernel
theorem dX2_isLatestByteOfCheck_22 : decode cX2_isLatestByteOfCheck 22 = .ok (.iconst 0, 1) := by decide +kernel
theorem dX2_isLatestByteOfCheck_23 : decode cX2_isLatestByteOfCheck 23 = .ok (.ireturn, 1) := by decide +kernel
theorem dX3_init_0 : decode cX3_init 0 = .ok (.aload_n 0, 1) := by decide +kernel
theorem dX3_init_1 : decode cX3_init 1 = .ok (.invokespecial 3, 3) := by decide +kernel
theorem dX3_init_4 : decode cX3_init 4 = .ok (.aload_n 0, 1) := by decide +kernel
theorem dX3_init_5 : decode cX3_init 5 = .ok (.sipush 200, 3) := by decide +kernel
theorem dX3_init_8 : decode cX3_init 8 = .ok (.newarray .int, 2) := by decide +kernel
theorem dX3_init_10 : decode cX3_init 10 = .ok (.putfield 11, 3) := by decide +kernel
theorem dX3_init_13 : decode cX3_init 13 = .ok (.return_, 1) := by decide +kernel
theorem dX3_makeEmpty_0 : decode cX3_makeEmpty 0 = .ok (.aload_n 0, 1) := by decide +kernel
theorem dX3_makeEmpty_1 : decode cX3_makeEmpty 1 = .ok (.iconst 0, 1) := by decide +kernel
theorem dX3_makeEmpty_2 : decode cX3_makeEmpty 2 = .ok (.putfield 15, 3) := by decide +kernel
theorem dX3_makeEmpty_5 : decode cX3_makeEmpty 5 = .ok (.aload_n 0, 1) := by decide +kernel
theorem dX3_makeEmpty_6 : decode cX3_makeEmpty 6 = .ok (.iconst 0, 1) := by decide +kernel
theorem dX3_makeEmpty_7 : decode cX3_makeEmpty 7 = .ok (.putfield 19, 3) := by decide +kernel
theorem dX3_makeEmpty_10 : decode cX3_makeEmpty 10 = .ok (.return_, 1) := by decide +kernel
theorem dX3_hasRoomFor_0 : decode cX3_hasRoomFor 0 = .ok (.iload_n 1, 1) := by decide +kernel
theorem dX3_hasRoomFor_1 : decode cX3_hasRoomFor 1 = .ok (.sipush 200, 3) := by decide +kernel
theorem dX3_hasRoomFor_4 : decode cX3_hasRoomFor 4 = .ok (.aload_n 0, 1) := by decide +kernel
theorem dX3_hasRoomFor_5 : decode cX3_hasRoomFor 5 = .ok (.getfield 15, 3) := by decide +kernel
theorem dX3_hasRoomFor_8 : decode cX3_hasRoomFor 8 = .ok (.isub, 1) := by decide +kernel
theorem dX3_hasRoomFor_9 : decode cX3_hasRoomFor 9 = .ok (.if_icmp .gt 7, 3) := by decide +kernel
theorem dX3_hasRoomFor_12 : decode cX3_hasRoomFor 12 = .ok (.iconst 1, 1) := by decide +kernel
theorem dX3_hasRoomFor_13 : decode cX3_hasRoomFor 13 = .ok (.goto 4, 3) := by decide +kernel
theorem dX3_hasRoomFor_16 : decode cX3_hasRoomFor 16 = .ok (.iconst 0, 1) := by decide +kernel
theorem dX3_hasRoomFor_17 : decode cX3_hasRoomFor 17 = .ok (.ireturn, 1) := by decide +kernel
theorem dX3_append_0 : decode cX3_append 0 = .ok (.aload_n 0, 1) := by decide +kernel
theorem dX3_append_1 : decode cX3_append 1 = .ok (.getfield 15, 3) := by decide +kernel
theorem dX3_append_4 : decode cX3_append 4 = .ok (.ifCond .lt 33, 3) := by decide +kernel
theorem dX3_append_7 : decode cX3_append 7 = .ok (.aload_n 0, 1) := by decide +kernel
theorem dX3_append_8 : decode cX3_append 8 = .ok (.getfield 15, 3) := by decide +kernel
theorem dX3_append_11 : decode cX3_append 11 = .ok (.sipush 200, 3) := by decide +kernel
theorem dX3_append_14 : decode cX3_append 14 = .ok (.if_icmp .ge 23, 3) := by decide +kernel
theorem dX3_append_17 : decode cX3_append 17 = .ok (.aload_n 0, 1) := by decide +kernel
theorem dX3_append_18 : decode cX3_append 18 = .ok (.getfield 11, 3) := by decide +kernel
theorem dX3_append_21 : decode cX3_append 21 = .ok (.aload_n 0, 1) := by decide +kernel
theorem dX3_append_22 : decode cX3_append 22 = .ok (.getfield 15, 3) := by decide +kernel
theorem dX3_append_25 : decode cX3_append 25 = .ok (.iload_n 1, 1) := by decide +kernel
theorem dX3_append_26 : decode cX3_append 26 = .ok (.iastore, 1) := by decide +kernel
theorem dX3_append_27 : decode cX3_append 27 = .ok (.aload_n 0, 1) := by decide +kernel
theorem dX3_append_28 : decode cX3_append 28 = .ok (.dup, 1) := by decide +kernel
theorem dX3_append_29 : decode cX3_append 29 = .ok (.getfield 15, 3) := by decide +kernel
theorem dX3_append_32 : decode cX3_append 32 = .ok (.iconst 1, 1) := by decide +kernel
theorem dX3_append_33 : decode cX3_append 33 = .ok (.iadd, 1) := by decide +kernel
theorem dX3_append_34 : decode cX3_append 34 = .ok (.putfield 15, 3) := by decide +kernel
theorem dX3_append_37 : decode cX3_append 37 = .ok (.return_, 1) := by decide +kernel
theorem dX3_byteAt_0 : decode cX3_byteAt 0 = .ok (.iload_n 1, 1) := by decide +kernel
theorem dX3_byteAt_1 : decode cX3_byteAt 1 = .ok (.ifCond .lt 18, 3) := by decide +kernel
theorem dX3_byteAt_4 : decode cX3_byteAt 4 = .ok (.iload_n 1, 1) := by decide +kernel
theorem dX3_byteAt_5 : decode cX3_byteAt 5 = .ok (.aload_n 0, 1) := by decide +kernel
theorem dX3_byteAt_6 : decode cX3_byteAt 6 = .ok (.getfield 15, 3) := by decide +kernel
theorem dX3_byteAt_9 : decode cX3_byteAt 9 = .ok (.if_icmp .ge 10, 3) := by decide +kernel
theorem dX3_byteAt_12 : decode cX3_byteAt 12 = .ok (.iload_n 1, 1) := by decide +kernel
theorem dX3_byteAt_13 : decode cX3_byteAt 13 = .ok (.sipush 200, 3) := by decide +kernel
theorem dX3_byteAt_16 : decode cX3_byteAt 16 = .ok (.if_icmp .lt 5, 3) := by decide +kernel
theorem dX3_byteAt_19 : decode cX3_byteAt 19 = .ok (.iconst (-1), 1) := by decide +kernel
theorem dX3_byteAt_20 : decode cX3_byteAt 20 = .ok (.ireturn, 1) := by decide +kernel
theorem dX3_byteAt_21 : decode cX3_byteAt 21 = .ok (.aload_n 0, 1) := by decide +kernel
theorem dX3_byteAt_22 : decode cX3_byteAt 22 = .ok (.getfield 11, 3) := by decide +kernel
theorem dX3_byteAt_25 : decode cX3_byteAt 25 = .ok (.iload_n 1, 1) := by decide +kernel
theorem dX3_byteAt_26 : decode cX3_byteAt 26 = .ok (.iaload, 1) := by decide +kernel
theorem dX3_byteAt_27 : decode cX3_byteAt 27 = .ok (.ireturn, 1) := by decide +kernel
set_option maxRecDepth 20000 in
theorem ggX3_nextByte_X3_byteAt : GoodIn wsX3_nextByte wsX3_byteAt := goodIn_r _ [6, 7, 8, 9, 10, 11] (by decide +kernel) (by decide +kernel)
set_option maxRecDepth 20000 in
theorem gX3_nextByte_X3_byteAt : GoodIn wsX3_nextByte (wsV RX3 22 RX3 yX3_byteAt wsX3_byteAt) := goodIn_app (goodIn_of _ (by decide +kernel)) ggX3_nextByte_X3_byteAt
theorem dX3_nextByte_0 : decode cX3_nextByte 0 = .ok (.aload_n 0, 1) := by decide +kernel
theorem dX3_nextByte_1 : decode cX3_nextByte 1 = .ok (.aload_n 0, 1) := by decide +kernel
theorem dX3_nextByte_2 : decode cX3_nextByte 2 = .ok (.getfield 19, 3) := by decide +kernel
theorem dX3_nextByte_5 : decode cX3_nextByte 5 = .ok (.invokevirtual 22, 3) := by decide +kernel
theorem dX3_nextByte_8 : decode cX3_nextByte 8 = .ok (.istore_n 1, 1) := by decide +kernel
theorem dX3_nextByte_9 : decode cX3_nextByte 9 = .ok (.iload_n 1, 1) := by decide +kernel
theorem dX3_nextByte_10 : decode cX3_nextByte 10 = .ok (.iconst (-1), 1) := by decide +kernel
theorem dX3_nextByte_11 : decode cX3_nextByte 11 = .ok (.if_icmp .ne 5, 3) := by decide +kernel
theorem dX3_nextByte_14 : decode cX3_nextByte 14 = .ok (.iconst 0, 1) := by decide +kernel
theorem dX3_nextByte_15 : decode cX3_nextByte 15 = .ok (.ireturn, 1) := by decide +kernel
theorem dX3_nextByte_16 : decode cX3_nextByte 16 = .ok (.aload_n 0, 1) := by decide +kernel
theorem dX3_nextByte_17 : decode cX3_nextByte 17 = .ok (.dup, 1) := by decide +kernel
theorem dX3_nextByte_18 : decode cX3_nextByte 18 = .ok (.getfield 19, 3) := by decide +kernel
theorem dX3_nextByte_21 : decode cX3_nextByte 21 = .ok (.iconst 1, 1) := by decide +kernel
theorem dX3_nextByte_22 : decode cX3_nextByte 22 = .ok (.iadd, 1) := by decide +kernel
theorem dX3_nextByte_23 : decode cX3_nextByte 23 = .ok (.putfield 19, 3) := by decide +kernel
theorem dX3_nextByte_26 : decode cX3_nextByte 26 = .ok (.iload_n 1, 1) := by decide +kernel
theorem dX3_nextByte_27 : decode cX3_nextByte 27 = .ok (.ireturn, 1) := by decide +kernel
theorem dX4_init_0 : decode cX4_init 0 = .ok (.aload_n 0, 1) := by decide +kernel
theorem dX4_init_1 : decode cX4_init 1 = .ok (.invokespecial 3, 3) := by decide +kernel
theorem dX4_init_4 : decode cX4_init 4 = .ok (.return_, 1) := by decide +kernel
theorem dX4_start_0 : decode cX4_start 0 = .ok (.aload_n 0, 1) := by decide +kernel
theorem dX4_start_1 : decode cX4_start 1 = .ok (.iconst 0, 1) := by decide +kernel
theorem dX4_start_2 : decode cX4_start 2 = .ok (.putfield 9, 3) := by decide +kernel
theorem dX4_start_5 : decode cX4_start 5 = .ok (.aload_n 0, 1) := by decide +kernel
theorem dX4_start_6 : decode cX4_start 6 = .ok (.iconst 0, 1) := by decide +kernel
theorem dX4_start_7 : decode cX4_start 7 = .ok (.putfield 15, 3) := by decide +kernel
theorem dX4_start_10 : decode cX4_start 10 = .ok (.aload_n 0, 1) := by decide +kernel
theorem dX4_start_11 : decode cX4_start 11 = .ok (.ldc 18, 2) := by decide +kernel
theorem dX4_start_13 : decode cX4_start 13 = .ok (.putfield 19, 3) := by decide +kernel
theorem dX4_start_16 : decode cX4_start 16 = .ok (.aload_n 0, 1) := by decide +kernel
theorem dX4_start_17 : decode cX4_start 17 = .ok (.iconst 0, 1) := by decide +kernel
theorem dX4_start_18 : decode cX4_start 18 = .ok (.putfield 22, 3) := by decide +kernel
theorem dX4_start_21 : decode cX4_start 21 = .ok (.aload_n 0, 1) := by decide +kernel
theorem dX4_start_22 : decode cX4_start 22 = .ok (.iconst 0, 1) := by decide +kernel
theorem dX4_start_23 : decode cX4_start 23 = .ok (.putfield 25, 3) := by decide +kernel
theorem dX4_start_26 : decode cX4_start 26 = .ok (.aload_n 0, 1) := by decide +kernel
theorem dX4_start_27 : decode cX4_start 27 = .ok (.iconst 0, 1) := by decide +kernel
theorem dX4_start_28 : decode cX4_start 28 = .ok (.putfield 29, 3) := by decide +kernel
theorem dX4_start_31 : decode cX4_start 31 = .ok (.return_, 1) := by decide +kernel
set_option maxRecDepth 20000 in
theorem ggX4_putMark_X5_checkWith : GoodIn wsX4_putMark wsX5_checkWith := goodIn_r _ [7, 8, 9] (by decide +kernel) (by decide +kernel)
set_option maxRecDepth 20000 in
theorem gX4_putMark_X5_checkWith_n32 : GoodIn wsX4_putMark (wsX5_checkWith) := ggX4_putMark_X5_checkWith
set_option maxRecDepth 20000 in
theorem ggX4_putMark_X4_putWord : GoodIn wsX4_putMark wsX4_putWord := goodIn_r _ [14, 15, 16, 17, 18, 19, 20, 21, 22, 23, 24] (by decide +kernel) (by decide +kernel)
set_option maxRecDepth 20000 in
theorem gX4_putMark_X4_putWord : GoodIn wsX4_putMark (wsV RX4 36 RX4 yX4_putWord wsX4_putWord) := goodIn_app (goodIn_of _ (by decide +kernel)) ggX4_putMark_X4_putWord
theorem dX4_putMark_0 : decode cX4_putMark 0 = .ok (.aload_n 0, 1) := by decide +kernel
theorem dX4_putMark_1 : decode cX4_putMark 1 = .ok (.getfield 25, 3) := by decide +kernel
theorem dX4_putMark_4 : decode cX4_putMark 4 = .ok (.ifCond .ne 9, 3) := by decide +kernel
theorem dX4_putMark_7 : decode cX4_putMark 7 = .ok (.aload_n 0, 1) := by decide +kernel
theorem dX4_putMark_8 : decode cX4_putMark 8 = .ok (.ldc 18, 2) := by decide +kernel
theorem dX4_putMark_10 : decode cX4_putMark 10 = .ok (.putfield 19, 3) := by decide +kernel
theorem dX4_putMark_13 : decode cX4_putMark 13 = .ok (.aload_n 0, 1) := by decide +kernel
theorem dX4_putMark_14 : decode cX4_putMark 14 = .ok (.aload_n 0, 1) := by decide +kernel
theorem dX4_putMark_15 : decode cX4_putMark 15 = .ok (.getfield 19, 3) := by decide +kernel
theorem dX4_putMark_18 : decode cX4_putMark 18 = .ok (.sipush 161, 3) := by decide +kernel
theorem dX4_putMark_21 : decode cX4_putMark 21 = .ok (.invokestatic 32, 3) := by decide +kernel
theorem dX4_putMark_24 : decode cX4_putMark 24 = .ok (.putfield 19, 3) := by decide +kernel
theorem dX4_putMark_27 : decode cX4_putMark 27 = .ok (.aload_n 0, 1) := by decide +kernel
theorem dX4_putMark_28 : decode cX4_putMark 28 = .ok (.iconst 1, 1) := by decide +kernel
theorem dX4_putMark_29 : decode cX4_putMark 29 = .ok (.putfield 25, 3) := by decide +kernel
theorem dX4_putMark_32 : decode cX4_putMark 32 = .ok (.aload_n 0, 1) := by decide +kernel
theorem dX4_putMark_33 : decode cX4_putMark 33 = .ok (.iconst 1, 1) := by decide +kernel
theorem dX4_putMark_34 : decode cX4_putMark 34 = .ok (.putfield 15, 3) := by decide +kernel
theorem dX4_putMark_37 : decode cX4_putMark 37 = .ok (.aload_n 0, 1) := by decide +kernel
theorem dX4_putMark_38 : decode cX4_putMark 38 = .ok (.sipush 17545, 3) := by decide +kernel
theorem dX4_putMark_41 : decode cX4_putMark 41 = .ok (.invokevirtual 36, 3) := by decide +kernel
theorem dX4_putMark_44 : decode cX4_putMark 44 = .ok (.return_, 1) := by decide +kernel
set_option maxRecDepth 20000 in
theorem ggX4_putByte_X5_checkWith : GoodIn wsX4_putByte wsX5_checkWith := goodIn_r _ [4, 5, 6] (by decide +kernel) (by decide +kernel)
set_option maxRecDepth 20000 in
theorem gX4_putByte_X5_checkWith_n32 : GoodIn wsX4_putByte (wsX5_checkWith) := ggX4_putByte_X5_checkWith
set_option maxRecDepth 20000 in
theorem ggX4_putByte_X4_putUnchecked : GoodIn wsX4_putByte wsX4_putUnchecked := goodIn_r _ [11, 12, 13, 14, 15, 16, 10, 17, 18, 19, 20, 21, 22, 23, 24, 25, 26, 27] (by decide +kernel) (by decide +kernel)
set_option maxRecDepth 20000 in
theorem gX4_putByte_X4_putUnchecked : GoodIn wsX4_putByte (wsV RX4 40 RX4 yX4_putUnchecked wsX4_putUnchecked) := goodIn_app (goodIn_of _ (by decide +kernel)) ggX4_putByte_X4_putUnchecked
theorem dX4_putByte_0 : decode cX4_putByte 0 = .ok (.aload_n 0, 1) := by decide +kernel
theorem dX4_putByte_1 : decode cX4_putByte 1 = .ok (.aload_n 0, 1) := by decide +kernel
theorem dX4_putByte_2 : decode cX4_putByte 2 = .ok (.getfield 19, 3) := by decide +kernel
theorem dX4_putByte_5 : decode cX4_putByte 5 = .ok (.iload_n 1, 1) := by decide +kernel
theorem dX4_putByte_6 : decode cX4_putByte 6 = .ok (.invokestatic 32, 3) := by decide +kernel
theorem dX4_putByte_9 : decode cX4_putByte 9 = .ok (.putfield 19, 3) := by decide +kernel
theorem dX4_putByte_12 : decode cX4_putByte 12 = .ok (.aload_n 0, 1) := by decide +kernel
theorem dX4_putByte_13 : decode cX4_putByte 13 = .ok (.iload_n 1, 1) := by decide +kernel
theorem dX4_putByte_14 : decode cX4_putByte 14 = .ok (.invokevirtual 40, 3) := by decide +kernel
theorem dX4_putByte_17 : decode cX4_putByte 17 = .ok (.return_, 1) := by decide +kernel
set_option maxRecDepth 20000 in
theorem ggX4_putHalfOfCheck_X4_putUnchecked : GoodIn wsX4_putHalfOfCheck wsX4_putUnchecked := goodIn_r _ [7, 8, 9, 10, 11, 12, 6, 13, 14, 15, 16, 17, 18, 19, 20, 21, 22, 23] (by decide +kernel) (by decide +kernel)
set_option maxRecDepth 20000 in
theorem gX4_putHalfOfCheck_X4_putUnchecked : GoodIn wsX4_putHalfOfCheck (wsV RX4 40 RX4 yX4_putUnchecked wsX4_putUnchecked) := goodIn_app (goodIn_of _ (by decide +kernel)) ggX4_putHalfOfCheck_X4_putUnchecked
theorem dX4_putHalfOfCheck_0 : decode cX4_putHalfOfCheck 0 = .ok (.aload_n 0, 1) := by decide +kernel
theorem dX4_putHalfOfCheck_1 : decode cX4_putHalfOfCheck 1 = .ok (.getfield 29, 3) := by decide +kernel
theorem dX4_putHalfOfCheck_4 : decode cX4_putHalfOfCheck 4 = .ok (.ifCond .eq 14, 3) := by decide +kernel
theorem dX4_putHalfOfCheck_7 : decode cX4_putHalfOfCheck 7 = .ok (.aload_n 0, 1) := by decide +kernel
theorem dX4_putHalfOfCheck_8 : decode cX4_putHalfOfCheck 8 = .ok (.getfield 19, 3) := by decide +kernel
theorem dX4_putHalfOfCheck_11 : decode cX4_putHalfOfCheck 11 = .ok (.sipush 255, 3) := by decide +kernel
theorem dX4_putHalfOfCheck_14 : decode cX4_putHalfOfCheck 14 = .ok (.iand, 1) := by decide +kernel
theorem dX4_putHalfOfCheck_15 : decode cX4_putHalfOfCheck 15 = .ok (.goto 10, 3) := by decide +kernel
theorem dX4_putHalfOfCheck_18 : decode cX4_putHalfOfCheck 18 = .ok (.aload_n 0, 1) := by decide +kernel
theorem dX4_putHalfOfCheck_19 : decode cX4_putHalfOfCheck 19 = .ok (.getfield 19, 3) := by decide +kernel
theorem dX4_putHalfOfCheck_22 : decode cX4_putHalfOfCheck 22 = .ok (.bipush 8, 2) := by decide +kernel
theorem dX4_putHalfOfCheck_24 : decode cX4_putHalfOfCheck 24 = .ok (.ishr, 1) := by decide +kernel
theorem dX4_putHalfOfCheck_25 : decode cX4_putHalfOfCheck 25 = .ok (.istore_n 1, 1) := by decide +kernel
theorem dX4_putHalfOfCheck_26 : decode cX4_putHalfOfCheck 26 = .ok (.aload_n 0, 1) := by decide +kernel
theorem dX4_putHalfOfCheck_27 : decode cX4_putHalfOfCheck 27 = .ok (.aload_n 0, 1) := by decide +kernel
theorem dX4_putHalfOfCheck_28 : decode cX4_putHalfOfCheck 28 = .ok (.getfield 29, 3) := by decide +kernel
theorem dX4_putHalfOfCheck_31 : decode cX4_putHalfOfCheck 31 = .ok (.ifCond .ne 7, 3) := by decide +kernel
theorem dX4_putHalfOfCheck_34 : decode cX4_putHalfOfCheck 34 = .ok (.iconst 1, 1) := by decide +kernel
theorem dX4_putHalfOfCheck_35 : decode cX4_putHalfOfCheck 35 = .ok (.goto 4, 3) := by decide +kernel
theorem dX4_putHalfOfCheck_38 : decode cX4_putHalfOfCheck 38 = .ok (.iconst 0, 1) := by decide +kernel
theorem dX4_putHalfOfCheck_39 : decode cX4_putHalfOfCheck 39 = .ok (.putfield 29, 3) := by decide +kernel
theorem dX4_putHalfOfCheck_42 : decode cX4_putHalfOfCheck 42 = .ok (.aload_n 0, 1) := by decide +kernel
theorem dX4_putHalfOfCheck_43 : decode cX4_putHalfOfCheck 43 = .ok (.iload_n 1, 1) := by decide +kernel
theorem dX4_putHalfOfCheck_44 : decode cX4_putHalfOfCheck 44 = .ok (.invokevirtual 40, 3) := by decide +kernel
theorem dX4_putHalfOfCheck_47 : decode cX4_putHalfOfCheck 47 = .ok (.return_, 1) := by decide +kernel
theorem dX4_nextCell_0 : decode cX4_nextCell 0 = .ok (.aload_n 0, 1) := by decide +kernel
theorem dX4_nextCell_1 : decode cX4_nextCell 1 = .ok (.dup, 1) := by decide +kernel
theorem dX4_nextCell_2 : decode cX4_nextCell 2 = .ok (.getfield 9, 3) := by decide +kernel
theorem dX4_nextCell_5 : decode cX4_nextCell 5 = .ok (.iconst 1, 1) := by decide +kernel
theorem dX4_nextCell_6 : decode cX4_nextCell 6 = .ok (.isub, 1) := by decide +kernel
theorem dX4_nextCell_7 : decode cX4_nextCell 7 = .ok (.putfield 9, 3) := by decide +kernel
theorem dX4_nextCell_10 : decode cX4_nextCell 10 = .ok (.aload_n 0, 1) := by decide +kernel
theorem dX4_nextCell_11 : decode cX4_nextCell 11 = .ok (.getfield 43, 3) := by decide +kernel
theorem dX4_nextCell_14 : decode cX4_nextCell 14 = .ok (.aload_n 0, 1) := by decide +kernel
theorem dX4_nextCell_15 : decode cX4_nextCell 15 = .ok (.getfield 9, 3) := by decide +kernel
theorem dX4_nextCell_18 : decode cX4_nextCell 18 = .ok (.bipush 15, 2) := by decide +kernel
theorem dX4_nextCell_20 : decode cX4_nextCell 20 = .ok (.iand, 1) := by decide +kernel
theorem dX4_nextCell_21 : decode cX4_nextCell 21 = .ok (.ishr, 1) := by decide +kernel
theorem dX4_nextCell_22 : decode cX4_nextCell 22 = .ok (.iconst 1, 1) := by decide +kernel
theorem dX4_nextCell_23 : decode cX4_nextCell 23 = .ok (.iand, 1) := by decide +kernel
theorem dX4_nextCell_24 : decode cX4_nextCell 24 = .ok (.ireturn, 1) := by decide +kernel
set_option maxRecDepth 20000 in
theorem ggX4_putUnchecked_X4_putWord : GoodIn wsX4_putUnchecked wsX4_putWord := goodIn_r _ [7, 8, 9, 10, 11, 12, 13, 14, 15, 16, 17] (by decide +kernel) (by decide +kernel)
set_option maxRecDepth 20000 in
theorem gX4_putUnchecked_X4_putWord : GoodIn wsX4_putUnchecked (wsV RX4 36 RX4 yX4_putWord wsX4_putWord) := goodIn_app (goodIn_of _ (by decide +kernel)) ggX4_putUnchecked_X4_putWord
theorem dX4_putUnchecked_0 : decode cX4_putUnchecked 0 = .ok (.iconst 0, 1) := by decide +kernel
theorem dX4_putUnchecked_1 : decode cX4_putUnchecked 1 = .ok (.istore_n 2, 1) := by decide +kernel
theorem dX4_putUnchecked_2 : decode cX4_putUnchecked 2 = .ok (.bipush 7, 2) := by decide +kernel
theorem dX4_putUnchecked_4 : decode cX4_putUnchecked 4 = .ok (.istore_n 3, 1) := by decide +kernel
theorem dX4_putUnchecked_5 : decode cX4_putUnchecked 5 = .ok (.iload_n 3, 1) := by decide +kernel
theorem dX4_putUnchecked_6 : decode cX4_putUnchecked 6 = .ok (.ifCond .lt 45, 3) := by decide +kernel
theorem dX4_putUnchecked_9 : decode cX4_putUnchecked 9 = .ok (.iload_n 1, 1) := by decide +kernel
theorem dX4_putUnchecked_10 : decode cX4_putUnchecked 10 = .ok (.iload_n 3, 1) := by decide +kernel
theorem dX4_putUnchecked_11 : decode cX4_putUnchecked 11 = .ok (.ishr, 1) := by decide +kernel
theorem dX4_putUnchecked_12 : decode cX4_putUnchecked 12 = .ok (.iconst 1, 1) := by decide +kernel
theorem dX4_putUnchecked_13 : decode cX4_putUnchecked 13 = .ok (.iand, 1) := by decide +kernel
theorem dX4_putUnchecked_14 : decode cX4_putUnchecked 14 = .ok (.istore 4, 2) := by decide +kernel
theorem dX4_putUnchecked_16 : decode cX4_putUnchecked 16 = .ok (.aload_n 0, 1) := by decide +kernel
theorem dX4_putUnchecked_17 : decode cX4_putUnchecked 17 = .ok (.getfield 15, 3) := by decide +kernel
theorem dX4_putUnchecked_20 : decode cX4_putUnchecked 20 = .ok (.iload 4, 2) := by decide +kernel
theorem dX4_putUnchecked_22 : decode cX4_putUnchecked 22 = .ok (.ior, 1) := by decide +kernel
theorem dX4_putUnchecked_23 : decode cX4_putUnchecked 23 = .ok (.iconst 1, 1) := by decide +kernel
theorem dX4_putUnchecked_24 : decode cX4_putUnchecked 24 = .ok (.ixor, 1) := by decide +kernel
theorem dX4_putUnchecked_25 : decode cX4_putUnchecked 25 = .ok (.istore 5, 2) := by decide +kernel
theorem dX4_putUnchecked_27 : decode cX4_putUnchecked 27 = .ok (.iload_n 2, 1) := by decide +kernel
theorem dX4_putUnchecked_28 : decode cX4_putUnchecked 28 = .ok (.iconst 2, 1) := by decide +kernel
theorem dX4_putUnchecked_29 : decode cX4_putUnchecked 29 = .ok (.ishl, 1) := by decide +kernel
theorem dX4_putUnchecked_30 : decode cX4_putUnchecked 30 = .ok (.iload 5, 2) := by decide +kernel
theorem dX4_putUnchecked_32 : decode cX4_putUnchecked 32 = .ok (.iconst 1, 1) := by decide +kernel
theorem dX4_putUnchecked_33 : decode cX4_putUnchecked 33 = .ok (.ishl, 1) := by decide +kernel
theorem dX4_putUnchecked_34 : decode cX4_putUnchecked 34 = .ok (.ior, 1) := by decide +kernel
theorem dX4_putUnchecked_35 : decode cX4_putUnchecked 35 = .ok (.iload 4, 2) := by decide +kernel
theorem dX4_putUnchecked_37 : decode cX4_putUnchecked 37 = .ok (.ior, 1) := by decide +kernel
theorem dX4_putUnchecked_38 : decode cX4_putUnchecked 38 = .ok (.istore_n 2, 1) := by decide +kernel
theorem dX4_putUnchecked_39 : decode cX4_putUnchecked 39 = .ok (.aload_n 0, 1) := by decide +kernel
theorem dX4_putUnchecked_40 : decode cX4_putUnchecked 40 = .ok (.iload 4, 2) := by decide +kernel
theorem dX4_putUnchecked_42 : decode cX4_putUnchecked 42 = .ok (.putfield 15, 3) := by decide +kernel
theorem dX4_putUnchecked_45 : decode cX4_putUnchecked 45 = .ok (.iinc 3 (-1), 3) := by decide +kernel
theorem dX4_putUnchecked_48 : decode cX4_putUnchecked 48 = .ok (.goto (-43), 3) := by decide +kernel
theorem dX4_putUnchecked_51 : decode cX4_putUnchecked 51 = .ok (.aload_n 0, 1) := by decide +kernel
theorem dX4_putUnchecked_52 : decode cX4_putUnchecked 52 = .ok (.iconst 0, 1) := by decide +kernel
theorem dX4_putUnchecked_53 : decode cX4_putUnchecked 53 = .ok (.putfield 25, 3) := by decide +kernel
theorem dX4_putUnchecked_56 : decode cX4_putUnchecked 56 = .ok (.aload_n 0, 1) := by decide +kernel
theorem dX4_putUnchecked_57 : decode cX4_putUnchecked 57 = .ok (.iload_n 2, 1) := by decide +kernel
theorem dX4_putUnchecked_58 : decode cX4_putUnchecked 58 = .ok (.invokevirtual 36, 3) := by decide +kernel
theorem dX4_putUnchecked_61 : decode cX4_putUnchecked 61 = .ok (.return_, 1) := by decide +kernel
theorem dX4_putWord_0 : decode cX4_putWord 0 = .ok (.aload_n 0, 1) := by decide +kernel
theorem dX4_putWord_1 : decode cX4_putWord 1 = .ok (.iload_n 1, 1) := by decide +kernel
theorem dX4_putWord_2 : decode cX4_putWord 2 = .ok (.putfield 43, 3) := by decide +kernel
theorem dX4_putWord_5 : decode cX4_putWord 5 = .ok (.aload_n 0, 1) := by decide +kernel
theorem dX4_putWord_6 : decode cX4_putWord 6 = .ok (.bipush 16, 2) := by decide +kernel
theorem dX4_putWord_8 : decode cX4_putWord 8 = .ok (.putfield 9, 3) := by decide +kernel
theorem dX4_putWord_11 : decode cX4_putWord 11 = .ok (.aload_n 0, 1) := by decide +kernel
theorem dX4_putWord_12 : decode cX4_putWord 12 = .ok (.dup, 1) := by decide +kernel
theorem dX4_putWord_13 : decode cX4_putWord 13 = .ok (.getfield 22, 3) := by decide +kernel
theorem dX4_putWord_16 : decode cX4_putWord 16 = .ok (.iconst 1, 1) := by decide +kernel
theorem dX4_putWord_17 : decode cX4_putWord 17 = .ok (.iadd, 1) := by decide +kernel
theorem dX4_putWord_18 : decode cX4_putWord 18 = .ok (.putfield 22, 3) := by decide +kernel
theorem dX4_putWord_21 : decode cX4_putWord 21 = .ok (.return_, 1) := by decide +kernel
set_option maxRecDepth 20000 in
theorem ggX5_init_X1_init : GoodIn wsX5_init wsX1_init := goodIn_r _ [22, 23, 2, 3, 24, 25, 50, 51, 52, 53] (by decide +kernel) (by decide +kernel)
set_option maxRecDepth 20000 in
theorem gX5_init_X1_init : GoodIn wsX5_init (wsX1_init) := ggX5_init_X1_init
set_option maxRecDepth 20000 in
theorem ggX5_init_X2_init : GoodIn wsX5_init wsX2_init := goodIn_r _ [28, 29, 2, 3, 30, 58, 59, 60, 61, 62, 63, 64, 65, 66, 67, 68, 69, 70, 71] (by decide +kernel) (by decide +kernel)
set_option maxRecDepth 20000 in
theorem gX5_init_X2_init : GoodIn wsX5_init (wsX2_init) := ggX5_init_X2_init
set_option maxRecDepth 20000 in
theorem ggX5_init_X0_init : GoodIn wsX5_init wsX0_init := goodIn_r _ [33, 34, 2, 3, 35, 36, 37, 38, 39, 40, 41, 42, 43, 44, 72, 73, 74, 75, 76, 77, 78, 79, 80, 81, 82, 83, 87, 88, 89, 90, 91, 92, 93] (by decide +kernel) (by decide +kernel)
set_option maxRecDepth 20000 in
theorem gX5_init_X0_init : GoodIn wsX5_init (wsX0_init) := ggX5_init_X0_init
set_option maxRecDepth 20000 in
theorem ggX5_init_X3_init : GoodIn wsX5_init wsX3_init := goodIn_r _ [47, 48, 2, 3, 24, 49, 84, 85, 86] (by decide +kernel) (by decide +kernel)
set_option maxRecDepth 20000 in
theorem gX5_init_X3_init : GoodIn wsX5_init (wsX3_init) := ggX5_init_X3_init
theorem dX5_init_0 : decode cX5_init 0 = .ok (.aload_n 0, 1) := by decide +kernel
theorem dX5_init_1 : decode cX5_init 1 = .ok (.invokespecial 1, 3) := by decide +kernel
theorem dX5_init_4 : decode cX5_init 4 = .ok (.aload_n 0, 1) := by decide +kernel
theorem dX5_init_5 : decode cX5_init 5 = .ok (.new 7, 3) := by decide +kernel
theorem dX5_init_8 : decode cX5_init 8 = .ok (.dup, 1) := by decide +kernel
theorem dX5_init_9 : decode cX5_init 9 = .ok (.invokespecial 9, 3) := by decide +kernel
theorem dX5_init_12 : decode cX5_init 12 = .ok (.putfield 10, 3) := by decide +kernel
theorem dX5_init_15 : decode cX5_init 15 = .ok (.aload_n 0, 1) := by decide +kernel
theorem dX5_init_16 : decode cX5_init 16 = .ok (.new 16, 3) := by decide +kernel
theorem dX5_init_19 : decode cX5_init 19 = .ok (.dup, 1) := by decide +kernel
theorem dX5_init_20 : decode cX5_init 20 = .ok (.invokespecial 18, 3) := by decide +kernel
theorem dX5_init_23 : decode cX5_init 23 = .ok (.putfield 19, 3) := by decide +kernel
theorem dX5_init_26 : decode cX5_init 26 = .ok (.aload_n 0, 1) := by decide +kernel
theorem dX5_init_27 : decode cX5_init 27 = .ok (.new 23, 3) := by decide +kernel
theorem dX5_init_30 : decode cX5_init 30 = .ok (.dup, 1) := by decide +kernel
theorem dX5_init_31 : decode cX5_init 31 = .ok (.aload_n 0, 1) := by decide +kernel
theorem dX5_init_32 : decode cX5_init 32 = .ok (.getfield 10, 3) := by decide +kernel
theorem dX5_init_35 : decode cX5_init 35 = .ok (.aload_n 0, 1) := by decide +kernel
theorem dX5_init_36 : decode cX5_init 36 = .ok (.getfield 19, 3) := by decide +kernel
theorem dX5_init_39 : decode cX5_init 39 = .ok (.invokespecial 25, 3) := by decide +kernel
theorem dX5_init_42 : decode cX5_init 42 = .ok (.putfield 28, 3) := by decide +kernel
theorem dX5_init_45 : decode cX5_init 45 = .ok (.aload_n 0, 1) := by decide +kernel
theorem dX5_init_46 : decode cX5_init 46 = .ok (.new 32, 3) := by decide +kernel
theorem dX5_init_49 : decode cX5_init 49 = .ok (.dup, 1) := by decide +kernel
theorem dX5_init_50 : decode cX5_init 50 = .ok (.invokespecial 34, 3) := by decide +kernel
theorem dX5_init_53 : decode cX5_init 53 = .ok (.putfield 35, 3) := by decide +kernel
theorem dX5_init_56 : decode cX5_init 56 = .ok (.return_, 1) := by decide +kernel
set_option maxRecDepth 20000 in
theorem ggX5_command_X0_begin : GoodIn wsX5_command wsX0_begin := goodIn_r _ [6, 7, 8, 9, 10, 11, 12, 13, 14, 15, 16, 17, 18, 19, 5, 20, 21, 22, 23, 24, 25, 26, 27, 28, 29, 30, 31, 32, 33, 34, 35, 36, 37, 38, 39, 40, 41, 42, 43, 44, 45, 46, 51, 52, 53, 54, 55, 56, 57, 58, 59, 60, 61, 62, 63, 64, 65, 66, 67, 68, 69, 70, 71, 72, 73, 74, 75, 76, 77, 78, 79, 80] (by decide +kernel) (by decide +kernel)
set_option maxRecDepth 20000 in
theorem gX5_command_X0_begin : GoodIn wsX5_command (wsV RX5 39 RX0 yX0_begin wsX0_begin) := goodIn_app (goodIn_of _ (by decide +kernel)) ggX5_command_X0_begin
theorem dX5_command_0 : decode cX5_command 0 = .ok (.aload_n 0, 1) := by decide +kernel
theorem dX5_command_1 : decode cX5_command 1 = .ok (.getfield 28, 3) := by decide +kernel
theorem dX5_command_4 : decode cX5_command 4 = .ok (.iload_n 1, 1) := by decide +kernel
theorem dX5_command_5 : decode cX5_command 5 = .ok (.iload_n 2, 1) := by decide +kernel
theorem dX5_command_6 : decode cX5_command 6 = .ok (.invokevirtual 39, 3) := by decide +kernel
theorem dX5_command_9 : decode cX5_command 9 = .ok (.ireturn, 1) := by decide +kernel
set_option maxRecDepth 20000 in
theorem ggX5_force_X0_has : GoodIn wsX5_force wsX0_has := goodIn_r _ [6, 7, 24, 25, 26, 27, 28, 29, 30, 31, 32, 33, 34, 35] (by decide +kernel) (by decide +kernel)
set_option maxRecDepth 20000 in
theorem gX5_force_X0_has : GoodIn wsX5_force (wsV RX5 43 RX0 yX0_has wsX0_has) := goodIn_app (goodIn_of _ (by decide +kernel)) ggX5_force_X0_has
set_option maxRecDepth 20000 in
theorem ggX5_force_X0_end : GoodIn wsX5_force wsX0_end := goodIn_r _ [11, 7, 12, 13, 14, 15, 16, 17, 18, 19, 24, 25, 26, 27, 28, 29, 30, 31, 32, 33, 34, 35, 36, 37, 38, 39, 40, 41, 42, 43, 44, 45, 46, 47, 48, 49] (by decide +kernel) (by decide +kernel)
set_option maxRecDepth 20000 in
theorem gX5_force_X0_end : GoodIn wsX5_force (wsV RX5 47 RX0 yX0_end wsX0_end) := goodIn_app (goodIn_of _ (by decide +kernel)) ggX5_force_X0_end
theorem dX5_force_0 : decode cX5_force 0 = .ok (.aload_n 0, 1) := by decide +kernel
theorem dX5_force_1 : decode cX5_force 1 = .ok (.getfield 28, 3) := by decide +kernel
theorem dX5_force_4 : decode cX5_force 4 = .ok (.iconst 1, 1) := by decide +kernel
theorem dX5_force_5 : decode cX5_force 5 = .ok (.invokevirtual 43, 3) := by decide +kernel
theorem dX5_force_8 : decode cX5_force 8 = .ok (.ifCond .ne 5, 3) := by decide +kernel
theorem dX5_force_11 : decode cX5_force 11 = .ok (.iconst 0, 1) := by decide +kernel
theorem dX5_force_12 : decode cX5_force 12 = .ok (.ireturn, 1) := by decide +kernel
theorem dX5_force_13 : decode cX5_force 13 = .ok (.aload_n 0, 1) := by decide +kernel
theorem dX5_force_14 : decode cX5_force 14 = .ok (.getfield 28, 3) := by decide +kernel
theorem dX5_force_17 : decode cX5_force 17 = .ok (.invokevirtual 47, 3) := by decide +kernel
theorem dX5_force_20 : decode cX5_force 20 = .ok (.iconst 1, 1) := by decide +kernel
theorem dX5_force_21 : decode cX5_force 21 = .ok (.ireturn, 1) := by decide +kernel
set_option maxRecDepth 20000 in
theorem ggX5_set_X5_isByte : GoodIn wsX5_set wsX5_isByte := goodIn_r _ [5] (by decide +kernel) (by decide +kernel)
set_option maxRecDepth 20000 in
theorem gX5_set_X5_isByte : GoodIn wsX5_set (va_wsS RX5 50 yX5_isByte wsX5_isByte) := goodIn_app (goodIn_of _ (by decide +kernel)) ggX5_set_X5_isByte
set_option maxRecDepth 20000 in
theorem ggX5_set_X0_has : GoodIn wsX5_set wsX0_has := goodIn_r _ [10, 11, 16, 17, 18, 19, 20, 21, 22, 23, 24, 25, 26, 27] (by decide +kernel) (by decide +kernel)
set_option maxRecDepth 20000 in
theorem gX5_set_X0_has : GoodIn wsX5_set (wsV RX5 43 RX0 yX0_has wsX0_has) := goodIn_app (goodIn_of _ (by decide +kernel)) ggX5_set_X0_has
theorem dX5_set_0 : decode cX5_set 0 = .ok (.iload_n 2, 1) := by decide +kernel
theorem dX5_set_1 : decode cX5_set 1 = .ok (.invokestatic 50, 3) := by decide +kernel
theorem dX5_set_4 : decode cX5_set 4 = .ok (.ifCond .eq 14, 3) := by decide +kernel
theorem dX5_set_7 : decode cX5_set 7 = .ok (.aload_n 0, 1) := by decide +kernel
theorem dX5_set_8 : decode cX5_set 8 = .ok (.getfield 28, 3) := by decide +kernel
theorem dX5_set_11 : decode cX5_set 11 = .ok (.iconst 1, 1) := by decide +kernel
theorem dX5_set_12 : decode cX5_set 12 = .ok (.invokevirtual 43, 3) := by decide +kernel
theorem dX5_set_15 : decode cX5_set 15 = .ok (.ifCond .eq 5, 3) := by decide +kernel
theorem dX5_set_18 : decode cX5_set 18 = .ok (.iconst 0, 1) := by decide +kernel
theorem dX5_set_19 : decode cX5_set 19 = .ok (.ireturn, 1) := by decide +kernel
theorem dX5_set_20 : decode cX5_set 20 = .ok (.iload_n 1, 1) := by decide +kernel
theorem dX5_set_21 : decode cX5_set 21 = .ok (.ifCond .ne 13, 3) := by decide +kernel
theorem dX5_set_24 : decode cX5_set 24 = .ok (.aload_n 0, 1) := by decide +kernel
theorem dX5_set_25 : decode cX5_set 25 = .ok (.getfield 28, 3) := by decide +kernel
theorem dX5_set_28 : decode cX5_set 28 = .ok (.iload_n 2, 1) := by decide +kernel
theorem dX5_set_29 : decode cX5_set 29 = .ok (.putfield 53, 3) := by decide +kernel
theorem dX5_set_32 : decode cX5_set 32 = .ok (.iconst 1, 1) := by decide +kernel
theorem dX5_set_33 : decode cX5_set 33 = .ok (.ireturn, 1) := by decide +kernel
theorem dX5_set_34 : decode cX5_set 34 = .ok (.iload_n 1, 1) := by decide +kernel
theorem dX5_set_35 : decode cX5_set 35 = .ok (.iconst 1, 1) := by decide +kernel
theorem dX5_set_36 : decode cX5_set 36 = .ok (.if_icmp .ne 13, 3) := by decide +kernel
theorem dX5_set_39 : decode cX5_set 39 = .ok (.aload_n 0, 1) := by decide +kernel
theorem dX5_set_40 : decode cX5_set 40 = .ok (.getfield 28, 3) := by decide +kernel
theorem dX5_set_43 : decode cX5_set 43 = .ok (.iload_n 2, 1) := by decide +kernel
theorem dX5_set_44 : decode cX5_set 44 = .ok (.putfield 57, 3) := by decide +kernel
theorem dX5_set_47 : decode cX5_set 47 = .ok (.iconst 1, 1) := by decide +kernel
theorem dX5_set_48 : decode cX5_set 48 = .ok (.ireturn, 1) := by decide +kernel
theorem dX5_set_49 : decode cX5_set 49 = .ok (.iconst 0, 1) := by decide +kernel
theorem dX5_set_50 : decode cX5_set 50 = .ok (.ireturn, 1) := by decide +kernel
set_option maxRecDepth 20000 in
theorem ggX5_give_X5_isByte : GoodIn wsX5_give wsX5_isByte := goodIn_r _ [5] (by decide +kernel) (by decide +kernel)
set_option maxRecDepth 20000 in
theorem gX5_give_X5_isByte : GoodIn wsX5_give (va_wsS RX5 50 yX5_isByte wsX5_isByte) := goodIn_app (goodIn_of _ (by decide +kernel)) ggX5_give_X5_isByte
set_option maxRecDepth 20000 in
theorem ggX5_give_X0_acceptData : GoodIn wsX5_give wsX0_acceptData := goodIn_r _ [10, 11, 12, 17, 18, 19, 20, 21, 22, 23, 24, 25, 26, 27, 28] (by decide +kernel) (by decide +kernel)
set_option maxRecDepth 20000 in
theorem gX5_give_X0_acceptData : GoodIn wsX5_give (wsV RX5 60 RX0 yX0_acceptData wsX0_acceptData) := goodIn_app (goodIn_of _ (by decide +kernel)) ggX5_give_X0_acceptData
theorem dX5_give_0 : decode cX5_give 0 = .ok (.iload_n 1, 1) := by decide +kernel
theorem dX5_give_1 : decode cX5_give 1 = .ok (.invokestatic 50, 3) := by decide +kernel
theorem dX5_give_4 : decode cX5_give 4 = .ok (.ifCond .ne 5, 3) := by decide +kernel
theorem dX5_give_7 : decode cX5_give 7 = .ok (.iconst 0, 1) := by decide +kernel
theorem dX5_give_8 : decode cX5_give 8 = .ok (.ireturn, 1) := by decide +kernel
theorem dX5_give_9 : decode cX5_give 9 = .ok (.aload_n 0, 1) := by decide +kernel
theorem dX5_give_10 : decode cX5_give 10 = .ok (.getfield 28, 3) := by decide +kernel
theorem dX5_give_13 : decode cX5_give 13 = .ok (.iload_n 1, 1) := by decide +kernel
theorem dX5_give_14 : decode cX5_give 14 = .ok (.invokevirtual 60, 3) := by decide +kernel
theorem dX5_give_17 : decode cX5_give 17 = .ok (.iconst 1, 1) := by decide +kernel
theorem dX5_give_18 : decode cX5_give 18 = .ok (.ireturn, 1) := by decide +kernel
set_option maxRecDepth 20000 in
theorem ggX5_take_X0_handOutData : GoodIn wsX5_take wsX0_handOutData := goodIn_r _ [6, 7, 8, 13, 14, 15, 16, 17, 18, 19, 20, 21, 22, 23, 24] (by decide +kernel) (by decide +kernel)
set_option maxRecDepth 20000 in
theorem gX5_take_X0_handOutData : GoodIn wsX5_take (wsV RX5 64 RX0 yX0_handOutData wsX0_handOutData) := goodIn_app (goodIn_of _ (by decide +kernel)) ggX5_take_X0_handOutData
theorem dX5_take_0 : decode cX5_take 0 = .ok (.aload_n 0, 1) := by decide +kernel
theorem dX5_take_1 : decode cX5_take 1 = .ok (.getfield 28, 3) := by decide +kernel
theorem dX5_take_4 : decode cX5_take 4 = .ok (.invokevirtual 64, 3) := by decide +kernel
theorem dX5_take_7 : decode cX5_take 7 = .ok (.ireturn, 1) := by decide +kernel
set_option maxRecDepth 20000 in
theorem ggX5_run_X0_passByteTime : GoodIn wsX5_run wsX0_passByteTime := goodIn_r _ [6, 7, 8, 9, 10, 11, 5, 12, 13, 14, 15, 16, 17, 18, 19, 20, 21, 22, 23, 24, 25, 26, 27, 28, 29, 30, 31, 32, 33, 34, 35, 36, 37, 38, 39, 40, 41, 42, 43, 44, 45, 46, 47, 48, 49, 50, 51, 52, 53, 54, 55, 56, 57, 58, 59, 60, 61, 62, 63, 64, 65, 66, 67, 68, 69, 70, 71, 72, 73, 74, 75, 76, 77, 78, 79, 80, 81, 82, 83, 84, 85, 86, 87, 88, 89, 90, 91, 92, 93, 94, 95, 96, 97, 98, 99, 100, 101, 102, 103, 104, 105, 106, 107, 108, 109, 110, 111, 112, 113, 114, 115, 116, 117, 118, 119, 120, 121, 122, 123, 124, 125, 126, 127, 128, 129, 130, 131, 132, 133, 134, 135, 136, 137, 138, 139, 140, 141, 142, 143, 144, 145, 146, 147, 148, 149, 150, 151, 152, 153, 154, 155, 156, 157, 158, 159, 160, 161, 162, 163, 164, 165, 166, 167, 168, 169, 170, 171, 172, 173, 174, 175, 176, 177, 178, 179, 180, 181, 182, 183, 184, 185, 186, 187, 188, 189, 190, 191, 192, 193, 194, 195, 196, 197, 198, 199, 200, 201, 202, 203, 204, 205, 206, 207, 208, 209, 210, 211, 212, 213, 214, 215, 216, 221, 222, 223, 224, 225, 226, 227, 228, 229, 230, 231, 232, 233, 234, 235, 236, 237, 238, 239, 240, 241, 242, 243, 244, 245, 246, 247, 248, 249, 250, 251, 252, 253, 254, 255, 256, 257] (by decide +kernel) (by decide +kernel)
set_option maxRecDepth 20000 in
theorem gX5_run_X0_passByteTime : GoodIn wsX5_run (wsV RX5 68 RX0 yX0_passByteTime wsX0_passByteTime) := goodIn_app (goodIn_of _ (by decide +kernel)) ggX5_run_X0_passByteTime
theorem dX5_run_0 : decode cX5_run 0 = .ok (.iload_n 1, 1) := by decide +kernel
theorem dX5_run_1 : decode cX5_run 1 = .ok (.ifCond .lt 10, 3) := by decide +kernel
theorem dX5_run_4 : decode cX5_run 4 = .ok (.iload_n 1, 1) := by decide +kernel
theorem dX5_run_5 : decode cX5_run 5 = .ok (.sipush 200, 3) := by decide +kernel
theorem dX5_run_8 : decode cX5_run 8 = .ok (.if_icmp .le 5, 3) := by decide +kernel
theorem dX5_run_11 : decode cX5_run 11 = .ok (.iconst (-1), 1) := by decide +kernel
theorem dX5_run_12 : decode cX5_run 12 = .ok (.ireturn, 1) := by decide +kernel
theorem dX5_run_13 : decode cX5_run 13 = .ok (.iconst 0, 1) := by decide +kernel
theorem dX5_run_14 : decode cX5_run 14 = .ok (.istore_n 2, 1) := by decide +kernel
theorem dX5_run_15 : decode cX5_run 15 = .ok (.iconst 0, 1) := by decide +kernel
theorem dX5_run_16 : decode cX5_run 16 = .ok (.istore_n 3, 1) := by decide +kernel
theorem dX5_run_17 : decode cX5_run 17 = .ok (.iload_n 3, 1) := by decide +kernel
theorem dX5_run_18 : decode cX5_run 18 = .ok (.iload_n 1, 1) := by decide +kernel
theorem dX5_run_19 : decode cX5_run 19 = .ok (.if_icmp .ge 22, 3) := by decide +kernel
theorem dX5_run_22 : decode cX5_run 22 = .ok (.aload_n 0, 1) := by decide +kernel
theorem dX5_run_23 : decode cX5_run 23 = .ok (.getfield 28, 3) := by decide +kernel
theorem dX5_run_26 : decode cX5_run 26 = .ok (.invokevirtual 68, 3) := by decide +kernel
theorem dX5_run_29 : decode cX5_run 29 = .ok (.ifCond .eq 6, 3) := by decide +kernel
theorem dX5_run_32 : decode cX5_run 32 = .ok (.iinc 2 1, 3) := by decide +kernel
theorem dX5_run_35 : decode cX5_run 35 = .ok (.iinc 3 1, 3) := by decide +kernel
theorem dX5_run_38 : decode cX5_run 38 = .ok (.goto (-21), 3) := by decide +kernel
theorem dX5_run_41 : decode cX5_run 41 = .ok (.iload_n 2, 1) := by decide +kernel
theorem dX5_run_42 : decode cX5_run 42 = .ok (.ireturn, 1) := by decide +kernel
set_option maxRecDepth 20000 in
theorem ggX5_serve_X0_passByteTime : GoodIn wsX5_serve wsX0_passByteTime := goodIn_r _ [6, 7, 8, 9, 10, 11, 5, 12, 13, 14, 15, 16, 17, 18, 19, 20, 21, 22, 23, 24, 25, 26, 27, 28, 29, 30, 31, 32, 33, 34, 35, 36, 37, 38, 39, 40, 41, 42, 43, 44, 45, 46, 47, 48, 49, 50, 51, 52, 53, 54, 55, 56, 57, 58, 59, 60, 61, 62, 63, 64, 65, 66, 67, 68, 69, 70, 71, 72, 73, 74, 75, 76, 77, 78, 79, 80, 81, 82, 83, 84, 85, 86, 87, 88, 89, 90, 91, 92, 93, 94, 95, 96, 97, 98, 99, 100, 101, 102, 103, 104, 105, 106, 107, 108, 109, 110, 111, 112, 113, 114, 115, 116, 117, 118, 119, 120, 121, 122, 123, 124, 125, 126, 127, 128, 129, 130, 131, 132, 133, 134, 135, 136, 137, 138, 139, 140, 141, 142, 143, 144, 145, 146, 147, 148, 149, 150, 151, 152, 153, 154, 155, 156, 157, 158, 159, 160, 161, 162, 163, 164, 165, 166, 167, 168, 169, 170, 171, 172, 173, 174, 175, 176, 177, 178, 179, 180, 181, 182, 183, 184, 185, 186, 187, 188, 189, 190, 191, 192, 193, 194, 195, 196, 197, 198, 199, 200, 201, 202, 203, 204, 205, 206, 207, 208, 209, 210, 211, 212, 213, 214, 215, 216, 251, 252, 253, 254, 255, 256, 257, 258, 259, 260, 261, 262, 263, 264, 265, 266, 267, 268, 269, 270, 271, 272, 273, 274, 275, 276, 277, 278, 279, 280, 281, 282, 283, 284, 285, 286, 287] (by decide +kernel) (by decide +kernel)
set_option maxRecDepth 20000 in
theorem gX5_serve_X0_passByteTime : GoodIn wsX5_serve (wsV RX5 68 RX0 yX0_passByteTime wsX0_passByteTime) := goodIn_app (goodIn_of _ (by decide +kernel)) ggX5_serve_X0_passByteTime
set_option maxRecDepth 20000 in
theorem ggX5_serve_X0_has : GoodIn wsX5_serve wsX0_has := goodIn_r _ [49, 20, 251, 252, 253, 254, 255, 256, 257, 258, 259, 260, 261, 262] (by decide +kernel) (by decide +kernel)
set_option maxRecDepth 20000 in
theorem gX5_serve_X0_has : GoodIn wsX5_serve (wsV RX5 43 RX0 yX0_has wsX0_has) := goodIn_app (goodIn_of _ (by decide +kernel)) ggX5_serve_X0_has
set_option maxRecDepth 20000 in
theorem ggX5_serve_X5_serveOneByte : GoodIn wsX5_serve wsX5_serveOneByte := goodIn_r _ [221, 1, 222, 223, 224, 225, 5, 226, 20, 45, 227, 228, 229, 230, 231, 232, 233, 234, 235, 236, 237, 238, 239, 240, 241, 242, 243, 244, 245, 246, 247, 248, 249, 250, 251, 252, 253, 254, 255, 256, 257, 258, 259, 260, 261, 262, 288, 289, 290] (by decide +kernel) (by decide +kernel)
set_option maxRecDepth 20000 in
theorem gX5_serve_X5_serveOneByte : GoodIn wsX5_serve (wsV RX5 72 RX5 yX5_serveOneByte wsX5_serveOneByte) := goodIn_app (goodIn_of _ (by decide +kernel)) ggX5_serve_X5_serveOneByte
theorem dX5_serve_0 : decode cX5_serve 0 = .ok (.iload_n 1, 1) := by decide +kernel
theorem dX5_serve_1 : decode cX5_serve 1 = .ok (.ifCond .lt 10, 3) := by decide +kernel
theorem dX5_serve_4 : decode cX5_serve 4 = .ok (.iload_n 1, 1) := by decide +kernel
theorem dX5_serve_5 : decode cX5_serve 5 = .ok (.sipush 200, 3) := by decide +kernel
theorem dX5_serve_8 : decode cX5_serve 8 = .ok (.if_icmp .le 5, 3) := by decide +kernel
theorem dX5_serve_11 : decode cX5_serve 11 = .ok (.iconst (-1), 1) := by decide +kernel
theorem dX5_serve_12 : decode cX5_serve 12 = .ok (.ireturn, 1) := by decide +kernel
theorem dX5_serve_13 : decode cX5_serve 13 = .ok (.iconst 0, 1) := by decide +kernel
theorem dX5_serve_14 : decode cX5_serve 14 = .ok (.istore_n 2, 1) := by decide +kernel
theorem dX5_serve_15 : decode cX5_serve 15 = .ok (.iconst 0, 1) := by decide +kernel
theorem dX5_serve_16 : decode cX5_serve 16 = .ok (.istore_n 3, 1) := by decide +kernel
theorem dX5_serve_17 : decode cX5_serve 17 = .ok (.iload_n 3, 1) := by decide +kernel
theorem dX5_serve_18 : decode cX5_serve 18 = .ok (.iload_n 1, 1) := by decide +kernel
theorem dX5_serve_19 : decode cX5_serve 19 = .ok (.if_icmp .ge 35, 3) := by decide +kernel
theorem dX5_serve_22 : decode cX5_serve 22 = .ok (.aload_n 0, 1) := by decide +kernel
theorem dX5_serve_23 : decode cX5_serve 23 = .ok (.getfield 28, 3) := by decide +kernel
theorem dX5_serve_26 : decode cX5_serve 26 = .ok (.invokevirtual 68, 3) := by decide +kernel
theorem dX5_serve_29 : decode cX5_serve 29 = .ok (.pop, 1) := by decide +kernel
theorem dX5_serve_30 : decode cX5_serve 30 = .ok (.aload_n 0, 1) := by decide +kernel
theorem dX5_serve_31 : decode cX5_serve 31 = .ok (.getfield 28, 3) := by decide +kernel
theorem dX5_serve_34 : decode cX5_serve 34 = .ok (.iconst 2, 1) := by decide +kernel
theorem dX5_serve_35 : decode cX5_serve 35 = .ok (.invokevirtual 43, 3) := by decide +kernel
theorem dX5_serve_38 : decode cX5_serve 38 = .ok (.ifCond .eq 10, 3) := by decide +kernel
theorem dX5_serve_41 : decode cX5_serve 41 = .ok (.aload_n 0, 1) := by decide +kernel
theorem dX5_serve_42 : decode cX5_serve 42 = .ok (.invokevirtual 72, 3) := by decide +kernel
theorem dX5_serve_45 : decode cX5_serve 45 = .ok (.iinc 2 1, 3) := by decide +kernel
theorem dX5_serve_48 : decode cX5_serve 48 = .ok (.iinc 3 1, 3) := by decide +kernel
theorem dX5_serve_51 : decode cX5_serve 51 = .ok (.goto (-34), 3) := by decide +kernel
theorem dX5_serve_54 : decode cX5_serve 54 = .ok (.iload_n 2, 1) := by decide +kernel
theorem dX5_serve_55 : decode cX5_serve 55 = .ok (.ireturn, 1) := by decide +kernel
set_option maxRecDepth 20000 in
theorem ggX5_serveOneByte_X0_handOutData : GoodIn wsX5_serveOneByte wsX0_handOutData := goodIn_r _ [7, 8, 9, 34, 35, 36, 37, 38, 39, 40, 41, 42, 43, 44, 45] (by decide +kernel) (by decide +kernel)
set_option maxRecDepth 20000 in
theorem gX5_serveOneByte_X0_handOutData : GoodIn wsX5_serveOneByte (wsV RX5 64 RX0 yX0_handOutData wsX0_handOutData) := goodIn_app (goodIn_of _ (by decide +kernel)) ggX5_serveOneByte_X0_handOutData
set_option maxRecDepth 20000 in
theorem ggX5_serveOneByte_X3_append : GoodIn wsX5_serveOneByte wsX3_append := goodIn_r _ [14, 15, 16, 46, 47, 48] (by decide +kernel) (by decide +kernel)
set_option maxRecDepth 20000 in
theorem gX5_serveOneByte_X3_append : GoodIn wsX5_serveOneByte (wsV RX5 78 RX3 yX3_append wsX3_append) := goodIn_app (goodIn_of _ (by decide +kernel)) ggX5_serveOneByte_X3_append
set_option maxRecDepth 20000 in
theorem ggX5_serveOneByte_X3_nextByte : GoodIn wsX5_serveOneByte wsX3_nextByte := goodIn_r _ [20, 21, 22, 23, 24, 13, 25, 15, 16, 46, 47, 48] (by decide +kernel) (by decide +kernel)
set_option maxRecDepth 20000 in
theorem gX5_serveOneByte_X3_nextByte : GoodIn wsX5_serveOneByte (wsV RX5 81 RX3 yX3_nextByte wsX3_nextByte) := goodIn_app (goodIn_of _ (by decide +kernel)) ggX5_serveOneByte_X3_nextByte
set_option maxRecDepth 20000 in
theorem ggX5_serveOneByte_X0_acceptData : GoodIn wsX5_serveOneByte wsX0_acceptData := goodIn_r _ [29, 9, 8, 34, 35, 36, 37, 38, 39, 40, 41, 42, 43, 44, 45] (by decide +kernel) (by decide +kernel)
set_option maxRecDepth 20000 in
theorem gX5_serveOneByte_X0_acceptData : GoodIn wsX5_serveOneByte (wsV RX5 60 RX0 yX0_acceptData wsX0_acceptData) := goodIn_app (goodIn_of _ (by decide +kernel)) ggX5_serveOneByte_X0_acceptData
theorem dX5_serveOneByte_0 : decode cX5_serveOneByte 0 = .ok (.aload_n 0, 1) := by decide +kernel
theorem dX5_serveOneByte_1 : decode cX5_serveOneByte 1 = .ok (.getfield 28, 3) := by decide +kernel
theorem dX5_serveOneByte_4 : decode cX5_serveOneByte 4 = .ok (.getfield 75, 3) := by decide +kernel
theorem dX5_serveOneByte_7 : decode cX5_serveOneByte 7 = .ok (.iconst 2, 1) := by decide +kernel
theorem dX5_serveOneByte_8 : decode cX5_serveOneByte 8 = .ok (.if_icmp .eq 14, 3) := by decide +kernel
theorem dX5_serveOneByte_11 : decode cX5_serveOneByte 11 = .ok (.aload_n 0, 1) := by decide +kernel
theorem dX5_serveOneByte_12 : decode cX5_serveOneByte 12 = .ok (.getfield 28, 3) := by decide +kernel
theorem dX5_serveOneByte_15 : decode cX5_serveOneByte 15 = .ok (.getfield 75, 3) := by decide +kernel
theorem dX5_serveOneByte_18 : decode cX5_serveOneByte 18 = .ok (.iconst 4, 1) := by decide +kernel
theorem dX5_serveOneByte_19 : decode cX5_serveOneByte 19 = .ok (.if_icmp .ne 20, 3) := by decide +kernel
theorem dX5_serveOneByte_22 : decode cX5_serveOneByte 22 = .ok (.aload_n 0, 1) := by decide +kernel
theorem dX5_serveOneByte_23 : decode cX5_serveOneByte 23 = .ok (.getfield 35, 3) := by decide +kernel
theorem dX5_serveOneByte_26 : decode cX5_serveOneByte 26 = .ok (.aload_n 0, 1) := by decide +kernel
theorem dX5_serveOneByte_27 : decode cX5_serveOneByte 27 = .ok (.getfield 28, 3) := by decide +kernel
theorem dX5_serveOneByte_30 : decode cX5_serveOneByte 30 = .ok (.invokevirtual 64, 3) := by decide +kernel
theorem dX5_serveOneByte_33 : decode cX5_serveOneByte 33 = .ok (.invokevirtual 78, 3) := by decide +kernel
theorem dX5_serveOneByte_36 : decode cX5_serveOneByte 36 = .ok (.goto 17, 3) := by decide +kernel
theorem dX5_serveOneByte_39 : decode cX5_serveOneByte 39 = .ok (.aload_n 0, 1) := by decide +kernel
theorem dX5_serveOneByte_40 : decode cX5_serveOneByte 40 = .ok (.getfield 28, 3) := by decide +kernel
theorem dX5_serveOneByte_43 : decode cX5_serveOneByte 43 = .ok (.aload_n 0, 1) := by decide +kernel
theorem dX5_serveOneByte_44 : decode cX5_serveOneByte 44 = .ok (.getfield 35, 3) := by decide +kernel
theorem dX5_serveOneByte_47 : decode cX5_serveOneByte 47 = .ok (.invokevirtual 81, 3) := by decide +kernel
theorem dX5_serveOneByte_50 : decode cX5_serveOneByte 50 = .ok (.invokevirtual 60, 3) := by decide +kernel
theorem dX5_serveOneByte_53 : decode cX5_serveOneByte 53 = .ok (.return_, 1) := by decide +kernel
set_option maxRecDepth 20000 in
theorem ggX5_clear_X3_makeEmpty : GoodIn wsX5_clear wsX3_makeEmpty := goodIn_r _ [6, 7, 8, 13, 14, 15] (by decide +kernel) (by decide +kernel)
set_option maxRecDepth 20000 in
theorem gX5_clear_X3_makeEmpty : GoodIn wsX5_clear (wsV RX5 84 RX3 yX3_makeEmpty wsX3_makeEmpty) := goodIn_app (goodIn_of _ (by decide +kernel)) ggX5_clear_X3_makeEmpty
theorem dX5_clear_0 : decode cX5_clear 0 = .ok (.aload_n 0, 1) := by decide +kernel
theorem dX5_clear_1 : decode cX5_clear 1 = .ok (.getfield 35, 3) := by decide +kernel
theorem dX5_clear_4 : decode cX5_clear 4 = .ok (.invokevirtual 84, 3) := by decide +kernel
theorem dX5_clear_7 : decode cX5_clear 7 = .ok (.return_, 1) := by decide +kernel
set_option maxRecDepth 20000 in
theorem ggX5_fill_X5_isByte : GoodIn wsX5_fill wsX5_isByte := goodIn_r _ [5] (by decide +kernel) (by decide +kernel)
set_option maxRecDepth 20000 in
theorem gX5_fill_X5_isByte : GoodIn wsX5_fill (va_wsS RX5 50 yX5_isByte wsX5_isByte) := goodIn_app (goodIn_of _ (by decide +kernel)) ggX5_fill_X5_isByte
set_option maxRecDepth 20000 in
theorem ggX5_fill_X3_hasRoomFor : GoodIn wsX5_fill wsX3_hasRoomFor := goodIn_r _ [10, 11, 21, 22, 23] (by decide +kernel) (by decide +kernel)
set_option maxRecDepth 20000 in
theorem gX5_fill_X3_hasRoomFor : GoodIn wsX5_fill (wsV RX5 87 RX3 yX3_hasRoomFor wsX3_hasRoomFor) := goodIn_app (goodIn_of _ (by decide +kernel)) ggX5_fill_X3_hasRoomFor
set_option maxRecDepth 20000 in
theorem ggX5_fill_X3_append : GoodIn wsX5_fill wsX3_append := goodIn_r _ [15, 11, 16, 21, 22, 23] (by decide +kernel) (by decide +kernel)
set_option maxRecDepth 20000 in
theorem gX5_fill_X3_append : GoodIn wsX5_fill (wsV RX5 78 RX3 yX3_append wsX3_append) := goodIn_app (goodIn_of _ (by decide +kernel)) ggX5_fill_X3_append
theorem dX5_fill_0 : decode cX5_fill 0 = .ok (.iload_n 1, 1) := by decide +kernel
theorem dX5_fill_1 : decode cX5_fill 1 = .ok (.invokestatic 50, 3) := by decide +kernel
theorem dX5_fill_4 : decode cX5_fill 4 = .ok (.ifCond .eq 25, 3) := by decide +kernel
theorem dX5_fill_7 : decode cX5_fill 7 = .ok (.iload_n 2, 1) := by decide +kernel
theorem dX5_fill_8 : decode cX5_fill 8 = .ok (.iconst 1, 1) := by decide +kernel
theorem dX5_fill_9 : decode cX5_fill 9 = .ok (.if_icmp .lt 20, 3) := by decide +kernel
theorem dX5_fill_12 : decode cX5_fill 12 = .ok (.iload_n 2, 1) := by decide +kernel
theorem dX5_fill_13 : decode cX5_fill 13 = .ok (.bipush 100, 2) := by decide +kernel
theorem dX5_fill_15 : decode cX5_fill 15 = .ok (.if_icmp .gt 14, 3) := by decide +kernel
theorem dX5_fill_18 : decode cX5_fill 18 = .ok (.aload_n 0, 1) := by decide +kernel
theorem dX5_fill_19 : decode cX5_fill 19 = .ok (.getfield 35, 3) := by decide +kernel
theorem dX5_fill_22 : decode cX5_fill 22 = .ok (.iload_n 2, 1) := by decide +kernel
theorem dX5_fill_23 : decode cX5_fill 23 = .ok (.invokevirtual 87, 3) := by decide +kernel
theorem dX5_fill_26 : decode cX5_fill 26 = .ok (.ifCond .ne 5, 3) := by decide +kernel
theorem dX5_fill_29 : decode cX5_fill 29 = .ok (.iconst 0, 1) := by decide +kernel
theorem dX5_fill_30 : decode cX5_fill 30 = .ok (.ireturn, 1) := by decide +kernel
theorem dX5_fill_31 : decode cX5_fill 31 = .ok (.iconst 0, 1) := by decide +kernel
theorem dX5_fill_32 : decode cX5_fill 32 = .ok (.istore_n 3, 1) := by decide +kernel
theorem dX5_fill_33 : decode cX5_fill 33 = .ok (.iload_n 3, 1) := by decide +kernel
theorem dX5_fill_34 : decode cX5_fill 34 = .ok (.iload_n 2, 1) := by decide +kernel
theorem dX5_fill_35 : decode cX5_fill 35 = .ok (.if_icmp .ge 17, 3) := by decide +kernel
theorem dX5_fill_38 : decode cX5_fill 38 = .ok (.aload_n 0, 1) := by decide +kernel
theorem dX5_fill_39 : decode cX5_fill 39 = .ok (.getfield 35, 3) := by decide +kernel
theorem dX5_fill_42 : decode cX5_fill 42 = .ok (.iload_n 1, 1) := by decide +kernel
theorem dX5_fill_43 : decode cX5_fill 43 = .ok (.invokevirtual 78, 3) := by decide +kernel
theorem dX5_fill_46 : decode cX5_fill 46 = .ok (.iinc 3 1, 3) := by decide +kernel
theorem dX5_fill_49 : decode cX5_fill 49 = .ok (.goto (-16), 3) := by decide +kernel
theorem dX5_fill_52 : decode cX5_fill 52 = .ok (.iconst 1, 1) := by decide +kernel
theorem dX5_fill_53 : decode cX5_fill 53 = .ok (.ireturn, 1) := by decide +kernel
set_option maxRecDepth 20000 in
theorem ggX5_buffer_X3_byteAt : GoodIn wsX5_buffer wsX3_byteAt := goodIn_r _ [6, 7, 8, 13, 14, 15] (by decide +kernel) (by decide +kernel)
set_option maxRecDepth 20000 in
theorem gX5_buffer_X3_byteAt : GoodIn wsX5_buffer (wsV RX5 93 RX3 yX3_byteAt wsX3_byteAt) := goodIn_app (goodIn_of _ (by decide +kernel)) ggX5_buffer_X3_byteAt
theorem dX5_buffer_0 : decode cX5_buffer 0 = .ok (.iload_n 1, 1) := by decide +kernel
theorem dX5_buffer_1 : decode cX5_buffer 1 = .ok (.iconst (-1), 1) := by decide +kernel
theorem dX5_buffer_2 : decode cX5_buffer 2 = .ok (.if_icmp .ne 13, 3) := by decide +kernel
theorem dX5_buffer_5 : decode cX5_buffer 5 = .ok (.aload_n 0, 1) := by decide +kernel
theorem dX5_buffer_6 : decode cX5_buffer 6 = .ok (.getfield 35, 3) := by decide +kernel
theorem dX5_buffer_9 : decode cX5_buffer 9 = .ok (.getfield 90, 3) := by decide +kernel
theorem dX5_buffer_12 : decode cX5_buffer 12 = .ok (.goto 11, 3) := by decide +kernel
theorem dX5_buffer_15 : decode cX5_buffer 15 = .ok (.aload_n 0, 1) := by decide +kernel
theorem dX5_buffer_16 : decode cX5_buffer 16 = .ok (.getfield 35, 3) := by decide +kernel
theorem dX5_buffer_19 : decode cX5_buffer 19 = .ok (.iload_n 1, 1) := by decide +kernel
theorem dX5_buffer_20 : decode cX5_buffer 20 = .ok (.invokevirtual 93, 3) := by decide +kernel
theorem dX5_buffer_23 : decode cX5_buffer 23 = .ok (.ireturn, 1) := by decide +kernel
theorem dX5_protect_0 : decode cX5_protect 0 = .ok (.aload_n 0, 1) := by decide +kernel
theorem dX5_protect_1 : decode cX5_protect 1 = .ok (.getfield 10, 3) := by decide +kernel
theorem dX5_protect_4 : decode cX5_protect 4 = .ok (.iload_n 1, 1) := by decide +kernel
theorem dX5_protect_5 : decode cX5_protect 5 = .ok (.putfield 97, 3) := by decide +kernel
theorem dX5_protect_8 : decode cX5_protect 8 = .ok (.return_, 1) := by decide +kernel
set_option maxRecDepth 20000 in
theorem ggX5_spoil_X1_turnOver : GoodIn wsX5_spoil wsX1_turnOver := goodIn_r _ [6, 7, 8, 13, 14, 15, 16] (by decide +kernel) (by decide +kernel)
set_option maxRecDepth 20000 in
theorem gX5_spoil_X1_turnOver : GoodIn wsX5_spoil (wsV RX5 101 RX1 yX1_turnOver wsX1_turnOver) := goodIn_app (goodIn_of _ (by decide +kernel)) ggX5_spoil_X1_turnOver
theorem dX5_spoil_0 : decode cX5_spoil 0 = .ok (.aload_n 0, 1) := by decide +kernel
theorem dX5_spoil_1 : decode cX5_spoil 1 = .ok (.getfield 10, 3) := by decide +kernel
theorem dX5_spoil_4 : decode cX5_spoil 4 = .ok (.iload_n 1, 1) := by decide +kernel
theorem dX5_spoil_5 : decode cX5_spoil 5 = .ok (.iload_n 2, 1) := by decide +kernel
theorem dX5_spoil_6 : decode cX5_spoil 6 = .ok (.invokevirtual 101, 3) := by decide +kernel
theorem dX5_spoil_9 : decode cX5_spoil 9 = .ok (.ireturn, 1) := by decide +kernel
set_option maxRecDepth 20000 in
theorem ggX5_cells_X1_wordAt : GoodIn wsX5_cells wsX1_wordAt := goodIn_r _ [6, 7, 12, 13, 14, 15] (by decide +kernel) (by decide +kernel)
set_option maxRecDepth 20000 in
theorem gX5_cells_X1_wordAt : GoodIn wsX5_cells (wsV RX5 105 RX1 yX1_wordAt wsX1_wordAt) := goodIn_app (goodIn_of _ (by decide +kernel)) ggX5_cells_X1_wordAt
theorem dX5_cells_0 : decode cX5_cells 0 = .ok (.aload_n 0, 1) := by decide +kernel
theorem dX5_cells_1 : decode cX5_cells 1 = .ok (.getfield 10, 3) := by decide +kernel
theorem dX5_cells_4 : decode cX5_cells 4 = .ok (.iload_n 1, 1) := by decide +kernel
theorem dX5_cells_5 : decode cX5_cells 5 = .ok (.iload_n 2, 1) := by decide +kernel
theorem dX5_cells_6 : decode cX5_cells 6 = .ok (.invokevirtual 105, 3) := by decide +kernel
theorem dX5_cells_9 : decode cX5_cells 9 = .ok (.ireturn, 1) := by decide +kernel
theorem dX5_look_0 : decode cX5_look 0 = .ok (.iload_n 1, 1) := by decide +kernel
theorem dX5_look_1 : decode cX5_look 1 = .ok (.tableswitch 119 0 7 #[47, 55, 63, 71, 79, 87, 95, 111], 47) := by decide +kernel
theorem dX5_look_48 : decode cX5_look 48 = .ok (.aload_n 0, 1) := by decide +kernel
theorem dX5_look_49 : decode cX5_look 49 = .ok (.getfield 28, 3) := by decide +kernel
theorem dX5_look_52 : decode cX5_look 52 = .ok (.getfield 109, 3) := by decide +kernel
theorem dX5_look_55 : decode cX5_look 55 = .ok (.ireturn, 1) := by decide +kernel
theorem dX5_look_56 : decode cX5_look 56 = .ok (.aload_n 0, 1) := by decide +kernel
theorem dX5_look_57 : decode cX5_look 57 = .ok (.getfield 28, 3) := by decide +kernel
theorem dX5_look_60 : decode cX5_look 60 = .ok (.getfield 53, 3) := by decide +kernel
theorem dX5_look_63 : decode cX5_look 63 = .ok (.ireturn, 1) := by decide +kernel
theorem dX5_look_64 : decode cX5_look 64 = .ok (.aload_n 0, 1) := by decide +kernel
theorem dX5_look_65 : decode cX5_look 65 = .ok (.getfield 28, 3) := by decide +kernel
theorem dX5_look_68 : decode cX5_look 68 = .ok (.getfield 57, 3) := by decide +kernel
theorem dX5_look_71 : decode cX5_look 71 = .ok (.ireturn, 1) := by decide +kernel
theorem dX5_look_72 : decode cX5_look 72 = .ok (.aload_n 0, 1) := by decide +kernel
theorem dX5_look_73 : decode cX5_look 73 = .ok (.getfield 28, 3) := by decide +kernel
theorem dX5_look_76 : decode cX5_look 76 = .ok (.getfield 112, 3) := by decide +kernel
theorem dX5_look_79 : decode cX5_look 79 = .ok (.ireturn, 1) := by decide +kernel
theorem dX5_look_80 : decode cX5_look 80 = .ok (.aload_n 0, 1) := by decide +kernel
theorem dX5_look_81 : decode cX5_look 81 = .ok (.getfield 10, 3) := by decide +kernel
theorem dX5_look_84 : decode cX5_look 84 = .ok (.getfield 115, 3) := by decide +kernel
theorem dX5_look_87 : decode cX5_look 87 = .ok (.ireturn, 1) := by decide +kernel
theorem dX5_look_88 : decode cX5_look 88 = .ok (.aload_n 0, 1) := by decide +kernel
theorem dX5_look_89 : decode cX5_look 89 = .ok (.getfield 10, 3) := by decide +kernel
theorem dX5_look_92 : decode cX5_look 92 = .ok (.getfield 118, 3) := by decide +kernel
theorem dX5_look_95 : decode cX5_look 95 = .ok (.ireturn, 1) := by decide +kernel
theorem dX5_look_96 : decode cX5_look 96 = .ok (.aload_n 0, 1) := by decide +kernel
theorem dX5_look_97 : decode cX5_look 97 = .ok (.getfield 19, 3) := by decide +kernel
theorem dX5_look_100 : decode cX5_look 100 = .ok (.getfield 121, 3) := by decide +kernel
theorem dX5_look_103 : decode cX5_look 103 = .ok (.ifCond .eq 7, 3) := by decide +kernel
theorem dX5_look_106 : decode cX5_look 106 = .ok (.iconst 1, 1) := by decide +kernel
theorem dX5_look_107 : decode cX5_look 107 = .ok (.goto 4, 3) := by decide +kernel
theorem dX5_look_110 : decode cX5_look 110 = .ok (.iconst 0, 1) := by decide +kernel
theorem dX5_look_111 : decode cX5_look 111 = .ok (.ireturn, 1) := by decide +kernel
theorem dX5_look_112 : decode cX5_look 112 = .ok (.aload_n 0, 1) := by decide +kernel
theorem dX5_look_113 : decode cX5_look 113 = .ok (.getfield 28, 3) := by decide +kernel
theorem dX5_look_116 : decode cX5_look 116 = .ok (.getfield 75, 3) := by decide +kernel
theorem dX5_look_119 : decode cX5_look 119 = .ok (.ireturn, 1) := by decide +kernel
theorem dX5_look_120 : decode cX5_look 120 = .ok (.iconst (-1), 1) := by decide +kernel
theorem dX5_look_121 : decode cX5_look 121 = .ok (.ireturn, 1) := by decide +kernel
theorem dX5_isByte_0 : decode cX5_isByte 0 = .ok (.iload_n 0, 1) := by decide +kernel
theorem dX5_isByte_1 : decode cX5_isByte 1 = .ok (.ifCond .lt 14, 3) := by decide +kernel
theorem dX5_isByte_4 : decode cX5_isByte 4 = .ok (.iload_n 0, 1) := by decide +kernel
theorem dX5_isByte_5 : decode cX5_isByte 5 = .ok (.sipush 255, 3) := by decide +kernel
theorem dX5_isByte_8 : decode cX5_isByte 8 = .ok (.if_icmp .gt 7, 3) := by decide +kernel
theorem dX5_isByte_11 : decode cX5_isByte 11 = .ok (.iconst 1, 1) := by decide +kernel
theorem dX5_isByte_12 : decode cX5_isByte 12 = .ok (.goto 4, 3) := by decide +kernel
theorem dX5_isByte_15 : decode cX5_isByte 15 = .ok (.iconst 0, 1) := by decide +kernel
theorem dX5_isByte_16 : decode cX5_isByte 16 = .ok (.ireturn, 1) := by decide +kernel
theorem dX5_checkWith_0 : decode cX5_checkWith 0 = .ok (.iload_n 0, 1) := by decide +kernel
theorem dX5_checkWith_1 : decode cX5_checkWith 1 = .ok (.iload_n 1, 1) := by decide +kernel
theorem dX5_checkWith_2 : decode cX5_checkWith 2 = .ok (.bipush 8, 2) := by decide +kernel
theorem dX5_checkWith_4 : decode cX5_checkWith 4 = .ok (.ishl, 1) := by decide +kernel
theorem dX5_checkWith_5 : decode cX5_checkWith 5 = .ok (.ixor, 1) := by decide +kernel
theorem dX5_checkWith_6 : decode cX5_checkWith 6 = .ok (.istore_n 2, 1) := by decide +kernel
theorem dX5_checkWith_7 : decode cX5_checkWith 7 = .ok (.iconst 0, 1) := by decide +kernel
theorem dX5_checkWith_8 : decode cX5_checkWith 8 = .ok (.istore_n 3, 1) := by decide +kernel
theorem dX5_checkWith_9 : decode cX5_checkWith 9 = .ok (.iload_n 3, 1) := by decide +kernel
theorem dX5_checkWith_10 : decode cX5_checkWith 10 = .ok (.bipush 8, 2) := by decide +kernel
theorem dX5_checkWith_12 : decode cX5_checkWith 12 = .ok (.if_icmp .ge 31, 3) := by decide +kernel
theorem dX5_checkWith_15 : decode cX5_checkWith 15 = .ok (.iload_n 2, 1) := by decide +kernel
theorem dX5_checkWith_16 : decode cX5_checkWith 16 = .ok (.iconst 1, 1) := by decide +kernel
theorem dX5_checkWith_17 : decode cX5_checkWith 17 = .ok (.ishl, 1) := by decide +kernel
theorem dX5_checkWith_18 : decode cX5_checkWith 18 = .ok (.istore_n 2, 1) := by decide +kernel
theorem dX5_checkWith_19 : decode cX5_checkWith 19 = .ok (.iload_n 2, 1) := by decide +kernel
theorem dX5_checkWith_20 : decode cX5_checkWith 20 = .ok (.ldc 124, 2) := by decide +kernel
theorem dX5_checkWith_22 : decode cX5_checkWith 22 = .ok (.iand, 1) := by decide +kernel
theorem dX5_checkWith_23 : decode cX5_checkWith 23 = .ok (.ifCond .eq 9, 3) := by decide +kernel
theorem dX5_checkWith_26 : decode cX5_checkWith 26 = .ok (.iload_n 2, 1) := by decide +kernel
theorem dX5_checkWith_27 : decode cX5_checkWith 27 = .ok (.sipush 4129, 3) := by decide +kernel
theorem dX5_checkWith_30 : decode cX5_checkWith 30 = .ok (.ixor, 1) := by decide +kernel
theorem dX5_checkWith_31 : decode cX5_checkWith 31 = .ok (.istore_n 2, 1) := by decide +kernel
theorem dX5_checkWith_32 : decode cX5_checkWith 32 = .ok (.iload_n 2, 1) := by decide +kernel
theorem dX5_checkWith_33 : decode cX5_checkWith 33 = .ok (.ldc 125, 2) := by decide +kernel
theorem dX5_checkWith_35 : decode cX5_checkWith 35 = .ok (.iand, 1) := by decide +kernel
theorem dX5_checkWith_36 : decode cX5_checkWith 36 = .ok (.istore_n 2, 1) := by decide +kernel
theorem dX5_checkWith_37 : decode cX5_checkWith 37 = .ok (.iinc 3 1, 3) := by decide +kernel
theorem dX5_checkWith_40 : decode cX5_checkWith 40 = .ok (.goto (-31), 3) := by decide +kernel
theorem dX5_checkWith_43 : decode cX5_checkWith 43 = .ok (.iload_n 2, 1) := by decide +kernel
theorem dX5_checkWith_44 : decode cX5_checkWith 44 = .ok (.ireturn, 1) := by decide +kernel
end
section
theorem dX6_init_0 : decode cX6_init 0 = .ok (.aload_n 0, 1) := by decide +kernel
theorem dX6_init_1 : decode cX6_init 1 = .ok (.invokespecial 1, 3) := by decide +kernel
theorem dX6_init_4 : decode cX6_init 4 = .ok (.aload_n 0, 1) := by decide +kernel
theorem dX6_init_5 : decode cX6_init 5 = .ok (.sipush 9600, 3) := by decide +kernel
theorem dX6_init_8 : decode cX6_init 8 = .ok (.newarray .boolean, 2) := by decide +kernel
theorem dX6_init_10 : decode cX6_init 10 = .ok (.putfield 7, 3) := by decide +kernel
theorem dX6_init_13 : decode cX6_init 13 = .ok (.aload_n 0, 1) := by decide +kernel
theorem dX6_init_14 : decode cX6_init 14 = .ok (.bipush 40, 2) := by decide +kernel
theorem dX6_init_16 : decode cX6_init 16 = .ok (.newarray .int, 2) := by decide +kernel
theorem dX6_init_18 : decode cX6_init 18 = .ok (.putfield 13, 3) := by decide +kernel
theorem dX6_init_21 : decode cX6_init 21 = .ok (.aload_n 0, 1) := by decide +kernel
theorem dX6_init_22 : decode cX6_init 22 = .ok (.bipush 16, 2) := by decide +kernel
theorem dX6_init_24 : decode cX6_init 24 = .ok (.putfield 17, 3) := by decide +kernel
theorem dX6_init_27 : decode cX6_init 27 = .ok (.aload_n 0, 1) := by decide +kernel
theorem dX6_init_28 : decode cX6_init 28 = .ok (.iconst (-1), 1) := by decide +kernel
theorem dX6_init_29 : decode cX6_init 29 = .ok (.putfield 21, 3) := by decide +kernel
theorem dX6_init_32 : decode cX6_init 32 = .ok (.aload_n 0, 1) := by decide +kernel
theorem dX6_init_33 : decode cX6_init 33 = .ok (.sipush 200, 3) := by decide +kernel
theorem dX6_init_36 : decode cX6_init 36 = .ok (.newarray .int, 2) := by decide +kernel
theorem dX6_init_38 : decode cX6_init 38 = .ok (.putfield 24, 3) := by decide +kernel
theorem dX6_init_41 : decode cX6_init 41 = .ok (.return_, 1) := by decide +kernel
theorem dX6_step_0 : decode cX6_step 0 = .ok (.iload_n 0, 1) := by decide +kernel
theorem dX6_step_1 : decode cX6_step 1 = .ok (.iload_n 1, 1) := by decide +kernel
theorem dX6_step_2 : decode cX6_step 2 = .ok (.bipush 8, 2) := by decide +kernel
theorem dX6_step_4 : decode cX6_step 4 = .ok (.ishl, 1) := by decide +kernel
theorem dX6_step_5 : decode cX6_step 5 = .ok (.ixor, 1) := by decide +kernel
theorem dX6_step_6 : decode cX6_step 6 = .ok (.istore_n 2, 1) := by decide +kernel
theorem dX6_step_7 : decode cX6_step 7 = .ok (.iconst 0, 1) := by decide +kernel
theorem dX6_step_8 : decode cX6_step 8 = .ok (.istore_n 3, 1) := by decide +kernel
theorem dX6_step_9 : decode cX6_step 9 = .ok (.iload_n 3, 1) := by decide +kernel
theorem dX6_step_10 : decode cX6_step 10 = .ok (.bipush 8, 2) := by decide +kernel
theorem dX6_step_12 : decode cX6_step 12 = .ok (.if_icmp .ge 32, 3) := by decide +kernel
theorem dX6_step_15 : decode cX6_step 15 = .ok (.iload_n 2, 1) := by decide +kernel
theorem dX6_step_16 : decode cX6_step 16 = .ok (.iconst 1, 1) := by decide +kernel
theorem dX6_step_17 : decode cX6_step 17 = .ok (.ishl, 1) := by decide +kernel
theorem dX6_step_18 : decode cX6_step 18 = .ok (.istore_n 2, 1) := by decide +kernel
theorem dX6_step_19 : decode cX6_step 19 = .ok (.iload_n 2, 1) := by decide +kernel
theorem dX6_step_20 : decode cX6_step 20 = .ok (.ldc 27, 2) := by decide +kernel
theorem dX6_step_22 : decode cX6_step 22 = .ok (.if_icmp .le 14, 3) := by decide +kernel
theorem dX6_step_25 : decode cX6_step 25 = .ok (.iload_n 2, 1) := by decide +kernel
theorem dX6_step_26 : decode cX6_step 26 = .ok (.sipush 4129, 3) := by decide +kernel
theorem dX6_step_29 : decode cX6_step 29 = .ok (.ixor, 1) := by decide +kernel
theorem dX6_step_30 : decode cX6_step 30 = .ok (.ldc 27, 2) := by decide +kernel
theorem dX6_step_32 : decode cX6_step 32 = .ok (.iand, 1) := by decide +kernel
theorem dX6_step_33 : decode cX6_step 33 = .ok (.goto 4, 3) := by decide +kernel
theorem dX6_step_36 : decode cX6_step 36 = .ok (.iload_n 2, 1) := by decide +kernel
theorem dX6_step_37 : decode cX6_step 37 = .ok (.istore_n 2, 1) := by decide +kernel
theorem dX6_step_38 : decode cX6_step 38 = .ok (.iinc 3 1, 3) := by decide +kernel
theorem dX6_step_41 : decode cX6_step 41 = .ok (.goto (-32), 3) := by decide +kernel
theorem dX6_step_44 : decode cX6_step 44 = .ok (.iload_n 2, 1) := by decide +kernel
theorem dX6_step_45 : decode cX6_step 45 = .ok (.ireturn, 1) := by decide +kernel
set_option maxRecDepth 20000 in
theorem ggX6_isRight_X6_step : GoodIn wsX6_isRight wsX6_step := goodIn_r _ [8, 1] (by decide +kernel) (by decide +kernel)
set_option maxRecDepth 20000 in
theorem gX6_isRight_X6_step : GoodIn wsX6_isRight (va_wsS RX6 28 yX6_step wsX6_step) := goodIn_app (goodIn_of _ (by decide +kernel)) ggX6_isRight_X6_step
theorem dX6_isRight_0 : decode cX6_isRight 0 = .ok (.ldc 27, 2) := by decide +kernel
theorem dX6_isRight_2 : decode cX6_isRight 2 = .ok (.istore_n 1, 1) := by decide +kernel
theorem dX6_isRight_3 : decode cX6_isRight 3 = .ok (.iconst 0, 1) := by decide +kernel
theorem dX6_isRight_4 : decode cX6_isRight 4 = .ok (.istore_n 2, 1) := by decide +kernel
theorem dX6_isRight_5 : decode cX6_isRight 5 = .ok (.iload_n 2, 1) := by decide +kernel
theorem dX6_isRight_6 : decode cX6_isRight 6 = .ok (.iconst 3, 1) := by decide +kernel
theorem dX6_isRight_7 : decode cX6_isRight 7 = .ok (.if_icmp .ge 17, 3) := by decide +kernel
theorem dX6_isRight_10 : decode cX6_isRight 10 = .ok (.iload_n 1, 1) := by decide +kernel
theorem dX6_isRight_11 : decode cX6_isRight 11 = .ok (.sipush 161, 3) := by decide +kernel
theorem dX6_isRight_14 : decode cX6_isRight 14 = .ok (.invokestatic 28, 3) := by decide +kernel
theorem dX6_isRight_17 : decode cX6_isRight 17 = .ok (.istore_n 1, 1) := by decide +kernel
theorem dX6_isRight_18 : decode cX6_isRight 18 = .ok (.iinc 2 1, 3) := by decide +kernel
theorem dX6_isRight_21 : decode cX6_isRight 21 = .ok (.goto (-16), 3) := by decide +kernel
theorem dX6_isRight_24 : decode cX6_isRight 24 = .ok (.iload_n 1, 1) := by decide +kernel
theorem dX6_isRight_25 : decode cX6_isRight 25 = .ok (.aload_n 0, 1) := by decide +kernel
theorem dX6_isRight_26 : decode cX6_isRight 26 = .ok (.getfield 32, 3) := by decide +kernel
theorem dX6_isRight_29 : decode cX6_isRight 29 = .ok (.invokestatic 28, 3) := by decide +kernel
theorem dX6_isRight_32 : decode cX6_isRight 32 = .ok (.istore_n 1, 1) := by decide +kernel
theorem dX6_isRight_33 : decode cX6_isRight 33 = .ok (.iconst 0, 1) := by decide +kernel
theorem dX6_isRight_34 : decode cX6_isRight 34 = .ok (.istore_n 2, 1) := by decide +kernel
theorem dX6_isRight_35 : decode cX6_isRight 35 = .ok (.iload_n 2, 1) := by decide +kernel
theorem dX6_isRight_36 : decode cX6_isRight 36 = .ok (.aload_n 0, 1) := by decide +kernel
theorem dX6_isRight_37 : decode cX6_isRight 37 = .ok (.getfield 35, 3) := by decide +kernel
theorem dX6_isRight_40 : decode cX6_isRight 40 = .ok (.iconst 2, 1) := by decide +kernel
theorem dX6_isRight_41 : decode cX6_isRight 41 = .ok (.isub, 1) := by decide +kernel
theorem dX6_isRight_42 : decode cX6_isRight 42 = .ok (.if_icmp .ge 20, 3) := by decide +kernel
theorem dX6_isRight_45 : decode cX6_isRight 45 = .ok (.iload_n 1, 1) := by decide +kernel
theorem dX6_isRight_46 : decode cX6_isRight 46 = .ok (.aload_n 0, 1) := by decide +kernel
theorem dX6_isRight_47 : decode cX6_isRight 47 = .ok (.getfield 13, 3) := by decide +kernel
theorem dX6_isRight_50 : decode cX6_isRight 50 = .ok (.iload_n 2, 1) := by decide +kernel
theorem dX6_isRight_51 : decode cX6_isRight 51 = .ok (.iaload, 1) := by decide +kernel
theorem dX6_isRight_52 : decode cX6_isRight 52 = .ok (.invokestatic 28, 3) := by decide +kernel
theorem dX6_isRight_55 : decode cX6_isRight 55 = .ok (.istore_n 1, 1) := by decide +kernel
theorem dX6_isRight_56 : decode cX6_isRight 56 = .ok (.iinc 2 1, 3) := by decide +kernel
theorem dX6_isRight_59 : decode cX6_isRight 59 = .ok (.goto (-24), 3) := by decide +kernel
theorem dX6_isRight_62 : decode cX6_isRight 62 = .ok (.aload_n 0, 1) := by decide +kernel
theorem dX6_isRight_63 : decode cX6_isRight 63 = .ok (.getfield 13, 3) := by decide +kernel
theorem dX6_isRight_66 : decode cX6_isRight 66 = .ok (.aload_n 0, 1) := by decide +kernel
theorem dX6_isRight_67 : decode cX6_isRight 67 = .ok (.getfield 35, 3) := by decide +kernel
theorem dX6_isRight_70 : decode cX6_isRight 70 = .ok (.iconst 2, 1) := by decide +kernel
theorem dX6_isRight_71 : decode cX6_isRight 71 = .ok (.isub, 1) := by decide +kernel
theorem dX6_isRight_72 : decode cX6_isRight 72 = .ok (.iaload, 1) := by decide +kernel
theorem dX6_isRight_73 : decode cX6_isRight 73 = .ok (.iload_n 1, 1) := by decide +kernel
theorem dX6_isRight_74 : decode cX6_isRight 74 = .ok (.bipush 8, 2) := by decide +kernel
theorem dX6_isRight_76 : decode cX6_isRight 76 = .ok (.ishr, 1) := by decide +kernel
theorem dX6_isRight_77 : decode cX6_isRight 77 = .ok (.if_icmp .ne 26, 3) := by decide +kernel
theorem dX6_isRight_80 : decode cX6_isRight 80 = .ok (.aload_n 0, 1) := by decide +kernel
theorem dX6_isRight_81 : decode cX6_isRight 81 = .ok (.getfield 13, 3) := by decide +kernel
theorem dX6_isRight_84 : decode cX6_isRight 84 = .ok (.aload_n 0, 1) := by decide +kernel
theorem dX6_isRight_85 : decode cX6_isRight 85 = .ok (.getfield 35, 3) := by decide +kernel
theorem dX6_isRight_88 : decode cX6_isRight 88 = .ok (.iconst 1, 1) := by decide +kernel
theorem dX6_isRight_89 : decode cX6_isRight 89 = .ok (.isub, 1) := by decide +kernel
theorem dX6_isRight_90 : decode cX6_isRight 90 = .ok (.iaload, 1) := by decide +kernel
theorem dX6_isRight_91 : decode cX6_isRight 91 = .ok (.iload_n 1, 1) := by decide +kernel
theorem dX6_isRight_92 : decode cX6_isRight 92 = .ok (.sipush 255, 3) := by decide +kernel
theorem dX6_isRight_95 : decode cX6_isRight 95 = .ok (.iand, 1) := by decide +kernel
theorem dX6_isRight_96 : decode cX6_isRight 96 = .ok (.if_icmp .ne 7, 3) := by decide +kernel
theorem dX6_isRight_99 : decode cX6_isRight 99 = .ok (.iconst 1, 1) := by decide +kernel
theorem dX6_isRight_100 : decode cX6_isRight 100 = .ok (.goto 4, 3) := by decide +kernel
theorem dX6_isRight_103 : decode cX6_isRight 103 = .ok (.iconst 0, 1) := by decide +kernel
theorem dX6_isRight_104 : decode cX6_isRight 104 = .ok (.ireturn, 1) := by decide +kernel
theorem dX6_raise_0 : decode cX6_raise 0 = .ok (.aload_n 0, 1) := by decide +kernel
theorem dX6_raise_1 : decode cX6_raise 1 = .ok (.aload_n 0, 1) := by decide +kernel
theorem dX6_raise_2 : decode cX6_raise 2 = .ok (.getfield 38, 3) := by decide +kernel
theorem dX6_raise_5 : decode cX6_raise 5 = .ok (.iload_n 1, 1) := by decide +kernel
theorem dX6_raise_6 : decode cX6_raise 6 = .ok (.ior, 1) := by decide +kernel
theorem dX6_raise_7 : decode cX6_raise 7 = .ok (.putfield 38, 3) := by decide +kernel
theorem dX6_raise_10 : decode cX6_raise 10 = .ok (.return_, 1) := by decide +kernel
theorem dX6_drop_0 : decode cX6_drop 0 = .ok (.aload_n 0, 1) := by decide +kernel
theorem dX6_drop_1 : decode cX6_drop 1 = .ok (.aload_n 0, 1) := by decide +kernel
theorem dX6_drop_2 : decode cX6_drop 2 = .ok (.getfield 38, 3) := by decide +kernel
theorem dX6_drop_5 : decode cX6_drop 5 = .ok (.iload_n 1, 1) := by decide +kernel
theorem dX6_drop_6 : decode cX6_drop 6 = .ok (.iconst (-1), 1) := by decide +kernel
theorem dX6_drop_7 : decode cX6_drop 7 = .ok (.ixor, 1) := by decide +kernel
theorem dX6_drop_8 : decode cX6_drop 8 = .ok (.iand, 1) := by decide +kernel
theorem dX6_drop_9 : decode cX6_drop 9 = .ok (.putfield 38, 3) := by decide +kernel
theorem dX6_drop_12 : decode cX6_drop 12 = .ok (.return_, 1) := by decide +kernel
theorem dX6_has_0 : decode cX6_has 0 = .ok (.aload_n 0, 1) := by decide +kernel
theorem dX6_has_1 : decode cX6_has 1 = .ok (.getfield 38, 3) := by decide +kernel
theorem dX6_has_4 : decode cX6_has 4 = .ok (.iload_n 1, 1) := by decide +kernel
theorem dX6_has_5 : decode cX6_has 5 = .ok (.iand, 1) := by decide +kernel
theorem dX6_has_6 : decode cX6_has 6 = .ok (.ifCond .eq 7, 3) := by decide +kernel
theorem dX6_has_9 : decode cX6_has 9 = .ok (.iconst 1, 1) := by decide +kernel
theorem dX6_has_10 : decode cX6_has 10 = .ok (.goto 4, 3) := by decide +kernel
theorem dX6_has_13 : decode cX6_has 13 = .ok (.iconst 0, 1) := by decide +kernel
theorem dX6_has_14 : decode cX6_has 14 = .ok (.ireturn, 1) := by decide +kernel
theorem dX6_reset_0 : decode cX6_reset 0 = .ok (.aload_n 0, 1) := by decide +kernel
theorem dX6_reset_1 : decode cX6_reset 1 = .ok (.iconst 0, 1) := by decide +kernel
theorem dX6_reset_2 : decode cX6_reset 2 = .ok (.putfield 41, 3) := by decide +kernel
theorem dX6_reset_5 : decode cX6_reset 5 = .ok (.aload_n 0, 1) := by decide +kernel
theorem dX6_reset_6 : decode cX6_reset 6 = .ok (.iconst 0, 1) := by decide +kernel
theorem dX6_reset_7 : decode cX6_reset 7 = .ok (.putfield 45, 3) := by decide +kernel
theorem dX6_reset_10 : decode cX6_reset 10 = .ok (.aload_n 0, 1) := by decide +kernel
theorem dX6_reset_11 : decode cX6_reset 11 = .ok (.iconst 0, 1) := by decide +kernel
theorem dX6_reset_12 : decode cX6_reset 12 = .ok (.putfield 48, 3) := by decide +kernel
theorem dX6_reset_15 : decode cX6_reset 15 = .ok (.return_, 1) := by decide +kernel
set_option maxRecDepth 20000 in
theorem ggX6_end_X6_drop : GoodIn wsX6_end wsX6_drop := goodIn_r _ [7, 8, 9, 10, 11, 12, 13, 14, 15, 16, 17, 18, 19, 20, 21, 22, 23, 24, 25, 26, 27, 28, 29, 30, 31, 32, 33, 34, 35, 36, 37, 38, 39, 40] (by decide +kernel) (by decide +kernel)
set_option maxRecDepth 20000 in
theorem gX6_end_X6_drop : GoodIn wsX6_end (wsV RX6 51 RX6 yX6_drop wsX6_drop) := goodIn_app (goodIn_of _ (by decide +kernel)) ggX6_end_X6_drop
theorem dX6_end_0 : decode cX6_end 0 = .ok (.aload_n 0, 1) := by decide +kernel
theorem dX6_end_1 : decode cX6_end 1 = .ok (.iconst 1, 1) := by decide +kernel
theorem dX6_end_2 : decode cX6_end 2 = .ok (.invokevirtual 51, 3) := by decide +kernel
theorem dX6_end_5 : decode cX6_end 5 = .ok (.aload_n 0, 1) := by decide +kernel
theorem dX6_end_6 : decode cX6_end 6 = .ok (.iconst 2, 1) := by decide +kernel
theorem dX6_end_7 : decode cX6_end 7 = .ok (.invokevirtual 51, 3) := by decide +kernel
theorem dX6_end_10 : decode cX6_end 10 = .ok (.aload_n 0, 1) := by decide +kernel
theorem dX6_end_11 : decode cX6_end 11 = .ok (.getfield 55, 3) := by decide +kernel
theorem dX6_end_14 : decode cX6_end 14 = .ok (.bipush 6, 2) := by decide +kernel
theorem dX6_end_16 : decode cX6_end 16 = .ok (.if_icmp .eq 12, 3) := by decide +kernel
theorem dX6_end_19 : decode cX6_end 19 = .ok (.aload_n 0, 1) := by decide +kernel
theorem dX6_end_20 : decode cX6_end 20 = .ok (.getfield 55, 3) := by decide +kernel
theorem dX6_end_23 : decode cX6_end 23 = .ok (.bipush 8, 2) := by decide +kernel
theorem dX6_end_25 : decode cX6_end 25 = .ok (.if_icmp .ne 8, 3) := by decide +kernel
theorem dX6_end_28 : decode cX6_end 28 = .ok (.aload_n 0, 1) := by decide +kernel
theorem dX6_end_29 : decode cX6_end 29 = .ok (.iconst 0, 1) := by decide +kernel
theorem dX6_end_30 : decode cX6_end 30 = .ok (.putfield 58, 3) := by decide +kernel
theorem dX6_end_33 : decode cX6_end 33 = .ok (.aload_n 0, 1) := by decide +kernel
theorem dX6_end_34 : decode cX6_end 34 = .ok (.iconst 0, 1) := by decide +kernel
theorem dX6_end_35 : decode cX6_end 35 = .ok (.putfield 55, 3) := by decide +kernel
theorem dX6_end_38 : decode cX6_end 38 = .ok (.return_, 1) := by decide +kernel
set_option maxRecDepth 20000 in
theorem ggX6_receive_X6_has : GoodIn wsX6_receive wsX6_has := goodIn_r _ [6, 7, 12, 13, 14, 15, 16, 17, 18, 19, 20, 21, 22, 23, 24, 25, 26, 27, 28, 29, 30, 31, 32, 33, 34, 35, 36, 37, 38, 39, 40, 41, 42, 43] (by decide +kernel) (by decide +kernel)
set_option maxRecDepth 20000 in
theorem gX6_receive_X6_has : GoodIn wsX6_receive (wsV RX6 64 RX6 yX6_has wsX6_has) := goodIn_app (goodIn_of _ (by decide +kernel)) ggX6_receive_X6_has
set_option maxRecDepth 20000 in
theorem ggX6_receive_X6_raise : GoodIn wsX6_receive wsX6_raise := goodIn_r _ [11, 7, 12, 13, 14, 15, 16, 17, 18, 19, 20, 21, 22, 23, 24, 25, 26, 27, 28, 29, 30, 31, 32, 33, 34, 35, 36, 37, 38, 39, 40, 41, 42, 43] (by decide +kernel) (by decide +kernel)
set_option maxRecDepth 20000 in
theorem gX6_receive_X6_raise : GoodIn wsX6_receive (wsV RX6 68 RX6 yX6_raise wsX6_raise) := goodIn_app (goodIn_of _ (by decide +kernel)) ggX6_receive_X6_raise
theorem dX6_receive_0 : decode cX6_receive 0 = .ok (.aload_n 0, 1) := by decide +kernel
theorem dX6_receive_1 : decode cX6_receive 1 = .ok (.iload_n 1, 1) := by decide +kernel
theorem dX6_receive_2 : decode cX6_receive 2 = .ok (.putfield 61, 3) := by decide +kernel
theorem dX6_receive_5 : decode cX6_receive 5 = .ok (.aload_n 0, 1) := by decide +kernel
theorem dX6_receive_6 : decode cX6_receive 6 = .ok (.iconst 2, 1) := by decide +kernel
theorem dX6_receive_7 : decode cX6_receive 7 = .ok (.invokevirtual 64, 3) := by decide +kernel
theorem dX6_receive_10 : decode cX6_receive 10 = .ok (.ifCond .eq 8, 3) := by decide +kernel
theorem dX6_receive_13 : decode cX6_receive 13 = .ok (.aload_n 0, 1) := by decide +kernel
theorem dX6_receive_14 : decode cX6_receive 14 = .ok (.iconst 4, 1) := by decide +kernel
theorem dX6_receive_15 : decode cX6_receive 15 = .ok (.invokevirtual 68, 3) := by decide +kernel
theorem dX6_receive_18 : decode cX6_receive 18 = .ok (.aload_n 0, 1) := by decide +kernel
theorem dX6_receive_19 : decode cX6_receive 19 = .ok (.iconst 2, 1) := by decide +kernel
theorem dX6_receive_20 : decode cX6_receive 20 = .ok (.invokevirtual 68, 3) := by decide +kernel
theorem dX6_receive_23 : decode cX6_receive 23 = .ok (.return_, 1) := by decide +kernel
set_option maxRecDepth 20000 in
theorem ggX6_ask_X6_has : GoodIn wsX6_ask wsX6_has := goodIn_r _ [6, 7, 12, 13, 14, 15, 16, 17, 18, 19, 20, 21, 22, 23, 24, 25, 26, 27, 28, 29, 30, 31, 32, 33, 34, 35, 36, 37, 38, 39, 40, 41, 42, 43] (by decide +kernel) (by decide +kernel)
set_option maxRecDepth 20000 in
theorem gX6_ask_X6_has : GoodIn wsX6_ask (wsV RX6 64 RX6 yX6_has wsX6_has) := goodIn_app (goodIn_of _ (by decide +kernel)) ggX6_ask_X6_has
set_option maxRecDepth 20000 in
theorem ggX6_ask_X6_raise : GoodIn wsX6_ask wsX6_raise := goodIn_r _ [11, 7, 12, 13, 14, 15, 16, 17, 18, 19, 20, 21, 22, 23, 24, 25, 26, 27, 28, 29, 30, 31, 32, 33, 34, 35, 36, 37, 38, 39, 40, 41, 42, 43] (by decide +kernel) (by decide +kernel)
set_option maxRecDepth 20000 in
theorem gX6_ask_X6_raise : GoodIn wsX6_ask (wsV RX6 68 RX6 yX6_raise wsX6_raise) := goodIn_app (goodIn_of _ (by decide +kernel)) ggX6_ask_X6_raise
theorem dX6_ask_0 : decode cX6_ask 0 = .ok (.aload_n 0, 1) := by decide +kernel
theorem dX6_ask_1 : decode cX6_ask 1 = .ok (.iconst 2, 1) := by decide +kernel
theorem dX6_ask_2 : decode cX6_ask 2 = .ok (.invokevirtual 64, 3) := by decide +kernel
theorem dX6_ask_5 : decode cX6_ask 5 = .ok (.ifCond .eq 10, 3) := by decide +kernel
theorem dX6_ask_8 : decode cX6_ask 8 = .ok (.aload_n 0, 1) := by decide +kernel
theorem dX6_ask_9 : decode cX6_ask 9 = .ok (.iconst 4, 1) := by decide +kernel
theorem dX6_ask_10 : decode cX6_ask 10 = .ok (.invokevirtual 68, 3) := by decide +kernel
theorem dX6_ask_13 : decode cX6_ask 13 = .ok (.iconst 0, 1) := by decide +kernel
theorem dX6_ask_14 : decode cX6_ask 14 = .ok (.ireturn, 1) := by decide +kernel
theorem dX6_ask_15 : decode cX6_ask 15 = .ok (.aload_n 0, 1) := by decide +kernel
theorem dX6_ask_16 : decode cX6_ask 16 = .ok (.getfield 61, 3) := by decide +kernel
theorem dX6_ask_19 : decode cX6_ask 19 = .ok (.ireturn, 1) := by decide +kernel
set_option maxRecDepth 20000 in
theorem ggX6_begins_X6_raise : GoodIn wsX6_begins wsX6_raise := goodIn_r _ [10, 11, 12, 13, 14, 15, 16, 17, 18, 19, 20, 21, 22, 23, 24, 25, 26, 27, 28, 29, 30, 31, 32, 33, 34, 35, 36, 37, 38, 39, 40, 41, 42, 43] (by decide +kernel) (by decide +kernel)
set_option maxRecDepth 20000 in
theorem gX6_begins_X6_raise : GoodIn wsX6_begins (wsV RX6 68 RX6 yX6_raise wsX6_raise) := goodIn_app (goodIn_of _ (by decide +kernel)) ggX6_begins_X6_raise
theorem dX6_begins_0 : decode cX6_begins 0 = .ok (.aload_n 0, 1) := by decide +kernel
theorem dX6_begins_1 : decode cX6_begins 1 = .ok (.iload_n 1, 1) := by decide +kernel
theorem dX6_begins_2 : decode cX6_begins 2 = .ok (.putfield 48, 3) := by decide +kernel
theorem dX6_begins_5 : decode cX6_begins 5 = .ok (.aload_n 0, 1) := by decide +kernel
theorem dX6_begins_6 : decode cX6_begins 6 = .ok (.iload_n 2, 1) := by decide +kernel
theorem dX6_begins_7 : decode cX6_begins 7 = .ok (.putfield 32, 3) := by decide +kernel
theorem dX6_begins_10 : decode cX6_begins 10 = .ok (.aload_n 0, 1) := by decide +kernel
theorem dX6_begins_11 : decode cX6_begins 11 = .ok (.iconst 0, 1) := by decide +kernel
theorem dX6_begins_12 : decode cX6_begins 12 = .ok (.putfield 35, 3) := by decide +kernel
theorem dX6_begins_15 : decode cX6_begins 15 = .ok (.iload_n 1, 1) := by decide +kernel
theorem dX6_begins_16 : decode cX6_begins 16 = .ok (.iconst 1, 1) := by decide +kernel
theorem dX6_begins_17 : decode cX6_begins 17 = .ok (.if_icmp .ne 24, 3) := by decide +kernel
theorem dX6_begins_20 : decode cX6_begins 20 = .ok (.aload_n 0, 1) := by decide +kernel
theorem dX6_begins_21 : decode cX6_begins 21 = .ok (.getfield 21, 3) := by decide +kernel
theorem dX6_begins_24 : decode cX6_begins 24 = .ok (.iconst 4, 1) := by decide +kernel
theorem dX6_begins_25 : decode cX6_begins 25 = .ok (.if_icmp .ne 16, 3) := by decide +kernel
theorem dX6_begins_28 : decode cX6_begins 28 = .ok (.aload_n 0, 1) := by decide +kernel
theorem dX6_begins_29 : decode cX6_begins 29 = .ok (.getfield 55, 3) := by decide +kernel
theorem dX6_begins_32 : decode cX6_begins 32 = .ok (.iconst 2, 1) := by decide +kernel
theorem dX6_begins_33 : decode cX6_begins 33 = .ok (.if_icmp .ne 8, 3) := by decide +kernel
theorem dX6_begins_36 : decode cX6_begins 36 = .ok (.aload_n 0, 1) := by decide +kernel
theorem dX6_begins_37 : decode cX6_begins 37 = .ok (.iconst 4, 1) := by decide +kernel
theorem dX6_begins_38 : decode cX6_begins 38 = .ok (.putfield 55, 3) := by decide +kernel
theorem dX6_begins_41 : decode cX6_begins 41 = .ok (.iload_n 1, 1) := by decide +kernel
theorem dX6_begins_42 : decode cX6_begins 42 = .ok (.iconst 2, 1) := by decide +kernel
theorem dX6_begins_43 : decode cX6_begins 43 = .ok (.if_icmp .ne 37, 3) := by decide +kernel
theorem dX6_begins_46 : decode cX6_begins 46 = .ok (.aload_n 0, 1) := by decide +kernel
theorem dX6_begins_47 : decode cX6_begins 47 = .ok (.getfield 21, 3) := by decide +kernel
theorem dX6_begins_50 : decode cX6_begins 50 = .ok (.iconst 2, 1) := by decide +kernel
theorem dX6_begins_51 : decode cX6_begins 51 = .ok (.if_icmp .ne 29, 3) := by decide +kernel
theorem dX6_begins_54 : decode cX6_begins 54 = .ok (.aload_n 0, 1) := by decide +kernel
theorem dX6_begins_55 : decode cX6_begins 55 = .ok (.getfield 55, 3) := by decide +kernel
theorem dX6_begins_58 : decode cX6_begins 58 = .ok (.iconst 3, 1) := by decide +kernel
theorem dX6_begins_59 : decode cX6_begins 59 = .ok (.if_icmp .ne 21, 3) := by decide +kernel
theorem dX6_begins_62 : decode cX6_begins 62 = .ok (.aload_n 0, 1) := by decide +kernel
theorem dX6_begins_63 : decode cX6_begins 63 = .ok (.iconst 4, 1) := by decide +kernel
theorem dX6_begins_64 : decode cX6_begins 64 = .ok (.putfield 55, 3) := by decide +kernel
theorem dX6_begins_67 : decode cX6_begins 67 = .ok (.iload_n 2, 1) := by decide +kernel
theorem dX6_begins_68 : decode cX6_begins 68 = .ok (.sipush 248, 3) := by decide +kernel
theorem dX6_begins_71 : decode cX6_begins 71 = .ok (.if_icmp .ne 9, 3) := by decide +kernel
theorem dX6_begins_74 : decode cX6_begins 74 = .ok (.aload_n 0, 1) := by decide +kernel
theorem dX6_begins_75 : decode cX6_begins 75 = .ok (.bipush 32, 2) := by decide +kernel
theorem dX6_begins_77 : decode cX6_begins 77 = .ok (.invokevirtual 68, 3) := by decide +kernel
theorem dX6_begins_80 : decode cX6_begins 80 = .ok (.return_, 1) := by decide +kernel
set_option maxRecDepth 20000 in
theorem ggX6_idOver_X6_raise : GoodIn wsX6_idOver wsX6_raise := goodIn_r _ [12, 13, 23, 24, 25, 26, 27, 28, 29, 30, 31, 32, 33, 34, 35, 36, 37, 38, 39, 40, 41, 42, 43, 44, 45, 46, 47, 48, 49, 50, 51, 52, 53, 54] (by decide +kernel) (by decide +kernel)
set_option maxRecDepth 20000 in
theorem gX6_idOver_X6_raise : GoodIn wsX6_idOver (wsV RX6 68 RX6 yX6_raise wsX6_raise) := goodIn_app (goodIn_of _ (by decide +kernel)) ggX6_idOver_X6_raise
set_option maxRecDepth 20000 in
theorem ggX6_idOver_X6_end : GoodIn wsX6_idOver wsX6_end := goodIn_r _ [17, 4, 18, 19, 20, 21, 11, 22, 13, 23, 24, 25, 26, 27, 28, 29, 30, 31, 32, 33, 34, 35, 36, 37, 38, 39, 40, 41, 42, 43, 44, 45, 46, 47, 48, 49, 50, 51, 52, 53, 54] (by decide +kernel) (by decide +kernel)
set_option maxRecDepth 20000 in
theorem gX6_idOver_X6_end : GoodIn wsX6_idOver (wsV RX6 74 RX6 yX6_end wsX6_end) := goodIn_app (goodIn_of _ (by decide +kernel)) ggX6_idOver_X6_end
set_option maxRecDepth 20000 in
theorem ggX6_idOver_X6_drop : GoodIn wsX6_idOver wsX6_drop := goodIn_r _ [22, 13, 23, 24, 25, 26, 27, 28, 29, 30, 31, 32, 33, 34, 35, 36, 37, 38, 39, 40, 41, 42, 43, 44, 45, 46, 47, 48, 49, 50, 51, 52, 53, 54] (by decide +kernel) (by decide +kernel)
set_option maxRecDepth 20000 in
theorem gX6_idOver_X6_drop : GoodIn wsX6_idOver (wsV RX6 51 RX6 yX6_drop wsX6_drop) := goodIn_app (goodIn_of _ (by decide +kernel)) ggX6_idOver_X6_drop
theorem dX6_idOver_0 : decode cX6_idOver 0 = .ok (.iload_n 1, 1) := by decide +kernel
theorem dX6_idOver_1 : decode cX6_idOver 1 = .ok (.ifCond .eq 18, 3) := by decide +kernel
theorem dX6_idOver_4 : decode cX6_idOver 4 = .ok (.aload_n 0, 1) := by decide +kernel
theorem dX6_idOver_5 : decode cX6_idOver 5 = .ok (.bipush 16, 2) := by decide +kernel
theorem dX6_idOver_7 : decode cX6_idOver 7 = .ok (.aload_n 0, 1) := by decide +kernel
theorem dX6_idOver_8 : decode cX6_idOver 8 = .ok (.getfield 13, 3) := by decide +kernel
theorem dX6_idOver_11 : decode cX6_idOver 11 = .ok (.iconst 3, 1) := by decide +kernel
theorem dX6_idOver_12 : decode cX6_idOver 12 = .ok (.iaload, 1) := by decide +kernel
theorem dX6_idOver_13 : decode cX6_idOver 13 = .ok (.iconst 1, 1) := by decide +kernel
theorem dX6_idOver_14 : decode cX6_idOver 14 = .ok (.iand, 1) := by decide +kernel
theorem dX6_idOver_15 : decode cX6_idOver 15 = .ok (.ishl, 1) := by decide +kernel
theorem dX6_idOver_16 : decode cX6_idOver 16 = .ok (.putfield 17, 3) := by decide +kernel
theorem dX6_idOver_19 : decode cX6_idOver 19 = .ok (.aload_n 0, 1) := by decide +kernel
theorem dX6_idOver_20 : decode cX6_idOver 20 = .ok (.getfield 21, 3) := by decide +kernel
theorem dX6_idOver_23 : decode cX6_idOver 23 = .ok (.iconst 4, 1) := by decide +kernel
theorem dX6_idOver_24 : decode cX6_idOver 24 = .ok (.if_icmp .ne 36, 3) := by decide +kernel
theorem dX6_idOver_27 : decode cX6_idOver 27 = .ok (.aload_n 0, 1) := by decide +kernel
theorem dX6_idOver_28 : decode cX6_idOver 28 = .ok (.getfield 55, 3) := by decide +kernel
theorem dX6_idOver_31 : decode cX6_idOver 31 = .ok (.iconst 4, 1) := by decide +kernel
theorem dX6_idOver_32 : decode cX6_idOver 32 = .ok (.if_icmp .ne 28, 3) := by decide +kernel
theorem dX6_idOver_35 : decode cX6_idOver 35 = .ok (.aload_n 0, 1) := by decide +kernel
theorem dX6_idOver_36 : decode cX6_idOver 36 = .ok (.aload_n 0, 1) := by decide +kernel
theorem dX6_idOver_37 : decode cX6_idOver 37 = .ok (.getfield 13, 3) := by decide +kernel
theorem dX6_idOver_40 : decode cX6_idOver 40 = .ok (.iconst 0, 1) := by decide +kernel
theorem dX6_idOver_41 : decode cX6_idOver 41 = .ok (.iaload, 1) := by decide +kernel
theorem dX6_idOver_42 : decode cX6_idOver 42 = .ok (.putfield 71, 3) := by decide +kernel
theorem dX6_idOver_45 : decode cX6_idOver 45 = .ok (.iload_n 1, 1) := by decide +kernel
theorem dX6_idOver_46 : decode cX6_idOver 46 = .ok (.ifCond .ne 9, 3) := by decide +kernel
theorem dX6_idOver_49 : decode cX6_idOver 49 = .ok (.aload_n 0, 1) := by decide +kernel
theorem dX6_idOver_50 : decode cX6_idOver 50 = .ok (.bipush 8, 2) := by decide +kernel
theorem dX6_idOver_52 : decode cX6_idOver 52 = .ok (.invokevirtual 68, 3) := by decide +kernel
theorem dX6_idOver_55 : decode cX6_idOver 55 = .ok (.aload_n 0, 1) := by decide +kernel
theorem dX6_idOver_56 : decode cX6_idOver 56 = .ok (.invokevirtual 74, 3) := by decide +kernel
theorem dX6_idOver_59 : decode cX6_idOver 59 = .ok (.return_, 1) := by decide +kernel
theorem dX6_idOver_60 : decode cX6_idOver 60 = .ok (.aload_n 0, 1) := by decide +kernel
theorem dX6_idOver_61 : decode cX6_idOver 61 = .ok (.getfield 21, 3) := by decide +kernel
theorem dX6_idOver_64 : decode cX6_idOver 64 = .ok (.iconst 2, 1) := by decide +kernel
theorem dX6_idOver_65 : decode cX6_idOver 65 = .ok (.if_icmp .ne 19, 3) := by decide +kernel
theorem dX6_idOver_68 : decode cX6_idOver 68 = .ok (.aload_n 0, 1) := by decide +kernel
theorem dX6_idOver_69 : decode cX6_idOver 69 = .ok (.getfield 55, 3) := by decide +kernel
theorem dX6_idOver_72 : decode cX6_idOver 72 = .ok (.iconst 2, 1) := by decide +kernel
theorem dX6_idOver_73 : decode cX6_idOver 73 = .ok (.if_icmp .eq 27, 3) := by decide +kernel
theorem dX6_idOver_76 : decode cX6_idOver 76 = .ok (.aload_n 0, 1) := by decide +kernel
theorem dX6_idOver_77 : decode cX6_idOver 77 = .ok (.getfield 55, 3) := by decide +kernel
theorem dX6_idOver_80 : decode cX6_idOver 80 = .ok (.iconst 3, 1) := by decide +kernel
theorem dX6_idOver_81 : decode cX6_idOver 81 = .ok (.if_icmp .eq 19, 3) := by decide +kernel
theorem dX6_idOver_84 : decode cX6_idOver 84 = .ok (.aload_n 0, 1) := by decide +kernel
theorem dX6_idOver_85 : decode cX6_idOver 85 = .ok (.getfield 21, 3) := by decide +kernel
theorem dX6_idOver_88 : decode cX6_idOver 88 = .ok (.iconst 3, 1) := by decide +kernel
theorem dX6_idOver_89 : decode cX6_idOver 89 = .ok (.if_icmp .ne 15, 3) := by decide +kernel
theorem dX6_idOver_92 : decode cX6_idOver 92 = .ok (.aload_n 0, 1) := by decide +kernel
theorem dX6_idOver_93 : decode cX6_idOver 93 = .ok (.getfield 55, 3) := by decide +kernel
theorem dX6_idOver_96 : decode cX6_idOver 96 = .ok (.iconst 2, 1) := by decide +kernel
theorem dX6_idOver_97 : decode cX6_idOver 97 = .ok (.if_icmp .ne 7, 3) := by decide +kernel
theorem dX6_idOver_100 : decode cX6_idOver 100 = .ok (.iconst 1, 1) := by decide +kernel
theorem dX6_idOver_101 : decode cX6_idOver 101 = .ok (.goto 4, 3) := by decide +kernel
theorem dX6_idOver_104 : decode cX6_idOver 104 = .ok (.iconst 0, 1) := by decide +kernel
theorem dX6_idOver_105 : decode cX6_idOver 105 = .ok (.istore_n 2, 1) := by decide +kernel
theorem dX6_idOver_106 : decode cX6_idOver 106 = .ok (.iload_n 2, 1) := by decide +kernel
theorem dX6_idOver_107 : decode cX6_idOver 107 = .ok (.ifCond .ne 4, 3) := by decide +kernel
theorem dX6_idOver_110 : decode cX6_idOver 110 = .ok (.return_, 1) := by decide +kernel
theorem dX6_idOver_111 : decode cX6_idOver 111 = .ok (.iload_n 1, 1) := by decide +kernel
theorem dX6_idOver_112 : decode cX6_idOver 112 = .ok (.ifCond .ne 10, 3) := by decide +kernel
theorem dX6_idOver_115 : decode cX6_idOver 115 = .ok (.aload_n 0, 1) := by decide +kernel
theorem dX6_idOver_116 : decode cX6_idOver 116 = .ok (.bipush 8, 2) := by decide +kernel
theorem dX6_idOver_118 : decode cX6_idOver 118 = .ok (.invokevirtual 68, 3) := by decide +kernel
theorem dX6_idOver_121 : decode cX6_idOver 121 = .ok (.return_, 1) := by decide +kernel
theorem dX6_idOver_122 : decode cX6_idOver 122 = .ok (.aload_n 0, 1) := by decide +kernel
theorem dX6_idOver_123 : decode cX6_idOver 123 = .ok (.bipush 8, 2) := by decide +kernel
theorem dX6_idOver_125 : decode cX6_idOver 125 = .ok (.invokevirtual 51, 3) := by decide +kernel
theorem dX6_idOver_128 : decode cX6_idOver 128 = .ok (.aload_n 0, 1) := by decide +kernel
theorem dX6_idOver_129 : decode cX6_idOver 129 = .ok (.getfield 13, 3) := by decide +kernel
theorem dX6_idOver_132 : decode cX6_idOver 132 = .ok (.iconst 0, 1) := by decide +kernel
theorem dX6_idOver_133 : decode cX6_idOver 133 = .ok (.iaload, 1) := by decide +kernel
theorem dX6_idOver_134 : decode cX6_idOver 134 = .ok (.aload_n 0, 1) := by decide +kernel
theorem dX6_idOver_135 : decode cX6_idOver 135 = .ok (.getfield 77, 3) := by decide +kernel
theorem dX6_idOver_138 : decode cX6_idOver 138 = .ok (.if_icmp .ne 51, 3) := by decide +kernel
theorem dX6_idOver_141 : decode cX6_idOver 141 = .ok (.aload_n 0, 1) := by decide +kernel
theorem dX6_idOver_142 : decode cX6_idOver 142 = .ok (.getfield 13, 3) := by decide +kernel
theorem dX6_idOver_145 : decode cX6_idOver 145 = .ok (.iconst 2, 1) := by decide +kernel
theorem dX6_idOver_146 : decode cX6_idOver 146 = .ok (.iaload, 1) := by decide +kernel
theorem dX6_idOver_147 : decode cX6_idOver 147 = .ok (.aload_n 0, 1) := by decide +kernel
theorem dX6_idOver_148 : decode cX6_idOver 148 = .ok (.getfield 71, 3) := by decide +kernel
theorem dX6_idOver_151 : decode cX6_idOver 151 = .ok (.if_icmp .ne 38, 3) := by decide +kernel
theorem dX6_idOver_154 : decode cX6_idOver 154 = .ok (.aload_n 0, 1) := by decide +kernel
theorem dX6_idOver_155 : decode cX6_idOver 155 = .ok (.aload_n 0, 1) := by decide +kernel
theorem dX6_idOver_156 : decode cX6_idOver 156 = .ok (.getfield 21, 3) := by decide +kernel
theorem dX6_idOver_159 : decode cX6_idOver 159 = .ok (.iconst 2, 1) := by decide +kernel
theorem dX6_idOver_160 : decode cX6_idOver 160 = .ok (.if_icmp .ne 7, 3) := by decide +kernel
theorem dX6_idOver_163 : decode cX6_idOver 163 = .ok (.iconst 3, 1) := by decide +kernel
theorem dX6_idOver_164 : decode cX6_idOver 164 = .ok (.goto 4, 3) := by decide +kernel
theorem dX6_idOver_167 : decode cX6_idOver 167 = .ok (.iconst 5, 1) := by decide +kernel
theorem dX6_idOver_168 : decode cX6_idOver 168 = .ok (.putfield 55, 3) := by decide +kernel
theorem dX6_idOver_171 : decode cX6_idOver 171 = .ok (.aload_n 0, 1) := by decide +kernel
theorem dX6_idOver_172 : decode cX6_idOver 172 = .ok (.iconst 1, 1) := by decide +kernel
theorem dX6_idOver_173 : decode cX6_idOver 173 = .ok (.putfield 80, 3) := by decide +kernel
theorem dX6_idOver_176 : decode cX6_idOver 176 = .ok (.aload_n 0, 1) := by decide +kernel
theorem dX6_idOver_177 : decode cX6_idOver 177 = .ok (.getfield 21, 3) := by decide +kernel
theorem dX6_idOver_180 : decode cX6_idOver 180 = .ok (.iconst 3, 1) := by decide +kernel
theorem dX6_idOver_181 : decode cX6_idOver 181 = .ok (.if_icmp .ne 8, 3) := by decide +kernel
theorem dX6_idOver_184 : decode cX6_idOver 184 = .ok (.aload_n 0, 1) := by decide +kernel
theorem dX6_idOver_185 : decode cX6_idOver 185 = .ok (.iconst 2, 1) := by decide +kernel
theorem dX6_idOver_186 : decode cX6_idOver 186 = .ok (.invokevirtual 68, 3) := by decide +kernel
theorem dX6_idOver_189 : decode cX6_idOver 189 = .ok (.return_, 1) := by decide +kernel
set_option maxRecDepth 20000 in
theorem ggX6_dataOver_X6_raise : GoodIn wsX6_dataOver wsX6_raise := goodIn_r _ [7, 8, 18, 19, 20, 21, 22, 23, 24, 25, 26, 27, 28, 29, 30, 31, 32, 33, 34, 35, 36, 37, 38, 39, 40, 41, 42, 43, 44, 45, 46, 47, 48, 49] (by decide +kernel) (by decide +kernel)
set_option maxRecDepth 20000 in
theorem gX6_dataOver_X6_raise : GoodIn wsX6_dataOver (wsV RX6 68 RX6 yX6_raise wsX6_raise) := goodIn_app (goodIn_of _ (by decide +kernel)) ggX6_dataOver_X6_raise
set_option maxRecDepth 20000 in
theorem ggX6_dataOver_X6_end : GoodIn wsX6_dataOver wsX6_end := goodIn_r _ [12, 2, 13, 14, 15, 16, 6, 17, 8, 18, 19, 20, 21, 22, 23, 24, 25, 26, 27, 28, 29, 30, 31, 32, 33, 34, 35, 36, 37, 38, 39, 40, 41, 42, 43, 44, 45, 46, 47, 48, 49] (by decide +kernel) (by decide +kernel)
set_option maxRecDepth 20000 in
theorem gX6_dataOver_X6_end : GoodIn wsX6_dataOver (wsV RX6 74 RX6 yX6_end wsX6_end) := goodIn_app (goodIn_of _ (by decide +kernel)) ggX6_dataOver_X6_end
theorem dX6_dataOver_0 : decode cX6_dataOver 0 = .ok (.aload_n 0, 1) := by decide +kernel
theorem dX6_dataOver_1 : decode cX6_dataOver 1 = .ok (.getfield 21, 3) := by decide +kernel
theorem dX6_dataOver_4 : decode cX6_dataOver 4 = .ok (.iconst 2, 1) := by decide +kernel
theorem dX6_dataOver_5 : decode cX6_dataOver 5 = .ok (.if_icmp .ne 25, 3) := by decide +kernel
theorem dX6_dataOver_8 : decode cX6_dataOver 8 = .ok (.aload_n 0, 1) := by decide +kernel
theorem dX6_dataOver_9 : decode cX6_dataOver 9 = .ok (.getfield 55, 3) := by decide +kernel
theorem dX6_dataOver_12 : decode cX6_dataOver 12 = .ok (.iconst 4, 1) := by decide +kernel
theorem dX6_dataOver_13 : decode cX6_dataOver 13 = .ok (.if_icmp .ne 17, 3) := by decide +kernel
theorem dX6_dataOver_16 : decode cX6_dataOver 16 = .ok (.iload_n 1, 1) := by decide +kernel
theorem dX6_dataOver_17 : decode cX6_dataOver 17 = .ok (.ifCond .ne 9, 3) := by decide +kernel
theorem dX6_dataOver_20 : decode cX6_dataOver 20 = .ok (.aload_n 0, 1) := by decide +kernel
theorem dX6_dataOver_21 : decode cX6_dataOver 21 = .ok (.bipush 8, 2) := by decide +kernel
theorem dX6_dataOver_23 : decode cX6_dataOver 23 = .ok (.invokevirtual 68, 3) := by decide +kernel
theorem dX6_dataOver_26 : decode cX6_dataOver 26 = .ok (.aload_n 0, 1) := by decide +kernel
theorem dX6_dataOver_27 : decode cX6_dataOver 27 = .ok (.invokevirtual 74, 3) := by decide +kernel
theorem dX6_dataOver_30 : decode cX6_dataOver 30 = .ok (.return_, 1) := by decide +kernel
set_option maxRecDepth 20000 in
theorem ggX6_comes_X6_begins : GoodIn wsX6_comes wsX6_begins := goodIn_r _ [13, 1, 14, 5, 8, 7, 15, 16, 17, 12, 18, 19, 57, 58, 59, 60, 61, 62, 63, 64, 65, 66, 67, 68, 69, 70, 71, 72, 73, 74, 75, 76, 77, 78, 79, 80, 81, 82, 83, 84, 85, 86, 87, 88] (by decide +kernel) (by decide +kernel)
set_option maxRecDepth 20000 in
theorem gX6_comes_X6_begins : GoodIn wsX6_comes (wsV RX6 83 RX6 yX6_begins wsX6_begins) := goodIn_app (goodIn_of _ (by decide +kernel)) ggX6_comes_X6_begins
set_option maxRecDepth 20000 in
theorem ggX6_comes_X6_receive : GoodIn wsX6_comes wsX6_receive := goodIn_r _ [23, 24, 25, 26, 27, 12, 28, 19, 15, 16, 17, 18, 57, 58, 59, 60, 61, 62, 63, 64, 65, 66, 67, 68, 69, 70, 71, 72, 73, 74, 75, 76, 77, 78, 79, 80, 81, 82, 83, 84, 85, 86, 87, 88] (by decide +kernel) (by decide +kernel)
set_option maxRecDepth 20000 in
theorem gX6_comes_X6_receive : GoodIn wsX6_comes (wsV RX6 87 RX6 yX6_receive wsX6_receive) := goodIn_app (goodIn_of _ (by decide +kernel)) ggX6_comes_X6_receive
set_option maxRecDepth 20000 in
theorem ggX6_comes_X6_isRight : GoodIn wsX6_comes wsX6_isRight := goodIn_r _ [32, 33, 14, 5, 4, 34, 35, 12, 36, 57, 58, 59, 60, 61, 62, 63, 64, 65, 66, 67, 68, 69, 70, 71, 72, 73, 74, 75, 76, 77, 78, 79, 80, 81, 82, 83, 84, 85, 86, 87, 88] (by decide +kernel) (by decide +kernel)
set_option maxRecDepth 20000 in
theorem gX6_comes_X6_isRight : GoodIn wsX6_comes (wsV RX6 90 RX6 yX6_isRight wsX6_isRight) := goodIn_app (goodIn_of _ (by decide +kernel)) ggX6_comes_X6_isRight
set_option maxRecDepth 20000 in
theorem ggX6_comes_X6_idOver : GoodIn wsX6_comes wsX6_idOver := goodIn_r _ [40, 4, 6, 8, 7, 41, 42, 43, 15, 16, 17, 12, 18, 19, 44, 45, 46, 47, 48, 49, 50, 51, 52, 57, 58, 59, 60, 61, 62, 63, 64, 65, 66, 67, 68, 69, 70, 71, 72, 73, 74, 75, 76, 77, 78, 79, 80, 81, 82, 83, 84, 85, 86, 87, 88] (by decide +kernel) (by decide +kernel)
set_option maxRecDepth 20000 in
theorem gX6_comes_X6_idOver : GoodIn wsX6_comes (wsV RX6 94 RX6 yX6_idOver wsX6_idOver) := goodIn_app (goodIn_of _ (by decide +kernel)) ggX6_comes_X6_idOver
set_option maxRecDepth 20000 in
theorem ggX6_comes_X6_dataOver : GoodIn wsX6_comes wsX6_dataOver := goodIn_r _ [56, 8, 7, 15, 16, 17, 12, 18, 19, 44, 45, 46, 47, 48, 49, 50, 51, 52, 57, 58, 59, 60, 61, 62, 63, 64, 65, 66, 67, 68, 69, 70, 71, 72, 73, 74, 75, 76, 77, 78, 79, 80, 81, 82, 83, 84, 85, 86, 87, 88] (by decide +kernel) (by decide +kernel)
set_option maxRecDepth 20000 in
theorem gX6_comes_X6_dataOver : GoodIn wsX6_comes (wsV RX6 98 RX6 yX6_dataOver wsX6_dataOver) := goodIn_app (goodIn_of _ (by decide +kernel)) ggX6_comes_X6_dataOver
theorem dX6_comes_0 : decode cX6_comes 0 = .ok (.aload_n 0, 1) := by decide +kernel
theorem dX6_comes_1 : decode cX6_comes 1 = .ok (.getfield 48, 3) := by decide +kernel
theorem dX6_comes_4 : decode cX6_comes 4 = .ok (.ifCond .ne 97, 3) := by decide +kernel
theorem dX6_comes_7 : decode cX6_comes 7 = .ok (.aload_n 0, 1) := by decide +kernel
theorem dX6_comes_8 : decode cX6_comes 8 = .ok (.getfield 45, 3) := by decide +kernel
theorem dX6_comes_11 : decode cX6_comes 11 = .ok (.iconst 2, 1) := by decide +kernel
theorem dX6_comes_12 : decode cX6_comes 12 = .ok (.if_icmp .le 14, 3) := by decide +kernel
theorem dX6_comes_15 : decode cX6_comes 15 = .ok (.iload_n 1, 1) := by decide +kernel
theorem dX6_comes_16 : decode cX6_comes 16 = .ok (.sipush 254, 3) := by decide +kernel
theorem dX6_comes_19 : decode cX6_comes 19 = .ok (.if_icmp .ne 7, 3) := by decide +kernel
theorem dX6_comes_22 : decode cX6_comes 22 = .ok (.iconst 1, 1) := by decide +kernel
theorem dX6_comes_23 : decode cX6_comes 23 = .ok (.goto 4, 3) := by decide +kernel
theorem dX6_comes_26 : decode cX6_comes 26 = .ok (.iconst 0, 1) := by decide +kernel
theorem dX6_comes_27 : decode cX6_comes 27 = .ok (.istore_n 2, 1) := by decide +kernel
theorem dX6_comes_28 : decode cX6_comes 28 = .ok (.aload_n 0, 1) := by decide +kernel
theorem dX6_comes_29 : decode cX6_comes 29 = .ok (.getfield 45, 3) := by decide +kernel
theorem dX6_comes_32 : decode cX6_comes 32 = .ok (.iconst 2, 1) := by decide +kernel
theorem dX6_comes_33 : decode cX6_comes 33 = .ok (.if_icmp .le 21, 3) := by decide +kernel
theorem dX6_comes_36 : decode cX6_comes 36 = .ok (.iload_n 1, 1) := by decide +kernel
theorem dX6_comes_37 : decode cX6_comes 37 = .ok (.sipush 251, 3) := by decide +kernel
theorem dX6_comes_40 : decode cX6_comes 40 = .ok (.if_icmp .eq 10, 3) := by decide +kernel
theorem dX6_comes_43 : decode cX6_comes 43 = .ok (.iload_n 1, 1) := by decide +kernel
theorem dX6_comes_44 : decode cX6_comes 44 = .ok (.sipush 248, 3) := by decide +kernel
theorem dX6_comes_47 : decode cX6_comes 47 = .ok (.if_icmp .ne 7, 3) := by decide +kernel
theorem dX6_comes_50 : decode cX6_comes 50 = .ok (.iconst 1, 1) := by decide +kernel
theorem dX6_comes_51 : decode cX6_comes 51 = .ok (.goto 4, 3) := by decide +kernel
theorem dX6_comes_54 : decode cX6_comes 54 = .ok (.iconst 0, 1) := by decide +kernel
theorem dX6_comes_55 : decode cX6_comes 55 = .ok (.istore_n 3, 1) := by decide +kernel
theorem dX6_comes_56 : decode cX6_comes 56 = .ok (.aload_n 0, 1) := by decide +kernel
theorem dX6_comes_57 : decode cX6_comes 57 = .ok (.iconst 0, 1) := by decide +kernel
theorem dX6_comes_58 : decode cX6_comes 58 = .ok (.putfield 45, 3) := by decide +kernel
theorem dX6_comes_61 : decode cX6_comes 61 = .ok (.aload_n 0, 1) := by decide +kernel
theorem dX6_comes_62 : decode cX6_comes 62 = .ok (.iload_n 2, 1) := by decide +kernel
theorem dX6_comes_63 : decode cX6_comes 63 = .ok (.ifCond .ne 7, 3) := by decide +kernel
theorem dX6_comes_66 : decode cX6_comes 66 = .ok (.iload_n 3, 1) := by decide +kernel
theorem dX6_comes_67 : decode cX6_comes 67 = .ok (.ifCond .eq 7, 3) := by decide +kernel
theorem dX6_comes_70 : decode cX6_comes 70 = .ok (.iconst 1, 1) := by decide +kernel
theorem dX6_comes_71 : decode cX6_comes 71 = .ok (.goto 4, 3) := by decide +kernel
theorem dX6_comes_74 : decode cX6_comes 74 = .ok (.iconst 0, 1) := by decide +kernel
theorem dX6_comes_75 : decode cX6_comes 75 = .ok (.putfield 41, 3) := by decide +kernel
theorem dX6_comes_78 : decode cX6_comes 78 = .ok (.iload_n 2, 1) := by decide +kernel
theorem dX6_comes_79 : decode cX6_comes 79 = .ok (.ifCond .ne 7, 3) := by decide +kernel
theorem dX6_comes_82 : decode cX6_comes 82 = .ok (.iload_n 3, 1) := by decide +kernel
theorem dX6_comes_83 : decode cX6_comes 83 = .ok (.ifCond .eq 17, 3) := by decide +kernel
theorem dX6_comes_86 : decode cX6_comes 86 = .ok (.aload_n 0, 1) := by decide +kernel
theorem dX6_comes_87 : decode cX6_comes 87 = .ok (.iload_n 2, 1) := by decide +kernel
theorem dX6_comes_88 : decode cX6_comes 88 = .ok (.ifCond .eq 7, 3) := by decide +kernel
theorem dX6_comes_91 : decode cX6_comes 91 = .ok (.iconst 1, 1) := by decide +kernel
theorem dX6_comes_92 : decode cX6_comes 92 = .ok (.goto 4, 3) := by decide +kernel
theorem dX6_comes_95 : decode cX6_comes 95 = .ok (.iconst 2, 1) := by decide +kernel
theorem dX6_comes_96 : decode cX6_comes 96 = .ok (.iload_n 1, 1) := by decide +kernel
theorem dX6_comes_97 : decode cX6_comes 97 = .ok (.invokevirtual 83, 3) := by decide +kernel
theorem dX6_comes_100 : decode cX6_comes 100 = .ok (.return_, 1) := by decide +kernel
theorem dX6_comes_101 : decode cX6_comes 101 = .ok (.aload_n 0, 1) := by decide +kernel
theorem dX6_comes_102 : decode cX6_comes 102 = .ok (.getfield 13, 3) := by decide +kernel
theorem dX6_comes_105 : decode cX6_comes 105 = .ok (.aload_n 0, 1) := by decide +kernel
theorem dX6_comes_106 : decode cX6_comes 106 = .ok (.getfield 35, 3) := by decide +kernel
theorem dX6_comes_109 : decode cX6_comes 109 = .ok (.iload_n 1, 1) := by decide +kernel
theorem dX6_comes_110 : decode cX6_comes 110 = .ok (.iastore, 1) := by decide +kernel
theorem dX6_comes_111 : decode cX6_comes 111 = .ok (.aload_n 0, 1) := by decide +kernel
theorem dX6_comes_112 : decode cX6_comes 112 = .ok (.dup, 1) := by decide +kernel
theorem dX6_comes_113 : decode cX6_comes 113 = .ok (.getfield 35, 3) := by decide +kernel
theorem dX6_comes_116 : decode cX6_comes 116 = .ok (.iconst 1, 1) := by decide +kernel
theorem dX6_comes_117 : decode cX6_comes 117 = .ok (.iadd, 1) := by decide +kernel
theorem dX6_comes_118 : decode cX6_comes 118 = .ok (.putfield 35, 3) := by decide +kernel
theorem dX6_comes_121 : decode cX6_comes 121 = .ok (.aload_n 0, 1) := by decide +kernel
theorem dX6_comes_122 : decode cX6_comes 122 = .ok (.getfield 48, 3) := by decide +kernel
theorem dX6_comes_125 : decode cX6_comes 125 = .ok (.iconst 1, 1) := by decide +kernel
theorem dX6_comes_126 : decode cX6_comes 126 = .ok (.if_icmp .ne 8, 3) := by decide +kernel
theorem dX6_comes_129 : decode cX6_comes 129 = .ok (.bipush 6, 2) := by decide +kernel
theorem dX6_comes_131 : decode cX6_comes 131 = .ok (.goto 9, 3) := by decide +kernel
theorem dX6_comes_134 : decode cX6_comes 134 = .ok (.aload_n 0, 1) := by decide +kernel
theorem dX6_comes_135 : decode cX6_comes 135 = .ok (.getfield 17, 3) := by decide +kernel
theorem dX6_comes_138 : decode cX6_comes 138 = .ok (.iconst 2, 1) := by decide +kernel
theorem dX6_comes_139 : decode cX6_comes 139 = .ok (.iadd, 1) := by decide +kernel
theorem dX6_comes_140 : decode cX6_comes 140 = .ok (.istore_n 2, 1) := by decide +kernel
theorem dX6_comes_141 : decode cX6_comes 141 = .ok (.aload_n 0, 1) := by decide +kernel
theorem dX6_comes_142 : decode cX6_comes 142 = .ok (.getfield 55, 3) := by decide +kernel
theorem dX6_comes_145 : decode cX6_comes 145 = .ok (.iconst 4, 1) := by decide +kernel
theorem dX6_comes_146 : decode cX6_comes 146 = .ok (.if_icmp .ne 27, 3) := by decide +kernel
theorem dX6_comes_149 : decode cX6_comes 149 = .ok (.aload_n 0, 1) := by decide +kernel
theorem dX6_comes_150 : decode cX6_comes 150 = .ok (.getfield 21, 3) := by decide +kernel
theorem dX6_comes_153 : decode cX6_comes 153 = .ok (.iconst 4, 1) := by decide +kernel
theorem dX6_comes_154 : decode cX6_comes 154 = .ok (.if_icmp .eq 14, 3) := by decide +kernel
theorem dX6_comes_157 : decode cX6_comes 157 = .ok (.aload_n 0, 1) := by decide +kernel
theorem dX6_comes_158 : decode cX6_comes 158 = .ok (.getfield 35, 3) := by decide +kernel
theorem dX6_comes_161 : decode cX6_comes 161 = .ok (.aload_n 0, 1) := by decide +kernel
theorem dX6_comes_162 : decode cX6_comes 162 = .ok (.getfield 17, 3) := by decide +kernel
theorem dX6_comes_165 : decode cX6_comes 165 = .ok (.if_icmp .gt 8, 3) := by decide +kernel
theorem dX6_comes_168 : decode cX6_comes 168 = .ok (.aload_n 0, 1) := by decide +kernel
theorem dX6_comes_169 : decode cX6_comes 169 = .ok (.iload_n 1, 1) := by decide +kernel
theorem dX6_comes_170 : decode cX6_comes 170 = .ok (.invokevirtual 87, 3) := by decide +kernel
theorem dX6_comes_173 : decode cX6_comes 173 = .ok (.aload_n 0, 1) := by decide +kernel
theorem dX6_comes_174 : decode cX6_comes 174 = .ok (.getfield 35, 3) := by decide +kernel
theorem dX6_comes_177 : decode cX6_comes 177 = .ok (.iload_n 2, 1) := by decide +kernel
theorem dX6_comes_178 : decode cX6_comes 178 = .ok (.if_icmp .ne 44, 3) := by decide +kernel
theorem dX6_comes_181 : decode cX6_comes 181 = .ok (.aload_n 0, 1) := by decide +kernel
theorem dX6_comes_182 : decode cX6_comes 182 = .ok (.getfield 48, 3) := by decide +kernel
theorem dX6_comes_185 : decode cX6_comes 185 = .ok (.istore_n 3, 1) := by decide +kernel
theorem dX6_comes_186 : decode cX6_comes 186 = .ok (.aload_n 0, 1) := by decide +kernel
theorem dX6_comes_187 : decode cX6_comes 187 = .ok (.iconst 0, 1) := by decide +kernel
theorem dX6_comes_188 : decode cX6_comes 188 = .ok (.putfield 48, 3) := by decide +kernel
theorem dX6_comes_191 : decode cX6_comes 191 = .ok (.aload_n 0, 1) := by decide +kernel
theorem dX6_comes_192 : decode cX6_comes 192 = .ok (.iconst 0, 1) := by decide +kernel
theorem dX6_comes_193 : decode cX6_comes 193 = .ok (.putfield 41, 3) := by decide +kernel
theorem dX6_comes_196 : decode cX6_comes 196 = .ok (.aload_n 0, 1) := by decide +kernel
theorem dX6_comes_197 : decode cX6_comes 197 = .ok (.invokevirtual 90, 3) := by decide +kernel
theorem dX6_comes_200 : decode cX6_comes 200 = .ok (.istore 4, 2) := by decide +kernel
theorem dX6_comes_202 : decode cX6_comes 202 = .ok (.iload_n 3, 1) := by decide +kernel
theorem dX6_comes_203 : decode cX6_comes 203 = .ok (.iconst 1, 1) := by decide +kernel
theorem dX6_comes_204 : decode cX6_comes 204 = .ok (.if_icmp .ne 12, 3) := by decide +kernel
theorem dX6_comes_207 : decode cX6_comes 207 = .ok (.aload_n 0, 1) := by decide +kernel
theorem dX6_comes_208 : decode cX6_comes 208 = .ok (.iload 4, 2) := by decide +kernel
theorem dX6_comes_210 : decode cX6_comes 210 = .ok (.invokevirtual 94, 3) := by decide +kernel
theorem dX6_comes_213 : decode cX6_comes 213 = .ok (.goto 9, 3) := by decide +kernel
theorem dX6_comes_216 : decode cX6_comes 216 = .ok (.aload_n 0, 1) := by decide +kernel
theorem dX6_comes_217 : decode cX6_comes 217 = .ok (.iload 4, 2) := by decide +kernel
theorem dX6_comes_219 : decode cX6_comes 219 = .ok (.invokevirtual 98, 3) := by decide +kernel
theorem dX6_comes_222 : decode cX6_comes 222 = .ok (.return_, 1) := by decide +kernel
set_option maxRecDepth 20000 in
theorem ggX6_readCell_X6_comes : GoodIn wsX6_readCell wsX6_comes := goodIn_r _ [14, 8, 9, 7, 15, 16, 17, 18, 19, 20, 21, 22, 13, 23, 24, 25, 26, 27, 28, 29, 30, 31, 32, 33, 34, 35, 36, 37, 38, 39, 40, 41, 42, 5, 43, 44, 45, 46, 47, 48, 49, 50, 51, 52, 53, 54, 55, 56, 1, 57, 58, 59, 60, 61, 62, 63, 64, 65, 66, 67, 68, 69, 70, 71, 72, 73, 74, 75, 76, 77, 78, 79, 80, 81, 82, 83, 84, 85, 86, 87, 88, 89, 90, 91, 92, 93, 94, 95, 96] (by decide +kernel) (by decide +kernel)
set_option maxRecDepth 20000 in
theorem gX6_readCell_X6_comes : GoodIn wsX6_readCell (wsV RX6 110 RX6 yX6_comes wsX6_comes) := goodIn_app (goodIn_of _ (by decide +kernel)) ggX6_readCell_X6_comes
theorem dX6_readCell_0 : decode cX6_readCell 0 = .ok (.aload_n 0, 1) := by decide +kernel
theorem dX6_readCell_1 : decode cX6_readCell 1 = .ok (.aload_n 0, 1) := by decide +kernel
theorem dX6_readCell_2 : decode cX6_readCell 2 = .ok (.getfield 58, 3) := by decide +kernel
theorem dX6_readCell_5 : decode cX6_readCell 5 = .ok (.iconst 1, 1) := by decide +kernel
theorem dX6_readCell_6 : decode cX6_readCell 6 = .ok (.ishl, 1) := by decide +kernel
theorem dX6_readCell_7 : decode cX6_readCell 7 = .ok (.aload_n 0, 1) := by decide +kernel
theorem dX6_readCell_8 : decode cX6_readCell 8 = .ok (.getfield 7, 3) := by decide +kernel
theorem dX6_readCell_11 : decode cX6_readCell 11 = .ok (.sipush 2400, 3) := by decide +kernel
theorem dX6_readCell_14 : decode cX6_readCell 14 = .ok (.aload_n 0, 1) := by decide +kernel
theorem dX6_readCell_15 : decode cX6_readCell 15 = .ok (.getfield 101, 3) := by decide +kernel
theorem dX6_readCell_18 : decode cX6_readCell 18 = .ok (.imul, 1) := by decide +kernel
theorem dX6_readCell_19 : decode cX6_readCell 19 = .ok (.aload_n 0, 1) := by decide +kernel
theorem dX6_readCell_20 : decode cX6_readCell 20 = .ok (.getfield 104, 3) := by decide +kernel
theorem dX6_readCell_23 : decode cX6_readCell 23 = .ok (.iadd, 1) := by decide +kernel
theorem dX6_readCell_24 : decode cX6_readCell 24 = .ok (.baload, 1) := by decide +kernel
theorem dX6_readCell_25 : decode cX6_readCell 25 = .ok (.ifCond .eq 7, 3) := by decide +kernel
theorem dX6_readCell_28 : decode cX6_readCell 28 = .ok (.iconst 1, 1) := by decide +kernel
theorem dX6_readCell_29 : decode cX6_readCell 29 = .ok (.goto 4, 3) := by decide +kernel
theorem dX6_readCell_32 : decode cX6_readCell 32 = .ok (.iconst 0, 1) := by decide +kernel
theorem dX6_readCell_33 : decode cX6_readCell 33 = .ok (.ior, 1) := by decide +kernel
theorem dX6_readCell_34 : decode cX6_readCell 34 = .ok (.ldc 27, 2) := by decide +kernel
theorem dX6_readCell_36 : decode cX6_readCell 36 = .ok (.iand, 1) := by decide +kernel
theorem dX6_readCell_37 : decode cX6_readCell 37 = .ok (.putfield 58, 3) := by decide +kernel
theorem dX6_readCell_40 : decode cX6_readCell 40 = .ok (.aload_n 0, 1) := by decide +kernel
theorem dX6_readCell_41 : decode cX6_readCell 41 = .ok (.dup, 1) := by decide +kernel
theorem dX6_readCell_42 : decode cX6_readCell 42 = .ok (.getfield 107, 3) := by decide +kernel
theorem dX6_readCell_45 : decode cX6_readCell 45 = .ok (.iconst 1, 1) := by decide +kernel
theorem dX6_readCell_46 : decode cX6_readCell 46 = .ok (.iadd, 1) := by decide +kernel
theorem dX6_readCell_47 : decode cX6_readCell 47 = .ok (.putfield 107, 3) := by decide +kernel
theorem dX6_readCell_50 : decode cX6_readCell 50 = .ok (.aload_n 0, 1) := by decide +kernel
theorem dX6_readCell_51 : decode cX6_readCell 51 = .ok (.getfield 58, 3) := by decide +kernel
theorem dX6_readCell_54 : decode cX6_readCell 54 = .ok (.sipush 17545, 3) := by decide +kernel
theorem dX6_readCell_57 : decode cX6_readCell 57 = .ok (.if_icmp .ne 40, 3) := by decide +kernel
theorem dX6_readCell_60 : decode cX6_readCell 60 = .ok (.aload_n 0, 1) := by decide +kernel
theorem dX6_readCell_61 : decode cX6_readCell 61 = .ok (.getfield 41, 3) := by decide +kernel
theorem dX6_readCell_64 : decode cX6_readCell 64 = .ok (.ifCond .eq 10, 3) := by decide +kernel
theorem dX6_readCell_67 : decode cX6_readCell 67 = .ok (.aload_n 0, 1) := by decide +kernel
theorem dX6_readCell_68 : decode cX6_readCell 68 = .ok (.getfield 48, 3) := by decide +kernel
theorem dX6_readCell_71 : decode cX6_readCell 71 = .ok (.ifCond .ne 26, 3) := by decide +kernel
theorem dX6_readCell_74 : decode cX6_readCell 74 = .ok (.aload_n 0, 1) := by decide +kernel
theorem dX6_readCell_75 : decode cX6_readCell 75 = .ok (.iconst 1, 1) := by decide +kernel
theorem dX6_readCell_76 : decode cX6_readCell 76 = .ok (.putfield 41, 3) := by decide +kernel
theorem dX6_readCell_79 : decode cX6_readCell 79 = .ok (.aload_n 0, 1) := by decide +kernel
theorem dX6_readCell_80 : decode cX6_readCell 80 = .ok (.dup, 1) := by decide +kernel
theorem dX6_readCell_81 : decode cX6_readCell 81 = .ok (.getfield 45, 3) := by decide +kernel
theorem dX6_readCell_84 : decode cX6_readCell 84 = .ok (.iconst 1, 1) := by decide +kernel
theorem dX6_readCell_85 : decode cX6_readCell 85 = .ok (.iadd, 1) := by decide +kernel
theorem dX6_readCell_86 : decode cX6_readCell 86 = .ok (.putfield 45, 3) := by decide +kernel
theorem dX6_readCell_89 : decode cX6_readCell 89 = .ok (.aload_n 0, 1) := by decide +kernel
theorem dX6_readCell_90 : decode cX6_readCell 90 = .ok (.iconst 0, 1) := by decide +kernel
theorem dX6_readCell_91 : decode cX6_readCell 91 = .ok (.putfield 107, 3) := by decide +kernel
theorem dX6_readCell_94 : decode cX6_readCell 94 = .ok (.goto 57, 3) := by decide +kernel
theorem dX6_readCell_97 : decode cX6_readCell 97 = .ok (.aload_n 0, 1) := by decide +kernel
theorem dX6_readCell_98 : decode cX6_readCell 98 = .ok (.getfield 41, 3) := by decide +kernel
theorem dX6_readCell_101 : decode cX6_readCell 101 = .ok (.ifCond .eq 50, 3) := by decide +kernel
theorem dX6_readCell_104 : decode cX6_readCell 104 = .ok (.aload_n 0, 1) := by decide +kernel
theorem dX6_readCell_105 : decode cX6_readCell 105 = .ok (.getfield 107, 3) := by decide +kernel
theorem dX6_readCell_108 : decode cX6_readCell 108 = .ok (.bipush 16, 2) := by decide +kernel
theorem dX6_readCell_110 : decode cX6_readCell 110 = .ok (.if_icmp .ne 41, 3) := by decide +kernel
theorem dX6_readCell_113 : decode cX6_readCell 113 = .ok (.aload_n 0, 1) := by decide +kernel
theorem dX6_readCell_114 : decode cX6_readCell 114 = .ok (.iconst 0, 1) := by decide +kernel
theorem dX6_readCell_115 : decode cX6_readCell 115 = .ok (.putfield 107, 3) := by decide +kernel
theorem dX6_readCell_118 : decode cX6_readCell 118 = .ok (.iconst 0, 1) := by decide +kernel
theorem dX6_readCell_119 : decode cX6_readCell 119 = .ok (.istore_n 1, 1) := by decide +kernel
theorem dX6_readCell_120 : decode cX6_readCell 120 = .ok (.bipush 14, 2) := by decide +kernel
theorem dX6_readCell_122 : decode cX6_readCell 122 = .ok (.istore_n 2, 1) := by decide +kernel
theorem dX6_readCell_123 : decode cX6_readCell 123 = .ok (.iload_n 2, 1) := by decide +kernel
theorem dX6_readCell_124 : decode cX6_readCell 124 = .ok (.ifCond .lt 22, 3) := by decide +kernel
theorem dX6_readCell_127 : decode cX6_readCell 127 = .ok (.iload_n 1, 1) := by decide +kernel
theorem dX6_readCell_128 : decode cX6_readCell 128 = .ok (.iconst 1, 1) := by decide +kernel
theorem dX6_readCell_129 : decode cX6_readCell 129 = .ok (.ishl, 1) := by decide +kernel
theorem dX6_readCell_130 : decode cX6_readCell 130 = .ok (.aload_n 0, 1) := by decide +kernel
theorem dX6_readCell_131 : decode cX6_readCell 131 = .ok (.getfield 58, 3) := by decide +kernel
theorem dX6_readCell_134 : decode cX6_readCell 134 = .ok (.iload_n 2, 1) := by decide +kernel
theorem dX6_readCell_135 : decode cX6_readCell 135 = .ok (.ishr, 1) := by decide +kernel
theorem dX6_readCell_136 : decode cX6_readCell 136 = .ok (.iconst 1, 1) := by decide +kernel
theorem dX6_readCell_137 : decode cX6_readCell 137 = .ok (.iand, 1) := by decide +kernel
theorem dX6_readCell_138 : decode cX6_readCell 138 = .ok (.ior, 1) := by decide +kernel
theorem dX6_readCell_139 : decode cX6_readCell 139 = .ok (.istore_n 1, 1) := by decide +kernel
theorem dX6_readCell_140 : decode cX6_readCell 140 = .ok (.iinc 2 (-2), 3) := by decide +kernel
theorem dX6_readCell_143 : decode cX6_readCell 143 = .ok (.goto (-20), 3) := by decide +kernel
theorem dX6_readCell_146 : decode cX6_readCell 146 = .ok (.aload_n 0, 1) := by decide +kernel
theorem dX6_readCell_147 : decode cX6_readCell 147 = .ok (.iload_n 1, 1) := by decide +kernel
theorem dX6_readCell_148 : decode cX6_readCell 148 = .ok (.invokevirtual 110, 3) := by decide +kernel
theorem dX6_readCell_151 : decode cX6_readCell 151 = .ok (.return_, 1) := by decide +kernel
set_option maxRecDepth 20000 in
theorem ggX6_startWriting_X6_reset : GoodIn wsX6_startWriting wsX6_reset := goodIn_r _ [13, 14, 15, 16, 17, 18, 19, 20, 21, 22, 23, 24, 25, 26, 27, 28, 29, 30, 31, 32, 33, 34, 35, 36, 37, 38, 39, 40, 41, 42, 43, 44, 45, 46, 47, 48] (by decide +kernel) (by decide +kernel)
set_option maxRecDepth 20000 in
theorem gX6_startWriting_X6_reset : GoodIn wsX6_startWriting (wsV RX6 113 RX6 yX6_reset wsX6_reset) := goodIn_app (goodIn_of _ (by decide +kernel)) ggX6_startWriting_X6_reset
theorem dX6_startWriting_0 : decode cX6_startWriting 0 = .ok (.aload_n 0, 1) := by decide +kernel
theorem dX6_startWriting_1 : decode cX6_startWriting 1 = .ok (.iload_n 1, 1) := by decide +kernel
theorem dX6_startWriting_2 : decode cX6_startWriting 2 = .ok (.putfield 55, 3) := by decide +kernel
theorem dX6_startWriting_5 : decode cX6_startWriting 5 = .ok (.aload_n 0, 1) := by decide +kernel
theorem dX6_startWriting_6 : decode cX6_startWriting 6 = .ok (.invokevirtual 113, 3) := by decide +kernel
theorem dX6_startWriting_9 : decode cX6_startWriting 9 = .ok (.aload_n 0, 1) := by decide +kernel
theorem dX6_startWriting_10 : decode cX6_startWriting 10 = .ok (.iconst 0, 1) := by decide +kernel
theorem dX6_startWriting_11 : decode cX6_startWriting 11 = .ok (.putfield 116, 3) := by decide +kernel
theorem dX6_startWriting_14 : decode cX6_startWriting 14 = .ok (.aload_n 0, 1) := by decide +kernel
theorem dX6_startWriting_15 : decode cX6_startWriting 15 = .ok (.iconst 0, 1) := by decide +kernel
theorem dX6_startWriting_16 : decode cX6_startWriting 16 = .ok (.putfield 119, 3) := by decide +kernel
theorem dX6_startWriting_19 : decode cX6_startWriting 19 = .ok (.aload_n 0, 1) := by decide +kernel
theorem dX6_startWriting_20 : decode cX6_startWriting 20 = .ok (.iconst 0, 1) := by decide +kernel
theorem dX6_startWriting_21 : decode cX6_startWriting 21 = .ok (.putfield 122, 3) := by decide +kernel
theorem dX6_startWriting_24 : decode cX6_startWriting 24 = .ok (.aload_n 0, 1) := by decide +kernel
theorem dX6_startWriting_25 : decode cX6_startWriting 25 = .ok (.ldc 27, 2) := by decide +kernel
theorem dX6_startWriting_27 : decode cX6_startWriting 27 = .ok (.putfield 125, 3) := by decide +kernel
theorem dX6_startWriting_30 : decode cX6_startWriting 30 = .ok (.aload_n 0, 1) := by decide +kernel
theorem dX6_startWriting_31 : decode cX6_startWriting 31 = .ok (.iconst 0, 1) := by decide +kernel
theorem dX6_startWriting_32 : decode cX6_startWriting 32 = .ok (.putfield 128, 3) := by decide +kernel
theorem dX6_startWriting_35 : decode cX6_startWriting 35 = .ok (.aload_n 0, 1) := by decide +kernel
theorem dX6_startWriting_36 : decode cX6_startWriting 36 = .ok (.iconst (-1), 1) := by decide +kernel
theorem dX6_startWriting_37 : decode cX6_startWriting 37 = .ok (.putfield 131, 3) := by decide +kernel
theorem dX6_startWriting_40 : decode cX6_startWriting 40 = .ok (.return_, 1) := by decide +kernel
theorem dX6_coded_0 : decode cX6_coded 0 = .ok (.iconst 0, 1) := by decide +kernel
theorem dX6_coded_1 : decode cX6_coded 1 = .ok (.istore_n 2, 1) := by decide +kernel
theorem dX6_coded_2 : decode cX6_coded 2 = .ok (.aload_n 0, 1) := by decide +kernel
theorem dX6_coded_3 : decode cX6_coded 3 = .ok (.getfield 122, 3) := by decide +kernel
theorem dX6_coded_6 : decode cX6_coded 6 = .ok (.istore_n 3, 1) := by decide +kernel
theorem dX6_coded_7 : decode cX6_coded 7 = .ok (.bipush 7, 2) := by decide +kernel
theorem dX6_coded_9 : decode cX6_coded 9 = .ok (.istore 4, 2) := by decide +kernel
theorem dX6_coded_11 : decode cX6_coded 11 = .ok (.iload 4, 2) := by decide +kernel
theorem dX6_coded_13 : decode cX6_coded 13 = .ok (.ifCond .lt 40, 3) := by decide +kernel
theorem dX6_coded_16 : decode cX6_coded 16 = .ok (.iload_n 1, 1) := by decide +kernel
theorem dX6_coded_17 : decode cX6_coded 17 = .ok (.iload 4, 2) := by decide +kernel
theorem dX6_coded_19 : decode cX6_coded 19 = .ok (.ishr, 1) := by decide +kernel
theorem dX6_coded_20 : decode cX6_coded 20 = .ok (.iconst 1, 1) := by decide +kernel
theorem dX6_coded_21 : decode cX6_coded 21 = .ok (.iand, 1) := by decide +kernel
theorem dX6_coded_22 : decode cX6_coded 22 = .ok (.istore 5, 2) := by decide +kernel
theorem dX6_coded_24 : decode cX6_coded 24 = .ok (.iload_n 2, 1) := by decide +kernel
theorem dX6_coded_25 : decode cX6_coded 25 = .ok (.iconst 2, 1) := by decide +kernel
theorem dX6_coded_26 : decode cX6_coded 26 = .ok (.ishl, 1) := by decide +kernel
theorem dX6_coded_27 : decode cX6_coded 27 = .ok (.iload_n 3, 1) := by decide +kernel
theorem dX6_coded_28 : decode cX6_coded 28 = .ok (.iload 5, 2) := by decide +kernel
theorem dX6_coded_30 : decode cX6_coded 30 = .ok (.iadd, 1) := by decide +kernel
theorem dX6_coded_31 : decode cX6_coded 31 = .ok (.ifCond .ne 7, 3) := by decide +kernel
theorem dX6_coded_34 : decode cX6_coded 34 = .ok (.iconst 2, 1) := by decide +kernel
theorem dX6_coded_35 : decode cX6_coded 35 = .ok (.goto 4, 3) := by decide +kernel
theorem dX6_coded_38 : decode cX6_coded 38 = .ok (.iconst 0, 1) := by decide +kernel
theorem dX6_coded_39 : decode cX6_coded 39 = .ok (.ior, 1) := by decide +kernel
theorem dX6_coded_40 : decode cX6_coded 40 = .ok (.iload 5, 2) := by decide +kernel
theorem dX6_coded_42 : decode cX6_coded 42 = .ok (.ior, 1) := by decide +kernel
theorem dX6_coded_43 : decode cX6_coded 43 = .ok (.istore_n 2, 1) := by decide +kernel
theorem dX6_coded_44 : decode cX6_coded 44 = .ok (.iload 5, 2) := by decide +kernel
theorem dX6_coded_46 : decode cX6_coded 46 = .ok (.istore_n 3, 1) := by decide +kernel
theorem dX6_coded_47 : decode cX6_coded 47 = .ok (.iinc 4 (-1), 3) := by decide +kernel
theorem dX6_coded_50 : decode cX6_coded 50 = .ok (.goto (-39), 3) := by decide +kernel
theorem dX6_coded_53 : decode cX6_coded 53 = .ok (.iload_n 2, 1) := by decide +kernel
theorem dX6_coded_54 : decode cX6_coded 54 = .ok (.ireturn, 1) := by decide +kernel
set_option maxRecDepth 20000 in
theorem ggX6_write_X6_coded : GoodIn wsX6_write wsX6_coded := goodIn_r _ [7, 2, 8, 9, 10, 11, 12, 13, 14, 15, 16, 17, 18, 19, 20, 21, 22, 23, 24, 25, 26, 27, 28, 29, 30, 31, 32, 33, 34, 35, 36, 37, 38, 39] (by decide +kernel) (by decide +kernel)
set_option maxRecDepth 20000 in
theorem gX6_write_X6_coded : GoodIn wsX6_write (wsV RX6 134 RX6 yX6_coded wsX6_coded) := goodIn_app (goodIn_of _ (by decide +kernel)) ggX6_write_X6_coded
theorem dX6_write_0 : decode cX6_write 0 = .ok (.aload_n 0, 1) := by decide +kernel
theorem dX6_write_1 : decode cX6_write 1 = .ok (.aload_n 0, 1) := by decide +kernel
theorem dX6_write_2 : decode cX6_write 2 = .ok (.iload_n 1, 1) := by decide +kernel
theorem dX6_write_3 : decode cX6_write 3 = .ok (.invokevirtual 134, 3) := by decide +kernel
theorem dX6_write_6 : decode cX6_write 6 = .ok (.putfield 138, 3) := by decide +kernel
theorem dX6_write_9 : decode cX6_write 9 = .ok (.aload_n 0, 1) := by decide +kernel
theorem dX6_write_10 : decode cX6_write 10 = .ok (.iload_n 1, 1) := by decide +kernel
theorem dX6_write_11 : decode cX6_write 11 = .ok (.iconst 1, 1) := by decide +kernel
theorem dX6_write_12 : decode cX6_write 12 = .ok (.iand, 1) := by decide +kernel
theorem dX6_write_13 : decode cX6_write 13 = .ok (.putfield 122, 3) := by decide +kernel
theorem dX6_write_16 : decode cX6_write 16 = .ok (.return_, 1) := by decide +kernel
theorem dX6_writeMark_0 : decode cX6_writeMark 0 = .ok (.aload_n 0, 1) := by decide +kernel
theorem dX6_writeMark_1 : decode cX6_writeMark 1 = .ok (.sipush 17545, 3) := by decide +kernel
theorem dX6_writeMark_4 : decode cX6_writeMark 4 = .ok (.putfield 138, 3) := by decide +kernel
theorem dX6_writeMark_7 : decode cX6_writeMark 7 = .ok (.aload_n 0, 1) := by decide +kernel
theorem dX6_writeMark_8 : decode cX6_writeMark 8 = .ok (.iconst 1, 1) := by decide +kernel
theorem dX6_writeMark_9 : decode cX6_writeMark 9 = .ok (.putfield 122, 3) := by decide +kernel
theorem dX6_writeMark_12 : decode cX6_writeMark 12 = .ok (.return_, 1) := by decide +kernel
set_option maxRecDepth 20000 in
theorem ggX6_sectorByte_X6_write : GoodIn wsX6_sectorByte wsX6_write := goodIn_r _ [9, 10, 11, 12, 13, 14, 8, 15, 38, 39, 40, 41, 42, 43, 44, 45, 46, 47, 48, 49, 50, 51, 52, 53, 54, 55, 56, 57, 58, 59, 60, 61, 62, 63, 64, 65, 66, 67, 68, 69] (by decide +kernel) (by decide +kernel)
set_option maxRecDepth 20000 in
theorem gX6_sectorByte_X6_write : GoodIn wsX6_sectorByte (wsV RX6 141 RX6 yX6_write wsX6_write) := goodIn_app (goodIn_of _ (by decide +kernel)) ggX6_sectorByte_X6_write
set_option maxRecDepth 20000 in
theorem ggX6_sectorByte_X6_writeMark : GoodIn wsX6_sectorByte wsX6_writeMark := goodIn_r _ [19, 10, 11, 38, 39, 40, 41, 42, 43, 44, 45, 46, 47, 48, 49, 50, 51, 52, 53, 54, 55, 56, 57, 58, 59, 60, 61, 62, 63, 64, 65, 66, 67, 68, 69] (by decide +kernel) (by decide +kernel)
set_option maxRecDepth 20000 in
theorem gX6_sectorByte_X6_writeMark : GoodIn wsX6_sectorByte (wsV RX6 144 RX6 yX6_writeMark wsX6_writeMark) := goodIn_app (goodIn_of _ (by decide +kernel)) ggX6_sectorByte_X6_writeMark
set_option maxRecDepth 20000 in
theorem ggX6_sectorByte_X6_step : GoodIn wsX6_sectorByte wsX6_step := goodIn_r _ [22, 23] (by decide +kernel) (by decide +kernel)
set_option maxRecDepth 20000 in
theorem gX6_sectorByte_X6_step : GoodIn wsX6_sectorByte (va_wsS RX6 28 yX6_step wsX6_step) := goodIn_app (goodIn_of _ (by decide +kernel)) ggX6_sectorByte_X6_step
set_option maxRecDepth 20000 in
theorem ggX6_sectorByte_X6_ask : GoodIn wsX6_sectorByte wsX6_ask := goodIn_r _ [27, 28, 29, 30, 31, 8, 32, 33, 34, 35, 36, 37, 38, 39, 40, 41, 42, 43, 44, 45, 46, 47, 48, 49, 50, 51, 52, 53, 54, 55, 56, 57, 58, 59, 60, 61, 62, 63, 64, 65, 66, 67, 68, 69] (by decide +kernel) (by decide +kernel)
set_option maxRecDepth 20000 in
theorem gX6_sectorByte_X6_ask : GoodIn wsX6_sectorByte (wsV RX6 150 RX6 yX6_ask wsX6_ask) := goodIn_app (goodIn_of _ (by decide +kernel)) ggX6_sectorByte_X6_ask
set_option maxRecDepth 20000 in
theorem ggX6_sectorByte_X6_raise : GoodIn wsX6_sectorByte wsX6_raise := goodIn_r _ [37, 33, 38, 39, 40, 41, 42, 43, 44, 45, 46, 47, 48, 49, 50, 51, 52, 53, 54, 55, 56, 57, 58, 59, 60, 61, 62, 63, 64, 65, 66, 67, 68, 69] (by decide +kernel) (by decide +kernel)
set_option maxRecDepth 20000 in
theorem gX6_sectorByte_X6_raise : GoodIn wsX6_sectorByte (wsV RX6 68 RX6 yX6_raise wsX6_raise) := goodIn_app (goodIn_of _ (by decide +kernel)) ggX6_sectorByte_X6_raise
theorem dX6_sectorByte_0 : decode cX6_sectorByte 0 = .ok (.aload_n 0, 1) := by decide +kernel
theorem dX6_sectorByte_1 : decode cX6_sectorByte 1 = .ok (.getfield 17, 3) := by decide +kernel
theorem dX6_sectorByte_4 : decode cX6_sectorByte 4 = .ok (.istore_n 1, 1) := by decide +kernel
theorem dX6_sectorByte_5 : decode cX6_sectorByte 5 = .ok (.aload_n 0, 1) := by decide +kernel
theorem dX6_sectorByte_6 : decode cX6_sectorByte 6 = .ok (.getfield 119, 3) := by decide +kernel
theorem dX6_sectorByte_9 : decode cX6_sectorByte 9 = .ok (.bipush 8, 2) := by decide +kernel
theorem dX6_sectorByte_11 : decode cX6_sectorByte 11 = .ok (.isub, 1) := by decide +kernel
theorem dX6_sectorByte_12 : decode cX6_sectorByte 12 = .ok (.istore_n 2, 1) := by decide +kernel
theorem dX6_sectorByte_13 : decode cX6_sectorByte 13 = .ok (.aload_n 0, 1) := by decide +kernel
theorem dX6_sectorByte_14 : decode cX6_sectorByte 14 = .ok (.getfield 119, 3) := by decide +kernel
theorem dX6_sectorByte_17 : decode cX6_sectorByte 17 = .ok (.iconst 4, 1) := by decide +kernel
theorem dX6_sectorByte_18 : decode cX6_sectorByte 18 = .ok (.if_icmp .ge 11, 3) := by decide +kernel
theorem dX6_sectorByte_21 : decode cX6_sectorByte 21 = .ok (.aload_n 0, 1) := by decide +kernel
theorem dX6_sectorByte_22 : decode cX6_sectorByte 22 = .ok (.iconst 0, 1) := by decide +kernel
theorem dX6_sectorByte_23 : decode cX6_sectorByte 23 = .ok (.invokevirtual 141, 3) := by decide +kernel
theorem dX6_sectorByte_26 : decode cX6_sectorByte 26 = .ok (.goto 160, 3) := by decide +kernel
theorem dX6_sectorByte_29 : decode cX6_sectorByte 29 = .ok (.aload_n 0, 1) := by decide +kernel
theorem dX6_sectorByte_30 : decode cX6_sectorByte 30 = .ok (.getfield 119, 3) := by decide +kernel
theorem dX6_sectorByte_33 : decode cX6_sectorByte 33 = .ok (.bipush 7, 2) := by decide +kernel
theorem dX6_sectorByte_35 : decode cX6_sectorByte 35 = .ok (.if_icmp .ge 24, 3) := by decide +kernel
theorem dX6_sectorByte_38 : decode cX6_sectorByte 38 = .ok (.aload_n 0, 1) := by decide +kernel
theorem dX6_sectorByte_39 : decode cX6_sectorByte 39 = .ok (.invokevirtual 144, 3) := by decide +kernel
theorem dX6_sectorByte_42 : decode cX6_sectorByte 42 = .ok (.aload_n 0, 1) := by decide +kernel
theorem dX6_sectorByte_43 : decode cX6_sectorByte 43 = .ok (.aload_n 0, 1) := by decide +kernel
theorem dX6_sectorByte_44 : decode cX6_sectorByte 44 = .ok (.getfield 125, 3) := by decide +kernel
theorem dX6_sectorByte_47 : decode cX6_sectorByte 47 = .ok (.sipush 161, 3) := by decide +kernel
theorem dX6_sectorByte_50 : decode cX6_sectorByte 50 = .ok (.invokestatic 28, 3) := by decide +kernel
theorem dX6_sectorByte_53 : decode cX6_sectorByte 53 = .ok (.putfield 125, 3) := by decide +kernel
theorem dX6_sectorByte_56 : decode cX6_sectorByte 56 = .ok (.goto 130, 3) := by decide +kernel
theorem dX6_sectorByte_59 : decode cX6_sectorByte 59 = .ok (.aload_n 0, 1) := by decide +kernel
theorem dX6_sectorByte_60 : decode cX6_sectorByte 60 = .ok (.getfield 119, 3) := by decide +kernel
theorem dX6_sectorByte_63 : decode cX6_sectorByte 63 = .ok (.bipush 7, 2) := by decide +kernel
theorem dX6_sectorByte_65 : decode cX6_sectorByte 65 = .ok (.if_icmp .ne 40, 3) := by decide +kernel
theorem dX6_sectorByte_68 : decode cX6_sectorByte 68 = .ok (.aload_n 0, 1) := by decide +kernel
theorem dX6_sectorByte_69 : decode cX6_sectorByte 69 = .ok (.getfield 147, 3) := by decide +kernel
theorem dX6_sectorByte_72 : decode cX6_sectorByte 72 = .ok (.ifCond .eq 9, 3) := by decide +kernel
theorem dX6_sectorByte_75 : decode cX6_sectorByte 75 = .ok (.sipush 248, 3) := by decide +kernel
theorem dX6_sectorByte_78 : decode cX6_sectorByte 78 = .ok (.goto 6, 3) := by decide +kernel
theorem dX6_sectorByte_81 : decode cX6_sectorByte 81 = .ok (.sipush 251, 3) := by decide +kernel
theorem dX6_sectorByte_84 : decode cX6_sectorByte 84 = .ok (.istore_n 3, 1) := by decide +kernel
theorem dX6_sectorByte_85 : decode cX6_sectorByte 85 = .ok (.aload_n 0, 1) := by decide +kernel
theorem dX6_sectorByte_86 : decode cX6_sectorByte 86 = .ok (.iload_n 3, 1) := by decide +kernel
theorem dX6_sectorByte_87 : decode cX6_sectorByte 87 = .ok (.invokevirtual 141, 3) := by decide +kernel
theorem dX6_sectorByte_90 : decode cX6_sectorByte 90 = .ok (.aload_n 0, 1) := by decide +kernel
theorem dX6_sectorByte_91 : decode cX6_sectorByte 91 = .ok (.aload_n 0, 1) := by decide +kernel
theorem dX6_sectorByte_92 : decode cX6_sectorByte 92 = .ok (.getfield 125, 3) := by decide +kernel
theorem dX6_sectorByte_95 : decode cX6_sectorByte 95 = .ok (.iload_n 3, 1) := by decide +kernel
theorem dX6_sectorByte_96 : decode cX6_sectorByte 96 = .ok (.invokestatic 28, 3) := by decide +kernel
theorem dX6_sectorByte_99 : decode cX6_sectorByte 99 = .ok (.putfield 125, 3) := by decide +kernel
theorem dX6_sectorByte_102 : decode cX6_sectorByte 102 = .ok (.goto 84, 3) := by decide +kernel
theorem dX6_sectorByte_105 : decode cX6_sectorByte 105 = .ok (.iload_n 2, 1) := by decide +kernel
theorem dX6_sectorByte_106 : decode cX6_sectorByte 106 = .ok (.iload_n 1, 1) := by decide +kernel
theorem dX6_sectorByte_107 : decode cX6_sectorByte 107 = .ok (.if_icmp .ge 40, 3) := by decide +kernel
theorem dX6_sectorByte_110 : decode cX6_sectorByte 110 = .ok (.aload_n 0, 1) := by decide +kernel
theorem dX6_sectorByte_111 : decode cX6_sectorByte 111 = .ok (.invokevirtual 150, 3) := by decide +kernel
theorem dX6_sectorByte_114 : decode cX6_sectorByte 114 = .ok (.istore_n 3, 1) := by decide +kernel
theorem dX6_sectorByte_115 : decode cX6_sectorByte 115 = .ok (.iload_n 2, 1) := by decide +kernel
theorem dX6_sectorByte_116 : decode cX6_sectorByte 116 = .ok (.iconst 1, 1) := by decide +kernel
theorem dX6_sectorByte_117 : decode cX6_sectorByte 117 = .ok (.iadd, 1) := by decide +kernel
theorem dX6_sectorByte_118 : decode cX6_sectorByte 118 = .ok (.iload_n 1, 1) := by decide +kernel
theorem dX6_sectorByte_119 : decode cX6_sectorByte 119 = .ok (.if_icmp .ge 8, 3) := by decide +kernel
theorem dX6_sectorByte_122 : decode cX6_sectorByte 122 = .ok (.aload_n 0, 1) := by decide +kernel
theorem dX6_sectorByte_123 : decode cX6_sectorByte 123 = .ok (.iconst 2, 1) := by decide +kernel
theorem dX6_sectorByte_124 : decode cX6_sectorByte 124 = .ok (.invokevirtual 68, 3) := by decide +kernel
theorem dX6_sectorByte_127 : decode cX6_sectorByte 127 = .ok (.aload_n 0, 1) := by decide +kernel
theorem dX6_sectorByte_128 : decode cX6_sectorByte 128 = .ok (.iload_n 3, 1) := by decide +kernel
theorem dX6_sectorByte_129 : decode cX6_sectorByte 129 = .ok (.invokevirtual 141, 3) := by decide +kernel
theorem dX6_sectorByte_132 : decode cX6_sectorByte 132 = .ok (.aload_n 0, 1) := by decide +kernel
theorem dX6_sectorByte_133 : decode cX6_sectorByte 133 = .ok (.aload_n 0, 1) := by decide +kernel
theorem dX6_sectorByte_134 : decode cX6_sectorByte 134 = .ok (.getfield 125, 3) := by decide +kernel
theorem dX6_sectorByte_137 : decode cX6_sectorByte 137 = .ok (.iload_n 3, 1) := by decide +kernel
theorem dX6_sectorByte_138 : decode cX6_sectorByte 138 = .ok (.invokestatic 28, 3) := by decide +kernel
theorem dX6_sectorByte_141 : decode cX6_sectorByte 141 = .ok (.putfield 125, 3) := by decide +kernel
theorem dX6_sectorByte_144 : decode cX6_sectorByte 144 = .ok (.goto 42, 3) := by decide +kernel
theorem dX6_sectorByte_147 : decode cX6_sectorByte 147 = .ok (.aload_n 0, 1) := by decide +kernel
theorem dX6_sectorByte_148 : decode cX6_sectorByte 148 = .ok (.iload_n 2, 1) := by decide +kernel
theorem dX6_sectorByte_149 : decode cX6_sectorByte 149 = .ok (.iload_n 1, 1) := by decide +kernel
theorem dX6_sectorByte_150 : decode cX6_sectorByte 150 = .ok (.if_icmp .ne 13, 3) := by decide +kernel
theorem dX6_sectorByte_153 : decode cX6_sectorByte 153 = .ok (.aload_n 0, 1) := by decide +kernel
theorem dX6_sectorByte_154 : decode cX6_sectorByte 154 = .ok (.getfield 125, 3) := by decide +kernel
theorem dX6_sectorByte_157 : decode cX6_sectorByte 157 = .ok (.bipush 8, 2) := by decide +kernel
theorem dX6_sectorByte_159 : decode cX6_sectorByte 159 = .ok (.ishr, 1) := by decide +kernel
theorem dX6_sectorByte_160 : decode cX6_sectorByte 160 = .ok (.goto 23, 3) := by decide +kernel
theorem dX6_sectorByte_163 : decode cX6_sectorByte 163 = .ok (.iload_n 2, 1) := by decide +kernel
theorem dX6_sectorByte_164 : decode cX6_sectorByte 164 = .ok (.iload_n 1, 1) := by decide +kernel
theorem dX6_sectorByte_165 : decode cX6_sectorByte 165 = .ok (.iconst 1, 1) := by decide +kernel
theorem dX6_sectorByte_166 : decode cX6_sectorByte 166 = .ok (.iadd, 1) := by decide +kernel
theorem dX6_sectorByte_167 : decode cX6_sectorByte 167 = .ok (.if_icmp .ne 14, 3) := by decide +kernel
theorem dX6_sectorByte_170 : decode cX6_sectorByte 170 = .ok (.aload_n 0, 1) := by decide +kernel
theorem dX6_sectorByte_171 : decode cX6_sectorByte 171 = .ok (.getfield 125, 3) := by decide +kernel
theorem dX6_sectorByte_174 : decode cX6_sectorByte 174 = .ok (.sipush 255, 3) := by decide +kernel
theorem dX6_sectorByte_177 : decode cX6_sectorByte 177 = .ok (.iand, 1) := by decide +kernel
theorem dX6_sectorByte_178 : decode cX6_sectorByte 178 = .ok (.goto 5, 3) := by decide +kernel
theorem dX6_sectorByte_181 : decode cX6_sectorByte 181 = .ok (.bipush 78, 2) := by decide +kernel
theorem dX6_sectorByte_183 : decode cX6_sectorByte 183 = .ok (.invokevirtual 141, 3) := by decide +kernel
theorem dX6_sectorByte_186 : decode cX6_sectorByte 186 = .ok (.aload_n 0, 1) := by decide +kernel
theorem dX6_sectorByte_187 : decode cX6_sectorByte 187 = .ok (.dup, 1) := by decide +kernel
theorem dX6_sectorByte_188 : decode cX6_sectorByte 188 = .ok (.getfield 119, 3) := by decide +kernel
theorem dX6_sectorByte_191 : decode cX6_sectorByte 191 = .ok (.iconst 1, 1) := by decide +kernel
theorem dX6_sectorByte_192 : decode cX6_sectorByte 192 = .ok (.iadd, 1) := by decide +kernel
theorem dX6_sectorByte_193 : decode cX6_sectorByte 193 = .ok (.putfield 119, 3) := by decide +kernel
theorem dX6_sectorByte_196 : decode cX6_sectorByte 196 = .ok (.return_, 1) := by decide +kernel
end
section
set_option maxRecDepth 20000 in
theorem ggX6_trackByte_X6_write : GoodIn wsX6_trackByte wsX6_write := goodIn_r _ [9, 10, 11, 12, 13, 14, 8, 15, 37, 38, 39, 40, 41, 42, 43, 44, 45, 46, 47, 48, 49, 50, 51, 52, 53, 54, 55, 56, 57, 58, 59, 60, 61, 62, 63, 64, 65, 66, 67, 68] (by decide +kernel) (by decide +kernel)
set_option maxRecDepth 20000 in
theorem gX6_trackByte_X6_write : GoodIn wsX6_trackByte (wsV RX6 141 RX6 yX6_write wsX6_write) := goodIn_app (goodIn_of _ (by decide +kernel)) ggX6_trackByte_X6_write
set_option maxRecDepth 20000 in
theorem ggX6_trackByte_X6_ask : GoodIn wsX6_trackByte wsX6_ask := goodIn_r _ [19, 20, 21, 22, 23, 8, 24, 25, 26, 27, 28, 29, 37, 38, 39, 40, 41, 42, 43, 44, 45, 46, 47, 48, 49, 50, 51, 52, 53, 54, 55, 56, 57, 58, 59, 60, 61, 62, 63, 64, 65, 66, 67, 68] (by decide +kernel) (by decide +kernel)
set_option maxRecDepth 20000 in
theorem gX6_trackByte_X6_ask : GoodIn wsX6_trackByte (wsV RX6 150 RX6 yX6_ask wsX6_ask) := goodIn_app (goodIn_of _ (by decide +kernel)) ggX6_trackByte_X6_ask
set_option maxRecDepth 20000 in
theorem ggX6_trackByte_X6_raise : GoodIn wsX6_trackByte wsX6_raise := goodIn_r _ [29, 25, 37, 38, 39, 40, 41, 42, 43, 44, 45, 46, 47, 48, 49, 50, 51, 52, 53, 54, 55, 56, 57, 58, 59, 60, 61, 62, 63, 64, 65, 66, 67, 68] (by decide +kernel) (by decide +kernel)
set_option maxRecDepth 20000 in
theorem gX6_trackByte_X6_raise : GoodIn wsX6_trackByte (wsV RX6 68 RX6 yX6_raise wsX6_raise) := goodIn_app (goodIn_of _ (by decide +kernel)) ggX6_trackByte_X6_raise
set_option maxRecDepth 20000 in
theorem ggX6_trackByte_X6_writeMark : GoodIn wsX6_trackByte wsX6_writeMark := goodIn_r _ [33, 10, 11, 37, 38, 39, 40, 41, 42, 43, 44, 45, 46, 47, 48, 49, 50, 51, 52, 53, 54, 55, 56, 57, 58, 59, 60, 61, 62, 63, 64, 65, 66, 67, 68] (by decide +kernel) (by decide +kernel)
set_option maxRecDepth 20000 in
theorem gX6_trackByte_X6_writeMark : GoodIn wsX6_trackByte (wsV RX6 144 RX6 yX6_writeMark wsX6_writeMark) := goodIn_app (goodIn_of _ (by decide +kernel)) ggX6_trackByte_X6_writeMark
set_option maxRecDepth 20000 in
theorem ggX6_trackByte_X6_step : GoodIn wsX6_trackByte wsX6_step := goodIn_r _ [36, 4] (by decide +kernel) (by decide +kernel)
set_option maxRecDepth 20000 in
theorem gX6_trackByte_X6_step : GoodIn wsX6_trackByte (va_wsS RX6 28 yX6_step wsX6_step) := goodIn_app (goodIn_of _ (by decide +kernel)) ggX6_trackByte_X6_step
theorem dX6_trackByte_0 : decode cX6_trackByte 0 = .ok (.aload_n 0, 1) := by decide +kernel
theorem dX6_trackByte_1 : decode cX6_trackByte 1 = .ok (.getfield 131, 3) := by decide +kernel
theorem dX6_trackByte_4 : decode cX6_trackByte 4 = .ok (.ifCond .lt 17, 3) := by decide +kernel
theorem dX6_trackByte_7 : decode cX6_trackByte 7 = .ok (.aload_n 0, 1) := by decide +kernel
theorem dX6_trackByte_8 : decode cX6_trackByte 8 = .ok (.aload_n 0, 1) := by decide +kernel
theorem dX6_trackByte_9 : decode cX6_trackByte 9 = .ok (.getfield 131, 3) := by decide +kernel
theorem dX6_trackByte_12 : decode cX6_trackByte 12 = .ok (.invokevirtual 141, 3) := by decide +kernel
theorem dX6_trackByte_15 : decode cX6_trackByte 15 = .ok (.aload_n 0, 1) := by decide +kernel
theorem dX6_trackByte_16 : decode cX6_trackByte 16 = .ok (.iconst (-1), 1) := by decide +kernel
theorem dX6_trackByte_17 : decode cX6_trackByte 17 = .ok (.putfield 131, 3) := by decide +kernel
theorem dX6_trackByte_20 : decode cX6_trackByte 20 = .ok (.return_, 1) := by decide +kernel
theorem dX6_trackByte_21 : decode cX6_trackByte 21 = .ok (.aload_n 0, 1) := by decide +kernel
theorem dX6_trackByte_22 : decode cX6_trackByte 22 = .ok (.invokevirtual 150, 3) := by decide +kernel
theorem dX6_trackByte_25 : decode cX6_trackByte 25 = .ok (.istore_n 1, 1) := by decide +kernel
theorem dX6_trackByte_26 : decode cX6_trackByte 26 = .ok (.aload_n 0, 1) := by decide +kernel
theorem dX6_trackByte_27 : decode cX6_trackByte 27 = .ok (.iconst 2, 1) := by decide +kernel
theorem dX6_trackByte_28 : decode cX6_trackByte 28 = .ok (.invokevirtual 68, 3) := by decide +kernel
theorem dX6_trackByte_31 : decode cX6_trackByte 31 = .ok (.iload_n 1, 1) := by decide +kernel
theorem dX6_trackByte_32 : decode cX6_trackByte 32 = .ok (.sipush 245, 3) := by decide +kernel
theorem dX6_trackByte_35 : decode cX6_trackByte 35 = .ok (.if_icmp .ne 7, 3) := by decide +kernel
theorem dX6_trackByte_38 : decode cX6_trackByte 38 = .ok (.iconst 1, 1) := by decide +kernel
theorem dX6_trackByte_39 : decode cX6_trackByte 39 = .ok (.goto 4, 3) := by decide +kernel
theorem dX6_trackByte_42 : decode cX6_trackByte 42 = .ok (.iconst 0, 1) := by decide +kernel
theorem dX6_trackByte_43 : decode cX6_trackByte 43 = .ok (.istore_n 2, 1) := by decide +kernel
theorem dX6_trackByte_44 : decode cX6_trackByte 44 = .ok (.iload_n 2, 1) := by decide +kernel
theorem dX6_trackByte_45 : decode cX6_trackByte 45 = .ok (.ifCond .eq 36, 3) := by decide +kernel
theorem dX6_trackByte_48 : decode cX6_trackByte 48 = .ok (.aload_n 0, 1) := by decide +kernel
theorem dX6_trackByte_49 : decode cX6_trackByte 49 = .ok (.invokevirtual 144, 3) := by decide +kernel
theorem dX6_trackByte_52 : decode cX6_trackByte 52 = .ok (.aload_n 0, 1) := by decide +kernel
theorem dX6_trackByte_53 : decode cX6_trackByte 53 = .ok (.aload_n 0, 1) := by decide +kernel
theorem dX6_trackByte_54 : decode cX6_trackByte 54 = .ok (.getfield 128, 3) := by decide +kernel
theorem dX6_trackByte_57 : decode cX6_trackByte 57 = .ok (.ifCond .eq 10, 3) := by decide +kernel
theorem dX6_trackByte_60 : decode cX6_trackByte 60 = .ok (.aload_n 0, 1) := by decide +kernel
theorem dX6_trackByte_61 : decode cX6_trackByte 61 = .ok (.getfield 125, 3) := by decide +kernel
theorem dX6_trackByte_64 : decode cX6_trackByte 64 = .ok (.goto 5, 3) := by decide +kernel
theorem dX6_trackByte_67 : decode cX6_trackByte 67 = .ok (.ldc 27, 2) := by decide +kernel
theorem dX6_trackByte_69 : decode cX6_trackByte 69 = .ok (.sipush 161, 3) := by decide +kernel
theorem dX6_trackByte_72 : decode cX6_trackByte 72 = .ok (.invokestatic 28, 3) := by decide +kernel
theorem dX6_trackByte_75 : decode cX6_trackByte 75 = .ok (.putfield 125, 3) := by decide +kernel
theorem dX6_trackByte_78 : decode cX6_trackByte 78 = .ok (.goto 53, 3) := by decide +kernel
theorem dX6_trackByte_81 : decode cX6_trackByte 81 = .ok (.iload_n 1, 1) := by decide +kernel
theorem dX6_trackByte_82 : decode cX6_trackByte 82 = .ok (.sipush 247, 3) := by decide +kernel
theorem dX6_trackByte_85 : decode cX6_trackByte 85 = .ok (.if_icmp .ne 29, 3) := by decide +kernel
theorem dX6_trackByte_88 : decode cX6_trackByte 88 = .ok (.aload_n 0, 1) := by decide +kernel
theorem dX6_trackByte_89 : decode cX6_trackByte 89 = .ok (.aload_n 0, 1) := by decide +kernel
theorem dX6_trackByte_90 : decode cX6_trackByte 90 = .ok (.getfield 125, 3) := by decide +kernel
theorem dX6_trackByte_93 : decode cX6_trackByte 93 = .ok (.bipush 8, 2) := by decide +kernel
theorem dX6_trackByte_95 : decode cX6_trackByte 95 = .ok (.ishr, 1) := by decide +kernel
theorem dX6_trackByte_96 : decode cX6_trackByte 96 = .ok (.invokevirtual 141, 3) := by decide +kernel
theorem dX6_trackByte_99 : decode cX6_trackByte 99 = .ok (.aload_n 0, 1) := by decide +kernel
theorem dX6_trackByte_100 : decode cX6_trackByte 100 = .ok (.aload_n 0, 1) := by decide +kernel
theorem dX6_trackByte_101 : decode cX6_trackByte 101 = .ok (.getfield 125, 3) := by decide +kernel
theorem dX6_trackByte_104 : decode cX6_trackByte 104 = .ok (.sipush 255, 3) := by decide +kernel
theorem dX6_trackByte_107 : decode cX6_trackByte 107 = .ok (.iand, 1) := by decide +kernel
theorem dX6_trackByte_108 : decode cX6_trackByte 108 = .ok (.putfield 131, 3) := by decide +kernel
theorem dX6_trackByte_111 : decode cX6_trackByte 111 = .ok (.goto 20, 3) := by decide +kernel
theorem dX6_trackByte_114 : decode cX6_trackByte 114 = .ok (.aload_n 0, 1) := by decide +kernel
theorem dX6_trackByte_115 : decode cX6_trackByte 115 = .ok (.iload_n 1, 1) := by decide +kernel
theorem dX6_trackByte_116 : decode cX6_trackByte 116 = .ok (.invokevirtual 141, 3) := by decide +kernel
theorem dX6_trackByte_119 : decode cX6_trackByte 119 = .ok (.aload_n 0, 1) := by decide +kernel
theorem dX6_trackByte_120 : decode cX6_trackByte 120 = .ok (.aload_n 0, 1) := by decide +kernel
theorem dX6_trackByte_121 : decode cX6_trackByte 121 = .ok (.getfield 125, 3) := by decide +kernel
theorem dX6_trackByte_124 : decode cX6_trackByte 124 = .ok (.iload_n 1, 1) := by decide +kernel
theorem dX6_trackByte_125 : decode cX6_trackByte 125 = .ok (.invokestatic 28, 3) := by decide +kernel
theorem dX6_trackByte_128 : decode cX6_trackByte 128 = .ok (.putfield 125, 3) := by decide +kernel
theorem dX6_trackByte_131 : decode cX6_trackByte 131 = .ok (.aload_n 0, 1) := by decide +kernel
theorem dX6_trackByte_132 : decode cX6_trackByte 132 = .ok (.iload_n 2, 1) := by decide +kernel
theorem dX6_trackByte_133 : decode cX6_trackByte 133 = .ok (.putfield 128, 3) := by decide +kernel
theorem dX6_trackByte_136 : decode cX6_trackByte 136 = .ok (.return_, 1) := by decide +kernel
set_option maxRecDepth 20000 in
theorem ggX6_writeCell_X6_sectorByte : GoodIn wsX6_writeCell wsX6_sectorByte := goodIn_r _ [13, 8, 7, 14, 15, 16, 17, 18, 12, 19, 6, 20, 21, 22, 23, 24, 25, 26, 27, 28, 29, 30, 31, 32, 33, 34, 35, 36, 37, 38, 39, 40, 41, 42, 43, 44, 45, 46, 62, 63, 64, 65, 66, 67, 68, 69, 70, 71, 72, 73, 74, 75, 76, 77, 78, 79, 80, 81, 82, 83, 84, 85, 86, 87, 88, 89, 90, 91, 92, 93] (by decide +kernel) (by decide +kernel)
set_option maxRecDepth 20000 in
theorem gX6_writeCell_X6_sectorByte : GoodIn wsX6_writeCell (wsV RX6 154 RX6 yX6_sectorByte wsX6_sectorByte) := goodIn_app (goodIn_of _ (by decide +kernel)) ggX6_writeCell_X6_sectorByte
set_option maxRecDepth 20000 in
theorem ggX6_writeCell_X6_trackByte : GoodIn wsX6_writeCell wsX6_trackByte := goodIn_r _ [50, 51, 52, 14, 32, 16, 17, 18, 12, 19, 6, 20, 21, 22, 23, 24, 33, 34, 35, 36, 37, 38, 39, 40, 41, 42, 43, 44, 45, 46, 25, 26, 27, 28, 29, 30, 31, 62, 63, 64, 65, 66, 67, 68, 69, 70, 71, 72, 73, 74, 75, 76, 77, 78, 79, 80, 81, 82, 83, 84, 85, 86, 87, 88, 89, 90, 91, 92, 93] (by decide +kernel) (by decide +kernel)
set_option maxRecDepth 20000 in
theorem gX6_writeCell_X6_trackByte : GoodIn wsX6_writeCell (wsV RX6 157 RX6 yX6_trackByte wsX6_trackByte) := goodIn_app (goodIn_of _ (by decide +kernel)) ggX6_writeCell_X6_trackByte
set_option maxRecDepth 20000 in
theorem ggX6_writeCell_X6_end : GoodIn wsX6_writeCell wsX6_end := goodIn_r _ [56, 2, 57, 58, 59, 60, 12, 61, 42, 62, 63, 64, 65, 66, 67, 68, 69, 70, 71, 72, 73, 74, 75, 76, 77, 78, 79, 80, 81, 82, 83, 84, 85, 86, 87, 88, 89, 90, 91, 92, 93] (by decide +kernel) (by decide +kernel)
set_option maxRecDepth 20000 in
theorem gX6_writeCell_X6_end : GoodIn wsX6_writeCell (wsV RX6 74 RX6 yX6_end wsX6_end) := goodIn_app (goodIn_of _ (by decide +kernel)) ggX6_writeCell_X6_end
theorem dX6_writeCell_0 : decode cX6_writeCell 0 = .ok (.aload_n 0, 1) := by decide +kernel
theorem dX6_writeCell_1 : decode cX6_writeCell 1 = .ok (.getfield 116, 3) := by decide +kernel
theorem dX6_writeCell_4 : decode cX6_writeCell 4 = .ok (.ifCond .ne 23, 3) := by decide +kernel
theorem dX6_writeCell_7 : decode cX6_writeCell 7 = .ok (.aload_n 0, 1) := by decide +kernel
theorem dX6_writeCell_8 : decode cX6_writeCell 8 = .ok (.getfield 55, 3) := by decide +kernel
theorem dX6_writeCell_11 : decode cX6_writeCell 11 = .ok (.bipush 6, 2) := by decide +kernel
theorem dX6_writeCell_13 : decode cX6_writeCell 13 = .ok (.if_icmp .ne 10, 3) := by decide +kernel
theorem dX6_writeCell_16 : decode cX6_writeCell 16 = .ok (.aload_n 0, 1) := by decide +kernel
theorem dX6_writeCell_17 : decode cX6_writeCell 17 = .ok (.invokevirtual 154, 3) := by decide +kernel
theorem dX6_writeCell_20 : decode cX6_writeCell 20 = .ok (.goto 7, 3) := by decide +kernel
theorem dX6_writeCell_23 : decode cX6_writeCell 23 = .ok (.aload_n 0, 1) := by decide +kernel
theorem dX6_writeCell_24 : decode cX6_writeCell 24 = .ok (.invokevirtual 157, 3) := by decide +kernel
theorem dX6_writeCell_27 : decode cX6_writeCell 27 = .ok (.aload_n 0, 1) := by decide +kernel
theorem dX6_writeCell_28 : decode cX6_writeCell 28 = .ok (.getfield 7, 3) := by decide +kernel
theorem dX6_writeCell_31 : decode cX6_writeCell 31 = .ok (.sipush 2400, 3) := by decide +kernel
theorem dX6_writeCell_34 : decode cX6_writeCell 34 = .ok (.aload_n 0, 1) := by decide +kernel
theorem dX6_writeCell_35 : decode cX6_writeCell 35 = .ok (.getfield 101, 3) := by decide +kernel
theorem dX6_writeCell_38 : decode cX6_writeCell 38 = .ok (.imul, 1) := by decide +kernel
theorem dX6_writeCell_39 : decode cX6_writeCell 39 = .ok (.aload_n 0, 1) := by decide +kernel
theorem dX6_writeCell_40 : decode cX6_writeCell 40 = .ok (.getfield 104, 3) := by decide +kernel
theorem dX6_writeCell_43 : decode cX6_writeCell 43 = .ok (.iadd, 1) := by decide +kernel
theorem dX6_writeCell_44 : decode cX6_writeCell 44 = .ok (.aload_n 0, 1) := by decide +kernel
theorem dX6_writeCell_45 : decode cX6_writeCell 45 = .ok (.getfield 138, 3) := by decide +kernel
theorem dX6_writeCell_48 : decode cX6_writeCell 48 = .ok (.bipush 15, 2) := by decide +kernel
theorem dX6_writeCell_50 : decode cX6_writeCell 50 = .ok (.aload_n 0, 1) := by decide +kernel
theorem dX6_writeCell_51 : decode cX6_writeCell 51 = .ok (.getfield 116, 3) := by decide +kernel
theorem dX6_writeCell_54 : decode cX6_writeCell 54 = .ok (.isub, 1) := by decide +kernel
theorem dX6_writeCell_55 : decode cX6_writeCell 55 = .ok (.ishr, 1) := by decide +kernel
theorem dX6_writeCell_56 : decode cX6_writeCell 56 = .ok (.iconst 1, 1) := by decide +kernel
theorem dX6_writeCell_57 : decode cX6_writeCell 57 = .ok (.iand, 1) := by decide +kernel
theorem dX6_writeCell_58 : decode cX6_writeCell 58 = .ok (.iconst 1, 1) := by decide +kernel
theorem dX6_writeCell_59 : decode cX6_writeCell 59 = .ok (.if_icmp .ne 7, 3) := by decide +kernel
theorem dX6_writeCell_62 : decode cX6_writeCell 62 = .ok (.iconst 1, 1) := by decide +kernel
theorem dX6_writeCell_63 : decode cX6_writeCell 63 = .ok (.goto 4, 3) := by decide +kernel
theorem dX6_writeCell_66 : decode cX6_writeCell 66 = .ok (.iconst 0, 1) := by decide +kernel
theorem dX6_writeCell_67 : decode cX6_writeCell 67 = .ok (.bastore, 1) := by decide +kernel
theorem dX6_writeCell_68 : decode cX6_writeCell 68 = .ok (.aload_n 0, 1) := by decide +kernel
theorem dX6_writeCell_69 : decode cX6_writeCell 69 = .ok (.aload_n 0, 1) := by decide +kernel
theorem dX6_writeCell_70 : decode cX6_writeCell 70 = .ok (.getfield 116, 3) := by decide +kernel
theorem dX6_writeCell_73 : decode cX6_writeCell 73 = .ok (.bipush 15, 2) := by decide +kernel
theorem dX6_writeCell_75 : decode cX6_writeCell 75 = .ok (.if_icmp .ne 7, 3) := by decide +kernel
theorem dX6_writeCell_78 : decode cX6_writeCell 78 = .ok (.iconst 0, 1) := by decide +kernel
theorem dX6_writeCell_79 : decode cX6_writeCell 79 = .ok (.goto 9, 3) := by decide +kernel
theorem dX6_writeCell_82 : decode cX6_writeCell 82 = .ok (.aload_n 0, 1) := by decide +kernel
theorem dX6_writeCell_83 : decode cX6_writeCell 83 = .ok (.getfield 116, 3) := by decide +kernel
theorem dX6_writeCell_86 : decode cX6_writeCell 86 = .ok (.iconst 1, 1) := by decide +kernel
theorem dX6_writeCell_87 : decode cX6_writeCell 87 = .ok (.iadd, 1) := by decide +kernel
theorem dX6_writeCell_88 : decode cX6_writeCell 88 = .ok (.putfield 116, 3) := by decide +kernel
theorem dX6_writeCell_91 : decode cX6_writeCell 91 = .ok (.aload_n 0, 1) := by decide +kernel
theorem dX6_writeCell_92 : decode cX6_writeCell 92 = .ok (.getfield 55, 3) := by decide +kernel
theorem dX6_writeCell_95 : decode cX6_writeCell 95 = .ok (.bipush 6, 2) := by decide +kernel
theorem dX6_writeCell_97 : decode cX6_writeCell 97 = .ok (.if_icmp .ne 28, 3) := by decide +kernel
theorem dX6_writeCell_100 : decode cX6_writeCell 100 = .ok (.aload_n 0, 1) := by decide +kernel
theorem dX6_writeCell_101 : decode cX6_writeCell 101 = .ok (.getfield 116, 3) := by decide +kernel
theorem dX6_writeCell_104 : decode cX6_writeCell 104 = .ok (.ifCond .ne 21, 3) := by decide +kernel
theorem dX6_writeCell_107 : decode cX6_writeCell 107 = .ok (.aload_n 0, 1) := by decide +kernel
theorem dX6_writeCell_108 : decode cX6_writeCell 108 = .ok (.getfield 119, 3) := by decide +kernel
theorem dX6_writeCell_111 : decode cX6_writeCell 111 = .ok (.aload_n 0, 1) := by decide +kernel
theorem dX6_writeCell_112 : decode cX6_writeCell 112 = .ok (.getfield 17, 3) := by decide +kernel
theorem dX6_writeCell_115 : decode cX6_writeCell 115 = .ok (.bipush 11, 2) := by decide +kernel
theorem dX6_writeCell_117 : decode cX6_writeCell 117 = .ok (.iadd, 1) := by decide +kernel
theorem dX6_writeCell_118 : decode cX6_writeCell 118 = .ok (.if_icmp .ne 7, 3) := by decide +kernel
theorem dX6_writeCell_121 : decode cX6_writeCell 121 = .ok (.aload_n 0, 1) := by decide +kernel
theorem dX6_writeCell_122 : decode cX6_writeCell 122 = .ok (.invokevirtual 74, 3) := by decide +kernel
theorem dX6_writeCell_125 : decode cX6_writeCell 125 = .ok (.return_, 1) := by decide +kernel
set_option maxRecDepth 20000 in
theorem ggX6_index_X6_end : GoodIn wsX6_index wsX6_end := goodIn_r _ [7, 2, 8, 9, 10, 11, 6, 12, 13, 40, 41, 42, 43, 44, 45, 46, 47, 48, 49, 50, 51, 52, 53, 54, 55, 56, 57, 58, 59, 60, 61, 62, 63, 64, 65, 66, 67, 68, 69, 70, 71] (by decide +kernel) (by decide +kernel)
set_option maxRecDepth 20000 in
theorem gX6_index_X6_end : GoodIn wsX6_index (wsV RX6 74 RX6 yX6_end wsX6_end) := goodIn_app (goodIn_of _ (by decide +kernel)) ggX6_index_X6_end
set_option maxRecDepth 20000 in
theorem ggX6_index_X6_has : GoodIn wsX6_index wsX6_has := goodIn_r _ [17, 13, 40, 41, 42, 43, 44, 45, 46, 47, 48, 49, 50, 51, 52, 53, 54, 55, 56, 57, 58, 59, 60, 61, 62, 63, 64, 65, 66, 67, 68, 69, 70, 71] (by decide +kernel) (by decide +kernel)
set_option maxRecDepth 20000 in
theorem gX6_index_X6_has : GoodIn wsX6_index (wsV RX6 64 RX6 yX6_has wsX6_has) := goodIn_app (goodIn_of _ (by decide +kernel)) ggX6_index_X6_has
set_option maxRecDepth 20000 in
theorem ggX6_index_X6_raise : GoodIn wsX6_index wsX6_raise := goodIn_r _ [21, 13, 40, 41, 42, 43, 44, 45, 46, 47, 48, 49, 50, 51, 52, 53, 54, 55, 56, 57, 58, 59, 60, 61, 62, 63, 64, 65, 66, 67, 68, 69, 70, 71] (by decide +kernel) (by decide +kernel)
set_option maxRecDepth 20000 in
theorem gX6_index_X6_raise : GoodIn wsX6_index (wsV RX6 68 RX6 yX6_raise wsX6_raise) := goodIn_app (goodIn_of _ (by decide +kernel)) ggX6_index_X6_raise
set_option maxRecDepth 20000 in
theorem ggX6_index_X6_startWriting : GoodIn wsX6_index wsX6_startWriting := goodIn_r _ [25, 2, 26, 27, 28, 29, 30, 31, 32, 33, 34, 35, 6, 36, 37, 38, 39, 40, 41, 42, 43, 44, 45, 46, 47, 48, 49, 50, 51, 52, 53, 54, 55, 56, 57, 58, 59, 60, 61, 62, 63, 64, 65, 66, 67, 68, 69, 70, 71] (by decide +kernel) (by decide +kernel)
set_option maxRecDepth 20000 in
theorem gX6_index_X6_startWriting : GoodIn wsX6_index (wsV RX6 163 RX6 yX6_startWriting wsX6_startWriting) := goodIn_app (goodIn_of _ (by decide +kernel)) ggX6_index_X6_startWriting
theorem dX6_index_0 : decode cX6_index 0 = .ok (.aload_n 0, 1) := by decide +kernel
theorem dX6_index_1 : decode cX6_index 1 = .ok (.dup, 1) := by decide +kernel
theorem dX6_index_2 : decode cX6_index 2 = .ok (.getfield 160, 3) := by decide +kernel
theorem dX6_index_5 : decode cX6_index 5 = .ok (.iconst 1, 1) := by decide +kernel
theorem dX6_index_6 : decode cX6_index 6 = .ok (.iadd, 1) := by decide +kernel
theorem dX6_index_7 : decode cX6_index 7 = .ok (.putfield 160, 3) := by decide +kernel
theorem dX6_index_10 : decode cX6_index 10 = .ok (.aload_n 0, 1) := by decide +kernel
theorem dX6_index_11 : decode cX6_index 11 = .ok (.getfield 55, 3) := by decide +kernel
theorem dX6_index_14 : decode cX6_index 14 = .ok (.bipush 8, 2) := by decide +kernel
theorem dX6_index_16 : decode cX6_index 16 = .ok (.if_icmp .ne 10, 3) := by decide +kernel
theorem dX6_index_19 : decode cX6_index 19 = .ok (.aload_n 0, 1) := by decide +kernel
theorem dX6_index_20 : decode cX6_index 20 = .ok (.invokevirtual 74, 3) := by decide +kernel
theorem dX6_index_23 : decode cX6_index 23 = .ok (.goto 75, 3) := by decide +kernel
theorem dX6_index_26 : decode cX6_index 26 = .ok (.aload_n 0, 1) := by decide +kernel
theorem dX6_index_27 : decode cX6_index 27 = .ok (.getfield 55, 3) := by decide +kernel
theorem dX6_index_30 : decode cX6_index 30 = .ok (.bipush 7, 2) := by decide +kernel
theorem dX6_index_32 : decode cX6_index 32 = .ok (.if_icmp .ne 32, 3) := by decide +kernel
theorem dX6_index_35 : decode cX6_index 35 = .ok (.aload_n 0, 1) := by decide +kernel
theorem dX6_index_36 : decode cX6_index 36 = .ok (.iconst 2, 1) := by decide +kernel
theorem dX6_index_37 : decode cX6_index 37 = .ok (.invokevirtual 64, 3) := by decide +kernel
theorem dX6_index_40 : decode cX6_index 40 = .ok (.ifCond .eq 15, 3) := by decide +kernel
theorem dX6_index_43 : decode cX6_index 43 = .ok (.aload_n 0, 1) := by decide +kernel
theorem dX6_index_44 : decode cX6_index 44 = .ok (.iconst 4, 1) := by decide +kernel
theorem dX6_index_45 : decode cX6_index 45 = .ok (.invokevirtual 68, 3) := by decide +kernel
theorem dX6_index_48 : decode cX6_index 48 = .ok (.aload_n 0, 1) := by decide +kernel
theorem dX6_index_49 : decode cX6_index 49 = .ok (.invokevirtual 74, 3) := by decide +kernel
theorem dX6_index_52 : decode cX6_index 52 = .ok (.goto 46, 3) := by decide +kernel
theorem dX6_index_55 : decode cX6_index 55 = .ok (.aload_n 0, 1) := by decide +kernel
theorem dX6_index_56 : decode cX6_index 56 = .ok (.bipush 8, 2) := by decide +kernel
theorem dX6_index_58 : decode cX6_index 58 = .ok (.invokevirtual 163, 3) := by decide +kernel
theorem dX6_index_61 : decode cX6_index 61 = .ok (.goto 37, 3) := by decide +kernel
theorem dX6_index_64 : decode cX6_index 64 = .ok (.aload_n 0, 1) := by decide +kernel
theorem dX6_index_65 : decode cX6_index 65 = .ok (.getfield 160, 3) := by decide +kernel
theorem dX6_index_68 : decode cX6_index 68 = .ok (.iconst 5, 1) := by decide +kernel
theorem dX6_index_69 : decode cX6_index 69 = .ok (.if_icmp .ne 29, 3) := by decide +kernel
theorem dX6_index_72 : decode cX6_index 72 = .ok (.aload_n 0, 1) := by decide +kernel
theorem dX6_index_73 : decode cX6_index 73 = .ok (.getfield 55, 3) := by decide +kernel
theorem dX6_index_76 : decode cX6_index 76 = .ok (.iconst 2, 1) := by decide +kernel
theorem dX6_index_77 : decode cX6_index 77 = .ok (.if_icmp .eq 11, 3) := by decide +kernel
theorem dX6_index_80 : decode cX6_index 80 = .ok (.aload_n 0, 1) := by decide +kernel
theorem dX6_index_81 : decode cX6_index 81 = .ok (.getfield 55, 3) := by decide +kernel
theorem dX6_index_84 : decode cX6_index 84 = .ok (.iconst 3, 1) := by decide +kernel
theorem dX6_index_85 : decode cX6_index 85 = .ok (.if_icmp .ne 13, 3) := by decide +kernel
theorem dX6_index_88 : decode cX6_index 88 = .ok (.aload_n 0, 1) := by decide +kernel
theorem dX6_index_89 : decode cX6_index 89 = .ok (.bipush 16, 2) := by decide +kernel
theorem dX6_index_91 : decode cX6_index 91 = .ok (.invokevirtual 68, 3) := by decide +kernel
theorem dX6_index_94 : decode cX6_index 94 = .ok (.aload_n 0, 1) := by decide +kernel
theorem dX6_index_95 : decode cX6_index 95 = .ok (.invokevirtual 74, 3) := by decide +kernel
theorem dX6_index_98 : decode cX6_index 98 = .ok (.return_, 1) := by decide +kernel
set_option maxRecDepth 20000 in
theorem ggX6_stepHead_X6_end : GoodIn wsX6_stepHead wsX6_end := goodIn_r _ [9, 10, 11, 12, 13, 14, 8, 15, 16, 17, 18, 19, 20, 21, 22, 23, 24, 25, 26, 27, 28, 29, 30, 31, 32, 33, 34, 35, 36, 37, 38, 39, 40, 41, 42, 43, 44, 45, 46, 47, 48] (by decide +kernel) (by decide +kernel)
set_option maxRecDepth 20000 in
theorem gX6_stepHead_X6_end : GoodIn wsX6_stepHead (wsV RX6 74 RX6 yX6_end wsX6_end) := goodIn_app (goodIn_of _ (by decide +kernel)) ggX6_stepHead_X6_end
theorem dX6_stepHead_0 : decode cX6_stepHead 0 = .ok (.aload_n 0, 1) := by decide +kernel
theorem dX6_stepHead_1 : decode cX6_stepHead 1 = .ok (.getfield 21, 3) := by decide +kernel
theorem dX6_stepHead_4 : decode cX6_stepHead 4 = .ok (.ifCond .ne 22, 3) := by decide +kernel
theorem dX6_stepHead_7 : decode cX6_stepHead 7 = .ok (.aload_n 0, 1) := by decide +kernel
theorem dX6_stepHead_8 : decode cX6_stepHead 8 = .ok (.getfield 101, 3) := by decide +kernel
theorem dX6_stepHead_11 : decode cX6_stepHead 11 = .ok (.ifCond .ne 15, 3) := by decide +kernel
theorem dX6_stepHead_14 : decode cX6_stepHead 14 = .ok (.aload_n 0, 1) := by decide +kernel
theorem dX6_stepHead_15 : decode cX6_stepHead 15 = .ok (.iconst 0, 1) := by decide +kernel
theorem dX6_stepHead_16 : decode cX6_stepHead 16 = .ok (.putfield 77, 3) := by decide +kernel
theorem dX6_stepHead_19 : decode cX6_stepHead 19 = .ok (.aload_n 0, 1) := by decide +kernel
theorem dX6_stepHead_20 : decode cX6_stepHead 20 = .ok (.invokevirtual 74, 3) := by decide +kernel
theorem dX6_stepHead_23 : decode cX6_stepHead 23 = .ok (.goto 84, 3) := by decide +kernel
theorem dX6_stepHead_26 : decode cX6_stepHead 26 = .ok (.aload_n 0, 1) := by decide +kernel
theorem dX6_stepHead_27 : decode cX6_stepHead 27 = .ok (.getfield 77, 3) := by decide +kernel
theorem dX6_stepHead_30 : decode cX6_stepHead 30 = .ok (.aload_n 0, 1) := by decide +kernel
theorem dX6_stepHead_31 : decode cX6_stepHead 31 = .ok (.getfield 61, 3) := by decide +kernel
theorem dX6_stepHead_34 : decode cX6_stepHead 34 = .ok (.if_icmp .ne 10, 3) := by decide +kernel
theorem dX6_stepHead_37 : decode cX6_stepHead 37 = .ok (.aload_n 0, 1) := by decide +kernel
theorem dX6_stepHead_38 : decode cX6_stepHead 38 = .ok (.invokevirtual 74, 3) := by decide +kernel
theorem dX6_stepHead_41 : decode cX6_stepHead 41 = .ok (.goto 66, 3) := by decide +kernel
theorem dX6_stepHead_44 : decode cX6_stepHead 44 = .ok (.aload_n 0, 1) := by decide +kernel
theorem dX6_stepHead_45 : decode cX6_stepHead 45 = .ok (.getfield 77, 3) := by decide +kernel
theorem dX6_stepHead_48 : decode cX6_stepHead 48 = .ok (.aload_n 0, 1) := by decide +kernel
theorem dX6_stepHead_49 : decode cX6_stepHead 49 = .ok (.getfield 61, 3) := by decide +kernel
theorem dX6_stepHead_52 : decode cX6_stepHead 52 = .ok (.if_icmp .ge 7, 3) := by decide +kernel
theorem dX6_stepHead_55 : decode cX6_stepHead 55 = .ok (.iconst 1, 1) := by decide +kernel
theorem dX6_stepHead_56 : decode cX6_stepHead 56 = .ok (.goto 4, 3) := by decide +kernel
theorem dX6_stepHead_59 : decode cX6_stepHead 59 = .ok (.iconst (-1), 1) := by decide +kernel
theorem dX6_stepHead_60 : decode cX6_stepHead 60 = .ok (.istore_n 1, 1) := by decide +kernel
theorem dX6_stepHead_61 : decode cX6_stepHead 61 = .ok (.aload_n 0, 1) := by decide +kernel
theorem dX6_stepHead_62 : decode cX6_stepHead 62 = .ok (.dup, 1) := by decide +kernel
theorem dX6_stepHead_63 : decode cX6_stepHead 63 = .ok (.getfield 77, 3) := by decide +kernel
theorem dX6_stepHead_66 : decode cX6_stepHead 66 = .ok (.iload_n 1, 1) := by decide +kernel
theorem dX6_stepHead_67 : decode cX6_stepHead 67 = .ok (.iadd, 1) := by decide +kernel
theorem dX6_stepHead_68 : decode cX6_stepHead 68 = .ok (.putfield 77, 3) := by decide +kernel
theorem dX6_stepHead_71 : decode cX6_stepHead 71 = .ok (.aload_n 0, 1) := by decide +kernel
theorem dX6_stepHead_72 : decode cX6_stepHead 72 = .ok (.aload_n 0, 1) := by decide +kernel
theorem dX6_stepHead_73 : decode cX6_stepHead 73 = .ok (.getfield 101, 3) := by decide +kernel
theorem dX6_stepHead_76 : decode cX6_stepHead 76 = .ok (.iload_n 1, 1) := by decide +kernel
theorem dX6_stepHead_77 : decode cX6_stepHead 77 = .ok (.iadd, 1) := by decide +kernel
theorem dX6_stepHead_78 : decode cX6_stepHead 78 = .ok (.ifCond .lt 13, 3) := by decide +kernel
theorem dX6_stepHead_81 : decode cX6_stepHead 81 = .ok (.aload_n 0, 1) := by decide +kernel
theorem dX6_stepHead_82 : decode cX6_stepHead 82 = .ok (.getfield 101, 3) := by decide +kernel
theorem dX6_stepHead_85 : decode cX6_stepHead 85 = .ok (.iload_n 1, 1) := by decide +kernel
theorem dX6_stepHead_86 : decode cX6_stepHead 86 = .ok (.iadd, 1) := by decide +kernel
theorem dX6_stepHead_87 : decode cX6_stepHead 87 = .ok (.iconst 3, 1) := by decide +kernel
theorem dX6_stepHead_88 : decode cX6_stepHead 88 = .ok (.if_icmp .le 10, 3) := by decide +kernel
theorem dX6_stepHead_91 : decode cX6_stepHead 91 = .ok (.aload_n 0, 1) := by decide +kernel
theorem dX6_stepHead_92 : decode cX6_stepHead 92 = .ok (.getfield 101, 3) := by decide +kernel
theorem dX6_stepHead_95 : decode cX6_stepHead 95 = .ok (.goto 9, 3) := by decide +kernel
theorem dX6_stepHead_98 : decode cX6_stepHead 98 = .ok (.aload_n 0, 1) := by decide +kernel
theorem dX6_stepHead_99 : decode cX6_stepHead 99 = .ok (.getfield 101, 3) := by decide +kernel
theorem dX6_stepHead_102 : decode cX6_stepHead 102 = .ok (.iload_n 1, 1) := by decide +kernel
theorem dX6_stepHead_103 : decode cX6_stepHead 103 = .ok (.iadd, 1) := by decide +kernel
theorem dX6_stepHead_104 : decode cX6_stepHead 104 = .ok (.putfield 101, 3) := by decide +kernel
theorem dX6_stepHead_107 : decode cX6_stepHead 107 = .ok (.return_, 1) := by decide +kernel
set_option maxRecDepth 20000 in
theorem ggX6_later_X6_stepHead : GoodIn wsX6_later wsX6_stepHead := goodIn_r _ [7, 8, 9, 10, 11, 12, 13, 14, 6, 15, 1, 16, 17, 18, 19, 20, 21, 48, 49, 50, 51, 52, 53, 54, 55, 56, 57, 58, 59, 60, 61, 62, 63, 64, 65, 66, 67, 68, 69, 70, 71, 72, 73, 74, 75, 76, 77, 78, 79] (by decide +kernel) (by decide +kernel)
set_option maxRecDepth 20000 in
theorem gX6_later_X6_stepHead : GoodIn wsX6_later (wsV RX6 166 RX6 yX6_stepHead wsX6_stepHead) := goodIn_app (goodIn_of _ (by decide +kernel)) ggX6_later_X6_stepHead
set_option maxRecDepth 20000 in
theorem ggX6_later_X6_has : GoodIn wsX6_later wsX6_has := goodIn_r _ [25, 21, 48, 49, 50, 51, 52, 53, 54, 55, 56, 57, 58, 59, 60, 61, 62, 63, 64, 65, 66, 67, 68, 69, 70, 71, 72, 73, 74, 75, 76, 77, 78, 79] (by decide +kernel) (by decide +kernel)
set_option maxRecDepth 20000 in
theorem gX6_later_X6_has : GoodIn wsX6_later (wsV RX6 64 RX6 yX6_has wsX6_has) := goodIn_app (goodIn_of _ (by decide +kernel)) ggX6_later_X6_has
set_option maxRecDepth 20000 in
theorem ggX6_later_X6_raise : GoodIn wsX6_later wsX6_raise := goodIn_r _ [29, 21, 48, 49, 50, 51, 52, 53, 54, 55, 56, 57, 58, 59, 60, 61, 62, 63, 64, 65, 66, 67, 68, 69, 70, 71, 72, 73, 74, 75, 76, 77, 78, 79] (by decide +kernel) (by decide +kernel)
set_option maxRecDepth 20000 in
theorem gX6_later_X6_raise : GoodIn wsX6_later (wsV RX6 68 RX6 yX6_raise wsX6_raise) := goodIn_app (goodIn_of _ (by decide +kernel)) ggX6_later_X6_raise
set_option maxRecDepth 20000 in
theorem ggX6_later_X6_end : GoodIn wsX6_later wsX6_end := goodIn_r _ [15, 1, 16, 17, 18, 19, 6, 20, 21, 48, 49, 50, 51, 52, 53, 54, 55, 56, 57, 58, 59, 60, 61, 62, 63, 64, 65, 66, 67, 68, 69, 70, 71, 72, 73, 74, 75, 76, 77, 78, 79] (by decide +kernel) (by decide +kernel)
set_option maxRecDepth 20000 in
theorem gX6_later_X6_end : GoodIn wsX6_later (wsV RX6 74 RX6 yX6_end wsX6_end) := goodIn_app (goodIn_of _ (by decide +kernel)) ggX6_later_X6_end
set_option maxRecDepth 20000 in
theorem ggX6_later_X6_startWriting : GoodIn wsX6_later wsX6_startWriting := goodIn_r _ [33, 1, 34, 35, 36, 37, 38, 39, 40, 41, 42, 43, 6, 44, 45, 46, 47, 48, 49, 50, 51, 52, 53, 54, 55, 56, 57, 58, 59, 60, 61, 62, 63, 64, 65, 66, 67, 68, 69, 70, 71, 72, 73, 74, 75, 76, 77, 78, 79] (by decide +kernel) (by decide +kernel)
set_option maxRecDepth 20000 in
theorem gX6_later_X6_startWriting : GoodIn wsX6_later (wsV RX6 163 RX6 yX6_startWriting wsX6_startWriting) := goodIn_app (goodIn_of _ (by decide +kernel)) ggX6_later_X6_startWriting
theorem dX6_later_0 : decode cX6_later 0 = .ok (.aload_n 0, 1) := by decide +kernel
theorem dX6_later_1 : decode cX6_later 1 = .ok (.getfield 55, 3) := by decide +kernel
theorem dX6_later_4 : decode cX6_later 4 = .ok (.iconst 1, 1) := by decide +kernel
theorem dX6_later_5 : decode cX6_later 5 = .ok (.if_icmp .ne 29, 3) := by decide +kernel
theorem dX6_later_8 : decode cX6_later 8 = .ok (.aload_n 0, 1) := by decide +kernel
theorem dX6_later_9 : decode cX6_later 9 = .ok (.dup, 1) := by decide +kernel
theorem dX6_later_10 : decode cX6_later 10 = .ok (.getfield 80, 3) := by decide +kernel
theorem dX6_later_13 : decode cX6_later 13 = .ok (.iconst 1, 1) := by decide +kernel
theorem dX6_later_14 : decode cX6_later 14 = .ok (.iadd, 1) := by decide +kernel
theorem dX6_later_15 : decode cX6_later 15 = .ok (.putfield 80, 3) := by decide +kernel
theorem dX6_later_18 : decode cX6_later 18 = .ok (.aload_n 0, 1) := by decide +kernel
theorem dX6_later_19 : decode cX6_later 19 = .ok (.getfield 80, 3) := by decide +kernel
theorem dX6_later_22 : decode cX6_later 22 = .ok (.iconst 3, 1) := by decide +kernel
theorem dX6_later_23 : decode cX6_later 23 = .ok (.irem, 1) := by decide +kernel
theorem dX6_later_24 : decode cX6_later 24 = .ok (.ifCond .ne 111, 3) := by decide +kernel
theorem dX6_later_27 : decode cX6_later 27 = .ok (.aload_n 0, 1) := by decide +kernel
theorem dX6_later_28 : decode cX6_later 28 = .ok (.invokevirtual 166, 3) := by decide +kernel
theorem dX6_later_31 : decode cX6_later 31 = .ok (.goto 104, 3) := by decide +kernel
theorem dX6_later_34 : decode cX6_later 34 = .ok (.aload_n 0, 1) := by decide +kernel
theorem dX6_later_35 : decode cX6_later 35 = .ok (.getfield 55, 3) := by decide +kernel
theorem dX6_later_38 : decode cX6_later 38 = .ok (.iconst 3, 1) := by decide +kernel
theorem dX6_later_39 : decode cX6_later 39 = .ok (.if_icmp .ne 34, 3) := by decide +kernel
theorem dX6_later_42 : decode cX6_later 42 = .ok (.aload_n 0, 1) := by decide +kernel
theorem dX6_later_43 : decode cX6_later 43 = .ok (.aload_n 0, 1) := by decide +kernel
theorem dX6_later_44 : decode cX6_later 44 = .ok (.getfield 80, 3) := by decide +kernel
theorem dX6_later_47 : decode cX6_later 47 = .ok (.bipush 31, 2) := by decide +kernel
theorem dX6_later_49 : decode cX6_later 49 = .ok (.if_icmp .ne 7, 3) := by decide +kernel
theorem dX6_later_52 : decode cX6_later 52 = .ok (.iconst 2, 1) := by decide +kernel
theorem dX6_later_53 : decode cX6_later 53 = .ok (.goto 4, 3) := by decide +kernel
theorem dX6_later_56 : decode cX6_later 56 = .ok (.iconst 3, 1) := by decide +kernel
theorem dX6_later_57 : decode cX6_later 57 = .ok (.putfield 55, 3) := by decide +kernel
theorem dX6_later_60 : decode cX6_later 60 = .ok (.aload_n 0, 1) := by decide +kernel
theorem dX6_later_61 : decode cX6_later 61 = .ok (.dup, 1) := by decide +kernel
theorem dX6_later_62 : decode cX6_later 62 = .ok (.getfield 80, 3) := by decide +kernel
theorem dX6_later_65 : decode cX6_later 65 = .ok (.iconst 1, 1) := by decide +kernel
theorem dX6_later_66 : decode cX6_later 66 = .ok (.iadd, 1) := by decide +kernel
theorem dX6_later_67 : decode cX6_later 67 = .ok (.putfield 80, 3) := by decide +kernel
theorem dX6_later_70 : decode cX6_later 70 = .ok (.goto 65, 3) := by decide +kernel
theorem dX6_later_73 : decode cX6_later 73 = .ok (.aload_n 0, 1) := by decide +kernel
theorem dX6_later_74 : decode cX6_later 74 = .ok (.getfield 55, 3) := by decide +kernel
theorem dX6_later_77 : decode cX6_later 77 = .ok (.iconst 5, 1) := by decide +kernel
theorem dX6_later_78 : decode cX6_later 78 = .ok (.if_icmp .ne 57, 3) := by decide +kernel
theorem dX6_later_81 : decode cX6_later 81 = .ok (.aload_n 0, 1) := by decide +kernel
theorem dX6_later_82 : decode cX6_later 82 = .ok (.getfield 80, 3) := by decide +kernel
theorem dX6_later_85 : decode cX6_later 85 = .ok (.bipush 11, 2) := by decide +kernel
theorem dX6_later_87 : decode cX6_later 87 = .ok (.if_icmp .ne 23, 3) := by decide +kernel
theorem dX6_later_90 : decode cX6_later 90 = .ok (.aload_n 0, 1) := by decide +kernel
theorem dX6_later_91 : decode cX6_later 91 = .ok (.iconst 2, 1) := by decide +kernel
theorem dX6_later_92 : decode cX6_later 92 = .ok (.invokevirtual 64, 3) := by decide +kernel
theorem dX6_later_95 : decode cX6_later 95 = .ok (.ifCond .eq 15, 3) := by decide +kernel
theorem dX6_later_98 : decode cX6_later 98 = .ok (.aload_n 0, 1) := by decide +kernel
theorem dX6_later_99 : decode cX6_later 99 = .ok (.iconst 4, 1) := by decide +kernel
theorem dX6_later_100 : decode cX6_later 100 = .ok (.invokevirtual 68, 3) := by decide +kernel
theorem dX6_later_103 : decode cX6_later 103 = .ok (.aload_n 0, 1) := by decide +kernel
theorem dX6_later_104 : decode cX6_later 104 = .ok (.invokevirtual 74, 3) := by decide +kernel
theorem dX6_later_107 : decode cX6_later 107 = .ok (.goto 18, 3) := by decide +kernel
theorem dX6_later_110 : decode cX6_later 110 = .ok (.aload_n 0, 1) := by decide +kernel
theorem dX6_later_111 : decode cX6_later 111 = .ok (.getfield 80, 3) := by decide +kernel
theorem dX6_later_114 : decode cX6_later 114 = .ok (.bipush 11, 2) := by decide +kernel
theorem dX6_later_116 : decode cX6_later 116 = .ok (.if_icmp .ne 9, 3) := by decide +kernel
theorem dX6_later_119 : decode cX6_later 119 = .ok (.aload_n 0, 1) := by decide +kernel
theorem dX6_later_120 : decode cX6_later 120 = .ok (.bipush 6, 2) := by decide +kernel
theorem dX6_later_122 : decode cX6_later 122 = .ok (.invokevirtual 163, 3) := by decide +kernel
theorem dX6_later_125 : decode cX6_later 125 = .ok (.aload_n 0, 1) := by decide +kernel
theorem dX6_later_126 : decode cX6_later 126 = .ok (.dup, 1) := by decide +kernel
theorem dX6_later_127 : decode cX6_later 127 = .ok (.getfield 80, 3) := by decide +kernel
theorem dX6_later_130 : decode cX6_later 130 = .ok (.iconst 1, 1) := by decide +kernel
theorem dX6_later_131 : decode cX6_later 131 = .ok (.iadd, 1) := by decide +kernel
theorem dX6_later_132 : decode cX6_later 132 = .ok (.putfield 80, 3) := by decide +kernel
theorem dX6_later_135 : decode cX6_later 135 = .ok (.return_, 1) := by decide +kernel
set_option maxRecDepth 20000 in
theorem ggX6_pass_X6_writeCell : GoodIn wsX6_pass wsX6_writeCell := goodIn_r _ [7, 8, 1, 9, 10, 2, 11, 12, 13, 14, 15, 16, 6, 17, 18, 19, 20, 21, 22, 23, 24, 25, 26, 27, 28, 29, 30, 31, 32, 33, 34, 35, 36, 37, 38, 39, 40, 41, 42, 43, 44, 45, 46, 47, 48, 49, 50, 51, 52, 53, 54, 55, 56, 57, 58, 59, 60, 61, 62, 63, 64, 65, 126, 127, 128, 129, 130, 131, 132, 133, 134, 135, 136, 137, 138, 139, 140, 141, 142, 143, 144, 145, 146, 147, 148, 149, 150, 151, 152, 153, 154, 155, 156, 157] (by decide +kernel) (by decide +kernel)
set_option maxRecDepth 20000 in
theorem gX6_pass_X6_writeCell : GoodIn wsX6_pass (wsV RX6 169 RX6 yX6_writeCell wsX6_writeCell) := goodIn_app (goodIn_of _ (by decide +kernel)) ggX6_pass_X6_writeCell
set_option maxRecDepth 20000 in
theorem ggX6_pass_X6_readCell : GoodIn wsX6_pass wsX6_readCell := goodIn_r _ [69, 61, 9, 10, 2, 36, 70, 71, 72, 73, 74, 75, 76, 6, 77, 78, 79, 13, 1, 80, 81, 82, 83, 84, 85, 47, 48, 49, 50, 46, 86, 87, 88, 89, 41, 42, 43, 44, 45, 90, 91, 92, 93, 33, 34, 35, 94, 95, 96, 97, 98, 99, 100, 57, 58, 59, 60, 62, 63, 64, 65, 101, 102, 103, 104, 126, 127, 128, 129, 130, 131, 132, 133, 134, 135, 136, 137, 138, 139, 140, 141, 142, 143, 144, 145, 146, 147, 148, 149, 150, 151, 152, 153, 154, 155, 156, 157] (by decide +kernel) (by decide +kernel)
set_option maxRecDepth 20000 in
theorem gX6_pass_X6_readCell : GoodIn wsX6_pass (wsV RX6 172 RX6 yX6_readCell wsX6_readCell) := goodIn_app (goodIn_of _ (by decide +kernel)) ggX6_pass_X6_readCell
set_option maxRecDepth 20000 in
theorem ggX6_pass_X6_index : GoodIn wsX6_pass wsX6_index := goodIn_r _ [108, 109, 1, 57, 58, 59, 6, 60, 61, 62, 63, 64, 65, 46, 42, 43, 44, 45, 47, 48, 49, 50, 110, 111, 112, 113, 8, 12, 24, 36, 18, 56, 55, 114, 115, 116, 117, 71, 73, 72, 126, 127, 128, 129, 130, 131, 132, 133, 134, 135, 136, 137, 138, 139, 140, 141, 142, 143, 144, 145, 146, 147, 148, 149, 150, 151, 152, 153, 154, 155, 156, 157] (by decide +kernel) (by decide +kernel)
set_option maxRecDepth 20000 in
theorem gX6_pass_X6_index : GoodIn wsX6_pass (wsV RX6 175 RX6 yX6_index wsX6_index) := goodIn_app (goodIn_of _ (by decide +kernel)) ggX6_pass_X6_index
set_option maxRecDepth 20000 in
theorem ggX6_pass_X6_later : GoodIn wsX6_pass wsX6_later := goodIn_r _ [121, 1, 100, 122, 123, 124, 6, 125, 80, 10, 99, 41, 57, 58, 59, 60, 61, 62, 63, 64, 65, 46, 42, 43, 44, 45, 47, 48, 49, 50, 110, 111, 112, 113, 8, 12, 24, 36, 18, 56, 55, 114, 115, 116, 117, 71, 73, 72, 126, 127, 128, 129, 130, 131, 132, 133, 134, 135, 136, 137, 138, 139, 140, 141, 142, 143, 144, 145, 146, 147, 148, 149, 150, 151, 152, 153, 154, 155, 156, 157] (by decide +kernel) (by decide +kernel)
set_option maxRecDepth 20000 in
theorem gX6_pass_X6_later : GoodIn wsX6_pass (wsV RX6 178 RX6 yX6_later wsX6_later) := goodIn_app (goodIn_of _ (by decide +kernel)) ggX6_pass_X6_later
theorem dX6_pass_0 : decode cX6_pass 0 = .ok (.iconst 0, 1) := by decide +kernel
theorem dX6_pass_1 : decode cX6_pass 1 = .ok (.istore_n 1, 1) := by decide +kernel
theorem dX6_pass_2 : decode cX6_pass 2 = .ok (.iconst 0, 1) := by decide +kernel
theorem dX6_pass_3 : decode cX6_pass 3 = .ok (.istore_n 2, 1) := by decide +kernel
theorem dX6_pass_4 : decode cX6_pass 4 = .ok (.iload_n 2, 1) := by decide +kernel
theorem dX6_pass_5 : decode cX6_pass 5 = .ok (.bipush 16, 2) := by decide +kernel
theorem dX6_pass_7 : decode cX6_pass 7 = .ok (.if_icmp .ge 70, 3) := by decide +kernel
theorem dX6_pass_10 : decode cX6_pass 10 = .ok (.aload_n 0, 1) := by decide +kernel
theorem dX6_pass_11 : decode cX6_pass 11 = .ok (.getfield 55, 3) := by decide +kernel
theorem dX6_pass_14 : decode cX6_pass 14 = .ok (.bipush 6, 2) := by decide +kernel
theorem dX6_pass_16 : decode cX6_pass 16 = .ok (.if_icmp .eq 12, 3) := by decide +kernel
theorem dX6_pass_19 : decode cX6_pass 19 = .ok (.aload_n 0, 1) := by decide +kernel
theorem dX6_pass_20 : decode cX6_pass 20 = .ok (.getfield 55, 3) := by decide +kernel
theorem dX6_pass_23 : decode cX6_pass 23 = .ok (.bipush 8, 2) := by decide +kernel
theorem dX6_pass_25 : decode cX6_pass 25 = .ok (.if_icmp .ne 10, 3) := by decide +kernel
theorem dX6_pass_28 : decode cX6_pass 28 = .ok (.aload_n 0, 1) := by decide +kernel
theorem dX6_pass_29 : decode cX6_pass 29 = .ok (.invokevirtual 169, 3) := by decide +kernel
theorem dX6_pass_32 : decode cX6_pass 32 = .ok (.goto 7, 3) := by decide +kernel
theorem dX6_pass_35 : decode cX6_pass 35 = .ok (.aload_n 0, 1) := by decide +kernel
theorem dX6_pass_36 : decode cX6_pass 36 = .ok (.invokevirtual 172, 3) := by decide +kernel
theorem dX6_pass_39 : decode cX6_pass 39 = .ok (.aload_n 0, 1) := by decide +kernel
theorem dX6_pass_40 : decode cX6_pass 40 = .ok (.dup, 1) := by decide +kernel
theorem dX6_pass_41 : decode cX6_pass 41 = .ok (.getfield 104, 3) := by decide +kernel
theorem dX6_pass_44 : decode cX6_pass 44 = .ok (.iconst 1, 1) := by decide +kernel
theorem dX6_pass_45 : decode cX6_pass 45 = .ok (.iadd, 1) := by decide +kernel
theorem dX6_pass_46 : decode cX6_pass 46 = .ok (.putfield 104, 3) := by decide +kernel
theorem dX6_pass_49 : decode cX6_pass 49 = .ok (.aload_n 0, 1) := by decide +kernel
theorem dX6_pass_50 : decode cX6_pass 50 = .ok (.getfield 104, 3) := by decide +kernel
theorem dX6_pass_53 : decode cX6_pass 53 = .ok (.sipush 2400, 3) := by decide +kernel
theorem dX6_pass_56 : decode cX6_pass 56 = .ok (.if_icmp .ne 15, 3) := by decide +kernel
theorem dX6_pass_59 : decode cX6_pass 59 = .ok (.aload_n 0, 1) := by decide +kernel
theorem dX6_pass_60 : decode cX6_pass 60 = .ok (.iconst 0, 1) := by decide +kernel
theorem dX6_pass_61 : decode cX6_pass 61 = .ok (.putfield 104, 3) := by decide +kernel
theorem dX6_pass_64 : decode cX6_pass 64 = .ok (.iinc 1 1, 3) := by decide +kernel
theorem dX6_pass_67 : decode cX6_pass 67 = .ok (.aload_n 0, 1) := by decide +kernel
theorem dX6_pass_68 : decode cX6_pass 68 = .ok (.invokevirtual 175, 3) := by decide +kernel
theorem dX6_pass_71 : decode cX6_pass 71 = .ok (.iinc 2 1, 3) := by decide +kernel
theorem dX6_pass_74 : decode cX6_pass 74 = .ok (.goto (-70), 3) := by decide +kernel
theorem dX6_pass_77 : decode cX6_pass 77 = .ok (.aload_n 0, 1) := by decide +kernel
theorem dX6_pass_78 : decode cX6_pass 78 = .ok (.invokevirtual 178, 3) := by decide +kernel
theorem dX6_pass_81 : decode cX6_pass 81 = .ok (.iload_n 1, 1) := by decide +kernel
theorem dX6_pass_82 : decode cX6_pass 82 = .ok (.ireturn, 1) := by decide +kernel
set_option maxRecDepth 20000 in
theorem ggX6_command_X6_has : GoodIn wsX6_command wsX6_has := goodIn_r _ [15, 2, 36, 37, 38, 39, 40, 41, 42, 43, 44, 45, 46, 47, 48, 49, 50, 51, 52, 53, 54, 55, 56, 57, 58, 59, 60, 61, 62, 63, 64, 65, 66, 67] (by decide +kernel) (by decide +kernel)
set_option maxRecDepth 20000 in
theorem gX6_command_X6_has : GoodIn wsX6_command (wsV RX6 64 RX6 yX6_has wsX6_has) := goodIn_app (goodIn_of _ (by decide +kernel)) ggX6_command_X6_has
set_option maxRecDepth 20000 in
theorem ggX6_command_X6_reset : GoodIn wsX6_command wsX6_reset := goodIn_r _ [19, 20, 21, 22, 36, 37, 38, 39, 40, 41, 42, 43, 44, 45, 46, 47, 48, 49, 50, 51, 52, 53, 54, 55, 56, 57, 58, 59, 60, 61, 62, 63, 64, 65, 66, 67] (by decide +kernel) (by decide +kernel)
set_option maxRecDepth 20000 in
theorem gX6_command_X6_reset : GoodIn wsX6_command (wsV RX6 113 RX6 yX6_reset wsX6_reset) := goodIn_app (goodIn_of _ (by decide +kernel)) ggX6_command_X6_reset
set_option maxRecDepth 20000 in
theorem ggX6_command_X6_raise : GoodIn wsX6_command wsX6_raise := goodIn_r _ [26, 2, 36, 37, 38, 39, 40, 41, 42, 43, 44, 45, 46, 47, 48, 49, 50, 51, 52, 53, 54, 55, 56, 57, 58, 59, 60, 61, 62, 63, 64, 65, 66, 67] (by decide +kernel) (by decide +kernel)
set_option maxRecDepth 20000 in
theorem gX6_command_X6_raise : GoodIn wsX6_command (wsV RX6 68 RX6 yX6_raise wsX6_raise) := goodIn_app (goodIn_of _ (by decide +kernel)) ggX6_command_X6_raise
set_option maxRecDepth 20000 in
theorem ggX6_command_X6_end : GoodIn wsX6_command wsX6_end := goodIn_r _ [30, 9, 31, 32, 33, 34, 14, 35, 2, 36, 37, 38, 39, 40, 41, 42, 43, 44, 45, 46, 47, 48, 49, 50, 51, 52, 53, 54, 55, 56, 57, 58, 59, 60, 61, 62, 63, 64, 65, 66, 67] (by decide +kernel) (by decide +kernel)
set_option maxRecDepth 20000 in
theorem gX6_command_X6_end : GoodIn wsX6_command (wsV RX6 74 RX6 yX6_end wsX6_end) := goodIn_app (goodIn_of _ (by decide +kernel)) ggX6_command_X6_end
theorem dX6_command_0 : decode cX6_command 0 = .ok (.iload_n 1, 1) := by decide +kernel
theorem dX6_command_1 : decode cX6_command 1 = .ok (.ifCond .lt 16, 3) := by decide +kernel
theorem dX6_command_4 : decode cX6_command 4 = .ok (.iload_n 1, 1) := by decide +kernel
theorem dX6_command_5 : decode cX6_command 5 = .ok (.iconst 5, 1) := by decide +kernel
theorem dX6_command_6 : decode cX6_command 6 = .ok (.if_icmp .gt 11, 3) := by decide +kernel
theorem dX6_command_9 : decode cX6_command 9 = .ok (.aload_n 0, 1) := by decide +kernel
theorem dX6_command_10 : decode cX6_command 10 = .ok (.iconst 1, 1) := by decide +kernel
theorem dX6_command_11 : decode cX6_command 11 = .ok (.invokevirtual 64, 3) := by decide +kernel
theorem dX6_command_14 : decode cX6_command 14 = .ok (.ifCond .eq 5, 3) := by decide +kernel
theorem dX6_command_17 : decode cX6_command 17 = .ok (.iconst 0, 1) := by decide +kernel
theorem dX6_command_18 : decode cX6_command 18 = .ok (.ireturn, 1) := by decide +kernel
theorem dX6_command_19 : decode cX6_command 19 = .ok (.aload_n 0, 1) := by decide +kernel
theorem dX6_command_20 : decode cX6_command 20 = .ok (.iload_n 1, 1) := by decide +kernel
theorem dX6_command_21 : decode cX6_command 21 = .ok (.putfield 21, 3) := by decide +kernel
theorem dX6_command_24 : decode cX6_command 24 = .ok (.aload_n 0, 1) := by decide +kernel
theorem dX6_command_25 : decode cX6_command 25 = .ok (.iconst 1, 1) := by decide +kernel
theorem dX6_command_26 : decode cX6_command 26 = .ok (.putfield 38, 3) := by decide +kernel
theorem dX6_command_29 : decode cX6_command 29 = .ok (.aload_n 0, 1) := by decide +kernel
theorem dX6_command_30 : decode cX6_command 30 = .ok (.iload_n 2, 1) := by decide +kernel
theorem dX6_command_31 : decode cX6_command 31 = .ok (.putfield 147, 3) := by decide +kernel
theorem dX6_command_34 : decode cX6_command 34 = .ok (.aload_n 0, 1) := by decide +kernel
theorem dX6_command_35 : decode cX6_command 35 = .ok (.invokevirtual 113, 3) := by decide +kernel
theorem dX6_command_38 : decode cX6_command 38 = .ok (.aload_n 0, 1) := by decide +kernel
theorem dX6_command_39 : decode cX6_command 39 = .ok (.bipush 16, 2) := by decide +kernel
theorem dX6_command_41 : decode cX6_command 41 = .ok (.putfield 17, 3) := by decide +kernel
theorem dX6_command_44 : decode cX6_command 44 = .ok (.aload_n 0, 1) := by decide +kernel
theorem dX6_command_45 : decode cX6_command 45 = .ok (.iconst 0, 1) := by decide +kernel
theorem dX6_command_46 : decode cX6_command 46 = .ok (.putfield 160, 3) := by decide +kernel
theorem dX6_command_49 : decode cX6_command 49 = .ok (.aload_n 0, 1) := by decide +kernel
theorem dX6_command_50 : decode cX6_command 50 = .ok (.iconst 0, 1) := by decide +kernel
theorem dX6_command_51 : decode cX6_command 51 = .ok (.putfield 80, 3) := by decide +kernel
theorem dX6_command_54 : decode cX6_command 54 = .ok (.iload_n 1, 1) := by decide +kernel
theorem dX6_command_55 : decode cX6_command 55 = .ok (.ifCond .ne 15, 3) := by decide +kernel
theorem dX6_command_58 : decode cX6_command 58 = .ok (.aload_n 0, 1) := by decide +kernel
theorem dX6_command_59 : decode cX6_command 59 = .ok (.sipush 255, 3) := by decide +kernel
theorem dX6_command_62 : decode cX6_command 62 = .ok (.putfield 77, 3) := by decide +kernel
theorem dX6_command_65 : decode cX6_command 65 = .ok (.aload_n 0, 1) := by decide +kernel
theorem dX6_command_66 : decode cX6_command 66 = .ok (.iconst 0, 1) := by decide +kernel
theorem dX6_command_67 : decode cX6_command 67 = .ok (.putfield 61, 3) := by decide +kernel
theorem dX6_command_70 : decode cX6_command 70 = .ok (.aload_n 0, 1) := by decide +kernel
theorem dX6_command_71 : decode cX6_command 71 = .ok (.iload_n 1, 1) := by decide +kernel
theorem dX6_command_72 : decode cX6_command 72 = .ok (.iconst 2, 1) := by decide +kernel
theorem dX6_command_73 : decode cX6_command 73 = .ok (.if_icmp .ge 7, 3) := by decide +kernel
theorem dX6_command_76 : decode cX6_command 76 = .ok (.iconst 1, 1) := by decide +kernel
theorem dX6_command_77 : decode cX6_command 77 = .ok (.goto 14, 3) := by decide +kernel
theorem dX6_command_80 : decode cX6_command 80 = .ok (.iload_n 1, 1) := by decide +kernel
theorem dX6_command_81 : decode cX6_command 81 = .ok (.iconst 5, 1) := by decide +kernel
theorem dX6_command_82 : decode cX6_command 82 = .ok (.if_icmp .ne 8, 3) := by decide +kernel
theorem dX6_command_85 : decode cX6_command 85 = .ok (.bipush 7, 2) := by decide +kernel
theorem dX6_command_87 : decode cX6_command 87 = .ok (.goto 4, 3) := by decide +kernel
theorem dX6_command_90 : decode cX6_command 90 = .ok (.iconst 2, 1) := by decide +kernel
theorem dX6_command_91 : decode cX6_command 91 = .ok (.putfield 55, 3) := by decide +kernel
theorem dX6_command_94 : decode cX6_command 94 = .ok (.aload_n 0, 1) := by decide +kernel
theorem dX6_command_95 : decode cX6_command 95 = .ok (.getfield 181, 3) := by decide +kernel
theorem dX6_command_98 : decode cX6_command 98 = .ok (.ifCond .eq 26, 3) := by decide +kernel
theorem dX6_command_101 : decode cX6_command 101 = .ok (.iload_n 1, 1) := by decide +kernel
theorem dX6_command_102 : decode cX6_command 102 = .ok (.iconst 3, 1) := by decide +kernel
theorem dX6_command_103 : decode cX6_command 103 = .ok (.if_icmp .eq 8, 3) := by decide +kernel
theorem dX6_command_106 : decode cX6_command 106 = .ok (.iload_n 1, 1) := by decide +kernel
theorem dX6_command_107 : decode cX6_command 107 = .ok (.iconst 5, 1) := by decide +kernel
theorem dX6_command_108 : decode cX6_command 108 = .ok (.if_icmp .ne 16, 3) := by decide +kernel
theorem dX6_command_111 : decode cX6_command 111 = .ok (.aload_n 0, 1) := by decide +kernel
theorem dX6_command_112 : decode cX6_command 112 = .ok (.bipush 64, 2) := by decide +kernel
theorem dX6_command_114 : decode cX6_command 114 = .ok (.invokevirtual 68, 3) := by decide +kernel
theorem dX6_command_117 : decode cX6_command 117 = .ok (.aload_n 0, 1) := by decide +kernel
theorem dX6_command_118 : decode cX6_command 118 = .ok (.invokevirtual 74, 3) := by decide +kernel
theorem dX6_command_121 : decode cX6_command 121 = .ok (.goto 13, 3) := by decide +kernel
theorem dX6_command_124 : decode cX6_command 124 = .ok (.iload_n 1, 1) := by decide +kernel
theorem dX6_command_125 : decode cX6_command 125 = .ok (.iconst 5, 1) := by decide +kernel
theorem dX6_command_126 : decode cX6_command 126 = .ok (.if_icmp .ne 8, 3) := by decide +kernel
theorem dX6_command_129 : decode cX6_command 129 = .ok (.aload_n 0, 1) := by decide +kernel
theorem dX6_command_130 : decode cX6_command 130 = .ok (.iconst 2, 1) := by decide +kernel
theorem dX6_command_131 : decode cX6_command 131 = .ok (.invokevirtual 68, 3) := by decide +kernel
theorem dX6_command_134 : decode cX6_command 134 = .ok (.iconst 1, 1) := by decide +kernel
theorem dX6_command_135 : decode cX6_command 135 = .ok (.ireturn, 1) := by decide +kernel
set_option maxRecDepth 20000 in
theorem ggX6_force_X6_has : GoodIn wsX6_force wsX6_has := goodIn_r _ [5, 6, 17, 18, 19, 20, 21, 22, 23, 24, 25, 26, 27, 28, 29, 30, 31, 32, 33, 34, 35, 36, 37, 38, 39, 40, 41, 42, 43, 44, 45, 46, 47, 48] (by decide +kernel) (by decide +kernel)
set_option maxRecDepth 20000 in
theorem gX6_force_X6_has : GoodIn wsX6_force (wsV RX6 64 RX6 yX6_has wsX6_has) := goodIn_app (goodIn_of _ (by decide +kernel)) ggX6_force_X6_has
set_option maxRecDepth 20000 in
theorem ggX6_force_X6_end : GoodIn wsX6_force wsX6_end := goodIn_r _ [10, 11, 12, 13, 14, 15, 4, 16, 6, 17, 18, 19, 20, 21, 22, 23, 24, 25, 26, 27, 28, 29, 30, 31, 32, 33, 34, 35, 36, 37, 38, 39, 40, 41, 42, 43, 44, 45, 46, 47, 48] (by decide +kernel) (by decide +kernel)
set_option maxRecDepth 20000 in
theorem gX6_force_X6_end : GoodIn wsX6_force (wsV RX6 74 RX6 yX6_end wsX6_end) := goodIn_app (goodIn_of _ (by decide +kernel)) ggX6_force_X6_end
theorem dX6_force_0 : decode cX6_force 0 = .ok (.aload_n 0, 1) := by decide +kernel
theorem dX6_force_1 : decode cX6_force 1 = .ok (.iconst 1, 1) := by decide +kernel
theorem dX6_force_2 : decode cX6_force 2 = .ok (.invokevirtual 64, 3) := by decide +kernel
theorem dX6_force_5 : decode cX6_force 5 = .ok (.ifCond .ne 5, 3) := by decide +kernel
theorem dX6_force_8 : decode cX6_force 8 = .ok (.iconst 0, 1) := by decide +kernel
theorem dX6_force_9 : decode cX6_force 9 = .ok (.ireturn, 1) := by decide +kernel
theorem dX6_force_10 : decode cX6_force 10 = .ok (.aload_n 0, 1) := by decide +kernel
theorem dX6_force_11 : decode cX6_force 11 = .ok (.invokevirtual 74, 3) := by decide +kernel
theorem dX6_force_14 : decode cX6_force 14 = .ok (.iconst 1, 1) := by decide +kernel
theorem dX6_force_15 : decode cX6_force 15 = .ok (.ireturn, 1) := by decide +kernel
set_option maxRecDepth 20000 in
theorem ggX6_set_X6_has : GoodIn wsX6_set wsX6_has := goodIn_r _ [7, 8, 9, 10, 11, 12, 13, 14, 15, 16, 17, 18, 19, 20, 21, 22, 23, 24, 25, 26, 27, 28, 29, 30, 31, 32, 33, 34, 35, 36, 37, 38, 39, 40] (by decide +kernel) (by decide +kernel)
set_option maxRecDepth 20000 in
theorem gX6_set_X6_has : GoodIn wsX6_set (wsV RX6 64 RX6 yX6_has wsX6_has) := goodIn_app (goodIn_of _ (by decide +kernel)) ggX6_set_X6_has
theorem dX6_set_0 : decode cX6_set 0 = .ok (.iload_n 1, 1) := by decide +kernel
theorem dX6_set_1 : decode cX6_set 1 = .ok (.ifCond .lt 27, 3) := by decide +kernel
theorem dX6_set_4 : decode cX6_set 4 = .ok (.iload_n 1, 1) := by decide +kernel
theorem dX6_set_5 : decode cX6_set 5 = .ok (.iconst 1, 1) := by decide +kernel
theorem dX6_set_6 : decode cX6_set 6 = .ok (.if_icmp .gt 22, 3) := by decide +kernel
theorem dX6_set_9 : decode cX6_set 9 = .ok (.iload_n 2, 1) := by decide +kernel
theorem dX6_set_10 : decode cX6_set 10 = .ok (.ifCond .lt 18, 3) := by decide +kernel
theorem dX6_set_13 : decode cX6_set 13 = .ok (.iload_n 2, 1) := by decide +kernel
theorem dX6_set_14 : decode cX6_set 14 = .ok (.sipush 255, 3) := by decide +kernel
theorem dX6_set_17 : decode cX6_set 17 = .ok (.if_icmp .gt 11, 3) := by decide +kernel
theorem dX6_set_20 : decode cX6_set 20 = .ok (.aload_n 0, 1) := by decide +kernel
theorem dX6_set_21 : decode cX6_set 21 = .ok (.iconst 1, 1) := by decide +kernel
theorem dX6_set_22 : decode cX6_set 22 = .ok (.invokevirtual 64, 3) := by decide +kernel
theorem dX6_set_25 : decode cX6_set 25 = .ok (.ifCond .eq 5, 3) := by decide +kernel
theorem dX6_set_28 : decode cX6_set 28 = .ok (.iconst 0, 1) := by decide +kernel
theorem dX6_set_29 : decode cX6_set 29 = .ok (.ireturn, 1) := by decide +kernel
theorem dX6_set_30 : decode cX6_set 30 = .ok (.aload_n 0, 1) := by decide +kernel
theorem dX6_set_31 : decode cX6_set 31 = .ok (.iload_n 1, 1) := by decide +kernel
theorem dX6_set_32 : decode cX6_set 32 = .ok (.ifCond .ne 7, 3) := by decide +kernel
theorem dX6_set_35 : decode cX6_set 35 = .ok (.iload_n 2, 1) := by decide +kernel
theorem dX6_set_36 : decode cX6_set 36 = .ok (.goto 7, 3) := by decide +kernel
theorem dX6_set_39 : decode cX6_set 39 = .ok (.aload_n 0, 1) := by decide +kernel
theorem dX6_set_40 : decode cX6_set 40 = .ok (.getfield 77, 3) := by decide +kernel
theorem dX6_set_43 : decode cX6_set 43 = .ok (.putfield 77, 3) := by decide +kernel
theorem dX6_set_46 : decode cX6_set 46 = .ok (.aload_n 0, 1) := by decide +kernel
theorem dX6_set_47 : decode cX6_set 47 = .ok (.iload_n 1, 1) := by decide +kernel
theorem dX6_set_48 : decode cX6_set 48 = .ok (.iconst 1, 1) := by decide +kernel
theorem dX6_set_49 : decode cX6_set 49 = .ok (.if_icmp .ne 7, 3) := by decide +kernel
theorem dX6_set_52 : decode cX6_set 52 = .ok (.iload_n 2, 1) := by decide +kernel
theorem dX6_set_53 : decode cX6_set 53 = .ok (.goto 7, 3) := by decide +kernel
theorem dX6_set_56 : decode cX6_set 56 = .ok (.aload_n 0, 1) := by decide +kernel
theorem dX6_set_57 : decode cX6_set 57 = .ok (.getfield 71, 3) := by decide +kernel
theorem dX6_set_60 : decode cX6_set 60 = .ok (.putfield 71, 3) := by decide +kernel
theorem dX6_set_63 : decode cX6_set 63 = .ok (.iconst 1, 1) := by decide +kernel
theorem dX6_set_64 : decode cX6_set 64 = .ok (.ireturn, 1) := by decide +kernel
set_option maxRecDepth 20000 in
theorem ggX6_give_X6_drop : GoodIn wsX6_give wsX6_drop := goodIn_r _ [6, 7, 8, 9, 10, 11, 12, 13, 14, 15, 16, 17, 18, 19, 20, 21, 22, 23, 24, 25, 26, 27, 28, 29, 30, 31, 32, 33, 34, 35, 36, 37, 38, 39] (by decide +kernel) (by decide +kernel)
set_option maxRecDepth 20000 in
theorem gX6_give_X6_drop : GoodIn wsX6_give (wsV RX6 51 RX6 yX6_drop wsX6_drop) := goodIn_app (goodIn_of _ (by decide +kernel)) ggX6_give_X6_drop
theorem dX6_give_0 : decode cX6_give 0 = .ok (.iload_n 1, 1) := by decide +kernel
theorem dX6_give_1 : decode cX6_give 1 = .ok (.ifCond .lt 10, 3) := by decide +kernel
theorem dX6_give_4 : decode cX6_give 4 = .ok (.iload_n 1, 1) := by decide +kernel
theorem dX6_give_5 : decode cX6_give 5 = .ok (.sipush 255, 3) := by decide +kernel
theorem dX6_give_8 : decode cX6_give 8 = .ok (.if_icmp .le 5, 3) := by decide +kernel
theorem dX6_give_11 : decode cX6_give 11 = .ok (.iconst 0, 1) := by decide +kernel
theorem dX6_give_12 : decode cX6_give 12 = .ok (.ireturn, 1) := by decide +kernel
theorem dX6_give_13 : decode cX6_give 13 = .ok (.aload_n 0, 1) := by decide +kernel
theorem dX6_give_14 : decode cX6_give 14 = .ok (.iload_n 1, 1) := by decide +kernel
theorem dX6_give_15 : decode cX6_give 15 = .ok (.putfield 61, 3) := by decide +kernel
theorem dX6_give_18 : decode cX6_give 18 = .ok (.aload_n 0, 1) := by decide +kernel
theorem dX6_give_19 : decode cX6_give 19 = .ok (.iconst 2, 1) := by decide +kernel
theorem dX6_give_20 : decode cX6_give 20 = .ok (.invokevirtual 51, 3) := by decide +kernel
theorem dX6_give_23 : decode cX6_give 23 = .ok (.iconst 1, 1) := by decide +kernel
theorem dX6_give_24 : decode cX6_give 24 = .ok (.ireturn, 1) := by decide +kernel
set_option maxRecDepth 20000 in
theorem ggX6_take_X6_drop : GoodIn wsX6_take wsX6_drop := goodIn_r _ [6, 7, 8, 9, 10, 11, 12, 13, 14, 15, 16, 17, 18, 19, 20, 21, 22, 23, 24, 25, 26, 27, 28, 29, 30, 31, 32, 33, 34, 35, 36, 37, 38, 39] (by decide +kernel) (by decide +kernel)
set_option maxRecDepth 20000 in
theorem gX6_take_X6_drop : GoodIn wsX6_take (wsV RX6 51 RX6 yX6_drop wsX6_drop) := goodIn_app (goodIn_of _ (by decide +kernel)) ggX6_take_X6_drop
theorem dX6_take_0 : decode cX6_take 0 = .ok (.aload_n 0, 1) := by decide +kernel
theorem dX6_take_1 : decode cX6_take 1 = .ok (.iconst 2, 1) := by decide +kernel
theorem dX6_take_2 : decode cX6_take 2 = .ok (.invokevirtual 51, 3) := by decide +kernel
theorem dX6_take_5 : decode cX6_take 5 = .ok (.aload_n 0, 1) := by decide +kernel
theorem dX6_take_6 : decode cX6_take 6 = .ok (.getfield 61, 3) := by decide +kernel
theorem dX6_take_9 : decode cX6_take 9 = .ok (.ireturn, 1) := by decide +kernel
set_option maxRecDepth 20000 in
theorem ggX6_run_X6_pass : GoodIn wsX6_run wsX6_pass := goodIn_r _ [5, 6, 7, 8, 9, 10, 4, 11, 12, 13, 14, 15, 16, 17, 18, 19, 20, 21, 22, 23, 24, 25, 26, 27, 28, 29, 30, 31, 32, 33, 34, 35, 36, 37, 38, 39, 40, 41, 42, 43, 44, 45, 46, 47, 48, 49, 50, 51, 52, 53, 54, 55, 56, 57, 58, 59, 60, 61, 62, 63, 64, 65, 66, 67, 68, 69, 70, 71, 72, 73, 74, 75, 76, 77, 78, 79, 80, 81, 82, 83, 84, 85, 86, 87, 88, 89, 90, 91, 92, 93, 94, 95, 96, 97, 98, 99, 100, 101, 102, 103, 104, 105, 106, 107, 108, 109, 110, 111, 112, 113, 114, 115, 116, 117, 118, 119, 120, 121, 122, 123, 124, 125, 126, 127, 128, 129, 130, 131, 132, 133, 134, 135, 136, 137, 138, 139, 140, 141, 142, 143, 144, 145, 146, 147, 148, 149, 150, 151, 152, 153, 154, 155, 156, 157, 158, 159, 160, 161] (by decide +kernel) (by decide +kernel)
set_option maxRecDepth 20000 in
theorem gX6_run_X6_pass : GoodIn wsX6_run (wsV RX6 184 RX6 yX6_pass wsX6_pass) := goodIn_app (goodIn_of _ (by decide +kernel)) ggX6_run_X6_pass
theorem dX6_run_0 : decode cX6_run 0 = .ok (.iload_n 1, 1) := by decide +kernel
theorem dX6_run_1 : decode cX6_run 1 = .ok (.ifCond .lt 10, 3) := by decide +kernel
theorem dX6_run_4 : decode cX6_run 4 = .ok (.iload_n 1, 1) := by decide +kernel
theorem dX6_run_5 : decode cX6_run 5 = .ok (.sipush 200, 3) := by decide +kernel
theorem dX6_run_8 : decode cX6_run 8 = .ok (.if_icmp .le 5, 3) := by decide +kernel
theorem dX6_run_11 : decode cX6_run 11 = .ok (.iconst (-1), 1) := by decide +kernel
theorem dX6_run_12 : decode cX6_run 12 = .ok (.ireturn, 1) := by decide +kernel
theorem dX6_run_13 : decode cX6_run 13 = .ok (.iconst 0, 1) := by decide +kernel
theorem dX6_run_14 : decode cX6_run 14 = .ok (.istore_n 2, 1) := by decide +kernel
theorem dX6_run_15 : decode cX6_run 15 = .ok (.iconst 0, 1) := by decide +kernel
theorem dX6_run_16 : decode cX6_run 16 = .ok (.istore_n 3, 1) := by decide +kernel
theorem dX6_run_17 : decode cX6_run 17 = .ok (.iload_n 3, 1) := by decide +kernel
theorem dX6_run_18 : decode cX6_run 18 = .ok (.iload_n 1, 1) := by decide +kernel
theorem dX6_run_19 : decode cX6_run 19 = .ok (.if_icmp .ge 16, 3) := by decide +kernel
theorem dX6_run_22 : decode cX6_run 22 = .ok (.iload_n 2, 1) := by decide +kernel
theorem dX6_run_23 : decode cX6_run 23 = .ok (.aload_n 0, 1) := by decide +kernel
theorem dX6_run_24 : decode cX6_run 24 = .ok (.invokevirtual 184, 3) := by decide +kernel
theorem dX6_run_27 : decode cX6_run 27 = .ok (.iadd, 1) := by decide +kernel
theorem dX6_run_28 : decode cX6_run 28 = .ok (.istore_n 2, 1) := by decide +kernel
theorem dX6_run_29 : decode cX6_run 29 = .ok (.iinc 3 1, 3) := by decide +kernel
theorem dX6_run_32 : decode cX6_run 32 = .ok (.goto (-15), 3) := by decide +kernel
theorem dX6_run_35 : decode cX6_run 35 = .ok (.iload_n 2, 1) := by decide +kernel
theorem dX6_run_36 : decode cX6_run 36 = .ok (.ireturn, 1) := by decide +kernel
set_option maxRecDepth 20000 in
theorem ggX6_serve_X6_pass : GoodIn wsX6_serve wsX6_pass := goodIn_r _ [9, 10, 11, 12, 13, 14, 8, 15, 16, 17, 18, 19, 20, 21, 22, 23, 24, 25, 26, 27, 28, 29, 30, 31, 32, 33, 34, 35, 36, 37, 38, 39, 40, 41, 42, 43, 44, 45, 46, 47, 48, 49, 50, 51, 52, 53, 54, 55, 56, 57, 58, 59, 60, 61, 62, 63, 64, 65, 66, 67, 68, 69, 70, 71, 72, 73, 74, 75, 76, 77, 78, 79, 80, 81, 82, 83, 84, 85, 86, 87, 1, 88, 89, 90, 91, 92, 93, 94, 95, 96, 97, 98, 99, 100, 101, 102, 103, 104, 105, 106, 107, 108, 109, 110, 111, 112, 113, 114, 115, 116, 117, 118, 119, 120, 121, 122, 123, 124, 125, 126, 127, 128, 129, 130, 131, 132, 141, 142, 143, 144, 145, 146, 147, 148, 149, 150, 151, 152, 153, 154, 155, 156, 157, 158, 159, 160, 161, 162, 163, 164, 165, 166, 167, 168, 169, 170, 171, 172] (by decide +kernel) (by decide +kernel)
set_option maxRecDepth 20000 in
theorem gX6_serve_X6_pass : GoodIn wsX6_serve (wsV RX6 184 RX6 yX6_pass wsX6_pass) := goodIn_app (goodIn_of _ (by decide +kernel)) ggX6_serve_X6_pass
set_option maxRecDepth 20000 in
theorem ggX6_serve_X6_has : GoodIn wsX6_serve wsX6_has := goodIn_r _ [53, 54, 141, 142, 143, 144, 145, 146, 147, 148, 149, 150, 151, 152, 153, 154, 155, 156, 157, 158, 159, 160, 161, 162, 163, 164, 165, 166, 167, 168, 169, 170, 171, 172] (by decide +kernel) (by decide +kernel)
set_option maxRecDepth 20000 in
theorem gX6_serve_X6_has : GoodIn wsX6_serve (wsV RX6 64 RX6 yX6_has wsX6_has) := goodIn_app (goodIn_of _ (by decide +kernel)) ggX6_serve_X6_has
set_option maxRecDepth 20000 in
theorem ggX6_serve_X6_take : GoodIn wsX6_serve wsX6_take := goodIn_r _ [136, 49, 70, 71, 72, 8, 73, 54, 141, 142, 143, 144, 145, 146, 147, 148, 149, 150, 151, 152, 153, 154, 155, 156, 157, 158, 159, 160, 161, 162, 163, 164, 165, 166, 167, 168, 169, 170, 171, 172] (by decide +kernel) (by decide +kernel)
set_option maxRecDepth 20000 in
theorem gX6_serve_X6_take : GoodIn wsX6_serve (wsV RX6 187 RX6 yX6_take wsX6_take) := goodIn_app (goodIn_of _ (by decide +kernel)) ggX6_serve_X6_take
set_option maxRecDepth 20000 in
theorem ggX6_serve_X6_give : GoodIn wsX6_serve wsX6_give := goodIn_r _ [140, 49, 70, 71, 72, 8, 73, 54, 141, 142, 143, 144, 145, 146, 147, 148, 149, 150, 151, 152, 153, 154, 155, 156, 157, 158, 159, 160, 161, 162, 163, 164, 165, 166, 167, 168, 169, 170, 171, 172] (by decide +kernel) (by decide +kernel)
set_option maxRecDepth 20000 in
theorem gX6_serve_X6_give : GoodIn wsX6_serve (wsV RX6 196 RX6 yX6_give wsX6_give) := goodIn_app (goodIn_of _ (by decide +kernel)) ggX6_serve_X6_give
theorem dX6_serve_0 : decode cX6_serve 0 = .ok (.iload_n 1, 1) := by decide +kernel
theorem dX6_serve_1 : decode cX6_serve 1 = .ok (.ifCond .lt 10, 3) := by decide +kernel
theorem dX6_serve_4 : decode cX6_serve 4 = .ok (.iload_n 1, 1) := by decide +kernel
theorem dX6_serve_5 : decode cX6_serve 5 = .ok (.sipush 200, 3) := by decide +kernel
theorem dX6_serve_8 : decode cX6_serve 8 = .ok (.if_icmp .le 5, 3) := by decide +kernel
theorem dX6_serve_11 : decode cX6_serve 11 = .ok (.iconst (-1), 1) := by decide +kernel
theorem dX6_serve_12 : decode cX6_serve 12 = .ok (.ireturn, 1) := by decide +kernel
theorem dX6_serve_13 : decode cX6_serve 13 = .ok (.iconst 0, 1) := by decide +kernel
theorem dX6_serve_14 : decode cX6_serve 14 = .ok (.istore_n 2, 1) := by decide +kernel
theorem dX6_serve_15 : decode cX6_serve 15 = .ok (.iconst 0, 1) := by decide +kernel
theorem dX6_serve_16 : decode cX6_serve 16 = .ok (.istore_n 3, 1) := by decide +kernel
theorem dX6_serve_17 : decode cX6_serve 17 = .ok (.iload_n 3, 1) := by decide +kernel
theorem dX6_serve_18 : decode cX6_serve 18 = .ok (.iload_n 1, 1) := by decide +kernel
theorem dX6_serve_19 : decode cX6_serve 19 = .ok (.if_icmp .ge 185, 3) := by decide +kernel
theorem dX6_serve_22 : decode cX6_serve 22 = .ok (.aload_n 0, 1) := by decide +kernel
theorem dX6_serve_23 : decode cX6_serve 23 = .ok (.invokevirtual 184, 3) := by decide +kernel
theorem dX6_serve_26 : decode cX6_serve 26 = .ok (.istore 4, 2) := by decide +kernel
theorem dX6_serve_28 : decode cX6_serve 28 = .ok (.aload_n 0, 1) := by decide +kernel
theorem dX6_serve_29 : decode cX6_serve 29 = .ok (.getfield 21, 3) := by decide +kernel
theorem dX6_serve_32 : decode cX6_serve 32 = .ok (.iconst 2, 1) := by decide +kernel
theorem dX6_serve_33 : decode cX6_serve 33 = .ok (.if_icmp .eq 11, 3) := by decide +kernel
theorem dX6_serve_36 : decode cX6_serve 36 = .ok (.aload_n 0, 1) := by decide +kernel
theorem dX6_serve_37 : decode cX6_serve 37 = .ok (.getfield 21, 3) := by decide +kernel
theorem dX6_serve_40 : decode cX6_serve 40 = .ok (.iconst 4, 1) := by decide +kernel
theorem dX6_serve_41 : decode cX6_serve 41 = .ok (.if_icmp .ne 7, 3) := by decide +kernel
theorem dX6_serve_44 : decode cX6_serve 44 = .ok (.iconst 1, 1) := by decide +kernel
theorem dX6_serve_45 : decode cX6_serve 45 = .ok (.goto 4, 3) := by decide +kernel
theorem dX6_serve_48 : decode cX6_serve 48 = .ok (.iconst 0, 1) := by decide +kernel
theorem dX6_serve_49 : decode cX6_serve 49 = .ok (.istore 5, 2) := by decide +kernel
theorem dX6_serve_51 : decode cX6_serve 51 = .ok (.aload_n 0, 1) := by decide +kernel
theorem dX6_serve_52 : decode cX6_serve 52 = .ok (.iconst 2, 1) := by decide +kernel
theorem dX6_serve_53 : decode cX6_serve 53 = .ok (.invokevirtual 64, 3) := by decide +kernel
theorem dX6_serve_56 : decode cX6_serve 56 = .ok (.ifCond .eq 51, 3) := by decide +kernel
theorem dX6_serve_59 : decode cX6_serve 59 = .ok (.iload 5, 2) := by decide +kernel
theorem dX6_serve_61 : decode cX6_serve 61 = .ok (.ifCond .eq 46, 3) := by decide +kernel
theorem dX6_serve_64 : decode cX6_serve 64 = .ok (.aload_n 0, 1) := by decide +kernel
theorem dX6_serve_65 : decode cX6_serve 65 = .ok (.invokevirtual 187, 3) := by decide +kernel
theorem dX6_serve_68 : decode cX6_serve 68 = .ok (.istore 6, 2) := by decide +kernel
theorem dX6_serve_70 : decode cX6_serve 70 = .ok (.aload_n 0, 1) := by decide +kernel
theorem dX6_serve_71 : decode cX6_serve 71 = .ok (.getfield 190, 3) := by decide +kernel
theorem dX6_serve_74 : decode cX6_serve 74 = .ok (.sipush 200, 3) := by decide +kernel
theorem dX6_serve_77 : decode cX6_serve 77 = .ok (.if_icmp .ge 24, 3) := by decide +kernel
theorem dX6_serve_80 : decode cX6_serve 80 = .ok (.aload_n 0, 1) := by decide +kernel
theorem dX6_serve_81 : decode cX6_serve 81 = .ok (.getfield 24, 3) := by decide +kernel
theorem dX6_serve_84 : decode cX6_serve 84 = .ok (.aload_n 0, 1) := by decide +kernel
theorem dX6_serve_85 : decode cX6_serve 85 = .ok (.getfield 190, 3) := by decide +kernel
theorem dX6_serve_88 : decode cX6_serve 88 = .ok (.iload 6, 2) := by decide +kernel
theorem dX6_serve_90 : decode cX6_serve 90 = .ok (.iastore, 1) := by decide +kernel
theorem dX6_serve_91 : decode cX6_serve 91 = .ok (.aload_n 0, 1) := by decide +kernel
theorem dX6_serve_92 : decode cX6_serve 92 = .ok (.dup, 1) := by decide +kernel
theorem dX6_serve_93 : decode cX6_serve 93 = .ok (.getfield 190, 3) := by decide +kernel
theorem dX6_serve_96 : decode cX6_serve 96 = .ok (.iconst 1, 1) := by decide +kernel
theorem dX6_serve_97 : decode cX6_serve 97 = .ok (.iadd, 1) := by decide +kernel
theorem dX6_serve_98 : decode cX6_serve 98 = .ok (.putfield 190, 3) := by decide +kernel
theorem dX6_serve_101 : decode cX6_serve 101 = .ok (.iinc 2 1, 3) := by decide +kernel
theorem dX6_serve_104 : decode cX6_serve 104 = .ok (.goto 94, 3) := by decide +kernel
theorem dX6_serve_107 : decode cX6_serve 107 = .ok (.aload_n 0, 1) := by decide +kernel
theorem dX6_serve_108 : decode cX6_serve 108 = .ok (.iconst 2, 1) := by decide +kernel
theorem dX6_serve_109 : decode cX6_serve 109 = .ok (.invokevirtual 64, 3) := by decide +kernel
theorem dX6_serve_112 : decode cX6_serve 112 = .ok (.ifCond .eq 86, 3) := by decide +kernel
theorem dX6_serve_115 : decode cX6_serve 115 = .ok (.aload_n 0, 1) := by decide +kernel
theorem dX6_serve_116 : decode cX6_serve 116 = .ok (.getfield 21, 3) := by decide +kernel
theorem dX6_serve_119 : decode cX6_serve 119 = .ok (.iconst 3, 1) := by decide +kernel
theorem dX6_serve_120 : decode cX6_serve 120 = .ok (.if_icmp .eq 11, 3) := by decide +kernel
theorem dX6_serve_123 : decode cX6_serve 123 = .ok (.aload_n 0, 1) := by decide +kernel
theorem dX6_serve_124 : decode cX6_serve 124 = .ok (.getfield 21, 3) := by decide +kernel
theorem dX6_serve_127 : decode cX6_serve 127 = .ok (.iconst 5, 1) := by decide +kernel
theorem dX6_serve_128 : decode cX6_serve 128 = .ok (.if_icmp .ne 70, 3) := by decide +kernel
theorem dX6_serve_131 : decode cX6_serve 131 = .ok (.aload_n 0, 1) := by decide +kernel
theorem dX6_serve_132 : decode cX6_serve 132 = .ok (.getfield 193, 3) := by decide +kernel
theorem dX6_serve_135 : decode cX6_serve 135 = .ok (.aload_n 0, 1) := by decide +kernel
theorem dX6_serve_136 : decode cX6_serve 136 = .ok (.getfield 190, 3) := by decide +kernel
theorem dX6_serve_139 : decode cX6_serve 139 = .ok (.if_icmp .ge 7, 3) := by decide +kernel
theorem dX6_serve_142 : decode cX6_serve 142 = .ok (.iconst 1, 1) := by decide +kernel
theorem dX6_serve_143 : decode cX6_serve 143 = .ok (.goto 4, 3) := by decide +kernel
theorem dX6_serve_146 : decode cX6_serve 146 = .ok (.iconst 0, 1) := by decide +kernel
theorem dX6_serve_147 : decode cX6_serve 147 = .ok (.istore 6, 2) := by decide +kernel
theorem dX6_serve_149 : decode cX6_serve 149 = .ok (.aload_n 0, 1) := by decide +kernel
theorem dX6_serve_150 : decode cX6_serve 150 = .ok (.iload 6, 2) := by decide +kernel
theorem dX6_serve_152 : decode cX6_serve 152 = .ok (.ifCond .eq 15, 3) := by decide +kernel
theorem dX6_serve_155 : decode cX6_serve 155 = .ok (.aload_n 0, 1) := by decide +kernel
theorem dX6_serve_156 : decode cX6_serve 156 = .ok (.getfield 24, 3) := by decide +kernel
theorem dX6_serve_159 : decode cX6_serve 159 = .ok (.aload_n 0, 1) := by decide +kernel
theorem dX6_serve_160 : decode cX6_serve 160 = .ok (.getfield 193, 3) := by decide +kernel
theorem dX6_serve_163 : decode cX6_serve 163 = .ok (.iaload, 1) := by decide +kernel
theorem dX6_serve_164 : decode cX6_serve 164 = .ok (.goto 4, 3) := by decide +kernel
theorem dX6_serve_167 : decode cX6_serve 167 = .ok (.iconst 0, 1) := by decide +kernel
theorem dX6_serve_168 : decode cX6_serve 168 = .ok (.invokevirtual 196, 3) := by decide +kernel
theorem dX6_serve_171 : decode cX6_serve 171 = .ok (.istore 7, 2) := by decide +kernel
theorem dX6_serve_173 : decode cX6_serve 173 = .ok (.aload_n 0, 1) := by decide +kernel
theorem dX6_serve_174 : decode cX6_serve 174 = .ok (.iload 6, 2) := by decide +kernel
theorem dX6_serve_176 : decode cX6_serve 176 = .ok (.ifCond .eq 12, 3) := by decide +kernel
theorem dX6_serve_179 : decode cX6_serve 179 = .ok (.aload_n 0, 1) := by decide +kernel
theorem dX6_serve_180 : decode cX6_serve 180 = .ok (.getfield 193, 3) := by decide +kernel
theorem dX6_serve_183 : decode cX6_serve 183 = .ok (.iconst 1, 1) := by decide +kernel
theorem dX6_serve_184 : decode cX6_serve 184 = .ok (.iadd, 1) := by decide +kernel
theorem dX6_serve_185 : decode cX6_serve 185 = .ok (.goto 7, 3) := by decide +kernel
theorem dX6_serve_188 : decode cX6_serve 188 = .ok (.aload_n 0, 1) := by decide +kernel
theorem dX6_serve_189 : decode cX6_serve 189 = .ok (.getfield 193, 3) := by decide +kernel
theorem dX6_serve_192 : decode cX6_serve 192 = .ok (.putfield 193, 3) := by decide +kernel
theorem dX6_serve_195 : decode cX6_serve 195 = .ok (.iinc 2 1, 3) := by decide +kernel
theorem dX6_serve_198 : decode cX6_serve 198 = .ok (.iinc 3 1, 3) := by decide +kernel
theorem dX6_serve_201 : decode cX6_serve 201 = .ok (.goto (-184), 3) := by decide +kernel
theorem dX6_serve_204 : decode cX6_serve 204 = .ok (.iload_n 2, 1) := by decide +kernel
theorem dX6_serve_205 : decode cX6_serve 205 = .ok (.ireturn, 1) := by decide +kernel
theorem dX6_clear_0 : decode cX6_clear 0 = .ok (.aload_n 0, 1) := by decide +kernel
theorem dX6_clear_1 : decode cX6_clear 1 = .ok (.iconst 0, 1) := by decide +kernel
theorem dX6_clear_2 : decode cX6_clear 2 = .ok (.putfield 190, 3) := by decide +kernel
theorem dX6_clear_5 : decode cX6_clear 5 = .ok (.aload_n 0, 1) := by decide +kernel
theorem dX6_clear_6 : decode cX6_clear 6 = .ok (.iconst 0, 1) := by decide +kernel
theorem dX6_clear_7 : decode cX6_clear 7 = .ok (.putfield 193, 3) := by decide +kernel
theorem dX6_clear_10 : decode cX6_clear 10 = .ok (.return_, 1) := by decide +kernel
theorem dX6_fill_0 : decode cX6_fill 0 = .ok (.iload_n 1, 1) := by decide +kernel
theorem dX6_fill_1 : decode cX6_fill 1 = .ok (.ifCond .lt 33, 3) := by decide +kernel
theorem dX6_fill_4 : decode cX6_fill 4 = .ok (.iload_n 1, 1) := by decide +kernel
theorem dX6_fill_5 : decode cX6_fill 5 = .ok (.sipush 255, 3) := by decide +kernel
theorem dX6_fill_8 : decode cX6_fill 8 = .ok (.if_icmp .gt 26, 3) := by decide +kernel
theorem dX6_fill_11 : decode cX6_fill 11 = .ok (.iload_n 2, 1) := by decide +kernel
theorem dX6_fill_12 : decode cX6_fill 12 = .ok (.iconst 1, 1) := by decide +kernel
theorem dX6_fill_13 : decode cX6_fill 13 = .ok (.if_icmp .lt 21, 3) := by decide +kernel
theorem dX6_fill_16 : decode cX6_fill 16 = .ok (.iload_n 2, 1) := by decide +kernel
theorem dX6_fill_17 : decode cX6_fill 17 = .ok (.bipush 100, 2) := by decide +kernel
theorem dX6_fill_19 : decode cX6_fill 19 = .ok (.if_icmp .gt 15, 3) := by decide +kernel
theorem dX6_fill_22 : decode cX6_fill 22 = .ok (.aload_n 0, 1) := by decide +kernel
theorem dX6_fill_23 : decode cX6_fill 23 = .ok (.getfield 190, 3) := by decide +kernel
theorem dX6_fill_26 : decode cX6_fill 26 = .ok (.iload_n 2, 1) := by decide +kernel
theorem dX6_fill_27 : decode cX6_fill 27 = .ok (.iadd, 1) := by decide +kernel
theorem dX6_fill_28 : decode cX6_fill 28 = .ok (.sipush 200, 3) := by decide +kernel
theorem dX6_fill_31 : decode cX6_fill 31 = .ok (.if_icmp .le 5, 3) := by decide +kernel
theorem dX6_fill_34 : decode cX6_fill 34 = .ok (.iconst 0, 1) := by decide +kernel
theorem dX6_fill_35 : decode cX6_fill 35 = .ok (.ireturn, 1) := by decide +kernel
theorem dX6_fill_36 : decode cX6_fill 36 = .ok (.iconst 0, 1) := by decide +kernel
theorem dX6_fill_37 : decode cX6_fill 37 = .ok (.istore_n 3, 1) := by decide +kernel
theorem dX6_fill_38 : decode cX6_fill 38 = .ok (.iload_n 3, 1) := by decide +kernel
theorem dX6_fill_39 : decode cX6_fill 39 = .ok (.iload_n 2, 1) := by decide +kernel
theorem dX6_fill_40 : decode cX6_fill 40 = .ok (.if_icmp .ge 29, 3) := by decide +kernel
theorem dX6_fill_43 : decode cX6_fill 43 = .ok (.aload_n 0, 1) := by decide +kernel
theorem dX6_fill_44 : decode cX6_fill 44 = .ok (.getfield 24, 3) := by decide +kernel
theorem dX6_fill_47 : decode cX6_fill 47 = .ok (.aload_n 0, 1) := by decide +kernel
theorem dX6_fill_48 : decode cX6_fill 48 = .ok (.getfield 190, 3) := by decide +kernel
theorem dX6_fill_51 : decode cX6_fill 51 = .ok (.iload_n 1, 1) := by decide +kernel
theorem dX6_fill_52 : decode cX6_fill 52 = .ok (.iastore, 1) := by decide +kernel
theorem dX6_fill_53 : decode cX6_fill 53 = .ok (.aload_n 0, 1) := by decide +kernel
theorem dX6_fill_54 : decode cX6_fill 54 = .ok (.dup, 1) := by decide +kernel
theorem dX6_fill_55 : decode cX6_fill 55 = .ok (.getfield 190, 3) := by decide +kernel
theorem dX6_fill_58 : decode cX6_fill 58 = .ok (.iconst 1, 1) := by decide +kernel
theorem dX6_fill_59 : decode cX6_fill 59 = .ok (.iadd, 1) := by decide +kernel
theorem dX6_fill_60 : decode cX6_fill 60 = .ok (.putfield 190, 3) := by decide +kernel
theorem dX6_fill_63 : decode cX6_fill 63 = .ok (.iinc 3 1, 3) := by decide +kernel
theorem dX6_fill_66 : decode cX6_fill 66 = .ok (.goto (-28), 3) := by decide +kernel
theorem dX6_fill_69 : decode cX6_fill 69 = .ok (.iconst 1, 1) := by decide +kernel
theorem dX6_fill_70 : decode cX6_fill 70 = .ok (.ireturn, 1) := by decide +kernel
theorem dX6_buffer_0 : decode cX6_buffer 0 = .ok (.iload_n 1, 1) := by decide +kernel
theorem dX6_buffer_1 : decode cX6_buffer 1 = .ok (.iconst (-1), 1) := by decide +kernel
theorem dX6_buffer_2 : decode cX6_buffer 2 = .ok (.if_icmp .ne 10, 3) := by decide +kernel
theorem dX6_buffer_5 : decode cX6_buffer 5 = .ok (.aload_n 0, 1) := by decide +kernel
theorem dX6_buffer_6 : decode cX6_buffer 6 = .ok (.getfield 190, 3) := by decide +kernel
theorem dX6_buffer_9 : decode cX6_buffer 9 = .ok (.goto 25, 3) := by decide +kernel
theorem dX6_buffer_12 : decode cX6_buffer 12 = .ok (.iload_n 1, 1) := by decide +kernel
theorem dX6_buffer_13 : decode cX6_buffer 13 = .ok (.ifCond .lt 11, 3) := by decide +kernel
theorem dX6_buffer_16 : decode cX6_buffer 16 = .ok (.iload_n 1, 1) := by decide +kernel
theorem dX6_buffer_17 : decode cX6_buffer 17 = .ok (.aload_n 0, 1) := by decide +kernel
theorem dX6_buffer_18 : decode cX6_buffer 18 = .ok (.getfield 190, 3) := by decide +kernel
theorem dX6_buffer_21 : decode cX6_buffer 21 = .ok (.if_icmp .lt 7, 3) := by decide +kernel
theorem dX6_buffer_24 : decode cX6_buffer 24 = .ok (.iconst (-1), 1) := by decide +kernel
theorem dX6_buffer_25 : decode cX6_buffer 25 = .ok (.goto 9, 3) := by decide +kernel
theorem dX6_buffer_28 : decode cX6_buffer 28 = .ok (.aload_n 0, 1) := by decide +kernel
theorem dX6_buffer_29 : decode cX6_buffer 29 = .ok (.getfield 24, 3) := by decide +kernel
theorem dX6_buffer_32 : decode cX6_buffer 32 = .ok (.iload_n 1, 1) := by decide +kernel
theorem dX6_buffer_33 : decode cX6_buffer 33 = .ok (.iaload, 1) := by decide +kernel
theorem dX6_buffer_34 : decode cX6_buffer 34 = .ok (.ireturn, 1) := by decide +kernel
theorem dX6_protect_0 : decode cX6_protect 0 = .ok (.aload_n 0, 1) := by decide +kernel
theorem dX6_protect_1 : decode cX6_protect 1 = .ok (.iload_n 1, 1) := by decide +kernel
theorem dX6_protect_2 : decode cX6_protect 2 = .ok (.putfield 181, 3) := by decide +kernel
theorem dX6_protect_5 : decode cX6_protect 5 = .ok (.return_, 1) := by decide +kernel
theorem dX6_spoil_0 : decode cX6_spoil 0 = .ok (.iload_n 1, 1) := by decide +kernel
theorem dX6_spoil_1 : decode cX6_spoil 1 = .ok (.ifCond .lt 19, 3) := by decide +kernel
theorem dX6_spoil_4 : decode cX6_spoil 4 = .ok (.iload_n 1, 1) := by decide +kernel
theorem dX6_spoil_5 : decode cX6_spoil 5 = .ok (.iconst 3, 1) := by decide +kernel
theorem dX6_spoil_6 : decode cX6_spoil 6 = .ok (.if_icmp .gt 14, 3) := by decide +kernel
theorem dX6_spoil_9 : decode cX6_spoil 9 = .ok (.iload_n 2, 1) := by decide +kernel
theorem dX6_spoil_10 : decode cX6_spoil 10 = .ok (.ifCond .lt 10, 3) := by decide +kernel
theorem dX6_spoil_13 : decode cX6_spoil 13 = .ok (.iload_n 2, 1) := by decide +kernel
theorem dX6_spoil_14 : decode cX6_spoil 14 = .ok (.sipush 2400, 3) := by decide +kernel
theorem dX6_spoil_17 : decode cX6_spoil 17 = .ok (.if_icmp .lt 5, 3) := by decide +kernel
theorem dX6_spoil_20 : decode cX6_spoil 20 = .ok (.iconst 0, 1) := by decide +kernel
theorem dX6_spoil_21 : decode cX6_spoil 21 = .ok (.ireturn, 1) := by decide +kernel
theorem dX6_spoil_22 : decode cX6_spoil 22 = .ok (.aload_n 0, 1) := by decide +kernel
theorem dX6_spoil_23 : decode cX6_spoil 23 = .ok (.getfield 7, 3) := by decide +kernel
theorem dX6_spoil_26 : decode cX6_spoil 26 = .ok (.sipush 2400, 3) := by decide +kernel
theorem dX6_spoil_29 : decode cX6_spoil 29 = .ok (.iload_n 1, 1) := by decide +kernel
theorem dX6_spoil_30 : decode cX6_spoil 30 = .ok (.imul, 1) := by decide +kernel
theorem dX6_spoil_31 : decode cX6_spoil 31 = .ok (.iload_n 2, 1) := by decide +kernel
theorem dX6_spoil_32 : decode cX6_spoil 32 = .ok (.iadd, 1) := by decide +kernel
theorem dX6_spoil_33 : decode cX6_spoil 33 = .ok (.aload_n 0, 1) := by decide +kernel
theorem dX6_spoil_34 : decode cX6_spoil 34 = .ok (.getfield 7, 3) := by decide +kernel
theorem dX6_spoil_37 : decode cX6_spoil 37 = .ok (.sipush 2400, 3) := by decide +kernel
theorem dX6_spoil_40 : decode cX6_spoil 40 = .ok (.iload_n 1, 1) := by decide +kernel
theorem dX6_spoil_41 : decode cX6_spoil 41 = .ok (.imul, 1) := by decide +kernel
theorem dX6_spoil_42 : decode cX6_spoil 42 = .ok (.iload_n 2, 1) := by decide +kernel
theorem dX6_spoil_43 : decode cX6_spoil 43 = .ok (.iadd, 1) := by decide +kernel
theorem dX6_spoil_44 : decode cX6_spoil 44 = .ok (.baload, 1) := by decide +kernel
theorem dX6_spoil_45 : decode cX6_spoil 45 = .ok (.ifCond .ne 7, 3) := by decide +kernel
theorem dX6_spoil_48 : decode cX6_spoil 48 = .ok (.iconst 1, 1) := by decide +kernel
theorem dX6_spoil_49 : decode cX6_spoil 49 = .ok (.goto 4, 3) := by decide +kernel
theorem dX6_spoil_52 : decode cX6_spoil 52 = .ok (.iconst 0, 1) := by decide +kernel
theorem dX6_spoil_53 : decode cX6_spoil 53 = .ok (.bastore, 1) := by decide +kernel
theorem dX6_spoil_54 : decode cX6_spoil 54 = .ok (.iconst 1, 1) := by decide +kernel
theorem dX6_spoil_55 : decode cX6_spoil 55 = .ok (.ireturn, 1) := by decide +kernel
theorem dX6_cells_0 : decode cX6_cells 0 = .ok (.iload_n 1, 1) := by decide +kernel
theorem dX6_cells_1 : decode cX6_cells 1 = .ok (.ifCond .lt 19, 3) := by decide +kernel
theorem dX6_cells_4 : decode cX6_cells 4 = .ok (.iload_n 1, 1) := by decide +kernel
theorem dX6_cells_5 : decode cX6_cells 5 = .ok (.iconst 3, 1) := by decide +kernel
theorem dX6_cells_6 : decode cX6_cells 6 = .ok (.if_icmp .gt 14, 3) := by decide +kernel
theorem dX6_cells_9 : decode cX6_cells 9 = .ok (.iload_n 2, 1) := by decide +kernel
theorem dX6_cells_10 : decode cX6_cells 10 = .ok (.ifCond .lt 10, 3) := by decide +kernel
theorem dX6_cells_13 : decode cX6_cells 13 = .ok (.iload_n 2, 1) := by decide +kernel
theorem dX6_cells_14 : decode cX6_cells 14 = .ok (.sipush 150, 3) := by decide +kernel
theorem dX6_cells_17 : decode cX6_cells 17 = .ok (.if_icmp .lt 5, 3) := by decide +kernel
theorem dX6_cells_20 : decode cX6_cells 20 = .ok (.iconst (-1), 1) := by decide +kernel
theorem dX6_cells_21 : decode cX6_cells 21 = .ok (.ireturn, 1) := by decide +kernel
theorem dX6_cells_22 : decode cX6_cells 22 = .ok (.iconst 0, 1) := by decide +kernel
theorem dX6_cells_23 : decode cX6_cells 23 = .ok (.istore_n 3, 1) := by decide +kernel
theorem dX6_cells_24 : decode cX6_cells 24 = .ok (.iconst 0, 1) := by decide +kernel
theorem dX6_cells_25 : decode cX6_cells 25 = .ok (.istore 4, 2) := by decide +kernel
theorem dX6_cells_27 : decode cX6_cells 27 = .ok (.iload 4, 2) := by decide +kernel
theorem dX6_cells_29 : decode cX6_cells 29 = .ok (.bipush 16, 2) := by decide +kernel
theorem dX6_cells_31 : decode cX6_cells 31 = .ok (.if_icmp .ge 40, 3) := by decide +kernel
theorem dX6_cells_34 : decode cX6_cells 34 = .ok (.iload_n 3, 1) := by decide +kernel
theorem dX6_cells_35 : decode cX6_cells 35 = .ok (.iconst 1, 1) := by decide +kernel
theorem dX6_cells_36 : decode cX6_cells 36 = .ok (.ishl, 1) := by decide +kernel
theorem dX6_cells_37 : decode cX6_cells 37 = .ok (.aload_n 0, 1) := by decide +kernel
theorem dX6_cells_38 : decode cX6_cells 38 = .ok (.getfield 7, 3) := by decide +kernel
theorem dX6_cells_41 : decode cX6_cells 41 = .ok (.sipush 2400, 3) := by decide +kernel
theorem dX6_cells_44 : decode cX6_cells 44 = .ok (.iload_n 1, 1) := by decide +kernel
theorem dX6_cells_45 : decode cX6_cells 45 = .ok (.imul, 1) := by decide +kernel
theorem dX6_cells_46 : decode cX6_cells 46 = .ok (.bipush 16, 2) := by decide +kernel
theorem dX6_cells_48 : decode cX6_cells 48 = .ok (.iload_n 2, 1) := by decide +kernel
theorem dX6_cells_49 : decode cX6_cells 49 = .ok (.imul, 1) := by decide +kernel
theorem dX6_cells_50 : decode cX6_cells 50 = .ok (.iadd, 1) := by decide +kernel
theorem dX6_cells_51 : decode cX6_cells 51 = .ok (.iload 4, 2) := by decide +kernel
theorem dX6_cells_53 : decode cX6_cells 53 = .ok (.iadd, 1) := by decide +kernel
theorem dX6_cells_54 : decode cX6_cells 54 = .ok (.baload, 1) := by decide +kernel
theorem dX6_cells_55 : decode cX6_cells 55 = .ok (.ifCond .eq 7, 3) := by decide +kernel
theorem dX6_cells_58 : decode cX6_cells 58 = .ok (.iconst 1, 1) := by decide +kernel
theorem dX6_cells_59 : decode cX6_cells 59 = .ok (.goto 4, 3) := by decide +kernel
theorem dX6_cells_62 : decode cX6_cells 62 = .ok (.iconst 0, 1) := by decide +kernel
theorem dX6_cells_63 : decode cX6_cells 63 = .ok (.ior, 1) := by decide +kernel
theorem dX6_cells_64 : decode cX6_cells 64 = .ok (.istore_n 3, 1) := by decide +kernel
theorem dX6_cells_65 : decode cX6_cells 65 = .ok (.iinc 4 1, 3) := by decide +kernel
theorem dX6_cells_68 : decode cX6_cells 68 = .ok (.goto (-41), 3) := by decide +kernel
theorem dX6_cells_71 : decode cX6_cells 71 = .ok (.iload_n 3, 1) := by decide +kernel
theorem dX6_cells_72 : decode cX6_cells 72 = .ok (.ireturn, 1) := by decide +kernel
theorem dX6_look_0 : decode cX6_look 0 = .ok (.iload_n 1, 1) := by decide +kernel
theorem dX6_look_1 : decode cX6_look 1 = .ok (.tableswitch 95 0 7 #[47, 52, 57, 62, 67, 72, 77, 90], 47) := by decide +kernel
theorem dX6_look_48 : decode cX6_look 48 = .ok (.aload_n 0, 1) := by decide +kernel
theorem dX6_look_49 : decode cX6_look 49 = .ok (.getfield 38, 3) := by decide +kernel
theorem dX6_look_52 : decode cX6_look 52 = .ok (.ireturn, 1) := by decide +kernel
theorem dX6_look_53 : decode cX6_look 53 = .ok (.aload_n 0, 1) := by decide +kernel
theorem dX6_look_54 : decode cX6_look 54 = .ok (.getfield 77, 3) := by decide +kernel
theorem dX6_look_57 : decode cX6_look 57 = .ok (.ireturn, 1) := by decide +kernel
theorem dX6_look_58 : decode cX6_look 58 = .ok (.aload_n 0, 1) := by decide +kernel
theorem dX6_look_59 : decode cX6_look 59 = .ok (.getfield 71, 3) := by decide +kernel
theorem dX6_look_62 : decode cX6_look 62 = .ok (.ireturn, 1) := by decide +kernel
theorem dX6_look_63 : decode cX6_look 63 = .ok (.aload_n 0, 1) := by decide +kernel
theorem dX6_look_64 : decode cX6_look 64 = .ok (.getfield 61, 3) := by decide +kernel
theorem dX6_look_67 : decode cX6_look 67 = .ok (.ireturn, 1) := by decide +kernel
theorem dX6_look_68 : decode cX6_look 68 = .ok (.aload_n 0, 1) := by decide +kernel
theorem dX6_look_69 : decode cX6_look 69 = .ok (.getfield 101, 3) := by decide +kernel
theorem dX6_look_72 : decode cX6_look 72 = .ok (.ireturn, 1) := by decide +kernel
theorem dX6_look_73 : decode cX6_look 73 = .ok (.aload_n 0, 1) := by decide +kernel
theorem dX6_look_74 : decode cX6_look 74 = .ok (.getfield 104, 3) := by decide +kernel
theorem dX6_look_77 : decode cX6_look 77 = .ok (.ireturn, 1) := by decide +kernel
theorem dX6_look_78 : decode cX6_look 78 = .ok (.aload_n 0, 1) := by decide +kernel
theorem dX6_look_79 : decode cX6_look 79 = .ok (.getfield 41, 3) := by decide +kernel
theorem dX6_look_82 : decode cX6_look 82 = .ok (.ifCond .eq 7, 3) := by decide +kernel
theorem dX6_look_85 : decode cX6_look 85 = .ok (.iconst 1, 1) := by decide +kernel
theorem dX6_look_86 : decode cX6_look 86 = .ok (.goto 4, 3) := by decide +kernel
theorem dX6_look_89 : decode cX6_look 89 = .ok (.iconst 0, 1) := by decide +kernel
theorem dX6_look_90 : decode cX6_look 90 = .ok (.ireturn, 1) := by decide +kernel
theorem dX6_look_91 : decode cX6_look 91 = .ok (.aload_n 0, 1) := by decide +kernel
theorem dX6_look_92 : decode cX6_look 92 = .ok (.getfield 21, 3) := by decide +kernel
theorem dX6_look_95 : decode cX6_look 95 = .ok (.ireturn, 1) := by decide +kernel
theorem dX6_look_96 : decode cX6_look 96 = .ok (.iconst (-1), 1) := by decide +kernel
theorem dX6_look_97 : decode cX6_look 97 = .ok (.ireturn, 1) := by decide +kernel
end
