def wsL_law_r1 : List Cond := [Cond.classLink RL 7 RX5, Cond.instantiable RX5 4, Cond.initialized RX5, Cond.classLink RL 10 RX6, Cond.instantiable RX6 32, Cond.initialized RX6, Cond.methodLink RL 9 yX5_init, Cond.instanceMethod yX5_init, Cond.code yX5_init cX5_init 1 none, Cond.methodLink RX5 1 objectInit, Cond.instanceMethod objectInit, Cond.code objectInit ⟨#[0xb1]⟩ 1 none, Cond.classLink RX5 7 RX1, Cond.instantiable RX1 4, Cond.initialized RX1, Cond.fieldLink RX5 10 "FloppyDesk" "disk" "LFloppyDesk$Disk;", Cond.classLink RX5 16 RX2, Cond.instantiable RX2 14, Cond.initialized RX2, Cond.fieldLink RX5 19 "FloppyDesk" "reader" "LFloppyDesk$Reader;", Cond.classLink RX5 23 RX0, Cond.instantiable RX0 12, Cond.initialized RX0, Cond.fieldLink RX5 28 "FloppyDesk" "controller" "LFloppyDesk$Controller;"]
def wsL_law_r2 : List Cond := [Cond.classLink RX5 32 RX3, Cond.instantiable RX3 3, Cond.initialized RX3, Cond.fieldLink RX5 35 "FloppyDesk" "store" "LFloppyDesk$Store;", Cond.methodLink RX5 9 yX1_init, Cond.instanceMethod yX1_init, Cond.code yX1_init cX1_init 1 none, Cond.methodLink RX1 3 objectInit, Cond.arrayClass .int, Cond.fieldLink RX1 9 "FloppyDesk$Disk" "words" "[I", Cond.methodLink RX5 18 yX2_init, Cond.instanceMethod yX2_init, Cond.code yX2_init cX2_init 1 none, Cond.methodLink RX2 3 objectInit, Cond.fieldLink RX2 11 "FloppyDesk$Reader" "dataSize" "I", Cond.methodLink RX5 25 yX0_init, Cond.instanceMethod yX0_init, Cond.code yX0_init cX0_init 3 none, Cond.methodLink RX0 3 objectInit, Cond.fieldLink RX0 9 "FloppyDesk$Controller" "disk" "LFloppyDesk$Disk;", Cond.fieldLink RX0 15 "FloppyDesk$Controller" "reader" "LFloppyDesk$Reader;", Cond.classLink RX0 19 RX4, Cond.instantiable RX4 7, Cond.initialized RX4]
def wsL_law_r3 : List Cond := [Cond.fieldLink RX0 22 "FloppyDesk$Controller" "writer" "LFloppyDesk$Writer;", Cond.fieldLink RX0 26 "FloppyDesk$Controller" "latest" "I", Cond.instanceMethod yX4_init, Cond.code yX4_init cX4_init 1 none, Cond.methodLink RX4 3 objectInit, Cond.methodLink RX5 34 yX3_init, Cond.instanceMethod yX3_init, Cond.code yX3_init cX3_init 1 none, Cond.methodLink RX3 3 objectInit, Cond.fieldLink RX3 11 "FloppyDesk$Store" "bytes" "[I", Cond.methodLink RL 12 yX6_init, Cond.instanceMethod yX6_init, Cond.code yX6_init cX6_init 1 none, Cond.methodLink RX6 1 objectInit, Cond.arrayClass .boolean, Cond.fieldLink RX6 7 "FloppyDeskModel" "cell" "[Z", Cond.fieldLink RX6 13 "FloppyDeskModel" "bytes" "[I", Cond.fieldLink RX6 17 "FloppyDeskModel" "dataSize" "I", Cond.fieldLink RX6 21 "FloppyDeskModel" "latest" "I", Cond.fieldLink RX6 24 "FloppyDeskModel" "buffer" "[I", Cond.methodLink RL 13 yX5_command, Cond.instanceMethod yX5_command, Cond.selects RX5 yX5_command yX5_command, Cond.code yX5_command cX5_command 3 (some .boolean)]
def wsL_law_r4 : List Cond := [Cond.methodLink RX5 39 yX0_begin, Cond.instanceMethod yX0_begin, Cond.selects RX0 yX0_begin yX0_begin, Cond.code yX0_begin cX0_begin 3 (some .boolean), Cond.fieldLink RX0 40 "FloppyDesk$Controller" "writesDeleted" "Z", Cond.fieldLink RX0 30 "FloppyDesk$Controller" "status" "I", Cond.fieldLink RX0 44 "FloppyDesk$Controller" "byteTimes" "I", Cond.fieldLink RX0 47 "FloppyDesk$Controller" "indexes" "I", Cond.fieldLink RX0 58 "FloppyDesk$Controller" "track" "I", Cond.fieldLink RX0 33 "FloppyDesk$Controller" "data" "I", Cond.fieldLink RX0 70 "FloppyDesk$Controller" "phase" "I", Cond.methodLink RX0 36 yX0_has, Cond.instanceMethod yX0_has, Cond.selects RX0 yX0_has yX0_has, Cond.code yX0_has cX0_has 2 (some .boolean), Cond.methodLink RX0 50 yX2_reset, Cond.instanceMethod yX2_reset, Cond.selects RX2 yX2_reset yX2_reset, Cond.code yX2_reset cX2_reset 1 none, Cond.fieldLink RX2 15 "FloppyDesk$Reader" "inStep" "Z", Cond.fieldLink RX2 19 "FloppyDesk$Reader" "marks" "I", Cond.fieldLink RX2 22 "FloppyDesk$Reader" "field" "I", Cond.methodLink RX0 55 yX2_forgetDataSize, Cond.instanceMethod yX2_forgetDataSize]
def wsL_law_r5 : List Cond := [Cond.selects RX2 yX2_forgetDataSize yX2_forgetDataSize, Cond.code yX2_forgetDataSize cX2_forgetDataSize 1 none, Cond.methodLink RX0 66 yX0_endWith, Cond.instanceMethod yX0_endWith, Cond.selects RX0 yX0_endWith yX0_endWith, Cond.code yX0_endWith cX0_endWith 2 none, Cond.methodLink RX0 76 yX0_end, Cond.instanceMethod yX0_end, Cond.selects RX0 yX0_end yX0_end, Cond.code yX0_end cX0_end 1 none, Cond.methodLink RX0 73 yX2_forgetWindow, Cond.instanceMethod yX2_forgetWindow, Cond.selects RX2 yX2_forgetWindow yX2_forgetWindow, Cond.code yX2_forgetWindow cX2_forgetWindow 1 none, Cond.fieldLink RX2 25 "FloppyDesk$Reader" "window" "I", Cond.methodLink RL 17 yX6_command, Cond.instanceMethod yX6_command, Cond.selects RX6 yX6_command yX6_command, Cond.code yX6_command cX6_command 3 (some .boolean), Cond.fieldLink RX6 38 "FloppyDeskModel" "status" "I", Cond.fieldLink RX6 147 "FloppyDeskModel" "removes" "Z", Cond.fieldLink RX6 160 "FloppyDeskModel" "indexes" "I", Cond.fieldLink RX6 80 "FloppyDeskModel" "count" "I", Cond.fieldLink RX6 77 "FloppyDeskModel" "track" "I"]
def wsL_law_r6 : List Cond := [Cond.fieldLink RX6 61 "FloppyDeskModel" "data" "I", Cond.fieldLink RX6 55 "FloppyDeskModel" "phase" "I", Cond.fieldLink RX6 181 "FloppyDeskModel" "shut" "Z", Cond.methodLink RX6 64 yX6_has, Cond.instanceMethod yX6_has, Cond.selects RX6 yX6_has yX6_has, Cond.code yX6_has cX6_has 2 (some .boolean), Cond.methodLink RX6 113 yX6_reset, Cond.instanceMethod yX6_reset, Cond.selects RX6 yX6_reset yX6_reset, Cond.code yX6_reset cX6_reset 1 none, Cond.fieldLink RX6 41 "FloppyDeskModel" "inStep" "Z", Cond.fieldLink RX6 45 "FloppyDeskModel" "marks" "I", Cond.fieldLink RX6 48 "FloppyDeskModel" "field" "I", Cond.methodLink RX6 68 yX6_raise, Cond.instanceMethod yX6_raise, Cond.selects RX6 yX6_raise yX6_raise, Cond.code yX6_raise cX6_raise 2 none, Cond.methodLink RX6 74 yX6_end, Cond.instanceMethod yX6_end, Cond.selects RX6 yX6_end yX6_end, Cond.code yX6_end cX6_end 1 none, Cond.fieldLink RX6 58 "FloppyDeskModel" "window" "I", Cond.methodLink RX6 51 yX6_drop]
def wsL_law_r7 : List Cond := [Cond.instanceMethod yX6_drop, Cond.selects RX6 yX6_drop yX6_drop, Cond.code yX6_drop cX6_drop 2 none, Cond.methodLink RL 18 yX5_force, Cond.instanceMethod yX5_force, Cond.selects RX5 yX5_force yX5_force, Cond.code yX5_force cX5_force 1 (some .boolean), Cond.methodLink RX5 43 yX0_has, Cond.methodLink RX5 47 yX0_end, Cond.methodLink RL 22 yX6_force, Cond.instanceMethod yX6_force, Cond.selects RX6 yX6_force yX6_force, Cond.code yX6_force cX6_force 1 (some .boolean), Cond.methodLink RL 23 yX5_set, Cond.instanceMethod yX5_set, Cond.selects RX5 yX5_set yX5_set, Cond.code yX5_set cX5_set 3 (some .boolean), Cond.methodLink RX5 50 yX5_isByte, Cond.static yX5_isByte, Cond.code yX5_isByte cX5_isByte 1 (some .boolean), Cond.methodLink RL 27 yX6_set, Cond.instanceMethod yX6_set, Cond.selects RX6 yX6_set yX6_set, Cond.code yX6_set cX6_set 3 (some .boolean)]
def wsL_law_r8 : List Cond := [Cond.fieldLink RX6 71 "FloppyDeskModel" "sector" "I", Cond.methodLink RL 28 yX5_give, Cond.instanceMethod yX5_give, Cond.selects RX5 yX5_give yX5_give, Cond.code yX5_give cX5_give 2 (some .boolean), Cond.methodLink RX5 60 yX0_acceptData, Cond.instanceMethod yX0_acceptData, Cond.selects RX0 yX0_acceptData yX0_acceptData, Cond.code yX0_acceptData cX0_acceptData 2 none, Cond.methodLink RL 32 yX6_give, Cond.instanceMethod yX6_give, Cond.selects RX6 yX6_give yX6_give, Cond.code yX6_give cX6_give 2 (some .boolean), Cond.methodLink RL 33 yX5_take, Cond.instanceMethod yX5_take, Cond.selects RX5 yX5_take yX5_take, Cond.code yX5_take cX5_take 1 (some .int), Cond.methodLink RX5 64 yX0_handOutData, Cond.instanceMethod yX0_handOutData, Cond.selects RX0 yX0_handOutData yX0_handOutData, Cond.code yX0_handOutData cX0_handOutData 1 (some .int), Cond.methodLink RL 37 yX6_take, Cond.instanceMethod yX6_take, Cond.selects RX6 yX6_take yX6_take]
def wsL_law_r9 : List Cond := [Cond.code yX6_take cX6_take 1 (some .int), Cond.methodLink RL 38 yX5_run, Cond.instanceMethod yX5_run, Cond.selects RX5 yX5_run yX5_run, Cond.code yX5_run cX5_run 4 (some .int), Cond.methodLink RX5 68 yX0_passByteTime, Cond.instanceMethod yX0_passByteTime, Cond.selects RX0 yX0_passByteTime yX0_passByteTime, Cond.code yX0_passByteTime cX0_passByteTime 3 (some .boolean), Cond.methodLink RX0 79 yX0_writeOneCell, Cond.instanceMethod yX0_writeOneCell, Cond.selects RX0 yX0_writeOneCell yX0_writeOneCell, Cond.code yX0_writeOneCell cX0_writeOneCell 2 none, Cond.methodLink RX0 160 yX0_putNextOfTrack, Cond.instanceMethod yX0_putNextOfTrack, Cond.selects RX0 yX0_putNextOfTrack yX0_putNextOfTrack, Cond.code yX0_putNextOfTrack cX0_putNextOfTrack 2 none, Cond.methodLink RX0 181 yX4_putHalfOfCheck, Cond.instanceMethod yX4_putHalfOfCheck, Cond.selects RX4 yX4_putHalfOfCheck yX4_putHalfOfCheck, Cond.code yX4_putHalfOfCheck cX4_putHalfOfCheck 2 none, Cond.fieldLink RX4 29 "FloppyDesk$Writer" "isLowCheckDue" "Z", Cond.fieldLink RX4 19 "FloppyDesk$Writer" "check" "I", Cond.methodLink RX4 40 yX4_putUnchecked]
def wsL_law_r10 : List Cond := [Cond.instanceMethod yX4_putUnchecked, Cond.selects RX4 yX4_putUnchecked yX4_putUnchecked, Cond.code yX4_putUnchecked cX4_putUnchecked 6 none, Cond.fieldLink RX4 15 "FloppyDesk$Writer" "lastBit" "I", Cond.fieldLink RX4 25 "FloppyDesk$Writer" "isBehindMark" "Z", Cond.methodLink RX4 36 yX4_putWord, Cond.instanceMethod yX4_putWord, Cond.selects RX4 yX4_putWord yX4_putWord, Cond.code yX4_putWord cX4_putWord 2 none, Cond.fieldLink RX4 43 "FloppyDesk$Writer" "word" "I", Cond.fieldLink RX4 9 "FloppyDesk$Writer" "cellsLeft" "I", Cond.fieldLink RX4 22 "FloppyDesk$Writer" "count" "I", Cond.methodLink RX0 184 yX0_askForByte, Cond.instanceMethod yX0_askForByte, Cond.selects RX0 yX0_askForByte yX0_askForByte, Cond.code yX0_askForByte cX0_askForByte 1 (some .int), Cond.methodLink RX0 187 yX4_putMark, Cond.instanceMethod yX4_putMark, Cond.selects RX4 yX4_putMark yX4_putMark, Cond.code yX4_putMark cX4_putMark 1 none, Cond.constant RX4 18 (65535), Cond.static yX5_checkWith, Cond.code yX5_checkWith cX5_checkWith 4 (some .int), Cond.constant RX5 124 (65536)]
def wsL_law_r11 : List Cond := [Cond.constant RX5 125 (65535), Cond.methodLink RX0 190 yX4_putByte, Cond.instanceMethod yX4_putByte, Cond.selects RX4 yX4_putByte yX4_putByte, Cond.code yX4_putByte cX4_putByte 2 none, Cond.methodLink RX0 163 yX0_putNextOfSector, Cond.instanceMethod yX0_putNextOfSector, Cond.selects RX0 yX0_putNextOfSector yX0_putNextOfSector, Cond.code yX0_putNextOfSector cX0_putNextOfSector 3 none, Cond.methodLink RX0 166 yX4_nextCell, Cond.instanceMethod yX4_nextCell, Cond.selects RX4 yX4_nextCell yX4_nextCell, Cond.code yX4_nextCell cX4_nextCell 1 (some .int), Cond.methodLink RX0 169 yX1_writeUnderHead, Cond.instanceMethod yX1_writeUnderHead, Cond.selects RX1 yX1_writeUnderHead yX1_writeUnderHead, Cond.code yX1_writeUnderHead cX1_writeUnderHead 2 none, Cond.fieldLink RX1 16 "FloppyDesk$Disk" "headTrack" "I", Cond.fieldLink RX1 20 "FloppyDesk$Disk" "place" "I", Cond.methodLink RX1 27 yX1_cellUnderHead, Cond.instanceMethod yX1_cellUnderHead, Cond.selects RX1 yX1_cellUnderHead yX1_cellUnderHead, Cond.code yX1_cellUnderHead cX1_cellUnderHead 1 (some .int), Cond.methodLink RX1 23 yX1_wordAt]
def wsL_law_r12 : List Cond := [Cond.instanceMethod yX1_wordAt, Cond.selects RX1 yX1_wordAt yX1_wordAt, Cond.code yX1_wordAt cX1_wordAt 3 (some .int), Cond.methodLink RX1 31 yX1_turnOver, Cond.instanceMethod yX1_turnOver, Cond.selects RX1 yX1_turnOver yX1_turnOver, Cond.code yX1_turnOver cX1_turnOver 3 (some .boolean), Cond.constant RX1 15 (32768), Cond.methodLink RX0 82 yX0_readOneCell, Cond.instanceMethod yX0_readOneCell, Cond.selects RX0 yX0_readOneCell yX0_readOneCell, Cond.code yX0_readOneCell cX0_readOneCell 2 none, Cond.methodLink RX0 110 yX1_cellUnderHead, Cond.methodLink RX0 114 yX2_readCell, Cond.instanceMethod yX2_readCell, Cond.selects RX2 yX2_readCell yX2_readCell, Cond.code yX2_readCell cX2_readCell 2 (some .int), Cond.constant RX2 28 (65535), Cond.fieldLink RX2 29 "FloppyDesk$Reader" "cellsSince" "I", Cond.fieldLink RX2 36 "FloppyDesk$Reader" "latestByte" "I", Cond.methodLink RX2 32 yX2_byteInWindow, Cond.instanceMethod yX2_byteInWindow, Cond.selects RX2 yX2_byteInWindow yX2_byteInWindow, Cond.code yX2_byteInWindow cX2_byteInWindow 3 (some .int)]
def wsL_law_r13 : List Cond := [Cond.methodLink RX2 39 yX2_beginField, Cond.instanceMethod yX2_beginField, Cond.selects RX2 yX2_beginField yX2_beginField, Cond.code yX2_beginField cX2_beginField 3 (some .int), Cond.fieldLink RX2 45 "FloppyDesk$Reader" "latestField" "I", Cond.fieldLink RX2 48 "FloppyDesk$Reader" "fieldStart" "I", Cond.fieldLink RX2 51 "FloppyDesk$Reader" "fieldBytes" "I", Cond.fieldLink RX2 54 "FloppyDesk$Reader" "fieldCheck" "I", Cond.methodLink RX2 42 yX2_addToField, Cond.instanceMethod yX2_addToField, Cond.selects RX2 yX2_addToField yX2_addToField, Cond.code yX2_addToField cX2_addToField 2 (some .int), Cond.fieldLink RX2 68 "FloppyDesk$Reader" "idLength" "I", Cond.methodLink RX2 61 yX2_keepIdByte, Cond.instanceMethod yX2_keepIdByte, Cond.selects RX2 yX2_keepIdByte yX2_keepIdByte, Cond.code yX2_keepIdByte cX2_keepIdByte 1 none, Cond.fieldLink RX2 71 "FloppyDesk$Reader" "idTrack" "I", Cond.fieldLink RX2 74 "FloppyDesk$Reader" "idSector" "I", Cond.methodLink RX2 64 yX2_isCheckRight, Cond.instanceMethod yX2_isCheckRight, Cond.selects RX2 yX2_isCheckRight yX2_isCheckRight, Cond.code yX2_isCheckRight cX2_isCheckRight 1 (some .boolean), Cond.methodLink RX0 118 yX0_meetFieldStart]
def wsL_law_r14 : List Cond := [Cond.instanceMethod yX0_meetFieldStart, Cond.selects RX0 yX0_meetFieldStart yX0_meetFieldStart, Cond.code yX0_meetFieldStart cX0_meetFieldStart 1 none, Cond.methodLink RX0 127 yX2_isLatestFieldId, Cond.instanceMethod yX2_isLatestFieldId, Cond.selects RX2 yX2_isLatestFieldId yX2_isLatestFieldId, Cond.code yX2_isLatestFieldId cX2_isLatestFieldId 1 (some .boolean), Cond.methodLink RX0 121 yX0_meetFieldByte, Cond.instanceMethod yX0_meetFieldByte, Cond.selects RX0 yX0_meetFieldByte yX0_meetFieldByte, Cond.code yX0_meetFieldByte cX0_meetFieldByte 1 none, Cond.methodLink RX0 133 yX2_isLatestByteOfCheck, Cond.instanceMethod yX2_isLatestByteOfCheck, Cond.selects RX2 yX2_isLatestByteOfCheck yX2_isLatestByteOfCheck, Cond.code yX2_isLatestByteOfCheck cX2_isLatestByteOfCheck 1 (some .boolean), Cond.methodLink RX2 77 yX2_isLatestFieldId, Cond.methodLink RX0 124 yX0_meetFieldEnd, Cond.instanceMethod yX0_meetFieldEnd, Cond.selects RX0 yX0_meetFieldEnd yX0_meetFieldEnd, Cond.code yX0_meetFieldEnd cX0_meetFieldEnd 1 none, Cond.methodLink RX0 139 yX0_endReading, Cond.instanceMethod yX0_endReading, Cond.selects RX0 yX0_endReading yX0_endReading, Cond.code yX0_endReading cX0_endReading 1 none]
def wsL_law_r15 : List Cond := [Cond.fieldLink RX0 148 "FloppyDesk$Controller" "sector" "I", Cond.methodLink RX0 151 yX2_isCheckRight, Cond.methodLink RX0 142 yX0_compareId, Cond.instanceMethod yX0_compareId, Cond.selects RX0 yX0_compareId yX0_compareId, Cond.code yX0_compareId cX0_compareId 1 none, Cond.methodLink RX0 85 yX1_turnByOneCell, Cond.instanceMethod yX1_turnByOneCell, Cond.selects RX1 yX1_turnByOneCell yX1_turnByOneCell, Cond.code yX1_turnByOneCell cX1_turnByOneCell 1 (some .boolean), Cond.methodLink RX0 89 yX0_meetIndex, Cond.instanceMethod yX0_meetIndex, Cond.selects RX0 yX0_meetIndex yX0_meetIndex, Cond.code yX0_meetIndex cX0_meetIndex 1 none, Cond.methodLink RX0 95 yX0_startWritingIfServed, Cond.instanceMethod yX0_startWritingIfServed, Cond.selects RX0 yX0_startWritingIfServed yX0_startWritingIfServed, Cond.code yX0_startWritingIfServed cX0_startWritingIfServed 1 none, Cond.methodLink RX0 107 yX4_start, Cond.instanceMethod yX4_start, Cond.selects RX4 yX4_start yX4_start, Cond.code yX4_start cX4_start 1 none, Cond.methodLink RX0 92 yX0_endByteTime, Cond.instanceMethod yX0_endByteTime]
def wsL_law_r16 : List Cond := [Cond.selects RX0 yX0_endByteTime yX0_endByteTime, Cond.code yX0_endByteTime cX0_endByteTime 1 none, Cond.methodLink RX0 98 yX0_moveOneTrack, Cond.instanceMethod yX0_moveOneTrack, Cond.selects RX0 yX0_moveOneTrack yX0_moveOneTrack, Cond.code yX0_moveOneTrack cX0_moveOneTrack 2 none, Cond.methodLink RX0 104 yX1_moveHead, Cond.instanceMethod yX1_moveHead, Cond.selects RX1 yX1_moveHead yX1_moveHead, Cond.code yX1_moveHead cX1_moveHead 3 none, Cond.methodLink RL 42 yX6_run, Cond.instanceMethod yX6_run, Cond.selects RX6 yX6_run yX6_run, Cond.code yX6_run cX6_run 4 (some .int), Cond.methodLink RX6 184 yX6_pass, Cond.instanceMethod yX6_pass, Cond.selects RX6 yX6_pass yX6_pass, Cond.code yX6_pass cX6_pass 3 (some .int), Cond.fieldLink RX6 104 "FloppyDeskModel" "place" "I", Cond.methodLink RX6 169 yX6_writeCell, Cond.instanceMethod yX6_writeCell, Cond.selects RX6 yX6_writeCell yX6_writeCell, Cond.code yX6_writeCell cX6_writeCell 1 none, Cond.fieldLink RX6 116 "FloppyDeskModel" "written" "I"]
def wsL_law_r17 : List Cond := [Cond.fieldLink RX6 101 "FloppyDeskModel" "head" "I", Cond.fieldLink RX6 138 "FloppyDeskModel" "pattern" "I", Cond.fieldLink RX6 119 "FloppyDeskModel" "which" "I", Cond.methodLink RX6 154 yX6_sectorByte, Cond.instanceMethod yX6_sectorByte, Cond.selects RX6 yX6_sectorByte yX6_sectorByte, Cond.code yX6_sectorByte cX6_sectorByte 4 none, Cond.fieldLink RX6 125 "FloppyDeskModel" "sum" "I", Cond.methodLink RX6 141 yX6_write, Cond.instanceMethod yX6_write, Cond.selects RX6 yX6_write yX6_write, Cond.code yX6_write cX6_write 2 none, Cond.fieldLink RX6 122 "FloppyDeskModel" "lastBit" "I", Cond.methodLink RX6 134 yX6_coded, Cond.instanceMethod yX6_coded, Cond.selects RX6 yX6_coded yX6_coded, Cond.code yX6_coded cX6_coded 6 (some .int), Cond.methodLink RX6 144 yX6_writeMark, Cond.instanceMethod yX6_writeMark, Cond.selects RX6 yX6_writeMark yX6_writeMark, Cond.code yX6_writeMark cX6_writeMark 1 none, Cond.methodLink RX6 28 yX6_step, Cond.static yX6_step, Cond.code yX6_step cX6_step 4 (some .int)]
def wsL_law_r18 : List Cond := [Cond.constant RX6 27 (65535), Cond.methodLink RX6 150 yX6_ask, Cond.instanceMethod yX6_ask, Cond.selects RX6 yX6_ask yX6_ask, Cond.code yX6_ask cX6_ask 1 (some .int), Cond.methodLink RX6 157 yX6_trackByte, Cond.instanceMethod yX6_trackByte, Cond.selects RX6 yX6_trackByte yX6_trackByte, Cond.code yX6_trackByte cX6_trackByte 3 none, Cond.fieldLink RX6 131 "FloppyDeskModel" "second" "I", Cond.fieldLink RX6 128 "FloppyDeskModel" "lastMark" "Z", Cond.methodLink RX6 172 yX6_readCell, Cond.instanceMethod yX6_readCell, Cond.selects RX6 yX6_readCell yX6_readCell, Cond.code yX6_readCell cX6_readCell 3 none, Cond.fieldLink RX6 107 "FloppyDeskModel" "since" "I", Cond.methodLink RX6 110 yX6_comes, Cond.instanceMethod yX6_comes, Cond.selects RX6 yX6_comes yX6_comes, Cond.code yX6_comes cX6_comes 5 none, Cond.fieldLink RX6 35 "FloppyDeskModel" "got" "I", Cond.methodLink RX6 83 yX6_begins, Cond.instanceMethod yX6_begins, Cond.selects RX6 yX6_begins yX6_begins]
def wsL_law_r19 : List Cond := [Cond.code yX6_begins cX6_begins 3 none, Cond.fieldLink RX6 32 "FloppyDeskModel" "began" "I", Cond.methodLink RX6 87 yX6_receive, Cond.instanceMethod yX6_receive, Cond.selects RX6 yX6_receive yX6_receive, Cond.code yX6_receive cX6_receive 2 none, Cond.methodLink RX6 90 yX6_isRight, Cond.instanceMethod yX6_isRight, Cond.selects RX6 yX6_isRight yX6_isRight, Cond.code yX6_isRight cX6_isRight 3 (some .boolean), Cond.methodLink RX6 94 yX6_idOver, Cond.instanceMethod yX6_idOver, Cond.selects RX6 yX6_idOver yX6_idOver, Cond.code yX6_idOver cX6_idOver 3 none, Cond.methodLink RX6 98 yX6_dataOver, Cond.instanceMethod yX6_dataOver, Cond.selects RX6 yX6_dataOver yX6_dataOver, Cond.code yX6_dataOver cX6_dataOver 2 none, Cond.methodLink RX6 175 yX6_index, Cond.instanceMethod yX6_index, Cond.selects RX6 yX6_index yX6_index, Cond.code yX6_index cX6_index 1 none, Cond.methodLink RX6 163 yX6_startWriting, Cond.instanceMethod yX6_startWriting]
def wsL_law_r20 : List Cond := [Cond.selects RX6 yX6_startWriting yX6_startWriting, Cond.code yX6_startWriting cX6_startWriting 2 none, Cond.methodLink RX6 178 yX6_later, Cond.instanceMethod yX6_later, Cond.selects RX6 yX6_later yX6_later, Cond.code yX6_later cX6_later 1 none, Cond.methodLink RX6 166 yX6_stepHead, Cond.instanceMethod yX6_stepHead, Cond.selects RX6 yX6_stepHead yX6_stepHead, Cond.code yX6_stepHead cX6_stepHead 2 none, Cond.methodLink RL 43 yX5_serve, Cond.instanceMethod yX5_serve, Cond.selects RX5 yX5_serve yX5_serve, Cond.code yX5_serve cX5_serve 4 (some .int), Cond.methodLink RX5 72 yX5_serveOneByte, Cond.instanceMethod yX5_serveOneByte, Cond.selects RX5 yX5_serveOneByte yX5_serveOneByte, Cond.code yX5_serveOneByte cX5_serveOneByte 1 none, Cond.methodLink RX5 78 yX3_append, Cond.instanceMethod yX3_append, Cond.selects RX3 yX3_append yX3_append, Cond.code yX3_append cX3_append 2 none, Cond.fieldLink RX3 15 "FloppyDesk$Store" "size" "I", Cond.methodLink RX5 81 yX3_nextByte]
def wsL_law_r21 : List Cond := [Cond.instanceMethod yX3_nextByte, Cond.selects RX3 yX3_nextByte yX3_nextByte, Cond.code yX3_nextByte cX3_nextByte 2 (some .int), Cond.fieldLink RX3 19 "FloppyDesk$Store" "next" "I", Cond.methodLink RX3 22 yX3_byteAt, Cond.instanceMethod yX3_byteAt, Cond.selects RX3 yX3_byteAt yX3_byteAt, Cond.code yX3_byteAt cX3_byteAt 2 (some .int), Cond.methodLink RL 46 yX6_serve, Cond.instanceMethod yX6_serve, Cond.selects RX6 yX6_serve yX6_serve, Cond.code yX6_serve cX6_serve 8 (some .int), Cond.fieldLink RX6 190 "FloppyDeskModel" "buffered" "I", Cond.fieldLink RX6 193 "FloppyDeskModel" "next" "I", Cond.methodLink RX6 187 yX6_take, Cond.methodLink RX6 196 yX6_give, Cond.methodLink RL 47 yX5_clear, Cond.instanceMethod yX5_clear, Cond.selects RX5 yX5_clear yX5_clear, Cond.code yX5_clear cX5_clear 1 none, Cond.methodLink RX5 84 yX3_makeEmpty, Cond.instanceMethod yX3_makeEmpty, Cond.selects RX3 yX3_makeEmpty yX3_makeEmpty, Cond.code yX3_makeEmpty cX3_makeEmpty 1 none]
def wsL_law_r22 : List Cond := [Cond.methodLink RL 50 yX6_clear, Cond.instanceMethod yX6_clear, Cond.selects RX6 yX6_clear yX6_clear, Cond.code yX6_clear cX6_clear 1 none, Cond.methodLink RL 51 yX5_fill, Cond.instanceMethod yX5_fill, Cond.selects RX5 yX5_fill yX5_fill, Cond.code yX5_fill cX5_fill 4 (some .boolean), Cond.methodLink RX5 87 yX3_hasRoomFor, Cond.instanceMethod yX3_hasRoomFor, Cond.selects RX3 yX3_hasRoomFor yX3_hasRoomFor, Cond.code yX3_hasRoomFor cX3_hasRoomFor 2 (some .boolean), Cond.methodLink RL 54 yX6_fill, Cond.instanceMethod yX6_fill, Cond.selects RX6 yX6_fill yX6_fill, Cond.code yX6_fill cX6_fill 4 (some .boolean), Cond.methodLink RL 55 yX5_buffer, Cond.instanceMethod yX5_buffer, Cond.selects RX5 yX5_buffer yX5_buffer, Cond.code yX5_buffer cX5_buffer 2 (some .int), Cond.methodLink RX5 93 yX3_byteAt, Cond.methodLink RL 58 yX6_buffer, Cond.instanceMethod yX6_buffer, Cond.selects RX6 yX6_buffer yX6_buffer]
def wsL_law_r23 : List Cond := [Cond.code yX6_buffer cX6_buffer 2 (some .int), Cond.methodLink RL 59 yX5_protect, Cond.instanceMethod yX5_protect, Cond.selects RX5 yX5_protect yX5_protect, Cond.code yX5_protect cX5_protect 2 none, Cond.methodLink RL 63 yX6_protect, Cond.instanceMethod yX6_protect, Cond.selects RX6 yX6_protect yX6_protect, Cond.code yX6_protect cX6_protect 2 none, Cond.methodLink RL 64 yX5_spoil, Cond.instanceMethod yX5_spoil, Cond.selects RX5 yX5_spoil yX5_spoil, Cond.code yX5_spoil cX5_spoil 3 (some .boolean), Cond.methodLink RX5 101 yX1_turnOver, Cond.methodLink RL 67 yX6_spoil, Cond.instanceMethod yX6_spoil, Cond.selects RX6 yX6_spoil yX6_spoil, Cond.code yX6_spoil cX6_spoil 3 (some .boolean), Cond.methodLink RL 68 yX5_cells, Cond.instanceMethod yX5_cells, Cond.selects RX5 yX5_cells yX5_cells, Cond.code yX5_cells cX5_cells 3 (some .int), Cond.methodLink RX5 105 yX1_wordAt, Cond.methodLink RL 72 yX6_cells]
def wsL_law_r24 : List Cond := [Cond.instanceMethod yX6_cells, Cond.selects RX6 yX6_cells yX6_cells, Cond.code yX6_cells cX6_cells 5 (some .int), Cond.methodLink RL 73 yX5_look, Cond.instanceMethod yX5_look, Cond.selects RX5 yX5_look yX5_look, Cond.code yX5_look cX5_look 2 (some .int), Cond.methodLink RL 76 yX6_look, Cond.instanceMethod yX6_look, Cond.selects RX6 yX6_look yX6_look, Cond.code yX6_look cX6_look 2 (some .int)]
def wsL_law : List Cond := (wsL_law_r1 ++ (wsL_law_r2 ++ (wsL_law_r3 ++ (wsL_law_r4 ++ (wsL_law_r5 ++ (wsL_law_r6 ++ (wsL_law_r7 ++ (wsL_law_r8 ++ (wsL_law_r9 ++ (wsL_law_r10 ++ (wsL_law_r11 ++ (wsL_law_r12 ++ (wsL_law_r13 ++ (wsL_law_r14 ++ (wsL_law_r15 ++ (wsL_law_r16 ++ (wsL_law_r17 ++ (wsL_law_r18 ++ (wsL_law_r19 ++ (wsL_law_r20 ++ (wsL_law_r21 ++ (wsL_law_r22 ++ (wsL_law_r23 ++ wsL_law_r24))))))))))))))))))))))) ++ wsX50 ++ wsX60 ++ wsX10 ++ wsX20 ++ wsX00 ++ wsX30 ++ wsX40 ++ ([] : List Cond)
theorem fk_memP {big ws : List Cond} (ps : List Nat) (hp : ws = ps.filterMap (fun i => big[i]?)) : ∀ w ∈ ws, w ∈ big := by
  intro w hw
  rw [hp] at hw
  obtain ⟨i, -, hi⟩ := List.mem_filterMap.mp hw
  first | exact List.mem_of_getElem? hi | exact List.getElem?_mem hi
set_option maxRecDepth 20000 in
theorem wsL_in_r1 : ∀ w ∈ wsL_law_r1, w ∈ lw_tbl := fk_memP [54, 55, 47, 530, 531, 53, 56, 57, 58, 59, 60, 61, 62, 63, 48, 237, 86, 87, 49, 238, 141, 142, 50, 239] rfl
set_option maxRecDepth 20000 in
theorem wsL_in_r2 : ∀ w ∈ wsL_law_r2, w ∈ lw_tbl := fk_memP [220, 221, 52, 240, 64, 65, 66, 67, 85, 68, 88, 89, 90, 91, 110, 143, 144, 145, 146, 178, 179, 147, 148, 51] rfl
set_option maxRecDepth 20000 in
theorem wsL_in_r3 : ∀ w ∈ wsL_law_r3, w ∈ lw_tbl := fk_memP [180, 189, 150, 151, 152, 222, 223, 224, 225, 226, 532, 533, 534, 535, 633, 536, 547, 548, 553, 567, 250, 251, 252, 253] rfl
set_option maxRecDepth 20000 in
theorem wsL_in_r4 : ∀ w ∈ wsL_law_r4, w ∈ lw_tbl := fk_memP [254, 255, 256, 257, 191, 181, 193, 194, 184, 187, 192, 258, 259, 260, 261, 262, 263, 264, 265, 93, 95, 97, 266, 267] rfl
set_option maxRecDepth 20000 in
theorem wsL_in_r5 : ∀ w ∈ wsL_law_r5, w ∈ lw_tbl := fk_memP [268, 269, 270, 272, 0, 273, 274, 275, 276, 277, 278, 279, 280, 281, 92, 634, 635, 636, 637, 552, 554, 557, 556, 549] rfl
set_option maxRecDepth 20000 in
theorem wsL_in_r6 : ∀ w ∈ wsL_law_r6, w ∈ lw_tbl := fk_memP [551, 555, 537, 638, 640, 22, 641, 642, 644, 23, 645, 541, 542, 544, 646, 648, 24, 649, 650, 652, 25, 653, 540, 654] rfl
set_option maxRecDepth 20000 in
theorem wsL_in_r7 : ∀ w ∈ wsL_law_r7, w ∈ lw_tbl := fk_memP [656, 26, 657, 282, 283, 284, 285, 286, 287, 658, 659, 660, 661, 288, 289, 290, 291, 292, 293, 294, 662, 663, 664, 665] rfl
set_option maxRecDepth 20000 in
theorem wsL_in_r8 : ∀ w ∈ wsL_law_r8, w ∈ lw_tbl := fk_memP [550, 295, 296, 297, 298, 299, 300, 301, 302, 666, 667, 668, 669, 303, 304, 305, 306, 307, 308, 309, 310, 670, 671, 672] rfl
set_option maxRecDepth 20000 in
theorem wsL_in_r9 : ∀ w ∈ wsL_law_r9, w ∈ lw_tbl := fk_memP [673, 311, 312, 313, 314, 315, 316, 317, 318, 319, 321, 1, 322, 323, 325, 2, 326, 327, 328, 329, 330, 161, 157, 331] rfl
set_option maxRecDepth 20000 in
theorem wsL_in_r10 : ∀ w ∈ wsL_law_r10, w ∈ lw_tbl := fk_memP [333, 3, 334, 156, 160, 335, 337, 4, 338, 153, 154, 158, 339, 341, 5, 342, 343, 344, 345, 346, 347, 349, 350, 351] rfl
set_option maxRecDepth 20000 in
theorem wsL_in_r11 : ∀ w ∈ wsL_law_r11, w ∈ lw_tbl := fk_memP [352, 353, 354, 355, 356, 357, 359, 6, 360, 361, 362, 363, 364, 365, 366, 367, 368, 71, 74, 369, 370, 371, 372, 373] rfl
set_option maxRecDepth 20000 in
theorem wsL_in_r12 : ∀ w ∈ wsL_law_r12, w ∈ lw_tbl := fk_memP [374, 375, 376, 377, 378, 379, 380, 381, 382, 384, 7, 385, 386, 387, 388, 389, 390, 391, 96, 103, 392, 394, 8, 395] rfl
set_option maxRecDepth 20000 in
theorem wsL_in_r13 : ∀ w ∈ wsL_law_r13, w ∈ lw_tbl := fk_memP [396, 398, 9, 399, 102, 98, 100, 101, 401, 403, 10, 404, 109, 405, 407, 11, 408, 105, 107, 409, 410, 411, 412, 413] rfl
set_option maxRecDepth 20000 in
theorem wsL_in_r14 : ∀ w ∈ wsL_law_r14, w ∈ lw_tbl := fk_memP [415, 12, 416, 417, 418, 419, 420, 421, 423, 13, 424, 425, 426, 427, 428, 429, 430, 432, 14, 433, 434, 436, 15, 437] rfl
set_option maxRecDepth 20000 in
theorem wsL_in_r15 : ∀ w ∈ wsL_law_r15, w ∈ lw_tbl := fk_memP [186, 438, 439, 441, 16, 442, 443, 444, 445, 446, 447, 449, 17, 450, 451, 453, 18, 454, 455, 456, 457, 458, 459, 461] rfl
set_option maxRecDepth 20000 in
theorem wsL_in_r16 : ∀ w ∈ wsL_law_r16, w ∈ lw_tbl := fk_memP [19, 462, 463, 465, 20, 466, 467, 468, 469, 470, 674, 675, 676, 677, 678, 680, 27, 681, 539, 682, 684, 28, 685, 559] rfl
set_option maxRecDepth 20000 in
theorem wsL_in_r17 : ∀ w ∈ wsL_law_r17, w ∈ lw_tbl := fk_memP [538, 558, 560, 686, 688, 29, 689, 562, 690, 692, 30, 693, 561, 694, 696, 31, 697, 698, 700, 32, 701, 702, 703, 704] rfl
set_option maxRecDepth 20000 in
theorem wsL_in_r18 : ∀ w ∈ wsL_law_r18, w ∈ lw_tbl := fk_memP [705, 706, 708, 33, 709, 710, 712, 34, 713, 564, 563, 714, 716, 35, 717, 543, 718, 720, 36, 721, 546, 722, 724, 37] rfl
set_option maxRecDepth 20000 in
theorem wsL_in_r19 : ∀ w ∈ wsL_law_r19, w ∈ lw_tbl := fk_memP [725, 545, 726, 728, 38, 729, 730, 732, 39, 733, 734, 736, 40, 737, 738, 740, 41, 741, 742, 744, 42, 745, 746, 748] rfl
set_option maxRecDepth 20000 in
theorem wsL_in_r20 : ∀ w ∈ wsL_law_r20, w ∈ lw_tbl := fk_memP [43, 749, 750, 752, 44, 753, 754, 756, 45, 757, 471, 472, 473, 474, 475, 477, 21, 478, 479, 480, 481, 482, 227, 483] rfl
set_option maxRecDepth 20000 in
theorem wsL_in_r21 : ∀ w ∈ wsL_law_r21, w ∈ lw_tbl := fk_memP [484, 485, 486, 229, 487, 488, 489, 490, 758, 759, 760, 761, 565, 566, 762, 763, 491, 492, 493, 494, 495, 496, 497, 498] rfl
set_option maxRecDepth 20000 in
theorem wsL_in_r22 : ∀ w ∈ wsL_law_r22, w ∈ lw_tbl := fk_memP [764, 765, 766, 767, 499, 500, 501, 502, 503, 504, 505, 506, 768, 769, 770, 771, 507, 508, 509, 510, 511, 772, 773, 774] rfl
set_option maxRecDepth 20000 in
theorem wsL_in_r23 : ∀ w ∈ wsL_law_r23, w ∈ lw_tbl := fk_memP [775, 512, 513, 514, 515, 776, 777, 778, 779, 516, 517, 518, 519, 520, 780, 781, 782, 783, 521, 522, 523, 524, 525, 784] rfl
set_option maxRecDepth 20000 in
theorem wsL_in_r24 : ∀ w ∈ wsL_law_r24, w ∈ lw_tbl := fk_memP [785, 786, 787, 526, 527, 528, 529, 788, 789, 790, 791] rfl
set_option maxRecDepth 20000 in
theorem wsL_in_wsX50 : ∀ w ∈ wsX50, w ∈ lw_tbl := fk_memP [241, 243, 245, 247] rfl
set_option maxRecDepth 20000 in
theorem wsL_in_wsX60 : ∀ w ∈ wsX60, w ∈ lw_tbl := fk_memP [568, 570, 572, 574, 576, 578, 580, 582, 584, 586, 588, 590, 592, 594, 596, 598, 600, 602, 604, 606, 608, 610, 612, 614, 616, 618, 620, 622, 624, 626, 628, 630] rfl
set_option maxRecDepth 20000 in
theorem wsL_in_wsX10 : ∀ w ∈ wsX10, w ∈ lw_tbl := fk_memP [76, 78, 80, 82] rfl
set_option maxRecDepth 20000 in
theorem wsL_in_wsX20 : ∀ w ∈ wsX20, w ∈ lw_tbl := fk_memP [112, 114, 116, 118, 120, 122, 124, 126, 128, 130, 132, 134, 136, 138] rfl
set_option maxRecDepth 20000 in
theorem wsL_in_wsX00 : ∀ w ∈ wsX00, w ∈ lw_tbl := fk_memP [195, 197, 199, 201, 203, 205, 207, 209, 211, 213, 215, 217] rfl
set_option maxRecDepth 20000 in
theorem wsL_in_wsX30 : ∀ w ∈ wsX30, w ∈ lw_tbl := fk_memP [230, 232, 234] rfl
set_option maxRecDepth 20000 in
theorem wsL_in_wsX40 : ∀ w ∈ wsX40, w ∈ lw_tbl := fk_memP [163, 165, 167, 169, 171, 173, 175] rfl
theorem wsL_in_rs : ∀ w ∈ (wsL_law_r1 ++ (wsL_law_r2 ++ (wsL_law_r3 ++ (wsL_law_r4 ++ (wsL_law_r5 ++ (wsL_law_r6 ++ (wsL_law_r7 ++ (wsL_law_r8 ++ (wsL_law_r9 ++ (wsL_law_r10 ++ (wsL_law_r11 ++ (wsL_law_r12 ++ (wsL_law_r13 ++ (wsL_law_r14 ++ (wsL_law_r15 ++ (wsL_law_r16 ++ (wsL_law_r17 ++ (wsL_law_r18 ++ (wsL_law_r19 ++ (wsL_law_r20 ++ (wsL_law_r21 ++ (wsL_law_r22 ++ (wsL_law_r23 ++ wsL_law_r24))))))))))))))))))))))), w ∈ lw_tbl := fun w h => (List.mem_append.mp h).elim (wsL_in_r1 w) (fun h => (List.mem_append.mp h).elim (wsL_in_r2 w) (fun h => (List.mem_append.mp h).elim (wsL_in_r3 w) (fun h => (List.mem_append.mp h).elim (wsL_in_r4 w) (fun h => (List.mem_append.mp h).elim (wsL_in_r5 w) (fun h => (List.mem_append.mp h).elim (wsL_in_r6 w) (fun h => (List.mem_append.mp h).elim (wsL_in_r7 w) (fun h => (List.mem_append.mp h).elim (wsL_in_r8 w) (fun h => (List.mem_append.mp h).elim (wsL_in_r9 w) (fun h => (List.mem_append.mp h).elim (wsL_in_r10 w) (fun h => (List.mem_append.mp h).elim (wsL_in_r11 w) (fun h => (List.mem_append.mp h).elim (wsL_in_r12 w) (fun h => (List.mem_append.mp h).elim (wsL_in_r13 w) (fun h => (List.mem_append.mp h).elim (wsL_in_r14 w) (fun h => (List.mem_append.mp h).elim (wsL_in_r15 w) (fun h => (List.mem_append.mp h).elim (wsL_in_r16 w) (fun h => (List.mem_append.mp h).elim (wsL_in_r17 w) (fun h => (List.mem_append.mp h).elim (wsL_in_r18 w) (fun h => (List.mem_append.mp h).elim (wsL_in_r19 w) (fun h => (List.mem_append.mp h).elim (wsL_in_r20 w) (fun h => (List.mem_append.mp h).elim (wsL_in_r21 w) (fun h => (List.mem_append.mp h).elim (wsL_in_r22 w) (fun h => (List.mem_append.mp h).elim (wsL_in_r23 w) (fun h => wsL_in_r24 w h)))))))))))))))))))))))
theorem fk_memA {big a b : List Cond} (ha : ∀ w ∈ a, w ∈ big) (hb : ∀ w ∈ b, w ∈ big) : ∀ w ∈ a ++ b, w ∈ big := fun w h => (List.mem_append.mp h).elim (ha w) (hb w)
theorem wsL_law_in : ∀ w ∈ wsL_law, w ∈ lw_tbl := fk_memA (fk_memA (fk_memA (fk_memA (fk_memA (fk_memA (fk_memA (fk_memA wsL_in_rs wsL_in_wsX50) wsL_in_wsX60) wsL_in_wsX10) wsL_in_wsX20) wsL_in_wsX00) wsL_in_wsX30) wsL_in_wsX40) (fun w h => absurd h (List.not_mem_nil))
theorem inlX0 : ∀ w ∈ wsX00, w ∈ wsL_law := fun _ h => List.mem_append_left _ (List.mem_append_left _ (List.mem_append_left _ (List.mem_append_right _ h)))
theorem inX0 : ∀ w ∈ wsX00, w ∈ lw_tbl := fun w h => wsL_law_in w (inlX0 w h)
theorem inlX1 : ∀ w ∈ wsX10, w ∈ wsL_law := fun _ h => List.mem_append_left _ (List.mem_append_left _ (List.mem_append_left _ (List.mem_append_left _ (List.mem_append_left _ (List.mem_append_right _ h)))))
theorem inX1 : ∀ w ∈ wsX10, w ∈ lw_tbl := fun w h => wsL_law_in w (inlX1 w h)
theorem inlX2 : ∀ w ∈ wsX20, w ∈ wsL_law := fun _ h => List.mem_append_left _ (List.mem_append_left _ (List.mem_append_left _ (List.mem_append_left _ (List.mem_append_right _ h))))
theorem inX2 : ∀ w ∈ wsX20, w ∈ lw_tbl := fun w h => wsL_law_in w (inlX2 w h)
theorem inlX3 : ∀ w ∈ wsX30, w ∈ wsL_law := fun _ h => List.mem_append_left _ (List.mem_append_left _ (List.mem_append_right _ h))
theorem inX3 : ∀ w ∈ wsX30, w ∈ lw_tbl := fun w h => wsL_law_in w (inlX3 w h)
theorem inlX4 : ∀ w ∈ wsX40, w ∈ wsL_law := fun _ h => List.mem_append_left _ (List.mem_append_right _ h)
theorem inX4 : ∀ w ∈ wsX40, w ∈ lw_tbl := fun w h => wsL_law_in w (inlX4 w h)
theorem inlX5 : ∀ w ∈ wsX50, w ∈ wsL_law := fun _ h => List.mem_append_left _ (List.mem_append_left _ (List.mem_append_left _ (List.mem_append_left _ (List.mem_append_left _ (List.mem_append_left _ (List.mem_append_left _ (List.mem_append_right _ h)))))))
theorem inX5 : ∀ w ∈ wsX50, w ∈ lw_tbl := fun w h => wsL_law_in w (inlX5 w h)
theorem inlX6 : ∀ w ∈ wsX60, w ∈ wsL_law := fun _ h => List.mem_append_left _ (List.mem_append_left _ (List.mem_append_left _ (List.mem_append_left _ (List.mem_append_left _ (List.mem_append_left _ (List.mem_append_right _ h))))))
theorem inX6 : ∀ w ∈ wsX60, w ∈ lw_tbl := fun w h => wsL_law_in w (inlX6 w h)
set_option maxRecDepth 20000 in
theorem ggL_law_X5_init : GoodIn wsL_law wsX5_init := goodIn_r _ [8, 9, 10, 11, 12, 13, 14, 15, 16, 17, 18, 19, 20, 21, 22, 23, 24, 25, 26, 27, 28, 29, 30, 31, 32, 33, 34, 35, 36, 37, 38, 39, 40, 41, 42, 43, 44, 45, 46, 47, 48, 49, 50, 51, 52, 53, 54, 55, 56, 57, 599, 600, 601, 602, 563, 564, 565, 566, 603, 604, 605, 606, 607, 608, 609, 610, 611, 612, 613, 614, 615, 616, 617, 618, 619, 620, 621, 622, 623, 624, 625, 626, 627, 628, 629, 630, 631, 632, 633, 634, 635, 636, 637, 638] rfl (by decide +kernel)
set_option maxRecDepth 20000 in
theorem gL_law_X5_init : GoodIn wsL_law (wsX5_init) := ggL_law_X5_init
set_option maxRecDepth 20000 in
theorem ggL_law_X6_init : GoodIn wsL_law wsX6_init := goodIn_r _ [60, 61, 10, 11, 62, 63, 32, 64, 65, 66, 67, 567, 568, 569, 570, 571, 572, 573, 574, 575, 576, 577, 578, 579, 580, 581, 582, 583, 584, 585, 586, 587, 588, 589, 590, 591, 592, 593, 594, 595, 596, 597, 598] rfl (by decide +kernel)
set_option maxRecDepth 20000 in
theorem gL_law_X6_init : GoodIn wsL_law (wsX6_init) := ggL_law_X6_init
set_option maxRecDepth 20000 in
theorem ggL_law_X5_command : GoodIn wsL_law wsX5_command := goodIn_r _ [71, 23, 72, 73, 74, 22, 75, 49, 76, 77, 78, 79, 44, 80, 81, 43, 82, 83, 84, 85, 86, 87, 88, 89, 18, 90, 91, 92, 93, 94, 95, 96, 97, 38, 98, 99, 100, 101, 102, 103, 104, 105, 106, 107, 108, 109, 110, 563, 564, 565, 566, 617, 618, 619, 620, 621, 622, 623, 624, 625, 626, 627, 628, 599, 600, 601, 602, 603, 604, 605, 606, 607, 608, 609, 610, 611, 612, 613, 614, 615, 616] rfl (by decide +kernel)
set_option maxRecDepth 20000 in
theorem gL_law_X5_command : GoodIn wsL_law (wsV RL 13 RX5 yX5_command wsX5_command) := goodIn_app (goodIn_of _ (by decide +kernel)) ggL_law_X5_command
set_option maxRecDepth 20000 in
theorem ggL_law_X6_command : GoodIn wsL_law wsX6_command := goodIn_r _ [114, 66, 115, 116, 65, 117, 118, 119, 120, 121, 122, 123, 124, 125, 5, 126, 127, 128, 129, 130, 131, 132, 133, 134, 135, 136, 137, 138, 139, 140, 141, 142, 143, 144, 145, 146, 567, 568, 569, 570, 571, 572, 573, 574, 575, 576, 577, 578, 579, 580, 581, 582, 583, 584, 585, 586, 587, 588, 589, 590, 591, 592, 593, 594, 595, 596, 597, 598] rfl (by decide +kernel)
set_option maxRecDepth 20000 in
theorem gL_law_X6_command : GoodIn wsL_law (wsV RL 17 RX6 yX6_command wsX6_command) := goodIn_app (goodIn_of _ (by decide +kernel)) ggL_law_X6_command
set_option maxRecDepth 20000 in
theorem ggL_law_X5_force : GoodIn wsL_law wsX5_force := goodIn_r _ [150, 23, 151, 84, 85, 22, 86, 77, 152, 103, 104, 105, 82, 44, 106, 107, 108, 18, 109, 110, 563, 564, 565, 566, 617, 618, 619, 620, 621, 622, 623, 624, 625, 626, 627, 628, 603, 604, 605, 606, 607, 608, 609, 610, 611, 612, 613, 614, 615, 616] rfl (by decide +kernel)
set_option maxRecDepth 20000 in
theorem gL_law_X5_force : GoodIn wsL_law (wsV RL 18 RX5 yX5_force wsX5_force) := goodIn_app (goodIn_of _ (by decide +kernel)) ggL_law_X5_force
set_option maxRecDepth 20000 in
theorem ggL_law_X6_force : GoodIn wsL_law wsX6_force := goodIn_r _ [156, 123, 124, 125, 5, 126, 115, 138, 139, 140, 141, 121, 142, 143, 144, 145, 146, 567, 568, 569, 570, 571, 572, 573, 574, 575, 576, 577, 578, 579, 580, 581, 582, 583, 584, 585, 586, 587, 588, 589, 590, 591, 592, 593, 594, 595, 596, 597, 598] rfl (by decide +kernel)
set_option maxRecDepth 20000 in
theorem gL_law_X6_force : GoodIn wsL_law (wsV RL 22 RX6 yX6_force wsX6_force) := goodIn_app (goodIn_of _ (by decide +kernel)) ggL_law_X6_force
set_option maxRecDepth 20000 in
theorem ggL_law_X5_set : GoodIn wsL_law wsX5_set := goodIn_r _ [160, 23, 161, 162, 2, 163, 151, 84, 85, 22, 86, 77, 563, 564, 565, 566, 617, 618, 619, 620, 621, 622, 623, 624, 625, 626, 627, 628] rfl (by decide +kernel)
set_option maxRecDepth 20000 in
theorem gL_law_X5_set : GoodIn wsL_law (wsV RL 23 RX5 yX5_set wsX5_set) := goodIn_app (goodIn_of _ (by decide +kernel)) ggL_law_X5_set
set_option maxRecDepth 20000 in
theorem ggL_law_X6_set : GoodIn wsL_law wsX6_set := goodIn_r _ [167, 119, 168, 123, 124, 125, 5, 126, 115, 567, 568, 569, 570, 571, 572, 573, 574, 575, 576, 577, 578, 579, 580, 581, 582, 583, 584, 585, 586, 587, 588, 589, 590, 591, 592, 593, 594, 595, 596, 597, 598] rfl (by decide +kernel)
set_option maxRecDepth 20000 in
theorem gL_law_X6_set : GoodIn wsL_law (wsV RL 27 RX6 yX6_set wsX6_set) := goodIn_app (goodIn_of _ (by decide +kernel)) ggL_law_X6_set
set_option maxRecDepth 20000 in
theorem ggL_law_X5_give : GoodIn wsL_law wsX5_give := goodIn_r _ [172, 23, 161, 162, 2, 163, 173, 174, 175, 22, 176, 81, 77, 563, 564, 565, 566, 617, 618, 619, 620, 621, 622, 623, 624, 625, 626, 627, 628] rfl (by decide +kernel)
set_option maxRecDepth 20000 in
theorem gL_law_X5_give : GoodIn wsL_law (wsV RL 28 RX5 yX5_give wsX5_give) := goodIn_app (goodIn_of _ (by decide +kernel)) ggL_law_X5_give
set_option maxRecDepth 20000 in
theorem ggL_law_X6_give : GoodIn wsL_law wsX6_give := goodIn_r _ [180, 120, 143, 144, 145, 5, 146, 115, 567, 568, 569, 570, 571, 572, 573, 574, 575, 576, 577, 578, 579, 580, 581, 582, 583, 584, 585, 586, 587, 588, 589, 590, 591, 592, 593, 594, 595, 596, 597, 598] rfl (by decide +kernel)
set_option maxRecDepth 20000 in
theorem gL_law_X6_give : GoodIn wsL_law (wsV RL 32 RX6 yX6_give wsX6_give) := goodIn_app (goodIn_of _ (by decide +kernel)) ggL_law_X6_give
set_option maxRecDepth 20000 in
theorem ggL_law_X5_take : GoodIn wsL_law wsX5_take := goodIn_r _ [184, 23, 185, 186, 187, 22, 188, 77, 81, 563, 564, 565, 566, 617, 618, 619, 620, 621, 622, 623, 624, 625, 626, 627, 628] rfl (by decide +kernel)
set_option maxRecDepth 20000 in
theorem gL_law_X5_take : GoodIn wsL_law (wsV RL 33 RX5 yX5_take wsX5_take) := goodIn_app (goodIn_of _ (by decide +kernel)) ggL_law_X5_take
set_option maxRecDepth 20000 in
theorem ggL_law_X6_take : GoodIn wsL_law wsX6_take := goodIn_r _ [192, 120, 143, 144, 145, 5, 146, 115, 567, 568, 569, 570, 571, 572, 573, 574, 575, 576, 577, 578, 579, 580, 581, 582, 583, 584, 585, 586, 587, 588, 589, 590, 591, 592, 593, 594, 595, 596, 597, 598] rfl (by decide +kernel)
set_option maxRecDepth 20000 in
theorem gL_law_X6_take : GoodIn wsL_law (wsV RL 37 RX6 yX6_take wsX6_take) := goodIn_app (goodIn_of _ (by decide +kernel)) ggL_law_X6_take
set_option maxRecDepth 20000 in
theorem ggL_law_X5_run : GoodIn wsL_law wsX5_run := goodIn_r _ [196, 23, 197, 198, 199, 22, 200, 82, 43, 201, 202, 203, 204, 48, 49, 44, 205, 206, 207, 208, 77, 209, 210, 211, 47, 212, 213, 214, 215, 216, 217, 218, 219, 220, 221, 222, 223, 224, 225, 226, 227, 228, 229, 230, 231, 81, 83, 84, 85, 86, 232, 233, 234, 235, 236, 237, 2, 238, 239, 240, 241, 242, 243, 244, 245, 246, 247, 248, 76, 249, 250, 251, 252, 253, 254, 255, 14, 256, 257, 258, 259, 260, 261, 262, 263, 264, 265, 266, 33, 267, 268, 269, 270, 271, 102, 103, 104, 105, 106, 107, 108, 18, 109, 110, 272, 273, 274, 275, 276, 277, 278, 279, 280, 281, 91, 93, 92, 282, 283, 284, 285, 286, 287, 288, 289, 290, 291, 292, 293, 294, 295, 296, 297, 298, 299, 38, 300, 301, 302, 303, 304, 305, 306, 307, 308, 309, 310, 311, 312, 313, 314, 315, 316, 317, 318, 319, 320, 321, 322, 323, 324, 325, 326, 327, 328, 329, 330, 331, 332, 333, 334, 335, 336, 337, 338, 339, 340, 341, 80, 78, 342, 343, 344, 345, 346, 347, 348, 349, 79, 350, 351, 352, 353, 98, 99, 100, 101, 87, 88, 89, 90, 354, 355, 356, 357, 358, 359, 360, 361, 362, 363, 364, 365, 366, 367, 368, 369, 563, 564, 565, 566, 617, 618, 619, 620, 621, 622, 623, 624, 625, 626, 627, 628, 632, 633, 634, 635, 636, 637, 638, 603, 604, 605, 606, 607, 608, 609, 610, 611, 612, 613, 614, 615, 616, 599, 600, 601, 602] rfl (by decide +kernel)
set_option maxRecDepth 20000 in
theorem gL_law_X5_run : GoodIn wsL_law (wsV RL 38 RX5 yX5_run wsX5_run) := goodIn_app (goodIn_of _ (by decide +kernel)) ggL_law_X5_run
set_option maxRecDepth 20000 in
theorem ggL_law_X6_run : GoodIn wsL_law wsX6_run := goodIn_r _ [373, 374, 375, 376, 5, 377, 121, 378, 379, 380, 381, 382, 383, 63, 384, 385, 386, 65, 387, 388, 389, 390, 391, 116, 392, 393, 394, 395, 396, 397, 398, 399, 400, 401, 402, 403, 404, 405, 406, 407, 408, 409, 410, 411, 412, 120, 123, 124, 125, 126, 115, 134, 135, 136, 137, 413, 414, 415, 416, 417, 418, 138, 139, 140, 141, 142, 143, 144, 145, 146, 419, 420, 421, 422, 423, 131, 133, 132, 424, 425, 426, 427, 64, 428, 66, 429, 430, 431, 432, 433, 434, 435, 436, 437, 438, 439, 440, 441, 442, 443, 444, 445, 168, 119, 118, 446, 447, 448, 449, 450, 451, 452, 453, 117, 454, 455, 456, 457, 127, 128, 129, 130, 458, 459, 460, 461, 462, 463, 464, 465, 567, 568, 569, 570, 571, 572, 573, 574, 575, 576, 577, 578, 579, 580, 581, 582, 583, 584, 585, 586, 587, 588, 589, 590, 591, 592, 593, 594, 595, 596, 597, 598] rfl (by decide +kernel)
set_option maxRecDepth 20000 in
theorem gL_law_X6_run : GoodIn wsL_law (wsV RL 42 RX6 yX6_run wsX6_run) := goodIn_app (goodIn_of _ (by decide +kernel)) ggL_law_X6_run
set_option maxRecDepth 20000 in
theorem ggL_law_X5_serve : GoodIn wsL_law wsX5_serve := goodIn_r _ [469, 23, 197, 198, 199, 22, 200, 82, 43, 201, 202, 203, 204, 48, 49, 44, 205, 206, 207, 208, 77, 209, 210, 211, 47, 212, 213, 214, 215, 216, 217, 218, 219, 220, 221, 222, 223, 224, 225, 226, 227, 228, 229, 230, 231, 81, 83, 84, 85, 86, 232, 233, 234, 235, 236, 237, 2, 238, 239, 240, 241, 242, 243, 244, 245, 246, 247, 248, 76, 249, 250, 251, 252, 253, 254, 255, 14, 256, 257, 258, 259, 260, 261, 262, 263, 264, 265, 266, 33, 267, 268, 269, 270, 271, 102, 103, 104, 105, 106, 107, 108, 18, 109, 110, 272, 273, 274, 275, 276, 277, 278, 279, 280, 281, 91, 93, 92, 282, 283, 284, 285, 286, 287, 288, 289, 290, 291, 292, 293, 294, 295, 296, 297, 298, 299, 38, 300, 301, 302, 303, 304, 305, 306, 307, 308, 309, 310, 311, 312, 313, 314, 315, 316, 317, 318, 319, 320, 321, 322, 323, 324, 325, 326, 327, 328, 329, 330, 331, 332, 333, 334, 335, 336, 337, 338, 339, 340, 341, 80, 78, 342, 343, 344, 345, 346, 347, 348, 349, 79, 350, 351, 352, 353, 98, 99, 100, 101, 87, 88, 89, 90, 354, 355, 356, 357, 358, 359, 360, 361, 362, 363, 364, 365, 366, 367, 368, 369, 151, 470, 471, 472, 473, 27, 185, 186, 187, 188, 474, 475, 476, 26, 477, 478, 57, 479, 480, 481, 482, 483, 484, 485, 486, 487, 173, 174, 175, 176, 563, 564, 565, 566, 617, 618, 619, 620, 621, 622, 623, 624, 625, 626, 627, 628, 632, 633, 634, 635, 636, 637, 638, 603, 604, 605, 606, 607, 608, 609, 610, 611, 612, 613, 614, 615, 616, 599, 600, 601, 602, 629, 630, 631] rfl (by decide +kernel)
set_option maxRecDepth 20000 in
theorem gL_law_X5_serve : GoodIn wsL_law (wsV RL 43 RX5 yX5_serve wsX5_serve) := goodIn_app (goodIn_of _ (by decide +kernel)) ggL_law_X5_serve
set_option maxRecDepth 20000 in
theorem ggL_law_X6_serve : GoodIn wsL_law wsX6_serve := goodIn_r _ [491, 66, 492, 67, 493, 374, 375, 376, 5, 377, 121, 378, 379, 380, 381, 382, 383, 63, 384, 385, 386, 65, 387, 388, 389, 390, 391, 116, 392, 393, 394, 395, 396, 397, 398, 399, 400, 401, 402, 403, 404, 405, 406, 407, 408, 409, 410, 411, 412, 120, 123, 124, 125, 126, 115, 134, 135, 136, 137, 413, 414, 415, 416, 417, 418, 138, 139, 140, 141, 142, 143, 144, 145, 146, 419, 420, 421, 422, 423, 131, 133, 132, 424, 425, 426, 427, 64, 428, 429, 430, 431, 432, 433, 434, 435, 436, 437, 438, 439, 440, 441, 442, 443, 444, 445, 168, 119, 118, 446, 447, 448, 449, 450, 451, 452, 453, 117, 454, 455, 456, 457, 127, 128, 129, 130, 458, 459, 460, 461, 462, 463, 464, 465, 494, 190, 191, 192, 495, 178, 179, 180, 567, 568, 569, 570, 571, 572, 573, 574, 575, 576, 577, 578, 579, 580, 581, 582, 583, 584, 585, 586, 587, 588, 589, 590, 591, 592, 593, 594, 595, 596, 597, 598] rfl (by decide +kernel)
set_option maxRecDepth 20000 in
theorem gL_law_X6_serve : GoodIn wsL_law (wsV RL 46 RX6 yX6_serve wsX6_serve) := goodIn_app (goodIn_of _ (by decide +kernel)) ggL_law_X6_serve
set_option maxRecDepth 20000 in
theorem ggL_law_X5_clear : GoodIn wsL_law wsX5_clear := goodIn_r _ [499, 27, 500, 501, 502, 26, 503, 478, 483, 563, 564, 565, 566, 629, 630, 631] rfl (by decide +kernel)
set_option maxRecDepth 20000 in
theorem gL_law_X5_clear : GoodIn wsL_law (wsV RL 47 RX5 yX5_clear wsX5_clear) := goodIn_app (goodIn_of _ (by decide +kernel)) ggL_law_X5_clear
set_option maxRecDepth 20000 in
theorem ggL_law_X6_clear : GoodIn wsL_law wsX6_clear := goodIn_r _ [507, 492, 493, 567, 568, 569, 570, 571, 572, 573, 574, 575, 576, 577, 578, 579, 580, 581, 582, 583, 584, 585, 586, 587, 588, 589, 590, 591, 592, 593, 594, 595, 596, 597, 598] rfl (by decide +kernel)
set_option maxRecDepth 20000 in
theorem gL_law_X6_clear : GoodIn wsL_law (wsV RL 50 RX6 yX6_clear wsX6_clear) := goodIn_app (goodIn_of _ (by decide +kernel)) ggL_law_X6_clear
set_option maxRecDepth 20000 in
theorem ggL_law_X5_fill : GoodIn wsL_law wsX5_fill := goodIn_r _ [511, 27, 161, 162, 2, 163, 512, 513, 514, 26, 515, 478, 474, 475, 476, 477, 57, 563, 564, 565, 566, 629, 630, 631] rfl (by decide +kernel)
set_option maxRecDepth 20000 in
theorem gL_law_X5_fill : GoodIn wsL_law (wsV RL 51 RX5 yX5_fill wsX5_fill) := goodIn_app (goodIn_of _ (by decide +kernel)) ggL_law_X5_fill
set_option maxRecDepth 20000 in
theorem ggL_law_X6_fill : GoodIn wsL_law wsX6_fill := goodIn_r _ [519, 492, 67, 567, 568, 569, 570, 571, 572, 573, 574, 575, 576, 577, 578, 579, 580, 581, 582, 583, 584, 585, 586, 587, 588, 589, 590, 591, 592, 593, 594, 595, 596, 597, 598] rfl (by decide +kernel)
set_option maxRecDepth 20000 in
theorem gL_law_X6_fill : GoodIn wsL_law (wsV RL 54 RX6 yX6_fill wsX6_fill) := goodIn_app (goodIn_of _ (by decide +kernel)) ggL_law_X6_fill
set_option maxRecDepth 20000 in
theorem ggL_law_X5_buffer : GoodIn wsL_law wsX5_buffer := goodIn_r _ [523, 27, 524, 485, 486, 26, 487, 478, 57, 563, 564, 565, 566, 629, 630, 631] rfl (by decide +kernel)
set_option maxRecDepth 20000 in
theorem gL_law_X5_buffer : GoodIn wsL_law (wsV RL 55 RX5 yX5_buffer wsX5_buffer) := goodIn_app (goodIn_of _ (by decide +kernel)) ggL_law_X5_buffer
set_option maxRecDepth 20000 in
theorem ggL_law_X6_buffer : GoodIn wsL_law wsX6_buffer := goodIn_r _ [528, 492, 67, 567, 568, 569, 570, 571, 572, 573, 574, 575, 576, 577, 578, 579, 580, 581, 582, 583, 584, 585, 586, 587, 588, 589, 590, 591, 592, 593, 594, 595, 596, 597, 598] rfl (by decide +kernel)
set_option maxRecDepth 20000 in
theorem gL_law_X6_buffer : GoodIn wsL_law (wsV RL 58 RX6 yX6_buffer wsX6_buffer) := goodIn_app (goodIn_of _ (by decide +kernel)) ggL_law_X6_buffer
set_option maxRecDepth 20000 in
theorem ggL_law_X5_protect : GoodIn wsL_law wsX5_protect := goodIn_r _ [532, 15, 563, 564, 565, 566, 599, 600, 601, 602] rfl (by decide +kernel)
set_option maxRecDepth 20000 in
theorem gL_law_X5_protect : GoodIn wsL_law (wsV RL 59 RX5 yX5_protect wsX5_protect) := goodIn_app (goodIn_of _ (by decide +kernel)) ggL_law_X5_protect
set_option maxRecDepth 20000 in
theorem ggL_law_X6_protect : GoodIn wsL_law wsX6_protect := goodIn_r _ [536, 122, 567, 568, 569, 570, 571, 572, 573, 574, 575, 576, 577, 578, 579, 580, 581, 582, 583, 584, 585, 586, 587, 588, 589, 590, 591, 592, 593, 594, 595, 596, 597, 598] rfl (by decide +kernel)
set_option maxRecDepth 20000 in
theorem gL_law_X6_protect : GoodIn wsL_law (wsV RL 63 RX6 yX6_protect wsX6_protect) := goodIn_app (goodIn_of _ (by decide +kernel)) ggL_law_X6_protect
set_option maxRecDepth 20000 in
theorem ggL_law_X5_spoil : GoodIn wsL_law wsX5_spoil := goodIn_r _ [540, 15, 541, 268, 269, 14, 270, 33, 271, 563, 564, 565, 566, 599, 600, 601, 602] rfl (by decide +kernel)
set_option maxRecDepth 20000 in
theorem gL_law_X5_spoil : GoodIn wsL_law (wsV RL 64 RX5 yX5_spoil wsX5_spoil) := goodIn_app (goodIn_of _ (by decide +kernel)) ggL_law_X5_spoil
set_option maxRecDepth 20000 in
theorem ggL_law_X6_spoil : GoodIn wsL_law wsX6_spoil := goodIn_r _ [545, 63, 567, 568, 569, 570, 571, 572, 573, 574, 575, 576, 577, 578, 579, 580, 581, 582, 583, 584, 585, 586, 587, 588, 589, 590, 591, 592, 593, 594, 595, 596, 597, 598] rfl (by decide +kernel)
set_option maxRecDepth 20000 in
theorem gL_law_X6_spoil : GoodIn wsL_law (wsV RL 67 RX6 yX6_spoil wsX6_spoil) := goodIn_app (goodIn_of _ (by decide +kernel)) ggL_law_X6_spoil
set_option maxRecDepth 20000 in
theorem ggL_law_X5_cells : GoodIn wsL_law wsX5_cells := goodIn_r _ [549, 15, 550, 264, 265, 14, 266, 33, 563, 564, 565, 566, 599, 600, 601, 602] rfl (by decide +kernel)
set_option maxRecDepth 20000 in
theorem gL_law_X5_cells : GoodIn wsL_law (wsV RL 68 RX5 yX5_cells wsX5_cells) := goodIn_app (goodIn_of _ (by decide +kernel)) ggL_law_X5_cells
set_option maxRecDepth 20000 in
theorem ggL_law_X6_cells : GoodIn wsL_law wsX6_cells := goodIn_r _ [554, 63, 567, 568, 569, 570, 571, 572, 573, 574, 575, 576, 577, 578, 579, 580, 581, 582, 583, 584, 585, 586, 587, 588, 589, 590, 591, 592, 593, 594, 595, 596, 597, 598] rfl (by decide +kernel)
set_option maxRecDepth 20000 in
theorem gL_law_X6_cells : GoodIn wsL_law (wsV RL 72 RX6 yX6_cells wsX6_cells) := goodIn_app (goodIn_of _ (by decide +kernel)) ggL_law_X6_cells
set_option maxRecDepth 20000 in
theorem ggL_law_X5_look : GoodIn wsL_law wsX5_look := goodIn_r _ [558, 23, 15, 19, 563, 564, 565, 566, 617, 618, 619, 620, 621, 622, 623, 624, 625, 626, 627, 628, 599, 600, 601, 602, 603, 604, 605, 606, 607, 608, 609, 610, 611, 612, 613, 614, 615, 616] rfl (by decide +kernel)
set_option maxRecDepth 20000 in
theorem gL_law_X5_look : GoodIn wsL_law (wsV RL 73 RX5 yX5_look wsX5_look) := goodIn_app (goodIn_of _ (by decide +kernel)) ggL_law_X5_look
set_option maxRecDepth 20000 in
theorem ggL_law_X6_look : GoodIn wsL_law wsX6_look := goodIn_r _ [562, 115, 119, 168, 120, 384, 378, 131, 66, 567, 568, 569, 570, 571, 572, 573, 574, 575, 576, 577, 578, 579, 580, 581, 582, 583, 584, 585, 586, 587, 588, 589, 590, 591, 592, 593, 594, 595, 596, 597, 598] rfl (by decide +kernel)
set_option maxRecDepth 20000 in
theorem gL_law_X6_look : GoodIn wsL_law (wsV RL 76 RX6 yX6_look wsX6_look) := goodIn_app (goodIn_of _ (by decide +kernel)) ggL_law_X6_look
theorem dL_law_0 : decode cL_law 0 = .ok (.new 7, 3) := by decide +kernel
theorem dL_law_3 : decode cL_law 3 = .ok (.dup, 1) := by decide +kernel
theorem dL_law_4 : decode cL_law 4 = .ok (.invokespecial 9, 3) := by decide +kernel
theorem dL_law_7 : decode cL_law 7 = .ok (.astore_n 1, 1) := by decide +kernel
theorem dL_law_8 : decode cL_law 8 = .ok (.new 10, 3) := by decide +kernel
theorem dL_law_11 : decode cL_law 11 = .ok (.dup, 1) := by decide +kernel
theorem dL_law_12 : decode cL_law 12 = .ok (.invokespecial 12, 3) := by decide +kernel
theorem dL_law_15 : decode cL_law 15 = .ok (.astore_n 2, 1) := by decide +kernel
theorem dL_law_16 : decode cL_law 16 = .ok (.iconst 0, 1) := by decide +kernel
theorem dL_law_17 : decode cL_law 17 = .ok (.istore_n 3, 1) := by decide +kernel
theorem dL_law_18 : decode cL_law 18 = .ok (.iload_n 3, 1) := by decide +kernel
theorem dL_law_19 : decode cL_law 19 = .ok (.aload_n 0, 1) := by decide +kernel
theorem dL_law_20 : decode cL_law 20 = .ok (.arraylength, 1) := by decide +kernel
theorem dL_law_21 : decode cL_law 21 = .ok (.iconst 3, 1) := by decide +kernel
theorem dL_law_22 : decode cL_law 22 = .ok (.isub, 1) := by decide +kernel
theorem dL_law_23 : decode cL_law 23 = .ok (.if_icmp .gt 457, 3) := by decide +kernel
theorem dL_law_26 : decode cL_law 26 = .ok (.aload_n 0, 1) := by decide +kernel
theorem dL_law_27 : decode cL_law 27 = .ok (.iload_n 3, 1) := by decide +kernel
theorem dL_law_28 : decode cL_law 28 = .ok (.iaload, 1) := by decide +kernel
theorem dL_law_29 : decode cL_law 29 = .ok (.bipush 15, 2) := by decide +kernel
theorem dL_law_31 : decode cL_law 31 = .ok (.iand, 1) := by decide +kernel
theorem dL_law_32 : decode cL_law 32 = .ok (.tableswitch 442 0 13 #[72, 121, 134, 167, 190, 203, 226, 249, 260, 293, 316, 353, 386, 419], 72) := by decide +kernel
theorem dL_law_104 : decode cL_law 104 = .ok (.aload_n 1, 1) := by decide +kernel
theorem dL_law_105 : decode cL_law 105 = .ok (.aload_n 0, 1) := by decide +kernel
theorem dL_law_106 : decode cL_law 106 = .ok (.iload_n 3, 1) := by decide +kernel
theorem dL_law_107 : decode cL_law 107 = .ok (.iconst 1, 1) := by decide +kernel
theorem dL_law_108 : decode cL_law 108 = .ok (.iadd, 1) := by decide +kernel
theorem dL_law_109 : decode cL_law 109 = .ok (.iaload, 1) := by decide +kernel
theorem dL_law_110 : decode cL_law 110 = .ok (.aload_n 0, 1) := by decide +kernel
theorem dL_law_111 : decode cL_law 111 = .ok (.iload_n 3, 1) := by decide +kernel
theorem dL_law_112 : decode cL_law 112 = .ok (.iconst 2, 1) := by decide +kernel
theorem dL_law_113 : decode cL_law 113 = .ok (.iadd, 1) := by decide +kernel
theorem dL_law_114 : decode cL_law 114 = .ok (.iaload, 1) := by decide +kernel
theorem dL_law_115 : decode cL_law 115 = .ok (.ifCond .eq 7, 3) := by decide +kernel
theorem dL_law_118 : decode cL_law 118 = .ok (.iconst 1, 1) := by decide +kernel
theorem dL_law_119 : decode cL_law 119 = .ok (.goto 4, 3) := by decide +kernel
theorem dL_law_122 : decode cL_law 122 = .ok (.iconst 0, 1) := by decide +kernel
theorem dL_law_123 : decode cL_law 123 = .ok (.invokevirtual 13, 3) := by decide +kernel
theorem dL_law_126 : decode cL_law 126 = .ok (.aload_n 2, 1) := by decide +kernel
theorem dL_law_127 : decode cL_law 127 = .ok (.aload_n 0, 1) := by decide +kernel
theorem dL_law_128 : decode cL_law 128 = .ok (.iload_n 3, 1) := by decide +kernel
theorem dL_law_129 : decode cL_law 129 = .ok (.iconst 1, 1) := by decide +kernel
theorem dL_law_130 : decode cL_law 130 = .ok (.iadd, 1) := by decide +kernel
theorem dL_law_131 : decode cL_law 131 = .ok (.iaload, 1) := by decide +kernel
theorem dL_law_132 : decode cL_law 132 = .ok (.aload_n 0, 1) := by decide +kernel
theorem dL_law_133 : decode cL_law 133 = .ok (.iload_n 3, 1) := by decide +kernel
theorem dL_law_134 : decode cL_law 134 = .ok (.iconst 2, 1) := by decide +kernel
theorem dL_law_135 : decode cL_law 135 = .ok (.iadd, 1) := by decide +kernel
theorem dL_law_136 : decode cL_law 136 = .ok (.iaload, 1) := by decide +kernel
theorem dL_law_137 : decode cL_law 137 = .ok (.ifCond .eq 7, 3) := by decide +kernel
theorem dL_law_140 : decode cL_law 140 = .ok (.iconst 1, 1) := by decide +kernel
theorem dL_law_141 : decode cL_law 141 = .ok (.goto 4, 3) := by decide +kernel
theorem dL_law_144 : decode cL_law 144 = .ok (.iconst 0, 1) := by decide +kernel
theorem dL_law_145 : decode cL_law 145 = .ok (.invokevirtual 17, 3) := by decide +kernel
theorem dL_law_148 : decode cL_law 148 = .ok (.if_icmp .eq 326, 3) := by decide +kernel
theorem dL_law_151 : decode cL_law 151 = .ok (.iconst 0, 1) := by decide +kernel
theorem dL_law_152 : decode cL_law 152 = .ok (.ireturn, 1) := by decide +kernel
theorem dL_law_153 : decode cL_law 153 = .ok (.aload_n 1, 1) := by decide +kernel
theorem dL_law_154 : decode cL_law 154 = .ok (.invokevirtual 18, 3) := by decide +kernel
theorem dL_law_157 : decode cL_law 157 = .ok (.aload_n 2, 1) := by decide +kernel
theorem dL_law_158 : decode cL_law 158 = .ok (.invokevirtual 22, 3) := by decide +kernel
theorem dL_law_161 : decode cL_law 161 = .ok (.if_icmp .eq 313, 3) := by decide +kernel
theorem dL_law_164 : decode cL_law 164 = .ok (.iconst 0, 1) := by decide +kernel
theorem dL_law_165 : decode cL_law 165 = .ok (.ireturn, 1) := by decide +kernel
theorem dL_law_166 : decode cL_law 166 = .ok (.aload_n 1, 1) := by decide +kernel
theorem dL_law_167 : decode cL_law 167 = .ok (.aload_n 0, 1) := by decide +kernel
theorem dL_law_168 : decode cL_law 168 = .ok (.iload_n 3, 1) := by decide +kernel
theorem dL_law_169 : decode cL_law 169 = .ok (.iconst 1, 1) := by decide +kernel
theorem dL_law_170 : decode cL_law 170 = .ok (.iadd, 1) := by decide +kernel
theorem dL_law_171 : decode cL_law 171 = .ok (.iaload, 1) := by decide +kernel
theorem dL_law_172 : decode cL_law 172 = .ok (.aload_n 0, 1) := by decide +kernel
theorem dL_law_173 : decode cL_law 173 = .ok (.iload_n 3, 1) := by decide +kernel
theorem dL_law_174 : decode cL_law 174 = .ok (.iconst 2, 1) := by decide +kernel
theorem dL_law_175 : decode cL_law 175 = .ok (.iadd, 1) := by decide +kernel
theorem dL_law_176 : decode cL_law 176 = .ok (.iaload, 1) := by decide +kernel
theorem dL_law_177 : decode cL_law 177 = .ok (.invokevirtual 23, 3) := by decide +kernel
theorem dL_law_180 : decode cL_law 180 = .ok (.aload_n 2, 1) := by decide +kernel
theorem dL_law_181 : decode cL_law 181 = .ok (.aload_n 0, 1) := by decide +kernel
theorem dL_law_182 : decode cL_law 182 = .ok (.iload_n 3, 1) := by decide +kernel
theorem dL_law_183 : decode cL_law 183 = .ok (.iconst 1, 1) := by decide +kernel
theorem dL_law_184 : decode cL_law 184 = .ok (.iadd, 1) := by decide +kernel
theorem dL_law_185 : decode cL_law 185 = .ok (.iaload, 1) := by decide +kernel
theorem dL_law_186 : decode cL_law 186 = .ok (.aload_n 0, 1) := by decide +kernel
theorem dL_law_187 : decode cL_law 187 = .ok (.iload_n 3, 1) := by decide +kernel
theorem dL_law_188 : decode cL_law 188 = .ok (.iconst 2, 1) := by decide +kernel
theorem dL_law_189 : decode cL_law 189 = .ok (.iadd, 1) := by decide +kernel
theorem dL_law_190 : decode cL_law 190 = .ok (.iaload, 1) := by decide +kernel
theorem dL_law_191 : decode cL_law 191 = .ok (.invokevirtual 27, 3) := by decide +kernel
theorem dL_law_194 : decode cL_law 194 = .ok (.if_icmp .eq 280, 3) := by decide +kernel
theorem dL_law_197 : decode cL_law 197 = .ok (.iconst 0, 1) := by decide +kernel
theorem dL_law_198 : decode cL_law 198 = .ok (.ireturn, 1) := by decide +kernel
theorem dL_law_199 : decode cL_law 199 = .ok (.aload_n 1, 1) := by decide +kernel
theorem dL_law_200 : decode cL_law 200 = .ok (.aload_n 0, 1) := by decide +kernel
theorem dL_law_201 : decode cL_law 201 = .ok (.iload_n 3, 1) := by decide +kernel
theorem dL_law_202 : decode cL_law 202 = .ok (.iconst 1, 1) := by decide +kernel
theorem dL_law_203 : decode cL_law 203 = .ok (.iadd, 1) := by decide +kernel
theorem dL_law_204 : decode cL_law 204 = .ok (.iaload, 1) := by decide +kernel
theorem dL_law_205 : decode cL_law 205 = .ok (.invokevirtual 28, 3) := by decide +kernel
theorem dL_law_208 : decode cL_law 208 = .ok (.aload_n 2, 1) := by decide +kernel
theorem dL_law_209 : decode cL_law 209 = .ok (.aload_n 0, 1) := by decide +kernel
theorem dL_law_210 : decode cL_law 210 = .ok (.iload_n 3, 1) := by decide +kernel
theorem dL_law_211 : decode cL_law 211 = .ok (.iconst 1, 1) := by decide +kernel
theorem dL_law_212 : decode cL_law 212 = .ok (.iadd, 1) := by decide +kernel
theorem dL_law_213 : decode cL_law 213 = .ok (.iaload, 1) := by decide +kernel
theorem dL_law_214 : decode cL_law 214 = .ok (.invokevirtual 32, 3) := by decide +kernel
theorem dL_law_217 : decode cL_law 217 = .ok (.if_icmp .eq 257, 3) := by decide +kernel
theorem dL_law_220 : decode cL_law 220 = .ok (.iconst 0, 1) := by decide +kernel
theorem dL_law_221 : decode cL_law 221 = .ok (.ireturn, 1) := by decide +kernel
theorem dL_law_222 : decode cL_law 222 = .ok (.aload_n 1, 1) := by decide +kernel
theorem dL_law_223 : decode cL_law 223 = .ok (.invokevirtual 33, 3) := by decide +kernel
theorem dL_law_226 : decode cL_law 226 = .ok (.aload_n 2, 1) := by decide +kernel
theorem dL_law_227 : decode cL_law 227 = .ok (.invokevirtual 37, 3) := by decide +kernel
theorem dL_law_230 : decode cL_law 230 = .ok (.if_icmp .eq 244, 3) := by decide +kernel
theorem dL_law_233 : decode cL_law 233 = .ok (.iconst 0, 1) := by decide +kernel
theorem dL_law_234 : decode cL_law 234 = .ok (.ireturn, 1) := by decide +kernel
theorem dL_law_235 : decode cL_law 235 = .ok (.aload_n 1, 1) := by decide +kernel
theorem dL_law_236 : decode cL_law 236 = .ok (.aload_n 0, 1) := by decide +kernel
theorem dL_law_237 : decode cL_law 237 = .ok (.iload_n 3, 1) := by decide +kernel
theorem dL_law_238 : decode cL_law 238 = .ok (.iconst 1, 1) := by decide +kernel
theorem dL_law_239 : decode cL_law 239 = .ok (.iadd, 1) := by decide +kernel
theorem dL_law_240 : decode cL_law 240 = .ok (.iaload, 1) := by decide +kernel
theorem dL_law_241 : decode cL_law 241 = .ok (.invokevirtual 38, 3) := by decide +kernel
theorem dL_law_244 : decode cL_law 244 = .ok (.aload_n 2, 1) := by decide +kernel
theorem dL_law_245 : decode cL_law 245 = .ok (.aload_n 0, 1) := by decide +kernel
theorem dL_law_246 : decode cL_law 246 = .ok (.iload_n 3, 1) := by decide +kernel
theorem dL_law_247 : decode cL_law 247 = .ok (.iconst 1, 1) := by decide +kernel
theorem dL_law_248 : decode cL_law 248 = .ok (.iadd, 1) := by decide +kernel
theorem dL_law_249 : decode cL_law 249 = .ok (.iaload, 1) := by decide +kernel
theorem dL_law_250 : decode cL_law 250 = .ok (.invokevirtual 42, 3) := by decide +kernel
theorem dL_law_253 : decode cL_law 253 = .ok (.if_icmp .eq 221, 3) := by decide +kernel
theorem dL_law_256 : decode cL_law 256 = .ok (.iconst 0, 1) := by decide +kernel
theorem dL_law_257 : decode cL_law 257 = .ok (.ireturn, 1) := by decide +kernel
theorem dL_law_258 : decode cL_law 258 = .ok (.aload_n 1, 1) := by decide +kernel
theorem dL_law_259 : decode cL_law 259 = .ok (.aload_n 0, 1) := by decide +kernel
theorem dL_law_260 : decode cL_law 260 = .ok (.iload_n 3, 1) := by decide +kernel
theorem dL_law_261 : decode cL_law 261 = .ok (.iconst 1, 1) := by decide +kernel
theorem dL_law_262 : decode cL_law 262 = .ok (.iadd, 1) := by decide +kernel
theorem dL_law_263 : decode cL_law 263 = .ok (.iaload, 1) := by decide +kernel
theorem dL_law_264 : decode cL_law 264 = .ok (.invokevirtual 43, 3) := by decide +kernel
theorem dL_law_267 : decode cL_law 267 = .ok (.aload_n 2, 1) := by decide +kernel
theorem dL_law_268 : decode cL_law 268 = .ok (.aload_n 0, 1) := by decide +kernel
theorem dL_law_269 : decode cL_law 269 = .ok (.iload_n 3, 1) := by decide +kernel
theorem dL_law_270 : decode cL_law 270 = .ok (.iconst 1, 1) := by decide +kernel
theorem dL_law_271 : decode cL_law 271 = .ok (.iadd, 1) := by decide +kernel
theorem dL_law_272 : decode cL_law 272 = .ok (.iaload, 1) := by decide +kernel
theorem dL_law_273 : decode cL_law 273 = .ok (.invokevirtual 46, 3) := by decide +kernel
theorem dL_law_276 : decode cL_law 276 = .ok (.if_icmp .eq 198, 3) := by decide +kernel
theorem dL_law_279 : decode cL_law 279 = .ok (.iconst 0, 1) := by decide +kernel
theorem dL_law_280 : decode cL_law 280 = .ok (.ireturn, 1) := by decide +kernel
theorem dL_law_281 : decode cL_law 281 = .ok (.aload_n 1, 1) := by decide +kernel
theorem dL_law_282 : decode cL_law 282 = .ok (.invokevirtual 47, 3) := by decide +kernel
theorem dL_law_285 : decode cL_law 285 = .ok (.aload_n 2, 1) := by decide +kernel
theorem dL_law_286 : decode cL_law 286 = .ok (.invokevirtual 50, 3) := by decide +kernel
theorem dL_law_289 : decode cL_law 289 = .ok (.goto 185, 3) := by decide +kernel
theorem dL_law_292 : decode cL_law 292 = .ok (.aload_n 1, 1) := by decide +kernel
theorem dL_law_293 : decode cL_law 293 = .ok (.aload_n 0, 1) := by decide +kernel
theorem dL_law_294 : decode cL_law 294 = .ok (.iload_n 3, 1) := by decide +kernel
theorem dL_law_295 : decode cL_law 295 = .ok (.iconst 1, 1) := by decide +kernel
theorem dL_law_296 : decode cL_law 296 = .ok (.iadd, 1) := by decide +kernel
theorem dL_law_297 : decode cL_law 297 = .ok (.iaload, 1) := by decide +kernel
theorem dL_law_298 : decode cL_law 298 = .ok (.aload_n 0, 1) := by decide +kernel
theorem dL_law_299 : decode cL_law 299 = .ok (.iload_n 3, 1) := by decide +kernel
theorem dL_law_300 : decode cL_law 300 = .ok (.iconst 2, 1) := by decide +kernel
theorem dL_law_301 : decode cL_law 301 = .ok (.iadd, 1) := by decide +kernel
theorem dL_law_302 : decode cL_law 302 = .ok (.iaload, 1) := by decide +kernel
theorem dL_law_303 : decode cL_law 303 = .ok (.invokevirtual 51, 3) := by decide +kernel
theorem dL_law_306 : decode cL_law 306 = .ok (.aload_n 2, 1) := by decide +kernel
theorem dL_law_307 : decode cL_law 307 = .ok (.aload_n 0, 1) := by decide +kernel
theorem dL_law_308 : decode cL_law 308 = .ok (.iload_n 3, 1) := by decide +kernel
theorem dL_law_309 : decode cL_law 309 = .ok (.iconst 1, 1) := by decide +kernel
theorem dL_law_310 : decode cL_law 310 = .ok (.iadd, 1) := by decide +kernel
theorem dL_law_311 : decode cL_law 311 = .ok (.iaload, 1) := by decide +kernel
theorem dL_law_312 : decode cL_law 312 = .ok (.aload_n 0, 1) := by decide +kernel
theorem dL_law_313 : decode cL_law 313 = .ok (.iload_n 3, 1) := by decide +kernel
theorem dL_law_314 : decode cL_law 314 = .ok (.iconst 2, 1) := by decide +kernel
theorem dL_law_315 : decode cL_law 315 = .ok (.iadd, 1) := by decide +kernel
theorem dL_law_316 : decode cL_law 316 = .ok (.iaload, 1) := by decide +kernel
theorem dL_law_317 : decode cL_law 317 = .ok (.invokevirtual 54, 3) := by decide +kernel
theorem dL_law_320 : decode cL_law 320 = .ok (.if_icmp .eq 154, 3) := by decide +kernel
theorem dL_law_323 : decode cL_law 323 = .ok (.iconst 0, 1) := by decide +kernel
theorem dL_law_324 : decode cL_law 324 = .ok (.ireturn, 1) := by decide +kernel
theorem dL_law_325 : decode cL_law 325 = .ok (.aload_n 1, 1) := by decide +kernel
theorem dL_law_326 : decode cL_law 326 = .ok (.aload_n 0, 1) := by decide +kernel
theorem dL_law_327 : decode cL_law 327 = .ok (.iload_n 3, 1) := by decide +kernel
theorem dL_law_328 : decode cL_law 328 = .ok (.iconst 1, 1) := by decide +kernel
theorem dL_law_329 : decode cL_law 329 = .ok (.iadd, 1) := by decide +kernel
theorem dL_law_330 : decode cL_law 330 = .ok (.iaload, 1) := by decide +kernel
theorem dL_law_331 : decode cL_law 331 = .ok (.invokevirtual 55, 3) := by decide +kernel
theorem dL_law_334 : decode cL_law 334 = .ok (.aload_n 2, 1) := by decide +kernel
theorem dL_law_335 : decode cL_law 335 = .ok (.aload_n 0, 1) := by decide +kernel
theorem dL_law_336 : decode cL_law 336 = .ok (.iload_n 3, 1) := by decide +kernel
theorem dL_law_337 : decode cL_law 337 = .ok (.iconst 1, 1) := by decide +kernel
theorem dL_law_338 : decode cL_law 338 = .ok (.iadd, 1) := by decide +kernel
theorem dL_law_339 : decode cL_law 339 = .ok (.iaload, 1) := by decide +kernel
theorem dL_law_340 : decode cL_law 340 = .ok (.invokevirtual 58, 3) := by decide +kernel
theorem dL_law_343 : decode cL_law 343 = .ok (.if_icmp .eq 131, 3) := by decide +kernel
theorem dL_law_346 : decode cL_law 346 = .ok (.iconst 0, 1) := by decide +kernel
theorem dL_law_347 : decode cL_law 347 = .ok (.ireturn, 1) := by decide +kernel
theorem dL_law_348 : decode cL_law 348 = .ok (.aload_n 1, 1) := by decide +kernel
theorem dL_law_349 : decode cL_law 349 = .ok (.aload_n 0, 1) := by decide +kernel
theorem dL_law_350 : decode cL_law 350 = .ok (.iload_n 3, 1) := by decide +kernel
theorem dL_law_351 : decode cL_law 351 = .ok (.iconst 1, 1) := by decide +kernel
theorem dL_law_352 : decode cL_law 352 = .ok (.iadd, 1) := by decide +kernel
theorem dL_law_353 : decode cL_law 353 = .ok (.iaload, 1) := by decide +kernel
theorem dL_law_354 : decode cL_law 354 = .ok (.ifCond .eq 7, 3) := by decide +kernel
theorem dL_law_357 : decode cL_law 357 = .ok (.iconst 1, 1) := by decide +kernel
theorem dL_law_358 : decode cL_law 358 = .ok (.goto 4, 3) := by decide +kernel
theorem dL_law_361 : decode cL_law 361 = .ok (.iconst 0, 1) := by decide +kernel
theorem dL_law_362 : decode cL_law 362 = .ok (.invokevirtual 59, 3) := by decide +kernel
theorem dL_law_365 : decode cL_law 365 = .ok (.aload_n 2, 1) := by decide +kernel
theorem dL_law_366 : decode cL_law 366 = .ok (.aload_n 0, 1) := by decide +kernel
theorem dL_law_367 : decode cL_law 367 = .ok (.iload_n 3, 1) := by decide +kernel
theorem dL_law_368 : decode cL_law 368 = .ok (.iconst 1, 1) := by decide +kernel
theorem dL_law_369 : decode cL_law 369 = .ok (.iadd, 1) := by decide +kernel
theorem dL_law_370 : decode cL_law 370 = .ok (.iaload, 1) := by decide +kernel
theorem dL_law_371 : decode cL_law 371 = .ok (.ifCond .eq 7, 3) := by decide +kernel
theorem dL_law_374 : decode cL_law 374 = .ok (.iconst 1, 1) := by decide +kernel
theorem dL_law_375 : decode cL_law 375 = .ok (.goto 4, 3) := by decide +kernel
theorem dL_law_378 : decode cL_law 378 = .ok (.iconst 0, 1) := by decide +kernel
theorem dL_law_379 : decode cL_law 379 = .ok (.invokevirtual 63, 3) := by decide +kernel
theorem dL_law_382 : decode cL_law 382 = .ok (.goto 92, 3) := by decide +kernel
theorem dL_law_385 : decode cL_law 385 = .ok (.aload_n 1, 1) := by decide +kernel
theorem dL_law_386 : decode cL_law 386 = .ok (.aload_n 0, 1) := by decide +kernel
theorem dL_law_387 : decode cL_law 387 = .ok (.iload_n 3, 1) := by decide +kernel
theorem dL_law_388 : decode cL_law 388 = .ok (.iconst 1, 1) := by decide +kernel
theorem dL_law_389 : decode cL_law 389 = .ok (.iadd, 1) := by decide +kernel
theorem dL_law_390 : decode cL_law 390 = .ok (.iaload, 1) := by decide +kernel
theorem dL_law_391 : decode cL_law 391 = .ok (.aload_n 0, 1) := by decide +kernel
theorem dL_law_392 : decode cL_law 392 = .ok (.iload_n 3, 1) := by decide +kernel
theorem dL_law_393 : decode cL_law 393 = .ok (.iconst 2, 1) := by decide +kernel
theorem dL_law_394 : decode cL_law 394 = .ok (.iadd, 1) := by decide +kernel
theorem dL_law_395 : decode cL_law 395 = .ok (.iaload, 1) := by decide +kernel
theorem dL_law_396 : decode cL_law 396 = .ok (.invokevirtual 64, 3) := by decide +kernel
theorem dL_law_399 : decode cL_law 399 = .ok (.aload_n 2, 1) := by decide +kernel
theorem dL_law_400 : decode cL_law 400 = .ok (.aload_n 0, 1) := by decide +kernel
theorem dL_law_401 : decode cL_law 401 = .ok (.iload_n 3, 1) := by decide +kernel
theorem dL_law_402 : decode cL_law 402 = .ok (.iconst 1, 1) := by decide +kernel
theorem dL_law_403 : decode cL_law 403 = .ok (.iadd, 1) := by decide +kernel
theorem dL_law_404 : decode cL_law 404 = .ok (.iaload, 1) := by decide +kernel
theorem dL_law_405 : decode cL_law 405 = .ok (.aload_n 0, 1) := by decide +kernel
theorem dL_law_406 : decode cL_law 406 = .ok (.iload_n 3, 1) := by decide +kernel
theorem dL_law_407 : decode cL_law 407 = .ok (.iconst 2, 1) := by decide +kernel
theorem dL_law_408 : decode cL_law 408 = .ok (.iadd, 1) := by decide +kernel
theorem dL_law_409 : decode cL_law 409 = .ok (.iaload, 1) := by decide +kernel
theorem dL_law_410 : decode cL_law 410 = .ok (.invokevirtual 67, 3) := by decide +kernel
theorem dL_law_413 : decode cL_law 413 = .ok (.if_icmp .eq 61, 3) := by decide +kernel
theorem dL_law_416 : decode cL_law 416 = .ok (.iconst 0, 1) := by decide +kernel
theorem dL_law_417 : decode cL_law 417 = .ok (.ireturn, 1) := by decide +kernel
theorem dL_law_418 : decode cL_law 418 = .ok (.aload_n 1, 1) := by decide +kernel
theorem dL_law_419 : decode cL_law 419 = .ok (.aload_n 0, 1) := by decide +kernel
theorem dL_law_420 : decode cL_law 420 = .ok (.iload_n 3, 1) := by decide +kernel
theorem dL_law_421 : decode cL_law 421 = .ok (.iconst 1, 1) := by decide +kernel
theorem dL_law_422 : decode cL_law 422 = .ok (.iadd, 1) := by decide +kernel
theorem dL_law_423 : decode cL_law 423 = .ok (.iaload, 1) := by decide +kernel
theorem dL_law_424 : decode cL_law 424 = .ok (.aload_n 0, 1) := by decide +kernel
theorem dL_law_425 : decode cL_law 425 = .ok (.iload_n 3, 1) := by decide +kernel
theorem dL_law_426 : decode cL_law 426 = .ok (.iconst 2, 1) := by decide +kernel
theorem dL_law_427 : decode cL_law 427 = .ok (.iadd, 1) := by decide +kernel
theorem dL_law_428 : decode cL_law 428 = .ok (.iaload, 1) := by decide +kernel
theorem dL_law_429 : decode cL_law 429 = .ok (.invokevirtual 68, 3) := by decide +kernel
theorem dL_law_432 : decode cL_law 432 = .ok (.aload_n 2, 1) := by decide +kernel
theorem dL_law_433 : decode cL_law 433 = .ok (.aload_n 0, 1) := by decide +kernel
theorem dL_law_434 : decode cL_law 434 = .ok (.iload_n 3, 1) := by decide +kernel
theorem dL_law_435 : decode cL_law 435 = .ok (.iconst 1, 1) := by decide +kernel
theorem dL_law_436 : decode cL_law 436 = .ok (.iadd, 1) := by decide +kernel
theorem dL_law_437 : decode cL_law 437 = .ok (.iaload, 1) := by decide +kernel
theorem dL_law_438 : decode cL_law 438 = .ok (.aload_n 0, 1) := by decide +kernel
theorem dL_law_439 : decode cL_law 439 = .ok (.iload_n 3, 1) := by decide +kernel
theorem dL_law_440 : decode cL_law 440 = .ok (.iconst 2, 1) := by decide +kernel
theorem dL_law_441 : decode cL_law 441 = .ok (.iadd, 1) := by decide +kernel
theorem dL_law_442 : decode cL_law 442 = .ok (.iaload, 1) := by decide +kernel
theorem dL_law_443 : decode cL_law 443 = .ok (.invokevirtual 72, 3) := by decide +kernel
theorem dL_law_446 : decode cL_law 446 = .ok (.if_icmp .eq 28, 3) := by decide +kernel
theorem dL_law_449 : decode cL_law 449 = .ok (.iconst 0, 1) := by decide +kernel
theorem dL_law_450 : decode cL_law 450 = .ok (.ireturn, 1) := by decide +kernel
theorem dL_law_451 : decode cL_law 451 = .ok (.aload_n 1, 1) := by decide +kernel
theorem dL_law_452 : decode cL_law 452 = .ok (.aload_n 0, 1) := by decide +kernel
theorem dL_law_453 : decode cL_law 453 = .ok (.iload_n 3, 1) := by decide +kernel
theorem dL_law_454 : decode cL_law 454 = .ok (.iconst 1, 1) := by decide +kernel
theorem dL_law_455 : decode cL_law 455 = .ok (.iadd, 1) := by decide +kernel
theorem dL_law_456 : decode cL_law 456 = .ok (.iaload, 1) := by decide +kernel
theorem dL_law_457 : decode cL_law 457 = .ok (.invokevirtual 73, 3) := by decide +kernel
theorem dL_law_460 : decode cL_law 460 = .ok (.aload_n 2, 1) := by decide +kernel
theorem dL_law_461 : decode cL_law 461 = .ok (.aload_n 0, 1) := by decide +kernel
theorem dL_law_462 : decode cL_law 462 = .ok (.iload_n 3, 1) := by decide +kernel
theorem dL_law_463 : decode cL_law 463 = .ok (.iconst 1, 1) := by decide +kernel
theorem dL_law_464 : decode cL_law 464 = .ok (.iadd, 1) := by decide +kernel
theorem dL_law_465 : decode cL_law 465 = .ok (.iaload, 1) := by decide +kernel
theorem dL_law_466 : decode cL_law 466 = .ok (.invokevirtual 76, 3) := by decide +kernel
theorem dL_law_469 : decode cL_law 469 = .ok (.if_icmp .eq 5, 3) := by decide +kernel
theorem dL_law_472 : decode cL_law 472 = .ok (.iconst 0, 1) := by decide +kernel
theorem dL_law_473 : decode cL_law 473 = .ok (.ireturn, 1) := by decide +kernel
theorem dL_law_474 : decode cL_law 474 = .ok (.iinc 3 3, 3) := by decide +kernel
theorem dL_law_477 : decode cL_law 477 = .ok (.goto (-459), 3) := by decide +kernel
theorem dL_law_480 : decode cL_law 480 = .ok (.iconst 1, 1) := by decide +kernel
theorem dL_law_481 : decode cL_law 481 = .ok (.ireturn, 1) := by decide +kernel
