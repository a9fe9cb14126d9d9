section
-- ===== PART A: goes FIRST, ahead of the names: the tables' words, and 'selects' of the private methods out of them =====
/-- a private method of a class that the tables say can be made, by its rows of tables_1 -/
def lw_okq (q : MethodName × Nat) : Prop := (q.1.cls ≠ "java/lang/invoke/MethodHandle" ∧ q.1.cls ≠ "java/lang/invoke/VarHandle") ∧ Cond.instantiable q.1.cls q.2 ∈ tables_1 ∧ Cond.privateMethod q.1 ∈ tables_1 ∧ Cond.instanceMethod q.1 ∈ tables_1
theorem lw_p0 : lw_okq (⟨"MulesRemember$Text", "put", "(I)Z"⟩, 2) := ⟨⟨by decide +kernel, by decide +kernel⟩, List.mem_of_getElem? (i := 17) (by decide +kernel), List.mem_of_getElem? (i := 157) (by decide +kernel), List.mem_of_getElem? (i := 158) (by decide +kernel)⟩
theorem lw_p1 : lw_okq (⟨"MulesRemember$Text", "firstFault", "()I"⟩, 2) := ⟨⟨by decide +kernel, by decide +kernel⟩, List.mem_of_getElem? (i := 17) (by decide +kernel), List.mem_of_getElem? (i := 169) (by decide +kernel), List.mem_of_getElem? (i := 170) (by decide +kernel)⟩
theorem lw_p2 : lw_okq (⟨"MulesRemember$Text", "letter", "(I)I"⟩, 2) := ⟨⟨by decide +kernel, by decide +kernel⟩, List.mem_of_getElem? (i := 17) (by decide +kernel), List.mem_of_getElem? (i := 173) (by decide +kernel), List.mem_of_getElem? (i := 174) (by decide +kernel)⟩
theorem lw_p3 : lw_okq (⟨"MulesRemember", "readPart", "(I)V"⟩, 14) := ⟨⟨by decide +kernel, by decide +kernel⟩, List.mem_of_getElem? (i := 9) (by decide +kernel), List.mem_of_getElem? (i := 184) (by decide +kernel), List.mem_of_getElem? (i := 185) (by decide +kernel)⟩
theorem lw_p4 : lw_okq (⟨"MulesRemember$Text", "figure", "(I)I"⟩, 2) := ⟨⟨by decide +kernel, by decide +kernel⟩, List.mem_of_getElem? (i := 17) (by decide +kernel), List.mem_of_getElem? (i := 188) (by decide +kernel), List.mem_of_getElem? (i := 189) (by decide +kernel)⟩
theorem lw_p5 : lw_okq (⟨"MulesRemember$Law", "add", "(III)V"⟩, 4) := ⟨⟨by decide +kernel, by decide +kernel⟩, List.mem_of_getElem? (i := 32) (by decide +kernel), List.mem_of_getElem? (i := 193) (by decide +kernel), List.mem_of_getElem? (i := 194) (by decide +kernel)⟩
theorem lw_p6 : lw_okq (⟨"MulesRemember", "isArticle", "(I)Z"⟩, 14) := ⟨⟨by decide +kernel, by decide +kernel⟩, List.mem_of_getElem? (i := 9) (by decide +kernel), List.mem_of_getElem? (i := 205) (by decide +kernel), List.mem_of_getElem? (i := 206) (by decide +kernel)⟩
theorem lw_p7 : lw_okq (⟨"MulesRemember", "mulesThatKnow", "(I)I"⟩, 14) := ⟨⟨by decide +kernel, by decide +kernel⟩, List.mem_of_getElem? (i := 9) (by decide +kernel), List.mem_of_getElem? (i := 209) (by decide +kernel), List.mem_of_getElem? (i := 210) (by decide +kernel)⟩
theorem lw_p8 : lw_okq (⟨"MulesRemember", "known", "(LMulesRemember$State;I)I"⟩, 14) := ⟨⟨by decide +kernel, by decide +kernel⟩, List.mem_of_getElem? (i := 9) (by decide +kernel), List.mem_of_getElem? (i := 213) (by decide +kernel), List.mem_of_getElem? (i := 214) (by decide +kernel)⟩
theorem lw_p9 : lw_okq (⟨"MulesRemember", "isMule", "(I)Z"⟩, 14) := ⟨⟨by decide +kernel, by decide +kernel⟩, List.mem_of_getElem? (i := 9) (by decide +kernel), List.mem_of_getElem? (i := 217) (by decide +kernel), List.mem_of_getElem? (i := 218) (by decide +kernel)⟩
theorem lw_p10 : lw_okq (⟨"MulesRemember", "knownIfShown", "(II)I"⟩, 14) := ⟨⟨by decide +kernel, by decide +kernel⟩, List.mem_of_getElem? (i := 9) (by decide +kernel), List.mem_of_getElem? (i := 221) (by decide +kernel), List.mem_of_getElem? (i := 222) (by decide +kernel)⟩
theorem lw_p11 : lw_okq (⟨"MulesRemember$Law", "all", "()I"⟩, 4) := ⟨⟨by decide +kernel, by decide +kernel⟩, List.mem_of_getElem? (i := 32) (by decide +kernel), List.mem_of_getElem? (i := 225) (by decide +kernel), List.mem_of_getElem? (i := 226) (by decide +kernel)⟩
theorem lw_p12 : lw_okq (⟨"MulesRemember$Law", "last", "()I"⟩, 4) := ⟨⟨by decide +kernel, by decide +kernel⟩, List.mem_of_getElem? (i := 32) (by decide +kernel), List.mem_of_getElem? (i := 229) (by decide +kernel), List.mem_of_getElem? (i := 230) (by decide +kernel)⟩
theorem lw_p13 : lw_okq (⟨"MulesRemember", "stepRefusal", "(II)I"⟩, 14) := ⟨⟨by decide +kernel, by decide +kernel⟩, List.mem_of_getElem? (i := 9) (by decide +kernel), List.mem_of_getElem? (i := 241) (by decide +kernel), List.mem_of_getElem? (i := 242) (by decide +kernel)⟩
theorem lw_p14 : lw_okq (⟨"MulesRemember", "forbidders", "(LMulesRemember$State;II)I"⟩, 14) := ⟨⟨by decide +kernel, by decide +kernel⟩, List.mem_of_getElem? (i := 9) (by decide +kernel), List.mem_of_getElem? (i := 254) (by decide +kernel), List.mem_of_getElem? (i := 255) (by decide +kernel)⟩
theorem lw_p15 : lw_okq (⟨"MulesRemember", "forbiddersFrom", "(LMulesRemember$State;IIII)I"⟩, 14) := ⟨⟨by decide +kernel, by decide +kernel⟩, List.mem_of_getElem? (i := 9) (by decide +kernel), List.mem_of_getElem? (i := 258) (by decide +kernel), List.mem_of_getElem? (i := 259) (by decide +kernel)⟩
def lw_privs_1 : List (MethodName × Nat) := [(⟨"MulesRemember$Text", "put", "(I)Z"⟩, 2), (⟨"MulesRemember$Text", "firstFault", "()I"⟩, 2), (⟨"MulesRemember$Text", "letter", "(I)I"⟩, 2), (⟨"MulesRemember", "readPart", "(I)V"⟩, 14), (⟨"MulesRemember$Text", "figure", "(I)I"⟩, 2), (⟨"MulesRemember$Law", "add", "(III)V"⟩, 4), (⟨"MulesRemember", "isArticle", "(I)Z"⟩, 14), (⟨"MulesRemember", "mulesThatKnow", "(I)I"⟩, 14), (⟨"MulesRemember", "known", "(LMulesRemember$State;I)I"⟩, 14), (⟨"MulesRemember", "isMule", "(I)Z"⟩, 14), (⟨"MulesRemember", "knownIfShown", "(II)I"⟩, 14), (⟨"MulesRemember$Law", "all", "()I"⟩, 4), (⟨"MulesRemember$Law", "last", "()I"⟩, 4), (⟨"MulesRemember", "stepRefusal", "(II)I"⟩, 14), (⟨"MulesRemember", "forbidders", "(LMulesRemember$State;II)I"⟩, 14), (⟨"MulesRemember", "forbiddersFrom", "(LMulesRemember$State;IIII)I"⟩, 14)]
theorem lw_r1 : ∀ q ∈ lw_privs_1, lw_okq q := List.forall_mem_cons.mpr ⟨lw_p0, List.forall_mem_cons.mpr ⟨lw_p1, List.forall_mem_cons.mpr ⟨lw_p2, List.forall_mem_cons.mpr ⟨lw_p3, List.forall_mem_cons.mpr ⟨lw_p4, List.forall_mem_cons.mpr ⟨lw_p5, List.forall_mem_cons.mpr ⟨lw_p6, List.forall_mem_cons.mpr ⟨lw_p7, List.forall_mem_cons.mpr ⟨lw_p8, List.forall_mem_cons.mpr ⟨lw_p9, List.forall_mem_cons.mpr ⟨lw_p10, List.forall_mem_cons.mpr ⟨lw_p11, List.forall_mem_cons.mpr ⟨lw_p12, List.forall_mem_cons.mpr ⟨lw_p13, List.forall_mem_cons.mpr ⟨lw_p14, List.forall_mem_cons.mpr ⟨lw_p15, fun _ h => absurd h List.not_mem_nil⟩⟩⟩⟩⟩⟩⟩⟩⟩⟩⟩⟩⟩⟩⟩⟩
theorem lw_p16 : lw_okq (⟨"MulesRemember", "othersFromNorthOf", "(LMulesRemember$State;II)I"⟩, 14) := ⟨⟨by decide +kernel, by decide +kernel⟩, List.mem_of_getElem? (i := 9) (by decide +kernel), List.mem_of_getElem? (i := 262) (by decide +kernel), List.mem_of_getElem? (i := 263) (by decide +kernel)⟩
theorem lw_p17 : lw_okq (⟨"MulesRemember$Law", "forbids", "(IIIIII)Z"⟩, 4) := ⟨⟨by decide +kernel, by decide +kernel⟩, List.mem_of_getElem? (i := 32) (by decide +kernel), List.mem_of_getElem? (i := 266) (by decide +kernel), List.mem_of_getElem? (i := 267) (by decide +kernel)⟩
theorem lw_p18 : lw_okq (⟨"MulesRemember", "balkers", "(LMulesRemember$State;II)I"⟩, 14) := ⟨⟨by decide +kernel, by decide +kernel⟩, List.mem_of_getElem? (i := 9) (by decide +kernel), List.mem_of_getElem? (i := 277) (by decide +kernel), List.mem_of_getElem? (i := 278) (by decide +kernel)⟩
theorem lw_p19 : lw_okq (⟨"MulesRemember", "wouldGo", "(LMulesRemember$State;II)Z"⟩, 14) := ⟨⟨by decide +kernel, by decide +kernel⟩, List.mem_of_getElem? (i := 9) (by decide +kernel), List.mem_of_getElem? (i := 288) (by decide +kernel), List.mem_of_getElem? (i := 289) (by decide +kernel)⟩
theorem lw_p20 : lw_okq (⟨"MulesRemember", "rememberAct", "()V"⟩, 14) := ⟨⟨by decide +kernel, by decide +kernel⟩, List.mem_of_getElem? (i := 9) (by decide +kernel), List.mem_of_getElem? (i := 292) (by decide +kernel), List.mem_of_getElem? (i := 293) (by decide +kernel)⟩
theorem lw_p21 : lw_okq (⟨"MulesRemember", "go", "(LMulesRemember$State;II)V"⟩, 14) := ⟨⟨by decide +kernel, by decide +kernel⟩, List.mem_of_getElem? (i := 9) (by decide +kernel), List.mem_of_getElem? (i := 299) (by decide +kernel), List.mem_of_getElem? (i := 300) (by decide +kernel)⟩
theorem lw_p22 : lw_okq (⟨"MulesRemember", "spread", "(IIII)I"⟩, 14) := ⟨⟨by decide +kernel, by decide +kernel⟩, List.mem_of_getElem? (i := 9) (by decide +kernel), List.mem_of_getElem? (i := 333) (by decide +kernel), List.mem_of_getElem? (i := 334) (by decide +kernel)⟩
theorem lw_p23 : lw_okq (⟨"MulesRemember", "keepsAllIfShown", "(II)Z"⟩, 14) := ⟨⟨by decide +kernel, by decide +kernel⟩, List.mem_of_getElem? (i := 9) (by decide +kernel), List.mem_of_getElem? (i := 345) (by decide +kernel), List.mem_of_getElem? (i := 346) (by decide +kernel)⟩
theorem lw_p24 : lw_okq (⟨"MulesRemember", "doneWithoutFault", "(LMulesRemember$State;II)Z"⟩, 14) := ⟨⟨by decide +kernel, by decide +kernel⟩, List.mem_of_getElem? (i := 9) (by decide +kernel), List.mem_of_getElem? (i := 357) (by decide +kernel), List.mem_of_getElem? (i := 358) (by decide +kernel)⟩
theorem lw_p25 : lw_okq (⟨"MulesRemember$Sightings", "add", "(IIIII)Z"⟩, 6) := ⟨⟨by decide +kernel, by decide +kernel⟩, List.mem_of_getElem? (i := 83) (by decide +kernel), List.mem_of_getElem? (i := 375) (by decide +kernel), List.mem_of_getElem? (i := 376) (by decide +kernel)⟩
theorem lw_p26 : lw_okq (⟨"MulesRemember$Sightings", "agreeWith", "(III)Z"⟩, 6) := ⟨⟨by decide +kernel, by decide +kernel⟩, List.mem_of_getElem? (i := 83) (by decide +kernel), List.mem_of_getElem? (i := 387) (by decide +kernel), List.mem_of_getElem? (i := 388) (by decide +kernel)⟩
theorem lw_p27 : lw_okq (⟨"MulesRemember", "worthOfString", "()I"⟩, 14) := ⟨⟨by decide +kernel, by decide +kernel⟩, List.mem_of_getElem? (i := 9) (by decide +kernel), List.mem_of_getElem? (i := 396) (by decide +kernel), List.mem_of_getElem? (i := 397) (by decide +kernel)⟩
theorem lw_p28 : lw_okq (⟨"MulesRemember", "tenthsToBalk", "(III)I"⟩, 14) := ⟨⟨by decide +kernel, by decide +kernel⟩, List.mem_of_getElem? (i := 9) (by decide +kernel), List.mem_of_getElem? (i := 410) (by decide +kernel), List.mem_of_getElem? (i := 411) (by decide +kernel)⟩
theorem lw_p29 : lw_okq (⟨"MulesRemember", "tallyMule", "(I)V"⟩, 14) := ⟨⟨by decide +kernel, by decide +kernel⟩, List.mem_of_getElem? (i := 9) (by decide +kernel), List.mem_of_getElem? (i := 414) (by decide +kernel), List.mem_of_getElem? (i := 415) (by decide +kernel)⟩
theorem lw_p30 : lw_okq (⟨"MulesRemember", "liveThrough", "(LMulesRemember$State;II)V"⟩, 14) := ⟨⟨by decide +kernel, by decide +kernel⟩, List.mem_of_getElem? (i := 9) (by decide +kernel), List.mem_of_getElem? (i := 429) (by decide +kernel), List.mem_of_getElem? (i := 430) (by decide +kernel)⟩
theorem lw_p31 : lw_okq (⟨"MulesRememberModel", "readTreaty", "()I"⟩, 33) := ⟨⟨by decide +kernel, by decide +kernel⟩, List.mem_of_getElem? (i := 444) (by decide +kernel), List.mem_of_getElem? (i := 566) (by decide +kernel), List.mem_of_getElem? (i := 567) (by decide +kernel)⟩
def lw_privs_2 : List (MethodName × Nat) := [(⟨"MulesRemember", "othersFromNorthOf", "(LMulesRemember$State;II)I"⟩, 14), (⟨"MulesRemember$Law", "forbids", "(IIIIII)Z"⟩, 4), (⟨"MulesRemember", "balkers", "(LMulesRemember$State;II)I"⟩, 14), (⟨"MulesRemember", "wouldGo", "(LMulesRemember$State;II)Z"⟩, 14), (⟨"MulesRemember", "rememberAct", "()V"⟩, 14), (⟨"MulesRemember", "go", "(LMulesRemember$State;II)V"⟩, 14), (⟨"MulesRemember", "spread", "(IIII)I"⟩, 14), (⟨"MulesRemember", "keepsAllIfShown", "(II)Z"⟩, 14), (⟨"MulesRemember", "doneWithoutFault", "(LMulesRemember$State;II)Z"⟩, 14), (⟨"MulesRemember$Sightings", "add", "(IIIII)Z"⟩, 6), (⟨"MulesRemember$Sightings", "agreeWith", "(III)Z"⟩, 6), (⟨"MulesRemember", "worthOfString", "()I"⟩, 14), (⟨"MulesRemember", "tenthsToBalk", "(III)I"⟩, 14), (⟨"MulesRemember", "tallyMule", "(I)V"⟩, 14), (⟨"MulesRemember", "liveThrough", "(LMulesRemember$State;II)V"⟩, 14), (⟨"MulesRememberModel", "readTreaty", "()I"⟩, 33)]
theorem lw_r2 : ∀ q ∈ lw_privs_2, lw_okq q := List.forall_mem_cons.mpr ⟨lw_p16, List.forall_mem_cons.mpr ⟨lw_p17, List.forall_mem_cons.mpr ⟨lw_p18, List.forall_mem_cons.mpr ⟨lw_p19, List.forall_mem_cons.mpr ⟨lw_p20, List.forall_mem_cons.mpr ⟨lw_p21, List.forall_mem_cons.mpr ⟨lw_p22, List.forall_mem_cons.mpr ⟨lw_p23, List.forall_mem_cons.mpr ⟨lw_p24, List.forall_mem_cons.mpr ⟨lw_p25, List.forall_mem_cons.mpr ⟨lw_p26, List.forall_mem_cons.mpr ⟨lw_p27, List.forall_mem_cons.mpr ⟨lw_p28, List.forall_mem_cons.mpr ⟨lw_p29, List.forall_mem_cons.mpr ⟨lw_p30, List.forall_mem_cons.mpr ⟨lw_p31, fun _ h => absurd h List.not_mem_nil⟩⟩⟩⟩⟩⟩⟩⟩⟩⟩⟩⟩⟩⟩⟩⟩
theorem lw_p32 : lw_okq (⟨"MulesRememberModel", "readPart", "()Z"⟩, 33) := ⟨⟨by decide +kernel, by decide +kernel⟩, List.mem_of_getElem? (i := 444) (by decide +kernel), List.mem_of_getElem? (i := 570) (by decide +kernel), List.mem_of_getElem? (i := 571) (by decide +kernel)⟩
theorem lw_p33 : lw_okq (⟨"MulesRememberModel", "readOneArticle", "()Z"⟩, 33) := ⟨⟨by decide +kernel, by decide +kernel⟩, List.mem_of_getElem? (i := 444) (by decide +kernel), List.mem_of_getElem? (i := 574) (by decide +kernel), List.mem_of_getElem? (i := 575) (by decide +kernel)⟩
theorem lw_p34 : lw_okq (⟨"MulesRememberModel", "figure", "(I)I"⟩, 33) := ⟨⟨by decide +kernel, by decide +kernel⟩, List.mem_of_getElem? (i := 444) (by decide +kernel), List.mem_of_getElem? (i := 578) (by decide +kernel), List.mem_of_getElem? (i := 579) (by decide +kernel)⟩
theorem lw_p35 : lw_okq (⟨"MulesRememberModel", "readOneMule", "()Z"⟩, 33) := ⟨⟨by decide +kernel, by decide +kernel⟩, List.mem_of_getElem? (i := 444) (by decide +kernel), List.mem_of_getElem? (i := 582) (by decide +kernel), List.mem_of_getElem? (i := 583) (by decide +kernel)⟩
theorem lw_p36 : lw_okq (⟨"MulesRememberModel", "noArticle", "(I)Z"⟩, 33) := ⟨⟨by decide +kernel, by decide +kernel⟩, List.mem_of_getElem? (i := 444) (by decide +kernel), List.mem_of_getElem? (i := 598) (by decide +kernel), List.mem_of_getElem? (i := 599) (by decide +kernel)⟩
theorem lw_p37 : lw_okq (⟨"MulesRememberModel", "knowers", "(I)I"⟩, 33) := ⟨⟨by decide +kernel, by decide +kernel⟩, List.mem_of_getElem? (i := 444) (by decide +kernel), List.mem_of_getElem? (i := 602) (by decide +kernel), List.mem_of_getElem? (i := 603) (by decide +kernel)⟩
theorem lw_p38 : lw_okq (⟨"MulesRememberModel", "knows", "([II)I"⟩, 33) := ⟨⟨by decide +kernel, by decide +kernel⟩, List.mem_of_getElem? (i := 444) (by decide +kernel), List.mem_of_getElem? (i := 606) (by decide +kernel), List.mem_of_getElem? (i := 607) (by decide +kernel)⟩
theorem lw_p39 : lw_okq (⟨"MulesRememberModel", "noMule", "(I)Z"⟩, 33) := ⟨⟨by decide +kernel, by decide +kernel⟩, List.mem_of_getElem? (i := 444) (by decide +kernel), List.mem_of_getElem? (i := 617) (by decide +kernel), List.mem_of_getElem? (i := 618) (by decide +kernel)⟩
theorem lw_p40 : lw_okq (⟨"MulesRememberModel", "noStep", "(II)I"⟩, 33) := ⟨⟨by decide +kernel, by decide +kernel⟩, List.mem_of_getElem? (i := 444) (by decide +kernel), List.mem_of_getElem? (i := 625) (by decide +kernel), List.mem_of_getElem? (i := 626) (by decide +kernel)⟩
theorem lw_p41 : lw_okq (⟨"MulesRememberModel", "forbids", "([III)I"⟩, 33) := ⟨⟨by decide +kernel, by decide +kernel⟩, List.mem_of_getElem? (i := 444) (by decide +kernel), List.mem_of_getElem? (i := 633) (by decide +kernel), List.mem_of_getElem? (i := 634) (by decide +kernel)⟩
theorem lw_p42 : lw_okq (⟨"MulesRememberModel", "northern", "([III)I"⟩, 33) := ⟨⟨by decide +kernel, by decide +kernel⟩, List.mem_of_getElem? (i := 444) (by decide +kernel), List.mem_of_getElem? (i := 637) (by decide +kernel), List.mem_of_getElem? (i := 638) (by decide +kernel)⟩
theorem lw_p43 : lw_okq (⟨"MulesRememberModel", "isBalking", "([III)Z"⟩, 33) := ⟨⟨by decide +kernel, by decide +kernel⟩, List.mem_of_getElem? (i := 444) (by decide +kernel), List.mem_of_getElem? (i := 655) (by decide +kernel), List.mem_of_getElem? (i := 656) (by decide +kernel)⟩
theorem lw_p44 : lw_okq (⟨"MulesRememberModel", "note", "()V"⟩, 33) := ⟨⟨by decide +kernel, by decide +kernel⟩, List.mem_of_getElem? (i := 444) (by decide +kernel), List.mem_of_getElem? (i := 659) (by decide +kernel), List.mem_of_getElem? (i := 660) (by decide +kernel)⟩
theorem lw_p45 : lw_okq (⟨"MulesRememberModel", "go", "([III)V"⟩, 33) := ⟨⟨by decide +kernel, by decide +kernel⟩, List.mem_of_getElem? (i := 444) (by decide +kernel), List.mem_of_getElem? (i := 663) (by decide +kernel), List.mem_of_getElem? (i := 664) (by decide +kernel)⟩
theorem lw_p46 : lw_okq (⟨"MulesRememberModel", "layWays", "(IZ)V"⟩, 33) := ⟨⟨by decide +kernel, by decide +kernel⟩, List.mem_of_getElem? (i := 444) (by decide +kernel), List.mem_of_getElem? (i := 694) (by decide +kernel), List.mem_of_getElem? (i := 695) (by decide +kernel)⟩
theorem lw_p47 : lw_okq (⟨"MulesRememberModel", "begin", "()V"⟩, 33) := ⟨⟨by decide +kernel, by decide +kernel⟩, List.mem_of_getElem? (i := 444) (by decide +kernel), List.mem_of_getElem? (i := 698) (by decide +kernel), List.mem_of_getElem? (i := 699) (by decide +kernel)⟩
def lw_privs_3 : List (MethodName × Nat) := [(⟨"MulesRememberModel", "readPart", "()Z"⟩, 33), (⟨"MulesRememberModel", "readOneArticle", "()Z"⟩, 33), (⟨"MulesRememberModel", "figure", "(I)I"⟩, 33), (⟨"MulesRememberModel", "readOneMule", "()Z"⟩, 33), (⟨"MulesRememberModel", "noArticle", "(I)Z"⟩, 33), (⟨"MulesRememberModel", "knowers", "(I)I"⟩, 33), (⟨"MulesRememberModel", "knows", "([II)I"⟩, 33), (⟨"MulesRememberModel", "noMule", "(I)Z"⟩, 33), (⟨"MulesRememberModel", "noStep", "(II)I"⟩, 33), (⟨"MulesRememberModel", "forbids", "([III)I"⟩, 33), (⟨"MulesRememberModel", "northern", "([III)I"⟩, 33), (⟨"MulesRememberModel", "isBalking", "([III)Z"⟩, 33), (⟨"MulesRememberModel", "note", "()V"⟩, 33), (⟨"MulesRememberModel", "go", "([III)V"⟩, 33), (⟨"MulesRememberModel", "layWays", "(IZ)V"⟩, 33), (⟨"MulesRememberModel", "begin", "()V"⟩, 33)]
theorem lw_r3 : ∀ q ∈ lw_privs_3, lw_okq q := List.forall_mem_cons.mpr ⟨lw_p32, List.forall_mem_cons.mpr ⟨lw_p33, List.forall_mem_cons.mpr ⟨lw_p34, List.forall_mem_cons.mpr ⟨lw_p35, List.forall_mem_cons.mpr ⟨lw_p36, List.forall_mem_cons.mpr ⟨lw_p37, List.forall_mem_cons.mpr ⟨lw_p38, List.forall_mem_cons.mpr ⟨lw_p39, List.forall_mem_cons.mpr ⟨lw_p40, List.forall_mem_cons.mpr ⟨lw_p41, List.forall_mem_cons.mpr ⟨lw_p42, List.forall_mem_cons.mpr ⟨lw_p43, List.forall_mem_cons.mpr ⟨lw_p44, List.forall_mem_cons.mpr ⟨lw_p45, List.forall_mem_cons.mpr ⟨lw_p46, List.forall_mem_cons.mpr ⟨lw_p47, fun _ h => absurd h List.not_mem_nil⟩⟩⟩⟩⟩⟩⟩⟩⟩⟩⟩⟩⟩⟩⟩⟩
theorem lw_p48 : lw_okq (⟨"MulesRememberModel", "holdsFast", "(I)Z"⟩, 33) := ⟨⟨by decide +kernel, by decide +kernel⟩, List.mem_of_getElem? (i := 444) (by decide +kernel), List.mem_of_getElem? (i := 710) (by decide +kernel), List.mem_of_getElem? (i := 711) (by decide +kernel)⟩
theorem lw_p49 : lw_okq (⟨"MulesRememberModel", "does", "(I)Z"⟩, 33) := ⟨⟨by decide +kernel, by decide +kernel⟩, List.mem_of_getElem? (i := 444) (by decide +kernel), List.mem_of_getElem? (i := 726) (by decide +kernel), List.mem_of_getElem? (i := 727) (by decide +kernel)⟩
theorem lw_p50 : lw_okq (⟨"MulesRememberModel", "barredBy", "(I)I"⟩, 33) := ⟨⟨by decide +kernel, by decide +kernel⟩, List.mem_of_getElem? (i := 444) (by decide +kernel), List.mem_of_getElem? (i := 735) (by decide +kernel), List.mem_of_getElem? (i := 736) (by decide +kernel)⟩
theorem lw_p51 : lw_okq (⟨"MulesRememberModel", "findMay", "(I)V"⟩, 33) := ⟨⟨by decide +kernel, by decide +kernel⟩, List.mem_of_getElem? (i := 444) (by decide +kernel), List.mem_of_getElem? (i := 761) (by decide +kernel), List.mem_of_getElem? (i := 762) (by decide +kernel)⟩
theorem lw_p52 : lw_okq (⟨"MulesRememberModel", "sent", "()I"⟩, 33) := ⟨⟨by decide +kernel, by decide +kernel⟩, List.mem_of_getElem? (i := 444) (by decide +kernel), List.mem_of_getElem? (i := 769) (by decide +kernel), List.mem_of_getElem? (i := 770) (by decide +kernel)⟩
theorem lw_p53 : lw_okq (⟨"MulesRememberModel", "balkers", "(II)I"⟩, 33) := ⟨⟨by decide +kernel, by decide +kernel⟩, List.mem_of_getElem? (i := 444) (by decide +kernel), List.mem_of_getElem? (i := 781) (by decide +kernel), List.mem_of_getElem? (i := 782) (by decide +kernel)⟩
def lw_privs_4 : List (MethodName × Nat) := [(⟨"MulesRememberModel", "holdsFast", "(I)Z"⟩, 33), (⟨"MulesRememberModel", "does", "(I)Z"⟩, 33), (⟨"MulesRememberModel", "barredBy", "(I)I"⟩, 33), (⟨"MulesRememberModel", "findMay", "(I)V"⟩, 33), (⟨"MulesRememberModel", "sent", "()I"⟩, 33), (⟨"MulesRememberModel", "balkers", "(II)I"⟩, 33)]
theorem lw_r4 : ∀ q ∈ lw_privs_4, lw_okq q := List.forall_mem_cons.mpr ⟨lw_p48, List.forall_mem_cons.mpr ⟨lw_p49, List.forall_mem_cons.mpr ⟨lw_p50, List.forall_mem_cons.mpr ⟨lw_p51, List.forall_mem_cons.mpr ⟨lw_p52, List.forall_mem_cons.mpr ⟨lw_p53, fun _ h => absurd h List.not_mem_nil⟩⟩⟩⟩⟩⟩
def lw_privs : List (MethodName × Nat) := lw_privs_1 ++ (lw_privs_2 ++ (lw_privs_3 ++ (lw_privs_4)))
def lw_tbl : List Cond := k2_sels lw_privs ++ tables_1
theorem lw_privs_ok : ∀ q ∈ lw_privs, lw_okq q := by
  show ∀ q ∈ lw_privs_1 ++ (lw_privs_2 ++ (lw_privs_3 ++ (lw_privs_4))), lw_okq q
  exact List.forall_mem_append.mpr ⟨lw_r1, List.forall_mem_append.mpr ⟨lw_r2, List.forall_mem_append.mpr ⟨lw_r3, lw_r4⟩⟩⟩
-- ===== end of PART A; then your names; then what follows =====
end
section
def RX0 : String := "MulesRemember$Law"
def TX0 : u_T := fun k => match k with
  | 0 => ("MulesRemember$Law", "stone", "[I", true)
  | 1 => ("MulesRemember$Law", "sort", "[I", true)
  | 2 => ("MulesRemember$Law", "value", "[I", true)
  | _ => ("MulesRemember$Law", "count", "I", false)
def tyX0 : Nat → FieldType := fun k => match k with
  | 0 => .array .int
  | 1 => .array .int
  | 2 => .array .int
  | _ => .int
abbrev wsX00 : List Cond := u_ws RX0 TX0 4
theorem nmX0 : ∀ a, a < 4 → ∀ b, b < 4 → a ≠ b → (TX0 a).2.1 ≠ (TX0 b).2.1 := by decide +kernel
theorem tyX0_ok : ∀ k, k < 4 → parseFieldDescriptor (TX0 k).2.2.1 = some (tyX0 k) := by decide +kernel
abbrev cX0_init : ByteArray := prog_2_method_1_code
def yX0_init : MethodName := ⟨RX0, "<init>", "()V"⟩
abbrev cX0_add : ByteArray := prog_2_method_2_code
def yX0_add : MethodName := ⟨RX0, "add", "(III)V"⟩
abbrev cX0_all : ByteArray := prog_2_method_3_code
def yX0_all : MethodName := ⟨RX0, "all", "()I"⟩
abbrev cX0_last : ByteArray := prog_2_method_4_code
def yX0_last : MethodName := ⟨RX0, "last", "()I"⟩
abbrev cX0_forbids : ByteArray := prog_2_method_5_code
def yX0_forbids : MethodName := ⟨RX0, "forbids", "(IIIIII)Z"⟩
abbrev cX0_forbidsAlone : ByteArray := prog_2_method_6_code
def yX0_forbidsAlone : MethodName := ⟨RX0, "forbidsAlone", "(IIIII)Z"⟩
def RX1 : String := "MulesRemember$Sightings"
def TX1 : u_T := fun k => match k with
  | 0 => ("MulesRemember$Sightings", "stone", "[I", true)
  | 1 => ("MulesRemember$Sightings", "coat", "[I", true)
  | 2 => ("MulesRemember$Sightings", "hour", "[I", true)
  | 3 => ("MulesRemember$Sightings", "south", "[I", true)
  | 4 => ("MulesRemember$Sightings", "balked", "[I", true)
  | _ => ("MulesRemember$Sightings", "count", "I", false)
def tyX1 : Nat → FieldType := fun k => match k with
  | 0 => .array .int
  | 1 => .array .int
  | 2 => .array .int
  | 3 => .array .int
  | 4 => .array .int
  | _ => .int
abbrev wsX10 : List Cond := u_ws RX1 TX1 6
theorem nmX1 : ∀ a, a < 6 → ∀ b, b < 6 → a ≠ b → (TX1 a).2.1 ≠ (TX1 b).2.1 := by decide +kernel
theorem tyX1_ok : ∀ k, k < 6 → parseFieldDescriptor (TX1 k).2.2.1 = some (tyX1 k) := by decide +kernel
abbrev cX1_init : ByteArray := prog_3_method_1_code
def yX1_init : MethodName := ⟨RX1, "<init>", "()V"⟩
abbrev cX1_add : ByteArray := prog_3_method_2_code
def yX1_add : MethodName := ⟨RX1, "add", "(IIIII)Z"⟩
abbrev cX1_agreeWith : ByteArray := prog_3_method_3_code
def yX1_agreeWith : MethodName := ⟨RX1, "agreeWith", "(III)Z"⟩
def RX2 : String := "MulesRemember$State"
def TX2 : u_T := fun k => match k with
  | 0 => ("MulesRemember$State", "stone", "[I", true)
  | 1 => ("MulesRemember$State", "kind", "[I", true)
  | 2 => ("MulesRemember$State", "shown", "[I", true)
  | 3 => ("MulesRemember$State", "hour", "I", false)
  | _ => ("MulesRemember$State", "broken", "I", false)
def tyX2 : Nat → FieldType := fun k => match k with
  | 0 => .array .int
  | 1 => .array .int
  | 2 => .array .int
  | 3 => .int
  | _ => .int
abbrev wsX20 : List Cond := u_ws RX2 TX2 5
theorem nmX2 : ∀ a, a < 5 → ∀ b, b < 5 → a ≠ b → (TX2 a).2.1 ≠ (TX2 b).2.1 := by decide +kernel
theorem tyX2_ok : ∀ k, k < 5 → parseFieldDescriptor (TX2 k).2.2.1 = some (tyX2 k) := by decide +kernel
abbrev cX2_init : ByteArray := prog_4_method_1_code
def yX2_init : MethodName := ⟨RX2, "<init>", "()V"⟩
def RX3 : String := "MulesRemember$Text"
def TX3 : u_T := fun k => match k with
  | 0 => ("MulesRemember$Text", "letters", "[I", true)
  | _ => ("MulesRemember$Text", "length", "I", false)
def tyX3 : Nat → FieldType := fun k => match k with
  | 0 => .array .int
  | _ => .int
abbrev wsX30 : List Cond := u_ws RX3 TX3 2
theorem nmX3 : ∀ a, a < 2 → ∀ b, b < 2 → a ≠ b → (TX3 a).2.1 ≠ (TX3 b).2.1 := by decide +kernel
theorem tyX3_ok : ∀ k, k < 2 → parseFieldDescriptor (TX3 k).2.2.1 = some (tyX3 k) := by decide +kernel
abbrev cX3_init : ByteArray := prog_5_method_1_code
def yX3_init : MethodName := ⟨RX3, "<init>", "()V"⟩
abbrev cX3_put : ByteArray := prog_5_method_2_code
def yX3_put : MethodName := ⟨RX3, "put", "(I)Z"⟩
abbrev cX3_letter : ByteArray := prog_5_method_3_code
def yX3_letter : MethodName := ⟨RX3, "letter", "(I)I"⟩
abbrev cX3_figure : ByteArray := prog_5_method_4_code
def yX3_figure : MethodName := ⟨RX3, "figure", "(I)I"⟩
abbrev cX3_firstFault : ByteArray := prog_5_method_5_code
def yX3_firstFault : MethodName := ⟨RX3, "firstFault", "()I"⟩
abbrev cX3_figuresAt : ByteArray := prog_5_method_6_code
def yX3_figuresAt : MethodName := ⟨RX3, "figuresAt", "(II)I"⟩
def RX4 : String := "MulesRemember"
def TX4 : u_T := fun k => match k with
  | 0 => ("MulesRemember", "text", "LMulesRemember$Text;", true)
  | 1 => ("MulesRemember", "law", "LMulesRemember$Law;", true)
  | 2 => ("MulesRemember", "coats", "[I", true)
  | 3 => ("MulesRemember", "muleCount", "I", false)
  | 4 => ("MulesRemember", "now", "LMulesRemember$State;", true)
  | 5 => ("MulesRemember", "tried", "LMulesRemember$State;", true)
  | 6 => ("MulesRemember", "acts", "[LMulesRemember$State;", true)
  | 7 => ("MulesRemember", "firstAct", "I", false)
  | 8 => ("MulesRemember", "actCount", "I", false)
  | 9 => ("MulesRemember", "slots", "[LMulesRemember$State;", true)
  | 10 => ("MulesRemember", "kept", "[Z", true)
  | 11 => ("MulesRemember", "sightings", "LMulesRemember$Sightings;", true)
  | 12 => ("MulesRemember", "tally", "[I", true)
  | _ => ("MulesRemember", "theSeed", "J", false)
def tyX4 : Nat → FieldType := fun k => match k with
  | 0 => .object "MulesRemember$Text"
  | 1 => .object "MulesRemember$Law"
  | 2 => .array .int
  | 3 => .int
  | 4 => .object "MulesRemember$State"
  | 5 => .object "MulesRemember$State"
  | 6 => .array (.object "MulesRemember$State")
  | 7 => .int
  | 8 => .int
  | 9 => .array (.object "MulesRemember$State")
  | 10 => .array .boolean
  | 11 => .object "MulesRemember$Sightings"
  | 12 => .array .int
  | _ => .long
abbrev wsX40 : List Cond := u_ws RX4 TX4 14
theorem nmX4 : ∀ a, a < 14 → ∀ b, b < 14 → a ≠ b → (TX4 a).2.1 ≠ (TX4 b).2.1 := by decide +kernel
theorem tyX4_ok : ∀ k, k < 14 → parseFieldDescriptor (TX4 k).2.2.1 = some (tyX4 k) := by decide +kernel
abbrev cX4_init : ByteArray := prog_1_method_1_code
def yX4_init : MethodName := ⟨RX4, "<init>", "()V"⟩
abbrev cX4_write : ByteArray := prog_1_method_2_code
def yX4_write : MethodName := ⟨RX4, "write", "(I)I"⟩
abbrev cX4_wipe : ByteArray := prog_1_method_3_code
def yX4_wipe : MethodName := ⟨RX4, "wipe", "()I"⟩
abbrev cX4_fault : ByteArray := prog_1_method_4_code
def yX4_fault : MethodName := ⟨RX4, "fault", "()I"⟩
abbrev cX4_treaty : ByteArray := prog_1_method_5_code
def yX4_treaty : MethodName := ⟨RX4, "treaty", "()I"⟩
abbrev cX4_about : ByteArray := prog_1_method_6_code
def yX4_about : MethodName := ⟨RX4, "about", "(I)I"⟩
abbrev cX4_article : ByteArray := prog_1_method_7_code
def yX4_article : MethodName := ⟨RX4, "article", "(II)I"⟩
abbrev cX4_mule : ByteArray := prog_1_method_8_code
def yX4_mule : MethodName := ⟨RX4, "mule", "(II)I"⟩
abbrev cX4_by : ByteArray := prog_1_method_9_code
def yX4_by : MethodName := ⟨RX4, "by", "(II)I"⟩
abbrev cX4_balks : ByteArray := prog_1_method_10_code
def yX4_balks : MethodName := ⟨RX4, "balks", "(II)I"⟩
abbrev cX4_step : ByteArray := prog_1_method_11_code
def yX4_step : MethodName := ⟨RX4, "step", "(II)I"⟩
abbrev cX4_pause : ByteArray := prog_1_method_12_code
def yX4_pause : MethodName := ⟨RX4, "pause", "()I"⟩
abbrev cX4_show : ByteArray := prog_1_method_13_code
def yX4_show : MethodName := ⟨RX4, "show", "(III)I"⟩
abbrev cX4_sell : ByteArray := prog_1_method_14_code
def yX4_sell : MethodName := ⟨RX4, "sell", "(I)I"⟩
abbrev cX4_forget : ByteArray := prog_1_method_15_code
def yX4_forget : MethodName := ⟨RX4, "forget", "(I)I"⟩
abbrev cX4_undo : ByteArray := prog_1_method_16_code
def yX4_undo : MethodName := ⟨RX4, "undo", "()I"⟩
abbrev cX4_way : ByteArray := prog_1_method_17_code
def yX4_way : MethodName := ⟨RX4, "way", "(IIZ)I"⟩
abbrev cX4_enclaves : ByteArray := prog_1_method_18_code
def yX4_enclaves : MethodName := ⟨RX4, "enclaves", "(I)I"⟩
abbrev cX4_teach : ByteArray := prog_1_method_19_code
def yX4_teach : MethodName := ⟨RX4, "teach", "(I)I"⟩
abbrev cX4_differ : ByteArray := prog_1_method_20_code
def yX4_differ : MethodName := ⟨RX4, "differ", "(II)I"⟩
abbrev cX4_judge : ByteArray := prog_1_method_21_code
def yX4_judge : MethodName := ⟨RX4, "judge", "(II)I"⟩
abbrev cX4_share : ByteArray := prog_1_method_22_code
def yX4_share : MethodName := ⟨RX4, "share", "(IZ)I"⟩
abbrev cX4_see : ByteArray := prog_1_method_23_code
def yX4_see : MethodName := ⟨RX4, "see", "(IIIII)I"⟩
abbrev cX4_unsee : ByteArray := prog_1_method_24_code
def yX4_unsee : MethodName := ⟨RX4, "unsee", "()I"⟩
abbrev cX4_may : ByteArray := prog_1_method_25_code
def yX4_may : MethodName := ⟨RX4, "may", "(II)I"⟩
abbrev cX4_rests : ByteArray := prog_1_method_26_code
def yX4_rests : MethodName := ⟨RX4, "rests", "(I)I"⟩
abbrev cX4_forgets : ByteArray := prog_1_method_27_code
def yX4_forgets : MethodName := ⟨RX4, "forgets", "(IIIZ)I"⟩
abbrev cX4_seed : ByteArray := prog_1_method_28_code
def yX4_seed : MethodName := ⟨RX4, "seed", "(J)J"⟩
abbrev cX4_years : ByteArray := prog_1_method_29_code
def yX4_years : MethodName := ⟨RX4, "years", "(I)I"⟩
abbrev cX4_keep : ByteArray := prog_1_method_30_code
def yX4_keep : MethodName := ⟨RX4, "keep", "(I)I"⟩
abbrev cX4_again : ByteArray := prog_1_method_31_code
def yX4_again : MethodName := ⟨RX4, "again", "(I)I"⟩
abbrev cX4_isMule : ByteArray := prog_1_method_32_code
def yX4_isMule : MethodName := ⟨RX4, "isMule", "(I)Z"⟩
abbrev cX4_isArticle : ByteArray := prog_1_method_33_code
def yX4_isArticle : MethodName := ⟨RX4, "isArticle", "(I)Z"⟩
abbrev cX4_isStone : ByteArray := prog_1_method_34_code
def yX4_isStone : MethodName := ⟨RX4, "isStone", "(I)Z"⟩
abbrev cX4_isSlot : ByteArray := prog_1_method_35_code
def yX4_isSlot : MethodName := ⟨RX4, "isSlot", "(I)Z"⟩
abbrev cX4_isFlag : ByteArray := prog_1_method_36_code
def yX4_isFlag : MethodName := ⟨RX4, "isFlag", "(I)Z"⟩
abbrev cX4_firstOf : ByteArray := prog_1_method_37_code
def yX4_firstOf : MethodName := ⟨RX4, "firstOf", "(I)I"⟩
abbrev cX4_readPart : ByteArray := prog_1_method_38_code
def yX4_readPart : MethodName := ⟨RX4, "readPart", "(I)V"⟩
abbrev cX4_known : ByteArray := prog_1_method_39_code
def yX4_known : MethodName := ⟨RX4, "known", "(LMulesRemember$State;I)I"⟩
abbrev cX4_knownIfShown : ByteArray := prog_1_method_40_code
def yX4_knownIfShown : MethodName := ⟨RX4, "knownIfShown", "(II)I"⟩
abbrev cX4_mulesThatKnow : ByteArray := prog_1_method_41_code
def yX4_mulesThatKnow : MethodName := ⟨RX4, "mulesThatKnow", "(I)I"⟩
abbrev cX4_stepRefusal : ByteArray := prog_1_method_42_code
def yX4_stepRefusal : MethodName := ⟨RX4, "stepRefusal", "(II)I"⟩
abbrev cX4_nextStone : ByteArray := prog_1_method_43_code
def yX4_nextStone : MethodName := ⟨RX4, "nextStone", "(II)I"⟩
abbrev cX4_forbidders : ByteArray := prog_1_method_44_code
def yX4_forbidders : MethodName := ⟨RX4, "forbidders", "(LMulesRemember$State;II)I"⟩
abbrev cX4_forbiddersFrom : ByteArray := prog_1_method_45_code
def yX4_forbiddersFrom : MethodName := ⟨RX4, "forbiddersFrom", "(LMulesRemember$State;IIII)I"⟩
abbrev cX4_othersFromNorthOf : ByteArray := prog_1_method_46_code
def yX4_othersFromNorthOf : MethodName := ⟨RX4, "othersFromNorthOf", "(LMulesRemember$State;II)I"⟩
abbrev cX4_balkers : ByteArray := prog_1_method_47_code
def yX4_balkers : MethodName := ⟨RX4, "balkers", "(LMulesRemember$State;II)I"⟩
abbrev cX4_wouldGo : ByteArray := prog_1_method_48_code
def yX4_wouldGo : MethodName := ⟨RX4, "wouldGo", "(LMulesRemember$State;II)Z"⟩
abbrev cX4_copyState : ByteArray := prog_1_method_49_code
def yX4_copyState : MethodName := ⟨RX4, "copyState", "(LMulesRemember$State;LMulesRemember$State;)V"⟩
abbrev cX4_rememberAct : ByteArray := prog_1_method_50_code
def yX4_rememberAct : MethodName := ⟨RX4, "rememberAct", "()V"⟩
abbrev cX4_go : ByteArray := prog_1_method_51_code
def yX4_go : MethodName := ⟨RX4, "go", "(LMulesRemember$State;II)V"⟩
abbrev cX4_doneWithoutFault : ByteArray := prog_1_method_52_code
def yX4_doneWithoutFault : MethodName := ⟨RX4, "doneWithoutFault", "(LMulesRemember$State;II)Z"⟩
abbrev cX4_liveThrough : ByteArray := prog_1_method_53_code
def yX4_liveThrough : MethodName := ⟨RX4, "liveThrough", "(LMulesRemember$State;II)V"⟩
abbrev cX4_spread : ByteArray := prog_1_method_54_code
def yX4_spread : MethodName := ⟨RX4, "spread", "(IIII)I"⟩
abbrev cX4_keepsAllIfShown : ByteArray := prog_1_method_55_code
def yX4_keepsAllIfShown : MethodName := ⟨RX4, "keepsAllIfShown", "(II)Z"⟩
abbrev cX4_sixtiethsOfStep : ByteArray := prog_1_method_56_code
def yX4_sixtiethsOfStep : MethodName := ⟨RX4, "sixtiethsOfStep", "(II)I"⟩
abbrev cX4_worthOfString : ByteArray := prog_1_method_57_code
def yX4_worthOfString : MethodName := ⟨RX4, "worthOfString", "()I"⟩
abbrev cX4_gain : ByteArray := prog_1_method_58_code
def yX4_gain : MethodName := ⟨RX4, "gain", "(III)I"⟩
abbrev cX4_isContent : ByteArray := prog_1_method_59_code
def yX4_isContent : MethodName := ⟨RX4, "isContent", "(III)Z"⟩
abbrev cX4_tenthsToBalk : ByteArray := prog_1_method_60_code
def yX4_tenthsToBalk : MethodName := ⟨RX4, "tenthsToBalk", "(III)I"⟩
abbrev cX4_tallyMule : ByteArray := prog_1_method_61_code
def yX4_tallyMule : MethodName := ⟨RX4, "tallyMule", "(I)V"⟩
abbrev cX4_fractionPart : ByteArray := prog_1_method_62_code
def yX4_fractionPart : MethodName := ⟨RX4, "fractionPart", "(IIZ)I"⟩
def RX5 : String := "MulesRememberModel"
def TX5 : u_T := fun k => match k with
  | 0 => ("MulesRememberModel", "thrown", "I", false)
  | 1 => ("MulesRememberModel", "text", "[I", true)
  | 2 => ("MulesRememberModel", "textSize", "I", false)
  | 3 => ("MulesRememberModel", "place", "I", false)
  | 4 => ("MulesRememberModel", "mules", "I", false)
  | 5 => ("MulesRememberModel", "coat", "[I", true)
  | 6 => ("MulesRememberModel", "articles", "I", false)
  | 7 => ("MulesRememberModel", "where", "[I", true)
  | 8 => ("MulesRememberModel", "sort", "[I", true)
  | 9 => ("MulesRememberModel", "value", "[I", true)
  | 10 => ("MulesRememberModel", "readMules", "I", false)
  | 11 => ("MulesRememberModel", "readMule", "[I", true)
  | 12 => ("MulesRememberModel", "readArticles", "I", false)
  | 13 => ("MulesRememberModel", "readArticle", "[I", true)
  | 14 => ("MulesRememberModel", "page", "[I", true)
  | 15 => ("MulesRememberModel", "trial", "[I", true)
  | 16 => ("MulesRememberModel", "book", "[I", true)
  | 17 => ("MulesRememberModel", "acts", "I", false)
  | 18 => ("MulesRememberModel", "kept", "[I", true)
  | 19 => ("MulesRememberModel", "isKept", "[Z", true)
  | 20 => ("MulesRememberModel", "seen", "I", false)
  | 21 => ("MulesRememberModel", "seenStone", "[I", true)
  | 22 => ("MulesRememberModel", "seenCoat", "[I", true)
  | 23 => ("MulesRememberModel", "seenHour", "[I", true)
  | 24 => ("MulesRememberModel", "seenSouth", "[I", true)
  | 25 => ("MulesRememberModel", "seenBalked", "[I", true)
  | 26 => ("MulesRememberModel", "seed", "J", false)
  | 27 => ("MulesRememberModel", "when", "[I", true)
  | 28 => ("MulesRememberModel", "mayMany", "I", false)
  | 29 => ("MulesRememberModel", "mayFirst", "I", false)
  | 30 => ("MulesRememberModel", "restMany", "I", false)
  | 31 => ("MulesRememberModel", "restFirst", "I", false)
  | _ => ("MulesRememberModel", "worth", "[I", true)
def tyX5 : Nat → FieldType := fun k => match k with
  | 0 => .int
  | 1 => .array .int
  | 2 => .int
  | 3 => .int
  | 4 => .int
  | 5 => .array .int
  | 6 => .int
  | 7 => .array .int
  | 8 => .array .int
  | 9 => .array .int
  | 10 => .int
  | 11 => .array .int
  | 12 => .int
  | 13 => .array .int
  | 14 => .array .int
  | 15 => .array .int
  | 16 => .array .int
  | 17 => .int
  | 18 => .array .int
  | 19 => .array .boolean
  | 20 => .int
  | 21 => .array .int
  | 22 => .array .int
  | 23 => .array .int
  | 24 => .array .int
  | 25 => .array .int
  | 26 => .long
  | 27 => .array .int
  | 28 => .int
  | 29 => .int
  | 30 => .int
  | 31 => .int
  | _ => .array .int
abbrev wsX50 : List Cond := u_ws RX5 TX5 33
theorem nmX5 : ∀ a, a < 33 → ∀ b, b < 33 → a ≠ b → (TX5 a).2.1 ≠ (TX5 b).2.1 := by decide +kernel
theorem tyX5_ok : ∀ k, k < 33 → parseFieldDescriptor (TX5 k).2.2.1 = some (tyX5 k) := by decide +kernel
abbrev cX5_init : ByteArray := prog_7_method_1_code
def yX5_init : MethodName := ⟨RX5, "<init>", "()V"⟩
abbrev cX5_in : ByteArray := prog_7_method_3_code
def yX5_in : MethodName := ⟨RX5, "in", "(JJJ)Z"⟩
abbrev cX5_has : ByteArray := prog_7_method_4_code
def yX5_has : MethodName := ⟨RX5, "has", "(II)Z"⟩
abbrev cX5_many : ByteArray := prog_7_method_5_code
def yX5_many : MethodName := ⟨RX5, "many", "(I)I"⟩
abbrev cX5_noMule : ByteArray := prog_7_method_6_code
def yX5_noMule : MethodName := ⟨RX5, "noMule", "(I)Z"⟩
abbrev cX5_noArticle : ByteArray := prog_7_method_7_code
def yX5_noArticle : MethodName := ⟨RX5, "noArticle", "(I)Z"⟩
abbrev cX5_write : ByteArray := prog_7_method_8_code
def yX5_write : MethodName := ⟨RX5, "write", "(I)I"⟩
abbrev cX5_wipe : ByteArray := prog_7_method_9_code
def yX5_wipe : MethodName := ⟨RX5, "wipe", "()I"⟩
abbrev cX5_figure : ByteArray := prog_7_method_10_code
def yX5_figure : MethodName := ⟨RX5, "figure", "(I)I"⟩
abbrev cX5_readOneArticle : ByteArray := prog_7_method_11_code
def yX5_readOneArticle : MethodName := ⟨RX5, "readOneArticle", "()Z"⟩
abbrev cX5_readOneMule : ByteArray := prog_7_method_12_code
def yX5_readOneMule : MethodName := ⟨RX5, "readOneMule", "()Z"⟩
abbrev cX5_readPart : ByteArray := prog_7_method_13_code
def yX5_readPart : MethodName := ⟨RX5, "readPart", "()Z"⟩
abbrev cX5_readTreaty : ByteArray := prog_7_method_14_code
def yX5_readTreaty : MethodName := ⟨RX5, "readTreaty", "()I"⟩
abbrev cX5_fault : ByteArray := prog_7_method_15_code
def yX5_fault : MethodName := ⟨RX5, "fault", "()I"⟩
abbrev cX5_treaty : ByteArray := prog_7_method_16_code
def yX5_treaty : MethodName := ⟨RX5, "treaty", "()I"⟩
abbrev cX5_knows : ByteArray := prog_7_method_17_code
def yX5_knows : MethodName := ⟨RX5, "knows", "([II)I"⟩
abbrev cX5_toStone : ByteArray := prog_7_method_18_code
def yX5_toStone : MethodName := ⟨RX5, "toStone", "([III)I"⟩
abbrev cX5_northern : ByteArray := prog_7_method_19_code
def yX5_northern : MethodName := ⟨RX5, "northern", "([III)I"⟩
abbrev cX5_isBarred : ByteArray := prog_7_method_20_code
def yX5_isBarred : MethodName := ⟨RX5, "isBarred", "(IIIIII)Z"⟩
abbrev cX5_forbids : ByteArray := prog_7_method_21_code
def yX5_forbids : MethodName := ⟨RX5, "forbids", "([III)I"⟩
abbrev cX5_isBalking : ByteArray := prog_7_method_22_code
def yX5_isBalking : MethodName := ⟨RX5, "isBalking", "([III)Z"⟩
abbrev cX5_about : ByteArray := prog_7_method_23_code
def yX5_about : MethodName := ⟨RX5, "about", "(I)I"⟩
abbrev cX5_knowers : ByteArray := prog_7_method_24_code
def yX5_knowers : MethodName := ⟨RX5, "knowers", "(I)I"⟩
abbrev cX5_article : ByteArray := prog_7_method_25_code
def yX5_article : MethodName := ⟨RX5, "article", "(II)I"⟩
abbrev cX5_mule : ByteArray := prog_7_method_26_code
def yX5_mule : MethodName := ⟨RX5, "mule", "(II)I"⟩
abbrev cX5_noStep : ByteArray := prog_7_method_27_code
def yX5_noStep : MethodName := ⟨RX5, "noStep", "(II)I"⟩
abbrev cX5_by : ByteArray := prog_7_method_28_code
def yX5_by : MethodName := ⟨RX5, "by", "(II)I"⟩
abbrev cX5_leastOf : ByteArray := prog_7_method_29_code
def yX5_leastOf : MethodName := ⟨RX5, "leastOf", "(I)I"⟩
abbrev cX5_balks : ByteArray := prog_7_method_30_code
def yX5_balks : MethodName := ⟨RX5, "balks", "(II)I"⟩
abbrev cX5_note : ByteArray := prog_7_method_31_code
def yX5_note : MethodName := ⟨RX5, "note", "()V"⟩
abbrev cX5_go : ByteArray := prog_7_method_32_code
def yX5_go : MethodName := ⟨RX5, "go", "([III)V"⟩
abbrev cX5_step : ByteArray := prog_7_method_33_code
def yX5_step : MethodName := ⟨RX5, "step", "(II)I"⟩
abbrev cX5_pause : ByteArray := prog_7_method_34_code
def yX5_pause : MethodName := ⟨RX5, "pause", "()I"⟩
abbrev cX5_show : ByteArray := prog_7_method_35_code
def yX5_show : MethodName := ⟨RX5, "show", "(III)I"⟩
abbrev cX5_sell : ByteArray := prog_7_method_36_code
def yX5_sell : MethodName := ⟨RX5, "sell", "(I)I"⟩
abbrev cX5_forget : ByteArray := prog_7_method_37_code
def yX5_forget : MethodName := ⟨RX5, "forget", "(I)I"⟩
abbrev cX5_undo : ByteArray := prog_7_method_38_code
def yX5_undo : MethodName := ⟨RX5, "undo", "()I"⟩
abbrev cX5_begin : ByteArray := prog_7_method_39_code
def yX5_begin : MethodName := ⟨RX5, "begin", "()V"⟩
abbrev cX5_layWays : ByteArray := prog_7_method_40_code
def yX5_layWays : MethodName := ⟨RX5, "layWays", "(IZ)V"⟩
abbrev cX5_way : ByteArray := prog_7_method_41_code
def yX5_way : MethodName := ⟨RX5, "way", "(IIZ)I"⟩
abbrev cX5_enclaves : ByteArray := prog_7_method_42_code
def yX5_enclaves : MethodName := ⟨RX5, "enclaves", "(I)I"⟩
abbrev cX5_holdsFast : ByteArray := prog_7_method_43_code
def yX5_holdsFast : MethodName := ⟨RX5, "holdsFast", "(I)Z"⟩
abbrev cX5_teach : ByteArray := prog_7_method_44_code
def yX5_teach : MethodName := ⟨RX5, "teach", "(I)I"⟩
abbrev cX5_differ : ByteArray := prog_7_method_45_code
def yX5_differ : MethodName := ⟨RX5, "differ", "(II)I"⟩
abbrev cX5_power : ByteArray := prog_7_method_46_code
def yX5_power : MethodName := ⟨RX5, "power", "(II)I"⟩
abbrev cX5_does : ByteArray := prog_7_method_47_code
def yX5_does : MethodName := ⟨RX5, "does", "(I)Z"⟩
abbrev cX5_judge : ByteArray := prog_7_method_48_code
def yX5_judge : MethodName := ⟨RX5, "judge", "(II)I"⟩
abbrev cX5_ways : ByteArray := prog_7_method_49_code
def yX5_ways : MethodName := ⟨RX5, "ways", "(I)I"⟩
abbrev cX5_divisor : ByteArray := prog_7_method_50_code
def yX5_divisor : MethodName := ⟨RX5, "divisor", "(II)I"⟩
abbrev cX5_fraction : ByteArray := prog_7_method_51_code
def yX5_fraction : MethodName := ⟨RX5, "fraction", "(IIZ)I"⟩
abbrev cX5_barredBy : ByteArray := prog_7_method_52_code
def yX5_barredBy : MethodName := ⟨RX5, "barredBy", "(I)I"⟩
abbrev cX5_share : ByteArray := prog_7_method_53_code
def yX5_share : MethodName := ⟨RX5, "share", "(IZ)I"⟩
abbrev cX5_see : ByteArray := prog_7_method_54_code
def yX5_see : MethodName := ⟨RX5, "see", "(IIIII)I"⟩
abbrev cX5_unsee : ByteArray := prog_7_method_55_code
def yX5_unsee : MethodName := ⟨RX5, "unsee", "()I"⟩
abbrev cX5_findMay : ByteArray := prog_7_method_56_code
def yX5_findMay : MethodName := ⟨RX5, "findMay", "(I)V"⟩
abbrev cX5_may : ByteArray := prog_7_method_57_code
def yX5_may : MethodName := ⟨RX5, "may", "(II)I"⟩
abbrev cX5_sent : ByteArray := prog_7_method_58_code
def yX5_sent : MethodName := ⟨RX5, "sent", "()I"⟩
abbrev cX5_gain : ByteArray := prog_7_method_59_code
def yX5_gain : MethodName := ⟨RX5, "gain", "(III)I"⟩
abbrev cX5_rests : ByteArray := prog_7_method_60_code
def yX5_rests : MethodName := ⟨RX5, "rests", "(I)I"⟩
abbrev cX5_balkers : ByteArray := prog_7_method_61_code
def yX5_balkers : MethodName := ⟨RX5, "balkers", "(II)I"⟩
abbrev cX5_forgets : ByteArray := prog_7_method_62_code
def yX5_forgets : MethodName := ⟨RX5, "forgets", "(IIIZ)I"⟩
abbrev cX5_seed : ByteArray := prog_7_method_63_code
def yX5_seed : MethodName := ⟨RX5, "seed", "(J)J"⟩
abbrev cX5_years : ByteArray := prog_7_method_64_code
def yX5_years : MethodName := ⟨RX5, "years", "(I)I"⟩
abbrev cX5_keep : ByteArray := prog_7_method_65_code
def yX5_keep : MethodName := ⟨RX5, "keep", "(I)I"⟩
abbrev cX5_again : ByteArray := prog_7_method_66_code
def yX5_again : MethodName := ⟨RX5, "again", "(I)I"⟩
def RJ6 : String := "java/lang/Integer"
def TJ6 : u_T := fun k => match k with
  | _ => ("", "", "", false)
def tyJ6 : Nat → FieldType := fun k => match k with
  | _ => .int
abbrev wsJ60 : List Cond := u_ws RJ6 TJ6 0
theorem nmJ6 : ∀ a, a < 0 → ∀ b, b < 0 → a ≠ b → (TJ6 a).2.1 ≠ (TJ6 b).2.1 := by decide +kernel
theorem tyJ6_ok : ∀ k, k < 0 → parseFieldDescriptor (TJ6 k).2.2.1 = some (tyJ6 k) := by decide +kernel
abbrev cJ6_bitCount_0f7a4 : ByteArray := prog_8_method_49_code
def yJ6_bitCount_0f7a4 : MethodName := ⟨RJ6, "bitCount", "(I)I"⟩
def RL : String := "MulesRememberLaw"
abbrev cL_law : ByteArray := code
def yL_law : MethodName := ⟨RL, "law", "([I)Z"⟩
abbrev vwCl : List vw_C := [(RX0, TX0, 4), (RX1, TX1, 6), (RX2, TX2, 5), (RX3, TX3, 2), (RX4, TX4, 14), (RX5, TX5, 33)]
/-- the words that every method takes with it -/
def rg_tbl : List Cond := lw_tbl.filter goodWord
theorem rg_in {w : Cond} (k : Nat) (h : lw_tbl[k]? = some w) (hg : goodWord w = true) : w ∈ rg_tbl := List.mem_filter.mpr ⟨List.mem_of_getElem? h, hg⟩
theorem rg_sub {ws : List Cond} (ps : List Nat) (hp : ws = ps.filterMap (fun i => lw_tbl[i]?)) (h : ws.all goodWord = true) : ∀ w ∈ ws, w ∈ rg_tbl := by
  intro w hw
  have h1 := List.all_eq_true.mp h w hw
  rw [hp] at hw
  obtain ⟨i, -, hi⟩ := List.mem_filterMap.mp hw
  exact rg_in i hi h1
theorem rg_good {w : Cond} (h : w ∈ rg_tbl) : (w.onTables && w.keeps) = true ∨ ∃ ty, w = .arrayClass ty := good_of_word (List.mem_filter.mp h).2
theorem rg_goodIn {ws : List Cond} (h : ∀ w ∈ ws, w ∈ rg_tbl) : GoodIn rg_tbl ws := fun w hw => ⟨h w hw, rg_good (h w hw)⟩
/-- the links between nest mates -/
def nk_is : Cond → Bool
  | .fieldLinkNest .. => true
  | .methodLinkNest .. => true
  | _ => false
def nk_tbl : List Cond := lw_tbl.filter nk_is
theorem nk_in {w : Cond} (k : Nat) (h : lw_tbl[k]? = some w) (hg : nk_is w = true) : w ∈ nk_tbl := List.mem_filter.mpr ⟨List.mem_of_getElem? h, hg⟩
def NK (U : State) : Prop := ∀ w ∈ nk_tbl, va_Nw w U
theorem NK.warm {s U : State} (hW : s.WarmedH U.vm) (h : NK s) : NK U := by
  intro w hw
  have h1 := h w hw
  have h2 := (List.mem_filter.mp hw).2
  cases w <;> simp only [nk_is, Bool.false_eq_true] at h2
  · first | exact va_Nw.warmF hW h1 | exact va_Nw.warmM hW h1
  · first | exact va_Nw.warmF hW h1 | exact va_Nw.warmM hW h1
theorem nk_on {w : Cond} (h : nk_is w = true) : w.onTables = true := by cases w <;> simp only [nk_is, Bool.false_eq_true] at h <;> rfl
theorem NK.same {u U : State} (he : u.vm = U.vm) (h : NK u) : NK U := fun w hw => va_Nw.same (nk_on (List.mem_filter.mp hw).2) he (h w hw)
theorem NK.of {args : Array Value} {s : State} (h : ∀ w ∈ lw_tbl, w.before args s = true) : NK s := fun w hw => va_Nw.of (nk_on (List.mem_filter.mp hw).2) (h w (List.mem_filter.mp hw).1)
theorem ku_X0 : ∀ w ∈ u_ws RX0 TX0 4, w ∈ rg_tbl := rg_sub [99, 101, 103, 105] (by decide +kernel) (by decide +kernel)
theorem ku_X1 : ∀ w ∈ u_ws RX1 TX1 6, w ∈ rg_tbl := rg_sub [149, 151, 153, 155, 157, 159] (by decide +kernel) (by decide +kernel)
theorem ku_X2 : ∀ w ∈ u_ws RX2 TX2 5, w ∈ rg_tbl := rg_sub [124, 126, 128, 130, 132] (by decide +kernel) (by decide +kernel)
theorem ku_X3 : ∀ w ∈ u_ws RX3 TX3 2, w ∈ rg_tbl := rg_sub [79, 81] (by decide +kernel) (by decide +kernel)
theorem ku_X4 : ∀ w ∈ u_ws RX4 TX4 14, w ∈ rg_tbl := rg_sub [177, 179, 181, 183, 185, 187, 189, 191, 193, 195, 197, 199, 201, 203] (by decide +kernel) (by decide +kernel)
theorem ku_X5 : ∀ w ∈ u_ws RX5 TX5 33, w ∈ rg_tbl := rg_sub [536, 538, 540, 542, 544, 546, 548, 550, 552, 554, 556, 558, 560, 562, 564, 566, 568, 570, 572, 574, 576, 578, 580, 582, 584, 586, 588, 590, 592, 594, 596, 598, 600] (by decide +kernel) (by decide +kernel)
theorem kl_X3_put : Cond.selects "MulesRemember$Text" yX3_put yX3_put ∈ rg_tbl := rg_in 0 (by decide +kernel) (by decide +kernel)
theorem kl_X3_firstFault : Cond.selects "MulesRemember$Text" yX3_firstFault yX3_firstFault ∈ rg_tbl := rg_in 1 (by decide +kernel) (by decide +kernel)
theorem kl_X3_letter : Cond.selects "MulesRemember$Text" yX3_letter yX3_letter ∈ rg_tbl := rg_in 2 (by decide +kernel) (by decide +kernel)
theorem kl_X4_readPart : Cond.selects "MulesRemember" yX4_readPart yX4_readPart ∈ rg_tbl := rg_in 3 (by decide +kernel) (by decide +kernel)
theorem kl_X3_figure : Cond.selects "MulesRemember$Text" yX3_figure yX3_figure ∈ rg_tbl := rg_in 4 (by decide +kernel) (by decide +kernel)
theorem kl_X0_add : Cond.selects "MulesRemember$Law" yX0_add yX0_add ∈ rg_tbl := rg_in 5 (by decide +kernel) (by decide +kernel)
theorem kl_X4_isArticle : Cond.selects "MulesRemember" yX4_isArticle yX4_isArticle ∈ rg_tbl := rg_in 6 (by decide +kernel) (by decide +kernel)
theorem kl_X4_mulesThatKnow : Cond.selects "MulesRemember" yX4_mulesThatKnow yX4_mulesThatKnow ∈ rg_tbl := rg_in 7 (by decide +kernel) (by decide +kernel)
theorem kl_X4_known : Cond.selects "MulesRemember" yX4_known yX4_known ∈ rg_tbl := rg_in 8 (by decide +kernel) (by decide +kernel)
theorem kl_X4_isMule : Cond.selects "MulesRemember" yX4_isMule yX4_isMule ∈ rg_tbl := rg_in 9 (by decide +kernel) (by decide +kernel)
theorem kl_X4_knownIfShown : Cond.selects "MulesRemember" yX4_knownIfShown yX4_knownIfShown ∈ rg_tbl := rg_in 10 (by decide +kernel) (by decide +kernel)
theorem kl_X0_all : Cond.selects "MulesRemember$Law" yX0_all yX0_all ∈ rg_tbl := rg_in 11 (by decide +kernel) (by decide +kernel)
theorem kl_X0_last : Cond.selects "MulesRemember$Law" yX0_last yX0_last ∈ rg_tbl := rg_in 12 (by decide +kernel) (by decide +kernel)
theorem kl_X4_stepRefusal : Cond.selects "MulesRemember" yX4_stepRefusal yX4_stepRefusal ∈ rg_tbl := rg_in 13 (by decide +kernel) (by decide +kernel)
theorem kl_X4_forbidders : Cond.selects "MulesRemember" yX4_forbidders yX4_forbidders ∈ rg_tbl := rg_in 14 (by decide +kernel) (by decide +kernel)
theorem kl_X4_forbiddersFrom : Cond.selects "MulesRemember" yX4_forbiddersFrom yX4_forbiddersFrom ∈ rg_tbl := rg_in 15 (by decide +kernel) (by decide +kernel)
theorem kl_X4_othersFromNorthOf : Cond.selects "MulesRemember" yX4_othersFromNorthOf yX4_othersFromNorthOf ∈ rg_tbl := rg_in 16 (by decide +kernel) (by decide +kernel)
theorem kl_X0_forbids : Cond.selects "MulesRemember$Law" yX0_forbids yX0_forbids ∈ rg_tbl := rg_in 17 (by decide +kernel) (by decide +kernel)
theorem kl_X4_balkers : Cond.selects "MulesRemember" yX4_balkers yX4_balkers ∈ rg_tbl := rg_in 18 (by decide +kernel) (by decide +kernel)
theorem kl_X4_wouldGo : Cond.selects "MulesRemember" yX4_wouldGo yX4_wouldGo ∈ rg_tbl := rg_in 19 (by decide +kernel) (by decide +kernel)
theorem kl_X4_rememberAct : Cond.selects "MulesRemember" yX4_rememberAct yX4_rememberAct ∈ rg_tbl := rg_in 20 (by decide +kernel) (by decide +kernel)
theorem kl_X4_go : Cond.selects "MulesRemember" yX4_go yX4_go ∈ rg_tbl := rg_in 21 (by decide +kernel) (by decide +kernel)
theorem kl_X4_spread : Cond.selects "MulesRemember" yX4_spread yX4_spread ∈ rg_tbl := rg_in 22 (by decide +kernel) (by decide +kernel)
theorem kl_X4_keepsAllIfShown : Cond.selects "MulesRemember" yX4_keepsAllIfShown yX4_keepsAllIfShown ∈ rg_tbl := rg_in 23 (by decide +kernel) (by decide +kernel)
theorem kl_X4_doneWithoutFault : Cond.selects "MulesRemember" yX4_doneWithoutFault yX4_doneWithoutFault ∈ rg_tbl := rg_in 24 (by decide +kernel) (by decide +kernel)
theorem kl_X1_add : Cond.selects "MulesRemember$Sightings" yX1_add yX1_add ∈ rg_tbl := rg_in 25 (by decide +kernel) (by decide +kernel)
theorem kl_X1_agreeWith : Cond.selects "MulesRemember$Sightings" yX1_agreeWith yX1_agreeWith ∈ rg_tbl := rg_in 26 (by decide +kernel) (by decide +kernel)
theorem kl_X4_worthOfString : Cond.selects "MulesRemember" yX4_worthOfString yX4_worthOfString ∈ rg_tbl := rg_in 27 (by decide +kernel) (by decide +kernel)
theorem kl_X4_tenthsToBalk : Cond.selects "MulesRemember" yX4_tenthsToBalk yX4_tenthsToBalk ∈ rg_tbl := rg_in 28 (by decide +kernel) (by decide +kernel)
theorem kl_X4_tallyMule : Cond.selects "MulesRemember" yX4_tallyMule yX4_tallyMule ∈ rg_tbl := rg_in 29 (by decide +kernel) (by decide +kernel)
theorem kl_X4_liveThrough : Cond.selects "MulesRemember" yX4_liveThrough yX4_liveThrough ∈ rg_tbl := rg_in 30 (by decide +kernel) (by decide +kernel)
theorem kl_X5_readTreaty : Cond.selects "MulesRememberModel" yX5_readTreaty yX5_readTreaty ∈ rg_tbl := rg_in 31 (by decide +kernel) (by decide +kernel)
theorem kl_X5_readPart : Cond.selects "MulesRememberModel" yX5_readPart yX5_readPart ∈ rg_tbl := rg_in 32 (by decide +kernel) (by decide +kernel)
theorem kl_X5_readOneArticle : Cond.selects "MulesRememberModel" yX5_readOneArticle yX5_readOneArticle ∈ rg_tbl := rg_in 33 (by decide +kernel) (by decide +kernel)
theorem kl_X5_figure : Cond.selects "MulesRememberModel" yX5_figure yX5_figure ∈ rg_tbl := rg_in 34 (by decide +kernel) (by decide +kernel)
theorem kl_X5_readOneMule : Cond.selects "MulesRememberModel" yX5_readOneMule yX5_readOneMule ∈ rg_tbl := rg_in 35 (by decide +kernel) (by decide +kernel)
theorem kl_X5_noArticle : Cond.selects "MulesRememberModel" yX5_noArticle yX5_noArticle ∈ rg_tbl := rg_in 36 (by decide +kernel) (by decide +kernel)
theorem kl_X5_knowers : Cond.selects "MulesRememberModel" yX5_knowers yX5_knowers ∈ rg_tbl := rg_in 37 (by decide +kernel) (by decide +kernel)
theorem kl_X5_knows : Cond.selects "MulesRememberModel" yX5_knows yX5_knows ∈ rg_tbl := rg_in 38 (by decide +kernel) (by decide +kernel)
theorem kl_X5_noMule : Cond.selects "MulesRememberModel" yX5_noMule yX5_noMule ∈ rg_tbl := rg_in 39 (by decide +kernel) (by decide +kernel)
theorem kl_X5_noStep : Cond.selects "MulesRememberModel" yX5_noStep yX5_noStep ∈ rg_tbl := rg_in 40 (by decide +kernel) (by decide +kernel)
theorem kl_X5_forbids : Cond.selects "MulesRememberModel" yX5_forbids yX5_forbids ∈ rg_tbl := rg_in 41 (by decide +kernel) (by decide +kernel)
theorem kl_X5_northern : Cond.selects "MulesRememberModel" yX5_northern yX5_northern ∈ rg_tbl := rg_in 42 (by decide +kernel) (by decide +kernel)
theorem kl_X5_isBalking : Cond.selects "MulesRememberModel" yX5_isBalking yX5_isBalking ∈ rg_tbl := rg_in 43 (by decide +kernel) (by decide +kernel)
theorem kl_X5_note : Cond.selects "MulesRememberModel" yX5_note yX5_note ∈ rg_tbl := rg_in 44 (by decide +kernel) (by decide +kernel)
theorem kl_X5_go : Cond.selects "MulesRememberModel" yX5_go yX5_go ∈ rg_tbl := rg_in 45 (by decide +kernel) (by decide +kernel)
theorem kl_X5_layWays : Cond.selects "MulesRememberModel" yX5_layWays yX5_layWays ∈ rg_tbl := rg_in 46 (by decide +kernel) (by decide +kernel)
theorem kl_X5_begin : Cond.selects "MulesRememberModel" yX5_begin yX5_begin ∈ rg_tbl := rg_in 47 (by decide +kernel) (by decide +kernel)
theorem kl_X5_holdsFast : Cond.selects "MulesRememberModel" yX5_holdsFast yX5_holdsFast ∈ rg_tbl := rg_in 48 (by decide +kernel) (by decide +kernel)
theorem kl_X5_does : Cond.selects "MulesRememberModel" yX5_does yX5_does ∈ rg_tbl := rg_in 49 (by decide +kernel) (by decide +kernel)
theorem kl_X5_barredBy : Cond.selects "MulesRememberModel" yX5_barredBy yX5_barredBy ∈ rg_tbl := rg_in 50 (by decide +kernel) (by decide +kernel)
theorem kl_X5_findMay : Cond.selects "MulesRememberModel" yX5_findMay yX5_findMay ∈ rg_tbl := rg_in 51 (by decide +kernel) (by decide +kernel)
theorem kl_X5_sent : Cond.selects "MulesRememberModel" yX5_sent yX5_sent ∈ rg_tbl := rg_in 52 (by decide +kernel) (by decide +kernel)
theorem kl_X5_balkers : Cond.selects "MulesRememberModel" yX5_balkers yX5_balkers ∈ rg_tbl := rg_in 53 (by decide +kernel) (by decide +kernel)
theorem ki_L : Cond.initialized "MulesRememberLaw" ∈ rg_tbl := rg_in 54 (by decide +kernel) (by decide +kernel)
theorem ki_X4 : Cond.initialized "MulesRemember" ∈ rg_tbl := rg_in 55 (by decide +kernel) (by decide +kernel)
theorem ki_X3 : Cond.initialized "MulesRemember$Text" ∈ rg_tbl := rg_in 56 (by decide +kernel) (by decide +kernel)
theorem ki_X0 : Cond.initialized "MulesRemember$Law" ∈ rg_tbl := rg_in 57 (by decide +kernel) (by decide +kernel)
theorem ki_X2 : Cond.initialized "MulesRemember$State" ∈ rg_tbl := rg_in 58 (by decide +kernel) (by decide +kernel)
theorem ki_X1 : Cond.initialized "MulesRemember$Sightings" ∈ rg_tbl := rg_in 59 (by decide +kernel) (by decide +kernel)
theorem ki_X5 : Cond.initialized "MulesRememberModel" ∈ rg_tbl := rg_in 60 (by decide +kernel) (by decide +kernel)
theorem ki_J6 : Cond.initialized "java/lang/Integer" ∈ rg_tbl := rg_in 61 (by decide +kernel) (by decide +kernel)
theorem kc_L_7 : Cond.classLink "MulesRememberLaw" 7 "MulesRemember" ∈ rg_tbl := rg_in 62 (by decide +kernel) (by decide +kernel)
theorem kt_X4 : Cond.instantiable "MulesRemember" 14 ∈ rg_tbl := rg_in 63 (by decide +kernel) (by decide +kernel)
theorem kw_L_9 : Cond.methodLink "MulesRememberLaw" 9 yX4_init ∈ rg_tbl := rg_in 64 (by decide +kernel) (by decide +kernel)
theorem km_X4_init : Cond.instanceMethod yX4_init ∈ rg_tbl := rg_in 65 (by decide +kernel) (by decide +kernel)
theorem kd_X4_init : Cond.code yX4_init cX4_init 2 none ∈ rg_tbl := rg_in 66 (by decide +kernel) (by decide +kernel)
theorem kw_X4_1 : Cond.methodLink "MulesRemember" 1 objectInit ∈ rg_tbl := rg_in 67 (by decide +kernel) (by decide +kernel)
theorem km_objectInit : Cond.instanceMethod objectInit ∈ rg_tbl := rg_in 68 (by decide +kernel) (by decide +kernel)
theorem kd_objectInit : Cond.code objectInit ⟨#[0xb1]⟩ 1 none ∈ rg_tbl := rg_in 69 (by decide +kernel) (by decide +kernel)
theorem kc_X4_7 : Cond.classLink "MulesRemember" 7 "MulesRemember$Text" ∈ rg_tbl := rg_in 70 (by decide +kernel) (by decide +kernel)
theorem kt_X3 : Cond.instantiable "MulesRemember$Text" 2 ∈ rg_tbl := rg_in 71 (by decide +kernel) (by decide +kernel)
theorem kn_X4_9 : Cond.methodLinkNest "MulesRemember" 9 yX3_init "MulesRemember" ∈ nk_tbl := nk_in 72 (by decide +kernel) (by decide +kernel)
theorem km_X3_init : Cond.instanceMethod yX3_init ∈ rg_tbl := rg_in 73 (by decide +kernel) (by decide +kernel)
theorem kd_X3_init : Cond.code yX3_init cX3_init 1 none ∈ rg_tbl := rg_in 74 (by decide +kernel) (by decide +kernel)
theorem kw_X3_3 : Cond.methodLink "MulesRemember$Text" 3 objectInit ∈ rg_tbl := rg_in 75 (by decide +kernel) (by decide +kernel)
theorem kw_X3_9 : Cond.fieldLink "MulesRemember$Text" 9 "MulesRemember$Text" "letters" "[I" ∈ rg_tbl := rg_in 76 (by decide +kernel) (by decide +kernel)
theorem kw_X3_15 : Cond.fieldLink "MulesRemember$Text" 15 "MulesRemember$Text" "length" "I" ∈ rg_tbl := rg_in 77 (by decide +kernel) (by decide +kernel)
theorem kn_X4_76 : Cond.fieldLinkNest "MulesRemember" 76 "MulesRemember$Text" "length" "I" "MulesRemember" ∈ nk_tbl := nk_in 78 (by decide +kernel) (by decide +kernel)
theorem ka_int : Cond.arrayClass .int ∈ rg_tbl := rg_in 84 (by decide +kernel) (by decide +kernel)
theorem kc_X4_16 : Cond.classLink "MulesRemember" 16 "MulesRemember$Law" ∈ rg_tbl := rg_in 85 (by decide +kernel) (by decide +kernel)
theorem kt_X0 : Cond.instantiable "MulesRemember$Law" 4 ∈ rg_tbl := rg_in 86 (by decide +kernel) (by decide +kernel)
theorem kn_X4_18 : Cond.methodLinkNest "MulesRemember" 18 yX0_init "MulesRemember" ∈ nk_tbl := nk_in 87 (by decide +kernel) (by decide +kernel)
theorem km_X0_init : Cond.instanceMethod yX0_init ∈ rg_tbl := rg_in 88 (by decide +kernel) (by decide +kernel)
theorem kd_X0_init : Cond.code yX0_init cX0_init 1 none ∈ rg_tbl := rg_in 89 (by decide +kernel) (by decide +kernel)
theorem kw_X0_3 : Cond.methodLink "MulesRemember$Law" 3 objectInit ∈ rg_tbl := rg_in 90 (by decide +kernel) (by decide +kernel)
theorem kw_X0_9 : Cond.fieldLink "MulesRemember$Law" 9 "MulesRemember$Law" "stone" "[I" ∈ rg_tbl := rg_in 91 (by decide +kernel) (by decide +kernel)
theorem kn_X4_100 : Cond.fieldLinkNest "MulesRemember" 100 "MulesRemember$Law" "stone" "[I" "MulesRemember" ∈ nk_tbl := nk_in 92 (by decide +kernel) (by decide +kernel)
theorem kw_X0_15 : Cond.fieldLink "MulesRemember$Law" 15 "MulesRemember$Law" "sort" "[I" ∈ rg_tbl := rg_in 93 (by decide +kernel) (by decide +kernel)
theorem kn_X4_103 : Cond.fieldLinkNest "MulesRemember" 103 "MulesRemember$Law" "sort" "[I" "MulesRemember" ∈ nk_tbl := nk_in 94 (by decide +kernel) (by decide +kernel)
theorem kw_X0_18 : Cond.fieldLink "MulesRemember$Law" 18 "MulesRemember$Law" "value" "[I" ∈ rg_tbl := rg_in 95 (by decide +kernel) (by decide +kernel)
theorem kn_X4_106 : Cond.fieldLinkNest "MulesRemember" 106 "MulesRemember$Law" "value" "[I" "MulesRemember" ∈ nk_tbl := nk_in 96 (by decide +kernel) (by decide +kernel)
theorem kw_X0_21 : Cond.fieldLink "MulesRemember$Law" 21 "MulesRemember$Law" "count" "I" ∈ rg_tbl := rg_in 97 (by decide +kernel) (by decide +kernel)
theorem kn_X4_83 : Cond.fieldLinkNest "MulesRemember" 83 "MulesRemember$Law" "count" "I" "MulesRemember" ∈ nk_tbl := nk_in 98 (by decide +kernel) (by decide +kernel)
theorem kc_X4_31 : Cond.classLink "MulesRemember" 31 "MulesRemember$State" ∈ rg_tbl := rg_in 108 (by decide +kernel) (by decide +kernel)
theorem kt_X2 : Cond.instantiable "MulesRemember$State" 5 ∈ rg_tbl := rg_in 109 (by decide +kernel) (by decide +kernel)
theorem kn_X4_33 : Cond.methodLinkNest "MulesRemember" 33 yX2_init "MulesRemember" ∈ nk_tbl := nk_in 110 (by decide +kernel) (by decide +kernel)
theorem km_X2_init : Cond.instanceMethod yX2_init ∈ rg_tbl := rg_in 111 (by decide +kernel) (by decide +kernel)
theorem kd_X2_init : Cond.code yX2_init cX2_init 1 none ∈ rg_tbl := rg_in 112 (by decide +kernel) (by decide +kernel)
theorem kw_X2_3 : Cond.methodLink "MulesRemember$State" 3 objectInit ∈ rg_tbl := rg_in 113 (by decide +kernel) (by decide +kernel)
theorem kw_X2_9 : Cond.fieldLink "MulesRemember$State" 9 "MulesRemember$State" "stone" "[I" ∈ rg_tbl := rg_in 114 (by decide +kernel) (by decide +kernel)
theorem kn_X4_116 : Cond.fieldLinkNest "MulesRemember" 116 "MulesRemember$State" "stone" "[I" "MulesRemember" ∈ nk_tbl := nk_in 115 (by decide +kernel) (by decide +kernel)
theorem kw_X2_15 : Cond.fieldLink "MulesRemember$State" 15 "MulesRemember$State" "kind" "[I" ∈ rg_tbl := rg_in 116 (by decide +kernel) (by decide +kernel)
theorem kn_X4_117 : Cond.fieldLinkNest "MulesRemember" 117 "MulesRemember$State" "kind" "[I" "MulesRemember" ∈ nk_tbl := nk_in 117 (by decide +kernel) (by decide +kernel)
theorem kw_X2_18 : Cond.fieldLink "MulesRemember$State" 18 "MulesRemember$State" "shown" "[I" ∈ rg_tbl := rg_in 118 (by decide +kernel) (by decide +kernel)
theorem kn_X4_120 : Cond.fieldLinkNest "MulesRemember" 120 "MulesRemember$State" "shown" "[I" "MulesRemember" ∈ nk_tbl := nk_in 119 (by decide +kernel) (by decide +kernel)
theorem kw_X2_21 : Cond.fieldLink "MulesRemember$State" 21 "MulesRemember$State" "hour" "I" ∈ rg_tbl := rg_in 120 (by decide +kernel) (by decide +kernel)
theorem kn_X4_86 : Cond.fieldLinkNest "MulesRemember" 86 "MulesRemember$State" "hour" "I" "MulesRemember" ∈ nk_tbl := nk_in 121 (by decide +kernel) (by decide +kernel)
theorem kw_X2_25 : Cond.fieldLink "MulesRemember$State" 25 "MulesRemember$State" "broken" "I" ∈ rg_tbl := rg_in 122 (by decide +kernel) (by decide +kernel)
theorem kn_X4_89 : Cond.fieldLinkNest "MulesRemember" 89 "MulesRemember$State" "broken" "I" "MulesRemember" ∈ nk_tbl := nk_in 123 (by decide +kernel) (by decide +kernel)
theorem kc_X4_58 : Cond.classLink "MulesRemember" 58 "MulesRemember$Sightings" ∈ rg_tbl := rg_in 136 (by decide +kernel) (by decide +kernel)
theorem kt_X1 : Cond.instantiable "MulesRemember$Sightings" 6 ∈ rg_tbl := rg_in 137 (by decide +kernel) (by decide +kernel)
theorem kn_X4_60 : Cond.methodLinkNest "MulesRemember" 60 yX1_init "MulesRemember" ∈ nk_tbl := nk_in 138 (by decide +kernel) (by decide +kernel)
theorem km_X1_init : Cond.instanceMethod yX1_init ∈ rg_tbl := rg_in 139 (by decide +kernel) (by decide +kernel)
theorem kd_X1_init : Cond.code yX1_init cX1_init 1 none ∈ rg_tbl := rg_in 140 (by decide +kernel) (by decide +kernel)
theorem kw_X1_3 : Cond.methodLink "MulesRemember$Sightings" 3 objectInit ∈ rg_tbl := rg_in 141 (by decide +kernel) (by decide +kernel)
theorem kw_X1_9 : Cond.fieldLink "MulesRemember$Sightings" 9 "MulesRemember$Sightings" "stone" "[I" ∈ rg_tbl := rg_in 142 (by decide +kernel) (by decide +kernel)
theorem kw_X1_15 : Cond.fieldLink "MulesRemember$Sightings" 15 "MulesRemember$Sightings" "coat" "[I" ∈ rg_tbl := rg_in 143 (by decide +kernel) (by decide +kernel)
theorem kw_X1_18 : Cond.fieldLink "MulesRemember$Sightings" 18 "MulesRemember$Sightings" "hour" "[I" ∈ rg_tbl := rg_in 144 (by decide +kernel) (by decide +kernel)
theorem kw_X1_21 : Cond.fieldLink "MulesRemember$Sightings" 21 "MulesRemember$Sightings" "south" "[I" ∈ rg_tbl := rg_in 145 (by decide +kernel) (by decide +kernel)
theorem kw_X1_24 : Cond.fieldLink "MulesRemember$Sightings" 24 "MulesRemember$Sightings" "balked" "[I" ∈ rg_tbl := rg_in 146 (by decide +kernel) (by decide +kernel)
theorem kw_X1_27 : Cond.fieldLink "MulesRemember$Sightings" 27 "MulesRemember$Sightings" "count" "I" ∈ rg_tbl := rg_in 147 (by decide +kernel) (by decide +kernel)
theorem kn_X4_96 : Cond.fieldLinkNest "MulesRemember" 96 "MulesRemember$Sightings" "count" "I" "MulesRemember" ∈ nk_tbl := nk_in 148 (by decide +kernel) (by decide +kernel)
theorem ka_boolean : Cond.arrayClass .boolean ∈ rg_tbl := rg_in 162 (by decide +kernel) (by decide +kernel)
theorem kw_X4_10 : Cond.fieldLink "MulesRemember" 10 "MulesRemember" "text" "LMulesRemember$Text;" ∈ rg_tbl := rg_in 163 (by decide +kernel) (by decide +kernel)
theorem kw_X4_19 : Cond.fieldLink "MulesRemember" 19 "MulesRemember" "law" "LMulesRemember$Law;" ∈ rg_tbl := rg_in 164 (by decide +kernel) (by decide +kernel)
theorem kw_X4_23 : Cond.fieldLink "MulesRemember" 23 "MulesRemember" "coats" "[I" ∈ rg_tbl := rg_in 165 (by decide +kernel) (by decide +kernel)
theorem kw_X4_27 : Cond.fieldLink "MulesRemember" 27 "MulesRemember" "muleCount" "I" ∈ rg_tbl := rg_in 166 (by decide +kernel) (by decide +kernel)
theorem kw_X4_34 : Cond.fieldLink "MulesRemember" 34 "MulesRemember" "now" "LMulesRemember$State;" ∈ rg_tbl := rg_in 167 (by decide +kernel) (by decide +kernel)
theorem kw_X4_38 : Cond.fieldLink "MulesRemember" 38 "MulesRemember" "tried" "LMulesRemember$State;" ∈ rg_tbl := rg_in 168 (by decide +kernel) (by decide +kernel)
theorem kw_X4_41 : Cond.fieldLink "MulesRemember" 41 "MulesRemember" "acts" "[LMulesRemember$State;" ∈ rg_tbl := rg_in 169 (by decide +kernel) (by decide +kernel)
theorem kw_X4_45 : Cond.fieldLink "MulesRemember" 45 "MulesRemember" "firstAct" "I" ∈ rg_tbl := rg_in 170 (by decide +kernel) (by decide +kernel)
theorem kw_X4_48 : Cond.fieldLink "MulesRemember" 48 "MulesRemember" "actCount" "I" ∈ rg_tbl := rg_in 171 (by decide +kernel) (by decide +kernel)
theorem kw_X4_51 : Cond.fieldLink "MulesRemember" 51 "MulesRemember" "slots" "[LMulesRemember$State;" ∈ rg_tbl := rg_in 172 (by decide +kernel) (by decide +kernel)
theorem kw_X4_54 : Cond.fieldLink "MulesRemember" 54 "MulesRemember" "kept" "[Z" ∈ rg_tbl := rg_in 173 (by decide +kernel) (by decide +kernel)
theorem kw_X4_61 : Cond.fieldLink "MulesRemember" 61 "MulesRemember" "sightings" "LMulesRemember$Sightings;" ∈ rg_tbl := rg_in 174 (by decide +kernel) (by decide +kernel)
theorem kw_X4_65 : Cond.fieldLink "MulesRemember" 65 "MulesRemember" "tally" "[I" ∈ rg_tbl := rg_in 175 (by decide +kernel) (by decide +kernel)
theorem kw_X4_68 : Cond.fieldLink "MulesRemember" 68 "MulesRemember" "theSeed" "J" ∈ rg_tbl := rg_in 176 (by decide +kernel) (by decide +kernel)
theorem kw_L_13 : Cond.methodLink "MulesRememberLaw" 13 yX4_write ∈ rg_tbl := rg_in 206 (by decide +kernel) (by decide +kernel)
theorem km_X4_write : Cond.instanceMethod yX4_write ∈ rg_tbl := rg_in 207 (by decide +kernel) (by decide +kernel)
theorem kl_X4_write : Cond.selects "MulesRemember" yX4_write yX4_write ∈ rg_tbl := rg_in 208 (by decide +kernel) (by decide +kernel)
theorem kd_X4_write : Cond.code yX4_write cX4_write 2 (some .int) ∈ rg_tbl := rg_in 209 (by decide +kernel) (by decide +kernel)
theorem kn_X4_72 : Cond.methodLinkNest "MulesRemember" 72 yX3_put "MulesRemember" ∈ nk_tbl := nk_in 210 (by decide +kernel) (by decide +kernel)
theorem km_X3_put : Cond.instanceMethod yX3_put ∈ rg_tbl := rg_in 212 (by decide +kernel) (by decide +kernel)
theorem kd_X3_put : Cond.code yX3_put cX3_put 2 (some .boolean) ∈ rg_tbl := rg_in 213 (by decide +kernel) (by decide +kernel)
theorem kw_L_18 : Cond.methodLink "MulesRememberLaw" 18 yX4_wipe ∈ rg_tbl := rg_in 214 (by decide +kernel) (by decide +kernel)
theorem km_X4_wipe : Cond.instanceMethod yX4_wipe ∈ rg_tbl := rg_in 215 (by decide +kernel) (by decide +kernel)
theorem kl_X4_wipe : Cond.selects "MulesRemember" yX4_wipe yX4_wipe ∈ rg_tbl := rg_in 216 (by decide +kernel) (by decide +kernel)
theorem kd_X4_wipe : Cond.code yX4_wipe cX4_wipe 2 (some .int) ∈ rg_tbl := rg_in 217 (by decide +kernel) (by decide +kernel)
theorem kw_L_23 : Cond.methodLink "MulesRememberLaw" 23 yX4_fault ∈ rg_tbl := rg_in 218 (by decide +kernel) (by decide +kernel)
theorem km_X4_fault : Cond.instanceMethod yX4_fault ∈ rg_tbl := rg_in 219 (by decide +kernel) (by decide +kernel)
theorem kl_X4_fault : Cond.selects "MulesRemember" yX4_fault yX4_fault ∈ rg_tbl := rg_in 220 (by decide +kernel) (by decide +kernel)
theorem kd_X4_fault : Cond.code yX4_fault cX4_fault 1 (some .int) ∈ rg_tbl := rg_in 221 (by decide +kernel) (by decide +kernel)
theorem kn_X4_79 : Cond.methodLinkNest "MulesRemember" 79 yX3_firstFault "MulesRemember" ∈ nk_tbl := nk_in 222 (by decide +kernel) (by decide +kernel)
theorem km_X3_firstFault : Cond.instanceMethod yX3_firstFault ∈ rg_tbl := rg_in 224 (by decide +kernel) (by decide +kernel)
theorem kd_X3_firstFault : Cond.code yX3_firstFault cX3_firstFault 8 (some .int) ∈ rg_tbl := rg_in 225 (by decide +kernel) (by decide +kernel)
theorem kw_X3_19 : Cond.methodLink "MulesRemember$Text" 19 yX3_letter ∈ rg_tbl := rg_in 226 (by decide +kernel) (by decide +kernel)
theorem km_X3_letter : Cond.instanceMethod yX3_letter ∈ rg_tbl := rg_in 228 (by decide +kernel) (by decide +kernel)
theorem kd_X3_letter : Cond.code yX3_letter cX3_letter 2 (some .int) ∈ rg_tbl := rg_in 229 (by decide +kernel) (by decide +kernel)
theorem kw_X3_23 : Cond.methodLink "MulesRemember$Text" 23 yX3_figuresAt ∈ rg_tbl := rg_in 230 (by decide +kernel) (by decide +kernel)
theorem ks_X3_figuresAt : Cond.static yX3_figuresAt ∈ rg_tbl := rg_in 231 (by decide +kernel) (by decide +kernel)
theorem kd_X3_figuresAt : Cond.code yX3_figuresAt cX3_figuresAt 2 (some .int) ∈ rg_tbl := rg_in 232 (by decide +kernel) (by decide +kernel)
theorem kw_L_27 : Cond.methodLink "MulesRememberLaw" 27 yX4_treaty ∈ rg_tbl := rg_in 233 (by decide +kernel) (by decide +kernel)
theorem km_X4_treaty : Cond.instanceMethod yX4_treaty ∈ rg_tbl := rg_in 234 (by decide +kernel) (by decide +kernel)
theorem kl_X4_treaty : Cond.selects "MulesRemember" yX4_treaty yX4_treaty ∈ rg_tbl := rg_in 235 (by decide +kernel) (by decide +kernel)
theorem kd_X4_treaty : Cond.code yX4_treaty cX4_treaty 2 (some .int) ∈ rg_tbl := rg_in 236 (by decide +kernel) (by decide +kernel)
theorem kw_X4_92 : Cond.methodLink "MulesRemember" 92 yX4_readPart ∈ rg_tbl := rg_in 237 (by decide +kernel) (by decide +kernel)
theorem km_X4_readPart : Cond.instanceMethod yX4_readPart ∈ rg_tbl := rg_in 239 (by decide +kernel) (by decide +kernel)
theorem kd_X4_readPart : Cond.code yX4_readPart cX4_readPart 5 none ∈ rg_tbl := rg_in 240 (by decide +kernel) (by decide +kernel)
theorem kn_X4_221 : Cond.methodLinkNest "MulesRemember" 221 yX3_figure "MulesRemember" ∈ nk_tbl := nk_in 241 (by decide +kernel) (by decide +kernel)
theorem km_X3_figure : Cond.instanceMethod yX3_figure ∈ rg_tbl := rg_in 243 (by decide +kernel) (by decide +kernel)
theorem kd_X3_figure : Cond.code yX3_figure cX3_figure 2 (some .int) ∈ rg_tbl := rg_in 244 (by decide +kernel) (by decide +kernel)
theorem kn_X4_224 : Cond.methodLinkNest "MulesRemember" 224 yX3_letter "MulesRemember" ∈ nk_tbl := nk_in 245 (by decide +kernel) (by decide +kernel)
theorem kn_X4_227 : Cond.methodLinkNest "MulesRemember" 227 yX0_add "MulesRemember" ∈ nk_tbl := nk_in 246 (by decide +kernel) (by decide +kernel)
theorem km_X0_add : Cond.instanceMethod yX0_add ∈ rg_tbl := rg_in 248 (by decide +kernel) (by decide +kernel)
theorem kd_X0_add : Cond.code yX0_add cX0_add 4 none ∈ rg_tbl := rg_in 249 (by decide +kernel) (by decide +kernel)
theorem kw_L_31 : Cond.methodLink "MulesRememberLaw" 31 yX4_about ∈ rg_tbl := rg_in 250 (by decide +kernel) (by decide +kernel)
theorem km_X4_about : Cond.instanceMethod yX4_about ∈ rg_tbl := rg_in 251 (by decide +kernel) (by decide +kernel)
theorem kl_X4_about : Cond.selects "MulesRemember" yX4_about yX4_about ∈ rg_tbl := rg_in 252 (by decide +kernel) (by decide +kernel)
theorem kd_X4_about : Cond.code yX4_about cX4_about 2 (some .int) ∈ rg_tbl := rg_in 253 (by decide +kernel) (by decide +kernel)
theorem kw_L_35 : Cond.methodLink "MulesRememberLaw" 35 yX4_article ∈ rg_tbl := rg_in 254 (by decide +kernel) (by decide +kernel)
theorem km_X4_article : Cond.instanceMethod yX4_article ∈ rg_tbl := rg_in 255 (by decide +kernel) (by decide +kernel)
theorem kl_X4_article : Cond.selects "MulesRemember" yX4_article yX4_article ∈ rg_tbl := rg_in 256 (by decide +kernel) (by decide +kernel)
theorem kd_X4_article : Cond.code yX4_article cX4_article 3 (some .int) ∈ rg_tbl := rg_in 257 (by decide +kernel) (by decide +kernel)
theorem kw_X4_97 : Cond.methodLink "MulesRemember" 97 yX4_isArticle ∈ rg_tbl := rg_in 258 (by decide +kernel) (by decide +kernel)
theorem km_X4_isArticle : Cond.instanceMethod yX4_isArticle ∈ rg_tbl := rg_in 260 (by decide +kernel) (by decide +kernel)
theorem kd_X4_isArticle : Cond.code yX4_isArticle cX4_isArticle 2 (some .boolean) ∈ rg_tbl := rg_in 261 (by decide +kernel) (by decide +kernel)
theorem kw_X4_109 : Cond.methodLink "MulesRemember" 109 yX4_mulesThatKnow ∈ rg_tbl := rg_in 262 (by decide +kernel) (by decide +kernel)
theorem km_X4_mulesThatKnow : Cond.instanceMethod yX4_mulesThatKnow ∈ rg_tbl := rg_in 264 (by decide +kernel) (by decide +kernel)
theorem kd_X4_mulesThatKnow : Cond.code yX4_mulesThatKnow cX4_mulesThatKnow 4 (some .int) ∈ rg_tbl := rg_in 265 (by decide +kernel) (by decide +kernel)
theorem kw_X4_123 : Cond.methodLink "MulesRemember" 123 yX4_known ∈ rg_tbl := rg_in 266 (by decide +kernel) (by decide +kernel)
theorem km_X4_known : Cond.instanceMethod yX4_known ∈ rg_tbl := rg_in 268 (by decide +kernel) (by decide +kernel)
theorem kd_X4_known : Cond.code yX4_known cX4_known 3 (some .int) ∈ rg_tbl := rg_in 269 (by decide +kernel) (by decide +kernel)
theorem kw_X4_113 : Cond.methodLink "MulesRemember" 113 yX4_isMule ∈ rg_tbl := rg_in 270 (by decide +kernel) (by decide +kernel)
theorem km_X4_isMule : Cond.instanceMethod yX4_isMule ∈ rg_tbl := rg_in 272 (by decide +kernel) (by decide +kernel)
theorem kd_X4_isMule : Cond.code yX4_isMule cX4_isMule 2 (some .boolean) ∈ rg_tbl := rg_in 273 (by decide +kernel) (by decide +kernel)
theorem kw_X4_230 : Cond.methodLink "MulesRemember" 230 yX4_knownIfShown ∈ rg_tbl := rg_in 274 (by decide +kernel) (by decide +kernel)
theorem km_X4_knownIfShown : Cond.instanceMethod yX4_knownIfShown ∈ rg_tbl := rg_in 276 (by decide +kernel) (by decide +kernel)
theorem kd_X4_knownIfShown : Cond.code yX4_knownIfShown cX4_knownIfShown 4 (some .int) ∈ rg_tbl := rg_in 277 (by decide +kernel) (by decide +kernel)
theorem kn_X4_164 : Cond.methodLinkNest "MulesRemember" 164 yX0_all "MulesRemember" ∈ nk_tbl := nk_in 278 (by decide +kernel) (by decide +kernel)
theorem km_X0_all : Cond.instanceMethod yX0_all ∈ rg_tbl := rg_in 280 (by decide +kernel) (by decide +kernel)
theorem kd_X0_all : Cond.code yX0_all cX0_all 1 (some .int) ∈ rg_tbl := rg_in 281 (by decide +kernel) (by decide +kernel)
theorem kn_X4_233 : Cond.methodLinkNest "MulesRemember" 233 yX0_last "MulesRemember" ∈ nk_tbl := nk_in 282 (by decide +kernel) (by decide +kernel)
theorem km_X0_last : Cond.instanceMethod yX0_last ∈ rg_tbl := rg_in 284 (by decide +kernel) (by decide +kernel)
theorem kd_X0_last : Cond.code yX0_last cX0_last 1 (some .int) ∈ rg_tbl := rg_in 285 (by decide +kernel) (by decide +kernel)
theorem kw_L_40 : Cond.methodLink "MulesRememberLaw" 40 yX4_mule ∈ rg_tbl := rg_in 286 (by decide +kernel) (by decide +kernel)
theorem km_X4_mule : Cond.instanceMethod yX4_mule ∈ rg_tbl := rg_in 287 (by decide +kernel) (by decide +kernel)
theorem kl_X4_mule : Cond.selects "MulesRemember" yX4_mule yX4_mule ∈ rg_tbl := rg_in 288 (by decide +kernel) (by decide +kernel)
theorem kd_X4_mule : Cond.code yX4_mule cX4_mule 3 (some .int) ∈ rg_tbl := rg_in 289 (by decide +kernel) (by decide +kernel)
theorem kw_L_44 : Cond.methodLink "MulesRememberLaw" 44 yX4_by ∈ rg_tbl := rg_in 290 (by decide +kernel) (by decide +kernel)
theorem km_X4_by : Cond.instanceMethod yX4_by ∈ rg_tbl := rg_in 291 (by decide +kernel) (by decide +kernel)
theorem kl_X4_by : Cond.selects "MulesRemember" yX4_by yX4_by ∈ rg_tbl := rg_in 292 (by decide +kernel) (by decide +kernel)
theorem kd_X4_by : Cond.code yX4_by cX4_by 4 (some .int) ∈ rg_tbl := rg_in 293 (by decide +kernel) (by decide +kernel)
theorem kw_X4_127 : Cond.methodLink "MulesRemember" 127 yX4_stepRefusal ∈ rg_tbl := rg_in 294 (by decide +kernel) (by decide +kernel)
theorem km_X4_stepRefusal : Cond.instanceMethod yX4_stepRefusal ∈ rg_tbl := rg_in 296 (by decide +kernel) (by decide +kernel)
theorem kd_X4_stepRefusal : Cond.code yX4_stepRefusal cX4_stepRefusal 3 (some .int) ∈ rg_tbl := rg_in 297 (by decide +kernel) (by decide +kernel)
theorem kw_X4_185 : Cond.methodLink "MulesRemember" 185 yX4_isFlag ∈ rg_tbl := rg_in 298 (by decide +kernel) (by decide +kernel)
theorem ks_X4_isFlag : Cond.static yX4_isFlag ∈ rg_tbl := rg_in 299 (by decide +kernel) (by decide +kernel)
theorem kd_X4_isFlag : Cond.code yX4_isFlag cX4_isFlag 1 (some .boolean) ∈ rg_tbl := rg_in 300 (by decide +kernel) (by decide +kernel)
theorem kw_X4_236 : Cond.methodLink "MulesRemember" 236 yX4_nextStone ∈ rg_tbl := rg_in 301 (by decide +kernel) (by decide +kernel)
theorem ks_X4_nextStone : Cond.static yX4_nextStone ∈ rg_tbl := rg_in 302 (by decide +kernel) (by decide +kernel)
theorem kd_X4_nextStone : Cond.code yX4_nextStone cX4_nextStone 2 (some .int) ∈ rg_tbl := rg_in 303 (by decide +kernel) (by decide +kernel)
theorem kw_X4_161 : Cond.methodLink "MulesRemember" 161 yX4_isStone ∈ rg_tbl := rg_in 304 (by decide +kernel) (by decide +kernel)
theorem ks_X4_isStone : Cond.static yX4_isStone ∈ rg_tbl := rg_in 305 (by decide +kernel) (by decide +kernel)
theorem kd_X4_isStone : Cond.code yX4_isStone cX4_isStone 1 (some .boolean) ∈ rg_tbl := rg_in 306 (by decide +kernel) (by decide +kernel)
theorem kw_X4_131 : Cond.methodLink "MulesRemember" 131 yX4_forbidders ∈ rg_tbl := rg_in 307 (by decide +kernel) (by decide +kernel)
theorem km_X4_forbidders : Cond.instanceMethod yX4_forbidders ∈ rg_tbl := rg_in 309 (by decide +kernel) (by decide +kernel)
theorem kd_X4_forbidders : Cond.code yX4_forbidders cX4_forbidders 4 (some .int) ∈ rg_tbl := rg_in 310 (by decide +kernel) (by decide +kernel)
theorem kw_X4_239 : Cond.methodLink "MulesRemember" 239 yX4_forbiddersFrom ∈ rg_tbl := rg_in 311 (by decide +kernel) (by decide +kernel)
theorem km_X4_forbiddersFrom : Cond.instanceMethod yX4_forbiddersFrom ∈ rg_tbl := rg_in 313 (by decide +kernel) (by decide +kernel)
theorem kd_X4_forbiddersFrom : Cond.code yX4_forbiddersFrom cX4_forbiddersFrom 10 (some .int) ∈ rg_tbl := rg_in 314 (by decide +kernel) (by decide +kernel)
theorem kw_X4_243 : Cond.methodLink "MulesRemember" 243 yX4_othersFromNorthOf ∈ rg_tbl := rg_in 315 (by decide +kernel) (by decide +kernel)
theorem km_X4_othersFromNorthOf : Cond.instanceMethod yX4_othersFromNorthOf ∈ rg_tbl := rg_in 317 (by decide +kernel) (by decide +kernel)
theorem kd_X4_othersFromNorthOf : Cond.code yX4_othersFromNorthOf cX4_othersFromNorthOf 6 (some .int) ∈ rg_tbl := rg_in 318 (by decide +kernel) (by decide +kernel)
theorem kn_X4_246 : Cond.methodLinkNest "MulesRemember" 246 yX0_forbids "MulesRemember" ∈ nk_tbl := nk_in 319 (by decide +kernel) (by decide +kernel)
theorem km_X0_forbids : Cond.instanceMethod yX0_forbids ∈ rg_tbl := rg_in 321 (by decide +kernel) (by decide +kernel)
theorem kd_X0_forbids : Cond.code yX0_forbids cX0_forbids 7 (some .boolean) ∈ rg_tbl := rg_in 322 (by decide +kernel) (by decide +kernel)
theorem kw_X0_25 : Cond.methodLink "MulesRemember$Law" 25 yX0_forbidsAlone ∈ rg_tbl := rg_in 323 (by decide +kernel) (by decide +kernel)
theorem ks_X0_forbidsAlone : Cond.static yX0_forbidsAlone ∈ rg_tbl := rg_in 324 (by decide +kernel) (by decide +kernel)
theorem kd_X0_forbidsAlone : Cond.code yX0_forbidsAlone cX0_forbidsAlone 5 (some .boolean) ∈ rg_tbl := rg_in 325 (by decide +kernel) (by decide +kernel)
theorem kw_L_48 : Cond.methodLink "MulesRememberLaw" 48 yX4_balks ∈ rg_tbl := rg_in 326 (by decide +kernel) (by decide +kernel)
theorem km_X4_balks : Cond.instanceMethod yX4_balks ∈ rg_tbl := rg_in 327 (by decide +kernel) (by decide +kernel)
theorem kl_X4_balks : Cond.selects "MulesRemember" yX4_balks yX4_balks ∈ rg_tbl := rg_in 328 (by decide +kernel) (by decide +kernel)
theorem kd_X4_balks : Cond.code yX4_balks cX4_balks 4 (some .int) ∈ rg_tbl := rg_in 329 (by decide +kernel) (by decide +kernel)
theorem kw_X4_135 : Cond.methodLink "MulesRemember" 135 yX4_balkers ∈ rg_tbl := rg_in 330 (by decide +kernel) (by decide +kernel)
theorem km_X4_balkers : Cond.instanceMethod yX4_balkers ∈ rg_tbl := rg_in 332 (by decide +kernel) (by decide +kernel)
theorem kd_X4_balkers : Cond.code yX4_balkers cX4_balkers 5 (some .int) ∈ rg_tbl := rg_in 333 (by decide +kernel) (by decide +kernel)
theorem kw_X4_138 : Cond.methodLink "MulesRemember" 138 yX4_firstOf ∈ rg_tbl := rg_in 334 (by decide +kernel) (by decide +kernel)
theorem ks_X4_firstOf : Cond.static yX4_firstOf ∈ rg_tbl := rg_in 335 (by decide +kernel) (by decide +kernel)
theorem kd_X4_firstOf : Cond.code yX4_firstOf cX4_firstOf 2 (some .int) ∈ rg_tbl := rg_in 336 (by decide +kernel) (by decide +kernel)
theorem kw_L_52 : Cond.methodLink "MulesRememberLaw" 52 yX4_step ∈ rg_tbl := rg_in 337 (by decide +kernel) (by decide +kernel)
theorem km_X4_step : Cond.instanceMethod yX4_step ∈ rg_tbl := rg_in 338 (by decide +kernel) (by decide +kernel)
theorem kl_X4_step : Cond.selects "MulesRemember" yX4_step yX4_step ∈ rg_tbl := rg_in 339 (by decide +kernel) (by decide +kernel)
theorem kd_X4_step : Cond.code yX4_step cX4_step 4 (some .int) ∈ rg_tbl := rg_in 340 (by decide +kernel) (by decide +kernel)
theorem kw_X4_141 : Cond.methodLink "MulesRemember" 141 yX4_wouldGo ∈ rg_tbl := rg_in 341 (by decide +kernel) (by decide +kernel)
theorem km_X4_wouldGo : Cond.instanceMethod yX4_wouldGo ∈ rg_tbl := rg_in 343 (by decide +kernel) (by decide +kernel)
theorem kd_X4_wouldGo : Cond.code yX4_wouldGo cX4_wouldGo 5 (some .boolean) ∈ rg_tbl := rg_in 344 (by decide +kernel) (by decide +kernel)
theorem kw_X4_145 : Cond.methodLink "MulesRemember" 145 yX4_rememberAct ∈ rg_tbl := rg_in 345 (by decide +kernel) (by decide +kernel)
theorem km_X4_rememberAct : Cond.instanceMethod yX4_rememberAct ∈ rg_tbl := rg_in 347 (by decide +kernel) (by decide +kernel)
theorem kd_X4_rememberAct : Cond.code yX4_rememberAct cX4_rememberAct 1 none ∈ rg_tbl := rg_in 348 (by decide +kernel) (by decide +kernel)
theorem kw_X4_157 : Cond.methodLink "MulesRemember" 157 yX4_copyState ∈ rg_tbl := rg_in 349 (by decide +kernel) (by decide +kernel)
theorem ks_X4_copyState : Cond.static yX4_copyState ∈ rg_tbl := rg_in 350 (by decide +kernel) (by decide +kernel)
theorem kd_X4_copyState : Cond.code yX4_copyState cX4_copyState 3 none ∈ rg_tbl := rg_in 351 (by decide +kernel) (by decide +kernel)
theorem kw_X4_148 : Cond.methodLink "MulesRemember" 148 yX4_go ∈ rg_tbl := rg_in 352 (by decide +kernel) (by decide +kernel)
theorem km_X4_go : Cond.instanceMethod yX4_go ∈ rg_tbl := rg_in 354 (by decide +kernel) (by decide +kernel)
theorem kd_X4_go : Cond.code yX4_go cX4_go 5 none ∈ rg_tbl := rg_in 355 (by decide +kernel) (by decide +kernel)
theorem kw_X4_152 : Cond.methodLink "MulesRemember" 152 yJ6_bitCount_0f7a4 ∈ rg_tbl := rg_in 356 (by decide +kernel) (by decide +kernel)
theorem ks_J6_bitCount_0f7a4 : Cond.static yJ6_bitCount_0f7a4 ∈ rg_tbl := rg_in 357 (by decide +kernel) (by decide +kernel)
theorem kd_J6_bitCount_0f7a4 : Cond.code yJ6_bitCount_0f7a4 cJ6_bitCount_0f7a4 1 (some .int) ∈ rg_tbl := rg_in 358 (by decide +kernel) (by decide +kernel)
theorem kw_J6_265 : Cond.constant "java/lang/Integer" 265 1431655765 ∈ rg_tbl := rg_in 359 (by decide +kernel) (by decide +kernel)
theorem kw_J6_266 : Cond.constant "java/lang/Integer" 266 858993459 ∈ rg_tbl := rg_in 360 (by decide +kernel) (by decide +kernel)
theorem kw_J6_267 : Cond.constant "java/lang/Integer" 267 252645135 ∈ rg_tbl := rg_in 361 (by decide +kernel) (by decide +kernel)
theorem kw_L_56 : Cond.methodLink "MulesRememberLaw" 56 yX4_pause ∈ rg_tbl := rg_in 362 (by decide +kernel) (by decide +kernel)
theorem km_X4_pause : Cond.instanceMethod yX4_pause ∈ rg_tbl := rg_in 363 (by decide +kernel) (by decide +kernel)
theorem kl_X4_pause : Cond.selects "MulesRemember" yX4_pause yX4_pause ∈ rg_tbl := rg_in 364 (by decide +kernel) (by decide +kernel)
theorem kd_X4_pause : Cond.code yX4_pause cX4_pause 1 (some .int) ∈ rg_tbl := rg_in 365 (by decide +kernel) (by decide +kernel)
theorem kw_L_60 : Cond.methodLink "MulesRememberLaw" 60 yX4_show ∈ rg_tbl := rg_in 366 (by decide +kernel) (by decide +kernel)
theorem km_X4_show : Cond.instanceMethod yX4_show ∈ rg_tbl := rg_in 367 (by decide +kernel) (by decide +kernel)
theorem kl_X4_show : Cond.selects "MulesRemember" yX4_show yX4_show ∈ rg_tbl := rg_in 368 (by decide +kernel) (by decide +kernel)
theorem kd_X4_show : Cond.code yX4_show cX4_show 6 (some .int) ∈ rg_tbl := rg_in 369 (by decide +kernel) (by decide +kernel)
theorem kw_L_65 : Cond.methodLink "MulesRememberLaw" 65 yX4_sell ∈ rg_tbl := rg_in 370 (by decide +kernel) (by decide +kernel)
theorem km_X4_sell : Cond.instanceMethod yX4_sell ∈ rg_tbl := rg_in 371 (by decide +kernel) (by decide +kernel)
theorem kl_X4_sell : Cond.selects "MulesRemember" yX4_sell yX4_sell ∈ rg_tbl := rg_in 372 (by decide +kernel) (by decide +kernel)
theorem kd_X4_sell : Cond.code yX4_sell cX4_sell 3 (some .int) ∈ rg_tbl := rg_in 373 (by decide +kernel) (by decide +kernel)
theorem kw_L_69 : Cond.methodLink "MulesRememberLaw" 69 yX4_forget ∈ rg_tbl := rg_in 374 (by decide +kernel) (by decide +kernel)
theorem km_X4_forget : Cond.instanceMethod yX4_forget ∈ rg_tbl := rg_in 375 (by decide +kernel) (by decide +kernel)
theorem kl_X4_forget : Cond.selects "MulesRemember" yX4_forget yX4_forget ∈ rg_tbl := rg_in 376 (by decide +kernel) (by decide +kernel)
theorem kd_X4_forget : Cond.code yX4_forget cX4_forget 3 (some .int) ∈ rg_tbl := rg_in 377 (by decide +kernel) (by decide +kernel)
theorem kw_L_73 : Cond.methodLink "MulesRememberLaw" 73 yX4_undo ∈ rg_tbl := rg_in 378 (by decide +kernel) (by decide +kernel)
theorem km_X4_undo : Cond.instanceMethod yX4_undo ∈ rg_tbl := rg_in 379 (by decide +kernel) (by decide +kernel)
theorem kl_X4_undo : Cond.selects "MulesRemember" yX4_undo yX4_undo ∈ rg_tbl := rg_in 380 (by decide +kernel) (by decide +kernel)
theorem kd_X4_undo : Cond.code yX4_undo cX4_undo 1 (some .int) ∈ rg_tbl := rg_in 381 (by decide +kernel) (by decide +kernel)
theorem kw_L_77 : Cond.methodLink "MulesRememberLaw" 77 yX4_way ∈ rg_tbl := rg_in 382 (by decide +kernel) (by decide +kernel)
theorem km_X4_way : Cond.instanceMethod yX4_way ∈ rg_tbl := rg_in 383 (by decide +kernel) (by decide +kernel)
theorem kl_X4_way : Cond.selects "MulesRemember" yX4_way yX4_way ∈ rg_tbl := rg_in 384 (by decide +kernel) (by decide +kernel)
theorem kd_X4_way : Cond.code yX4_way cX4_way 7 (some .int) ∈ rg_tbl := rg_in 385 (by decide +kernel) (by decide +kernel)
theorem kw_X4_167 : Cond.methodLink "MulesRemember" 167 yX4_spread ∈ rg_tbl := rg_in 386 (by decide +kernel) (by decide +kernel)
theorem km_X4_spread : Cond.instanceMethod yX4_spread ∈ rg_tbl := rg_in 388 (by decide +kernel) (by decide +kernel)
theorem kd_X4_spread : Cond.code yX4_spread cX4_spread 9 (some .int) ∈ rg_tbl := rg_in 389 (by decide +kernel) (by decide +kernel)
theorem kw_L_82 : Cond.methodLink "MulesRememberLaw" 82 yX4_enclaves ∈ rg_tbl := rg_in 390 (by decide +kernel) (by decide +kernel)
theorem km_X4_enclaves : Cond.instanceMethod yX4_enclaves ∈ rg_tbl := rg_in 391 (by decide +kernel) (by decide +kernel)
theorem kl_X4_enclaves : Cond.selects "MulesRemember" yX4_enclaves yX4_enclaves ∈ rg_tbl := rg_in 392 (by decide +kernel) (by decide +kernel)
theorem kd_X4_enclaves : Cond.code yX4_enclaves cX4_enclaves 5 (some .int) ∈ rg_tbl := rg_in 393 (by decide +kernel) (by decide +kernel)
theorem kw_L_86 : Cond.methodLink "MulesRememberLaw" 86 yX4_teach ∈ rg_tbl := rg_in 394 (by decide +kernel) (by decide +kernel)
theorem km_X4_teach : Cond.instanceMethod yX4_teach ∈ rg_tbl := rg_in 395 (by decide +kernel) (by decide +kernel)
theorem kl_X4_teach : Cond.selects "MulesRemember" yX4_teach yX4_teach ∈ rg_tbl := rg_in 396 (by decide +kernel) (by decide +kernel)
theorem kd_X4_teach : Cond.code yX4_teach cX4_teach 7 (some .int) ∈ rg_tbl := rg_in 397 (by decide +kernel) (by decide +kernel)
theorem kw_X4_171 : Cond.methodLink "MulesRemember" 171 yX4_keepsAllIfShown ∈ rg_tbl := rg_in 398 (by decide +kernel) (by decide +kernel)
theorem km_X4_keepsAllIfShown : Cond.instanceMethod yX4_keepsAllIfShown ∈ rg_tbl := rg_in 400 (by decide +kernel) (by decide +kernel)
theorem kd_X4_keepsAllIfShown : Cond.code yX4_keepsAllIfShown cX4_keepsAllIfShown 6 (some .boolean) ∈ rg_tbl := rg_in 401 (by decide +kernel) (by decide +kernel)
theorem kw_L_90 : Cond.methodLink "MulesRememberLaw" 90 yX4_differ ∈ rg_tbl := rg_in 402 (by decide +kernel) (by decide +kernel)
theorem km_X4_differ : Cond.instanceMethod yX4_differ ∈ rg_tbl := rg_in 403 (by decide +kernel) (by decide +kernel)
theorem kl_X4_differ : Cond.selects "MulesRemember" yX4_differ yX4_differ ∈ rg_tbl := rg_in 404 (by decide +kernel) (by decide +kernel)
theorem kd_X4_differ : Cond.code yX4_differ cX4_differ 3 (some .int) ∈ rg_tbl := rg_in 405 (by decide +kernel) (by decide +kernel)
theorem kw_L_94 : Cond.methodLink "MulesRememberLaw" 94 yX4_judge ∈ rg_tbl := rg_in 406 (by decide +kernel) (by decide +kernel)
theorem km_X4_judge : Cond.instanceMethod yX4_judge ∈ rg_tbl := rg_in 407 (by decide +kernel) (by decide +kernel)
theorem kl_X4_judge : Cond.selects "MulesRemember" yX4_judge yX4_judge ∈ rg_tbl := rg_in 408 (by decide +kernel) (by decide +kernel)
theorem kd_X4_judge : Cond.code yX4_judge cX4_judge 6 (some .int) ∈ rg_tbl := rg_in 409 (by decide +kernel) (by decide +kernel)
theorem kw_X4_175 : Cond.methodLink "MulesRemember" 175 yX4_doneWithoutFault ∈ rg_tbl := rg_in 410 (by decide +kernel) (by decide +kernel)
theorem km_X4_doneWithoutFault : Cond.instanceMethod yX4_doneWithoutFault ∈ rg_tbl := rg_in 412 (by decide +kernel) (by decide +kernel)
theorem kd_X4_doneWithoutFault : Cond.code yX4_doneWithoutFault cX4_doneWithoutFault 5 (some .boolean) ∈ rg_tbl := rg_in 413 (by decide +kernel) (by decide +kernel)
theorem kw_L_98 : Cond.methodLink "MulesRememberLaw" 98 yX4_share ∈ rg_tbl := rg_in 414 (by decide +kernel) (by decide +kernel)
theorem km_X4_share : Cond.instanceMethod yX4_share ∈ rg_tbl := rg_in 415 (by decide +kernel) (by decide +kernel)
theorem kl_X4_share : Cond.selects "MulesRemember" yX4_share yX4_share ∈ rg_tbl := rg_in 416 (by decide +kernel) (by decide +kernel)
theorem kd_X4_share : Cond.code yX4_share cX4_share 6 (some .int) ∈ rg_tbl := rg_in 417 (by decide +kernel) (by decide +kernel)
theorem kw_X4_178 : Cond.methodLink "MulesRemember" 178 yX4_sixtiethsOfStep ∈ rg_tbl := rg_in 418 (by decide +kernel) (by decide +kernel)
theorem ks_X4_sixtiethsOfStep : Cond.static yX4_sixtiethsOfStep ∈ rg_tbl := rg_in 419 (by decide +kernel) (by decide +kernel)
theorem kd_X4_sixtiethsOfStep : Cond.code yX4_sixtiethsOfStep cX4_sixtiethsOfStep 3 (some .int) ∈ rg_tbl := rg_in 420 (by decide +kernel) (by decide +kernel)
theorem kw_X4_181 : Cond.methodLink "MulesRemember" 181 yX4_fractionPart ∈ rg_tbl := rg_in 421 (by decide +kernel) (by decide +kernel)
theorem ks_X4_fractionPart : Cond.static yX4_fractionPart ∈ rg_tbl := rg_in 422 (by decide +kernel) (by decide +kernel)
theorem kd_X4_fractionPart : Cond.code yX4_fractionPart cX4_fractionPart 7 (some .int) ∈ rg_tbl := rg_in 423 (by decide +kernel) (by decide +kernel)
theorem kw_L_103 : Cond.methodLink "MulesRememberLaw" 103 yX4_see ∈ rg_tbl := rg_in 424 (by decide +kernel) (by decide +kernel)
theorem km_X4_see : Cond.instanceMethod yX4_see ∈ rg_tbl := rg_in 425 (by decide +kernel) (by decide +kernel)
theorem kl_X4_see : Cond.selects "MulesRemember" yX4_see yX4_see ∈ rg_tbl := rg_in 426 (by decide +kernel) (by decide +kernel)
theorem kd_X4_see : Cond.code yX4_see cX4_see 6 (some .int) ∈ rg_tbl := rg_in 427 (by decide +kernel) (by decide +kernel)
theorem kn_X4_188 : Cond.methodLinkNest "MulesRemember" 188 yX1_add "MulesRemember" ∈ nk_tbl := nk_in 428 (by decide +kernel) (by decide +kernel)
theorem km_X1_add : Cond.instanceMethod yX1_add ∈ rg_tbl := rg_in 430 (by decide +kernel) (by decide +kernel)
theorem kd_X1_add : Cond.code yX1_add cX1_add 6 (some .boolean) ∈ rg_tbl := rg_in 431 (by decide +kernel) (by decide +kernel)
theorem kw_L_108 : Cond.methodLink "MulesRememberLaw" 108 yX4_unsee ∈ rg_tbl := rg_in 432 (by decide +kernel) (by decide +kernel)
theorem km_X4_unsee : Cond.instanceMethod yX4_unsee ∈ rg_tbl := rg_in 433 (by decide +kernel) (by decide +kernel)
theorem kl_X4_unsee : Cond.selects "MulesRemember" yX4_unsee yX4_unsee ∈ rg_tbl := rg_in 434 (by decide +kernel) (by decide +kernel)
theorem kd_X4_unsee : Cond.code yX4_unsee cX4_unsee 2 (some .int) ∈ rg_tbl := rg_in 435 (by decide +kernel) (by decide +kernel)
theorem kw_L_112 : Cond.methodLink "MulesRememberLaw" 112 yX4_may ∈ rg_tbl := rg_in 436 (by decide +kernel) (by decide +kernel)
theorem km_X4_may : Cond.instanceMethod yX4_may ∈ rg_tbl := rg_in 437 (by decide +kernel) (by decide +kernel)
theorem kl_X4_may : Cond.selects "MulesRemember" yX4_may yX4_may ∈ rg_tbl := rg_in 438 (by decide +kernel) (by decide +kernel)
theorem kd_X4_may : Cond.code yX4_may cX4_may 7 (some .int) ∈ rg_tbl := rg_in 439 (by decide +kernel) (by decide +kernel)
theorem kn_X4_192 : Cond.methodLinkNest "MulesRemember" 192 yX1_agreeWith "MulesRemember" ∈ nk_tbl := nk_in 440 (by decide +kernel) (by decide +kernel)
theorem km_X1_agreeWith : Cond.instanceMethod yX1_agreeWith ∈ rg_tbl := rg_in 442 (by decide +kernel) (by decide +kernel)
theorem kd_X1_agreeWith : Cond.code yX1_agreeWith cX1_agreeWith 6 (some .boolean) ∈ rg_tbl := rg_in 443 (by decide +kernel) (by decide +kernel)
theorem kn_X1_31 : Cond.methodLinkNest "MulesRemember$Sightings" 31 yX0_forbidsAlone "MulesRemember" ∈ nk_tbl := nk_in 444 (by decide +kernel) (by decide +kernel)
theorem kw_L_116 : Cond.methodLink "MulesRememberLaw" 116 yX4_rests ∈ rg_tbl := rg_in 445 (by decide +kernel) (by decide +kernel)
theorem km_X4_rests : Cond.instanceMethod yX4_rests ∈ rg_tbl := rg_in 446 (by decide +kernel) (by decide +kernel)
theorem kl_X4_rests : Cond.selects "MulesRemember" yX4_rests yX4_rests ∈ rg_tbl := rg_in 447 (by decide +kernel) (by decide +kernel)
theorem kd_X4_rests : Cond.code yX4_rests cX4_rests 7 (some .int) ∈ rg_tbl := rg_in 448 (by decide +kernel) (by decide +kernel)
theorem kw_X4_196 : Cond.methodLink "MulesRemember" 196 yX4_worthOfString ∈ rg_tbl := rg_in 449 (by decide +kernel) (by decide +kernel)
theorem km_X4_worthOfString : Cond.instanceMethod yX4_worthOfString ∈ rg_tbl := rg_in 451 (by decide +kernel) (by decide +kernel)
theorem kd_X4_worthOfString : Cond.code yX4_worthOfString cX4_worthOfString 4 (some .int) ∈ rg_tbl := rg_in 452 (by decide +kernel) (by decide +kernel)
theorem kw_X4_199 : Cond.methodLink "MulesRemember" 199 yX4_isContent ∈ rg_tbl := rg_in 453 (by decide +kernel) (by decide +kernel)
theorem ks_X4_isContent : Cond.static yX4_isContent ∈ rg_tbl := rg_in 454 (by decide +kernel) (by decide +kernel)
theorem kd_X4_isContent : Cond.code yX4_isContent cX4_isContent 3 (some .boolean) ∈ rg_tbl := rg_in 455 (by decide +kernel) (by decide +kernel)
theorem kw_X4_250 : Cond.methodLink "MulesRemember" 250 yX4_gain ∈ rg_tbl := rg_in 456 (by decide +kernel) (by decide +kernel)
theorem ks_X4_gain : Cond.static yX4_gain ∈ rg_tbl := rg_in 457 (by decide +kernel) (by decide +kernel)
theorem kd_X4_gain : Cond.code yX4_gain cX4_gain 3 (some .int) ∈ rg_tbl := rg_in 458 (by decide +kernel) (by decide +kernel)
theorem kw_L_120 : Cond.methodLink "MulesRememberLaw" 120 yX4_forgets ∈ rg_tbl := rg_in 459 (by decide +kernel) (by decide +kernel)
theorem km_X4_forgets : Cond.instanceMethod yX4_forgets ∈ rg_tbl := rg_in 460 (by decide +kernel) (by decide +kernel)
theorem kl_X4_forgets : Cond.selects "MulesRemember" yX4_forgets yX4_forgets ∈ rg_tbl := rg_in 461 (by decide +kernel) (by decide +kernel)
theorem kd_X4_forgets : Cond.code yX4_forgets cX4_forgets 8 (some .int) ∈ rg_tbl := rg_in 462 (by decide +kernel) (by decide +kernel)
theorem kw_X4_202 : Cond.methodLink "MulesRemember" 202 yX4_tenthsToBalk ∈ rg_tbl := rg_in 463 (by decide +kernel) (by decide +kernel)
theorem km_X4_tenthsToBalk : Cond.instanceMethod yX4_tenthsToBalk ∈ rg_tbl := rg_in 465 (by decide +kernel) (by decide +kernel)
theorem kd_X4_tenthsToBalk : Cond.code yX4_tenthsToBalk cX4_tenthsToBalk 7 (some .int) ∈ rg_tbl := rg_in 466 (by decide +kernel) (by decide +kernel)
theorem kw_X4_206 : Cond.methodLink "MulesRemember" 206 yX4_tallyMule ∈ rg_tbl := rg_in 467 (by decide +kernel) (by decide +kernel)
theorem km_X4_tallyMule : Cond.instanceMethod yX4_tallyMule ∈ rg_tbl := rg_in 469 (by decide +kernel) (by decide +kernel)
theorem kd_X4_tallyMule : Cond.code yX4_tallyMule cX4_tallyMule 3 none ∈ rg_tbl := rg_in 470 (by decide +kernel) (by decide +kernel)
theorem kw_L_127 : Cond.methodLink "MulesRememberLaw" 127 yX4_seed ∈ rg_tbl := rg_in 471 (by decide +kernel) (by decide +kernel)
theorem km_X4_seed : Cond.instanceMethod yX4_seed ∈ rg_tbl := rg_in 472 (by decide +kernel) (by decide +kernel)
theorem kl_X4_seed : Cond.selects "MulesRemember" yX4_seed yX4_seed ∈ rg_tbl := rg_in 473 (by decide +kernel) (by decide +kernel)
theorem kd_X4_seed : Cond.code yX4_seed cX4_seed 5 (some .long) ∈ rg_tbl := rg_in 474 (by decide +kernel) (by decide +kernel)
theorem kw_L_132 : Cond.methodLink "MulesRememberLaw" 132 yX4_years ∈ rg_tbl := rg_in 475 (by decide +kernel) (by decide +kernel)
theorem km_X4_years : Cond.instanceMethod yX4_years ∈ rg_tbl := rg_in 476 (by decide +kernel) (by decide +kernel)
theorem kl_X4_years : Cond.selects "MulesRemember" yX4_years yX4_years ∈ rg_tbl := rg_in 477 (by decide +kernel) (by decide +kernel)
theorem kd_X4_years : Cond.code yX4_years cX4_years 4 (some .int) ∈ rg_tbl := rg_in 478 (by decide +kernel) (by decide +kernel)
theorem kw_X4_209 : Cond.constantLong "MulesRemember" 209 (6364136223846793005) ∈ rg_tbl := rg_in 479 (by decide +kernel) (by decide +kernel)
theorem kw_X4_211 : Cond.constantLong "MulesRemember" 211 (1442695040888963407) ∈ rg_tbl := rg_in 480 (by decide +kernel) (by decide +kernel)
theorem kw_X4_213 : Cond.constantLong "MulesRemember" 213 (12) ∈ rg_tbl := rg_in 481 (by decide +kernel) (by decide +kernel)
theorem kw_X4_215 : Cond.methodLink "MulesRemember" 215 yX4_liveThrough ∈ rg_tbl := rg_in 482 (by decide +kernel) (by decide +kernel)
theorem km_X4_liveThrough : Cond.instanceMethod yX4_liveThrough ∈ rg_tbl := rg_in 484 (by decide +kernel) (by decide +kernel)
theorem kd_X4_liveThrough : Cond.code yX4_liveThrough cX4_liveThrough 4 none ∈ rg_tbl := rg_in 485 (by decide +kernel) (by decide +kernel)
theorem kw_L_136 : Cond.methodLink "MulesRememberLaw" 136 yX4_keep ∈ rg_tbl := rg_in 486 (by decide +kernel) (by decide +kernel)
theorem km_X4_keep : Cond.instanceMethod yX4_keep ∈ rg_tbl := rg_in 487 (by decide +kernel) (by decide +kernel)
theorem kl_X4_keep : Cond.selects "MulesRemember" yX4_keep yX4_keep ∈ rg_tbl := rg_in 488 (by decide +kernel) (by decide +kernel)
theorem kd_X4_keep : Cond.code yX4_keep cX4_keep 2 (some .int) ∈ rg_tbl := rg_in 489 (by decide +kernel) (by decide +kernel)
theorem kw_X4_218 : Cond.methodLink "MulesRemember" 218 yX4_isSlot ∈ rg_tbl := rg_in 490 (by decide +kernel) (by decide +kernel)
theorem ks_X4_isSlot : Cond.static yX4_isSlot ∈ rg_tbl := rg_in 491 (by decide +kernel) (by decide +kernel)
theorem kd_X4_isSlot : Cond.code yX4_isSlot cX4_isSlot 1 (some .boolean) ∈ rg_tbl := rg_in 492 (by decide +kernel) (by decide +kernel)
theorem kw_L_140 : Cond.methodLink "MulesRememberLaw" 140 yX4_again ∈ rg_tbl := rg_in 493 (by decide +kernel) (by decide +kernel)
theorem km_X4_again : Cond.instanceMethod yX4_again ∈ rg_tbl := rg_in 494 (by decide +kernel) (by decide +kernel)
theorem kl_X4_again : Cond.selects "MulesRemember" yX4_again yX4_again ∈ rg_tbl := rg_in 495 (by decide +kernel) (by decide +kernel)
theorem kd_X4_again : Cond.code yX4_again cX4_again 2 (some .int) ∈ rg_tbl := rg_in 496 (by decide +kernel) (by decide +kernel)
theorem kc_L_10 : Cond.classLink "MulesRememberLaw" 10 "MulesRememberModel" ∈ rg_tbl := rg_in 497 (by decide +kernel) (by decide +kernel)
theorem kt_X5 : Cond.instantiable "MulesRememberModel" 33 ∈ rg_tbl := rg_in 498 (by decide +kernel) (by decide +kernel)
theorem kw_L_12 : Cond.methodLink "MulesRememberLaw" 12 yX5_init ∈ rg_tbl := rg_in 499 (by decide +kernel) (by decide +kernel)
theorem km_X5_init : Cond.instanceMethod yX5_init ∈ rg_tbl := rg_in 500 (by decide +kernel) (by decide +kernel)
theorem kd_X5_init : Cond.code yX5_init cX5_init 1 none ∈ rg_tbl := rg_in 501 (by decide +kernel) (by decide +kernel)
theorem kw_X5_1 : Cond.methodLink "MulesRememberModel" 1 objectInit ∈ rg_tbl := rg_in 502 (by decide +kernel) (by decide +kernel)
theorem kw_X5_68 : Cond.fieldLink "MulesRememberModel" 68 "MulesRememberModel" "thrown" "I" ∈ rg_tbl := rg_in 503 (by decide +kernel) (by decide +kernel)
theorem kw_X5_7 : Cond.fieldLink "MulesRememberModel" 7 "MulesRememberModel" "text" "[I" ∈ rg_tbl := rg_in 504 (by decide +kernel) (by decide +kernel)
theorem kw_X5_84 : Cond.fieldLink "MulesRememberModel" 84 "MulesRememberModel" "textSize" "I" ∈ rg_tbl := rg_in 505 (by decide +kernel) (by decide +kernel)
theorem kw_X5_87 : Cond.fieldLink "MulesRememberModel" 87 "MulesRememberModel" "place" "I" ∈ rg_tbl := rg_in 506 (by decide +kernel) (by decide +kernel)
theorem kw_X5_72 : Cond.fieldLink "MulesRememberModel" 72 "MulesRememberModel" "mules" "I" ∈ rg_tbl := rg_in 507 (by decide +kernel) (by decide +kernel)
theorem kw_X5_13 : Cond.fieldLink "MulesRememberModel" 13 "MulesRememberModel" "coat" "[I" ∈ rg_tbl := rg_in 508 (by decide +kernel) (by decide +kernel)
theorem kw_X5_79 : Cond.fieldLink "MulesRememberModel" 79 "MulesRememberModel" "articles" "I" ∈ rg_tbl := rg_in 509 (by decide +kernel) (by decide +kernel)
theorem kw_X5_16 : Cond.fieldLink "MulesRememberModel" 16 "MulesRememberModel" "where" "[I" ∈ rg_tbl := rg_in 510 (by decide +kernel) (by decide +kernel)
theorem kw_X5_19 : Cond.fieldLink "MulesRememberModel" 19 "MulesRememberModel" "sort" "[I" ∈ rg_tbl := rg_in 511 (by decide +kernel) (by decide +kernel)
theorem kw_X5_22 : Cond.fieldLink "MulesRememberModel" 22 "MulesRememberModel" "value" "[I" ∈ rg_tbl := rg_in 512 (by decide +kernel) (by decide +kernel)
theorem kw_X5_97 : Cond.fieldLink "MulesRememberModel" 97 "MulesRememberModel" "readMules" "I" ∈ rg_tbl := rg_in 513 (by decide +kernel) (by decide +kernel)
theorem kw_X5_25 : Cond.fieldLink "MulesRememberModel" 25 "MulesRememberModel" "readMule" "[I" ∈ rg_tbl := rg_in 514 (by decide +kernel) (by decide +kernel)
theorem kw_X5_94 : Cond.fieldLink "MulesRememberModel" 94 "MulesRememberModel" "readArticles" "I" ∈ rg_tbl := rg_in 515 (by decide +kernel) (by decide +kernel)
theorem kw_X5_28 : Cond.fieldLink "MulesRememberModel" 28 "MulesRememberModel" "readArticle" "[I" ∈ rg_tbl := rg_in 516 (by decide +kernel) (by decide +kernel)
theorem kw_X5_31 : Cond.fieldLink "MulesRememberModel" 31 "MulesRememberModel" "page" "[I" ∈ rg_tbl := rg_in 517 (by decide +kernel) (by decide +kernel)
theorem kw_X5_34 : Cond.fieldLink "MulesRememberModel" 34 "MulesRememberModel" "trial" "[I" ∈ rg_tbl := rg_in 518 (by decide +kernel) (by decide +kernel)
theorem kw_X5_37 : Cond.fieldLink "MulesRememberModel" 37 "MulesRememberModel" "book" "[I" ∈ rg_tbl := rg_in 519 (by decide +kernel) (by decide +kernel)
theorem kw_X5_114 : Cond.fieldLink "MulesRememberModel" 114 "MulesRememberModel" "acts" "I" ∈ rg_tbl := rg_in 520 (by decide +kernel) (by decide +kernel)
theorem kw_X5_40 : Cond.fieldLink "MulesRememberModel" 40 "MulesRememberModel" "kept" "[I" ∈ rg_tbl := rg_in 521 (by decide +kernel) (by decide +kernel)
theorem kw_X5_43 : Cond.fieldLink "MulesRememberModel" 43 "MulesRememberModel" "isKept" "[Z" ∈ rg_tbl := rg_in 522 (by decide +kernel) (by decide +kernel)
theorem kw_X5_137 : Cond.fieldLink "MulesRememberModel" 137 "MulesRememberModel" "seen" "I" ∈ rg_tbl := rg_in 523 (by decide +kernel) (by decide +kernel)
theorem kw_X5_47 : Cond.fieldLink "MulesRememberModel" 47 "MulesRememberModel" "seenStone" "[I" ∈ rg_tbl := rg_in 524 (by decide +kernel) (by decide +kernel)
theorem kw_X5_50 : Cond.fieldLink "MulesRememberModel" 50 "MulesRememberModel" "seenCoat" "[I" ∈ rg_tbl := rg_in 525 (by decide +kernel) (by decide +kernel)
theorem kw_X5_53 : Cond.fieldLink "MulesRememberModel" 53 "MulesRememberModel" "seenHour" "[I" ∈ rg_tbl := rg_in 526 (by decide +kernel) (by decide +kernel)
theorem kw_X5_56 : Cond.fieldLink "MulesRememberModel" 56 "MulesRememberModel" "seenSouth" "[I" ∈ rg_tbl := rg_in 527 (by decide +kernel) (by decide +kernel)
theorem kw_X5_59 : Cond.fieldLink "MulesRememberModel" 59 "MulesRememberModel" "seenBalked" "[I" ∈ rg_tbl := rg_in 528 (by decide +kernel) (by decide +kernel)
theorem kw_X5_238 : Cond.fieldLink "MulesRememberModel" 238 "MulesRememberModel" "seed" "J" ∈ rg_tbl := rg_in 529 (by decide +kernel) (by decide +kernel)
theorem kw_X5_62 : Cond.fieldLink "MulesRememberModel" 62 "MulesRememberModel" "when" "[I" ∈ rg_tbl := rg_in 530 (by decide +kernel) (by decide +kernel)
theorem kw_X5_210 : Cond.fieldLink "MulesRememberModel" 210 "MulesRememberModel" "mayMany" "I" ∈ rg_tbl := rg_in 531 (by decide +kernel) (by decide +kernel)
theorem kw_X5_213 : Cond.fieldLink "MulesRememberModel" 213 "MulesRememberModel" "mayFirst" "I" ∈ rg_tbl := rg_in 532 (by decide +kernel) (by decide +kernel)
theorem kw_X5_223 : Cond.fieldLink "MulesRememberModel" 223 "MulesRememberModel" "restMany" "I" ∈ rg_tbl := rg_in 533 (by decide +kernel) (by decide +kernel)
theorem kw_X5_226 : Cond.fieldLink "MulesRememberModel" 226 "MulesRememberModel" "restFirst" "I" ∈ rg_tbl := rg_in 534 (by decide +kernel) (by decide +kernel)
theorem kw_X5_65 : Cond.fieldLink "MulesRememberModel" 65 "MulesRememberModel" "worth" "[I" ∈ rg_tbl := rg_in 535 (by decide +kernel) (by decide +kernel)
theorem kw_L_17 : Cond.methodLink "MulesRememberLaw" 17 yX5_write ∈ rg_tbl := rg_in 603 (by decide +kernel) (by decide +kernel)
theorem km_X5_write : Cond.instanceMethod yX5_write ∈ rg_tbl := rg_in 604 (by decide +kernel) (by decide +kernel)
theorem kl_X5_write : Cond.selects "MulesRememberModel" yX5_write yX5_write ∈ rg_tbl := rg_in 605 (by decide +kernel) (by decide +kernel)
theorem kd_X5_write : Cond.code yX5_write cX5_write 2 (some .int) ∈ rg_tbl := rg_in 606 (by decide +kernel) (by decide +kernel)
theorem kw_X5_82 : Cond.constantLong "MulesRememberModel" 82 (255) ∈ rg_tbl := rg_in 607 (by decide +kernel) (by decide +kernel)
theorem kw_X5_75 : Cond.methodLink "MulesRememberModel" 75 yX5_in ∈ rg_tbl := rg_in 608 (by decide +kernel) (by decide +kernel)
theorem ks_X5_in : Cond.static yX5_in ∈ rg_tbl := rg_in 609 (by decide +kernel) (by decide +kernel)
theorem kd_X5_in : Cond.code yX5_in cX5_in 6 (some .boolean) ∈ rg_tbl := rg_in 610 (by decide +kernel) (by decide +kernel)
theorem kw_L_22 : Cond.methodLink "MulesRememberLaw" 22 yX5_wipe ∈ rg_tbl := rg_in 611 (by decide +kernel) (by decide +kernel)
theorem km_X5_wipe : Cond.instanceMethod yX5_wipe ∈ rg_tbl := rg_in 612 (by decide +kernel) (by decide +kernel)
theorem kl_X5_wipe : Cond.selects "MulesRememberModel" yX5_wipe yX5_wipe ∈ rg_tbl := rg_in 613 (by decide +kernel) (by decide +kernel)
theorem kd_X5_wipe : Cond.code yX5_wipe cX5_wipe 2 (some .int) ∈ rg_tbl := rg_in 614 (by decide +kernel) (by decide +kernel)
theorem kw_L_26 : Cond.methodLink "MulesRememberLaw" 26 yX5_fault ∈ rg_tbl := rg_in 615 (by decide +kernel) (by decide +kernel)
theorem km_X5_fault : Cond.instanceMethod yX5_fault ∈ rg_tbl := rg_in 616 (by decide +kernel) (by decide +kernel)
theorem kl_X5_fault : Cond.selects "MulesRememberModel" yX5_fault yX5_fault ∈ rg_tbl := rg_in 617 (by decide +kernel) (by decide +kernel)
theorem kd_X5_fault : Cond.code yX5_fault cX5_fault 1 (some .int) ∈ rg_tbl := rg_in 618 (by decide +kernel) (by decide +kernel)
theorem kw_X5_110 : Cond.methodLink "MulesRememberModel" 110 yX5_readTreaty ∈ rg_tbl := rg_in 619 (by decide +kernel) (by decide +kernel)
theorem km_X5_readTreaty : Cond.instanceMethod yX5_readTreaty ∈ rg_tbl := rg_in 621 (by decide +kernel) (by decide +kernel)
theorem kd_X5_readTreaty : Cond.code yX5_readTreaty cX5_readTreaty 1 (some .int) ∈ rg_tbl := rg_in 622 (by decide +kernel) (by decide +kernel)
theorem kw_X5_107 : Cond.methodLink "MulesRememberModel" 107 yX5_readPart ∈ rg_tbl := rg_in 623 (by decide +kernel) (by decide +kernel)
theorem km_X5_readPart : Cond.instanceMethod yX5_readPart ∈ rg_tbl := rg_in 625 (by decide +kernel) (by decide +kernel)
theorem kd_X5_readPart : Cond.code yX5_readPart cX5_readPart 2 (some .boolean) ∈ rg_tbl := rg_in 626 (by decide +kernel) (by decide +kernel)
theorem kw_X5_100 : Cond.methodLink "MulesRememberModel" 100 yX5_readOneArticle ∈ rg_tbl := rg_in 627 (by decide +kernel) (by decide +kernel)
theorem km_X5_readOneArticle : Cond.instanceMethod yX5_readOneArticle ∈ rg_tbl := rg_in 629 (by decide +kernel) (by decide +kernel)
theorem kd_X5_readOneArticle : Cond.code yX5_readOneArticle cX5_readOneArticle 3 (some .boolean) ∈ rg_tbl := rg_in 630 (by decide +kernel) (by decide +kernel)
theorem kw_X5_90 : Cond.methodLink "MulesRememberModel" 90 yX5_figure ∈ rg_tbl := rg_in 631 (by decide +kernel) (by decide +kernel)
theorem km_X5_figure : Cond.instanceMethod yX5_figure ∈ rg_tbl := rg_in 633 (by decide +kernel) (by decide +kernel)
theorem kd_X5_figure : Cond.code yX5_figure cX5_figure 2 (some .int) ∈ rg_tbl := rg_in 634 (by decide +kernel) (by decide +kernel)
theorem kw_X5_104 : Cond.methodLink "MulesRememberModel" 104 yX5_readOneMule ∈ rg_tbl := rg_in 635 (by decide +kernel) (by decide +kernel)
theorem km_X5_readOneMule : Cond.instanceMethod yX5_readOneMule ∈ rg_tbl := rg_in 637 (by decide +kernel) (by decide +kernel)
theorem kd_X5_readOneMule : Cond.code yX5_readOneMule cX5_readOneMule 3 (some .boolean) ∈ rg_tbl := rg_in 638 (by decide +kernel) (by decide +kernel)
theorem kw_L_30 : Cond.methodLink "MulesRememberLaw" 30 yX5_treaty ∈ rg_tbl := rg_in 639 (by decide +kernel) (by decide +kernel)
theorem km_X5_treaty : Cond.instanceMethod yX5_treaty ∈ rg_tbl := rg_in 640 (by decide +kernel) (by decide +kernel)
theorem kl_X5_treaty : Cond.selects "MulesRememberModel" yX5_treaty yX5_treaty ∈ rg_tbl := rg_in 641 (by decide +kernel) (by decide +kernel)
theorem kd_X5_treaty : Cond.code yX5_treaty cX5_treaty 2 (some .int) ∈ rg_tbl := rg_in 642 (by decide +kernel) (by decide +kernel)
theorem kw_L_34 : Cond.methodLink "MulesRememberLaw" 34 yX5_about ∈ rg_tbl := rg_in 643 (by decide +kernel) (by decide +kernel)
theorem km_X5_about : Cond.instanceMethod yX5_about ∈ rg_tbl := rg_in 644 (by decide +kernel) (by decide +kernel)
theorem kl_X5_about : Cond.selects "MulesRememberModel" yX5_about yX5_about ∈ rg_tbl := rg_in 645 (by decide +kernel) (by decide +kernel)
theorem kd_X5_about : Cond.code yX5_about cX5_about 2 (some .int) ∈ rg_tbl := rg_in 646 (by decide +kernel) (by decide +kernel)
theorem kw_L_39 : Cond.methodLink "MulesRememberLaw" 39 yX5_article ∈ rg_tbl := rg_in 647 (by decide +kernel) (by decide +kernel)
theorem km_X5_article : Cond.instanceMethod yX5_article ∈ rg_tbl := rg_in 648 (by decide +kernel) (by decide +kernel)
theorem kl_X5_article : Cond.selects "MulesRememberModel" yX5_article yX5_article ∈ rg_tbl := rg_in 649 (by decide +kernel) (by decide +kernel)
theorem kd_X5_article : Cond.code yX5_article cX5_article 3 (some .int) ∈ rg_tbl := rg_in 650 (by decide +kernel) (by decide +kernel)
theorem kw_X5_144 : Cond.methodLink "MulesRememberModel" 144 yX5_noArticle ∈ rg_tbl := rg_in 651 (by decide +kernel) (by decide +kernel)
theorem km_X5_noArticle : Cond.instanceMethod yX5_noArticle ∈ rg_tbl := rg_in 653 (by decide +kernel) (by decide +kernel)
theorem kd_X5_noArticle : Cond.code yX5_noArticle cX5_noArticle 2 (some .boolean) ∈ rg_tbl := rg_in 654 (by decide +kernel) (by decide +kernel)
theorem kw_X5_148 : Cond.methodLink "MulesRememberModel" 148 yX5_knowers ∈ rg_tbl := rg_in 655 (by decide +kernel) (by decide +kernel)
theorem km_X5_knowers : Cond.instanceMethod yX5_knowers ∈ rg_tbl := rg_in 657 (by decide +kernel) (by decide +kernel)
theorem kd_X5_knowers : Cond.code yX5_knowers cX5_knowers 4 (some .int) ∈ rg_tbl := rg_in 658 (by decide +kernel) (by decide +kernel)
theorem kw_X5_133 : Cond.methodLink "MulesRememberModel" 133 yX5_knows ∈ rg_tbl := rg_in 659 (by decide +kernel) (by decide +kernel)
theorem km_X5_knows : Cond.instanceMethod yX5_knows ∈ rg_tbl := rg_in 661 (by decide +kernel) (by decide +kernel)
theorem kd_X5_knows : Cond.code yX5_knows cX5_knows 4 (some .int) ∈ rg_tbl := rg_in 662 (by decide +kernel) (by decide +kernel)
theorem kw_X5_140 : Cond.methodLink "MulesRememberModel" 140 yX5_has ∈ rg_tbl := rg_in 663 (by decide +kernel) (by decide +kernel)
theorem ks_X5_has : Cond.static yX5_has ∈ rg_tbl := rg_in 664 (by decide +kernel) (by decide +kernel)
theorem kd_X5_has : Cond.code yX5_has cX5_has 2 (some .boolean) ∈ rg_tbl := rg_in 665 (by decide +kernel) (by decide +kernel)
theorem kw_L_43 : Cond.methodLink "MulesRememberLaw" 43 yX5_mule ∈ rg_tbl := rg_in 666 (by decide +kernel) (by decide +kernel)
theorem km_X5_mule : Cond.instanceMethod yX5_mule ∈ rg_tbl := rg_in 667 (by decide +kernel) (by decide +kernel)
theorem kl_X5_mule : Cond.selects "MulesRememberModel" yX5_mule yX5_mule ∈ rg_tbl := rg_in 668 (by decide +kernel) (by decide +kernel)
theorem kd_X5_mule : Cond.code yX5_mule cX5_mule 3 (some .int) ∈ rg_tbl := rg_in 669 (by decide +kernel) (by decide +kernel)
theorem kw_X5_151 : Cond.methodLink "MulesRememberModel" 151 yX5_noMule ∈ rg_tbl := rg_in 670 (by decide +kernel) (by decide +kernel)
theorem km_X5_noMule : Cond.instanceMethod yX5_noMule ∈ rg_tbl := rg_in 672 (by decide +kernel) (by decide +kernel)
theorem kd_X5_noMule : Cond.code yX5_noMule cX5_noMule 2 (some .boolean) ∈ rg_tbl := rg_in 673 (by decide +kernel) (by decide +kernel)
theorem kw_L_47 : Cond.methodLink "MulesRememberLaw" 47 yX5_by ∈ rg_tbl := rg_in 674 (by decide +kernel) (by decide +kernel)
theorem km_X5_by : Cond.instanceMethod yX5_by ∈ rg_tbl := rg_in 675 (by decide +kernel) (by decide +kernel)
theorem kl_X5_by : Cond.selects "MulesRememberModel" yX5_by yX5_by ∈ rg_tbl := rg_in 676 (by decide +kernel) (by decide +kernel)
theorem kd_X5_by : Cond.code yX5_by cX5_by 4 (some .int) ∈ rg_tbl := rg_in 677 (by decide +kernel) (by decide +kernel)
theorem kw_X5_154 : Cond.methodLink "MulesRememberModel" 154 yX5_noStep ∈ rg_tbl := rg_in 678 (by decide +kernel) (by decide +kernel)
theorem km_X5_noStep : Cond.instanceMethod yX5_noStep ∈ rg_tbl := rg_in 680 (by decide +kernel) (by decide +kernel)
theorem kd_X5_noStep : Cond.code yX5_noStep cX5_noStep 3 (some .int) ∈ rg_tbl := rg_in 681 (by decide +kernel) (by decide +kernel)
theorem kw_X5_119 : Cond.methodLink "MulesRememberModel" 119 yX5_toStone ∈ rg_tbl := rg_in 682 (by decide +kernel) (by decide +kernel)
theorem ks_X5_toStone : Cond.static yX5_toStone ∈ rg_tbl := rg_in 683 (by decide +kernel) (by decide +kernel)
theorem kd_X5_toStone : Cond.code yX5_toStone cX5_toStone 4 (some .int) ∈ rg_tbl := rg_in 684 (by decide +kernel) (by decide +kernel)
theorem kw_X5_117 : Cond.constantLong "MulesRememberModel" 117 (9) ∈ rg_tbl := rg_in 685 (by decide +kernel) (by decide +kernel)
theorem kw_X5_130 : Cond.methodLink "MulesRememberModel" 130 yX5_forbids ∈ rg_tbl := rg_in 686 (by decide +kernel) (by decide +kernel)
theorem km_X5_forbids : Cond.instanceMethod yX5_forbids ∈ rg_tbl := rg_in 688 (by decide +kernel) (by decide +kernel)
theorem kd_X5_forbids : Cond.code yX5_forbids cX5_forbids 9 (some .int) ∈ rg_tbl := rg_in 689 (by decide +kernel) (by decide +kernel)
theorem kw_X5_123 : Cond.methodLink "MulesRememberModel" 123 yX5_northern ∈ rg_tbl := rg_in 690 (by decide +kernel) (by decide +kernel)
theorem km_X5_northern : Cond.instanceMethod yX5_northern ∈ rg_tbl := rg_in 692 (by decide +kernel) (by decide +kernel)
theorem kd_X5_northern : Cond.code yX5_northern cX5_northern 6 (some .int) ∈ rg_tbl := rg_in 693 (by decide +kernel) (by decide +kernel)
theorem kw_X5_126 : Cond.methodLink "MulesRememberModel" 126 yX5_isBarred ∈ rg_tbl := rg_in 694 (by decide +kernel) (by decide +kernel)
theorem ks_X5_isBarred : Cond.static yX5_isBarred ∈ rg_tbl := rg_in 695 (by decide +kernel) (by decide +kernel)
theorem kd_X5_isBarred : Cond.code yX5_isBarred cX5_isBarred 6 (some .boolean) ∈ rg_tbl := rg_in 696 (by decide +kernel) (by decide +kernel)
theorem kw_L_51 : Cond.methodLink "MulesRememberLaw" 51 yX5_balks ∈ rg_tbl := rg_in 697 (by decide +kernel) (by decide +kernel)
theorem km_X5_balks : Cond.instanceMethod yX5_balks ∈ rg_tbl := rg_in 698 (by decide +kernel) (by decide +kernel)
theorem kl_X5_balks : Cond.selects "MulesRememberModel" yX5_balks yX5_balks ∈ rg_tbl := rg_in 699 (by decide +kernel) (by decide +kernel)
theorem kd_X5_balks : Cond.code yX5_balks cX5_balks 4 (some .int) ∈ rg_tbl := rg_in 700 (by decide +kernel) (by decide +kernel)
theorem kw_X5_158 : Cond.methodLink "MulesRememberModel" 158 yX5_leastOf ∈ rg_tbl := rg_in 701 (by decide +kernel) (by decide +kernel)
theorem ks_X5_leastOf : Cond.static yX5_leastOf ∈ rg_tbl := rg_in 702 (by decide +kernel) (by decide +kernel)
theorem kd_X5_leastOf : Cond.code yX5_leastOf cX5_leastOf 3 (some .int) ∈ rg_tbl := rg_in 703 (by decide +kernel) (by decide +kernel)
theorem kw_L_55 : Cond.methodLink "MulesRememberLaw" 55 yX5_step ∈ rg_tbl := rg_in 704 (by decide +kernel) (by decide +kernel)
theorem km_X5_step : Cond.instanceMethod yX5_step ∈ rg_tbl := rg_in 705 (by decide +kernel) (by decide +kernel)
theorem kl_X5_step : Cond.selects "MulesRememberModel" yX5_step yX5_step ∈ rg_tbl := rg_in 706 (by decide +kernel) (by decide +kernel)
theorem kd_X5_step : Cond.code yX5_step cX5_step 4 (some .int) ∈ rg_tbl := rg_in 707 (by decide +kernel) (by decide +kernel)
theorem kw_X5_164 : Cond.methodLink "MulesRememberModel" 164 yX5_isBalking ∈ rg_tbl := rg_in 708 (by decide +kernel) (by decide +kernel)
theorem km_X5_isBalking : Cond.instanceMethod yX5_isBalking ∈ rg_tbl := rg_in 710 (by decide +kernel) (by decide +kernel)
theorem kd_X5_isBalking : Cond.code yX5_isBalking cX5_isBalking 4 (some .boolean) ∈ rg_tbl := rg_in 711 (by decide +kernel) (by decide +kernel)
theorem kw_X5_168 : Cond.methodLink "MulesRememberModel" 168 yX5_note ∈ rg_tbl := rg_in 712 (by decide +kernel) (by decide +kernel)
theorem km_X5_note : Cond.instanceMethod yX5_note ∈ rg_tbl := rg_in 714 (by decide +kernel) (by decide +kernel)
theorem kd_X5_note : Cond.code yX5_note cX5_note 2 none ∈ rg_tbl := rg_in 715 (by decide +kernel) (by decide +kernel)
theorem kw_X5_171 : Cond.methodLink "MulesRememberModel" 171 yX5_go ∈ rg_tbl := rg_in 716 (by decide +kernel) (by decide +kernel)
theorem km_X5_go : Cond.instanceMethod yX5_go ∈ rg_tbl := rg_in 718 (by decide +kernel) (by decide +kernel)
theorem kd_X5_go : Cond.code yX5_go cX5_go 4 none ∈ rg_tbl := rg_in 719 (by decide +kernel) (by decide +kernel)
theorem kw_X5_161 : Cond.methodLink "MulesRememberModel" 161 yX5_many ∈ rg_tbl := rg_in 720 (by decide +kernel) (by decide +kernel)
theorem ks_X5_many : Cond.static yX5_many ∈ rg_tbl := rg_in 721 (by decide +kernel) (by decide +kernel)
theorem kd_X5_many : Cond.code yX5_many cX5_many 3 (some .int) ∈ rg_tbl := rg_in 722 (by decide +kernel) (by decide +kernel)
theorem kw_L_59 : Cond.methodLink "MulesRememberLaw" 59 yX5_pause ∈ rg_tbl := rg_in 723 (by decide +kernel) (by decide +kernel)
theorem km_X5_pause : Cond.instanceMethod yX5_pause ∈ rg_tbl := rg_in 724 (by decide +kernel) (by decide +kernel)
theorem kl_X5_pause : Cond.selects "MulesRememberModel" yX5_pause yX5_pause ∈ rg_tbl := rg_in 725 (by decide +kernel) (by decide +kernel)
theorem kd_X5_pause : Cond.code yX5_pause cX5_pause 1 (some .int) ∈ rg_tbl := rg_in 726 (by decide +kernel) (by decide +kernel)
theorem kw_L_64 : Cond.methodLink "MulesRememberLaw" 64 yX5_show ∈ rg_tbl := rg_in 727 (by decide +kernel) (by decide +kernel)
theorem km_X5_show : Cond.instanceMethod yX5_show ∈ rg_tbl := rg_in 728 (by decide +kernel) (by decide +kernel)
theorem kl_X5_show : Cond.selects "MulesRememberModel" yX5_show yX5_show ∈ rg_tbl := rg_in 729 (by decide +kernel) (by decide +kernel)
theorem kd_X5_show : Cond.code yX5_show cX5_show 4 (some .int) ∈ rg_tbl := rg_in 730 (by decide +kernel) (by decide +kernel)
theorem kw_L_68 : Cond.methodLink "MulesRememberLaw" 68 yX5_sell ∈ rg_tbl := rg_in 731 (by decide +kernel) (by decide +kernel)
theorem km_X5_sell : Cond.instanceMethod yX5_sell ∈ rg_tbl := rg_in 732 (by decide +kernel) (by decide +kernel)
theorem kl_X5_sell : Cond.selects "MulesRememberModel" yX5_sell yX5_sell ∈ rg_tbl := rg_in 733 (by decide +kernel) (by decide +kernel)
theorem kd_X5_sell : Cond.code yX5_sell cX5_sell 3 (some .int) ∈ rg_tbl := rg_in 734 (by decide +kernel) (by decide +kernel)
theorem kw_L_72 : Cond.methodLink "MulesRememberLaw" 72 yX5_forget ∈ rg_tbl := rg_in 735 (by decide +kernel) (by decide +kernel)
theorem km_X5_forget : Cond.instanceMethod yX5_forget ∈ rg_tbl := rg_in 736 (by decide +kernel) (by decide +kernel)
theorem kl_X5_forget : Cond.selects "MulesRememberModel" yX5_forget yX5_forget ∈ rg_tbl := rg_in 737 (by decide +kernel) (by decide +kernel)
theorem kd_X5_forget : Cond.code yX5_forget cX5_forget 3 (some .int) ∈ rg_tbl := rg_in 738 (by decide +kernel) (by decide +kernel)
theorem kw_L_76 : Cond.methodLink "MulesRememberLaw" 76 yX5_undo ∈ rg_tbl := rg_in 739 (by decide +kernel) (by decide +kernel)
theorem km_X5_undo : Cond.instanceMethod yX5_undo ∈ rg_tbl := rg_in 740 (by decide +kernel) (by decide +kernel)
theorem kl_X5_undo : Cond.selects "MulesRememberModel" yX5_undo yX5_undo ∈ rg_tbl := rg_in 741 (by decide +kernel) (by decide +kernel)
theorem kd_X5_undo : Cond.code yX5_undo cX5_undo 2 (some .int) ∈ rg_tbl := rg_in 742 (by decide +kernel) (by decide +kernel)
theorem kw_L_81 : Cond.methodLink "MulesRememberLaw" 81 yX5_way ∈ rg_tbl := rg_in 743 (by decide +kernel) (by decide +kernel)
theorem km_X5_way : Cond.instanceMethod yX5_way ∈ rg_tbl := rg_in 744 (by decide +kernel) (by decide +kernel)
theorem kl_X5_way : Cond.selects "MulesRememberModel" yX5_way yX5_way ∈ rg_tbl := rg_in 745 (by decide +kernel) (by decide +kernel)
theorem kd_X5_way : Cond.code yX5_way cX5_way 4 (some .int) ∈ rg_tbl := rg_in 746 (by decide +kernel) (by decide +kernel)
theorem kw_X5_178 : Cond.methodLink "MulesRememberModel" 178 yX5_layWays ∈ rg_tbl := rg_in 747 (by decide +kernel) (by decide +kernel)
theorem km_X5_layWays : Cond.instanceMethod yX5_layWays ∈ rg_tbl := rg_in 749 (by decide +kernel) (by decide +kernel)
theorem kd_X5_layWays : Cond.code yX5_layWays cX5_layWays 9 none ∈ rg_tbl := rg_in 750 (by decide +kernel) (by decide +kernel)
theorem kw_X5_175 : Cond.methodLink "MulesRememberModel" 175 yX5_begin ∈ rg_tbl := rg_in 751 (by decide +kernel) (by decide +kernel)
theorem km_X5_begin : Cond.instanceMethod yX5_begin ∈ rg_tbl := rg_in 753 (by decide +kernel) (by decide +kernel)
theorem kd_X5_begin : Cond.code yX5_begin cX5_begin 2 none ∈ rg_tbl := rg_in 754 (by decide +kernel) (by decide +kernel)
theorem kw_L_85 : Cond.methodLink "MulesRememberLaw" 85 yX5_enclaves ∈ rg_tbl := rg_in 755 (by decide +kernel) (by decide +kernel)
theorem km_X5_enclaves : Cond.instanceMethod yX5_enclaves ∈ rg_tbl := rg_in 756 (by decide +kernel) (by decide +kernel)
theorem kl_X5_enclaves : Cond.selects "MulesRememberModel" yX5_enclaves yX5_enclaves ∈ rg_tbl := rg_in 757 (by decide +kernel) (by decide +kernel)
theorem kd_X5_enclaves : Cond.code yX5_enclaves cX5_enclaves 4 (some .int) ∈ rg_tbl := rg_in 758 (by decide +kernel) (by decide +kernel)
theorem kw_L_89 : Cond.methodLink "MulesRememberLaw" 89 yX5_teach ∈ rg_tbl := rg_in 759 (by decide +kernel) (by decide +kernel)
theorem km_X5_teach : Cond.instanceMethod yX5_teach ∈ rg_tbl := rg_in 760 (by decide +kernel) (by decide +kernel)
theorem kl_X5_teach : Cond.selects "MulesRememberModel" yX5_teach yX5_teach ∈ rg_tbl := rg_in 761 (by decide +kernel) (by decide +kernel)
theorem kd_X5_teach : Cond.code yX5_teach cX5_teach 4 (some .int) ∈ rg_tbl := rg_in 762 (by decide +kernel) (by decide +kernel)
theorem kw_X5_182 : Cond.methodLink "MulesRememberModel" 182 yX5_holdsFast ∈ rg_tbl := rg_in 763 (by decide +kernel) (by decide +kernel)
theorem km_X5_holdsFast : Cond.instanceMethod yX5_holdsFast ∈ rg_tbl := rg_in 765 (by decide +kernel) (by decide +kernel)
theorem kd_X5_holdsFast : Cond.code yX5_holdsFast cX5_holdsFast 5 (some .boolean) ∈ rg_tbl := rg_in 766 (by decide +kernel) (by decide +kernel)
theorem kw_L_93 : Cond.methodLink "MulesRememberLaw" 93 yX5_differ ∈ rg_tbl := rg_in 767 (by decide +kernel) (by decide +kernel)
theorem km_X5_differ : Cond.instanceMethod yX5_differ ∈ rg_tbl := rg_in 768 (by decide +kernel) (by decide +kernel)
theorem kl_X5_differ : Cond.selects "MulesRememberModel" yX5_differ yX5_differ ∈ rg_tbl := rg_in 769 (by decide +kernel) (by decide +kernel)
theorem kd_X5_differ : Cond.code yX5_differ cX5_differ 3 (some .int) ∈ rg_tbl := rg_in 770 (by decide +kernel) (by decide +kernel)
theorem kw_L_97 : Cond.methodLink "MulesRememberLaw" 97 yX5_judge ∈ rg_tbl := rg_in 771 (by decide +kernel) (by decide +kernel)
theorem km_X5_judge : Cond.instanceMethod yX5_judge ∈ rg_tbl := rg_in 772 (by decide +kernel) (by decide +kernel)
theorem kl_X5_judge : Cond.selects "MulesRememberModel" yX5_judge yX5_judge ∈ rg_tbl := rg_in 773 (by decide +kernel) (by decide +kernel)
theorem kd_X5_judge : Cond.code yX5_judge cX5_judge 4 (some .int) ∈ rg_tbl := rg_in 774 (by decide +kernel) (by decide +kernel)
theorem kw_X5_187 : Cond.constantLong "MulesRememberModel" 187 (4) ∈ rg_tbl := rg_in 775 (by decide +kernel) (by decide +kernel)
theorem kw_X5_189 : Cond.methodLink "MulesRememberModel" 189 yX5_power ∈ rg_tbl := rg_in 776 (by decide +kernel) (by decide +kernel)
theorem ks_X5_power : Cond.static yX5_power ∈ rg_tbl := rg_in 777 (by decide +kernel) (by decide +kernel)
theorem kd_X5_power : Cond.code yX5_power cX5_power 4 (some .int) ∈ rg_tbl := rg_in 778 (by decide +kernel) (by decide +kernel)
theorem kw_X5_192 : Cond.methodLink "MulesRememberModel" 192 yX5_does ∈ rg_tbl := rg_in 779 (by decide +kernel) (by decide +kernel)
theorem km_X5_does : Cond.instanceMethod yX5_does ∈ rg_tbl := rg_in 781 (by decide +kernel) (by decide +kernel)
theorem kd_X5_does : Cond.code yX5_does cX5_does 5 (some .boolean) ∈ rg_tbl := rg_in 782 (by decide +kernel) (by decide +kernel)
theorem kw_X5_185 : Cond.constantLong "MulesRememberModel" 185 (5) ∈ rg_tbl := rg_in 783 (by decide +kernel) (by decide +kernel)
theorem kw_L_102 : Cond.methodLink "MulesRememberLaw" 102 yX5_share ∈ rg_tbl := rg_in 784 (by decide +kernel) (by decide +kernel)
theorem km_X5_share : Cond.instanceMethod yX5_share ∈ rg_tbl := rg_in 785 (by decide +kernel) (by decide +kernel)
theorem kl_X5_share : Cond.selects "MulesRememberModel" yX5_share yX5_share ∈ rg_tbl := rg_in 786 (by decide +kernel) (by decide +kernel)
theorem kd_X5_share : Cond.code yX5_share cX5_share 6 (some .int) ∈ rg_tbl := rg_in 787 (by decide +kernel) (by decide +kernel)
theorem kw_X5_198 : Cond.methodLink "MulesRememberModel" 198 yX5_barredBy ∈ rg_tbl := rg_in 788 (by decide +kernel) (by decide +kernel)
theorem km_X5_barredBy : Cond.instanceMethod yX5_barredBy ∈ rg_tbl := rg_in 790 (by decide +kernel) (by decide +kernel)
theorem kd_X5_barredBy : Cond.code yX5_barredBy cX5_barredBy 5 (some .int) ∈ rg_tbl := rg_in 791 (by decide +kernel) (by decide +kernel)
theorem kw_X5_201 : Cond.methodLink "MulesRememberModel" 201 yX5_ways ∈ rg_tbl := rg_in 792 (by decide +kernel) (by decide +kernel)
theorem ks_X5_ways : Cond.static yX5_ways ∈ rg_tbl := rg_in 793 (by decide +kernel) (by decide +kernel)
theorem kd_X5_ways : Cond.code yX5_ways cX5_ways 3 (some .int) ∈ rg_tbl := rg_in 794 (by decide +kernel) (by decide +kernel)
theorem kw_X5_204 : Cond.methodLink "MulesRememberModel" 204 yX5_fraction ∈ rg_tbl := rg_in 795 (by decide +kernel) (by decide +kernel)
theorem ks_X5_fraction : Cond.static yX5_fraction ∈ rg_tbl := rg_in 796 (by decide +kernel) (by decide +kernel)
theorem kd_X5_fraction : Cond.code yX5_fraction cX5_fraction 4 (some .int) ∈ rg_tbl := rg_in 797 (by decide +kernel) (by decide +kernel)
theorem kw_X5_195 : Cond.methodLink "MulesRememberModel" 195 yX5_divisor ∈ rg_tbl := rg_in 798 (by decide +kernel) (by decide +kernel)
theorem ks_X5_divisor : Cond.static yX5_divisor ∈ rg_tbl := rg_in 799 (by decide +kernel) (by decide +kernel)
theorem kd_X5_divisor : Cond.code yX5_divisor cX5_divisor 5 (some .int) ∈ rg_tbl := rg_in 800 (by decide +kernel) (by decide +kernel)
theorem kw_L_107 : Cond.methodLink "MulesRememberLaw" 107 yX5_see ∈ rg_tbl := rg_in 801 (by decide +kernel) (by decide +kernel)
theorem km_X5_see : Cond.instanceMethod yX5_see ∈ rg_tbl := rg_in 802 (by decide +kernel) (by decide +kernel)
theorem kl_X5_see : Cond.selects "MulesRememberModel" yX5_see yX5_see ∈ rg_tbl := rg_in 803 (by decide +kernel) (by decide +kernel)
theorem kd_X5_see : Cond.code yX5_see cX5_see 6 (some .int) ∈ rg_tbl := rg_in 804 (by decide +kernel) (by decide +kernel)
theorem kw_X5_208 : Cond.constantLong "MulesRememberModel" 208 (3) ∈ rg_tbl := rg_in 805 (by decide +kernel) (by decide +kernel)
theorem kw_L_111 : Cond.methodLink "MulesRememberLaw" 111 yX5_unsee ∈ rg_tbl := rg_in 806 (by decide +kernel) (by decide +kernel)
theorem km_X5_unsee : Cond.instanceMethod yX5_unsee ∈ rg_tbl := rg_in 807 (by decide +kernel) (by decide +kernel)
theorem kl_X5_unsee : Cond.selects "MulesRememberModel" yX5_unsee yX5_unsee ∈ rg_tbl := rg_in 808 (by decide +kernel) (by decide +kernel)
theorem kd_X5_unsee : Cond.code yX5_unsee cX5_unsee 2 (some .int) ∈ rg_tbl := rg_in 809 (by decide +kernel) (by decide +kernel)
theorem kw_L_115 : Cond.methodLink "MulesRememberLaw" 115 yX5_may ∈ rg_tbl := rg_in 810 (by decide +kernel) (by decide +kernel)
theorem km_X5_may : Cond.instanceMethod yX5_may ∈ rg_tbl := rg_in 811 (by decide +kernel) (by decide +kernel)
theorem kl_X5_may : Cond.selects "MulesRememberModel" yX5_may yX5_may ∈ rg_tbl := rg_in 812 (by decide +kernel) (by decide +kernel)
theorem kd_X5_may : Cond.code yX5_may cX5_may 3 (some .int) ∈ rg_tbl := rg_in 813 (by decide +kernel) (by decide +kernel)
theorem kw_X5_216 : Cond.methodLink "MulesRememberModel" 216 yX5_findMay ∈ rg_tbl := rg_in 814 (by decide +kernel) (by decide +kernel)
theorem km_X5_findMay : Cond.instanceMethod yX5_findMay ∈ rg_tbl := rg_in 816 (by decide +kernel) (by decide +kernel)
theorem kd_X5_findMay : Cond.code yX5_findMay cX5_findMay 6 none ∈ rg_tbl := rg_in 817 (by decide +kernel) (by decide +kernel)
theorem kw_L_119 : Cond.methodLink "MulesRememberLaw" 119 yX5_rests ∈ rg_tbl := rg_in 818 (by decide +kernel) (by decide +kernel)
theorem km_X5_rests : Cond.instanceMethod yX5_rests ∈ rg_tbl := rg_in 819 (by decide +kernel) (by decide +kernel)
theorem kl_X5_rests : Cond.selects "MulesRememberModel" yX5_rests yX5_rests ∈ rg_tbl := rg_in 820 (by decide +kernel) (by decide +kernel)
theorem kd_X5_rests : Cond.code yX5_rests cX5_rests 6 (some .int) ∈ rg_tbl := rg_in 821 (by decide +kernel) (by decide +kernel)
theorem kw_X5_220 : Cond.methodLink "MulesRememberModel" 220 yX5_sent ∈ rg_tbl := rg_in 822 (by decide +kernel) (by decide +kernel)
theorem km_X5_sent : Cond.instanceMethod yX5_sent ∈ rg_tbl := rg_in 824 (by decide +kernel) (by decide +kernel)
theorem kd_X5_sent : Cond.code yX5_sent cX5_sent 3 (some .int) ∈ rg_tbl := rg_in 825 (by decide +kernel) (by decide +kernel)
theorem kw_X5_229 : Cond.methodLink "MulesRememberModel" 229 yX5_gain ∈ rg_tbl := rg_in 826 (by decide +kernel) (by decide +kernel)
theorem ks_X5_gain : Cond.static yX5_gain ∈ rg_tbl := rg_in 827 (by decide +kernel) (by decide +kernel)
theorem kd_X5_gain : Cond.code yX5_gain cX5_gain 3 (some .int) ∈ rg_tbl := rg_in 828 (by decide +kernel) (by decide +kernel)
theorem kw_L_124 : Cond.methodLink "MulesRememberLaw" 124 yX5_forgets ∈ rg_tbl := rg_in 829 (by decide +kernel) (by decide +kernel)
theorem km_X5_forgets : Cond.instanceMethod yX5_forgets ∈ rg_tbl := rg_in 830 (by decide +kernel) (by decide +kernel)
theorem kl_X5_forgets : Cond.selects "MulesRememberModel" yX5_forgets yX5_forgets ∈ rg_tbl := rg_in 831 (by decide +kernel) (by decide +kernel)
theorem kd_X5_forgets : Cond.code yX5_forgets cX5_forgets 8 (some .int) ∈ rg_tbl := rg_in 832 (by decide +kernel) (by decide +kernel)
theorem kw_X5_233 : Cond.constantLong "MulesRememberModel" 233 (10) ∈ rg_tbl := rg_in 833 (by decide +kernel) (by decide +kernel)
theorem kw_X5_235 : Cond.methodLink "MulesRememberModel" 235 yX5_balkers ∈ rg_tbl := rg_in 834 (by decide +kernel) (by decide +kernel)
theorem km_X5_balkers : Cond.instanceMethod yX5_balkers ∈ rg_tbl := rg_in 836 (by decide +kernel) (by decide +kernel)
theorem kd_X5_balkers : Cond.code yX5_balkers cX5_balkers 5 (some .int) ∈ rg_tbl := rg_in 837 (by decide +kernel) (by decide +kernel)
theorem kw_L_131 : Cond.methodLink "MulesRememberLaw" 131 yX5_seed ∈ rg_tbl := rg_in 838 (by decide +kernel) (by decide +kernel)
theorem km_X5_seed : Cond.instanceMethod yX5_seed ∈ rg_tbl := rg_in 839 (by decide +kernel) (by decide +kernel)
theorem kl_X5_seed : Cond.selects "MulesRememberModel" yX5_seed yX5_seed ∈ rg_tbl := rg_in 840 (by decide +kernel) (by decide +kernel)
theorem kd_X5_seed : Cond.code yX5_seed cX5_seed 5 (some .long) ∈ rg_tbl := rg_in 841 (by decide +kernel) (by decide +kernel)
theorem kw_L_135 : Cond.methodLink "MulesRememberLaw" 135 yX5_years ∈ rg_tbl := rg_in 842 (by decide +kernel) (by decide +kernel)
theorem km_X5_years : Cond.instanceMethod yX5_years ∈ rg_tbl := rg_in 843 (by decide +kernel) (by decide +kernel)
theorem kl_X5_years : Cond.selects "MulesRememberModel" yX5_years yX5_years ∈ rg_tbl := rg_in 844 (by decide +kernel) (by decide +kernel)
theorem kd_X5_years : Cond.code yX5_years cX5_years 5 (some .int) ∈ rg_tbl := rg_in 845 (by decide +kernel) (by decide +kernel)
theorem kw_X5_242 : Cond.constantLong "MulesRememberModel" 242 (30) ∈ rg_tbl := rg_in 846 (by decide +kernel) (by decide +kernel)
theorem kw_X5_244 : Cond.constantLong "MulesRememberModel" 244 (6364136223846793005) ∈ rg_tbl := rg_in 847 (by decide +kernel) (by decide +kernel)
theorem kw_X5_246 : Cond.constantLong "MulesRememberModel" 246 (1442695040888963407) ∈ rg_tbl := rg_in 848 (by decide +kernel) (by decide +kernel)
theorem kw_X5_248 : Cond.constantLong "MulesRememberModel" 248 (12) ∈ rg_tbl := rg_in 849 (by decide +kernel) (by decide +kernel)
theorem kw_L_139 : Cond.methodLink "MulesRememberLaw" 139 yX5_keep ∈ rg_tbl := rg_in 850 (by decide +kernel) (by decide +kernel)
theorem km_X5_keep : Cond.instanceMethod yX5_keep ∈ rg_tbl := rg_in 851 (by decide +kernel) (by decide +kernel)
theorem kl_X5_keep : Cond.selects "MulesRememberModel" yX5_keep yX5_keep ∈ rg_tbl := rg_in 852 (by decide +kernel) (by decide +kernel)
theorem kd_X5_keep : Cond.code yX5_keep cX5_keep 3 (some .int) ∈ rg_tbl := rg_in 853 (by decide +kernel) (by decide +kernel)
theorem kw_L_143 : Cond.methodLink "MulesRememberLaw" 143 yX5_again ∈ rg_tbl := rg_in 854 (by decide +kernel) (by decide +kernel)
theorem km_X5_again : Cond.instanceMethod yX5_again ∈ rg_tbl := rg_in 855 (by decide +kernel) (by decide +kernel)
theorem kl_X5_again : Cond.selects "MulesRememberModel" yX5_again yX5_again ∈ rg_tbl := rg_in 856 (by decide +kernel) (by decide +kernel)
theorem kd_X5_again : Cond.code yX5_again cX5_again 3 (some .int) ∈ rg_tbl := rg_in 857 (by decide +kernel) (by decide +kernel)
theorem kw_L_125 : Cond.constantLong "MulesRememberLaw" 125 (4294967295) ∈ rg_tbl := rg_in 858 (by decide +kernel) (by decide +kernel)
end
section
theorem dX0_init_0 : decode cX0_init 0 = .ok (.aload_n 0, 1) := by decide +kernel
theorem dX0_init_1 : decode cX0_init 1 = .ok (.invokespecial 3, 3) := by decide +kernel
theorem dX0_init_4 : decode cX0_init 4 = .ok (.aload_n 0, 1) := by decide +kernel
theorem dX0_init_5 : decode cX0_init 5 = .ok (.iconst 5, 1) := by decide +kernel
theorem dX0_init_6 : decode cX0_init 6 = .ok (.newarray .int, 2) := by decide +kernel
theorem dX0_init_8 : decode cX0_init 8 = .ok (.putfield 9, 3) := by decide +kernel
theorem dX0_init_11 : decode cX0_init 11 = .ok (.aload_n 0, 1) := by decide +kernel
theorem dX0_init_12 : decode cX0_init 12 = .ok (.iconst 5, 1) := by decide +kernel
theorem dX0_init_13 : decode cX0_init 13 = .ok (.newarray .int, 2) := by decide +kernel
theorem dX0_init_15 : decode cX0_init 15 = .ok (.putfield 15, 3) := by decide +kernel
theorem dX0_init_18 : decode cX0_init 18 = .ok (.aload_n 0, 1) := by decide +kernel
theorem dX0_init_19 : decode cX0_init 19 = .ok (.iconst 5, 1) := by decide +kernel
theorem dX0_init_20 : decode cX0_init 20 = .ok (.newarray .int, 2) := by decide +kernel
theorem dX0_init_22 : decode cX0_init 22 = .ok (.putfield 18, 3) := by decide +kernel
theorem dX0_init_25 : decode cX0_init 25 = .ok (.aload_n 0, 1) := by decide +kernel
theorem dX0_init_26 : decode cX0_init 26 = .ok (.iconst 0, 1) := by decide +kernel
theorem dX0_init_27 : decode cX0_init 27 = .ok (.putfield 21, 3) := by decide +kernel
theorem dX0_init_30 : decode cX0_init 30 = .ok (.return_, 1) := by decide +kernel
theorem dX0_add_0 : decode cX0_add 0 = .ok (.aload_n 0, 1) := by decide +kernel
theorem dX0_add_1 : decode cX0_add 1 = .ok (.getfield 21, 3) := by decide +kernel
theorem dX0_add_4 : decode cX0_add 4 = .ok (.ifCond .lt 11, 3) := by decide +kernel
theorem dX0_add_7 : decode cX0_add 7 = .ok (.aload_n 0, 1) := by decide +kernel
theorem dX0_add_8 : decode cX0_add 8 = .ok (.getfield 21, 3) := by decide +kernel
theorem dX0_add_11 : decode cX0_add 11 = .ok (.iconst 5, 1) := by decide +kernel
theorem dX0_add_12 : decode cX0_add 12 = .ok (.if_icmp .lt 4, 3) := by decide +kernel
theorem dX0_add_15 : decode cX0_add 15 = .ok (.return_, 1) := by decide +kernel
theorem dX0_add_16 : decode cX0_add 16 = .ok (.aload_n 0, 1) := by decide +kernel
theorem dX0_add_17 : decode cX0_add 17 = .ok (.getfield 9, 3) := by decide +kernel
theorem dX0_add_20 : decode cX0_add 20 = .ok (.aload_n 0, 1) := by decide +kernel
theorem dX0_add_21 : decode cX0_add 21 = .ok (.getfield 21, 3) := by decide +kernel
theorem dX0_add_24 : decode cX0_add 24 = .ok (.iload_n 1, 1) := by decide +kernel
theorem dX0_add_25 : decode cX0_add 25 = .ok (.iastore, 1) := by decide +kernel
theorem dX0_add_26 : decode cX0_add 26 = .ok (.aload_n 0, 1) := by decide +kernel
theorem dX0_add_27 : decode cX0_add 27 = .ok (.getfield 15, 3) := by decide +kernel
theorem dX0_add_30 : decode cX0_add 30 = .ok (.aload_n 0, 1) := by decide +kernel
theorem dX0_add_31 : decode cX0_add 31 = .ok (.getfield 21, 3) := by decide +kernel
theorem dX0_add_34 : decode cX0_add 34 = .ok (.iload_n 2, 1) := by decide +kernel
theorem dX0_add_35 : decode cX0_add 35 = .ok (.iastore, 1) := by decide +kernel
theorem dX0_add_36 : decode cX0_add 36 = .ok (.aload_n 0, 1) := by decide +kernel
theorem dX0_add_37 : decode cX0_add 37 = .ok (.getfield 18, 3) := by decide +kernel
theorem dX0_add_40 : decode cX0_add 40 = .ok (.aload_n 0, 1) := by decide +kernel
theorem dX0_add_41 : decode cX0_add 41 = .ok (.getfield 21, 3) := by decide +kernel
theorem dX0_add_44 : decode cX0_add 44 = .ok (.iload_n 3, 1) := by decide +kernel
theorem dX0_add_45 : decode cX0_add 45 = .ok (.iastore, 1) := by decide +kernel
theorem dX0_add_46 : decode cX0_add 46 = .ok (.aload_n 0, 1) := by decide +kernel
theorem dX0_add_47 : decode cX0_add 47 = .ok (.dup, 1) := by decide +kernel
theorem dX0_add_48 : decode cX0_add 48 = .ok (.getfield 21, 3) := by decide +kernel
theorem dX0_add_51 : decode cX0_add 51 = .ok (.iconst 1, 1) := by decide +kernel
theorem dX0_add_52 : decode cX0_add 52 = .ok (.iadd, 1) := by decide +kernel
theorem dX0_add_53 : decode cX0_add 53 = .ok (.putfield 21, 3) := by decide +kernel
theorem dX0_add_56 : decode cX0_add 56 = .ok (.return_, 1) := by decide +kernel
theorem dX0_all_0 : decode cX0_all 0 = .ok (.iconst 1, 1) := by decide +kernel
theorem dX0_all_1 : decode cX0_all 1 = .ok (.aload_n 0, 1) := by decide +kernel
theorem dX0_all_2 : decode cX0_all 2 = .ok (.getfield 21, 3) := by decide +kernel
theorem dX0_all_5 : decode cX0_all 5 = .ok (.ishl, 1) := by decide +kernel
theorem dX0_all_6 : decode cX0_all 6 = .ok (.iconst 1, 1) := by decide +kernel
theorem dX0_all_7 : decode cX0_all 7 = .ok (.isub, 1) := by decide +kernel
theorem dX0_all_8 : decode cX0_all 8 = .ok (.ireturn, 1) := by decide +kernel
theorem dX0_last_0 : decode cX0_last 0 = .ok (.aload_n 0, 1) := by decide +kernel
theorem dX0_last_1 : decode cX0_last 1 = .ok (.getfield 21, 3) := by decide +kernel
theorem dX0_last_4 : decode cX0_last 4 = .ok (.ifCond .le 14, 3) := by decide +kernel
theorem dX0_last_7 : decode cX0_last 7 = .ok (.iconst 1, 1) := by decide +kernel
theorem dX0_last_8 : decode cX0_last 8 = .ok (.aload_n 0, 1) := by decide +kernel
theorem dX0_last_9 : decode cX0_last 9 = .ok (.getfield 21, 3) := by decide +kernel
theorem dX0_last_12 : decode cX0_last 12 = .ok (.iconst 1, 1) := by decide +kernel
theorem dX0_last_13 : decode cX0_last 13 = .ok (.isub, 1) := by decide +kernel
theorem dX0_last_14 : decode cX0_last 14 = .ok (.ishl, 1) := by decide +kernel
theorem dX0_last_15 : decode cX0_last 15 = .ok (.goto 4, 3) := by decide +kernel
theorem dX0_last_18 : decode cX0_last 18 = .ok (.iconst 0, 1) := by decide +kernel
theorem dX0_last_19 : decode cX0_last 19 = .ok (.ireturn, 1) := by decide +kernel
theorem dX0_forbids_0 : decode cX0_forbids 0 = .ok (.iload_n 1, 1) := by decide +kernel
theorem dX0_forbids_1 : decode cX0_forbids 1 = .ok (.ifCond .lt 26, 3) := by decide +kernel
theorem dX0_forbids_4 : decode cX0_forbids 4 = .ok (.iload_n 1, 1) := by decide +kernel
theorem dX0_forbids_5 : decode cX0_forbids 5 = .ok (.aload_n 0, 1) := by decide +kernel
theorem dX0_forbids_6 : decode cX0_forbids 6 = .ok (.getfield 21, 3) := by decide +kernel
theorem dX0_forbids_9 : decode cX0_forbids 9 = .ok (.if_icmp .ge 18, 3) := by decide +kernel
theorem dX0_forbids_12 : decode cX0_forbids 12 = .ok (.iload_n 1, 1) := by decide +kernel
theorem dX0_forbids_13 : decode cX0_forbids 13 = .ok (.iconst 5, 1) := by decide +kernel
theorem dX0_forbids_14 : decode cX0_forbids 14 = .ok (.if_icmp .ge 13, 3) := by decide +kernel
theorem dX0_forbids_17 : decode cX0_forbids 17 = .ok (.aload_n 0, 1) := by decide +kernel
theorem dX0_forbids_18 : decode cX0_forbids 18 = .ok (.getfield 9, 3) := by decide +kernel
theorem dX0_forbids_21 : decode cX0_forbids 21 = .ok (.iload_n 1, 1) := by decide +kernel
theorem dX0_forbids_22 : decode cX0_forbids 22 = .ok (.iaload, 1) := by decide +kernel
theorem dX0_forbids_23 : decode cX0_forbids 23 = .ok (.iload_n 2, 1) := by decide +kernel
theorem dX0_forbids_24 : decode cX0_forbids 24 = .ok (.if_icmp .eq 5, 3) := by decide +kernel
theorem dX0_forbids_27 : decode cX0_forbids 27 = .ok (.iconst 0, 1) := by decide +kernel
theorem dX0_forbids_28 : decode cX0_forbids 28 = .ok (.ireturn, 1) := by decide +kernel
theorem dX0_forbids_29 : decode cX0_forbids 29 = .ok (.aload_n 0, 1) := by decide +kernel
theorem dX0_forbids_30 : decode cX0_forbids 30 = .ok (.getfield 15, 3) := by decide +kernel
theorem dX0_forbids_33 : decode cX0_forbids 33 = .ok (.iload_n 1, 1) := by decide +kernel
theorem dX0_forbids_34 : decode cX0_forbids 34 = .ok (.iaload, 1) := by decide +kernel
theorem dX0_forbids_35 : decode cX0_forbids 35 = .ok (.iconst 3, 1) := by decide +kernel
theorem dX0_forbids_36 : decode cX0_forbids 36 = .ok (.if_icmp .ne 22, 3) := by decide +kernel
theorem dX0_forbids_39 : decode cX0_forbids 39 = .ok (.iload 6, 2) := by decide +kernel
theorem dX0_forbids_41 : decode cX0_forbids 41 = .ok (.aload_n 0, 1) := by decide +kernel
theorem dX0_forbids_42 : decode cX0_forbids 42 = .ok (.getfield 18, 3) := by decide +kernel
theorem dX0_forbids_45 : decode cX0_forbids 45 = .ok (.iload_n 1, 1) := by decide +kernel
theorem dX0_forbids_46 : decode cX0_forbids 46 = .ok (.iaload, 1) := by decide +kernel
theorem dX0_forbids_47 : decode cX0_forbids 47 = .ok (.iconst 5, 1) := by decide +kernel
theorem dX0_forbids_48 : decode cX0_forbids 48 = .ok (.irem, 1) := by decide +kernel
theorem dX0_forbids_49 : decode cX0_forbids 49 = .ok (.if_icmp .ge 7, 3) := by decide +kernel
theorem dX0_forbids_52 : decode cX0_forbids 52 = .ok (.iconst 1, 1) := by decide +kernel
theorem dX0_forbids_53 : decode cX0_forbids 53 = .ok (.goto 4, 3) := by decide +kernel
theorem dX0_forbids_56 : decode cX0_forbids 56 = .ok (.iconst 0, 1) := by decide +kernel
theorem dX0_forbids_57 : decode cX0_forbids 57 = .ok (.ireturn, 1) := by decide +kernel
theorem dX0_forbids_58 : decode cX0_forbids 58 = .ok (.aload_n 0, 1) := by decide +kernel
theorem dX0_forbids_59 : decode cX0_forbids 59 = .ok (.getfield 15, 3) := by decide +kernel
theorem dX0_forbids_62 : decode cX0_forbids 62 = .ok (.iload_n 1, 1) := by decide +kernel
theorem dX0_forbids_63 : decode cX0_forbids 63 = .ok (.iaload, 1) := by decide +kernel
theorem dX0_forbids_64 : decode cX0_forbids 64 = .ok (.aload_n 0, 1) := by decide +kernel
theorem dX0_forbids_65 : decode cX0_forbids 65 = .ok (.getfield 18, 3) := by decide +kernel
theorem dX0_forbids_68 : decode cX0_forbids 68 = .ok (.iload_n 1, 1) := by decide +kernel
theorem dX0_forbids_69 : decode cX0_forbids 69 = .ok (.iaload, 1) := by decide +kernel
theorem dX0_forbids_70 : decode cX0_forbids 70 = .ok (.iload_n 3, 1) := by decide +kernel
theorem dX0_forbids_71 : decode cX0_forbids 71 = .ok (.iload 4, 2) := by decide +kernel
theorem dX0_forbids_73 : decode cX0_forbids 73 = .ok (.iload 5, 2) := by decide +kernel
theorem dX0_forbids_75 : decode cX0_forbids 75 = .ok (.invokestatic 25, 3) := by decide +kernel
theorem dX0_forbids_78 : decode cX0_forbids 78 = .ok (.ireturn, 1) := by decide +kernel
theorem dX0_forbidsAlone_0 : decode cX0_forbidsAlone 0 = .ok (.iload_n 0, 1) := by decide +kernel
theorem dX0_forbidsAlone_1 : decode cX0_forbidsAlone 1 = .ok (.tableswitch 65 0 2 #[27, 40, 51], 27) := by decide +kernel
theorem dX0_forbidsAlone_28 : decode cX0_forbidsAlone 28 = .ok (.iload_n 2, 1) := by decide +kernel
theorem dX0_forbidsAlone_29 : decode cX0_forbidsAlone 29 = .ok (.iload_n 1, 1) := by decide +kernel
theorem dX0_forbidsAlone_30 : decode cX0_forbidsAlone 30 = .ok (.iconst 4, 1) := by decide +kernel
theorem dX0_forbidsAlone_31 : decode cX0_forbidsAlone 31 = .ok (.irem, 1) := by decide +kernel
theorem dX0_forbidsAlone_32 : decode cX0_forbidsAlone 32 = .ok (.if_icmp .ne 7, 3) := by decide +kernel
theorem dX0_forbidsAlone_35 : decode cX0_forbidsAlone 35 = .ok (.iconst 1, 1) := by decide +kernel
theorem dX0_forbidsAlone_36 : decode cX0_forbidsAlone 36 = .ok (.goto 4, 3) := by decide +kernel
theorem dX0_forbidsAlone_39 : decode cX0_forbidsAlone 39 = .ok (.iconst 0, 1) := by decide +kernel
theorem dX0_forbidsAlone_40 : decode cX0_forbidsAlone 40 = .ok (.ireturn, 1) := by decide +kernel
theorem dX0_forbidsAlone_41 : decode cX0_forbidsAlone 41 = .ok (.iload_n 3, 1) := by decide +kernel
theorem dX0_forbidsAlone_42 : decode cX0_forbidsAlone 42 = .ok (.iload_n 1, 1) := by decide +kernel
theorem dX0_forbidsAlone_43 : decode cX0_forbidsAlone 43 = .ok (.if_icmp .ge 7, 3) := by decide +kernel
theorem dX0_forbidsAlone_46 : decode cX0_forbidsAlone 46 = .ok (.iconst 1, 1) := by decide +kernel
theorem dX0_forbidsAlone_47 : decode cX0_forbidsAlone 47 = .ok (.goto 4, 3) := by decide +kernel
theorem dX0_forbidsAlone_50 : decode cX0_forbidsAlone 50 = .ok (.iconst 0, 1) := by decide +kernel
theorem dX0_forbidsAlone_51 : decode cX0_forbidsAlone 51 = .ok (.ireturn, 1) := by decide +kernel
theorem dX0_forbidsAlone_52 : decode cX0_forbidsAlone 52 = .ok (.iload 4, 2) := by decide +kernel
theorem dX0_forbidsAlone_54 : decode cX0_forbidsAlone 54 = .ok (.iload_n 1, 1) := by decide +kernel
theorem dX0_forbidsAlone_55 : decode cX0_forbidsAlone 55 = .ok (.iconst 2, 1) := by decide +kernel
theorem dX0_forbidsAlone_56 : decode cX0_forbidsAlone 56 = .ok (.irem, 1) := by decide +kernel
theorem dX0_forbidsAlone_57 : decode cX0_forbidsAlone 57 = .ok (.if_icmp .eq 7, 3) := by decide +kernel
theorem dX0_forbidsAlone_60 : decode cX0_forbidsAlone 60 = .ok (.iconst 1, 1) := by decide +kernel
theorem dX0_forbidsAlone_61 : decode cX0_forbidsAlone 61 = .ok (.goto 4, 3) := by decide +kernel
theorem dX0_forbidsAlone_64 : decode cX0_forbidsAlone 64 = .ok (.iconst 0, 1) := by decide +kernel
theorem dX0_forbidsAlone_65 : decode cX0_forbidsAlone 65 = .ok (.ireturn, 1) := by decide +kernel
theorem dX0_forbidsAlone_66 : decode cX0_forbidsAlone 66 = .ok (.iconst 0, 1) := by decide +kernel
theorem dX0_forbidsAlone_67 : decode cX0_forbidsAlone 67 = .ok (.ireturn, 1) := by decide +kernel
theorem dX1_init_0 : decode cX1_init 0 = .ok (.aload_n 0, 1) := by decide +kernel
theorem dX1_init_1 : decode cX1_init 1 = .ok (.invokespecial 3, 3) := by decide +kernel
theorem dX1_init_4 : decode cX1_init 4 = .ok (.aload_n 0, 1) := by decide +kernel
theorem dX1_init_5 : decode cX1_init 5 = .ok (.bipush 6, 2) := by decide +kernel
theorem dX1_init_7 : decode cX1_init 7 = .ok (.newarray .int, 2) := by decide +kernel
theorem dX1_init_9 : decode cX1_init 9 = .ok (.putfield 9, 3) := by decide +kernel
theorem dX1_init_12 : decode cX1_init 12 = .ok (.aload_n 0, 1) := by decide +kernel
theorem dX1_init_13 : decode cX1_init 13 = .ok (.bipush 6, 2) := by decide +kernel
theorem dX1_init_15 : decode cX1_init 15 = .ok (.newarray .int, 2) := by decide +kernel
theorem dX1_init_17 : decode cX1_init 17 = .ok (.putfield 15, 3) := by decide +kernel
theorem dX1_init_20 : decode cX1_init 20 = .ok (.aload_n 0, 1) := by decide +kernel
theorem dX1_init_21 : decode cX1_init 21 = .ok (.bipush 6, 2) := by decide +kernel
theorem dX1_init_23 : decode cX1_init 23 = .ok (.newarray .int, 2) := by decide +kernel
theorem dX1_init_25 : decode cX1_init 25 = .ok (.putfield 18, 3) := by decide +kernel
theorem dX1_init_28 : decode cX1_init 28 = .ok (.aload_n 0, 1) := by decide +kernel
theorem dX1_init_29 : decode cX1_init 29 = .ok (.bipush 6, 2) := by decide +kernel
theorem dX1_init_31 : decode cX1_init 31 = .ok (.newarray .int, 2) := by decide +kernel
theorem dX1_init_33 : decode cX1_init 33 = .ok (.putfield 21, 3) := by decide +kernel
theorem dX1_init_36 : decode cX1_init 36 = .ok (.aload_n 0, 1) := by decide +kernel
theorem dX1_init_37 : decode cX1_init 37 = .ok (.bipush 6, 2) := by decide +kernel
theorem dX1_init_39 : decode cX1_init 39 = .ok (.newarray .int, 2) := by decide +kernel
theorem dX1_init_41 : decode cX1_init 41 = .ok (.putfield 24, 3) := by decide +kernel
theorem dX1_init_44 : decode cX1_init 44 = .ok (.aload_n 0, 1) := by decide +kernel
theorem dX1_init_45 : decode cX1_init 45 = .ok (.iconst 0, 1) := by decide +kernel
theorem dX1_init_46 : decode cX1_init 46 = .ok (.putfield 27, 3) := by decide +kernel
theorem dX1_init_49 : decode cX1_init 49 = .ok (.return_, 1) := by decide +kernel
theorem dX1_add_0 : decode cX1_add 0 = .ok (.aload_n 0, 1) := by decide +kernel
theorem dX1_add_1 : decode cX1_add 1 = .ok (.getfield 27, 3) := by decide +kernel
theorem dX1_add_4 : decode cX1_add 4 = .ok (.ifCond .lt 12, 3) := by decide +kernel
theorem dX1_add_7 : decode cX1_add 7 = .ok (.aload_n 0, 1) := by decide +kernel
theorem dX1_add_8 : decode cX1_add 8 = .ok (.getfield 27, 3) := by decide +kernel
theorem dX1_add_11 : decode cX1_add 11 = .ok (.bipush 6, 2) := by decide +kernel
theorem dX1_add_13 : decode cX1_add 13 = .ok (.if_icmp .lt 5, 3) := by decide +kernel
theorem dX1_add_16 : decode cX1_add 16 = .ok (.iconst 0, 1) := by decide +kernel
theorem dX1_add_17 : decode cX1_add 17 = .ok (.ireturn, 1) := by decide +kernel
theorem dX1_add_18 : decode cX1_add 18 = .ok (.aload_n 0, 1) := by decide +kernel
theorem dX1_add_19 : decode cX1_add 19 = .ok (.getfield 9, 3) := by decide +kernel
theorem dX1_add_22 : decode cX1_add 22 = .ok (.aload_n 0, 1) := by decide +kernel
theorem dX1_add_23 : decode cX1_add 23 = .ok (.getfield 27, 3) := by decide +kernel
theorem dX1_add_26 : decode cX1_add 26 = .ok (.iload_n 1, 1) := by decide +kernel
theorem dX1_add_27 : decode cX1_add 27 = .ok (.iastore, 1) := by decide +kernel
theorem dX1_add_28 : decode cX1_add 28 = .ok (.aload_n 0, 1) := by decide +kernel
theorem dX1_add_29 : decode cX1_add 29 = .ok (.getfield 15, 3) := by decide +kernel
theorem dX1_add_32 : decode cX1_add 32 = .ok (.aload_n 0, 1) := by decide +kernel
theorem dX1_add_33 : decode cX1_add 33 = .ok (.getfield 27, 3) := by decide +kernel
theorem dX1_add_36 : decode cX1_add 36 = .ok (.iload_n 2, 1) := by decide +kernel
theorem dX1_add_37 : decode cX1_add 37 = .ok (.iastore, 1) := by decide +kernel
theorem dX1_add_38 : decode cX1_add 38 = .ok (.aload_n 0, 1) := by decide +kernel
theorem dX1_add_39 : decode cX1_add 39 = .ok (.getfield 18, 3) := by decide +kernel
theorem dX1_add_42 : decode cX1_add 42 = .ok (.aload_n 0, 1) := by decide +kernel
theorem dX1_add_43 : decode cX1_add 43 = .ok (.getfield 27, 3) := by decide +kernel
theorem dX1_add_46 : decode cX1_add 46 = .ok (.iload_n 3, 1) := by decide +kernel
theorem dX1_add_47 : decode cX1_add 47 = .ok (.iastore, 1) := by decide +kernel
theorem dX1_add_48 : decode cX1_add 48 = .ok (.aload_n 0, 1) := by decide +kernel
theorem dX1_add_49 : decode cX1_add 49 = .ok (.getfield 21, 3) := by decide +kernel
theorem dX1_add_52 : decode cX1_add 52 = .ok (.aload_n 0, 1) := by decide +kernel
theorem dX1_add_53 : decode cX1_add 53 = .ok (.getfield 27, 3) := by decide +kernel
theorem dX1_add_56 : decode cX1_add 56 = .ok (.iload 4, 2) := by decide +kernel
theorem dX1_add_58 : decode cX1_add 58 = .ok (.iastore, 1) := by decide +kernel
theorem dX1_add_59 : decode cX1_add 59 = .ok (.aload_n 0, 1) := by decide +kernel
theorem dX1_add_60 : decode cX1_add 60 = .ok (.getfield 24, 3) := by decide +kernel
theorem dX1_add_63 : decode cX1_add 63 = .ok (.aload_n 0, 1) := by decide +kernel
theorem dX1_add_64 : decode cX1_add 64 = .ok (.getfield 27, 3) := by decide +kernel
theorem dX1_add_67 : decode cX1_add 67 = .ok (.iload 5, 2) := by decide +kernel
theorem dX1_add_69 : decode cX1_add 69 = .ok (.iastore, 1) := by decide +kernel
theorem dX1_add_70 : decode cX1_add 70 = .ok (.aload_n 0, 1) := by decide +kernel
theorem dX1_add_71 : decode cX1_add 71 = .ok (.dup, 1) := by decide +kernel
theorem dX1_add_72 : decode cX1_add 72 = .ok (.getfield 27, 3) := by decide +kernel
theorem dX1_add_75 : decode cX1_add 75 = .ok (.iconst 1, 1) := by decide +kernel
theorem dX1_add_76 : decode cX1_add 76 = .ok (.iadd, 1) := by decide +kernel
theorem dX1_add_77 : decode cX1_add 77 = .ok (.putfield 27, 3) := by decide +kernel
theorem dX1_add_80 : decode cX1_add 80 = .ok (.iconst 1, 1) := by decide +kernel
theorem dX1_add_81 : decode cX1_add 81 = .ok (.ireturn, 1) := by decide +kernel
theorem dX1_agreeWith_0 : decode cX1_agreeWith 0 = .ok (.iconst 0, 1) := by decide +kernel
theorem dX1_agreeWith_1 : decode cX1_agreeWith 1 = .ok (.istore 4, 2) := by decide +kernel
theorem dX1_agreeWith_3 : decode cX1_agreeWith 3 = .ok (.iload 4, 2) := by decide +kernel
theorem dX1_agreeWith_5 : decode cX1_agreeWith 5 = .ok (.aload_n 0, 1) := by decide +kernel
theorem dX1_agreeWith_6 : decode cX1_agreeWith 6 = .ok (.getfield 27, 3) := by decide +kernel
theorem dX1_agreeWith_9 : decode cX1_agreeWith 9 = .ok (.if_icmp .ge 78, 3) := by decide +kernel
theorem dX1_agreeWith_12 : decode cX1_agreeWith 12 = .ok (.iload 4, 2) := by decide +kernel
theorem dX1_agreeWith_14 : decode cX1_agreeWith 14 = .ok (.bipush 6, 2) := by decide +kernel
theorem dX1_agreeWith_16 : decode cX1_agreeWith 16 = .ok (.if_icmp .ge 71, 3) := by decide +kernel
theorem dX1_agreeWith_19 : decode cX1_agreeWith 19 = .ok (.iload_n 2, 1) := by decide +kernel
theorem dX1_agreeWith_20 : decode cX1_agreeWith 20 = .ok (.iload_n 3, 1) := by decide +kernel
theorem dX1_agreeWith_21 : decode cX1_agreeWith 21 = .ok (.aload_n 0, 1) := by decide +kernel
theorem dX1_agreeWith_22 : decode cX1_agreeWith 22 = .ok (.getfield 15, 3) := by decide +kernel
theorem dX1_agreeWith_25 : decode cX1_agreeWith 25 = .ok (.iload 4, 2) := by decide +kernel
theorem dX1_agreeWith_27 : decode cX1_agreeWith 27 = .ok (.iaload, 1) := by decide +kernel
theorem dX1_agreeWith_28 : decode cX1_agreeWith 28 = .ok (.aload_n 0, 1) := by decide +kernel
theorem dX1_agreeWith_29 : decode cX1_agreeWith 29 = .ok (.getfield 18, 3) := by decide +kernel
theorem dX1_agreeWith_32 : decode cX1_agreeWith 32 = .ok (.iload 4, 2) := by decide +kernel
theorem dX1_agreeWith_34 : decode cX1_agreeWith 34 = .ok (.iaload, 1) := by decide +kernel
theorem dX1_agreeWith_35 : decode cX1_agreeWith 35 = .ok (.aload_n 0, 1) := by decide +kernel
theorem dX1_agreeWith_36 : decode cX1_agreeWith 36 = .ok (.getfield 21, 3) := by decide +kernel
theorem dX1_agreeWith_39 : decode cX1_agreeWith 39 = .ok (.iload 4, 2) := by decide +kernel
theorem dX1_agreeWith_41 : decode cX1_agreeWith 41 = .ok (.iaload, 1) := by decide +kernel
theorem dX1_agreeWith_42 : decode cX1_agreeWith 42 = .ok (.invokestatic 31, 3) := by decide +kernel
theorem dX1_agreeWith_45 : decode cX1_agreeWith 45 = .ok (.istore 5, 2) := by decide +kernel
theorem dX1_agreeWith_47 : decode cX1_agreeWith 47 = .ok (.aload_n 0, 1) := by decide +kernel
theorem dX1_agreeWith_48 : decode cX1_agreeWith 48 = .ok (.getfield 9, 3) := by decide +kernel
theorem dX1_agreeWith_51 : decode cX1_agreeWith 51 = .ok (.iload 4, 2) := by decide +kernel
theorem dX1_agreeWith_53 : decode cX1_agreeWith 53 = .ok (.iaload, 1) := by decide +kernel
theorem dX1_agreeWith_54 : decode cX1_agreeWith 54 = .ok (.iload_n 1, 1) := by decide +kernel
theorem dX1_agreeWith_55 : decode cX1_agreeWith 55 = .ok (.if_icmp .ne 26, 3) := by decide +kernel
theorem dX1_agreeWith_58 : decode cX1_agreeWith 58 = .ok (.iload 5, 2) := by decide +kernel
theorem dX1_agreeWith_60 : decode cX1_agreeWith 60 = .ok (.aload_n 0, 1) := by decide +kernel
theorem dX1_agreeWith_61 : decode cX1_agreeWith 61 = .ok (.getfield 24, 3) := by decide +kernel
theorem dX1_agreeWith_64 : decode cX1_agreeWith 64 = .ok (.iload 4, 2) := by decide +kernel
theorem dX1_agreeWith_66 : decode cX1_agreeWith 66 = .ok (.iaload, 1) := by decide +kernel
theorem dX1_agreeWith_67 : decode cX1_agreeWith 67 = .ok (.iconst 1, 1) := by decide +kernel
theorem dX1_agreeWith_68 : decode cX1_agreeWith 68 = .ok (.if_icmp .ne 7, 3) := by decide +kernel
theorem dX1_agreeWith_71 : decode cX1_agreeWith 71 = .ok (.iconst 1, 1) := by decide +kernel
theorem dX1_agreeWith_72 : decode cX1_agreeWith 72 = .ok (.goto 4, 3) := by decide +kernel
theorem dX1_agreeWith_75 : decode cX1_agreeWith 75 = .ok (.iconst 0, 1) := by decide +kernel
theorem dX1_agreeWith_76 : decode cX1_agreeWith 76 = .ok (.if_icmp .eq 5, 3) := by decide +kernel
theorem dX1_agreeWith_79 : decode cX1_agreeWith 79 = .ok (.iconst 0, 1) := by decide +kernel
theorem dX1_agreeWith_80 : decode cX1_agreeWith 80 = .ok (.ireturn, 1) := by decide +kernel
theorem dX1_agreeWith_81 : decode cX1_agreeWith 81 = .ok (.iinc 4 1, 3) := by decide +kernel
theorem dX1_agreeWith_84 : decode cX1_agreeWith 84 = .ok (.goto (-81), 3) := by decide +kernel
theorem dX1_agreeWith_87 : decode cX1_agreeWith 87 = .ok (.iconst 1, 1) := by decide +kernel
theorem dX1_agreeWith_88 : decode cX1_agreeWith 88 = .ok (.ireturn, 1) := by decide +kernel
theorem dX2_init_0 : decode cX2_init 0 = .ok (.aload_n 0, 1) := by decide +kernel
theorem dX2_init_1 : decode cX2_init 1 = .ok (.invokespecial 3, 3) := by decide +kernel
theorem dX2_init_4 : decode cX2_init 4 = .ok (.aload_n 0, 1) := by decide +kernel
theorem dX2_init_5 : decode cX2_init 5 = .ok (.iconst 5, 1) := by decide +kernel
theorem dX2_init_6 : decode cX2_init 6 = .ok (.newarray .int, 2) := by decide +kernel
theorem dX2_init_8 : decode cX2_init 8 = .ok (.putfield 9, 3) := by decide +kernel
theorem dX2_init_11 : decode cX2_init 11 = .ok (.aload_n 0, 1) := by decide +kernel
theorem dX2_init_12 : decode cX2_init 12 = .ok (.iconst 5, 1) := by decide +kernel
theorem dX2_init_13 : decode cX2_init 13 = .ok (.newarray .int, 2) := by decide +kernel
theorem dX2_init_15 : decode cX2_init 15 = .ok (.putfield 15, 3) := by decide +kernel
theorem dX2_init_18 : decode cX2_init 18 = .ok (.aload_n 0, 1) := by decide +kernel
theorem dX2_init_19 : decode cX2_init 19 = .ok (.iconst 5, 1) := by decide +kernel
theorem dX2_init_20 : decode cX2_init 20 = .ok (.newarray .int, 2) := by decide +kernel
theorem dX2_init_22 : decode cX2_init 22 = .ok (.putfield 18, 3) := by decide +kernel
theorem dX2_init_25 : decode cX2_init 25 = .ok (.aload_n 0, 1) := by decide +kernel
theorem dX2_init_26 : decode cX2_init 26 = .ok (.iconst 0, 1) := by decide +kernel
theorem dX2_init_27 : decode cX2_init 27 = .ok (.putfield 21, 3) := by decide +kernel
theorem dX2_init_30 : decode cX2_init 30 = .ok (.aload_n 0, 1) := by decide +kernel
theorem dX2_init_31 : decode cX2_init 31 = .ok (.iconst 0, 1) := by decide +kernel
theorem dX2_init_32 : decode cX2_init 32 = .ok (.putfield 25, 3) := by decide +kernel
theorem dX2_init_35 : decode cX2_init 35 = .ok (.return_, 1) := by decide +kernel
theorem dX3_init_0 : decode cX3_init 0 = .ok (.aload_n 0, 1) := by decide +kernel
theorem dX3_init_1 : decode cX3_init 1 = .ok (.invokespecial 3, 3) := by decide +kernel
theorem dX3_init_4 : decode cX3_init 4 = .ok (.aload_n 0, 1) := by decide +kernel
theorem dX3_init_5 : decode cX3_init 5 = .ok (.bipush 48, 2) := by decide +kernel
theorem dX3_init_7 : decode cX3_init 7 = .ok (.newarray .int, 2) := by decide +kernel
theorem dX3_init_9 : decode cX3_init 9 = .ok (.putfield 9, 3) := by decide +kernel
theorem dX3_init_12 : decode cX3_init 12 = .ok (.aload_n 0, 1) := by decide +kernel
theorem dX3_init_13 : decode cX3_init 13 = .ok (.iconst 0, 1) := by decide +kernel
theorem dX3_init_14 : decode cX3_init 14 = .ok (.putfield 15, 3) := by decide +kernel
theorem dX3_init_17 : decode cX3_init 17 = .ok (.return_, 1) := by decide +kernel
theorem dX3_put_0 : decode cX3_put 0 = .ok (.aload_n 0, 1) := by decide +kernel
theorem dX3_put_1 : decode cX3_put 1 = .ok (.getfield 15, 3) := by decide +kernel
theorem dX3_put_4 : decode cX3_put 4 = .ok (.ifCond .lt 15, 3) := by decide +kernel
theorem dX3_put_7 : decode cX3_put 7 = .ok (.aload_n 0, 1) := by decide +kernel
theorem dX3_put_8 : decode cX3_put 8 = .ok (.getfield 15, 3) := by decide +kernel
theorem dX3_put_11 : decode cX3_put 11 = .ok (.aload_n 0, 1) := by decide +kernel
theorem dX3_put_12 : decode cX3_put 12 = .ok (.getfield 9, 3) := by decide +kernel
theorem dX3_put_15 : decode cX3_put 15 = .ok (.arraylength, 1) := by decide +kernel
theorem dX3_put_16 : decode cX3_put 16 = .ok (.if_icmp .lt 5, 3) := by decide +kernel
theorem dX3_put_19 : decode cX3_put 19 = .ok (.iconst 0, 1) := by decide +kernel
theorem dX3_put_20 : decode cX3_put 20 = .ok (.ireturn, 1) := by decide +kernel
theorem dX3_put_21 : decode cX3_put 21 = .ok (.aload_n 0, 1) := by decide +kernel
theorem dX3_put_22 : decode cX3_put 22 = .ok (.getfield 9, 3) := by decide +kernel
theorem dX3_put_25 : decode cX3_put 25 = .ok (.aload_n 0, 1) := by decide +kernel
theorem dX3_put_26 : decode cX3_put 26 = .ok (.getfield 15, 3) := by decide +kernel
theorem dX3_put_29 : decode cX3_put 29 = .ok (.iload_n 1, 1) := by decide +kernel
theorem dX3_put_30 : decode cX3_put 30 = .ok (.iastore, 1) := by decide +kernel
theorem dX3_put_31 : decode cX3_put 31 = .ok (.aload_n 0, 1) := by decide +kernel
theorem dX3_put_32 : decode cX3_put 32 = .ok (.dup, 1) := by decide +kernel
theorem dX3_put_33 : decode cX3_put 33 = .ok (.getfield 15, 3) := by decide +kernel
theorem dX3_put_36 : decode cX3_put 36 = .ok (.iconst 1, 1) := by decide +kernel
theorem dX3_put_37 : decode cX3_put 37 = .ok (.iadd, 1) := by decide +kernel
theorem dX3_put_38 : decode cX3_put 38 = .ok (.putfield 15, 3) := by decide +kernel
theorem dX3_put_41 : decode cX3_put 41 = .ok (.iconst 1, 1) := by decide +kernel
theorem dX3_put_42 : decode cX3_put 42 = .ok (.ireturn, 1) := by decide +kernel
theorem dX3_letter_0 : decode cX3_letter 0 = .ok (.iload_n 1, 1) := by decide +kernel
theorem dX3_letter_1 : decode cX3_letter 1 = .ok (.ifCond .lt 29, 3) := by decide +kernel
theorem dX3_letter_4 : decode cX3_letter 4 = .ok (.iload_n 1, 1) := by decide +kernel
theorem dX3_letter_5 : decode cX3_letter 5 = .ok (.aload_n 0, 1) := by decide +kernel
theorem dX3_letter_6 : decode cX3_letter 6 = .ok (.getfield 15, 3) := by decide +kernel
theorem dX3_letter_9 : decode cX3_letter 9 = .ok (.if_icmp .ge 21, 3) := by decide +kernel
theorem dX3_letter_12 : decode cX3_letter 12 = .ok (.iload_n 1, 1) := by decide +kernel
theorem dX3_letter_13 : decode cX3_letter 13 = .ok (.aload_n 0, 1) := by decide +kernel
theorem dX3_letter_14 : decode cX3_letter 14 = .ok (.getfield 9, 3) := by decide +kernel
theorem dX3_letter_17 : decode cX3_letter 17 = .ok (.arraylength, 1) := by decide +kernel
theorem dX3_letter_18 : decode cX3_letter 18 = .ok (.if_icmp .ge 12, 3) := by decide +kernel
theorem dX3_letter_21 : decode cX3_letter 21 = .ok (.aload_n 0, 1) := by decide +kernel
theorem dX3_letter_22 : decode cX3_letter 22 = .ok (.getfield 9, 3) := by decide +kernel
theorem dX3_letter_25 : decode cX3_letter 25 = .ok (.iload_n 1, 1) := by decide +kernel
theorem dX3_letter_26 : decode cX3_letter 26 = .ok (.iaload, 1) := by decide +kernel
theorem dX3_letter_27 : decode cX3_letter 27 = .ok (.goto 4, 3) := by decide +kernel
theorem dX3_letter_30 : decode cX3_letter 30 = .ok (.iconst 0, 1) := by decide +kernel
theorem dX3_letter_31 : decode cX3_letter 31 = .ok (.ireturn, 1) := by decide +kernel
theorem dX3_figure_0 : decode cX3_figure 0 = .ok (.aload_n 0, 1) := by decide +kernel
theorem dX3_figure_1 : decode cX3_figure 1 = .ok (.iload_n 1, 1) := by decide +kernel
theorem dX3_figure_2 : decode cX3_figure 2 = .ok (.invokevirtual 19, 3) := by decide +kernel
theorem dX3_figure_5 : decode cX3_figure 5 = .ok (.bipush 48, 2) := by decide +kernel
theorem dX3_figure_7 : decode cX3_figure 7 = .ok (.isub, 1) := by decide +kernel
theorem dX3_figure_8 : decode cX3_figure 8 = .ok (.ireturn, 1) := by decide +kernel
theorem dX3_firstFault_0 : decode cX3_firstFault 0 = .ok (.iconst 0, 1) := by decide +kernel
theorem dX3_firstFault_1 : decode cX3_firstFault 1 = .ok (.istore_n 1, 1) := by decide +kernel
theorem dX3_firstFault_2 : decode cX3_firstFault 2 = .ok (.iconst 0, 1) := by decide +kernel
theorem dX3_firstFault_3 : decode cX3_firstFault 3 = .ok (.istore_n 2, 1) := by decide +kernel
theorem dX3_firstFault_4 : decode cX3_firstFault 4 = .ok (.bipush 77, 2) := by decide +kernel
theorem dX3_firstFault_6 : decode cX3_firstFault 6 = .ok (.istore_n 3, 1) := by decide +kernel
theorem dX3_firstFault_7 : decode cX3_firstFault 7 = .ok (.iconst 0, 1) := by decide +kernel
theorem dX3_firstFault_8 : decode cX3_firstFault 8 = .ok (.istore 4, 2) := by decide +kernel
theorem dX3_firstFault_10 : decode cX3_firstFault 10 = .ok (.iload 4, 2) := by decide +kernel
theorem dX3_firstFault_12 : decode cX3_firstFault 12 = .ok (.aload_n 0, 1) := by decide +kernel
theorem dX3_firstFault_13 : decode cX3_firstFault 13 = .ok (.getfield 15, 3) := by decide +kernel
theorem dX3_firstFault_16 : decode cX3_firstFault 16 = .ok (.if_icmp .ge 147, 3) := by decide +kernel
theorem dX3_firstFault_19 : decode cX3_firstFault 19 = .ok (.aload_n 0, 1) := by decide +kernel
theorem dX3_firstFault_20 : decode cX3_firstFault 20 = .ok (.iload 4, 2) := by decide +kernel
theorem dX3_firstFault_22 : decode cX3_firstFault 22 = .ok (.invokevirtual 19, 3) := by decide +kernel
theorem dX3_firstFault_25 : decode cX3_firstFault 25 = .ok (.istore 5, 2) := by decide +kernel
theorem dX3_firstFault_27 : decode cX3_firstFault 27 = .ok (.iload 5, 2) := by decide +kernel
theorem dX3_firstFault_29 : decode cX3_firstFault 29 = .ok (.bipush 65, 2) := by decide +kernel
theorem dX3_firstFault_31 : decode cX3_firstFault 31 = .ok (.if_icmp .ne 12, 3) := by decide +kernel
theorem dX3_firstFault_34 : decode cX3_firstFault 34 = .ok (.iload_n 2, 1) := by decide +kernel
theorem dX3_firstFault_35 : decode cX3_firstFault 35 = .ok (.iconst 5, 1) := by decide +kernel
theorem dX3_firstFault_36 : decode cX3_firstFault 36 = .ok (.if_icmp .ge 7, 3) := by decide +kernel
theorem dX3_firstFault_39 : decode cX3_firstFault 39 = .ok (.iconst 1, 1) := by decide +kernel
theorem dX3_firstFault_40 : decode cX3_firstFault 40 = .ok (.goto 4, 3) := by decide +kernel
theorem dX3_firstFault_43 : decode cX3_firstFault 43 = .ok (.iconst 0, 1) := by decide +kernel
theorem dX3_firstFault_44 : decode cX3_firstFault 44 = .ok (.istore 6, 2) := by decide +kernel
theorem dX3_firstFault_46 : decode cX3_firstFault 46 = .ok (.iload 5, 2) := by decide +kernel
theorem dX3_firstFault_48 : decode cX3_firstFault 48 = .ok (.bipush 77, 2) := by decide +kernel
theorem dX3_firstFault_50 : decode cX3_firstFault 50 = .ok (.if_icmp .ne 12, 3) := by decide +kernel
theorem dX3_firstFault_53 : decode cX3_firstFault 53 = .ok (.iload_n 1, 1) := by decide +kernel
theorem dX3_firstFault_54 : decode cX3_firstFault 54 = .ok (.iconst 5, 1) := by decide +kernel
theorem dX3_firstFault_55 : decode cX3_firstFault 55 = .ok (.if_icmp .ge 7, 3) := by decide +kernel
theorem dX3_firstFault_58 : decode cX3_firstFault 58 = .ok (.iconst 1, 1) := by decide +kernel
theorem dX3_firstFault_59 : decode cX3_firstFault 59 = .ok (.goto 4, 3) := by decide +kernel
theorem dX3_firstFault_62 : decode cX3_firstFault 62 = .ok (.iconst 0, 1) := by decide +kernel
theorem dX3_firstFault_63 : decode cX3_firstFault 63 = .ok (.istore 7, 2) := by decide +kernel
theorem dX3_firstFault_65 : decode cX3_firstFault 65 = .ok (.iload 4, 2) := by decide +kernel
theorem dX3_firstFault_67 : decode cX3_firstFault 67 = .ok (.ifCond .ne 13, 3) := by decide +kernel
theorem dX3_firstFault_70 : decode cX3_firstFault 70 = .ok (.iload 5, 2) := by decide +kernel
theorem dX3_firstFault_72 : decode cX3_firstFault 72 = .ok (.bipush 77, 2) := by decide +kernel
theorem dX3_firstFault_74 : decode cX3_firstFault 74 = .ok (.if_icmp .eq 83, 3) := by decide +kernel
theorem dX3_firstFault_77 : decode cX3_firstFault 77 = .ok (.iload 4, 2) := by decide +kernel
theorem dX3_firstFault_79 : decode cX3_firstFault 79 = .ok (.ireturn, 1) := by decide +kernel
theorem dX3_firstFault_80 : decode cX3_firstFault 80 = .ok (.iload 4, 2) := by decide +kernel
theorem dX3_firstFault_82 : decode cX3_firstFault 82 = .ok (.iconst 4, 1) := by decide +kernel
theorem dX3_firstFault_83 : decode cX3_firstFault 83 = .ok (.irem, 1) := by decide +kernel
theorem dX3_firstFault_84 : decode cX3_firstFault 84 = .ok (.iconst 1, 1) := by decide +kernel
theorem dX3_firstFault_85 : decode cX3_firstFault 85 = .ok (.if_icmp .ne 48, 3) := by decide +kernel
theorem dX3_firstFault_88 : decode cX3_firstFault 88 = .ok (.iload 6, 2) := by decide +kernel
theorem dX3_firstFault_90 : decode cX3_firstFault 90 = .ok (.ifCond .ne 11, 3) := by decide +kernel
theorem dX3_firstFault_93 : decode cX3_firstFault 93 = .ok (.iload 7, 2) := by decide +kernel
theorem dX3_firstFault_95 : decode cX3_firstFault 95 = .ok (.ifCond .ne 6, 3) := by decide +kernel
theorem dX3_firstFault_98 : decode cX3_firstFault 98 = .ok (.iload 4, 2) := by decide +kernel
theorem dX3_firstFault_100 : decode cX3_firstFault 100 = .ok (.ireturn, 1) := by decide +kernel
theorem dX3_firstFault_101 : decode cX3_firstFault 101 = .ok (.iload 5, 2) := by decide +kernel
theorem dX3_firstFault_103 : decode cX3_firstFault 103 = .ok (.istore_n 3, 1) := by decide +kernel
theorem dX3_firstFault_104 : decode cX3_firstFault 104 = .ok (.iload_n 2, 1) := by decide +kernel
theorem dX3_firstFault_105 : decode cX3_firstFault 105 = .ok (.iload 6, 2) := by decide +kernel
theorem dX3_firstFault_107 : decode cX3_firstFault 107 = .ok (.ifCond .eq 7, 3) := by decide +kernel
theorem dX3_firstFault_110 : decode cX3_firstFault 110 = .ok (.iconst 1, 1) := by decide +kernel
theorem dX3_firstFault_111 : decode cX3_firstFault 111 = .ok (.goto 4, 3) := by decide +kernel
theorem dX3_firstFault_114 : decode cX3_firstFault 114 = .ok (.iconst 0, 1) := by decide +kernel
theorem dX3_firstFault_115 : decode cX3_firstFault 115 = .ok (.iadd, 1) := by decide +kernel
theorem dX3_firstFault_116 : decode cX3_firstFault 116 = .ok (.istore_n 2, 1) := by decide +kernel
theorem dX3_firstFault_117 : decode cX3_firstFault 117 = .ok (.iload_n 1, 1) := by decide +kernel
theorem dX3_firstFault_118 : decode cX3_firstFault 118 = .ok (.iload 7, 2) := by decide +kernel
theorem dX3_firstFault_120 : decode cX3_firstFault 120 = .ok (.ifCond .eq 7, 3) := by decide +kernel
theorem dX3_firstFault_123 : decode cX3_firstFault 123 = .ok (.iconst 1, 1) := by decide +kernel
theorem dX3_firstFault_124 : decode cX3_firstFault 124 = .ok (.goto 4, 3) := by decide +kernel
theorem dX3_firstFault_127 : decode cX3_firstFault 127 = .ok (.iconst 0, 1) := by decide +kernel
theorem dX3_firstFault_128 : decode cX3_firstFault 128 = .ok (.iadd, 1) := by decide +kernel
theorem dX3_firstFault_129 : decode cX3_firstFault 129 = .ok (.istore_n 1, 1) := by decide +kernel
theorem dX3_firstFault_130 : decode cX3_firstFault 130 = .ok (.goto 27, 3) := by decide +kernel
theorem dX3_firstFault_133 : decode cX3_firstFault 133 = .ok (.iload 5, 2) := by decide +kernel
theorem dX3_firstFault_135 : decode cX3_firstFault 135 = .ok (.bipush 48, 2) := by decide +kernel
theorem dX3_firstFault_137 : decode cX3_firstFault 137 = .ok (.if_icmp .lt 17, 3) := by decide +kernel
theorem dX3_firstFault_140 : decode cX3_firstFault 140 = .ok (.iload 5, 2) := by decide +kernel
theorem dX3_firstFault_142 : decode cX3_firstFault 142 = .ok (.bipush 48, 2) := by decide +kernel
theorem dX3_firstFault_144 : decode cX3_firstFault 144 = .ok (.iload 4, 2) := by decide +kernel
theorem dX3_firstFault_146 : decode cX3_firstFault 146 = .ok (.iload_n 3, 1) := by decide +kernel
theorem dX3_firstFault_147 : decode cX3_firstFault 147 = .ok (.invokestatic 23, 3) := by decide +kernel
theorem dX3_firstFault_150 : decode cX3_firstFault 150 = .ok (.iadd, 1) := by decide +kernel
theorem dX3_firstFault_151 : decode cX3_firstFault 151 = .ok (.if_icmp .lt 6, 3) := by decide +kernel
theorem dX3_firstFault_154 : decode cX3_firstFault 154 = .ok (.iload 4, 2) := by decide +kernel
theorem dX3_firstFault_156 : decode cX3_firstFault 156 = .ok (.ireturn, 1) := by decide +kernel
theorem dX3_firstFault_157 : decode cX3_firstFault 157 = .ok (.iinc 4 1, 3) := by decide +kernel
theorem dX3_firstFault_160 : decode cX3_firstFault 160 = .ok (.goto (-150), 3) := by decide +kernel
theorem dX3_firstFault_163 : decode cX3_firstFault 163 = .ok (.aload_n 0, 1) := by decide +kernel
theorem dX3_firstFault_164 : decode cX3_firstFault 164 = .ok (.getfield 15, 3) := by decide +kernel
theorem dX3_firstFault_167 : decode cX3_firstFault 167 = .ok (.iconst 4, 1) := by decide +kernel
theorem dX3_firstFault_168 : decode cX3_firstFault 168 = .ok (.irem, 1) := by decide +kernel
theorem dX3_firstFault_169 : decode cX3_firstFault 169 = .ok (.iconst 1, 1) := by decide +kernel
theorem dX3_firstFault_170 : decode cX3_firstFault 170 = .ok (.if_icmp .ne 8, 3) := by decide +kernel
theorem dX3_firstFault_173 : decode cX3_firstFault 173 = .ok (.bipush (-9), 2) := by decide +kernel
theorem dX3_firstFault_175 : decode cX3_firstFault 175 = .ok (.goto 7, 3) := by decide +kernel
theorem dX3_firstFault_178 : decode cX3_firstFault 178 = .ok (.aload_n 0, 1) := by decide +kernel
theorem dX3_firstFault_179 : decode cX3_firstFault 179 = .ok (.getfield 15, 3) := by decide +kernel
theorem dX3_firstFault_182 : decode cX3_firstFault 182 = .ok (.ireturn, 1) := by decide +kernel
theorem dX3_figuresAt_0 : decode cX3_figuresAt 0 = .ok (.iload_n 0, 1) := by decide +kernel
theorem dX3_figuresAt_1 : decode cX3_figuresAt 1 = .ok (.iconst 4, 1) := by decide +kernel
theorem dX3_figuresAt_2 : decode cX3_figuresAt 2 = .ok (.irem, 1) := by decide +kernel
theorem dX3_figuresAt_3 : decode cX3_figuresAt 3 = .ok (.lookupswitch 40 #[(2, 25), (3, 28)], 25) := by decide +kernel
theorem dX3_figuresAt_28 : decode cX3_figuresAt 28 = .ok (.bipush 10, 2) := by decide +kernel
theorem dX3_figuresAt_30 : decode cX3_figuresAt 30 = .ok (.ireturn, 1) := by decide +kernel
theorem dX3_figuresAt_31 : decode cX3_figuresAt 31 = .ok (.iload_n 1, 1) := by decide +kernel
theorem dX3_figuresAt_32 : decode cX3_figuresAt 32 = .ok (.bipush 65, 2) := by decide +kernel
theorem dX3_figuresAt_34 : decode cX3_figuresAt 34 = .ok (.if_icmp .ne 7, 3) := by decide +kernel
theorem dX3_figuresAt_37 : decode cX3_figuresAt 37 = .ok (.iconst 4, 1) := by decide +kernel
theorem dX3_figuresAt_38 : decode cX3_figuresAt 38 = .ok (.goto 4, 3) := by decide +kernel
theorem dX3_figuresAt_41 : decode cX3_figuresAt 41 = .ok (.iconst 4, 1) := by decide +kernel
theorem dX3_figuresAt_42 : decode cX3_figuresAt 42 = .ok (.ireturn, 1) := by decide +kernel
theorem dX3_figuresAt_43 : decode cX3_figuresAt 43 = .ok (.iload_n 1, 1) := by decide +kernel
theorem dX3_figuresAt_44 : decode cX3_figuresAt 44 = .ok (.bipush 65, 2) := by decide +kernel
theorem dX3_figuresAt_46 : decode cX3_figuresAt 46 = .ok (.if_icmp .ne 8, 3) := by decide +kernel
theorem dX3_figuresAt_49 : decode cX3_figuresAt 49 = .ok (.bipush 10, 2) := by decide +kernel
theorem dX3_figuresAt_51 : decode cX3_figuresAt 51 = .ok (.goto 4, 3) := by decide +kernel
theorem dX3_figuresAt_54 : decode cX3_figuresAt 54 = .ok (.iconst 4, 1) := by decide +kernel
theorem dX3_figuresAt_55 : decode cX3_figuresAt 55 = .ok (.ireturn, 1) := by decide +kernel
theorem dX4_init_0 : decode cX4_init 0 = .ok (.aload_n 0, 1) := by decide +kernel
theorem dX4_init_1 : decode cX4_init 1 = .ok (.invokespecial 1, 3) := by decide +kernel
theorem dX4_init_4 : decode cX4_init 4 = .ok (.aload_n 0, 1) := by decide +kernel
theorem dX4_init_5 : decode cX4_init 5 = .ok (.new 7, 3) := by decide +kernel
theorem dX4_init_8 : decode cX4_init 8 = .ok (.dup, 1) := by decide +kernel
theorem dX4_init_9 : decode cX4_init 9 = .ok (.invokespecial 9, 3) := by decide +kernel
theorem dX4_init_12 : decode cX4_init 12 = .ok (.putfield 10, 3) := by decide +kernel
theorem dX4_init_15 : decode cX4_init 15 = .ok (.aload_n 0, 1) := by decide +kernel
theorem dX4_init_16 : decode cX4_init 16 = .ok (.new 16, 3) := by decide +kernel
theorem dX4_init_19 : decode cX4_init 19 = .ok (.dup, 1) := by decide +kernel
theorem dX4_init_20 : decode cX4_init 20 = .ok (.invokespecial 18, 3) := by decide +kernel
theorem dX4_init_23 : decode cX4_init 23 = .ok (.putfield 19, 3) := by decide +kernel
theorem dX4_init_26 : decode cX4_init 26 = .ok (.aload_n 0, 1) := by decide +kernel
theorem dX4_init_27 : decode cX4_init 27 = .ok (.iconst 5, 1) := by decide +kernel
theorem dX4_init_28 : decode cX4_init 28 = .ok (.newarray .int, 2) := by decide +kernel
theorem dX4_init_30 : decode cX4_init 30 = .ok (.putfield 23, 3) := by decide +kernel
theorem dX4_init_33 : decode cX4_init 33 = .ok (.aload_n 0, 1) := by decide +kernel
theorem dX4_init_34 : decode cX4_init 34 = .ok (.iconst 0, 1) := by decide +kernel
theorem dX4_init_35 : decode cX4_init 35 = .ok (.putfield 27, 3) := by decide +kernel
theorem dX4_init_38 : decode cX4_init 38 = .ok (.aload_n 0, 1) := by decide +kernel
theorem dX4_init_39 : decode cX4_init 39 = .ok (.new 31, 3) := by decide +kernel
theorem dX4_init_42 : decode cX4_init 42 = .ok (.dup, 1) := by decide +kernel
theorem dX4_init_43 : decode cX4_init 43 = .ok (.invokespecial 33, 3) := by decide +kernel
theorem dX4_init_46 : decode cX4_init 46 = .ok (.putfield 34, 3) := by decide +kernel
theorem dX4_init_49 : decode cX4_init 49 = .ok (.aload_n 0, 1) := by decide +kernel
theorem dX4_init_50 : decode cX4_init 50 = .ok (.new 31, 3) := by decide +kernel
theorem dX4_init_53 : decode cX4_init 53 = .ok (.dup, 1) := by decide +kernel
theorem dX4_init_54 : decode cX4_init 54 = .ok (.invokespecial 33, 3) := by decide +kernel
theorem dX4_init_57 : decode cX4_init 57 = .ok (.putfield 38, 3) := by decide +kernel
theorem dX4_init_60 : decode cX4_init 60 = .ok (.aload_n 0, 1) := by decide +kernel
theorem dX4_init_61 : decode cX4_init 61 = .ok (.bipush 14, 2) := by decide +kernel
theorem dX4_init_63 : decode cX4_init 63 = .ok (.anewarray 31, 3) := by decide +kernel
theorem dX4_init_66 : decode cX4_init 66 = .ok (.putfield 41, 3) := by decide +kernel
theorem dX4_init_69 : decode cX4_init 69 = .ok (.aload_n 0, 1) := by decide +kernel
theorem dX4_init_70 : decode cX4_init 70 = .ok (.iconst 0, 1) := by decide +kernel
theorem dX4_init_71 : decode cX4_init 71 = .ok (.putfield 45, 3) := by decide +kernel
theorem dX4_init_74 : decode cX4_init 74 = .ok (.aload_n 0, 1) := by decide +kernel
theorem dX4_init_75 : decode cX4_init 75 = .ok (.iconst 0, 1) := by decide +kernel
theorem dX4_init_76 : decode cX4_init 76 = .ok (.putfield 48, 3) := by decide +kernel
theorem dX4_init_79 : decode cX4_init 79 = .ok (.aload_n 0, 1) := by decide +kernel
theorem dX4_init_80 : decode cX4_init 80 = .ok (.iconst 2, 1) := by decide +kernel
theorem dX4_init_81 : decode cX4_init 81 = .ok (.anewarray 31, 3) := by decide +kernel
theorem dX4_init_84 : decode cX4_init 84 = .ok (.putfield 51, 3) := by decide +kernel
theorem dX4_init_87 : decode cX4_init 87 = .ok (.aload_n 0, 1) := by decide +kernel
theorem dX4_init_88 : decode cX4_init 88 = .ok (.iconst 2, 1) := by decide +kernel
theorem dX4_init_89 : decode cX4_init 89 = .ok (.newarray .boolean, 2) := by decide +kernel
theorem dX4_init_91 : decode cX4_init 91 = .ok (.putfield 54, 3) := by decide +kernel
theorem dX4_init_94 : decode cX4_init 94 = .ok (.aload_n 0, 1) := by decide +kernel
theorem dX4_init_95 : decode cX4_init 95 = .ok (.new 58, 3) := by decide +kernel
theorem dX4_init_98 : decode cX4_init 98 = .ok (.dup, 1) := by decide +kernel
theorem dX4_init_99 : decode cX4_init 99 = .ok (.invokespecial 60, 3) := by decide +kernel
theorem dX4_init_102 : decode cX4_init 102 = .ok (.putfield 61, 3) := by decide +kernel
theorem dX4_init_105 : decode cX4_init 105 = .ok (.aload_n 0, 1) := by decide +kernel
theorem dX4_init_106 : decode cX4_init 106 = .ok (.bipush 6, 2) := by decide +kernel
theorem dX4_init_108 : decode cX4_init 108 = .ok (.newarray .int, 2) := by decide +kernel
theorem dX4_init_110 : decode cX4_init 110 = .ok (.putfield 65, 3) := by decide +kernel
theorem dX4_init_113 : decode cX4_init 113 = .ok (.aload_n 0, 1) := by decide +kernel
theorem dX4_init_114 : decode cX4_init 114 = .ok (.lconst 0, 1) := by decide +kernel
theorem dX4_init_115 : decode cX4_init 115 = .ok (.putfield 68, 3) := by decide +kernel
theorem dX4_init_118 : decode cX4_init 118 = .ok (.iconst 0, 1) := by decide +kernel
theorem dX4_init_119 : decode cX4_init 119 = .ok (.istore_n 1, 1) := by decide +kernel
theorem dX4_init_120 : decode cX4_init 120 = .ok (.iload_n 1, 1) := by decide +kernel
theorem dX4_init_121 : decode cX4_init 121 = .ok (.aload_n 0, 1) := by decide +kernel
theorem dX4_init_122 : decode cX4_init 122 = .ok (.getfield 41, 3) := by decide +kernel
theorem dX4_init_125 : decode cX4_init 125 = .ok (.arraylength, 1) := by decide +kernel
theorem dX4_init_126 : decode cX4_init 126 = .ok (.if_icmp .ge 22, 3) := by decide +kernel
theorem dX4_init_129 : decode cX4_init 129 = .ok (.aload_n 0, 1) := by decide +kernel
theorem dX4_init_130 : decode cX4_init 130 = .ok (.getfield 41, 3) := by decide +kernel
theorem dX4_init_133 : decode cX4_init 133 = .ok (.iload_n 1, 1) := by decide +kernel
theorem dX4_init_134 : decode cX4_init 134 = .ok (.new 31, 3) := by decide +kernel
theorem dX4_init_137 : decode cX4_init 137 = .ok (.dup, 1) := by decide +kernel
theorem dX4_init_138 : decode cX4_init 138 = .ok (.invokespecial 33, 3) := by decide +kernel
theorem dX4_init_141 : decode cX4_init 141 = .ok (.aastore, 1) := by decide +kernel
theorem dX4_init_142 : decode cX4_init 142 = .ok (.iinc 1 1, 3) := by decide +kernel
theorem dX4_init_145 : decode cX4_init 145 = .ok (.goto (-25), 3) := by decide +kernel
theorem dX4_init_148 : decode cX4_init 148 = .ok (.iconst 0, 1) := by decide +kernel
theorem dX4_init_149 : decode cX4_init 149 = .ok (.istore_n 1, 1) := by decide +kernel
theorem dX4_init_150 : decode cX4_init 150 = .ok (.iload_n 1, 1) := by decide +kernel
theorem dX4_init_151 : decode cX4_init 151 = .ok (.aload_n 0, 1) := by decide +kernel
theorem dX4_init_152 : decode cX4_init 152 = .ok (.getfield 51, 3) := by decide +kernel
theorem dX4_init_155 : decode cX4_init 155 = .ok (.arraylength, 1) := by decide +kernel
theorem dX4_init_156 : decode cX4_init 156 = .ok (.if_icmp .ge 22, 3) := by decide +kernel
theorem dX4_init_159 : decode cX4_init 159 = .ok (.aload_n 0, 1) := by decide +kernel
theorem dX4_init_160 : decode cX4_init 160 = .ok (.getfield 51, 3) := by decide +kernel
theorem dX4_init_163 : decode cX4_init 163 = .ok (.iload_n 1, 1) := by decide +kernel
theorem dX4_init_164 : decode cX4_init 164 = .ok (.new 31, 3) := by decide +kernel
theorem dX4_init_167 : decode cX4_init 167 = .ok (.dup, 1) := by decide +kernel
theorem dX4_init_168 : decode cX4_init 168 = .ok (.invokespecial 33, 3) := by decide +kernel
theorem dX4_init_171 : decode cX4_init 171 = .ok (.aastore, 1) := by decide +kernel
theorem dX4_init_172 : decode cX4_init 172 = .ok (.iinc 1 1, 3) := by decide +kernel
theorem dX4_init_175 : decode cX4_init 175 = .ok (.goto (-25), 3) := by decide +kernel
theorem dX4_init_178 : decode cX4_init 178 = .ok (.return_, 1) := by decide +kernel
theorem dX4_write_0 : decode cX4_write 0 = .ok (.iload_n 1, 1) := by decide +kernel
theorem dX4_write_1 : decode cX4_write 1 = .ok (.ifCond .lt 10, 3) := by decide +kernel
theorem dX4_write_4 : decode cX4_write 4 = .ok (.iload_n 1, 1) := by decide +kernel
theorem dX4_write_5 : decode cX4_write 5 = .ok (.sipush 255, 3) := by decide +kernel
theorem dX4_write_8 : decode cX4_write 8 = .ok (.if_icmp .le 6, 3) := by decide +kernel
theorem dX4_write_11 : decode cX4_write 11 = .ok (.bipush (-2), 2) := by decide +kernel
theorem dX4_write_13 : decode cX4_write 13 = .ok (.ireturn, 1) := by decide +kernel
theorem dX4_write_14 : decode cX4_write 14 = .ok (.aload_n 0, 1) := by decide +kernel
theorem dX4_write_15 : decode cX4_write 15 = .ok (.getfield 10, 3) := by decide +kernel
theorem dX4_write_18 : decode cX4_write 18 = .ok (.iload_n 1, 1) := by decide +kernel
theorem dX4_write_19 : decode cX4_write 19 = .ok (.invokevirtual 72, 3) := by decide +kernel
theorem dX4_write_22 : decode cX4_write 22 = .ok (.ifCond .eq 13, 3) := by decide +kernel
theorem dX4_write_25 : decode cX4_write 25 = .ok (.aload_n 0, 1) := by decide +kernel
theorem dX4_write_26 : decode cX4_write 26 = .ok (.getfield 10, 3) := by decide +kernel
theorem dX4_write_29 : decode cX4_write 29 = .ok (.getfield 76, 3) := by decide +kernel
theorem dX4_write_32 : decode cX4_write 32 = .ok (.goto 5, 3) := by decide +kernel
theorem dX4_write_35 : decode cX4_write 35 = .ok (.bipush (-4), 2) := by decide +kernel
theorem dX4_write_37 : decode cX4_write 37 = .ok (.ireturn, 1) := by decide +kernel
theorem dX4_wipe_0 : decode cX4_wipe 0 = .ok (.aload_n 0, 1) := by decide +kernel
theorem dX4_wipe_1 : decode cX4_wipe 1 = .ok (.getfield 10, 3) := by decide +kernel
theorem dX4_wipe_4 : decode cX4_wipe 4 = .ok (.getfield 76, 3) := by decide +kernel
theorem dX4_wipe_7 : decode cX4_wipe 7 = .ok (.istore_n 1, 1) := by decide +kernel
theorem dX4_wipe_8 : decode cX4_wipe 8 = .ok (.aload_n 0, 1) := by decide +kernel
theorem dX4_wipe_9 : decode cX4_wipe 9 = .ok (.getfield 10, 3) := by decide +kernel
theorem dX4_wipe_12 : decode cX4_wipe 12 = .ok (.iconst 0, 1) := by decide +kernel
theorem dX4_wipe_13 : decode cX4_wipe 13 = .ok (.putfield 76, 3) := by decide +kernel
theorem dX4_wipe_16 : decode cX4_wipe 16 = .ok (.iload_n 1, 1) := by decide +kernel
theorem dX4_wipe_17 : decode cX4_wipe 17 = .ok (.ireturn, 1) := by decide +kernel
theorem dX4_fault_0 : decode cX4_fault 0 = .ok (.aload_n 0, 1) := by decide +kernel
theorem dX4_fault_1 : decode cX4_fault 1 = .ok (.getfield 10, 3) := by decide +kernel
theorem dX4_fault_4 : decode cX4_fault 4 = .ok (.invokevirtual 79, 3) := by decide +kernel
theorem dX4_fault_7 : decode cX4_fault 7 = .ok (.ireturn, 1) := by decide +kernel
theorem dX4_treaty_0 : decode cX4_treaty 0 = .ok (.aload_n 0, 1) := by decide +kernel
theorem dX4_treaty_1 : decode cX4_treaty 1 = .ok (.getfield 10, 3) := by decide +kernel
theorem dX4_treaty_4 : decode cX4_treaty 4 = .ok (.invokevirtual 79, 3) := by decide +kernel
theorem dX4_treaty_7 : decode cX4_treaty 7 = .ok (.bipush (-9), 2) := by decide +kernel
theorem dX4_treaty_9 : decode cX4_treaty 9 = .ok (.if_icmp .eq 6, 3) := by decide +kernel
theorem dX4_treaty_12 : decode cX4_treaty 12 = .ok (.bipush (-3), 2) := by decide +kernel
theorem dX4_treaty_14 : decode cX4_treaty 14 = .ok (.ireturn, 1) := by decide +kernel
theorem dX4_treaty_15 : decode cX4_treaty 15 = .ok (.aload_n 0, 1) := by decide +kernel
theorem dX4_treaty_16 : decode cX4_treaty 16 = .ok (.iconst 0, 1) := by decide +kernel
theorem dX4_treaty_17 : decode cX4_treaty 17 = .ok (.putfield 27, 3) := by decide +kernel
theorem dX4_treaty_20 : decode cX4_treaty 20 = .ok (.aload_n 0, 1) := by decide +kernel
theorem dX4_treaty_21 : decode cX4_treaty 21 = .ok (.getfield 19, 3) := by decide +kernel
theorem dX4_treaty_24 : decode cX4_treaty 24 = .ok (.iconst 0, 1) := by decide +kernel
theorem dX4_treaty_25 : decode cX4_treaty 25 = .ok (.putfield 83, 3) := by decide +kernel
theorem dX4_treaty_28 : decode cX4_treaty 28 = .ok (.aload_n 0, 1) := by decide +kernel
theorem dX4_treaty_29 : decode cX4_treaty 29 = .ok (.getfield 34, 3) := by decide +kernel
theorem dX4_treaty_32 : decode cX4_treaty 32 = .ok (.iconst 0, 1) := by decide +kernel
theorem dX4_treaty_33 : decode cX4_treaty 33 = .ok (.putfield 86, 3) := by decide +kernel
theorem dX4_treaty_36 : decode cX4_treaty 36 = .ok (.aload_n 0, 1) := by decide +kernel
theorem dX4_treaty_37 : decode cX4_treaty 37 = .ok (.getfield 34, 3) := by decide +kernel
theorem dX4_treaty_40 : decode cX4_treaty 40 = .ok (.iconst 0, 1) := by decide +kernel
theorem dX4_treaty_41 : decode cX4_treaty 41 = .ok (.putfield 89, 3) := by decide +kernel
theorem dX4_treaty_44 : decode cX4_treaty 44 = .ok (.iconst 1, 1) := by decide +kernel
theorem dX4_treaty_45 : decode cX4_treaty 45 = .ok (.istore_n 1, 1) := by decide +kernel
theorem dX4_treaty_46 : decode cX4_treaty 46 = .ok (.iload_n 1, 1) := by decide +kernel
theorem dX4_treaty_47 : decode cX4_treaty 47 = .ok (.aload_n 0, 1) := by decide +kernel
theorem dX4_treaty_48 : decode cX4_treaty 48 = .ok (.getfield 10, 3) := by decide +kernel
theorem dX4_treaty_51 : decode cX4_treaty 51 = .ok (.getfield 76, 3) := by decide +kernel
theorem dX4_treaty_54 : decode cX4_treaty 54 = .ok (.if_icmp .ge 14, 3) := by decide +kernel
theorem dX4_treaty_57 : decode cX4_treaty 57 = .ok (.aload_n 0, 1) := by decide +kernel
theorem dX4_treaty_58 : decode cX4_treaty 58 = .ok (.iload_n 1, 1) := by decide +kernel
theorem dX4_treaty_59 : decode cX4_treaty 59 = .ok (.invokevirtual 92, 3) := by decide +kernel
theorem dX4_treaty_62 : decode cX4_treaty 62 = .ok (.iinc 1 4, 3) := by decide +kernel
theorem dX4_treaty_65 : decode cX4_treaty 65 = .ok (.goto (-19), 3) := by decide +kernel
theorem dX4_treaty_68 : decode cX4_treaty 68 = .ok (.aload_n 0, 1) := by decide +kernel
theorem dX4_treaty_69 : decode cX4_treaty 69 = .ok (.iconst 0, 1) := by decide +kernel
theorem dX4_treaty_70 : decode cX4_treaty 70 = .ok (.putfield 48, 3) := by decide +kernel
theorem dX4_treaty_73 : decode cX4_treaty 73 = .ok (.iconst 0, 1) := by decide +kernel
theorem dX4_treaty_74 : decode cX4_treaty 74 = .ok (.istore_n 1, 1) := by decide +kernel
theorem dX4_treaty_75 : decode cX4_treaty 75 = .ok (.iload_n 1, 1) := by decide +kernel
theorem dX4_treaty_76 : decode cX4_treaty 76 = .ok (.aload_n 0, 1) := by decide +kernel
theorem dX4_treaty_77 : decode cX4_treaty 77 = .ok (.getfield 54, 3) := by decide +kernel
theorem dX4_treaty_80 : decode cX4_treaty 80 = .ok (.arraylength, 1) := by decide +kernel
theorem dX4_treaty_81 : decode cX4_treaty 81 = .ok (.if_icmp .ge 16, 3) := by decide +kernel
theorem dX4_treaty_84 : decode cX4_treaty 84 = .ok (.aload_n 0, 1) := by decide +kernel
theorem dX4_treaty_85 : decode cX4_treaty 85 = .ok (.getfield 54, 3) := by decide +kernel
theorem dX4_treaty_88 : decode cX4_treaty 88 = .ok (.iload_n 1, 1) := by decide +kernel
theorem dX4_treaty_89 : decode cX4_treaty 89 = .ok (.iconst 0, 1) := by decide +kernel
theorem dX4_treaty_90 : decode cX4_treaty 90 = .ok (.bastore, 1) := by decide +kernel
theorem dX4_treaty_91 : decode cX4_treaty 91 = .ok (.iinc 1 1, 3) := by decide +kernel
theorem dX4_treaty_94 : decode cX4_treaty 94 = .ok (.goto (-19), 3) := by decide +kernel
theorem dX4_treaty_97 : decode cX4_treaty 97 = .ok (.bipush 10, 2) := by decide +kernel
theorem dX4_treaty_99 : decode cX4_treaty 99 = .ok (.aload_n 0, 1) := by decide +kernel
theorem dX4_treaty_100 : decode cX4_treaty 100 = .ok (.getfield 27, 3) := by decide +kernel
theorem dX4_treaty_103 : decode cX4_treaty 103 = .ok (.imul, 1) := by decide +kernel
theorem dX4_treaty_104 : decode cX4_treaty 104 = .ok (.aload_n 0, 1) := by decide +kernel
theorem dX4_treaty_105 : decode cX4_treaty 105 = .ok (.getfield 19, 3) := by decide +kernel
theorem dX4_treaty_108 : decode cX4_treaty 108 = .ok (.getfield 83, 3) := by decide +kernel
theorem dX4_treaty_111 : decode cX4_treaty 111 = .ok (.iadd, 1) := by decide +kernel
theorem dX4_treaty_112 : decode cX4_treaty 112 = .ok (.ireturn, 1) := by decide +kernel
theorem dX4_about_0 : decode cX4_about 0 = .ok (.iload_n 1, 1) := by decide +kernel
theorem dX4_about_1 : decode cX4_about 1 = .ok (.tableswitch 93 0 6 #[43, 48, 56, 64, 72, 77, 85], 43) := by decide +kernel
theorem dX4_about_44 : decode cX4_about 44 = .ok (.aload_n 0, 1) := by decide +kernel
theorem dX4_about_45 : decode cX4_about 45 = .ok (.getfield 27, 3) := by decide +kernel
theorem dX4_about_48 : decode cX4_about 48 = .ok (.ireturn, 1) := by decide +kernel
theorem dX4_about_49 : decode cX4_about 49 = .ok (.aload_n 0, 1) := by decide +kernel
theorem dX4_about_50 : decode cX4_about 50 = .ok (.getfield 19, 3) := by decide +kernel
theorem dX4_about_53 : decode cX4_about 53 = .ok (.getfield 83, 3) := by decide +kernel
theorem dX4_about_56 : decode cX4_about 56 = .ok (.ireturn, 1) := by decide +kernel
theorem dX4_about_57 : decode cX4_about 57 = .ok (.aload_n 0, 1) := by decide +kernel
theorem dX4_about_58 : decode cX4_about 58 = .ok (.getfield 34, 3) := by decide +kernel
theorem dX4_about_61 : decode cX4_about 61 = .ok (.getfield 86, 3) := by decide +kernel
theorem dX4_about_64 : decode cX4_about 64 = .ok (.ireturn, 1) := by decide +kernel
theorem dX4_about_65 : decode cX4_about 65 = .ok (.aload_n 0, 1) := by decide +kernel
theorem dX4_about_66 : decode cX4_about 66 = .ok (.getfield 34, 3) := by decide +kernel
theorem dX4_about_69 : decode cX4_about 69 = .ok (.getfield 89, 3) := by decide +kernel
theorem dX4_about_72 : decode cX4_about 72 = .ok (.ireturn, 1) := by decide +kernel
theorem dX4_about_73 : decode cX4_about 73 = .ok (.aload_n 0, 1) := by decide +kernel
theorem dX4_about_74 : decode cX4_about 74 = .ok (.getfield 48, 3) := by decide +kernel
theorem dX4_about_77 : decode cX4_about 77 = .ok (.ireturn, 1) := by decide +kernel
theorem dX4_about_78 : decode cX4_about 78 = .ok (.aload_n 0, 1) := by decide +kernel
theorem dX4_about_79 : decode cX4_about 79 = .ok (.getfield 61, 3) := by decide +kernel
theorem dX4_about_82 : decode cX4_about 82 = .ok (.getfield 96, 3) := by decide +kernel
theorem dX4_about_85 : decode cX4_about 85 = .ok (.ireturn, 1) := by decide +kernel
theorem dX4_about_86 : decode cX4_about 86 = .ok (.aload_n 0, 1) := by decide +kernel
theorem dX4_about_87 : decode cX4_about 87 = .ok (.getfield 10, 3) := by decide +kernel
theorem dX4_about_90 : decode cX4_about 90 = .ok (.getfield 76, 3) := by decide +kernel
theorem dX4_about_93 : decode cX4_about 93 = .ok (.ireturn, 1) := by decide +kernel
theorem dX4_about_94 : decode cX4_about 94 = .ok (.bipush (-2), 2) := by decide +kernel
theorem dX4_about_96 : decode cX4_about 96 = .ok (.ireturn, 1) := by decide +kernel
theorem dX4_article_0 : decode cX4_article 0 = .ok (.aload_n 0, 1) := by decide +kernel
theorem dX4_article_1 : decode cX4_article 1 = .ok (.iload_n 1, 1) := by decide +kernel
theorem dX4_article_2 : decode cX4_article 2 = .ok (.invokevirtual 97, 3) := by decide +kernel
theorem dX4_article_5 : decode cX4_article 5 = .ok (.ifCond .ne 5, 3) := by decide +kernel
theorem dX4_article_8 : decode cX4_article 8 = .ok (.iconst (-1), 1) := by decide +kernel
theorem dX4_article_9 : decode cX4_article 9 = .ok (.ireturn, 1) := by decide +kernel
theorem dX4_article_10 : decode cX4_article 10 = .ok (.iload_n 2, 1) := by decide +kernel
theorem dX4_article_11 : decode cX4_article 11 = .ok (.tableswitch 65 0 3 #[29, 39, 49, 59], 29) := by decide +kernel
theorem dX4_article_40 : decode cX4_article 40 = .ok (.aload_n 0, 1) := by decide +kernel
theorem dX4_article_41 : decode cX4_article 41 = .ok (.getfield 19, 3) := by decide +kernel
theorem dX4_article_44 : decode cX4_article 44 = .ok (.getfield 100, 3) := by decide +kernel
theorem dX4_article_47 : decode cX4_article 47 = .ok (.iload_n 1, 1) := by decide +kernel
theorem dX4_article_48 : decode cX4_article 48 = .ok (.iaload, 1) := by decide +kernel
theorem dX4_article_49 : decode cX4_article 49 = .ok (.ireturn, 1) := by decide +kernel
theorem dX4_article_50 : decode cX4_article 50 = .ok (.aload_n 0, 1) := by decide +kernel
theorem dX4_article_51 : decode cX4_article 51 = .ok (.getfield 19, 3) := by decide +kernel
theorem dX4_article_54 : decode cX4_article 54 = .ok (.getfield 103, 3) := by decide +kernel
theorem dX4_article_57 : decode cX4_article 57 = .ok (.iload_n 1, 1) := by decide +kernel
theorem dX4_article_58 : decode cX4_article 58 = .ok (.iaload, 1) := by decide +kernel
theorem dX4_article_59 : decode cX4_article 59 = .ok (.ireturn, 1) := by decide +kernel
theorem dX4_article_60 : decode cX4_article 60 = .ok (.aload_n 0, 1) := by decide +kernel
theorem dX4_article_61 : decode cX4_article 61 = .ok (.getfield 19, 3) := by decide +kernel
theorem dX4_article_64 : decode cX4_article 64 = .ok (.getfield 106, 3) := by decide +kernel
theorem dX4_article_67 : decode cX4_article 67 = .ok (.iload_n 1, 1) := by decide +kernel
theorem dX4_article_68 : decode cX4_article 68 = .ok (.iaload, 1) := by decide +kernel
theorem dX4_article_69 : decode cX4_article 69 = .ok (.ireturn, 1) := by decide +kernel
theorem dX4_article_70 : decode cX4_article 70 = .ok (.aload_n 0, 1) := by decide +kernel
theorem dX4_article_71 : decode cX4_article 71 = .ok (.iload_n 1, 1) := by decide +kernel
theorem dX4_article_72 : decode cX4_article 72 = .ok (.invokevirtual 109, 3) := by decide +kernel
theorem dX4_article_75 : decode cX4_article 75 = .ok (.ireturn, 1) := by decide +kernel
theorem dX4_article_76 : decode cX4_article 76 = .ok (.bipush (-2), 2) := by decide +kernel
theorem dX4_article_78 : decode cX4_article 78 = .ok (.ireturn, 1) := by decide +kernel
theorem dX4_mule_0 : decode cX4_mule 0 = .ok (.aload_n 0, 1) := by decide +kernel
theorem dX4_mule_1 : decode cX4_mule 1 = .ok (.iload_n 1, 1) := by decide +kernel
theorem dX4_mule_2 : decode cX4_mule 2 = .ok (.invokevirtual 113, 3) := by decide +kernel
theorem dX4_mule_5 : decode cX4_mule 5 = .ok (.ifCond .ne 5, 3) := by decide +kernel
theorem dX4_mule_8 : decode cX4_mule 8 = .ok (.iconst (-1), 1) := by decide +kernel
theorem dX4_mule_9 : decode cX4_mule 9 = .ok (.ireturn, 1) := by decide +kernel
theorem dX4_mule_10 : decode cX4_mule 10 = .ok (.iload_n 2, 1) := by decide +kernel
theorem dX4_mule_11 : decode cX4_mule 11 = .ok (.tableswitch 80 0 4 #[33, 43, 50, 60, 70], 33) := by decide +kernel
theorem dX4_mule_44 : decode cX4_mule 44 = .ok (.aload_n 0, 1) := by decide +kernel
theorem dX4_mule_45 : decode cX4_mule 45 = .ok (.getfield 34, 3) := by decide +kernel
theorem dX4_mule_48 : decode cX4_mule 48 = .ok (.getfield 116, 3) := by decide +kernel
theorem dX4_mule_51 : decode cX4_mule 51 = .ok (.iload_n 1, 1) := by decide +kernel
theorem dX4_mule_52 : decode cX4_mule 52 = .ok (.iaload, 1) := by decide +kernel
theorem dX4_mule_53 : decode cX4_mule 53 = .ok (.ireturn, 1) := by decide +kernel
theorem dX4_mule_54 : decode cX4_mule 54 = .ok (.aload_n 0, 1) := by decide +kernel
theorem dX4_mule_55 : decode cX4_mule 55 = .ok (.getfield 23, 3) := by decide +kernel
theorem dX4_mule_58 : decode cX4_mule 58 = .ok (.iload_n 1, 1) := by decide +kernel
theorem dX4_mule_59 : decode cX4_mule 59 = .ok (.iaload, 1) := by decide +kernel
theorem dX4_mule_60 : decode cX4_mule 60 = .ok (.ireturn, 1) := by decide +kernel
theorem dX4_mule_61 : decode cX4_mule 61 = .ok (.aload_n 0, 1) := by decide +kernel
theorem dX4_mule_62 : decode cX4_mule 62 = .ok (.getfield 34, 3) := by decide +kernel
theorem dX4_mule_65 : decode cX4_mule 65 = .ok (.getfield 117, 3) := by decide +kernel
theorem dX4_mule_68 : decode cX4_mule 68 = .ok (.iload_n 1, 1) := by decide +kernel
theorem dX4_mule_69 : decode cX4_mule 69 = .ok (.iaload, 1) := by decide +kernel
theorem dX4_mule_70 : decode cX4_mule 70 = .ok (.ireturn, 1) := by decide +kernel
theorem dX4_mule_71 : decode cX4_mule 71 = .ok (.aload_n 0, 1) := by decide +kernel
theorem dX4_mule_72 : decode cX4_mule 72 = .ok (.getfield 34, 3) := by decide +kernel
theorem dX4_mule_75 : decode cX4_mule 75 = .ok (.getfield 120, 3) := by decide +kernel
theorem dX4_mule_78 : decode cX4_mule 78 = .ok (.iload_n 1, 1) := by decide +kernel
theorem dX4_mule_79 : decode cX4_mule 79 = .ok (.iaload, 1) := by decide +kernel
theorem dX4_mule_80 : decode cX4_mule 80 = .ok (.ireturn, 1) := by decide +kernel
theorem dX4_mule_81 : decode cX4_mule 81 = .ok (.aload_n 0, 1) := by decide +kernel
theorem dX4_mule_82 : decode cX4_mule 82 = .ok (.aload_n 0, 1) := by decide +kernel
theorem dX4_mule_83 : decode cX4_mule 83 = .ok (.getfield 34, 3) := by decide +kernel
theorem dX4_mule_86 : decode cX4_mule 86 = .ok (.iload_n 1, 1) := by decide +kernel
theorem dX4_mule_87 : decode cX4_mule 87 = .ok (.invokevirtual 123, 3) := by decide +kernel
theorem dX4_mule_90 : decode cX4_mule 90 = .ok (.ireturn, 1) := by decide +kernel
theorem dX4_mule_91 : decode cX4_mule 91 = .ok (.bipush (-2), 2) := by decide +kernel
theorem dX4_mule_93 : decode cX4_mule 93 = .ok (.ireturn, 1) := by decide +kernel
theorem dX4_by_0 : decode cX4_by 0 = .ok (.aload_n 0, 1) := by decide +kernel
theorem dX4_by_1 : decode cX4_by 1 = .ok (.iload_n 1, 1) := by decide +kernel
theorem dX4_by_2 : decode cX4_by 2 = .ok (.iload_n 2, 1) := by decide +kernel
theorem dX4_by_3 : decode cX4_by 3 = .ok (.invokevirtual 127, 3) := by decide +kernel
theorem dX4_by_6 : decode cX4_by 6 = .ok (.istore_n 3, 1) := by decide +kernel
theorem dX4_by_7 : decode cX4_by 7 = .ok (.iload_n 3, 1) := by decide +kernel
theorem dX4_by_8 : decode cX4_by 8 = .ok (.ifCond .eq 7, 3) := by decide +kernel
theorem dX4_by_11 : decode cX4_by 11 = .ok (.iload_n 3, 1) := by decide +kernel
theorem dX4_by_12 : decode cX4_by 12 = .ok (.goto 13, 3) := by decide +kernel
theorem dX4_by_15 : decode cX4_by 15 = .ok (.aload_n 0, 1) := by decide +kernel
theorem dX4_by_16 : decode cX4_by 16 = .ok (.aload_n 0, 1) := by decide +kernel
theorem dX4_by_17 : decode cX4_by 17 = .ok (.getfield 34, 3) := by decide +kernel
theorem dX4_by_20 : decode cX4_by 20 = .ok (.iload_n 1, 1) := by decide +kernel
theorem dX4_by_21 : decode cX4_by 21 = .ok (.iload_n 2, 1) := by decide +kernel
theorem dX4_by_22 : decode cX4_by 22 = .ok (.invokevirtual 131, 3) := by decide +kernel
theorem dX4_by_25 : decode cX4_by 25 = .ok (.ireturn, 1) := by decide +kernel
theorem dX4_balks_0 : decode cX4_balks 0 = .ok (.aload_n 0, 1) := by decide +kernel
theorem dX4_balks_1 : decode cX4_balks 1 = .ok (.iload_n 1, 1) := by decide +kernel
theorem dX4_balks_2 : decode cX4_balks 2 = .ok (.iload_n 2, 1) := by decide +kernel
theorem dX4_balks_3 : decode cX4_balks 3 = .ok (.invokevirtual 127, 3) := by decide +kernel
theorem dX4_balks_6 : decode cX4_balks 6 = .ok (.istore_n 3, 1) := by decide +kernel
theorem dX4_balks_7 : decode cX4_balks 7 = .ok (.iload_n 3, 1) := by decide +kernel
theorem dX4_balks_8 : decode cX4_balks 8 = .ok (.ifCond .eq 7, 3) := by decide +kernel
theorem dX4_balks_11 : decode cX4_balks 11 = .ok (.iload_n 3, 1) := by decide +kernel
theorem dX4_balks_12 : decode cX4_balks 12 = .ok (.goto 16, 3) := by decide +kernel
theorem dX4_balks_15 : decode cX4_balks 15 = .ok (.aload_n 0, 1) := by decide +kernel
theorem dX4_balks_16 : decode cX4_balks 16 = .ok (.aload_n 0, 1) := by decide +kernel
theorem dX4_balks_17 : decode cX4_balks 17 = .ok (.getfield 34, 3) := by decide +kernel
theorem dX4_balks_20 : decode cX4_balks 20 = .ok (.iload_n 1, 1) := by decide +kernel
theorem dX4_balks_21 : decode cX4_balks 21 = .ok (.iload_n 2, 1) := by decide +kernel
theorem dX4_balks_22 : decode cX4_balks 22 = .ok (.invokevirtual 135, 3) := by decide +kernel
theorem dX4_balks_25 : decode cX4_balks 25 = .ok (.invokestatic 138, 3) := by decide +kernel
theorem dX4_balks_28 : decode cX4_balks 28 = .ok (.ireturn, 1) := by decide +kernel
theorem dX4_step_0 : decode cX4_step 0 = .ok (.aload_n 0, 1) := by decide +kernel
theorem dX4_step_1 : decode cX4_step 1 = .ok (.iload_n 1, 1) := by decide +kernel
theorem dX4_step_2 : decode cX4_step 2 = .ok (.iload_n 2, 1) := by decide +kernel
theorem dX4_step_3 : decode cX4_step 3 = .ok (.invokevirtual 127, 3) := by decide +kernel
theorem dX4_step_6 : decode cX4_step 6 = .ok (.istore_n 3, 1) := by decide +kernel
theorem dX4_step_7 : decode cX4_step 7 = .ok (.iload_n 3, 1) := by decide +kernel
theorem dX4_step_8 : decode cX4_step 8 = .ok (.ifCond .eq 5, 3) := by decide +kernel
theorem dX4_step_11 : decode cX4_step 11 = .ok (.iload_n 3, 1) := by decide +kernel
theorem dX4_step_12 : decode cX4_step 12 = .ok (.ireturn, 1) := by decide +kernel
theorem dX4_step_13 : decode cX4_step 13 = .ok (.aload_n 0, 1) := by decide +kernel
theorem dX4_step_14 : decode cX4_step 14 = .ok (.aload_n 0, 1) := by decide +kernel
theorem dX4_step_15 : decode cX4_step 15 = .ok (.getfield 34, 3) := by decide +kernel
theorem dX4_step_18 : decode cX4_step 18 = .ok (.iload_n 1, 1) := by decide +kernel
theorem dX4_step_19 : decode cX4_step 19 = .ok (.iload_n 2, 1) := by decide +kernel
theorem dX4_step_20 : decode cX4_step 20 = .ok (.invokevirtual 141, 3) := by decide +kernel
theorem dX4_step_23 : decode cX4_step 23 = .ok (.ifCond .ne 6, 3) := by decide +kernel
theorem dX4_step_26 : decode cX4_step 26 = .ok (.bipush (-3), 2) := by decide +kernel
theorem dX4_step_28 : decode cX4_step 28 = .ok (.ireturn, 1) := by decide +kernel
theorem dX4_step_29 : decode cX4_step 29 = .ok (.aload_n 0, 1) := by decide +kernel
theorem dX4_step_30 : decode cX4_step 30 = .ok (.invokevirtual 145, 3) := by decide +kernel
theorem dX4_step_33 : decode cX4_step 33 = .ok (.aload_n 0, 1) := by decide +kernel
theorem dX4_step_34 : decode cX4_step 34 = .ok (.aload_n 0, 1) := by decide +kernel
theorem dX4_step_35 : decode cX4_step 35 = .ok (.getfield 34, 3) := by decide +kernel
theorem dX4_step_38 : decode cX4_step 38 = .ok (.iload_n 1, 1) := by decide +kernel
theorem dX4_step_39 : decode cX4_step 39 = .ok (.iload_n 2, 1) := by decide +kernel
theorem dX4_step_40 : decode cX4_step 40 = .ok (.invokevirtual 148, 3) := by decide +kernel
theorem dX4_step_43 : decode cX4_step 43 = .ok (.aload_n 0, 1) := by decide +kernel
theorem dX4_step_44 : decode cX4_step 44 = .ok (.getfield 34, 3) := by decide +kernel
theorem dX4_step_47 : decode cX4_step 47 = .ok (.getfield 116, 3) := by decide +kernel
theorem dX4_step_50 : decode cX4_step 50 = .ok (.iload_n 1, 1) := by decide +kernel
theorem dX4_step_51 : decode cX4_step 51 = .ok (.iaload, 1) := by decide +kernel
theorem dX4_step_52 : decode cX4_step 52 = .ok (.ireturn, 1) := by decide +kernel
theorem dX4_pause_0 : decode cX4_pause 0 = .ok (.aload_n 0, 1) := by decide +kernel
theorem dX4_pause_1 : decode cX4_pause 1 = .ok (.invokevirtual 145, 3) := by decide +kernel
theorem dX4_pause_4 : decode cX4_pause 4 = .ok (.aload_n 0, 1) := by decide +kernel
theorem dX4_pause_5 : decode cX4_pause 5 = .ok (.getfield 34, 3) := by decide +kernel
theorem dX4_pause_8 : decode cX4_pause 8 = .ok (.dup, 1) := by decide +kernel
theorem dX4_pause_9 : decode cX4_pause 9 = .ok (.getfield 86, 3) := by decide +kernel
theorem dX4_pause_12 : decode cX4_pause 12 = .ok (.iconst 1, 1) := by decide +kernel
theorem dX4_pause_13 : decode cX4_pause 13 = .ok (.iadd, 1) := by decide +kernel
theorem dX4_pause_14 : decode cX4_pause 14 = .ok (.putfield 86, 3) := by decide +kernel
theorem dX4_pause_17 : decode cX4_pause 17 = .ok (.aload_n 0, 1) := by decide +kernel
theorem dX4_pause_18 : decode cX4_pause 18 = .ok (.getfield 34, 3) := by decide +kernel
theorem dX4_pause_21 : decode cX4_pause 21 = .ok (.getfield 86, 3) := by decide +kernel
theorem dX4_pause_24 : decode cX4_pause 24 = .ok (.ireturn, 1) := by decide +kernel
theorem dX4_show_0 : decode cX4_show 0 = .ok (.aload_n 0, 1) := by decide +kernel
theorem dX4_show_1 : decode cX4_show 1 = .ok (.iload_n 1, 1) := by decide +kernel
theorem dX4_show_2 : decode cX4_show 2 = .ok (.invokevirtual 113, 3) := by decide +kernel
theorem dX4_show_5 : decode cX4_show 5 = .ok (.ifCond .eq 19, 3) := by decide +kernel
theorem dX4_show_8 : decode cX4_show 8 = .ok (.aload_n 0, 1) := by decide +kernel
theorem dX4_show_9 : decode cX4_show 9 = .ok (.iload_n 2, 1) := by decide +kernel
theorem dX4_show_10 : decode cX4_show 10 = .ok (.invokevirtual 113, 3) := by decide +kernel
theorem dX4_show_13 : decode cX4_show 13 = .ok (.ifCond .eq 11, 3) := by decide +kernel
theorem dX4_show_16 : decode cX4_show 16 = .ok (.aload_n 0, 1) := by decide +kernel
theorem dX4_show_17 : decode cX4_show 17 = .ok (.iload_n 3, 1) := by decide +kernel
theorem dX4_show_18 : decode cX4_show 18 = .ok (.invokevirtual 97, 3) := by decide +kernel
theorem dX4_show_21 : decode cX4_show 21 = .ok (.ifCond .ne 5, 3) := by decide +kernel
theorem dX4_show_24 : decode cX4_show 24 = .ok (.iconst (-1), 1) := by decide +kernel
theorem dX4_show_25 : decode cX4_show 25 = .ok (.ireturn, 1) := by decide +kernel
theorem dX4_show_26 : decode cX4_show 26 = .ok (.iload_n 1, 1) := by decide +kernel
theorem dX4_show_27 : decode cX4_show 27 = .ok (.iload_n 2, 1) := by decide +kernel
theorem dX4_show_28 : decode cX4_show 28 = .ok (.if_icmp .ne 6, 3) := by decide +kernel
theorem dX4_show_31 : decode cX4_show 31 = .ok (.bipush (-2), 2) := by decide +kernel
theorem dX4_show_33 : decode cX4_show 33 = .ok (.ireturn, 1) := by decide +kernel
theorem dX4_show_34 : decode cX4_show 34 = .ok (.iconst 1, 1) := by decide +kernel
theorem dX4_show_35 : decode cX4_show 35 = .ok (.iload_n 3, 1) := by decide +kernel
theorem dX4_show_36 : decode cX4_show 36 = .ok (.ishl, 1) := by decide +kernel
theorem dX4_show_37 : decode cX4_show 37 = .ok (.istore 4, 2) := by decide +kernel
theorem dX4_show_39 : decode cX4_show 39 = .ok (.aload_n 0, 1) := by decide +kernel
theorem dX4_show_40 : decode cX4_show 40 = .ok (.getfield 34, 3) := by decide +kernel
theorem dX4_show_43 : decode cX4_show 43 = .ok (.getfield 116, 3) := by decide +kernel
theorem dX4_show_46 : decode cX4_show 46 = .ok (.iload_n 1, 1) := by decide +kernel
theorem dX4_show_47 : decode cX4_show 47 = .ok (.iaload, 1) := by decide +kernel
theorem dX4_show_48 : decode cX4_show 48 = .ok (.aload_n 0, 1) := by decide +kernel
theorem dX4_show_49 : decode cX4_show 49 = .ok (.getfield 34, 3) := by decide +kernel
theorem dX4_show_52 : decode cX4_show 52 = .ok (.getfield 116, 3) := by decide +kernel
theorem dX4_show_55 : decode cX4_show 55 = .ok (.iload_n 2, 1) := by decide +kernel
theorem dX4_show_56 : decode cX4_show 56 = .ok (.iaload, 1) := by decide +kernel
theorem dX4_show_57 : decode cX4_show 57 = .ok (.if_icmp .ne 7, 3) := by decide +kernel
theorem dX4_show_60 : decode cX4_show 60 = .ok (.iconst 1, 1) := by decide +kernel
theorem dX4_show_61 : decode cX4_show 61 = .ok (.goto 4, 3) := by decide +kernel
theorem dX4_show_64 : decode cX4_show 64 = .ok (.iconst 0, 1) := by decide +kernel
theorem dX4_show_65 : decode cX4_show 65 = .ok (.istore 5, 2) := by decide +kernel
theorem dX4_show_67 : decode cX4_show 67 = .ok (.iload 5, 2) := by decide +kernel
theorem dX4_show_69 : decode cX4_show 69 = .ok (.ifCond .eq 33, 3) := by decide +kernel
theorem dX4_show_72 : decode cX4_show 72 = .ok (.aload_n 0, 1) := by decide +kernel
theorem dX4_show_73 : decode cX4_show 73 = .ok (.aload_n 0, 1) := by decide +kernel
theorem dX4_show_74 : decode cX4_show 74 = .ok (.getfield 34, 3) := by decide +kernel
theorem dX4_show_77 : decode cX4_show 77 = .ok (.iload_n 2, 1) := by decide +kernel
theorem dX4_show_78 : decode cX4_show 78 = .ok (.invokevirtual 123, 3) := by decide +kernel
theorem dX4_show_81 : decode cX4_show 81 = .ok (.iload 4, 2) := by decide +kernel
theorem dX4_show_83 : decode cX4_show 83 = .ok (.iand, 1) := by decide +kernel
theorem dX4_show_84 : decode cX4_show 84 = .ok (.ifCond .eq 18, 3) := by decide +kernel
theorem dX4_show_87 : decode cX4_show 87 = .ok (.aload_n 0, 1) := by decide +kernel
theorem dX4_show_88 : decode cX4_show 88 = .ok (.getfield 34, 3) := by decide +kernel
theorem dX4_show_91 : decode cX4_show 91 = .ok (.getfield 120, 3) := by decide +kernel
theorem dX4_show_94 : decode cX4_show 94 = .ok (.iload_n 1, 1) := by decide +kernel
theorem dX4_show_95 : decode cX4_show 95 = .ok (.iaload, 1) := by decide +kernel
theorem dX4_show_96 : decode cX4_show 96 = .ok (.iload 4, 2) := by decide +kernel
theorem dX4_show_98 : decode cX4_show 98 = .ok (.iand, 1) := by decide +kernel
theorem dX4_show_99 : decode cX4_show 99 = .ok (.ifCond .eq 6, 3) := by decide +kernel
theorem dX4_show_102 : decode cX4_show 102 = .ok (.bipush (-3), 2) := by decide +kernel
theorem dX4_show_104 : decode cX4_show 104 = .ok (.ireturn, 1) := by decide +kernel
theorem dX4_show_105 : decode cX4_show 105 = .ok (.aload_n 0, 1) := by decide +kernel
theorem dX4_show_106 : decode cX4_show 106 = .ok (.invokevirtual 145, 3) := by decide +kernel
theorem dX4_show_109 : decode cX4_show 109 = .ok (.aload_n 0, 1) := by decide +kernel
theorem dX4_show_110 : decode cX4_show 110 = .ok (.getfield 34, 3) := by decide +kernel
theorem dX4_show_113 : decode cX4_show 113 = .ok (.getfield 120, 3) := by decide +kernel
theorem dX4_show_116 : decode cX4_show 116 = .ok (.iload_n 1, 1) := by decide +kernel
theorem dX4_show_117 : decode cX4_show 117 = .ok (.dup2, 1) := by decide +kernel
theorem dX4_show_118 : decode cX4_show 118 = .ok (.iaload, 1) := by decide +kernel
theorem dX4_show_119 : decode cX4_show 119 = .ok (.iload 4, 2) := by decide +kernel
theorem dX4_show_121 : decode cX4_show 121 = .ok (.ior, 1) := by decide +kernel
theorem dX4_show_122 : decode cX4_show 122 = .ok (.iastore, 1) := by decide +kernel
theorem dX4_show_123 : decode cX4_show 123 = .ok (.aload_n 0, 1) := by decide +kernel
theorem dX4_show_124 : decode cX4_show 124 = .ok (.getfield 34, 3) := by decide +kernel
theorem dX4_show_127 : decode cX4_show 127 = .ok (.getfield 120, 3) := by decide +kernel
theorem dX4_show_130 : decode cX4_show 130 = .ok (.iload_n 1, 1) := by decide +kernel
theorem dX4_show_131 : decode cX4_show 131 = .ok (.iaload, 1) := by decide +kernel
theorem dX4_show_132 : decode cX4_show 132 = .ok (.invokestatic 152, 3) := by decide +kernel
theorem dX4_show_135 : decode cX4_show 135 = .ok (.ireturn, 1) := by decide +kernel
theorem dX4_sell_0 : decode cX4_sell 0 = .ok (.aload_n 0, 1) := by decide +kernel
theorem dX4_sell_1 : decode cX4_sell 1 = .ok (.iload_n 1, 1) := by decide +kernel
theorem dX4_sell_2 : decode cX4_sell 2 = .ok (.invokevirtual 113, 3) := by decide +kernel
theorem dX4_sell_5 : decode cX4_sell 5 = .ok (.ifCond .ne 5, 3) := by decide +kernel
theorem dX4_sell_8 : decode cX4_sell 8 = .ok (.iconst (-1), 1) := by decide +kernel
theorem dX4_sell_9 : decode cX4_sell 9 = .ok (.ireturn, 1) := by decide +kernel
theorem dX4_sell_10 : decode cX4_sell 10 = .ok (.aload_n 0, 1) := by decide +kernel
theorem dX4_sell_11 : decode cX4_sell 11 = .ok (.getfield 34, 3) := by decide +kernel
theorem dX4_sell_14 : decode cX4_sell 14 = .ok (.getfield 117, 3) := by decide +kernel
theorem dX4_sell_17 : decode cX4_sell 17 = .ok (.iload_n 1, 1) := by decide +kernel
theorem dX4_sell_18 : decode cX4_sell 18 = .ok (.iaload, 1) := by decide +kernel
theorem dX4_sell_19 : decode cX4_sell 19 = .ok (.istore_n 2, 1) := by decide +kernel
theorem dX4_sell_20 : decode cX4_sell 20 = .ok (.iload_n 2, 1) := by decide +kernel
theorem dX4_sell_21 : decode cX4_sell 21 = .ok (.iconst 3, 1) := by decide +kernel
theorem dX4_sell_22 : decode cX4_sell 22 = .ok (.if_icmp .ne 6, 3) := by decide +kernel
theorem dX4_sell_25 : decode cX4_sell 25 = .ok (.bipush (-3), 2) := by decide +kernel
theorem dX4_sell_27 : decode cX4_sell 27 = .ok (.ireturn, 1) := by decide +kernel
theorem dX4_sell_28 : decode cX4_sell 28 = .ok (.aload_n 0, 1) := by decide +kernel
theorem dX4_sell_29 : decode cX4_sell 29 = .ok (.invokevirtual 145, 3) := by decide +kernel
theorem dX4_sell_32 : decode cX4_sell 32 = .ok (.aload_n 0, 1) := by decide +kernel
theorem dX4_sell_33 : decode cX4_sell 33 = .ok (.getfield 34, 3) := by decide +kernel
theorem dX4_sell_36 : decode cX4_sell 36 = .ok (.getfield 117, 3) := by decide +kernel
theorem dX4_sell_39 : decode cX4_sell 39 = .ok (.iload_n 1, 1) := by decide +kernel
theorem dX4_sell_40 : decode cX4_sell 40 = .ok (.iconst 3, 1) := by decide +kernel
theorem dX4_sell_41 : decode cX4_sell 41 = .ok (.iastore, 1) := by decide +kernel
theorem dX4_sell_42 : decode cX4_sell 42 = .ok (.iload_n 2, 1) := by decide +kernel
theorem dX4_sell_43 : decode cX4_sell 43 = .ok (.ireturn, 1) := by decide +kernel
theorem dX4_forget_0 : decode cX4_forget 0 = .ok (.aload_n 0, 1) := by decide +kernel
theorem dX4_forget_1 : decode cX4_forget 1 = .ok (.iload_n 1, 1) := by decide +kernel
theorem dX4_forget_2 : decode cX4_forget 2 = .ok (.invokevirtual 113, 3) := by decide +kernel
theorem dX4_forget_5 : decode cX4_forget 5 = .ok (.ifCond .ne 5, 3) := by decide +kernel
theorem dX4_forget_8 : decode cX4_forget 8 = .ok (.iconst (-1), 1) := by decide +kernel
theorem dX4_forget_9 : decode cX4_forget 9 = .ok (.ireturn, 1) := by decide +kernel
theorem dX4_forget_10 : decode cX4_forget 10 = .ok (.aload_n 0, 1) := by decide +kernel
theorem dX4_forget_11 : decode cX4_forget 11 = .ok (.getfield 34, 3) := by decide +kernel
theorem dX4_forget_14 : decode cX4_forget 14 = .ok (.getfield 120, 3) := by decide +kernel
theorem dX4_forget_17 : decode cX4_forget 17 = .ok (.iload_n 1, 1) := by decide +kernel
theorem dX4_forget_18 : decode cX4_forget 18 = .ok (.iaload, 1) := by decide +kernel
theorem dX4_forget_19 : decode cX4_forget 19 = .ok (.istore_n 2, 1) := by decide +kernel
theorem dX4_forget_20 : decode cX4_forget 20 = .ok (.iload_n 2, 1) := by decide +kernel
theorem dX4_forget_21 : decode cX4_forget 21 = .ok (.ifCond .ne 6, 3) := by decide +kernel
theorem dX4_forget_24 : decode cX4_forget 24 = .ok (.bipush (-3), 2) := by decide +kernel
theorem dX4_forget_26 : decode cX4_forget 26 = .ok (.ireturn, 1) := by decide +kernel
theorem dX4_forget_27 : decode cX4_forget 27 = .ok (.aload_n 0, 1) := by decide +kernel
theorem dX4_forget_28 : decode cX4_forget 28 = .ok (.invokevirtual 145, 3) := by decide +kernel
theorem dX4_forget_31 : decode cX4_forget 31 = .ok (.aload_n 0, 1) := by decide +kernel
theorem dX4_forget_32 : decode cX4_forget 32 = .ok (.getfield 34, 3) := by decide +kernel
theorem dX4_forget_35 : decode cX4_forget 35 = .ok (.getfield 120, 3) := by decide +kernel
theorem dX4_forget_38 : decode cX4_forget 38 = .ok (.iload_n 1, 1) := by decide +kernel
theorem dX4_forget_39 : decode cX4_forget 39 = .ok (.iconst 0, 1) := by decide +kernel
theorem dX4_forget_40 : decode cX4_forget 40 = .ok (.iastore, 1) := by decide +kernel
theorem dX4_forget_41 : decode cX4_forget 41 = .ok (.iload_n 2, 1) := by decide +kernel
theorem dX4_forget_42 : decode cX4_forget 42 = .ok (.invokestatic 152, 3) := by decide +kernel
theorem dX4_forget_45 : decode cX4_forget 45 = .ok (.ireturn, 1) := by decide +kernel
theorem dX4_undo_0 : decode cX4_undo 0 = .ok (.aload_n 0, 1) := by decide +kernel
theorem dX4_undo_1 : decode cX4_undo 1 = .ok (.getfield 48, 3) := by decide +kernel
theorem dX4_undo_4 : decode cX4_undo 4 = .ok (.ifCond .ne 6, 3) := by decide +kernel
theorem dX4_undo_7 : decode cX4_undo 7 = .ok (.bipush (-3), 2) := by decide +kernel
theorem dX4_undo_9 : decode cX4_undo 9 = .ok (.ireturn, 1) := by decide +kernel
theorem dX4_undo_10 : decode cX4_undo 10 = .ok (.aload_n 0, 1) := by decide +kernel
theorem dX4_undo_11 : decode cX4_undo 11 = .ok (.dup, 1) := by decide +kernel
theorem dX4_undo_12 : decode cX4_undo 12 = .ok (.getfield 48, 3) := by decide +kernel
theorem dX4_undo_15 : decode cX4_undo 15 = .ok (.iconst 1, 1) := by decide +kernel
theorem dX4_undo_16 : decode cX4_undo 16 = .ok (.isub, 1) := by decide +kernel
theorem dX4_undo_17 : decode cX4_undo 17 = .ok (.putfield 48, 3) := by decide +kernel
theorem dX4_undo_20 : decode cX4_undo 20 = .ok (.aload_n 0, 1) := by decide +kernel
theorem dX4_undo_21 : decode cX4_undo 21 = .ok (.getfield 41, 3) := by decide +kernel
theorem dX4_undo_24 : decode cX4_undo 24 = .ok (.aload_n 0, 1) := by decide +kernel
theorem dX4_undo_25 : decode cX4_undo 25 = .ok (.getfield 45, 3) := by decide +kernel
theorem dX4_undo_28 : decode cX4_undo 28 = .ok (.aload_n 0, 1) := by decide +kernel
theorem dX4_undo_29 : decode cX4_undo 29 = .ok (.getfield 48, 3) := by decide +kernel
theorem dX4_undo_32 : decode cX4_undo 32 = .ok (.iadd, 1) := by decide +kernel
theorem dX4_undo_33 : decode cX4_undo 33 = .ok (.bipush 14, 2) := by decide +kernel
theorem dX4_undo_35 : decode cX4_undo 35 = .ok (.irem, 1) := by decide +kernel
theorem dX4_undo_36 : decode cX4_undo 36 = .ok (.aaload, 1) := by decide +kernel
theorem dX4_undo_37 : decode cX4_undo 37 = .ok (.aload_n 0, 1) := by decide +kernel
theorem dX4_undo_38 : decode cX4_undo 38 = .ok (.getfield 34, 3) := by decide +kernel
theorem dX4_undo_41 : decode cX4_undo 41 = .ok (.invokestatic 157, 3) := by decide +kernel
theorem dX4_undo_44 : decode cX4_undo 44 = .ok (.aload_n 0, 1) := by decide +kernel
theorem dX4_undo_45 : decode cX4_undo 45 = .ok (.getfield 48, 3) := by decide +kernel
theorem dX4_undo_48 : decode cX4_undo 48 = .ok (.ireturn, 1) := by decide +kernel
theorem dX4_way_0 : decode cX4_way 0 = .ok (.aload_n 0, 1) := by decide +kernel
theorem dX4_way_1 : decode cX4_way 1 = .ok (.iload_n 1, 1) := by decide +kernel
theorem dX4_way_2 : decode cX4_way 2 = .ok (.invokevirtual 113, 3) := by decide +kernel
theorem dX4_way_5 : decode cX4_way 5 = .ok (.ifCond .eq 10, 3) := by decide +kernel
theorem dX4_way_8 : decode cX4_way 8 = .ok (.iload_n 2, 1) := by decide +kernel
theorem dX4_way_9 : decode cX4_way 9 = .ok (.invokestatic 161, 3) := by decide +kernel
theorem dX4_way_12 : decode cX4_way 12 = .ok (.ifCond .ne 5, 3) := by decide +kernel
theorem dX4_way_15 : decode cX4_way 15 = .ok (.iconst (-1), 1) := by decide +kernel
theorem dX4_way_16 : decode cX4_way 16 = .ok (.ireturn, 1) := by decide +kernel
theorem dX4_way_17 : decode cX4_way 17 = .ok (.iload_n 3, 1) := by decide +kernel
theorem dX4_way_18 : decode cX4_way 18 = .ok (.ifCond .eq 13, 3) := by decide +kernel
theorem dX4_way_21 : decode cX4_way 21 = .ok (.aload_n 0, 1) := by decide +kernel
theorem dX4_way_22 : decode cX4_way 22 = .ok (.getfield 19, 3) := by decide +kernel
theorem dX4_way_25 : decode cX4_way 25 = .ok (.invokevirtual 164, 3) := by decide +kernel
theorem dX4_way_28 : decode cX4_way 28 = .ok (.goto 12, 3) := by decide +kernel
theorem dX4_way_31 : decode cX4_way 31 = .ok (.aload_n 0, 1) := by decide +kernel
theorem dX4_way_32 : decode cX4_way 32 = .ok (.aload_n 0, 1) := by decide +kernel
theorem dX4_way_33 : decode cX4_way 33 = .ok (.getfield 34, 3) := by decide +kernel
theorem dX4_way_36 : decode cX4_way 36 = .ok (.iload_n 1, 1) := by decide +kernel
theorem dX4_way_37 : decode cX4_way 37 = .ok (.invokevirtual 123, 3) := by decide +kernel
theorem dX4_way_40 : decode cX4_way 40 = .ok (.istore 4, 2) := by decide +kernel
theorem dX4_way_42 : decode cX4_way 42 = .ok (.iconst 1, 1) := by decide +kernel
theorem dX4_way_43 : decode cX4_way 43 = .ok (.aload_n 0, 1) := by decide +kernel
theorem dX4_way_44 : decode cX4_way 44 = .ok (.getfield 34, 3) := by decide +kernel
theorem dX4_way_47 : decode cX4_way 47 = .ok (.getfield 116, 3) := by decide +kernel
theorem dX4_way_50 : decode cX4_way 50 = .ok (.iload_n 1, 1) := by decide +kernel
theorem dX4_way_51 : decode cX4_way 51 = .ok (.iaload, 1) := by decide +kernel
theorem dX4_way_52 : decode cX4_way 52 = .ok (.ishl, 1) := by decide +kernel
theorem dX4_way_53 : decode cX4_way 53 = .ok (.istore 5, 2) := by decide +kernel
theorem dX4_way_55 : decode cX4_way 55 = .ok (.iconst 0, 1) := by decide +kernel
theorem dX4_way_56 : decode cX4_way 56 = .ok (.istore 6, 2) := by decide +kernel
theorem dX4_way_58 : decode cX4_way 58 = .ok (.iload 6, 2) := by decide +kernel
theorem dX4_way_60 : decode cX4_way 60 = .ok (.bipush 12, 2) := by decide +kernel
theorem dX4_way_62 : decode cX4_way 62 = .ok (.if_icmp .gt 42, 3) := by decide +kernel
theorem dX4_way_65 : decode cX4_way 65 = .ok (.iload 5, 2) := by decide +kernel
theorem dX4_way_67 : decode cX4_way 67 = .ok (.iload_n 2, 1) := by decide +kernel
theorem dX4_way_68 : decode cX4_way 68 = .ok (.ishr, 1) := by decide +kernel
theorem dX4_way_69 : decode cX4_way 69 = .ok (.iconst 1, 1) := by decide +kernel
theorem dX4_way_70 : decode cX4_way 70 = .ok (.iand, 1) := by decide +kernel
theorem dX4_way_71 : decode cX4_way 71 = .ok (.ifCond .eq 6, 3) := by decide +kernel
theorem dX4_way_74 : decode cX4_way 74 = .ok (.iload 6, 2) := by decide +kernel
theorem dX4_way_76 : decode cX4_way 76 = .ok (.ireturn, 1) := by decide +kernel
theorem dX4_way_77 : decode cX4_way 77 = .ok (.aload_n 0, 1) := by decide +kernel
theorem dX4_way_78 : decode cX4_way 78 = .ok (.iload_n 1, 1) := by decide +kernel
theorem dX4_way_79 : decode cX4_way 79 = .ok (.iload 5, 2) := by decide +kernel
theorem dX4_way_81 : decode cX4_way 81 = .ok (.aload_n 0, 1) := by decide +kernel
theorem dX4_way_82 : decode cX4_way 82 = .ok (.getfield 34, 3) := by decide +kernel
theorem dX4_way_85 : decode cX4_way 85 = .ok (.getfield 86, 3) := by decide +kernel
theorem dX4_way_88 : decode cX4_way 88 = .ok (.iload 6, 2) := by decide +kernel
theorem dX4_way_90 : decode cX4_way 90 = .ok (.iadd, 1) := by decide +kernel
theorem dX4_way_91 : decode cX4_way 91 = .ok (.iload 4, 2) := by decide +kernel
theorem dX4_way_93 : decode cX4_way 93 = .ok (.invokevirtual 167, 3) := by decide +kernel
theorem dX4_way_96 : decode cX4_way 96 = .ok (.istore 5, 2) := by decide +kernel
theorem dX4_way_98 : decode cX4_way 98 = .ok (.iinc 6 1, 3) := by decide +kernel
theorem dX4_way_101 : decode cX4_way 101 = .ok (.goto (-43), 3) := by decide +kernel
theorem dX4_way_104 : decode cX4_way 104 = .ok (.bipush (-9), 2) := by decide +kernel
theorem dX4_way_106 : decode cX4_way 106 = .ok (.ireturn, 1) := by decide +kernel
theorem dX4_enclaves_0 : decode cX4_enclaves 0 = .ok (.aload_n 0, 1) := by decide +kernel
theorem dX4_enclaves_1 : decode cX4_enclaves 1 = .ok (.iload_n 1, 1) := by decide +kernel
theorem dX4_enclaves_2 : decode cX4_enclaves 2 = .ok (.invokevirtual 113, 3) := by decide +kernel
theorem dX4_enclaves_5 : decode cX4_enclaves 5 = .ok (.ifCond .ne 5, 3) := by decide +kernel
theorem dX4_enclaves_8 : decode cX4_enclaves 8 = .ok (.iconst (-1), 1) := by decide +kernel
theorem dX4_enclaves_9 : decode cX4_enclaves 9 = .ok (.ireturn, 1) := by decide +kernel
theorem dX4_enclaves_10 : decode cX4_enclaves 10 = .ok (.aload_n 0, 1) := by decide +kernel
theorem dX4_enclaves_11 : decode cX4_enclaves 11 = .ok (.aload_n 0, 1) := by decide +kernel
theorem dX4_enclaves_12 : decode cX4_enclaves 12 = .ok (.getfield 34, 3) := by decide +kernel
theorem dX4_enclaves_15 : decode cX4_enclaves 15 = .ok (.iload_n 1, 1) := by decide +kernel
theorem dX4_enclaves_16 : decode cX4_enclaves 16 = .ok (.invokevirtual 123, 3) := by decide +kernel
theorem dX4_enclaves_19 : decode cX4_enclaves 19 = .ok (.istore_n 2, 1) := by decide +kernel
theorem dX4_enclaves_20 : decode cX4_enclaves 20 = .ok (.iconst 1, 1) := by decide +kernel
theorem dX4_enclaves_21 : decode cX4_enclaves 21 = .ok (.aload_n 0, 1) := by decide +kernel
theorem dX4_enclaves_22 : decode cX4_enclaves 22 = .ok (.getfield 34, 3) := by decide +kernel
theorem dX4_enclaves_25 : decode cX4_enclaves 25 = .ok (.getfield 116, 3) := by decide +kernel
theorem dX4_enclaves_28 : decode cX4_enclaves 28 = .ok (.iload_n 1, 1) := by decide +kernel
theorem dX4_enclaves_29 : decode cX4_enclaves 29 = .ok (.iaload, 1) := by decide +kernel
theorem dX4_enclaves_30 : decode cX4_enclaves 30 = .ok (.ishl, 1) := by decide +kernel
theorem dX4_enclaves_31 : decode cX4_enclaves 31 = .ok (.istore_n 3, 1) := by decide +kernel
theorem dX4_enclaves_32 : decode cX4_enclaves 32 = .ok (.iconst 0, 1) := by decide +kernel
theorem dX4_enclaves_33 : decode cX4_enclaves 33 = .ok (.istore 4, 2) := by decide +kernel
theorem dX4_enclaves_35 : decode cX4_enclaves 35 = .ok (.iload 4, 2) := by decide +kernel
theorem dX4_enclaves_37 : decode cX4_enclaves 37 = .ok (.bipush 12, 2) := by decide +kernel
theorem dX4_enclaves_39 : decode cX4_enclaves 39 = .ok (.if_icmp .ge 27, 3) := by decide +kernel
theorem dX4_enclaves_42 : decode cX4_enclaves 42 = .ok (.aload_n 0, 1) := by decide +kernel
theorem dX4_enclaves_43 : decode cX4_enclaves 43 = .ok (.iload_n 1, 1) := by decide +kernel
theorem dX4_enclaves_44 : decode cX4_enclaves 44 = .ok (.iload_n 3, 1) := by decide +kernel
theorem dX4_enclaves_45 : decode cX4_enclaves 45 = .ok (.aload_n 0, 1) := by decide +kernel
theorem dX4_enclaves_46 : decode cX4_enclaves 46 = .ok (.getfield 34, 3) := by decide +kernel
theorem dX4_enclaves_49 : decode cX4_enclaves 49 = .ok (.getfield 86, 3) := by decide +kernel
theorem dX4_enclaves_52 : decode cX4_enclaves 52 = .ok (.iload 4, 2) := by decide +kernel
theorem dX4_enclaves_54 : decode cX4_enclaves 54 = .ok (.iadd, 1) := by decide +kernel
theorem dX4_enclaves_55 : decode cX4_enclaves 55 = .ok (.iload_n 2, 1) := by decide +kernel
theorem dX4_enclaves_56 : decode cX4_enclaves 56 = .ok (.invokevirtual 167, 3) := by decide +kernel
theorem dX4_enclaves_59 : decode cX4_enclaves 59 = .ok (.istore_n 3, 1) := by decide +kernel
theorem dX4_enclaves_60 : decode cX4_enclaves 60 = .ok (.iinc 4 1, 3) := by decide +kernel
theorem dX4_enclaves_63 : decode cX4_enclaves 63 = .ok (.goto (-28), 3) := by decide +kernel
theorem dX4_enclaves_66 : decode cX4_enclaves 66 = .ok (.iload_n 3, 1) := by decide +kernel
theorem dX4_enclaves_67 : decode cX4_enclaves 67 = .ok (.iconst (-1), 1) := by decide +kernel
theorem dX4_enclaves_68 : decode cX4_enclaves 68 = .ok (.ixor, 1) := by decide +kernel
theorem dX4_enclaves_69 : decode cX4_enclaves 69 = .ok (.sipush 1023, 3) := by decide +kernel
theorem dX4_enclaves_72 : decode cX4_enclaves 72 = .ok (.iand, 1) := by decide +kernel
theorem dX4_enclaves_73 : decode cX4_enclaves 73 = .ok (.ireturn, 1) := by decide +kernel
theorem dX4_teach_0 : decode cX4_teach 0 = .ok (.aload_n 0, 1) := by decide +kernel
theorem dX4_teach_1 : decode cX4_teach 1 = .ok (.iload_n 1, 1) := by decide +kernel
theorem dX4_teach_2 : decode cX4_teach 2 = .ok (.invokevirtual 113, 3) := by decide +kernel
theorem dX4_teach_5 : decode cX4_teach 5 = .ok (.ifCond .ne 5, 3) := by decide +kernel
theorem dX4_teach_8 : decode cX4_teach 8 = .ok (.iconst (-1), 1) := by decide +kernel
theorem dX4_teach_9 : decode cX4_teach 9 = .ok (.ireturn, 1) := by decide +kernel
theorem dX4_teach_10 : decode cX4_teach 10 = .ok (.aload_n 0, 1) := by decide +kernel
theorem dX4_teach_11 : decode cX4_teach 11 = .ok (.aload_n 0, 1) := by decide +kernel
theorem dX4_teach_12 : decode cX4_teach 12 = .ok (.getfield 34, 3) := by decide +kernel
theorem dX4_teach_15 : decode cX4_teach 15 = .ok (.iload_n 1, 1) := by decide +kernel
theorem dX4_teach_16 : decode cX4_teach 16 = .ok (.invokevirtual 123, 3) := by decide +kernel
theorem dX4_teach_19 : decode cX4_teach 19 = .ok (.istore_n 2, 1) := by decide +kernel
theorem dX4_teach_20 : decode cX4_teach 20 = .ok (.bipush (-9), 2) := by decide +kernel
theorem dX4_teach_22 : decode cX4_teach 22 = .ok (.istore_n 3, 1) := by decide +kernel
theorem dX4_teach_23 : decode cX4_teach 23 = .ok (.bipush 6, 2) := by decide +kernel
theorem dX4_teach_25 : decode cX4_teach 25 = .ok (.istore 4, 2) := by decide +kernel
theorem dX4_teach_27 : decode cX4_teach 27 = .ok (.iconst 0, 1) := by decide +kernel
theorem dX4_teach_28 : decode cX4_teach 28 = .ok (.istore 5, 2) := by decide +kernel
theorem dX4_teach_30 : decode cX4_teach 30 = .ok (.iload 5, 2) := by decide +kernel
theorem dX4_teach_32 : decode cX4_teach 32 = .ok (.aload_n 0, 1) := by decide +kernel
theorem dX4_teach_33 : decode cX4_teach 33 = .ok (.getfield 19, 3) := by decide +kernel
theorem dX4_teach_36 : decode cX4_teach 36 = .ok (.invokevirtual 164, 3) := by decide +kernel
theorem dX4_teach_39 : decode cX4_teach 39 = .ok (.if_icmp .gt 47, 3) := by decide +kernel
theorem dX4_teach_42 : decode cX4_teach 42 = .ok (.iload 5, 2) := by decide +kernel
theorem dX4_teach_44 : decode cX4_teach 44 = .ok (.invokestatic 152, 3) := by decide +kernel
theorem dX4_teach_47 : decode cX4_teach 47 = .ok (.istore 6, 2) := by decide +kernel
theorem dX4_teach_49 : decode cX4_teach 49 = .ok (.iload 5, 2) := by decide +kernel
theorem dX4_teach_51 : decode cX4_teach 51 = .ok (.iload_n 2, 1) := by decide +kernel
theorem dX4_teach_52 : decode cX4_teach 52 = .ok (.iand, 1) := by decide +kernel
theorem dX4_teach_53 : decode cX4_teach 53 = .ok (.ifCond .ne 27, 3) := by decide +kernel
theorem dX4_teach_56 : decode cX4_teach 56 = .ok (.iload 6, 2) := by decide +kernel
theorem dX4_teach_58 : decode cX4_teach 58 = .ok (.iload 4, 2) := by decide +kernel
theorem dX4_teach_60 : decode cX4_teach 60 = .ok (.if_icmp .ge 20, 3) := by decide +kernel
theorem dX4_teach_63 : decode cX4_teach 63 = .ok (.aload_n 0, 1) := by decide +kernel
theorem dX4_teach_64 : decode cX4_teach 64 = .ok (.iload_n 1, 1) := by decide +kernel
theorem dX4_teach_65 : decode cX4_teach 65 = .ok (.iload 5, 2) := by decide +kernel
theorem dX4_teach_67 : decode cX4_teach 67 = .ok (.invokevirtual 171, 3) := by decide +kernel
theorem dX4_teach_70 : decode cX4_teach 70 = .ok (.ifCond .eq 10, 3) := by decide +kernel
theorem dX4_teach_73 : decode cX4_teach 73 = .ok (.iload 5, 2) := by decide +kernel
theorem dX4_teach_75 : decode cX4_teach 75 = .ok (.istore_n 3, 1) := by decide +kernel
theorem dX4_teach_76 : decode cX4_teach 76 = .ok (.iload 6, 2) := by decide +kernel
theorem dX4_teach_78 : decode cX4_teach 78 = .ok (.istore 4, 2) := by decide +kernel
theorem dX4_teach_80 : decode cX4_teach 80 = .ok (.iinc 5 1, 3) := by decide +kernel
theorem dX4_teach_83 : decode cX4_teach 83 = .ok (.goto (-53), 3) := by decide +kernel
theorem dX4_teach_86 : decode cX4_teach 86 = .ok (.iload_n 3, 1) := by decide +kernel
theorem dX4_teach_87 : decode cX4_teach 87 = .ok (.ireturn, 1) := by decide +kernel
theorem dX4_differ_0 : decode cX4_differ 0 = .ok (.aload_n 0, 1) := by decide +kernel
theorem dX4_differ_1 : decode cX4_differ 1 = .ok (.iload_n 1, 1) := by decide +kernel
theorem dX4_differ_2 : decode cX4_differ 2 = .ok (.invokevirtual 113, 3) := by decide +kernel
theorem dX4_differ_5 : decode cX4_differ 5 = .ok (.ifCond .eq 11, 3) := by decide +kernel
theorem dX4_differ_8 : decode cX4_differ 8 = .ok (.aload_n 0, 1) := by decide +kernel
theorem dX4_differ_9 : decode cX4_differ 9 = .ok (.iload_n 2, 1) := by decide +kernel
theorem dX4_differ_10 : decode cX4_differ 10 = .ok (.invokevirtual 113, 3) := by decide +kernel
theorem dX4_differ_13 : decode cX4_differ 13 = .ok (.ifCond .ne 5, 3) := by decide +kernel
theorem dX4_differ_16 : decode cX4_differ 16 = .ok (.iconst (-1), 1) := by decide +kernel
theorem dX4_differ_17 : decode cX4_differ 17 = .ok (.ireturn, 1) := by decide +kernel
theorem dX4_differ_18 : decode cX4_differ 18 = .ok (.aload_n 0, 1) := by decide +kernel
theorem dX4_differ_19 : decode cX4_differ 19 = .ok (.aload_n 0, 1) := by decide +kernel
theorem dX4_differ_20 : decode cX4_differ 20 = .ok (.getfield 34, 3) := by decide +kernel
theorem dX4_differ_23 : decode cX4_differ 23 = .ok (.iload_n 1, 1) := by decide +kernel
theorem dX4_differ_24 : decode cX4_differ 24 = .ok (.invokevirtual 123, 3) := by decide +kernel
theorem dX4_differ_27 : decode cX4_differ 27 = .ok (.aload_n 0, 1) := by decide +kernel
theorem dX4_differ_28 : decode cX4_differ 28 = .ok (.aload_n 0, 1) := by decide +kernel
theorem dX4_differ_29 : decode cX4_differ 29 = .ok (.getfield 34, 3) := by decide +kernel
theorem dX4_differ_32 : decode cX4_differ 32 = .ok (.iload_n 2, 1) := by decide +kernel
theorem dX4_differ_33 : decode cX4_differ 33 = .ok (.invokevirtual 123, 3) := by decide +kernel
theorem dX4_differ_36 : decode cX4_differ 36 = .ok (.ixor, 1) := by decide +kernel
theorem dX4_differ_37 : decode cX4_differ 37 = .ok (.invokestatic 138, 3) := by decide +kernel
theorem dX4_differ_40 : decode cX4_differ 40 = .ok (.ireturn, 1) := by decide +kernel
theorem dX4_judge_0 : decode cX4_judge 0 = .ok (.iload_n 1, 1) := by decide +kernel
theorem dX4_judge_1 : decode cX4_judge 1 = .ok (.iconst 1, 1) := by decide +kernel
theorem dX4_judge_2 : decode cX4_judge 2 = .ok (.if_icmp .lt 12, 3) := by decide +kernel
theorem dX4_judge_5 : decode cX4_judge 5 = .ok (.iload_n 1, 1) := by decide +kernel
theorem dX4_judge_6 : decode cX4_judge 6 = .ok (.iconst 4, 1) := by decide +kernel
theorem dX4_judge_7 : decode cX4_judge 7 = .ok (.if_icmp .gt 7, 3) := by decide +kernel
theorem dX4_judge_10 : decode cX4_judge 10 = .ok (.iload_n 2, 1) := by decide +kernel
theorem dX4_judge_11 : decode cX4_judge 11 = .ok (.ifCond .ge 6, 3) := by decide +kernel
theorem dX4_judge_14 : decode cX4_judge 14 = .ok (.bipush (-2), 2) := by decide +kernel
theorem dX4_judge_16 : decode cX4_judge 16 = .ok (.ireturn, 1) := by decide +kernel
theorem dX4_judge_17 : decode cX4_judge 17 = .ok (.iconst 1, 1) := by decide +kernel
theorem dX4_judge_18 : decode cX4_judge 18 = .ok (.istore_n 3, 1) := by decide +kernel
theorem dX4_judge_19 : decode cX4_judge 19 = .ok (.iconst 1, 1) := by decide +kernel
theorem dX4_judge_20 : decode cX4_judge 20 = .ok (.istore 4, 2) := by decide +kernel
theorem dX4_judge_22 : decode cX4_judge 22 = .ok (.iload 4, 2) := by decide +kernel
theorem dX4_judge_24 : decode cX4_judge 24 = .ok (.iload_n 1, 1) := by decide +kernel
theorem dX4_judge_25 : decode cX4_judge 25 = .ok (.if_icmp .ge 14, 3) := by decide +kernel
theorem dX4_judge_28 : decode cX4_judge 28 = .ok (.iload_n 3, 1) := by decide +kernel
theorem dX4_judge_29 : decode cX4_judge 29 = .ok (.bipush 100, 2) := by decide +kernel
theorem dX4_judge_31 : decode cX4_judge 31 = .ok (.imul, 1) := by decide +kernel
theorem dX4_judge_32 : decode cX4_judge 32 = .ok (.istore_n 3, 1) := by decide +kernel
theorem dX4_judge_33 : decode cX4_judge 33 = .ok (.iinc 4 1, 3) := by decide +kernel
theorem dX4_judge_36 : decode cX4_judge 36 = .ok (.goto (-14), 3) := by decide +kernel
theorem dX4_judge_39 : decode cX4_judge 39 = .ok (.iload_n 3, 1) := by decide +kernel
theorem dX4_judge_40 : decode cX4_judge 40 = .ok (.ifCond .le 11, 3) := by decide +kernel
theorem dX4_judge_43 : decode cX4_judge 43 = .ok (.iload_n 2, 1) := by decide +kernel
theorem dX4_judge_44 : decode cX4_judge 44 = .ok (.iload_n 3, 1) := by decide +kernel
theorem dX4_judge_45 : decode cX4_judge 45 = .ok (.idiv, 1) := by decide +kernel
theorem dX4_judge_46 : decode cX4_judge 46 = .ok (.bipush 99, 2) := by decide +kernel
theorem dX4_judge_48 : decode cX4_judge 48 = .ok (.if_icmp .le 6, 3) := by decide +kernel
theorem dX4_judge_51 : decode cX4_judge 51 = .ok (.bipush (-2), 2) := by decide +kernel
theorem dX4_judge_53 : decode cX4_judge 53 = .ok (.ireturn, 1) := by decide +kernel
theorem dX4_judge_54 : decode cX4_judge 54 = .ok (.aload_n 0, 1) := by decide +kernel
theorem dX4_judge_55 : decode cX4_judge 55 = .ok (.getfield 34, 3) := by decide +kernel
theorem dX4_judge_58 : decode cX4_judge 58 = .ok (.aload_n 0, 1) := by decide +kernel
theorem dX4_judge_59 : decode cX4_judge 59 = .ok (.getfield 38, 3) := by decide +kernel
theorem dX4_judge_62 : decode cX4_judge 62 = .ok (.invokestatic 157, 3) := by decide +kernel
theorem dX4_judge_65 : decode cX4_judge 65 = .ok (.iconst 0, 1) := by decide +kernel
theorem dX4_judge_66 : decode cX4_judge 66 = .ok (.istore 4, 2) := by decide +kernel
theorem dX4_judge_68 : decode cX4_judge 68 = .ok (.iload 4, 2) := by decide +kernel
theorem dX4_judge_70 : decode cX4_judge 70 = .ok (.iload_n 1, 1) := by decide +kernel
theorem dX4_judge_71 : decode cX4_judge 71 = .ok (.if_icmp .ge 50, 3) := by decide +kernel
theorem dX4_judge_74 : decode cX4_judge 74 = .ok (.iload_n 3, 1) := by decide +kernel
theorem dX4_judge_75 : decode cX4_judge 75 = .ok (.ifCond .le 46, 3) := by decide +kernel
theorem dX4_judge_78 : decode cX4_judge 78 = .ok (.iload_n 2, 1) := by decide +kernel
theorem dX4_judge_79 : decode cX4_judge 79 = .ok (.iload_n 3, 1) := by decide +kernel
theorem dX4_judge_80 : decode cX4_judge 80 = .ok (.idiv, 1) := by decide +kernel
theorem dX4_judge_81 : decode cX4_judge 81 = .ok (.bipush 100, 2) := by decide +kernel
theorem dX4_judge_83 : decode cX4_judge 83 = .ok (.irem, 1) := by decide +kernel
theorem dX4_judge_84 : decode cX4_judge 84 = .ok (.istore 5, 2) := by decide +kernel
theorem dX4_judge_86 : decode cX4_judge 86 = .ok (.aload_n 0, 1) := by decide +kernel
theorem dX4_judge_87 : decode cX4_judge 87 = .ok (.aload_n 0, 1) := by decide +kernel
theorem dX4_judge_88 : decode cX4_judge 88 = .ok (.getfield 38, 3) := by decide +kernel
theorem dX4_judge_91 : decode cX4_judge 91 = .ok (.iload 5, 2) := by decide +kernel
theorem dX4_judge_93 : decode cX4_judge 93 = .ok (.bipush 10, 2) := by decide +kernel
theorem dX4_judge_95 : decode cX4_judge 95 = .ok (.idiv, 1) := by decide +kernel
theorem dX4_judge_96 : decode cX4_judge 96 = .ok (.iload 5, 2) := by decide +kernel
theorem dX4_judge_98 : decode cX4_judge 98 = .ok (.bipush 10, 2) := by decide +kernel
theorem dX4_judge_100 : decode cX4_judge 100 = .ok (.irem, 1) := by decide +kernel
theorem dX4_judge_101 : decode cX4_judge 101 = .ok (.invokevirtual 175, 3) := by decide +kernel
theorem dX4_judge_104 : decode cX4_judge 104 = .ok (.ifCond .ne 6, 3) := by decide +kernel
theorem dX4_judge_107 : decode cX4_judge 107 = .ok (.iload 4, 2) := by decide +kernel
theorem dX4_judge_109 : decode cX4_judge 109 = .ok (.ireturn, 1) := by decide +kernel
theorem dX4_judge_110 : decode cX4_judge 110 = .ok (.iload_n 3, 1) := by decide +kernel
theorem dX4_judge_111 : decode cX4_judge 111 = .ok (.bipush 100, 2) := by decide +kernel
theorem dX4_judge_113 : decode cX4_judge 113 = .ok (.idiv, 1) := by decide +kernel
theorem dX4_judge_114 : decode cX4_judge 114 = .ok (.istore_n 3, 1) := by decide +kernel
theorem dX4_judge_115 : decode cX4_judge 115 = .ok (.iinc 4 1, 3) := by decide +kernel
theorem dX4_judge_118 : decode cX4_judge 118 = .ok (.goto (-50), 3) := by decide +kernel
theorem dX4_judge_121 : decode cX4_judge 121 = .ok (.bipush (-9), 2) := by decide +kernel
theorem dX4_judge_123 : decode cX4_judge 123 = .ok (.ireturn, 1) := by decide +kernel
theorem dX4_share_0 : decode cX4_share 0 = .ok (.aload_n 0, 1) := by decide +kernel
theorem dX4_share_1 : decode cX4_share 1 = .ok (.iload_n 1, 1) := by decide +kernel
theorem dX4_share_2 : decode cX4_share 2 = .ok (.invokevirtual 97, 3) := by decide +kernel
theorem dX4_share_5 : decode cX4_share 5 = .ok (.ifCond .ne 5, 3) := by decide +kernel
theorem dX4_share_8 : decode cX4_share 8 = .ok (.iconst (-1), 1) := by decide +kernel
theorem dX4_share_9 : decode cX4_share 9 = .ok (.ireturn, 1) := by decide +kernel
theorem dX4_share_10 : decode cX4_share 10 = .ok (.iconst 0, 1) := by decide +kernel
theorem dX4_share_11 : decode cX4_share 11 = .ok (.istore_n 3, 1) := by decide +kernel
theorem dX4_share_12 : decode cX4_share 12 = .ok (.iconst 0, 1) := by decide +kernel
theorem dX4_share_13 : decode cX4_share 13 = .ok (.istore 4, 2) := by decide +kernel
theorem dX4_share_15 : decode cX4_share 15 = .ok (.iload 4, 2) := by decide +kernel
theorem dX4_share_17 : decode cX4_share 17 = .ok (.aload_n 0, 1) := by decide +kernel
theorem dX4_share_18 : decode cX4_share 18 = .ok (.getfield 27, 3) := by decide +kernel
theorem dX4_share_21 : decode cX4_share 21 = .ok (.if_icmp .ge 43, 3) := by decide +kernel
theorem dX4_share_24 : decode cX4_share 24 = .ok (.iconst 0, 1) := by decide +kernel
theorem dX4_share_25 : decode cX4_share 25 = .ok (.istore 5, 2) := by decide +kernel
theorem dX4_share_27 : decode cX4_share 27 = .ok (.iload 5, 2) := by decide +kernel
theorem dX4_share_29 : decode cX4_share 29 = .ok (.iconst 1, 1) := by decide +kernel
theorem dX4_share_30 : decode cX4_share 30 = .ok (.if_icmp .gt 28, 3) := by decide +kernel
theorem dX4_share_33 : decode cX4_share 33 = .ok (.iload_n 3, 1) := by decide +kernel
theorem dX4_share_34 : decode cX4_share 34 = .ok (.aload_n 0, 1) := by decide +kernel
theorem dX4_share_35 : decode cX4_share 35 = .ok (.aload_n 0, 1) := by decide +kernel
theorem dX4_share_36 : decode cX4_share 36 = .ok (.getfield 34, 3) := by decide +kernel
theorem dX4_share_39 : decode cX4_share 39 = .ok (.iload 4, 2) := by decide +kernel
theorem dX4_share_41 : decode cX4_share 41 = .ok (.iload 5, 2) := by decide +kernel
theorem dX4_share_43 : decode cX4_share 43 = .ok (.invokevirtual 131, 3) := by decide +kernel
theorem dX4_share_46 : decode cX4_share 46 = .ok (.iload_n 1, 1) := by decide +kernel
theorem dX4_share_47 : decode cX4_share 47 = .ok (.invokestatic 178, 3) := by decide +kernel
theorem dX4_share_50 : decode cX4_share 50 = .ok (.iadd, 1) := by decide +kernel
theorem dX4_share_51 : decode cX4_share 51 = .ok (.istore_n 3, 1) := by decide +kernel
theorem dX4_share_52 : decode cX4_share 52 = .ok (.iinc 5 1, 3) := by decide +kernel
theorem dX4_share_55 : decode cX4_share 55 = .ok (.goto (-28), 3) := by decide +kernel
theorem dX4_share_58 : decode cX4_share 58 = .ok (.iinc 4 1, 3) := by decide +kernel
theorem dX4_share_61 : decode cX4_share 61 = .ok (.goto (-46), 3) := by decide +kernel
theorem dX4_share_64 : decode cX4_share 64 = .ok (.iload_n 3, 1) := by decide +kernel
theorem dX4_share_65 : decode cX4_share 65 = .ok (.bipush 60, 2) := by decide +kernel
theorem dX4_share_67 : decode cX4_share 67 = .ok (.iload_n 2, 1) := by decide +kernel
theorem dX4_share_68 : decode cX4_share 68 = .ok (.invokestatic 181, 3) := by decide +kernel
theorem dX4_share_71 : decode cX4_share 71 = .ok (.ireturn, 1) := by decide +kernel
theorem dX4_see_0 : decode cX4_see 0 = .ok (.iload_n 1, 1) := by decide +kernel
theorem dX4_see_1 : decode cX4_see 1 = .ok (.invokestatic 161, 3) := by decide +kernel
theorem dX4_see_4 : decode cX4_see 4 = .ok (.ifCond .ne 5, 3) := by decide +kernel
theorem dX4_see_7 : decode cX4_see 7 = .ok (.iconst (-1), 1) := by decide +kernel
theorem dX4_see_8 : decode cX4_see 8 = .ok (.ireturn, 1) := by decide +kernel
theorem dX4_see_9 : decode cX4_see 9 = .ok (.iload_n 2, 1) := by decide +kernel
theorem dX4_see_10 : decode cX4_see 10 = .ok (.ifCond .lt 34, 3) := by decide +kernel
theorem dX4_see_13 : decode cX4_see 13 = .ok (.iload_n 2, 1) := by decide +kernel
theorem dX4_see_14 : decode cX4_see 14 = .ok (.iconst 4, 1) := by decide +kernel
theorem dX4_see_15 : decode cX4_see 15 = .ok (.if_icmp .ge 29, 3) := by decide +kernel
theorem dX4_see_18 : decode cX4_see 18 = .ok (.iload_n 3, 1) := by decide +kernel
theorem dX4_see_19 : decode cX4_see 19 = .ok (.ifCond .lt 25, 3) := by decide +kernel
theorem dX4_see_22 : decode cX4_see 22 = .ok (.iload_n 3, 1) := by decide +kernel
theorem dX4_see_23 : decode cX4_see 23 = .ok (.bipush 10, 2) := by decide +kernel
theorem dX4_see_25 : decode cX4_see 25 = .ok (.if_icmp .ge 19, 3) := by decide +kernel
theorem dX4_see_28 : decode cX4_see 28 = .ok (.iload 4, 2) := by decide +kernel
theorem dX4_see_30 : decode cX4_see 30 = .ok (.invokestatic 185, 3) := by decide +kernel
theorem dX4_see_33 : decode cX4_see 33 = .ok (.ifCond .eq 11, 3) := by decide +kernel
theorem dX4_see_36 : decode cX4_see 36 = .ok (.iload 5, 2) := by decide +kernel
theorem dX4_see_38 : decode cX4_see 38 = .ok (.invokestatic 185, 3) := by decide +kernel
theorem dX4_see_41 : decode cX4_see 41 = .ok (.ifCond .ne 6, 3) := by decide +kernel
theorem dX4_see_44 : decode cX4_see 44 = .ok (.bipush (-2), 2) := by decide +kernel
theorem dX4_see_46 : decode cX4_see 46 = .ok (.ireturn, 1) := by decide +kernel
theorem dX4_see_47 : decode cX4_see 47 = .ok (.aload_n 0, 1) := by decide +kernel
theorem dX4_see_48 : decode cX4_see 48 = .ok (.getfield 61, 3) := by decide +kernel
theorem dX4_see_51 : decode cX4_see 51 = .ok (.iload_n 1, 1) := by decide +kernel
theorem dX4_see_52 : decode cX4_see 52 = .ok (.iload_n 2, 1) := by decide +kernel
theorem dX4_see_53 : decode cX4_see 53 = .ok (.iload_n 3, 1) := by decide +kernel
theorem dX4_see_54 : decode cX4_see 54 = .ok (.iload 4, 2) := by decide +kernel
theorem dX4_see_56 : decode cX4_see 56 = .ok (.iload 5, 2) := by decide +kernel
theorem dX4_see_58 : decode cX4_see 58 = .ok (.invokevirtual 188, 3) := by decide +kernel
theorem dX4_see_61 : decode cX4_see 61 = .ok (.ifCond .eq 13, 3) := by decide +kernel
theorem dX4_see_64 : decode cX4_see 64 = .ok (.aload_n 0, 1) := by decide +kernel
theorem dX4_see_65 : decode cX4_see 65 = .ok (.getfield 61, 3) := by decide +kernel
theorem dX4_see_68 : decode cX4_see 68 = .ok (.getfield 96, 3) := by decide +kernel
theorem dX4_see_71 : decode cX4_see 71 = .ok (.goto 5, 3) := by decide +kernel
theorem dX4_see_74 : decode cX4_see 74 = .ok (.bipush (-4), 2) := by decide +kernel
theorem dX4_see_76 : decode cX4_see 76 = .ok (.ireturn, 1) := by decide +kernel
theorem dX4_unsee_0 : decode cX4_unsee 0 = .ok (.aload_n 0, 1) := by decide +kernel
theorem dX4_unsee_1 : decode cX4_unsee 1 = .ok (.getfield 61, 3) := by decide +kernel
theorem dX4_unsee_4 : decode cX4_unsee 4 = .ok (.getfield 96, 3) := by decide +kernel
theorem dX4_unsee_7 : decode cX4_unsee 7 = .ok (.istore_n 1, 1) := by decide +kernel
theorem dX4_unsee_8 : decode cX4_unsee 8 = .ok (.aload_n 0, 1) := by decide +kernel
theorem dX4_unsee_9 : decode cX4_unsee 9 = .ok (.getfield 61, 3) := by decide +kernel
theorem dX4_unsee_12 : decode cX4_unsee 12 = .ok (.iconst 0, 1) := by decide +kernel
theorem dX4_unsee_13 : decode cX4_unsee 13 = .ok (.putfield 96, 3) := by decide +kernel
theorem dX4_unsee_16 : decode cX4_unsee 16 = .ok (.iload_n 1, 1) := by decide +kernel
theorem dX4_unsee_17 : decode cX4_unsee 17 = .ok (.ireturn, 1) := by decide +kernel
theorem dX4_may_0 : decode cX4_may 0 = .ok (.iload_n 1, 1) := by decide +kernel
theorem dX4_may_1 : decode cX4_may 1 = .ok (.invokestatic 161, 3) := by decide +kernel
theorem dX4_may_4 : decode cX4_may 4 = .ok (.ifCond .ne 5, 3) := by decide +kernel
theorem dX4_may_7 : decode cX4_may 7 = .ok (.iconst (-1), 1) := by decide +kernel
theorem dX4_may_8 : decode cX4_may 8 = .ok (.ireturn, 1) := by decide +kernel
theorem dX4_may_9 : decode cX4_may 9 = .ok (.iload_n 2, 1) := by decide +kernel
theorem dX4_may_10 : decode cX4_may 10 = .ok (.invokestatic 185, 3) := by decide +kernel
theorem dX4_may_13 : decode cX4_may 13 = .ok (.ifCond .ne 6, 3) := by decide +kernel
theorem dX4_may_16 : decode cX4_may 16 = .ok (.bipush (-2), 2) := by decide +kernel
theorem dX4_may_18 : decode cX4_may 18 = .ok (.ireturn, 1) := by decide +kernel
theorem dX4_may_19 : decode cX4_may 19 = .ok (.iconst 0, 1) := by decide +kernel
theorem dX4_may_20 : decode cX4_may 20 = .ok (.istore_n 3, 1) := by decide +kernel
theorem dX4_may_21 : decode cX4_may 21 = .ok (.bipush (-9), 2) := by decide +kernel
theorem dX4_may_23 : decode cX4_may 23 = .ok (.istore 4, 2) := by decide +kernel
theorem dX4_may_25 : decode cX4_may 25 = .ok (.iconst 0, 1) := by decide +kernel
theorem dX4_may_26 : decode cX4_may 26 = .ok (.istore 5, 2) := by decide +kernel
theorem dX4_may_28 : decode cX4_may 28 = .ok (.iload 5, 2) := by decide +kernel
theorem dX4_may_30 : decode cX4_may 30 = .ok (.iconst 2, 1) := by decide +kernel
theorem dX4_may_31 : decode cX4_may 31 = .ok (.if_icmp .gt 62, 3) := by decide +kernel
theorem dX4_may_34 : decode cX4_may 34 = .ok (.iconst 0, 1) := by decide +kernel
theorem dX4_may_35 : decode cX4_may 35 = .ok (.istore 6, 2) := by decide +kernel
theorem dX4_may_37 : decode cX4_may 37 = .ok (.iload 6, 2) := by decide +kernel
theorem dX4_may_39 : decode cX4_may 39 = .ok (.bipush 10, 2) := by decide +kernel
theorem dX4_may_41 : decode cX4_may 41 = .ok (.if_icmp .ge 46, 3) := by decide +kernel
theorem dX4_may_44 : decode cX4_may 44 = .ok (.aload_n 0, 1) := by decide +kernel
theorem dX4_may_45 : decode cX4_may 45 = .ok (.getfield 61, 3) := by decide +kernel
theorem dX4_may_48 : decode cX4_may 48 = .ok (.iload_n 1, 1) := by decide +kernel
theorem dX4_may_49 : decode cX4_may 49 = .ok (.iload 5, 2) := by decide +kernel
theorem dX4_may_51 : decode cX4_may 51 = .ok (.iload 6, 2) := by decide +kernel
theorem dX4_may_53 : decode cX4_may 53 = .ok (.invokevirtual 192, 3) := by decide +kernel
theorem dX4_may_56 : decode cX4_may 56 = .ok (.ifCond .eq 25, 3) := by decide +kernel
theorem dX4_may_59 : decode cX4_may 59 = .ok (.iload_n 3, 1) := by decide +kernel
theorem dX4_may_60 : decode cX4_may 60 = .ok (.ifCond .ne 14, 3) := by decide +kernel
theorem dX4_may_63 : decode cX4_may 63 = .ok (.bipush 10, 2) := by decide +kernel
theorem dX4_may_65 : decode cX4_may 65 = .ok (.iload 5, 2) := by decide +kernel
theorem dX4_may_67 : decode cX4_may 67 = .ok (.imul, 1) := by decide +kernel
theorem dX4_may_68 : decode cX4_may 68 = .ok (.iload 6, 2) := by decide +kernel
theorem dX4_may_70 : decode cX4_may 70 = .ok (.iadd, 1) := by decide +kernel
theorem dX4_may_71 : decode cX4_may 71 = .ok (.goto 5, 3) := by decide +kernel
theorem dX4_may_74 : decode cX4_may 74 = .ok (.iload 4, 2) := by decide +kernel
theorem dX4_may_76 : decode cX4_may 76 = .ok (.istore 4, 2) := by decide +kernel
theorem dX4_may_78 : decode cX4_may 78 = .ok (.iinc 3 1, 3) := by decide +kernel
theorem dX4_may_81 : decode cX4_may 81 = .ok (.iinc 6 1, 3) := by decide +kernel
theorem dX4_may_84 : decode cX4_may 84 = .ok (.goto (-47), 3) := by decide +kernel
theorem dX4_may_87 : decode cX4_may 87 = .ok (.iinc 5 1, 3) := by decide +kernel
theorem dX4_may_90 : decode cX4_may 90 = .ok (.goto (-62), 3) := by decide +kernel
theorem dX4_may_93 : decode cX4_may 93 = .ok (.iload_n 2, 1) := by decide +kernel
theorem dX4_may_94 : decode cX4_may 94 = .ok (.ifCond .ne 7, 3) := by decide +kernel
theorem dX4_may_97 : decode cX4_may 97 = .ok (.iload_n 3, 1) := by decide +kernel
theorem dX4_may_98 : decode cX4_may 98 = .ok (.goto 5, 3) := by decide +kernel
theorem dX4_may_101 : decode cX4_may 101 = .ok (.iload 4, 2) := by decide +kernel
theorem dX4_may_103 : decode cX4_may 103 = .ok (.ireturn, 1) := by decide +kernel
theorem dX4_rests_0 : decode cX4_rests 0 = .ok (.iload_n 1, 1) := by decide +kernel
theorem dX4_rests_1 : decode cX4_rests 1 = .ok (.invokestatic 185, 3) := by decide +kernel
theorem dX4_rests_4 : decode cX4_rests 4 = .ok (.ifCond .ne 6, 3) := by decide +kernel
theorem dX4_rests_7 : decode cX4_rests 7 = .ok (.bipush (-2), 2) := by decide +kernel
theorem dX4_rests_9 : decode cX4_rests 9 = .ok (.ireturn, 1) := by decide +kernel
theorem dX4_rests_10 : decode cX4_rests 10 = .ok (.aload_n 0, 1) := by decide +kernel
theorem dX4_rests_11 : decode cX4_rests 11 = .ok (.invokevirtual 196, 3) := by decide +kernel
theorem dX4_rests_14 : decode cX4_rests 14 = .ok (.istore_n 2, 1) := by decide +kernel
theorem dX4_rests_15 : decode cX4_rests 15 = .ok (.iconst 0, 1) := by decide +kernel
theorem dX4_rests_16 : decode cX4_rests 16 = .ok (.istore_n 3, 1) := by decide +kernel
theorem dX4_rests_17 : decode cX4_rests 17 = .ok (.bipush (-9), 2) := by decide +kernel
theorem dX4_rests_19 : decode cX4_rests 19 = .ok (.istore 4, 2) := by decide +kernel
theorem dX4_rests_21 : decode cX4_rests 21 = .ok (.iconst 0, 1) := by decide +kernel
theorem dX4_rests_22 : decode cX4_rests 22 = .ok (.istore 5, 2) := by decide +kernel
theorem dX4_rests_24 : decode cX4_rests 24 = .ok (.iload 5, 2) := by decide +kernel
theorem dX4_rests_26 : decode cX4_rests 26 = .ok (.iconst 1, 1) := by decide +kernel
theorem dX4_rests_27 : decode cX4_rests 27 = .ok (.if_icmp .gt 68, 3) := by decide +kernel
theorem dX4_rests_30 : decode cX4_rests 30 = .ok (.iconst 0, 1) := by decide +kernel
theorem dX4_rests_31 : decode cX4_rests 31 = .ok (.istore 6, 2) := by decide +kernel
theorem dX4_rests_33 : decode cX4_rests 33 = .ok (.iload 6, 2) := by decide +kernel
theorem dX4_rests_35 : decode cX4_rests 35 = .ok (.iconst 1, 1) := by decide +kernel
theorem dX4_rests_36 : decode cX4_rests 36 = .ok (.if_icmp .gt 53, 3) := by decide +kernel
theorem dX4_rests_39 : decode cX4_rests 39 = .ok (.iload 5, 2) := by decide +kernel
theorem dX4_rests_41 : decode cX4_rests 41 = .ok (.iload 6, 2) := by decide +kernel
theorem dX4_rests_43 : decode cX4_rests 43 = .ok (.iload_n 2, 1) := by decide +kernel
theorem dX4_rests_44 : decode cX4_rests 44 = .ok (.invokestatic 199, 3) := by decide +kernel
theorem dX4_rests_47 : decode cX4_rests 47 = .ok (.ifCond .eq 36, 3) := by decide +kernel
theorem dX4_rests_50 : decode cX4_rests 50 = .ok (.iload 6, 2) := by decide +kernel
theorem dX4_rests_52 : decode cX4_rests 52 = .ok (.iload 5, 2) := by decide +kernel
theorem dX4_rests_54 : decode cX4_rests 54 = .ok (.iload_n 2, 1) := by decide +kernel
theorem dX4_rests_55 : decode cX4_rests 55 = .ok (.invokestatic 199, 3) := by decide +kernel
theorem dX4_rests_58 : decode cX4_rests 58 = .ok (.ifCond .eq 25, 3) := by decide +kernel
theorem dX4_rests_61 : decode cX4_rests 61 = .ok (.iload_n 3, 1) := by decide +kernel
theorem dX4_rests_62 : decode cX4_rests 62 = .ok (.ifCond .ne 14, 3) := by decide +kernel
theorem dX4_rests_65 : decode cX4_rests 65 = .ok (.bipush 10, 2) := by decide +kernel
theorem dX4_rests_67 : decode cX4_rests 67 = .ok (.iload 5, 2) := by decide +kernel
theorem dX4_rests_69 : decode cX4_rests 69 = .ok (.imul, 1) := by decide +kernel
theorem dX4_rests_70 : decode cX4_rests 70 = .ok (.iload 6, 2) := by decide +kernel
theorem dX4_rests_72 : decode cX4_rests 72 = .ok (.iadd, 1) := by decide +kernel
theorem dX4_rests_73 : decode cX4_rests 73 = .ok (.goto 5, 3) := by decide +kernel
theorem dX4_rests_76 : decode cX4_rests 76 = .ok (.iload 4, 2) := by decide +kernel
theorem dX4_rests_78 : decode cX4_rests 78 = .ok (.istore 4, 2) := by decide +kernel
theorem dX4_rests_80 : decode cX4_rests 80 = .ok (.iinc 3 1, 3) := by decide +kernel
theorem dX4_rests_83 : decode cX4_rests 83 = .ok (.iinc 6 1, 3) := by decide +kernel
theorem dX4_rests_86 : decode cX4_rests 86 = .ok (.goto (-53), 3) := by decide +kernel
theorem dX4_rests_89 : decode cX4_rests 89 = .ok (.iinc 5 1, 3) := by decide +kernel
theorem dX4_rests_92 : decode cX4_rests 92 = .ok (.goto (-68), 3) := by decide +kernel
theorem dX4_rests_95 : decode cX4_rests 95 = .ok (.iload_n 1, 1) := by decide +kernel
theorem dX4_rests_96 : decode cX4_rests 96 = .ok (.ifCond .ne 7, 3) := by decide +kernel
theorem dX4_rests_99 : decode cX4_rests 99 = .ok (.iload_n 3, 1) := by decide +kernel
theorem dX4_rests_100 : decode cX4_rests 100 = .ok (.goto 5, 3) := by decide +kernel
theorem dX4_rests_103 : decode cX4_rests 103 = .ok (.iload 4, 2) := by decide +kernel
theorem dX4_rests_105 : decode cX4_rests 105 = .ok (.ireturn, 1) := by decide +kernel
theorem dX4_forgets_0 : decode cX4_forgets 0 = .ok (.iload_n 1, 1) := by decide +kernel
theorem dX4_forgets_1 : decode cX4_forgets 1 = .ok (.invokestatic 185, 3) := by decide +kernel
theorem dX4_forgets_4 : decode cX4_forgets 4 = .ok (.ifCond .eq 22, 3) := by decide +kernel
theorem dX4_forgets_7 : decode cX4_forgets 7 = .ok (.iload_n 2, 1) := by decide +kernel
theorem dX4_forgets_8 : decode cX4_forgets 8 = .ok (.ifCond .lt 18, 3) := by decide +kernel
theorem dX4_forgets_11 : decode cX4_forgets 11 = .ok (.iload_n 2, 1) := by decide +kernel
theorem dX4_forgets_12 : decode cX4_forgets 12 = .ok (.iconst 5, 1) := by decide +kernel
theorem dX4_forgets_13 : decode cX4_forgets 13 = .ok (.if_icmp .gt 13, 3) := by decide +kernel
theorem dX4_forgets_16 : decode cX4_forgets 16 = .ok (.iload_n 3, 1) := by decide +kernel
theorem dX4_forgets_17 : decode cX4_forgets 17 = .ok (.ifCond .lt 9, 3) := by decide +kernel
theorem dX4_forgets_20 : decode cX4_forgets 20 = .ok (.iload_n 3, 1) := by decide +kernel
theorem dX4_forgets_21 : decode cX4_forgets 21 = .ok (.bipush 10, 2) := by decide +kernel
theorem dX4_forgets_23 : decode cX4_forgets 23 = .ok (.if_icmp .le 6, 3) := by decide +kernel
theorem dX4_forgets_26 : decode cX4_forgets 26 = .ok (.bipush (-2), 2) := by decide +kernel
theorem dX4_forgets_28 : decode cX4_forgets 28 = .ok (.ireturn, 1) := by decide +kernel
theorem dX4_forgets_29 : decode cX4_forgets 29 = .ok (.iconst 0, 1) := by decide +kernel
theorem dX4_forgets_30 : decode cX4_forgets 30 = .ok (.istore 5, 2) := by decide +kernel
theorem dX4_forgets_32 : decode cX4_forgets 32 = .ok (.iload 5, 2) := by decide +kernel
theorem dX4_forgets_34 : decode cX4_forgets 34 = .ok (.aload_n 0, 1) := by decide +kernel
theorem dX4_forgets_35 : decode cX4_forgets 35 = .ok (.getfield 65, 3) := by decide +kernel
theorem dX4_forgets_38 : decode cX4_forgets 38 = .ok (.arraylength, 1) := by decide +kernel
theorem dX4_forgets_39 : decode cX4_forgets 39 = .ok (.if_icmp .ge 26, 3) := by decide +kernel
theorem dX4_forgets_42 : decode cX4_forgets 42 = .ok (.aload_n 0, 1) := by decide +kernel
theorem dX4_forgets_43 : decode cX4_forgets 43 = .ok (.getfield 65, 3) := by decide +kernel
theorem dX4_forgets_46 : decode cX4_forgets 46 = .ok (.iload 5, 2) := by decide +kernel
theorem dX4_forgets_48 : decode cX4_forgets 48 = .ok (.iload 5, 2) := by decide +kernel
theorem dX4_forgets_50 : decode cX4_forgets 50 = .ok (.ifCond .ne 7, 3) := by decide +kernel
theorem dX4_forgets_53 : decode cX4_forgets 53 = .ok (.iconst 1, 1) := by decide +kernel
theorem dX4_forgets_54 : decode cX4_forgets 54 = .ok (.goto 4, 3) := by decide +kernel
theorem dX4_forgets_57 : decode cX4_forgets 57 = .ok (.iconst 0, 1) := by decide +kernel
theorem dX4_forgets_58 : decode cX4_forgets 58 = .ok (.iastore, 1) := by decide +kernel
theorem dX4_forgets_59 : decode cX4_forgets 59 = .ok (.iinc 5 1, 3) := by decide +kernel
theorem dX4_forgets_62 : decode cX4_forgets 62 = .ok (.goto (-30), 3) := by decide +kernel
theorem dX4_forgets_65 : decode cX4_forgets 65 = .ok (.iconst 1, 1) := by decide +kernel
theorem dX4_forgets_66 : decode cX4_forgets 66 = .ok (.istore 5, 2) := by decide +kernel
theorem dX4_forgets_68 : decode cX4_forgets 68 = .ok (.iconst 0, 1) := by decide +kernel
theorem dX4_forgets_69 : decode cX4_forgets 69 = .ok (.istore 6, 2) := by decide +kernel
theorem dX4_forgets_71 : decode cX4_forgets 71 = .ok (.iload 6, 2) := by decide +kernel
theorem dX4_forgets_73 : decode cX4_forgets 73 = .ok (.aload_n 0, 1) := by decide +kernel
theorem dX4_forgets_74 : decode cX4_forgets 74 = .ok (.getfield 27, 3) := by decide +kernel
theorem dX4_forgets_77 : decode cX4_forgets 77 = .ok (.if_icmp .ge 28, 3) := by decide +kernel
theorem dX4_forgets_80 : decode cX4_forgets 80 = .ok (.aload_n 0, 1) := by decide +kernel
theorem dX4_forgets_81 : decode cX4_forgets 81 = .ok (.aload_n 0, 1) := by decide +kernel
theorem dX4_forgets_82 : decode cX4_forgets 82 = .ok (.iload 6, 2) := by decide +kernel
theorem dX4_forgets_84 : decode cX4_forgets 84 = .ok (.iload_n 1, 1) := by decide +kernel
theorem dX4_forgets_85 : decode cX4_forgets 85 = .ok (.iload_n 3, 1) := by decide +kernel
theorem dX4_forgets_86 : decode cX4_forgets 86 = .ok (.invokevirtual 202, 3) := by decide +kernel
theorem dX4_forgets_89 : decode cX4_forgets 89 = .ok (.invokevirtual 206, 3) := by decide +kernel
theorem dX4_forgets_92 : decode cX4_forgets 92 = .ok (.iload 5, 2) := by decide +kernel
theorem dX4_forgets_94 : decode cX4_forgets 94 = .ok (.bipush 10, 2) := by decide +kernel
theorem dX4_forgets_96 : decode cX4_forgets 96 = .ok (.imul, 1) := by decide +kernel
theorem dX4_forgets_97 : decode cX4_forgets 97 = .ok (.istore 5, 2) := by decide +kernel
theorem dX4_forgets_99 : decode cX4_forgets 99 = .ok (.iinc 6 1, 3) := by decide +kernel
theorem dX4_forgets_102 : decode cX4_forgets 102 = .ok (.goto (-31), 3) := by decide +kernel
theorem dX4_forgets_105 : decode cX4_forgets 105 = .ok (.iconst 0, 1) := by decide +kernel
theorem dX4_forgets_106 : decode cX4_forgets 106 = .ok (.istore 6, 2) := by decide +kernel
theorem dX4_forgets_108 : decode cX4_forgets 108 = .ok (.iload_n 2, 1) := by decide +kernel
theorem dX4_forgets_109 : decode cX4_forgets 109 = .ok (.istore 7, 2) := by decide +kernel
theorem dX4_forgets_111 : decode cX4_forgets 111 = .ok (.iload 7, 2) := by decide +kernel
theorem dX4_forgets_113 : decode cX4_forgets 113 = .ok (.aload_n 0, 1) := by decide +kernel
theorem dX4_forgets_114 : decode cX4_forgets 114 = .ok (.getfield 65, 3) := by decide +kernel
theorem dX4_forgets_117 : decode cX4_forgets 117 = .ok (.arraylength, 1) := by decide +kernel
theorem dX4_forgets_118 : decode cX4_forgets 118 = .ok (.if_icmp .ge 21, 3) := by decide +kernel
theorem dX4_forgets_121 : decode cX4_forgets 121 = .ok (.iload 6, 2) := by decide +kernel
theorem dX4_forgets_123 : decode cX4_forgets 123 = .ok (.aload_n 0, 1) := by decide +kernel
theorem dX4_forgets_124 : decode cX4_forgets 124 = .ok (.getfield 65, 3) := by decide +kernel
theorem dX4_forgets_127 : decode cX4_forgets 127 = .ok (.iload 7, 2) := by decide +kernel
theorem dX4_forgets_129 : decode cX4_forgets 129 = .ok (.iaload, 1) := by decide +kernel
theorem dX4_forgets_130 : decode cX4_forgets 130 = .ok (.iadd, 1) := by decide +kernel
theorem dX4_forgets_131 : decode cX4_forgets 131 = .ok (.istore 6, 2) := by decide +kernel
theorem dX4_forgets_133 : decode cX4_forgets 133 = .ok (.iinc 7 1, 3) := by decide +kernel
theorem dX4_forgets_136 : decode cX4_forgets 136 = .ok (.goto (-25), 3) := by decide +kernel
theorem dX4_forgets_139 : decode cX4_forgets 139 = .ok (.iload 6, 2) := by decide +kernel
theorem dX4_forgets_141 : decode cX4_forgets 141 = .ok (.iload 5, 2) := by decide +kernel
theorem dX4_forgets_143 : decode cX4_forgets 143 = .ok (.iload 4, 2) := by decide +kernel
theorem dX4_forgets_145 : decode cX4_forgets 145 = .ok (.invokestatic 181, 3) := by decide +kernel
theorem dX4_forgets_148 : decode cX4_forgets 148 = .ok (.ireturn, 1) := by decide +kernel
theorem dX4_seed_0 : decode cX4_seed 0 = .ok (.aload_n 0, 1) := by decide +kernel
theorem dX4_seed_1 : decode cX4_seed 1 = .ok (.getfield 68, 3) := by decide +kernel
theorem dX4_seed_4 : decode cX4_seed 4 = .ok (.lstore_n 3, 1) := by decide +kernel
theorem dX4_seed_5 : decode cX4_seed 5 = .ok (.aload_n 0, 1) := by decide +kernel
theorem dX4_seed_6 : decode cX4_seed 6 = .ok (.lload_n 1, 1) := by decide +kernel
theorem dX4_seed_7 : decode cX4_seed 7 = .ok (.putfield 68, 3) := by decide +kernel
theorem dX4_seed_10 : decode cX4_seed 10 = .ok (.lload_n 3, 1) := by decide +kernel
theorem dX4_seed_11 : decode cX4_seed 11 = .ok (.lreturn, 1) := by decide +kernel
theorem dX4_years_0 : decode cX4_years 0 = .ok (.iload_n 1, 1) := by decide +kernel
theorem dX4_years_1 : decode cX4_years 1 = .ok (.iconst 1, 1) := by decide +kernel
theorem dX4_years_2 : decode cX4_years 2 = .ok (.if_icmp .lt 9, 3) := by decide +kernel
theorem dX4_years_5 : decode cX4_years 5 = .ok (.iload_n 1, 1) := by decide +kernel
theorem dX4_years_6 : decode cX4_years 6 = .ok (.bipush 30, 2) := by decide +kernel
theorem dX4_years_8 : decode cX4_years 8 = .ok (.if_icmp .le 6, 3) := by decide +kernel
theorem dX4_years_11 : decode cX4_years 11 = .ok (.bipush (-2), 2) := by decide +kernel
theorem dX4_years_13 : decode cX4_years 13 = .ok (.ireturn, 1) := by decide +kernel
theorem dX4_years_14 : decode cX4_years 14 = .ok (.aload_n 0, 1) := by decide +kernel
theorem dX4_years_15 : decode cX4_years 15 = .ok (.getfield 34, 3) := by decide +kernel
theorem dX4_years_18 : decode cX4_years 18 = .ok (.aload_n 0, 1) := by decide +kernel
theorem dX4_years_19 : decode cX4_years 19 = .ok (.getfield 38, 3) := by decide +kernel
theorem dX4_years_22 : decode cX4_years 22 = .ok (.invokestatic 157, 3) := by decide +kernel
theorem dX4_years_25 : decode cX4_years 25 = .ok (.iconst 0, 1) := by decide +kernel
theorem dX4_years_26 : decode cX4_years 26 = .ok (.istore_n 2, 1) := by decide +kernel
theorem dX4_years_27 : decode cX4_years 27 = .ok (.iload_n 2, 1) := by decide +kernel
theorem dX4_years_28 : decode cX4_years 28 = .ok (.iload_n 1, 1) := by decide +kernel
theorem dX4_years_29 : decode cX4_years 29 = .ok (.if_icmp .ge 52, 3) := by decide +kernel
theorem dX4_years_32 : decode cX4_years 32 = .ok (.aload_n 0, 1) := by decide +kernel
theorem dX4_years_33 : decode cX4_years 33 = .ok (.aload_n 0, 1) := by decide +kernel
theorem dX4_years_34 : decode cX4_years 34 = .ok (.getfield 68, 3) := by decide +kernel
theorem dX4_years_37 : decode cX4_years 37 = .ok (.ldc2_w 209, 3) := by decide +kernel
theorem dX4_years_40 : decode cX4_years 40 = .ok (.lmul, 1) := by decide +kernel
theorem dX4_years_41 : decode cX4_years 41 = .ok (.ldc2_w 211, 3) := by decide +kernel
theorem dX4_years_44 : decode cX4_years 44 = .ok (.ladd, 1) := by decide +kernel
theorem dX4_years_45 : decode cX4_years 45 = .ok (.putfield 68, 3) := by decide +kernel
theorem dX4_years_48 : decode cX4_years 48 = .ok (.aload_n 0, 1) := by decide +kernel
theorem dX4_years_49 : decode cX4_years 49 = .ok (.getfield 68, 3) := by decide +kernel
theorem dX4_years_52 : decode cX4_years 52 = .ok (.bipush 33, 2) := by decide +kernel
theorem dX4_years_54 : decode cX4_years 54 = .ok (.lushr, 1) := by decide +kernel
theorem dX4_years_55 : decode cX4_years 55 = .ok (.ldc2_w 213, 3) := by decide +kernel
theorem dX4_years_58 : decode cX4_years 58 = .ok (.lrem, 1) := by decide +kernel
theorem dX4_years_59 : decode cX4_years 59 = .ok (.l2i, 1) := by decide +kernel
theorem dX4_years_60 : decode cX4_years 60 = .ok (.istore_n 3, 1) := by decide +kernel
theorem dX4_years_61 : decode cX4_years 61 = .ok (.aload_n 0, 1) := by decide +kernel
theorem dX4_years_62 : decode cX4_years 62 = .ok (.aload_n 0, 1) := by decide +kernel
theorem dX4_years_63 : decode cX4_years 63 = .ok (.getfield 38, 3) := by decide +kernel
theorem dX4_years_66 : decode cX4_years 66 = .ok (.iload_n 3, 1) := by decide +kernel
theorem dX4_years_67 : decode cX4_years 67 = .ok (.iconst 2, 1) := by decide +kernel
theorem dX4_years_68 : decode cX4_years 68 = .ok (.idiv, 1) := by decide +kernel
theorem dX4_years_69 : decode cX4_years 69 = .ok (.iload_n 3, 1) := by decide +kernel
theorem dX4_years_70 : decode cX4_years 70 = .ok (.iconst 2, 1) := by decide +kernel
theorem dX4_years_71 : decode cX4_years 71 = .ok (.irem, 1) := by decide +kernel
theorem dX4_years_72 : decode cX4_years 72 = .ok (.invokevirtual 215, 3) := by decide +kernel
theorem dX4_years_75 : decode cX4_years 75 = .ok (.iinc 2 1, 3) := by decide +kernel
theorem dX4_years_78 : decode cX4_years 78 = .ok (.goto (-51), 3) := by decide +kernel
theorem dX4_years_81 : decode cX4_years 81 = .ok (.aload_n 0, 1) := by decide +kernel
theorem dX4_years_82 : decode cX4_years 82 = .ok (.getfield 38, 3) := by decide +kernel
theorem dX4_years_85 : decode cX4_years 85 = .ok (.getfield 89, 3) := by decide +kernel
theorem dX4_years_88 : decode cX4_years 88 = .ok (.aload_n 0, 1) := by decide +kernel
theorem dX4_years_89 : decode cX4_years 89 = .ok (.getfield 34, 3) := by decide +kernel
theorem dX4_years_92 : decode cX4_years 92 = .ok (.getfield 89, 3) := by decide +kernel
theorem dX4_years_95 : decode cX4_years 95 = .ok (.isub, 1) := by decide +kernel
theorem dX4_years_96 : decode cX4_years 96 = .ok (.ireturn, 1) := by decide +kernel
theorem dX4_keep_0 : decode cX4_keep 0 = .ok (.iload_n 1, 1) := by decide +kernel
theorem dX4_keep_1 : decode cX4_keep 1 = .ok (.invokestatic 218, 3) := by decide +kernel
theorem dX4_keep_4 : decode cX4_keep 4 = .ok (.ifCond .ne 5, 3) := by decide +kernel
theorem dX4_keep_7 : decode cX4_keep 7 = .ok (.iconst (-1), 1) := by decide +kernel
theorem dX4_keep_8 : decode cX4_keep 8 = .ok (.ireturn, 1) := by decide +kernel
theorem dX4_keep_9 : decode cX4_keep 9 = .ok (.aload_n 0, 1) := by decide +kernel
theorem dX4_keep_10 : decode cX4_keep 10 = .ok (.getfield 34, 3) := by decide +kernel
theorem dX4_keep_13 : decode cX4_keep 13 = .ok (.aload_n 0, 1) := by decide +kernel
theorem dX4_keep_14 : decode cX4_keep 14 = .ok (.getfield 51, 3) := by decide +kernel
theorem dX4_keep_17 : decode cX4_keep 17 = .ok (.iload_n 1, 1) := by decide +kernel
theorem dX4_keep_18 : decode cX4_keep 18 = .ok (.aaload, 1) := by decide +kernel
theorem dX4_keep_19 : decode cX4_keep 19 = .ok (.invokestatic 157, 3) := by decide +kernel
theorem dX4_keep_22 : decode cX4_keep 22 = .ok (.aload_n 0, 1) := by decide +kernel
theorem dX4_keep_23 : decode cX4_keep 23 = .ok (.getfield 54, 3) := by decide +kernel
theorem dX4_keep_26 : decode cX4_keep 26 = .ok (.iload_n 1, 1) := by decide +kernel
theorem dX4_keep_27 : decode cX4_keep 27 = .ok (.iconst 1, 1) := by decide +kernel
theorem dX4_keep_28 : decode cX4_keep 28 = .ok (.bastore, 1) := by decide +kernel
theorem dX4_keep_29 : decode cX4_keep 29 = .ok (.aload_n 0, 1) := by decide +kernel
theorem dX4_keep_30 : decode cX4_keep 30 = .ok (.getfield 34, 3) := by decide +kernel
theorem dX4_keep_33 : decode cX4_keep 33 = .ok (.getfield 86, 3) := by decide +kernel
theorem dX4_keep_36 : decode cX4_keep 36 = .ok (.ireturn, 1) := by decide +kernel
theorem dX4_again_0 : decode cX4_again 0 = .ok (.iload_n 1, 1) := by decide +kernel
theorem dX4_again_1 : decode cX4_again 1 = .ok (.invokestatic 218, 3) := by decide +kernel
theorem dX4_again_4 : decode cX4_again 4 = .ok (.ifCond .ne 5, 3) := by decide +kernel
theorem dX4_again_7 : decode cX4_again 7 = .ok (.iconst (-1), 1) := by decide +kernel
theorem dX4_again_8 : decode cX4_again 8 = .ok (.ireturn, 1) := by decide +kernel
theorem dX4_again_9 : decode cX4_again 9 = .ok (.aload_n 0, 1) := by decide +kernel
theorem dX4_again_10 : decode cX4_again 10 = .ok (.getfield 54, 3) := by decide +kernel
theorem dX4_again_13 : decode cX4_again 13 = .ok (.iload_n 1, 1) := by decide +kernel
theorem dX4_again_14 : decode cX4_again 14 = .ok (.baload, 1) := by decide +kernel
theorem dX4_again_15 : decode cX4_again 15 = .ok (.ifCond .ne 6, 3) := by decide +kernel
theorem dX4_again_18 : decode cX4_again 18 = .ok (.bipush (-3), 2) := by decide +kernel
theorem dX4_again_20 : decode cX4_again 20 = .ok (.ireturn, 1) := by decide +kernel
theorem dX4_again_21 : decode cX4_again 21 = .ok (.aload_n 0, 1) := by decide +kernel
theorem dX4_again_22 : decode cX4_again 22 = .ok (.getfield 51, 3) := by decide +kernel
theorem dX4_again_25 : decode cX4_again 25 = .ok (.iload_n 1, 1) := by decide +kernel
theorem dX4_again_26 : decode cX4_again 26 = .ok (.aaload, 1) := by decide +kernel
theorem dX4_again_27 : decode cX4_again 27 = .ok (.aload_n 0, 1) := by decide +kernel
theorem dX4_again_28 : decode cX4_again 28 = .ok (.getfield 34, 3) := by decide +kernel
theorem dX4_again_31 : decode cX4_again 31 = .ok (.invokestatic 157, 3) := by decide +kernel
theorem dX4_again_34 : decode cX4_again 34 = .ok (.aload_n 0, 1) := by decide +kernel
theorem dX4_again_35 : decode cX4_again 35 = .ok (.iconst 0, 1) := by decide +kernel
theorem dX4_again_36 : decode cX4_again 36 = .ok (.putfield 48, 3) := by decide +kernel
theorem dX4_again_39 : decode cX4_again 39 = .ok (.aload_n 0, 1) := by decide +kernel
theorem dX4_again_40 : decode cX4_again 40 = .ok (.getfield 34, 3) := by decide +kernel
theorem dX4_again_43 : decode cX4_again 43 = .ok (.getfield 86, 3) := by decide +kernel
theorem dX4_again_46 : decode cX4_again 46 = .ok (.ireturn, 1) := by decide +kernel
theorem dX4_isMule_0 : decode cX4_isMule 0 = .ok (.iload_n 1, 1) := by decide +kernel
theorem dX4_isMule_1 : decode cX4_isMule 1 = .ok (.ifCond .lt 20, 3) := by decide +kernel
theorem dX4_isMule_4 : decode cX4_isMule 4 = .ok (.iload_n 1, 1) := by decide +kernel
theorem dX4_isMule_5 : decode cX4_isMule 5 = .ok (.aload_n 0, 1) := by decide +kernel
theorem dX4_isMule_6 : decode cX4_isMule 6 = .ok (.getfield 27, 3) := by decide +kernel
theorem dX4_isMule_9 : decode cX4_isMule 9 = .ok (.if_icmp .ge 12, 3) := by decide +kernel
theorem dX4_isMule_12 : decode cX4_isMule 12 = .ok (.iload_n 1, 1) := by decide +kernel
theorem dX4_isMule_13 : decode cX4_isMule 13 = .ok (.iconst 5, 1) := by decide +kernel
theorem dX4_isMule_14 : decode cX4_isMule 14 = .ok (.if_icmp .ge 7, 3) := by decide +kernel
theorem dX4_isMule_17 : decode cX4_isMule 17 = .ok (.iconst 1, 1) := by decide +kernel
theorem dX4_isMule_18 : decode cX4_isMule 18 = .ok (.goto 4, 3) := by decide +kernel
theorem dX4_isMule_21 : decode cX4_isMule 21 = .ok (.iconst 0, 1) := by decide +kernel
theorem dX4_isMule_22 : decode cX4_isMule 22 = .ok (.ireturn, 1) := by decide +kernel
theorem dX4_isArticle_0 : decode cX4_isArticle 0 = .ok (.iload_n 1, 1) := by decide +kernel
theorem dX4_isArticle_1 : decode cX4_isArticle 1 = .ok (.ifCond .lt 23, 3) := by decide +kernel
theorem dX4_isArticle_4 : decode cX4_isArticle 4 = .ok (.iload_n 1, 1) := by decide +kernel
theorem dX4_isArticle_5 : decode cX4_isArticle 5 = .ok (.aload_n 0, 1) := by decide +kernel
theorem dX4_isArticle_6 : decode cX4_isArticle 6 = .ok (.getfield 19, 3) := by decide +kernel
theorem dX4_isArticle_9 : decode cX4_isArticle 9 = .ok (.getfield 83, 3) := by decide +kernel
theorem dX4_isArticle_12 : decode cX4_isArticle 12 = .ok (.if_icmp .ge 12, 3) := by decide +kernel
theorem dX4_isArticle_15 : decode cX4_isArticle 15 = .ok (.iload_n 1, 1) := by decide +kernel
theorem dX4_isArticle_16 : decode cX4_isArticle 16 = .ok (.iconst 5, 1) := by decide +kernel
theorem dX4_isArticle_17 : decode cX4_isArticle 17 = .ok (.if_icmp .ge 7, 3) := by decide +kernel
theorem dX4_isArticle_20 : decode cX4_isArticle 20 = .ok (.iconst 1, 1) := by decide +kernel
theorem dX4_isArticle_21 : decode cX4_isArticle 21 = .ok (.goto 4, 3) := by decide +kernel
theorem dX4_isArticle_24 : decode cX4_isArticle 24 = .ok (.iconst 0, 1) := by decide +kernel
theorem dX4_isArticle_25 : decode cX4_isArticle 25 = .ok (.ireturn, 1) := by decide +kernel
theorem dX4_isStone_0 : decode cX4_isStone 0 = .ok (.iload_n 0, 1) := by decide +kernel
theorem dX4_isStone_1 : decode cX4_isStone 1 = .ok (.ifCond .lt 13, 3) := by decide +kernel
theorem dX4_isStone_4 : decode cX4_isStone 4 = .ok (.iload_n 0, 1) := by decide +kernel
theorem dX4_isStone_5 : decode cX4_isStone 5 = .ok (.bipush 10, 2) := by decide +kernel
theorem dX4_isStone_7 : decode cX4_isStone 7 = .ok (.if_icmp .ge 7, 3) := by decide +kernel
theorem dX4_isStone_10 : decode cX4_isStone 10 = .ok (.iconst 1, 1) := by decide +kernel
theorem dX4_isStone_11 : decode cX4_isStone 11 = .ok (.goto 4, 3) := by decide +kernel
theorem dX4_isStone_14 : decode cX4_isStone 14 = .ok (.iconst 0, 1) := by decide +kernel
theorem dX4_isStone_15 : decode cX4_isStone 15 = .ok (.ireturn, 1) := by decide +kernel
theorem dX4_isSlot_0 : decode cX4_isSlot 0 = .ok (.iload_n 0, 1) := by decide +kernel
theorem dX4_isSlot_1 : decode cX4_isSlot 1 = .ok (.ifCond .lt 12, 3) := by decide +kernel
theorem dX4_isSlot_4 : decode cX4_isSlot 4 = .ok (.iload_n 0, 1) := by decide +kernel
theorem dX4_isSlot_5 : decode cX4_isSlot 5 = .ok (.iconst 2, 1) := by decide +kernel
theorem dX4_isSlot_6 : decode cX4_isSlot 6 = .ok (.if_icmp .ge 7, 3) := by decide +kernel
theorem dX4_isSlot_9 : decode cX4_isSlot 9 = .ok (.iconst 1, 1) := by decide +kernel
theorem dX4_isSlot_10 : decode cX4_isSlot 10 = .ok (.goto 4, 3) := by decide +kernel
theorem dX4_isSlot_13 : decode cX4_isSlot 13 = .ok (.iconst 0, 1) := by decide +kernel
theorem dX4_isSlot_14 : decode cX4_isSlot 14 = .ok (.ireturn, 1) := by decide +kernel
theorem dX4_isFlag_0 : decode cX4_isFlag 0 = .ok (.iload_n 0, 1) := by decide +kernel
theorem dX4_isFlag_1 : decode cX4_isFlag 1 = .ok (.ifCond .eq 8, 3) := by decide +kernel
theorem dX4_isFlag_4 : decode cX4_isFlag 4 = .ok (.iload_n 0, 1) := by decide +kernel
theorem dX4_isFlag_5 : decode cX4_isFlag 5 = .ok (.iconst 1, 1) := by decide +kernel
theorem dX4_isFlag_6 : decode cX4_isFlag 6 = .ok (.if_icmp .ne 7, 3) := by decide +kernel
theorem dX4_isFlag_9 : decode cX4_isFlag 9 = .ok (.iconst 1, 1) := by decide +kernel
theorem dX4_isFlag_10 : decode cX4_isFlag 10 = .ok (.goto 4, 3) := by decide +kernel
theorem dX4_isFlag_13 : decode cX4_isFlag 13 = .ok (.iconst 0, 1) := by decide +kernel
theorem dX4_isFlag_14 : decode cX4_isFlag 14 = .ok (.ireturn, 1) := by decide +kernel
theorem dX4_firstOf_0 : decode cX4_firstOf 0 = .ok (.iconst 0, 1) := by decide +kernel
theorem dX4_firstOf_1 : decode cX4_firstOf 1 = .ok (.istore_n 1, 1) := by decide +kernel
theorem dX4_firstOf_2 : decode cX4_firstOf 2 = .ok (.iload_n 1, 1) := by decide +kernel
theorem dX4_firstOf_3 : decode cX4_firstOf 3 = .ok (.iconst 5, 1) := by decide +kernel
theorem dX4_firstOf_4 : decode cX4_firstOf 4 = .ok (.if_icmp .ge 19, 3) := by decide +kernel
theorem dX4_firstOf_7 : decode cX4_firstOf 7 = .ok (.iload_n 0, 1) := by decide +kernel
theorem dX4_firstOf_8 : decode cX4_firstOf 8 = .ok (.iload_n 1, 1) := by decide +kernel
theorem dX4_firstOf_9 : decode cX4_firstOf 9 = .ok (.ishr, 1) := by decide +kernel
theorem dX4_firstOf_10 : decode cX4_firstOf 10 = .ok (.iconst 1, 1) := by decide +kernel
theorem dX4_firstOf_11 : decode cX4_firstOf 11 = .ok (.iand, 1) := by decide +kernel
theorem dX4_firstOf_12 : decode cX4_firstOf 12 = .ok (.ifCond .eq 5, 3) := by decide +kernel
theorem dX4_firstOf_15 : decode cX4_firstOf 15 = .ok (.iload_n 1, 1) := by decide +kernel
theorem dX4_firstOf_16 : decode cX4_firstOf 16 = .ok (.ireturn, 1) := by decide +kernel
theorem dX4_firstOf_17 : decode cX4_firstOf 17 = .ok (.iinc 1 1, 3) := by decide +kernel
theorem dX4_firstOf_20 : decode cX4_firstOf 20 = .ok (.goto (-18), 3) := by decide +kernel
theorem dX4_firstOf_23 : decode cX4_firstOf 23 = .ok (.bipush (-9), 2) := by decide +kernel
theorem dX4_firstOf_25 : decode cX4_firstOf 25 = .ok (.ireturn, 1) := by decide +kernel
theorem dX4_readPart_0 : decode cX4_readPart 0 = .ok (.aload_n 0, 1) := by decide +kernel
theorem dX4_readPart_1 : decode cX4_readPart 1 = .ok (.getfield 10, 3) := by decide +kernel
theorem dX4_readPart_4 : decode cX4_readPart 4 = .ok (.iload_n 1, 1) := by decide +kernel
theorem dX4_readPart_5 : decode cX4_readPart 5 = .ok (.iconst 1, 1) := by decide +kernel
theorem dX4_readPart_6 : decode cX4_readPart 6 = .ok (.iadd, 1) := by decide +kernel
theorem dX4_readPart_7 : decode cX4_readPart 7 = .ok (.invokevirtual 221, 3) := by decide +kernel
theorem dX4_readPart_10 : decode cX4_readPart 10 = .ok (.istore_n 2, 1) := by decide +kernel
theorem dX4_readPart_11 : decode cX4_readPart 11 = .ok (.aload_n 0, 1) := by decide +kernel
theorem dX4_readPart_12 : decode cX4_readPart 12 = .ok (.getfield 10, 3) := by decide +kernel
theorem dX4_readPart_15 : decode cX4_readPart 15 = .ok (.iload_n 1, 1) := by decide +kernel
theorem dX4_readPart_16 : decode cX4_readPart 16 = .ok (.iconst 2, 1) := by decide +kernel
theorem dX4_readPart_17 : decode cX4_readPart 17 = .ok (.iadd, 1) := by decide +kernel
theorem dX4_readPart_18 : decode cX4_readPart 18 = .ok (.invokevirtual 221, 3) := by decide +kernel
theorem dX4_readPart_21 : decode cX4_readPart 21 = .ok (.istore_n 3, 1) := by decide +kernel
theorem dX4_readPart_22 : decode cX4_readPart 22 = .ok (.aload_n 0, 1) := by decide +kernel
theorem dX4_readPart_23 : decode cX4_readPart 23 = .ok (.getfield 10, 3) := by decide +kernel
theorem dX4_readPart_26 : decode cX4_readPart 26 = .ok (.iload_n 1, 1) := by decide +kernel
theorem dX4_readPart_27 : decode cX4_readPart 27 = .ok (.iconst 3, 1) := by decide +kernel
theorem dX4_readPart_28 : decode cX4_readPart 28 = .ok (.iadd, 1) := by decide +kernel
theorem dX4_readPart_29 : decode cX4_readPart 29 = .ok (.invokevirtual 221, 3) := by decide +kernel
theorem dX4_readPart_32 : decode cX4_readPart 32 = .ok (.istore 4, 2) := by decide +kernel
theorem dX4_readPart_34 : decode cX4_readPart 34 = .ok (.aload_n 0, 1) := by decide +kernel
theorem dX4_readPart_35 : decode cX4_readPart 35 = .ok (.getfield 10, 3) := by decide +kernel
theorem dX4_readPart_38 : decode cX4_readPart 38 = .ok (.iload_n 1, 1) := by decide +kernel
theorem dX4_readPart_39 : decode cX4_readPart 39 = .ok (.invokevirtual 224, 3) := by decide +kernel
theorem dX4_readPart_42 : decode cX4_readPart 42 = .ok (.bipush 65, 2) := by decide +kernel
theorem dX4_readPart_44 : decode cX4_readPart 44 = .ok (.if_icmp .ne 17, 3) := by decide +kernel
theorem dX4_readPart_47 : decode cX4_readPart 47 = .ok (.aload_n 0, 1) := by decide +kernel
theorem dX4_readPart_48 : decode cX4_readPart 48 = .ok (.getfield 19, 3) := by decide +kernel
theorem dX4_readPart_51 : decode cX4_readPart 51 = .ok (.iload_n 2, 1) := by decide +kernel
theorem dX4_readPart_52 : decode cX4_readPart 52 = .ok (.iload_n 3, 1) := by decide +kernel
theorem dX4_readPart_53 : decode cX4_readPart 53 = .ok (.iload 4, 2) := by decide +kernel
theorem dX4_readPart_55 : decode cX4_readPart 55 = .ok (.invokevirtual 227, 3) := by decide +kernel
theorem dX4_readPart_58 : decode cX4_readPart 58 = .ok (.goto 71, 3) := by decide +kernel
theorem dX4_readPart_61 : decode cX4_readPart 61 = .ok (.aload_n 0, 1) := by decide +kernel
theorem dX4_readPart_62 : decode cX4_readPart 62 = .ok (.getfield 27, 3) := by decide +kernel
theorem dX4_readPart_65 : decode cX4_readPart 65 = .ok (.iconst 5, 1) := by decide +kernel
theorem dX4_readPart_66 : decode cX4_readPart 66 = .ok (.if_icmp .ge 63, 3) := by decide +kernel
theorem dX4_readPart_69 : decode cX4_readPart 69 = .ok (.aload_n 0, 1) := by decide +kernel
theorem dX4_readPart_70 : decode cX4_readPart 70 = .ok (.getfield 34, 3) := by decide +kernel
theorem dX4_readPart_73 : decode cX4_readPart 73 = .ok (.getfield 116, 3) := by decide +kernel
theorem dX4_readPart_76 : decode cX4_readPart 76 = .ok (.aload_n 0, 1) := by decide +kernel
theorem dX4_readPart_77 : decode cX4_readPart 77 = .ok (.getfield 27, 3) := by decide +kernel
theorem dX4_readPart_80 : decode cX4_readPart 80 = .ok (.iload_n 2, 1) := by decide +kernel
theorem dX4_readPart_81 : decode cX4_readPart 81 = .ok (.iastore, 1) := by decide +kernel
theorem dX4_readPart_82 : decode cX4_readPart 82 = .ok (.aload_n 0, 1) := by decide +kernel
theorem dX4_readPart_83 : decode cX4_readPart 83 = .ok (.getfield 34, 3) := by decide +kernel
theorem dX4_readPart_86 : decode cX4_readPart 86 = .ok (.getfield 117, 3) := by decide +kernel
theorem dX4_readPart_89 : decode cX4_readPart 89 = .ok (.aload_n 0, 1) := by decide +kernel
theorem dX4_readPart_90 : decode cX4_readPart 90 = .ok (.getfield 27, 3) := by decide +kernel
theorem dX4_readPart_93 : decode cX4_readPart 93 = .ok (.iload 4, 2) := by decide +kernel
theorem dX4_readPart_95 : decode cX4_readPart 95 = .ok (.iastore, 1) := by decide +kernel
theorem dX4_readPart_96 : decode cX4_readPart 96 = .ok (.aload_n 0, 1) := by decide +kernel
theorem dX4_readPart_97 : decode cX4_readPart 97 = .ok (.getfield 34, 3) := by decide +kernel
theorem dX4_readPart_100 : decode cX4_readPart 100 = .ok (.getfield 120, 3) := by decide +kernel
theorem dX4_readPart_103 : decode cX4_readPart 103 = .ok (.aload_n 0, 1) := by decide +kernel
theorem dX4_readPart_104 : decode cX4_readPart 104 = .ok (.getfield 27, 3) := by decide +kernel
theorem dX4_readPart_107 : decode cX4_readPart 107 = .ok (.iconst 0, 1) := by decide +kernel
theorem dX4_readPart_108 : decode cX4_readPart 108 = .ok (.iastore, 1) := by decide +kernel
theorem dX4_readPart_109 : decode cX4_readPart 109 = .ok (.aload_n 0, 1) := by decide +kernel
theorem dX4_readPart_110 : decode cX4_readPart 110 = .ok (.getfield 23, 3) := by decide +kernel
theorem dX4_readPart_113 : decode cX4_readPart 113 = .ok (.aload_n 0, 1) := by decide +kernel
theorem dX4_readPart_114 : decode cX4_readPart 114 = .ok (.getfield 27, 3) := by decide +kernel
theorem dX4_readPart_117 : decode cX4_readPart 117 = .ok (.iload_n 3, 1) := by decide +kernel
theorem dX4_readPart_118 : decode cX4_readPart 118 = .ok (.iastore, 1) := by decide +kernel
theorem dX4_readPart_119 : decode cX4_readPart 119 = .ok (.aload_n 0, 1) := by decide +kernel
theorem dX4_readPart_120 : decode cX4_readPart 120 = .ok (.dup, 1) := by decide +kernel
theorem dX4_readPart_121 : decode cX4_readPart 121 = .ok (.getfield 27, 3) := by decide +kernel
theorem dX4_readPart_124 : decode cX4_readPart 124 = .ok (.iconst 1, 1) := by decide +kernel
theorem dX4_readPart_125 : decode cX4_readPart 125 = .ok (.iadd, 1) := by decide +kernel
theorem dX4_readPart_126 : decode cX4_readPart 126 = .ok (.putfield 27, 3) := by decide +kernel
theorem dX4_readPart_129 : decode cX4_readPart 129 = .ok (.return_, 1) := by decide +kernel
theorem dX4_known_0 : decode cX4_known 0 = .ok (.aload_n 0, 1) := by decide +kernel
theorem dX4_known_1 : decode cX4_known 1 = .ok (.iload_n 2, 1) := by decide +kernel
theorem dX4_known_2 : decode cX4_known 2 = .ok (.invokevirtual 113, 3) := by decide +kernel
theorem dX4_known_5 : decode cX4_known 5 = .ok (.ifCond .eq 22, 3) := by decide +kernel
theorem dX4_known_8 : decode cX4_known 8 = .ok (.aload_n 0, 1) := by decide +kernel
theorem dX4_known_9 : decode cX4_known 9 = .ok (.aload_n 1, 1) := by decide +kernel
theorem dX4_known_10 : decode cX4_known 10 = .ok (.getfield 117, 3) := by decide +kernel
theorem dX4_known_13 : decode cX4_known 13 = .ok (.iload_n 2, 1) := by decide +kernel
theorem dX4_known_14 : decode cX4_known 14 = .ok (.iaload, 1) := by decide +kernel
theorem dX4_known_15 : decode cX4_known 15 = .ok (.aload_n 1, 1) := by decide +kernel
theorem dX4_known_16 : decode cX4_known 16 = .ok (.getfield 120, 3) := by decide +kernel
theorem dX4_known_19 : decode cX4_known 19 = .ok (.iload_n 2, 1) := by decide +kernel
theorem dX4_known_20 : decode cX4_known 20 = .ok (.iaload, 1) := by decide +kernel
theorem dX4_known_21 : decode cX4_known 21 = .ok (.invokevirtual 230, 3) := by decide +kernel
theorem dX4_known_24 : decode cX4_known 24 = .ok (.goto 4, 3) := by decide +kernel
theorem dX4_known_27 : decode cX4_known 27 = .ok (.iconst 0, 1) := by decide +kernel
theorem dX4_known_28 : decode cX4_known 28 = .ok (.ireturn, 1) := by decide +kernel
theorem dX4_knownIfShown_0 : decode cX4_knownIfShown 0 = .ok (.aload_n 0, 1) := by decide +kernel
theorem dX4_knownIfShown_1 : decode cX4_knownIfShown 1 = .ok (.getfield 19, 3) := by decide +kernel
theorem dX4_knownIfShown_4 : decode cX4_knownIfShown 4 = .ok (.invokevirtual 164, 3) := by decide +kernel
theorem dX4_knownIfShown_7 : decode cX4_knownIfShown 7 = .ok (.istore_n 3, 1) := by decide +kernel
theorem dX4_knownIfShown_8 : decode cX4_knownIfShown 8 = .ok (.iload_n 1, 1) := by decide +kernel
theorem dX4_knownIfShown_9 : decode cX4_knownIfShown 9 = .ok (.tableswitch 50 0 3 #[31, 38, 40, 42], 31) := by decide +kernel
theorem dX4_knownIfShown_40 : decode cX4_knownIfShown 40 = .ok (.iload_n 2, 1) := by decide +kernel
theorem dX4_knownIfShown_41 : decode cX4_knownIfShown 41 = .ok (.bipush 21, 2) := by decide +kernel
theorem dX4_knownIfShown_43 : decode cX4_knownIfShown 43 = .ok (.iload_n 3, 1) := by decide +kernel
theorem dX4_knownIfShown_44 : decode cX4_knownIfShown 44 = .ok (.iand, 1) := by decide +kernel
theorem dX4_knownIfShown_45 : decode cX4_knownIfShown 45 = .ok (.ior, 1) := by decide +kernel
theorem dX4_knownIfShown_46 : decode cX4_knownIfShown 46 = .ok (.ireturn, 1) := by decide +kernel
theorem dX4_knownIfShown_47 : decode cX4_knownIfShown 47 = .ok (.iload_n 3, 1) := by decide +kernel
theorem dX4_knownIfShown_48 : decode cX4_knownIfShown 48 = .ok (.ireturn, 1) := by decide +kernel
theorem dX4_knownIfShown_49 : decode cX4_knownIfShown 49 = .ok (.iload_n 2, 1) := by decide +kernel
theorem dX4_knownIfShown_50 : decode cX4_knownIfShown 50 = .ok (.ireturn, 1) := by decide +kernel
theorem dX4_knownIfShown_51 : decode cX4_knownIfShown 51 = .ok (.aload_n 0, 1) := by decide +kernel
theorem dX4_knownIfShown_52 : decode cX4_knownIfShown 52 = .ok (.getfield 19, 3) := by decide +kernel
theorem dX4_knownIfShown_55 : decode cX4_knownIfShown 55 = .ok (.invokevirtual 233, 3) := by decide +kernel
theorem dX4_knownIfShown_58 : decode cX4_knownIfShown 58 = .ok (.ireturn, 1) := by decide +kernel
theorem dX4_knownIfShown_59 : decode cX4_knownIfShown 59 = .ok (.iconst 0, 1) := by decide +kernel
theorem dX4_knownIfShown_60 : decode cX4_knownIfShown 60 = .ok (.ireturn, 1) := by decide +kernel
theorem dX4_mulesThatKnow_0 : decode cX4_mulesThatKnow 0 = .ok (.iconst 0, 1) := by decide +kernel
theorem dX4_mulesThatKnow_1 : decode cX4_mulesThatKnow 1 = .ok (.istore_n 2, 1) := by decide +kernel
theorem dX4_mulesThatKnow_2 : decode cX4_mulesThatKnow 2 = .ok (.iconst 0, 1) := by decide +kernel
theorem dX4_mulesThatKnow_3 : decode cX4_mulesThatKnow 3 = .ok (.istore_n 3, 1) := by decide +kernel
theorem dX4_mulesThatKnow_4 : decode cX4_mulesThatKnow 4 = .ok (.iload_n 3, 1) := by decide +kernel
theorem dX4_mulesThatKnow_5 : decode cX4_mulesThatKnow 5 = .ok (.aload_n 0, 1) := by decide +kernel
theorem dX4_mulesThatKnow_6 : decode cX4_mulesThatKnow 6 = .ok (.getfield 27, 3) := by decide +kernel
theorem dX4_mulesThatKnow_9 : decode cX4_mulesThatKnow 9 = .ok (.if_icmp .ge 31, 3) := by decide +kernel
theorem dX4_mulesThatKnow_12 : decode cX4_mulesThatKnow 12 = .ok (.aload_n 0, 1) := by decide +kernel
theorem dX4_mulesThatKnow_13 : decode cX4_mulesThatKnow 13 = .ok (.aload_n 0, 1) := by decide +kernel
theorem dX4_mulesThatKnow_14 : decode cX4_mulesThatKnow 14 = .ok (.getfield 34, 3) := by decide +kernel
theorem dX4_mulesThatKnow_17 : decode cX4_mulesThatKnow 17 = .ok (.iload_n 3, 1) := by decide +kernel
theorem dX4_mulesThatKnow_18 : decode cX4_mulesThatKnow 18 = .ok (.invokevirtual 123, 3) := by decide +kernel
end
section
theorem dX4_mulesThatKnow_21 : decode cX4_mulesThatKnow 21 = .ok (.iload_n 1, 1) := by decide +kernel
theorem dX4_mulesThatKnow_22 : decode cX4_mulesThatKnow 22 = .ok (.ishr, 1) := by decide +kernel
theorem dX4_mulesThatKnow_23 : decode cX4_mulesThatKnow 23 = .ok (.iconst 1, 1) := by decide +kernel
theorem dX4_mulesThatKnow_24 : decode cX4_mulesThatKnow 24 = .ok (.iand, 1) := by decide +kernel
theorem dX4_mulesThatKnow_25 : decode cX4_mulesThatKnow 25 = .ok (.ifCond .eq 9, 3) := by decide +kernel
theorem dX4_mulesThatKnow_28 : decode cX4_mulesThatKnow 28 = .ok (.iload_n 2, 1) := by decide +kernel
theorem dX4_mulesThatKnow_29 : decode cX4_mulesThatKnow 29 = .ok (.iconst 1, 1) := by decide +kernel
theorem dX4_mulesThatKnow_30 : decode cX4_mulesThatKnow 30 = .ok (.iload_n 3, 1) := by decide +kernel
theorem dX4_mulesThatKnow_31 : decode cX4_mulesThatKnow 31 = .ok (.ishl, 1) := by decide +kernel
theorem dX4_mulesThatKnow_32 : decode cX4_mulesThatKnow 32 = .ok (.ior, 1) := by decide +kernel
theorem dX4_mulesThatKnow_33 : decode cX4_mulesThatKnow 33 = .ok (.istore_n 2, 1) := by decide +kernel
theorem dX4_mulesThatKnow_34 : decode cX4_mulesThatKnow 34 = .ok (.iinc 3 1, 3) := by decide +kernel
theorem dX4_mulesThatKnow_37 : decode cX4_mulesThatKnow 37 = .ok (.goto (-33), 3) := by decide +kernel
theorem dX4_mulesThatKnow_40 : decode cX4_mulesThatKnow 40 = .ok (.iload_n 2, 1) := by decide +kernel
theorem dX4_mulesThatKnow_41 : decode cX4_mulesThatKnow 41 = .ok (.ireturn, 1) := by decide +kernel
theorem dX4_stepRefusal_0 : decode cX4_stepRefusal 0 = .ok (.aload_n 0, 1) := by decide +kernel
theorem dX4_stepRefusal_1 : decode cX4_stepRefusal 1 = .ok (.iload_n 1, 1) := by decide +kernel
theorem dX4_stepRefusal_2 : decode cX4_stepRefusal 2 = .ok (.invokevirtual 113, 3) := by decide +kernel
theorem dX4_stepRefusal_5 : decode cX4_stepRefusal 5 = .ok (.ifCond .ne 5, 3) := by decide +kernel
theorem dX4_stepRefusal_8 : decode cX4_stepRefusal 8 = .ok (.iconst (-1), 1) := by decide +kernel
theorem dX4_stepRefusal_9 : decode cX4_stepRefusal 9 = .ok (.ireturn, 1) := by decide +kernel
theorem dX4_stepRefusal_10 : decode cX4_stepRefusal 10 = .ok (.iload_n 2, 1) := by decide +kernel
theorem dX4_stepRefusal_11 : decode cX4_stepRefusal 11 = .ok (.invokestatic 185, 3) := by decide +kernel
theorem dX4_stepRefusal_14 : decode cX4_stepRefusal 14 = .ok (.ifCond .ne 6, 3) := by decide +kernel
theorem dX4_stepRefusal_17 : decode cX4_stepRefusal 17 = .ok (.bipush (-2), 2) := by decide +kernel
theorem dX4_stepRefusal_19 : decode cX4_stepRefusal 19 = .ok (.ireturn, 1) := by decide +kernel
theorem dX4_stepRefusal_20 : decode cX4_stepRefusal 20 = .ok (.aload_n 0, 1) := by decide +kernel
theorem dX4_stepRefusal_21 : decode cX4_stepRefusal 21 = .ok (.getfield 34, 3) := by decide +kernel
theorem dX4_stepRefusal_24 : decode cX4_stepRefusal 24 = .ok (.getfield 116, 3) := by decide +kernel
theorem dX4_stepRefusal_27 : decode cX4_stepRefusal 27 = .ok (.iload_n 1, 1) := by decide +kernel
theorem dX4_stepRefusal_28 : decode cX4_stepRefusal 28 = .ok (.iaload, 1) := by decide +kernel
theorem dX4_stepRefusal_29 : decode cX4_stepRefusal 29 = .ok (.iload_n 2, 1) := by decide +kernel
theorem dX4_stepRefusal_30 : decode cX4_stepRefusal 30 = .ok (.invokestatic 236, 3) := by decide +kernel
theorem dX4_stepRefusal_33 : decode cX4_stepRefusal 33 = .ok (.invokestatic 161, 3) := by decide +kernel
theorem dX4_stepRefusal_36 : decode cX4_stepRefusal 36 = .ok (.ifCond .eq 7, 3) := by decide +kernel
theorem dX4_stepRefusal_39 : decode cX4_stepRefusal 39 = .ok (.iconst 0, 1) := by decide +kernel
theorem dX4_stepRefusal_40 : decode cX4_stepRefusal 40 = .ok (.goto 5, 3) := by decide +kernel
theorem dX4_stepRefusal_43 : decode cX4_stepRefusal 43 = .ok (.bipush (-3), 2) := by decide +kernel
theorem dX4_stepRefusal_45 : decode cX4_stepRefusal 45 = .ok (.ireturn, 1) := by decide +kernel
theorem dX4_nextStone_0 : decode cX4_nextStone 0 = .ok (.iload_n 1, 1) := by decide +kernel
theorem dX4_nextStone_1 : decode cX4_nextStone 1 = .ok (.iconst 1, 1) := by decide +kernel
theorem dX4_nextStone_2 : decode cX4_nextStone 2 = .ok (.if_icmp .ne 9, 3) := by decide +kernel
theorem dX4_nextStone_5 : decode cX4_nextStone 5 = .ok (.iload_n 0, 1) := by decide +kernel
theorem dX4_nextStone_6 : decode cX4_nextStone 6 = .ok (.iconst 1, 1) := by decide +kernel
theorem dX4_nextStone_7 : decode cX4_nextStone 7 = .ok (.iadd, 1) := by decide +kernel
theorem dX4_nextStone_8 : decode cX4_nextStone 8 = .ok (.goto 6, 3) := by decide +kernel
theorem dX4_nextStone_11 : decode cX4_nextStone 11 = .ok (.iload_n 0, 1) := by decide +kernel
theorem dX4_nextStone_12 : decode cX4_nextStone 12 = .ok (.iconst 1, 1) := by decide +kernel
theorem dX4_nextStone_13 : decode cX4_nextStone 13 = .ok (.isub, 1) := by decide +kernel
theorem dX4_nextStone_14 : decode cX4_nextStone 14 = .ok (.ireturn, 1) := by decide +kernel
theorem dX4_forbidders_0 : decode cX4_forbidders 0 = .ok (.aload_n 0, 1) := by decide +kernel
theorem dX4_forbidders_1 : decode cX4_forbidders 1 = .ok (.iload_n 2, 1) := by decide +kernel
theorem dX4_forbidders_2 : decode cX4_forbidders 2 = .ok (.invokevirtual 113, 3) := by decide +kernel
theorem dX4_forbidders_5 : decode cX4_forbidders 5 = .ok (.ifCond .ne 5, 3) := by decide +kernel
theorem dX4_forbidders_8 : decode cX4_forbidders 8 = .ok (.iconst (-1), 1) := by decide +kernel
theorem dX4_forbidders_9 : decode cX4_forbidders 9 = .ok (.ireturn, 1) := by decide +kernel
theorem dX4_forbidders_10 : decode cX4_forbidders 10 = .ok (.aload_n 0, 1) := by decide +kernel
theorem dX4_forbidders_11 : decode cX4_forbidders 11 = .ok (.aload_n 1, 1) := by decide +kernel
theorem dX4_forbidders_12 : decode cX4_forbidders 12 = .ok (.iload_n 2, 1) := by decide +kernel
theorem dX4_forbidders_13 : decode cX4_forbidders 13 = .ok (.aload_n 1, 1) := by decide +kernel
theorem dX4_forbidders_14 : decode cX4_forbidders 14 = .ok (.getfield 116, 3) := by decide +kernel
theorem dX4_forbidders_17 : decode cX4_forbidders 17 = .ok (.iload_n 2, 1) := by decide +kernel
theorem dX4_forbidders_18 : decode cX4_forbidders 18 = .ok (.iaload, 1) := by decide +kernel
theorem dX4_forbidders_19 : decode cX4_forbidders 19 = .ok (.iload_n 3, 1) := by decide +kernel
theorem dX4_forbidders_20 : decode cX4_forbidders 20 = .ok (.aload_n 1, 1) := by decide +kernel
theorem dX4_forbidders_21 : decode cX4_forbidders 21 = .ok (.getfield 86, 3) := by decide +kernel
theorem dX4_forbidders_24 : decode cX4_forbidders 24 = .ok (.invokevirtual 239, 3) := by decide +kernel
theorem dX4_forbidders_27 : decode cX4_forbidders 27 = .ok (.ireturn, 1) := by decide +kernel
theorem dX4_forbiddersFrom_0 : decode cX4_forbiddersFrom 0 = .ok (.iload_n 3, 1) := by decide +kernel
theorem dX4_forbiddersFrom_1 : decode cX4_forbiddersFrom 1 = .ok (.iload 4, 2) := by decide +kernel
theorem dX4_forbiddersFrom_3 : decode cX4_forbiddersFrom 3 = .ok (.invokestatic 236, 3) := by decide +kernel
theorem dX4_forbiddersFrom_6 : decode cX4_forbiddersFrom 6 = .ok (.istore 6, 2) := by decide +kernel
theorem dX4_forbiddersFrom_8 : decode cX4_forbiddersFrom 8 = .ok (.aload_n 0, 1) := by decide +kernel
theorem dX4_forbiddersFrom_9 : decode cX4_forbiddersFrom 9 = .ok (.iload_n 2, 1) := by decide +kernel
theorem dX4_forbiddersFrom_10 : decode cX4_forbiddersFrom 10 = .ok (.invokevirtual 113, 3) := by decide +kernel
theorem dX4_forbiddersFrom_13 : decode cX4_forbiddersFrom 13 = .ok (.ifCond .eq 11, 3) := by decide +kernel
theorem dX4_forbiddersFrom_16 : decode cX4_forbiddersFrom 16 = .ok (.iload 6, 2) := by decide +kernel
theorem dX4_forbiddersFrom_18 : decode cX4_forbiddersFrom 18 = .ok (.invokestatic 161, 3) := by decide +kernel
theorem dX4_forbiddersFrom_21 : decode cX4_forbiddersFrom 21 = .ok (.ifCond .ne 5, 3) := by decide +kernel
theorem dX4_forbiddersFrom_24 : decode cX4_forbiddersFrom 24 = .ok (.iconst (-1), 1) := by decide +kernel
theorem dX4_forbiddersFrom_25 : decode cX4_forbiddersFrom 25 = .ok (.ireturn, 1) := by decide +kernel
theorem dX4_forbiddersFrom_26 : decode cX4_forbiddersFrom 26 = .ok (.aload_n 0, 1) := by decide +kernel
theorem dX4_forbiddersFrom_27 : decode cX4_forbiddersFrom 27 = .ok (.aload_n 1, 1) := by decide +kernel
theorem dX4_forbiddersFrom_28 : decode cX4_forbiddersFrom 28 = .ok (.iload_n 2, 1) := by decide +kernel
theorem dX4_forbiddersFrom_29 : decode cX4_forbiddersFrom 29 = .ok (.iload 6, 2) := by decide +kernel
theorem dX4_forbiddersFrom_31 : decode cX4_forbiddersFrom 31 = .ok (.invokevirtual 243, 3) := by decide +kernel
theorem dX4_forbiddersFrom_34 : decode cX4_forbiddersFrom 34 = .ok (.istore 7, 2) := by decide +kernel
theorem dX4_forbiddersFrom_36 : decode cX4_forbiddersFrom 36 = .ok (.iconst 0, 1) := by decide +kernel
theorem dX4_forbiddersFrom_37 : decode cX4_forbiddersFrom 37 = .ok (.istore 8, 2) := by decide +kernel
theorem dX4_forbiddersFrom_39 : decode cX4_forbiddersFrom 39 = .ok (.iconst 0, 1) := by decide +kernel
theorem dX4_forbiddersFrom_40 : decode cX4_forbiddersFrom 40 = .ok (.istore 9, 2) := by decide +kernel
theorem dX4_forbiddersFrom_42 : decode cX4_forbiddersFrom 42 = .ok (.iload 9, 2) := by decide +kernel
theorem dX4_forbiddersFrom_44 : decode cX4_forbiddersFrom 44 = .ok (.aload_n 0, 1) := by decide +kernel
theorem dX4_forbiddersFrom_45 : decode cX4_forbiddersFrom 45 = .ok (.getfield 19, 3) := by decide +kernel
theorem dX4_forbiddersFrom_48 : decode cX4_forbiddersFrom 48 = .ok (.getfield 83, 3) := by decide +kernel
theorem dX4_forbiddersFrom_51 : decode cX4_forbiddersFrom 51 = .ok (.if_icmp .ge 47, 3) := by decide +kernel
theorem dX4_forbiddersFrom_54 : decode cX4_forbiddersFrom 54 = .ok (.aload_n 0, 1) := by decide +kernel
theorem dX4_forbiddersFrom_55 : decode cX4_forbiddersFrom 55 = .ok (.getfield 19, 3) := by decide +kernel
theorem dX4_forbiddersFrom_58 : decode cX4_forbiddersFrom 58 = .ok (.iload 9, 2) := by decide +kernel
theorem dX4_forbiddersFrom_60 : decode cX4_forbiddersFrom 60 = .ok (.iload 6, 2) := by decide +kernel
theorem dX4_forbiddersFrom_62 : decode cX4_forbiddersFrom 62 = .ok (.aload_n 0, 1) := by decide +kernel
theorem dX4_forbiddersFrom_63 : decode cX4_forbiddersFrom 63 = .ok (.getfield 23, 3) := by decide +kernel
theorem dX4_forbiddersFrom_66 : decode cX4_forbiddersFrom 66 = .ok (.iload_n 2, 1) := by decide +kernel
theorem dX4_forbiddersFrom_67 : decode cX4_forbiddersFrom 67 = .ok (.iaload, 1) := by decide +kernel
theorem dX4_forbiddersFrom_68 : decode cX4_forbiddersFrom 68 = .ok (.iload 5, 2) := by decide +kernel
theorem dX4_forbiddersFrom_70 : decode cX4_forbiddersFrom 70 = .ok (.bipush 10, 2) := by decide +kernel
theorem dX4_forbiddersFrom_72 : decode cX4_forbiddersFrom 72 = .ok (.irem, 1) := by decide +kernel
theorem dX4_forbiddersFrom_73 : decode cX4_forbiddersFrom 73 = .ok (.iload 4, 2) := by decide +kernel
theorem dX4_forbiddersFrom_75 : decode cX4_forbiddersFrom 75 = .ok (.iload 7, 2) := by decide +kernel
theorem dX4_forbiddersFrom_77 : decode cX4_forbiddersFrom 77 = .ok (.invokevirtual 246, 3) := by decide +kernel
theorem dX4_forbiddersFrom_80 : decode cX4_forbiddersFrom 80 = .ok (.ifCond .eq 12, 3) := by decide +kernel
theorem dX4_forbiddersFrom_83 : decode cX4_forbiddersFrom 83 = .ok (.iload 8, 2) := by decide +kernel
theorem dX4_forbiddersFrom_85 : decode cX4_forbiddersFrom 85 = .ok (.iconst 1, 1) := by decide +kernel
theorem dX4_forbiddersFrom_86 : decode cX4_forbiddersFrom 86 = .ok (.iload 9, 2) := by decide +kernel
theorem dX4_forbiddersFrom_88 : decode cX4_forbiddersFrom 88 = .ok (.ishl, 1) := by decide +kernel
theorem dX4_forbiddersFrom_89 : decode cX4_forbiddersFrom 89 = .ok (.ior, 1) := by decide +kernel
theorem dX4_forbiddersFrom_90 : decode cX4_forbiddersFrom 90 = .ok (.istore 8, 2) := by decide +kernel
theorem dX4_forbiddersFrom_92 : decode cX4_forbiddersFrom 92 = .ok (.iinc 9 1, 3) := by decide +kernel
theorem dX4_forbiddersFrom_95 : decode cX4_forbiddersFrom 95 = .ok (.goto (-53), 3) := by decide +kernel
theorem dX4_forbiddersFrom_98 : decode cX4_forbiddersFrom 98 = .ok (.iload 8, 2) := by decide +kernel
theorem dX4_forbiddersFrom_100 : decode cX4_forbiddersFrom 100 = .ok (.ireturn, 1) := by decide +kernel
theorem dX4_othersFromNorthOf_0 : decode cX4_othersFromNorthOf 0 = .ok (.iconst 0, 1) := by decide +kernel
theorem dX4_othersFromNorthOf_1 : decode cX4_othersFromNorthOf 1 = .ok (.istore 4, 2) := by decide +kernel
theorem dX4_othersFromNorthOf_3 : decode cX4_othersFromNorthOf 3 = .ok (.iconst 0, 1) := by decide +kernel
theorem dX4_othersFromNorthOf_4 : decode cX4_othersFromNorthOf 4 = .ok (.istore 5, 2) := by decide +kernel
theorem dX4_othersFromNorthOf_6 : decode cX4_othersFromNorthOf 6 = .ok (.iload 5, 2) := by decide +kernel
theorem dX4_othersFromNorthOf_8 : decode cX4_othersFromNorthOf 8 = .ok (.aload_n 0, 1) := by decide +kernel
theorem dX4_othersFromNorthOf_9 : decode cX4_othersFromNorthOf 9 = .ok (.getfield 27, 3) := by decide +kernel
theorem dX4_othersFromNorthOf_12 : decode cX4_othersFromNorthOf 12 = .ok (.if_icmp .ge 29, 3) := by decide +kernel
theorem dX4_othersFromNorthOf_15 : decode cX4_othersFromNorthOf 15 = .ok (.iload 5, 2) := by decide +kernel
theorem dX4_othersFromNorthOf_17 : decode cX4_othersFromNorthOf 17 = .ok (.iload_n 2, 1) := by decide +kernel
theorem dX4_othersFromNorthOf_18 : decode cX4_othersFromNorthOf 18 = .ok (.if_icmp .eq 17, 3) := by decide +kernel
theorem dX4_othersFromNorthOf_21 : decode cX4_othersFromNorthOf 21 = .ok (.aload_n 1, 1) := by decide +kernel
theorem dX4_othersFromNorthOf_22 : decode cX4_othersFromNorthOf 22 = .ok (.getfield 116, 3) := by decide +kernel
theorem dX4_othersFromNorthOf_25 : decode cX4_othersFromNorthOf 25 = .ok (.iload 5, 2) := by decide +kernel
theorem dX4_othersFromNorthOf_27 : decode cX4_othersFromNorthOf 27 = .ok (.iaload, 1) := by decide +kernel
theorem dX4_othersFromNorthOf_28 : decode cX4_othersFromNorthOf 28 = .ok (.iload_n 3, 1) := by decide +kernel
theorem dX4_othersFromNorthOf_29 : decode cX4_othersFromNorthOf 29 = .ok (.if_icmp .lt 6, 3) := by decide +kernel
theorem dX4_othersFromNorthOf_32 : decode cX4_othersFromNorthOf 32 = .ok (.iinc 4 1, 3) := by decide +kernel
theorem dX4_othersFromNorthOf_35 : decode cX4_othersFromNorthOf 35 = .ok (.iinc 5 1, 3) := by decide +kernel
theorem dX4_othersFromNorthOf_38 : decode cX4_othersFromNorthOf 38 = .ok (.goto (-32), 3) := by decide +kernel
theorem dX4_othersFromNorthOf_41 : decode cX4_othersFromNorthOf 41 = .ok (.iload 4, 2) := by decide +kernel
theorem dX4_othersFromNorthOf_43 : decode cX4_othersFromNorthOf 43 = .ok (.ireturn, 1) := by decide +kernel
theorem dX4_balkers_0 : decode cX4_balkers 0 = .ok (.aload_n 0, 1) := by decide +kernel
theorem dX4_balkers_1 : decode cX4_balkers 1 = .ok (.aload_n 1, 1) := by decide +kernel
theorem dX4_balkers_2 : decode cX4_balkers 2 = .ok (.iload_n 2, 1) := by decide +kernel
theorem dX4_balkers_3 : decode cX4_balkers 3 = .ok (.iload_n 3, 1) := by decide +kernel
theorem dX4_balkers_4 : decode cX4_balkers 4 = .ok (.invokevirtual 131, 3) := by decide +kernel
theorem dX4_balkers_7 : decode cX4_balkers 7 = .ok (.istore 4, 2) := by decide +kernel
theorem dX4_balkers_9 : decode cX4_balkers 9 = .ok (.iload 4, 2) := by decide +kernel
theorem dX4_balkers_11 : decode cX4_balkers 11 = .ok (.iconst (-1), 1) := by decide +kernel
theorem dX4_balkers_12 : decode cX4_balkers 12 = .ok (.if_icmp .ne 7, 3) := by decide +kernel
theorem dX4_balkers_15 : decode cX4_balkers 15 = .ok (.iconst 0, 1) := by decide +kernel
theorem dX4_balkers_16 : decode cX4_balkers 16 = .ok (.goto 12, 3) := by decide +kernel
theorem dX4_balkers_19 : decode cX4_balkers 19 = .ok (.iload 4, 2) := by decide +kernel
theorem dX4_balkers_21 : decode cX4_balkers 21 = .ok (.aload_n 0, 1) := by decide +kernel
theorem dX4_balkers_22 : decode cX4_balkers 22 = .ok (.aload_n 1, 1) := by decide +kernel
theorem dX4_balkers_23 : decode cX4_balkers 23 = .ok (.iload_n 2, 1) := by decide +kernel
theorem dX4_balkers_24 : decode cX4_balkers 24 = .ok (.invokevirtual 123, 3) := by decide +kernel
theorem dX4_balkers_27 : decode cX4_balkers 27 = .ok (.iand, 1) := by decide +kernel
theorem dX4_balkers_28 : decode cX4_balkers 28 = .ok (.ireturn, 1) := by decide +kernel
theorem dX4_wouldGo_0 : decode cX4_wouldGo 0 = .ok (.aload_n 0, 1) := by decide +kernel
theorem dX4_wouldGo_1 : decode cX4_wouldGo 1 = .ok (.aload_n 1, 1) := by decide +kernel
theorem dX4_wouldGo_2 : decode cX4_wouldGo 2 = .ok (.iload_n 2, 1) := by decide +kernel
theorem dX4_wouldGo_3 : decode cX4_wouldGo 3 = .ok (.iload_n 3, 1) := by decide +kernel
theorem dX4_wouldGo_4 : decode cX4_wouldGo 4 = .ok (.invokevirtual 131, 3) := by decide +kernel
theorem dX4_wouldGo_7 : decode cX4_wouldGo 7 = .ok (.istore 4, 2) := by decide +kernel
theorem dX4_wouldGo_9 : decode cX4_wouldGo 9 = .ok (.iload 4, 2) := by decide +kernel
theorem dX4_wouldGo_11 : decode cX4_wouldGo 11 = .ok (.iconst (-1), 1) := by decide +kernel
theorem dX4_wouldGo_12 : decode cX4_wouldGo 12 = .ok (.if_icmp .eq 19, 3) := by decide +kernel
theorem dX4_wouldGo_15 : decode cX4_wouldGo 15 = .ok (.iload 4, 2) := by decide +kernel
theorem dX4_wouldGo_17 : decode cX4_wouldGo 17 = .ok (.aload_n 0, 1) := by decide +kernel
theorem dX4_wouldGo_18 : decode cX4_wouldGo 18 = .ok (.aload_n 1, 1) := by decide +kernel
theorem dX4_wouldGo_19 : decode cX4_wouldGo 19 = .ok (.iload_n 2, 1) := by decide +kernel
theorem dX4_wouldGo_20 : decode cX4_wouldGo 20 = .ok (.invokevirtual 123, 3) := by decide +kernel
theorem dX4_wouldGo_23 : decode cX4_wouldGo 23 = .ok (.iand, 1) := by decide +kernel
theorem dX4_wouldGo_24 : decode cX4_wouldGo 24 = .ok (.ifCond .ne 7, 3) := by decide +kernel
theorem dX4_wouldGo_27 : decode cX4_wouldGo 27 = .ok (.iconst 1, 1) := by decide +kernel
theorem dX4_wouldGo_28 : decode cX4_wouldGo 28 = .ok (.goto 4, 3) := by decide +kernel
theorem dX4_wouldGo_31 : decode cX4_wouldGo 31 = .ok (.iconst 0, 1) := by decide +kernel
theorem dX4_wouldGo_32 : decode cX4_wouldGo 32 = .ok (.ireturn, 1) := by decide +kernel
theorem dX4_copyState_0 : decode cX4_copyState 0 = .ok (.aload_n 0, 1) := by decide +kernel
theorem dX4_copyState_1 : decode cX4_copyState 1 = .ok (.ifnull 7, 3) := by decide +kernel
theorem dX4_copyState_4 : decode cX4_copyState 4 = .ok (.aload_n 1, 1) := by decide +kernel
theorem dX4_copyState_5 : decode cX4_copyState 5 = .ok (.ifnonnull 4, 3) := by decide +kernel
theorem dX4_copyState_8 : decode cX4_copyState 8 = .ok (.return_, 1) := by decide +kernel
theorem dX4_copyState_9 : decode cX4_copyState 9 = .ok (.iconst 0, 1) := by decide +kernel
theorem dX4_copyState_10 : decode cX4_copyState 10 = .ok (.istore_n 2, 1) := by decide +kernel
theorem dX4_copyState_11 : decode cX4_copyState 11 = .ok (.iload_n 2, 1) := by decide +kernel
theorem dX4_copyState_12 : decode cX4_copyState 12 = .ok (.iconst 5, 1) := by decide +kernel
theorem dX4_copyState_13 : decode cX4_copyState 13 = .ok (.if_icmp .ge 45, 3) := by decide +kernel
theorem dX4_copyState_16 : decode cX4_copyState 16 = .ok (.aload_n 1, 1) := by decide +kernel
theorem dX4_copyState_17 : decode cX4_copyState 17 = .ok (.getfield 116, 3) := by decide +kernel
theorem dX4_copyState_20 : decode cX4_copyState 20 = .ok (.iload_n 2, 1) := by decide +kernel
theorem dX4_copyState_21 : decode cX4_copyState 21 = .ok (.aload_n 0, 1) := by decide +kernel
theorem dX4_copyState_22 : decode cX4_copyState 22 = .ok (.getfield 116, 3) := by decide +kernel
theorem dX4_copyState_25 : decode cX4_copyState 25 = .ok (.iload_n 2, 1) := by decide +kernel
theorem dX4_copyState_26 : decode cX4_copyState 26 = .ok (.iaload, 1) := by decide +kernel
theorem dX4_copyState_27 : decode cX4_copyState 27 = .ok (.iastore, 1) := by decide +kernel
theorem dX4_copyState_28 : decode cX4_copyState 28 = .ok (.aload_n 1, 1) := by decide +kernel
theorem dX4_copyState_29 : decode cX4_copyState 29 = .ok (.getfield 117, 3) := by decide +kernel
theorem dX4_copyState_32 : decode cX4_copyState 32 = .ok (.iload_n 2, 1) := by decide +kernel
theorem dX4_copyState_33 : decode cX4_copyState 33 = .ok (.aload_n 0, 1) := by decide +kernel
theorem dX4_copyState_34 : decode cX4_copyState 34 = .ok (.getfield 117, 3) := by decide +kernel
theorem dX4_copyState_37 : decode cX4_copyState 37 = .ok (.iload_n 2, 1) := by decide +kernel
theorem dX4_copyState_38 : decode cX4_copyState 38 = .ok (.iaload, 1) := by decide +kernel
theorem dX4_copyState_39 : decode cX4_copyState 39 = .ok (.iastore, 1) := by decide +kernel
theorem dX4_copyState_40 : decode cX4_copyState 40 = .ok (.aload_n 1, 1) := by decide +kernel
theorem dX4_copyState_41 : decode cX4_copyState 41 = .ok (.getfield 120, 3) := by decide +kernel
theorem dX4_copyState_44 : decode cX4_copyState 44 = .ok (.iload_n 2, 1) := by decide +kernel
theorem dX4_copyState_45 : decode cX4_copyState 45 = .ok (.aload_n 0, 1) := by decide +kernel
theorem dX4_copyState_46 : decode cX4_copyState 46 = .ok (.getfield 120, 3) := by decide +kernel
theorem dX4_copyState_49 : decode cX4_copyState 49 = .ok (.iload_n 2, 1) := by decide +kernel
theorem dX4_copyState_50 : decode cX4_copyState 50 = .ok (.iaload, 1) := by decide +kernel
theorem dX4_copyState_51 : decode cX4_copyState 51 = .ok (.iastore, 1) := by decide +kernel
theorem dX4_copyState_52 : decode cX4_copyState 52 = .ok (.iinc 2 1, 3) := by decide +kernel
theorem dX4_copyState_55 : decode cX4_copyState 55 = .ok (.goto (-44), 3) := by decide +kernel
theorem dX4_copyState_58 : decode cX4_copyState 58 = .ok (.aload_n 1, 1) := by decide +kernel
theorem dX4_copyState_59 : decode cX4_copyState 59 = .ok (.aload_n 0, 1) := by decide +kernel
theorem dX4_copyState_60 : decode cX4_copyState 60 = .ok (.getfield 86, 3) := by decide +kernel
theorem dX4_copyState_63 : decode cX4_copyState 63 = .ok (.putfield 86, 3) := by decide +kernel
theorem dX4_copyState_66 : decode cX4_copyState 66 = .ok (.aload_n 1, 1) := by decide +kernel
theorem dX4_copyState_67 : decode cX4_copyState 67 = .ok (.aload_n 0, 1) := by decide +kernel
theorem dX4_copyState_68 : decode cX4_copyState 68 = .ok (.getfield 89, 3) := by decide +kernel
theorem dX4_copyState_71 : decode cX4_copyState 71 = .ok (.putfield 89, 3) := by decide +kernel
theorem dX4_copyState_74 : decode cX4_copyState 74 = .ok (.return_, 1) := by decide +kernel
theorem dX4_rememberAct_0 : decode cX4_rememberAct 0 = .ok (.aload_n 0, 1) := by decide +kernel
theorem dX4_rememberAct_1 : decode cX4_rememberAct 1 = .ok (.getfield 48, 3) := by decide +kernel
theorem dX4_rememberAct_4 : decode cX4_rememberAct 4 = .ok (.bipush 14, 2) := by decide +kernel
theorem dX4_rememberAct_6 : decode cX4_rememberAct 6 = .ok (.if_icmp .ne 26, 3) := by decide +kernel
theorem dX4_rememberAct_9 : decode cX4_rememberAct 9 = .ok (.aload_n 0, 1) := by decide +kernel
theorem dX4_rememberAct_10 : decode cX4_rememberAct 10 = .ok (.aload_n 0, 1) := by decide +kernel
theorem dX4_rememberAct_11 : decode cX4_rememberAct 11 = .ok (.getfield 45, 3) := by decide +kernel
theorem dX4_rememberAct_14 : decode cX4_rememberAct 14 = .ok (.iconst 1, 1) := by decide +kernel
theorem dX4_rememberAct_15 : decode cX4_rememberAct 15 = .ok (.iadd, 1) := by decide +kernel
theorem dX4_rememberAct_16 : decode cX4_rememberAct 16 = .ok (.bipush 14, 2) := by decide +kernel
theorem dX4_rememberAct_18 : decode cX4_rememberAct 18 = .ok (.irem, 1) := by decide +kernel
theorem dX4_rememberAct_19 : decode cX4_rememberAct 19 = .ok (.putfield 45, 3) := by decide +kernel
theorem dX4_rememberAct_22 : decode cX4_rememberAct 22 = .ok (.aload_n 0, 1) := by decide +kernel
theorem dX4_rememberAct_23 : decode cX4_rememberAct 23 = .ok (.dup, 1) := by decide +kernel
theorem dX4_rememberAct_24 : decode cX4_rememberAct 24 = .ok (.getfield 48, 3) := by decide +kernel
theorem dX4_rememberAct_27 : decode cX4_rememberAct 27 = .ok (.iconst 1, 1) := by decide +kernel
theorem dX4_rememberAct_28 : decode cX4_rememberAct 28 = .ok (.isub, 1) := by decide +kernel
theorem dX4_rememberAct_29 : decode cX4_rememberAct 29 = .ok (.putfield 48, 3) := by decide +kernel
theorem dX4_rememberAct_32 : decode cX4_rememberAct 32 = .ok (.aload_n 0, 1) := by decide +kernel
theorem dX4_rememberAct_33 : decode cX4_rememberAct 33 = .ok (.getfield 34, 3) := by decide +kernel
theorem dX4_rememberAct_36 : decode cX4_rememberAct 36 = .ok (.aload_n 0, 1) := by decide +kernel
theorem dX4_rememberAct_37 : decode cX4_rememberAct 37 = .ok (.getfield 41, 3) := by decide +kernel
theorem dX4_rememberAct_40 : decode cX4_rememberAct 40 = .ok (.aload_n 0, 1) := by decide +kernel
theorem dX4_rememberAct_41 : decode cX4_rememberAct 41 = .ok (.getfield 45, 3) := by decide +kernel
theorem dX4_rememberAct_44 : decode cX4_rememberAct 44 = .ok (.aload_n 0, 1) := by decide +kernel
theorem dX4_rememberAct_45 : decode cX4_rememberAct 45 = .ok (.getfield 48, 3) := by decide +kernel
theorem dX4_rememberAct_48 : decode cX4_rememberAct 48 = .ok (.iadd, 1) := by decide +kernel
theorem dX4_rememberAct_49 : decode cX4_rememberAct 49 = .ok (.bipush 14, 2) := by decide +kernel
theorem dX4_rememberAct_51 : decode cX4_rememberAct 51 = .ok (.irem, 1) := by decide +kernel
theorem dX4_rememberAct_52 : decode cX4_rememberAct 52 = .ok (.aaload, 1) := by decide +kernel
theorem dX4_rememberAct_53 : decode cX4_rememberAct 53 = .ok (.invokestatic 157, 3) := by decide +kernel
theorem dX4_rememberAct_56 : decode cX4_rememberAct 56 = .ok (.aload_n 0, 1) := by decide +kernel
theorem dX4_rememberAct_57 : decode cX4_rememberAct 57 = .ok (.dup, 1) := by decide +kernel
theorem dX4_rememberAct_58 : decode cX4_rememberAct 58 = .ok (.getfield 48, 3) := by decide +kernel
theorem dX4_rememberAct_61 : decode cX4_rememberAct 61 = .ok (.iconst 1, 1) := by decide +kernel
theorem dX4_rememberAct_62 : decode cX4_rememberAct 62 = .ok (.iadd, 1) := by decide +kernel
theorem dX4_rememberAct_63 : decode cX4_rememberAct 63 = .ok (.putfield 48, 3) := by decide +kernel
theorem dX4_rememberAct_66 : decode cX4_rememberAct 66 = .ok (.return_, 1) := by decide +kernel
theorem dX4_go_0 : decode cX4_go 0 = .ok (.aload_n 0, 1) := by decide +kernel
theorem dX4_go_1 : decode cX4_go 1 = .ok (.aload_n 1, 1) := by decide +kernel
theorem dX4_go_2 : decode cX4_go 2 = .ok (.iload_n 2, 1) := by decide +kernel
theorem dX4_go_3 : decode cX4_go 3 = .ok (.iload_n 3, 1) := by decide +kernel
theorem dX4_go_4 : decode cX4_go 4 = .ok (.invokevirtual 131, 3) := by decide +kernel
theorem dX4_go_7 : decode cX4_go 7 = .ok (.istore 4, 2) := by decide +kernel
theorem dX4_go_9 : decode cX4_go 9 = .ok (.iload 4, 2) := by decide +kernel
theorem dX4_go_11 : decode cX4_go 11 = .ok (.iconst (-1), 1) := by decide +kernel
theorem dX4_go_12 : decode cX4_go 12 = .ok (.if_icmp .ne 4, 3) := by decide +kernel
theorem dX4_go_15 : decode cX4_go 15 = .ok (.return_, 1) := by decide +kernel
theorem dX4_go_16 : decode cX4_go 16 = .ok (.aload_n 1, 1) := by decide +kernel
theorem dX4_go_17 : decode cX4_go 17 = .ok (.dup, 1) := by decide +kernel
theorem dX4_go_18 : decode cX4_go 18 = .ok (.getfield 89, 3) := by decide +kernel
theorem dX4_go_21 : decode cX4_go 21 = .ok (.iload 4, 2) := by decide +kernel
theorem dX4_go_23 : decode cX4_go 23 = .ok (.invokestatic 152, 3) := by decide +kernel
theorem dX4_go_26 : decode cX4_go 26 = .ok (.iadd, 1) := by decide +kernel
theorem dX4_go_27 : decode cX4_go 27 = .ok (.putfield 89, 3) := by decide +kernel
theorem dX4_go_30 : decode cX4_go 30 = .ok (.aload_n 1, 1) := by decide +kernel
theorem dX4_go_31 : decode cX4_go 31 = .ok (.getfield 116, 3) := by decide +kernel
theorem dX4_go_34 : decode cX4_go 34 = .ok (.iload_n 2, 1) := by decide +kernel
theorem dX4_go_35 : decode cX4_go 35 = .ok (.aload_n 1, 1) := by decide +kernel
theorem dX4_go_36 : decode cX4_go 36 = .ok (.getfield 116, 3) := by decide +kernel
theorem dX4_go_39 : decode cX4_go 39 = .ok (.iload_n 2, 1) := by decide +kernel
theorem dX4_go_40 : decode cX4_go 40 = .ok (.iaload, 1) := by decide +kernel
theorem dX4_go_41 : decode cX4_go 41 = .ok (.iload_n 3, 1) := by decide +kernel
theorem dX4_go_42 : decode cX4_go 42 = .ok (.invokestatic 236, 3) := by decide +kernel
theorem dX4_go_45 : decode cX4_go 45 = .ok (.iastore, 1) := by decide +kernel
theorem dX4_go_46 : decode cX4_go 46 = .ok (.aload_n 1, 1) := by decide +kernel
theorem dX4_go_47 : decode cX4_go 47 = .ok (.dup, 1) := by decide +kernel
theorem dX4_go_48 : decode cX4_go 48 = .ok (.getfield 86, 3) := by decide +kernel
theorem dX4_go_51 : decode cX4_go 51 = .ok (.iconst 1, 1) := by decide +kernel
theorem dX4_go_52 : decode cX4_go 52 = .ok (.iadd, 1) := by decide +kernel
theorem dX4_go_53 : decode cX4_go 53 = .ok (.putfield 86, 3) := by decide +kernel
theorem dX4_go_56 : decode cX4_go 56 = .ok (.return_, 1) := by decide +kernel
theorem dX4_doneWithoutFault_0 : decode cX4_doneWithoutFault 0 = .ok (.iload_n 2, 1) := by decide +kernel
theorem dX4_doneWithoutFault_1 : decode cX4_doneWithoutFault 1 = .ok (.ifCond .ne 23, 3) := by decide +kernel
theorem dX4_doneWithoutFault_4 : decode cX4_doneWithoutFault 4 = .ok (.aload_n 1, 1) := by decide +kernel
theorem dX4_doneWithoutFault_5 : decode cX4_doneWithoutFault 5 = .ok (.dup, 1) := by decide +kernel
theorem dX4_doneWithoutFault_6 : decode cX4_doneWithoutFault 6 = .ok (.getfield 86, 3) := by decide +kernel
theorem dX4_doneWithoutFault_9 : decode cX4_doneWithoutFault 9 = .ok (.iconst 1, 1) := by decide +kernel
theorem dX4_doneWithoutFault_10 : decode cX4_doneWithoutFault 10 = .ok (.iadd, 1) := by decide +kernel
theorem dX4_doneWithoutFault_11 : decode cX4_doneWithoutFault 11 = .ok (.putfield 86, 3) := by decide +kernel
theorem dX4_doneWithoutFault_14 : decode cX4_doneWithoutFault 14 = .ok (.iload_n 3, 1) := by decide +kernel
theorem dX4_doneWithoutFault_15 : decode cX4_doneWithoutFault 15 = .ok (.ifCond .ne 7, 3) := by decide +kernel
theorem dX4_doneWithoutFault_18 : decode cX4_doneWithoutFault 18 = .ok (.iconst 1, 1) := by decide +kernel
theorem dX4_doneWithoutFault_19 : decode cX4_doneWithoutFault 19 = .ok (.goto 4, 3) := by decide +kernel
theorem dX4_doneWithoutFault_22 : decode cX4_doneWithoutFault 22 = .ok (.iconst 0, 1) := by decide +kernel
theorem dX4_doneWithoutFault_23 : decode cX4_doneWithoutFault 23 = .ok (.ireturn, 1) := by decide +kernel
theorem dX4_doneWithoutFault_24 : decode cX4_doneWithoutFault 24 = .ok (.iload_n 2, 1) := by decide +kernel
theorem dX4_doneWithoutFault_25 : decode cX4_doneWithoutFault 25 = .ok (.iconst 5, 1) := by decide +kernel
theorem dX4_doneWithoutFault_26 : decode cX4_doneWithoutFault 26 = .ok (.if_icmp .gt 46, 3) := by decide +kernel
theorem dX4_doneWithoutFault_29 : decode cX4_doneWithoutFault 29 = .ok (.iload_n 3, 1) := by decide +kernel
theorem dX4_doneWithoutFault_30 : decode cX4_doneWithoutFault 30 = .ok (.invokestatic 185, 3) := by decide +kernel
theorem dX4_doneWithoutFault_33 : decode cX4_doneWithoutFault 33 = .ok (.ifCond .eq 19, 3) := by decide +kernel
theorem dX4_doneWithoutFault_36 : decode cX4_doneWithoutFault 36 = .ok (.aload_n 0, 1) := by decide +kernel
theorem dX4_doneWithoutFault_37 : decode cX4_doneWithoutFault 37 = .ok (.aload_n 1, 1) := by decide +kernel
theorem dX4_doneWithoutFault_38 : decode cX4_doneWithoutFault 38 = .ok (.iload_n 2, 1) := by decide +kernel
theorem dX4_doneWithoutFault_39 : decode cX4_doneWithoutFault 39 = .ok (.iconst 1, 1) := by decide +kernel
theorem dX4_doneWithoutFault_40 : decode cX4_doneWithoutFault 40 = .ok (.isub, 1) := by decide +kernel
theorem dX4_doneWithoutFault_41 : decode cX4_doneWithoutFault 41 = .ok (.iload_n 3, 1) := by decide +kernel
theorem dX4_doneWithoutFault_42 : decode cX4_doneWithoutFault 42 = .ok (.invokevirtual 131, 3) := by decide +kernel
theorem dX4_doneWithoutFault_45 : decode cX4_doneWithoutFault 45 = .ok (.ifCond .ne 7, 3) := by decide +kernel
theorem dX4_doneWithoutFault_48 : decode cX4_doneWithoutFault 48 = .ok (.iconst 1, 1) := by decide +kernel
theorem dX4_doneWithoutFault_49 : decode cX4_doneWithoutFault 49 = .ok (.goto 4, 3) := by decide +kernel
theorem dX4_doneWithoutFault_52 : decode cX4_doneWithoutFault 52 = .ok (.iconst 0, 1) := by decide +kernel
theorem dX4_doneWithoutFault_53 : decode cX4_doneWithoutFault 53 = .ok (.istore 4, 2) := by decide +kernel
theorem dX4_doneWithoutFault_55 : decode cX4_doneWithoutFault 55 = .ok (.iload 4, 2) := by decide +kernel
theorem dX4_doneWithoutFault_57 : decode cX4_doneWithoutFault 57 = .ok (.ifCond .eq 12, 3) := by decide +kernel
theorem dX4_doneWithoutFault_60 : decode cX4_doneWithoutFault 60 = .ok (.aload_n 0, 1) := by decide +kernel
theorem dX4_doneWithoutFault_61 : decode cX4_doneWithoutFault 61 = .ok (.aload_n 1, 1) := by decide +kernel
theorem dX4_doneWithoutFault_62 : decode cX4_doneWithoutFault 62 = .ok (.iload_n 2, 1) := by decide +kernel
theorem dX4_doneWithoutFault_63 : decode cX4_doneWithoutFault 63 = .ok (.iconst 1, 1) := by decide +kernel
theorem dX4_doneWithoutFault_64 : decode cX4_doneWithoutFault 64 = .ok (.isub, 1) := by decide +kernel
theorem dX4_doneWithoutFault_65 : decode cX4_doneWithoutFault 65 = .ok (.iload_n 3, 1) := by decide +kernel
theorem dX4_doneWithoutFault_66 : decode cX4_doneWithoutFault 66 = .ok (.invokevirtual 148, 3) := by decide +kernel
theorem dX4_doneWithoutFault_69 : decode cX4_doneWithoutFault 69 = .ok (.iload 4, 2) := by decide +kernel
theorem dX4_doneWithoutFault_71 : decode cX4_doneWithoutFault 71 = .ok (.ireturn, 1) := by decide +kernel
theorem dX4_doneWithoutFault_72 : decode cX4_doneWithoutFault 72 = .ok (.aload_n 0, 1) := by decide +kernel
theorem dX4_doneWithoutFault_73 : decode cX4_doneWithoutFault 73 = .ok (.iload_n 3, 1) := by decide +kernel
theorem dX4_doneWithoutFault_74 : decode cX4_doneWithoutFault 74 = .ok (.invokevirtual 113, 3) := by decide +kernel
theorem dX4_doneWithoutFault_77 : decode cX4_doneWithoutFault 77 = .ok (.ifCond .ne 5, 3) := by decide +kernel
theorem dX4_doneWithoutFault_80 : decode cX4_doneWithoutFault 80 = .ok (.iconst 0, 1) := by decide +kernel
theorem dX4_doneWithoutFault_81 : decode cX4_doneWithoutFault 81 = .ok (.ireturn, 1) := by decide +kernel
theorem dX4_doneWithoutFault_82 : decode cX4_doneWithoutFault 82 = .ok (.iload_n 2, 1) := by decide +kernel
theorem dX4_doneWithoutFault_83 : decode cX4_doneWithoutFault 83 = .ok (.bipush 6, 2) := by decide +kernel
theorem dX4_doneWithoutFault_85 : decode cX4_doneWithoutFault 85 = .ok (.if_icmp .ne 30, 3) := by decide +kernel
theorem dX4_doneWithoutFault_88 : decode cX4_doneWithoutFault 88 = .ok (.aload_n 1, 1) := by decide +kernel
theorem dX4_doneWithoutFault_89 : decode cX4_doneWithoutFault 89 = .ok (.getfield 117, 3) := by decide +kernel
theorem dX4_doneWithoutFault_92 : decode cX4_doneWithoutFault 92 = .ok (.iload_n 3, 1) := by decide +kernel
theorem dX4_doneWithoutFault_93 : decode cX4_doneWithoutFault 93 = .ok (.iaload, 1) := by decide +kernel
theorem dX4_doneWithoutFault_94 : decode cX4_doneWithoutFault 94 = .ok (.iconst 3, 1) := by decide +kernel
theorem dX4_doneWithoutFault_95 : decode cX4_doneWithoutFault 95 = .ok (.if_icmp .eq 7, 3) := by decide +kernel
theorem dX4_doneWithoutFault_98 : decode cX4_doneWithoutFault 98 = .ok (.iconst 1, 1) := by decide +kernel
theorem dX4_doneWithoutFault_99 : decode cX4_doneWithoutFault 99 = .ok (.goto 4, 3) := by decide +kernel
theorem dX4_doneWithoutFault_102 : decode cX4_doneWithoutFault 102 = .ok (.iconst 0, 1) := by decide +kernel
theorem dX4_doneWithoutFault_103 : decode cX4_doneWithoutFault 103 = .ok (.istore 4, 2) := by decide +kernel
theorem dX4_doneWithoutFault_105 : decode cX4_doneWithoutFault 105 = .ok (.aload_n 1, 1) := by decide +kernel
theorem dX4_doneWithoutFault_106 : decode cX4_doneWithoutFault 106 = .ok (.getfield 117, 3) := by decide +kernel
theorem dX4_doneWithoutFault_109 : decode cX4_doneWithoutFault 109 = .ok (.iload_n 3, 1) := by decide +kernel
theorem dX4_doneWithoutFault_110 : decode cX4_doneWithoutFault 110 = .ok (.iconst 3, 1) := by decide +kernel
theorem dX4_doneWithoutFault_111 : decode cX4_doneWithoutFault 111 = .ok (.iastore, 1) := by decide +kernel
theorem dX4_doneWithoutFault_112 : decode cX4_doneWithoutFault 112 = .ok (.iload 4, 2) := by decide +kernel
theorem dX4_doneWithoutFault_114 : decode cX4_doneWithoutFault 114 = .ok (.ireturn, 1) := by decide +kernel
theorem dX4_doneWithoutFault_115 : decode cX4_doneWithoutFault 115 = .ok (.iload_n 2, 1) := by decide +kernel
theorem dX4_doneWithoutFault_116 : decode cX4_doneWithoutFault 116 = .ok (.bipush 7, 2) := by decide +kernel
theorem dX4_doneWithoutFault_118 : decode cX4_doneWithoutFault 118 = .ok (.if_icmp .ne 16, 3) := by decide +kernel
theorem dX4_doneWithoutFault_121 : decode cX4_doneWithoutFault 121 = .ok (.aload_n 1, 1) := by decide +kernel
theorem dX4_doneWithoutFault_122 : decode cX4_doneWithoutFault 122 = .ok (.getfield 120, 3) := by decide +kernel
theorem dX4_doneWithoutFault_125 : decode cX4_doneWithoutFault 125 = .ok (.iload_n 3, 1) := by decide +kernel
theorem dX4_doneWithoutFault_126 : decode cX4_doneWithoutFault 126 = .ok (.iaload, 1) := by decide +kernel
theorem dX4_doneWithoutFault_127 : decode cX4_doneWithoutFault 127 = .ok (.ifCond .eq 7, 3) := by decide +kernel
theorem dX4_doneWithoutFault_130 : decode cX4_doneWithoutFault 130 = .ok (.iconst 1, 1) := by decide +kernel
theorem dX4_doneWithoutFault_131 : decode cX4_doneWithoutFault 131 = .ok (.goto 4, 3) := by decide +kernel
theorem dX4_doneWithoutFault_134 : decode cX4_doneWithoutFault 134 = .ok (.iconst 0, 1) := by decide +kernel
theorem dX4_doneWithoutFault_135 : decode cX4_doneWithoutFault 135 = .ok (.istore 4, 2) := by decide +kernel
theorem dX4_doneWithoutFault_137 : decode cX4_doneWithoutFault 137 = .ok (.aload_n 1, 1) := by decide +kernel
theorem dX4_doneWithoutFault_138 : decode cX4_doneWithoutFault 138 = .ok (.getfield 120, 3) := by decide +kernel
theorem dX4_doneWithoutFault_141 : decode cX4_doneWithoutFault 141 = .ok (.iload_n 3, 1) := by decide +kernel
theorem dX4_doneWithoutFault_142 : decode cX4_doneWithoutFault 142 = .ok (.iconst 0, 1) := by decide +kernel
theorem dX4_doneWithoutFault_143 : decode cX4_doneWithoutFault 143 = .ok (.iastore, 1) := by decide +kernel
theorem dX4_doneWithoutFault_144 : decode cX4_doneWithoutFault 144 = .ok (.iload 4, 2) := by decide +kernel
theorem dX4_doneWithoutFault_146 : decode cX4_doneWithoutFault 146 = .ok (.ireturn, 1) := by decide +kernel
theorem dX4_liveThrough_0 : decode cX4_liveThrough 0 = .ok (.aload_n 0, 1) := by decide +kernel
theorem dX4_liveThrough_1 : decode cX4_liveThrough 1 = .ok (.aload_n 1, 1) := by decide +kernel
theorem dX4_liveThrough_2 : decode cX4_liveThrough 2 = .ok (.iload_n 2, 1) := by decide +kernel
theorem dX4_liveThrough_3 : decode cX4_liveThrough 3 = .ok (.iload_n 3, 1) := by decide +kernel
theorem dX4_liveThrough_4 : decode cX4_liveThrough 4 = .ok (.invokevirtual 141, 3) := by decide +kernel
theorem dX4_liveThrough_7 : decode cX4_liveThrough 7 = .ok (.ifCond .eq 13, 3) := by decide +kernel
theorem dX4_liveThrough_10 : decode cX4_liveThrough 10 = .ok (.aload_n 0, 1) := by decide +kernel
theorem dX4_liveThrough_11 : decode cX4_liveThrough 11 = .ok (.aload_n 1, 1) := by decide +kernel
theorem dX4_liveThrough_12 : decode cX4_liveThrough 12 = .ok (.iload_n 2, 1) := by decide +kernel
theorem dX4_liveThrough_13 : decode cX4_liveThrough 13 = .ok (.iload_n 3, 1) := by decide +kernel
theorem dX4_liveThrough_14 : decode cX4_liveThrough 14 = .ok (.invokevirtual 148, 3) := by decide +kernel
theorem dX4_liveThrough_17 : decode cX4_liveThrough 17 = .ok (.goto 13, 3) := by decide +kernel
theorem dX4_liveThrough_20 : decode cX4_liveThrough 20 = .ok (.aload_n 1, 1) := by decide +kernel
theorem dX4_liveThrough_21 : decode cX4_liveThrough 21 = .ok (.dup, 1) := by decide +kernel
theorem dX4_liveThrough_22 : decode cX4_liveThrough 22 = .ok (.getfield 86, 3) := by decide +kernel
theorem dX4_liveThrough_25 : decode cX4_liveThrough 25 = .ok (.iconst 1, 1) := by decide +kernel
theorem dX4_liveThrough_26 : decode cX4_liveThrough 26 = .ok (.iadd, 1) := by decide +kernel
theorem dX4_liveThrough_27 : decode cX4_liveThrough 27 = .ok (.putfield 86, 3) := by decide +kernel
theorem dX4_liveThrough_30 : decode cX4_liveThrough 30 = .ok (.return_, 1) := by decide +kernel
theorem dX4_spread_0 : decode cX4_spread 0 = .ok (.iload_n 2, 1) := by decide +kernel
theorem dX4_spread_1 : decode cX4_spread 1 = .ok (.istore 5, 2) := by decide +kernel
theorem dX4_spread_3 : decode cX4_spread 3 = .ok (.iconst 0, 1) := by decide +kernel
theorem dX4_spread_4 : decode cX4_spread 4 = .ok (.istore 6, 2) := by decide +kernel
theorem dX4_spread_6 : decode cX4_spread 6 = .ok (.iload 6, 2) := by decide +kernel
theorem dX4_spread_8 : decode cX4_spread 8 = .ok (.bipush 10, 2) := by decide +kernel
theorem dX4_spread_10 : decode cX4_spread 10 = .ok (.if_icmp .ge 77, 3) := by decide +kernel
theorem dX4_spread_13 : decode cX4_spread 13 = .ok (.iconst 0, 1) := by decide +kernel
theorem dX4_spread_14 : decode cX4_spread 14 = .ok (.istore 7, 2) := by decide +kernel
theorem dX4_spread_16 : decode cX4_spread 16 = .ok (.iload 7, 2) := by decide +kernel
theorem dX4_spread_18 : decode cX4_spread 18 = .ok (.iconst 1, 1) := by decide +kernel
theorem dX4_spread_19 : decode cX4_spread 19 = .ok (.if_icmp .gt 62, 3) := by decide +kernel
theorem dX4_spread_22 : decode cX4_spread 22 = .ok (.iload_n 2, 1) := by decide +kernel
theorem dX4_spread_23 : decode cX4_spread 23 = .ok (.iload 6, 2) := by decide +kernel
theorem dX4_spread_25 : decode cX4_spread 25 = .ok (.ishr, 1) := by decide +kernel
theorem dX4_spread_26 : decode cX4_spread 26 = .ok (.iconst 1, 1) := by decide +kernel
theorem dX4_spread_27 : decode cX4_spread 27 = .ok (.iand, 1) := by decide +kernel
theorem dX4_spread_28 : decode cX4_spread 28 = .ok (.ifCond .eq 53, 3) := by decide +kernel
theorem dX4_spread_31 : decode cX4_spread 31 = .ok (.aload_n 0, 1) := by decide +kernel
theorem dX4_spread_32 : decode cX4_spread 32 = .ok (.aload_n 0, 1) := by decide +kernel
theorem dX4_spread_33 : decode cX4_spread 33 = .ok (.getfield 34, 3) := by decide +kernel
theorem dX4_spread_36 : decode cX4_spread 36 = .ok (.iload_n 1, 1) := by decide +kernel
theorem dX4_spread_37 : decode cX4_spread 37 = .ok (.iload 6, 2) := by decide +kernel
theorem dX4_spread_39 : decode cX4_spread 39 = .ok (.iload 7, 2) := by decide +kernel
theorem dX4_spread_41 : decode cX4_spread 41 = .ok (.iload_n 3, 1) := by decide +kernel
theorem dX4_spread_42 : decode cX4_spread 42 = .ok (.invokevirtual 239, 3) := by decide +kernel
theorem dX4_spread_45 : decode cX4_spread 45 = .ok (.istore 8, 2) := by decide +kernel
theorem dX4_spread_47 : decode cX4_spread 47 = .ok (.iload 8, 2) := by decide +kernel
theorem dX4_spread_49 : decode cX4_spread 49 = .ok (.iconst (-1), 1) := by decide +kernel
theorem dX4_spread_50 : decode cX4_spread 50 = .ok (.if_icmp .eq 25, 3) := by decide +kernel
theorem dX4_spread_53 : decode cX4_spread 53 = .ok (.iload 8, 2) := by decide +kernel
theorem dX4_spread_55 : decode cX4_spread 55 = .ok (.iload 4, 2) := by decide +kernel
theorem dX4_spread_57 : decode cX4_spread 57 = .ok (.iand, 1) := by decide +kernel
theorem dX4_spread_58 : decode cX4_spread 58 = .ok (.ifCond .ne 17, 3) := by decide +kernel
theorem dX4_spread_61 : decode cX4_spread 61 = .ok (.iload 5, 2) := by decide +kernel
theorem dX4_spread_63 : decode cX4_spread 63 = .ok (.iconst 1, 1) := by decide +kernel
theorem dX4_spread_64 : decode cX4_spread 64 = .ok (.iload 6, 2) := by decide +kernel
theorem dX4_spread_66 : decode cX4_spread 66 = .ok (.iload 7, 2) := by decide +kernel
theorem dX4_spread_68 : decode cX4_spread 68 = .ok (.invokestatic 236, 3) := by decide +kernel
theorem dX4_spread_71 : decode cX4_spread 71 = .ok (.ishl, 1) := by decide +kernel
theorem dX4_spread_72 : decode cX4_spread 72 = .ok (.ior, 1) := by decide +kernel
theorem dX4_spread_73 : decode cX4_spread 73 = .ok (.istore 5, 2) := by decide +kernel
theorem dX4_spread_75 : decode cX4_spread 75 = .ok (.iinc 7 1, 3) := by decide +kernel
theorem dX4_spread_78 : decode cX4_spread 78 = .ok (.goto (-62), 3) := by decide +kernel
theorem dX4_spread_81 : decode cX4_spread 81 = .ok (.iinc 6 1, 3) := by decide +kernel
theorem dX4_spread_84 : decode cX4_spread 84 = .ok (.goto (-78), 3) := by decide +kernel
theorem dX4_spread_87 : decode cX4_spread 87 = .ok (.iload 5, 2) := by decide +kernel
theorem dX4_spread_89 : decode cX4_spread 89 = .ok (.ireturn, 1) := by decide +kernel
theorem dX4_keepsAllIfShown_0 : decode cX4_keepsAllIfShown 0 = .ok (.aload_n 0, 1) := by decide +kernel
theorem dX4_keepsAllIfShown_1 : decode cX4_keepsAllIfShown 1 = .ok (.iload_n 1, 1) := by decide +kernel
theorem dX4_keepsAllIfShown_2 : decode cX4_keepsAllIfShown 2 = .ok (.invokevirtual 113, 3) := by decide +kernel
theorem dX4_keepsAllIfShown_5 : decode cX4_keepsAllIfShown 5 = .ok (.ifCond .ne 5, 3) := by decide +kernel
theorem dX4_keepsAllIfShown_8 : decode cX4_keepsAllIfShown 8 = .ok (.iconst 0, 1) := by decide +kernel
theorem dX4_keepsAllIfShown_9 : decode cX4_keepsAllIfShown 9 = .ok (.ireturn, 1) := by decide +kernel
theorem dX4_keepsAllIfShown_10 : decode cX4_keepsAllIfShown 10 = .ok (.aload_n 0, 1) := by decide +kernel
theorem dX4_keepsAllIfShown_11 : decode cX4_keepsAllIfShown 11 = .ok (.aload_n 0, 1) := by decide +kernel
theorem dX4_keepsAllIfShown_12 : decode cX4_keepsAllIfShown 12 = .ok (.getfield 34, 3) := by decide +kernel
theorem dX4_keepsAllIfShown_15 : decode cX4_keepsAllIfShown 15 = .ok (.getfield 117, 3) := by decide +kernel
theorem dX4_keepsAllIfShown_18 : decode cX4_keepsAllIfShown 18 = .ok (.iload_n 1, 1) := by decide +kernel
theorem dX4_keepsAllIfShown_19 : decode cX4_keepsAllIfShown 19 = .ok (.iaload, 1) := by decide +kernel
theorem dX4_keepsAllIfShown_20 : decode cX4_keepsAllIfShown 20 = .ok (.aload_n 0, 1) := by decide +kernel
theorem dX4_keepsAllIfShown_21 : decode cX4_keepsAllIfShown 21 = .ok (.getfield 34, 3) := by decide +kernel
theorem dX4_keepsAllIfShown_24 : decode cX4_keepsAllIfShown 24 = .ok (.getfield 120, 3) := by decide +kernel
theorem dX4_keepsAllIfShown_27 : decode cX4_keepsAllIfShown 27 = .ok (.iload_n 1, 1) := by decide +kernel
theorem dX4_keepsAllIfShown_28 : decode cX4_keepsAllIfShown 28 = .ok (.iaload, 1) := by decide +kernel
theorem dX4_keepsAllIfShown_29 : decode cX4_keepsAllIfShown 29 = .ok (.iload_n 2, 1) := by decide +kernel
theorem dX4_keepsAllIfShown_30 : decode cX4_keepsAllIfShown 30 = .ok (.ior, 1) := by decide +kernel
theorem dX4_keepsAllIfShown_31 : decode cX4_keepsAllIfShown 31 = .ok (.invokevirtual 230, 3) := by decide +kernel
theorem dX4_keepsAllIfShown_34 : decode cX4_keepsAllIfShown 34 = .ok (.istore_n 3, 1) := by decide +kernel
theorem dX4_keepsAllIfShown_35 : decode cX4_keepsAllIfShown 35 = .ok (.iconst 0, 1) := by decide +kernel
theorem dX4_keepsAllIfShown_36 : decode cX4_keepsAllIfShown 36 = .ok (.istore 4, 2) := by decide +kernel
theorem dX4_keepsAllIfShown_38 : decode cX4_keepsAllIfShown 38 = .ok (.iload 4, 2) := by decide +kernel
theorem dX4_keepsAllIfShown_40 : decode cX4_keepsAllIfShown 40 = .ok (.iconst 1, 1) := by decide +kernel
theorem dX4_keepsAllIfShown_41 : decode cX4_keepsAllIfShown 41 = .ok (.if_icmp .gt 42, 3) := by decide +kernel
theorem dX4_keepsAllIfShown_44 : decode cX4_keepsAllIfShown 44 = .ok (.aload_n 0, 1) := by decide +kernel
theorem dX4_keepsAllIfShown_45 : decode cX4_keepsAllIfShown 45 = .ok (.aload_n 0, 1) := by decide +kernel
theorem dX4_keepsAllIfShown_46 : decode cX4_keepsAllIfShown 46 = .ok (.getfield 34, 3) := by decide +kernel
theorem dX4_keepsAllIfShown_49 : decode cX4_keepsAllIfShown 49 = .ok (.iload_n 1, 1) := by decide +kernel
theorem dX4_keepsAllIfShown_50 : decode cX4_keepsAllIfShown 50 = .ok (.iload 4, 2) := by decide +kernel
theorem dX4_keepsAllIfShown_52 : decode cX4_keepsAllIfShown 52 = .ok (.invokevirtual 131, 3) := by decide +kernel
theorem dX4_keepsAllIfShown_55 : decode cX4_keepsAllIfShown 55 = .ok (.istore 5, 2) := by decide +kernel
theorem dX4_keepsAllIfShown_57 : decode cX4_keepsAllIfShown 57 = .ok (.iload 5, 2) := by decide +kernel
theorem dX4_keepsAllIfShown_59 : decode cX4_keepsAllIfShown 59 = .ok (.iconst (-1), 1) := by decide +kernel
theorem dX4_keepsAllIfShown_60 : decode cX4_keepsAllIfShown 60 = .ok (.if_icmp .eq 17, 3) := by decide +kernel
theorem dX4_keepsAllIfShown_63 : decode cX4_keepsAllIfShown 63 = .ok (.iload 5, 2) := by decide +kernel
theorem dX4_keepsAllIfShown_65 : decode cX4_keepsAllIfShown 65 = .ok (.ifCond .eq 12, 3) := by decide +kernel
theorem dX4_keepsAllIfShown_68 : decode cX4_keepsAllIfShown 68 = .ok (.iload 5, 2) := by decide +kernel
theorem dX4_keepsAllIfShown_70 : decode cX4_keepsAllIfShown 70 = .ok (.iload_n 3, 1) := by decide +kernel
theorem dX4_keepsAllIfShown_71 : decode cX4_keepsAllIfShown 71 = .ok (.iand, 1) := by decide +kernel
theorem dX4_keepsAllIfShown_72 : decode cX4_keepsAllIfShown 72 = .ok (.ifCond .ne 5, 3) := by decide +kernel
theorem dX4_keepsAllIfShown_75 : decode cX4_keepsAllIfShown 75 = .ok (.iconst 0, 1) := by decide +kernel
theorem dX4_keepsAllIfShown_76 : decode cX4_keepsAllIfShown 76 = .ok (.ireturn, 1) := by decide +kernel
theorem dX4_keepsAllIfShown_77 : decode cX4_keepsAllIfShown 77 = .ok (.iinc 4 1, 3) := by decide +kernel
theorem dX4_keepsAllIfShown_80 : decode cX4_keepsAllIfShown 80 = .ok (.goto (-42), 3) := by decide +kernel
theorem dX4_keepsAllIfShown_83 : decode cX4_keepsAllIfShown 83 = .ok (.iconst 1, 1) := by decide +kernel
theorem dX4_keepsAllIfShown_84 : decode cX4_keepsAllIfShown 84 = .ok (.ireturn, 1) := by decide +kernel
theorem dX4_sixtiethsOfStep_0 : decode cX4_sixtiethsOfStep 0 = .ok (.iload_n 0, 1) := by decide +kernel
theorem dX4_sixtiethsOfStep_1 : decode cX4_sixtiethsOfStep 1 = .ok (.iconst (-1), 1) := by decide +kernel
theorem dX4_sixtiethsOfStep_2 : decode cX4_sixtiethsOfStep 2 = .ok (.if_icmp .eq 11, 3) := by decide +kernel
theorem dX4_sixtiethsOfStep_5 : decode cX4_sixtiethsOfStep 5 = .ok (.iload_n 0, 1) := by decide +kernel
theorem dX4_sixtiethsOfStep_6 : decode cX4_sixtiethsOfStep 6 = .ok (.iload_n 1, 1) := by decide +kernel
theorem dX4_sixtiethsOfStep_7 : decode cX4_sixtiethsOfStep 7 = .ok (.ishr, 1) := by decide +kernel
theorem dX4_sixtiethsOfStep_8 : decode cX4_sixtiethsOfStep 8 = .ok (.iconst 1, 1) := by decide +kernel
theorem dX4_sixtiethsOfStep_9 : decode cX4_sixtiethsOfStep 9 = .ok (.iand, 1) := by decide +kernel
theorem dX4_sixtiethsOfStep_10 : decode cX4_sixtiethsOfStep 10 = .ok (.ifCond .ne 5, 3) := by decide +kernel
theorem dX4_sixtiethsOfStep_13 : decode cX4_sixtiethsOfStep 13 = .ok (.iconst 0, 1) := by decide +kernel
theorem dX4_sixtiethsOfStep_14 : decode cX4_sixtiethsOfStep 14 = .ok (.ireturn, 1) := by decide +kernel
theorem dX4_sixtiethsOfStep_15 : decode cX4_sixtiethsOfStep 15 = .ok (.iload_n 0, 1) := by decide +kernel
theorem dX4_sixtiethsOfStep_16 : decode cX4_sixtiethsOfStep 16 = .ok (.invokestatic 152, 3) := by decide +kernel
theorem dX4_sixtiethsOfStep_19 : decode cX4_sixtiethsOfStep 19 = .ok (.istore_n 2, 1) := by decide +kernel
theorem dX4_sixtiethsOfStep_20 : decode cX4_sixtiethsOfStep 20 = .ok (.iload_n 2, 1) := by decide +kernel
theorem dX4_sixtiethsOfStep_21 : decode cX4_sixtiethsOfStep 21 = .ok (.ifCond .ne 7, 3) := by decide +kernel
theorem dX4_sixtiethsOfStep_24 : decode cX4_sixtiethsOfStep 24 = .ok (.iconst 0, 1) := by decide +kernel
theorem dX4_sixtiethsOfStep_25 : decode cX4_sixtiethsOfStep 25 = .ok (.goto 7, 3) := by decide +kernel
theorem dX4_sixtiethsOfStep_28 : decode cX4_sixtiethsOfStep 28 = .ok (.bipush 60, 2) := by decide +kernel
theorem dX4_sixtiethsOfStep_30 : decode cX4_sixtiethsOfStep 30 = .ok (.iload_n 2, 1) := by decide +kernel
theorem dX4_sixtiethsOfStep_31 : decode cX4_sixtiethsOfStep 31 = .ok (.idiv, 1) := by decide +kernel
theorem dX4_sixtiethsOfStep_32 : decode cX4_sixtiethsOfStep 32 = .ok (.ireturn, 1) := by decide +kernel
theorem dX4_worthOfString_0 : decode cX4_worthOfString 0 = .ok (.iconst 0, 1) := by decide +kernel
theorem dX4_worthOfString_1 : decode cX4_worthOfString 1 = .ok (.istore_n 1, 1) := by decide +kernel
theorem dX4_worthOfString_2 : decode cX4_worthOfString 2 = .ok (.iconst 0, 1) := by decide +kernel
theorem dX4_worthOfString_3 : decode cX4_worthOfString 3 = .ok (.istore_n 2, 1) := by decide +kernel
theorem dX4_worthOfString_4 : decode cX4_worthOfString 4 = .ok (.iload_n 2, 1) := by decide +kernel
theorem dX4_worthOfString_5 : decode cX4_worthOfString 5 = .ok (.aload_n 0, 1) := by decide +kernel
theorem dX4_worthOfString_6 : decode cX4_worthOfString 6 = .ok (.getfield 27, 3) := by decide +kernel
theorem dX4_worthOfString_9 : decode cX4_worthOfString 9 = .ok (.if_icmp .ge 47, 3) := by decide +kernel
theorem dX4_worthOfString_12 : decode cX4_worthOfString 12 = .ok (.aload_n 0, 1) := by decide +kernel
theorem dX4_worthOfString_13 : decode cX4_worthOfString 13 = .ok (.aload_n 0, 1) := by decide +kernel
theorem dX4_worthOfString_14 : decode cX4_worthOfString 14 = .ok (.getfield 34, 3) := by decide +kernel
theorem dX4_worthOfString_17 : decode cX4_worthOfString 17 = .ok (.iload_n 2, 1) := by decide +kernel
theorem dX4_worthOfString_18 : decode cX4_worthOfString 18 = .ok (.iconst 1, 1) := by decide +kernel
theorem dX4_worthOfString_19 : decode cX4_worthOfString 19 = .ok (.invokevirtual 131, 3) := by decide +kernel
theorem dX4_worthOfString_22 : decode cX4_worthOfString 22 = .ok (.istore_n 3, 1) := by decide +kernel
theorem dX4_worthOfString_23 : decode cX4_worthOfString 23 = .ok (.iload_n 3, 1) := by decide +kernel
theorem dX4_worthOfString_24 : decode cX4_worthOfString 24 = .ok (.iconst (-1), 1) := by decide +kernel
theorem dX4_worthOfString_25 : decode cX4_worthOfString 25 = .ok (.if_icmp .eq 25, 3) := by decide +kernel
theorem dX4_worthOfString_28 : decode cX4_worthOfString 28 = .ok (.iload_n 1, 1) := by decide +kernel
theorem dX4_worthOfString_29 : decode cX4_worthOfString 29 = .ok (.iload_n 3, 1) := by decide +kernel
theorem dX4_worthOfString_30 : decode cX4_worthOfString 30 = .ok (.aload_n 0, 1) := by decide +kernel
theorem dX4_worthOfString_31 : decode cX4_worthOfString 31 = .ok (.aload_n 0, 1) := by decide +kernel
theorem dX4_worthOfString_32 : decode cX4_worthOfString 32 = .ok (.getfield 34, 3) := by decide +kernel
theorem dX4_worthOfString_35 : decode cX4_worthOfString 35 = .ok (.iload_n 2, 1) := by decide +kernel
theorem dX4_worthOfString_36 : decode cX4_worthOfString 36 = .ok (.invokevirtual 123, 3) := by decide +kernel
theorem dX4_worthOfString_39 : decode cX4_worthOfString 39 = .ok (.iand, 1) := by decide +kernel
theorem dX4_worthOfString_40 : decode cX4_worthOfString 40 = .ok (.ifCond .ne 7, 3) := by decide +kernel
theorem dX4_worthOfString_43 : decode cX4_worthOfString 43 = .ok (.iconst 1, 1) := by decide +kernel
theorem dX4_worthOfString_44 : decode cX4_worthOfString 44 = .ok (.goto 4, 3) := by decide +kernel
theorem dX4_worthOfString_47 : decode cX4_worthOfString 47 = .ok (.iconst (-1), 1) := by decide +kernel
theorem dX4_worthOfString_48 : decode cX4_worthOfString 48 = .ok (.iadd, 1) := by decide +kernel
theorem dX4_worthOfString_49 : decode cX4_worthOfString 49 = .ok (.istore_n 1, 1) := by decide +kernel
theorem dX4_worthOfString_50 : decode cX4_worthOfString 50 = .ok (.iinc 2 1, 3) := by decide +kernel
theorem dX4_worthOfString_53 : decode cX4_worthOfString 53 = .ok (.goto (-49), 3) := by decide +kernel
theorem dX4_worthOfString_56 : decode cX4_worthOfString 56 = .ok (.iload_n 1, 1) := by decide +kernel
theorem dX4_worthOfString_57 : decode cX4_worthOfString 57 = .ok (.ireturn, 1) := by decide +kernel
theorem dX4_gain_0 : decode cX4_gain 0 = .ok (.iload_n 0, 1) := by decide +kernel
theorem dX4_gain_1 : decode cX4_gain 1 = .ok (.iconst 1, 1) := by decide +kernel
theorem dX4_gain_2 : decode cX4_gain 2 = .ok (.if_icmp .ne 16, 3) := by decide +kernel
theorem dX4_gain_5 : decode cX4_gain 5 = .ok (.iload_n 1, 1) := by decide +kernel
theorem dX4_gain_6 : decode cX4_gain 6 = .ok (.iconst 1, 1) := by decide +kernel
theorem dX4_gain_7 : decode cX4_gain 7 = .ok (.if_icmp .ne 9, 3) := by decide +kernel
theorem dX4_gain_10 : decode cX4_gain 10 = .ok (.iload_n 2, 1) := by decide +kernel
theorem dX4_gain_11 : decode cX4_gain 11 = .ok (.iconst 2, 1) := by decide +kernel
theorem dX4_gain_12 : decode cX4_gain 12 = .ok (.idiv, 1) := by decide +kernel
theorem dX4_gain_13 : decode cX4_gain 13 = .ok (.goto 4, 3) := by decide +kernel
theorem dX4_gain_16 : decode cX4_gain 16 = .ok (.iload_n 2, 1) := by decide +kernel
theorem dX4_gain_17 : decode cX4_gain 17 = .ok (.ireturn, 1) := by decide +kernel
theorem dX4_gain_18 : decode cX4_gain 18 = .ok (.iload_n 1, 1) := by decide +kernel
theorem dX4_gain_19 : decode cX4_gain 19 = .ok (.iconst 1, 1) := by decide +kernel
theorem dX4_gain_20 : decode cX4_gain 20 = .ok (.if_icmp .ne 7, 3) := by decide +kernel
theorem dX4_gain_23 : decode cX4_gain 23 = .ok (.iconst (-1), 1) := by decide +kernel
theorem dX4_gain_24 : decode cX4_gain 24 = .ok (.goto 4, 3) := by decide +kernel
theorem dX4_gain_27 : decode cX4_gain 27 = .ok (.iconst 0, 1) := by decide +kernel
theorem dX4_gain_28 : decode cX4_gain 28 = .ok (.ireturn, 1) := by decide +kernel
theorem dX4_isContent_0 : decode cX4_isContent 0 = .ok (.iload_n 0, 1) := by decide +kernel
theorem dX4_isContent_1 : decode cX4_isContent 1 = .ok (.iload_n 1, 1) := by decide +kernel
theorem dX4_isContent_2 : decode cX4_isContent 2 = .ok (.iload_n 2, 1) := by decide +kernel
theorem dX4_isContent_3 : decode cX4_isContent 3 = .ok (.invokestatic 250, 3) := by decide +kernel
theorem dX4_isContent_6 : decode cX4_isContent 6 = .ok (.iconst 1, 1) := by decide +kernel
theorem dX4_isContent_7 : decode cX4_isContent 7 = .ok (.iload_n 0, 1) := by decide +kernel
theorem dX4_isContent_8 : decode cX4_isContent 8 = .ok (.isub, 1) := by decide +kernel
theorem dX4_isContent_9 : decode cX4_isContent 9 = .ok (.iload_n 1, 1) := by decide +kernel
theorem dX4_isContent_10 : decode cX4_isContent 10 = .ok (.iload_n 2, 1) := by decide +kernel
theorem dX4_isContent_11 : decode cX4_isContent 11 = .ok (.invokestatic 250, 3) := by decide +kernel
theorem dX4_isContent_14 : decode cX4_isContent 14 = .ok (.if_icmp .lt 7, 3) := by decide +kernel
theorem dX4_isContent_17 : decode cX4_isContent 17 = .ok (.iconst 1, 1) := by decide +kernel
theorem dX4_isContent_18 : decode cX4_isContent 18 = .ok (.goto 4, 3) := by decide +kernel
theorem dX4_isContent_21 : decode cX4_isContent 21 = .ok (.iconst 0, 1) := by decide +kernel
theorem dX4_isContent_22 : decode cX4_isContent 22 = .ok (.ireturn, 1) := by decide +kernel
theorem dX4_tenthsToBalk_0 : decode cX4_tenthsToBalk 0 = .ok (.aload_n 0, 1) := by decide +kernel
theorem dX4_tenthsToBalk_1 : decode cX4_tenthsToBalk 1 = .ok (.aload_n 0, 1) := by decide +kernel
theorem dX4_tenthsToBalk_2 : decode cX4_tenthsToBalk 2 = .ok (.getfield 34, 3) := by decide +kernel
theorem dX4_tenthsToBalk_5 : decode cX4_tenthsToBalk 5 = .ok (.iload_n 1, 1) := by decide +kernel
theorem dX4_tenthsToBalk_6 : decode cX4_tenthsToBalk 6 = .ok (.iload_n 2, 1) := by decide +kernel
theorem dX4_tenthsToBalk_7 : decode cX4_tenthsToBalk 7 = .ok (.invokevirtual 131, 3) := by decide +kernel
theorem dX4_tenthsToBalk_10 : decode cX4_tenthsToBalk 10 = .ok (.istore 4, 2) := by decide +kernel
theorem dX4_tenthsToBalk_12 : decode cX4_tenthsToBalk 12 = .ok (.iload 4, 2) := by decide +kernel
theorem dX4_tenthsToBalk_14 : decode cX4_tenthsToBalk 14 = .ok (.iconst (-1), 1) := by decide +kernel
theorem dX4_tenthsToBalk_15 : decode cX4_tenthsToBalk 15 = .ok (.if_icmp .eq 11, 3) := by decide +kernel
theorem dX4_tenthsToBalk_18 : decode cX4_tenthsToBalk 18 = .ok (.aload_n 0, 1) := by decide +kernel
theorem dX4_tenthsToBalk_19 : decode cX4_tenthsToBalk 19 = .ok (.iload_n 1, 1) := by decide +kernel
theorem dX4_tenthsToBalk_20 : decode cX4_tenthsToBalk 20 = .ok (.invokevirtual 113, 3) := by decide +kernel
theorem dX4_tenthsToBalk_23 : decode cX4_tenthsToBalk 23 = .ok (.ifCond .ne 5, 3) := by decide +kernel
theorem dX4_tenthsToBalk_26 : decode cX4_tenthsToBalk 26 = .ok (.iconst 0, 1) := by decide +kernel
theorem dX4_tenthsToBalk_27 : decode cX4_tenthsToBalk 27 = .ok (.ireturn, 1) := by decide +kernel
theorem dX4_tenthsToBalk_28 : decode cX4_tenthsToBalk 28 = .ok (.iload 4, 2) := by decide +kernel
theorem dX4_tenthsToBalk_30 : decode cX4_tenthsToBalk 30 = .ok (.aload_n 0, 1) := by decide +kernel
theorem dX4_tenthsToBalk_31 : decode cX4_tenthsToBalk 31 = .ok (.aload_n 0, 1) := by decide +kernel
theorem dX4_tenthsToBalk_32 : decode cX4_tenthsToBalk 32 = .ok (.getfield 34, 3) := by decide +kernel
theorem dX4_tenthsToBalk_35 : decode cX4_tenthsToBalk 35 = .ok (.iload_n 1, 1) := by decide +kernel
theorem dX4_tenthsToBalk_36 : decode cX4_tenthsToBalk 36 = .ok (.invokevirtual 123, 3) := by decide +kernel
theorem dX4_tenthsToBalk_39 : decode cX4_tenthsToBalk 39 = .ok (.iand, 1) := by decide +kernel
theorem dX4_tenthsToBalk_40 : decode cX4_tenthsToBalk 40 = .ok (.ifCond .eq 7, 3) := by decide +kernel
theorem dX4_tenthsToBalk_43 : decode cX4_tenthsToBalk 43 = .ok (.iconst 1, 1) := by decide +kernel
theorem dX4_tenthsToBalk_44 : decode cX4_tenthsToBalk 44 = .ok (.goto 4, 3) := by decide +kernel
theorem dX4_tenthsToBalk_47 : decode cX4_tenthsToBalk 47 = .ok (.iconst 0, 1) := by decide +kernel
theorem dX4_tenthsToBalk_48 : decode cX4_tenthsToBalk 48 = .ok (.istore 5, 2) := by decide +kernel
theorem dX4_tenthsToBalk_50 : decode cX4_tenthsToBalk 50 = .ok (.iload 4, 2) := by decide +kernel
theorem dX4_tenthsToBalk_52 : decode cX4_tenthsToBalk 52 = .ok (.aload_n 0, 1) := by decide +kernel
theorem dX4_tenthsToBalk_53 : decode cX4_tenthsToBalk 53 = .ok (.aload_n 0, 1) := by decide +kernel
theorem dX4_tenthsToBalk_54 : decode cX4_tenthsToBalk 54 = .ok (.getfield 34, 3) := by decide +kernel
theorem dX4_tenthsToBalk_57 : decode cX4_tenthsToBalk 57 = .ok (.getfield 117, 3) := by decide +kernel
theorem dX4_tenthsToBalk_60 : decode cX4_tenthsToBalk 60 = .ok (.iload_n 1, 1) := by decide +kernel
theorem dX4_tenthsToBalk_61 : decode cX4_tenthsToBalk 61 = .ok (.iaload, 1) := by decide +kernel
theorem dX4_tenthsToBalk_62 : decode cX4_tenthsToBalk 62 = .ok (.iconst 0, 1) := by decide +kernel
theorem dX4_tenthsToBalk_63 : decode cX4_tenthsToBalk 63 = .ok (.invokevirtual 230, 3) := by decide +kernel
theorem dX4_tenthsToBalk_66 : decode cX4_tenthsToBalk 66 = .ok (.iand, 1) := by decide +kernel
theorem dX4_tenthsToBalk_67 : decode cX4_tenthsToBalk 67 = .ok (.ifCond .eq 7, 3) := by decide +kernel
theorem dX4_tenthsToBalk_70 : decode cX4_tenthsToBalk 70 = .ok (.iconst 1, 1) := by decide +kernel
theorem dX4_tenthsToBalk_71 : decode cX4_tenthsToBalk 71 = .ok (.goto 4, 3) := by decide +kernel
theorem dX4_tenthsToBalk_74 : decode cX4_tenthsToBalk 74 = .ok (.iconst 0, 1) := by decide +kernel
theorem dX4_tenthsToBalk_75 : decode cX4_tenthsToBalk 75 = .ok (.istore 6, 2) := by decide +kernel
theorem dX4_tenthsToBalk_77 : decode cX4_tenthsToBalk 77 = .ok (.iload 5, 2) := by decide +kernel
theorem dX4_tenthsToBalk_79 : decode cX4_tenthsToBalk 79 = .ok (.ifCond .eq 10, 3) := by decide +kernel
theorem dX4_tenthsToBalk_82 : decode cX4_tenthsToBalk 82 = .ok (.bipush 10, 2) := by decide +kernel
theorem dX4_tenthsToBalk_84 : decode cX4_tenthsToBalk 84 = .ok (.iload_n 3, 1) := by decide +kernel
theorem dX4_tenthsToBalk_85 : decode cX4_tenthsToBalk 85 = .ok (.isub, 1) := by decide +kernel
theorem dX4_tenthsToBalk_86 : decode cX4_tenthsToBalk 86 = .ok (.goto 4, 3) := by decide +kernel
theorem dX4_tenthsToBalk_89 : decode cX4_tenthsToBalk 89 = .ok (.iconst 0, 1) := by decide +kernel
theorem dX4_tenthsToBalk_90 : decode cX4_tenthsToBalk 90 = .ok (.iload 6, 2) := by decide +kernel
theorem dX4_tenthsToBalk_92 : decode cX4_tenthsToBalk 92 = .ok (.ifCond .eq 7, 3) := by decide +kernel
theorem dX4_tenthsToBalk_95 : decode cX4_tenthsToBalk 95 = .ok (.iload_n 3, 1) := by decide +kernel
theorem dX4_tenthsToBalk_96 : decode cX4_tenthsToBalk 96 = .ok (.goto 4, 3) := by decide +kernel
theorem dX4_tenthsToBalk_99 : decode cX4_tenthsToBalk 99 = .ok (.iconst 0, 1) := by decide +kernel
theorem dX4_tenthsToBalk_100 : decode cX4_tenthsToBalk 100 = .ok (.iadd, 1) := by decide +kernel
theorem dX4_tenthsToBalk_101 : decode cX4_tenthsToBalk 101 = .ok (.ireturn, 1) := by decide +kernel
theorem dX4_tallyMule_0 : decode cX4_tallyMule 0 = .ok (.aload_n 0, 1) := by decide +kernel
theorem dX4_tallyMule_1 : decode cX4_tallyMule 1 = .ok (.getfield 65, 3) := by decide +kernel
theorem dX4_tallyMule_4 : decode cX4_tallyMule 4 = .ok (.arraylength, 1) := by decide +kernel
theorem dX4_tallyMule_5 : decode cX4_tallyMule 5 = .ok (.iconst 1, 1) := by decide +kernel
theorem dX4_tallyMule_6 : decode cX4_tallyMule 6 = .ok (.isub, 1) := by decide +kernel
theorem dX4_tallyMule_7 : decode cX4_tallyMule 7 = .ok (.istore_n 2, 1) := by decide +kernel
theorem dX4_tallyMule_8 : decode cX4_tallyMule 8 = .ok (.iload_n 2, 1) := by decide +kernel
theorem dX4_tallyMule_9 : decode cX4_tallyMule 9 = .ok (.ifCond .le 37, 3) := by decide +kernel
theorem dX4_tallyMule_12 : decode cX4_tallyMule 12 = .ok (.aload_n 0, 1) := by decide +kernel
theorem dX4_tallyMule_13 : decode cX4_tallyMule 13 = .ok (.getfield 65, 3) := by decide +kernel
theorem dX4_tallyMule_16 : decode cX4_tallyMule 16 = .ok (.iload_n 2, 1) := by decide +kernel
theorem dX4_tallyMule_17 : decode cX4_tallyMule 17 = .ok (.aload_n 0, 1) := by decide +kernel
theorem dX4_tallyMule_18 : decode cX4_tallyMule 18 = .ok (.getfield 65, 3) := by decide +kernel
theorem dX4_tallyMule_21 : decode cX4_tallyMule 21 = .ok (.iload_n 2, 1) := by decide +kernel
theorem dX4_tallyMule_22 : decode cX4_tallyMule 22 = .ok (.iaload, 1) := by decide +kernel
theorem dX4_tallyMule_23 : decode cX4_tallyMule 23 = .ok (.bipush 10, 2) := by decide +kernel
theorem dX4_tallyMule_25 : decode cX4_tallyMule 25 = .ok (.iload_n 1, 1) := by decide +kernel
theorem dX4_tallyMule_26 : decode cX4_tallyMule 26 = .ok (.isub, 1) := by decide +kernel
theorem dX4_tallyMule_27 : decode cX4_tallyMule 27 = .ok (.imul, 1) := by decide +kernel
theorem dX4_tallyMule_28 : decode cX4_tallyMule 28 = .ok (.aload_n 0, 1) := by decide +kernel
theorem dX4_tallyMule_29 : decode cX4_tallyMule 29 = .ok (.getfield 65, 3) := by decide +kernel
theorem dX4_tallyMule_32 : decode cX4_tallyMule 32 = .ok (.iload_n 2, 1) := by decide +kernel
theorem dX4_tallyMule_33 : decode cX4_tallyMule 33 = .ok (.iconst 1, 1) := by decide +kernel
theorem dX4_tallyMule_34 : decode cX4_tallyMule 34 = .ok (.isub, 1) := by decide +kernel
theorem dX4_tallyMule_35 : decode cX4_tallyMule 35 = .ok (.iaload, 1) := by decide +kernel
theorem dX4_tallyMule_36 : decode cX4_tallyMule 36 = .ok (.iload_n 1, 1) := by decide +kernel
theorem dX4_tallyMule_37 : decode cX4_tallyMule 37 = .ok (.imul, 1) := by decide +kernel
theorem dX4_tallyMule_38 : decode cX4_tallyMule 38 = .ok (.iadd, 1) := by decide +kernel
theorem dX4_tallyMule_39 : decode cX4_tallyMule 39 = .ok (.iastore, 1) := by decide +kernel
theorem dX4_tallyMule_40 : decode cX4_tallyMule 40 = .ok (.iinc 2 (-1), 3) := by decide +kernel
theorem dX4_tallyMule_43 : decode cX4_tallyMule 43 = .ok (.goto (-35), 3) := by decide +kernel
theorem dX4_tallyMule_46 : decode cX4_tallyMule 46 = .ok (.aload_n 0, 1) := by decide +kernel
theorem dX4_tallyMule_47 : decode cX4_tallyMule 47 = .ok (.getfield 65, 3) := by decide +kernel
theorem dX4_tallyMule_50 : decode cX4_tallyMule 50 = .ok (.iconst 0, 1) := by decide +kernel
theorem dX4_tallyMule_51 : decode cX4_tallyMule 51 = .ok (.dup2, 1) := by decide +kernel
theorem dX4_tallyMule_52 : decode cX4_tallyMule 52 = .ok (.iaload, 1) := by decide +kernel
theorem dX4_tallyMule_53 : decode cX4_tallyMule 53 = .ok (.bipush 10, 2) := by decide +kernel
theorem dX4_tallyMule_55 : decode cX4_tallyMule 55 = .ok (.iload_n 1, 1) := by decide +kernel
theorem dX4_tallyMule_56 : decode cX4_tallyMule 56 = .ok (.isub, 1) := by decide +kernel
theorem dX4_tallyMule_57 : decode cX4_tallyMule 57 = .ok (.imul, 1) := by decide +kernel
theorem dX4_tallyMule_58 : decode cX4_tallyMule 58 = .ok (.iastore, 1) := by decide +kernel
theorem dX4_tallyMule_59 : decode cX4_tallyMule 59 = .ok (.return_, 1) := by decide +kernel
theorem dX4_fractionPart_0 : decode cX4_fractionPart 0 = .ok (.iload_n 1, 1) := by decide +kernel
theorem dX4_fractionPart_1 : decode cX4_fractionPart 1 = .ok (.istore_n 3, 1) := by decide +kernel
theorem dX4_fractionPart_2 : decode cX4_fractionPart 2 = .ok (.iload_n 0, 1) := by decide +kernel
theorem dX4_fractionPart_3 : decode cX4_fractionPart 3 = .ok (.istore 4, 2) := by decide +kernel
theorem dX4_fractionPart_5 : decode cX4_fractionPart 5 = .ok (.iconst 0, 1) := by decide +kernel
theorem dX4_fractionPart_6 : decode cX4_fractionPart 6 = .ok (.istore 5, 2) := by decide +kernel
theorem dX4_fractionPart_8 : decode cX4_fractionPart 8 = .ok (.iload 5, 2) := by decide +kernel
theorem dX4_fractionPart_10 : decode cX4_fractionPart 10 = .ok (.bipush 100, 2) := by decide +kernel
theorem dX4_fractionPart_12 : decode cX4_fractionPart 12 = .ok (.if_icmp .ge 27, 3) := by decide +kernel
theorem dX4_fractionPart_15 : decode cX4_fractionPart 15 = .ok (.iload 4, 2) := by decide +kernel
theorem dX4_fractionPart_17 : decode cX4_fractionPart 17 = .ok (.ifCond .eq 22, 3) := by decide +kernel
theorem dX4_fractionPart_20 : decode cX4_fractionPart 20 = .ok (.iload_n 3, 1) := by decide +kernel
theorem dX4_fractionPart_21 : decode cX4_fractionPart 21 = .ok (.iload 4, 2) := by decide +kernel
theorem dX4_fractionPart_23 : decode cX4_fractionPart 23 = .ok (.irem, 1) := by decide +kernel
theorem dX4_fractionPart_24 : decode cX4_fractionPart 24 = .ok (.istore 6, 2) := by decide +kernel
theorem dX4_fractionPart_26 : decode cX4_fractionPart 26 = .ok (.iload 4, 2) := by decide +kernel
theorem dX4_fractionPart_28 : decode cX4_fractionPart 28 = .ok (.istore_n 3, 1) := by decide +kernel
theorem dX4_fractionPart_29 : decode cX4_fractionPart 29 = .ok (.iload 6, 2) := by decide +kernel
theorem dX4_fractionPart_31 : decode cX4_fractionPart 31 = .ok (.istore 4, 2) := by decide +kernel
theorem dX4_fractionPart_33 : decode cX4_fractionPart 33 = .ok (.iinc 5 1, 3) := by decide +kernel
theorem dX4_fractionPart_36 : decode cX4_fractionPart 36 = .ok (.goto (-28), 3) := by decide +kernel
theorem dX4_fractionPart_39 : decode cX4_fractionPart 39 = .ok (.iload_n 3, 1) := by decide +kernel
theorem dX4_fractionPart_40 : decode cX4_fractionPart 40 = .ok (.ifCond .ne 5, 3) := by decide +kernel
theorem dX4_fractionPart_43 : decode cX4_fractionPart 43 = .ok (.iconst 0, 1) := by decide +kernel
theorem dX4_fractionPart_44 : decode cX4_fractionPart 44 = .ok (.ireturn, 1) := by decide +kernel
theorem dX4_fractionPart_45 : decode cX4_fractionPart 45 = .ok (.iload_n 2, 1) := by decide +kernel
theorem dX4_fractionPart_46 : decode cX4_fractionPart 46 = .ok (.ifCond .eq 9, 3) := by decide +kernel
theorem dX4_fractionPart_49 : decode cX4_fractionPart 49 = .ok (.iload_n 0, 1) := by decide +kernel
theorem dX4_fractionPart_50 : decode cX4_fractionPart 50 = .ok (.iload_n 3, 1) := by decide +kernel
theorem dX4_fractionPart_51 : decode cX4_fractionPart 51 = .ok (.idiv, 1) := by decide +kernel
theorem dX4_fractionPart_52 : decode cX4_fractionPart 52 = .ok (.goto 6, 3) := by decide +kernel
theorem dX4_fractionPart_55 : decode cX4_fractionPart 55 = .ok (.iload_n 1, 1) := by decide +kernel
theorem dX4_fractionPart_56 : decode cX4_fractionPart 56 = .ok (.iload_n 3, 1) := by decide +kernel
theorem dX4_fractionPart_57 : decode cX4_fractionPart 57 = .ok (.idiv, 1) := by decide +kernel
theorem dX4_fractionPart_58 : decode cX4_fractionPart 58 = .ok (.ireturn, 1) := by decide +kernel
theorem dX5_init_0 : decode cX5_init 0 = .ok (.aload_n 0, 1) := by decide +kernel
theorem dX5_init_1 : decode cX5_init 1 = .ok (.invokespecial 1, 3) := by decide +kernel
theorem dX5_init_4 : decode cX5_init 4 = .ok (.aload_n 0, 1) := by decide +kernel
theorem dX5_init_5 : decode cX5_init 5 = .ok (.bipush 48, 2) := by decide +kernel
theorem dX5_init_7 : decode cX5_init 7 = .ok (.newarray .int, 2) := by decide +kernel
theorem dX5_init_9 : decode cX5_init 9 = .ok (.putfield 7, 3) := by decide +kernel
theorem dX5_init_12 : decode cX5_init 12 = .ok (.aload_n 0, 1) := by decide +kernel
theorem dX5_init_13 : decode cX5_init 13 = .ok (.iconst 5, 1) := by decide +kernel
theorem dX5_init_14 : decode cX5_init 14 = .ok (.newarray .int, 2) := by decide +kernel
theorem dX5_init_16 : decode cX5_init 16 = .ok (.putfield 13, 3) := by decide +kernel
theorem dX5_init_19 : decode cX5_init 19 = .ok (.aload_n 0, 1) := by decide +kernel
theorem dX5_init_20 : decode cX5_init 20 = .ok (.iconst 5, 1) := by decide +kernel
theorem dX5_init_21 : decode cX5_init 21 = .ok (.newarray .int, 2) := by decide +kernel
theorem dX5_init_23 : decode cX5_init 23 = .ok (.putfield 16, 3) := by decide +kernel
theorem dX5_init_26 : decode cX5_init 26 = .ok (.aload_n 0, 1) := by decide +kernel
theorem dX5_init_27 : decode cX5_init 27 = .ok (.iconst 5, 1) := by decide +kernel
theorem dX5_init_28 : decode cX5_init 28 = .ok (.newarray .int, 2) := by decide +kernel
theorem dX5_init_30 : decode cX5_init 30 = .ok (.putfield 19, 3) := by decide +kernel
theorem dX5_init_33 : decode cX5_init 33 = .ok (.aload_n 0, 1) := by decide +kernel
theorem dX5_init_34 : decode cX5_init 34 = .ok (.iconst 5, 1) := by decide +kernel
theorem dX5_init_35 : decode cX5_init 35 = .ok (.newarray .int, 2) := by decide +kernel
theorem dX5_init_37 : decode cX5_init 37 = .ok (.putfield 22, 3) := by decide +kernel
theorem dX5_init_40 : decode cX5_init 40 = .ok (.aload_n 0, 1) := by decide +kernel
theorem dX5_init_41 : decode cX5_init 41 = .ok (.bipush 15, 2) := by decide +kernel
theorem dX5_init_43 : decode cX5_init 43 = .ok (.newarray .int, 2) := by decide +kernel
theorem dX5_init_45 : decode cX5_init 45 = .ok (.putfield 25, 3) := by decide +kernel
theorem dX5_init_48 : decode cX5_init 48 = .ok (.aload_n 0, 1) := by decide +kernel
theorem dX5_init_49 : decode cX5_init 49 = .ok (.bipush 15, 2) := by decide +kernel
theorem dX5_init_51 : decode cX5_init 51 = .ok (.newarray .int, 2) := by decide +kernel
theorem dX5_init_53 : decode cX5_init 53 = .ok (.putfield 28, 3) := by decide +kernel
theorem dX5_init_56 : decode cX5_init 56 = .ok (.aload_n 0, 1) := by decide +kernel
theorem dX5_init_57 : decode cX5_init 57 = .ok (.bipush 17, 2) := by decide +kernel
theorem dX5_init_59 : decode cX5_init 59 = .ok (.newarray .int, 2) := by decide +kernel
theorem dX5_init_61 : decode cX5_init 61 = .ok (.putfield 31, 3) := by decide +kernel
theorem dX5_init_64 : decode cX5_init 64 = .ok (.aload_n 0, 1) := by decide +kernel
theorem dX5_init_65 : decode cX5_init 65 = .ok (.bipush 17, 2) := by decide +kernel
theorem dX5_init_67 : decode cX5_init 67 = .ok (.newarray .int, 2) := by decide +kernel
theorem dX5_init_69 : decode cX5_init 69 = .ok (.putfield 34, 3) := by decide +kernel
theorem dX5_init_72 : decode cX5_init 72 = .ok (.aload_n 0, 1) := by decide +kernel
theorem dX5_init_73 : decode cX5_init 73 = .ok (.sipush 238, 3) := by decide +kernel
theorem dX5_init_76 : decode cX5_init 76 = .ok (.newarray .int, 2) := by decide +kernel
theorem dX5_init_78 : decode cX5_init 78 = .ok (.putfield 37, 3) := by decide +kernel
theorem dX5_init_81 : decode cX5_init 81 = .ok (.aload_n 0, 1) := by decide +kernel
theorem dX5_init_82 : decode cX5_init 82 = .ok (.bipush 34, 2) := by decide +kernel
theorem dX5_init_84 : decode cX5_init 84 = .ok (.newarray .int, 2) := by decide +kernel
theorem dX5_init_86 : decode cX5_init 86 = .ok (.putfield 40, 3) := by decide +kernel
theorem dX5_init_89 : decode cX5_init 89 = .ok (.aload_n 0, 1) := by decide +kernel
theorem dX5_init_90 : decode cX5_init 90 = .ok (.iconst 2, 1) := by decide +kernel
theorem dX5_init_91 : decode cX5_init 91 = .ok (.newarray .boolean, 2) := by decide +kernel
theorem dX5_init_93 : decode cX5_init 93 = .ok (.putfield 43, 3) := by decide +kernel
theorem dX5_init_96 : decode cX5_init 96 = .ok (.aload_n 0, 1) := by decide +kernel
theorem dX5_init_97 : decode cX5_init 97 = .ok (.bipush 6, 2) := by decide +kernel
theorem dX5_init_99 : decode cX5_init 99 = .ok (.newarray .int, 2) := by decide +kernel
theorem dX5_init_101 : decode cX5_init 101 = .ok (.putfield 47, 3) := by decide +kernel
theorem dX5_init_104 : decode cX5_init 104 = .ok (.aload_n 0, 1) := by decide +kernel
theorem dX5_init_105 : decode cX5_init 105 = .ok (.bipush 6, 2) := by decide +kernel
theorem dX5_init_107 : decode cX5_init 107 = .ok (.newarray .int, 2) := by decide +kernel
theorem dX5_init_109 : decode cX5_init 109 = .ok (.putfield 50, 3) := by decide +kernel
theorem dX5_init_112 : decode cX5_init 112 = .ok (.aload_n 0, 1) := by decide +kernel
theorem dX5_init_113 : decode cX5_init 113 = .ok (.bipush 6, 2) := by decide +kernel
theorem dX5_init_115 : decode cX5_init 115 = .ok (.newarray .int, 2) := by decide +kernel
theorem dX5_init_117 : decode cX5_init 117 = .ok (.putfield 53, 3) := by decide +kernel
theorem dX5_init_120 : decode cX5_init 120 = .ok (.aload_n 0, 1) := by decide +kernel
theorem dX5_init_121 : decode cX5_init 121 = .ok (.bipush 6, 2) := by decide +kernel
theorem dX5_init_123 : decode cX5_init 123 = .ok (.newarray .int, 2) := by decide +kernel
theorem dX5_init_125 : decode cX5_init 125 = .ok (.putfield 56, 3) := by decide +kernel
theorem dX5_init_128 : decode cX5_init 128 = .ok (.aload_n 0, 1) := by decide +kernel
theorem dX5_init_129 : decode cX5_init 129 = .ok (.bipush 6, 2) := by decide +kernel
theorem dX5_init_131 : decode cX5_init 131 = .ok (.newarray .int, 2) := by decide +kernel
theorem dX5_init_133 : decode cX5_init 133 = .ok (.putfield 59, 3) := by decide +kernel
theorem dX5_init_136 : decode cX5_init 136 = .ok (.aload_n 0, 1) := by decide +kernel
theorem dX5_init_137 : decode cX5_init 137 = .ok (.bipush 10, 2) := by decide +kernel
theorem dX5_init_139 : decode cX5_init 139 = .ok (.newarray .int, 2) := by decide +kernel
theorem dX5_init_141 : decode cX5_init 141 = .ok (.putfield 62, 3) := by decide +kernel
theorem dX5_init_144 : decode cX5_init 144 = .ok (.aload_n 0, 1) := by decide +kernel
theorem dX5_init_145 : decode cX5_init 145 = .ok (.bipush 32, 2) := by decide +kernel
theorem dX5_init_147 : decode cX5_init 147 = .ok (.newarray .int, 2) := by decide +kernel
theorem dX5_init_149 : decode cX5_init 149 = .ok (.putfield 65, 3) := by decide +kernel
theorem dX5_init_152 : decode cX5_init 152 = .ok (.return_, 1) := by decide +kernel
theorem dX5_in_0 : decode cX5_in 0 = .ok (.lload_n 0, 1) := by decide +kernel
theorem dX5_in_1 : decode cX5_in 1 = .ok (.lload_n 2, 1) := by decide +kernel
theorem dX5_in_2 : decode cX5_in 2 = .ok (.lcmp, 1) := by decide +kernel
theorem dX5_in_3 : decode cX5_in 3 = .ok (.ifCond .lt 14, 3) := by decide +kernel
theorem dX5_in_6 : decode cX5_in 6 = .ok (.lload_n 0, 1) := by decide +kernel
theorem dX5_in_7 : decode cX5_in 7 = .ok (.lload 4, 2) := by decide +kernel
theorem dX5_in_9 : decode cX5_in 9 = .ok (.lcmp, 1) := by decide +kernel
theorem dX5_in_10 : decode cX5_in 10 = .ok (.ifCond .gt 7, 3) := by decide +kernel
theorem dX5_in_13 : decode cX5_in 13 = .ok (.iconst 1, 1) := by decide +kernel
theorem dX5_in_14 : decode cX5_in 14 = .ok (.goto 4, 3) := by decide +kernel
theorem dX5_in_17 : decode cX5_in 17 = .ok (.iconst 0, 1) := by decide +kernel
theorem dX5_in_18 : decode cX5_in 18 = .ok (.ireturn, 1) := by decide +kernel
theorem dX5_has_0 : decode cX5_has 0 = .ok (.iload_n 0, 1) := by decide +kernel
theorem dX5_has_1 : decode cX5_has 1 = .ok (.iload_n 1, 1) := by decide +kernel
theorem dX5_has_2 : decode cX5_has 2 = .ok (.ishr, 1) := by decide +kernel
theorem dX5_has_3 : decode cX5_has 3 = .ok (.iconst 1, 1) := by decide +kernel
theorem dX5_has_4 : decode cX5_has 4 = .ok (.iand, 1) := by decide +kernel
theorem dX5_has_5 : decode cX5_has 5 = .ok (.iconst 1, 1) := by decide +kernel
theorem dX5_has_6 : decode cX5_has 6 = .ok (.if_icmp .ne 7, 3) := by decide +kernel
theorem dX5_has_9 : decode cX5_has 9 = .ok (.iconst 1, 1) := by decide +kernel
theorem dX5_has_10 : decode cX5_has 10 = .ok (.goto 4, 3) := by decide +kernel
theorem dX5_has_13 : decode cX5_has 13 = .ok (.iconst 0, 1) := by decide +kernel
theorem dX5_has_14 : decode cX5_has 14 = .ok (.ireturn, 1) := by decide +kernel
theorem dX5_many_0 : decode cX5_many 0 = .ok (.iconst 0, 1) := by decide +kernel
theorem dX5_many_1 : decode cX5_many 1 = .ok (.istore_n 1, 1) := by decide +kernel
theorem dX5_many_2 : decode cX5_many 2 = .ok (.iconst 0, 1) := by decide +kernel
theorem dX5_many_3 : decode cX5_many 3 = .ok (.istore_n 2, 1) := by decide +kernel
theorem dX5_many_4 : decode cX5_many 4 = .ok (.iload_n 2, 1) := by decide +kernel
theorem dX5_many_5 : decode cX5_many 5 = .ok (.bipush 10, 2) := by decide +kernel
theorem dX5_many_7 : decode cX5_many 7 = .ok (.if_icmp .ge 17, 3) := by decide +kernel
theorem dX5_many_10 : decode cX5_many 10 = .ok (.iload_n 1, 1) := by decide +kernel
theorem dX5_many_11 : decode cX5_many 11 = .ok (.iload_n 0, 1) := by decide +kernel
theorem dX5_many_12 : decode cX5_many 12 = .ok (.iload_n 2, 1) := by decide +kernel
theorem dX5_many_13 : decode cX5_many 13 = .ok (.ishr, 1) := by decide +kernel
theorem dX5_many_14 : decode cX5_many 14 = .ok (.iconst 1, 1) := by decide +kernel
theorem dX5_many_15 : decode cX5_many 15 = .ok (.iand, 1) := by decide +kernel
theorem dX5_many_16 : decode cX5_many 16 = .ok (.iadd, 1) := by decide +kernel
theorem dX5_many_17 : decode cX5_many 17 = .ok (.istore_n 1, 1) := by decide +kernel
theorem dX5_many_18 : decode cX5_many 18 = .ok (.iinc 2 1, 3) := by decide +kernel
theorem dX5_many_21 : decode cX5_many 21 = .ok (.goto (-17), 3) := by decide +kernel
theorem dX5_many_24 : decode cX5_many 24 = .ok (.iload_n 1, 1) := by decide +kernel
theorem dX5_many_25 : decode cX5_many 25 = .ok (.ireturn, 1) := by decide +kernel
theorem dX5_noMule_0 : decode cX5_noMule 0 = .ok (.iload_n 1, 1) := by decide +kernel
theorem dX5_noMule_1 : decode cX5_noMule 1 = .ok (.i2l, 1) := by decide +kernel
theorem dX5_noMule_2 : decode cX5_noMule 2 = .ok (.lconst 0, 1) := by decide +kernel
theorem dX5_noMule_3 : decode cX5_noMule 3 = .ok (.aload_n 0, 1) := by decide +kernel
theorem dX5_noMule_4 : decode cX5_noMule 4 = .ok (.getfield 72, 3) := by decide +kernel
theorem dX5_noMule_7 : decode cX5_noMule 7 = .ok (.iconst 1, 1) := by decide +kernel
theorem dX5_noMule_8 : decode cX5_noMule 8 = .ok (.isub, 1) := by decide +kernel
theorem dX5_noMule_9 : decode cX5_noMule 9 = .ok (.i2l, 1) := by decide +kernel
theorem dX5_noMule_10 : decode cX5_noMule 10 = .ok (.invokestatic 75, 3) := by decide +kernel
theorem dX5_noMule_13 : decode cX5_noMule 13 = .ok (.ifCond .ne 7, 3) := by decide +kernel
theorem dX5_noMule_16 : decode cX5_noMule 16 = .ok (.iconst 1, 1) := by decide +kernel
theorem dX5_noMule_17 : decode cX5_noMule 17 = .ok (.goto 4, 3) := by decide +kernel
theorem dX5_noMule_20 : decode cX5_noMule 20 = .ok (.iconst 0, 1) := by decide +kernel
theorem dX5_noMule_21 : decode cX5_noMule 21 = .ok (.ireturn, 1) := by decide +kernel
theorem dX5_noArticle_0 : decode cX5_noArticle 0 = .ok (.iload_n 1, 1) := by decide +kernel
theorem dX5_noArticle_1 : decode cX5_noArticle 1 = .ok (.i2l, 1) := by decide +kernel
theorem dX5_noArticle_2 : decode cX5_noArticle 2 = .ok (.lconst 0, 1) := by decide +kernel
theorem dX5_noArticle_3 : decode cX5_noArticle 3 = .ok (.aload_n 0, 1) := by decide +kernel
theorem dX5_noArticle_4 : decode cX5_noArticle 4 = .ok (.getfield 79, 3) := by decide +kernel
theorem dX5_noArticle_7 : decode cX5_noArticle 7 = .ok (.iconst 1, 1) := by decide +kernel
theorem dX5_noArticle_8 : decode cX5_noArticle 8 = .ok (.isub, 1) := by decide +kernel
theorem dX5_noArticle_9 : decode cX5_noArticle 9 = .ok (.i2l, 1) := by decide +kernel
theorem dX5_noArticle_10 : decode cX5_noArticle 10 = .ok (.invokestatic 75, 3) := by decide +kernel
theorem dX5_noArticle_13 : decode cX5_noArticle 13 = .ok (.ifCond .ne 7, 3) := by decide +kernel
theorem dX5_noArticle_16 : decode cX5_noArticle 16 = .ok (.iconst 1, 1) := by decide +kernel
theorem dX5_noArticle_17 : decode cX5_noArticle 17 = .ok (.goto 4, 3) := by decide +kernel
theorem dX5_noArticle_20 : decode cX5_noArticle 20 = .ok (.iconst 0, 1) := by decide +kernel
theorem dX5_noArticle_21 : decode cX5_noArticle 21 = .ok (.ireturn, 1) := by decide +kernel
theorem dX5_write_0 : decode cX5_write 0 = .ok (.aload_n 0, 1) := by decide +kernel
theorem dX5_write_1 : decode cX5_write 1 = .ok (.iconst 0, 1) := by decide +kernel
theorem dX5_write_2 : decode cX5_write 2 = .ok (.putfield 68, 3) := by decide +kernel
theorem dX5_write_5 : decode cX5_write 5 = .ok (.iload_n 1, 1) := by decide +kernel
theorem dX5_write_6 : decode cX5_write 6 = .ok (.i2l, 1) := by decide +kernel
theorem dX5_write_7 : decode cX5_write 7 = .ok (.lconst 0, 1) := by decide +kernel
theorem dX5_write_8 : decode cX5_write 8 = .ok (.ldc2_w 82, 3) := by decide +kernel
theorem dX5_write_11 : decode cX5_write 11 = .ok (.invokestatic 75, 3) := by decide +kernel
theorem dX5_write_14 : decode cX5_write 14 = .ok (.ifCond .ne 6, 3) := by decide +kernel
theorem dX5_write_17 : decode cX5_write 17 = .ok (.bipush (-2), 2) := by decide +kernel
theorem dX5_write_19 : decode cX5_write 19 = .ok (.ireturn, 1) := by decide +kernel
theorem dX5_write_20 : decode cX5_write 20 = .ok (.aload_n 0, 1) := by decide +kernel
theorem dX5_write_21 : decode cX5_write 21 = .ok (.getfield 84, 3) := by decide +kernel
theorem dX5_write_24 : decode cX5_write 24 = .ok (.bipush 48, 2) := by decide +kernel
theorem dX5_write_26 : decode cX5_write 26 = .ok (.if_icmp .ne 6, 3) := by decide +kernel
theorem dX5_write_29 : decode cX5_write 29 = .ok (.bipush (-4), 2) := by decide +kernel
theorem dX5_write_31 : decode cX5_write 31 = .ok (.ireturn, 1) := by decide +kernel
theorem dX5_write_32 : decode cX5_write 32 = .ok (.aload_n 0, 1) := by decide +kernel
theorem dX5_write_33 : decode cX5_write 33 = .ok (.getfield 7, 3) := by decide +kernel
theorem dX5_write_36 : decode cX5_write 36 = .ok (.aload_n 0, 1) := by decide +kernel
theorem dX5_write_37 : decode cX5_write 37 = .ok (.getfield 84, 3) := by decide +kernel
theorem dX5_write_40 : decode cX5_write 40 = .ok (.iload_n 1, 1) := by decide +kernel
theorem dX5_write_41 : decode cX5_write 41 = .ok (.iastore, 1) := by decide +kernel
theorem dX5_write_42 : decode cX5_write 42 = .ok (.aload_n 0, 1) := by decide +kernel
theorem dX5_write_43 : decode cX5_write 43 = .ok (.dup, 1) := by decide +kernel
theorem dX5_write_44 : decode cX5_write 44 = .ok (.getfield 84, 3) := by decide +kernel
theorem dX5_write_47 : decode cX5_write 47 = .ok (.iconst 1, 1) := by decide +kernel
theorem dX5_write_48 : decode cX5_write 48 = .ok (.iadd, 1) := by decide +kernel
theorem dX5_write_49 : decode cX5_write 49 = .ok (.putfield 84, 3) := by decide +kernel
theorem dX5_write_52 : decode cX5_write 52 = .ok (.aload_n 0, 1) := by decide +kernel
theorem dX5_write_53 : decode cX5_write 53 = .ok (.getfield 84, 3) := by decide +kernel
theorem dX5_write_56 : decode cX5_write 56 = .ok (.ireturn, 1) := by decide +kernel
theorem dX5_wipe_0 : decode cX5_wipe 0 = .ok (.aload_n 0, 1) := by decide +kernel
theorem dX5_wipe_1 : decode cX5_wipe 1 = .ok (.iconst 0, 1) := by decide +kernel
theorem dX5_wipe_2 : decode cX5_wipe 2 = .ok (.putfield 68, 3) := by decide +kernel
theorem dX5_wipe_5 : decode cX5_wipe 5 = .ok (.aload_n 0, 1) := by decide +kernel
theorem dX5_wipe_6 : decode cX5_wipe 6 = .ok (.getfield 84, 3) := by decide +kernel
theorem dX5_wipe_9 : decode cX5_wipe 9 = .ok (.istore_n 1, 1) := by decide +kernel
theorem dX5_wipe_10 : decode cX5_wipe 10 = .ok (.aload_n 0, 1) := by decide +kernel
theorem dX5_wipe_11 : decode cX5_wipe 11 = .ok (.iconst 0, 1) := by decide +kernel
theorem dX5_wipe_12 : decode cX5_wipe 12 = .ok (.putfield 84, 3) := by decide +kernel
theorem dX5_wipe_15 : decode cX5_wipe 15 = .ok (.iload_n 1, 1) := by decide +kernel
theorem dX5_wipe_16 : decode cX5_wipe 16 = .ok (.ireturn, 1) := by decide +kernel
theorem dX5_figure_0 : decode cX5_figure 0 = .ok (.aload_n 0, 1) := by decide +kernel
theorem dX5_figure_1 : decode cX5_figure 1 = .ok (.getfield 87, 3) := by decide +kernel
theorem dX5_figure_4 : decode cX5_figure 4 = .ok (.aload_n 0, 1) := by decide +kernel
theorem dX5_figure_5 : decode cX5_figure 5 = .ok (.getfield 84, 3) := by decide +kernel
theorem dX5_figure_8 : decode cX5_figure 8 = .ok (.if_icmp .eq 25, 3) := by decide +kernel
theorem dX5_figure_11 : decode cX5_figure 11 = .ok (.aload_n 0, 1) := by decide +kernel
theorem dX5_figure_12 : decode cX5_figure 12 = .ok (.getfield 7, 3) := by decide +kernel
theorem dX5_figure_15 : decode cX5_figure 15 = .ok (.aload_n 0, 1) := by decide +kernel
theorem dX5_figure_16 : decode cX5_figure 16 = .ok (.getfield 87, 3) := by decide +kernel
theorem dX5_figure_19 : decode cX5_figure 19 = .ok (.iaload, 1) := by decide +kernel
theorem dX5_figure_20 : decode cX5_figure 20 = .ok (.bipush 48, 2) := by decide +kernel
theorem dX5_figure_22 : decode cX5_figure 22 = .ok (.isub, 1) := by decide +kernel
theorem dX5_figure_23 : decode cX5_figure 23 = .ok (.i2l, 1) := by decide +kernel
theorem dX5_figure_24 : decode cX5_figure 24 = .ok (.lconst 0, 1) := by decide +kernel
theorem dX5_figure_25 : decode cX5_figure 25 = .ok (.iload_n 1, 1) := by decide +kernel
theorem dX5_figure_26 : decode cX5_figure 26 = .ok (.i2l, 1) := by decide +kernel
theorem dX5_figure_27 : decode cX5_figure 27 = .ok (.invokestatic 75, 3) := by decide +kernel
theorem dX5_figure_30 : decode cX5_figure 30 = .ok (.ifCond .ne 6, 3) := by decide +kernel
theorem dX5_figure_33 : decode cX5_figure 33 = .ok (.bipush (-9), 2) := by decide +kernel
theorem dX5_figure_35 : decode cX5_figure 35 = .ok (.ireturn, 1) := by decide +kernel
theorem dX5_figure_36 : decode cX5_figure 36 = .ok (.aload_n 0, 1) := by decide +kernel
theorem dX5_figure_37 : decode cX5_figure 37 = .ok (.dup, 1) := by decide +kernel
theorem dX5_figure_38 : decode cX5_figure 38 = .ok (.getfield 87, 3) := by decide +kernel
theorem dX5_figure_41 : decode cX5_figure 41 = .ok (.iconst 1, 1) := by decide +kernel
theorem dX5_figure_42 : decode cX5_figure 42 = .ok (.iadd, 1) := by decide +kernel
theorem dX5_figure_43 : decode cX5_figure 43 = .ok (.putfield 87, 3) := by decide +kernel
theorem dX5_figure_46 : decode cX5_figure 46 = .ok (.aload_n 0, 1) := by decide +kernel
theorem dX5_figure_47 : decode cX5_figure 47 = .ok (.getfield 7, 3) := by decide +kernel
theorem dX5_figure_50 : decode cX5_figure 50 = .ok (.aload_n 0, 1) := by decide +kernel
theorem dX5_figure_51 : decode cX5_figure 51 = .ok (.getfield 87, 3) := by decide +kernel
theorem dX5_figure_54 : decode cX5_figure 54 = .ok (.iconst 1, 1) := by decide +kernel
theorem dX5_figure_55 : decode cX5_figure 55 = .ok (.isub, 1) := by decide +kernel
theorem dX5_figure_56 : decode cX5_figure 56 = .ok (.iaload, 1) := by decide +kernel
theorem dX5_figure_57 : decode cX5_figure 57 = .ok (.bipush 48, 2) := by decide +kernel
theorem dX5_figure_59 : decode cX5_figure 59 = .ok (.isub, 1) := by decide +kernel
theorem dX5_figure_60 : decode cX5_figure 60 = .ok (.ireturn, 1) := by decide +kernel
theorem dX5_readOneArticle_0 : decode cX5_readOneArticle 0 = .ok (.iconst 0, 1) := by decide +kernel
theorem dX5_readOneArticle_1 : decode cX5_readOneArticle 1 = .ok (.istore_n 1, 1) := by decide +kernel
theorem dX5_readOneArticle_2 : decode cX5_readOneArticle 2 = .ok (.iload_n 1, 1) := by decide +kernel
theorem dX5_readOneArticle_3 : decode cX5_readOneArticle 3 = .ok (.iconst 3, 1) := by decide +kernel
theorem dX5_readOneArticle_4 : decode cX5_readOneArticle 4 = .ok (.if_icmp .ge 47, 3) := by decide +kernel
theorem dX5_readOneArticle_7 : decode cX5_readOneArticle 7 = .ok (.aload_n 0, 1) := by decide +kernel
theorem dX5_readOneArticle_8 : decode cX5_readOneArticle 8 = .ok (.iload_n 1, 1) := by decide +kernel
theorem dX5_readOneArticle_9 : decode cX5_readOneArticle 9 = .ok (.iconst 1, 1) := by decide +kernel
theorem dX5_readOneArticle_10 : decode cX5_readOneArticle 10 = .ok (.if_icmp .ne 7, 3) := by decide +kernel
theorem dX5_readOneArticle_13 : decode cX5_readOneArticle 13 = .ok (.iconst 3, 1) := by decide +kernel
theorem dX5_readOneArticle_14 : decode cX5_readOneArticle 14 = .ok (.goto 5, 3) := by decide +kernel
theorem dX5_readOneArticle_17 : decode cX5_readOneArticle 17 = .ok (.bipush 9, 2) := by decide +kernel
theorem dX5_readOneArticle_19 : decode cX5_readOneArticle 19 = .ok (.invokevirtual 90, 3) := by decide +kernel
theorem dX5_readOneArticle_22 : decode cX5_readOneArticle 22 = .ok (.istore_n 2, 1) := by decide +kernel
theorem dX5_readOneArticle_23 : decode cX5_readOneArticle 23 = .ok (.iload_n 2, 1) := by decide +kernel
theorem dX5_readOneArticle_24 : decode cX5_readOneArticle 24 = .ok (.bipush (-9), 2) := by decide +kernel
theorem dX5_readOneArticle_26 : decode cX5_readOneArticle 26 = .ok (.if_icmp .ne 5, 3) := by decide +kernel
theorem dX5_readOneArticle_29 : decode cX5_readOneArticle 29 = .ok (.iconst 0, 1) := by decide +kernel
theorem dX5_readOneArticle_30 : decode cX5_readOneArticle 30 = .ok (.ireturn, 1) := by decide +kernel
theorem dX5_readOneArticle_31 : decode cX5_readOneArticle 31 = .ok (.aload_n 0, 1) := by decide +kernel
theorem dX5_readOneArticle_32 : decode cX5_readOneArticle 32 = .ok (.getfield 28, 3) := by decide +kernel
theorem dX5_readOneArticle_35 : decode cX5_readOneArticle 35 = .ok (.iconst 3, 1) := by decide +kernel
theorem dX5_readOneArticle_36 : decode cX5_readOneArticle 36 = .ok (.aload_n 0, 1) := by decide +kernel
theorem dX5_readOneArticle_37 : decode cX5_readOneArticle 37 = .ok (.getfield 94, 3) := by decide +kernel
theorem dX5_readOneArticle_40 : decode cX5_readOneArticle 40 = .ok (.imul, 1) := by decide +kernel
theorem dX5_readOneArticle_41 : decode cX5_readOneArticle 41 = .ok (.iload_n 1, 1) := by decide +kernel
theorem dX5_readOneArticle_42 : decode cX5_readOneArticle 42 = .ok (.iadd, 1) := by decide +kernel
theorem dX5_readOneArticle_43 : decode cX5_readOneArticle 43 = .ok (.iload_n 2, 1) := by decide +kernel
theorem dX5_readOneArticle_44 : decode cX5_readOneArticle 44 = .ok (.iastore, 1) := by decide +kernel
theorem dX5_readOneArticle_45 : decode cX5_readOneArticle 45 = .ok (.iinc 1 1, 3) := by decide +kernel
theorem dX5_readOneArticle_48 : decode cX5_readOneArticle 48 = .ok (.goto (-46), 3) := by decide +kernel
theorem dX5_readOneArticle_51 : decode cX5_readOneArticle 51 = .ok (.aload_n 0, 1) := by decide +kernel
theorem dX5_readOneArticle_52 : decode cX5_readOneArticle 52 = .ok (.dup, 1) := by decide +kernel
theorem dX5_readOneArticle_53 : decode cX5_readOneArticle 53 = .ok (.getfield 94, 3) := by decide +kernel
theorem dX5_readOneArticle_56 : decode cX5_readOneArticle 56 = .ok (.iconst 1, 1) := by decide +kernel
theorem dX5_readOneArticle_57 : decode cX5_readOneArticle 57 = .ok (.iadd, 1) := by decide +kernel
theorem dX5_readOneArticle_58 : decode cX5_readOneArticle 58 = .ok (.putfield 94, 3) := by decide +kernel
theorem dX5_readOneArticle_61 : decode cX5_readOneArticle 61 = .ok (.iconst 1, 1) := by decide +kernel
theorem dX5_readOneArticle_62 : decode cX5_readOneArticle 62 = .ok (.ireturn, 1) := by decide +kernel
theorem dX5_readOneMule_0 : decode cX5_readOneMule 0 = .ok (.iconst 0, 1) := by decide +kernel
theorem dX5_readOneMule_1 : decode cX5_readOneMule 1 = .ok (.istore_n 1, 1) := by decide +kernel
theorem dX5_readOneMule_2 : decode cX5_readOneMule 2 = .ok (.iload_n 1, 1) := by decide +kernel
theorem dX5_readOneMule_3 : decode cX5_readOneMule 3 = .ok (.iconst 3, 1) := by decide +kernel
theorem dX5_readOneMule_4 : decode cX5_readOneMule 4 = .ok (.if_icmp .ge 46, 3) := by decide +kernel
theorem dX5_readOneMule_7 : decode cX5_readOneMule 7 = .ok (.aload_n 0, 1) := by decide +kernel
theorem dX5_readOneMule_8 : decode cX5_readOneMule 8 = .ok (.iload_n 1, 1) := by decide +kernel
theorem dX5_readOneMule_9 : decode cX5_readOneMule 9 = .ok (.ifCond .ne 8, 3) := by decide +kernel
theorem dX5_readOneMule_12 : decode cX5_readOneMule 12 = .ok (.bipush 9, 2) := by decide +kernel
theorem dX5_readOneMule_14 : decode cX5_readOneMule 14 = .ok (.goto 4, 3) := by decide +kernel
theorem dX5_readOneMule_17 : decode cX5_readOneMule 17 = .ok (.iconst 3, 1) := by decide +kernel
theorem dX5_readOneMule_18 : decode cX5_readOneMule 18 = .ok (.invokevirtual 90, 3) := by decide +kernel
theorem dX5_readOneMule_21 : decode cX5_readOneMule 21 = .ok (.istore_n 2, 1) := by decide +kernel
theorem dX5_readOneMule_22 : decode cX5_readOneMule 22 = .ok (.iload_n 2, 1) := by decide +kernel
theorem dX5_readOneMule_23 : decode cX5_readOneMule 23 = .ok (.bipush (-9), 2) := by decide +kernel
theorem dX5_readOneMule_25 : decode cX5_readOneMule 25 = .ok (.if_icmp .ne 5, 3) := by decide +kernel
theorem dX5_readOneMule_28 : decode cX5_readOneMule 28 = .ok (.iconst 0, 1) := by decide +kernel
theorem dX5_readOneMule_29 : decode cX5_readOneMule 29 = .ok (.ireturn, 1) := by decide +kernel
theorem dX5_readOneMule_30 : decode cX5_readOneMule 30 = .ok (.aload_n 0, 1) := by decide +kernel
theorem dX5_readOneMule_31 : decode cX5_readOneMule 31 = .ok (.getfield 25, 3) := by decide +kernel
theorem dX5_readOneMule_34 : decode cX5_readOneMule 34 = .ok (.iconst 3, 1) := by decide +kernel
theorem dX5_readOneMule_35 : decode cX5_readOneMule 35 = .ok (.aload_n 0, 1) := by decide +kernel
theorem dX5_readOneMule_36 : decode cX5_readOneMule 36 = .ok (.getfield 97, 3) := by decide +kernel
theorem dX5_readOneMule_39 : decode cX5_readOneMule 39 = .ok (.imul, 1) := by decide +kernel
theorem dX5_readOneMule_40 : decode cX5_readOneMule 40 = .ok (.iload_n 1, 1) := by decide +kernel
theorem dX5_readOneMule_41 : decode cX5_readOneMule 41 = .ok (.iadd, 1) := by decide +kernel
theorem dX5_readOneMule_42 : decode cX5_readOneMule 42 = .ok (.iload_n 2, 1) := by decide +kernel
theorem dX5_readOneMule_43 : decode cX5_readOneMule 43 = .ok (.iastore, 1) := by decide +kernel
theorem dX5_readOneMule_44 : decode cX5_readOneMule 44 = .ok (.iinc 1 1, 3) := by decide +kernel
theorem dX5_readOneMule_47 : decode cX5_readOneMule 47 = .ok (.goto (-45), 3) := by decide +kernel
theorem dX5_readOneMule_50 : decode cX5_readOneMule 50 = .ok (.aload_n 0, 1) := by decide +kernel
theorem dX5_readOneMule_51 : decode cX5_readOneMule 51 = .ok (.dup, 1) := by decide +kernel
theorem dX5_readOneMule_52 : decode cX5_readOneMule 52 = .ok (.getfield 97, 3) := by decide +kernel
theorem dX5_readOneMule_55 : decode cX5_readOneMule 55 = .ok (.iconst 1, 1) := by decide +kernel
theorem dX5_readOneMule_56 : decode cX5_readOneMule 56 = .ok (.iadd, 1) := by decide +kernel
theorem dX5_readOneMule_57 : decode cX5_readOneMule 57 = .ok (.putfield 97, 3) := by decide +kernel
theorem dX5_readOneMule_60 : decode cX5_readOneMule 60 = .ok (.iconst 1, 1) := by decide +kernel
theorem dX5_readOneMule_61 : decode cX5_readOneMule 61 = .ok (.ireturn, 1) := by decide +kernel
theorem dX5_readPart_0 : decode cX5_readPart 0 = .ok (.aload_n 0, 1) := by decide +kernel
theorem dX5_readPart_1 : decode cX5_readPart 1 = .ok (.getfield 7, 3) := by decide +kernel
theorem dX5_readPart_4 : decode cX5_readPart 4 = .ok (.aload_n 0, 1) := by decide +kernel
theorem dX5_readPart_5 : decode cX5_readPart 5 = .ok (.getfield 87, 3) := by decide +kernel
theorem dX5_readPart_8 : decode cX5_readPart 8 = .ok (.iaload, 1) := by decide +kernel
theorem dX5_readPart_9 : decode cX5_readPart 9 = .ok (.istore_n 1, 1) := by decide +kernel
theorem dX5_readPart_10 : decode cX5_readPart 10 = .ok (.aload_n 0, 1) := by decide +kernel
theorem dX5_readPart_11 : decode cX5_readPart 11 = .ok (.dup, 1) := by decide +kernel
theorem dX5_readPart_12 : decode cX5_readPart 12 = .ok (.getfield 87, 3) := by decide +kernel
theorem dX5_readPart_15 : decode cX5_readPart 15 = .ok (.iconst 1, 1) := by decide +kernel
theorem dX5_readPart_16 : decode cX5_readPart 16 = .ok (.iadd, 1) := by decide +kernel
theorem dX5_readPart_17 : decode cX5_readPart 17 = .ok (.putfield 87, 3) := by decide +kernel
theorem dX5_readPart_20 : decode cX5_readPart 20 = .ok (.iload_n 1, 1) := by decide +kernel
theorem dX5_readPart_21 : decode cX5_readPart 21 = .ok (.bipush 65, 2) := by decide +kernel
theorem dX5_readPart_23 : decode cX5_readPart 23 = .ok (.if_icmp .ne 16, 3) := by decide +kernel
theorem dX5_readPart_26 : decode cX5_readPart 26 = .ok (.aload_n 0, 1) := by decide +kernel
theorem dX5_readPart_27 : decode cX5_readPart 27 = .ok (.getfield 94, 3) := by decide +kernel
theorem dX5_readPart_30 : decode cX5_readPart 30 = .ok (.iconst 5, 1) := by decide +kernel
theorem dX5_readPart_31 : decode cX5_readPart 31 = .ok (.if_icmp .ge 8, 3) := by decide +kernel
theorem dX5_readPart_34 : decode cX5_readPart 34 = .ok (.aload_n 0, 1) := by decide +kernel
theorem dX5_readPart_35 : decode cX5_readPart 35 = .ok (.invokevirtual 100, 3) := by decide +kernel
theorem dX5_readPart_38 : decode cX5_readPart 38 = .ok (.ireturn, 1) := by decide +kernel
theorem dX5_readPart_39 : decode cX5_readPart 39 = .ok (.iload_n 1, 1) := by decide +kernel
theorem dX5_readPart_40 : decode cX5_readPart 40 = .ok (.bipush 77, 2) := by decide +kernel
theorem dX5_readPart_42 : decode cX5_readPart 42 = .ok (.if_icmp .ne 16, 3) := by decide +kernel
theorem dX5_readPart_45 : decode cX5_readPart 45 = .ok (.aload_n 0, 1) := by decide +kernel
theorem dX5_readPart_46 : decode cX5_readPart 46 = .ok (.getfield 97, 3) := by decide +kernel
theorem dX5_readPart_49 : decode cX5_readPart 49 = .ok (.iconst 5, 1) := by decide +kernel
theorem dX5_readPart_50 : decode cX5_readPart 50 = .ok (.if_icmp .ge 8, 3) := by decide +kernel
theorem dX5_readPart_53 : decode cX5_readPart 53 = .ok (.aload_n 0, 1) := by decide +kernel
theorem dX5_readPart_54 : decode cX5_readPart 54 = .ok (.invokevirtual 104, 3) := by decide +kernel
theorem dX5_readPart_57 : decode cX5_readPart 57 = .ok (.ireturn, 1) := by decide +kernel
theorem dX5_readPart_58 : decode cX5_readPart 58 = .ok (.aload_n 0, 1) := by decide +kernel
theorem dX5_readPart_59 : decode cX5_readPart 59 = .ok (.dup, 1) := by decide +kernel
theorem dX5_readPart_60 : decode cX5_readPart 60 = .ok (.getfield 87, 3) := by decide +kernel
theorem dX5_readPart_63 : decode cX5_readPart 63 = .ok (.iconst 1, 1) := by decide +kernel
theorem dX5_readPart_64 : decode cX5_readPart 64 = .ok (.isub, 1) := by decide +kernel
theorem dX5_readPart_65 : decode cX5_readPart 65 = .ok (.putfield 87, 3) := by decide +kernel
theorem dX5_readPart_68 : decode cX5_readPart 68 = .ok (.iconst 0, 1) := by decide +kernel
theorem dX5_readPart_69 : decode cX5_readPart 69 = .ok (.ireturn, 1) := by decide +kernel
theorem dX5_readTreaty_0 : decode cX5_readTreaty 0 = .ok (.aload_n 0, 1) := by decide +kernel
theorem dX5_readTreaty_1 : decode cX5_readTreaty 1 = .ok (.iconst 0, 1) := by decide +kernel
theorem dX5_readTreaty_2 : decode cX5_readTreaty 2 = .ok (.putfield 87, 3) := by decide +kernel
theorem dX5_readTreaty_5 : decode cX5_readTreaty 5 = .ok (.aload_n 0, 1) := by decide +kernel
theorem dX5_readTreaty_6 : decode cX5_readTreaty 6 = .ok (.iconst 0, 1) := by decide +kernel
theorem dX5_readTreaty_7 : decode cX5_readTreaty 7 = .ok (.putfield 97, 3) := by decide +kernel
theorem dX5_readTreaty_10 : decode cX5_readTreaty 10 = .ok (.aload_n 0, 1) := by decide +kernel
theorem dX5_readTreaty_11 : decode cX5_readTreaty 11 = .ok (.iconst 0, 1) := by decide +kernel
theorem dX5_readTreaty_12 : decode cX5_readTreaty 12 = .ok (.putfield 94, 3) := by decide +kernel
theorem dX5_readTreaty_15 : decode cX5_readTreaty 15 = .ok (.aload_n 0, 1) := by decide +kernel
theorem dX5_readTreaty_16 : decode cX5_readTreaty 16 = .ok (.getfield 84, 3) := by decide +kernel
theorem dX5_readTreaty_19 : decode cX5_readTreaty 19 = .ok (.ifCond .eq 14, 3) := by decide +kernel
theorem dX5_readTreaty_22 : decode cX5_readTreaty 22 = .ok (.aload_n 0, 1) := by decide +kernel
theorem dX5_readTreaty_23 : decode cX5_readTreaty 23 = .ok (.getfield 7, 3) := by decide +kernel
theorem dX5_readTreaty_26 : decode cX5_readTreaty 26 = .ok (.iconst 0, 1) := by decide +kernel
theorem dX5_readTreaty_27 : decode cX5_readTreaty 27 = .ok (.iaload, 1) := by decide +kernel
theorem dX5_readTreaty_28 : decode cX5_readTreaty 28 = .ok (.bipush 77, 2) := by decide +kernel
theorem dX5_readTreaty_30 : decode cX5_readTreaty 30 = .ok (.if_icmp .eq 5, 3) := by decide +kernel
theorem dX5_readTreaty_33 : decode cX5_readTreaty 33 = .ok (.iconst 0, 1) := by decide +kernel
theorem dX5_readTreaty_34 : decode cX5_readTreaty 34 = .ok (.ireturn, 1) := by decide +kernel
theorem dX5_readTreaty_35 : decode cX5_readTreaty 35 = .ok (.aload_n 0, 1) := by decide +kernel
theorem dX5_readTreaty_36 : decode cX5_readTreaty 36 = .ok (.iconst 1, 1) := by decide +kernel
theorem dX5_readTreaty_37 : decode cX5_readTreaty 37 = .ok (.putfield 87, 3) := by decide +kernel
theorem dX5_readTreaty_40 : decode cX5_readTreaty 40 = .ok (.aload_n 0, 1) := by decide +kernel
theorem dX5_readTreaty_41 : decode cX5_readTreaty 41 = .ok (.getfield 87, 3) := by decide +kernel
theorem dX5_readTreaty_44 : decode cX5_readTreaty 44 = .ok (.aload_n 0, 1) := by decide +kernel
theorem dX5_readTreaty_45 : decode cX5_readTreaty 45 = .ok (.getfield 84, 3) := by decide +kernel
theorem dX5_readTreaty_48 : decode cX5_readTreaty 48 = .ok (.if_icmp .ge 15, 3) := by decide +kernel
theorem dX5_readTreaty_51 : decode cX5_readTreaty 51 = .ok (.aload_n 0, 1) := by decide +kernel
theorem dX5_readTreaty_52 : decode cX5_readTreaty 52 = .ok (.invokevirtual 107, 3) := by decide +kernel
theorem dX5_readTreaty_55 : decode cX5_readTreaty 55 = .ok (.ifCond .ne (-15), 3) := by decide +kernel
theorem dX5_readTreaty_58 : decode cX5_readTreaty 58 = .ok (.aload_n 0, 1) := by decide +kernel
theorem dX5_readTreaty_59 : decode cX5_readTreaty 59 = .ok (.getfield 87, 3) := by decide +kernel
theorem dX5_readTreaty_62 : decode cX5_readTreaty 62 = .ok (.ireturn, 1) := by decide +kernel
theorem dX5_readTreaty_63 : decode cX5_readTreaty 63 = .ok (.bipush (-9), 2) := by decide +kernel
theorem dX5_readTreaty_65 : decode cX5_readTreaty 65 = .ok (.ireturn, 1) := by decide +kernel
theorem dX5_fault_0 : decode cX5_fault 0 = .ok (.aload_n 0, 1) := by decide +kernel
theorem dX5_fault_1 : decode cX5_fault 1 = .ok (.iconst 0, 1) := by decide +kernel
theorem dX5_fault_2 : decode cX5_fault 2 = .ok (.putfield 68, 3) := by decide +kernel
theorem dX5_fault_5 : decode cX5_fault 5 = .ok (.aload_n 0, 1) := by decide +kernel
theorem dX5_fault_6 : decode cX5_fault 6 = .ok (.invokevirtual 110, 3) := by decide +kernel
theorem dX5_fault_9 : decode cX5_fault 9 = .ok (.ireturn, 1) := by decide +kernel
theorem dX5_treaty_0 : decode cX5_treaty 0 = .ok (.aload_n 0, 1) := by decide +kernel
theorem dX5_treaty_1 : decode cX5_treaty 1 = .ok (.iconst 0, 1) := by decide +kernel
theorem dX5_treaty_2 : decode cX5_treaty 2 = .ok (.putfield 68, 3) := by decide +kernel
theorem dX5_treaty_5 : decode cX5_treaty 5 = .ok (.aload_n 0, 1) := by decide +kernel
theorem dX5_treaty_6 : decode cX5_treaty 6 = .ok (.invokevirtual 110, 3) := by decide +kernel
theorem dX5_treaty_9 : decode cX5_treaty 9 = .ok (.bipush (-9), 2) := by decide +kernel
theorem dX5_treaty_11 : decode cX5_treaty 11 = .ok (.if_icmp .eq 6, 3) := by decide +kernel
theorem dX5_treaty_14 : decode cX5_treaty 14 = .ok (.bipush (-3), 2) := by decide +kernel
theorem dX5_treaty_16 : decode cX5_treaty 16 = .ok (.ireturn, 1) := by decide +kernel
theorem dX5_treaty_17 : decode cX5_treaty 17 = .ok (.aload_n 0, 1) := by decide +kernel
theorem dX5_treaty_18 : decode cX5_treaty 18 = .ok (.aload_n 0, 1) := by decide +kernel
theorem dX5_treaty_19 : decode cX5_treaty 19 = .ok (.getfield 97, 3) := by decide +kernel
theorem dX5_treaty_22 : decode cX5_treaty 22 = .ok (.putfield 72, 3) := by decide +kernel
theorem dX5_treaty_25 : decode cX5_treaty 25 = .ok (.aload_n 0, 1) := by decide +kernel
theorem dX5_treaty_26 : decode cX5_treaty 26 = .ok (.aload_n 0, 1) := by decide +kernel
theorem dX5_treaty_27 : decode cX5_treaty 27 = .ok (.getfield 94, 3) := by decide +kernel
theorem dX5_treaty_30 : decode cX5_treaty 30 = .ok (.putfield 79, 3) := by decide +kernel
theorem dX5_treaty_33 : decode cX5_treaty 33 = .ok (.iconst 0, 1) := by decide +kernel
theorem dX5_treaty_34 : decode cX5_treaty 34 = .ok (.istore_n 1, 1) := by decide +kernel
theorem dX5_treaty_35 : decode cX5_treaty 35 = .ok (.iload_n 1, 1) := by decide +kernel
theorem dX5_treaty_36 : decode cX5_treaty 36 = .ok (.bipush 17, 2) := by decide +kernel
theorem dX5_treaty_38 : decode cX5_treaty 38 = .ok (.if_icmp .ge 16, 3) := by decide +kernel
theorem dX5_treaty_41 : decode cX5_treaty 41 = .ok (.aload_n 0, 1) := by decide +kernel
theorem dX5_treaty_42 : decode cX5_treaty 42 = .ok (.getfield 31, 3) := by decide +kernel
theorem dX5_treaty_45 : decode cX5_treaty 45 = .ok (.iload_n 1, 1) := by decide +kernel
theorem dX5_treaty_46 : decode cX5_treaty 46 = .ok (.iconst 0, 1) := by decide +kernel
theorem dX5_treaty_47 : decode cX5_treaty 47 = .ok (.iastore, 1) := by decide +kernel
theorem dX5_treaty_48 : decode cX5_treaty 48 = .ok (.iinc 1 1, 3) := by decide +kernel
theorem dX5_treaty_51 : decode cX5_treaty 51 = .ok (.goto (-16), 3) := by decide +kernel
theorem dX5_treaty_54 : decode cX5_treaty 54 = .ok (.iconst 0, 1) := by decide +kernel
theorem dX5_treaty_55 : decode cX5_treaty 55 = .ok (.istore_n 1, 1) := by decide +kernel
theorem dX5_treaty_56 : decode cX5_treaty 56 = .ok (.iload_n 1, 1) := by decide +kernel
theorem dX5_treaty_57 : decode cX5_treaty 57 = .ok (.aload_n 0, 1) := by decide +kernel
theorem dX5_treaty_58 : decode cX5_treaty 58 = .ok (.getfield 72, 3) := by decide +kernel
theorem dX5_treaty_61 : decode cX5_treaty 61 = .ok (.if_icmp .ge 59, 3) := by decide +kernel
theorem dX5_treaty_64 : decode cX5_treaty 64 = .ok (.aload_n 0, 1) := by decide +kernel
theorem dX5_treaty_65 : decode cX5_treaty 65 = .ok (.getfield 31, 3) := by decide +kernel
theorem dX5_treaty_68 : decode cX5_treaty 68 = .ok (.iconst 0, 1) := by decide +kernel
theorem dX5_treaty_69 : decode cX5_treaty 69 = .ok (.iload_n 1, 1) := by decide +kernel
theorem dX5_treaty_70 : decode cX5_treaty 70 = .ok (.iadd, 1) := by decide +kernel
theorem dX5_treaty_71 : decode cX5_treaty 71 = .ok (.aload_n 0, 1) := by decide +kernel
theorem dX5_treaty_72 : decode cX5_treaty 72 = .ok (.getfield 25, 3) := by decide +kernel
theorem dX5_treaty_75 : decode cX5_treaty 75 = .ok (.iconst 3, 1) := by decide +kernel
theorem dX5_treaty_76 : decode cX5_treaty 76 = .ok (.iload_n 1, 1) := by decide +kernel
theorem dX5_treaty_77 : decode cX5_treaty 77 = .ok (.imul, 1) := by decide +kernel
theorem dX5_treaty_78 : decode cX5_treaty 78 = .ok (.iaload, 1) := by decide +kernel
theorem dX5_treaty_79 : decode cX5_treaty 79 = .ok (.iastore, 1) := by decide +kernel
theorem dX5_treaty_80 : decode cX5_treaty 80 = .ok (.aload_n 0, 1) := by decide +kernel
theorem dX5_treaty_81 : decode cX5_treaty 81 = .ok (.getfield 13, 3) := by decide +kernel
theorem dX5_treaty_84 : decode cX5_treaty 84 = .ok (.iload_n 1, 1) := by decide +kernel
theorem dX5_treaty_85 : decode cX5_treaty 85 = .ok (.aload_n 0, 1) := by decide +kernel
theorem dX5_treaty_86 : decode cX5_treaty 86 = .ok (.getfield 25, 3) := by decide +kernel
theorem dX5_treaty_89 : decode cX5_treaty 89 = .ok (.iconst 3, 1) := by decide +kernel
theorem dX5_treaty_90 : decode cX5_treaty 90 = .ok (.iload_n 1, 1) := by decide +kernel
theorem dX5_treaty_91 : decode cX5_treaty 91 = .ok (.imul, 1) := by decide +kernel
theorem dX5_treaty_92 : decode cX5_treaty 92 = .ok (.iconst 1, 1) := by decide +kernel
theorem dX5_treaty_93 : decode cX5_treaty 93 = .ok (.iadd, 1) := by decide +kernel
theorem dX5_treaty_94 : decode cX5_treaty 94 = .ok (.iaload, 1) := by decide +kernel
theorem dX5_treaty_95 : decode cX5_treaty 95 = .ok (.iastore, 1) := by decide +kernel
theorem dX5_treaty_96 : decode cX5_treaty 96 = .ok (.aload_n 0, 1) := by decide +kernel
theorem dX5_treaty_97 : decode cX5_treaty 97 = .ok (.getfield 31, 3) := by decide +kernel
theorem dX5_treaty_100 : decode cX5_treaty 100 = .ok (.iconst 5, 1) := by decide +kernel
theorem dX5_treaty_101 : decode cX5_treaty 101 = .ok (.iload_n 1, 1) := by decide +kernel
theorem dX5_treaty_102 : decode cX5_treaty 102 = .ok (.iadd, 1) := by decide +kernel
theorem dX5_treaty_103 : decode cX5_treaty 103 = .ok (.aload_n 0, 1) := by decide +kernel
theorem dX5_treaty_104 : decode cX5_treaty 104 = .ok (.getfield 25, 3) := by decide +kernel
theorem dX5_treaty_107 : decode cX5_treaty 107 = .ok (.iconst 3, 1) := by decide +kernel
theorem dX5_treaty_108 : decode cX5_treaty 108 = .ok (.iload_n 1, 1) := by decide +kernel
theorem dX5_treaty_109 : decode cX5_treaty 109 = .ok (.imul, 1) := by decide +kernel
theorem dX5_treaty_110 : decode cX5_treaty 110 = .ok (.iconst 2, 1) := by decide +kernel
theorem dX5_treaty_111 : decode cX5_treaty 111 = .ok (.iadd, 1) := by decide +kernel
theorem dX5_treaty_112 : decode cX5_treaty 112 = .ok (.iaload, 1) := by decide +kernel
theorem dX5_treaty_113 : decode cX5_treaty 113 = .ok (.iastore, 1) := by decide +kernel
theorem dX5_treaty_114 : decode cX5_treaty 114 = .ok (.iinc 1 1, 3) := by decide +kernel
theorem dX5_treaty_117 : decode cX5_treaty 117 = .ok (.goto (-61), 3) := by decide +kernel
theorem dX5_treaty_120 : decode cX5_treaty 120 = .ok (.iconst 0, 1) := by decide +kernel
theorem dX5_treaty_121 : decode cX5_treaty 121 = .ok (.istore_n 1, 1) := by decide +kernel
theorem dX5_treaty_122 : decode cX5_treaty 122 = .ok (.iload_n 1, 1) := by decide +kernel
theorem dX5_treaty_123 : decode cX5_treaty 123 = .ok (.aload_n 0, 1) := by decide +kernel
theorem dX5_treaty_124 : decode cX5_treaty 124 = .ok (.getfield 79, 3) := by decide +kernel
theorem dX5_treaty_127 : decode cX5_treaty 127 = .ok (.if_icmp .ge 55, 3) := by decide +kernel
theorem dX5_treaty_130 : decode cX5_treaty 130 = .ok (.aload_n 0, 1) := by decide +kernel
theorem dX5_treaty_131 : decode cX5_treaty 131 = .ok (.getfield 16, 3) := by decide +kernel
theorem dX5_treaty_134 : decode cX5_treaty 134 = .ok (.iload_n 1, 1) := by decide +kernel
theorem dX5_treaty_135 : decode cX5_treaty 135 = .ok (.aload_n 0, 1) := by decide +kernel
theorem dX5_treaty_136 : decode cX5_treaty 136 = .ok (.getfield 28, 3) := by decide +kernel
theorem dX5_treaty_139 : decode cX5_treaty 139 = .ok (.iconst 3, 1) := by decide +kernel
theorem dX5_treaty_140 : decode cX5_treaty 140 = .ok (.iload_n 1, 1) := by decide +kernel
theorem dX5_treaty_141 : decode cX5_treaty 141 = .ok (.imul, 1) := by decide +kernel
theorem dX5_treaty_142 : decode cX5_treaty 142 = .ok (.iaload, 1) := by decide +kernel
theorem dX5_treaty_143 : decode cX5_treaty 143 = .ok (.iastore, 1) := by decide +kernel
theorem dX5_treaty_144 : decode cX5_treaty 144 = .ok (.aload_n 0, 1) := by decide +kernel
theorem dX5_treaty_145 : decode cX5_treaty 145 = .ok (.getfield 19, 3) := by decide +kernel
theorem dX5_treaty_148 : decode cX5_treaty 148 = .ok (.iload_n 1, 1) := by decide +kernel
theorem dX5_treaty_149 : decode cX5_treaty 149 = .ok (.aload_n 0, 1) := by decide +kernel
theorem dX5_treaty_150 : decode cX5_treaty 150 = .ok (.getfield 28, 3) := by decide +kernel
theorem dX5_treaty_153 : decode cX5_treaty 153 = .ok (.iconst 3, 1) := by decide +kernel
theorem dX5_treaty_154 : decode cX5_treaty 154 = .ok (.iload_n 1, 1) := by decide +kernel
theorem dX5_treaty_155 : decode cX5_treaty 155 = .ok (.imul, 1) := by decide +kernel
theorem dX5_treaty_156 : decode cX5_treaty 156 = .ok (.iconst 1, 1) := by decide +kernel
theorem dX5_treaty_157 : decode cX5_treaty 157 = .ok (.iadd, 1) := by decide +kernel
theorem dX5_treaty_158 : decode cX5_treaty 158 = .ok (.iaload, 1) := by decide +kernel
theorem dX5_treaty_159 : decode cX5_treaty 159 = .ok (.iastore, 1) := by decide +kernel
theorem dX5_treaty_160 : decode cX5_treaty 160 = .ok (.aload_n 0, 1) := by decide +kernel
theorem dX5_treaty_161 : decode cX5_treaty 161 = .ok (.getfield 22, 3) := by decide +kernel
theorem dX5_treaty_164 : decode cX5_treaty 164 = .ok (.iload_n 1, 1) := by decide +kernel
theorem dX5_treaty_165 : decode cX5_treaty 165 = .ok (.aload_n 0, 1) := by decide +kernel
theorem dX5_treaty_166 : decode cX5_treaty 166 = .ok (.getfield 28, 3) := by decide +kernel
theorem dX5_treaty_169 : decode cX5_treaty 169 = .ok (.iconst 3, 1) := by decide +kernel
theorem dX5_treaty_170 : decode cX5_treaty 170 = .ok (.iload_n 1, 1) := by decide +kernel
theorem dX5_treaty_171 : decode cX5_treaty 171 = .ok (.imul, 1) := by decide +kernel
theorem dX5_treaty_172 : decode cX5_treaty 172 = .ok (.iconst 2, 1) := by decide +kernel
theorem dX5_treaty_173 : decode cX5_treaty 173 = .ok (.iadd, 1) := by decide +kernel
theorem dX5_treaty_174 : decode cX5_treaty 174 = .ok (.iaload, 1) := by decide +kernel
theorem dX5_treaty_175 : decode cX5_treaty 175 = .ok (.iastore, 1) := by decide +kernel
theorem dX5_treaty_176 : decode cX5_treaty 176 = .ok (.iinc 1 1, 3) := by decide +kernel
theorem dX5_treaty_179 : decode cX5_treaty 179 = .ok (.goto (-57), 3) := by decide +kernel
theorem dX5_treaty_182 : decode cX5_treaty 182 = .ok (.aload_n 0, 1) := by decide +kernel
theorem dX5_treaty_183 : decode cX5_treaty 183 = .ok (.iconst 0, 1) := by decide +kernel
theorem dX5_treaty_184 : decode cX5_treaty 184 = .ok (.putfield 114, 3) := by decide +kernel
theorem dX5_treaty_187 : decode cX5_treaty 187 = .ok (.aload_n 0, 1) := by decide +kernel
theorem dX5_treaty_188 : decode cX5_treaty 188 = .ok (.getfield 43, 3) := by decide +kernel
theorem dX5_treaty_191 : decode cX5_treaty 191 = .ok (.iconst 0, 1) := by decide +kernel
theorem dX5_treaty_192 : decode cX5_treaty 192 = .ok (.iconst 0, 1) := by decide +kernel
theorem dX5_treaty_193 : decode cX5_treaty 193 = .ok (.bastore, 1) := by decide +kernel
theorem dX5_treaty_194 : decode cX5_treaty 194 = .ok (.aload_n 0, 1) := by decide +kernel
theorem dX5_treaty_195 : decode cX5_treaty 195 = .ok (.getfield 43, 3) := by decide +kernel
theorem dX5_treaty_198 : decode cX5_treaty 198 = .ok (.iconst 1, 1) := by decide +kernel
theorem dX5_treaty_199 : decode cX5_treaty 199 = .ok (.iconst 0, 1) := by decide +kernel
theorem dX5_treaty_200 : decode cX5_treaty 200 = .ok (.bastore, 1) := by decide +kernel
theorem dX5_treaty_201 : decode cX5_treaty 201 = .ok (.bipush 10, 2) := by decide +kernel
theorem dX5_treaty_203 : decode cX5_treaty 203 = .ok (.aload_n 0, 1) := by decide +kernel
theorem dX5_treaty_204 : decode cX5_treaty 204 = .ok (.getfield 72, 3) := by decide +kernel
theorem dX5_treaty_207 : decode cX5_treaty 207 = .ok (.imul, 1) := by decide +kernel
theorem dX5_treaty_208 : decode cX5_treaty 208 = .ok (.aload_n 0, 1) := by decide +kernel
theorem dX5_treaty_209 : decode cX5_treaty 209 = .ok (.getfield 79, 3) := by decide +kernel
theorem dX5_treaty_212 : decode cX5_treaty 212 = .ok (.iadd, 1) := by decide +kernel
theorem dX5_treaty_213 : decode cX5_treaty 213 = .ok (.ireturn, 1) := by decide +kernel
theorem dX5_knows_0 : decode cX5_knows 0 = .ok (.iconst 1, 1) := by decide +kernel
theorem dX5_knows_1 : decode cX5_knows 1 = .ok (.aload_n 0, 1) := by decide +kernel
theorem dX5_knows_2 : decode cX5_knows 2 = .ok (.getfield 79, 3) := by decide +kernel
theorem dX5_knows_5 : decode cX5_knows 5 = .ok (.ishl, 1) := by decide +kernel
theorem dX5_knows_6 : decode cX5_knows 6 = .ok (.iconst 1, 1) := by decide +kernel
theorem dX5_knows_7 : decode cX5_knows 7 = .ok (.isub, 1) := by decide +kernel
theorem dX5_knows_8 : decode cX5_knows 8 = .ok (.istore_n 3, 1) := by decide +kernel
theorem dX5_knows_9 : decode cX5_knows 9 = .ok (.aload_n 1, 1) := by decide +kernel
theorem dX5_knows_10 : decode cX5_knows 10 = .ok (.iconst 5, 1) := by decide +kernel
theorem dX5_knows_11 : decode cX5_knows 11 = .ok (.iload_n 2, 1) := by decide +kernel
theorem dX5_knows_12 : decode cX5_knows 12 = .ok (.iadd, 1) := by decide +kernel
theorem dX5_knows_13 : decode cX5_knows 13 = .ok (.iaload, 1) := by decide +kernel
theorem dX5_knows_14 : decode cX5_knows 14 = .ok (.tableswitch 57 1 3 #[26, 28, 37], 26) := by decide +kernel
theorem dX5_knows_40 : decode cX5_knows 40 = .ok (.iload_n 3, 1) := by decide +kernel
theorem dX5_knows_41 : decode cX5_knows 41 = .ok (.ireturn, 1) := by decide +kernel
theorem dX5_knows_42 : decode cX5_knows 42 = .ok (.aload_n 1, 1) := by decide +kernel
theorem dX5_knows_43 : decode cX5_knows 43 = .ok (.bipush 10, 2) := by decide +kernel
theorem dX5_knows_45 : decode cX5_knows 45 = .ok (.iload_n 2, 1) := by decide +kernel
theorem dX5_knows_46 : decode cX5_knows 46 = .ok (.iadd, 1) := by decide +kernel
theorem dX5_knows_47 : decode cX5_knows 47 = .ok (.iaload, 1) := by decide +kernel
theorem dX5_knows_48 : decode cX5_knows 48 = .ok (.iload_n 3, 1) := by decide +kernel
theorem dX5_knows_49 : decode cX5_knows 49 = .ok (.iand, 1) := by decide +kernel
theorem dX5_knows_50 : decode cX5_knows 50 = .ok (.ireturn, 1) := by decide +kernel
theorem dX5_knows_51 : decode cX5_knows 51 = .ok (.aload_n 0, 1) := by decide +kernel
theorem dX5_knows_52 : decode cX5_knows 52 = .ok (.getfield 79, 3) := by decide +kernel
theorem dX5_knows_55 : decode cX5_knows 55 = .ok (.ifCond .ne 7, 3) := by decide +kernel
theorem dX5_knows_58 : decode cX5_knows 58 = .ok (.iconst 0, 1) := by decide +kernel
theorem dX5_knows_59 : decode cX5_knows 59 = .ok (.goto 11, 3) := by decide +kernel
theorem dX5_knows_62 : decode cX5_knows 62 = .ok (.iconst 1, 1) := by decide +kernel
theorem dX5_knows_63 : decode cX5_knows 63 = .ok (.aload_n 0, 1) := by decide +kernel
theorem dX5_knows_64 : decode cX5_knows 64 = .ok (.getfield 79, 3) := by decide +kernel
theorem dX5_knows_67 : decode cX5_knows 67 = .ok (.iconst 1, 1) := by decide +kernel
theorem dX5_knows_68 : decode cX5_knows 68 = .ok (.isub, 1) := by decide +kernel
theorem dX5_knows_69 : decode cX5_knows 69 = .ok (.ishl, 1) := by decide +kernel
theorem dX5_knows_70 : decode cX5_knows 70 = .ok (.ireturn, 1) := by decide +kernel
theorem dX5_knows_71 : decode cX5_knows 71 = .ok (.aload_n 1, 1) := by decide +kernel
theorem dX5_knows_72 : decode cX5_knows 72 = .ok (.bipush 10, 2) := by decide +kernel
theorem dX5_knows_74 : decode cX5_knows 74 = .ok (.iload_n 2, 1) := by decide +kernel
theorem dX5_knows_75 : decode cX5_knows 75 = .ok (.iadd, 1) := by decide +kernel
theorem dX5_knows_76 : decode cX5_knows 76 = .ok (.iaload, 1) := by decide +kernel
theorem dX5_knows_77 : decode cX5_knows 77 = .ok (.bipush 21, 2) := by decide +kernel
theorem dX5_knows_79 : decode cX5_knows 79 = .ok (.ior, 1) := by decide +kernel
theorem dX5_knows_80 : decode cX5_knows 80 = .ok (.iload_n 3, 1) := by decide +kernel
theorem dX5_knows_81 : decode cX5_knows 81 = .ok (.iand, 1) := by decide +kernel
theorem dX5_knows_82 : decode cX5_knows 82 = .ok (.ireturn, 1) := by decide +kernel
theorem dX5_toStone_0 : decode cX5_toStone 0 = .ok (.aload_n 0, 1) := by decide +kernel
theorem dX5_toStone_1 : decode cX5_toStone 1 = .ok (.iconst 0, 1) := by decide +kernel
theorem dX5_toStone_2 : decode cX5_toStone 2 = .ok (.iload_n 1, 1) := by decide +kernel
theorem dX5_toStone_3 : decode cX5_toStone 3 = .ok (.iadd, 1) := by decide +kernel
theorem dX5_toStone_4 : decode cX5_toStone 4 = .ok (.iaload, 1) := by decide +kernel
theorem dX5_toStone_5 : decode cX5_toStone 5 = .ok (.iload_n 2, 1) := by decide +kernel
theorem dX5_toStone_6 : decode cX5_toStone 6 = .ok (.iconst 1, 1) := by decide +kernel
theorem dX5_toStone_7 : decode cX5_toStone 7 = .ok (.if_icmp .ne 7, 3) := by decide +kernel
theorem dX5_toStone_10 : decode cX5_toStone 10 = .ok (.iconst 1, 1) := by decide +kernel
theorem dX5_toStone_11 : decode cX5_toStone 11 = .ok (.goto 4, 3) := by decide +kernel
theorem dX5_toStone_14 : decode cX5_toStone 14 = .ok (.iconst (-1), 1) := by decide +kernel
theorem dX5_toStone_15 : decode cX5_toStone 15 = .ok (.iadd, 1) := by decide +kernel
theorem dX5_toStone_16 : decode cX5_toStone 16 = .ok (.istore_n 3, 1) := by decide +kernel
theorem dX5_toStone_17 : decode cX5_toStone 17 = .ok (.iload_n 3, 1) := by decide +kernel
theorem dX5_toStone_18 : decode cX5_toStone 18 = .ok (.i2l, 1) := by decide +kernel
theorem dX5_toStone_19 : decode cX5_toStone 19 = .ok (.lconst 0, 1) := by decide +kernel
theorem dX5_toStone_20 : decode cX5_toStone 20 = .ok (.ldc2_w 117, 3) := by decide +kernel
theorem dX5_toStone_23 : decode cX5_toStone 23 = .ok (.invokestatic 75, 3) := by decide +kernel
theorem dX5_toStone_26 : decode cX5_toStone 26 = .ok (.ifCond .eq 7, 3) := by decide +kernel
theorem dX5_toStone_29 : decode cX5_toStone 29 = .ok (.iload_n 3, 1) := by decide +kernel
theorem dX5_toStone_30 : decode cX5_toStone 30 = .ok (.goto 5, 3) := by decide +kernel
theorem dX5_toStone_33 : decode cX5_toStone 33 = .ok (.bipush (-9), 2) := by decide +kernel
theorem dX5_toStone_35 : decode cX5_toStone 35 = .ok (.ireturn, 1) := by decide +kernel
theorem dX5_northern_0 : decode cX5_northern 0 = .ok (.iconst 0, 1) := by decide +kernel
theorem dX5_northern_1 : decode cX5_northern 1 = .ok (.istore 4, 2) := by decide +kernel
theorem dX5_northern_3 : decode cX5_northern 3 = .ok (.iconst 0, 1) := by decide +kernel
theorem dX5_northern_4 : decode cX5_northern 4 = .ok (.istore 5, 2) := by decide +kernel
theorem dX5_northern_6 : decode cX5_northern 6 = .ok (.iload 5, 2) := by decide +kernel
theorem dX5_northern_8 : decode cX5_northern 8 = .ok (.aload_n 0, 1) := by decide +kernel
theorem dX5_northern_9 : decode cX5_northern 9 = .ok (.getfield 72, 3) := by decide +kernel
theorem dX5_northern_12 : decode cX5_northern 12 = .ok (.if_icmp .ge 35, 3) := by decide +kernel
theorem dX5_northern_15 : decode cX5_northern 15 = .ok (.iload 4, 2) := by decide +kernel
theorem dX5_northern_17 : decode cX5_northern 17 = .ok (.iload 5, 2) := by decide +kernel
theorem dX5_northern_19 : decode cX5_northern 19 = .ok (.iload_n 2, 1) := by decide +kernel
theorem dX5_northern_20 : decode cX5_northern 20 = .ok (.if_icmp .eq 17, 3) := by decide +kernel
theorem dX5_northern_23 : decode cX5_northern 23 = .ok (.aload_n 1, 1) := by decide +kernel
theorem dX5_northern_24 : decode cX5_northern 24 = .ok (.iconst 0, 1) := by decide +kernel
theorem dX5_northern_25 : decode cX5_northern 25 = .ok (.iload 5, 2) := by decide +kernel
theorem dX5_northern_27 : decode cX5_northern 27 = .ok (.iadd, 1) := by decide +kernel
theorem dX5_northern_28 : decode cX5_northern 28 = .ok (.iaload, 1) := by decide +kernel
theorem dX5_northern_29 : decode cX5_northern 29 = .ok (.iload_n 3, 1) := by decide +kernel
theorem dX5_northern_30 : decode cX5_northern 30 = .ok (.if_icmp .lt 7, 3) := by decide +kernel
theorem dX5_northern_33 : decode cX5_northern 33 = .ok (.iconst 1, 1) := by decide +kernel
theorem dX5_northern_34 : decode cX5_northern 34 = .ok (.goto 4, 3) := by decide +kernel
theorem dX5_northern_37 : decode cX5_northern 37 = .ok (.iconst 0, 1) := by decide +kernel
theorem dX5_northern_38 : decode cX5_northern 38 = .ok (.iadd, 1) := by decide +kernel
theorem dX5_northern_39 : decode cX5_northern 39 = .ok (.istore 4, 2) := by decide +kernel
theorem dX5_northern_41 : decode cX5_northern 41 = .ok (.iinc 5 1, 3) := by decide +kernel
theorem dX5_northern_44 : decode cX5_northern 44 = .ok (.goto (-38), 3) := by decide +kernel
theorem dX5_northern_47 : decode cX5_northern 47 = .ok (.iload 4, 2) := by decide +kernel
theorem dX5_northern_49 : decode cX5_northern 49 = .ok (.ireturn, 1) := by decide +kernel
theorem dX5_isBarred_0 : decode cX5_isBarred 0 = .ok (.iload_n 0, 1) := by decide +kernel
theorem dX5_isBarred_1 : decode cX5_isBarred 1 = .ok (.tableswitch 77 0 2 #[27, 40, 54], 27) := by decide +kernel
theorem dX5_isBarred_28 : decode cX5_isBarred 28 = .ok (.iload_n 2, 1) := by decide +kernel
theorem dX5_isBarred_29 : decode cX5_isBarred 29 = .ok (.iload_n 1, 1) := by decide +kernel
theorem dX5_isBarred_30 : decode cX5_isBarred 30 = .ok (.iconst 4, 1) := by decide +kernel
theorem dX5_isBarred_31 : decode cX5_isBarred 31 = .ok (.irem, 1) := by decide +kernel
theorem dX5_isBarred_32 : decode cX5_isBarred 32 = .ok (.if_icmp .ne 7, 3) := by decide +kernel
theorem dX5_isBarred_35 : decode cX5_isBarred 35 = .ok (.iconst 1, 1) := by decide +kernel
theorem dX5_isBarred_36 : decode cX5_isBarred 36 = .ok (.goto 4, 3) := by decide +kernel
theorem dX5_isBarred_39 : decode cX5_isBarred 39 = .ok (.iconst 0, 1) := by decide +kernel
theorem dX5_isBarred_40 : decode cX5_isBarred 40 = .ok (.ireturn, 1) := by decide +kernel
theorem dX5_isBarred_41 : decode cX5_isBarred 41 = .ok (.iload_n 3, 1) := by decide +kernel
theorem dX5_isBarred_42 : decode cX5_isBarred 42 = .ok (.bipush 10, 2) := by decide +kernel
theorem dX5_isBarred_44 : decode cX5_isBarred 44 = .ok (.irem, 1) := by decide +kernel
theorem dX5_isBarred_45 : decode cX5_isBarred 45 = .ok (.iload_n 1, 1) := by decide +kernel
theorem dX5_isBarred_46 : decode cX5_isBarred 46 = .ok (.if_icmp .ge 7, 3) := by decide +kernel
theorem dX5_isBarred_49 : decode cX5_isBarred 49 = .ok (.iconst 1, 1) := by decide +kernel
theorem dX5_isBarred_50 : decode cX5_isBarred 50 = .ok (.goto 4, 3) := by decide +kernel
theorem dX5_isBarred_53 : decode cX5_isBarred 53 = .ok (.iconst 0, 1) := by decide +kernel
theorem dX5_isBarred_54 : decode cX5_isBarred 54 = .ok (.ireturn, 1) := by decide +kernel
theorem dX5_isBarred_55 : decode cX5_isBarred 55 = .ok (.iload 4, 2) := by decide +kernel
theorem dX5_isBarred_57 : decode cX5_isBarred 57 = .ok (.iload_n 1, 1) := by decide +kernel
theorem dX5_isBarred_58 : decode cX5_isBarred 58 = .ok (.iconst 2, 1) := by decide +kernel
theorem dX5_isBarred_59 : decode cX5_isBarred 59 = .ok (.irem, 1) := by decide +kernel
theorem dX5_isBarred_60 : decode cX5_isBarred 60 = .ok (.iconst 1, 1) := by decide +kernel
theorem dX5_isBarred_61 : decode cX5_isBarred 61 = .ok (.if_icmp .ne 7, 3) := by decide +kernel
theorem dX5_isBarred_64 : decode cX5_isBarred 64 = .ok (.iconst 0, 1) := by decide +kernel
theorem dX5_isBarred_65 : decode cX5_isBarred 65 = .ok (.goto 4, 3) := by decide +kernel
theorem dX5_isBarred_68 : decode cX5_isBarred 68 = .ok (.iconst 1, 1) := by decide +kernel
theorem dX5_isBarred_69 : decode cX5_isBarred 69 = .ok (.if_icmp .ne 7, 3) := by decide +kernel
theorem dX5_isBarred_72 : decode cX5_isBarred 72 = .ok (.iconst 1, 1) := by decide +kernel
theorem dX5_isBarred_73 : decode cX5_isBarred 73 = .ok (.goto 4, 3) := by decide +kernel
theorem dX5_isBarred_76 : decode cX5_isBarred 76 = .ok (.iconst 0, 1) := by decide +kernel
theorem dX5_isBarred_77 : decode cX5_isBarred 77 = .ok (.ireturn, 1) := by decide +kernel
theorem dX5_isBarred_78 : decode cX5_isBarred 78 = .ok (.iload 5, 2) := by decide +kernel
theorem dX5_isBarred_80 : decode cX5_isBarred 80 = .ok (.iload_n 1, 1) := by decide +kernel
theorem dX5_isBarred_81 : decode cX5_isBarred 81 = .ok (.iconst 5, 1) := by decide +kernel
theorem dX5_isBarred_82 : decode cX5_isBarred 82 = .ok (.irem, 1) := by decide +kernel
theorem dX5_isBarred_83 : decode cX5_isBarred 83 = .ok (.if_icmp .ge 7, 3) := by decide +kernel
theorem dX5_isBarred_86 : decode cX5_isBarred 86 = .ok (.iconst 1, 1) := by decide +kernel
theorem dX5_isBarred_87 : decode cX5_isBarred 87 = .ok (.goto 4, 3) := by decide +kernel
theorem dX5_isBarred_90 : decode cX5_isBarred 90 = .ok (.iconst 0, 1) := by decide +kernel
theorem dX5_isBarred_91 : decode cX5_isBarred 91 = .ok (.ireturn, 1) := by decide +kernel
theorem dX5_forbids_0 : decode cX5_forbids 0 = .ok (.aload_n 1, 1) := by decide +kernel
theorem dX5_forbids_1 : decode cX5_forbids 1 = .ok (.iload_n 2, 1) := by decide +kernel
theorem dX5_forbids_2 : decode cX5_forbids 2 = .ok (.iload_n 3, 1) := by decide +kernel
theorem dX5_forbids_3 : decode cX5_forbids 3 = .ok (.invokestatic 119, 3) := by decide +kernel
theorem dX5_forbids_6 : decode cX5_forbids 6 = .ok (.istore 4, 2) := by decide +kernel
theorem dX5_forbids_8 : decode cX5_forbids 8 = .ok (.iload 4, 2) := by decide +kernel
theorem dX5_forbids_10 : decode cX5_forbids 10 = .ok (.bipush (-9), 2) := by decide +kernel
theorem dX5_forbids_12 : decode cX5_forbids 12 = .ok (.if_icmp .ne 7, 3) := by decide +kernel
theorem dX5_forbids_15 : decode cX5_forbids 15 = .ok (.iconst 0, 1) := by decide +kernel
theorem dX5_forbids_16 : decode cX5_forbids 16 = .ok (.goto 11, 3) := by decide +kernel
theorem dX5_forbids_19 : decode cX5_forbids 19 = .ok (.aload_n 0, 1) := by decide +kernel
theorem dX5_forbids_20 : decode cX5_forbids 20 = .ok (.aload_n 1, 1) := by decide +kernel
theorem dX5_forbids_21 : decode cX5_forbids 21 = .ok (.iload_n 2, 1) := by decide +kernel
theorem dX5_forbids_22 : decode cX5_forbids 22 = .ok (.iload 4, 2) := by decide +kernel
theorem dX5_forbids_24 : decode cX5_forbids 24 = .ok (.invokevirtual 123, 3) := by decide +kernel
theorem dX5_forbids_27 : decode cX5_forbids 27 = .ok (.istore 5, 2) := by decide +kernel
theorem dX5_forbids_29 : decode cX5_forbids 29 = .ok (.iconst 0, 1) := by decide +kernel
theorem dX5_forbids_30 : decode cX5_forbids 30 = .ok (.istore 6, 2) := by decide +kernel
theorem dX5_forbids_32 : decode cX5_forbids 32 = .ok (.iconst 0, 1) := by decide +kernel
theorem dX5_forbids_33 : decode cX5_forbids 33 = .ok (.istore 7, 2) := by decide +kernel
theorem dX5_forbids_35 : decode cX5_forbids 35 = .ok (.iload 7, 2) := by decide +kernel
theorem dX5_forbids_37 : decode cX5_forbids 37 = .ok (.aload_n 0, 1) := by decide +kernel
theorem dX5_forbids_38 : decode cX5_forbids 38 = .ok (.getfield 79, 3) := by decide +kernel
theorem dX5_forbids_41 : decode cX5_forbids 41 = .ok (.if_icmp .ge 79, 3) := by decide +kernel
theorem dX5_forbids_44 : decode cX5_forbids 44 = .ok (.aload_n 0, 1) := by decide +kernel
theorem dX5_forbids_45 : decode cX5_forbids 45 = .ok (.getfield 16, 3) := by decide +kernel
theorem dX5_forbids_48 : decode cX5_forbids 48 = .ok (.iload 7, 2) := by decide +kernel
theorem dX5_forbids_50 : decode cX5_forbids 50 = .ok (.iaload, 1) := by decide +kernel
theorem dX5_forbids_51 : decode cX5_forbids 51 = .ok (.iload 4, 2) := by decide +kernel
theorem dX5_forbids_53 : decode cX5_forbids 53 = .ok (.if_icmp .ne 40, 3) := by decide +kernel
theorem dX5_forbids_56 : decode cX5_forbids 56 = .ok (.aload_n 0, 1) := by decide +kernel
theorem dX5_forbids_57 : decode cX5_forbids 57 = .ok (.getfield 19, 3) := by decide +kernel
theorem dX5_forbids_60 : decode cX5_forbids 60 = .ok (.iload 7, 2) := by decide +kernel
theorem dX5_forbids_62 : decode cX5_forbids 62 = .ok (.iaload, 1) := by decide +kernel
theorem dX5_forbids_63 : decode cX5_forbids 63 = .ok (.aload_n 0, 1) := by decide +kernel
theorem dX5_forbids_64 : decode cX5_forbids 64 = .ok (.getfield 22, 3) := by decide +kernel
theorem dX5_forbids_67 : decode cX5_forbids 67 = .ok (.iload 7, 2) := by decide +kernel
theorem dX5_forbids_69 : decode cX5_forbids 69 = .ok (.iaload, 1) := by decide +kernel
theorem dX5_forbids_70 : decode cX5_forbids 70 = .ok (.aload_n 0, 1) := by decide +kernel
theorem dX5_forbids_71 : decode cX5_forbids 71 = .ok (.getfield 13, 3) := by decide +kernel
theorem dX5_forbids_74 : decode cX5_forbids 74 = .ok (.iload_n 2, 1) := by decide +kernel
theorem dX5_forbids_75 : decode cX5_forbids 75 = .ok (.iaload, 1) := by decide +kernel
theorem dX5_forbids_76 : decode cX5_forbids 76 = .ok (.aload_n 1, 1) := by decide +kernel
theorem dX5_forbids_77 : decode cX5_forbids 77 = .ok (.bipush 15, 2) := by decide +kernel
theorem dX5_forbids_79 : decode cX5_forbids 79 = .ok (.iaload, 1) := by decide +kernel
theorem dX5_forbids_80 : decode cX5_forbids 80 = .ok (.iload_n 3, 1) := by decide +kernel
theorem dX5_forbids_81 : decode cX5_forbids 81 = .ok (.iload 5, 2) := by decide +kernel
theorem dX5_forbids_83 : decode cX5_forbids 83 = .ok (.invokestatic 126, 3) := by decide +kernel
theorem dX5_forbids_86 : decode cX5_forbids 86 = .ok (.ifCond .eq 7, 3) := by decide +kernel
theorem dX5_forbids_89 : decode cX5_forbids 89 = .ok (.iconst 1, 1) := by decide +kernel
theorem dX5_forbids_90 : decode cX5_forbids 90 = .ok (.goto 4, 3) := by decide +kernel
theorem dX5_forbids_93 : decode cX5_forbids 93 = .ok (.iconst 0, 1) := by decide +kernel
theorem dX5_forbids_94 : decode cX5_forbids 94 = .ok (.istore 8, 2) := by decide +kernel
theorem dX5_forbids_96 : decode cX5_forbids 96 = .ok (.iload 6, 2) := by decide +kernel
theorem dX5_forbids_98 : decode cX5_forbids 98 = .ok (.iload 8, 2) := by decide +kernel
theorem dX5_forbids_100 : decode cX5_forbids 100 = .ok (.ifCond .eq 10, 3) := by decide +kernel
theorem dX5_forbids_103 : decode cX5_forbids 103 = .ok (.iconst 1, 1) := by decide +kernel
theorem dX5_forbids_104 : decode cX5_forbids 104 = .ok (.iload 7, 2) := by decide +kernel
theorem dX5_forbids_106 : decode cX5_forbids 106 = .ok (.ishl, 1) := by decide +kernel
theorem dX5_forbids_107 : decode cX5_forbids 107 = .ok (.goto 4, 3) := by decide +kernel
theorem dX5_forbids_110 : decode cX5_forbids 110 = .ok (.iconst 0, 1) := by decide +kernel
theorem dX5_forbids_111 : decode cX5_forbids 111 = .ok (.ior, 1) := by decide +kernel
theorem dX5_forbids_112 : decode cX5_forbids 112 = .ok (.istore 6, 2) := by decide +kernel
theorem dX5_forbids_114 : decode cX5_forbids 114 = .ok (.iinc 7 1, 3) := by decide +kernel
theorem dX5_forbids_117 : decode cX5_forbids 117 = .ok (.goto (-82), 3) := by decide +kernel
theorem dX5_forbids_120 : decode cX5_forbids 120 = .ok (.iload 6, 2) := by decide +kernel
theorem dX5_forbids_122 : decode cX5_forbids 122 = .ok (.ireturn, 1) := by decide +kernel
theorem dX5_isBalking_0 : decode cX5_isBalking 0 = .ok (.aload_n 0, 1) := by decide +kernel
theorem dX5_isBalking_1 : decode cX5_isBalking 1 = .ok (.aload_n 1, 1) := by decide +kernel
theorem dX5_isBalking_2 : decode cX5_isBalking 2 = .ok (.iload_n 2, 1) := by decide +kernel
theorem dX5_isBalking_3 : decode cX5_isBalking 3 = .ok (.iload_n 3, 1) := by decide +kernel
theorem dX5_isBalking_4 : decode cX5_isBalking 4 = .ok (.invokevirtual 130, 3) := by decide +kernel
theorem dX5_isBalking_7 : decode cX5_isBalking 7 = .ok (.aload_n 0, 1) := by decide +kernel
theorem dX5_isBalking_8 : decode cX5_isBalking 8 = .ok (.aload_n 1, 1) := by decide +kernel
theorem dX5_isBalking_9 : decode cX5_isBalking 9 = .ok (.iload_n 2, 1) := by decide +kernel
theorem dX5_isBalking_10 : decode cX5_isBalking 10 = .ok (.invokevirtual 133, 3) := by decide +kernel
theorem dX5_isBalking_13 : decode cX5_isBalking 13 = .ok (.iand, 1) := by decide +kernel
theorem dX5_isBalking_14 : decode cX5_isBalking 14 = .ok (.ifCond .eq 7, 3) := by decide +kernel
theorem dX5_isBalking_17 : decode cX5_isBalking 17 = .ok (.iconst 1, 1) := by decide +kernel
theorem dX5_isBalking_18 : decode cX5_isBalking 18 = .ok (.goto 4, 3) := by decide +kernel
theorem dX5_isBalking_21 : decode cX5_isBalking 21 = .ok (.iconst 0, 1) := by decide +kernel
theorem dX5_isBalking_22 : decode cX5_isBalking 22 = .ok (.ireturn, 1) := by decide +kernel
theorem dX5_about_0 : decode cX5_about 0 = .ok (.aload_n 0, 1) := by decide +kernel
theorem dX5_about_1 : decode cX5_about 1 = .ok (.iconst 0, 1) := by decide +kernel
theorem dX5_about_2 : decode cX5_about 2 = .ok (.putfield 68, 3) := by decide +kernel
theorem dX5_about_5 : decode cX5_about 5 = .ok (.iload_n 1, 1) := by decide +kernel
theorem dX5_about_6 : decode cX5_about 6 = .ok (.tableswitch 83 0 6 #[42, 47, 52, 60, 68, 73, 78], 42) := by decide +kernel
theorem dX5_about_48 : decode cX5_about 48 = .ok (.aload_n 0, 1) := by decide +kernel
theorem dX5_about_49 : decode cX5_about 49 = .ok (.getfield 72, 3) := by decide +kernel
theorem dX5_about_52 : decode cX5_about 52 = .ok (.ireturn, 1) := by decide +kernel
theorem dX5_about_53 : decode cX5_about 53 = .ok (.aload_n 0, 1) := by decide +kernel
theorem dX5_about_54 : decode cX5_about 54 = .ok (.getfield 79, 3) := by decide +kernel
theorem dX5_about_57 : decode cX5_about 57 = .ok (.ireturn, 1) := by decide +kernel
theorem dX5_about_58 : decode cX5_about 58 = .ok (.aload_n 0, 1) := by decide +kernel
theorem dX5_about_59 : decode cX5_about 59 = .ok (.getfield 31, 3) := by decide +kernel
theorem dX5_about_62 : decode cX5_about 62 = .ok (.bipush 15, 2) := by decide +kernel
theorem dX5_about_64 : decode cX5_about 64 = .ok (.iaload, 1) := by decide +kernel
theorem dX5_about_65 : decode cX5_about 65 = .ok (.ireturn, 1) := by decide +kernel
theorem dX5_about_66 : decode cX5_about 66 = .ok (.aload_n 0, 1) := by decide +kernel
theorem dX5_about_67 : decode cX5_about 67 = .ok (.getfield 31, 3) := by decide +kernel
theorem dX5_about_70 : decode cX5_about 70 = .ok (.bipush 16, 2) := by decide +kernel
theorem dX5_about_72 : decode cX5_about 72 = .ok (.iaload, 1) := by decide +kernel
theorem dX5_about_73 : decode cX5_about 73 = .ok (.ireturn, 1) := by decide +kernel
theorem dX5_about_74 : decode cX5_about 74 = .ok (.aload_n 0, 1) := by decide +kernel
theorem dX5_about_75 : decode cX5_about 75 = .ok (.getfield 114, 3) := by decide +kernel
theorem dX5_about_78 : decode cX5_about 78 = .ok (.ireturn, 1) := by decide +kernel
theorem dX5_about_79 : decode cX5_about 79 = .ok (.aload_n 0, 1) := by decide +kernel
theorem dX5_about_80 : decode cX5_about 80 = .ok (.getfield 137, 3) := by decide +kernel
theorem dX5_about_83 : decode cX5_about 83 = .ok (.ireturn, 1) := by decide +kernel
theorem dX5_about_84 : decode cX5_about 84 = .ok (.aload_n 0, 1) := by decide +kernel
theorem dX5_about_85 : decode cX5_about 85 = .ok (.getfield 84, 3) := by decide +kernel
theorem dX5_about_88 : decode cX5_about 88 = .ok (.ireturn, 1) := by decide +kernel
theorem dX5_about_89 : decode cX5_about 89 = .ok (.bipush (-2), 2) := by decide +kernel
theorem dX5_about_91 : decode cX5_about 91 = .ok (.ireturn, 1) := by decide +kernel
theorem dX5_knowers_0 : decode cX5_knowers 0 = .ok (.iconst 0, 1) := by decide +kernel
theorem dX5_knowers_1 : decode cX5_knowers 1 = .ok (.istore_n 2, 1) := by decide +kernel
theorem dX5_knowers_2 : decode cX5_knowers 2 = .ok (.iconst 0, 1) := by decide +kernel
theorem dX5_knowers_3 : decode cX5_knowers 3 = .ok (.istore_n 3, 1) := by decide +kernel
theorem dX5_knowers_4 : decode cX5_knowers 4 = .ok (.iload_n 3, 1) := by decide +kernel
theorem dX5_knowers_5 : decode cX5_knowers 5 = .ok (.aload_n 0, 1) := by decide +kernel
theorem dX5_knowers_6 : decode cX5_knowers 6 = .ok (.getfield 72, 3) := by decide +kernel
theorem dX5_knowers_9 : decode cX5_knowers 9 = .ok (.if_icmp .ge 35, 3) := by decide +kernel
theorem dX5_knowers_12 : decode cX5_knowers 12 = .ok (.iload_n 2, 1) := by decide +kernel
theorem dX5_knowers_13 : decode cX5_knowers 13 = .ok (.aload_n 0, 1) := by decide +kernel
theorem dX5_knowers_14 : decode cX5_knowers 14 = .ok (.aload_n 0, 1) := by decide +kernel
theorem dX5_knowers_15 : decode cX5_knowers 15 = .ok (.getfield 31, 3) := by decide +kernel
theorem dX5_knowers_18 : decode cX5_knowers 18 = .ok (.iload_n 3, 1) := by decide +kernel
theorem dX5_knowers_19 : decode cX5_knowers 19 = .ok (.invokevirtual 133, 3) := by decide +kernel
theorem dX5_knowers_22 : decode cX5_knowers 22 = .ok (.iload_n 1, 1) := by decide +kernel
theorem dX5_knowers_23 : decode cX5_knowers 23 = .ok (.invokestatic 140, 3) := by decide +kernel
theorem dX5_knowers_26 : decode cX5_knowers 26 = .ok (.ifCond .eq 9, 3) := by decide +kernel
theorem dX5_knowers_29 : decode cX5_knowers 29 = .ok (.iconst 1, 1) := by decide +kernel
theorem dX5_knowers_30 : decode cX5_knowers 30 = .ok (.iload_n 3, 1) := by decide +kernel
theorem dX5_knowers_31 : decode cX5_knowers 31 = .ok (.ishl, 1) := by decide +kernel
theorem dX5_knowers_32 : decode cX5_knowers 32 = .ok (.goto 4, 3) := by decide +kernel
theorem dX5_knowers_35 : decode cX5_knowers 35 = .ok (.iconst 0, 1) := by decide +kernel
theorem dX5_knowers_36 : decode cX5_knowers 36 = .ok (.ior, 1) := by decide +kernel
theorem dX5_knowers_37 : decode cX5_knowers 37 = .ok (.istore_n 2, 1) := by decide +kernel
theorem dX5_knowers_38 : decode cX5_knowers 38 = .ok (.iinc 3 1, 3) := by decide +kernel
theorem dX5_knowers_41 : decode cX5_knowers 41 = .ok (.goto (-37), 3) := by decide +kernel
theorem dX5_knowers_44 : decode cX5_knowers 44 = .ok (.iload_n 2, 1) := by decide +kernel
theorem dX5_knowers_45 : decode cX5_knowers 45 = .ok (.ireturn, 1) := by decide +kernel
theorem dX5_article_0 : decode cX5_article 0 = .ok (.aload_n 0, 1) := by decide +kernel
theorem dX5_article_1 : decode cX5_article 1 = .ok (.iconst 0, 1) := by decide +kernel
theorem dX5_article_2 : decode cX5_article 2 = .ok (.putfield 68, 3) := by decide +kernel
theorem dX5_article_5 : decode cX5_article 5 = .ok (.aload_n 0, 1) := by decide +kernel
theorem dX5_article_6 : decode cX5_article 6 = .ok (.iload_n 1, 1) := by decide +kernel
theorem dX5_article_7 : decode cX5_article 7 = .ok (.invokevirtual 144, 3) := by decide +kernel
theorem dX5_article_10 : decode cX5_article 10 = .ok (.ifCond .eq 5, 3) := by decide +kernel
theorem dX5_article_13 : decode cX5_article 13 = .ok (.iconst (-1), 1) := by decide +kernel
theorem dX5_article_14 : decode cX5_article 14 = .ok (.ireturn, 1) := by decide +kernel
theorem dX5_article_15 : decode cX5_article 15 = .ok (.iload_n 2, 1) := by decide +kernel
theorem dX5_article_16 : decode cX5_article 16 = .ok (.tableswitch 59 0 3 #[32, 39, 46, 53], 32) := by decide +kernel
theorem dX5_article_48 : decode cX5_article 48 = .ok (.aload_n 0, 1) := by decide +kernel
theorem dX5_article_49 : decode cX5_article 49 = .ok (.getfield 16, 3) := by decide +kernel
theorem dX5_article_52 : decode cX5_article 52 = .ok (.iload_n 1, 1) := by decide +kernel
theorem dX5_article_53 : decode cX5_article 53 = .ok (.iaload, 1) := by decide +kernel
theorem dX5_article_54 : decode cX5_article 54 = .ok (.ireturn, 1) := by decide +kernel
theorem dX5_article_55 : decode cX5_article 55 = .ok (.aload_n 0, 1) := by decide +kernel
theorem dX5_article_56 : decode cX5_article 56 = .ok (.getfield 19, 3) := by decide +kernel
theorem dX5_article_59 : decode cX5_article 59 = .ok (.iload_n 1, 1) := by decide +kernel
theorem dX5_article_60 : decode cX5_article 60 = .ok (.iaload, 1) := by decide +kernel
theorem dX5_article_61 : decode cX5_article 61 = .ok (.ireturn, 1) := by decide +kernel
theorem dX5_article_62 : decode cX5_article 62 = .ok (.aload_n 0, 1) := by decide +kernel
theorem dX5_article_63 : decode cX5_article 63 = .ok (.getfield 22, 3) := by decide +kernel
theorem dX5_article_66 : decode cX5_article 66 = .ok (.iload_n 1, 1) := by decide +kernel
theorem dX5_article_67 : decode cX5_article 67 = .ok (.iaload, 1) := by decide +kernel
theorem dX5_article_68 : decode cX5_article 68 = .ok (.ireturn, 1) := by decide +kernel
theorem dX5_article_69 : decode cX5_article 69 = .ok (.aload_n 0, 1) := by decide +kernel
theorem dX5_article_70 : decode cX5_article 70 = .ok (.iload_n 1, 1) := by decide +kernel
theorem dX5_article_71 : decode cX5_article 71 = .ok (.invokevirtual 148, 3) := by decide +kernel
theorem dX5_article_74 : decode cX5_article 74 = .ok (.ireturn, 1) := by decide +kernel
theorem dX5_article_75 : decode cX5_article 75 = .ok (.bipush (-2), 2) := by decide +kernel
theorem dX5_article_77 : decode cX5_article 77 = .ok (.ireturn, 1) := by decide +kernel
theorem dX5_mule_0 : decode cX5_mule 0 = .ok (.aload_n 0, 1) := by decide +kernel
theorem dX5_mule_1 : decode cX5_mule 1 = .ok (.iconst 0, 1) := by decide +kernel
theorem dX5_mule_2 : decode cX5_mule 2 = .ok (.putfield 68, 3) := by decide +kernel
theorem dX5_mule_5 : decode cX5_mule 5 = .ok (.aload_n 0, 1) := by decide +kernel
theorem dX5_mule_6 : decode cX5_mule 6 = .ok (.iload_n 1, 1) := by decide +kernel
theorem dX5_mule_7 : decode cX5_mule 7 = .ok (.invokevirtual 151, 3) := by decide +kernel
theorem dX5_mule_10 : decode cX5_mule 10 = .ok (.ifCond .eq 5, 3) := by decide +kernel
theorem dX5_mule_13 : decode cX5_mule 13 = .ok (.iconst (-1), 1) := by decide +kernel
theorem dX5_mule_14 : decode cX5_mule 14 = .ok (.ireturn, 1) := by decide +kernel
theorem dX5_mule_15 : decode cX5_mule 15 = .ok (.iload_n 2, 1) := by decide +kernel
theorem dX5_mule_16 : decode cX5_mule 16 = .ok (.tableswitch 81 0 4 #[36, 45, 52, 61, 71], 36) := by decide +kernel
theorem dX5_mule_52 : decode cX5_mule 52 = .ok (.aload_n 0, 1) := by decide +kernel
theorem dX5_mule_53 : decode cX5_mule 53 = .ok (.getfield 31, 3) := by decide +kernel
theorem dX5_mule_56 : decode cX5_mule 56 = .ok (.iconst 0, 1) := by decide +kernel
theorem dX5_mule_57 : decode cX5_mule 57 = .ok (.iload_n 1, 1) := by decide +kernel
theorem dX5_mule_58 : decode cX5_mule 58 = .ok (.iadd, 1) := by decide +kernel
theorem dX5_mule_59 : decode cX5_mule 59 = .ok (.iaload, 1) := by decide +kernel
theorem dX5_mule_60 : decode cX5_mule 60 = .ok (.ireturn, 1) := by decide +kernel
theorem dX5_mule_61 : decode cX5_mule 61 = .ok (.aload_n 0, 1) := by decide +kernel
theorem dX5_mule_62 : decode cX5_mule 62 = .ok (.getfield 13, 3) := by decide +kernel
theorem dX5_mule_65 : decode cX5_mule 65 = .ok (.iload_n 1, 1) := by decide +kernel
theorem dX5_mule_66 : decode cX5_mule 66 = .ok (.iaload, 1) := by decide +kernel
theorem dX5_mule_67 : decode cX5_mule 67 = .ok (.ireturn, 1) := by decide +kernel
theorem dX5_mule_68 : decode cX5_mule 68 = .ok (.aload_n 0, 1) := by decide +kernel
theorem dX5_mule_69 : decode cX5_mule 69 = .ok (.getfield 31, 3) := by decide +kernel
theorem dX5_mule_72 : decode cX5_mule 72 = .ok (.iconst 5, 1) := by decide +kernel
theorem dX5_mule_73 : decode cX5_mule 73 = .ok (.iload_n 1, 1) := by decide +kernel
theorem dX5_mule_74 : decode cX5_mule 74 = .ok (.iadd, 1) := by decide +kernel
theorem dX5_mule_75 : decode cX5_mule 75 = .ok (.iaload, 1) := by decide +kernel
theorem dX5_mule_76 : decode cX5_mule 76 = .ok (.ireturn, 1) := by decide +kernel
theorem dX5_mule_77 : decode cX5_mule 77 = .ok (.aload_n 0, 1) := by decide +kernel
theorem dX5_mule_78 : decode cX5_mule 78 = .ok (.getfield 31, 3) := by decide +kernel
theorem dX5_mule_81 : decode cX5_mule 81 = .ok (.bipush 10, 2) := by decide +kernel
theorem dX5_mule_83 : decode cX5_mule 83 = .ok (.iload_n 1, 1) := by decide +kernel
theorem dX5_mule_84 : decode cX5_mule 84 = .ok (.iadd, 1) := by decide +kernel
theorem dX5_mule_85 : decode cX5_mule 85 = .ok (.iaload, 1) := by decide +kernel
theorem dX5_mule_86 : decode cX5_mule 86 = .ok (.ireturn, 1) := by decide +kernel
theorem dX5_mule_87 : decode cX5_mule 87 = .ok (.aload_n 0, 1) := by decide +kernel
theorem dX5_mule_88 : decode cX5_mule 88 = .ok (.aload_n 0, 1) := by decide +kernel
theorem dX5_mule_89 : decode cX5_mule 89 = .ok (.getfield 31, 3) := by decide +kernel
theorem dX5_mule_92 : decode cX5_mule 92 = .ok (.iload_n 1, 1) := by decide +kernel
theorem dX5_mule_93 : decode cX5_mule 93 = .ok (.invokevirtual 133, 3) := by decide +kernel
theorem dX5_mule_96 : decode cX5_mule 96 = .ok (.ireturn, 1) := by decide +kernel
theorem dX5_mule_97 : decode cX5_mule 97 = .ok (.bipush (-2), 2) := by decide +kernel
theorem dX5_mule_99 : decode cX5_mule 99 = .ok (.ireturn, 1) := by decide +kernel
theorem dX5_noStep_0 : decode cX5_noStep 0 = .ok (.aload_n 0, 1) := by decide +kernel
theorem dX5_noStep_1 : decode cX5_noStep 1 = .ok (.iload_n 1, 1) := by decide +kernel
theorem dX5_noStep_2 : decode cX5_noStep 2 = .ok (.invokevirtual 151, 3) := by decide +kernel
theorem dX5_noStep_5 : decode cX5_noStep 5 = .ok (.ifCond .eq 5, 3) := by decide +kernel
theorem dX5_noStep_8 : decode cX5_noStep 8 = .ok (.iconst (-1), 1) := by decide +kernel
theorem dX5_noStep_9 : decode cX5_noStep 9 = .ok (.ireturn, 1) := by decide +kernel
theorem dX5_noStep_10 : decode cX5_noStep 10 = .ok (.iload_n 2, 1) := by decide +kernel
theorem dX5_noStep_11 : decode cX5_noStep 11 = .ok (.i2l, 1) := by decide +kernel
theorem dX5_noStep_12 : decode cX5_noStep 12 = .ok (.lconst 0, 1) := by decide +kernel
theorem dX5_noStep_13 : decode cX5_noStep 13 = .ok (.lconst 1, 1) := by decide +kernel
theorem dX5_noStep_14 : decode cX5_noStep 14 = .ok (.invokestatic 75, 3) := by decide +kernel
theorem dX5_noStep_17 : decode cX5_noStep 17 = .ok (.ifCond .ne 6, 3) := by decide +kernel
theorem dX5_noStep_20 : decode cX5_noStep 20 = .ok (.bipush (-2), 2) := by decide +kernel
theorem dX5_noStep_22 : decode cX5_noStep 22 = .ok (.ireturn, 1) := by decide +kernel
theorem dX5_noStep_23 : decode cX5_noStep 23 = .ok (.aload_n 0, 1) := by decide +kernel
theorem dX5_noStep_24 : decode cX5_noStep 24 = .ok (.getfield 31, 3) := by decide +kernel
theorem dX5_noStep_27 : decode cX5_noStep 27 = .ok (.iload_n 1, 1) := by decide +kernel
theorem dX5_noStep_28 : decode cX5_noStep 28 = .ok (.iload_n 2, 1) := by decide +kernel
theorem dX5_noStep_29 : decode cX5_noStep 29 = .ok (.invokestatic 119, 3) := by decide +kernel
theorem dX5_noStep_32 : decode cX5_noStep 32 = .ok (.bipush (-9), 2) := by decide +kernel
theorem dX5_noStep_34 : decode cX5_noStep 34 = .ok (.if_icmp .ne 8, 3) := by decide +kernel
theorem dX5_noStep_37 : decode cX5_noStep 37 = .ok (.bipush (-3), 2) := by decide +kernel
theorem dX5_noStep_39 : decode cX5_noStep 39 = .ok (.goto 4, 3) := by decide +kernel
theorem dX5_noStep_42 : decode cX5_noStep 42 = .ok (.iconst 0, 1) := by decide +kernel
theorem dX5_noStep_43 : decode cX5_noStep 43 = .ok (.ireturn, 1) := by decide +kernel
theorem dX5_by_0 : decode cX5_by 0 = .ok (.aload_n 0, 1) := by decide +kernel
theorem dX5_by_1 : decode cX5_by 1 = .ok (.iconst 0, 1) := by decide +kernel
theorem dX5_by_2 : decode cX5_by 2 = .ok (.putfield 68, 3) := by decide +kernel
theorem dX5_by_5 : decode cX5_by 5 = .ok (.aload_n 0, 1) := by decide +kernel
theorem dX5_by_6 : decode cX5_by 6 = .ok (.iload_n 1, 1) := by decide +kernel
theorem dX5_by_7 : decode cX5_by 7 = .ok (.iload_n 2, 1) := by decide +kernel
theorem dX5_by_8 : decode cX5_by 8 = .ok (.invokevirtual 154, 3) := by decide +kernel
theorem dX5_by_11 : decode cX5_by 11 = .ok (.istore_n 3, 1) := by decide +kernel
theorem dX5_by_12 : decode cX5_by 12 = .ok (.iload_n 3, 1) := by decide +kernel
theorem dX5_by_13 : decode cX5_by 13 = .ok (.ifCond .eq 7, 3) := by decide +kernel
theorem dX5_by_16 : decode cX5_by 16 = .ok (.iload_n 3, 1) := by decide +kernel
theorem dX5_by_17 : decode cX5_by 17 = .ok (.goto 13, 3) := by decide +kernel
theorem dX5_by_20 : decode cX5_by 20 = .ok (.aload_n 0, 1) := by decide +kernel
theorem dX5_by_21 : decode cX5_by 21 = .ok (.aload_n 0, 1) := by decide +kernel
theorem dX5_by_22 : decode cX5_by 22 = .ok (.getfield 31, 3) := by decide +kernel
theorem dX5_by_25 : decode cX5_by 25 = .ok (.iload_n 1, 1) := by decide +kernel
theorem dX5_by_26 : decode cX5_by 26 = .ok (.iload_n 2, 1) := by decide +kernel
theorem dX5_by_27 : decode cX5_by 27 = .ok (.invokevirtual 130, 3) := by decide +kernel
theorem dX5_by_30 : decode cX5_by 30 = .ok (.ireturn, 1) := by decide +kernel
theorem dX5_leastOf_0 : decode cX5_leastOf 0 = .ok (.bipush (-9), 2) := by decide +kernel
theorem dX5_leastOf_2 : decode cX5_leastOf 2 = .ok (.istore_n 1, 1) := by decide +kernel
theorem dX5_leastOf_3 : decode cX5_leastOf 3 = .ok (.iconst 4, 1) := by decide +kernel
theorem dX5_leastOf_4 : decode cX5_leastOf 4 = .ok (.istore_n 2, 1) := by decide +kernel
theorem dX5_leastOf_5 : decode cX5_leastOf 5 = .ok (.iload_n 2, 1) := by decide +kernel
theorem dX5_leastOf_6 : decode cX5_leastOf 6 = .ok (.ifCond .lt 23, 3) := by decide +kernel
theorem dX5_leastOf_9 : decode cX5_leastOf 9 = .ok (.iload_n 0, 1) := by decide +kernel
theorem dX5_leastOf_10 : decode cX5_leastOf 10 = .ok (.iload_n 2, 1) := by decide +kernel
theorem dX5_leastOf_11 : decode cX5_leastOf 11 = .ok (.invokestatic 140, 3) := by decide +kernel
theorem dX5_leastOf_14 : decode cX5_leastOf 14 = .ok (.ifCond .eq 7, 3) := by decide +kernel
theorem dX5_leastOf_17 : decode cX5_leastOf 17 = .ok (.iload_n 2, 1) := by decide +kernel
theorem dX5_leastOf_18 : decode cX5_leastOf 18 = .ok (.goto 4, 3) := by decide +kernel
theorem dX5_leastOf_21 : decode cX5_leastOf 21 = .ok (.iload_n 1, 1) := by decide +kernel
theorem dX5_leastOf_22 : decode cX5_leastOf 22 = .ok (.istore_n 1, 1) := by decide +kernel
theorem dX5_leastOf_23 : decode cX5_leastOf 23 = .ok (.iinc 2 (-1), 3) := by decide +kernel
theorem dX5_leastOf_26 : decode cX5_leastOf 26 = .ok (.goto (-21), 3) := by decide +kernel
theorem dX5_leastOf_29 : decode cX5_leastOf 29 = .ok (.iload_n 1, 1) := by decide +kernel
theorem dX5_leastOf_30 : decode cX5_leastOf 30 = .ok (.ireturn, 1) := by decide +kernel
theorem dX5_balks_0 : decode cX5_balks 0 = .ok (.aload_n 0, 1) := by decide +kernel
theorem dX5_balks_1 : decode cX5_balks 1 = .ok (.iconst 0, 1) := by decide +kernel
theorem dX5_balks_2 : decode cX5_balks 2 = .ok (.putfield 68, 3) := by decide +kernel
theorem dX5_balks_5 : decode cX5_balks 5 = .ok (.aload_n 0, 1) := by decide +kernel
theorem dX5_balks_6 : decode cX5_balks 6 = .ok (.iload_n 1, 1) := by decide +kernel
theorem dX5_balks_7 : decode cX5_balks 7 = .ok (.iload_n 2, 1) := by decide +kernel
theorem dX5_balks_8 : decode cX5_balks 8 = .ok (.invokevirtual 154, 3) := by decide +kernel
theorem dX5_balks_11 : decode cX5_balks 11 = .ok (.istore_n 3, 1) := by decide +kernel
theorem dX5_balks_12 : decode cX5_balks 12 = .ok (.iload_n 3, 1) := by decide +kernel
theorem dX5_balks_13 : decode cX5_balks 13 = .ok (.ifCond .eq 7, 3) := by decide +kernel
theorem dX5_balks_16 : decode cX5_balks 16 = .ok (.iload_n 3, 1) := by decide +kernel
theorem dX5_balks_17 : decode cX5_balks 17 = .ok (.goto 26, 3) := by decide +kernel
theorem dX5_balks_20 : decode cX5_balks 20 = .ok (.aload_n 0, 1) := by decide +kernel
theorem dX5_balks_21 : decode cX5_balks 21 = .ok (.aload_n 0, 1) := by decide +kernel
theorem dX5_balks_22 : decode cX5_balks 22 = .ok (.getfield 31, 3) := by decide +kernel
theorem dX5_balks_25 : decode cX5_balks 25 = .ok (.iload_n 1, 1) := by decide +kernel
theorem dX5_balks_26 : decode cX5_balks 26 = .ok (.iload_n 2, 1) := by decide +kernel
theorem dX5_balks_27 : decode cX5_balks 27 = .ok (.invokevirtual 130, 3) := by decide +kernel
theorem dX5_balks_30 : decode cX5_balks 30 = .ok (.aload_n 0, 1) := by decide +kernel
theorem dX5_balks_31 : decode cX5_balks 31 = .ok (.aload_n 0, 1) := by decide +kernel
theorem dX5_balks_32 : decode cX5_balks 32 = .ok (.getfield 31, 3) := by decide +kernel
theorem dX5_balks_35 : decode cX5_balks 35 = .ok (.iload_n 1, 1) := by decide +kernel
theorem dX5_balks_36 : decode cX5_balks 36 = .ok (.invokevirtual 133, 3) := by decide +kernel
theorem dX5_balks_39 : decode cX5_balks 39 = .ok (.iand, 1) := by decide +kernel
theorem dX5_balks_40 : decode cX5_balks 40 = .ok (.invokestatic 158, 3) := by decide +kernel
theorem dX5_balks_43 : decode cX5_balks 43 = .ok (.ireturn, 1) := by decide +kernel
theorem dX5_note_0 : decode cX5_note 0 = .ok (.aload_n 0, 1) := by decide +kernel
theorem dX5_note_1 : decode cX5_note 1 = .ok (.getfield 114, 3) := by decide +kernel
theorem dX5_note_4 : decode cX5_note 4 = .ok (.bipush 14, 2) := by decide +kernel
theorem dX5_note_6 : decode cX5_note 6 = .ok (.if_icmp .ne 43, 3) := by decide +kernel
theorem dX5_note_9 : decode cX5_note 9 = .ok (.iconst 0, 1) := by decide +kernel
theorem dX5_note_10 : decode cX5_note 10 = .ok (.istore_n 1, 1) := by decide +kernel
theorem dX5_note_11 : decode cX5_note 11 = .ok (.iload_n 1, 1) := by decide +kernel
theorem dX5_note_12 : decode cX5_note 12 = .ok (.sipush 221, 3) := by decide +kernel
theorem dX5_note_15 : decode cX5_note 15 = .ok (.if_icmp .ge 24, 3) := by decide +kernel
theorem dX5_note_18 : decode cX5_note 18 = .ok (.aload_n 0, 1) := by decide +kernel
theorem dX5_note_19 : decode cX5_note 19 = .ok (.getfield 37, 3) := by decide +kernel
theorem dX5_note_22 : decode cX5_note 22 = .ok (.iload_n 1, 1) := by decide +kernel
theorem dX5_note_23 : decode cX5_note 23 = .ok (.aload_n 0, 1) := by decide +kernel
theorem dX5_note_24 : decode cX5_note 24 = .ok (.getfield 37, 3) := by decide +kernel
theorem dX5_note_27 : decode cX5_note 27 = .ok (.iload_n 1, 1) := by decide +kernel
theorem dX5_note_28 : decode cX5_note 28 = .ok (.bipush 17, 2) := by decide +kernel
theorem dX5_note_30 : decode cX5_note 30 = .ok (.iadd, 1) := by decide +kernel
theorem dX5_note_31 : decode cX5_note 31 = .ok (.iaload, 1) := by decide +kernel
theorem dX5_note_32 : decode cX5_note 32 = .ok (.iastore, 1) := by decide +kernel
theorem dX5_note_33 : decode cX5_note 33 = .ok (.iinc 1 1, 3) := by decide +kernel
theorem dX5_note_36 : decode cX5_note 36 = .ok (.goto (-25), 3) := by decide +kernel
theorem dX5_note_39 : decode cX5_note 39 = .ok (.aload_n 0, 1) := by decide +kernel
theorem dX5_note_40 : decode cX5_note 40 = .ok (.dup, 1) := by decide +kernel
theorem dX5_note_41 : decode cX5_note 41 = .ok (.getfield 114, 3) := by decide +kernel
theorem dX5_note_44 : decode cX5_note 44 = .ok (.iconst 1, 1) := by decide +kernel
theorem dX5_note_45 : decode cX5_note 45 = .ok (.isub, 1) := by decide +kernel
theorem dX5_note_46 : decode cX5_note 46 = .ok (.putfield 114, 3) := by decide +kernel
theorem dX5_note_49 : decode cX5_note 49 = .ok (.iconst 0, 1) := by decide +kernel
theorem dX5_note_50 : decode cX5_note 50 = .ok (.istore_n 1, 1) := by decide +kernel
theorem dX5_note_51 : decode cX5_note 51 = .ok (.iload_n 1, 1) := by decide +kernel
theorem dX5_note_52 : decode cX5_note 52 = .ok (.bipush 17, 2) := by decide +kernel
theorem dX5_note_54 : decode cX5_note 54 = .ok (.if_icmp .ge 29, 3) := by decide +kernel
theorem dX5_note_57 : decode cX5_note 57 = .ok (.aload_n 0, 1) := by decide +kernel
theorem dX5_note_58 : decode cX5_note 58 = .ok (.getfield 37, 3) := by decide +kernel
theorem dX5_note_61 : decode cX5_note 61 = .ok (.bipush 17, 2) := by decide +kernel
theorem dX5_note_63 : decode cX5_note 63 = .ok (.aload_n 0, 1) := by decide +kernel
theorem dX5_note_64 : decode cX5_note 64 = .ok (.getfield 114, 3) := by decide +kernel
theorem dX5_note_67 : decode cX5_note 67 = .ok (.imul, 1) := by decide +kernel
theorem dX5_note_68 : decode cX5_note 68 = .ok (.iload_n 1, 1) := by decide +kernel
theorem dX5_note_69 : decode cX5_note 69 = .ok (.iadd, 1) := by decide +kernel
theorem dX5_note_70 : decode cX5_note 70 = .ok (.aload_n 0, 1) := by decide +kernel
theorem dX5_note_71 : decode cX5_note 71 = .ok (.getfield 31, 3) := by decide +kernel
theorem dX5_note_74 : decode cX5_note 74 = .ok (.iload_n 1, 1) := by decide +kernel
theorem dX5_note_75 : decode cX5_note 75 = .ok (.iaload, 1) := by decide +kernel
theorem dX5_note_76 : decode cX5_note 76 = .ok (.iastore, 1) := by decide +kernel
theorem dX5_note_77 : decode cX5_note 77 = .ok (.iinc 1 1, 3) := by decide +kernel
theorem dX5_note_80 : decode cX5_note 80 = .ok (.goto (-29), 3) := by decide +kernel
theorem dX5_note_83 : decode cX5_note 83 = .ok (.aload_n 0, 1) := by decide +kernel
theorem dX5_note_84 : decode cX5_note 84 = .ok (.dup, 1) := by decide +kernel
theorem dX5_note_85 : decode cX5_note 85 = .ok (.getfield 114, 3) := by decide +kernel
theorem dX5_note_88 : decode cX5_note 88 = .ok (.iconst 1, 1) := by decide +kernel
theorem dX5_note_89 : decode cX5_note 89 = .ok (.iadd, 1) := by decide +kernel
theorem dX5_note_90 : decode cX5_note 90 = .ok (.putfield 114, 3) := by decide +kernel
theorem dX5_note_93 : decode cX5_note 93 = .ok (.return_, 1) := by decide +kernel
theorem dX5_go_0 : decode cX5_go 0 = .ok (.aload_n 1, 1) := by decide +kernel
theorem dX5_go_1 : decode cX5_go 1 = .ok (.bipush 16, 2) := by decide +kernel
theorem dX5_go_3 : decode cX5_go 3 = .ok (.dup2, 1) := by decide +kernel
theorem dX5_go_4 : decode cX5_go 4 = .ok (.iaload, 1) := by decide +kernel
theorem dX5_go_5 : decode cX5_go 5 = .ok (.aload_n 0, 1) := by decide +kernel
theorem dX5_go_6 : decode cX5_go 6 = .ok (.aload_n 1, 1) := by decide +kernel
theorem dX5_go_7 : decode cX5_go 7 = .ok (.iload_n 2, 1) := by decide +kernel
theorem dX5_go_8 : decode cX5_go 8 = .ok (.iload_n 3, 1) := by decide +kernel
theorem dX5_go_9 : decode cX5_go 9 = .ok (.invokevirtual 130, 3) := by decide +kernel
theorem dX5_go_12 : decode cX5_go 12 = .ok (.invokestatic 161, 3) := by decide +kernel
theorem dX5_go_15 : decode cX5_go 15 = .ok (.iadd, 1) := by decide +kernel
theorem dX5_go_16 : decode cX5_go 16 = .ok (.iastore, 1) := by decide +kernel
theorem dX5_go_17 : decode cX5_go 17 = .ok (.aload_n 1, 1) := by decide +kernel
theorem dX5_go_18 : decode cX5_go 18 = .ok (.iconst 0, 1) := by decide +kernel
theorem dX5_go_19 : decode cX5_go 19 = .ok (.iload_n 2, 1) := by decide +kernel
theorem dX5_go_20 : decode cX5_go 20 = .ok (.iadd, 1) := by decide +kernel
theorem dX5_go_21 : decode cX5_go 21 = .ok (.aload_n 1, 1) := by decide +kernel
theorem dX5_go_22 : decode cX5_go 22 = .ok (.iload_n 2, 1) := by decide +kernel
theorem dX5_go_23 : decode cX5_go 23 = .ok (.iload_n 3, 1) := by decide +kernel
theorem dX5_go_24 : decode cX5_go 24 = .ok (.invokestatic 119, 3) := by decide +kernel
theorem dX5_go_27 : decode cX5_go 27 = .ok (.iastore, 1) := by decide +kernel
theorem dX5_go_28 : decode cX5_go 28 = .ok (.aload_n 1, 1) := by decide +kernel
theorem dX5_go_29 : decode cX5_go 29 = .ok (.bipush 15, 2) := by decide +kernel
theorem dX5_go_31 : decode cX5_go 31 = .ok (.dup2, 1) := by decide +kernel
theorem dX5_go_32 : decode cX5_go 32 = .ok (.iaload, 1) := by decide +kernel
theorem dX5_go_33 : decode cX5_go 33 = .ok (.iconst 1, 1) := by decide +kernel
theorem dX5_go_34 : decode cX5_go 34 = .ok (.iadd, 1) := by decide +kernel
theorem dX5_go_35 : decode cX5_go 35 = .ok (.iastore, 1) := by decide +kernel
theorem dX5_go_36 : decode cX5_go 36 = .ok (.return_, 1) := by decide +kernel
theorem dX5_step_0 : decode cX5_step 0 = .ok (.aload_n 0, 1) := by decide +kernel
theorem dX5_step_1 : decode cX5_step 1 = .ok (.iconst 0, 1) := by decide +kernel
theorem dX5_step_2 : decode cX5_step 2 = .ok (.putfield 68, 3) := by decide +kernel
theorem dX5_step_5 : decode cX5_step 5 = .ok (.aload_n 0, 1) := by decide +kernel
theorem dX5_step_6 : decode cX5_step 6 = .ok (.iload_n 1, 1) := by decide +kernel
theorem dX5_step_7 : decode cX5_step 7 = .ok (.iload_n 2, 1) := by decide +kernel
theorem dX5_step_8 : decode cX5_step 8 = .ok (.invokevirtual 154, 3) := by decide +kernel
theorem dX5_step_11 : decode cX5_step 11 = .ok (.istore_n 3, 1) := by decide +kernel
theorem dX5_step_12 : decode cX5_step 12 = .ok (.iload_n 3, 1) := by decide +kernel
theorem dX5_step_13 : decode cX5_step 13 = .ok (.ifCond .eq 5, 3) := by decide +kernel
theorem dX5_step_16 : decode cX5_step 16 = .ok (.iload_n 3, 1) := by decide +kernel
theorem dX5_step_17 : decode cX5_step 17 = .ok (.ireturn, 1) := by decide +kernel
theorem dX5_step_18 : decode cX5_step 18 = .ok (.aload_n 0, 1) := by decide +kernel
theorem dX5_step_19 : decode cX5_step 19 = .ok (.aload_n 0, 1) := by decide +kernel
theorem dX5_step_20 : decode cX5_step 20 = .ok (.getfield 31, 3) := by decide +kernel
theorem dX5_step_23 : decode cX5_step 23 = .ok (.iload_n 1, 1) := by decide +kernel
theorem dX5_step_24 : decode cX5_step 24 = .ok (.iload_n 2, 1) := by decide +kernel
theorem dX5_step_25 : decode cX5_step 25 = .ok (.invokevirtual 164, 3) := by decide +kernel
theorem dX5_step_28 : decode cX5_step 28 = .ok (.ifCond .eq 6, 3) := by decide +kernel
end
section
theorem dX5_step_31 : decode cX5_step 31 = .ok (.bipush (-3), 2) := by decide +kernel
theorem dX5_step_33 : decode cX5_step 33 = .ok (.ireturn, 1) := by decide +kernel
theorem dX5_step_34 : decode cX5_step 34 = .ok (.aload_n 0, 1) := by decide +kernel
theorem dX5_step_35 : decode cX5_step 35 = .ok (.invokevirtual 168, 3) := by decide +kernel
theorem dX5_step_38 : decode cX5_step 38 = .ok (.aload_n 0, 1) := by decide +kernel
theorem dX5_step_39 : decode cX5_step 39 = .ok (.aload_n 0, 1) := by decide +kernel
theorem dX5_step_40 : decode cX5_step 40 = .ok (.getfield 31, 3) := by decide +kernel
theorem dX5_step_43 : decode cX5_step 43 = .ok (.iload_n 1, 1) := by decide +kernel
theorem dX5_step_44 : decode cX5_step 44 = .ok (.iload_n 2, 1) := by decide +kernel
theorem dX5_step_45 : decode cX5_step 45 = .ok (.invokevirtual 171, 3) := by decide +kernel
theorem dX5_step_48 : decode cX5_step 48 = .ok (.aload_n 0, 1) := by decide +kernel
theorem dX5_step_49 : decode cX5_step 49 = .ok (.getfield 31, 3) := by decide +kernel
theorem dX5_step_52 : decode cX5_step 52 = .ok (.iconst 0, 1) := by decide +kernel
theorem dX5_step_53 : decode cX5_step 53 = .ok (.iload_n 1, 1) := by decide +kernel
theorem dX5_step_54 : decode cX5_step 54 = .ok (.iadd, 1) := by decide +kernel
theorem dX5_step_55 : decode cX5_step 55 = .ok (.iaload, 1) := by decide +kernel
theorem dX5_step_56 : decode cX5_step 56 = .ok (.ireturn, 1) := by decide +kernel
theorem dX5_pause_0 : decode cX5_pause 0 = .ok (.aload_n 0, 1) := by decide +kernel
theorem dX5_pause_1 : decode cX5_pause 1 = .ok (.iconst 0, 1) := by decide +kernel
theorem dX5_pause_2 : decode cX5_pause 2 = .ok (.putfield 68, 3) := by decide +kernel
theorem dX5_pause_5 : decode cX5_pause 5 = .ok (.aload_n 0, 1) := by decide +kernel
theorem dX5_pause_6 : decode cX5_pause 6 = .ok (.invokevirtual 168, 3) := by decide +kernel
theorem dX5_pause_9 : decode cX5_pause 9 = .ok (.aload_n 0, 1) := by decide +kernel
theorem dX5_pause_10 : decode cX5_pause 10 = .ok (.getfield 31, 3) := by decide +kernel
theorem dX5_pause_13 : decode cX5_pause 13 = .ok (.bipush 15, 2) := by decide +kernel
theorem dX5_pause_15 : decode cX5_pause 15 = .ok (.dup2, 1) := by decide +kernel
theorem dX5_pause_16 : decode cX5_pause 16 = .ok (.iaload, 1) := by decide +kernel
theorem dX5_pause_17 : decode cX5_pause 17 = .ok (.iconst 1, 1) := by decide +kernel
theorem dX5_pause_18 : decode cX5_pause 18 = .ok (.iadd, 1) := by decide +kernel
theorem dX5_pause_19 : decode cX5_pause 19 = .ok (.iastore, 1) := by decide +kernel
theorem dX5_pause_20 : decode cX5_pause 20 = .ok (.aload_n 0, 1) := by decide +kernel
theorem dX5_pause_21 : decode cX5_pause 21 = .ok (.getfield 31, 3) := by decide +kernel
theorem dX5_pause_24 : decode cX5_pause 24 = .ok (.bipush 15, 2) := by decide +kernel
theorem dX5_pause_26 : decode cX5_pause 26 = .ok (.iaload, 1) := by decide +kernel
theorem dX5_pause_27 : decode cX5_pause 27 = .ok (.ireturn, 1) := by decide +kernel
theorem dX5_show_0 : decode cX5_show 0 = .ok (.aload_n 0, 1) := by decide +kernel
theorem dX5_show_1 : decode cX5_show 1 = .ok (.iconst 0, 1) := by decide +kernel
theorem dX5_show_2 : decode cX5_show 2 = .ok (.putfield 68, 3) := by decide +kernel
theorem dX5_show_5 : decode cX5_show 5 = .ok (.aload_n 0, 1) := by decide +kernel
theorem dX5_show_6 : decode cX5_show 6 = .ok (.iload_n 1, 1) := by decide +kernel
theorem dX5_show_7 : decode cX5_show 7 = .ok (.invokevirtual 151, 3) := by decide +kernel
theorem dX5_show_10 : decode cX5_show 10 = .ok (.ifCond .ne 19, 3) := by decide +kernel
theorem dX5_show_13 : decode cX5_show 13 = .ok (.aload_n 0, 1) := by decide +kernel
theorem dX5_show_14 : decode cX5_show 14 = .ok (.iload_n 2, 1) := by decide +kernel
theorem dX5_show_15 : decode cX5_show 15 = .ok (.invokevirtual 151, 3) := by decide +kernel
theorem dX5_show_18 : decode cX5_show 18 = .ok (.ifCond .ne 11, 3) := by decide +kernel
theorem dX5_show_21 : decode cX5_show 21 = .ok (.aload_n 0, 1) := by decide +kernel
theorem dX5_show_22 : decode cX5_show 22 = .ok (.iload_n 3, 1) := by decide +kernel
theorem dX5_show_23 : decode cX5_show 23 = .ok (.invokevirtual 144, 3) := by decide +kernel
theorem dX5_show_26 : decode cX5_show 26 = .ok (.ifCond .eq 5, 3) := by decide +kernel
theorem dX5_show_29 : decode cX5_show 29 = .ok (.iconst (-1), 1) := by decide +kernel
theorem dX5_show_30 : decode cX5_show 30 = .ok (.ireturn, 1) := by decide +kernel
theorem dX5_show_31 : decode cX5_show 31 = .ok (.iload_n 1, 1) := by decide +kernel
theorem dX5_show_32 : decode cX5_show 32 = .ok (.iload_n 2, 1) := by decide +kernel
theorem dX5_show_33 : decode cX5_show 33 = .ok (.if_icmp .ne 6, 3) := by decide +kernel
theorem dX5_show_36 : decode cX5_show 36 = .ok (.bipush (-2), 2) := by decide +kernel
theorem dX5_show_38 : decode cX5_show 38 = .ok (.ireturn, 1) := by decide +kernel
theorem dX5_show_39 : decode cX5_show 39 = .ok (.aload_n 0, 1) := by decide +kernel
theorem dX5_show_40 : decode cX5_show 40 = .ok (.getfield 31, 3) := by decide +kernel
theorem dX5_show_43 : decode cX5_show 43 = .ok (.iconst 0, 1) := by decide +kernel
theorem dX5_show_44 : decode cX5_show 44 = .ok (.iload_n 1, 1) := by decide +kernel
theorem dX5_show_45 : decode cX5_show 45 = .ok (.iadd, 1) := by decide +kernel
theorem dX5_show_46 : decode cX5_show 46 = .ok (.iaload, 1) := by decide +kernel
theorem dX5_show_47 : decode cX5_show 47 = .ok (.aload_n 0, 1) := by decide +kernel
theorem dX5_show_48 : decode cX5_show 48 = .ok (.getfield 31, 3) := by decide +kernel
theorem dX5_show_51 : decode cX5_show 51 = .ok (.iconst 0, 1) := by decide +kernel
theorem dX5_show_52 : decode cX5_show 52 = .ok (.iload_n 2, 1) := by decide +kernel
theorem dX5_show_53 : decode cX5_show 53 = .ok (.iadd, 1) := by decide +kernel
theorem dX5_show_54 : decode cX5_show 54 = .ok (.iaload, 1) := by decide +kernel
theorem dX5_show_55 : decode cX5_show 55 = .ok (.if_icmp .ne 35, 3) := by decide +kernel
theorem dX5_show_58 : decode cX5_show 58 = .ok (.aload_n 0, 1) := by decide +kernel
theorem dX5_show_59 : decode cX5_show 59 = .ok (.aload_n 0, 1) := by decide +kernel
theorem dX5_show_60 : decode cX5_show 60 = .ok (.getfield 31, 3) := by decide +kernel
theorem dX5_show_63 : decode cX5_show 63 = .ok (.iload_n 2, 1) := by decide +kernel
theorem dX5_show_64 : decode cX5_show 64 = .ok (.invokevirtual 133, 3) := by decide +kernel
theorem dX5_show_67 : decode cX5_show 67 = .ok (.iload_n 3, 1) := by decide +kernel
theorem dX5_show_68 : decode cX5_show 68 = .ok (.invokestatic 140, 3) := by decide +kernel
theorem dX5_show_71 : decode cX5_show 71 = .ok (.ifCond .eq 19, 3) := by decide +kernel
theorem dX5_show_74 : decode cX5_show 74 = .ok (.aload_n 0, 1) := by decide +kernel
theorem dX5_show_75 : decode cX5_show 75 = .ok (.getfield 31, 3) := by decide +kernel
theorem dX5_show_78 : decode cX5_show 78 = .ok (.bipush 10, 2) := by decide +kernel
theorem dX5_show_80 : decode cX5_show 80 = .ok (.iload_n 1, 1) := by decide +kernel
theorem dX5_show_81 : decode cX5_show 81 = .ok (.iadd, 1) := by decide +kernel
theorem dX5_show_82 : decode cX5_show 82 = .ok (.iaload, 1) := by decide +kernel
theorem dX5_show_83 : decode cX5_show 83 = .ok (.iload_n 3, 1) := by decide +kernel
theorem dX5_show_84 : decode cX5_show 84 = .ok (.invokestatic 140, 3) := by decide +kernel
theorem dX5_show_87 : decode cX5_show 87 = .ok (.ifCond .eq 6, 3) := by decide +kernel
theorem dX5_show_90 : decode cX5_show 90 = .ok (.bipush (-3), 2) := by decide +kernel
theorem dX5_show_92 : decode cX5_show 92 = .ok (.ireturn, 1) := by decide +kernel
theorem dX5_show_93 : decode cX5_show 93 = .ok (.aload_n 0, 1) := by decide +kernel
theorem dX5_show_94 : decode cX5_show 94 = .ok (.invokevirtual 168, 3) := by decide +kernel
theorem dX5_show_97 : decode cX5_show 97 = .ok (.aload_n 0, 1) := by decide +kernel
theorem dX5_show_98 : decode cX5_show 98 = .ok (.getfield 31, 3) := by decide +kernel
theorem dX5_show_101 : decode cX5_show 101 = .ok (.bipush 10, 2) := by decide +kernel
theorem dX5_show_103 : decode cX5_show 103 = .ok (.iload_n 1, 1) := by decide +kernel
theorem dX5_show_104 : decode cX5_show 104 = .ok (.iadd, 1) := by decide +kernel
theorem dX5_show_105 : decode cX5_show 105 = .ok (.dup2, 1) := by decide +kernel
theorem dX5_show_106 : decode cX5_show 106 = .ok (.iaload, 1) := by decide +kernel
theorem dX5_show_107 : decode cX5_show 107 = .ok (.iconst 1, 1) := by decide +kernel
theorem dX5_show_108 : decode cX5_show 108 = .ok (.iload_n 3, 1) := by decide +kernel
theorem dX5_show_109 : decode cX5_show 109 = .ok (.ishl, 1) := by decide +kernel
theorem dX5_show_110 : decode cX5_show 110 = .ok (.ior, 1) := by decide +kernel
theorem dX5_show_111 : decode cX5_show 111 = .ok (.iastore, 1) := by decide +kernel
theorem dX5_show_112 : decode cX5_show 112 = .ok (.aload_n 0, 1) := by decide +kernel
theorem dX5_show_113 : decode cX5_show 113 = .ok (.getfield 31, 3) := by decide +kernel
theorem dX5_show_116 : decode cX5_show 116 = .ok (.bipush 10, 2) := by decide +kernel
theorem dX5_show_118 : decode cX5_show 118 = .ok (.iload_n 1, 1) := by decide +kernel
theorem dX5_show_119 : decode cX5_show 119 = .ok (.iadd, 1) := by decide +kernel
theorem dX5_show_120 : decode cX5_show 120 = .ok (.iaload, 1) := by decide +kernel
theorem dX5_show_121 : decode cX5_show 121 = .ok (.invokestatic 161, 3) := by decide +kernel
theorem dX5_show_124 : decode cX5_show 124 = .ok (.ireturn, 1) := by decide +kernel
theorem dX5_sell_0 : decode cX5_sell 0 = .ok (.aload_n 0, 1) := by decide +kernel
theorem dX5_sell_1 : decode cX5_sell 1 = .ok (.iconst 0, 1) := by decide +kernel
theorem dX5_sell_2 : decode cX5_sell 2 = .ok (.putfield 68, 3) := by decide +kernel
theorem dX5_sell_5 : decode cX5_sell 5 = .ok (.aload_n 0, 1) := by decide +kernel
theorem dX5_sell_6 : decode cX5_sell 6 = .ok (.iload_n 1, 1) := by decide +kernel
theorem dX5_sell_7 : decode cX5_sell 7 = .ok (.invokevirtual 151, 3) := by decide +kernel
theorem dX5_sell_10 : decode cX5_sell 10 = .ok (.ifCond .eq 5, 3) := by decide +kernel
theorem dX5_sell_13 : decode cX5_sell 13 = .ok (.iconst (-1), 1) := by decide +kernel
theorem dX5_sell_14 : decode cX5_sell 14 = .ok (.ireturn, 1) := by decide +kernel
theorem dX5_sell_15 : decode cX5_sell 15 = .ok (.aload_n 0, 1) := by decide +kernel
theorem dX5_sell_16 : decode cX5_sell 16 = .ok (.getfield 31, 3) := by decide +kernel
theorem dX5_sell_19 : decode cX5_sell 19 = .ok (.iconst 5, 1) := by decide +kernel
theorem dX5_sell_20 : decode cX5_sell 20 = .ok (.iload_n 1, 1) := by decide +kernel
theorem dX5_sell_21 : decode cX5_sell 21 = .ok (.iadd, 1) := by decide +kernel
theorem dX5_sell_22 : decode cX5_sell 22 = .ok (.iaload, 1) := by decide +kernel
theorem dX5_sell_23 : decode cX5_sell 23 = .ok (.istore_n 2, 1) := by decide +kernel
theorem dX5_sell_24 : decode cX5_sell 24 = .ok (.iload_n 2, 1) := by decide +kernel
theorem dX5_sell_25 : decode cX5_sell 25 = .ok (.iconst 3, 1) := by decide +kernel
theorem dX5_sell_26 : decode cX5_sell 26 = .ok (.if_icmp .ne 6, 3) := by decide +kernel
theorem dX5_sell_29 : decode cX5_sell 29 = .ok (.bipush (-3), 2) := by decide +kernel
theorem dX5_sell_31 : decode cX5_sell 31 = .ok (.ireturn, 1) := by decide +kernel
theorem dX5_sell_32 : decode cX5_sell 32 = .ok (.aload_n 0, 1) := by decide +kernel
theorem dX5_sell_33 : decode cX5_sell 33 = .ok (.invokevirtual 168, 3) := by decide +kernel
theorem dX5_sell_36 : decode cX5_sell 36 = .ok (.aload_n 0, 1) := by decide +kernel
theorem dX5_sell_37 : decode cX5_sell 37 = .ok (.getfield 31, 3) := by decide +kernel
theorem dX5_sell_40 : decode cX5_sell 40 = .ok (.iconst 5, 1) := by decide +kernel
theorem dX5_sell_41 : decode cX5_sell 41 = .ok (.iload_n 1, 1) := by decide +kernel
theorem dX5_sell_42 : decode cX5_sell 42 = .ok (.iadd, 1) := by decide +kernel
theorem dX5_sell_43 : decode cX5_sell 43 = .ok (.iconst 3, 1) := by decide +kernel
theorem dX5_sell_44 : decode cX5_sell 44 = .ok (.iastore, 1) := by decide +kernel
theorem dX5_sell_45 : decode cX5_sell 45 = .ok (.iload_n 2, 1) := by decide +kernel
theorem dX5_sell_46 : decode cX5_sell 46 = .ok (.ireturn, 1) := by decide +kernel
theorem dX5_forget_0 : decode cX5_forget 0 = .ok (.aload_n 0, 1) := by decide +kernel
theorem dX5_forget_1 : decode cX5_forget 1 = .ok (.iconst 0, 1) := by decide +kernel
theorem dX5_forget_2 : decode cX5_forget 2 = .ok (.putfield 68, 3) := by decide +kernel
theorem dX5_forget_5 : decode cX5_forget 5 = .ok (.aload_n 0, 1) := by decide +kernel
theorem dX5_forget_6 : decode cX5_forget 6 = .ok (.iload_n 1, 1) := by decide +kernel
theorem dX5_forget_7 : decode cX5_forget 7 = .ok (.invokevirtual 151, 3) := by decide +kernel
theorem dX5_forget_10 : decode cX5_forget 10 = .ok (.ifCond .eq 5, 3) := by decide +kernel
theorem dX5_forget_13 : decode cX5_forget 13 = .ok (.iconst (-1), 1) := by decide +kernel
theorem dX5_forget_14 : decode cX5_forget 14 = .ok (.ireturn, 1) := by decide +kernel
theorem dX5_forget_15 : decode cX5_forget 15 = .ok (.aload_n 0, 1) := by decide +kernel
theorem dX5_forget_16 : decode cX5_forget 16 = .ok (.getfield 31, 3) := by decide +kernel
theorem dX5_forget_19 : decode cX5_forget 19 = .ok (.bipush 10, 2) := by decide +kernel
theorem dX5_forget_21 : decode cX5_forget 21 = .ok (.iload_n 1, 1) := by decide +kernel
theorem dX5_forget_22 : decode cX5_forget 22 = .ok (.iadd, 1) := by decide +kernel
theorem dX5_forget_23 : decode cX5_forget 23 = .ok (.iaload, 1) := by decide +kernel
theorem dX5_forget_24 : decode cX5_forget 24 = .ok (.invokestatic 161, 3) := by decide +kernel
theorem dX5_forget_27 : decode cX5_forget 27 = .ok (.istore_n 2, 1) := by decide +kernel
theorem dX5_forget_28 : decode cX5_forget 28 = .ok (.iload_n 2, 1) := by decide +kernel
theorem dX5_forget_29 : decode cX5_forget 29 = .ok (.ifCond .ne 6, 3) := by decide +kernel
theorem dX5_forget_32 : decode cX5_forget 32 = .ok (.bipush (-3), 2) := by decide +kernel
theorem dX5_forget_34 : decode cX5_forget 34 = .ok (.ireturn, 1) := by decide +kernel
theorem dX5_forget_35 : decode cX5_forget 35 = .ok (.aload_n 0, 1) := by decide +kernel
theorem dX5_forget_36 : decode cX5_forget 36 = .ok (.invokevirtual 168, 3) := by decide +kernel
theorem dX5_forget_39 : decode cX5_forget 39 = .ok (.aload_n 0, 1) := by decide +kernel
theorem dX5_forget_40 : decode cX5_forget 40 = .ok (.getfield 31, 3) := by decide +kernel
theorem dX5_forget_43 : decode cX5_forget 43 = .ok (.bipush 10, 2) := by decide +kernel
theorem dX5_forget_45 : decode cX5_forget 45 = .ok (.iload_n 1, 1) := by decide +kernel
theorem dX5_forget_46 : decode cX5_forget 46 = .ok (.iadd, 1) := by decide +kernel
theorem dX5_forget_47 : decode cX5_forget 47 = .ok (.iconst 0, 1) := by decide +kernel
theorem dX5_forget_48 : decode cX5_forget 48 = .ok (.iastore, 1) := by decide +kernel
theorem dX5_forget_49 : decode cX5_forget 49 = .ok (.iload_n 2, 1) := by decide +kernel
theorem dX5_forget_50 : decode cX5_forget 50 = .ok (.ireturn, 1) := by decide +kernel
theorem dX5_undo_0 : decode cX5_undo 0 = .ok (.aload_n 0, 1) := by decide +kernel
theorem dX5_undo_1 : decode cX5_undo 1 = .ok (.iconst 0, 1) := by decide +kernel
theorem dX5_undo_2 : decode cX5_undo 2 = .ok (.putfield 68, 3) := by decide +kernel
theorem dX5_undo_5 : decode cX5_undo 5 = .ok (.aload_n 0, 1) := by decide +kernel
theorem dX5_undo_6 : decode cX5_undo 6 = .ok (.getfield 114, 3) := by decide +kernel
theorem dX5_undo_9 : decode cX5_undo 9 = .ok (.ifCond .ne 6, 3) := by decide +kernel
theorem dX5_undo_12 : decode cX5_undo 12 = .ok (.bipush (-3), 2) := by decide +kernel
theorem dX5_undo_14 : decode cX5_undo 14 = .ok (.ireturn, 1) := by decide +kernel
theorem dX5_undo_15 : decode cX5_undo 15 = .ok (.aload_n 0, 1) := by decide +kernel
theorem dX5_undo_16 : decode cX5_undo 16 = .ok (.dup, 1) := by decide +kernel
theorem dX5_undo_17 : decode cX5_undo 17 = .ok (.getfield 114, 3) := by decide +kernel
theorem dX5_undo_20 : decode cX5_undo 20 = .ok (.iconst 1, 1) := by decide +kernel
theorem dX5_undo_21 : decode cX5_undo 21 = .ok (.isub, 1) := by decide +kernel
theorem dX5_undo_22 : decode cX5_undo 22 = .ok (.putfield 114, 3) := by decide +kernel
theorem dX5_undo_25 : decode cX5_undo 25 = .ok (.iconst 0, 1) := by decide +kernel
theorem dX5_undo_26 : decode cX5_undo 26 = .ok (.istore_n 1, 1) := by decide +kernel
theorem dX5_undo_27 : decode cX5_undo 27 = .ok (.iload_n 1, 1) := by decide +kernel
theorem dX5_undo_28 : decode cX5_undo 28 = .ok (.bipush 17, 2) := by decide +kernel
theorem dX5_undo_30 : decode cX5_undo 30 = .ok (.if_icmp .ge 29, 3) := by decide +kernel
theorem dX5_undo_33 : decode cX5_undo 33 = .ok (.aload_n 0, 1) := by decide +kernel
theorem dX5_undo_34 : decode cX5_undo 34 = .ok (.getfield 31, 3) := by decide +kernel
theorem dX5_undo_37 : decode cX5_undo 37 = .ok (.iload_n 1, 1) := by decide +kernel
theorem dX5_undo_38 : decode cX5_undo 38 = .ok (.aload_n 0, 1) := by decide +kernel
theorem dX5_undo_39 : decode cX5_undo 39 = .ok (.getfield 37, 3) := by decide +kernel
theorem dX5_undo_42 : decode cX5_undo 42 = .ok (.bipush 17, 2) := by decide +kernel
theorem dX5_undo_44 : decode cX5_undo 44 = .ok (.aload_n 0, 1) := by decide +kernel
theorem dX5_undo_45 : decode cX5_undo 45 = .ok (.getfield 114, 3) := by decide +kernel
theorem dX5_undo_48 : decode cX5_undo 48 = .ok (.imul, 1) := by decide +kernel
theorem dX5_undo_49 : decode cX5_undo 49 = .ok (.iload_n 1, 1) := by decide +kernel
theorem dX5_undo_50 : decode cX5_undo 50 = .ok (.iadd, 1) := by decide +kernel
theorem dX5_undo_51 : decode cX5_undo 51 = .ok (.iaload, 1) := by decide +kernel
theorem dX5_undo_52 : decode cX5_undo 52 = .ok (.iastore, 1) := by decide +kernel
theorem dX5_undo_53 : decode cX5_undo 53 = .ok (.iinc 1 1, 3) := by decide +kernel
theorem dX5_undo_56 : decode cX5_undo 56 = .ok (.goto (-29), 3) := by decide +kernel
theorem dX5_undo_59 : decode cX5_undo 59 = .ok (.aload_n 0, 1) := by decide +kernel
theorem dX5_undo_60 : decode cX5_undo 60 = .ok (.getfield 114, 3) := by decide +kernel
theorem dX5_undo_63 : decode cX5_undo 63 = .ok (.ireturn, 1) := by decide +kernel
theorem dX5_begin_0 : decode cX5_begin 0 = .ok (.iconst 0, 1) := by decide +kernel
theorem dX5_begin_1 : decode cX5_begin 1 = .ok (.istore_n 1, 1) := by decide +kernel
theorem dX5_begin_2 : decode cX5_begin 2 = .ok (.iload_n 1, 1) := by decide +kernel
theorem dX5_begin_3 : decode cX5_begin 3 = .ok (.bipush 17, 2) := by decide +kernel
theorem dX5_begin_5 : decode cX5_begin 5 = .ok (.if_icmp .ge 21, 3) := by decide +kernel
theorem dX5_begin_8 : decode cX5_begin 8 = .ok (.aload_n 0, 1) := by decide +kernel
theorem dX5_begin_9 : decode cX5_begin 9 = .ok (.getfield 34, 3) := by decide +kernel
theorem dX5_begin_12 : decode cX5_begin 12 = .ok (.iload_n 1, 1) := by decide +kernel
theorem dX5_begin_13 : decode cX5_begin 13 = .ok (.aload_n 0, 1) := by decide +kernel
theorem dX5_begin_14 : decode cX5_begin 14 = .ok (.getfield 31, 3) := by decide +kernel
theorem dX5_begin_17 : decode cX5_begin 17 = .ok (.iload_n 1, 1) := by decide +kernel
theorem dX5_begin_18 : decode cX5_begin 18 = .ok (.iaload, 1) := by decide +kernel
theorem dX5_begin_19 : decode cX5_begin 19 = .ok (.iastore, 1) := by decide +kernel
theorem dX5_begin_20 : decode cX5_begin 20 = .ok (.iinc 1 1, 3) := by decide +kernel
theorem dX5_begin_23 : decode cX5_begin 23 = .ok (.goto (-21), 3) := by decide +kernel
theorem dX5_begin_26 : decode cX5_begin 26 = .ok (.return_, 1) := by decide +kernel
theorem dX5_layWays_0 : decode cX5_layWays 0 = .ok (.aload_n 0, 1) := by decide +kernel
theorem dX5_layWays_1 : decode cX5_layWays 1 = .ok (.invokevirtual 175, 3) := by decide +kernel
theorem dX5_layWays_4 : decode cX5_layWays 4 = .ok (.iconst 0, 1) := by decide +kernel
theorem dX5_layWays_5 : decode cX5_layWays 5 = .ok (.istore_n 3, 1) := by decide +kernel
theorem dX5_layWays_6 : decode cX5_layWays 6 = .ok (.iload_n 3, 1) := by decide +kernel
theorem dX5_layWays_7 : decode cX5_layWays 7 = .ok (.bipush 10, 2) := by decide +kernel
theorem dX5_layWays_9 : decode cX5_layWays 9 = .ok (.if_icmp .ge 17, 3) := by decide +kernel
theorem dX5_layWays_12 : decode cX5_layWays 12 = .ok (.aload_n 0, 1) := by decide +kernel
theorem dX5_layWays_13 : decode cX5_layWays 13 = .ok (.getfield 62, 3) := by decide +kernel
theorem dX5_layWays_16 : decode cX5_layWays 16 = .ok (.iload_n 3, 1) := by decide +kernel
theorem dX5_layWays_17 : decode cX5_layWays 17 = .ok (.bipush (-9), 2) := by decide +kernel
theorem dX5_layWays_19 : decode cX5_layWays 19 = .ok (.iastore, 1) := by decide +kernel
theorem dX5_layWays_20 : decode cX5_layWays 20 = .ok (.iinc 3 1, 3) := by decide +kernel
theorem dX5_layWays_23 : decode cX5_layWays 23 = .ok (.goto (-17), 3) := by decide +kernel
theorem dX5_layWays_26 : decode cX5_layWays 26 = .ok (.aload_n 0, 1) := by decide +kernel
theorem dX5_layWays_27 : decode cX5_layWays 27 = .ok (.getfield 62, 3) := by decide +kernel
theorem dX5_layWays_30 : decode cX5_layWays 30 = .ok (.aload_n 0, 1) := by decide +kernel
theorem dX5_layWays_31 : decode cX5_layWays 31 = .ok (.getfield 31, 3) := by decide +kernel
theorem dX5_layWays_34 : decode cX5_layWays 34 = .ok (.iconst 0, 1) := by decide +kernel
theorem dX5_layWays_35 : decode cX5_layWays 35 = .ok (.iload_n 1, 1) := by decide +kernel
theorem dX5_layWays_36 : decode cX5_layWays 36 = .ok (.iadd, 1) := by decide +kernel
theorem dX5_layWays_37 : decode cX5_layWays 37 = .ok (.iaload, 1) := by decide +kernel
theorem dX5_layWays_38 : decode cX5_layWays 38 = .ok (.iconst 0, 1) := by decide +kernel
theorem dX5_layWays_39 : decode cX5_layWays 39 = .ok (.iastore, 1) := by decide +kernel
theorem dX5_layWays_40 : decode cX5_layWays 40 = .ok (.iconst 0, 1) := by decide +kernel
theorem dX5_layWays_41 : decode cX5_layWays 41 = .ok (.istore_n 3, 1) := by decide +kernel
theorem dX5_layWays_42 : decode cX5_layWays 42 = .ok (.iload_n 3, 1) := by decide +kernel
theorem dX5_layWays_43 : decode cX5_layWays 43 = .ok (.bipush 12, 2) := by decide +kernel
theorem dX5_layWays_45 : decode cX5_layWays 45 = .ok (.if_icmp .ge 186, 3) := by decide +kernel
theorem dX5_layWays_48 : decode cX5_layWays 48 = .ok (.aload_n 0, 1) := by decide +kernel
theorem dX5_layWays_49 : decode cX5_layWays 49 = .ok (.getfield 34, 3) := by decide +kernel
theorem dX5_layWays_52 : decode cX5_layWays 52 = .ok (.bipush 15, 2) := by decide +kernel
theorem dX5_layWays_54 : decode cX5_layWays 54 = .ok (.aload_n 0, 1) := by decide +kernel
theorem dX5_layWays_55 : decode cX5_layWays 55 = .ok (.getfield 31, 3) := by decide +kernel
theorem dX5_layWays_58 : decode cX5_layWays 58 = .ok (.bipush 15, 2) := by decide +kernel
theorem dX5_layWays_60 : decode cX5_layWays 60 = .ok (.iaload, 1) := by decide +kernel
theorem dX5_layWays_61 : decode cX5_layWays 61 = .ok (.iload_n 3, 1) := by decide +kernel
theorem dX5_layWays_62 : decode cX5_layWays 62 = .ok (.iadd, 1) := by decide +kernel
theorem dX5_layWays_63 : decode cX5_layWays 63 = .ok (.iastore, 1) := by decide +kernel
theorem dX5_layWays_64 : decode cX5_layWays 64 = .ok (.iconst 0, 1) := by decide +kernel
theorem dX5_layWays_65 : decode cX5_layWays 65 = .ok (.istore 4, 2) := by decide +kernel
theorem dX5_layWays_67 : decode cX5_layWays 67 = .ok (.iload 4, 2) := by decide +kernel
theorem dX5_layWays_69 : decode cX5_layWays 69 = .ok (.bipush 10, 2) := by decide +kernel
theorem dX5_layWays_71 : decode cX5_layWays 71 = .ok (.if_icmp .ge 154, 3) := by decide +kernel
theorem dX5_layWays_74 : decode cX5_layWays 74 = .ok (.iconst 0, 1) := by decide +kernel
theorem dX5_layWays_75 : decode cX5_layWays 75 = .ok (.istore 5, 2) := by decide +kernel
theorem dX5_layWays_77 : decode cX5_layWays 77 = .ok (.iload 5, 2) := by decide +kernel
theorem dX5_layWays_79 : decode cX5_layWays 79 = .ok (.iconst 2, 1) := by decide +kernel
theorem dX5_layWays_80 : decode cX5_layWays 80 = .ok (.if_icmp .ge 139, 3) := by decide +kernel
theorem dX5_layWays_83 : decode cX5_layWays 83 = .ok (.aload_n 0, 1) := by decide +kernel
theorem dX5_layWays_84 : decode cX5_layWays 84 = .ok (.getfield 34, 3) := by decide +kernel
theorem dX5_layWays_87 : decode cX5_layWays 87 = .ok (.iconst 0, 1) := by decide +kernel
theorem dX5_layWays_88 : decode cX5_layWays 88 = .ok (.iload_n 1, 1) := by decide +kernel
theorem dX5_layWays_89 : decode cX5_layWays 89 = .ok (.iadd, 1) := by decide +kernel
theorem dX5_layWays_90 : decode cX5_layWays 90 = .ok (.iload 4, 2) := by decide +kernel
theorem dX5_layWays_92 : decode cX5_layWays 92 = .ok (.iastore, 1) := by decide +kernel
theorem dX5_layWays_93 : decode cX5_layWays 93 = .ok (.aload_n 0, 1) := by decide +kernel
theorem dX5_layWays_94 : decode cX5_layWays 94 = .ok (.getfield 34, 3) := by decide +kernel
theorem dX5_layWays_97 : decode cX5_layWays 97 = .ok (.iload_n 1, 1) := by decide +kernel
theorem dX5_layWays_98 : decode cX5_layWays 98 = .ok (.iload 5, 2) := by decide +kernel
theorem dX5_layWays_100 : decode cX5_layWays 100 = .ok (.invokestatic 119, 3) := by decide +kernel
theorem dX5_layWays_103 : decode cX5_layWays 103 = .ok (.istore 6, 2) := by decide +kernel
theorem dX5_layWays_105 : decode cX5_layWays 105 = .ok (.aload_n 0, 1) := by decide +kernel
theorem dX5_layWays_106 : decode cX5_layWays 106 = .ok (.getfield 62, 3) := by decide +kernel
theorem dX5_layWays_109 : decode cX5_layWays 109 = .ok (.iload 4, 2) := by decide +kernel
theorem dX5_layWays_111 : decode cX5_layWays 111 = .ok (.iaload, 1) := by decide +kernel
theorem dX5_layWays_112 : decode cX5_layWays 112 = .ok (.bipush (-9), 2) := by decide +kernel
theorem dX5_layWays_114 : decode cX5_layWays 114 = .ok (.if_icmp .eq 37, 3) := by decide +kernel
theorem dX5_layWays_117 : decode cX5_layWays 117 = .ok (.aload_n 0, 1) := by decide +kernel
theorem dX5_layWays_118 : decode cX5_layWays 118 = .ok (.getfield 62, 3) := by decide +kernel
theorem dX5_layWays_121 : decode cX5_layWays 121 = .ok (.iload 4, 2) := by decide +kernel
theorem dX5_layWays_123 : decode cX5_layWays 123 = .ok (.iaload, 1) := by decide +kernel
theorem dX5_layWays_124 : decode cX5_layWays 124 = .ok (.iload_n 3, 1) := by decide +kernel
theorem dX5_layWays_125 : decode cX5_layWays 125 = .ok (.if_icmp .gt 26, 3) := by decide +kernel
theorem dX5_layWays_128 : decode cX5_layWays 128 = .ok (.iload 6, 2) := by decide +kernel
theorem dX5_layWays_130 : decode cX5_layWays 130 = .ok (.bipush (-9), 2) := by decide +kernel
theorem dX5_layWays_132 : decode cX5_layWays 132 = .ok (.if_icmp .eq 19, 3) := by decide +kernel
theorem dX5_layWays_135 : decode cX5_layWays 135 = .ok (.aload_n 0, 1) := by decide +kernel
theorem dX5_layWays_136 : decode cX5_layWays 136 = .ok (.getfield 62, 3) := by decide +kernel
theorem dX5_layWays_139 : decode cX5_layWays 139 = .ok (.iload 6, 2) := by decide +kernel
theorem dX5_layWays_141 : decode cX5_layWays 141 = .ok (.iaload, 1) := by decide +kernel
theorem dX5_layWays_142 : decode cX5_layWays 142 = .ok (.bipush (-9), 2) := by decide +kernel
theorem dX5_layWays_144 : decode cX5_layWays 144 = .ok (.if_icmp .ne 7, 3) := by decide +kernel
theorem dX5_layWays_147 : decode cX5_layWays 147 = .ok (.iconst 1, 1) := by decide +kernel
theorem dX5_layWays_148 : decode cX5_layWays 148 = .ok (.goto 4, 3) := by decide +kernel
theorem dX5_layWays_151 : decode cX5_layWays 151 = .ok (.iconst 0, 1) := by decide +kernel
theorem dX5_layWays_152 : decode cX5_layWays 152 = .ok (.istore 7, 2) := by decide +kernel
theorem dX5_layWays_154 : decode cX5_layWays 154 = .ok (.iload_n 2, 1) := by decide +kernel
theorem dX5_layWays_155 : decode cX5_layWays 155 = .ok (.ifCond .eq 25, 3) := by decide +kernel
theorem dX5_layWays_158 : decode cX5_layWays 158 = .ok (.aload_n 0, 1) := by decide +kernel
theorem dX5_layWays_159 : decode cX5_layWays 159 = .ok (.aload_n 0, 1) := by decide +kernel
theorem dX5_layWays_160 : decode cX5_layWays 160 = .ok (.getfield 34, 3) := by decide +kernel
theorem dX5_layWays_163 : decode cX5_layWays 163 = .ok (.iload_n 1, 1) := by decide +kernel
theorem dX5_layWays_164 : decode cX5_layWays 164 = .ok (.iload 5, 2) := by decide +kernel
theorem dX5_layWays_166 : decode cX5_layWays 166 = .ok (.invokevirtual 130, 3) := by decide +kernel
theorem dX5_layWays_169 : decode cX5_layWays 169 = .ok (.ifCond .eq 7, 3) := by decide +kernel
theorem dX5_layWays_172 : decode cX5_layWays 172 = .ok (.iconst 1, 1) := by decide +kernel
theorem dX5_layWays_173 : decode cX5_layWays 173 = .ok (.goto 18, 3) := by decide +kernel
theorem dX5_layWays_176 : decode cX5_layWays 176 = .ok (.iconst 0, 1) := by decide +kernel
theorem dX5_layWays_177 : decode cX5_layWays 177 = .ok (.goto 14, 3) := by decide +kernel
theorem dX5_layWays_180 : decode cX5_layWays 180 = .ok (.aload_n 0, 1) := by decide +kernel
theorem dX5_layWays_181 : decode cX5_layWays 181 = .ok (.aload_n 0, 1) := by decide +kernel
theorem dX5_layWays_182 : decode cX5_layWays 182 = .ok (.getfield 34, 3) := by decide +kernel
theorem dX5_layWays_185 : decode cX5_layWays 185 = .ok (.iload_n 1, 1) := by decide +kernel
theorem dX5_layWays_186 : decode cX5_layWays 186 = .ok (.iload 5, 2) := by decide +kernel
theorem dX5_layWays_188 : decode cX5_layWays 188 = .ok (.invokevirtual 164, 3) := by decide +kernel
theorem dX5_layWays_191 : decode cX5_layWays 191 = .ok (.istore 8, 2) := by decide +kernel
theorem dX5_layWays_193 : decode cX5_layWays 193 = .ok (.iload 7, 2) := by decide +kernel
theorem dX5_layWays_195 : decode cX5_layWays 195 = .ok (.ifCond .eq 18, 3) := by decide +kernel
theorem dX5_layWays_198 : decode cX5_layWays 198 = .ok (.iload 8, 2) := by decide +kernel
theorem dX5_layWays_200 : decode cX5_layWays 200 = .ok (.ifCond .ne 13, 3) := by decide +kernel
theorem dX5_layWays_203 : decode cX5_layWays 203 = .ok (.aload_n 0, 1) := by decide +kernel
theorem dX5_layWays_204 : decode cX5_layWays 204 = .ok (.getfield 62, 3) := by decide +kernel
theorem dX5_layWays_207 : decode cX5_layWays 207 = .ok (.iload 6, 2) := by decide +kernel
theorem dX5_layWays_209 : decode cX5_layWays 209 = .ok (.iload_n 3, 1) := by decide +kernel
theorem dX5_layWays_210 : decode cX5_layWays 210 = .ok (.iconst 1, 1) := by decide +kernel
theorem dX5_layWays_211 : decode cX5_layWays 211 = .ok (.iadd, 1) := by decide +kernel
theorem dX5_layWays_212 : decode cX5_layWays 212 = .ok (.iastore, 1) := by decide +kernel
theorem dX5_layWays_213 : decode cX5_layWays 213 = .ok (.iinc 5 1, 3) := by decide +kernel
theorem dX5_layWays_216 : decode cX5_layWays 216 = .ok (.goto (-139), 3) := by decide +kernel
theorem dX5_layWays_219 : decode cX5_layWays 219 = .ok (.iinc 4 1, 3) := by decide +kernel
theorem dX5_layWays_222 : decode cX5_layWays 222 = .ok (.goto (-155), 3) := by decide +kernel
theorem dX5_layWays_225 : decode cX5_layWays 225 = .ok (.iinc 3 1, 3) := by decide +kernel
theorem dX5_layWays_228 : decode cX5_layWays 228 = .ok (.goto (-186), 3) := by decide +kernel
theorem dX5_layWays_231 : decode cX5_layWays 231 = .ok (.return_, 1) := by decide +kernel
theorem dX5_way_0 : decode cX5_way 0 = .ok (.aload_n 0, 1) := by decide +kernel
theorem dX5_way_1 : decode cX5_way 1 = .ok (.iconst 0, 1) := by decide +kernel
theorem dX5_way_2 : decode cX5_way 2 = .ok (.putfield 68, 3) := by decide +kernel
theorem dX5_way_5 : decode cX5_way 5 = .ok (.aload_n 0, 1) := by decide +kernel
theorem dX5_way_6 : decode cX5_way 6 = .ok (.iload_n 1, 1) := by decide +kernel
theorem dX5_way_7 : decode cX5_way 7 = .ok (.invokevirtual 151, 3) := by decide +kernel
theorem dX5_way_10 : decode cX5_way 10 = .ok (.ifCond .ne 15, 3) := by decide +kernel
theorem dX5_way_13 : decode cX5_way 13 = .ok (.iload_n 2, 1) := by decide +kernel
theorem dX5_way_14 : decode cX5_way 14 = .ok (.i2l, 1) := by decide +kernel
theorem dX5_way_15 : decode cX5_way 15 = .ok (.lconst 0, 1) := by decide +kernel
theorem dX5_way_16 : decode cX5_way 16 = .ok (.ldc2_w 117, 3) := by decide +kernel
theorem dX5_way_19 : decode cX5_way 19 = .ok (.invokestatic 75, 3) := by decide +kernel
theorem dX5_way_22 : decode cX5_way 22 = .ok (.ifCond .ne 5, 3) := by decide +kernel
theorem dX5_way_25 : decode cX5_way 25 = .ok (.iconst (-1), 1) := by decide +kernel
theorem dX5_way_26 : decode cX5_way 26 = .ok (.ireturn, 1) := by decide +kernel
theorem dX5_way_27 : decode cX5_way 27 = .ok (.aload_n 0, 1) := by decide +kernel
theorem dX5_way_28 : decode cX5_way 28 = .ok (.iload_n 1, 1) := by decide +kernel
theorem dX5_way_29 : decode cX5_way 29 = .ok (.iload_n 3, 1) := by decide +kernel
theorem dX5_way_30 : decode cX5_way 30 = .ok (.invokevirtual 178, 3) := by decide +kernel
theorem dX5_way_33 : decode cX5_way 33 = .ok (.aload_n 0, 1) := by decide +kernel
theorem dX5_way_34 : decode cX5_way 34 = .ok (.getfield 62, 3) := by decide +kernel
theorem dX5_way_37 : decode cX5_way 37 = .ok (.iload_n 2, 1) := by decide +kernel
theorem dX5_way_38 : decode cX5_way 38 = .ok (.iaload, 1) := by decide +kernel
theorem dX5_way_39 : decode cX5_way 39 = .ok (.ireturn, 1) := by decide +kernel
theorem dX5_enclaves_0 : decode cX5_enclaves 0 = .ok (.aload_n 0, 1) := by decide +kernel
theorem dX5_enclaves_1 : decode cX5_enclaves 1 = .ok (.iconst 0, 1) := by decide +kernel
theorem dX5_enclaves_2 : decode cX5_enclaves 2 = .ok (.putfield 68, 3) := by decide +kernel
theorem dX5_enclaves_5 : decode cX5_enclaves 5 = .ok (.aload_n 0, 1) := by decide +kernel
theorem dX5_enclaves_6 : decode cX5_enclaves 6 = .ok (.iload_n 1, 1) := by decide +kernel
theorem dX5_enclaves_7 : decode cX5_enclaves 7 = .ok (.invokevirtual 151, 3) := by decide +kernel
theorem dX5_enclaves_10 : decode cX5_enclaves 10 = .ok (.ifCond .eq 5, 3) := by decide +kernel
theorem dX5_enclaves_13 : decode cX5_enclaves 13 = .ok (.iconst (-1), 1) := by decide +kernel
theorem dX5_enclaves_14 : decode cX5_enclaves 14 = .ok (.ireturn, 1) := by decide +kernel
theorem dX5_enclaves_15 : decode cX5_enclaves 15 = .ok (.aload_n 0, 1) := by decide +kernel
theorem dX5_enclaves_16 : decode cX5_enclaves 16 = .ok (.iload_n 1, 1) := by decide +kernel
theorem dX5_enclaves_17 : decode cX5_enclaves 17 = .ok (.iconst 0, 1) := by decide +kernel
theorem dX5_enclaves_18 : decode cX5_enclaves 18 = .ok (.invokevirtual 178, 3) := by decide +kernel
theorem dX5_enclaves_21 : decode cX5_enclaves 21 = .ok (.iconst 0, 1) := by decide +kernel
theorem dX5_enclaves_22 : decode cX5_enclaves 22 = .ok (.istore_n 2, 1) := by decide +kernel
theorem dX5_enclaves_23 : decode cX5_enclaves 23 = .ok (.iconst 0, 1) := by decide +kernel
theorem dX5_enclaves_24 : decode cX5_enclaves 24 = .ok (.istore_n 3, 1) := by decide +kernel
theorem dX5_enclaves_25 : decode cX5_enclaves 25 = .ok (.iload_n 3, 1) := by decide +kernel
theorem dX5_enclaves_26 : decode cX5_enclaves 26 = .ok (.bipush 10, 2) := by decide +kernel
theorem dX5_enclaves_28 : decode cX5_enclaves 28 = .ok (.if_icmp .ge 30, 3) := by decide +kernel
theorem dX5_enclaves_31 : decode cX5_enclaves 31 = .ok (.iload_n 2, 1) := by decide +kernel
theorem dX5_enclaves_32 : decode cX5_enclaves 32 = .ok (.aload_n 0, 1) := by decide +kernel
theorem dX5_enclaves_33 : decode cX5_enclaves 33 = .ok (.getfield 62, 3) := by decide +kernel
theorem dX5_enclaves_36 : decode cX5_enclaves 36 = .ok (.iload_n 3, 1) := by decide +kernel
theorem dX5_enclaves_37 : decode cX5_enclaves 37 = .ok (.iaload, 1) := by decide +kernel
theorem dX5_enclaves_38 : decode cX5_enclaves 38 = .ok (.bipush (-9), 2) := by decide +kernel
theorem dX5_enclaves_40 : decode cX5_enclaves 40 = .ok (.if_icmp .ne 9, 3) := by decide +kernel
theorem dX5_enclaves_43 : decode cX5_enclaves 43 = .ok (.iconst 1, 1) := by decide +kernel
theorem dX5_enclaves_44 : decode cX5_enclaves 44 = .ok (.iload_n 3, 1) := by decide +kernel
theorem dX5_enclaves_45 : decode cX5_enclaves 45 = .ok (.ishl, 1) := by decide +kernel
theorem dX5_enclaves_46 : decode cX5_enclaves 46 = .ok (.goto 4, 3) := by decide +kernel
theorem dX5_enclaves_49 : decode cX5_enclaves 49 = .ok (.iconst 0, 1) := by decide +kernel
theorem dX5_enclaves_50 : decode cX5_enclaves 50 = .ok (.ior, 1) := by decide +kernel
theorem dX5_enclaves_51 : decode cX5_enclaves 51 = .ok (.istore_n 2, 1) := by decide +kernel
theorem dX5_enclaves_52 : decode cX5_enclaves 52 = .ok (.iinc 3 1, 3) := by decide +kernel
theorem dX5_enclaves_55 : decode cX5_enclaves 55 = .ok (.goto (-30), 3) := by decide +kernel
theorem dX5_enclaves_58 : decode cX5_enclaves 58 = .ok (.iload_n 2, 1) := by decide +kernel
theorem dX5_enclaves_59 : decode cX5_enclaves 59 = .ok (.ireturn, 1) := by decide +kernel
theorem dX5_holdsFast_0 : decode cX5_holdsFast 0 = .ok (.iconst 1, 1) := by decide +kernel
theorem dX5_holdsFast_1 : decode cX5_holdsFast 1 = .ok (.istore_n 2, 1) := by decide +kernel
theorem dX5_holdsFast_2 : decode cX5_holdsFast 2 = .ok (.iconst 0, 1) := by decide +kernel
theorem dX5_holdsFast_3 : decode cX5_holdsFast 3 = .ok (.istore_n 3, 1) := by decide +kernel
theorem dX5_holdsFast_4 : decode cX5_holdsFast 4 = .ok (.iload_n 3, 1) := by decide +kernel
theorem dX5_holdsFast_5 : decode cX5_holdsFast 5 = .ok (.iconst 2, 1) := by decide +kernel
theorem dX5_holdsFast_6 : decode cX5_holdsFast 6 = .ok (.if_icmp .ge 71, 3) := by decide +kernel
theorem dX5_holdsFast_9 : decode cX5_holdsFast 9 = .ok (.aload_n 0, 1) := by decide +kernel
theorem dX5_holdsFast_10 : decode cX5_holdsFast 10 = .ok (.getfield 34, 3) := by decide +kernel
theorem dX5_holdsFast_13 : decode cX5_holdsFast 13 = .ok (.iload_n 1, 1) := by decide +kernel
theorem dX5_holdsFast_14 : decode cX5_holdsFast 14 = .ok (.iload_n 3, 1) := by decide +kernel
theorem dX5_holdsFast_15 : decode cX5_holdsFast 15 = .ok (.invokestatic 119, 3) := by decide +kernel
theorem dX5_holdsFast_18 : decode cX5_holdsFast 18 = .ok (.bipush (-9), 2) := by decide +kernel
theorem dX5_holdsFast_20 : decode cX5_holdsFast 20 = .ok (.if_icmp .eq 20, 3) := by decide +kernel
theorem dX5_holdsFast_23 : decode cX5_holdsFast 23 = .ok (.aload_n 0, 1) := by decide +kernel
theorem dX5_holdsFast_24 : decode cX5_holdsFast 24 = .ok (.aload_n 0, 1) := by decide +kernel
theorem dX5_holdsFast_25 : decode cX5_holdsFast 25 = .ok (.getfield 34, 3) := by decide +kernel
theorem dX5_holdsFast_28 : decode cX5_holdsFast 28 = .ok (.iload_n 1, 1) := by decide +kernel
theorem dX5_holdsFast_29 : decode cX5_holdsFast 29 = .ok (.iload_n 3, 1) := by decide +kernel
theorem dX5_holdsFast_30 : decode cX5_holdsFast 30 = .ok (.invokevirtual 130, 3) := by decide +kernel
theorem dX5_holdsFast_33 : decode cX5_holdsFast 33 = .ok (.ifCond .eq 7, 3) := by decide +kernel
theorem dX5_holdsFast_36 : decode cX5_holdsFast 36 = .ok (.iconst 1, 1) := by decide +kernel
theorem dX5_holdsFast_37 : decode cX5_holdsFast 37 = .ok (.goto 4, 3) := by decide +kernel
theorem dX5_holdsFast_40 : decode cX5_holdsFast 40 = .ok (.iconst 0, 1) := by decide +kernel
theorem dX5_holdsFast_41 : decode cX5_holdsFast 41 = .ok (.istore 4, 2) := by decide +kernel
theorem dX5_holdsFast_43 : decode cX5_holdsFast 43 = .ok (.iload_n 2, 1) := by decide +kernel
theorem dX5_holdsFast_44 : decode cX5_holdsFast 44 = .ok (.ifCond .eq 25, 3) := by decide +kernel
theorem dX5_holdsFast_47 : decode cX5_holdsFast 47 = .ok (.iload 4, 2) := by decide +kernel
theorem dX5_holdsFast_49 : decode cX5_holdsFast 49 = .ok (.ifCond .eq 16, 3) := by decide +kernel
theorem dX5_holdsFast_52 : decode cX5_holdsFast 52 = .ok (.aload_n 0, 1) := by decide +kernel
theorem dX5_holdsFast_53 : decode cX5_holdsFast 53 = .ok (.aload_n 0, 1) := by decide +kernel
theorem dX5_holdsFast_54 : decode cX5_holdsFast 54 = .ok (.getfield 34, 3) := by decide +kernel
theorem dX5_holdsFast_57 : decode cX5_holdsFast 57 = .ok (.iload_n 1, 1) := by decide +kernel
theorem dX5_holdsFast_58 : decode cX5_holdsFast 58 = .ok (.iload_n 3, 1) := by decide +kernel
theorem dX5_holdsFast_59 : decode cX5_holdsFast 59 = .ok (.invokevirtual 164, 3) := by decide +kernel
theorem dX5_holdsFast_62 : decode cX5_holdsFast 62 = .ok (.ifCond .eq 7, 3) := by decide +kernel
theorem dX5_holdsFast_65 : decode cX5_holdsFast 65 = .ok (.iconst 1, 1) := by decide +kernel
theorem dX5_holdsFast_66 : decode cX5_holdsFast 66 = .ok (.goto 4, 3) := by decide +kernel
theorem dX5_holdsFast_69 : decode cX5_holdsFast 69 = .ok (.iconst 0, 1) := by decide +kernel
theorem dX5_holdsFast_70 : decode cX5_holdsFast 70 = .ok (.istore_n 2, 1) := by decide +kernel
theorem dX5_holdsFast_71 : decode cX5_holdsFast 71 = .ok (.iinc 3 1, 3) := by decide +kernel
theorem dX5_holdsFast_74 : decode cX5_holdsFast 74 = .ok (.goto (-70), 3) := by decide +kernel
theorem dX5_holdsFast_77 : decode cX5_holdsFast 77 = .ok (.iload_n 2, 1) := by decide +kernel
theorem dX5_holdsFast_78 : decode cX5_holdsFast 78 = .ok (.ireturn, 1) := by decide +kernel
theorem dX5_teach_0 : decode cX5_teach 0 = .ok (.aload_n 0, 1) := by decide +kernel
theorem dX5_teach_1 : decode cX5_teach 1 = .ok (.iconst 0, 1) := by decide +kernel
theorem dX5_teach_2 : decode cX5_teach 2 = .ok (.putfield 68, 3) := by decide +kernel
theorem dX5_teach_5 : decode cX5_teach 5 = .ok (.aload_n 0, 1) := by decide +kernel
theorem dX5_teach_6 : decode cX5_teach 6 = .ok (.iload_n 1, 1) := by decide +kernel
theorem dX5_teach_7 : decode cX5_teach 7 = .ok (.invokevirtual 151, 3) := by decide +kernel
theorem dX5_teach_10 : decode cX5_teach 10 = .ok (.ifCond .eq 5, 3) := by decide +kernel
theorem dX5_teach_13 : decode cX5_teach 13 = .ok (.iconst (-1), 1) := by decide +kernel
theorem dX5_teach_14 : decode cX5_teach 14 = .ok (.ireturn, 1) := by decide +kernel
theorem dX5_teach_15 : decode cX5_teach 15 = .ok (.bipush (-9), 2) := by decide +kernel
theorem dX5_teach_17 : decode cX5_teach 17 = .ok (.istore_n 2, 1) := by decide +kernel
theorem dX5_teach_18 : decode cX5_teach 18 = .ok (.iconst 0, 1) := by decide +kernel
theorem dX5_teach_19 : decode cX5_teach 19 = .ok (.istore_n 3, 1) := by decide +kernel
theorem dX5_teach_20 : decode cX5_teach 20 = .ok (.iload_n 3, 1) := by decide +kernel
theorem dX5_teach_21 : decode cX5_teach 21 = .ok (.iconst 1, 1) := by decide +kernel
theorem dX5_teach_22 : decode cX5_teach 22 = .ok (.aload_n 0, 1) := by decide +kernel
theorem dX5_teach_23 : decode cX5_teach 23 = .ok (.getfield 79, 3) := by decide +kernel
theorem dX5_teach_26 : decode cX5_teach 26 = .ok (.ishl, 1) := by decide +kernel
theorem dX5_teach_27 : decode cX5_teach 27 = .ok (.if_icmp .ge 71, 3) := by decide +kernel
theorem dX5_teach_30 : decode cX5_teach 30 = .ok (.iload_n 3, 1) := by decide +kernel
theorem dX5_teach_31 : decode cX5_teach 31 = .ok (.aload_n 0, 1) := by decide +kernel
theorem dX5_teach_32 : decode cX5_teach 32 = .ok (.aload_n 0, 1) := by decide +kernel
theorem dX5_teach_33 : decode cX5_teach 33 = .ok (.getfield 31, 3) := by decide +kernel
theorem dX5_teach_36 : decode cX5_teach 36 = .ok (.iload_n 1, 1) := by decide +kernel
theorem dX5_teach_37 : decode cX5_teach 37 = .ok (.invokevirtual 133, 3) := by decide +kernel
theorem dX5_teach_40 : decode cX5_teach 40 = .ok (.iand, 1) := by decide +kernel
theorem dX5_teach_41 : decode cX5_teach 41 = .ok (.ifCond .ne 51, 3) := by decide +kernel
theorem dX5_teach_44 : decode cX5_teach 44 = .ok (.iload_n 2, 1) := by decide +kernel
theorem dX5_teach_45 : decode cX5_teach 45 = .ok (.bipush (-9), 2) := by decide +kernel
theorem dX5_teach_47 : decode cX5_teach 47 = .ok (.if_icmp .eq 14, 3) := by decide +kernel
theorem dX5_teach_50 : decode cX5_teach 50 = .ok (.iload_n 3, 1) := by decide +kernel
theorem dX5_teach_51 : decode cX5_teach 51 = .ok (.invokestatic 161, 3) := by decide +kernel
theorem dX5_teach_54 : decode cX5_teach 54 = .ok (.iload_n 2, 1) := by decide +kernel
theorem dX5_teach_55 : decode cX5_teach 55 = .ok (.invokestatic 161, 3) := by decide +kernel
theorem dX5_teach_58 : decode cX5_teach 58 = .ok (.if_icmp .ge 34, 3) := by decide +kernel
theorem dX5_teach_61 : decode cX5_teach 61 = .ok (.aload_n 0, 1) := by decide +kernel
theorem dX5_teach_62 : decode cX5_teach 62 = .ok (.invokevirtual 175, 3) := by decide +kernel
theorem dX5_teach_65 : decode cX5_teach 65 = .ok (.aload_n 0, 1) := by decide +kernel
theorem dX5_teach_66 : decode cX5_teach 66 = .ok (.getfield 34, 3) := by decide +kernel
theorem dX5_teach_69 : decode cX5_teach 69 = .ok (.bipush 10, 2) := by decide +kernel
theorem dX5_teach_71 : decode cX5_teach 71 = .ok (.iload_n 1, 1) := by decide +kernel
theorem dX5_teach_72 : decode cX5_teach 72 = .ok (.iadd, 1) := by decide +kernel
theorem dX5_teach_73 : decode cX5_teach 73 = .ok (.dup2, 1) := by decide +kernel
theorem dX5_teach_74 : decode cX5_teach 74 = .ok (.iaload, 1) := by decide +kernel
theorem dX5_teach_75 : decode cX5_teach 75 = .ok (.iload_n 3, 1) := by decide +kernel
theorem dX5_teach_76 : decode cX5_teach 76 = .ok (.ior, 1) := by decide +kernel
theorem dX5_teach_77 : decode cX5_teach 77 = .ok (.iastore, 1) := by decide +kernel
theorem dX5_teach_78 : decode cX5_teach 78 = .ok (.aload_n 0, 1) := by decide +kernel
theorem dX5_teach_79 : decode cX5_teach 79 = .ok (.iload_n 1, 1) := by decide +kernel
theorem dX5_teach_80 : decode cX5_teach 80 = .ok (.invokevirtual 182, 3) := by decide +kernel
theorem dX5_teach_83 : decode cX5_teach 83 = .ok (.ifCond .eq 7, 3) := by decide +kernel
theorem dX5_teach_86 : decode cX5_teach 86 = .ok (.iload_n 3, 1) := by decide +kernel
theorem dX5_teach_87 : decode cX5_teach 87 = .ok (.goto 4, 3) := by decide +kernel
theorem dX5_teach_90 : decode cX5_teach 90 = .ok (.iload_n 2, 1) := by decide +kernel
theorem dX5_teach_91 : decode cX5_teach 91 = .ok (.istore_n 2, 1) := by decide +kernel
theorem dX5_teach_92 : decode cX5_teach 92 = .ok (.iinc 3 1, 3) := by decide +kernel
theorem dX5_teach_95 : decode cX5_teach 95 = .ok (.goto (-75), 3) := by decide +kernel
theorem dX5_teach_98 : decode cX5_teach 98 = .ok (.iload_n 2, 1) := by decide +kernel
theorem dX5_teach_99 : decode cX5_teach 99 = .ok (.ireturn, 1) := by decide +kernel
theorem dX5_differ_0 : decode cX5_differ 0 = .ok (.aload_n 0, 1) := by decide +kernel
theorem dX5_differ_1 : decode cX5_differ 1 = .ok (.iconst 0, 1) := by decide +kernel
theorem dX5_differ_2 : decode cX5_differ 2 = .ok (.putfield 68, 3) := by decide +kernel
theorem dX5_differ_5 : decode cX5_differ 5 = .ok (.aload_n 0, 1) := by decide +kernel
theorem dX5_differ_6 : decode cX5_differ 6 = .ok (.iload_n 1, 1) := by decide +kernel
theorem dX5_differ_7 : decode cX5_differ 7 = .ok (.invokevirtual 151, 3) := by decide +kernel
theorem dX5_differ_10 : decode cX5_differ 10 = .ok (.ifCond .ne 11, 3) := by decide +kernel
theorem dX5_differ_13 : decode cX5_differ 13 = .ok (.aload_n 0, 1) := by decide +kernel
theorem dX5_differ_14 : decode cX5_differ 14 = .ok (.iload_n 2, 1) := by decide +kernel
theorem dX5_differ_15 : decode cX5_differ 15 = .ok (.invokevirtual 151, 3) := by decide +kernel
theorem dX5_differ_18 : decode cX5_differ 18 = .ok (.ifCond .eq 5, 3) := by decide +kernel
theorem dX5_differ_21 : decode cX5_differ 21 = .ok (.iconst (-1), 1) := by decide +kernel
theorem dX5_differ_22 : decode cX5_differ 22 = .ok (.ireturn, 1) := by decide +kernel
theorem dX5_differ_23 : decode cX5_differ 23 = .ok (.aload_n 0, 1) := by decide +kernel
theorem dX5_differ_24 : decode cX5_differ 24 = .ok (.aload_n 0, 1) := by decide +kernel
theorem dX5_differ_25 : decode cX5_differ 25 = .ok (.getfield 31, 3) := by decide +kernel
theorem dX5_differ_28 : decode cX5_differ 28 = .ok (.iload_n 1, 1) := by decide +kernel
theorem dX5_differ_29 : decode cX5_differ 29 = .ok (.invokevirtual 133, 3) := by decide +kernel
theorem dX5_differ_32 : decode cX5_differ 32 = .ok (.aload_n 0, 1) := by decide +kernel
theorem dX5_differ_33 : decode cX5_differ 33 = .ok (.aload_n 0, 1) := by decide +kernel
theorem dX5_differ_34 : decode cX5_differ 34 = .ok (.getfield 31, 3) := by decide +kernel
theorem dX5_differ_37 : decode cX5_differ 37 = .ok (.iload_n 2, 1) := by decide +kernel
theorem dX5_differ_38 : decode cX5_differ 38 = .ok (.invokevirtual 133, 3) := by decide +kernel
theorem dX5_differ_41 : decode cX5_differ 41 = .ok (.ixor, 1) := by decide +kernel
theorem dX5_differ_42 : decode cX5_differ 42 = .ok (.invokestatic 158, 3) := by decide +kernel
theorem dX5_differ_45 : decode cX5_differ 45 = .ok (.ireturn, 1) := by decide +kernel
theorem dX5_power_0 : decode cX5_power 0 = .ok (.iconst 1, 1) := by decide +kernel
theorem dX5_power_1 : decode cX5_power 1 = .ok (.istore_n 2, 1) := by decide +kernel
theorem dX5_power_2 : decode cX5_power 2 = .ok (.iconst 0, 1) := by decide +kernel
theorem dX5_power_3 : decode cX5_power 3 = .ok (.istore_n 3, 1) := by decide +kernel
theorem dX5_power_4 : decode cX5_power 4 = .ok (.iload_n 3, 1) := by decide +kernel
theorem dX5_power_5 : decode cX5_power 5 = .ok (.iload_n 1, 1) := by decide +kernel
theorem dX5_power_6 : decode cX5_power 6 = .ok (.if_icmp .ge 13, 3) := by decide +kernel
theorem dX5_power_9 : decode cX5_power 9 = .ok (.iload_n 2, 1) := by decide +kernel
theorem dX5_power_10 : decode cX5_power 10 = .ok (.iload_n 0, 1) := by decide +kernel
theorem dX5_power_11 : decode cX5_power 11 = .ok (.imul, 1) := by decide +kernel
theorem dX5_power_12 : decode cX5_power 12 = .ok (.istore_n 2, 1) := by decide +kernel
theorem dX5_power_13 : decode cX5_power 13 = .ok (.iinc 3 1, 3) := by decide +kernel
theorem dX5_power_16 : decode cX5_power 16 = .ok (.goto (-12), 3) := by decide +kernel
theorem dX5_power_19 : decode cX5_power 19 = .ok (.iload_n 2, 1) := by decide +kernel
theorem dX5_power_20 : decode cX5_power 20 = .ok (.ireturn, 1) := by decide +kernel
theorem dX5_does_0 : decode cX5_does 0 = .ok (.iload_n 1, 1) := by decide +kernel
theorem dX5_does_1 : decode cX5_does 1 = .ok (.bipush 10, 2) := by decide +kernel
theorem dX5_does_3 : decode cX5_does 3 = .ok (.idiv, 1) := by decide +kernel
theorem dX5_does_4 : decode cX5_does 4 = .ok (.istore_n 2, 1) := by decide +kernel
theorem dX5_does_5 : decode cX5_does 5 = .ok (.iload_n 1, 1) := by decide +kernel
theorem dX5_does_6 : decode cX5_does 6 = .ok (.bipush 10, 2) := by decide +kernel
theorem dX5_does_8 : decode cX5_does 8 = .ok (.irem, 1) := by decide +kernel
theorem dX5_does_9 : decode cX5_does 9 = .ok (.istore_n 3, 1) := by decide +kernel
theorem dX5_does_10 : decode cX5_does 10 = .ok (.iload_n 1, 1) := by decide +kernel
theorem dX5_does_11 : decode cX5_does 11 = .ok (.ifCond .ne 16, 3) := by decide +kernel
theorem dX5_does_14 : decode cX5_does 14 = .ok (.aload_n 0, 1) := by decide +kernel
theorem dX5_does_15 : decode cX5_does 15 = .ok (.getfield 34, 3) := by decide +kernel
theorem dX5_does_18 : decode cX5_does 18 = .ok (.bipush 15, 2) := by decide +kernel
theorem dX5_does_20 : decode cX5_does 20 = .ok (.dup2, 1) := by decide +kernel
theorem dX5_does_21 : decode cX5_does 21 = .ok (.iaload, 1) := by decide +kernel
theorem dX5_does_22 : decode cX5_does 22 = .ok (.iconst 1, 1) := by decide +kernel
theorem dX5_does_23 : decode cX5_does 23 = .ok (.iadd, 1) := by decide +kernel
theorem dX5_does_24 : decode cX5_does 24 = .ok (.iastore, 1) := by decide +kernel
theorem dX5_does_25 : decode cX5_does 25 = .ok (.iconst 1, 1) := by decide +kernel
theorem dX5_does_26 : decode cX5_does 26 = .ok (.ireturn, 1) := by decide +kernel
theorem dX5_does_27 : decode cX5_does 27 = .ok (.iload_n 2, 1) := by decide +kernel
theorem dX5_does_28 : decode cX5_does 28 = .ok (.i2l, 1) := by decide +kernel
theorem dX5_does_29 : decode cX5_does 29 = .ok (.lconst 1, 1) := by decide +kernel
theorem dX5_does_30 : decode cX5_does 30 = .ok (.ldc2_w 185, 3) := by decide +kernel
theorem dX5_does_33 : decode cX5_does 33 = .ok (.invokestatic 75, 3) := by decide +kernel
theorem dX5_does_36 : decode cX5_does 36 = .ok (.ifCond .eq 76, 3) := by decide +kernel
theorem dX5_does_39 : decode cX5_does 39 = .ok (.aload_n 0, 1) := by decide +kernel
theorem dX5_does_40 : decode cX5_does 40 = .ok (.iload_n 2, 1) := by decide +kernel
theorem dX5_does_41 : decode cX5_does 41 = .ok (.iconst 1, 1) := by decide +kernel
theorem dX5_does_42 : decode cX5_does 42 = .ok (.isub, 1) := by decide +kernel
theorem dX5_does_43 : decode cX5_does 43 = .ok (.invokevirtual 151, 3) := by decide +kernel
theorem dX5_does_46 : decode cX5_does 46 = .ok (.ifCond .ne 43, 3) := by decide +kernel
theorem dX5_does_49 : decode cX5_does 49 = .ok (.iload_n 3, 1) := by decide +kernel
theorem dX5_does_50 : decode cX5_does 50 = .ok (.iconst 2, 1) := by decide +kernel
theorem dX5_does_51 : decode cX5_does 51 = .ok (.if_icmp .ge 38, 3) := by decide +kernel
theorem dX5_does_54 : decode cX5_does 54 = .ok (.aload_n 0, 1) := by decide +kernel
theorem dX5_does_55 : decode cX5_does 55 = .ok (.getfield 34, 3) := by decide +kernel
theorem dX5_does_58 : decode cX5_does 58 = .ok (.iload_n 2, 1) := by decide +kernel
theorem dX5_does_59 : decode cX5_does 59 = .ok (.iconst 1, 1) := by decide +kernel
theorem dX5_does_60 : decode cX5_does 60 = .ok (.isub, 1) := by decide +kernel
theorem dX5_does_61 : decode cX5_does 61 = .ok (.iload_n 3, 1) := by decide +kernel
theorem dX5_does_62 : decode cX5_does 62 = .ok (.invokestatic 119, 3) := by decide +kernel
theorem dX5_does_65 : decode cX5_does 65 = .ok (.bipush (-9), 2) := by decide +kernel
theorem dX5_does_67 : decode cX5_does 67 = .ok (.if_icmp .eq 22, 3) := by decide +kernel
theorem dX5_does_70 : decode cX5_does 70 = .ok (.aload_n 0, 1) := by decide +kernel
theorem dX5_does_71 : decode cX5_does 71 = .ok (.aload_n 0, 1) := by decide +kernel
theorem dX5_does_72 : decode cX5_does 72 = .ok (.getfield 34, 3) := by decide +kernel
theorem dX5_does_75 : decode cX5_does 75 = .ok (.iload_n 2, 1) := by decide +kernel
theorem dX5_does_76 : decode cX5_does 76 = .ok (.iconst 1, 1) := by decide +kernel
theorem dX5_does_77 : decode cX5_does 77 = .ok (.isub, 1) := by decide +kernel
theorem dX5_does_78 : decode cX5_does 78 = .ok (.iload_n 3, 1) := by decide +kernel
theorem dX5_does_79 : decode cX5_does 79 = .ok (.invokevirtual 130, 3) := by decide +kernel
theorem dX5_does_82 : decode cX5_does 82 = .ok (.ifCond .ne 7, 3) := by decide +kernel
theorem dX5_does_85 : decode cX5_does 85 = .ok (.iconst 1, 1) := by decide +kernel
theorem dX5_does_86 : decode cX5_does 86 = .ok (.goto 4, 3) := by decide +kernel
theorem dX5_does_89 : decode cX5_does 89 = .ok (.iconst 0, 1) := by decide +kernel
theorem dX5_does_90 : decode cX5_does 90 = .ok (.istore 4, 2) := by decide +kernel
theorem dX5_does_92 : decode cX5_does 92 = .ok (.iload 4, 2) := by decide +kernel
theorem dX5_does_94 : decode cX5_does 94 = .ok (.ifCond .eq 15, 3) := by decide +kernel
theorem dX5_does_97 : decode cX5_does 97 = .ok (.aload_n 0, 1) := by decide +kernel
theorem dX5_does_98 : decode cX5_does 98 = .ok (.aload_n 0, 1) := by decide +kernel
theorem dX5_does_99 : decode cX5_does 99 = .ok (.getfield 34, 3) := by decide +kernel
theorem dX5_does_102 : decode cX5_does 102 = .ok (.iload_n 2, 1) := by decide +kernel
theorem dX5_does_103 : decode cX5_does 103 = .ok (.iconst 1, 1) := by decide +kernel
theorem dX5_does_104 : decode cX5_does 104 = .ok (.isub, 1) := by decide +kernel
theorem dX5_does_105 : decode cX5_does 105 = .ok (.iload_n 3, 1) := by decide +kernel
theorem dX5_does_106 : decode cX5_does 106 = .ok (.invokevirtual 171, 3) := by decide +kernel
theorem dX5_does_109 : decode cX5_does 109 = .ok (.iload 4, 2) := by decide +kernel
theorem dX5_does_111 : decode cX5_does 111 = .ok (.ireturn, 1) := by decide +kernel
theorem dX5_does_112 : decode cX5_does 112 = .ok (.aload_n 0, 1) := by decide +kernel
theorem dX5_does_113 : decode cX5_does 113 = .ok (.iload_n 3, 1) := by decide +kernel
theorem dX5_does_114 : decode cX5_does 114 = .ok (.invokevirtual 151, 3) := by decide +kernel
theorem dX5_does_117 : decode cX5_does 117 = .ok (.ifCond .eq 5, 3) := by decide +kernel
theorem dX5_does_120 : decode cX5_does 120 = .ok (.iconst 0, 1) := by decide +kernel
theorem dX5_does_121 : decode cX5_does 121 = .ok (.ireturn, 1) := by decide +kernel
theorem dX5_does_122 : decode cX5_does 122 = .ok (.iload_n 2, 1) := by decide +kernel
theorem dX5_does_123 : decode cX5_does 123 = .ok (.bipush 6, 2) := by decide +kernel
theorem dX5_does_125 : decode cX5_does 125 = .ok (.if_icmp .ne 26, 3) := by decide +kernel
theorem dX5_does_128 : decode cX5_does 128 = .ok (.aload_n 0, 1) := by decide +kernel
theorem dX5_does_129 : decode cX5_does 129 = .ok (.getfield 34, 3) := by decide +kernel
theorem dX5_does_132 : decode cX5_does 132 = .ok (.iconst 5, 1) := by decide +kernel
theorem dX5_does_133 : decode cX5_does 133 = .ok (.iload_n 3, 1) := by decide +kernel
theorem dX5_does_134 : decode cX5_does 134 = .ok (.iadd, 1) := by decide +kernel
theorem dX5_does_135 : decode cX5_does 135 = .ok (.iaload, 1) := by decide +kernel
theorem dX5_does_136 : decode cX5_does 136 = .ok (.iconst 3, 1) := by decide +kernel
theorem dX5_does_137 : decode cX5_does 137 = .ok (.if_icmp .eq 14, 3) := by decide +kernel
theorem dX5_does_140 : decode cX5_does 140 = .ok (.aload_n 0, 1) := by decide +kernel
theorem dX5_does_141 : decode cX5_does 141 = .ok (.getfield 34, 3) := by decide +kernel
theorem dX5_does_144 : decode cX5_does 144 = .ok (.iconst 5, 1) := by decide +kernel
theorem dX5_does_145 : decode cX5_does 145 = .ok (.iload_n 3, 1) := by decide +kernel
theorem dX5_does_146 : decode cX5_does 146 = .ok (.iadd, 1) := by decide +kernel
theorem dX5_does_147 : decode cX5_does 147 = .ok (.iconst 3, 1) := by decide +kernel
theorem dX5_does_148 : decode cX5_does 148 = .ok (.iastore, 1) := by decide +kernel
theorem dX5_does_149 : decode cX5_does 149 = .ok (.iconst 1, 1) := by decide +kernel
theorem dX5_does_150 : decode cX5_does 150 = .ok (.ireturn, 1) := by decide +kernel
theorem dX5_does_151 : decode cX5_does 151 = .ok (.iload_n 2, 1) := by decide +kernel
theorem dX5_does_152 : decode cX5_does 152 = .ok (.bipush 7, 2) := by decide +kernel
theorem dX5_does_154 : decode cX5_does 154 = .ok (.if_icmp .ne 19, 3) := by decide +kernel
theorem dX5_does_157 : decode cX5_does 157 = .ok (.aload_n 0, 1) := by decide +kernel
theorem dX5_does_158 : decode cX5_does 158 = .ok (.getfield 34, 3) := by decide +kernel
theorem dX5_does_161 : decode cX5_does 161 = .ok (.bipush 10, 2) := by decide +kernel
theorem dX5_does_163 : decode cX5_does 163 = .ok (.iload_n 3, 1) := by decide +kernel
theorem dX5_does_164 : decode cX5_does 164 = .ok (.iadd, 1) := by decide +kernel
theorem dX5_does_165 : decode cX5_does 165 = .ok (.iaload, 1) := by decide +kernel
theorem dX5_does_166 : decode cX5_does 166 = .ok (.ifCond .eq 7, 3) := by decide +kernel
theorem dX5_does_169 : decode cX5_does 169 = .ok (.iconst 1, 1) := by decide +kernel
theorem dX5_does_170 : decode cX5_does 170 = .ok (.goto 4, 3) := by decide +kernel
theorem dX5_does_173 : decode cX5_does 173 = .ok (.iconst 0, 1) := by decide +kernel
theorem dX5_does_174 : decode cX5_does 174 = .ok (.istore 4, 2) := by decide +kernel
theorem dX5_does_176 : decode cX5_does 176 = .ok (.aload_n 0, 1) := by decide +kernel
theorem dX5_does_177 : decode cX5_does 177 = .ok (.getfield 34, 3) := by decide +kernel
theorem dX5_does_180 : decode cX5_does 180 = .ok (.bipush 10, 2) := by decide +kernel
theorem dX5_does_182 : decode cX5_does 182 = .ok (.iload_n 3, 1) := by decide +kernel
theorem dX5_does_183 : decode cX5_does 183 = .ok (.iadd, 1) := by decide +kernel
theorem dX5_does_184 : decode cX5_does 184 = .ok (.iload 4, 2) := by decide +kernel
theorem dX5_does_186 : decode cX5_does 186 = .ok (.ifCond .eq 7, 3) := by decide +kernel
theorem dX5_does_189 : decode cX5_does 189 = .ok (.iconst 0, 1) := by decide +kernel
theorem dX5_does_190 : decode cX5_does 190 = .ok (.goto 12, 3) := by decide +kernel
theorem dX5_does_193 : decode cX5_does 193 = .ok (.aload_n 0, 1) := by decide +kernel
theorem dX5_does_194 : decode cX5_does 194 = .ok (.getfield 34, 3) := by decide +kernel
theorem dX5_does_197 : decode cX5_does 197 = .ok (.bipush 10, 2) := by decide +kernel
theorem dX5_does_199 : decode cX5_does 199 = .ok (.iload_n 3, 1) := by decide +kernel
theorem dX5_does_200 : decode cX5_does 200 = .ok (.iadd, 1) := by decide +kernel
theorem dX5_does_201 : decode cX5_does 201 = .ok (.iaload, 1) := by decide +kernel
theorem dX5_does_202 : decode cX5_does 202 = .ok (.iastore, 1) := by decide +kernel
theorem dX5_does_203 : decode cX5_does 203 = .ok (.iload 4, 2) := by decide +kernel
theorem dX5_does_205 : decode cX5_does 205 = .ok (.ireturn, 1) := by decide +kernel
theorem dX5_judge_0 : decode cX5_judge 0 = .ok (.aload_n 0, 1) := by decide +kernel
theorem dX5_judge_1 : decode cX5_judge 1 = .ok (.iconst 0, 1) := by decide +kernel
theorem dX5_judge_2 : decode cX5_judge 2 = .ok (.putfield 68, 3) := by decide +kernel
theorem dX5_judge_5 : decode cX5_judge 5 = .ok (.iload_n 1, 1) := by decide +kernel
theorem dX5_judge_6 : decode cX5_judge 6 = .ok (.i2l, 1) := by decide +kernel
theorem dX5_judge_7 : decode cX5_judge 7 = .ok (.lconst 1, 1) := by decide +kernel
theorem dX5_judge_8 : decode cX5_judge 8 = .ok (.ldc2_w 187, 3) := by decide +kernel
theorem dX5_judge_11 : decode cX5_judge 11 = .ok (.invokestatic 75, 3) := by decide +kernel
theorem dX5_judge_14 : decode cX5_judge 14 = .ok (.ifCond .eq 21, 3) := by decide +kernel
theorem dX5_judge_17 : decode cX5_judge 17 = .ok (.iload_n 2, 1) := by decide +kernel
theorem dX5_judge_18 : decode cX5_judge 18 = .ok (.i2l, 1) := by decide +kernel
theorem dX5_judge_19 : decode cX5_judge 19 = .ok (.lconst 0, 1) := by decide +kernel
theorem dX5_judge_20 : decode cX5_judge 20 = .ok (.bipush 100, 2) := by decide +kernel
theorem dX5_judge_22 : decode cX5_judge 22 = .ok (.iload_n 1, 1) := by decide +kernel
theorem dX5_judge_23 : decode cX5_judge 23 = .ok (.invokestatic 189, 3) := by decide +kernel
theorem dX5_judge_26 : decode cX5_judge 26 = .ok (.iconst 1, 1) := by decide +kernel
theorem dX5_judge_27 : decode cX5_judge 27 = .ok (.isub, 1) := by decide +kernel
theorem dX5_judge_28 : decode cX5_judge 28 = .ok (.i2l, 1) := by decide +kernel
theorem dX5_judge_29 : decode cX5_judge 29 = .ok (.invokestatic 75, 3) := by decide +kernel
theorem dX5_judge_32 : decode cX5_judge 32 = .ok (.ifCond .ne 6, 3) := by decide +kernel
theorem dX5_judge_35 : decode cX5_judge 35 = .ok (.bipush (-2), 2) := by decide +kernel
theorem dX5_judge_37 : decode cX5_judge 37 = .ok (.ireturn, 1) := by decide +kernel
theorem dX5_judge_38 : decode cX5_judge 38 = .ok (.aload_n 0, 1) := by decide +kernel
theorem dX5_judge_39 : decode cX5_judge 39 = .ok (.invokevirtual 175, 3) := by decide +kernel
theorem dX5_judge_42 : decode cX5_judge 42 = .ok (.iconst 0, 1) := by decide +kernel
theorem dX5_judge_43 : decode cX5_judge 43 = .ok (.istore_n 3, 1) := by decide +kernel
theorem dX5_judge_44 : decode cX5_judge 44 = .ok (.iload_n 3, 1) := by decide +kernel
theorem dX5_judge_45 : decode cX5_judge 45 = .ok (.iload_n 1, 1) := by decide +kernel
theorem dX5_judge_46 : decode cX5_judge 46 = .ok (.if_icmp .ge 33, 3) := by decide +kernel
theorem dX5_judge_49 : decode cX5_judge 49 = .ok (.aload_n 0, 1) := by decide +kernel
theorem dX5_judge_50 : decode cX5_judge 50 = .ok (.iload_n 2, 1) := by decide +kernel
theorem dX5_judge_51 : decode cX5_judge 51 = .ok (.bipush 100, 2) := by decide +kernel
theorem dX5_judge_53 : decode cX5_judge 53 = .ok (.iload_n 1, 1) := by decide +kernel
theorem dX5_judge_54 : decode cX5_judge 54 = .ok (.iconst 1, 1) := by decide +kernel
theorem dX5_judge_55 : decode cX5_judge 55 = .ok (.isub, 1) := by decide +kernel
theorem dX5_judge_56 : decode cX5_judge 56 = .ok (.iload_n 3, 1) := by decide +kernel
theorem dX5_judge_57 : decode cX5_judge 57 = .ok (.isub, 1) := by decide +kernel
theorem dX5_judge_58 : decode cX5_judge 58 = .ok (.invokestatic 189, 3) := by decide +kernel
theorem dX5_judge_61 : decode cX5_judge 61 = .ok (.idiv, 1) := by decide +kernel
theorem dX5_judge_62 : decode cX5_judge 62 = .ok (.bipush 100, 2) := by decide +kernel
theorem dX5_judge_64 : decode cX5_judge 64 = .ok (.irem, 1) := by decide +kernel
theorem dX5_judge_65 : decode cX5_judge 65 = .ok (.invokevirtual 192, 3) := by decide +kernel
theorem dX5_judge_68 : decode cX5_judge 68 = .ok (.ifCond .ne 5, 3) := by decide +kernel
theorem dX5_judge_71 : decode cX5_judge 71 = .ok (.iload_n 3, 1) := by decide +kernel
theorem dX5_judge_72 : decode cX5_judge 72 = .ok (.ireturn, 1) := by decide +kernel
theorem dX5_judge_73 : decode cX5_judge 73 = .ok (.iinc 3 1, 3) := by decide +kernel
theorem dX5_judge_76 : decode cX5_judge 76 = .ok (.goto (-32), 3) := by decide +kernel
theorem dX5_judge_79 : decode cX5_judge 79 = .ok (.bipush (-9), 2) := by decide +kernel
theorem dX5_judge_81 : decode cX5_judge 81 = .ok (.ireturn, 1) := by decide +kernel
theorem dX5_ways_0 : decode cX5_ways 0 = .ok (.iconst 1, 1) := by decide +kernel
theorem dX5_ways_1 : decode cX5_ways 1 = .ok (.istore_n 1, 1) := by decide +kernel
theorem dX5_ways_2 : decode cX5_ways 2 = .ok (.iconst 2, 1) := by decide +kernel
theorem dX5_ways_3 : decode cX5_ways 3 = .ok (.istore_n 2, 1) := by decide +kernel
theorem dX5_ways_4 : decode cX5_ways 4 = .ok (.iload_n 2, 1) := by decide +kernel
theorem dX5_ways_5 : decode cX5_ways 5 = .ok (.iload_n 0, 1) := by decide +kernel
theorem dX5_ways_6 : decode cX5_ways 6 = .ok (.if_icmp .gt 13, 3) := by decide +kernel
theorem dX5_ways_9 : decode cX5_ways 9 = .ok (.iload_n 1, 1) := by decide +kernel
theorem dX5_ways_10 : decode cX5_ways 10 = .ok (.iload_n 2, 1) := by decide +kernel
theorem dX5_ways_11 : decode cX5_ways 11 = .ok (.imul, 1) := by decide +kernel
theorem dX5_ways_12 : decode cX5_ways 12 = .ok (.istore_n 1, 1) := by decide +kernel
theorem dX5_ways_13 : decode cX5_ways 13 = .ok (.iinc 2 1, 3) := by decide +kernel
theorem dX5_ways_16 : decode cX5_ways 16 = .ok (.goto (-12), 3) := by decide +kernel
theorem dX5_ways_19 : decode cX5_ways 19 = .ok (.iload_n 1, 1) := by decide +kernel
theorem dX5_ways_20 : decode cX5_ways 20 = .ok (.ireturn, 1) := by decide +kernel
theorem dX5_divisor_0 : decode cX5_divisor 0 = .ok (.iload_n 0, 1) := by decide +kernel
theorem dX5_divisor_1 : decode cX5_divisor 1 = .ok (.ifCond .ge 8, 3) := by decide +kernel
theorem dX5_divisor_4 : decode cX5_divisor 4 = .ok (.iload_n 0, 1) := by decide +kernel
theorem dX5_divisor_5 : decode cX5_divisor 5 = .ok (.ineg, 1) := by decide +kernel
theorem dX5_divisor_6 : decode cX5_divisor 6 = .ok (.goto 4, 3) := by decide +kernel
theorem dX5_divisor_9 : decode cX5_divisor 9 = .ok (.iload_n 0, 1) := by decide +kernel
theorem dX5_divisor_10 : decode cX5_divisor 10 = .ok (.istore_n 2, 1) := by decide +kernel
theorem dX5_divisor_11 : decode cX5_divisor 11 = .ok (.iload_n 1, 1) := by decide +kernel
theorem dX5_divisor_12 : decode cX5_divisor 12 = .ok (.istore_n 3, 1) := by decide +kernel
theorem dX5_divisor_13 : decode cX5_divisor 13 = .ok (.iload_n 3, 1) := by decide +kernel
theorem dX5_divisor_14 : decode cX5_divisor 14 = .ok (.ifCond .eq 16, 3) := by decide +kernel
theorem dX5_divisor_17 : decode cX5_divisor 17 = .ok (.iload_n 2, 1) := by decide +kernel
theorem dX5_divisor_18 : decode cX5_divisor 18 = .ok (.iload_n 3, 1) := by decide +kernel
theorem dX5_divisor_19 : decode cX5_divisor 19 = .ok (.irem, 1) := by decide +kernel
theorem dX5_divisor_20 : decode cX5_divisor 20 = .ok (.istore 4, 2) := by decide +kernel
theorem dX5_divisor_22 : decode cX5_divisor 22 = .ok (.iload_n 3, 1) := by decide +kernel
theorem dX5_divisor_23 : decode cX5_divisor 23 = .ok (.istore_n 2, 1) := by decide +kernel
theorem dX5_divisor_24 : decode cX5_divisor 24 = .ok (.iload 4, 2) := by decide +kernel
theorem dX5_divisor_26 : decode cX5_divisor 26 = .ok (.istore_n 3, 1) := by decide +kernel
theorem dX5_divisor_27 : decode cX5_divisor 27 = .ok (.goto (-14), 3) := by decide +kernel
theorem dX5_divisor_30 : decode cX5_divisor 30 = .ok (.iload_n 2, 1) := by decide +kernel
theorem dX5_divisor_31 : decode cX5_divisor 31 = .ok (.ireturn, 1) := by decide +kernel
theorem dX5_fraction_0 : decode cX5_fraction 0 = .ok (.iload_n 0, 1) := by decide +kernel
theorem dX5_fraction_1 : decode cX5_fraction 1 = .ok (.iload_n 1, 1) := by decide +kernel
theorem dX5_fraction_2 : decode cX5_fraction 2 = .ok (.invokestatic 195, 3) := by decide +kernel
theorem dX5_fraction_5 : decode cX5_fraction 5 = .ok (.istore_n 3, 1) := by decide +kernel
theorem dX5_fraction_6 : decode cX5_fraction 6 = .ok (.iload_n 2, 1) := by decide +kernel
theorem dX5_fraction_7 : decode cX5_fraction 7 = .ok (.ifCond .eq 9, 3) := by decide +kernel
theorem dX5_fraction_10 : decode cX5_fraction 10 = .ok (.iload_n 0, 1) := by decide +kernel
theorem dX5_fraction_11 : decode cX5_fraction 11 = .ok (.iload_n 3, 1) := by decide +kernel
theorem dX5_fraction_12 : decode cX5_fraction 12 = .ok (.idiv, 1) := by decide +kernel
theorem dX5_fraction_13 : decode cX5_fraction 13 = .ok (.goto 6, 3) := by decide +kernel
theorem dX5_fraction_16 : decode cX5_fraction 16 = .ok (.iload_n 1, 1) := by decide +kernel
theorem dX5_fraction_17 : decode cX5_fraction 17 = .ok (.iload_n 3, 1) := by decide +kernel
theorem dX5_fraction_18 : decode cX5_fraction 18 = .ok (.idiv, 1) := by decide +kernel
theorem dX5_fraction_19 : decode cX5_fraction 19 = .ok (.ireturn, 1) := by decide +kernel
theorem dX5_barredBy_0 : decode cX5_barredBy 0 = .ok (.iconst 0, 1) := by decide +kernel
theorem dX5_barredBy_1 : decode cX5_barredBy 1 = .ok (.istore_n 2, 1) := by decide +kernel
theorem dX5_barredBy_2 : decode cX5_barredBy 2 = .ok (.iconst 0, 1) := by decide +kernel
theorem dX5_barredBy_3 : decode cX5_barredBy 3 = .ok (.istore_n 3, 1) := by decide +kernel
theorem dX5_barredBy_4 : decode cX5_barredBy 4 = .ok (.iload_n 3, 1) := by decide +kernel
theorem dX5_barredBy_5 : decode cX5_barredBy 5 = .ok (.aload_n 0, 1) := by decide +kernel
theorem dX5_barredBy_6 : decode cX5_barredBy 6 = .ok (.getfield 72, 3) := by decide +kernel
theorem dX5_barredBy_9 : decode cX5_barredBy 9 = .ok (.if_icmp .ge 63, 3) := by decide +kernel
theorem dX5_barredBy_12 : decode cX5_barredBy 12 = .ok (.iconst 0, 1) := by decide +kernel
theorem dX5_barredBy_13 : decode cX5_barredBy 13 = .ok (.istore 4, 2) := by decide +kernel
theorem dX5_barredBy_15 : decode cX5_barredBy 15 = .ok (.iload 4, 2) := by decide +kernel
theorem dX5_barredBy_17 : decode cX5_barredBy 17 = .ok (.iconst 2, 1) := by decide +kernel
theorem dX5_barredBy_18 : decode cX5_barredBy 18 = .ok (.if_icmp .ge 48, 3) := by decide +kernel
theorem dX5_barredBy_21 : decode cX5_barredBy 21 = .ok (.iload_n 2, 1) := by decide +kernel
theorem dX5_barredBy_22 : decode cX5_barredBy 22 = .ok (.aload_n 0, 1) := by decide +kernel
theorem dX5_barredBy_23 : decode cX5_barredBy 23 = .ok (.getfield 31, 3) := by decide +kernel
theorem dX5_barredBy_26 : decode cX5_barredBy 26 = .ok (.iload_n 3, 1) := by decide +kernel
theorem dX5_barredBy_27 : decode cX5_barredBy 27 = .ok (.iload 4, 2) := by decide +kernel
theorem dX5_barredBy_29 : decode cX5_barredBy 29 = .ok (.invokestatic 119, 3) := by decide +kernel
theorem dX5_barredBy_32 : decode cX5_barredBy 32 = .ok (.bipush (-9), 2) := by decide +kernel
theorem dX5_barredBy_34 : decode cX5_barredBy 34 = .ok (.if_icmp .eq 23, 3) := by decide +kernel
theorem dX5_barredBy_37 : decode cX5_barredBy 37 = .ok (.aload_n 0, 1) := by decide +kernel
theorem dX5_barredBy_38 : decode cX5_barredBy 38 = .ok (.aload_n 0, 1) := by decide +kernel
theorem dX5_barredBy_39 : decode cX5_barredBy 39 = .ok (.getfield 31, 3) := by decide +kernel
theorem dX5_barredBy_42 : decode cX5_barredBy 42 = .ok (.iload_n 3, 1) := by decide +kernel
theorem dX5_barredBy_43 : decode cX5_barredBy 43 = .ok (.iload 4, 2) := by decide +kernel
theorem dX5_barredBy_45 : decode cX5_barredBy 45 = .ok (.invokevirtual 130, 3) := by decide +kernel
theorem dX5_barredBy_48 : decode cX5_barredBy 48 = .ok (.iload_n 1, 1) := by decide +kernel
theorem dX5_barredBy_49 : decode cX5_barredBy 49 = .ok (.iand, 1) := by decide +kernel
theorem dX5_barredBy_50 : decode cX5_barredBy 50 = .ok (.ifCond .eq 7, 3) := by decide +kernel
theorem dX5_barredBy_53 : decode cX5_barredBy 53 = .ok (.iconst 1, 1) := by decide +kernel
theorem dX5_barredBy_54 : decode cX5_barredBy 54 = .ok (.goto 4, 3) := by decide +kernel
theorem dX5_barredBy_57 : decode cX5_barredBy 57 = .ok (.iconst 0, 1) := by decide +kernel
theorem dX5_barredBy_58 : decode cX5_barredBy 58 = .ok (.iadd, 1) := by decide +kernel
theorem dX5_barredBy_59 : decode cX5_barredBy 59 = .ok (.istore_n 2, 1) := by decide +kernel
theorem dX5_barredBy_60 : decode cX5_barredBy 60 = .ok (.iinc 4 1, 3) := by decide +kernel
theorem dX5_barredBy_63 : decode cX5_barredBy 63 = .ok (.goto (-48), 3) := by decide +kernel
theorem dX5_barredBy_66 : decode cX5_barredBy 66 = .ok (.iinc 3 1, 3) := by decide +kernel
theorem dX5_barredBy_69 : decode cX5_barredBy 69 = .ok (.goto (-65), 3) := by decide +kernel
theorem dX5_barredBy_72 : decode cX5_barredBy 72 = .ok (.iload_n 2, 1) := by decide +kernel
theorem dX5_barredBy_73 : decode cX5_barredBy 73 = .ok (.ireturn, 1) := by decide +kernel
theorem dX5_share_0 : decode cX5_share 0 = .ok (.aload_n 0, 1) := by decide +kernel
theorem dX5_share_1 : decode cX5_share 1 = .ok (.iconst 0, 1) := by decide +kernel
theorem dX5_share_2 : decode cX5_share 2 = .ok (.putfield 68, 3) := by decide +kernel
theorem dX5_share_5 : decode cX5_share 5 = .ok (.aload_n 0, 1) := by decide +kernel
theorem dX5_share_6 : decode cX5_share 6 = .ok (.iload_n 1, 1) := by decide +kernel
theorem dX5_share_7 : decode cX5_share 7 = .ok (.invokevirtual 144, 3) := by decide +kernel
theorem dX5_share_10 : decode cX5_share 10 = .ok (.ifCond .eq 5, 3) := by decide +kernel
theorem dX5_share_13 : decode cX5_share 13 = .ok (.iconst (-1), 1) := by decide +kernel
theorem dX5_share_14 : decode cX5_share 14 = .ok (.ireturn, 1) := by decide +kernel
theorem dX5_share_15 : decode cX5_share 15 = .ok (.iconst 0, 1) := by decide +kernel
theorem dX5_share_16 : decode cX5_share 16 = .ok (.istore_n 3, 1) := by decide +kernel
theorem dX5_share_17 : decode cX5_share 17 = .ok (.iload_n 3, 1) := by decide +kernel
theorem dX5_share_18 : decode cX5_share 18 = .ok (.iconst 1, 1) := by decide +kernel
theorem dX5_share_19 : decode cX5_share 19 = .ok (.aload_n 0, 1) := by decide +kernel
theorem dX5_share_20 : decode cX5_share 20 = .ok (.getfield 79, 3) := by decide +kernel
theorem dX5_share_23 : decode cX5_share 23 = .ok (.ishl, 1) := by decide +kernel
theorem dX5_share_24 : decode cX5_share 24 = .ok (.if_icmp .ge 20, 3) := by decide +kernel
theorem dX5_share_27 : decode cX5_share 27 = .ok (.aload_n 0, 1) := by decide +kernel
theorem dX5_share_28 : decode cX5_share 28 = .ok (.getfield 65, 3) := by decide +kernel
theorem dX5_share_31 : decode cX5_share 31 = .ok (.iload_n 3, 1) := by decide +kernel
theorem dX5_share_32 : decode cX5_share 32 = .ok (.aload_n 0, 1) := by decide +kernel
theorem dX5_share_33 : decode cX5_share 33 = .ok (.iload_n 3, 1) := by decide +kernel
theorem dX5_share_34 : decode cX5_share 34 = .ok (.invokevirtual 198, 3) := by decide +kernel
theorem dX5_share_37 : decode cX5_share 37 = .ok (.iastore, 1) := by decide +kernel
theorem dX5_share_38 : decode cX5_share 38 = .ok (.iinc 3 1, 3) := by decide +kernel
theorem dX5_share_41 : decode cX5_share 41 = .ok (.goto (-24), 3) := by decide +kernel
theorem dX5_share_44 : decode cX5_share 44 = .ok (.iconst 0, 1) := by decide +kernel
theorem dX5_share_45 : decode cX5_share 45 = .ok (.istore_n 3, 1) := by decide +kernel
theorem dX5_share_46 : decode cX5_share 46 = .ok (.iconst 0, 1) := by decide +kernel
theorem dX5_share_47 : decode cX5_share 47 = .ok (.istore 4, 2) := by decide +kernel
theorem dX5_share_49 : decode cX5_share 49 = .ok (.iload 4, 2) := by decide +kernel
theorem dX5_share_51 : decode cX5_share 51 = .ok (.iconst 1, 1) := by decide +kernel
theorem dX5_share_52 : decode cX5_share 52 = .ok (.aload_n 0, 1) := by decide +kernel
theorem dX5_share_53 : decode cX5_share 53 = .ok (.getfield 79, 3) := by decide +kernel
theorem dX5_share_56 : decode cX5_share 56 = .ok (.ishl, 1) := by decide +kernel
theorem dX5_share_57 : decode cX5_share 57 = .ok (.if_icmp .ge 66, 3) := by decide +kernel
theorem dX5_share_60 : decode cX5_share 60 = .ok (.iload 4, 2) := by decide +kernel
theorem dX5_share_62 : decode cX5_share 62 = .ok (.iload_n 1, 1) := by decide +kernel
theorem dX5_share_63 : decode cX5_share 63 = .ok (.invokestatic 140, 3) := by decide +kernel
theorem dX5_share_66 : decode cX5_share 66 = .ok (.ifCond .ne 51, 3) := by decide +kernel
theorem dX5_share_69 : decode cX5_share 69 = .ok (.iload 4, 2) := by decide +kernel
theorem dX5_share_71 : decode cX5_share 71 = .ok (.invokestatic 161, 3) := by decide +kernel
theorem dX5_share_74 : decode cX5_share 74 = .ok (.istore 5, 2) := by decide +kernel
theorem dX5_share_76 : decode cX5_share 76 = .ok (.iload_n 3, 1) := by decide +kernel
theorem dX5_share_77 : decode cX5_share 77 = .ok (.iload 5, 2) := by decide +kernel
theorem dX5_share_79 : decode cX5_share 79 = .ok (.invokestatic 201, 3) := by decide +kernel
theorem dX5_share_82 : decode cX5_share 82 = .ok (.aload_n 0, 1) := by decide +kernel
theorem dX5_share_83 : decode cX5_share 83 = .ok (.getfield 79, 3) := by decide +kernel
theorem dX5_share_86 : decode cX5_share 86 = .ok (.iconst 1, 1) := by decide +kernel
theorem dX5_share_87 : decode cX5_share 87 = .ok (.isub, 1) := by decide +kernel
theorem dX5_share_88 : decode cX5_share 88 = .ok (.iload 5, 2) := by decide +kernel
theorem dX5_share_90 : decode cX5_share 90 = .ok (.isub, 1) := by decide +kernel
theorem dX5_share_91 : decode cX5_share 91 = .ok (.invokestatic 201, 3) := by decide +kernel
theorem dX5_share_94 : decode cX5_share 94 = .ok (.imul, 1) := by decide +kernel
theorem dX5_share_95 : decode cX5_share 95 = .ok (.aload_n 0, 1) := by decide +kernel
theorem dX5_share_96 : decode cX5_share 96 = .ok (.getfield 65, 3) := by decide +kernel
theorem dX5_share_99 : decode cX5_share 99 = .ok (.iload 4, 2) := by decide +kernel
theorem dX5_share_101 : decode cX5_share 101 = .ok (.iconst 1, 1) := by decide +kernel
theorem dX5_share_102 : decode cX5_share 102 = .ok (.iload_n 1, 1) := by decide +kernel
theorem dX5_share_103 : decode cX5_share 103 = .ok (.ishl, 1) := by decide +kernel
theorem dX5_share_104 : decode cX5_share 104 = .ok (.ior, 1) := by decide +kernel
theorem dX5_share_105 : decode cX5_share 105 = .ok (.iaload, 1) := by decide +kernel
theorem dX5_share_106 : decode cX5_share 106 = .ok (.aload_n 0, 1) := by decide +kernel
theorem dX5_share_107 : decode cX5_share 107 = .ok (.getfield 65, 3) := by decide +kernel
theorem dX5_share_110 : decode cX5_share 110 = .ok (.iload 4, 2) := by decide +kernel
theorem dX5_share_112 : decode cX5_share 112 = .ok (.iaload, 1) := by decide +kernel
theorem dX5_share_113 : decode cX5_share 113 = .ok (.isub, 1) := by decide +kernel
theorem dX5_share_114 : decode cX5_share 114 = .ok (.imul, 1) := by decide +kernel
theorem dX5_share_115 : decode cX5_share 115 = .ok (.iadd, 1) := by decide +kernel
theorem dX5_share_116 : decode cX5_share 116 = .ok (.istore_n 3, 1) := by decide +kernel
theorem dX5_share_117 : decode cX5_share 117 = .ok (.iinc 4 1, 3) := by decide +kernel
theorem dX5_share_120 : decode cX5_share 120 = .ok (.goto (-71), 3) := by decide +kernel
theorem dX5_share_123 : decode cX5_share 123 = .ok (.iload_n 3, 1) := by decide +kernel
theorem dX5_share_124 : decode cX5_share 124 = .ok (.aload_n 0, 1) := by decide +kernel
theorem dX5_share_125 : decode cX5_share 125 = .ok (.getfield 79, 3) := by decide +kernel
theorem dX5_share_128 : decode cX5_share 128 = .ok (.invokestatic 201, 3) := by decide +kernel
theorem dX5_share_131 : decode cX5_share 131 = .ok (.iload_n 2, 1) := by decide +kernel
theorem dX5_share_132 : decode cX5_share 132 = .ok (.invokestatic 204, 3) := by decide +kernel
theorem dX5_share_135 : decode cX5_share 135 = .ok (.ireturn, 1) := by decide +kernel
theorem dX5_see_0 : decode cX5_see 0 = .ok (.aload_n 0, 1) := by decide +kernel
theorem dX5_see_1 : decode cX5_see 1 = .ok (.iconst 0, 1) := by decide +kernel
theorem dX5_see_2 : decode cX5_see 2 = .ok (.putfield 68, 3) := by decide +kernel
theorem dX5_see_5 : decode cX5_see 5 = .ok (.iload_n 1, 1) := by decide +kernel
theorem dX5_see_6 : decode cX5_see 6 = .ok (.i2l, 1) := by decide +kernel
theorem dX5_see_7 : decode cX5_see 7 = .ok (.lconst 0, 1) := by decide +kernel
theorem dX5_see_8 : decode cX5_see 8 = .ok (.ldc2_w 117, 3) := by decide +kernel
theorem dX5_see_11 : decode cX5_see 11 = .ok (.invokestatic 75, 3) := by decide +kernel
theorem dX5_see_14 : decode cX5_see 14 = .ok (.ifCond .ne 5, 3) := by decide +kernel
theorem dX5_see_17 : decode cX5_see 17 = .ok (.iconst (-1), 1) := by decide +kernel
theorem dX5_see_18 : decode cX5_see 18 = .ok (.ireturn, 1) := by decide +kernel
theorem dX5_see_19 : decode cX5_see 19 = .ok (.iload_n 2, 1) := by decide +kernel
theorem dX5_see_20 : decode cX5_see 20 = .ok (.i2l, 1) := by decide +kernel
theorem dX5_see_21 : decode cX5_see 21 = .ok (.lconst 0, 1) := by decide +kernel
theorem dX5_see_22 : decode cX5_see 22 = .ok (.ldc2_w 208, 3) := by decide +kernel
theorem dX5_see_25 : decode cX5_see 25 = .ok (.invokestatic 75, 3) := by decide +kernel
theorem dX5_see_28 : decode cX5_see 28 = .ok (.ifCond .eq 37, 3) := by decide +kernel
theorem dX5_see_31 : decode cX5_see 31 = .ok (.iload_n 3, 1) := by decide +kernel
theorem dX5_see_32 : decode cX5_see 32 = .ok (.i2l, 1) := by decide +kernel
theorem dX5_see_33 : decode cX5_see 33 = .ok (.lconst 0, 1) := by decide +kernel
theorem dX5_see_34 : decode cX5_see 34 = .ok (.ldc2_w 117, 3) := by decide +kernel
theorem dX5_see_37 : decode cX5_see 37 = .ok (.invokestatic 75, 3) := by decide +kernel
theorem dX5_see_40 : decode cX5_see 40 = .ok (.ifCond .eq 25, 3) := by decide +kernel
theorem dX5_see_43 : decode cX5_see 43 = .ok (.iload 4, 2) := by decide +kernel
theorem dX5_see_45 : decode cX5_see 45 = .ok (.i2l, 1) := by decide +kernel
theorem dX5_see_46 : decode cX5_see 46 = .ok (.lconst 0, 1) := by decide +kernel
theorem dX5_see_47 : decode cX5_see 47 = .ok (.lconst 1, 1) := by decide +kernel
theorem dX5_see_48 : decode cX5_see 48 = .ok (.invokestatic 75, 3) := by decide +kernel
theorem dX5_see_51 : decode cX5_see 51 = .ok (.ifCond .eq 14, 3) := by decide +kernel
theorem dX5_see_54 : decode cX5_see 54 = .ok (.iload 5, 2) := by decide +kernel
theorem dX5_see_56 : decode cX5_see 56 = .ok (.i2l, 1) := by decide +kernel
theorem dX5_see_57 : decode cX5_see 57 = .ok (.lconst 0, 1) := by decide +kernel
theorem dX5_see_58 : decode cX5_see 58 = .ok (.lconst 1, 1) := by decide +kernel
theorem dX5_see_59 : decode cX5_see 59 = .ok (.invokestatic 75, 3) := by decide +kernel
theorem dX5_see_62 : decode cX5_see 62 = .ok (.ifCond .ne 6, 3) := by decide +kernel
theorem dX5_see_65 : decode cX5_see 65 = .ok (.bipush (-2), 2) := by decide +kernel
theorem dX5_see_67 : decode cX5_see 67 = .ok (.ireturn, 1) := by decide +kernel
theorem dX5_see_68 : decode cX5_see 68 = .ok (.aload_n 0, 1) := by decide +kernel
theorem dX5_see_69 : decode cX5_see 69 = .ok (.getfield 137, 3) := by decide +kernel
theorem dX5_see_72 : decode cX5_see 72 = .ok (.bipush 6, 2) := by decide +kernel
theorem dX5_see_74 : decode cX5_see 74 = .ok (.if_icmp .ne 6, 3) := by decide +kernel
theorem dX5_see_77 : decode cX5_see 77 = .ok (.bipush (-4), 2) := by decide +kernel
theorem dX5_see_79 : decode cX5_see 79 = .ok (.ireturn, 1) := by decide +kernel
theorem dX5_see_80 : decode cX5_see 80 = .ok (.aload_n 0, 1) := by decide +kernel
theorem dX5_see_81 : decode cX5_see 81 = .ok (.getfield 47, 3) := by decide +kernel
theorem dX5_see_84 : decode cX5_see 84 = .ok (.aload_n 0, 1) := by decide +kernel
theorem dX5_see_85 : decode cX5_see 85 = .ok (.getfield 137, 3) := by decide +kernel
theorem dX5_see_88 : decode cX5_see 88 = .ok (.iload_n 1, 1) := by decide +kernel
theorem dX5_see_89 : decode cX5_see 89 = .ok (.iastore, 1) := by decide +kernel
theorem dX5_see_90 : decode cX5_see 90 = .ok (.aload_n 0, 1) := by decide +kernel
theorem dX5_see_91 : decode cX5_see 91 = .ok (.getfield 50, 3) := by decide +kernel
theorem dX5_see_94 : decode cX5_see 94 = .ok (.aload_n 0, 1) := by decide +kernel
theorem dX5_see_95 : decode cX5_see 95 = .ok (.getfield 137, 3) := by decide +kernel
theorem dX5_see_98 : decode cX5_see 98 = .ok (.iload_n 2, 1) := by decide +kernel
theorem dX5_see_99 : decode cX5_see 99 = .ok (.iastore, 1) := by decide +kernel
theorem dX5_see_100 : decode cX5_see 100 = .ok (.aload_n 0, 1) := by decide +kernel
theorem dX5_see_101 : decode cX5_see 101 = .ok (.getfield 53, 3) := by decide +kernel
theorem dX5_see_104 : decode cX5_see 104 = .ok (.aload_n 0, 1) := by decide +kernel
theorem dX5_see_105 : decode cX5_see 105 = .ok (.getfield 137, 3) := by decide +kernel
theorem dX5_see_108 : decode cX5_see 108 = .ok (.iload_n 3, 1) := by decide +kernel
theorem dX5_see_109 : decode cX5_see 109 = .ok (.iastore, 1) := by decide +kernel
theorem dX5_see_110 : decode cX5_see 110 = .ok (.aload_n 0, 1) := by decide +kernel
theorem dX5_see_111 : decode cX5_see 111 = .ok (.getfield 56, 3) := by decide +kernel
theorem dX5_see_114 : decode cX5_see 114 = .ok (.aload_n 0, 1) := by decide +kernel
theorem dX5_see_115 : decode cX5_see 115 = .ok (.getfield 137, 3) := by decide +kernel
theorem dX5_see_118 : decode cX5_see 118 = .ok (.iload 4, 2) := by decide +kernel
theorem dX5_see_120 : decode cX5_see 120 = .ok (.iastore, 1) := by decide +kernel
theorem dX5_see_121 : decode cX5_see 121 = .ok (.aload_n 0, 1) := by decide +kernel
theorem dX5_see_122 : decode cX5_see 122 = .ok (.getfield 59, 3) := by decide +kernel
theorem dX5_see_125 : decode cX5_see 125 = .ok (.aload_n 0, 1) := by decide +kernel
theorem dX5_see_126 : decode cX5_see 126 = .ok (.getfield 137, 3) := by decide +kernel
theorem dX5_see_129 : decode cX5_see 129 = .ok (.iload 5, 2) := by decide +kernel
theorem dX5_see_131 : decode cX5_see 131 = .ok (.iastore, 1) := by decide +kernel
theorem dX5_see_132 : decode cX5_see 132 = .ok (.aload_n 0, 1) := by decide +kernel
theorem dX5_see_133 : decode cX5_see 133 = .ok (.dup, 1) := by decide +kernel
theorem dX5_see_134 : decode cX5_see 134 = .ok (.getfield 137, 3) := by decide +kernel
theorem dX5_see_137 : decode cX5_see 137 = .ok (.iconst 1, 1) := by decide +kernel
theorem dX5_see_138 : decode cX5_see 138 = .ok (.iadd, 1) := by decide +kernel
theorem dX5_see_139 : decode cX5_see 139 = .ok (.putfield 137, 3) := by decide +kernel
theorem dX5_see_142 : decode cX5_see 142 = .ok (.aload_n 0, 1) := by decide +kernel
theorem dX5_see_143 : decode cX5_see 143 = .ok (.getfield 137, 3) := by decide +kernel
theorem dX5_see_146 : decode cX5_see 146 = .ok (.ireturn, 1) := by decide +kernel
theorem dX5_unsee_0 : decode cX5_unsee 0 = .ok (.aload_n 0, 1) := by decide +kernel
theorem dX5_unsee_1 : decode cX5_unsee 1 = .ok (.iconst 0, 1) := by decide +kernel
theorem dX5_unsee_2 : decode cX5_unsee 2 = .ok (.putfield 68, 3) := by decide +kernel
theorem dX5_unsee_5 : decode cX5_unsee 5 = .ok (.aload_n 0, 1) := by decide +kernel
theorem dX5_unsee_6 : decode cX5_unsee 6 = .ok (.getfield 137, 3) := by decide +kernel
theorem dX5_unsee_9 : decode cX5_unsee 9 = .ok (.istore_n 1, 1) := by decide +kernel
theorem dX5_unsee_10 : decode cX5_unsee 10 = .ok (.aload_n 0, 1) := by decide +kernel
theorem dX5_unsee_11 : decode cX5_unsee 11 = .ok (.iconst 0, 1) := by decide +kernel
theorem dX5_unsee_12 : decode cX5_unsee 12 = .ok (.putfield 137, 3) := by decide +kernel
theorem dX5_unsee_15 : decode cX5_unsee 15 = .ok (.iload_n 1, 1) := by decide +kernel
theorem dX5_unsee_16 : decode cX5_unsee 16 = .ok (.ireturn, 1) := by decide +kernel
theorem dX5_findMay_0 : decode cX5_findMay 0 = .ok (.aload_n 0, 1) := by decide +kernel
theorem dX5_findMay_1 : decode cX5_findMay 1 = .ok (.iconst 0, 1) := by decide +kernel
theorem dX5_findMay_2 : decode cX5_findMay 2 = .ok (.putfield 210, 3) := by decide +kernel
theorem dX5_findMay_5 : decode cX5_findMay 5 = .ok (.aload_n 0, 1) := by decide +kernel
theorem dX5_findMay_6 : decode cX5_findMay 6 = .ok (.bipush (-9), 2) := by decide +kernel
theorem dX5_findMay_8 : decode cX5_findMay 8 = .ok (.putfield 213, 3) := by decide +kernel
theorem dX5_findMay_11 : decode cX5_findMay 11 = .ok (.iconst 0, 1) := by decide +kernel
theorem dX5_findMay_12 : decode cX5_findMay 12 = .ok (.istore_n 2, 1) := by decide +kernel
theorem dX5_findMay_13 : decode cX5_findMay 13 = .ok (.iload_n 2, 1) := by decide +kernel
theorem dX5_findMay_14 : decode cX5_findMay 14 = .ok (.bipush 30, 2) := by decide +kernel
theorem dX5_findMay_16 : decode cX5_findMay 16 = .ok (.if_icmp .ge 147, 3) := by decide +kernel
theorem dX5_findMay_19 : decode cX5_findMay 19 = .ok (.iconst 1, 1) := by decide +kernel
theorem dX5_findMay_20 : decode cX5_findMay 20 = .ok (.istore_n 3, 1) := by decide +kernel
theorem dX5_findMay_21 : decode cX5_findMay 21 = .ok (.iconst 0, 1) := by decide +kernel
theorem dX5_findMay_22 : decode cX5_findMay 22 = .ok (.istore 4, 2) := by decide +kernel
theorem dX5_findMay_24 : decode cX5_findMay 24 = .ok (.iload 4, 2) := by decide +kernel
theorem dX5_findMay_26 : decode cX5_findMay 26 = .ok (.aload_n 0, 1) := by decide +kernel
theorem dX5_findMay_27 : decode cX5_findMay 27 = .ok (.getfield 137, 3) := by decide +kernel
theorem dX5_findMay_30 : decode cX5_findMay 30 = .ok (.if_icmp .ge 86, 3) := by decide +kernel
theorem dX5_findMay_33 : decode cX5_findMay 33 = .ok (.iload_n 2, 1) := by decide +kernel
theorem dX5_findMay_34 : decode cX5_findMay 34 = .ok (.bipush 10, 2) := by decide +kernel
theorem dX5_findMay_36 : decode cX5_findMay 36 = .ok (.idiv, 1) := by decide +kernel
theorem dX5_findMay_37 : decode cX5_findMay 37 = .ok (.iload_n 2, 1) := by decide +kernel
theorem dX5_findMay_38 : decode cX5_findMay 38 = .ok (.bipush 10, 2) := by decide +kernel
theorem dX5_findMay_40 : decode cX5_findMay 40 = .ok (.irem, 1) := by decide +kernel
theorem dX5_findMay_41 : decode cX5_findMay 41 = .ok (.aload_n 0, 1) := by decide +kernel
theorem dX5_findMay_42 : decode cX5_findMay 42 = .ok (.getfield 50, 3) := by decide +kernel
theorem dX5_findMay_45 : decode cX5_findMay 45 = .ok (.iload 4, 2) := by decide +kernel
theorem dX5_findMay_47 : decode cX5_findMay 47 = .ok (.iaload, 1) := by decide +kernel
theorem dX5_findMay_48 : decode cX5_findMay 48 = .ok (.aload_n 0, 1) := by decide +kernel
theorem dX5_findMay_49 : decode cX5_findMay 49 = .ok (.getfield 53, 3) := by decide +kernel
theorem dX5_findMay_52 : decode cX5_findMay 52 = .ok (.iload 4, 2) := by decide +kernel
theorem dX5_findMay_54 : decode cX5_findMay 54 = .ok (.iaload, 1) := by decide +kernel
theorem dX5_findMay_55 : decode cX5_findMay 55 = .ok (.aload_n 0, 1) := by decide +kernel
theorem dX5_findMay_56 : decode cX5_findMay 56 = .ok (.getfield 56, 3) := by decide +kernel
theorem dX5_findMay_59 : decode cX5_findMay 59 = .ok (.iload 4, 2) := by decide +kernel
theorem dX5_findMay_61 : decode cX5_findMay 61 = .ok (.iaload, 1) := by decide +kernel
theorem dX5_findMay_62 : decode cX5_findMay 62 = .ok (.iconst 0, 1) := by decide +kernel
theorem dX5_findMay_63 : decode cX5_findMay 63 = .ok (.invokestatic 126, 3) := by decide +kernel
theorem dX5_findMay_66 : decode cX5_findMay 66 = .ok (.istore 5, 2) := by decide +kernel
theorem dX5_findMay_68 : decode cX5_findMay 68 = .ok (.iload_n 3, 1) := by decide +kernel
theorem dX5_findMay_69 : decode cX5_findMay 69 = .ok (.ifCond .eq 39, 3) := by decide +kernel
theorem dX5_findMay_72 : decode cX5_findMay 72 = .ok (.aload_n 0, 1) := by decide +kernel
theorem dX5_findMay_73 : decode cX5_findMay 73 = .ok (.getfield 47, 3) := by decide +kernel
theorem dX5_findMay_76 : decode cX5_findMay 76 = .ok (.iload 4, 2) := by decide +kernel
theorem dX5_findMay_78 : decode cX5_findMay 78 = .ok (.iaload, 1) := by decide +kernel
theorem dX5_findMay_79 : decode cX5_findMay 79 = .ok (.iload_n 1, 1) := by decide +kernel
theorem dX5_findMay_80 : decode cX5_findMay 80 = .ok (.if_icmp .ne 24, 3) := by decide +kernel
theorem dX5_findMay_83 : decode cX5_findMay 83 = .ok (.iload 5, 2) := by decide +kernel
theorem dX5_findMay_85 : decode cX5_findMay 85 = .ok (.aload_n 0, 1) := by decide +kernel
theorem dX5_findMay_86 : decode cX5_findMay 86 = .ok (.getfield 59, 3) := by decide +kernel
theorem dX5_findMay_89 : decode cX5_findMay 89 = .ok (.iload 4, 2) := by decide +kernel
theorem dX5_findMay_91 : decode cX5_findMay 91 = .ok (.iaload, 1) := by decide +kernel
theorem dX5_findMay_92 : decode cX5_findMay 92 = .ok (.iconst 1, 1) := by decide +kernel
theorem dX5_findMay_93 : decode cX5_findMay 93 = .ok (.if_icmp .ne 7, 3) := by decide +kernel
theorem dX5_findMay_96 : decode cX5_findMay 96 = .ok (.iconst 1, 1) := by decide +kernel
theorem dX5_findMay_97 : decode cX5_findMay 97 = .ok (.goto 4, 3) := by decide +kernel
theorem dX5_findMay_100 : decode cX5_findMay 100 = .ok (.iconst 0, 1) := by decide +kernel
theorem dX5_findMay_101 : decode cX5_findMay 101 = .ok (.if_icmp .ne 7, 3) := by decide +kernel
theorem dX5_findMay_104 : decode cX5_findMay 104 = .ok (.iconst 1, 1) := by decide +kernel
theorem dX5_findMay_105 : decode cX5_findMay 105 = .ok (.goto 4, 3) := by decide +kernel
theorem dX5_findMay_108 : decode cX5_findMay 108 = .ok (.iconst 0, 1) := by decide +kernel
theorem dX5_findMay_109 : decode cX5_findMay 109 = .ok (.istore_n 3, 1) := by decide +kernel
theorem dX5_findMay_110 : decode cX5_findMay 110 = .ok (.iinc 4 1, 3) := by decide +kernel
theorem dX5_findMay_113 : decode cX5_findMay 113 = .ok (.goto (-89), 3) := by decide +kernel
theorem dX5_findMay_116 : decode cX5_findMay 116 = .ok (.aload_n 0, 1) := by decide +kernel
theorem dX5_findMay_117 : decode cX5_findMay 117 = .ok (.iload_n 3, 1) := by decide +kernel
theorem dX5_findMay_118 : decode cX5_findMay 118 = .ok (.ifCond .eq 14, 3) := by decide +kernel
theorem dX5_findMay_121 : decode cX5_findMay 121 = .ok (.aload_n 0, 1) := by decide +kernel
theorem dX5_findMay_122 : decode cX5_findMay 122 = .ok (.getfield 210, 3) := by decide +kernel
theorem dX5_findMay_125 : decode cX5_findMay 125 = .ok (.ifCond .ne 7, 3) := by decide +kernel
theorem dX5_findMay_128 : decode cX5_findMay 128 = .ok (.iload_n 2, 1) := by decide +kernel
theorem dX5_findMay_129 : decode cX5_findMay 129 = .ok (.goto 7, 3) := by decide +kernel
theorem dX5_findMay_132 : decode cX5_findMay 132 = .ok (.aload_n 0, 1) := by decide +kernel
theorem dX5_findMay_133 : decode cX5_findMay 133 = .ok (.getfield 213, 3) := by decide +kernel
theorem dX5_findMay_136 : decode cX5_findMay 136 = .ok (.putfield 213, 3) := by decide +kernel
theorem dX5_findMay_139 : decode cX5_findMay 139 = .ok (.aload_n 0, 1) := by decide +kernel
theorem dX5_findMay_140 : decode cX5_findMay 140 = .ok (.dup, 1) := by decide +kernel
theorem dX5_findMay_141 : decode cX5_findMay 141 = .ok (.getfield 210, 3) := by decide +kernel
theorem dX5_findMay_144 : decode cX5_findMay 144 = .ok (.iload_n 3, 1) := by decide +kernel
theorem dX5_findMay_145 : decode cX5_findMay 145 = .ok (.ifCond .eq 7, 3) := by decide +kernel
theorem dX5_findMay_148 : decode cX5_findMay 148 = .ok (.iconst 1, 1) := by decide +kernel
theorem dX5_findMay_149 : decode cX5_findMay 149 = .ok (.goto 4, 3) := by decide +kernel
theorem dX5_findMay_152 : decode cX5_findMay 152 = .ok (.iconst 0, 1) := by decide +kernel
theorem dX5_findMay_153 : decode cX5_findMay 153 = .ok (.iadd, 1) := by decide +kernel
theorem dX5_findMay_154 : decode cX5_findMay 154 = .ok (.putfield 210, 3) := by decide +kernel
theorem dX5_findMay_157 : decode cX5_findMay 157 = .ok (.iinc 2 1, 3) := by decide +kernel
theorem dX5_findMay_160 : decode cX5_findMay 160 = .ok (.goto (-147), 3) := by decide +kernel
theorem dX5_findMay_163 : decode cX5_findMay 163 = .ok (.return_, 1) := by decide +kernel
theorem dX5_may_0 : decode cX5_may 0 = .ok (.aload_n 0, 1) := by decide +kernel
theorem dX5_may_1 : decode cX5_may 1 = .ok (.iconst 0, 1) := by decide +kernel
theorem dX5_may_2 : decode cX5_may 2 = .ok (.putfield 68, 3) := by decide +kernel
theorem dX5_may_5 : decode cX5_may 5 = .ok (.iload_n 1, 1) := by decide +kernel
theorem dX5_may_6 : decode cX5_may 6 = .ok (.i2l, 1) := by decide +kernel
theorem dX5_may_7 : decode cX5_may 7 = .ok (.lconst 0, 1) := by decide +kernel
theorem dX5_may_8 : decode cX5_may 8 = .ok (.ldc2_w 117, 3) := by decide +kernel
theorem dX5_may_11 : decode cX5_may 11 = .ok (.invokestatic 75, 3) := by decide +kernel
theorem dX5_may_14 : decode cX5_may 14 = .ok (.ifCond .ne 5, 3) := by decide +kernel
theorem dX5_may_17 : decode cX5_may 17 = .ok (.iconst (-1), 1) := by decide +kernel
theorem dX5_may_18 : decode cX5_may 18 = .ok (.ireturn, 1) := by decide +kernel
theorem dX5_may_19 : decode cX5_may 19 = .ok (.iload_n 2, 1) := by decide +kernel
theorem dX5_may_20 : decode cX5_may 20 = .ok (.i2l, 1) := by decide +kernel
theorem dX5_may_21 : decode cX5_may 21 = .ok (.lconst 0, 1) := by decide +kernel
theorem dX5_may_22 : decode cX5_may 22 = .ok (.lconst 1, 1) := by decide +kernel
theorem dX5_may_23 : decode cX5_may 23 = .ok (.invokestatic 75, 3) := by decide +kernel
theorem dX5_may_26 : decode cX5_may 26 = .ok (.ifCond .ne 6, 3) := by decide +kernel
theorem dX5_may_29 : decode cX5_may 29 = .ok (.bipush (-2), 2) := by decide +kernel
theorem dX5_may_31 : decode cX5_may 31 = .ok (.ireturn, 1) := by decide +kernel
theorem dX5_may_32 : decode cX5_may 32 = .ok (.aload_n 0, 1) := by decide +kernel
theorem dX5_may_33 : decode cX5_may 33 = .ok (.iload_n 1, 1) := by decide +kernel
theorem dX5_may_34 : decode cX5_may 34 = .ok (.invokevirtual 216, 3) := by decide +kernel
theorem dX5_may_37 : decode cX5_may 37 = .ok (.iload_n 2, 1) := by decide +kernel
theorem dX5_may_38 : decode cX5_may 38 = .ok (.ifCond .ne 10, 3) := by decide +kernel
theorem dX5_may_41 : decode cX5_may 41 = .ok (.aload_n 0, 1) := by decide +kernel
theorem dX5_may_42 : decode cX5_may 42 = .ok (.getfield 210, 3) := by decide +kernel
theorem dX5_may_45 : decode cX5_may 45 = .ok (.goto 7, 3) := by decide +kernel
theorem dX5_may_48 : decode cX5_may 48 = .ok (.aload_n 0, 1) := by decide +kernel
theorem dX5_may_49 : decode cX5_may 49 = .ok (.getfield 213, 3) := by decide +kernel
theorem dX5_may_52 : decode cX5_may 52 = .ok (.ireturn, 1) := by decide +kernel
theorem dX5_sent_0 : decode cX5_sent 0 = .ok (.iconst 0, 1) := by decide +kernel
theorem dX5_sent_1 : decode cX5_sent 1 = .ok (.istore_n 1, 1) := by decide +kernel
theorem dX5_sent_2 : decode cX5_sent 2 = .ok (.iconst 0, 1) := by decide +kernel
theorem dX5_sent_3 : decode cX5_sent 3 = .ok (.istore_n 2, 1) := by decide +kernel
theorem dX5_sent_4 : decode cX5_sent 4 = .ok (.iload_n 2, 1) := by decide +kernel
theorem dX5_sent_5 : decode cX5_sent 5 = .ok (.aload_n 0, 1) := by decide +kernel
theorem dX5_sent_6 : decode cX5_sent 6 = .ok (.getfield 72, 3) := by decide +kernel
theorem dX5_sent_9 : decode cX5_sent 9 = .ok (.if_icmp .ge 48, 3) := by decide +kernel
theorem dX5_sent_12 : decode cX5_sent 12 = .ok (.iload_n 1, 1) := by decide +kernel
theorem dX5_sent_13 : decode cX5_sent 13 = .ok (.aload_n 0, 1) := by decide +kernel
theorem dX5_sent_14 : decode cX5_sent 14 = .ok (.getfield 31, 3) := by decide +kernel
theorem dX5_sent_17 : decode cX5_sent 17 = .ok (.iload_n 2, 1) := by decide +kernel
theorem dX5_sent_18 : decode cX5_sent 18 = .ok (.iconst 1, 1) := by decide +kernel
theorem dX5_sent_19 : decode cX5_sent 19 = .ok (.invokestatic 119, 3) := by decide +kernel
theorem dX5_sent_22 : decode cX5_sent 22 = .ok (.bipush (-9), 2) := by decide +kernel
theorem dX5_sent_24 : decode cX5_sent 24 = .ok (.if_icmp .ne 7, 3) := by decide +kernel
theorem dX5_sent_27 : decode cX5_sent 27 = .ok (.iconst 0, 1) := by decide +kernel
theorem dX5_sent_28 : decode cX5_sent 28 = .ok (.goto 21, 3) := by decide +kernel
theorem dX5_sent_31 : decode cX5_sent 31 = .ok (.aload_n 0, 1) := by decide +kernel
theorem dX5_sent_32 : decode cX5_sent 32 = .ok (.aload_n 0, 1) := by decide +kernel
theorem dX5_sent_33 : decode cX5_sent 33 = .ok (.getfield 31, 3) := by decide +kernel
theorem dX5_sent_36 : decode cX5_sent 36 = .ok (.iload_n 2, 1) := by decide +kernel
theorem dX5_sent_37 : decode cX5_sent 37 = .ok (.iconst 1, 1) := by decide +kernel
theorem dX5_sent_38 : decode cX5_sent 38 = .ok (.invokevirtual 164, 3) := by decide +kernel
theorem dX5_sent_41 : decode cX5_sent 41 = .ok (.ifCond .eq 7, 3) := by decide +kernel
theorem dX5_sent_44 : decode cX5_sent 44 = .ok (.iconst (-1), 1) := by decide +kernel
theorem dX5_sent_45 : decode cX5_sent 45 = .ok (.goto 4, 3) := by decide +kernel
theorem dX5_sent_48 : decode cX5_sent 48 = .ok (.iconst 1, 1) := by decide +kernel
theorem dX5_sent_49 : decode cX5_sent 49 = .ok (.iadd, 1) := by decide +kernel
theorem dX5_sent_50 : decode cX5_sent 50 = .ok (.istore_n 1, 1) := by decide +kernel
theorem dX5_sent_51 : decode cX5_sent 51 = .ok (.iinc 2 1, 3) := by decide +kernel
theorem dX5_sent_54 : decode cX5_sent 54 = .ok (.goto (-50), 3) := by decide +kernel
theorem dX5_sent_57 : decode cX5_sent 57 = .ok (.iload_n 1, 1) := by decide +kernel
theorem dX5_sent_58 : decode cX5_sent 58 = .ok (.ireturn, 1) := by decide +kernel
theorem dX5_gain_0 : decode cX5_gain 0 = .ok (.iload_n 1, 1) := by decide +kernel
theorem dX5_gain_1 : decode cX5_gain 1 = .ok (.ifCond .ne 14, 3) := by decide +kernel
theorem dX5_gain_4 : decode cX5_gain 4 = .ok (.iload_n 2, 1) := by decide +kernel
theorem dX5_gain_5 : decode cX5_gain 5 = .ok (.iconst 1, 1) := by decide +kernel
theorem dX5_gain_6 : decode cX5_gain 6 = .ok (.if_icmp .ne 7, 3) := by decide +kernel
theorem dX5_gain_9 : decode cX5_gain 9 = .ok (.iconst (-1), 1) := by decide +kernel
theorem dX5_gain_10 : decode cX5_gain 10 = .ok (.goto 4, 3) := by decide +kernel
theorem dX5_gain_13 : decode cX5_gain 13 = .ok (.iconst 0, 1) := by decide +kernel
theorem dX5_gain_14 : decode cX5_gain 14 = .ok (.ireturn, 1) := by decide +kernel
theorem dX5_gain_15 : decode cX5_gain 15 = .ok (.iload_n 2, 1) := by decide +kernel
theorem dX5_gain_16 : decode cX5_gain 16 = .ok (.iconst 1, 1) := by decide +kernel
theorem dX5_gain_17 : decode cX5_gain 17 = .ok (.if_icmp .ne 9, 3) := by decide +kernel
theorem dX5_gain_20 : decode cX5_gain 20 = .ok (.iload_n 0, 1) := by decide +kernel
theorem dX5_gain_21 : decode cX5_gain 21 = .ok (.iconst 2, 1) := by decide +kernel
theorem dX5_gain_22 : decode cX5_gain 22 = .ok (.idiv, 1) := by decide +kernel
theorem dX5_gain_23 : decode cX5_gain 23 = .ok (.goto 4, 3) := by decide +kernel
theorem dX5_gain_26 : decode cX5_gain 26 = .ok (.iload_n 0, 1) := by decide +kernel
theorem dX5_gain_27 : decode cX5_gain 27 = .ok (.ireturn, 1) := by decide +kernel
theorem dX5_rests_0 : decode cX5_rests 0 = .ok (.aload_n 0, 1) := by decide +kernel
theorem dX5_rests_1 : decode cX5_rests 1 = .ok (.iconst 0, 1) := by decide +kernel
theorem dX5_rests_2 : decode cX5_rests 2 = .ok (.putfield 68, 3) := by decide +kernel
theorem dX5_rests_5 : decode cX5_rests 5 = .ok (.iload_n 1, 1) := by decide +kernel
theorem dX5_rests_6 : decode cX5_rests 6 = .ok (.i2l, 1) := by decide +kernel
theorem dX5_rests_7 : decode cX5_rests 7 = .ok (.lconst 0, 1) := by decide +kernel
theorem dX5_rests_8 : decode cX5_rests 8 = .ok (.lconst 1, 1) := by decide +kernel
theorem dX5_rests_9 : decode cX5_rests 9 = .ok (.invokestatic 75, 3) := by decide +kernel
theorem dX5_rests_12 : decode cX5_rests 12 = .ok (.ifCond .ne 6, 3) := by decide +kernel
theorem dX5_rests_15 : decode cX5_rests 15 = .ok (.bipush (-2), 2) := by decide +kernel
theorem dX5_rests_17 : decode cX5_rests 17 = .ok (.ireturn, 1) := by decide +kernel
theorem dX5_rests_18 : decode cX5_rests 18 = .ok (.aload_n 0, 1) := by decide +kernel
theorem dX5_rests_19 : decode cX5_rests 19 = .ok (.invokevirtual 220, 3) := by decide +kernel
theorem dX5_rests_22 : decode cX5_rests 22 = .ok (.istore_n 2, 1) := by decide +kernel
theorem dX5_rests_23 : decode cX5_rests 23 = .ok (.aload_n 0, 1) := by decide +kernel
theorem dX5_rests_24 : decode cX5_rests 24 = .ok (.iconst 0, 1) := by decide +kernel
theorem dX5_rests_25 : decode cX5_rests 25 = .ok (.putfield 223, 3) := by decide +kernel
theorem dX5_rests_28 : decode cX5_rests 28 = .ok (.aload_n 0, 1) := by decide +kernel
theorem dX5_rests_29 : decode cX5_rests 29 = .ok (.bipush (-9), 2) := by decide +kernel
theorem dX5_rests_31 : decode cX5_rests 31 = .ok (.putfield 226, 3) := by decide +kernel
theorem dX5_rests_34 : decode cX5_rests 34 = .ok (.iconst 0, 1) := by decide +kernel
theorem dX5_rests_35 : decode cX5_rests 35 = .ok (.istore_n 3, 1) := by decide +kernel
theorem dX5_rests_36 : decode cX5_rests 36 = .ok (.iload_n 3, 1) := by decide +kernel
theorem dX5_rests_37 : decode cX5_rests 37 = .ok (.iconst 2, 1) := by decide +kernel
theorem dX5_rests_38 : decode cX5_rests 38 = .ok (.if_icmp .ge 118, 3) := by decide +kernel
theorem dX5_rests_41 : decode cX5_rests 41 = .ok (.iconst 0, 1) := by decide +kernel
theorem dX5_rests_42 : decode cX5_rests 42 = .ok (.istore 4, 2) := by decide +kernel
theorem dX5_rests_44 : decode cX5_rests 44 = .ok (.iload 4, 2) := by decide +kernel
theorem dX5_rests_46 : decode cX5_rests 46 = .ok (.iconst 2, 1) := by decide +kernel
theorem dX5_rests_47 : decode cX5_rests 47 = .ok (.if_icmp .ge 103, 3) := by decide +kernel
theorem dX5_rests_50 : decode cX5_rests 50 = .ok (.iload_n 2, 1) := by decide +kernel
theorem dX5_rests_51 : decode cX5_rests 51 = .ok (.iconst 1, 1) := by decide +kernel
theorem dX5_rests_52 : decode cX5_rests 52 = .ok (.iload_n 3, 1) := by decide +kernel
theorem dX5_rests_53 : decode cX5_rests 53 = .ok (.isub, 1) := by decide +kernel
theorem dX5_rests_54 : decode cX5_rests 54 = .ok (.iload 4, 2) := by decide +kernel
theorem dX5_rests_56 : decode cX5_rests 56 = .ok (.invokestatic 229, 3) := by decide +kernel
theorem dX5_rests_59 : decode cX5_rests 59 = .ok (.iload_n 2, 1) := by decide +kernel
theorem dX5_rests_60 : decode cX5_rests 60 = .ok (.iload_n 3, 1) := by decide +kernel
theorem dX5_rests_61 : decode cX5_rests 61 = .ok (.iload 4, 2) := by decide +kernel
theorem dX5_rests_63 : decode cX5_rests 63 = .ok (.invokestatic 229, 3) := by decide +kernel
theorem dX5_rests_66 : decode cX5_rests 66 = .ok (.if_icmp .gt 26, 3) := by decide +kernel
theorem dX5_rests_69 : decode cX5_rests 69 = .ok (.iload_n 2, 1) := by decide +kernel
theorem dX5_rests_70 : decode cX5_rests 70 = .ok (.iconst 1, 1) := by decide +kernel
theorem dX5_rests_71 : decode cX5_rests 71 = .ok (.iload 4, 2) := by decide +kernel
theorem dX5_rests_73 : decode cX5_rests 73 = .ok (.isub, 1) := by decide +kernel
theorem dX5_rests_74 : decode cX5_rests 74 = .ok (.iload_n 3, 1) := by decide +kernel
theorem dX5_rests_75 : decode cX5_rests 75 = .ok (.invokestatic 229, 3) := by decide +kernel
theorem dX5_rests_78 : decode cX5_rests 78 = .ok (.iload_n 2, 1) := by decide +kernel
theorem dX5_rests_79 : decode cX5_rests 79 = .ok (.iload 4, 2) := by decide +kernel
theorem dX5_rests_81 : decode cX5_rests 81 = .ok (.iload_n 3, 1) := by decide +kernel
theorem dX5_rests_82 : decode cX5_rests 82 = .ok (.invokestatic 229, 3) := by decide +kernel
theorem dX5_rests_85 : decode cX5_rests 85 = .ok (.if_icmp .gt 7, 3) := by decide +kernel
theorem dX5_rests_88 : decode cX5_rests 88 = .ok (.iconst 1, 1) := by decide +kernel
theorem dX5_rests_89 : decode cX5_rests 89 = .ok (.goto 4, 3) := by decide +kernel
theorem dX5_rests_92 : decode cX5_rests 92 = .ok (.iconst 0, 1) := by decide +kernel
theorem dX5_rests_93 : decode cX5_rests 93 = .ok (.istore 5, 2) := by decide +kernel
theorem dX5_rests_95 : decode cX5_rests 95 = .ok (.aload_n 0, 1) := by decide +kernel
theorem dX5_rests_96 : decode cX5_rests 96 = .ok (.iload 5, 2) := by decide +kernel
theorem dX5_rests_98 : decode cX5_rests 98 = .ok (.ifCond .eq 20, 3) := by decide +kernel
theorem dX5_rests_101 : decode cX5_rests 101 = .ok (.aload_n 0, 1) := by decide +kernel
theorem dX5_rests_102 : decode cX5_rests 102 = .ok (.getfield 223, 3) := by decide +kernel
theorem dX5_rests_105 : decode cX5_rests 105 = .ok (.ifCond .ne 13, 3) := by decide +kernel
theorem dX5_rests_108 : decode cX5_rests 108 = .ok (.bipush 10, 2) := by decide +kernel
theorem dX5_rests_110 : decode cX5_rests 110 = .ok (.iload_n 3, 1) := by decide +kernel
theorem dX5_rests_111 : decode cX5_rests 111 = .ok (.imul, 1) := by decide +kernel
theorem dX5_rests_112 : decode cX5_rests 112 = .ok (.iload 4, 2) := by decide +kernel
theorem dX5_rests_114 : decode cX5_rests 114 = .ok (.iadd, 1) := by decide +kernel
theorem dX5_rests_115 : decode cX5_rests 115 = .ok (.goto 7, 3) := by decide +kernel
theorem dX5_rests_118 : decode cX5_rests 118 = .ok (.aload_n 0, 1) := by decide +kernel
theorem dX5_rests_119 : decode cX5_rests 119 = .ok (.getfield 226, 3) := by decide +kernel
theorem dX5_rests_122 : decode cX5_rests 122 = .ok (.putfield 226, 3) := by decide +kernel
theorem dX5_rests_125 : decode cX5_rests 125 = .ok (.aload_n 0, 1) := by decide +kernel
theorem dX5_rests_126 : decode cX5_rests 126 = .ok (.dup, 1) := by decide +kernel
theorem dX5_rests_127 : decode cX5_rests 127 = .ok (.getfield 223, 3) := by decide +kernel
theorem dX5_rests_130 : decode cX5_rests 130 = .ok (.iload 5, 2) := by decide +kernel
theorem dX5_rests_132 : decode cX5_rests 132 = .ok (.ifCond .eq 7, 3) := by decide +kernel
theorem dX5_rests_135 : decode cX5_rests 135 = .ok (.iconst 1, 1) := by decide +kernel
theorem dX5_rests_136 : decode cX5_rests 136 = .ok (.goto 4, 3) := by decide +kernel
theorem dX5_rests_139 : decode cX5_rests 139 = .ok (.iconst 0, 1) := by decide +kernel
theorem dX5_rests_140 : decode cX5_rests 140 = .ok (.iadd, 1) := by decide +kernel
theorem dX5_rests_141 : decode cX5_rests 141 = .ok (.putfield 223, 3) := by decide +kernel
theorem dX5_rests_144 : decode cX5_rests 144 = .ok (.iinc 4 1, 3) := by decide +kernel
theorem dX5_rests_147 : decode cX5_rests 147 = .ok (.goto (-103), 3) := by decide +kernel
theorem dX5_rests_150 : decode cX5_rests 150 = .ok (.iinc 3 1, 3) := by decide +kernel
theorem dX5_rests_153 : decode cX5_rests 153 = .ok (.goto (-117), 3) := by decide +kernel
theorem dX5_rests_156 : decode cX5_rests 156 = .ok (.iload_n 1, 1) := by decide +kernel
theorem dX5_rests_157 : decode cX5_rests 157 = .ok (.ifCond .ne 10, 3) := by decide +kernel
theorem dX5_rests_160 : decode cX5_rests 160 = .ok (.aload_n 0, 1) := by decide +kernel
theorem dX5_rests_161 : decode cX5_rests 161 = .ok (.getfield 223, 3) := by decide +kernel
theorem dX5_rests_164 : decode cX5_rests 164 = .ok (.goto 7, 3) := by decide +kernel
theorem dX5_rests_167 : decode cX5_rests 167 = .ok (.aload_n 0, 1) := by decide +kernel
theorem dX5_rests_168 : decode cX5_rests 168 = .ok (.getfield 226, 3) := by decide +kernel
theorem dX5_rests_171 : decode cX5_rests 171 = .ok (.ireturn, 1) := by decide +kernel
theorem dX5_balkers_0 : decode cX5_balkers 0 = .ok (.aload_n 0, 1) := by decide +kernel
theorem dX5_balkers_1 : decode cX5_balkers 1 = .ok (.invokevirtual 175, 3) := by decide +kernel
theorem dX5_balkers_4 : decode cX5_balkers 4 = .ok (.iconst 0, 1) := by decide +kernel
theorem dX5_balkers_5 : decode cX5_balkers 5 = .ok (.istore_n 3, 1) := by decide +kernel
theorem dX5_balkers_6 : decode cX5_balkers 6 = .ok (.iconst 0, 1) := by decide +kernel
theorem dX5_balkers_7 : decode cX5_balkers 7 = .ok (.istore 4, 2) := by decide +kernel
theorem dX5_balkers_9 : decode cX5_balkers 9 = .ok (.iload 4, 2) := by decide +kernel
theorem dX5_balkers_11 : decode cX5_balkers 11 = .ok (.aload_n 0, 1) := by decide +kernel
theorem dX5_balkers_12 : decode cX5_balkers 12 = .ok (.getfield 72, 3) := by decide +kernel
theorem dX5_balkers_15 : decode cX5_balkers 15 = .ok (.if_icmp .ge 79, 3) := by decide +kernel
theorem dX5_balkers_18 : decode cX5_balkers 18 = .ok (.aload_n 0, 1) := by decide +kernel
theorem dX5_balkers_19 : decode cX5_balkers 19 = .ok (.getfield 34, 3) := by decide +kernel
theorem dX5_balkers_22 : decode cX5_balkers 22 = .ok (.bipush 10, 2) := by decide +kernel
theorem dX5_balkers_24 : decode cX5_balkers 24 = .ok (.iload 4, 2) := by decide +kernel
theorem dX5_balkers_26 : decode cX5_balkers 26 = .ok (.iadd, 1) := by decide +kernel
theorem dX5_balkers_27 : decode cX5_balkers 27 = .ok (.iload_n 2, 1) := by decide +kernel
theorem dX5_balkers_28 : decode cX5_balkers 28 = .ok (.iload 4, 2) := by decide +kernel
theorem dX5_balkers_30 : decode cX5_balkers 30 = .ok (.invokestatic 140, 3) := by decide +kernel
theorem dX5_balkers_33 : decode cX5_balkers 33 = .ok (.ifCond .eq 7, 3) := by decide +kernel
theorem dX5_balkers_36 : decode cX5_balkers 36 = .ok (.iconst 0, 1) := by decide +kernel
theorem dX5_balkers_37 : decode cX5_balkers 37 = .ok (.goto 13, 3) := by decide +kernel
theorem dX5_balkers_40 : decode cX5_balkers 40 = .ok (.aload_n 0, 1) := by decide +kernel
theorem dX5_balkers_41 : decode cX5_balkers 41 = .ok (.getfield 31, 3) := by decide +kernel
theorem dX5_balkers_44 : decode cX5_balkers 44 = .ok (.bipush 10, 2) := by decide +kernel
theorem dX5_balkers_46 : decode cX5_balkers 46 = .ok (.iload 4, 2) := by decide +kernel
theorem dX5_balkers_48 : decode cX5_balkers 48 = .ok (.iadd, 1) := by decide +kernel
theorem dX5_balkers_49 : decode cX5_balkers 49 = .ok (.iaload, 1) := by decide +kernel
theorem dX5_balkers_50 : decode cX5_balkers 50 = .ok (.iastore, 1) := by decide +kernel
theorem dX5_balkers_51 : decode cX5_balkers 51 = .ok (.iload_n 3, 1) := by decide +kernel
theorem dX5_balkers_52 : decode cX5_balkers 52 = .ok (.aload_n 0, 1) := by decide +kernel
theorem dX5_balkers_53 : decode cX5_balkers 53 = .ok (.getfield 34, 3) := by decide +kernel
theorem dX5_balkers_56 : decode cX5_balkers 56 = .ok (.iload 4, 2) := by decide +kernel
theorem dX5_balkers_58 : decode cX5_balkers 58 = .ok (.iload_n 1, 1) := by decide +kernel
theorem dX5_balkers_59 : decode cX5_balkers 59 = .ok (.invokestatic 119, 3) := by decide +kernel
theorem dX5_balkers_62 : decode cX5_balkers 62 = .ok (.bipush (-9), 2) := by decide +kernel
theorem dX5_balkers_64 : decode cX5_balkers 64 = .ok (.if_icmp .eq 21, 3) := by decide +kernel
theorem dX5_balkers_67 : decode cX5_balkers 67 = .ok (.aload_n 0, 1) := by decide +kernel
theorem dX5_balkers_68 : decode cX5_balkers 68 = .ok (.aload_n 0, 1) := by decide +kernel
theorem dX5_balkers_69 : decode cX5_balkers 69 = .ok (.getfield 34, 3) := by decide +kernel
theorem dX5_balkers_72 : decode cX5_balkers 72 = .ok (.iload 4, 2) := by decide +kernel
theorem dX5_balkers_74 : decode cX5_balkers 74 = .ok (.iload_n 1, 1) := by decide +kernel
theorem dX5_balkers_75 : decode cX5_balkers 75 = .ok (.invokevirtual 164, 3) := by decide +kernel
theorem dX5_balkers_78 : decode cX5_balkers 78 = .ok (.ifCond .eq 7, 3) := by decide +kernel
theorem dX5_balkers_81 : decode cX5_balkers 81 = .ok (.iconst 1, 1) := by decide +kernel
theorem dX5_balkers_82 : decode cX5_balkers 82 = .ok (.goto 4, 3) := by decide +kernel
theorem dX5_balkers_85 : decode cX5_balkers 85 = .ok (.iconst 0, 1) := by decide +kernel
theorem dX5_balkers_86 : decode cX5_balkers 86 = .ok (.iadd, 1) := by decide +kernel
theorem dX5_balkers_87 : decode cX5_balkers 87 = .ok (.istore_n 3, 1) := by decide +kernel
theorem dX5_balkers_88 : decode cX5_balkers 88 = .ok (.iinc 4 1, 3) := by decide +kernel
theorem dX5_balkers_91 : decode cX5_balkers 91 = .ok (.goto (-82), 3) := by decide +kernel
theorem dX5_balkers_94 : decode cX5_balkers 94 = .ok (.iload_n 3, 1) := by decide +kernel
theorem dX5_balkers_95 : decode cX5_balkers 95 = .ok (.ireturn, 1) := by decide +kernel
theorem dX5_forgets_0 : decode cX5_forgets 0 = .ok (.aload_n 0, 1) := by decide +kernel
theorem dX5_forgets_1 : decode cX5_forgets 1 = .ok (.iconst 0, 1) := by decide +kernel
theorem dX5_forgets_2 : decode cX5_forgets 2 = .ok (.putfield 68, 3) := by decide +kernel
theorem dX5_forgets_5 : decode cX5_forgets 5 = .ok (.iload_n 1, 1) := by decide +kernel
theorem dX5_forgets_6 : decode cX5_forgets 6 = .ok (.i2l, 1) := by decide +kernel
theorem dX5_forgets_7 : decode cX5_forgets 7 = .ok (.lconst 0, 1) := by decide +kernel
theorem dX5_forgets_8 : decode cX5_forgets 8 = .ok (.lconst 1, 1) := by decide +kernel
theorem dX5_forgets_9 : decode cX5_forgets 9 = .ok (.invokestatic 75, 3) := by decide +kernel
theorem dX5_forgets_12 : decode cX5_forgets 12 = .ok (.ifCond .eq 27, 3) := by decide +kernel
theorem dX5_forgets_15 : decode cX5_forgets 15 = .ok (.iload_n 2, 1) := by decide +kernel
theorem dX5_forgets_16 : decode cX5_forgets 16 = .ok (.i2l, 1) := by decide +kernel
theorem dX5_forgets_17 : decode cX5_forgets 17 = .ok (.lconst 0, 1) := by decide +kernel
theorem dX5_forgets_18 : decode cX5_forgets 18 = .ok (.ldc2_w 185, 3) := by decide +kernel
theorem dX5_forgets_21 : decode cX5_forgets 21 = .ok (.invokestatic 75, 3) := by decide +kernel
theorem dX5_forgets_24 : decode cX5_forgets 24 = .ok (.ifCond .eq 15, 3) := by decide +kernel
theorem dX5_forgets_27 : decode cX5_forgets 27 = .ok (.iload_n 3, 1) := by decide +kernel
theorem dX5_forgets_28 : decode cX5_forgets 28 = .ok (.i2l, 1) := by decide +kernel
theorem dX5_forgets_29 : decode cX5_forgets 29 = .ok (.lconst 0, 1) := by decide +kernel
theorem dX5_forgets_30 : decode cX5_forgets 30 = .ok (.ldc2_w 233, 3) := by decide +kernel
theorem dX5_forgets_33 : decode cX5_forgets 33 = .ok (.invokestatic 75, 3) := by decide +kernel
theorem dX5_forgets_36 : decode cX5_forgets 36 = .ok (.ifCond .ne 6, 3) := by decide +kernel
theorem dX5_forgets_39 : decode cX5_forgets 39 = .ok (.bipush (-2), 2) := by decide +kernel
theorem dX5_forgets_41 : decode cX5_forgets 41 = .ok (.ireturn, 1) := by decide +kernel
theorem dX5_forgets_42 : decode cX5_forgets 42 = .ok (.iconst 0, 1) := by decide +kernel
theorem dX5_forgets_43 : decode cX5_forgets 43 = .ok (.istore 5, 2) := by decide +kernel
theorem dX5_forgets_45 : decode cX5_forgets 45 = .ok (.iconst 0, 1) := by decide +kernel
theorem dX5_forgets_46 : decode cX5_forgets 46 = .ok (.istore 6, 2) := by decide +kernel
theorem dX5_forgets_48 : decode cX5_forgets 48 = .ok (.iload 6, 2) := by decide +kernel
theorem dX5_forgets_50 : decode cX5_forgets 50 = .ok (.iconst 1, 1) := by decide +kernel
theorem dX5_forgets_51 : decode cX5_forgets 51 = .ok (.aload_n 0, 1) := by decide +kernel
theorem dX5_forgets_52 : decode cX5_forgets 52 = .ok (.getfield 72, 3) := by decide +kernel
theorem dX5_forgets_55 : decode cX5_forgets 55 = .ok (.ishl, 1) := by decide +kernel
theorem dX5_forgets_56 : decode cX5_forgets 56 = .ok (.if_icmp .ge 57, 3) := by decide +kernel
theorem dX5_forgets_59 : decode cX5_forgets 59 = .ok (.iload 6, 2) := by decide +kernel
theorem dX5_forgets_61 : decode cX5_forgets 61 = .ok (.invokestatic 161, 3) := by decide +kernel
theorem dX5_forgets_64 : decode cX5_forgets 64 = .ok (.istore 7, 2) := by decide +kernel
theorem dX5_forgets_66 : decode cX5_forgets 66 = .ok (.iload 5, 2) := by decide +kernel
theorem dX5_forgets_68 : decode cX5_forgets 68 = .ok (.aload_n 0, 1) := by decide +kernel
theorem dX5_forgets_69 : decode cX5_forgets 69 = .ok (.iload_n 1, 1) := by decide +kernel
theorem dX5_forgets_70 : decode cX5_forgets 70 = .ok (.iload 6, 2) := by decide +kernel
theorem dX5_forgets_72 : decode cX5_forgets 72 = .ok (.invokevirtual 235, 3) := by decide +kernel
theorem dX5_forgets_75 : decode cX5_forgets 75 = .ok (.iload_n 2, 1) := by decide +kernel
theorem dX5_forgets_76 : decode cX5_forgets 76 = .ok (.if_icmp .lt 27, 3) := by decide +kernel
theorem dX5_forgets_79 : decode cX5_forgets 79 = .ok (.iload_n 3, 1) := by decide +kernel
theorem dX5_forgets_80 : decode cX5_forgets 80 = .ok (.iload 7, 2) := by decide +kernel
theorem dX5_forgets_82 : decode cX5_forgets 82 = .ok (.invokestatic 189, 3) := by decide +kernel
theorem dX5_forgets_85 : decode cX5_forgets 85 = .ok (.bipush 10, 2) := by decide +kernel
theorem dX5_forgets_87 : decode cX5_forgets 87 = .ok (.iload_n 3, 1) := by decide +kernel
theorem dX5_forgets_88 : decode cX5_forgets 88 = .ok (.isub, 1) := by decide +kernel
theorem dX5_forgets_89 : decode cX5_forgets 89 = .ok (.aload_n 0, 1) := by decide +kernel
theorem dX5_forgets_90 : decode cX5_forgets 90 = .ok (.getfield 72, 3) := by decide +kernel
theorem dX5_forgets_93 : decode cX5_forgets 93 = .ok (.iload 7, 2) := by decide +kernel
theorem dX5_forgets_95 : decode cX5_forgets 95 = .ok (.isub, 1) := by decide +kernel
theorem dX5_forgets_96 : decode cX5_forgets 96 = .ok (.invokestatic 189, 3) := by decide +kernel
theorem dX5_forgets_99 : decode cX5_forgets 99 = .ok (.imul, 1) := by decide +kernel
theorem dX5_forgets_100 : decode cX5_forgets 100 = .ok (.goto 4, 3) := by decide +kernel
theorem dX5_forgets_103 : decode cX5_forgets 103 = .ok (.iconst 0, 1) := by decide +kernel
theorem dX5_forgets_104 : decode cX5_forgets 104 = .ok (.iadd, 1) := by decide +kernel
theorem dX5_forgets_105 : decode cX5_forgets 105 = .ok (.istore 5, 2) := by decide +kernel
theorem dX5_forgets_107 : decode cX5_forgets 107 = .ok (.iinc 6 1, 3) := by decide +kernel
theorem dX5_forgets_110 : decode cX5_forgets 110 = .ok (.goto (-62), 3) := by decide +kernel
theorem dX5_forgets_113 : decode cX5_forgets 113 = .ok (.iload 5, 2) := by decide +kernel
theorem dX5_forgets_115 : decode cX5_forgets 115 = .ok (.bipush 10, 2) := by decide +kernel
theorem dX5_forgets_117 : decode cX5_forgets 117 = .ok (.aload_n 0, 1) := by decide +kernel
theorem dX5_forgets_118 : decode cX5_forgets 118 = .ok (.getfield 72, 3) := by decide +kernel
theorem dX5_forgets_121 : decode cX5_forgets 121 = .ok (.invokestatic 189, 3) := by decide +kernel
theorem dX5_forgets_124 : decode cX5_forgets 124 = .ok (.iload 4, 2) := by decide +kernel
theorem dX5_forgets_126 : decode cX5_forgets 126 = .ok (.invokestatic 204, 3) := by decide +kernel
theorem dX5_forgets_129 : decode cX5_forgets 129 = .ok (.ireturn, 1) := by decide +kernel
theorem dX5_seed_0 : decode cX5_seed 0 = .ok (.aload_n 0, 1) := by decide +kernel
theorem dX5_seed_1 : decode cX5_seed 1 = .ok (.iconst 0, 1) := by decide +kernel
theorem dX5_seed_2 : decode cX5_seed 2 = .ok (.putfield 68, 3) := by decide +kernel
theorem dX5_seed_5 : decode cX5_seed 5 = .ok (.aload_n 0, 1) := by decide +kernel
theorem dX5_seed_6 : decode cX5_seed 6 = .ok (.getfield 238, 3) := by decide +kernel
theorem dX5_seed_9 : decode cX5_seed 9 = .ok (.lstore_n 3, 1) := by decide +kernel
theorem dX5_seed_10 : decode cX5_seed 10 = .ok (.aload_n 0, 1) := by decide +kernel
theorem dX5_seed_11 : decode cX5_seed 11 = .ok (.lload_n 1, 1) := by decide +kernel
theorem dX5_seed_12 : decode cX5_seed 12 = .ok (.putfield 238, 3) := by decide +kernel
theorem dX5_seed_15 : decode cX5_seed 15 = .ok (.lload_n 3, 1) := by decide +kernel
theorem dX5_seed_16 : decode cX5_seed 16 = .ok (.lreturn, 1) := by decide +kernel
theorem dX5_years_0 : decode cX5_years 0 = .ok (.aload_n 0, 1) := by decide +kernel
theorem dX5_years_1 : decode cX5_years 1 = .ok (.iconst 0, 1) := by decide +kernel
theorem dX5_years_2 : decode cX5_years 2 = .ok (.putfield 68, 3) := by decide +kernel
theorem dX5_years_5 : decode cX5_years 5 = .ok (.iload_n 1, 1) := by decide +kernel
theorem dX5_years_6 : decode cX5_years 6 = .ok (.i2l, 1) := by decide +kernel
theorem dX5_years_7 : decode cX5_years 7 = .ok (.lconst 1, 1) := by decide +kernel
theorem dX5_years_8 : decode cX5_years 8 = .ok (.ldc2_w 242, 3) := by decide +kernel
theorem dX5_years_11 : decode cX5_years 11 = .ok (.invokestatic 75, 3) := by decide +kernel
theorem dX5_years_14 : decode cX5_years 14 = .ok (.ifCond .ne 6, 3) := by decide +kernel
theorem dX5_years_17 : decode cX5_years 17 = .ok (.bipush (-2), 2) := by decide +kernel
theorem dX5_years_19 : decode cX5_years 19 = .ok (.ireturn, 1) := by decide +kernel
theorem dX5_years_20 : decode cX5_years 20 = .ok (.aload_n 0, 1) := by decide +kernel
theorem dX5_years_21 : decode cX5_years 21 = .ok (.invokevirtual 175, 3) := by decide +kernel
theorem dX5_years_24 : decode cX5_years 24 = .ok (.iconst 0, 1) := by decide +kernel
theorem dX5_years_25 : decode cX5_years 25 = .ok (.istore_n 2, 1) := by decide +kernel
theorem dX5_years_26 : decode cX5_years 26 = .ok (.iload_n 2, 1) := by decide +kernel
theorem dX5_years_27 : decode cX5_years 27 = .ok (.iload_n 1, 1) := by decide +kernel
theorem dX5_years_28 : decode cX5_years 28 = .ok (.if_icmp .ge 129, 3) := by decide +kernel
theorem dX5_years_31 : decode cX5_years 31 = .ok (.aload_n 0, 1) := by decide +kernel
theorem dX5_years_32 : decode cX5_years 32 = .ok (.aload_n 0, 1) := by decide +kernel
theorem dX5_years_33 : decode cX5_years 33 = .ok (.getfield 238, 3) := by decide +kernel
theorem dX5_years_36 : decode cX5_years 36 = .ok (.ldc2_w 244, 3) := by decide +kernel
theorem dX5_years_39 : decode cX5_years 39 = .ok (.lmul, 1) := by decide +kernel
theorem dX5_years_40 : decode cX5_years 40 = .ok (.ldc2_w 246, 3) := by decide +kernel
theorem dX5_years_43 : decode cX5_years 43 = .ok (.ladd, 1) := by decide +kernel
theorem dX5_years_44 : decode cX5_years 44 = .ok (.putfield 238, 3) := by decide +kernel
theorem dX5_years_47 : decode cX5_years 47 = .ok (.aload_n 0, 1) := by decide +kernel
theorem dX5_years_48 : decode cX5_years 48 = .ok (.getfield 238, 3) := by decide +kernel
theorem dX5_years_51 : decode cX5_years 51 = .ok (.bipush 33, 2) := by decide +kernel
theorem dX5_years_53 : decode cX5_years 53 = .ok (.lushr, 1) := by decide +kernel
theorem dX5_years_54 : decode cX5_years 54 = .ok (.ldc2_w 248, 3) := by decide +kernel
theorem dX5_years_57 : decode cX5_years 57 = .ok (.lrem, 1) := by decide +kernel
theorem dX5_years_58 : decode cX5_years 58 = .ok (.l2i, 1) := by decide +kernel
theorem dX5_years_59 : decode cX5_years 59 = .ok (.istore_n 3, 1) := by decide +kernel
theorem dX5_years_60 : decode cX5_years 60 = .ok (.iload_n 3, 1) := by decide +kernel
theorem dX5_years_61 : decode cX5_years 61 = .ok (.bipush 10, 2) := by decide +kernel
theorem dX5_years_63 : decode cX5_years 63 = .ok (.if_icmp .ge 52, 3) := by decide +kernel
theorem dX5_years_66 : decode cX5_years 66 = .ok (.aload_n 0, 1) := by decide +kernel
theorem dX5_years_67 : decode cX5_years 67 = .ok (.iload_n 3, 1) := by decide +kernel
theorem dX5_years_68 : decode cX5_years 68 = .ok (.iconst 2, 1) := by decide +kernel
theorem dX5_years_69 : decode cX5_years 69 = .ok (.idiv, 1) := by decide +kernel
theorem dX5_years_70 : decode cX5_years 70 = .ok (.invokevirtual 151, 3) := by decide +kernel
theorem dX5_years_73 : decode cX5_years 73 = .ok (.ifCond .ne 42, 3) := by decide +kernel
theorem dX5_years_76 : decode cX5_years 76 = .ok (.aload_n 0, 1) := by decide +kernel
theorem dX5_years_77 : decode cX5_years 77 = .ok (.getfield 34, 3) := by decide +kernel
theorem dX5_years_80 : decode cX5_years 80 = .ok (.iload_n 3, 1) := by decide +kernel
theorem dX5_years_81 : decode cX5_years 81 = .ok (.iconst 2, 1) := by decide +kernel
theorem dX5_years_82 : decode cX5_years 82 = .ok (.idiv, 1) := by decide +kernel
theorem dX5_years_83 : decode cX5_years 83 = .ok (.iload_n 3, 1) := by decide +kernel
theorem dX5_years_84 : decode cX5_years 84 = .ok (.iconst 2, 1) := by decide +kernel
theorem dX5_years_85 : decode cX5_years 85 = .ok (.irem, 1) := by decide +kernel
theorem dX5_years_86 : decode cX5_years 86 = .ok (.invokestatic 119, 3) := by decide +kernel
theorem dX5_years_89 : decode cX5_years 89 = .ok (.bipush (-9), 2) := by decide +kernel
theorem dX5_years_91 : decode cX5_years 91 = .ok (.if_icmp .eq 24, 3) := by decide +kernel
theorem dX5_years_94 : decode cX5_years 94 = .ok (.aload_n 0, 1) := by decide +kernel
theorem dX5_years_95 : decode cX5_years 95 = .ok (.aload_n 0, 1) := by decide +kernel
theorem dX5_years_96 : decode cX5_years 96 = .ok (.getfield 34, 3) := by decide +kernel
theorem dX5_years_99 : decode cX5_years 99 = .ok (.iload_n 3, 1) := by decide +kernel
theorem dX5_years_100 : decode cX5_years 100 = .ok (.iconst 2, 1) := by decide +kernel
theorem dX5_years_101 : decode cX5_years 101 = .ok (.idiv, 1) := by decide +kernel
theorem dX5_years_102 : decode cX5_years 102 = .ok (.iload_n 3, 1) := by decide +kernel
theorem dX5_years_103 : decode cX5_years 103 = .ok (.iconst 2, 1) := by decide +kernel
theorem dX5_years_104 : decode cX5_years 104 = .ok (.irem, 1) := by decide +kernel
theorem dX5_years_105 : decode cX5_years 105 = .ok (.invokevirtual 164, 3) := by decide +kernel
theorem dX5_years_108 : decode cX5_years 108 = .ok (.ifCond .ne 7, 3) := by decide +kernel
theorem dX5_years_111 : decode cX5_years 111 = .ok (.iconst 1, 1) := by decide +kernel
theorem dX5_years_112 : decode cX5_years 112 = .ok (.goto 4, 3) := by decide +kernel
theorem dX5_years_115 : decode cX5_years 115 = .ok (.iconst 0, 1) := by decide +kernel
theorem dX5_years_116 : decode cX5_years 116 = .ok (.istore 4, 2) := by decide +kernel
theorem dX5_years_118 : decode cX5_years 118 = .ok (.iload 4, 2) := by decide +kernel
theorem dX5_years_120 : decode cX5_years 120 = .ok (.ifCond .eq 20, 3) := by decide +kernel
theorem dX5_years_123 : decode cX5_years 123 = .ok (.aload_n 0, 1) := by decide +kernel
theorem dX5_years_124 : decode cX5_years 124 = .ok (.aload_n 0, 1) := by decide +kernel
theorem dX5_years_125 : decode cX5_years 125 = .ok (.getfield 34, 3) := by decide +kernel
theorem dX5_years_128 : decode cX5_years 128 = .ok (.iload_n 3, 1) := by decide +kernel
theorem dX5_years_129 : decode cX5_years 129 = .ok (.iconst 2, 1) := by decide +kernel
theorem dX5_years_130 : decode cX5_years 130 = .ok (.idiv, 1) := by decide +kernel
theorem dX5_years_131 : decode cX5_years 131 = .ok (.iload_n 3, 1) := by decide +kernel
theorem dX5_years_132 : decode cX5_years 132 = .ok (.iconst 2, 1) := by decide +kernel
theorem dX5_years_133 : decode cX5_years 133 = .ok (.irem, 1) := by decide +kernel
theorem dX5_years_134 : decode cX5_years 134 = .ok (.invokevirtual 171, 3) := by decide +kernel
theorem dX5_years_137 : decode cX5_years 137 = .ok (.goto 14, 3) := by decide +kernel
theorem dX5_years_140 : decode cX5_years 140 = .ok (.aload_n 0, 1) := by decide +kernel
theorem dX5_years_141 : decode cX5_years 141 = .ok (.getfield 34, 3) := by decide +kernel
theorem dX5_years_144 : decode cX5_years 144 = .ok (.bipush 15, 2) := by decide +kernel
theorem dX5_years_146 : decode cX5_years 146 = .ok (.dup2, 1) := by decide +kernel
theorem dX5_years_147 : decode cX5_years 147 = .ok (.iaload, 1) := by decide +kernel
theorem dX5_years_148 : decode cX5_years 148 = .ok (.iconst 1, 1) := by decide +kernel
theorem dX5_years_149 : decode cX5_years 149 = .ok (.iadd, 1) := by decide +kernel
theorem dX5_years_150 : decode cX5_years 150 = .ok (.iastore, 1) := by decide +kernel
theorem dX5_years_151 : decode cX5_years 151 = .ok (.iinc 2 1, 3) := by decide +kernel
theorem dX5_years_154 : decode cX5_years 154 = .ok (.goto (-128), 3) := by decide +kernel
theorem dX5_years_157 : decode cX5_years 157 = .ok (.aload_n 0, 1) := by decide +kernel
theorem dX5_years_158 : decode cX5_years 158 = .ok (.getfield 34, 3) := by decide +kernel
theorem dX5_years_161 : decode cX5_years 161 = .ok (.bipush 16, 2) := by decide +kernel
theorem dX5_years_163 : decode cX5_years 163 = .ok (.iaload, 1) := by decide +kernel
theorem dX5_years_164 : decode cX5_years 164 = .ok (.aload_n 0, 1) := by decide +kernel
theorem dX5_years_165 : decode cX5_years 165 = .ok (.getfield 31, 3) := by decide +kernel
theorem dX5_years_168 : decode cX5_years 168 = .ok (.bipush 16, 2) := by decide +kernel
theorem dX5_years_170 : decode cX5_years 170 = .ok (.iaload, 1) := by decide +kernel
theorem dX5_years_171 : decode cX5_years 171 = .ok (.isub, 1) := by decide +kernel
theorem dX5_years_172 : decode cX5_years 172 = .ok (.ireturn, 1) := by decide +kernel
theorem dX5_keep_0 : decode cX5_keep 0 = .ok (.aload_n 0, 1) := by decide +kernel
theorem dX5_keep_1 : decode cX5_keep 1 = .ok (.iconst 0, 1) := by decide +kernel
theorem dX5_keep_2 : decode cX5_keep 2 = .ok (.putfield 68, 3) := by decide +kernel
theorem dX5_keep_5 : decode cX5_keep 5 = .ok (.iload_n 1, 1) := by decide +kernel
theorem dX5_keep_6 : decode cX5_keep 6 = .ok (.i2l, 1) := by decide +kernel
theorem dX5_keep_7 : decode cX5_keep 7 = .ok (.lconst 0, 1) := by decide +kernel
theorem dX5_keep_8 : decode cX5_keep 8 = .ok (.lconst 1, 1) := by decide +kernel
theorem dX5_keep_9 : decode cX5_keep 9 = .ok (.invokestatic 75, 3) := by decide +kernel
theorem dX5_keep_12 : decode cX5_keep 12 = .ok (.ifCond .ne 5, 3) := by decide +kernel
theorem dX5_keep_15 : decode cX5_keep 15 = .ok (.iconst (-1), 1) := by decide +kernel
theorem dX5_keep_16 : decode cX5_keep 16 = .ok (.ireturn, 1) := by decide +kernel
theorem dX5_keep_17 : decode cX5_keep 17 = .ok (.aload_n 0, 1) := by decide +kernel
theorem dX5_keep_18 : decode cX5_keep 18 = .ok (.getfield 43, 3) := by decide +kernel
theorem dX5_keep_21 : decode cX5_keep 21 = .ok (.iload_n 1, 1) := by decide +kernel
theorem dX5_keep_22 : decode cX5_keep 22 = .ok (.iconst 1, 1) := by decide +kernel
theorem dX5_keep_23 : decode cX5_keep 23 = .ok (.bastore, 1) := by decide +kernel
theorem dX5_keep_24 : decode cX5_keep 24 = .ok (.iconst 0, 1) := by decide +kernel
theorem dX5_keep_25 : decode cX5_keep 25 = .ok (.istore_n 2, 1) := by decide +kernel
theorem dX5_keep_26 : decode cX5_keep 26 = .ok (.iload_n 2, 1) := by decide +kernel
theorem dX5_keep_27 : decode cX5_keep 27 = .ok (.bipush 17, 2) := by decide +kernel
theorem dX5_keep_29 : decode cX5_keep 29 = .ok (.if_icmp .ge 26, 3) := by decide +kernel
theorem dX5_keep_32 : decode cX5_keep 32 = .ok (.aload_n 0, 1) := by decide +kernel
theorem dX5_keep_33 : decode cX5_keep 33 = .ok (.getfield 40, 3) := by decide +kernel
theorem dX5_keep_36 : decode cX5_keep 36 = .ok (.bipush 17, 2) := by decide +kernel
theorem dX5_keep_38 : decode cX5_keep 38 = .ok (.iload_n 1, 1) := by decide +kernel
theorem dX5_keep_39 : decode cX5_keep 39 = .ok (.imul, 1) := by decide +kernel
theorem dX5_keep_40 : decode cX5_keep 40 = .ok (.iload_n 2, 1) := by decide +kernel
theorem dX5_keep_41 : decode cX5_keep 41 = .ok (.iadd, 1) := by decide +kernel
theorem dX5_keep_42 : decode cX5_keep 42 = .ok (.aload_n 0, 1) := by decide +kernel
theorem dX5_keep_43 : decode cX5_keep 43 = .ok (.getfield 31, 3) := by decide +kernel
theorem dX5_keep_46 : decode cX5_keep 46 = .ok (.iload_n 2, 1) := by decide +kernel
theorem dX5_keep_47 : decode cX5_keep 47 = .ok (.iaload, 1) := by decide +kernel
theorem dX5_keep_48 : decode cX5_keep 48 = .ok (.iastore, 1) := by decide +kernel
theorem dX5_keep_49 : decode cX5_keep 49 = .ok (.iinc 2 1, 3) := by decide +kernel
theorem dX5_keep_52 : decode cX5_keep 52 = .ok (.goto (-26), 3) := by decide +kernel
theorem dX5_keep_55 : decode cX5_keep 55 = .ok (.aload_n 0, 1) := by decide +kernel
theorem dX5_keep_56 : decode cX5_keep 56 = .ok (.getfield 31, 3) := by decide +kernel
theorem dX5_keep_59 : decode cX5_keep 59 = .ok (.bipush 15, 2) := by decide +kernel
theorem dX5_keep_61 : decode cX5_keep 61 = .ok (.iaload, 1) := by decide +kernel
theorem dX5_keep_62 : decode cX5_keep 62 = .ok (.ireturn, 1) := by decide +kernel
theorem dX5_again_0 : decode cX5_again 0 = .ok (.aload_n 0, 1) := by decide +kernel
theorem dX5_again_1 : decode cX5_again 1 = .ok (.iconst 0, 1) := by decide +kernel
theorem dX5_again_2 : decode cX5_again 2 = .ok (.putfield 68, 3) := by decide +kernel
theorem dX5_again_5 : decode cX5_again 5 = .ok (.iload_n 1, 1) := by decide +kernel
theorem dX5_again_6 : decode cX5_again 6 = .ok (.i2l, 1) := by decide +kernel
theorem dX5_again_7 : decode cX5_again 7 = .ok (.lconst 0, 1) := by decide +kernel
theorem dX5_again_8 : decode cX5_again 8 = .ok (.lconst 1, 1) := by decide +kernel
theorem dX5_again_9 : decode cX5_again 9 = .ok (.invokestatic 75, 3) := by decide +kernel
theorem dX5_again_12 : decode cX5_again 12 = .ok (.ifCond .ne 5, 3) := by decide +kernel
theorem dX5_again_15 : decode cX5_again 15 = .ok (.iconst (-1), 1) := by decide +kernel
theorem dX5_again_16 : decode cX5_again 16 = .ok (.ireturn, 1) := by decide +kernel
theorem dX5_again_17 : decode cX5_again 17 = .ok (.aload_n 0, 1) := by decide +kernel
theorem dX5_again_18 : decode cX5_again 18 = .ok (.getfield 43, 3) := by decide +kernel
theorem dX5_again_21 : decode cX5_again 21 = .ok (.iload_n 1, 1) := by decide +kernel
theorem dX5_again_22 : decode cX5_again 22 = .ok (.baload, 1) := by decide +kernel
theorem dX5_again_23 : decode cX5_again 23 = .ok (.ifCond .ne 6, 3) := by decide +kernel
theorem dX5_again_26 : decode cX5_again 26 = .ok (.bipush (-3), 2) := by decide +kernel
theorem dX5_again_28 : decode cX5_again 28 = .ok (.ireturn, 1) := by decide +kernel
theorem dX5_again_29 : decode cX5_again 29 = .ok (.iconst 0, 1) := by decide +kernel
theorem dX5_again_30 : decode cX5_again 30 = .ok (.istore_n 2, 1) := by decide +kernel
theorem dX5_again_31 : decode cX5_again 31 = .ok (.iload_n 2, 1) := by decide +kernel
theorem dX5_again_32 : decode cX5_again 32 = .ok (.bipush 17, 2) := by decide +kernel
theorem dX5_again_34 : decode cX5_again 34 = .ok (.if_icmp .ge 26, 3) := by decide +kernel
theorem dX5_again_37 : decode cX5_again 37 = .ok (.aload_n 0, 1) := by decide +kernel
theorem dX5_again_38 : decode cX5_again 38 = .ok (.getfield 31, 3) := by decide +kernel
theorem dX5_again_41 : decode cX5_again 41 = .ok (.iload_n 2, 1) := by decide +kernel
theorem dX5_again_42 : decode cX5_again 42 = .ok (.aload_n 0, 1) := by decide +kernel
theorem dX5_again_43 : decode cX5_again 43 = .ok (.getfield 40, 3) := by decide +kernel
theorem dX5_again_46 : decode cX5_again 46 = .ok (.bipush 17, 2) := by decide +kernel
theorem dX5_again_48 : decode cX5_again 48 = .ok (.iload_n 1, 1) := by decide +kernel
theorem dX5_again_49 : decode cX5_again 49 = .ok (.imul, 1) := by decide +kernel
theorem dX5_again_50 : decode cX5_again 50 = .ok (.iload_n 2, 1) := by decide +kernel
theorem dX5_again_51 : decode cX5_again 51 = .ok (.iadd, 1) := by decide +kernel
theorem dX5_again_52 : decode cX5_again 52 = .ok (.iaload, 1) := by decide +kernel
theorem dX5_again_53 : decode cX5_again 53 = .ok (.iastore, 1) := by decide +kernel
theorem dX5_again_54 : decode cX5_again 54 = .ok (.iinc 2 1, 3) := by decide +kernel
theorem dX5_again_57 : decode cX5_again 57 = .ok (.goto (-26), 3) := by decide +kernel
theorem dX5_again_60 : decode cX5_again 60 = .ok (.aload_n 0, 1) := by decide +kernel
theorem dX5_again_61 : decode cX5_again 61 = .ok (.iconst 0, 1) := by decide +kernel
theorem dX5_again_62 : decode cX5_again 62 = .ok (.putfield 114, 3) := by decide +kernel
theorem dX5_again_65 : decode cX5_again 65 = .ok (.aload_n 0, 1) := by decide +kernel
theorem dX5_again_66 : decode cX5_again 66 = .ok (.getfield 31, 3) := by decide +kernel
theorem dX5_again_69 : decode cX5_again 69 = .ok (.bipush 15, 2) := by decide +kernel
theorem dX5_again_71 : decode cX5_again 71 = .ok (.iaload, 1) := by decide +kernel
theorem dX5_again_72 : decode cX5_again 72 = .ok (.ireturn, 1) := by decide +kernel
theorem dJ6_bitCount_0f7a4_0 : decode cJ6_bitCount_0f7a4 0 = .ok (.iload_n 0, 1) := by decide +kernel
theorem dJ6_bitCount_0f7a4_1 : decode cJ6_bitCount_0f7a4 1 = .ok (.iload_n 0, 1) := by decide +kernel
theorem dJ6_bitCount_0f7a4_2 : decode cJ6_bitCount_0f7a4 2 = .ok (.iconst 1, 1) := by decide +kernel
theorem dJ6_bitCount_0f7a4_3 : decode cJ6_bitCount_0f7a4 3 = .ok (.iushr, 1) := by decide +kernel
theorem dJ6_bitCount_0f7a4_4 : decode cJ6_bitCount_0f7a4 4 = .ok (.ldc_w 265, 3) := by decide +kernel
theorem dJ6_bitCount_0f7a4_7 : decode cJ6_bitCount_0f7a4 7 = .ok (.iand, 1) := by decide +kernel
theorem dJ6_bitCount_0f7a4_8 : decode cJ6_bitCount_0f7a4 8 = .ok (.isub, 1) := by decide +kernel
theorem dJ6_bitCount_0f7a4_9 : decode cJ6_bitCount_0f7a4 9 = .ok (.istore_n 0, 1) := by decide +kernel
theorem dJ6_bitCount_0f7a4_10 : decode cJ6_bitCount_0f7a4 10 = .ok (.iload_n 0, 1) := by decide +kernel
theorem dJ6_bitCount_0f7a4_11 : decode cJ6_bitCount_0f7a4 11 = .ok (.ldc_w 266, 3) := by decide +kernel
theorem dJ6_bitCount_0f7a4_14 : decode cJ6_bitCount_0f7a4 14 = .ok (.iand, 1) := by decide +kernel
theorem dJ6_bitCount_0f7a4_15 : decode cJ6_bitCount_0f7a4 15 = .ok (.iload_n 0, 1) := by decide +kernel
theorem dJ6_bitCount_0f7a4_16 : decode cJ6_bitCount_0f7a4 16 = .ok (.iconst 2, 1) := by decide +kernel
theorem dJ6_bitCount_0f7a4_17 : decode cJ6_bitCount_0f7a4 17 = .ok (.iushr, 1) := by decide +kernel
theorem dJ6_bitCount_0f7a4_18 : decode cJ6_bitCount_0f7a4 18 = .ok (.ldc_w 266, 3) := by decide +kernel
theorem dJ6_bitCount_0f7a4_21 : decode cJ6_bitCount_0f7a4 21 = .ok (.iand, 1) := by decide +kernel
theorem dJ6_bitCount_0f7a4_22 : decode cJ6_bitCount_0f7a4 22 = .ok (.iadd, 1) := by decide +kernel
theorem dJ6_bitCount_0f7a4_23 : decode cJ6_bitCount_0f7a4 23 = .ok (.istore_n 0, 1) := by decide +kernel
theorem dJ6_bitCount_0f7a4_24 : decode cJ6_bitCount_0f7a4 24 = .ok (.iload_n 0, 1) := by decide +kernel
theorem dJ6_bitCount_0f7a4_25 : decode cJ6_bitCount_0f7a4 25 = .ok (.iload_n 0, 1) := by decide +kernel
theorem dJ6_bitCount_0f7a4_26 : decode cJ6_bitCount_0f7a4 26 = .ok (.iconst 4, 1) := by decide +kernel
theorem dJ6_bitCount_0f7a4_27 : decode cJ6_bitCount_0f7a4 27 = .ok (.iushr, 1) := by decide +kernel
theorem dJ6_bitCount_0f7a4_28 : decode cJ6_bitCount_0f7a4 28 = .ok (.iadd, 1) := by decide +kernel
theorem dJ6_bitCount_0f7a4_29 : decode cJ6_bitCount_0f7a4 29 = .ok (.ldc_w 267, 3) := by decide +kernel
theorem dJ6_bitCount_0f7a4_32 : decode cJ6_bitCount_0f7a4 32 = .ok (.iand, 1) := by decide +kernel
theorem dJ6_bitCount_0f7a4_33 : decode cJ6_bitCount_0f7a4 33 = .ok (.istore_n 0, 1) := by decide +kernel
theorem dJ6_bitCount_0f7a4_34 : decode cJ6_bitCount_0f7a4 34 = .ok (.iload_n 0, 1) := by decide +kernel
theorem dJ6_bitCount_0f7a4_35 : decode cJ6_bitCount_0f7a4 35 = .ok (.iload_n 0, 1) := by decide +kernel
theorem dJ6_bitCount_0f7a4_36 : decode cJ6_bitCount_0f7a4 36 = .ok (.bipush 8, 2) := by decide +kernel
theorem dJ6_bitCount_0f7a4_38 : decode cJ6_bitCount_0f7a4 38 = .ok (.iushr, 1) := by decide +kernel
theorem dJ6_bitCount_0f7a4_39 : decode cJ6_bitCount_0f7a4 39 = .ok (.iadd, 1) := by decide +kernel
theorem dJ6_bitCount_0f7a4_40 : decode cJ6_bitCount_0f7a4 40 = .ok (.istore_n 0, 1) := by decide +kernel
theorem dJ6_bitCount_0f7a4_41 : decode cJ6_bitCount_0f7a4 41 = .ok (.iload_n 0, 1) := by decide +kernel
theorem dJ6_bitCount_0f7a4_42 : decode cJ6_bitCount_0f7a4 42 = .ok (.iload_n 0, 1) := by decide +kernel
theorem dJ6_bitCount_0f7a4_43 : decode cJ6_bitCount_0f7a4 43 = .ok (.bipush 16, 2) := by decide +kernel
theorem dJ6_bitCount_0f7a4_45 : decode cJ6_bitCount_0f7a4 45 = .ok (.iushr, 1) := by decide +kernel
theorem dJ6_bitCount_0f7a4_46 : decode cJ6_bitCount_0f7a4 46 = .ok (.iadd, 1) := by decide +kernel
theorem dJ6_bitCount_0f7a4_47 : decode cJ6_bitCount_0f7a4 47 = .ok (.istore_n 0, 1) := by decide +kernel
theorem dJ6_bitCount_0f7a4_48 : decode cJ6_bitCount_0f7a4 48 = .ok (.iload_n 0, 1) := by decide +kernel
theorem dJ6_bitCount_0f7a4_49 : decode cJ6_bitCount_0f7a4 49 = .ok (.bipush 63, 2) := by decide +kernel
theorem dJ6_bitCount_0f7a4_51 : decode cJ6_bitCount_0f7a4 51 = .ok (.iand, 1) := by decide +kernel
theorem dJ6_bitCount_0f7a4_52 : decode cJ6_bitCount_0f7a4 52 = .ok (.ireturn, 1) := by decide +kernel
end
section
theorem dL_law_0 : decode cL_law 0 = .ok (.new 7, 3) := by decide +kernel
theorem dL_law_3 : decode cL_law 3 = .ok (.dup, 1) := by decide +kernel
theorem dL_law_4 : decode cL_law 4 = .ok (.invokespecial 9, 3) := by decide +kernel
theorem dL_law_7 : decode cL_law 7 = .ok (.astore_n 1, 1) := by decide +kernel
theorem dL_law_8 : decode cL_law 8 = .ok (.new 10, 3) := by decide +kernel
theorem dL_law_11 : decode cL_law 11 = .ok (.dup, 1) := by decide +kernel
theorem dL_law_12 : decode cL_law 12 = .ok (.invokespecial 12, 3) := by decide +kernel
theorem dL_law_15 : decode cL_law 15 = .ok (.astore_n 2, 1) := by decide +kernel
theorem dL_law_16 : decode cL_law 16 = .ok (.iconst 0, 1) := by decide +kernel
theorem dL_law_17 : decode cL_law 17 = .ok (.istore_n 3, 1) := by decide +kernel
theorem dL_law_18 : decode cL_law 18 = .ok (.iload_n 3, 1) := by decide +kernel
theorem dL_law_19 : decode cL_law 19 = .ok (.aload_n 0, 1) := by decide +kernel
theorem dL_law_20 : decode cL_law 20 = .ok (.arraylength, 1) := by decide +kernel
theorem dL_law_21 : decode cL_law 21 = .ok (.bipush 6, 2) := by decide +kernel
theorem dL_law_23 : decode cL_law 23 = .ok (.isub, 1) := by decide +kernel
theorem dL_law_24 : decode cL_law 24 = .ok (.if_icmp .gt 1059, 3) := by decide +kernel
theorem dL_law_27 : decode cL_law 27 = .ok (.aload_n 0, 1) := by decide +kernel
theorem dL_law_28 : decode cL_law 28 = .ok (.iload_n 3, 1) := by decide +kernel
theorem dL_law_29 : decode cL_law 29 = .ok (.iaload, 1) := by decide +kernel
theorem dL_law_30 : decode cL_law 30 = .ok (.bipush 31, 2) := by decide +kernel
theorem dL_law_32 : decode cL_law 32 = .ok (.iand, 1) := by decide +kernel
theorem dL_law_33 : decode cL_law 33 = .ok (.tableswitch 1044 0 29 #[135, 158, 171, 184, 197, 220, 253, 286, 319, 352, 385, 398, 441, 464, 487, 500, 559, 582, 605, 638, 671, 720, 783, 796, 829, 852, 921, 975, 998, 1021], 135) := by decide +kernel
theorem dL_law_168 : decode cL_law 168 = .ok (.aload_n 1, 1) := by decide +kernel
theorem dL_law_169 : decode cL_law 169 = .ok (.aload_n 0, 1) := by decide +kernel
theorem dL_law_170 : decode cL_law 170 = .ok (.iload_n 3, 1) := by decide +kernel
theorem dL_law_171 : decode cL_law 171 = .ok (.iconst 1, 1) := by decide +kernel
theorem dL_law_172 : decode cL_law 172 = .ok (.iadd, 1) := by decide +kernel
theorem dL_law_173 : decode cL_law 173 = .ok (.iaload, 1) := by decide +kernel
theorem dL_law_174 : decode cL_law 174 = .ok (.invokevirtual 13, 3) := by decide +kernel
theorem dL_law_177 : decode cL_law 177 = .ok (.aload_n 2, 1) := by decide +kernel
theorem dL_law_178 : decode cL_law 178 = .ok (.aload_n 0, 1) := by decide +kernel
theorem dL_law_179 : decode cL_law 179 = .ok (.iload_n 3, 1) := by decide +kernel
theorem dL_law_180 : decode cL_law 180 = .ok (.iconst 1, 1) := by decide +kernel
theorem dL_law_181 : decode cL_law 181 = .ok (.iadd, 1) := by decide +kernel
theorem dL_law_182 : decode cL_law 182 = .ok (.iaload, 1) := by decide +kernel
theorem dL_law_183 : decode cL_law 183 = .ok (.invokevirtual 17, 3) := by decide +kernel
theorem dL_law_186 : decode cL_law 186 = .ok (.if_icmp .eq 891, 3) := by decide +kernel
theorem dL_law_189 : decode cL_law 189 = .ok (.iconst 0, 1) := by decide +kernel
theorem dL_law_190 : decode cL_law 190 = .ok (.ireturn, 1) := by decide +kernel
theorem dL_law_191 : decode cL_law 191 = .ok (.aload_n 1, 1) := by decide +kernel
theorem dL_law_192 : decode cL_law 192 = .ok (.invokevirtual 18, 3) := by decide +kernel
theorem dL_law_195 : decode cL_law 195 = .ok (.aload_n 2, 1) := by decide +kernel
theorem dL_law_196 : decode cL_law 196 = .ok (.invokevirtual 22, 3) := by decide +kernel
theorem dL_law_199 : decode cL_law 199 = .ok (.if_icmp .eq 878, 3) := by decide +kernel
theorem dL_law_202 : decode cL_law 202 = .ok (.iconst 0, 1) := by decide +kernel
theorem dL_law_203 : decode cL_law 203 = .ok (.ireturn, 1) := by decide +kernel
theorem dL_law_204 : decode cL_law 204 = .ok (.aload_n 1, 1) := by decide +kernel
theorem dL_law_205 : decode cL_law 205 = .ok (.invokevirtual 23, 3) := by decide +kernel
theorem dL_law_208 : decode cL_law 208 = .ok (.aload_n 2, 1) := by decide +kernel
theorem dL_law_209 : decode cL_law 209 = .ok (.invokevirtual 26, 3) := by decide +kernel
theorem dL_law_212 : decode cL_law 212 = .ok (.if_icmp .eq 865, 3) := by decide +kernel
theorem dL_law_215 : decode cL_law 215 = .ok (.iconst 0, 1) := by decide +kernel
theorem dL_law_216 : decode cL_law 216 = .ok (.ireturn, 1) := by decide +kernel
theorem dL_law_217 : decode cL_law 217 = .ok (.aload_n 1, 1) := by decide +kernel
theorem dL_law_218 : decode cL_law 218 = .ok (.invokevirtual 27, 3) := by decide +kernel
theorem dL_law_221 : decode cL_law 221 = .ok (.aload_n 2, 1) := by decide +kernel
theorem dL_law_222 : decode cL_law 222 = .ok (.invokevirtual 30, 3) := by decide +kernel
theorem dL_law_225 : decode cL_law 225 = .ok (.if_icmp .eq 852, 3) := by decide +kernel
theorem dL_law_228 : decode cL_law 228 = .ok (.iconst 0, 1) := by decide +kernel
theorem dL_law_229 : decode cL_law 229 = .ok (.ireturn, 1) := by decide +kernel
theorem dL_law_230 : decode cL_law 230 = .ok (.aload_n 1, 1) := by decide +kernel
theorem dL_law_231 : decode cL_law 231 = .ok (.aload_n 0, 1) := by decide +kernel
theorem dL_law_232 : decode cL_law 232 = .ok (.iload_n 3, 1) := by decide +kernel
theorem dL_law_233 : decode cL_law 233 = .ok (.iconst 1, 1) := by decide +kernel
theorem dL_law_234 : decode cL_law 234 = .ok (.iadd, 1) := by decide +kernel
theorem dL_law_235 : decode cL_law 235 = .ok (.iaload, 1) := by decide +kernel
theorem dL_law_236 : decode cL_law 236 = .ok (.invokevirtual 31, 3) := by decide +kernel
theorem dL_law_239 : decode cL_law 239 = .ok (.aload_n 2, 1) := by decide +kernel
theorem dL_law_240 : decode cL_law 240 = .ok (.aload_n 0, 1) := by decide +kernel
theorem dL_law_241 : decode cL_law 241 = .ok (.iload_n 3, 1) := by decide +kernel
theorem dL_law_242 : decode cL_law 242 = .ok (.iconst 1, 1) := by decide +kernel
theorem dL_law_243 : decode cL_law 243 = .ok (.iadd, 1) := by decide +kernel
theorem dL_law_244 : decode cL_law 244 = .ok (.iaload, 1) := by decide +kernel
theorem dL_law_245 : decode cL_law 245 = .ok (.invokevirtual 34, 3) := by decide +kernel
theorem dL_law_248 : decode cL_law 248 = .ok (.if_icmp .eq 829, 3) := by decide +kernel
theorem dL_law_251 : decode cL_law 251 = .ok (.iconst 0, 1) := by decide +kernel
theorem dL_law_252 : decode cL_law 252 = .ok (.ireturn, 1) := by decide +kernel
theorem dL_law_253 : decode cL_law 253 = .ok (.aload_n 1, 1) := by decide +kernel
theorem dL_law_254 : decode cL_law 254 = .ok (.aload_n 0, 1) := by decide +kernel
theorem dL_law_255 : decode cL_law 255 = .ok (.iload_n 3, 1) := by decide +kernel
theorem dL_law_256 : decode cL_law 256 = .ok (.iconst 1, 1) := by decide +kernel
theorem dL_law_257 : decode cL_law 257 = .ok (.iadd, 1) := by decide +kernel
theorem dL_law_258 : decode cL_law 258 = .ok (.iaload, 1) := by decide +kernel
theorem dL_law_259 : decode cL_law 259 = .ok (.aload_n 0, 1) := by decide +kernel
theorem dL_law_260 : decode cL_law 260 = .ok (.iload_n 3, 1) := by decide +kernel
theorem dL_law_261 : decode cL_law 261 = .ok (.iconst 2, 1) := by decide +kernel
theorem dL_law_262 : decode cL_law 262 = .ok (.iadd, 1) := by decide +kernel
theorem dL_law_263 : decode cL_law 263 = .ok (.iaload, 1) := by decide +kernel
theorem dL_law_264 : decode cL_law 264 = .ok (.invokevirtual 35, 3) := by decide +kernel
theorem dL_law_267 : decode cL_law 267 = .ok (.aload_n 2, 1) := by decide +kernel
theorem dL_law_268 : decode cL_law 268 = .ok (.aload_n 0, 1) := by decide +kernel
theorem dL_law_269 : decode cL_law 269 = .ok (.iload_n 3, 1) := by decide +kernel
theorem dL_law_270 : decode cL_law 270 = .ok (.iconst 1, 1) := by decide +kernel
theorem dL_law_271 : decode cL_law 271 = .ok (.iadd, 1) := by decide +kernel
theorem dL_law_272 : decode cL_law 272 = .ok (.iaload, 1) := by decide +kernel
theorem dL_law_273 : decode cL_law 273 = .ok (.aload_n 0, 1) := by decide +kernel
theorem dL_law_274 : decode cL_law 274 = .ok (.iload_n 3, 1) := by decide +kernel
theorem dL_law_275 : decode cL_law 275 = .ok (.iconst 2, 1) := by decide +kernel
theorem dL_law_276 : decode cL_law 276 = .ok (.iadd, 1) := by decide +kernel
theorem dL_law_277 : decode cL_law 277 = .ok (.iaload, 1) := by decide +kernel
theorem dL_law_278 : decode cL_law 278 = .ok (.invokevirtual 39, 3) := by decide +kernel
theorem dL_law_281 : decode cL_law 281 = .ok (.if_icmp .eq 796, 3) := by decide +kernel
theorem dL_law_284 : decode cL_law 284 = .ok (.iconst 0, 1) := by decide +kernel
theorem dL_law_285 : decode cL_law 285 = .ok (.ireturn, 1) := by decide +kernel
theorem dL_law_286 : decode cL_law 286 = .ok (.aload_n 1, 1) := by decide +kernel
theorem dL_law_287 : decode cL_law 287 = .ok (.aload_n 0, 1) := by decide +kernel
theorem dL_law_288 : decode cL_law 288 = .ok (.iload_n 3, 1) := by decide +kernel
theorem dL_law_289 : decode cL_law 289 = .ok (.iconst 1, 1) := by decide +kernel
theorem dL_law_290 : decode cL_law 290 = .ok (.iadd, 1) := by decide +kernel
theorem dL_law_291 : decode cL_law 291 = .ok (.iaload, 1) := by decide +kernel
theorem dL_law_292 : decode cL_law 292 = .ok (.aload_n 0, 1) := by decide +kernel
theorem dL_law_293 : decode cL_law 293 = .ok (.iload_n 3, 1) := by decide +kernel
theorem dL_law_294 : decode cL_law 294 = .ok (.iconst 2, 1) := by decide +kernel
theorem dL_law_295 : decode cL_law 295 = .ok (.iadd, 1) := by decide +kernel
theorem dL_law_296 : decode cL_law 296 = .ok (.iaload, 1) := by decide +kernel
theorem dL_law_297 : decode cL_law 297 = .ok (.invokevirtual 40, 3) := by decide +kernel
theorem dL_law_300 : decode cL_law 300 = .ok (.aload_n 2, 1) := by decide +kernel
theorem dL_law_301 : decode cL_law 301 = .ok (.aload_n 0, 1) := by decide +kernel
theorem dL_law_302 : decode cL_law 302 = .ok (.iload_n 3, 1) := by decide +kernel
theorem dL_law_303 : decode cL_law 303 = .ok (.iconst 1, 1) := by decide +kernel
theorem dL_law_304 : decode cL_law 304 = .ok (.iadd, 1) := by decide +kernel
theorem dL_law_305 : decode cL_law 305 = .ok (.iaload, 1) := by decide +kernel
theorem dL_law_306 : decode cL_law 306 = .ok (.aload_n 0, 1) := by decide +kernel
theorem dL_law_307 : decode cL_law 307 = .ok (.iload_n 3, 1) := by decide +kernel
theorem dL_law_308 : decode cL_law 308 = .ok (.iconst 2, 1) := by decide +kernel
theorem dL_law_309 : decode cL_law 309 = .ok (.iadd, 1) := by decide +kernel
theorem dL_law_310 : decode cL_law 310 = .ok (.iaload, 1) := by decide +kernel
theorem dL_law_311 : decode cL_law 311 = .ok (.invokevirtual 43, 3) := by decide +kernel
theorem dL_law_314 : decode cL_law 314 = .ok (.if_icmp .eq 763, 3) := by decide +kernel
theorem dL_law_317 : decode cL_law 317 = .ok (.iconst 0, 1) := by decide +kernel
theorem dL_law_318 : decode cL_law 318 = .ok (.ireturn, 1) := by decide +kernel
theorem dL_law_319 : decode cL_law 319 = .ok (.aload_n 1, 1) := by decide +kernel
theorem dL_law_320 : decode cL_law 320 = .ok (.aload_n 0, 1) := by decide +kernel
theorem dL_law_321 : decode cL_law 321 = .ok (.iload_n 3, 1) := by decide +kernel
theorem dL_law_322 : decode cL_law 322 = .ok (.iconst 1, 1) := by decide +kernel
theorem dL_law_323 : decode cL_law 323 = .ok (.iadd, 1) := by decide +kernel
theorem dL_law_324 : decode cL_law 324 = .ok (.iaload, 1) := by decide +kernel
theorem dL_law_325 : decode cL_law 325 = .ok (.aload_n 0, 1) := by decide +kernel
theorem dL_law_326 : decode cL_law 326 = .ok (.iload_n 3, 1) := by decide +kernel
theorem dL_law_327 : decode cL_law 327 = .ok (.iconst 2, 1) := by decide +kernel
theorem dL_law_328 : decode cL_law 328 = .ok (.iadd, 1) := by decide +kernel
theorem dL_law_329 : decode cL_law 329 = .ok (.iaload, 1) := by decide +kernel
theorem dL_law_330 : decode cL_law 330 = .ok (.invokevirtual 44, 3) := by decide +kernel
theorem dL_law_333 : decode cL_law 333 = .ok (.aload_n 2, 1) := by decide +kernel
theorem dL_law_334 : decode cL_law 334 = .ok (.aload_n 0, 1) := by decide +kernel
theorem dL_law_335 : decode cL_law 335 = .ok (.iload_n 3, 1) := by decide +kernel
theorem dL_law_336 : decode cL_law 336 = .ok (.iconst 1, 1) := by decide +kernel
theorem dL_law_337 : decode cL_law 337 = .ok (.iadd, 1) := by decide +kernel
theorem dL_law_338 : decode cL_law 338 = .ok (.iaload, 1) := by decide +kernel
theorem dL_law_339 : decode cL_law 339 = .ok (.aload_n 0, 1) := by decide +kernel
theorem dL_law_340 : decode cL_law 340 = .ok (.iload_n 3, 1) := by decide +kernel
theorem dL_law_341 : decode cL_law 341 = .ok (.iconst 2, 1) := by decide +kernel
theorem dL_law_342 : decode cL_law 342 = .ok (.iadd, 1) := by decide +kernel
theorem dL_law_343 : decode cL_law 343 = .ok (.iaload, 1) := by decide +kernel
theorem dL_law_344 : decode cL_law 344 = .ok (.invokevirtual 47, 3) := by decide +kernel
theorem dL_law_347 : decode cL_law 347 = .ok (.if_icmp .eq 730, 3) := by decide +kernel
theorem dL_law_350 : decode cL_law 350 = .ok (.iconst 0, 1) := by decide +kernel
theorem dL_law_351 : decode cL_law 351 = .ok (.ireturn, 1) := by decide +kernel
theorem dL_law_352 : decode cL_law 352 = .ok (.aload_n 1, 1) := by decide +kernel
theorem dL_law_353 : decode cL_law 353 = .ok (.aload_n 0, 1) := by decide +kernel
theorem dL_law_354 : decode cL_law 354 = .ok (.iload_n 3, 1) := by decide +kernel
theorem dL_law_355 : decode cL_law 355 = .ok (.iconst 1, 1) := by decide +kernel
theorem dL_law_356 : decode cL_law 356 = .ok (.iadd, 1) := by decide +kernel
theorem dL_law_357 : decode cL_law 357 = .ok (.iaload, 1) := by decide +kernel
theorem dL_law_358 : decode cL_law 358 = .ok (.aload_n 0, 1) := by decide +kernel
theorem dL_law_359 : decode cL_law 359 = .ok (.iload_n 3, 1) := by decide +kernel
theorem dL_law_360 : decode cL_law 360 = .ok (.iconst 2, 1) := by decide +kernel
theorem dL_law_361 : decode cL_law 361 = .ok (.iadd, 1) := by decide +kernel
theorem dL_law_362 : decode cL_law 362 = .ok (.iaload, 1) := by decide +kernel
theorem dL_law_363 : decode cL_law 363 = .ok (.invokevirtual 48, 3) := by decide +kernel
theorem dL_law_366 : decode cL_law 366 = .ok (.aload_n 2, 1) := by decide +kernel
theorem dL_law_367 : decode cL_law 367 = .ok (.aload_n 0, 1) := by decide +kernel
theorem dL_law_368 : decode cL_law 368 = .ok (.iload_n 3, 1) := by decide +kernel
theorem dL_law_369 : decode cL_law 369 = .ok (.iconst 1, 1) := by decide +kernel
theorem dL_law_370 : decode cL_law 370 = .ok (.iadd, 1) := by decide +kernel
theorem dL_law_371 : decode cL_law 371 = .ok (.iaload, 1) := by decide +kernel
theorem dL_law_372 : decode cL_law 372 = .ok (.aload_n 0, 1) := by decide +kernel
theorem dL_law_373 : decode cL_law 373 = .ok (.iload_n 3, 1) := by decide +kernel
theorem dL_law_374 : decode cL_law 374 = .ok (.iconst 2, 1) := by decide +kernel
theorem dL_law_375 : decode cL_law 375 = .ok (.iadd, 1) := by decide +kernel
theorem dL_law_376 : decode cL_law 376 = .ok (.iaload, 1) := by decide +kernel
theorem dL_law_377 : decode cL_law 377 = .ok (.invokevirtual 51, 3) := by decide +kernel
theorem dL_law_380 : decode cL_law 380 = .ok (.if_icmp .eq 697, 3) := by decide +kernel
theorem dL_law_383 : decode cL_law 383 = .ok (.iconst 0, 1) := by decide +kernel
theorem dL_law_384 : decode cL_law 384 = .ok (.ireturn, 1) := by decide +kernel
theorem dL_law_385 : decode cL_law 385 = .ok (.aload_n 1, 1) := by decide +kernel
theorem dL_law_386 : decode cL_law 386 = .ok (.aload_n 0, 1) := by decide +kernel
theorem dL_law_387 : decode cL_law 387 = .ok (.iload_n 3, 1) := by decide +kernel
theorem dL_law_388 : decode cL_law 388 = .ok (.iconst 1, 1) := by decide +kernel
theorem dL_law_389 : decode cL_law 389 = .ok (.iadd, 1) := by decide +kernel
theorem dL_law_390 : decode cL_law 390 = .ok (.iaload, 1) := by decide +kernel
theorem dL_law_391 : decode cL_law 391 = .ok (.aload_n 0, 1) := by decide +kernel
theorem dL_law_392 : decode cL_law 392 = .ok (.iload_n 3, 1) := by decide +kernel
theorem dL_law_393 : decode cL_law 393 = .ok (.iconst 2, 1) := by decide +kernel
theorem dL_law_394 : decode cL_law 394 = .ok (.iadd, 1) := by decide +kernel
theorem dL_law_395 : decode cL_law 395 = .ok (.iaload, 1) := by decide +kernel
theorem dL_law_396 : decode cL_law 396 = .ok (.invokevirtual 52, 3) := by decide +kernel
theorem dL_law_399 : decode cL_law 399 = .ok (.aload_n 2, 1) := by decide +kernel
theorem dL_law_400 : decode cL_law 400 = .ok (.aload_n 0, 1) := by decide +kernel
theorem dL_law_401 : decode cL_law 401 = .ok (.iload_n 3, 1) := by decide +kernel
theorem dL_law_402 : decode cL_law 402 = .ok (.iconst 1, 1) := by decide +kernel
theorem dL_law_403 : decode cL_law 403 = .ok (.iadd, 1) := by decide +kernel
theorem dL_law_404 : decode cL_law 404 = .ok (.iaload, 1) := by decide +kernel
theorem dL_law_405 : decode cL_law 405 = .ok (.aload_n 0, 1) := by decide +kernel
theorem dL_law_406 : decode cL_law 406 = .ok (.iload_n 3, 1) := by decide +kernel
theorem dL_law_407 : decode cL_law 407 = .ok (.iconst 2, 1) := by decide +kernel
theorem dL_law_408 : decode cL_law 408 = .ok (.iadd, 1) := by decide +kernel
theorem dL_law_409 : decode cL_law 409 = .ok (.iaload, 1) := by decide +kernel
theorem dL_law_410 : decode cL_law 410 = .ok (.invokevirtual 55, 3) := by decide +kernel
theorem dL_law_413 : decode cL_law 413 = .ok (.if_icmp .eq 664, 3) := by decide +kernel
theorem dL_law_416 : decode cL_law 416 = .ok (.iconst 0, 1) := by decide +kernel
theorem dL_law_417 : decode cL_law 417 = .ok (.ireturn, 1) := by decide +kernel
theorem dL_law_418 : decode cL_law 418 = .ok (.aload_n 1, 1) := by decide +kernel
theorem dL_law_419 : decode cL_law 419 = .ok (.invokevirtual 56, 3) := by decide +kernel
theorem dL_law_422 : decode cL_law 422 = .ok (.aload_n 2, 1) := by decide +kernel
theorem dL_law_423 : decode cL_law 423 = .ok (.invokevirtual 59, 3) := by decide +kernel
theorem dL_law_426 : decode cL_law 426 = .ok (.if_icmp .eq 651, 3) := by decide +kernel
theorem dL_law_429 : decode cL_law 429 = .ok (.iconst 0, 1) := by decide +kernel
theorem dL_law_430 : decode cL_law 430 = .ok (.ireturn, 1) := by decide +kernel
theorem dL_law_431 : decode cL_law 431 = .ok (.aload_n 1, 1) := by decide +kernel
theorem dL_law_432 : decode cL_law 432 = .ok (.aload_n 0, 1) := by decide +kernel
theorem dL_law_433 : decode cL_law 433 = .ok (.iload_n 3, 1) := by decide +kernel
theorem dL_law_434 : decode cL_law 434 = .ok (.iconst 1, 1) := by decide +kernel
theorem dL_law_435 : decode cL_law 435 = .ok (.iadd, 1) := by decide +kernel
theorem dL_law_436 : decode cL_law 436 = .ok (.iaload, 1) := by decide +kernel
theorem dL_law_437 : decode cL_law 437 = .ok (.aload_n 0, 1) := by decide +kernel
theorem dL_law_438 : decode cL_law 438 = .ok (.iload_n 3, 1) := by decide +kernel
theorem dL_law_439 : decode cL_law 439 = .ok (.iconst 2, 1) := by decide +kernel
theorem dL_law_440 : decode cL_law 440 = .ok (.iadd, 1) := by decide +kernel
theorem dL_law_441 : decode cL_law 441 = .ok (.iaload, 1) := by decide +kernel
theorem dL_law_442 : decode cL_law 442 = .ok (.aload_n 0, 1) := by decide +kernel
theorem dL_law_443 : decode cL_law 443 = .ok (.iload_n 3, 1) := by decide +kernel
theorem dL_law_444 : decode cL_law 444 = .ok (.iconst 3, 1) := by decide +kernel
theorem dL_law_445 : decode cL_law 445 = .ok (.iadd, 1) := by decide +kernel
theorem dL_law_446 : decode cL_law 446 = .ok (.iaload, 1) := by decide +kernel
theorem dL_law_447 : decode cL_law 447 = .ok (.invokevirtual 60, 3) := by decide +kernel
theorem dL_law_450 : decode cL_law 450 = .ok (.aload_n 2, 1) := by decide +kernel
theorem dL_law_451 : decode cL_law 451 = .ok (.aload_n 0, 1) := by decide +kernel
theorem dL_law_452 : decode cL_law 452 = .ok (.iload_n 3, 1) := by decide +kernel
theorem dL_law_453 : decode cL_law 453 = .ok (.iconst 1, 1) := by decide +kernel
theorem dL_law_454 : decode cL_law 454 = .ok (.iadd, 1) := by decide +kernel
theorem dL_law_455 : decode cL_law 455 = .ok (.iaload, 1) := by decide +kernel
theorem dL_law_456 : decode cL_law 456 = .ok (.aload_n 0, 1) := by decide +kernel
theorem dL_law_457 : decode cL_law 457 = .ok (.iload_n 3, 1) := by decide +kernel
theorem dL_law_458 : decode cL_law 458 = .ok (.iconst 2, 1) := by decide +kernel
theorem dL_law_459 : decode cL_law 459 = .ok (.iadd, 1) := by decide +kernel
theorem dL_law_460 : decode cL_law 460 = .ok (.iaload, 1) := by decide +kernel
theorem dL_law_461 : decode cL_law 461 = .ok (.aload_n 0, 1) := by decide +kernel
theorem dL_law_462 : decode cL_law 462 = .ok (.iload_n 3, 1) := by decide +kernel
theorem dL_law_463 : decode cL_law 463 = .ok (.iconst 3, 1) := by decide +kernel
theorem dL_law_464 : decode cL_law 464 = .ok (.iadd, 1) := by decide +kernel
theorem dL_law_465 : decode cL_law 465 = .ok (.iaload, 1) := by decide +kernel
theorem dL_law_466 : decode cL_law 466 = .ok (.invokevirtual 64, 3) := by decide +kernel
theorem dL_law_469 : decode cL_law 469 = .ok (.if_icmp .eq 608, 3) := by decide +kernel
theorem dL_law_472 : decode cL_law 472 = .ok (.iconst 0, 1) := by decide +kernel
theorem dL_law_473 : decode cL_law 473 = .ok (.ireturn, 1) := by decide +kernel
theorem dL_law_474 : decode cL_law 474 = .ok (.aload_n 1, 1) := by decide +kernel
theorem dL_law_475 : decode cL_law 475 = .ok (.aload_n 0, 1) := by decide +kernel
theorem dL_law_476 : decode cL_law 476 = .ok (.iload_n 3, 1) := by decide +kernel
theorem dL_law_477 : decode cL_law 477 = .ok (.iconst 1, 1) := by decide +kernel
theorem dL_law_478 : decode cL_law 478 = .ok (.iadd, 1) := by decide +kernel
theorem dL_law_479 : decode cL_law 479 = .ok (.iaload, 1) := by decide +kernel
theorem dL_law_480 : decode cL_law 480 = .ok (.invokevirtual 65, 3) := by decide +kernel
theorem dL_law_483 : decode cL_law 483 = .ok (.aload_n 2, 1) := by decide +kernel
theorem dL_law_484 : decode cL_law 484 = .ok (.aload_n 0, 1) := by decide +kernel
theorem dL_law_485 : decode cL_law 485 = .ok (.iload_n 3, 1) := by decide +kernel
theorem dL_law_486 : decode cL_law 486 = .ok (.iconst 1, 1) := by decide +kernel
theorem dL_law_487 : decode cL_law 487 = .ok (.iadd, 1) := by decide +kernel
theorem dL_law_488 : decode cL_law 488 = .ok (.iaload, 1) := by decide +kernel
theorem dL_law_489 : decode cL_law 489 = .ok (.invokevirtual 68, 3) := by decide +kernel
theorem dL_law_492 : decode cL_law 492 = .ok (.if_icmp .eq 585, 3) := by decide +kernel
theorem dL_law_495 : decode cL_law 495 = .ok (.iconst 0, 1) := by decide +kernel
theorem dL_law_496 : decode cL_law 496 = .ok (.ireturn, 1) := by decide +kernel
theorem dL_law_497 : decode cL_law 497 = .ok (.aload_n 1, 1) := by decide +kernel
theorem dL_law_498 : decode cL_law 498 = .ok (.aload_n 0, 1) := by decide +kernel
theorem dL_law_499 : decode cL_law 499 = .ok (.iload_n 3, 1) := by decide +kernel
theorem dL_law_500 : decode cL_law 500 = .ok (.iconst 1, 1) := by decide +kernel
theorem dL_law_501 : decode cL_law 501 = .ok (.iadd, 1) := by decide +kernel
theorem dL_law_502 : decode cL_law 502 = .ok (.iaload, 1) := by decide +kernel
theorem dL_law_503 : decode cL_law 503 = .ok (.invokevirtual 69, 3) := by decide +kernel
theorem dL_law_506 : decode cL_law 506 = .ok (.aload_n 2, 1) := by decide +kernel
theorem dL_law_507 : decode cL_law 507 = .ok (.aload_n 0, 1) := by decide +kernel
theorem dL_law_508 : decode cL_law 508 = .ok (.iload_n 3, 1) := by decide +kernel
theorem dL_law_509 : decode cL_law 509 = .ok (.iconst 1, 1) := by decide +kernel
theorem dL_law_510 : decode cL_law 510 = .ok (.iadd, 1) := by decide +kernel
theorem dL_law_511 : decode cL_law 511 = .ok (.iaload, 1) := by decide +kernel
theorem dL_law_512 : decode cL_law 512 = .ok (.invokevirtual 72, 3) := by decide +kernel
theorem dL_law_515 : decode cL_law 515 = .ok (.if_icmp .eq 562, 3) := by decide +kernel
theorem dL_law_518 : decode cL_law 518 = .ok (.iconst 0, 1) := by decide +kernel
theorem dL_law_519 : decode cL_law 519 = .ok (.ireturn, 1) := by decide +kernel
theorem dL_law_520 : decode cL_law 520 = .ok (.aload_n 1, 1) := by decide +kernel
theorem dL_law_521 : decode cL_law 521 = .ok (.invokevirtual 73, 3) := by decide +kernel
theorem dL_law_524 : decode cL_law 524 = .ok (.aload_n 2, 1) := by decide +kernel
theorem dL_law_525 : decode cL_law 525 = .ok (.invokevirtual 76, 3) := by decide +kernel
theorem dL_law_528 : decode cL_law 528 = .ok (.if_icmp .eq 549, 3) := by decide +kernel
theorem dL_law_531 : decode cL_law 531 = .ok (.iconst 0, 1) := by decide +kernel
theorem dL_law_532 : decode cL_law 532 = .ok (.ireturn, 1) := by decide +kernel
theorem dL_law_533 : decode cL_law 533 = .ok (.aload_n 1, 1) := by decide +kernel
theorem dL_law_534 : decode cL_law 534 = .ok (.aload_n 0, 1) := by decide +kernel
theorem dL_law_535 : decode cL_law 535 = .ok (.iload_n 3, 1) := by decide +kernel
theorem dL_law_536 : decode cL_law 536 = .ok (.iconst 1, 1) := by decide +kernel
theorem dL_law_537 : decode cL_law 537 = .ok (.iadd, 1) := by decide +kernel
theorem dL_law_538 : decode cL_law 538 = .ok (.iaload, 1) := by decide +kernel
theorem dL_law_539 : decode cL_law 539 = .ok (.aload_n 0, 1) := by decide +kernel
theorem dL_law_540 : decode cL_law 540 = .ok (.iload_n 3, 1) := by decide +kernel
theorem dL_law_541 : decode cL_law 541 = .ok (.iconst 2, 1) := by decide +kernel
theorem dL_law_542 : decode cL_law 542 = .ok (.iadd, 1) := by decide +kernel
theorem dL_law_543 : decode cL_law 543 = .ok (.iaload, 1) := by decide +kernel
theorem dL_law_544 : decode cL_law 544 = .ok (.aload_n 0, 1) := by decide +kernel
theorem dL_law_545 : decode cL_law 545 = .ok (.iload_n 3, 1) := by decide +kernel
theorem dL_law_546 : decode cL_law 546 = .ok (.iconst 3, 1) := by decide +kernel
theorem dL_law_547 : decode cL_law 547 = .ok (.iadd, 1) := by decide +kernel
theorem dL_law_548 : decode cL_law 548 = .ok (.iaload, 1) := by decide +kernel
theorem dL_law_549 : decode cL_law 549 = .ok (.ifCond .eq 7, 3) := by decide +kernel
theorem dL_law_552 : decode cL_law 552 = .ok (.iconst 1, 1) := by decide +kernel
theorem dL_law_553 : decode cL_law 553 = .ok (.goto 4, 3) := by decide +kernel
theorem dL_law_556 : decode cL_law 556 = .ok (.iconst 0, 1) := by decide +kernel
theorem dL_law_557 : decode cL_law 557 = .ok (.invokevirtual 77, 3) := by decide +kernel
theorem dL_law_560 : decode cL_law 560 = .ok (.aload_n 2, 1) := by decide +kernel
theorem dL_law_561 : decode cL_law 561 = .ok (.aload_n 0, 1) := by decide +kernel
theorem dL_law_562 : decode cL_law 562 = .ok (.iload_n 3, 1) := by decide +kernel
theorem dL_law_563 : decode cL_law 563 = .ok (.iconst 1, 1) := by decide +kernel
theorem dL_law_564 : decode cL_law 564 = .ok (.iadd, 1) := by decide +kernel
theorem dL_law_565 : decode cL_law 565 = .ok (.iaload, 1) := by decide +kernel
theorem dL_law_566 : decode cL_law 566 = .ok (.aload_n 0, 1) := by decide +kernel
theorem dL_law_567 : decode cL_law 567 = .ok (.iload_n 3, 1) := by decide +kernel
theorem dL_law_568 : decode cL_law 568 = .ok (.iconst 2, 1) := by decide +kernel
theorem dL_law_569 : decode cL_law 569 = .ok (.iadd, 1) := by decide +kernel
theorem dL_law_570 : decode cL_law 570 = .ok (.iaload, 1) := by decide +kernel
theorem dL_law_571 : decode cL_law 571 = .ok (.aload_n 0, 1) := by decide +kernel
theorem dL_law_572 : decode cL_law 572 = .ok (.iload_n 3, 1) := by decide +kernel
theorem dL_law_573 : decode cL_law 573 = .ok (.iconst 3, 1) := by decide +kernel
theorem dL_law_574 : decode cL_law 574 = .ok (.iadd, 1) := by decide +kernel
theorem dL_law_575 : decode cL_law 575 = .ok (.iaload, 1) := by decide +kernel
theorem dL_law_576 : decode cL_law 576 = .ok (.ifCond .eq 7, 3) := by decide +kernel
theorem dL_law_579 : decode cL_law 579 = .ok (.iconst 1, 1) := by decide +kernel
theorem dL_law_580 : decode cL_law 580 = .ok (.goto 4, 3) := by decide +kernel
theorem dL_law_583 : decode cL_law 583 = .ok (.iconst 0, 1) := by decide +kernel
theorem dL_law_584 : decode cL_law 584 = .ok (.invokevirtual 81, 3) := by decide +kernel
theorem dL_law_587 : decode cL_law 587 = .ok (.if_icmp .eq 490, 3) := by decide +kernel
theorem dL_law_590 : decode cL_law 590 = .ok (.iconst 0, 1) := by decide +kernel
theorem dL_law_591 : decode cL_law 591 = .ok (.ireturn, 1) := by decide +kernel
theorem dL_law_592 : decode cL_law 592 = .ok (.aload_n 1, 1) := by decide +kernel
theorem dL_law_593 : decode cL_law 593 = .ok (.aload_n 0, 1) := by decide +kernel
theorem dL_law_594 : decode cL_law 594 = .ok (.iload_n 3, 1) := by decide +kernel
theorem dL_law_595 : decode cL_law 595 = .ok (.iconst 1, 1) := by decide +kernel
theorem dL_law_596 : decode cL_law 596 = .ok (.iadd, 1) := by decide +kernel
theorem dL_law_597 : decode cL_law 597 = .ok (.iaload, 1) := by decide +kernel
theorem dL_law_598 : decode cL_law 598 = .ok (.invokevirtual 82, 3) := by decide +kernel
theorem dL_law_601 : decode cL_law 601 = .ok (.aload_n 2, 1) := by decide +kernel
theorem dL_law_602 : decode cL_law 602 = .ok (.aload_n 0, 1) := by decide +kernel
theorem dL_law_603 : decode cL_law 603 = .ok (.iload_n 3, 1) := by decide +kernel
theorem dL_law_604 : decode cL_law 604 = .ok (.iconst 1, 1) := by decide +kernel
theorem dL_law_605 : decode cL_law 605 = .ok (.iadd, 1) := by decide +kernel
theorem dL_law_606 : decode cL_law 606 = .ok (.iaload, 1) := by decide +kernel
theorem dL_law_607 : decode cL_law 607 = .ok (.invokevirtual 85, 3) := by decide +kernel
theorem dL_law_610 : decode cL_law 610 = .ok (.if_icmp .eq 467, 3) := by decide +kernel
theorem dL_law_613 : decode cL_law 613 = .ok (.iconst 0, 1) := by decide +kernel
theorem dL_law_614 : decode cL_law 614 = .ok (.ireturn, 1) := by decide +kernel
theorem dL_law_615 : decode cL_law 615 = .ok (.aload_n 1, 1) := by decide +kernel
theorem dL_law_616 : decode cL_law 616 = .ok (.aload_n 0, 1) := by decide +kernel
theorem dL_law_617 : decode cL_law 617 = .ok (.iload_n 3, 1) := by decide +kernel
theorem dL_law_618 : decode cL_law 618 = .ok (.iconst 1, 1) := by decide +kernel
theorem dL_law_619 : decode cL_law 619 = .ok (.iadd, 1) := by decide +kernel
theorem dL_law_620 : decode cL_law 620 = .ok (.iaload, 1) := by decide +kernel
theorem dL_law_621 : decode cL_law 621 = .ok (.invokevirtual 86, 3) := by decide +kernel
theorem dL_law_624 : decode cL_law 624 = .ok (.aload_n 2, 1) := by decide +kernel
theorem dL_law_625 : decode cL_law 625 = .ok (.aload_n 0, 1) := by decide +kernel
theorem dL_law_626 : decode cL_law 626 = .ok (.iload_n 3, 1) := by decide +kernel
theorem dL_law_627 : decode cL_law 627 = .ok (.iconst 1, 1) := by decide +kernel
theorem dL_law_628 : decode cL_law 628 = .ok (.iadd, 1) := by decide +kernel
theorem dL_law_629 : decode cL_law 629 = .ok (.iaload, 1) := by decide +kernel
theorem dL_law_630 : decode cL_law 630 = .ok (.invokevirtual 89, 3) := by decide +kernel
theorem dL_law_633 : decode cL_law 633 = .ok (.if_icmp .eq 444, 3) := by decide +kernel
theorem dL_law_636 : decode cL_law 636 = .ok (.iconst 0, 1) := by decide +kernel
theorem dL_law_637 : decode cL_law 637 = .ok (.ireturn, 1) := by decide +kernel
theorem dL_law_638 : decode cL_law 638 = .ok (.aload_n 1, 1) := by decide +kernel
theorem dL_law_639 : decode cL_law 639 = .ok (.aload_n 0, 1) := by decide +kernel
theorem dL_law_640 : decode cL_law 640 = .ok (.iload_n 3, 1) := by decide +kernel
theorem dL_law_641 : decode cL_law 641 = .ok (.iconst 1, 1) := by decide +kernel
theorem dL_law_642 : decode cL_law 642 = .ok (.iadd, 1) := by decide +kernel
theorem dL_law_643 : decode cL_law 643 = .ok (.iaload, 1) := by decide +kernel
theorem dL_law_644 : decode cL_law 644 = .ok (.aload_n 0, 1) := by decide +kernel
theorem dL_law_645 : decode cL_law 645 = .ok (.iload_n 3, 1) := by decide +kernel
theorem dL_law_646 : decode cL_law 646 = .ok (.iconst 2, 1) := by decide +kernel
theorem dL_law_647 : decode cL_law 647 = .ok (.iadd, 1) := by decide +kernel
theorem dL_law_648 : decode cL_law 648 = .ok (.iaload, 1) := by decide +kernel
theorem dL_law_649 : decode cL_law 649 = .ok (.invokevirtual 90, 3) := by decide +kernel
theorem dL_law_652 : decode cL_law 652 = .ok (.aload_n 2, 1) := by decide +kernel
theorem dL_law_653 : decode cL_law 653 = .ok (.aload_n 0, 1) := by decide +kernel
theorem dL_law_654 : decode cL_law 654 = .ok (.iload_n 3, 1) := by decide +kernel
theorem dL_law_655 : decode cL_law 655 = .ok (.iconst 1, 1) := by decide +kernel
theorem dL_law_656 : decode cL_law 656 = .ok (.iadd, 1) := by decide +kernel
theorem dL_law_657 : decode cL_law 657 = .ok (.iaload, 1) := by decide +kernel
theorem dL_law_658 : decode cL_law 658 = .ok (.aload_n 0, 1) := by decide +kernel
theorem dL_law_659 : decode cL_law 659 = .ok (.iload_n 3, 1) := by decide +kernel
theorem dL_law_660 : decode cL_law 660 = .ok (.iconst 2, 1) := by decide +kernel
theorem dL_law_661 : decode cL_law 661 = .ok (.iadd, 1) := by decide +kernel
theorem dL_law_662 : decode cL_law 662 = .ok (.iaload, 1) := by decide +kernel
theorem dL_law_663 : decode cL_law 663 = .ok (.invokevirtual 93, 3) := by decide +kernel
theorem dL_law_666 : decode cL_law 666 = .ok (.if_icmp .eq 411, 3) := by decide +kernel
theorem dL_law_669 : decode cL_law 669 = .ok (.iconst 0, 1) := by decide +kernel
theorem dL_law_670 : decode cL_law 670 = .ok (.ireturn, 1) := by decide +kernel
theorem dL_law_671 : decode cL_law 671 = .ok (.aload_n 1, 1) := by decide +kernel
theorem dL_law_672 : decode cL_law 672 = .ok (.aload_n 0, 1) := by decide +kernel
theorem dL_law_673 : decode cL_law 673 = .ok (.iload_n 3, 1) := by decide +kernel
theorem dL_law_674 : decode cL_law 674 = .ok (.iconst 1, 1) := by decide +kernel
theorem dL_law_675 : decode cL_law 675 = .ok (.iadd, 1) := by decide +kernel
theorem dL_law_676 : decode cL_law 676 = .ok (.iaload, 1) := by decide +kernel
theorem dL_law_677 : decode cL_law 677 = .ok (.aload_n 0, 1) := by decide +kernel
theorem dL_law_678 : decode cL_law 678 = .ok (.iload_n 3, 1) := by decide +kernel
theorem dL_law_679 : decode cL_law 679 = .ok (.iconst 2, 1) := by decide +kernel
theorem dL_law_680 : decode cL_law 680 = .ok (.iadd, 1) := by decide +kernel
theorem dL_law_681 : decode cL_law 681 = .ok (.iaload, 1) := by decide +kernel
theorem dL_law_682 : decode cL_law 682 = .ok (.invokevirtual 94, 3) := by decide +kernel
theorem dL_law_685 : decode cL_law 685 = .ok (.aload_n 2, 1) := by decide +kernel
theorem dL_law_686 : decode cL_law 686 = .ok (.aload_n 0, 1) := by decide +kernel
theorem dL_law_687 : decode cL_law 687 = .ok (.iload_n 3, 1) := by decide +kernel
theorem dL_law_688 : decode cL_law 688 = .ok (.iconst 1, 1) := by decide +kernel
theorem dL_law_689 : decode cL_law 689 = .ok (.iadd, 1) := by decide +kernel
theorem dL_law_690 : decode cL_law 690 = .ok (.iaload, 1) := by decide +kernel
theorem dL_law_691 : decode cL_law 691 = .ok (.aload_n 0, 1) := by decide +kernel
theorem dL_law_692 : decode cL_law 692 = .ok (.iload_n 3, 1) := by decide +kernel
theorem dL_law_693 : decode cL_law 693 = .ok (.iconst 2, 1) := by decide +kernel
theorem dL_law_694 : decode cL_law 694 = .ok (.iadd, 1) := by decide +kernel
theorem dL_law_695 : decode cL_law 695 = .ok (.iaload, 1) := by decide +kernel
theorem dL_law_696 : decode cL_law 696 = .ok (.invokevirtual 97, 3) := by decide +kernel
theorem dL_law_699 : decode cL_law 699 = .ok (.if_icmp .eq 378, 3) := by decide +kernel
theorem dL_law_702 : decode cL_law 702 = .ok (.iconst 0, 1) := by decide +kernel
theorem dL_law_703 : decode cL_law 703 = .ok (.ireturn, 1) := by decide +kernel
theorem dL_law_704 : decode cL_law 704 = .ok (.aload_n 1, 1) := by decide +kernel
theorem dL_law_705 : decode cL_law 705 = .ok (.aload_n 0, 1) := by decide +kernel
theorem dL_law_706 : decode cL_law 706 = .ok (.iload_n 3, 1) := by decide +kernel
theorem dL_law_707 : decode cL_law 707 = .ok (.iconst 1, 1) := by decide +kernel
theorem dL_law_708 : decode cL_law 708 = .ok (.iadd, 1) := by decide +kernel
theorem dL_law_709 : decode cL_law 709 = .ok (.iaload, 1) := by decide +kernel
theorem dL_law_710 : decode cL_law 710 = .ok (.aload_n 0, 1) := by decide +kernel
theorem dL_law_711 : decode cL_law 711 = .ok (.iload_n 3, 1) := by decide +kernel
theorem dL_law_712 : decode cL_law 712 = .ok (.iconst 2, 1) := by decide +kernel
theorem dL_law_713 : decode cL_law 713 = .ok (.iadd, 1) := by decide +kernel
theorem dL_law_714 : decode cL_law 714 = .ok (.iaload, 1) := by decide +kernel
theorem dL_law_715 : decode cL_law 715 = .ok (.ifCond .eq 7, 3) := by decide +kernel
theorem dL_law_718 : decode cL_law 718 = .ok (.iconst 1, 1) := by decide +kernel
theorem dL_law_719 : decode cL_law 719 = .ok (.goto 4, 3) := by decide +kernel
theorem dL_law_722 : decode cL_law 722 = .ok (.iconst 0, 1) := by decide +kernel
theorem dL_law_723 : decode cL_law 723 = .ok (.invokevirtual 98, 3) := by decide +kernel
theorem dL_law_726 : decode cL_law 726 = .ok (.aload_n 2, 1) := by decide +kernel
theorem dL_law_727 : decode cL_law 727 = .ok (.aload_n 0, 1) := by decide +kernel
theorem dL_law_728 : decode cL_law 728 = .ok (.iload_n 3, 1) := by decide +kernel
theorem dL_law_729 : decode cL_law 729 = .ok (.iconst 1, 1) := by decide +kernel
theorem dL_law_730 : decode cL_law 730 = .ok (.iadd, 1) := by decide +kernel
theorem dL_law_731 : decode cL_law 731 = .ok (.iaload, 1) := by decide +kernel
theorem dL_law_732 : decode cL_law 732 = .ok (.aload_n 0, 1) := by decide +kernel
theorem dL_law_733 : decode cL_law 733 = .ok (.iload_n 3, 1) := by decide +kernel
theorem dL_law_734 : decode cL_law 734 = .ok (.iconst 2, 1) := by decide +kernel
theorem dL_law_735 : decode cL_law 735 = .ok (.iadd, 1) := by decide +kernel
theorem dL_law_736 : decode cL_law 736 = .ok (.iaload, 1) := by decide +kernel
theorem dL_law_737 : decode cL_law 737 = .ok (.ifCond .eq 7, 3) := by decide +kernel
theorem dL_law_740 : decode cL_law 740 = .ok (.iconst 1, 1) := by decide +kernel
theorem dL_law_741 : decode cL_law 741 = .ok (.goto 4, 3) := by decide +kernel
theorem dL_law_744 : decode cL_law 744 = .ok (.iconst 0, 1) := by decide +kernel
theorem dL_law_745 : decode cL_law 745 = .ok (.invokevirtual 102, 3) := by decide +kernel
theorem dL_law_748 : decode cL_law 748 = .ok (.if_icmp .eq 329, 3) := by decide +kernel
theorem dL_law_751 : decode cL_law 751 = .ok (.iconst 0, 1) := by decide +kernel
theorem dL_law_752 : decode cL_law 752 = .ok (.ireturn, 1) := by decide +kernel
theorem dL_law_753 : decode cL_law 753 = .ok (.aload_n 1, 1) := by decide +kernel
theorem dL_law_754 : decode cL_law 754 = .ok (.aload_n 0, 1) := by decide +kernel
theorem dL_law_755 : decode cL_law 755 = .ok (.iload_n 3, 1) := by decide +kernel
theorem dL_law_756 : decode cL_law 756 = .ok (.iconst 1, 1) := by decide +kernel
theorem dL_law_757 : decode cL_law 757 = .ok (.iadd, 1) := by decide +kernel
theorem dL_law_758 : decode cL_law 758 = .ok (.iaload, 1) := by decide +kernel
theorem dL_law_759 : decode cL_law 759 = .ok (.aload_n 0, 1) := by decide +kernel
theorem dL_law_760 : decode cL_law 760 = .ok (.iload_n 3, 1) := by decide +kernel
theorem dL_law_761 : decode cL_law 761 = .ok (.iconst 2, 1) := by decide +kernel
theorem dL_law_762 : decode cL_law 762 = .ok (.iadd, 1) := by decide +kernel
theorem dL_law_763 : decode cL_law 763 = .ok (.iaload, 1) := by decide +kernel
theorem dL_law_764 : decode cL_law 764 = .ok (.aload_n 0, 1) := by decide +kernel
theorem dL_law_765 : decode cL_law 765 = .ok (.iload_n 3, 1) := by decide +kernel
theorem dL_law_766 : decode cL_law 766 = .ok (.iconst 3, 1) := by decide +kernel
theorem dL_law_767 : decode cL_law 767 = .ok (.iadd, 1) := by decide +kernel
theorem dL_law_768 : decode cL_law 768 = .ok (.iaload, 1) := by decide +kernel
theorem dL_law_769 : decode cL_law 769 = .ok (.aload_n 0, 1) := by decide +kernel
theorem dL_law_770 : decode cL_law 770 = .ok (.iload_n 3, 1) := by decide +kernel
theorem dL_law_771 : decode cL_law 771 = .ok (.iconst 4, 1) := by decide +kernel
theorem dL_law_772 : decode cL_law 772 = .ok (.iadd, 1) := by decide +kernel
theorem dL_law_773 : decode cL_law 773 = .ok (.iaload, 1) := by decide +kernel
theorem dL_law_774 : decode cL_law 774 = .ok (.aload_n 0, 1) := by decide +kernel
theorem dL_law_775 : decode cL_law 775 = .ok (.iload_n 3, 1) := by decide +kernel
theorem dL_law_776 : decode cL_law 776 = .ok (.iconst 5, 1) := by decide +kernel
theorem dL_law_777 : decode cL_law 777 = .ok (.iadd, 1) := by decide +kernel
theorem dL_law_778 : decode cL_law 778 = .ok (.iaload, 1) := by decide +kernel
theorem dL_law_779 : decode cL_law 779 = .ok (.invokevirtual 103, 3) := by decide +kernel
theorem dL_law_782 : decode cL_law 782 = .ok (.aload_n 2, 1) := by decide +kernel
theorem dL_law_783 : decode cL_law 783 = .ok (.aload_n 0, 1) := by decide +kernel
theorem dL_law_784 : decode cL_law 784 = .ok (.iload_n 3, 1) := by decide +kernel
theorem dL_law_785 : decode cL_law 785 = .ok (.iconst 1, 1) := by decide +kernel
theorem dL_law_786 : decode cL_law 786 = .ok (.iadd, 1) := by decide +kernel
theorem dL_law_787 : decode cL_law 787 = .ok (.iaload, 1) := by decide +kernel
theorem dL_law_788 : decode cL_law 788 = .ok (.aload_n 0, 1) := by decide +kernel
theorem dL_law_789 : decode cL_law 789 = .ok (.iload_n 3, 1) := by decide +kernel
theorem dL_law_790 : decode cL_law 790 = .ok (.iconst 2, 1) := by decide +kernel
theorem dL_law_791 : decode cL_law 791 = .ok (.iadd, 1) := by decide +kernel
theorem dL_law_792 : decode cL_law 792 = .ok (.iaload, 1) := by decide +kernel
theorem dL_law_793 : decode cL_law 793 = .ok (.aload_n 0, 1) := by decide +kernel
theorem dL_law_794 : decode cL_law 794 = .ok (.iload_n 3, 1) := by decide +kernel
theorem dL_law_795 : decode cL_law 795 = .ok (.iconst 3, 1) := by decide +kernel
theorem dL_law_796 : decode cL_law 796 = .ok (.iadd, 1) := by decide +kernel
theorem dL_law_797 : decode cL_law 797 = .ok (.iaload, 1) := by decide +kernel
theorem dL_law_798 : decode cL_law 798 = .ok (.aload_n 0, 1) := by decide +kernel
theorem dL_law_799 : decode cL_law 799 = .ok (.iload_n 3, 1) := by decide +kernel
theorem dL_law_800 : decode cL_law 800 = .ok (.iconst 4, 1) := by decide +kernel
theorem dL_law_801 : decode cL_law 801 = .ok (.iadd, 1) := by decide +kernel
theorem dL_law_802 : decode cL_law 802 = .ok (.iaload, 1) := by decide +kernel
theorem dL_law_803 : decode cL_law 803 = .ok (.aload_n 0, 1) := by decide +kernel
theorem dL_law_804 : decode cL_law 804 = .ok (.iload_n 3, 1) := by decide +kernel
theorem dL_law_805 : decode cL_law 805 = .ok (.iconst 5, 1) := by decide +kernel
theorem dL_law_806 : decode cL_law 806 = .ok (.iadd, 1) := by decide +kernel
theorem dL_law_807 : decode cL_law 807 = .ok (.iaload, 1) := by decide +kernel
theorem dL_law_808 : decode cL_law 808 = .ok (.invokevirtual 107, 3) := by decide +kernel
theorem dL_law_811 : decode cL_law 811 = .ok (.if_icmp .eq 266, 3) := by decide +kernel
theorem dL_law_814 : decode cL_law 814 = .ok (.iconst 0, 1) := by decide +kernel
theorem dL_law_815 : decode cL_law 815 = .ok (.ireturn, 1) := by decide +kernel
theorem dL_law_816 : decode cL_law 816 = .ok (.aload_n 1, 1) := by decide +kernel
theorem dL_law_817 : decode cL_law 817 = .ok (.invokevirtual 108, 3) := by decide +kernel
theorem dL_law_820 : decode cL_law 820 = .ok (.aload_n 2, 1) := by decide +kernel
theorem dL_law_821 : decode cL_law 821 = .ok (.invokevirtual 111, 3) := by decide +kernel
theorem dL_law_824 : decode cL_law 824 = .ok (.if_icmp .eq 253, 3) := by decide +kernel
theorem dL_law_827 : decode cL_law 827 = .ok (.iconst 0, 1) := by decide +kernel
theorem dL_law_828 : decode cL_law 828 = .ok (.ireturn, 1) := by decide +kernel
theorem dL_law_829 : decode cL_law 829 = .ok (.aload_n 1, 1) := by decide +kernel
theorem dL_law_830 : decode cL_law 830 = .ok (.aload_n 0, 1) := by decide +kernel
theorem dL_law_831 : decode cL_law 831 = .ok (.iload_n 3, 1) := by decide +kernel
theorem dL_law_832 : decode cL_law 832 = .ok (.iconst 1, 1) := by decide +kernel
theorem dL_law_833 : decode cL_law 833 = .ok (.iadd, 1) := by decide +kernel
theorem dL_law_834 : decode cL_law 834 = .ok (.iaload, 1) := by decide +kernel
theorem dL_law_835 : decode cL_law 835 = .ok (.aload_n 0, 1) := by decide +kernel
theorem dL_law_836 : decode cL_law 836 = .ok (.iload_n 3, 1) := by decide +kernel
theorem dL_law_837 : decode cL_law 837 = .ok (.iconst 2, 1) := by decide +kernel
theorem dL_law_838 : decode cL_law 838 = .ok (.iadd, 1) := by decide +kernel
theorem dL_law_839 : decode cL_law 839 = .ok (.iaload, 1) := by decide +kernel
theorem dL_law_840 : decode cL_law 840 = .ok (.invokevirtual 112, 3) := by decide +kernel
theorem dL_law_843 : decode cL_law 843 = .ok (.aload_n 2, 1) := by decide +kernel
theorem dL_law_844 : decode cL_law 844 = .ok (.aload_n 0, 1) := by decide +kernel
theorem dL_law_845 : decode cL_law 845 = .ok (.iload_n 3, 1) := by decide +kernel
theorem dL_law_846 : decode cL_law 846 = .ok (.iconst 1, 1) := by decide +kernel
theorem dL_law_847 : decode cL_law 847 = .ok (.iadd, 1) := by decide +kernel
theorem dL_law_848 : decode cL_law 848 = .ok (.iaload, 1) := by decide +kernel
theorem dL_law_849 : decode cL_law 849 = .ok (.aload_n 0, 1) := by decide +kernel
theorem dL_law_850 : decode cL_law 850 = .ok (.iload_n 3, 1) := by decide +kernel
theorem dL_law_851 : decode cL_law 851 = .ok (.iconst 2, 1) := by decide +kernel
theorem dL_law_852 : decode cL_law 852 = .ok (.iadd, 1) := by decide +kernel
theorem dL_law_853 : decode cL_law 853 = .ok (.iaload, 1) := by decide +kernel
theorem dL_law_854 : decode cL_law 854 = .ok (.invokevirtual 115, 3) := by decide +kernel
theorem dL_law_857 : decode cL_law 857 = .ok (.if_icmp .eq 220, 3) := by decide +kernel
theorem dL_law_860 : decode cL_law 860 = .ok (.iconst 0, 1) := by decide +kernel
theorem dL_law_861 : decode cL_law 861 = .ok (.ireturn, 1) := by decide +kernel
theorem dL_law_862 : decode cL_law 862 = .ok (.aload_n 1, 1) := by decide +kernel
theorem dL_law_863 : decode cL_law 863 = .ok (.aload_n 0, 1) := by decide +kernel
theorem dL_law_864 : decode cL_law 864 = .ok (.iload_n 3, 1) := by decide +kernel
theorem dL_law_865 : decode cL_law 865 = .ok (.iconst 1, 1) := by decide +kernel
theorem dL_law_866 : decode cL_law 866 = .ok (.iadd, 1) := by decide +kernel
theorem dL_law_867 : decode cL_law 867 = .ok (.iaload, 1) := by decide +kernel
theorem dL_law_868 : decode cL_law 868 = .ok (.invokevirtual 116, 3) := by decide +kernel
theorem dL_law_871 : decode cL_law 871 = .ok (.aload_n 2, 1) := by decide +kernel
theorem dL_law_872 : decode cL_law 872 = .ok (.aload_n 0, 1) := by decide +kernel
theorem dL_law_873 : decode cL_law 873 = .ok (.iload_n 3, 1) := by decide +kernel
theorem dL_law_874 : decode cL_law 874 = .ok (.iconst 1, 1) := by decide +kernel
theorem dL_law_875 : decode cL_law 875 = .ok (.iadd, 1) := by decide +kernel
theorem dL_law_876 : decode cL_law 876 = .ok (.iaload, 1) := by decide +kernel
theorem dL_law_877 : decode cL_law 877 = .ok (.invokevirtual 119, 3) := by decide +kernel
theorem dL_law_880 : decode cL_law 880 = .ok (.if_icmp .eq 197, 3) := by decide +kernel
theorem dL_law_883 : decode cL_law 883 = .ok (.iconst 0, 1) := by decide +kernel
theorem dL_law_884 : decode cL_law 884 = .ok (.ireturn, 1) := by decide +kernel
theorem dL_law_885 : decode cL_law 885 = .ok (.aload_n 1, 1) := by decide +kernel
theorem dL_law_886 : decode cL_law 886 = .ok (.aload_n 0, 1) := by decide +kernel
theorem dL_law_887 : decode cL_law 887 = .ok (.iload_n 3, 1) := by decide +kernel
theorem dL_law_888 : decode cL_law 888 = .ok (.iconst 1, 1) := by decide +kernel
theorem dL_law_889 : decode cL_law 889 = .ok (.iadd, 1) := by decide +kernel
theorem dL_law_890 : decode cL_law 890 = .ok (.iaload, 1) := by decide +kernel
theorem dL_law_891 : decode cL_law 891 = .ok (.aload_n 0, 1) := by decide +kernel
theorem dL_law_892 : decode cL_law 892 = .ok (.iload_n 3, 1) := by decide +kernel
theorem dL_law_893 : decode cL_law 893 = .ok (.iconst 2, 1) := by decide +kernel
theorem dL_law_894 : decode cL_law 894 = .ok (.iadd, 1) := by decide +kernel
theorem dL_law_895 : decode cL_law 895 = .ok (.iaload, 1) := by decide +kernel
theorem dL_law_896 : decode cL_law 896 = .ok (.aload_n 0, 1) := by decide +kernel
theorem dL_law_897 : decode cL_law 897 = .ok (.iload_n 3, 1) := by decide +kernel
theorem dL_law_898 : decode cL_law 898 = .ok (.iconst 3, 1) := by decide +kernel
theorem dL_law_899 : decode cL_law 899 = .ok (.iadd, 1) := by decide +kernel
theorem dL_law_900 : decode cL_law 900 = .ok (.iaload, 1) := by decide +kernel
theorem dL_law_901 : decode cL_law 901 = .ok (.aload_n 0, 1) := by decide +kernel
theorem dL_law_902 : decode cL_law 902 = .ok (.iload_n 3, 1) := by decide +kernel
theorem dL_law_903 : decode cL_law 903 = .ok (.iconst 4, 1) := by decide +kernel
theorem dL_law_904 : decode cL_law 904 = .ok (.iadd, 1) := by decide +kernel
theorem dL_law_905 : decode cL_law 905 = .ok (.iaload, 1) := by decide +kernel
theorem dL_law_906 : decode cL_law 906 = .ok (.ifCond .eq 7, 3) := by decide +kernel
theorem dL_law_909 : decode cL_law 909 = .ok (.iconst 1, 1) := by decide +kernel
theorem dL_law_910 : decode cL_law 910 = .ok (.goto 4, 3) := by decide +kernel
theorem dL_law_913 : decode cL_law 913 = .ok (.iconst 0, 1) := by decide +kernel
theorem dL_law_914 : decode cL_law 914 = .ok (.invokevirtual 120, 3) := by decide +kernel
theorem dL_law_917 : decode cL_law 917 = .ok (.aload_n 2, 1) := by decide +kernel
theorem dL_law_918 : decode cL_law 918 = .ok (.aload_n 0, 1) := by decide +kernel
theorem dL_law_919 : decode cL_law 919 = .ok (.iload_n 3, 1) := by decide +kernel
theorem dL_law_920 : decode cL_law 920 = .ok (.iconst 1, 1) := by decide +kernel
theorem dL_law_921 : decode cL_law 921 = .ok (.iadd, 1) := by decide +kernel
theorem dL_law_922 : decode cL_law 922 = .ok (.iaload, 1) := by decide +kernel
theorem dL_law_923 : decode cL_law 923 = .ok (.aload_n 0, 1) := by decide +kernel
theorem dL_law_924 : decode cL_law 924 = .ok (.iload_n 3, 1) := by decide +kernel
theorem dL_law_925 : decode cL_law 925 = .ok (.iconst 2, 1) := by decide +kernel
theorem dL_law_926 : decode cL_law 926 = .ok (.iadd, 1) := by decide +kernel
theorem dL_law_927 : decode cL_law 927 = .ok (.iaload, 1) := by decide +kernel
theorem dL_law_928 : decode cL_law 928 = .ok (.aload_n 0, 1) := by decide +kernel
theorem dL_law_929 : decode cL_law 929 = .ok (.iload_n 3, 1) := by decide +kernel
theorem dL_law_930 : decode cL_law 930 = .ok (.iconst 3, 1) := by decide +kernel
theorem dL_law_931 : decode cL_law 931 = .ok (.iadd, 1) := by decide +kernel
theorem dL_law_932 : decode cL_law 932 = .ok (.iaload, 1) := by decide +kernel
theorem dL_law_933 : decode cL_law 933 = .ok (.aload_n 0, 1) := by decide +kernel
theorem dL_law_934 : decode cL_law 934 = .ok (.iload_n 3, 1) := by decide +kernel
theorem dL_law_935 : decode cL_law 935 = .ok (.iconst 4, 1) := by decide +kernel
theorem dL_law_936 : decode cL_law 936 = .ok (.iadd, 1) := by decide +kernel
theorem dL_law_937 : decode cL_law 937 = .ok (.iaload, 1) := by decide +kernel
theorem dL_law_938 : decode cL_law 938 = .ok (.ifCond .eq 7, 3) := by decide +kernel
theorem dL_law_941 : decode cL_law 941 = .ok (.iconst 1, 1) := by decide +kernel
theorem dL_law_942 : decode cL_law 942 = .ok (.goto 4, 3) := by decide +kernel
theorem dL_law_945 : decode cL_law 945 = .ok (.iconst 0, 1) := by decide +kernel
theorem dL_law_946 : decode cL_law 946 = .ok (.invokevirtual 124, 3) := by decide +kernel
theorem dL_law_949 : decode cL_law 949 = .ok (.if_icmp .eq 128, 3) := by decide +kernel
theorem dL_law_952 : decode cL_law 952 = .ok (.iconst 0, 1) := by decide +kernel
theorem dL_law_953 : decode cL_law 953 = .ok (.ireturn, 1) := by decide +kernel
theorem dL_law_954 : decode cL_law 954 = .ok (.aload_n 1, 1) := by decide +kernel
theorem dL_law_955 : decode cL_law 955 = .ok (.aload_n 0, 1) := by decide +kernel
theorem dL_law_956 : decode cL_law 956 = .ok (.iload_n 3, 1) := by decide +kernel
theorem dL_law_957 : decode cL_law 957 = .ok (.iconst 1, 1) := by decide +kernel
theorem dL_law_958 : decode cL_law 958 = .ok (.iadd, 1) := by decide +kernel
theorem dL_law_959 : decode cL_law 959 = .ok (.iaload, 1) := by decide +kernel
theorem dL_law_960 : decode cL_law 960 = .ok (.i2l, 1) := by decide +kernel
theorem dL_law_961 : decode cL_law 961 = .ok (.bipush 32, 2) := by decide +kernel
theorem dL_law_963 : decode cL_law 963 = .ok (.lshl, 1) := by decide +kernel
theorem dL_law_964 : decode cL_law 964 = .ok (.aload_n 0, 1) := by decide +kernel
theorem dL_law_965 : decode cL_law 965 = .ok (.iload_n 3, 1) := by decide +kernel
theorem dL_law_966 : decode cL_law 966 = .ok (.iconst 2, 1) := by decide +kernel
theorem dL_law_967 : decode cL_law 967 = .ok (.iadd, 1) := by decide +kernel
theorem dL_law_968 : decode cL_law 968 = .ok (.iaload, 1) := by decide +kernel
theorem dL_law_969 : decode cL_law 969 = .ok (.i2l, 1) := by decide +kernel
theorem dL_law_970 : decode cL_law 970 = .ok (.ldc2_w 125, 3) := by decide +kernel
theorem dL_law_973 : decode cL_law 973 = .ok (.land, 1) := by decide +kernel
theorem dL_law_974 : decode cL_law 974 = .ok (.lor, 1) := by decide +kernel
theorem dL_law_975 : decode cL_law 975 = .ok (.invokevirtual 127, 3) := by decide +kernel
theorem dL_law_978 : decode cL_law 978 = .ok (.aload_n 2, 1) := by decide +kernel
theorem dL_law_979 : decode cL_law 979 = .ok (.aload_n 0, 1) := by decide +kernel
theorem dL_law_980 : decode cL_law 980 = .ok (.iload_n 3, 1) := by decide +kernel
theorem dL_law_981 : decode cL_law 981 = .ok (.iconst 1, 1) := by decide +kernel
theorem dL_law_982 : decode cL_law 982 = .ok (.iadd, 1) := by decide +kernel
theorem dL_law_983 : decode cL_law 983 = .ok (.iaload, 1) := by decide +kernel
theorem dL_law_984 : decode cL_law 984 = .ok (.i2l, 1) := by decide +kernel
theorem dL_law_985 : decode cL_law 985 = .ok (.bipush 32, 2) := by decide +kernel
theorem dL_law_987 : decode cL_law 987 = .ok (.lshl, 1) := by decide +kernel
theorem dL_law_988 : decode cL_law 988 = .ok (.aload_n 0, 1) := by decide +kernel
theorem dL_law_989 : decode cL_law 989 = .ok (.iload_n 3, 1) := by decide +kernel
theorem dL_law_990 : decode cL_law 990 = .ok (.iconst 2, 1) := by decide +kernel
theorem dL_law_991 : decode cL_law 991 = .ok (.iadd, 1) := by decide +kernel
theorem dL_law_992 : decode cL_law 992 = .ok (.iaload, 1) := by decide +kernel
theorem dL_law_993 : decode cL_law 993 = .ok (.i2l, 1) := by decide +kernel
theorem dL_law_994 : decode cL_law 994 = .ok (.ldc2_w 125, 3) := by decide +kernel
theorem dL_law_997 : decode cL_law 997 = .ok (.land, 1) := by decide +kernel
theorem dL_law_998 : decode cL_law 998 = .ok (.lor, 1) := by decide +kernel
theorem dL_law_999 : decode cL_law 999 = .ok (.invokevirtual 131, 3) := by decide +kernel
theorem dL_law_1002 : decode cL_law 1002 = .ok (.lcmp, 1) := by decide +kernel
theorem dL_law_1003 : decode cL_law 1003 = .ok (.ifCond .eq 74, 3) := by decide +kernel
theorem dL_law_1006 : decode cL_law 1006 = .ok (.iconst 0, 1) := by decide +kernel
theorem dL_law_1007 : decode cL_law 1007 = .ok (.ireturn, 1) := by decide +kernel
theorem dL_law_1008 : decode cL_law 1008 = .ok (.aload_n 1, 1) := by decide +kernel
theorem dL_law_1009 : decode cL_law 1009 = .ok (.aload_n 0, 1) := by decide +kernel
theorem dL_law_1010 : decode cL_law 1010 = .ok (.iload_n 3, 1) := by decide +kernel
theorem dL_law_1011 : decode cL_law 1011 = .ok (.iconst 1, 1) := by decide +kernel
theorem dL_law_1012 : decode cL_law 1012 = .ok (.iadd, 1) := by decide +kernel
theorem dL_law_1013 : decode cL_law 1013 = .ok (.iaload, 1) := by decide +kernel
theorem dL_law_1014 : decode cL_law 1014 = .ok (.invokevirtual 132, 3) := by decide +kernel
theorem dL_law_1017 : decode cL_law 1017 = .ok (.aload_n 2, 1) := by decide +kernel
theorem dL_law_1018 : decode cL_law 1018 = .ok (.aload_n 0, 1) := by decide +kernel
theorem dL_law_1019 : decode cL_law 1019 = .ok (.iload_n 3, 1) := by decide +kernel
theorem dL_law_1020 : decode cL_law 1020 = .ok (.iconst 1, 1) := by decide +kernel
theorem dL_law_1021 : decode cL_law 1021 = .ok (.iadd, 1) := by decide +kernel
theorem dL_law_1022 : decode cL_law 1022 = .ok (.iaload, 1) := by decide +kernel
theorem dL_law_1023 : decode cL_law 1023 = .ok (.invokevirtual 135, 3) := by decide +kernel
theorem dL_law_1026 : decode cL_law 1026 = .ok (.if_icmp .eq 51, 3) := by decide +kernel
theorem dL_law_1029 : decode cL_law 1029 = .ok (.iconst 0, 1) := by decide +kernel
theorem dL_law_1030 : decode cL_law 1030 = .ok (.ireturn, 1) := by decide +kernel
theorem dL_law_1031 : decode cL_law 1031 = .ok (.aload_n 1, 1) := by decide +kernel
theorem dL_law_1032 : decode cL_law 1032 = .ok (.aload_n 0, 1) := by decide +kernel
theorem dL_law_1033 : decode cL_law 1033 = .ok (.iload_n 3, 1) := by decide +kernel
theorem dL_law_1034 : decode cL_law 1034 = .ok (.iconst 1, 1) := by decide +kernel
theorem dL_law_1035 : decode cL_law 1035 = .ok (.iadd, 1) := by decide +kernel
theorem dL_law_1036 : decode cL_law 1036 = .ok (.iaload, 1) := by decide +kernel
theorem dL_law_1037 : decode cL_law 1037 = .ok (.invokevirtual 136, 3) := by decide +kernel
theorem dL_law_1040 : decode cL_law 1040 = .ok (.aload_n 2, 1) := by decide +kernel
theorem dL_law_1041 : decode cL_law 1041 = .ok (.aload_n 0, 1) := by decide +kernel
theorem dL_law_1042 : decode cL_law 1042 = .ok (.iload_n 3, 1) := by decide +kernel
theorem dL_law_1043 : decode cL_law 1043 = .ok (.iconst 1, 1) := by decide +kernel
theorem dL_law_1044 : decode cL_law 1044 = .ok (.iadd, 1) := by decide +kernel
theorem dL_law_1045 : decode cL_law 1045 = .ok (.iaload, 1) := by decide +kernel
theorem dL_law_1046 : decode cL_law 1046 = .ok (.invokevirtual 139, 3) := by decide +kernel
theorem dL_law_1049 : decode cL_law 1049 = .ok (.if_icmp .eq 28, 3) := by decide +kernel
theorem dL_law_1052 : decode cL_law 1052 = .ok (.iconst 0, 1) := by decide +kernel
theorem dL_law_1053 : decode cL_law 1053 = .ok (.ireturn, 1) := by decide +kernel
theorem dL_law_1054 : decode cL_law 1054 = .ok (.aload_n 1, 1) := by decide +kernel
theorem dL_law_1055 : decode cL_law 1055 = .ok (.aload_n 0, 1) := by decide +kernel
theorem dL_law_1056 : decode cL_law 1056 = .ok (.iload_n 3, 1) := by decide +kernel
theorem dL_law_1057 : decode cL_law 1057 = .ok (.iconst 1, 1) := by decide +kernel
theorem dL_law_1058 : decode cL_law 1058 = .ok (.iadd, 1) := by decide +kernel
theorem dL_law_1059 : decode cL_law 1059 = .ok (.iaload, 1) := by decide +kernel
theorem dL_law_1060 : decode cL_law 1060 = .ok (.invokevirtual 140, 3) := by decide +kernel
theorem dL_law_1063 : decode cL_law 1063 = .ok (.aload_n 2, 1) := by decide +kernel
theorem dL_law_1064 : decode cL_law 1064 = .ok (.aload_n 0, 1) := by decide +kernel
theorem dL_law_1065 : decode cL_law 1065 = .ok (.iload_n 3, 1) := by decide +kernel
theorem dL_law_1066 : decode cL_law 1066 = .ok (.iconst 1, 1) := by decide +kernel
theorem dL_law_1067 : decode cL_law 1067 = .ok (.iadd, 1) := by decide +kernel
theorem dL_law_1068 : decode cL_law 1068 = .ok (.iaload, 1) := by decide +kernel
theorem dL_law_1069 : decode cL_law 1069 = .ok (.invokevirtual 143, 3) := by decide +kernel
theorem dL_law_1072 : decode cL_law 1072 = .ok (.if_icmp .eq 5, 3) := by decide +kernel
theorem dL_law_1075 : decode cL_law 1075 = .ok (.iconst 0, 1) := by decide +kernel
theorem dL_law_1076 : decode cL_law 1076 = .ok (.ireturn, 1) := by decide +kernel
theorem dL_law_1077 : decode cL_law 1077 = .ok (.iinc 3 6, 3) := by decide +kernel
theorem dL_law_1080 : decode cL_law 1080 = .ok (.goto (-1062), 3) := by decide +kernel
theorem dL_law_1083 : decode cL_law 1083 = .ok (.iconst 1, 1) := by decide +kernel
theorem dL_law_1084 : decode cL_law 1084 = .ok (.ireturn, 1) := by decide +kernel
end
section
/-! The walk over a world: locals as a list (.null: not known), the world as a list of cells; a row an instruction. -/
def wl_l (ls : Array Slot) (nL : Nat) (lo : List Value) : Prop := lo.length = nL ∧ ls.size = nL ∧ lv_wf ls ∧ ∀ (i : Nat) (v : Value), lo[i]? = some v → v ≠ .null → ls[i]? = some (.val v)
def wl_ok (lo : List Value) : Nat → Bool
  | 0 => true
  | i + 1 => match (lo[i]? : Option Value) with
    | some v => decide (v.category = 1)
    | none => true
def wl_enum (lo : List Value) : List (Nat × Value) := (List.range lo.length).filterMap fun i => match (lo[i]? : Option Value) with
  | some Value.null => none
  | some v => some (i, v)
  | none => none
theorem wl_enum_mem {lo : List Value} {i : Nat} {v : Value} : (i, v) ∈ wl_enum lo ↔ lo[i]? = some v ∧ v ≠ .null := by
  simp only [wl_enum, List.mem_filterMap, List.mem_range]
  constructor
  · rintro ⟨j, hj, h⟩
    cases hq : lo[j]? with
    | none => rw [hq] at h; cases h
    | some w =>
      rw [hq] at h
      cases w <;> simp only [Option.some.injEq, Prod.mk.injEq, reduceCtorEq] at h <;> obtain ⟨rfl, rfl⟩ := h <;> exact ⟨hq, by simp⟩
  · rintro ⟨h, hn⟩
    have hlt := (List.getElem?_eq_some_iff.mp h).1
    refine ⟨i, hlt, ?_⟩
    rw [h]
    cases v <;> first | rfl | exact absurd rfl hn
theorem wl_has {ls : Array Slot} {nL : Nat} {lo : List Value} (h : wl_l ls nL lo) : lv_has ls nL (wl_enum lo) :=
  ⟨h.2.1, h.2.2.1, fun q hq => h.2.2.2 q.1 q.2 (wl_enum_mem.mp hq).1 (wl_enum_mem.mp hq).2⟩
theorem wl_of {ls : Array Slot} {nL : Nat} {lo : List Value} {l : List (Nat × Value)} (hlen : lo.length = nL) (h : lv_has ls nL l) (hs : ∀ (i : Nat) (v : Value), lo[i]? = some v → v ≠ .null → (i, v) ∈ l) : wl_l ls nL lo :=
  ⟨hlen, h.1, h.2.1, fun i v hi hv => h.2.2 (i, v) (hs i v hi hv)⟩
theorem wl_at {ls : Array Slot} {nL : Nat} {lo : List Value} (h : wl_l ls nL lo) {i : Nat} {v : Value} (hk : lo[i]? = some v) (hv : v ≠ .null) : ls[i]? = some (.val v) := h.2.2.2 i v hk hv
theorem wl_store1 {ls' : Array Slot} {nL i : Nat} {lo : List Value} {v : Value} (hlen : lo.length = nL) (hok : wl_ok lo i = true) (h : lv_has ls' nL ((i, v) :: (wl_enum lo).filter (fun q => !(q.1 == i) && !(q.1 + 1 == i && q.2.category == 2)))) : wl_l ls' nL (lo.set i v) := by
  refine wl_of (by rw [List.length_set]; exact hlen) h (fun j w hj hw => ?_)
  rw [List.getElem?_set] at hj
  by_cases hij : i = j
  · subst hij
    rw [if_pos rfl] at hj
    split at hj
    · cases hj; exact List.mem_cons_self
    · cases hj
  · rw [if_neg hij] at hj
    refine List.mem_cons_of_mem _ (List.mem_filter.mpr ⟨wl_enum_mem.mpr ⟨hj, hw⟩, ?_⟩)
    simp only [Bool.and_eq_true, Bool.not_eq_true', beq_eq_false_iff_ne, Bool.and_eq_false_iff]
    refine ⟨fun e => hij e.symm, ?_⟩
    by_cases hj1 : j + 1 = i
    · right
      subst hj1
      simp only [wl_ok, hj, decide_eq_true_eq] at hok
      omega
    · exact Or.inl hj1
theorem wl_store2 {ls' : Array Slot} {nL i : Nat} {lo : List Value} {v : Value} (hlen : lo.length = nL) (hok : wl_ok lo i = true) (h : lv_has ls' nL ((i, v) :: (wl_enum lo).filter (fun q => !(q.1 == i) && (!(q.1 == i + 1) && !(q.1 + 1 == i && q.2.category == 2))))) : wl_l ls' nL ((lo.set i v).set (i + 1) .null) := by
  refine wl_of (by rw [List.length_set, List.length_set]; exact hlen) h (fun j w hj hw => ?_)
  rw [List.getElem?_set] at hj
  by_cases hij1 : i + 1 = j
  · rw [if_pos hij1] at hj
    split at hj
    · cases hj; exact absurd rfl hw
    · cases hj
  rw [if_neg hij1, List.getElem?_set] at hj
  by_cases hij : i = j
  · subst hij
    rw [if_pos rfl] at hj
    split at hj
    · cases hj; exact List.mem_cons_self
    · cases hj
  · rw [if_neg hij] at hj
    refine List.mem_cons_of_mem _ (List.mem_filter.mpr ⟨wl_enum_mem.mpr ⟨hj, hw⟩, ?_⟩)
    simp only [Bool.and_eq_true, Bool.not_eq_true', beq_eq_false_iff_ne, Bool.and_eq_false_iff]
    refine ⟨fun e => hij e.symm, fun e => hij1 e.symm, ?_⟩
    by_cases hj1 : j + 1 = i
    · right
      subst hj1
      simp only [wl_ok, hj, decide_eq_true_eq] at hok
      omega
    · exact Or.inl hj1
/-- the locals at a method's entry -/
def wl_pad (vs : List Value) (n : Nat) : List Value := let l := vs.flatMap (fun v => if v.category = 2 then [v, .null] else [v]); l ++ List.replicate (n - l.length) .null
/-- the standing facts of a walk -/
def CT (p : Program) (s : State) (m : MethodId) (args : Array Value) (meth : Method) (c : Code) (cc : ByteArray) (own : String) (nL : Nat) (A : Nat → Prop) : Prop :=
  p.tables.exec = Jvm.exec ∧ c.code = cc ∧ c.maxLocals = nL ∧ s.vm.findClass own = some m.cls ∧ (∀ w ∈ rg_tbl, w.before args s = true) ∧ (∀ q, s.heap.size ≤ q → A q) ∧ meth.locks = false ∧ NK s
def WW (p : Program) (l : Launch) (e : Env) (R : Room) (s : State) (m : MethodId) (args : Array Value) (below : List Frame) (meth : Method) (c : Code) (Q : State → Prop) (D : va_G) (A : Nat → Prop) (nL : Nat) (tys : List (ClassId × FieldType)) (cells slots : Nat) (pc : Nat) (lo st : List Value) (w : va_W) : Prop :=
  va_K D vwCl tys s → ∀ (H : Heap) (locs : List Loc) (ls : Array Slot), va_P D vwCl w H → va_D A w → va_S A s.heap H locs → wl_l ls nL lo → W p l e R s m args below meth c H locs cells slots Q (F0 m pc ls st)
def bI (b : Bool) : Int32 := if b then 1 else 0
section WWs
variable {p : Program} {l : Launch} {e : Env} {R : Room} {s : State} {m : MethodId} {args : Array Value} {below : List Frame} {meth : Method} {c : Code} {Q : State → Prop} {D : va_G} {A : Nat → Prop} {cc : ByteArray} {own : String} {nL : Nat} {tys : List (ClassId × FieldType)} {cells slots pc : Nat} {lo st : List Value} {w : va_W}
theorem ww_iconst (C0 : CT p s m args meth c cc own nL A) {n : Int} {v : Int32} (hdg : decode cc pc = .ok (.iconst n, 1)) (hv : Int32.ofInt n = v) (k : WW p l e R s m args below meth c Q D A nL tys cells slots (pc + 1) lo (.int v :: st) w) : WW p l e R s m args below meth c Q D A nL tys cells slots pc lo st w :=
  fun hK H locs ls hP hD hS hl => lv_iconst C0.1 C0.2.1 hdg hv (k hK H locs ls hP hD hS hl)
theorem ww_bipush (C0 : CT p s m args meth c cc own nL A) {n : Int} {v : Int32} (hdg : decode cc pc = .ok (.bipush n, 2)) (hv : (Int8.ofInt n).toInt32 = v) (k : WW p l e R s m args below meth c Q D A nL tys cells slots (pc + 2) lo (.int v :: st) w) : WW p l e R s m args below meth c Q D A nL tys cells slots pc lo st w :=
  fun hK H locs ls hP hD hS hl => lv_bipush C0.1 C0.2.1 hdg hv (k hK H locs ls hP hD hS hl)
theorem ww_sipush (C0 : CT p s m args meth c cc own nL A) {n : Int} {v : Int32} (hdg : decode cc pc = .ok (.sipush n, 3)) (hv : (Int16.ofInt n).toInt32 = v) (k : WW p l e R s m args below meth c Q D A nL tys cells slots (pc + 3) lo (.int v :: st) w) : WW p l e R s m args below meth c Q D A nL tys cells slots pc lo st w :=
  fun hK H locs ls hP hD hS hl => lv_sipush C0.1 C0.2.1 hdg hv (k hK H locs ls hP hD hS hl)
theorem ww_lconst (C0 : CT p s m args meth c cc own nL A) {n : Fin 2} {v : Int64} (hdg : decode cc pc = .ok (.lconst n, 1)) (hv : Int64.ofNat (n : Nat) = v) (k : WW p l e R s m args below meth c Q D A nL tys cells slots (pc + 1) lo (.long v :: st) w) : WW p l e R s m args below meth c Q D A nL tys cells slots pc lo st w :=
  fun hK H locs ls hP hD hS hl => lv_lconst C0.1 C0.2.1 hdg hv (k hK H locs ls hP hD hS hl)
theorem ww_ldc2 (C0 : CT p s m args meth c cc own nL A) {index : Nat} {v : Int64} (hin : Cond.constantLong own index v ∈ rg_tbl) (hdg : decode cc pc = .ok (.ldc2_w index, 3)) (k : WW p l e R s m args below meth c Q D A nL tys cells slots (pc + 3) lo (.long v :: st) w) : WW p l e R s m args below meth c Q D A nL tys cells slots pc lo st w :=
  fun hK H locs ls hP hD hS hl => lv_ldc2 C0.1 C0.2.1 C0.2.2.2.1 (C0.2.2.2.2.1 _ hin) hdg (k hK H locs ls hP hD hS hl)
theorem ww_ldcw (C0 : CT p s m args meth c cc own nL A) {index : Nat} {v : Int32} (hin : Cond.constant own index v ∈ rg_tbl) (hdg : decode cc pc = .ok (.ldc_w index, 3)) (k : WW p l e R s m args below meth c Q D A nL tys cells slots (pc + 3) lo (.int v :: st) w) : WW p l e R s m args below meth c Q D A nL tys cells slots pc lo st w :=
  fun hK H locs ls hP hD hS hl => lv_ldcw C0.1 C0.2.1 C0.2.2.2.1 (C0.2.2.2.2.1 _ hin) hdg (k hK H locs ls hP hD hS hl)
theorem ww_iload_n (C0 : CT p s m args meth c cc own nL A) {k : Fin 4} {x : Int32} (hdg : decode cc pc = .ok (.iload_n k, 1)) (hx : lo[(k : Nat)]? = some (.int x)) (kk : WW p l e R s m args below meth c Q D A nL tys cells slots (pc + 1) lo (.int x :: st) w) : WW p l e R s m args below meth c Q D A nL tys cells slots pc lo st w :=
  fun hK H locs ls hP hD hS hl => lv_iload_n C0.1 C0.2.1 hdg rfl (wl_at hl hx (by simp)) (kk hK H locs ls hP hD hS hl)
theorem ww_iload (C0 : CT p s m args meth c cc own nL A) {i : Nat} {x : Int32} (hdg : decode cc pc = .ok (.iload i, 2)) (hx : lo[i]? = some (.int x)) (kk : WW p l e R s m args below meth c Q D A nL tys cells slots (pc + 2) lo (.int x :: st) w) : WW p l e R s m args below meth c Q D A nL tys cells slots pc lo st w :=
  fun hK H locs ls hP hD hS hl => lv_iload C0.1 C0.2.1 hdg (wl_at hl hx (by simp)) (kk hK H locs ls hP hD hS hl)
theorem ww_lload_n (C0 : CT p s m args meth c cc own nL A) {k : Fin 4} {x : Int64} (hdg : decode cc pc = .ok (.lload_n k, 1)) (hx : lo[(k : Nat)]? = some (.long x)) (kk : WW p l e R s m args below meth c Q D A nL tys cells slots (pc + 1) lo (.long x :: st) w) : WW p l e R s m args below meth c Q D A nL tys cells slots pc lo st w :=
  fun hK H locs ls hP hD hS hl => lv_lload_n C0.1 C0.2.1 hdg rfl (wl_at hl hx (by simp)) (kk hK H locs ls hP hD hS hl)
theorem ww_lload (C0 : CT p s m args meth c cc own nL A) {i : Nat} {x : Int64} (hdg : decode cc pc = .ok (.lload i, 2)) (hx : lo[i]? = some (.long x)) (kk : WW p l e R s m args below meth c Q D A nL tys cells slots (pc + 2) lo (.long x :: st) w) : WW p l e R s m args below meth c Q D A nL tys cells slots pc lo st w :=
  fun hK H locs ls hP hD hS hl => lv_lload C0.1 C0.2.1 hdg (wl_at hl hx (by simp)) (kk hK H locs ls hP hD hS hl)
theorem ww_aload_n (C0 : CT p s m args meth c cc own nL A) {k : Fin 4} {x : Nat} (hdg : decode cc pc = .ok (.aload_n k, 1)) (hx : lo[(k : Nat)]? = some (.ref x)) (kk : WW p l e R s m args below meth c Q D A nL tys cells slots (pc + 1) lo (.ref x :: st) w) : WW p l e R s m args below meth c Q D A nL tys cells slots pc lo st w :=
  fun hK H locs ls hP hD hS hl => lv_aload_n C0.1 C0.2.1 hdg rfl (wl_at hl hx (by simp)) (kk hK H locs ls hP hD hS hl)
theorem ww_aload (C0 : CT p s m args meth c cc own nL A) {i : Nat} {x : Nat} (hdg : decode cc pc = .ok (.aload i, 2)) (hx : lo[i]? = some (.ref x)) (kk : WW p l e R s m args below meth c Q D A nL tys cells slots (pc + 2) lo (.ref x :: st) w) : WW p l e R s m args below meth c Q D A nL tys cells slots pc lo st w :=
  fun hK H locs ls hP hD hS hl => lv_aload C0.1 C0.2.1 hdg (wl_at hl hx (by simp)) (kk hK H locs ls hP hD hS hl)
theorem ww_istore_n (C0 : CT p s m args meth c cc own nL A) {k : Fin 4} {i : Nat} {x : Int32} (hdg : decode cc pc = .ok (.istore_n k, 1)) (hki : (k : Nat) = i) (hi : i < lo.length) (hok : wl_ok lo i = true) (kk : WW p l e R s m args below meth c Q D A nL tys cells slots (pc + 1) (lo.set i (.int x)) st w) : WW p l e R s m args below meth c Q D A nL tys cells slots pc lo (.int x :: st) w :=
  fun hK H locs ls hP hD hS hl => lv_istore_n C0.1 C0.2.1 hdg hki (wl_has hl) (by rw [← hl.1]; exact hi) rfl (fun ls' h' => kk hK H locs ls' hP hD hS (wl_store1 hl.1 hok h'))
theorem ww_istore (C0 : CT p s m args meth c cc own nL A) {i : Nat} {x : Int32} (hdg : decode cc pc = .ok (.istore i, 2)) (hi : i < lo.length) (hok : wl_ok lo i = true) (kk : WW p l e R s m args below meth c Q D A nL tys cells slots (pc + 2) (lo.set i (.int x)) st w) : WW p l e R s m args below meth c Q D A nL tys cells slots pc lo (.int x :: st) w :=
  fun hK H locs ls hP hD hS hl => lv_istore C0.1 C0.2.1 hdg (wl_has hl) (by rw [← hl.1]; exact hi) rfl (fun ls' h' => kk hK H locs ls' hP hD hS (wl_store1 hl.1 hok h'))
theorem ww_astore_n (C0 : CT p s m args meth c cc own nL A) {k : Fin 4} {i : Nat} {x : Nat} (hdg : decode cc pc = .ok (.astore_n k, 1)) (hki : (k : Nat) = i) (hi : i < lo.length) (hok : wl_ok lo i = true) (kk : WW p l e R s m args below meth c Q D A nL tys cells slots (pc + 1) (lo.set i (.ref x)) st w) : WW p l e R s m args below meth c Q D A nL tys cells slots pc lo (.ref x :: st) w :=
  fun hK H locs ls hP hD hS hl => lv_astore_n C0.1 C0.2.1 hdg hki (wl_has hl) (by rw [← hl.1]; exact hi) rfl (fun ls' h' => kk hK H locs ls' hP hD hS (wl_store1 hl.1 hok h'))
theorem ww_lstore_n (C0 : CT p s m args meth c cc own nL A) {k : Fin 4} {i : Nat} {x : Int64} (hdg : decode cc pc = .ok (.lstore_n k, 1)) (hki : (k : Nat) = i) (hi : i + 1 < lo.length) (hok : wl_ok lo i = true) (kk : WW p l e R s m args below meth c Q D A nL tys cells slots (pc + 1) ((lo.set i (.long x)).set (i + 1) .null) st w) : WW p l e R s m args below meth c Q D A nL tys cells slots pc lo (.long x :: st) w :=
  fun hK H locs ls hP hD hS hl => lv_lstore_n C0.1 C0.2.1 hdg hki (wl_has hl) (by rw [← hl.1]; exact hi) rfl (fun ls' h' => kk hK H locs ls' hP hD hS (wl_store2 hl.1 hok h'))
theorem ww_iinc (C0 : CT p s m args meth c cc own nL A) {i : Nat} {n : Int} {x d : Int32} (hdg : decode cc pc = .ok (.iinc i n, 3)) (hx : lo[i]? = some (.int x)) (hd : Int32.ofInt n = d) (hok : wl_ok lo i = true) (kk : WW p l e R s m args below meth c Q D A nL tys cells slots (pc + 3) (lo.set i (.int (x + d))) st w) : WW p l e R s m args below meth c Q D A nL tys cells slots pc lo st w := by
  intro hK H locs ls hP hD hS hl
  obtain ⟨q, hq⟩ := List.getElem?_of_mem (wl_enum_mem.mpr ⟨hx, by simp⟩)
  exact lv_iinc C0.1 C0.2.1 hdg (wl_has hl) hq (by rw [hd]) (by rw [← hl.1]; exact (List.getElem?_eq_some_iff.mp hx).1) rfl (fun ls' h' => kk hK H locs ls' hP hD hS (wl_store1 hl.1 hok h'))
theorem ww_iadd (C0 : CT p s m args meth c cc own nL A) {x y : Int32} (hdg : decode cc pc = .ok (.iadd, 1)) (k : WW p l e R s m args below meth c Q D A nL tys cells slots (pc + 1) lo (.int (x + y) :: st) w) : WW p l e R s m args below meth c Q D A nL tys cells slots pc lo (.int y :: .int x :: st) w :=
  fun hK H locs ls hP hD hS hl => lv_iadd C0.1 C0.2.1 hdg (k hK H locs ls hP hD hS hl)
theorem ww_isub (C0 : CT p s m args meth c cc own nL A) {x y : Int32} (hdg : decode cc pc = .ok (.isub, 1)) (k : WW p l e R s m args below meth c Q D A nL tys cells slots (pc + 1) lo (.int (x - y) :: st) w) : WW p l e R s m args below meth c Q D A nL tys cells slots pc lo (.int y :: .int x :: st) w :=
  fun hK H locs ls hP hD hS hl => lv_isub C0.1 C0.2.1 hdg (k hK H locs ls hP hD hS hl)
theorem ww_imul (C0 : CT p s m args meth c cc own nL A) {x y : Int32} (hdg : decode cc pc = .ok (.imul, 1)) (k : WW p l e R s m args below meth c Q D A nL tys cells slots (pc + 1) lo (.int (x * y) :: st) w) : WW p l e R s m args below meth c Q D A nL tys cells slots pc lo (.int y :: .int x :: st) w :=
  fun hK H locs ls hP hD hS hl => lv_imul C0.1 C0.2.1 hdg (k hK H locs ls hP hD hS hl)
theorem ww_iand (C0 : CT p s m args meth c cc own nL A) {x y : Int32} (hdg : decode cc pc = .ok (.iand, 1)) (k : WW p l e R s m args below meth c Q D A nL tys cells slots (pc + 1) lo (.int (x &&& y) :: st) w) : WW p l e R s m args below meth c Q D A nL tys cells slots pc lo (.int y :: .int x :: st) w :=
  fun hK H locs ls hP hD hS hl => lv_iand C0.1 C0.2.1 hdg (k hK H locs ls hP hD hS hl)
theorem ww_ior (C0 : CT p s m args meth c cc own nL A) {x y : Int32} (hdg : decode cc pc = .ok (.ior, 1)) (k : WW p l e R s m args below meth c Q D A nL tys cells slots (pc + 1) lo (.int (x ||| y) :: st) w) : WW p l e R s m args below meth c Q D A nL tys cells slots pc lo (.int y :: .int x :: st) w :=
  fun hK H locs ls hP hD hS hl => lv_ior C0.1 C0.2.1 hdg (k hK H locs ls hP hD hS hl)
theorem ww_ixor (C0 : CT p s m args meth c cc own nL A) {x y : Int32} (hdg : decode cc pc = .ok (.ixor, 1)) (k : WW p l e R s m args below meth c Q D A nL tys cells slots (pc + 1) lo (.int (x ^^^ y) :: st) w) : WW p l e R s m args below meth c Q D A nL tys cells slots pc lo (.int y :: .int x :: st) w :=
  fun hK H locs ls hP hD hS hl => lv_ixor C0.1 C0.2.1 hdg (k hK H locs ls hP hD hS hl)
theorem ww_ishl (C0 : CT p s m args meth c cc own nL A) {x y : Int32} (hdg : decode cc pc = .ok (.ishl, 1)) (k : WW p l e R s m args below meth c Q D A nL tys cells slots (pc + 1) lo (.int (x <<< (y &&& 31)) :: st) w) : WW p l e R s m args below meth c Q D A nL tys cells slots pc lo (.int y :: .int x :: st) w :=
  fun hK H locs ls hP hD hS hl => lv_ishl C0.1 C0.2.1 hdg (k hK H locs ls hP hD hS hl)
theorem ww_ishr (C0 : CT p s m args meth c cc own nL A) {x y : Int32} (hdg : decode cc pc = .ok (.ishr, 1)) (k : WW p l e R s m args below meth c Q D A nL tys cells slots (pc + 1) lo (.int (x >>> (y &&& 31)) :: st) w) : WW p l e R s m args below meth c Q D A nL tys cells slots pc lo (.int y :: .int x :: st) w :=
  fun hK H locs ls hP hD hS hl => lv_ishr C0.1 C0.2.1 hdg (k hK H locs ls hP hD hS hl)
theorem ww_idiv (C0 : CT p s m args meth c cc own nL A) {x y : Int32} (hdg : decode cc pc = .ok (.idiv, 1)) (hne : ¬ y = 0) (k : WW p l e R s m args below meth c Q D A nL tys cells slots (pc + 1) lo (.int (x / y) :: st) w) : WW p l e R s m args below meth c Q D A nL tys cells slots pc lo (.int y :: .int x :: st) w :=
  fun hK H locs ls hP hD hS hl => lv_idiv C0.1 C0.2.1 hdg hne (k hK H locs ls hP hD hS hl)
theorem ww_irem (C0 : CT p s m args meth c cc own nL A) {x y : Int32} (hdg : decode cc pc = .ok (.irem, 1)) (hne : ¬ y = 0) (k : WW p l e R s m args below meth c Q D A nL tys cells slots (pc + 1) lo (.int (x - x / y * y) :: st) w) : WW p l e R s m args below meth c Q D A nL tys cells slots pc lo (.int y :: .int x :: st) w :=
  fun hK H locs ls hP hD hS hl => lv_irem C0.1 C0.2.1 hdg hne (k hK H locs ls hP hD hS hl)
theorem ww_ladd (C0 : CT p s m args meth c cc own nL A) {x y : Int64} (hdg : decode cc pc = .ok (.ladd, 1)) (k : WW p l e R s m args below meth c Q D A nL tys cells slots (pc + 1) lo (.long (x + y) :: st) w) : WW p l e R s m args below meth c Q D A nL tys cells slots pc lo (.long y :: .long x :: st) w :=
  fun hK H locs ls hP hD hS hl => lv_ladd C0.1 C0.2.1 hdg (k hK H locs ls hP hD hS hl)
theorem ww_lmul (C0 : CT p s m args meth c cc own nL A) {x y : Int64} (hdg : decode cc pc = .ok (.lmul, 1)) (k : WW p l e R s m args below meth c Q D A nL tys cells slots (pc + 1) lo (.long (x * y) :: st) w) : WW p l e R s m args below meth c Q D A nL tys cells slots pc lo (.long y :: .long x :: st) w :=
  fun hK H locs ls hP hD hS hl => lv_lmul C0.1 C0.2.1 hdg (k hK H locs ls hP hD hS hl)
theorem ww_land (C0 : CT p s m args meth c cc own nL A) {x y : Int64} (hdg : decode cc pc = .ok (.land, 1)) (k : WW p l e R s m args below meth c Q D A nL tys cells slots (pc + 1) lo (.long (x &&& y) :: st) w) : WW p l e R s m args below meth c Q D A nL tys cells slots pc lo (.long y :: .long x :: st) w :=
  fun hK H locs ls hP hD hS hl => lv_land C0.1 C0.2.1 hdg (k hK H locs ls hP hD hS hl)
theorem ww_lor (C0 : CT p s m args meth c cc own nL A) {x y : Int64} (hdg : decode cc pc = .ok (.lor, 1)) (k : WW p l e R s m args below meth c Q D A nL tys cells slots (pc + 1) lo (.long (x ||| y) :: st) w) : WW p l e R s m args below meth c Q D A nL tys cells slots pc lo (.long y :: .long x :: st) w :=
  fun hK H locs ls hP hD hS hl => lv_lor C0.1 C0.2.1 hdg (k hK H locs ls hP hD hS hl)
theorem ww_lsub (C0 : CT p s m args meth c cc own nL A) {x y : Int64} (hdg : decode cc pc = .ok (.lsub, 1)) (k : WW p l e R s m args below meth c Q D A nL tys cells slots (pc + 1) lo (.long (x - y) :: st) w) : WW p l e R s m args below meth c Q D A nL tys cells slots pc lo (.long y :: .long x :: st) w :=
  fun hK H locs ls hP hD hS hl => lv_lsub C0.1 C0.2.1 hdg (k hK H locs ls hP hD hS hl)
theorem ww_lrem (C0 : CT p s m args meth c cc own nL A) {x y : Int64} (hdg : decode cc pc = .ok (.lrem, 1)) (hne : ¬ y = 0) (k : WW p l e R s m args below meth c Q D A nL tys cells slots (pc + 1) lo (.long (x - x / y * y) :: st) w) : WW p l e R s m args below meth c Q D A nL tys cells slots pc lo (.long y :: .long x :: st) w :=
  fun hK H locs ls hP hD hS hl => lv_lrem C0.1 C0.2.1 hdg hne (k hK H locs ls hP hD hS hl)
theorem ww_iushr (C0 : CT p s m args meth c cc own nL A) {x y : Int32} (hdg : decode cc pc = .ok (.iushr, 1)) (k : WW p l e R s m args below meth c Q D A nL tys cells slots (pc + 1) lo (.int (x.toUInt32 >>> (y.toUInt32 &&& Int32.toUInt32 31)).toInt32 :: st) w) : WW p l e R s m args below meth c Q D A nL tys cells slots pc lo (.int y :: .int x :: st) w :=
  fun hK H locs ls hP hD hS hl => lv_iushr C0.1 C0.2.1 hdg rfl (k hK H locs ls hP hD hS hl)
theorem ww_lushr (C0 : CT p s m args meth c cc own nL A) {x : Int64} {y : Int32} (hdg : decode cc pc = .ok (.lushr, 1)) (k : WW p l e R s m args below meth c Q D A nL tys cells slots (pc + 1) lo (.long (x.toUInt64 >>> (y.toInt64.toUInt64 &&& Int64.toUInt64 63)).toInt64 :: st) w) : WW p l e R s m args below meth c Q D A nL tys cells slots pc lo (.int y :: .long x :: st) w :=
  fun hK H locs ls hP hD hS hl => lv_lushr C0.1 C0.2.1 hdg rfl (k hK H locs ls hP hD hS hl)
theorem ww_lshl (C0 : CT p s m args meth c cc own nL A) {x : Int64} {y : Int32} (hdg : decode cc pc = .ok (.lshl, 1)) (k : WW p l e R s m args below meth c Q D A nL tys cells slots (pc + 1) lo (.long (x <<< (y.toInt64 &&& 63)) :: st) w) : WW p l e R s m args below meth c Q D A nL tys cells slots pc lo (.int y :: .long x :: st) w :=
  fun hK H locs ls hP hD hS hl => lv_lshl C0.1 C0.2.1 hdg rfl (k hK H locs ls hP hD hS hl)
theorem ww_ineg (C0 : CT p s m args meth c cc own nL A) {x : Int32} (hdg : decode cc pc = .ok (.ineg, 1)) (k : WW p l e R s m args below meth c Q D A nL tys cells slots (pc + 1) lo (.int (-x) :: st) w) : WW p l e R s m args below meth c Q D A nL tys cells slots pc lo (.int x :: st) w :=
  fun hK H locs ls hP hD hS hl => lv_ineg C0.1 C0.2.1 hdg (k hK H locs ls hP hD hS hl)
theorem ww_i2l (C0 : CT p s m args meth c cc own nL A) {x : Int32} (hdg : decode cc pc = .ok (.i2l, 1)) (k : WW p l e R s m args below meth c Q D A nL tys cells slots (pc + 1) lo (.long x.toInt64 :: st) w) : WW p l e R s m args below meth c Q D A nL tys cells slots pc lo (.int x :: st) w :=
  fun hK H locs ls hP hD hS hl => lv_i2l C0.1 C0.2.1 hdg rfl (k hK H locs ls hP hD hS hl)
theorem ww_l2i (C0 : CT p s m args meth c cc own nL A) {x : Int64} (hdg : decode cc pc = .ok (.l2i, 1)) (k : WW p l e R s m args below meth c Q D A nL tys cells slots (pc + 1) lo (.int x.toInt32 :: st) w) : WW p l e R s m args below meth c Q D A nL tys cells slots pc lo (.long x :: st) w :=
  fun hK H locs ls hP hD hS hl => lv_l2i C0.1 C0.2.1 hdg rfl (k hK H locs ls hP hD hS hl)
theorem ww_lcmp (C0 : CT p s m args meth c cc own nL A) {x y : Int64} (hdg : decode cc pc = .ok (.lcmp, 1)) (k : WW p l e R s m args below meth c Q D A nL tys cells slots (pc + 1) lo (.int (lg_cmp x y) :: st) w) : WW p l e R s m args below meth c Q D A nL tys cells slots pc lo (.long y :: .long x :: st) w :=
  fun hK H locs ls hP hD hS hl => W.lcmp C0.1 C0.2.1 hdg (k hK H locs ls hP hD hS hl)
theorem ww_dup (C0 : CT p s m args meth c cc own nL A) {va : Value} (hdg : decode cc pc = .ok (.dup, 1)) (hva : va.category = 1) (k : WW p l e R s m args below meth c Q D A nL tys cells slots (pc + 1) lo (va :: va :: st) w) : WW p l e R s m args below meth c Q D A nL tys cells slots pc lo (va :: st) w :=
  fun hK H locs ls hP hD hS hl => lv_dup C0.1 C0.2.1 hdg hva (k hK H locs ls hP hD hS hl)
theorem ww_dup2 (C0 : CT p s m args meth c cc own nL A) {va vb : Value} (hdg : decode cc pc = .ok (.dup2, 1)) (hva : va.category = 1) (hvb : vb.category = 1) (k : WW p l e R s m args below meth c Q D A nL tys cells slots (pc + 1) lo (va :: vb :: va :: vb :: st) w) : WW p l e R s m args below meth c Q D A nL tys cells slots pc lo (va :: vb :: st) w :=
  fun hK H locs ls hP hD hS hl => lv_dup2_11 C0.1 C0.2.1 hdg hva hvb (k hK H locs ls hP hD hS hl)
theorem ww_if_eq (C0 : CT p s m args meth c cc own nL A) {x : Int32} {off : Int} {tgt : Nat} (hdg : decode cc pc = .ok (.ifCond .eq off, 3)) (ht : (pc : Int) + off = (tgt : Int)) (kt : (x = 0) → WW p l e R s m args below meth c Q D A nL tys cells slots tgt lo st w) (kf : (¬ x = 0) → WW p l e R s m args below meth c Q D A nL tys cells slots (pc + 3) lo st w) : WW p l e R s m args below meth c Q D A nL tys cells slots pc lo (.int x :: st) w :=
  fun hK H locs ls hP hD hS hl => lv_if_eq C0.1 C0.2.1 hdg ht (fun h => kt h hK H locs ls hP hD hS hl) (fun h => kf h hK H locs ls hP hD hS hl)
theorem ww_icmp_eq (C0 : CT p s m args meth c cc own nL A) {x y : Int32} {off : Int} {tgt : Nat} (hdg : decode cc pc = .ok (.if_icmp .eq off, 3)) (ht : (pc : Int) + off = (tgt : Int)) (kt : (x = y) → WW p l e R s m args below meth c Q D A nL tys cells slots tgt lo st w) (kf : (¬ x = y) → WW p l e R s m args below meth c Q D A nL tys cells slots (pc + 3) lo st w) : WW p l e R s m args below meth c Q D A nL tys cells slots pc lo (.int y :: .int x :: st) w :=
  fun hK H locs ls hP hD hS hl => lv_icmp_eq C0.1 C0.2.1 hdg ht (fun h => kt h hK H locs ls hP hD hS hl) (fun h => kf h hK H locs ls hP hD hS hl)
theorem ww_if_ne (C0 : CT p s m args meth c cc own nL A) {x : Int32} {off : Int} {tgt : Nat} (hdg : decode cc pc = .ok (.ifCond .ne off, 3)) (ht : (pc : Int) + off = (tgt : Int)) (kt : (¬ x = 0) → WW p l e R s m args below meth c Q D A nL tys cells slots tgt lo st w) (kf : (x = 0) → WW p l e R s m args below meth c Q D A nL tys cells slots (pc + 3) lo st w) : WW p l e R s m args below meth c Q D A nL tys cells slots pc lo (.int x :: st) w :=
  fun hK H locs ls hP hD hS hl => lv_if_ne C0.1 C0.2.1 hdg ht (fun h => kt h hK H locs ls hP hD hS hl) (fun h => kf h hK H locs ls hP hD hS hl)
theorem ww_icmp_ne (C0 : CT p s m args meth c cc own nL A) {x y : Int32} {off : Int} {tgt : Nat} (hdg : decode cc pc = .ok (.if_icmp .ne off, 3)) (ht : (pc : Int) + off = (tgt : Int)) (kt : (¬ x = y) → WW p l e R s m args below meth c Q D A nL tys cells slots tgt lo st w) (kf : (x = y) → WW p l e R s m args below meth c Q D A nL tys cells slots (pc + 3) lo st w) : WW p l e R s m args below meth c Q D A nL tys cells slots pc lo (.int y :: .int x :: st) w :=
  fun hK H locs ls hP hD hS hl => lv_icmp_ne C0.1 C0.2.1 hdg ht (fun h => kt h hK H locs ls hP hD hS hl) (fun h => kf h hK H locs ls hP hD hS hl)
theorem ww_if_lt (C0 : CT p s m args meth c cc own nL A) {x : Int32} {off : Int} {tgt : Nat} (hdg : decode cc pc = .ok (.ifCond .lt off, 3)) (ht : (pc : Int) + off = (tgt : Int)) (kt : (x < 0) → WW p l e R s m args below meth c Q D A nL tys cells slots tgt lo st w) (kf : (¬ x < 0) → WW p l e R s m args below meth c Q D A nL tys cells slots (pc + 3) lo st w) : WW p l e R s m args below meth c Q D A nL tys cells slots pc lo (.int x :: st) w :=
  fun hK H locs ls hP hD hS hl => lv_if_lt C0.1 C0.2.1 hdg ht (fun h => kt h hK H locs ls hP hD hS hl) (fun h => kf h hK H locs ls hP hD hS hl)
theorem ww_icmp_lt (C0 : CT p s m args meth c cc own nL A) {x y : Int32} {off : Int} {tgt : Nat} (hdg : decode cc pc = .ok (.if_icmp .lt off, 3)) (ht : (pc : Int) + off = (tgt : Int)) (kt : (x < y) → WW p l e R s m args below meth c Q D A nL tys cells slots tgt lo st w) (kf : (¬ x < y) → WW p l e R s m args below meth c Q D A nL tys cells slots (pc + 3) lo st w) : WW p l e R s m args below meth c Q D A nL tys cells slots pc lo (.int y :: .int x :: st) w :=
  fun hK H locs ls hP hD hS hl => lv_icmp_lt C0.1 C0.2.1 hdg ht (fun h => kt h hK H locs ls hP hD hS hl) (fun h => kf h hK H locs ls hP hD hS hl)
theorem ww_if_ge (C0 : CT p s m args meth c cc own nL A) {x : Int32} {off : Int} {tgt : Nat} (hdg : decode cc pc = .ok (.ifCond .ge off, 3)) (ht : (pc : Int) + off = (tgt : Int)) (kt : (0 ≤ x) → WW p l e R s m args below meth c Q D A nL tys cells slots tgt lo st w) (kf : (¬ 0 ≤ x) → WW p l e R s m args below meth c Q D A nL tys cells slots (pc + 3) lo st w) : WW p l e R s m args below meth c Q D A nL tys cells slots pc lo (.int x :: st) w :=
  fun hK H locs ls hP hD hS hl => lv_if_ge C0.1 C0.2.1 hdg ht (fun h => kt h hK H locs ls hP hD hS hl) (fun h => kf h hK H locs ls hP hD hS hl)
theorem ww_icmp_ge (C0 : CT p s m args meth c cc own nL A) {x y : Int32} {off : Int} {tgt : Nat} (hdg : decode cc pc = .ok (.if_icmp .ge off, 3)) (ht : (pc : Int) + off = (tgt : Int)) (kt : (y ≤ x) → WW p l e R s m args below meth c Q D A nL tys cells slots tgt lo st w) (kf : (¬ y ≤ x) → WW p l e R s m args below meth c Q D A nL tys cells slots (pc + 3) lo st w) : WW p l e R s m args below meth c Q D A nL tys cells slots pc lo (.int y :: .int x :: st) w :=
  fun hK H locs ls hP hD hS hl => lv_icmp_ge C0.1 C0.2.1 hdg ht (fun h => kt h hK H locs ls hP hD hS hl) (fun h => kf h hK H locs ls hP hD hS hl)
theorem ww_if_gt (C0 : CT p s m args meth c cc own nL A) {x : Int32} {off : Int} {tgt : Nat} (hdg : decode cc pc = .ok (.ifCond .gt off, 3)) (ht : (pc : Int) + off = (tgt : Int)) (kt : (0 < x) → WW p l e R s m args below meth c Q D A nL tys cells slots tgt lo st w) (kf : (¬ 0 < x) → WW p l e R s m args below meth c Q D A nL tys cells slots (pc + 3) lo st w) : WW p l e R s m args below meth c Q D A nL tys cells slots pc lo (.int x :: st) w :=
  fun hK H locs ls hP hD hS hl => lv_if_gt C0.1 C0.2.1 hdg ht (fun h => kt h hK H locs ls hP hD hS hl) (fun h => kf h hK H locs ls hP hD hS hl)
theorem ww_icmp_gt (C0 : CT p s m args meth c cc own nL A) {x y : Int32} {off : Int} {tgt : Nat} (hdg : decode cc pc = .ok (.if_icmp .gt off, 3)) (ht : (pc : Int) + off = (tgt : Int)) (kt : (y < x) → WW p l e R s m args below meth c Q D A nL tys cells slots tgt lo st w) (kf : (¬ y < x) → WW p l e R s m args below meth c Q D A nL tys cells slots (pc + 3) lo st w) : WW p l e R s m args below meth c Q D A nL tys cells slots pc lo (.int y :: .int x :: st) w :=
  fun hK H locs ls hP hD hS hl => lv_icmp_gt C0.1 C0.2.1 hdg ht (fun h => kt h hK H locs ls hP hD hS hl) (fun h => kf h hK H locs ls hP hD hS hl)
theorem ww_if_le (C0 : CT p s m args meth c cc own nL A) {x : Int32} {off : Int} {tgt : Nat} (hdg : decode cc pc = .ok (.ifCond .le off, 3)) (ht : (pc : Int) + off = (tgt : Int)) (kt : (x ≤ 0) → WW p l e R s m args below meth c Q D A nL tys cells slots tgt lo st w) (kf : (¬ x ≤ 0) → WW p l e R s m args below meth c Q D A nL tys cells slots (pc + 3) lo st w) : WW p l e R s m args below meth c Q D A nL tys cells slots pc lo (.int x :: st) w :=
  fun hK H locs ls hP hD hS hl => lv_if_le C0.1 C0.2.1 hdg ht (fun h => kt h hK H locs ls hP hD hS hl) (fun h => kf h hK H locs ls hP hD hS hl)
theorem ww_icmp_le (C0 : CT p s m args meth c cc own nL A) {x y : Int32} {off : Int} {tgt : Nat} (hdg : decode cc pc = .ok (.if_icmp .le off, 3)) (ht : (pc : Int) + off = (tgt : Int)) (kt : (x ≤ y) → WW p l e R s m args below meth c Q D A nL tys cells slots tgt lo st w) (kf : (¬ x ≤ y) → WW p l e R s m args below meth c Q D A nL tys cells slots (pc + 3) lo st w) : WW p l e R s m args below meth c Q D A nL tys cells slots pc lo (.int y :: .int x :: st) w :=
  fun hK H locs ls hP hD hS hl => lv_icmp_le C0.1 C0.2.1 hdg ht (fun h => kt h hK H locs ls hP hD hS hl) (fun h => kf h hK H locs ls hP hD hS hl)
theorem ww_goto (C0 : CT p s m args meth c cc own nL A) {off : Int} {tgt : Nat} (hdg : decode cc pc = .ok (.goto off, 3)) (ht : (pc : Int) + off = (tgt : Int)) (k : WW p l e R s m args below meth c Q D A nL tys cells slots tgt lo st w) : WW p l e R s m args below meth c Q D A nL tys cells slots pc lo st w :=
  fun hK H locs ls hP hD hS hl => lv_goto C0.1 C0.2.1 hdg ht (k hK H locs ls hP hD hS hl)
theorem ww_tableIn (C0 : CT p s m args meth c cc own nL A) {dflt lo1 hi : Int} {offs : Array Int} {len : Nat} {x : Int32} {off : Int} {tgt : Nat} (hdg : decode cc pc = .ok (.tableswitch dflt lo1 hi offs, len)) (h1 : ¬ x.toInt < lo1) (h2 : ¬ hi < x.toInt) (ho : offs[(x.toInt - lo1).toNat]? = some off) (ht : (pc : Int) + off = (tgt : Int)) (k : WW p l e R s m args below meth c Q D A nL tys cells slots tgt lo st w) : WW p l e R s m args below meth c Q D A nL tys cells slots pc lo (.int x :: st) w :=
  fun hK H locs ls hP hD hS hl => lv_tableIn C0.1 C0.2.1 hdg h1 h2 ho ht (k hK H locs ls hP hD hS hl)
theorem ww_tableOut (C0 : CT p s m args meth c cc own nL A) {dflt lo1 hi : Int} {offs : Array Int} {len : Nat} {x : Int32} {tgt : Nat} (hdg : decode cc pc = .ok (.tableswitch dflt lo1 hi offs, len)) (h : x.toInt < lo1 ∨ hi < x.toInt) (ht : (pc : Int) + dflt = (tgt : Int)) (k : WW p l e R s m args below meth c Q D A nL tys cells slots tgt lo st w) : WW p l e R s m args below meth c Q D A nL tys cells slots pc lo (.int x :: st) w :=
  fun hK H locs ls hP hD hS hl => lv_tableOut C0.1 C0.2.1 hdg h ht (k hK H locs ls hP hD hS hl)
theorem ww_lookup (C0 : CT p s m args meth c cc own nL A) {dflt : Int} {ps : Array (Int × Int)} {len : Nat} {x : Int32} {off : Int} {tgt : Nat} (hdg : decode cc pc = .ok (.lookupswitch dflt ps, len)) (hp : (ps.toList.zip (ps.toList.drop 1)).all (fun (a, next) => a.1 < next.1) = true) (ho : Op.lookupswitch.offset ps.toList dflt x.toInt = off) (ht : (pc : Int) + off = (tgt : Int)) (k : WW p l e R s m args below meth c Q D A nL tys cells slots tgt lo st w) : WW p l e R s m args below meth c Q D A nL tys cells slots pc lo (.int x :: st) w :=
  fun hK H locs ls hP hD hS hl => lv_lookup C0.1 C0.2.1 hdg hp ho ht (k hK H locs ls hP hD hS hl)
theorem ww_ifnull (C0 : CT p s m args meth c cc own nL A) {x : Nat} {off : Int} (hdg : decode cc pc = .ok (.ifnull off, 3)) (k : WW p l e R s m args below meth c Q D A nL tys cells slots (pc + 3) lo st w) : WW p l e R s m args below meth c Q D A nL tys cells slots pc lo (.ref x :: st) w :=
  fun hK H locs ls hP hD hS hl => lv_ifnull C0.1 C0.2.1 hdg (k hK H locs ls hP hD hS hl)
theorem ww_ifnonnull (C0 : CT p s m args meth c cc own nL A) {x : Nat} {off : Int} {tgt : Nat} (hdg : decode cc pc = .ok (.ifnonnull off, 3)) (ht : (pc : Int) + off = (tgt : Int)) (k : WW p l e R s m args below meth c Q D A nL tys cells slots tgt lo st w) : WW p l e R s m args below meth c Q D A nL tys cells slots pc lo (.ref x :: st) w :=
  fun hK H locs ls hP hD hS hl => lv_ifnonnull C0.1 C0.2.1 hdg ht (k hK H locs ls hP hD hS hl)
theorem ww_get (C0 : CT p s m args meth c cc own nL A) {a ci : Nat} {C : String} {T : u_T} {N : Nat} {index : Nat} (hin : ∀ w ∈ u_ws C T N, w ∈ rg_tbl) (q0 : Nat) {fs : List Value} (he : w[q0]? = some (a, .inr (ci, fs))) (hc : vwCl[ci]? = some (C, T, N)) (k : Nat) (hk : k < N) (hlink : Cond.fieldLink own index (T k).1 (T k).2.1 (T k).2.2.1 ∈ rg_tbl) {v : Value} (hv : fs[k]? = some v) (hdg : decode cc pc = .ok (.getfield index, 3)) (kk : WW p l e R s m args below meth c Q D A nL tys cells slots (pc + 3) lo (v :: st) w) : WW p l e R s m args below meth c Q D A nL tys cells slots pc lo (.ref a :: st) w :=
  fun hK H locs ls hP hD hS hl => va_get C0.1 C0.2.1 C0.2.2.2.2.1 hin C0.2.2.2.1 hK hP q0 he hc k hk (C0.2.2.2.2.1 _ hlink) (fun _ h9 => h9) hv hdg (kk hK H locs ls hP hD hS hl)
theorem ww_getN (C0 : CT p s m args meth c cc own nL A) {a ci : Nat} {C : String} {T : u_T} {N : Nat} {host : String} {index : Nat} (hin : ∀ w ∈ u_ws C T N, w ∈ rg_tbl) (q0 : Nat) {fs : List Value} (he : w[q0]? = some (a, .inr (ci, fs))) (hc : vwCl[ci]? = some (C, T, N)) (k : Nat) (hk : k < N) (hlink : Cond.fieldLinkNest own index (T k).1 (T k).2.1 (T k).2.2.1 host ∈ nk_tbl) {v : Value} (hv : fs[k]? = some v) (hdg : decode cc pc = .ok (.getfield index, 3)) (kk : WW p l e R s m args below meth c Q D A nL tys cells slots (pc + 3) lo (v :: st) w) : WW p l e R s m args below meth c Q D A nL tys cells slots pc lo (.ref a :: st) w :=
  fun hK H locs ls hP hD hS hl => va_getN C0.1 C0.2.1 C0.2.2.2.2.1 hin C0.2.2.2.1 hK hP q0 he hc k hk (va_Nw.use rfl (C0.2.2.2.2.2.2.2 _ hlink)) (fun _ h9 => h9) hv hdg (kk hK H locs ls hP hD hS hl)
theorem ww_put (C0 : CT p s m args meth c cc own nL A) {a ci : Nat} {C : String} {T : u_T} {N : Nat} {index : Nat} (hin : ∀ w ∈ u_ws C T N, w ∈ rg_tbl) (q0 : Nat) {fs : List Value} (he : w[q0]? = some (a, .inr (ci, fs))) (hc : vwCl[ci]? = some (C, T, N)) (k : Nat) (hk : k < N) (ty0 : Nat → FieldType) (hty : ∀ k, k < N → parseFieldDescriptor (T k).2.2.1 = some (ty0 k)) (hnm : ∀ a, a < N → ∀ b, b < N → a ≠ b → (T a).2.1 ≠ (T b).2.1) (hlink : Cond.fieldLink own index (T k).1 (T k).2.1 (T k).2.2.1 ∈ rg_tbl) (hfin : (T k).2.2.2 = false) {ty : FieldType} {v : Value} (hd : parseFieldDescriptor (T k).2.2.1 = some ty) (hn : narrow ty v = v) (hfit : fits ty v = true) (hl0 : k < fs.length) (hdg : decode cc pc = .ok (.putfield index, 3)) (kk : WW p l e R s m args below meth c Q D A nL tys cells slots (pc + 3) lo st (w.set q0 (a, .inr (ci, fs.set k v)))) : WW p l e R s m args below meth c Q D A nL tys cells slots pc lo (v :: .ref a :: st) w :=
  fun hK H locs ls hP hD hS hl => va_put C0.1 C0.2.1 C0.2.2.2.2.1 hin ty0 hty hnm C0.2.2.2.1 hK hP hD hS q0 he hc k hk (C0.2.2.2.2.1 _ hlink) (fun _ h9 => h9) hfin hd hn hfit hl0 hdg (fun H1 locs1 hP1 hD1 hS1 => kk hK H1 locs1 ls hP1 hD1 hS1 hl)
theorem ww_putN (C0 : CT p s m args meth c cc own nL A) {a ci : Nat} {C : String} {T : u_T} {N : Nat} {host : String} {index : Nat} (hin : ∀ w ∈ u_ws C T N, w ∈ rg_tbl) (q0 : Nat) {fs : List Value} (he : w[q0]? = some (a, .inr (ci, fs))) (hc : vwCl[ci]? = some (C, T, N)) (k : Nat) (hk : k < N) (ty0 : Nat → FieldType) (hty : ∀ k, k < N → parseFieldDescriptor (T k).2.2.1 = some (ty0 k)) (hnm : ∀ a, a < N → ∀ b, b < N → a ≠ b → (T a).2.1 ≠ (T b).2.1) (hlink : Cond.fieldLinkNest own index (T k).1 (T k).2.1 (T k).2.2.1 host ∈ nk_tbl) (hfin : (T k).2.2.2 = false) {ty : FieldType} {v : Value} (hd : parseFieldDescriptor (T k).2.2.1 = some ty) (hn : narrow ty v = v) (hfit : fits ty v = true) (hl0 : k < fs.length) (hdg : decode cc pc = .ok (.putfield index, 3)) (kk : WW p l e R s m args below meth c Q D A nL tys cells slots (pc + 3) lo st (w.set q0 (a, .inr (ci, fs.set k v)))) : WW p l e R s m args below meth c Q D A nL tys cells slots pc lo (v :: .ref a :: st) w :=
  fun hK H locs ls hP hD hS hl => va_putN C0.1 C0.2.1 C0.2.2.2.2.1 hin ty0 hty hnm C0.2.2.2.1 hK hP hD hS q0 he hc k hk (va_Nw.use rfl (C0.2.2.2.2.2.2.2 _ hlink)) (fun _ h9 => h9) hfin hd hn hfit hl0 hdg (fun H1 locs1 hP1 hD1 hS1 => kk hK H1 locs1 ls hP1 hD1 hS1 hl)
theorem ww_putF (C0 : CT p s m args meth c cc own nL A) (hinit : meth.name = "<init>") {a ci : Nat} {C : String} {T : u_T} {N : Nat} {index : Nat} (hin : ∀ w ∈ u_ws C T N, w ∈ rg_tbl) (q0 : Nat) {fs : List Value} (he : w[q0]? = some (a, .inr (ci, fs))) (hc : vwCl[ci]? = some (C, T, N)) (k : Nat) (hk : k < N) (ty0 : Nat → FieldType) (hty : ∀ k, k < N → parseFieldDescriptor (T k).2.2.1 = some (ty0 k)) (hnm : ∀ a, a < N → ∀ b, b < N → a ≠ b → (T a).2.1 ≠ (T b).2.1) (hlink : Cond.fieldLink own index (T k).1 (T k).2.1 (T k).2.2.1 ∈ rg_tbl) (hfin : (T k).2.2.2 = true) (hdecl : (T k).1 = own) {ty : FieldType} {v : Value} (hd : parseFieldDescriptor (T k).2.2.1 = some ty) (hn : narrow ty v = v) (hfit : fits ty v = true) (hl0 : k < fs.length) (hdg : decode cc pc = .ok (.putfield index, 3)) (kk : WW p l e R s m args below meth c Q D A nL tys cells slots (pc + 3) lo st (w.set q0 (a, .inr (ci, fs.set k v)))) : WW p l e R s m args below meth c Q D A nL tys cells slots pc lo (v :: .ref a :: st) w :=
  fun hK H locs ls hP hD hS hl => va_putF C0.1 C0.2.1 C0.2.2.2.2.1 hin ty0 hty hnm C0.2.2.2.1 hK hP hD hS q0 he hc k hk (C0.2.2.2.2.1 _ hlink) (fun _ h9 => h9) hfin hinit hdecl hd hn hfit hl0 hdg (fun H1 locs1 hP1 hD1 hS1 => kk hK H1 locs1 ls hP1 hD1 hS1 hl)
theorem ww_iald (C0 : CT p s m args meth c cc own nL A) {a : Nat} (q0 t0 : Nat) {cA : ClassId} {n : Nat} {f : Nat → Int32} (ha : w[q0]? = some (a, .inl (cA, n, .inl f))) (ht : tys[t0]? = some (cA, .int)) {i : Int32} (hin : vp_in i n) (hdg : decode cc pc = .ok (.iaload, 1)) (kk : WW p l e R s m args below meth c Q D A nL tys cells slots (pc + 1) lo (.int (f i.toNatClampNeg) :: st) w) : WW p l e R s m args below meth c Q D A nL tys cells slots pc lo (.int i :: .ref a :: st) w :=
  fun hK H locs ls hP hD hS hl => va_iald C0.1 C0.2.1 hK hP q0 t0 ha ht hin hdg (kk hK H locs ls hP hD hS hl)
theorem ww_iald_n (C0 : CT p s m args meth c cc own nL A) {a : Nat} (q0 t0 : Nat) {cA : ClassId} {n : Nat} {f : Nat → Int32} (ha : w[q0]? = some (a, .inl (cA, n, .inl f))) (ht : tys[t0]? = some (cA, .int)) {i : Int32} {j : Nat} (hi : i = nI j) (hj : j < n) (hn : n < 2 ^ 31) (hdg : decode cc pc = .ok (.iaload, 1)) (kk : WW p l e R s m args below meth c Q D A nL tys cells slots (pc + 1) lo (.int (f j) :: st) w) : WW p l e R s m args below meth c Q D A nL tys cells slots pc lo (.int i :: .ref a :: st) w := by
  subst hi
  exact ww_iald C0 q0 t0 ha ht (vp_in_nI hj hn) hdg (by rw [nI_clamp (by omega)]; exact kk)
theorem ww_zald (C0 : CT p s m args meth c cc own nL A) {a : Nat} (q0 t0 : Nat) {cA : ClassId} {n : Nat} {f : Nat → Int32} (ha : w[q0]? = some (a, .inl (cA, n, .inl f))) (ht : tys[t0]? = some (cA, .boolean)) {i : Int32} (hin : vp_in i n) (hdg : decode cc pc = .ok (.baload, 1)) (kk : WW p l e R s m args below meth c Q D A nL tys cells slots (pc + 1) lo (.int (f i.toNatClampNeg) :: st) w) : WW p l e R s m args below meth c Q D A nL tys cells slots pc lo (.int i :: .ref a :: st) w :=
  fun hK H locs ls hP hD hS hl => va_zald C0.1 C0.2.1 hK hP q0 t0 ha ht hin hdg (kk hK H locs ls hP hD hS hl)
theorem ww_zald_n (C0 : CT p s m args meth c cc own nL A) {a : Nat} (q0 t0 : Nat) {cA : ClassId} {n : Nat} {f : Nat → Int32} (ha : w[q0]? = some (a, .inl (cA, n, .inl f))) (ht : tys[t0]? = some (cA, .boolean)) {i : Int32} {j : Nat} (hi : i = nI j) (hj : j < n) (hn : n < 2 ^ 31) (hdg : decode cc pc = .ok (.baload, 1)) (kk : WW p l e R s m args below meth c Q D A nL tys cells slots (pc + 1) lo (.int (f j) :: st) w) : WW p l e R s m args below meth c Q D A nL tys cells slots pc lo (.int i :: .ref a :: st) w := by
  subst hi
  exact ww_zald C0 q0 t0 ha ht (vp_in_nI hj hn) hdg (by rw [nI_clamp (by omega)]; exact kk)
theorem ww_iast (C0 : CT p s m args meth c cc own nL A) {a : Nat} (q0 t0 : Nat) {cA : ClassId} {n : Nat} {f : Nat → Int32} (ha : w[q0]? = some (a, .inl (cA, n, .inl f))) (ht : tys[t0]? = some (cA, .int)) {i x : Int32} (hin : vp_in i n) (hdg : decode cc pc = .ok (.iastore, 1)) (kk : WW p l e R s m args below meth c Q D A nL tys cells slots (pc + 1) lo st (w.set q0 (a, .inl (cA, n, .inl (upd f i.toNatClampNeg x))))) : WW p l e R s m args below meth c Q D A nL tys cells slots pc lo (.int x :: .int i :: .ref a :: st) w :=
  fun hK H locs ls hP hD hS hl => va_iast C0.1 C0.2.1 hK hP hD hS q0 t0 ha ht hin hdg (fun H1 locs1 hP1 hD1 hS1 => kk hK H1 locs1 ls hP1 hD1 hS1 hl)
theorem ww_iast_n (C0 : CT p s m args meth c cc own nL A) {a : Nat} (q0 t0 : Nat) {cA : ClassId} {n : Nat} {f : Nat → Int32} (ha : w[q0]? = some (a, .inl (cA, n, .inl f))) (ht : tys[t0]? = some (cA, .int)) {i x : Int32} {j : Nat} (hi : i = nI j) (hj : j < n) (hn : n < 2 ^ 31) (hdg : decode cc pc = .ok (.iastore, 1)) (kk : WW p l e R s m args below meth c Q D A nL tys cells slots (pc + 1) lo st (w.set q0 (a, .inl (cA, n, .inl (upd f j x))))) : WW p l e R s m args below meth c Q D A nL tys cells slots pc lo (.int x :: .int i :: .ref a :: st) w := by
  subst hi
  exact ww_iast C0 q0 t0 ha ht (vp_in_nI hj hn) hdg (by rw [nI_clamp (by omega)]; exact kk)
theorem ww_zast (C0 : CT p s m args meth c cc own nL A) {a : Nat} (q0 t0 : Nat) {cA : ClassId} {n : Nat} {f : Nat → Int32} (ha : w[q0]? = some (a, .inl (cA, n, .inl f))) (ht : tys[t0]? = some (cA, .boolean)) {i x : Int32} (hin : vp_in i n) (hdg : decode cc pc = .ok (.bastore, 1)) (kk : WW p l e R s m args below meth c Q D A nL tys cells slots (pc + 1) lo st (w.set q0 (a, .inl (cA, n, .inl (upd f i.toNatClampNeg (vp_nar .boolean x)))))) : WW p l e R s m args below meth c Q D A nL tys cells slots pc lo (.int x :: .int i :: .ref a :: st) w :=
  fun hK H locs ls hP hD hS hl => va_zast C0.1 C0.2.1 hK hP hD hS q0 t0 ha ht hin hdg (fun H1 locs1 hP1 hD1 hS1 => kk hK H1 locs1 ls hP1 hD1 hS1 hl)
theorem ww_zast_n (C0 : CT p s m args meth c cc own nL A) {a : Nat} (q0 t0 : Nat) {cA : ClassId} {n : Nat} {f : Nat → Int32} (ha : w[q0]? = some (a, .inl (cA, n, .inl f))) (ht : tys[t0]? = some (cA, .boolean)) {i x : Int32} {j : Nat} (hi : i = nI j) (hj : j < n) (hn : n < 2 ^ 31) (hdg : decode cc pc = .ok (.bastore, 1)) (kk : WW p l e R s m args below meth c Q D A nL tys cells slots (pc + 1) lo st (w.set q0 (a, .inl (cA, n, .inl (upd f j (vp_nar .boolean x)))))) : WW p l e R s m args below meth c Q D A nL tys cells slots pc lo (.int x :: .int i :: .ref a :: st) w := by
  subst hi
  exact ww_zast C0 q0 t0 ha ht (vp_in_nI hj hn) hdg (by rw [nI_clamp (by omega)]; exact kk)
theorem ww_aald (C0 : CT p s m args meth c cc own nL A) {a : Nat} (q0 t0 : Nat) {cA : ClassId} {C : String} {n : Nat} {f : Nat → Option Nat} (ha : w[q0]? = some (a, .inl (cA, n, .inr (.inr (.inr (.inr f)))))) (ht : tys[t0]? = some (cA, .object C)) {i : Int32} {j b : Nat} (hi : i = nI j) (hj : j < n) (hn : n < 2 ^ 31) (hf : f j = some b) (hdg : decode cc pc = .ok (.aaload, 1)) (kk : WW p l e R s m args below meth c Q D A nL tys cells slots (pc + 1) lo (.ref b :: st) w) : WW p l e R s m args below meth c Q D A nL tys cells slots pc lo (.int i :: .ref a :: st) w := by
  subst hi
  intro hK H locs ls hP hD hS hl
  refine va_aldq C0.1 C0.2.1 hK hP q0 t0 ha ht (vp_in_nI hj hn) hdg ?_
  rw [nI_clamp (by omega), hf]
  exact kk hK H locs ls hP hD hS hl
theorem ww_aast (C0 : CT p s m args meth c cc own nL A) {a : Nat} (q0 t0 qk ci : Nat) {cA : ClassId} {r : vw_C} {n v : Nat} {vs : List Value} {f : Nat → Option Nat} (ha : w[q0]? = some (a, .inl (cA, n, .inr (.inr (.inr (.inr f)))))) (ht : tys[t0]? = some (cA, .object r.1)) (hv : w[qk]? = some (v, .inr (ci, vs))) (hc : vwCl[ci]? = some r) {i : Int32} {j : Nat} (hi : i = nI j) (hj : j < n) (hn : n < 2 ^ 31) (hdg : decode cc pc = .ok (.aastore, 1)) (kk : WW p l e R s m args below meth c Q D A nL tys cells slots (pc + 1) lo st (w.set q0 (a, .inl (cA, n, .inr (.inr (.inr (.inr (va_up f j (some v))))))))) : WW p l e R s m args below meth c Q D A nL tys cells slots pc lo (.ref v :: .int i :: .ref a :: st) w := by
  subst hi
  intro hK H locs ls hP hD hS hl
  refine va_astq C0.1 C0.2.1 hK hP hD hS q0 t0 qk ci ha ht hv hc (vp_in_nI hj hn) hdg (fun H1 locs1 hP1 hD1 hS1 => ?_)
  rw [nI_clamp (by omega)] at hP1 hD1
  exact kk hK H1 locs1 ls hP1 hD1 hS1 hl
theorem ww_alen (C0 : CT p s m args meth c cc own nL A) {a : Nat} (q0 t0 : Nat) {cA : ClassId} {x : vp_A} (ha : w[q0]? = some (a, .inl (cA, x))) {ty : FieldType} (ht : tys[t0]? = some (cA, ty)) {v : Int32} (hv : Int32.ofNat x.1 = v) (hdg : decode cc pc = .ok (.arraylength, 1)) (kk : WW p l e R s m args below meth c Q D A nL tys cells slots (pc + 1) lo (.int v :: st) w) : WW p l e R s m args below meth c Q D A nL tys cells slots pc lo (.ref a :: st) w :=
  fun hK H locs ls hP hD hS hl => va_alen C0.1 C0.2.1 hK hP q0 t0 ha ht hv hdg (kk hK H locs ls hP hD hS hl)
theorem ww_new (C0 : CT p s m args meth c cc own nL A) {ci : Nat} {C : String} {T : u_T} {N : Nat} {index : Nat} (hin : ∀ w ∈ u_ws C T N, w ∈ rg_tbl) (ty0 : Nat → FieldType) (hty : ∀ k, k < N → parseFieldDescriptor (T k).2.2.1 = some (ty0 k)) (hcl : Cond.classLink own index C ∈ rg_tbl) (hinst : Cond.instantiable C N ∈ rg_tbl) (hini : Cond.initialized C ∈ rg_tbl) (hc : vwCl[ci]? = some (C, T, N)) {fs : List Value} (hfs : ∀ j, j < N → defaultValue (ty0 j) = vp_V fs j) (hcells : cells + 1 ≤ R.cells) (hslots : slots + N ≤ R.slots) (hdg : decode cc pc = .ok (.new index, 3)) (kk : ∀ q : Nat, WW p l e R s m args below meth c Q D A nL tys (cells + 1) (slots + N) (pc + 3) lo (.ref q :: st) (w ++ [(q, .inr (ci, fs))])) : WW p l e R s m args below meth c Q D A nL tys cells slots pc lo st w :=
  fun hK H locs ls hP hD hS hl => va_new C0.1 C0.2.1 C0.2.2.2.2.1 hin ty0 hty C0.2.2.2.1 (C0.2.2.2.2.1 _ hcl) (C0.2.2.2.2.1 _ hinst) (C0.2.2.2.2.1 _ hini) hK hP hD hS C0.2.2.2.2.2.1 hc hfs hcells hslots hdg (fun q H1 hP1 hD1 hS1 => kk q hK H1 locs ls hP1 hD1 hS1 hl)
/-- two arrays' classes of one kind are one -/
theorem ww_sameA {U : State} {cA cB : ClassId} {ty : FieldType} (h1 : va_RA U cA ty) (h2 : va_RA U cB ty) : cA = cB := by
  have key : ∀ {c : ClassId}, va_RA U c ty → U.vm.findClass ("[" ++ ty.toString) = some c := by
    intro c h
    cases ty <;> first | exact h | (obtain ⟨_, _, _, _, _, h4⟩ := h; exact h4)
  exact Option.some.inj ((key h1).symm.trans (key h2))
theorem ww_newa (C0 : CT p s m args meth c cc own nL A) {atype : ArrayType} {ty : FieldType} (harr : Cond.arrayClass ty ∈ rg_tbl) (hty : newarray.typeOf atype = ty) {n : Int32} {N' : Nat} {a0 : vp_A} (ha : ∀ cA : ClassId, vp_cell cA a0 = arrV cA N' (fun _ => defaultValue ty)) (hn : ¬ n < 0) (hN : n.toNatClampNeg = N') (hbytes : N' * componentBytes ty ≤ 536870912) (hcells : cells + 1 ≤ R.cells) (hslots : slots + N' ≤ R.slots) (hdg : decode cc pc = .ok (.newarray atype, 2)) (kk : ∀ (q : Nat) (cA : ClassId), WW p l e R s m args below meth c Q D A nL (tys ++ [(cA, ty)]) (cells + 1) (slots + N') (pc + 2) lo (.ref q :: st) (w ++ [(q, .inl (cA, a0))])) : WW p l e R s m args below meth c Q D A nL tys cells slots pc lo (.int n :: st) w := by
  subst hty
  exact fun hK H locs ls hP hD hS hl => va_newa C0.1 C0.2.1 (C0.2.2.2.2.1 _ harr) rfl hK hP hD hS C0.2.2.2.2.2.1 ha hn hN hbytes hcells hslots hdg (fun q cA H1 hK1 hP1 hD1 hS1 => kk q cA hK1 H1 locs ls hP1 hD1 hS1 hl)
/-- a new array of a kind that is known: its class is the one that is listed -/
theorem ww_newaK (C0 : CT p s m args meth c cc own nL A) {atype : ArrayType} {ty : FieldType} (harr : Cond.arrayClass ty ∈ rg_tbl) (hty : newarray.typeOf atype = ty) (t0 : Nat) {cB : ClassId} (ht : tys[t0]? = some (cB, ty)) {n : Int32} {N' : Nat} {a0 : vp_A} (ha : ∀ cA : ClassId, vp_cell cA a0 = arrV cA N' (fun _ => defaultValue ty)) (hn : ¬ n < 0) (hN : n.toNatClampNeg = N') (hbytes : N' * componentBytes ty ≤ 536870912) (hcells : cells + 1 ≤ R.cells) (hslots : slots + N' ≤ R.slots) (hdg : decode cc pc = .ok (.newarray atype, 2)) (kk : ∀ (q : Nat), WW p l e R s m args below meth c Q D A nL tys (cells + 1) (slots + N') (pc + 2) lo (.ref q :: st) (w ++ [(q, .inl (cB, a0))])) : WW p l e R s m args below meth c Q D A nL tys cells slots pc lo (.int n :: st) w := by
  refine ww_newa C0 harr hty ha hn hN hbytes hcells hslots hdg (fun q cA => ?_)
  intro hK H locs ls hP hD hS hl
  have h1 := (hK.2 t0 (cB, ty) (by rw [List.getElem?_append_left (List.getElem?_eq_some_iff.mp ht).1]; exact ht)).2
  have h2 := (hK.2 tys.length (cA, ty) (by simp)).2
  have hc : cA = cB := ww_sameA h2 h1
  subst hc
  exact kk q ⟨hK.1, fun k x hx => hK.2 k x (by rw [List.getElem?_append_left (List.getElem?_eq_some_iff.mp hx).1]; exact hx)⟩ H locs ls hP hD hS hl
theorem ww_newq (C0 : CT p s m args meth c cc own nL A) {C : String} {index : Nat} (hcl : Cond.classLink own index C ∈ rg_tbl) (hover : va_AO C s) {n : Int32} {N' : Nat} (hn : ¬ n < 0) (hN : n.toNatClampNeg = N') (hbytes : N' * 4 ≤ 536870912) (hcells : cells + 1 ≤ R.cells) (hslots : slots + N' ≤ R.slots) (hdg : decode cc pc = .ok (.anewarray index, 3)) (kk : ∀ (q : Nat) (cA : ClassId), WW p l e R s m args below meth c Q D A nL (tys ++ [(cA, .object C)]) (cells + 1) (slots + N') (pc + 3) lo (.ref q :: st) (w ++ [(q, .inl (cA, N', .inr (.inr (.inr (.inr (fun _ => none))))))])) : WW p l e R s m args below meth c Q D A nL tys cells slots pc lo (.int n :: st) w :=
  fun hK H locs ls hP hD hS hl => va_newq C0.1 C0.2.1 C0.2.2.2.1 (C0.2.2.2.2.1 _ hcl) hover hK hP hD hS C0.2.2.2.2.2.1 hn hN hbytes hcells hslots hdg (fun q cA H1 hK1 hP1 hD1 hS1 => kk q cA hK1 H1 locs ls hP1 hD1 hS1 hl)
theorem ww_newqK (C0 : CT p s m args meth c cc own nL A) {C : String} {index : Nat} (hcl : Cond.classLink own index C ∈ rg_tbl) (hover : va_AO C s) (t0 : Nat) {cB : ClassId} (ht : tys[t0]? = some (cB, .object C)) {n : Int32} {N' : Nat} (hn : ¬ n < 0) (hN : n.toNatClampNeg = N') (hbytes : N' * 4 ≤ 536870912) (hcells : cells + 1 ≤ R.cells) (hslots : slots + N' ≤ R.slots) (hdg : decode cc pc = .ok (.anewarray index, 3)) (kk : ∀ (q : Nat), WW p l e R s m args below meth c Q D A nL tys (cells + 1) (slots + N') (pc + 3) lo (.ref q :: st) (w ++ [(q, .inl (cB, N', .inr (.inr (.inr (.inr (fun _ => none))))))])) : WW p l e R s m args below meth c Q D A nL tys cells slots pc lo (.int n :: st) w := by
  refine ww_newq C0 hcl hover hn hN hbytes hcells hslots hdg (fun q cA => ?_)
  intro hK H locs ls hP hD hS hl
  have h1 := (hK.2 t0 (cB, .object C) (by rw [List.getElem?_append_left (List.getElem?_eq_some_iff.mp ht).1]; exact ht)).2
  have h2 := (hK.2 tys.length (cA, .object C) (by simp)).2
  have hc : cA = cB := ww_sameA h2 h1
  subst hc
  exact kk q ⟨hK.1, fun k x hx => hK.2 k x (by rw [List.getElem?_append_left (List.getElem?_eq_some_iff.mp hx).1]; exact hx)⟩ H locs ls hP hD hS hl
theorem ww_objInit (C0 : CT p s m args meth c cc own nL A) {a index : Nat} (hlink : Cond.methodLink own index objectInit ∈ rg_tbl) (hsum : (st.map fun v => v.category).sum ≤ 0) (hdg : decode cc pc = .ok (.invokespecial index, 3)) (hfr : 1 ≤ R.frames) (hlo : 12 ≤ R.locals) (kk : WW p l e R s m args below meth c Q D A nL tys cells slots (pc + 3) lo st w) : WW p l e R s m args below meth c Q D A nL tys cells slots pc lo (.ref a :: st) w :=
  fun hK H locs ls hP hD hS hl => W.objInit C0.1 C0.2.1 C0.2.2.2.1 (C0.2.2.2.2.1 _ hlink) (C0.2.2.2.2.1 _ km_objectInit) (C0.2.2.2.2.1 _ kd_objectInit) rfl (by show ls.size = c.maxLocals; rw [C0.2.2.1, ← hl.2.1]) rfl hdg hfr (by show 0 + (st.map fun v => v.category).sum + 12 ≤ R.locals; omega) (kk hK H locs ls hP hD hS hl)
theorem ww_widen {k n : Nat} (h1 : cells ≤ k) (h2 : slots ≤ n) (kk : WW p l e R s m args below meth c Q D A nL tys k n pc lo st w) : WW p l e R s m args below meth c Q D A nL tys cells slots pc lo st w :=
  fun hK H locs ls hP hD hS hl => W.widen h1 h2 (kk hK H locs ls hP hD hS hl)
theorem ww_cong {lo' st' : List Value} {w' : va_W} (k : WW p l e R s m args below meth c Q D A nL tys cells slots pc lo' st' w') (h1 : lo = lo') (h2 : st = st') (h3 : w = w') : WW p l e R s m args below meth c Q D A nL tys cells slots pc lo st w := by
  subst h1; subst h2; subst h3; exact k
theorem ww_bif_eq (C0 : CT p s m args meth c cc own nL A) {x : Bool} {off : Int} {tgt : Nat} (hdg : decode cc pc = .ok (.ifCond .eq off, 3)) (ht : (pc : Int) + off = (tgt : Int)) (kt : x = false → WW p l e R s m args below meth c Q D A nL tys cells slots tgt lo st w) (kf : x = true → WW p l e R s m args below meth c Q D A nL tys cells slots (pc + 3) lo st w) : WW p l e R s m args below meth c Q D A nL tys cells slots pc lo (.int (bI x) :: st) w :=
  ww_if_eq C0 hdg ht (fun h => kt (by cases x <;> first | rfl | exact absurd h (by decide))) (fun h => kf (by cases x <;> first | rfl | exact absurd rfl h))
theorem ww_bif_ne (C0 : CT p s m args meth c cc own nL A) {x : Bool} {off : Int} {tgt : Nat} (hdg : decode cc pc = .ok (.ifCond .ne off, 3)) (ht : (pc : Int) + off = (tgt : Int)) (kt : x = true → WW p l e R s m args below meth c Q D A nL tys cells slots tgt lo st w) (kf : x = false → WW p l e R s m args below meth c Q D A nL tys cells slots (pc + 3) lo st w) : WW p l e R s m args below meth c Q D A nL tys cells slots pc lo (.int (bI x) :: st) w :=
  ww_if_ne C0 hdg ht (fun h => kt (by cases x <;> first | rfl | exact absurd rfl h)) (fun h => kf (by cases x <;> first | rfl | exact absurd h (by decide)))
end WWs
end
section
/-! contracts: from the world W0, args av: what is answered, and the world behind it (no new cells) -/
def MP (D : va_G) (tys : List (ClassId × FieldType)) (W0 : va_W) (sz : Nat) : State → Prop := fun U => U.heap.size = sz ∧ va_P D vwCl W0 U.heap ∧ va_K D vwCl tys U ∧ va_D (fun _ => True) W0 ∧ NK U
def MB (D : va_G) (tys : List (ClassId × FieldType)) (A : Nat → Prop) (W1 : va_W) : Unit → State → Prop := fun _ t => va_P D vwCl W1 t.heap ∧ va_K D vwCl tys t ∧ va_D A W1
def MI (l : Launch) (D : va_G) (tys : List (ClassId × FieldType)) (y : MethodName) (cc : ByteArray) (nL : Nat) (ret : FieldType) (rm : Room) (av : List Value) (W0 : va_W) (r : Int32) (W1 : va_W) : Prop :=
  ∀ sz : Nat, Met l y (Cond.code y cc nL (some ret) :: rg_tbl) rm (va_Pc av (MP D tys W0 sz)) (va_Qi (fun (r' : Int32) (_ : Unit) => r' = r) (MB D tys (va_A W0 sz) W1) (va_A W0 sz)) 0 0 (va_A W0 sz)
def ML (l : Launch) (D : va_G) (tys : List (ClassId × FieldType)) (y : MethodName) (cc : ByteArray) (nL : Nat) (rm : Room) (av : List Value) (W0 : va_W) (r : Int64) (W1 : va_W) : Prop :=
  ∀ sz : Nat, Met l y (Cond.code y cc nL (some .long) :: rg_tbl) rm (va_Pc av (MP D tys W0 sz)) (va_Ql (fun (r' : Int64) (_ : Unit) => r' = r) (MB D tys (va_A W0 sz) W1) (va_A W0 sz)) 0 0 (va_A W0 sz)
def MV (l : Launch) (D : va_G) (tys : List (ClassId × FieldType)) (y : MethodName) (cc : ByteArray) (nL : Nat) (rm : Room) (av : List Value) (W0 : va_W) (W1 : va_W) : Prop :=
  ∀ sz : Nat, Met l y (Cond.code y cc nL none :: rg_tbl) rm (va_Pc av (MP D tys W0 sz)) (va_Qv (fun (_ : Unit) => True) (MB D tys (va_A W0 sz) W1) (va_A W0 sz)) 0 0 (va_A W0 sz)
/-- what a walk ends at -/
def QI (below : List Frame) (args : Array Value) (s : State) (D : va_G) (tys : List (ClassId × FieldType)) (A : Nat → Prop) (r : Int32) (W1 : va_W) : State → Prop := MQ below (va_Qi (fun (r' : Int32) (_ : Unit) => r' = r) (MB D tys A W1) A) args s 0 0 A
def QL (below : List Frame) (args : Array Value) (s : State) (D : va_G) (tys : List (ClassId × FieldType)) (A : Nat → Prop) (r : Int64) (W1 : va_W) : State → Prop := MQ below (va_Ql (fun (r' : Int64) (_ : Unit) => r' = r) (MB D tys A W1) A) args s 0 0 A
def QV (below : List Frame) (args : Array Value) (s : State) (D : va_G) (tys : List (ClassId × FieldType)) (A : Nat → Prop) (W1 : va_W) : State → Prop := MQ below (va_Qv (fun (_ : Unit) => True) (MB D tys A W1) A) args s 0 0 A
theorem wl_pad_len (vs : List Value) : (vs.flatMap (fun v => if v.category = 2 then [v, .null] else [v])).length = (lg_sl vs).length := by
  induction vs with
  | nil => rfl
  | cons v t ih =>
    simp only [lg_sl, List.flatMap_cons, List.length_append] at ih ⊢
    rw [ih]
    split <;> rfl
theorem wl_slot (vs : List Value) (i : Nat) (v : Value) : (vs.flatMap (fun v => if v.category = 2 then [v, .null] else [v]))[i]? = some v → v ≠ .null → (lg_sl vs)[i]? = some (.val v) := by
  induction vs generalizing i with
  | nil => intro h; simp at h
  | cons x t ih =>
    intro h hn
    simp only [lg_sl, List.flatMap_cons] at h ⊢
    by_cases hx : x.category = 2
    · rw [if_pos hx] at h ⊢
      match i with
      | 0 => simp at h ⊢; exact h
      | 1 => simp at h; exact absurd h.symm hn
      | k + 2 => simp at h ⊢; exact ih k h hn
    · rw [if_neg hx] at h ⊢
      match i with
      | 0 => simp at h ⊢; exact h
      | k + 1 => simp at h ⊢; exact ih k h hn
theorem wl_entry (vs : List Value) {n : Nat} {lo : List Value} (h : (lg_sl vs).length ≤ n) (hlo : wl_pad vs n = lo) : wl_l ((lg_sl vs ++ List.replicate (n - (lg_sl vs).length) Slot.unset).toArray) n lo := by
  subst hlo
  have h0 := lv_entry vs h
  refine ⟨?_, h0.1, h0.2.1, fun i v hi hv => ?_⟩
  · simp only [wl_pad, List.length_append, List.length_replicate, wl_pad_len]
    omega
  · simp only [wl_pad] at hi
    by_cases hl : i < (lg_sl vs).length
    · rw [List.getElem?_append_left (by rw [wl_pad_len]; exact hl)] at hi
      have := wl_slot vs i v hi hv
      simp only [List.getElem?_toArray]
      rw [List.getElem?_append_left hl]
      exact this
    · rw [List.getElem?_append_right (by rw [wl_pad_len]; omega), List.getElem?_replicate] at hi
      split at hi
      · cases hi; exact absurd rfl hv
      · cases hi
theorem MI.of {l : Launch} {D : va_G} {tys : List (ClassId × FieldType)} {y : MethodName} {cc : ByteArray} {nL : Nat} {ret : FieldType} {rm : Room} {av : List Value} {W0 : va_W} {r : Int32} {W1 : va_W} (lo : List Value) (hy : plainName y.cls = true) (hlen : (lg_sl av).length ≤ nL) (hlo : wl_pad av nL = lo)
    (k : ∀ (p : Program) (e : Env) (s : State) (m : MethodId) (below : List Frame) (meth : Method) (c : Code) (A : Nat → Prop), CT p s m av.toArray meth c cc y.cls nL A → meth.sig.returnType = some ret → WW p l e rm s m av.toArray below meth c (QI below av.toArray s D tys A r W1) D A nL tys 0 0 0 lo [] W0) : MI l D tys y cc nL ret rm av W0 r W1 := by
  intro sz
  refine Met.ofW (cc := cc) (maxL := nL) (ret := some ret) hy rfl ?_
  intro p e s m args below meth c s₁ B hml hv
  obtain ⟨rfl, hsz, hP, hK, hD0, hN⟩ := hv
  subst hsz
  have hts := atoms_spec (ws := Cond.code y cc nL (some ret) :: rg_tbl) B.pre
  have C0 : CT p s m av.toArray meth c cc y.cls nL (va_A W0 s.heap.size) := ⟨B.exec, B.bytes, hml, findClass_of_methodNamed B.named, fun w h => hts w (List.mem_cons_of_mem _ h), fun q h => Or.inr h, B.notSynchronized, hN⟩
  have hl := wl_entry av hlen hlo
  have K := k p e s m below meth c (va_A W0 s.heap.size) C0 B.returns hK s.heap [] _ hP hD0.self va_S.rf hl
  rw [lg_entry_eq]
  exact K
theorem ML.of {l : Launch} {D : va_G} {tys : List (ClassId × FieldType)} {y : MethodName} {cc : ByteArray} {nL : Nat} {rm : Room} {av : List Value} {W0 : va_W} {r : Int64} {W1 : va_W} (lo : List Value) (hy : plainName y.cls = true) (hlen : (lg_sl av).length ≤ nL) (hlo : wl_pad av nL = lo)
    (k : ∀ (p : Program) (e : Env) (s : State) (m : MethodId) (below : List Frame) (meth : Method) (c : Code) (A : Nat → Prop), CT p s m av.toArray meth c cc y.cls nL A → meth.sig.returnType = some .long → WW p l e rm s m av.toArray below meth c (QL below av.toArray s D tys A r W1) D A nL tys 0 0 0 lo [] W0) : ML l D tys y cc nL rm av W0 r W1 := by
  intro sz
  refine Met.ofW (cc := cc) (maxL := nL) (ret := some .long) hy rfl ?_
  intro p e s m args below meth c s₁ B hml hv
  obtain ⟨rfl, hsz, hP, hK, hD0, hN⟩ := hv
  subst hsz
  have hts := atoms_spec (ws := Cond.code y cc nL (some .long) :: rg_tbl) B.pre
  have C0 : CT p s m av.toArray meth c cc y.cls nL (va_A W0 s.heap.size) := ⟨B.exec, B.bytes, hml, findClass_of_methodNamed B.named, fun w h => hts w (List.mem_cons_of_mem _ h), fun q h => Or.inr h, B.notSynchronized, hN⟩
  have hl := wl_entry av hlen hlo
  have K := k p e s m below meth c (va_A W0 s.heap.size) C0 B.returns hK s.heap [] _ hP hD0.self va_S.rf hl
  rw [lg_entry_eq]
  exact K
theorem MV.of {l : Launch} {D : va_G} {tys : List (ClassId × FieldType)} {y : MethodName} {cc : ByteArray} {nL : Nat} {rm : Room} {av : List Value} {W0 : va_W} {W1 : va_W} (lo : List Value) (hy : plainName y.cls = true) (hlen : (lg_sl av).length ≤ nL) (hlo : wl_pad av nL = lo)
    (k : ∀ (p : Program) (e : Env) (s : State) (m : MethodId) (below : List Frame) (meth : Method) (c : Code) (A : Nat → Prop), CT p s m av.toArray meth c cc y.cls nL A → meth.sig.returnType = none → WW p l e rm s m av.toArray below meth c (QV below av.toArray s D tys A W1) D A nL tys 0 0 0 lo [] W0) : MV l D tys y cc nL rm av W0 W1 := by
  intro sz
  refine Met.ofW (cc := cc) (maxL := nL) (ret := none) hy rfl ?_
  intro p e s m args below meth c s₁ B hml hv
  obtain ⟨rfl, hsz, hP, hK, hD0, hN⟩ := hv
  subst hsz
  have hts := atoms_spec (ws := Cond.code y cc nL (none) :: rg_tbl) B.pre
  have C0 : CT p s m av.toArray meth c cc y.cls nL (va_A W0 s.heap.size) := ⟨B.exec, B.bytes, hml, findClass_of_methodNamed B.named, fun w h => hts w (List.mem_cons_of_mem _ h), fun q h => Or.inr h, B.notSynchronized, hN⟩
  have hl := wl_entry av hlen hlo
  have K := k p e s m below meth c (va_A W0 s.heap.size) C0 B.returns hK s.heap [] _ hP hD0.self va_S.rf hl
  rw [lg_entry_eq]
  exact K
section WWc
variable {p : Program} {l : Launch} {e : Env} {R : Room} {s : State} {m : MethodId} {args : Array Value} {below : List Frame} {meth : Method} {c : Code} {Q : State → Prop} {D : va_G} {A : Nat → Prop} {cc : ByteArray} {own : String} {nL : Nat} {tys : List (ClassId × FieldType)} {cells slots pc : Nat} {lo st : List Value} {w : va_W}
theorem ww_iret (C0 : CT p s m args meth c cc own nL A) (hr : meth.sig.returnType = some .int) {v r : Int32} {W1 : va_W} (hdg : decode cc pc = .ok (.ireturn, 1)) (hv : v = r) (hw : w = W1) : WW p l e R s m args below meth c (QI below args s D tys A r W1) D A nL tys 0 0 pc lo [.int v] w := by
  subst hv; subst hw
  intro hK H locs ls hP hD hS hl
  exact W.iret (hlocks := C0.2.2.2.2.2.2.1) C0.1 C0.2.1 hr (fun t ht hW => ⟨⟨v, (), rfl, rfl, by rw [ht]; exact hP, va_K.moved hW.alike hK, hD⟩, hS.F ht⟩) hS.2.2 hdg
theorem bI_nar (b : Bool) : narrow .boolean (.int (bI b)) = .int (bI b) := by cases b <;> rfl
theorem ww_zret (C0 : CT p s m args meth c cc own nL A) (hr : meth.sig.returnType = some .boolean) {v : Int32} {b : Bool} {W1 : va_W} (hdg : decode cc pc = .ok (.ireturn, 1)) (hv : v = bI b) (hw : w = W1) : WW p l e R s m args below meth c (QI below args s D tys A (bI b) W1) D A nL tys 0 0 pc lo [.int v] w := by
  subst hv; subst hw
  intro hK H locs ls hP hD hS hl
  exact W.zret (hlocks := C0.2.2.2.2.2.2.1) C0.1 C0.2.1 hr (bI_nar b) (fun t ht hW => ⟨⟨bI b, (), rfl, rfl, by rw [ht]; exact hP, va_K.moved hW.alike hK, hD⟩, hS.F ht⟩) hS.2.2 hdg
theorem ww_lret (C0 : CT p s m args meth c cc own nL A) (hr : meth.sig.returnType = some .long) {v r : Int64} {W1 : va_W} (hdg : decode cc pc = .ok (.lreturn, 1)) (hv : v = r) (hw : w = W1) : WW p l e R s m args below meth c (QL below args s D tys A r W1) D A nL tys 0 0 pc lo [.long v] w := by
  subst hv; subst hw
  intro hK H locs ls hP hD hS hl
  exact W.lret (hlocks := C0.2.2.2.2.2.2.1) C0.1 C0.2.1 hr (fun t ht hW => ⟨⟨v, (), rfl, rfl, by rw [ht]; exact hP, va_K.moved hW.alike hK, hD⟩, hS.F ht⟩) hS.2.2 hdg
theorem ww_vret (C0 : CT p s m args meth c cc own nL A) (hr : meth.sig.returnType = none) {W1 : va_W} (hdg : decode cc pc = .ok (.return_, 1)) (hw : w = W1) : WW p l e R s m args below meth c (QV below args s D tys A W1) D A nL tys 0 0 pc lo [] w := by
  subst hw
  intro hK H locs ls hP hD hS hl
  exact W.vret (hlocks := C0.2.2.2.2.2.2.1) C0.1 C0.2.1 hr (fun t ht hW => ⟨⟨(), rfl, trivial, by rw [ht]; exact hP, va_K.moved hW.alike hK, hD⟩, hS.F ht⟩) hS.2.2 hdg
theorem mp_blind {av : List Value} {W0 : va_W} {sz : Nat} : FrameBlind (va_Pc av (MP D tys W0 sz)) := by
  intro a U g mk h
  obtain ⟨rfl, h1, h2, h3, h4, h5⟩ := h
  exact ⟨rfl, h1, h2, va_K.moved (u := U) (U := U.calling g mk av.toArray) (Vm.Alike.refl U.vm) h3, h4, NK.same (u := U) (U := U.calling g mk av.toArray) rfl h5⟩
theorem mp_of {av : List Value} {H : Heap} (hK : va_K D vwCl tys s) (hN : NK s) (hP : va_P D vwCl w H) (hD : va_D A w) (U : State) (hU : U.heap = H) (hW : s.WarmedH U.vm) : va_Pc av (MP D tys w H.size) av.toArray U :=
  ⟨rfl, by rw [hU], by rw [hU]; exact hP, va_K.moved hW.alike hK, hD.weaken (fun _ _ _ _ => trivial), NK.warm hW hN⟩
theorem ww_AA {H : Heap} {locs : List Loc} (C0 : CT p s m args meth c cc own nL A) (hD : va_D A w) (hS : va_S A s.heap H locs) : ∀ q, va_A w H.size q → A q := by
  intro q h
  rcases h with ⟨k, x, h⟩ | h
  · exact hD.2 k (q, x) h
  · exact C0.2.2.2.2.2.1 q (Nat.le_trans hS.1 h)
/-- a world in another order -/
theorem va_P.perm {cl : List vw_C} {w w' : va_W} {H : Heap} (h : w.Perm w') (hP : va_P D cl w H) : va_P D cl w' H := by
  intro k q hq
  obtain ⟨i, hi⟩ := List.getElem?_of_mem (h.symm.subset (List.mem_of_getElem? hq))
  exact hP i q hi
theorem va_D_iff {A : Nat → Prop} {w : va_W} : va_D A w ↔ (w.map (·.1)).Nodup ∧ ∀ q ∈ w, A q.1 := by
  constructor
  · rintro ⟨h1, h2⟩
    refine ⟨?_, fun q hq => ?_⟩
    · rw [List.nodup_iff_pairwise_ne, List.pairwise_iff_getElem]
      intro i j hi hj hij he
      simp only [List.length_map] at hi hj
      simp only [List.getElem_map] at he
      have := h1 i j w[i] w[j] (List.getElem?_eq_getElem hi) (List.getElem?_eq_getElem hj) he
      omega
    · obtain ⟨k, hk⟩ := List.getElem?_of_mem hq
      exact h2 k q hk
  · rintro ⟨h1, h2⟩
    refine ⟨fun i j x y hi hj hxy => ?_, fun k q hq => h2 q (List.mem_of_getElem? hq)⟩
    obtain ⟨li, hi⟩ := List.getElem?_eq_some_iff.mp hi
    obtain ⟨lj, hj⟩ := List.getElem?_eq_some_iff.mp hj
    rw [List.nodup_iff_pairwise_ne, List.pairwise_iff_getElem] at h1
    rcases Nat.lt_trichotomy i j with q | q | q
    · have z := h1 i j (by simpa using li) (by simpa using lj) q
      simp only [List.getElem_map, hi, hj] at z
      exact absurd hxy z
    · exact q
    · have z := h1 j i (by simpa using lj) (by simpa using li) q
      simp only [List.getElem_map, hi, hj] at z
      exact absurd hxy.symm z
theorem va_D.perm {A : Nat → Prop} {w w' : va_W} (h : w.Perm w') (hD : va_D A w) : va_D A w' := by
  rw [va_D_iff] at hD ⊢
  exact ⟨(h.map _).nodup_iff.mp hD.1, fun q hq => hD.2 q (h.symm.subset hq)⟩
theorem ww_perm {w' : va_W} (h : w.Perm w') (k : WW p l e R s m args below meth c Q D A nL tys cells slots pc lo st w') : WW p l e R s m args below meth c Q D A nL tys cells slots pc lo st w :=
  fun hK H locs ls hP hD hS hl => k hK H locs ls (hP.perm h) (hD.perm h) hS hl
theorem perm_swap3 (a b c d : va_W) : (a ++ (b ++ (c ++ d))).Perm (a ++ (c ++ (b ++ d))) := by
  refine List.Perm.append_left a ?_
  rw [← List.append_assoc, ← List.append_assoc]
  exact List.Perm.append_right d List.perm_append_comm
theorem ww_callVi (C0 : CT p s m args meth c cc own nL A) {ret : FieldType} {r : Int32} {y : MethodName} {bytes : ByteArray} {maxL n index : Nat} {rm : Room} {b : Nat} {As : List Value} {stk : List Value} {W1 : va_W} (q0 ci : Nat) {fs : List Value} {qc : vw_C} (hM : MI l D tys y bytes maxL ret rm (.ref b :: As) w r W1) (hcode : Cond.code y bytes maxL (some ret) ∈ rg_tbl) (hlink : Cond.methodLink own index y ∈ rg_tbl) (hinst : Cond.instanceMethod y ∈ rg_tbl) (hsel : Cond.selects y.cls y y ∈ rg_tbl) (hini : Cond.initialized y.cls ∈ rg_tbl) (hd : y.cls ≠ "java/lang/invoke/MethodHandle" ∧ y.cls ≠ "java/lang/invoke/VarHandle" ∧ (parseMethodDescriptor y.desc).map (fun d => d.parameters.length) = some n) (hcl : vwCl[ci]? = some qc) (hqc : qc.1 = y.cls) (hR : rm.frames + 1 ≤ R.frames ∧ 8 + (maxL + 11) + rm.locals ≤ R.locals ∧ rm.cells = 0 ∧ rm.slots = 0) (hcat : (st.map fun v => v.category).sum ≤ 8) (hdg : decode cc pc = .ok (.invokevirtual index, 3)) (hrec : w[q0]? = some (b, .inr (ci, fs))) (hn : As.length = n) (hst : stk = As.reverse ++ .ref b :: st) (hfc : cells ≤ R.cells ∧ slots ≤ R.slots) (kk : WW p l e R s m args below meth c Q D A nL tys cells slots (pc + 3) lo (.int r :: st) W1) : WW p l e R s m args below meth c Q D A nL tys cells slots pc lo stk w := by
  subst hst
  intro hK H locs ls hP hD hS hl
  have cw : CallW R s args own y.cls index y bytes maxL (some ret) (Cond.code y bytes maxL (some ret) :: rg_tbl) rm 0 0 n := cwV n C0.2.2.2.2.1 (rg_goodIn (by
    intro w hw
    simp only [wsV, List.cons_append, List.nil_append, List.mem_cons] at hw
    rcases hw with rfl | rfl | rfl | rfl | rfl | hw <;> assumption)) rfl hR.2.2.1 hR.2.2.2 ⟨rfl, hd⟩ ⟨hR.1, hR.2.1⟩
  exact va_calli (va_runV (As := As) (rest := st) ⟨C0.1, C0.2.1, C0.2.2.1, C0.2.2.2.1, C0.2.2.2.2.1⟩ (hM H.size) cw ⟨mp_blind, (by rw [← hqc]; exact va_recv hK hP hcl hrec), fun U hU hW => mp_of hK C0.2.2.2.2.2.2.2 hP hD U hU hW⟩ rfl hn hl.2.1 rfl (lv_room hcat) hdg ⟨by have := hfc.1; omega, by have := hfc.2; omega⟩) hS (fun q _ h => ww_AA C0 hD hS q h) (ww_AA C0 hD hS) (fun r' u t H1 locs1 ht hvm hw hB hz1 hk1 hS1 => by
    obtain ⟨hP1, hK1, hD1⟩ := hB
    rw [ht] at hP1
    subst hw
    exact kk hK H1 locs1 ls hP1 (hD1.weaken (fun _ _ _ h => ww_AA C0 hD hS _ h)) hS1 hl)
theorem ww_callSi (C0 : CT p s m args meth c cc own nL A) {ret : FieldType} {r : Int32} {y : MethodName} {bytes : ByteArray} {maxL n index : Nat} {rm : Room} {As : List Value} {stk : List Value} {W1 : va_W} (hM : MI l D tys y bytes maxL ret rm As w r W1) (hcode : Cond.code y bytes maxL (some ret) ∈ rg_tbl) (hlink : Cond.methodLink own index y ∈ rg_tbl) (hstat : Cond.static y ∈ rg_tbl) (hini : Cond.initialized y.cls ∈ rg_tbl) (hd : y.cls ≠ "java/lang/invoke/MethodHandle" ∧ y.cls ≠ "java/lang/invoke/VarHandle" ∧ (parseMethodDescriptor y.desc).map (fun d => d.parameters.length) = some n) (hR : rm.frames + 1 ≤ R.frames ∧ 8 + (maxL + 11) + rm.locals ≤ R.locals ∧ rm.cells = 0 ∧ rm.slots = 0) (hcat : (st.map fun v => v.category).sum ≤ 8) (hdg : decode cc pc = .ok (.invokestatic index, 3)) (hn : As.length = n) (hst : stk = As.reverse ++ st) (hfc : cells ≤ R.cells ∧ slots ≤ R.slots) (kk : WW p l e R s m args below meth c Q D A nL tys cells slots (pc + 3) lo (.int r :: st) W1) : WW p l e R s m args below meth c Q D A nL tys cells slots pc lo stk w := by
  subst hst
  intro hK H locs ls hP hD hS hl
  have cw := va_cwS (R := R) (s := s) (args := args) (own := own) (index := index) (y := y) (bytes := bytes) (maxL := maxL) (mc := 0) (ms := 0) (ret := (some ret)) (ws := Cond.code y bytes maxL (some ret) :: rg_tbl) (rm := rm) n C0.2.2.2.2.1 (rg_goodIn (by
    intro w hw
    simp only [va_wsS, List.cons_append, List.nil_append, List.mem_cons] at hw
    rcases hw with rfl | rfl | rfl | rfl | hw <;> assumption)) rfl hR.2.2.1 hR.2.2.2 hd ⟨hR.1, hR.2.1⟩
  exact va_calli (va_runS (As := As) (rest := st) ⟨C0.1, C0.2.1, C0.2.2.1, C0.2.2.2.1, C0.2.2.2.2.1⟩ (hM H.size) cw ⟨mp_blind, fun U hU hW => mp_of hK C0.2.2.2.2.2.2.2 hP hD U hU hW⟩ rfl hn hl.2.1 rfl (lv_room hcat) hdg ⟨by have := hfc.1; omega, by have := hfc.2; omega⟩) hS (fun q _ h => ww_AA C0 hD hS q h) (ww_AA C0 hD hS) (fun r' u t H1 locs1 ht hvm hw hB hz1 hk1 hS1 => by
    obtain ⟨hP1, hK1, hD1⟩ := hB
    rw [ht] at hP1
    subst hw
    exact kk hK H1 locs1 ls hP1 (hD1.weaken (fun _ _ _ h => ww_AA C0 hD hS _ h)) hS1 hl)
theorem ww_callVNi (C0 : CT p s m args meth c cc own nL A) {ret : FieldType} {r : Int32} {host : String} {y : MethodName} {bytes : ByteArray} {maxL n index : Nat} {rm : Room} {b : Nat} {As : List Value} {stk : List Value} {W1 : va_W} (q0 ci : Nat) {fs : List Value} {qc : vw_C} (hM : MI l D tys y bytes maxL ret rm (.ref b :: As) w r W1) (hcode : Cond.code y bytes maxL (some ret) ∈ rg_tbl) (hlink : Cond.methodLinkNest own index y host ∈ nk_tbl) (hinst : Cond.instanceMethod y ∈ rg_tbl) (hsel : Cond.selects y.cls y y ∈ rg_tbl) (hini : Cond.initialized y.cls ∈ rg_tbl) (hd : y.cls ≠ "java/lang/invoke/MethodHandle" ∧ y.cls ≠ "java/lang/invoke/VarHandle" ∧ (parseMethodDescriptor y.desc).map (fun d => d.parameters.length) = some n) (hcl : vwCl[ci]? = some qc) (hqc : qc.1 = y.cls) (hR : rm.frames + 1 ≤ R.frames ∧ 8 + (maxL + 11) + rm.locals ≤ R.locals ∧ rm.cells = 0 ∧ rm.slots = 0) (hcat : (st.map fun v => v.category).sum ≤ 8) (hdg : decode cc pc = .ok (.invokevirtual index, 3)) (hrec : w[q0]? = some (b, .inr (ci, fs))) (hn : As.length = n) (hst : stk = As.reverse ++ .ref b :: st) (hfc : cells ≤ R.cells ∧ slots ≤ R.slots) (kk : WW p l e R s m args below meth c Q D A nL tys cells slots (pc + 3) lo (.int r :: st) W1) : WW p l e R s m args below meth c Q D A nL tys cells slots pc lo stk w := by
  subst hst
  intro hK H locs ls hP hD hS hl
  have cw : va_CN R s args own index y host bytes maxL (some ret) (Cond.code y bytes maxL (some ret) :: rg_tbl) rm 0 0 n := va_cnB n C0.2.2.2.2.1 (rg_goodIn (by
    intro w hw
    rcases List.mem_cons.mp hw with rfl | hw <;> assumption)) rfl hR.2.2.1 hR.2.2.2 (C0.2.2.2.2.2.2.2 _ hlink) (C0.2.2.2.2.1 _ hini) hd ⟨hR.1, hR.2.1⟩
  exact va_calli (va_runVN (As := As) (rest := st) ⟨C0.1, C0.2.1, C0.2.2.1, C0.2.2.2.1, C0.2.2.2.2.1⟩ (hM H.size) ⟨cw, C0.2.2.2.2.1 _ hinst, C0.2.2.2.2.1 _ hsel⟩ ⟨mp_blind, (by rw [← hqc]; exact va_recv hK hP hcl hrec), fun U hU hW => mp_of hK C0.2.2.2.2.2.2.2 hP hD U hU hW⟩ rfl hn hl.2.1 rfl (lv_room hcat) hdg ⟨by have := hfc.1; omega, by have := hfc.2; omega⟩) hS (fun q _ h => ww_AA C0 hD hS q h) (ww_AA C0 hD hS) (fun r' u t H1 locs1 ht hvm hw hB hz1 hk1 hS1 => by
    obtain ⟨hP1, hK1, hD1⟩ := hB
    rw [ht] at hP1
    subst hw
    exact kk hK H1 locs1 ls hP1 (hD1.weaken (fun _ _ _ h => ww_AA C0 hD hS _ h)) hS1 hl)
theorem ww_callSNi (C0 : CT p s m args meth c cc own nL A) {ret : FieldType} {r : Int32} {host : String} {y : MethodName} {bytes : ByteArray} {maxL n index : Nat} {rm : Room} {As : List Value} {stk : List Value} {W1 : va_W} (hM : MI l D tys y bytes maxL ret rm As w r W1) (hcode : Cond.code y bytes maxL (some ret) ∈ rg_tbl) (hlink : Cond.methodLinkNest own index y host ∈ nk_tbl) (hstat : Cond.static y ∈ rg_tbl) (hini : Cond.initialized y.cls ∈ rg_tbl) (hd : y.cls ≠ "java/lang/invoke/MethodHandle" ∧ y.cls ≠ "java/lang/invoke/VarHandle" ∧ (parseMethodDescriptor y.desc).map (fun d => d.parameters.length) = some n) (hR : rm.frames + 1 ≤ R.frames ∧ 8 + (maxL + 11) + rm.locals ≤ R.locals ∧ rm.cells = 0 ∧ rm.slots = 0) (hcat : (st.map fun v => v.category).sum ≤ 8) (hdg : decode cc pc = .ok (.invokestatic index, 3)) (hn : As.length = n) (hst : stk = As.reverse ++ st) (hfc : cells ≤ R.cells ∧ slots ≤ R.slots) (kk : WW p l e R s m args below meth c Q D A nL tys cells slots (pc + 3) lo (.int r :: st) W1) : WW p l e R s m args below meth c Q D A nL tys cells slots pc lo stk w := by
  subst hst
  intro hK H locs ls hP hD hS hl
  have cw : va_CN R s args own index y host bytes maxL (some ret) (Cond.code y bytes maxL (some ret) :: rg_tbl) rm 0 0 n := va_cnB n C0.2.2.2.2.1 (rg_goodIn (by
    intro w hw
    rcases List.mem_cons.mp hw with rfl | hw <;> assumption)) rfl hR.2.2.1 hR.2.2.2 (C0.2.2.2.2.2.2.2 _ hlink) (C0.2.2.2.2.1 _ hini) hd ⟨hR.1, hR.2.1⟩
  exact va_calli (va_runSN (As := As) (rest := st) ⟨C0.1, C0.2.1, C0.2.2.1, C0.2.2.2.1, C0.2.2.2.2.1⟩ (hM H.size) ⟨cw, C0.2.2.2.2.1 _ hstat, trivial⟩ ⟨mp_blind, fun U hU hW => mp_of hK C0.2.2.2.2.2.2.2 hP hD U hU hW⟩ rfl hn hl.2.1 rfl (lv_room hcat) hdg ⟨by have := hfc.1; omega, by have := hfc.2; omega⟩) hS (fun q _ h => ww_AA C0 hD hS q h) (ww_AA C0 hD hS) (fun r' u t H1 locs1 ht hvm hw hB hz1 hk1 hS1 => by
    obtain ⟨hP1, hK1, hD1⟩ := hB
    rw [ht] at hP1
    subst hw
    exact kk hK H1 locs1 ls hP1 (hD1.weaken (fun _ _ _ h => ww_AA C0 hD hS _ h)) hS1 hl)
theorem ww_callVl (C0 : CT p s m args meth c cc own nL A) {r : Int64} {y : MethodName} {bytes : ByteArray} {maxL n index : Nat} {rm : Room} {b : Nat} {As : List Value} {stk : List Value} {W1 : va_W} (q0 ci : Nat) {fs : List Value} {qc : vw_C} (hM : ML l D tys y bytes maxL rm (.ref b :: As) w r W1) (hcode : Cond.code y bytes maxL (some .long) ∈ rg_tbl) (hlink : Cond.methodLink own index y ∈ rg_tbl) (hinst : Cond.instanceMethod y ∈ rg_tbl) (hsel : Cond.selects y.cls y y ∈ rg_tbl) (hini : Cond.initialized y.cls ∈ rg_tbl) (hd : y.cls ≠ "java/lang/invoke/MethodHandle" ∧ y.cls ≠ "java/lang/invoke/VarHandle" ∧ (parseMethodDescriptor y.desc).map (fun d => d.parameters.length) = some n) (hcl : vwCl[ci]? = some qc) (hqc : qc.1 = y.cls) (hR : rm.frames + 1 ≤ R.frames ∧ 8 + (maxL + 11) + rm.locals ≤ R.locals ∧ rm.cells = 0 ∧ rm.slots = 0) (hcat : (st.map fun v => v.category).sum ≤ 8) (hdg : decode cc pc = .ok (.invokevirtual index, 3)) (hrec : w[q0]? = some (b, .inr (ci, fs))) (hn : As.length = n) (hst : stk = As.reverse ++ .ref b :: st) (hfc : cells ≤ R.cells ∧ slots ≤ R.slots) (kk : WW p l e R s m args below meth c Q D A nL tys cells slots (pc + 3) lo (.long r :: st) W1) : WW p l e R s m args below meth c Q D A nL tys cells slots pc lo stk w := by
  subst hst
  intro hK H locs ls hP hD hS hl
  have cw : CallW R s args own y.cls index y bytes maxL (some .long) (Cond.code y bytes maxL (some .long) :: rg_tbl) rm 0 0 n := cwV n C0.2.2.2.2.1 (rg_goodIn (by
    intro w hw
    simp only [wsV, List.cons_append, List.nil_append, List.mem_cons] at hw
    rcases hw with rfl | rfl | rfl | rfl | rfl | hw <;> assumption)) rfl hR.2.2.1 hR.2.2.2 ⟨rfl, hd⟩ ⟨hR.1, hR.2.1⟩
  exact va_calll (va_runV (As := As) (rest := st) ⟨C0.1, C0.2.1, C0.2.2.1, C0.2.2.2.1, C0.2.2.2.2.1⟩ (hM H.size) cw ⟨mp_blind, (by rw [← hqc]; exact va_recv hK hP hcl hrec), fun U hU hW => mp_of hK C0.2.2.2.2.2.2.2 hP hD U hU hW⟩ rfl hn hl.2.1 rfl (lv_room hcat) hdg ⟨by have := hfc.1; omega, by have := hfc.2; omega⟩) hS (fun q _ h => ww_AA C0 hD hS q h) (ww_AA C0 hD hS) (fun r' u t H1 locs1 ht hvm hw hB hz1 hk1 hS1 => by
    obtain ⟨hP1, hK1, hD1⟩ := hB
    rw [ht] at hP1
    subst hw
    exact kk hK H1 locs1 ls hP1 (hD1.weaken (fun _ _ _ h => ww_AA C0 hD hS _ h)) hS1 hl)
theorem ww_callSl (C0 : CT p s m args meth c cc own nL A) {r : Int64} {y : MethodName} {bytes : ByteArray} {maxL n index : Nat} {rm : Room} {As : List Value} {stk : List Value} {W1 : va_W} (hM : ML l D tys y bytes maxL rm As w r W1) (hcode : Cond.code y bytes maxL (some .long) ∈ rg_tbl) (hlink : Cond.methodLink own index y ∈ rg_tbl) (hstat : Cond.static y ∈ rg_tbl) (hini : Cond.initialized y.cls ∈ rg_tbl) (hd : y.cls ≠ "java/lang/invoke/MethodHandle" ∧ y.cls ≠ "java/lang/invoke/VarHandle" ∧ (parseMethodDescriptor y.desc).map (fun d => d.parameters.length) = some n) (hR : rm.frames + 1 ≤ R.frames ∧ 8 + (maxL + 11) + rm.locals ≤ R.locals ∧ rm.cells = 0 ∧ rm.slots = 0) (hcat : (st.map fun v => v.category).sum ≤ 8) (hdg : decode cc pc = .ok (.invokestatic index, 3)) (hn : As.length = n) (hst : stk = As.reverse ++ st) (hfc : cells ≤ R.cells ∧ slots ≤ R.slots) (kk : WW p l e R s m args below meth c Q D A nL tys cells slots (pc + 3) lo (.long r :: st) W1) : WW p l e R s m args below meth c Q D A nL tys cells slots pc lo stk w := by
  subst hst
  intro hK H locs ls hP hD hS hl
  have cw := va_cwS (R := R) (s := s) (args := args) (own := own) (index := index) (y := y) (bytes := bytes) (maxL := maxL) (mc := 0) (ms := 0) (ret := (some .long)) (ws := Cond.code y bytes maxL (some .long) :: rg_tbl) (rm := rm) n C0.2.2.2.2.1 (rg_goodIn (by
    intro w hw
    simp only [va_wsS, List.cons_append, List.nil_append, List.mem_cons] at hw
    rcases hw with rfl | rfl | rfl | rfl | hw <;> assumption)) rfl hR.2.2.1 hR.2.2.2 hd ⟨hR.1, hR.2.1⟩
  exact va_calll (va_runS (As := As) (rest := st) ⟨C0.1, C0.2.1, C0.2.2.1, C0.2.2.2.1, C0.2.2.2.2.1⟩ (hM H.size) cw ⟨mp_blind, fun U hU hW => mp_of hK C0.2.2.2.2.2.2.2 hP hD U hU hW⟩ rfl hn hl.2.1 rfl (lv_room hcat) hdg ⟨by have := hfc.1; omega, by have := hfc.2; omega⟩) hS (fun q _ h => ww_AA C0 hD hS q h) (ww_AA C0 hD hS) (fun r' u t H1 locs1 ht hvm hw hB hz1 hk1 hS1 => by
    obtain ⟨hP1, hK1, hD1⟩ := hB
    rw [ht] at hP1
    subst hw
    exact kk hK H1 locs1 ls hP1 (hD1.weaken (fun _ _ _ h => ww_AA C0 hD hS _ h)) hS1 hl)
theorem ww_callVNl (C0 : CT p s m args meth c cc own nL A) {r : Int64} {host : String} {y : MethodName} {bytes : ByteArray} {maxL n index : Nat} {rm : Room} {b : Nat} {As : List Value} {stk : List Value} {W1 : va_W} (q0 ci : Nat) {fs : List Value} {qc : vw_C} (hM : ML l D tys y bytes maxL rm (.ref b :: As) w r W1) (hcode : Cond.code y bytes maxL (some .long) ∈ rg_tbl) (hlink : Cond.methodLinkNest own index y host ∈ nk_tbl) (hinst : Cond.instanceMethod y ∈ rg_tbl) (hsel : Cond.selects y.cls y y ∈ rg_tbl) (hini : Cond.initialized y.cls ∈ rg_tbl) (hd : y.cls ≠ "java/lang/invoke/MethodHandle" ∧ y.cls ≠ "java/lang/invoke/VarHandle" ∧ (parseMethodDescriptor y.desc).map (fun d => d.parameters.length) = some n) (hcl : vwCl[ci]? = some qc) (hqc : qc.1 = y.cls) (hR : rm.frames + 1 ≤ R.frames ∧ 8 + (maxL + 11) + rm.locals ≤ R.locals ∧ rm.cells = 0 ∧ rm.slots = 0) (hcat : (st.map fun v => v.category).sum ≤ 8) (hdg : decode cc pc = .ok (.invokevirtual index, 3)) (hrec : w[q0]? = some (b, .inr (ci, fs))) (hn : As.length = n) (hst : stk = As.reverse ++ .ref b :: st) (hfc : cells ≤ R.cells ∧ slots ≤ R.slots) (kk : WW p l e R s m args below meth c Q D A nL tys cells slots (pc + 3) lo (.long r :: st) W1) : WW p l e R s m args below meth c Q D A nL tys cells slots pc lo stk w := by
  subst hst
  intro hK H locs ls hP hD hS hl
  have cw : va_CN R s args own index y host bytes maxL (some .long) (Cond.code y bytes maxL (some .long) :: rg_tbl) rm 0 0 n := va_cnB n C0.2.2.2.2.1 (rg_goodIn (by
    intro w hw
    rcases List.mem_cons.mp hw with rfl | hw <;> assumption)) rfl hR.2.2.1 hR.2.2.2 (C0.2.2.2.2.2.2.2 _ hlink) (C0.2.2.2.2.1 _ hini) hd ⟨hR.1, hR.2.1⟩
  exact va_calll (va_runVN (As := As) (rest := st) ⟨C0.1, C0.2.1, C0.2.2.1, C0.2.2.2.1, C0.2.2.2.2.1⟩ (hM H.size) ⟨cw, C0.2.2.2.2.1 _ hinst, C0.2.2.2.2.1 _ hsel⟩ ⟨mp_blind, (by rw [← hqc]; exact va_recv hK hP hcl hrec), fun U hU hW => mp_of hK C0.2.2.2.2.2.2.2 hP hD U hU hW⟩ rfl hn hl.2.1 rfl (lv_room hcat) hdg ⟨by have := hfc.1; omega, by have := hfc.2; omega⟩) hS (fun q _ h => ww_AA C0 hD hS q h) (ww_AA C0 hD hS) (fun r' u t H1 locs1 ht hvm hw hB hz1 hk1 hS1 => by
    obtain ⟨hP1, hK1, hD1⟩ := hB
    rw [ht] at hP1
    subst hw
    exact kk hK H1 locs1 ls hP1 (hD1.weaken (fun _ _ _ h => ww_AA C0 hD hS _ h)) hS1 hl)
theorem ww_callSNl (C0 : CT p s m args meth c cc own nL A) {r : Int64} {host : String} {y : MethodName} {bytes : ByteArray} {maxL n index : Nat} {rm : Room} {As : List Value} {stk : List Value} {W1 : va_W} (hM : ML l D tys y bytes maxL rm As w r W1) (hcode : Cond.code y bytes maxL (some .long) ∈ rg_tbl) (hlink : Cond.methodLinkNest own index y host ∈ nk_tbl) (hstat : Cond.static y ∈ rg_tbl) (hini : Cond.initialized y.cls ∈ rg_tbl) (hd : y.cls ≠ "java/lang/invoke/MethodHandle" ∧ y.cls ≠ "java/lang/invoke/VarHandle" ∧ (parseMethodDescriptor y.desc).map (fun d => d.parameters.length) = some n) (hR : rm.frames + 1 ≤ R.frames ∧ 8 + (maxL + 11) + rm.locals ≤ R.locals ∧ rm.cells = 0 ∧ rm.slots = 0) (hcat : (st.map fun v => v.category).sum ≤ 8) (hdg : decode cc pc = .ok (.invokestatic index, 3)) (hn : As.length = n) (hst : stk = As.reverse ++ st) (hfc : cells ≤ R.cells ∧ slots ≤ R.slots) (kk : WW p l e R s m args below meth c Q D A nL tys cells slots (pc + 3) lo (.long r :: st) W1) : WW p l e R s m args below meth c Q D A nL tys cells slots pc lo stk w := by
  subst hst
  intro hK H locs ls hP hD hS hl
  have cw : va_CN R s args own index y host bytes maxL (some .long) (Cond.code y bytes maxL (some .long) :: rg_tbl) rm 0 0 n := va_cnB n C0.2.2.2.2.1 (rg_goodIn (by
    intro w hw
    rcases List.mem_cons.mp hw with rfl | hw <;> assumption)) rfl hR.2.2.1 hR.2.2.2 (C0.2.2.2.2.2.2.2 _ hlink) (C0.2.2.2.2.1 _ hini) hd ⟨hR.1, hR.2.1⟩
  exact va_calll (va_runSN (As := As) (rest := st) ⟨C0.1, C0.2.1, C0.2.2.1, C0.2.2.2.1, C0.2.2.2.2.1⟩ (hM H.size) ⟨cw, C0.2.2.2.2.1 _ hstat, trivial⟩ ⟨mp_blind, fun U hU hW => mp_of hK C0.2.2.2.2.2.2.2 hP hD U hU hW⟩ rfl hn hl.2.1 rfl (lv_room hcat) hdg ⟨by have := hfc.1; omega, by have := hfc.2; omega⟩) hS (fun q _ h => ww_AA C0 hD hS q h) (ww_AA C0 hD hS) (fun r' u t H1 locs1 ht hvm hw hB hz1 hk1 hS1 => by
    obtain ⟨hP1, hK1, hD1⟩ := hB
    rw [ht] at hP1
    subst hw
    exact kk hK H1 locs1 ls hP1 (hD1.weaken (fun _ _ _ h => ww_AA C0 hD hS _ h)) hS1 hl)
theorem ww_callVv (C0 : CT p s m args meth c cc own nL A) {y : MethodName} {bytes : ByteArray} {maxL n index : Nat} {rm : Room} {b : Nat} {As : List Value} {stk : List Value} {W1 : va_W} (q0 ci : Nat) {fs : List Value} {qc : vw_C} (hM : MV l D tys y bytes maxL rm (.ref b :: As) w W1) (hcode : Cond.code y bytes maxL none ∈ rg_tbl) (hlink : Cond.methodLink own index y ∈ rg_tbl) (hinst : Cond.instanceMethod y ∈ rg_tbl) (hsel : Cond.selects y.cls y y ∈ rg_tbl) (hini : Cond.initialized y.cls ∈ rg_tbl) (hd : y.cls ≠ "java/lang/invoke/MethodHandle" ∧ y.cls ≠ "java/lang/invoke/VarHandle" ∧ (parseMethodDescriptor y.desc).map (fun d => d.parameters.length) = some n) (hcl : vwCl[ci]? = some qc) (hqc : qc.1 = y.cls) (hR : rm.frames + 1 ≤ R.frames ∧ 8 + (maxL + 11) + rm.locals ≤ R.locals ∧ rm.cells = 0 ∧ rm.slots = 0) (hcat : (st.map fun v => v.category).sum ≤ 8) (hdg : decode cc pc = .ok (.invokevirtual index, 3)) (hrec : w[q0]? = some (b, .inr (ci, fs))) (hn : As.length = n) (hst : stk = As.reverse ++ .ref b :: st) (hfc : cells ≤ R.cells ∧ slots ≤ R.slots) (kk : WW p l e R s m args below meth c Q D A nL tys cells slots (pc + 3) lo st W1) : WW p l e R s m args below meth c Q D A nL tys cells slots pc lo stk w := by
  subst hst
  intro hK H locs ls hP hD hS hl
  have cw : CallW R s args own y.cls index y bytes maxL none (Cond.code y bytes maxL none :: rg_tbl) rm 0 0 n := cwV n C0.2.2.2.2.1 (rg_goodIn (by
    intro w hw
    simp only [wsV, List.cons_append, List.nil_append, List.mem_cons] at hw
    rcases hw with rfl | rfl | rfl | rfl | rfl | hw <;> assumption)) rfl hR.2.2.1 hR.2.2.2 ⟨rfl, hd⟩ ⟨hR.1, hR.2.1⟩
  exact va_callv (va_runV (As := As) (rest := st) ⟨C0.1, C0.2.1, C0.2.2.1, C0.2.2.2.1, C0.2.2.2.2.1⟩ (hM H.size) cw ⟨mp_blind, (by rw [← hqc]; exact va_recv hK hP hcl hrec), fun U hU hW => mp_of hK C0.2.2.2.2.2.2.2 hP hD U hU hW⟩ rfl hn hl.2.1 rfl (lv_room hcat) hdg ⟨by have := hfc.1; omega, by have := hfc.2; omega⟩) hS (fun q _ h => ww_AA C0 hD hS q h) (ww_AA C0 hD hS) (fun u t H1 locs1 ht hvm hw hB hz1 hk1 hS1 => by
    obtain ⟨hP1, hK1, hD1⟩ := hB
    rw [ht] at hP1
    exact kk hK H1 locs1 ls hP1 (hD1.weaken (fun _ _ _ h => ww_AA C0 hD hS _ h)) hS1 hl)
theorem ww_callSv (C0 : CT p s m args meth c cc own nL A) {y : MethodName} {bytes : ByteArray} {maxL n index : Nat} {rm : Room} {As : List Value} {stk : List Value} {W1 : va_W} (hM : MV l D tys y bytes maxL rm As w W1) (hcode : Cond.code y bytes maxL none ∈ rg_tbl) (hlink : Cond.methodLink own index y ∈ rg_tbl) (hstat : Cond.static y ∈ rg_tbl) (hini : Cond.initialized y.cls ∈ rg_tbl) (hd : y.cls ≠ "java/lang/invoke/MethodHandle" ∧ y.cls ≠ "java/lang/invoke/VarHandle" ∧ (parseMethodDescriptor y.desc).map (fun d => d.parameters.length) = some n) (hR : rm.frames + 1 ≤ R.frames ∧ 8 + (maxL + 11) + rm.locals ≤ R.locals ∧ rm.cells = 0 ∧ rm.slots = 0) (hcat : (st.map fun v => v.category).sum ≤ 8) (hdg : decode cc pc = .ok (.invokestatic index, 3)) (hn : As.length = n) (hst : stk = As.reverse ++ st) (hfc : cells ≤ R.cells ∧ slots ≤ R.slots) (kk : WW p l e R s m args below meth c Q D A nL tys cells slots (pc + 3) lo st W1) : WW p l e R s m args below meth c Q D A nL tys cells slots pc lo stk w := by
  subst hst
  intro hK H locs ls hP hD hS hl
  have cw := va_cwS (R := R) (s := s) (args := args) (own := own) (index := index) (y := y) (bytes := bytes) (maxL := maxL) (mc := 0) (ms := 0) (ret := none) (ws := Cond.code y bytes maxL none :: rg_tbl) (rm := rm) n C0.2.2.2.2.1 (rg_goodIn (by
    intro w hw
    simp only [va_wsS, List.cons_append, List.nil_append, List.mem_cons] at hw
    rcases hw with rfl | rfl | rfl | rfl | hw <;> assumption)) rfl hR.2.2.1 hR.2.2.2 hd ⟨hR.1, hR.2.1⟩
  exact va_callv (va_runS (As := As) (rest := st) ⟨C0.1, C0.2.1, C0.2.2.1, C0.2.2.2.1, C0.2.2.2.2.1⟩ (hM H.size) cw ⟨mp_blind, fun U hU hW => mp_of hK C0.2.2.2.2.2.2.2 hP hD U hU hW⟩ rfl hn hl.2.1 rfl (lv_room hcat) hdg ⟨by have := hfc.1; omega, by have := hfc.2; omega⟩) hS (fun q _ h => ww_AA C0 hD hS q h) (ww_AA C0 hD hS) (fun u t H1 locs1 ht hvm hw hB hz1 hk1 hS1 => by
    obtain ⟨hP1, hK1, hD1⟩ := hB
    rw [ht] at hP1
    exact kk hK H1 locs1 ls hP1 (hD1.weaken (fun _ _ _ h => ww_AA C0 hD hS _ h)) hS1 hl)
theorem ww_callVNv (C0 : CT p s m args meth c cc own nL A) {host : String} {y : MethodName} {bytes : ByteArray} {maxL n index : Nat} {rm : Room} {b : Nat} {As : List Value} {stk : List Value} {W1 : va_W} (q0 ci : Nat) {fs : List Value} {qc : vw_C} (hM : MV l D tys y bytes maxL rm (.ref b :: As) w W1) (hcode : Cond.code y bytes maxL none ∈ rg_tbl) (hlink : Cond.methodLinkNest own index y host ∈ nk_tbl) (hinst : Cond.instanceMethod y ∈ rg_tbl) (hsel : Cond.selects y.cls y y ∈ rg_tbl) (hini : Cond.initialized y.cls ∈ rg_tbl) (hd : y.cls ≠ "java/lang/invoke/MethodHandle" ∧ y.cls ≠ "java/lang/invoke/VarHandle" ∧ (parseMethodDescriptor y.desc).map (fun d => d.parameters.length) = some n) (hcl : vwCl[ci]? = some qc) (hqc : qc.1 = y.cls) (hR : rm.frames + 1 ≤ R.frames ∧ 8 + (maxL + 11) + rm.locals ≤ R.locals ∧ rm.cells = 0 ∧ rm.slots = 0) (hcat : (st.map fun v => v.category).sum ≤ 8) (hdg : decode cc pc = .ok (.invokevirtual index, 3)) (hrec : w[q0]? = some (b, .inr (ci, fs))) (hn : As.length = n) (hst : stk = As.reverse ++ .ref b :: st) (hfc : cells ≤ R.cells ∧ slots ≤ R.slots) (kk : WW p l e R s m args below meth c Q D A nL tys cells slots (pc + 3) lo st W1) : WW p l e R s m args below meth c Q D A nL tys cells slots pc lo stk w := by
  subst hst
  intro hK H locs ls hP hD hS hl
  have cw : va_CN R s args own index y host bytes maxL none (Cond.code y bytes maxL none :: rg_tbl) rm 0 0 n := va_cnB n C0.2.2.2.2.1 (rg_goodIn (by
    intro w hw
    rcases List.mem_cons.mp hw with rfl | hw <;> assumption)) rfl hR.2.2.1 hR.2.2.2 (C0.2.2.2.2.2.2.2 _ hlink) (C0.2.2.2.2.1 _ hini) hd ⟨hR.1, hR.2.1⟩
  exact va_callv (va_runVN (As := As) (rest := st) ⟨C0.1, C0.2.1, C0.2.2.1, C0.2.2.2.1, C0.2.2.2.2.1⟩ (hM H.size) ⟨cw, C0.2.2.2.2.1 _ hinst, C0.2.2.2.2.1 _ hsel⟩ ⟨mp_blind, (by rw [← hqc]; exact va_recv hK hP hcl hrec), fun U hU hW => mp_of hK C0.2.2.2.2.2.2.2 hP hD U hU hW⟩ rfl hn hl.2.1 rfl (lv_room hcat) hdg ⟨by have := hfc.1; omega, by have := hfc.2; omega⟩) hS (fun q _ h => ww_AA C0 hD hS q h) (ww_AA C0 hD hS) (fun u t H1 locs1 ht hvm hw hB hz1 hk1 hS1 => by
    obtain ⟨hP1, hK1, hD1⟩ := hB
    rw [ht] at hP1
    exact kk hK H1 locs1 ls hP1 (hD1.weaken (fun _ _ _ h => ww_AA C0 hD hS _ h)) hS1 hl)
end WWc
end
section
/-! fewer things known of the locals; loops; worlds in another order -/
def wl_le : List Value → List Value → Prop
  | [], [] => True
  | a :: as, b :: bs => (a = .null ∨ a = b) ∧ wl_le as bs
  | _, _ => False
theorem wl_le_at : ∀ {lo lo' : List Value}, wl_le lo lo' → lo.length = lo'.length ∧ ∀ (i : Nat) (v : Value), lo[i]? = some v → v ≠ .null → lo'[i]? = some v
  | [], [], _ => ⟨rfl, fun i v h => by simp at h⟩
  | a :: as, b :: bs, h => by
    obtain ⟨h1, h2⟩ := h
    obtain ⟨g1, g2⟩ := wl_le_at h2
    refine ⟨by simp [g1], fun i v hi hv => ?_⟩
    cases i with
    | zero =>
      simp only [List.getElem?_cons_zero, Option.some.injEq] at hi ⊢
      subst hi
      rcases h1 with h1 | h1
      · exact absurd h1 hv
      · exact h1.symm
    | succ i =>
      simp only [List.getElem?_cons_succ] at hi ⊢
      exact g2 i v hi hv
  | [], _ :: _, h => h.elim
  | _ :: _, [], h => h.elim
theorem wl_l.le {ls : Array Slot} {nL : Nat} {lo lo' : List Value} (h : wl_le lo lo') (hl : wl_l ls nL lo') : wl_l ls nL lo :=
  ⟨(wl_le_at h).1.trans hl.1, hl.2.1, hl.2.2.1, fun i v hi hv => hl.2.2.2 i v ((wl_le_at h).2 i v hi hv) hv⟩
theorem perm_mv (i k j : Nat) (w : va_W) : w.Perm (w.take i ++ ((w.drop (i + k)).take j ++ ((w.drop i).take k ++ w.drop (i + k + j)))) := by
  have e : w = w.take i ++ ((w.drop i).take k ++ ((w.drop (i + k)).take j ++ w.drop (i + k + j))) := by
    have h1 : w.drop (i + k) = (w.drop (i + k)).take j ++ w.drop (i + k + j) := by
      conv => lhs; rw [← List.take_append_drop j (w.drop (i + k))]
      rw [List.drop_drop]
    have h2 : w.drop i = (w.drop i).take k ++ w.drop (i + k) := by
      conv => lhs; rw [← List.take_append_drop k (w.drop i)]
      rw [List.drop_drop]
    rw [← h1, ← h2, List.take_append_drop]
  exact (List.Perm.of_eq e).trans (perm_swap3 _ _ _ _)
section WWd
variable {p : Program} {l : Launch} {e : Env} {R : Room} {s : State} {m : MethodId} {args : Array Value} {below : List Frame} {meth : Method} {c : Code} {Q : State → Prop} {D : va_G} {A : Nat → Prop} {cc : ByteArray} {own : String} {nL : Nat} {tys : List (ClassId × FieldType)} {cells slots pc : Nat} {lo st : List Value} {w : va_W}
theorem ww_back {lo' : List Value} {w' : va_W} (k : WW p l e R s m args below meth c Q D A nL tys cells slots pc lo' st w') (h : wl_le lo' lo) (hw : w = w') : WW p l e R s m args below meth c Q D A nL tys cells slots pc lo st w := by
  subst hw
  exact fun hK H locs ls hP hD hS hl => k hK H locs ls hP hD hS (hl.le h)
theorem ww_top {v v' : Int32} (h : v = v') (k : WW p l e R s m args below meth c Q D A nL tys cells slots pc lo (.int v' :: st) w) : WW p l e R s m args below meth c Q D A nL tys cells slots pc lo (.int v :: st) w := by
  subst h; exact k
theorem ww_world {w' : va_W} (h : w = w') (k : WW p l e R s m args below meth c Q D A nL tys cells slots pc lo st w') : WW p l e R s m args below meth c Q D A nL tys cells slots pc lo st w := by
  subst h; exact k
/-- a loop that counts i0 .. N -/
theorem ww_loop (i0 N : Nat) (h0 : i0 ≤ N) (lo : Nat → List Value) (w : Nat → va_W) (hs : ∀ j, i0 ≤ j → j < N → WW p l e R s m args below meth c Q D A nL tys cells slots pc (lo (j + 1)) st (w (j + 1)) → WW p l e R s m args below meth c Q D A nL tys cells slots pc (lo j) st (w j)) (hx : WW p l e R s m args below meth c Q D A nL tys cells slots pc (lo N) st (w N)) : WW p l e R s m args below meth c Q D A nL tys cells slots pc (lo i0) st (w i0) := by
  have key : ∀ n j, i0 ≤ j → j + n = N → WW p l e R s m args below meth c Q D A nL tys cells slots pc (lo j) st (w j) := by
    intro n
    induction n with
    | zero => intro j _ hj; have : j = N := by omega
              subst this; exact hx
    | succ n ih => intro j h1 hj; exact hs j h1 (by omega) (ih (j + 1) (by omega) (by omega))
  exact key (N - i0) i0 (Nat.le_refl _) (by omega)
/-- a loop with an invariant: it may end early -/
theorem ww_loopI {σ : Type} (i0 N : Nat) (h0 : i0 ≤ N) (I : Nat → σ → Prop) (lo : Nat → σ → List Value) (w : Nat → σ → va_W) (x0 : σ) (hI : I i0 x0) (hs : ∀ j x, i0 ≤ j → j < N → I j x → (∀ x', I (j + 1) x' → WW p l e R s m args below meth c Q D A nL tys cells slots pc (lo (j + 1) x') st (w (j + 1) x')) → WW p l e R s m args below meth c Q D A nL tys cells slots pc (lo j x) st (w j x)) (hx : ∀ x, I N x → WW p l e R s m args below meth c Q D A nL tys cells slots pc (lo N x) st (w N x)) : WW p l e R s m args below meth c Q D A nL tys cells slots pc (lo i0 x0) st (w i0 x0) := by
  have key : ∀ n j x, i0 ≤ j → j + n = N → I j x → WW p l e R s m args below meth c Q D A nL tys cells slots pc (lo j x) st (w j x) := by
    intro n
    induction n with
    | zero => intro j x _ hj hi; have : j = N := by omega
              subst this; exact hx x hi
    | succ n ih => intro j x h1 hj hi; exact hs j x h1 (by omega) hi (fun x' h' => ih (j + 1) x' (by omega) (by omega) h')
  exact key (N - i0) i0 x0 (Nat.le_refl _) (by omega) hI
/-- a loop by a measure -/
theorem ww_loopM {σ : Type} (I : σ → Prop) (μ : σ → Nat) (lo : σ → List Value) (w : σ → va_W) (x0 : σ) (hI : I x0) (hs : ∀ x, I x → (∀ x', I x' → μ x' < μ x → WW p l e R s m args below meth c Q D A nL tys cells slots pc (lo x') st (w x')) → WW p l e R s m args below meth c Q D A nL tys cells slots pc (lo x) st (w x)) : WW p l e R s m args below meth c Q D A nL tys cells slots pc (lo x0) st (w x0) := by
  have key : ∀ n x, μ x < n → I x → WW p l e R s m args below meth c Q D A nL tys cells slots pc (lo x) st (w x) := by
    intro n
    induction n with
    | zero => intro x h; omega
    | succ n ih => intro x h hi; exact hs x hi (fun x' h' hm => ih x' (by omega) h')
  exact key (μ x0 + 1) x0 (Nat.lt_succ_self _) hI
end WWd
theorem sw_out {x : Int32} (n : Nat) (hn : n < 2 ^ 31) (h : ∀ k, k < n → ¬ x = nI k) : x.toInt < 0 ∨ (n : Int) - 1 < x.toInt := by
  by_cases h0 : x.toInt < 0
  · exact Or.inl h0
  · by_cases h1 : (n : Int) - 1 < x.toInt
    · exact Or.inr h1
    · exfalso
      refine h x.toInt.toNat (by omega) ?_
      rw [← Int32.toInt_inj, nI_toInt (by omega)]
      omega
end
section
/-! small numbers -/
theorem nI_addE {x y : Int32} {a b : Nat} (hx : x = nI a) (hy : y = nI b) : x + y = nI (a + b) := by subst hx; subst hy; exact nI_add a b
theorem nI_mulE {x y : Int32} {a b : Nat} (hx : x = nI a) (hy : y = nI b) : x * y = nI (a * b) := by subst hx; subst hy; exact pk_mul a b
theorem nI_subE {x y : Int32} {a b : Nat} (hx : x = nI a) (hy : y = nI b) (h : b ≤ a) : x - y = nI (a - b) := by subst hx; subst hy; exact pk_sub h
theorem nI_decE {x : Int32} {a : Nat} (hx : x = nI a) (h : 1 ≤ a) : x + (-1) = nI (a - 1) := by
  subst hx
  obtain ⟨b, rfl⟩ : ∃ b, a = b + 1 := ⟨a - 1, by omega⟩
  exact pk_m1 b
theorem nI_divE {x y : Int32} {a b : Nat} (hx : x = nI a) (hy : y = nI b) (ha : a < 2 ^ 31) (h0 : 0 < b) (hb : b < 2 ^ 31) : x / y = nI (a / b) := by subst hx; subst hy; exact pk_div ha h0 hb
theorem nI_remE {x y : Int32} {a b : Nat} (hx : x = nI a) (hy : y = nI b) (ha : a < 2 ^ 31) (h0 : 0 < b) (hb : b < 2 ^ 31) : x - x / y * y = nI (a % b) := by subst hx; subst hy; exact pk_rem ha h0 hb
theorem nI_leE {x y : Int32} {a b : Nat} (hx : x = nI a) (hy : y = nI b) (ha : a < 2 ^ 31) (hb : b < 2 ^ 31) : x ≤ y ↔ a ≤ b := by subst hx; subst hy; exact nI_leI ha hb
theorem nI_ltE {x y : Int32} {a b : Nat} (hx : x = nI a) (hy : y = nI b) (ha : a < 2 ^ 31) (hb : b < 2 ^ 31) : x < y ↔ a < b := by subst hx; subst hy; exact nI_ltI ha hb
theorem nI_eqE {x y : Int32} {a b : Nat} (hx : x = nI a) (hy : y = nI b) (ha : a < 2 ^ 31) (hb : b < 2 ^ 31) : x = y ↔ a = b := by subst hx; subst hy; exact nI_eq ha hb
theorem sw_outc (x : Int32) (lo hi : Int) (h : ∀ k : Int, lo ≤ k → k ≤ hi → ¬ x.toInt = k) : x.toInt < lo ∨ hi < x.toInt := by
  by_cases h0 : x.toInt < lo
  · exact Or.inl h0
  · by_cases h1 : hi < x.toInt
    · exact Or.inr h1
    · exact absurd rfl (h x.toInt (by omega) (by omega))
theorem i32_ne {x : Int32} {n : Nat} (hn : n < 2 ^ 31) (h : ¬ x = nI n) : ¬ x.toInt = (n : Int) := fun e => h (by rw [← Int32.toInt_inj, nI_toInt hn, e])
/-- within 0 .. n - 1 -/
def isN (n : Nat) (m : Int32) : Bool := decide (0 ≤ m) && decide (m < nI n)
theorem isN_of {n : Nat} {m : Int32} (hn : n < 2 ^ 31) (h : isN n m = true) : ∃ k, k < n ∧ m = nI k := by
  simp only [isN, Bool.and_eq_true, decide_eq_true_eq] at h
  obtain ⟨j, hj, rfl⟩ := nI_of (x := m) (fun q => by
    have h1 := h.1
    simp only [Int32.le_iff_toInt_le, Int32.lt_iff_toInt_lt] at h1 q
    omega)
  exact ⟨j, (nI_ltI hj hn).mp h.2, rfl⟩
theorem isN_nI {n k : Nat} (hn : n < 2 ^ 31) (h : k < n) : isN n (nI k) = true := by
  simp only [isN, Bool.and_eq_true, decide_eq_true_eq]
  exact ⟨nI_pos' (by omega), (nI_ltI (by omega) hn).mpr h⟩
theorem isN_nI' {n k : Nat} (hn : n < 2 ^ 31) (hk : k < 2 ^ 31) : isN n (nI k) = decide (k < n) := by
  by_cases h : k < n
  · rw [isN_nI hn h]; simp [h]
  · simp only [isN, h, decide_false, Bool.and_eq_false_iff, decide_eq_false_iff_not]
    exact Or.inr (fun q => h ((nI_ltI hk hn).mp q))
theorem isN_neg {n : Nat} {m : Int32} (h : ¬ 0 ≤ m) : isN n m = false := by simp [isN, h]
theorem isN_big {n : Nat} {m : Int32} (h : ¬ m < nI n) : isN n m = false := by simp [isN, h]
theorem i32_lt0 {m : Int32} : m < 0 ↔ ¬ 0 ≤ m := by
  simp only [Int32.le_iff_toInt_le, Int32.lt_iff_toInt_lt]; omega
theorem i32_nlt {a b : Int32} : ¬ a < b ↔ b ≤ a := by
  simp only [Int32.le_iff_toInt_le, Int32.lt_iff_toInt_lt]; omega
theorem i32_nle {a b : Int32} : ¬ a ≤ b ↔ b < a := by
  simp only [Int32.le_iff_toInt_le, Int32.lt_iff_toInt_lt]; omega
theorem hd_X4_init : yX4_init.cls ≠ "java/lang/invoke/MethodHandle" ∧ yX4_init.cls ≠ "java/lang/invoke/VarHandle" ∧ (parseMethodDescriptor yX4_init.desc).map (fun d => d.parameters.length) = some 0 := ⟨by decide +kernel, by decide +kernel, by decide +kernel⟩
theorem hd_X3_init : yX3_init.cls ≠ "java/lang/invoke/MethodHandle" ∧ yX3_init.cls ≠ "java/lang/invoke/VarHandle" ∧ (parseMethodDescriptor yX3_init.desc).map (fun d => d.parameters.length) = some 0 := ⟨by decide +kernel, by decide +kernel, by decide +kernel⟩
theorem hd_X0_init : yX0_init.cls ≠ "java/lang/invoke/MethodHandle" ∧ yX0_init.cls ≠ "java/lang/invoke/VarHandle" ∧ (parseMethodDescriptor yX0_init.desc).map (fun d => d.parameters.length) = some 0 := ⟨by decide +kernel, by decide +kernel, by decide +kernel⟩
theorem hd_X2_init : yX2_init.cls ≠ "java/lang/invoke/MethodHandle" ∧ yX2_init.cls ≠ "java/lang/invoke/VarHandle" ∧ (parseMethodDescriptor yX2_init.desc).map (fun d => d.parameters.length) = some 0 := ⟨by decide +kernel, by decide +kernel, by decide +kernel⟩
theorem hd_X1_init : yX1_init.cls ≠ "java/lang/invoke/MethodHandle" ∧ yX1_init.cls ≠ "java/lang/invoke/VarHandle" ∧ (parseMethodDescriptor yX1_init.desc).map (fun d => d.parameters.length) = some 0 := ⟨by decide +kernel, by decide +kernel, by decide +kernel⟩
theorem hd_X4_write : yX4_write.cls ≠ "java/lang/invoke/MethodHandle" ∧ yX4_write.cls ≠ "java/lang/invoke/VarHandle" ∧ (parseMethodDescriptor yX4_write.desc).map (fun d => d.parameters.length) = some 1 := ⟨by decide +kernel, by decide +kernel, by decide +kernel⟩
theorem hd_X3_put : yX3_put.cls ≠ "java/lang/invoke/MethodHandle" ∧ yX3_put.cls ≠ "java/lang/invoke/VarHandle" ∧ (parseMethodDescriptor yX3_put.desc).map (fun d => d.parameters.length) = some 1 := ⟨by decide +kernel, by decide +kernel, by decide +kernel⟩
theorem hd_X4_wipe : yX4_wipe.cls ≠ "java/lang/invoke/MethodHandle" ∧ yX4_wipe.cls ≠ "java/lang/invoke/VarHandle" ∧ (parseMethodDescriptor yX4_wipe.desc).map (fun d => d.parameters.length) = some 0 := ⟨by decide +kernel, by decide +kernel, by decide +kernel⟩
theorem hd_X4_fault : yX4_fault.cls ≠ "java/lang/invoke/MethodHandle" ∧ yX4_fault.cls ≠ "java/lang/invoke/VarHandle" ∧ (parseMethodDescriptor yX4_fault.desc).map (fun d => d.parameters.length) = some 0 := ⟨by decide +kernel, by decide +kernel, by decide +kernel⟩
theorem hd_X3_firstFault : yX3_firstFault.cls ≠ "java/lang/invoke/MethodHandle" ∧ yX3_firstFault.cls ≠ "java/lang/invoke/VarHandle" ∧ (parseMethodDescriptor yX3_firstFault.desc).map (fun d => d.parameters.length) = some 0 := ⟨by decide +kernel, by decide +kernel, by decide +kernel⟩
theorem hd_X3_letter : yX3_letter.cls ≠ "java/lang/invoke/MethodHandle" ∧ yX3_letter.cls ≠ "java/lang/invoke/VarHandle" ∧ (parseMethodDescriptor yX3_letter.desc).map (fun d => d.parameters.length) = some 1 := ⟨by decide +kernel, by decide +kernel, by decide +kernel⟩
theorem hd_X3_figuresAt : yX3_figuresAt.cls ≠ "java/lang/invoke/MethodHandle" ∧ yX3_figuresAt.cls ≠ "java/lang/invoke/VarHandle" ∧ (parseMethodDescriptor yX3_figuresAt.desc).map (fun d => d.parameters.length) = some 2 := ⟨by decide +kernel, by decide +kernel, by decide +kernel⟩
theorem hd_X4_treaty : yX4_treaty.cls ≠ "java/lang/invoke/MethodHandle" ∧ yX4_treaty.cls ≠ "java/lang/invoke/VarHandle" ∧ (parseMethodDescriptor yX4_treaty.desc).map (fun d => d.parameters.length) = some 0 := ⟨by decide +kernel, by decide +kernel, by decide +kernel⟩
theorem hd_X4_readPart : yX4_readPart.cls ≠ "java/lang/invoke/MethodHandle" ∧ yX4_readPart.cls ≠ "java/lang/invoke/VarHandle" ∧ (parseMethodDescriptor yX4_readPart.desc).map (fun d => d.parameters.length) = some 1 := ⟨by decide +kernel, by decide +kernel, by decide +kernel⟩
theorem hd_X3_figure : yX3_figure.cls ≠ "java/lang/invoke/MethodHandle" ∧ yX3_figure.cls ≠ "java/lang/invoke/VarHandle" ∧ (parseMethodDescriptor yX3_figure.desc).map (fun d => d.parameters.length) = some 1 := ⟨by decide +kernel, by decide +kernel, by decide +kernel⟩
theorem hd_X0_add : yX0_add.cls ≠ "java/lang/invoke/MethodHandle" ∧ yX0_add.cls ≠ "java/lang/invoke/VarHandle" ∧ (parseMethodDescriptor yX0_add.desc).map (fun d => d.parameters.length) = some 3 := ⟨by decide +kernel, by decide +kernel, by decide +kernel⟩
theorem hd_X4_about : yX4_about.cls ≠ "java/lang/invoke/MethodHandle" ∧ yX4_about.cls ≠ "java/lang/invoke/VarHandle" ∧ (parseMethodDescriptor yX4_about.desc).map (fun d => d.parameters.length) = some 1 := ⟨by decide +kernel, by decide +kernel, by decide +kernel⟩
theorem hd_X4_article : yX4_article.cls ≠ "java/lang/invoke/MethodHandle" ∧ yX4_article.cls ≠ "java/lang/invoke/VarHandle" ∧ (parseMethodDescriptor yX4_article.desc).map (fun d => d.parameters.length) = some 2 := ⟨by decide +kernel, by decide +kernel, by decide +kernel⟩
theorem hd_X4_isArticle : yX4_isArticle.cls ≠ "java/lang/invoke/MethodHandle" ∧ yX4_isArticle.cls ≠ "java/lang/invoke/VarHandle" ∧ (parseMethodDescriptor yX4_isArticle.desc).map (fun d => d.parameters.length) = some 1 := ⟨by decide +kernel, by decide +kernel, by decide +kernel⟩
theorem hd_X4_mulesThatKnow : yX4_mulesThatKnow.cls ≠ "java/lang/invoke/MethodHandle" ∧ yX4_mulesThatKnow.cls ≠ "java/lang/invoke/VarHandle" ∧ (parseMethodDescriptor yX4_mulesThatKnow.desc).map (fun d => d.parameters.length) = some 1 := ⟨by decide +kernel, by decide +kernel, by decide +kernel⟩
theorem hd_X4_known : yX4_known.cls ≠ "java/lang/invoke/MethodHandle" ∧ yX4_known.cls ≠ "java/lang/invoke/VarHandle" ∧ (parseMethodDescriptor yX4_known.desc).map (fun d => d.parameters.length) = some 2 := ⟨by decide +kernel, by decide +kernel, by decide +kernel⟩
theorem hd_X4_isMule : yX4_isMule.cls ≠ "java/lang/invoke/MethodHandle" ∧ yX4_isMule.cls ≠ "java/lang/invoke/VarHandle" ∧ (parseMethodDescriptor yX4_isMule.desc).map (fun d => d.parameters.length) = some 1 := ⟨by decide +kernel, by decide +kernel, by decide +kernel⟩
theorem hd_X4_knownIfShown : yX4_knownIfShown.cls ≠ "java/lang/invoke/MethodHandle" ∧ yX4_knownIfShown.cls ≠ "java/lang/invoke/VarHandle" ∧ (parseMethodDescriptor yX4_knownIfShown.desc).map (fun d => d.parameters.length) = some 2 := ⟨by decide +kernel, by decide +kernel, by decide +kernel⟩
theorem hd_X0_all : yX0_all.cls ≠ "java/lang/invoke/MethodHandle" ∧ yX0_all.cls ≠ "java/lang/invoke/VarHandle" ∧ (parseMethodDescriptor yX0_all.desc).map (fun d => d.parameters.length) = some 0 := ⟨by decide +kernel, by decide +kernel, by decide +kernel⟩
theorem hd_X0_last : yX0_last.cls ≠ "java/lang/invoke/MethodHandle" ∧ yX0_last.cls ≠ "java/lang/invoke/VarHandle" ∧ (parseMethodDescriptor yX0_last.desc).map (fun d => d.parameters.length) = some 0 := ⟨by decide +kernel, by decide +kernel, by decide +kernel⟩
theorem hd_X4_mule : yX4_mule.cls ≠ "java/lang/invoke/MethodHandle" ∧ yX4_mule.cls ≠ "java/lang/invoke/VarHandle" ∧ (parseMethodDescriptor yX4_mule.desc).map (fun d => d.parameters.length) = some 2 := ⟨by decide +kernel, by decide +kernel, by decide +kernel⟩
theorem hd_X4_by : yX4_by.cls ≠ "java/lang/invoke/MethodHandle" ∧ yX4_by.cls ≠ "java/lang/invoke/VarHandle" ∧ (parseMethodDescriptor yX4_by.desc).map (fun d => d.parameters.length) = some 2 := ⟨by decide +kernel, by decide +kernel, by decide +kernel⟩
theorem hd_X4_stepRefusal : yX4_stepRefusal.cls ≠ "java/lang/invoke/MethodHandle" ∧ yX4_stepRefusal.cls ≠ "java/lang/invoke/VarHandle" ∧ (parseMethodDescriptor yX4_stepRefusal.desc).map (fun d => d.parameters.length) = some 2 := ⟨by decide +kernel, by decide +kernel, by decide +kernel⟩
theorem hd_X4_isFlag : yX4_isFlag.cls ≠ "java/lang/invoke/MethodHandle" ∧ yX4_isFlag.cls ≠ "java/lang/invoke/VarHandle" ∧ (parseMethodDescriptor yX4_isFlag.desc).map (fun d => d.parameters.length) = some 1 := ⟨by decide +kernel, by decide +kernel, by decide +kernel⟩
theorem hd_X4_nextStone : yX4_nextStone.cls ≠ "java/lang/invoke/MethodHandle" ∧ yX4_nextStone.cls ≠ "java/lang/invoke/VarHandle" ∧ (parseMethodDescriptor yX4_nextStone.desc).map (fun d => d.parameters.length) = some 2 := ⟨by decide +kernel, by decide +kernel, by decide +kernel⟩
theorem hd_X4_isStone : yX4_isStone.cls ≠ "java/lang/invoke/MethodHandle" ∧ yX4_isStone.cls ≠ "java/lang/invoke/VarHandle" ∧ (parseMethodDescriptor yX4_isStone.desc).map (fun d => d.parameters.length) = some 1 := ⟨by decide +kernel, by decide +kernel, by decide +kernel⟩
theorem hd_X4_forbidders : yX4_forbidders.cls ≠ "java/lang/invoke/MethodHandle" ∧ yX4_forbidders.cls ≠ "java/lang/invoke/VarHandle" ∧ (parseMethodDescriptor yX4_forbidders.desc).map (fun d => d.parameters.length) = some 3 := ⟨by decide +kernel, by decide +kernel, by decide +kernel⟩
theorem hd_X4_forbiddersFrom : yX4_forbiddersFrom.cls ≠ "java/lang/invoke/MethodHandle" ∧ yX4_forbiddersFrom.cls ≠ "java/lang/invoke/VarHandle" ∧ (parseMethodDescriptor yX4_forbiddersFrom.desc).map (fun d => d.parameters.length) = some 5 := ⟨by decide +kernel, by decide +kernel, by decide +kernel⟩
theorem hd_X4_othersFromNorthOf : yX4_othersFromNorthOf.cls ≠ "java/lang/invoke/MethodHandle" ∧ yX4_othersFromNorthOf.cls ≠ "java/lang/invoke/VarHandle" ∧ (parseMethodDescriptor yX4_othersFromNorthOf.desc).map (fun d => d.parameters.length) = some 3 := ⟨by decide +kernel, by decide +kernel, by decide +kernel⟩
theorem hd_X0_forbids : yX0_forbids.cls ≠ "java/lang/invoke/MethodHandle" ∧ yX0_forbids.cls ≠ "java/lang/invoke/VarHandle" ∧ (parseMethodDescriptor yX0_forbids.desc).map (fun d => d.parameters.length) = some 6 := ⟨by decide +kernel, by decide +kernel, by decide +kernel⟩
theorem hd_X0_forbidsAlone : yX0_forbidsAlone.cls ≠ "java/lang/invoke/MethodHandle" ∧ yX0_forbidsAlone.cls ≠ "java/lang/invoke/VarHandle" ∧ (parseMethodDescriptor yX0_forbidsAlone.desc).map (fun d => d.parameters.length) = some 5 := ⟨by decide +kernel, by decide +kernel, by decide +kernel⟩
theorem hd_X4_balks : yX4_balks.cls ≠ "java/lang/invoke/MethodHandle" ∧ yX4_balks.cls ≠ "java/lang/invoke/VarHandle" ∧ (parseMethodDescriptor yX4_balks.desc).map (fun d => d.parameters.length) = some 2 := ⟨by decide +kernel, by decide +kernel, by decide +kernel⟩
theorem hd_X4_balkers : yX4_balkers.cls ≠ "java/lang/invoke/MethodHandle" ∧ yX4_balkers.cls ≠ "java/lang/invoke/VarHandle" ∧ (parseMethodDescriptor yX4_balkers.desc).map (fun d => d.parameters.length) = some 3 := ⟨by decide +kernel, by decide +kernel, by decide +kernel⟩
theorem hd_X4_firstOf : yX4_firstOf.cls ≠ "java/lang/invoke/MethodHandle" ∧ yX4_firstOf.cls ≠ "java/lang/invoke/VarHandle" ∧ (parseMethodDescriptor yX4_firstOf.desc).map (fun d => d.parameters.length) = some 1 := ⟨by decide +kernel, by decide +kernel, by decide +kernel⟩
theorem hd_X4_step : yX4_step.cls ≠ "java/lang/invoke/MethodHandle" ∧ yX4_step.cls ≠ "java/lang/invoke/VarHandle" ∧ (parseMethodDescriptor yX4_step.desc).map (fun d => d.parameters.length) = some 2 := ⟨by decide +kernel, by decide +kernel, by decide +kernel⟩
theorem hd_X4_wouldGo : yX4_wouldGo.cls ≠ "java/lang/invoke/MethodHandle" ∧ yX4_wouldGo.cls ≠ "java/lang/invoke/VarHandle" ∧ (parseMethodDescriptor yX4_wouldGo.desc).map (fun d => d.parameters.length) = some 3 := ⟨by decide +kernel, by decide +kernel, by decide +kernel⟩
theorem hd_X4_rememberAct : yX4_rememberAct.cls ≠ "java/lang/invoke/MethodHandle" ∧ yX4_rememberAct.cls ≠ "java/lang/invoke/VarHandle" ∧ (parseMethodDescriptor yX4_rememberAct.desc).map (fun d => d.parameters.length) = some 0 := ⟨by decide +kernel, by decide +kernel, by decide +kernel⟩
theorem hd_X4_copyState : yX4_copyState.cls ≠ "java/lang/invoke/MethodHandle" ∧ yX4_copyState.cls ≠ "java/lang/invoke/VarHandle" ∧ (parseMethodDescriptor yX4_copyState.desc).map (fun d => d.parameters.length) = some 2 := ⟨by decide +kernel, by decide +kernel, by decide +kernel⟩
theorem hd_X4_go : yX4_go.cls ≠ "java/lang/invoke/MethodHandle" ∧ yX4_go.cls ≠ "java/lang/invoke/VarHandle" ∧ (parseMethodDescriptor yX4_go.desc).map (fun d => d.parameters.length) = some 3 := ⟨by decide +kernel, by decide +kernel, by decide +kernel⟩
theorem hd_J6_bitCount_0f7a4 : yJ6_bitCount_0f7a4.cls ≠ "java/lang/invoke/MethodHandle" ∧ yJ6_bitCount_0f7a4.cls ≠ "java/lang/invoke/VarHandle" ∧ (parseMethodDescriptor yJ6_bitCount_0f7a4.desc).map (fun d => d.parameters.length) = some 1 := ⟨by decide +kernel, by decide +kernel, by decide +kernel⟩
theorem hd_X4_pause : yX4_pause.cls ≠ "java/lang/invoke/MethodHandle" ∧ yX4_pause.cls ≠ "java/lang/invoke/VarHandle" ∧ (parseMethodDescriptor yX4_pause.desc).map (fun d => d.parameters.length) = some 0 := ⟨by decide +kernel, by decide +kernel, by decide +kernel⟩
theorem hd_X4_show : yX4_show.cls ≠ "java/lang/invoke/MethodHandle" ∧ yX4_show.cls ≠ "java/lang/invoke/VarHandle" ∧ (parseMethodDescriptor yX4_show.desc).map (fun d => d.parameters.length) = some 3 := ⟨by decide +kernel, by decide +kernel, by decide +kernel⟩
theorem hd_X4_sell : yX4_sell.cls ≠ "java/lang/invoke/MethodHandle" ∧ yX4_sell.cls ≠ "java/lang/invoke/VarHandle" ∧ (parseMethodDescriptor yX4_sell.desc).map (fun d => d.parameters.length) = some 1 := ⟨by decide +kernel, by decide +kernel, by decide +kernel⟩
theorem hd_X4_forget : yX4_forget.cls ≠ "java/lang/invoke/MethodHandle" ∧ yX4_forget.cls ≠ "java/lang/invoke/VarHandle" ∧ (parseMethodDescriptor yX4_forget.desc).map (fun d => d.parameters.length) = some 1 := ⟨by decide +kernel, by decide +kernel, by decide +kernel⟩
theorem hd_X4_undo : yX4_undo.cls ≠ "java/lang/invoke/MethodHandle" ∧ yX4_undo.cls ≠ "java/lang/invoke/VarHandle" ∧ (parseMethodDescriptor yX4_undo.desc).map (fun d => d.parameters.length) = some 0 := ⟨by decide +kernel, by decide +kernel, by decide +kernel⟩
theorem hd_X4_way : yX4_way.cls ≠ "java/lang/invoke/MethodHandle" ∧ yX4_way.cls ≠ "java/lang/invoke/VarHandle" ∧ (parseMethodDescriptor yX4_way.desc).map (fun d => d.parameters.length) = some 3 := ⟨by decide +kernel, by decide +kernel, by decide +kernel⟩
theorem hd_X4_spread : yX4_spread.cls ≠ "java/lang/invoke/MethodHandle" ∧ yX4_spread.cls ≠ "java/lang/invoke/VarHandle" ∧ (parseMethodDescriptor yX4_spread.desc).map (fun d => d.parameters.length) = some 4 := ⟨by decide +kernel, by decide +kernel, by decide +kernel⟩
theorem hd_X4_enclaves : yX4_enclaves.cls ≠ "java/lang/invoke/MethodHandle" ∧ yX4_enclaves.cls ≠ "java/lang/invoke/VarHandle" ∧ (parseMethodDescriptor yX4_enclaves.desc).map (fun d => d.parameters.length) = some 1 := ⟨by decide +kernel, by decide +kernel, by decide +kernel⟩
theorem hd_X4_teach : yX4_teach.cls ≠ "java/lang/invoke/MethodHandle" ∧ yX4_teach.cls ≠ "java/lang/invoke/VarHandle" ∧ (parseMethodDescriptor yX4_teach.desc).map (fun d => d.parameters.length) = some 1 := ⟨by decide +kernel, by decide +kernel, by decide +kernel⟩
theorem hd_X4_keepsAllIfShown : yX4_keepsAllIfShown.cls ≠ "java/lang/invoke/MethodHandle" ∧ yX4_keepsAllIfShown.cls ≠ "java/lang/invoke/VarHandle" ∧ (parseMethodDescriptor yX4_keepsAllIfShown.desc).map (fun d => d.parameters.length) = some 2 := ⟨by decide +kernel, by decide +kernel, by decide +kernel⟩
theorem hd_X4_differ : yX4_differ.cls ≠ "java/lang/invoke/MethodHandle" ∧ yX4_differ.cls ≠ "java/lang/invoke/VarHandle" ∧ (parseMethodDescriptor yX4_differ.desc).map (fun d => d.parameters.length) = some 2 := ⟨by decide +kernel, by decide +kernel, by decide +kernel⟩
theorem hd_X4_judge : yX4_judge.cls ≠ "java/lang/invoke/MethodHandle" ∧ yX4_judge.cls ≠ "java/lang/invoke/VarHandle" ∧ (parseMethodDescriptor yX4_judge.desc).map (fun d => d.parameters.length) = some 2 := ⟨by decide +kernel, by decide +kernel, by decide +kernel⟩
theorem hd_X4_doneWithoutFault : yX4_doneWithoutFault.cls ≠ "java/lang/invoke/MethodHandle" ∧ yX4_doneWithoutFault.cls ≠ "java/lang/invoke/VarHandle" ∧ (parseMethodDescriptor yX4_doneWithoutFault.desc).map (fun d => d.parameters.length) = some 3 := ⟨by decide +kernel, by decide +kernel, by decide +kernel⟩
theorem hd_X4_share : yX4_share.cls ≠ "java/lang/invoke/MethodHandle" ∧ yX4_share.cls ≠ "java/lang/invoke/VarHandle" ∧ (parseMethodDescriptor yX4_share.desc).map (fun d => d.parameters.length) = some 2 := ⟨by decide +kernel, by decide +kernel, by decide +kernel⟩
theorem hd_X4_sixtiethsOfStep : yX4_sixtiethsOfStep.cls ≠ "java/lang/invoke/MethodHandle" ∧ yX4_sixtiethsOfStep.cls ≠ "java/lang/invoke/VarHandle" ∧ (parseMethodDescriptor yX4_sixtiethsOfStep.desc).map (fun d => d.parameters.length) = some 2 := ⟨by decide +kernel, by decide +kernel, by decide +kernel⟩
theorem hd_X4_fractionPart : yX4_fractionPart.cls ≠ "java/lang/invoke/MethodHandle" ∧ yX4_fractionPart.cls ≠ "java/lang/invoke/VarHandle" ∧ (parseMethodDescriptor yX4_fractionPart.desc).map (fun d => d.parameters.length) = some 3 := ⟨by decide +kernel, by decide +kernel, by decide +kernel⟩
theorem hd_X4_see : yX4_see.cls ≠ "java/lang/invoke/MethodHandle" ∧ yX4_see.cls ≠ "java/lang/invoke/VarHandle" ∧ (parseMethodDescriptor yX4_see.desc).map (fun d => d.parameters.length) = some 5 := ⟨by decide +kernel, by decide +kernel, by decide +kernel⟩
theorem hd_X1_add : yX1_add.cls ≠ "java/lang/invoke/MethodHandle" ∧ yX1_add.cls ≠ "java/lang/invoke/VarHandle" ∧ (parseMethodDescriptor yX1_add.desc).map (fun d => d.parameters.length) = some 5 := ⟨by decide +kernel, by decide +kernel, by decide +kernel⟩
theorem hd_X4_unsee : yX4_unsee.cls ≠ "java/lang/invoke/MethodHandle" ∧ yX4_unsee.cls ≠ "java/lang/invoke/VarHandle" ∧ (parseMethodDescriptor yX4_unsee.desc).map (fun d => d.parameters.length) = some 0 := ⟨by decide +kernel, by decide +kernel, by decide +kernel⟩
theorem hd_X4_may : yX4_may.cls ≠ "java/lang/invoke/MethodHandle" ∧ yX4_may.cls ≠ "java/lang/invoke/VarHandle" ∧ (parseMethodDescriptor yX4_may.desc).map (fun d => d.parameters.length) = some 2 := ⟨by decide +kernel, by decide +kernel, by decide +kernel⟩
theorem hd_X1_agreeWith : yX1_agreeWith.cls ≠ "java/lang/invoke/MethodHandle" ∧ yX1_agreeWith.cls ≠ "java/lang/invoke/VarHandle" ∧ (parseMethodDescriptor yX1_agreeWith.desc).map (fun d => d.parameters.length) = some 3 := ⟨by decide +kernel, by decide +kernel, by decide +kernel⟩
theorem hd_X4_rests : yX4_rests.cls ≠ "java/lang/invoke/MethodHandle" ∧ yX4_rests.cls ≠ "java/lang/invoke/VarHandle" ∧ (parseMethodDescriptor yX4_rests.desc).map (fun d => d.parameters.length) = some 1 := ⟨by decide +kernel, by decide +kernel, by decide +kernel⟩
theorem hd_X4_worthOfString : yX4_worthOfString.cls ≠ "java/lang/invoke/MethodHandle" ∧ yX4_worthOfString.cls ≠ "java/lang/invoke/VarHandle" ∧ (parseMethodDescriptor yX4_worthOfString.desc).map (fun d => d.parameters.length) = some 0 := ⟨by decide +kernel, by decide +kernel, by decide +kernel⟩
theorem hd_X4_isContent : yX4_isContent.cls ≠ "java/lang/invoke/MethodHandle" ∧ yX4_isContent.cls ≠ "java/lang/invoke/VarHandle" ∧ (parseMethodDescriptor yX4_isContent.desc).map (fun d => d.parameters.length) = some 3 := ⟨by decide +kernel, by decide +kernel, by decide +kernel⟩
theorem hd_X4_gain : yX4_gain.cls ≠ "java/lang/invoke/MethodHandle" ∧ yX4_gain.cls ≠ "java/lang/invoke/VarHandle" ∧ (parseMethodDescriptor yX4_gain.desc).map (fun d => d.parameters.length) = some 3 := ⟨by decide +kernel, by decide +kernel, by decide +kernel⟩
theorem hd_X4_forgets : yX4_forgets.cls ≠ "java/lang/invoke/MethodHandle" ∧ yX4_forgets.cls ≠ "java/lang/invoke/VarHandle" ∧ (parseMethodDescriptor yX4_forgets.desc).map (fun d => d.parameters.length) = some 4 := ⟨by decide +kernel, by decide +kernel, by decide +kernel⟩
theorem hd_X4_tenthsToBalk : yX4_tenthsToBalk.cls ≠ "java/lang/invoke/MethodHandle" ∧ yX4_tenthsToBalk.cls ≠ "java/lang/invoke/VarHandle" ∧ (parseMethodDescriptor yX4_tenthsToBalk.desc).map (fun d => d.parameters.length) = some 3 := ⟨by decide +kernel, by decide +kernel, by decide +kernel⟩
theorem hd_X4_tallyMule : yX4_tallyMule.cls ≠ "java/lang/invoke/MethodHandle" ∧ yX4_tallyMule.cls ≠ "java/lang/invoke/VarHandle" ∧ (parseMethodDescriptor yX4_tallyMule.desc).map (fun d => d.parameters.length) = some 1 := ⟨by decide +kernel, by decide +kernel, by decide +kernel⟩
theorem hd_X4_seed : yX4_seed.cls ≠ "java/lang/invoke/MethodHandle" ∧ yX4_seed.cls ≠ "java/lang/invoke/VarHandle" ∧ (parseMethodDescriptor yX4_seed.desc).map (fun d => d.parameters.length) = some 1 := ⟨by decide +kernel, by decide +kernel, by decide +kernel⟩
theorem hd_X4_years : yX4_years.cls ≠ "java/lang/invoke/MethodHandle" ∧ yX4_years.cls ≠ "java/lang/invoke/VarHandle" ∧ (parseMethodDescriptor yX4_years.desc).map (fun d => d.parameters.length) = some 1 := ⟨by decide +kernel, by decide +kernel, by decide +kernel⟩
theorem hd_X4_liveThrough : yX4_liveThrough.cls ≠ "java/lang/invoke/MethodHandle" ∧ yX4_liveThrough.cls ≠ "java/lang/invoke/VarHandle" ∧ (parseMethodDescriptor yX4_liveThrough.desc).map (fun d => d.parameters.length) = some 3 := ⟨by decide +kernel, by decide +kernel, by decide +kernel⟩
theorem hd_X4_keep : yX4_keep.cls ≠ "java/lang/invoke/MethodHandle" ∧ yX4_keep.cls ≠ "java/lang/invoke/VarHandle" ∧ (parseMethodDescriptor yX4_keep.desc).map (fun d => d.parameters.length) = some 1 := ⟨by decide +kernel, by decide +kernel, by decide +kernel⟩
theorem hd_X4_isSlot : yX4_isSlot.cls ≠ "java/lang/invoke/MethodHandle" ∧ yX4_isSlot.cls ≠ "java/lang/invoke/VarHandle" ∧ (parseMethodDescriptor yX4_isSlot.desc).map (fun d => d.parameters.length) = some 1 := ⟨by decide +kernel, by decide +kernel, by decide +kernel⟩
theorem hd_X4_again : yX4_again.cls ≠ "java/lang/invoke/MethodHandle" ∧ yX4_again.cls ≠ "java/lang/invoke/VarHandle" ∧ (parseMethodDescriptor yX4_again.desc).map (fun d => d.parameters.length) = some 1 := ⟨by decide +kernel, by decide +kernel, by decide +kernel⟩
theorem hd_X5_init : yX5_init.cls ≠ "java/lang/invoke/MethodHandle" ∧ yX5_init.cls ≠ "java/lang/invoke/VarHandle" ∧ (parseMethodDescriptor yX5_init.desc).map (fun d => d.parameters.length) = some 0 := ⟨by decide +kernel, by decide +kernel, by decide +kernel⟩
theorem hd_X5_write : yX5_write.cls ≠ "java/lang/invoke/MethodHandle" ∧ yX5_write.cls ≠ "java/lang/invoke/VarHandle" ∧ (parseMethodDescriptor yX5_write.desc).map (fun d => d.parameters.length) = some 1 := ⟨by decide +kernel, by decide +kernel, by decide +kernel⟩
theorem hd_X5_in : yX5_in.cls ≠ "java/lang/invoke/MethodHandle" ∧ yX5_in.cls ≠ "java/lang/invoke/VarHandle" ∧ (parseMethodDescriptor yX5_in.desc).map (fun d => d.parameters.length) = some 3 := ⟨by decide +kernel, by decide +kernel, by decide +kernel⟩
theorem hd_X5_wipe : yX5_wipe.cls ≠ "java/lang/invoke/MethodHandle" ∧ yX5_wipe.cls ≠ "java/lang/invoke/VarHandle" ∧ (parseMethodDescriptor yX5_wipe.desc).map (fun d => d.parameters.length) = some 0 := ⟨by decide +kernel, by decide +kernel, by decide +kernel⟩
theorem hd_X5_fault : yX5_fault.cls ≠ "java/lang/invoke/MethodHandle" ∧ yX5_fault.cls ≠ "java/lang/invoke/VarHandle" ∧ (parseMethodDescriptor yX5_fault.desc).map (fun d => d.parameters.length) = some 0 := ⟨by decide +kernel, by decide +kernel, by decide +kernel⟩
theorem hd_X5_readTreaty : yX5_readTreaty.cls ≠ "java/lang/invoke/MethodHandle" ∧ yX5_readTreaty.cls ≠ "java/lang/invoke/VarHandle" ∧ (parseMethodDescriptor yX5_readTreaty.desc).map (fun d => d.parameters.length) = some 0 := ⟨by decide +kernel, by decide +kernel, by decide +kernel⟩
theorem hd_X5_readPart : yX5_readPart.cls ≠ "java/lang/invoke/MethodHandle" ∧ yX5_readPart.cls ≠ "java/lang/invoke/VarHandle" ∧ (parseMethodDescriptor yX5_readPart.desc).map (fun d => d.parameters.length) = some 0 := ⟨by decide +kernel, by decide +kernel, by decide +kernel⟩
theorem hd_X5_readOneArticle : yX5_readOneArticle.cls ≠ "java/lang/invoke/MethodHandle" ∧ yX5_readOneArticle.cls ≠ "java/lang/invoke/VarHandle" ∧ (parseMethodDescriptor yX5_readOneArticle.desc).map (fun d => d.parameters.length) = some 0 := ⟨by decide +kernel, by decide +kernel, by decide +kernel⟩
theorem hd_X5_figure : yX5_figure.cls ≠ "java/lang/invoke/MethodHandle" ∧ yX5_figure.cls ≠ "java/lang/invoke/VarHandle" ∧ (parseMethodDescriptor yX5_figure.desc).map (fun d => d.parameters.length) = some 1 := ⟨by decide +kernel, by decide +kernel, by decide +kernel⟩
theorem hd_X5_readOneMule : yX5_readOneMule.cls ≠ "java/lang/invoke/MethodHandle" ∧ yX5_readOneMule.cls ≠ "java/lang/invoke/VarHandle" ∧ (parseMethodDescriptor yX5_readOneMule.desc).map (fun d => d.parameters.length) = some 0 := ⟨by decide +kernel, by decide +kernel, by decide +kernel⟩
theorem hd_X5_treaty : yX5_treaty.cls ≠ "java/lang/invoke/MethodHandle" ∧ yX5_treaty.cls ≠ "java/lang/invoke/VarHandle" ∧ (parseMethodDescriptor yX5_treaty.desc).map (fun d => d.parameters.length) = some 0 := ⟨by decide +kernel, by decide +kernel, by decide +kernel⟩
theorem hd_X5_about : yX5_about.cls ≠ "java/lang/invoke/MethodHandle" ∧ yX5_about.cls ≠ "java/lang/invoke/VarHandle" ∧ (parseMethodDescriptor yX5_about.desc).map (fun d => d.parameters.length) = some 1 := ⟨by decide +kernel, by decide +kernel, by decide +kernel⟩
theorem hd_X5_article : yX5_article.cls ≠ "java/lang/invoke/MethodHandle" ∧ yX5_article.cls ≠ "java/lang/invoke/VarHandle" ∧ (parseMethodDescriptor yX5_article.desc).map (fun d => d.parameters.length) = some 2 := ⟨by decide +kernel, by decide +kernel, by decide +kernel⟩
theorem hd_X5_noArticle : yX5_noArticle.cls ≠ "java/lang/invoke/MethodHandle" ∧ yX5_noArticle.cls ≠ "java/lang/invoke/VarHandle" ∧ (parseMethodDescriptor yX5_noArticle.desc).map (fun d => d.parameters.length) = some 1 := ⟨by decide +kernel, by decide +kernel, by decide +kernel⟩
theorem hd_X5_knowers : yX5_knowers.cls ≠ "java/lang/invoke/MethodHandle" ∧ yX5_knowers.cls ≠ "java/lang/invoke/VarHandle" ∧ (parseMethodDescriptor yX5_knowers.desc).map (fun d => d.parameters.length) = some 1 := ⟨by decide +kernel, by decide +kernel, by decide +kernel⟩
theorem hd_X5_knows : yX5_knows.cls ≠ "java/lang/invoke/MethodHandle" ∧ yX5_knows.cls ≠ "java/lang/invoke/VarHandle" ∧ (parseMethodDescriptor yX5_knows.desc).map (fun d => d.parameters.length) = some 2 := ⟨by decide +kernel, by decide +kernel, by decide +kernel⟩
theorem hd_X5_has : yX5_has.cls ≠ "java/lang/invoke/MethodHandle" ∧ yX5_has.cls ≠ "java/lang/invoke/VarHandle" ∧ (parseMethodDescriptor yX5_has.desc).map (fun d => d.parameters.length) = some 2 := ⟨by decide +kernel, by decide +kernel, by decide +kernel⟩
theorem hd_X5_mule : yX5_mule.cls ≠ "java/lang/invoke/MethodHandle" ∧ yX5_mule.cls ≠ "java/lang/invoke/VarHandle" ∧ (parseMethodDescriptor yX5_mule.desc).map (fun d => d.parameters.length) = some 2 := ⟨by decide +kernel, by decide +kernel, by decide +kernel⟩
theorem hd_X5_noMule : yX5_noMule.cls ≠ "java/lang/invoke/MethodHandle" ∧ yX5_noMule.cls ≠ "java/lang/invoke/VarHandle" ∧ (parseMethodDescriptor yX5_noMule.desc).map (fun d => d.parameters.length) = some 1 := ⟨by decide +kernel, by decide +kernel, by decide +kernel⟩
theorem hd_X5_by : yX5_by.cls ≠ "java/lang/invoke/MethodHandle" ∧ yX5_by.cls ≠ "java/lang/invoke/VarHandle" ∧ (parseMethodDescriptor yX5_by.desc).map (fun d => d.parameters.length) = some 2 := ⟨by decide +kernel, by decide +kernel, by decide +kernel⟩
theorem hd_X5_noStep : yX5_noStep.cls ≠ "java/lang/invoke/MethodHandle" ∧ yX5_noStep.cls ≠ "java/lang/invoke/VarHandle" ∧ (parseMethodDescriptor yX5_noStep.desc).map (fun d => d.parameters.length) = some 2 := ⟨by decide +kernel, by decide +kernel, by decide +kernel⟩
theorem hd_X5_toStone : yX5_toStone.cls ≠ "java/lang/invoke/MethodHandle" ∧ yX5_toStone.cls ≠ "java/lang/invoke/VarHandle" ∧ (parseMethodDescriptor yX5_toStone.desc).map (fun d => d.parameters.length) = some 3 := ⟨by decide +kernel, by decide +kernel, by decide +kernel⟩
theorem hd_X5_forbids : yX5_forbids.cls ≠ "java/lang/invoke/MethodHandle" ∧ yX5_forbids.cls ≠ "java/lang/invoke/VarHandle" ∧ (parseMethodDescriptor yX5_forbids.desc).map (fun d => d.parameters.length) = some 3 := ⟨by decide +kernel, by decide +kernel, by decide +kernel⟩
theorem hd_X5_northern : yX5_northern.cls ≠ "java/lang/invoke/MethodHandle" ∧ yX5_northern.cls ≠ "java/lang/invoke/VarHandle" ∧ (parseMethodDescriptor yX5_northern.desc).map (fun d => d.parameters.length) = some 3 := ⟨by decide +kernel, by decide +kernel, by decide +kernel⟩
theorem hd_X5_isBarred : yX5_isBarred.cls ≠ "java/lang/invoke/MethodHandle" ∧ yX5_isBarred.cls ≠ "java/lang/invoke/VarHandle" ∧ (parseMethodDescriptor yX5_isBarred.desc).map (fun d => d.parameters.length) = some 6 := ⟨by decide +kernel, by decide +kernel, by decide +kernel⟩
theorem hd_X5_balks : yX5_balks.cls ≠ "java/lang/invoke/MethodHandle" ∧ yX5_balks.cls ≠ "java/lang/invoke/VarHandle" ∧ (parseMethodDescriptor yX5_balks.desc).map (fun d => d.parameters.length) = some 2 := ⟨by decide +kernel, by decide +kernel, by decide +kernel⟩
theorem hd_X5_leastOf : yX5_leastOf.cls ≠ "java/lang/invoke/MethodHandle" ∧ yX5_leastOf.cls ≠ "java/lang/invoke/VarHandle" ∧ (parseMethodDescriptor yX5_leastOf.desc).map (fun d => d.parameters.length) = some 1 := ⟨by decide +kernel, by decide +kernel, by decide +kernel⟩
theorem hd_X5_step : yX5_step.cls ≠ "java/lang/invoke/MethodHandle" ∧ yX5_step.cls ≠ "java/lang/invoke/VarHandle" ∧ (parseMethodDescriptor yX5_step.desc).map (fun d => d.parameters.length) = some 2 := ⟨by decide +kernel, by decide +kernel, by decide +kernel⟩
theorem hd_X5_isBalking : yX5_isBalking.cls ≠ "java/lang/invoke/MethodHandle" ∧ yX5_isBalking.cls ≠ "java/lang/invoke/VarHandle" ∧ (parseMethodDescriptor yX5_isBalking.desc).map (fun d => d.parameters.length) = some 3 := ⟨by decide +kernel, by decide +kernel, by decide +kernel⟩
theorem hd_X5_note : yX5_note.cls ≠ "java/lang/invoke/MethodHandle" ∧ yX5_note.cls ≠ "java/lang/invoke/VarHandle" ∧ (parseMethodDescriptor yX5_note.desc).map (fun d => d.parameters.length) = some 0 := ⟨by decide +kernel, by decide +kernel, by decide +kernel⟩
theorem hd_X5_go : yX5_go.cls ≠ "java/lang/invoke/MethodHandle" ∧ yX5_go.cls ≠ "java/lang/invoke/VarHandle" ∧ (parseMethodDescriptor yX5_go.desc).map (fun d => d.parameters.length) = some 3 := ⟨by decide +kernel, by decide +kernel, by decide +kernel⟩
theorem hd_X5_many : yX5_many.cls ≠ "java/lang/invoke/MethodHandle" ∧ yX5_many.cls ≠ "java/lang/invoke/VarHandle" ∧ (parseMethodDescriptor yX5_many.desc).map (fun d => d.parameters.length) = some 1 := ⟨by decide +kernel, by decide +kernel, by decide +kernel⟩
theorem hd_X5_pause : yX5_pause.cls ≠ "java/lang/invoke/MethodHandle" ∧ yX5_pause.cls ≠ "java/lang/invoke/VarHandle" ∧ (parseMethodDescriptor yX5_pause.desc).map (fun d => d.parameters.length) = some 0 := ⟨by decide +kernel, by decide +kernel, by decide +kernel⟩
theorem hd_X5_show : yX5_show.cls ≠ "java/lang/invoke/MethodHandle" ∧ yX5_show.cls ≠ "java/lang/invoke/VarHandle" ∧ (parseMethodDescriptor yX5_show.desc).map (fun d => d.parameters.length) = some 3 := ⟨by decide +kernel, by decide +kernel, by decide +kernel⟩
theorem hd_X5_sell : yX5_sell.cls ≠ "java/lang/invoke/MethodHandle" ∧ yX5_sell.cls ≠ "java/lang/invoke/VarHandle" ∧ (parseMethodDescriptor yX5_sell.desc).map (fun d => d.parameters.length) = some 1 := ⟨by decide +kernel, by decide +kernel, by decide +kernel⟩
theorem hd_X5_forget : yX5_forget.cls ≠ "java/lang/invoke/MethodHandle" ∧ yX5_forget.cls ≠ "java/lang/invoke/VarHandle" ∧ (parseMethodDescriptor yX5_forget.desc).map (fun d => d.parameters.length) = some 1 := ⟨by decide +kernel, by decide +kernel, by decide +kernel⟩
theorem hd_X5_undo : yX5_undo.cls ≠ "java/lang/invoke/MethodHandle" ∧ yX5_undo.cls ≠ "java/lang/invoke/VarHandle" ∧ (parseMethodDescriptor yX5_undo.desc).map (fun d => d.parameters.length) = some 0 := ⟨by decide +kernel, by decide +kernel, by decide +kernel⟩
theorem hd_X5_way : yX5_way.cls ≠ "java/lang/invoke/MethodHandle" ∧ yX5_way.cls ≠ "java/lang/invoke/VarHandle" ∧ (parseMethodDescriptor yX5_way.desc).map (fun d => d.parameters.length) = some 3 := ⟨by decide +kernel, by decide +kernel, by decide +kernel⟩
theorem hd_X5_layWays : yX5_layWays.cls ≠ "java/lang/invoke/MethodHandle" ∧ yX5_layWays.cls ≠ "java/lang/invoke/VarHandle" ∧ (parseMethodDescriptor yX5_layWays.desc).map (fun d => d.parameters.length) = some 2 := ⟨by decide +kernel, by decide +kernel, by decide +kernel⟩
theorem hd_X5_begin : yX5_begin.cls ≠ "java/lang/invoke/MethodHandle" ∧ yX5_begin.cls ≠ "java/lang/invoke/VarHandle" ∧ (parseMethodDescriptor yX5_begin.desc).map (fun d => d.parameters.length) = some 0 := ⟨by decide +kernel, by decide +kernel, by decide +kernel⟩
theorem hd_X5_enclaves : yX5_enclaves.cls ≠ "java/lang/invoke/MethodHandle" ∧ yX5_enclaves.cls ≠ "java/lang/invoke/VarHandle" ∧ (parseMethodDescriptor yX5_enclaves.desc).map (fun d => d.parameters.length) = some 1 := ⟨by decide +kernel, by decide +kernel, by decide +kernel⟩
theorem hd_X5_teach : yX5_teach.cls ≠ "java/lang/invoke/MethodHandle" ∧ yX5_teach.cls ≠ "java/lang/invoke/VarHandle" ∧ (parseMethodDescriptor yX5_teach.desc).map (fun d => d.parameters.length) = some 1 := ⟨by decide +kernel, by decide +kernel, by decide +kernel⟩
theorem hd_X5_holdsFast : yX5_holdsFast.cls ≠ "java/lang/invoke/MethodHandle" ∧ yX5_holdsFast.cls ≠ "java/lang/invoke/VarHandle" ∧ (parseMethodDescriptor yX5_holdsFast.desc).map (fun d => d.parameters.length) = some 1 := ⟨by decide +kernel, by decide +kernel, by decide +kernel⟩
theorem hd_X5_differ : yX5_differ.cls ≠ "java/lang/invoke/MethodHandle" ∧ yX5_differ.cls ≠ "java/lang/invoke/VarHandle" ∧ (parseMethodDescriptor yX5_differ.desc).map (fun d => d.parameters.length) = some 2 := ⟨by decide +kernel, by decide +kernel, by decide +kernel⟩
theorem hd_X5_judge : yX5_judge.cls ≠ "java/lang/invoke/MethodHandle" ∧ yX5_judge.cls ≠ "java/lang/invoke/VarHandle" ∧ (parseMethodDescriptor yX5_judge.desc).map (fun d => d.parameters.length) = some 2 := ⟨by decide +kernel, by decide +kernel, by decide +kernel⟩
theorem hd_X5_power : yX5_power.cls ≠ "java/lang/invoke/MethodHandle" ∧ yX5_power.cls ≠ "java/lang/invoke/VarHandle" ∧ (parseMethodDescriptor yX5_power.desc).map (fun d => d.parameters.length) = some 2 := ⟨by decide +kernel, by decide +kernel, by decide +kernel⟩
theorem hd_X5_does : yX5_does.cls ≠ "java/lang/invoke/MethodHandle" ∧ yX5_does.cls ≠ "java/lang/invoke/VarHandle" ∧ (parseMethodDescriptor yX5_does.desc).map (fun d => d.parameters.length) = some 1 := ⟨by decide +kernel, by decide +kernel, by decide +kernel⟩
theorem hd_X5_share : yX5_share.cls ≠ "java/lang/invoke/MethodHandle" ∧ yX5_share.cls ≠ "java/lang/invoke/VarHandle" ∧ (parseMethodDescriptor yX5_share.desc).map (fun d => d.parameters.length) = some 2 := ⟨by decide +kernel, by decide +kernel, by decide +kernel⟩
theorem hd_X5_barredBy : yX5_barredBy.cls ≠ "java/lang/invoke/MethodHandle" ∧ yX5_barredBy.cls ≠ "java/lang/invoke/VarHandle" ∧ (parseMethodDescriptor yX5_barredBy.desc).map (fun d => d.parameters.length) = some 1 := ⟨by decide +kernel, by decide +kernel, by decide +kernel⟩
theorem hd_X5_ways : yX5_ways.cls ≠ "java/lang/invoke/MethodHandle" ∧ yX5_ways.cls ≠ "java/lang/invoke/VarHandle" ∧ (parseMethodDescriptor yX5_ways.desc).map (fun d => d.parameters.length) = some 1 := ⟨by decide +kernel, by decide +kernel, by decide +kernel⟩
theorem hd_X5_fraction : yX5_fraction.cls ≠ "java/lang/invoke/MethodHandle" ∧ yX5_fraction.cls ≠ "java/lang/invoke/VarHandle" ∧ (parseMethodDescriptor yX5_fraction.desc).map (fun d => d.parameters.length) = some 3 := ⟨by decide +kernel, by decide +kernel, by decide +kernel⟩
theorem hd_X5_divisor : yX5_divisor.cls ≠ "java/lang/invoke/MethodHandle" ∧ yX5_divisor.cls ≠ "java/lang/invoke/VarHandle" ∧ (parseMethodDescriptor yX5_divisor.desc).map (fun d => d.parameters.length) = some 2 := ⟨by decide +kernel, by decide +kernel, by decide +kernel⟩
theorem hd_X5_see : yX5_see.cls ≠ "java/lang/invoke/MethodHandle" ∧ yX5_see.cls ≠ "java/lang/invoke/VarHandle" ∧ (parseMethodDescriptor yX5_see.desc).map (fun d => d.parameters.length) = some 5 := ⟨by decide +kernel, by decide +kernel, by decide +kernel⟩
theorem hd_X5_unsee : yX5_unsee.cls ≠ "java/lang/invoke/MethodHandle" ∧ yX5_unsee.cls ≠ "java/lang/invoke/VarHandle" ∧ (parseMethodDescriptor yX5_unsee.desc).map (fun d => d.parameters.length) = some 0 := ⟨by decide +kernel, by decide +kernel, by decide +kernel⟩
theorem hd_X5_may : yX5_may.cls ≠ "java/lang/invoke/MethodHandle" ∧ yX5_may.cls ≠ "java/lang/invoke/VarHandle" ∧ (parseMethodDescriptor yX5_may.desc).map (fun d => d.parameters.length) = some 2 := ⟨by decide +kernel, by decide +kernel, by decide +kernel⟩
theorem hd_X5_findMay : yX5_findMay.cls ≠ "java/lang/invoke/MethodHandle" ∧ yX5_findMay.cls ≠ "java/lang/invoke/VarHandle" ∧ (parseMethodDescriptor yX5_findMay.desc).map (fun d => d.parameters.length) = some 1 := ⟨by decide +kernel, by decide +kernel, by decide +kernel⟩
theorem hd_X5_rests : yX5_rests.cls ≠ "java/lang/invoke/MethodHandle" ∧ yX5_rests.cls ≠ "java/lang/invoke/VarHandle" ∧ (parseMethodDescriptor yX5_rests.desc).map (fun d => d.parameters.length) = some 1 := ⟨by decide +kernel, by decide +kernel, by decide +kernel⟩
theorem hd_X5_sent : yX5_sent.cls ≠ "java/lang/invoke/MethodHandle" ∧ yX5_sent.cls ≠ "java/lang/invoke/VarHandle" ∧ (parseMethodDescriptor yX5_sent.desc).map (fun d => d.parameters.length) = some 0 := ⟨by decide +kernel, by decide +kernel, by decide +kernel⟩
theorem hd_X5_gain : yX5_gain.cls ≠ "java/lang/invoke/MethodHandle" ∧ yX5_gain.cls ≠ "java/lang/invoke/VarHandle" ∧ (parseMethodDescriptor yX5_gain.desc).map (fun d => d.parameters.length) = some 3 := ⟨by decide +kernel, by decide +kernel, by decide +kernel⟩
theorem hd_X5_forgets : yX5_forgets.cls ≠ "java/lang/invoke/MethodHandle" ∧ yX5_forgets.cls ≠ "java/lang/invoke/VarHandle" ∧ (parseMethodDescriptor yX5_forgets.desc).map (fun d => d.parameters.length) = some 4 := ⟨by decide +kernel, by decide +kernel, by decide +kernel⟩
theorem hd_X5_balkers : yX5_balkers.cls ≠ "java/lang/invoke/MethodHandle" ∧ yX5_balkers.cls ≠ "java/lang/invoke/VarHandle" ∧ (parseMethodDescriptor yX5_balkers.desc).map (fun d => d.parameters.length) = some 2 := ⟨by decide +kernel, by decide +kernel, by decide +kernel⟩
theorem hd_X5_seed : yX5_seed.cls ≠ "java/lang/invoke/MethodHandle" ∧ yX5_seed.cls ≠ "java/lang/invoke/VarHandle" ∧ (parseMethodDescriptor yX5_seed.desc).map (fun d => d.parameters.length) = some 1 := ⟨by decide +kernel, by decide +kernel, by decide +kernel⟩
theorem hd_X5_years : yX5_years.cls ≠ "java/lang/invoke/MethodHandle" ∧ yX5_years.cls ≠ "java/lang/invoke/VarHandle" ∧ (parseMethodDescriptor yX5_years.desc).map (fun d => d.parameters.length) = some 1 := ⟨by decide +kernel, by decide +kernel, by decide +kernel⟩
theorem hd_X5_keep : yX5_keep.cls ≠ "java/lang/invoke/MethodHandle" ∧ yX5_keep.cls ≠ "java/lang/invoke/VarHandle" ∧ (parseMethodDescriptor yX5_keep.desc).map (fun d => d.parameters.length) = some 1 := ⟨by decide +kernel, by decide +kernel, by decide +kernel⟩
theorem hd_X5_again : yX5_again.cls ≠ "java/lang/invoke/MethodHandle" ∧ yX5_again.cls ≠ "java/lang/invoke/VarHandle" ∧ (parseMethodDescriptor yX5_again.desc).map (fun d => d.parameters.length) = some 1 := ⟨by decide +kernel, by decide +kernel, by decide +kernel⟩
end
section
/-! what the methods answer: plain functions of numbers -/
def orBits (p : Nat → Bool) : Nat → Int32
  | 0 => 0
  | n + 1 => if p n then orBits p n ||| ((1 : Int32) <<< (nI n &&& 31)) else orBits p n
def cntI (p : Nat → Bool) : Nat → Int32
  | 0 => 0
  | n + 1 => if p n then cntI p n + 1 else cntI p n
def hbit (x a : Int32) : Bool := !decide ((x >>> (a &&& 31)) &&& 1 = 0)
def sAll (na : Nat) : Int32 := ((1 : Int32) <<< (nI na &&& 31)) - 1
def sLast (na : Nat) : Int32 := if 0 < na then (1 : Int32) <<< ((nI na - 1) &&& 31) else 0
def sNext (st way : Int32) : Int32 := if way = 1 then st + 1 else st - 1
def sBarA (so va coat hour way : Int32) : Bool := if so = 0 then decide (coat = va - va / 4 * 4) else if so = 1 then decide (hour < va) else if so = 2 then decide (¬ way = va - va / 2 * 2) else false
def sBar (st so va onto coat hour way others : Int32) : Bool := if st = onto then (if so = 3 then decide (others < va - va / 5 * 5) else sBarA so va coat hour way) else false
def sFirst (b : Int32) : Int32 := if hbit b 0 then 0 else if hbit b 1 then 1 else if hbit b 2 then 2 else if hbit b 3 then 3 else if hbit b 4 then 4 else -9
def sKnown (na : Nat) (kind shown : Int32) : Int32 := if kind = 0 then shown ||| (21 &&& sAll na) else if kind = 1 then sAll na else if kind = 2 then shown else if kind = 3 then sLast na else 0
def sRef (st way : Int32) : Int32 := if isN 2 way then (if isN 10 (sNext st way) then 0 else -3) else -2
def sOth (nm : Nat) (st : Nat → Int32) (k : Nat) (onto : Int32) : Int32 := cntI (fun o => !decide (o = k) && !decide (st o < onto)) nm
def sForb (na : Nat) (l0 l1 l2 : Nat → Int32) (onto coat hour way others : Int32) : Int32 := orBits (fun a => sBar (l0 a) (l1 a) (l2 a) onto coat hour way others) na
def sFF (nm na : Nat) (l0 l1 l2 co st : Nat → Int32) (k : Nat) (frm way hour : Int32) : Int32 := if isN 10 (sNext frm way) then sForb na l0 l1 l2 (sNext frm way) (co k) (hour - hour / 10 * 10) way (sOth nm st k (sNext frm way)) else -1
def sBalk (b kn : Int32) : Int32 := if b = -1 then 0 else b &&& kn
def sGoes (b kn : Int32) : Bool := !decide (b = -1) && decide (b &&& kn = 0)
theorem isN_lt0 {n : Nat} {m : Int32} (h : m < 0) : isN n m = false := isN_neg (i32_lt0.mp h)
theorem isN_ge {n : Nat} {m : Int32} (h : nI n ≤ m) : isN n m = false := isN_big (i32_nlt.mpr h)
theorem isN_yes {n : Nat} {m : Int32} (h : ¬ m < 0) (h2 : ¬ nI n ≤ m) : isN n m = true := by
  simp only [isN, Bool.and_eq_true, decide_eq_true_eq]
  exact ⟨i32_nlt.mp h, i32_nle.mp h2⟩
theorem isN_cap {n : Nat} {m : Int32} (c : Nat) (hc : c < 2 ^ 31) (hn : n ≤ c) (h2 : ¬ nI n ≤ m) : ¬ nI c ≤ m := by
  rw [i32_nle] at h2 ⊢
  simp only [Int32.lt_iff_toInt_lt] at h2 ⊢
  rw [nI_toInt (by omega)] at h2 ⊢
  omega
theorem isN_2 (x : Int32) : isN 2 x = (decide (x = 0) || decide (x = 1)) := by
  by_cases h : isN 2 x = true
  · obtain ⟨k, hk, rfl⟩ := isN_of (by decide) h
    rcases (show k = 0 ∨ k = 1 by omega) with rfl | rfl <;> rfl
  · by_cases h0 : x = 0
    · subst h0; rfl
    · by_cases h1 : x = 1
      · subst h1; rfl
      · simp only [h0, h1, decide_false, Bool.or_self]
        simpa using h
theorem isN_01 {x : Int32} (h : isN 2 x = true) : x = 0 ∨ x = 1 := by
  rw [isN_2] at h
  simpa using h
theorem hbit_f {x a : Int32} (h : (x >>> (a &&& 31)) &&& 1 = 0) : hbit x a = false := by simp only [hbit, h, decide_true, Bool.not_true]
theorem hbit_t {x a : Int32} (h : ¬ (x >>> (a &&& 31)) &&& 1 = 0) : hbit x a = true := by simp only [hbit, h, decide_false, Bool.not_false]
end
section
set_option maxHeartbeats 4000000 in
set_option maxRecDepth 100000 in
theorem c_X0_all (l : Launch) (D : va_G) (cI cZ cQ : ClassId) {aL al0 al1 al2 : Nat} {na : Nat} {z0 : Nat × va_E} {rest : va_W} : MI l D [(cI, .int), (cZ, .boolean), (cQ, .object "MulesRemember$State")] yX0_all cX0_all 1 .int ({ frames := 0, cells := 0, slots := 0, locals := 0 } : Room) [.ref aL] (z0 :: (aL, .inr (0, [.ref al0, .ref al1, .ref al2, .int (nI na)])) :: rest) (sAll na) (z0 :: (aL, .inr (0, [.ref al0, .ref al1, .ref al2, .int (nI na)])) :: rest) := by
  refine MI.of [.ref aL] (by decide) (Nat.le_of_ble_eq_true rfl) rfl ?_
  intro p e s m below meth c A C0 hr
  refine ww_iconst (v := (1)) C0 dX0_all_0 rfl ?_
  refine ww_aload_n C0 dX0_all_1 rfl ?_
  refine ww_get C0 (ci := 0) (C := RX0) (T := TX0) (N := 4) ku_X0 1 rfl rfl 3 (by decide) kw_X0_21 rfl dX0_all_2 ?_
  refine ww_ishl C0 dX0_all_5 ?_
  refine ww_iconst (v := (1)) C0 dX0_all_6 rfl ?_
  refine ww_isub C0 dX0_all_7 ?_
  exact ww_iret C0 hr dX0_all_8 (by rfl) (by rfl)

set_option maxHeartbeats 4000000 in
set_option maxRecDepth 100000 in
theorem c_X0_last (l : Launch) (D : va_G) (cI cZ cQ : ClassId) {aL al0 al1 al2 : Nat} {na : Nat} {z0 : Nat × va_E} {rest : va_W} (hna : na ≤ 5) : MI l D [(cI, .int), (cZ, .boolean), (cQ, .object "MulesRemember$State")] yX0_last cX0_last 1 .int ({ frames := 0, cells := 0, slots := 0, locals := 0 } : Room) [.ref aL] (z0 :: (aL, .inr (0, [.ref al0, .ref al1, .ref al2, .int (nI na)])) :: rest) (sLast na) (z0 :: (aL, .inr (0, [.ref al0, .ref al1, .ref al2, .int (nI na)])) :: rest) := by
  refine MI.of [.ref aL] (by decide) (Nat.le_of_ble_eq_true rfl) rfl ?_
  intro p e s m below meth c A C0 hr
  refine ww_aload_n C0 dX0_last_0 rfl ?_
  refine ww_get C0 (ci := 0) (C := RX0) (T := TX0) (N := 4) ku_X0 1 rfl rfl 3 (by decide) kw_X0_21 rfl dX0_last_1 ?_
  refine ww_if_le (tgt := 18) C0 dX0_last_4 (by decide) (fun h4 => ?_) (fun h4 => ?_)
  · skip
    replace h4 := (nI_leE (a := na) (b := 0) rfl rfl (by omega) (by omega)).mp h4
    have h4z : ¬ 0 < na := by omega
    refine ww_iconst (v := (0)) C0 dX0_last_18 rfl ?_
    exact ww_iret C0 hr dX0_last_19 (by simp [sLast, *]) (by rfl)
  · skip
    replace h4 := (not_congr (nI_leE (a := na) (b := 0) rfl rfl (by omega) (by omega))).mp h4
    have h4z : 0 < na := by omega
    refine ww_iconst (v := (1)) C0 dX0_last_7 rfl ?_
    refine ww_aload_n C0 dX0_last_8 rfl ?_
    refine ww_get C0 (ci := 0) (C := RX0) (T := TX0) (N := 4) ku_X0 1 rfl rfl 3 (by decide) kw_X0_21 rfl dX0_last_9 ?_
    refine ww_iconst (v := (1)) C0 dX0_last_12 rfl ?_
    refine ww_isub C0 dX0_last_13 ?_
    refine ww_ishl C0 dX0_last_14 ?_
    refine ww_goto (tgt := 19) C0 dX0_last_15 (by decide) ?_
    exact ww_iret C0 hr dX0_last_19 (by simp [sLast, *]) (by rfl)

set_option maxHeartbeats 4000000 in
set_option maxRecDepth 100000 in
theorem c_X0_forbidsAlone (l : Launch) (D : va_G) (cI cZ cQ : ClassId) {rest : va_W} {so va co ho wa : Int32} : MI l D [(cI, .int), (cZ, .boolean), (cQ, .object "MulesRemember$State")] yX0_forbidsAlone cX0_forbidsAlone 5 .boolean ({ frames := 0, cells := 0, slots := 0, locals := 0 } : Room) [.int so, .int va, .int co, .int ho, .int wa] (rest) (bI (sBarA so va co ho wa)) (rest) := by
  refine MI.of [.int so, .int va, .int co, .int ho, .int wa] (by decide) (Nat.le_of_ble_eq_true rfl) rfl ?_
  intro p e s m below meth c A C0 hr
  refine ww_iload_n C0 dX0_forbidsAlone_0 rfl ?_
  by_cases hs1_0 : so = 0
  · skip
    have hsi : (so).toInt = 0 := by rw [hs1_0]; rfl
    refine ww_tableIn (off := 27) (tgt := 28) C0 dX0_forbidsAlone_1 (by rw [hsi]; decide) (by rw [hsi]; decide) (by rw [hsi]; rfl) (by decide) ?_
    refine ww_iload_n C0 dX0_forbidsAlone_28 rfl ?_
    refine ww_iload_n C0 dX0_forbidsAlone_29 rfl ?_
    refine ww_iconst (v := (4)) C0 dX0_forbidsAlone_30 rfl ?_
    refine ww_irem C0 dX0_forbidsAlone_31 (by decide) ?_
    refine ww_icmp_ne (tgt := 39) C0 dX0_forbidsAlone_32 (by decide) (fun h32 => ?_) (fun h32 => ?_)
    · skip
      refine ww_iconst (v := (0)) C0 dX0_forbidsAlone_39 rfl ?_
      exact ww_zret C0 hr dX0_forbidsAlone_40 (by simp [sBarA, bI, *]) (by rfl)
    · skip
      refine ww_iconst (v := (1)) C0 dX0_forbidsAlone_35 rfl ?_
      refine ww_goto (tgt := 40) C0 dX0_forbidsAlone_36 (by decide) ?_
      exact ww_zret C0 hr dX0_forbidsAlone_40 (by simp [sBarA, bI, *]) (by rfl)
  by_cases hs1_1 : so = 1
  · skip
    have hsi : (so).toInt = 1 := by rw [hs1_1]; rfl
    refine ww_tableIn (off := 40) (tgt := 41) C0 dX0_forbidsAlone_1 (by rw [hsi]; decide) (by rw [hsi]; decide) (by rw [hsi]; rfl) (by decide) ?_
    refine ww_iload_n C0 dX0_forbidsAlone_41 rfl ?_
    refine ww_iload_n C0 dX0_forbidsAlone_42 rfl ?_
    refine ww_icmp_ge (tgt := 50) C0 dX0_forbidsAlone_43 (by decide) (fun h43 => ?_) (fun h43 => ?_)
    · skip
      refine ww_iconst (v := (0)) C0 dX0_forbidsAlone_50 rfl ?_
      exact ww_zret C0 hr dX0_forbidsAlone_51 (by simp [sBarA, bI, *]) (by rfl)
    · skip
      refine ww_iconst (v := (1)) C0 dX0_forbidsAlone_46 rfl ?_
      refine ww_goto (tgt := 51) C0 dX0_forbidsAlone_47 (by decide) ?_
      exact ww_zret C0 hr dX0_forbidsAlone_51 (by simp [sBarA, bI, *]) (by rfl)
  by_cases hs1_2 : so = 2
  · skip
    have hsi : (so).toInt = 2 := by rw [hs1_2]; rfl
    refine ww_tableIn (off := 51) (tgt := 52) C0 dX0_forbidsAlone_1 (by rw [hsi]; decide) (by rw [hsi]; decide) (by rw [hsi]; rfl) (by decide) ?_
    refine ww_iload C0 dX0_forbidsAlone_52 rfl ?_
    refine ww_iload_n C0 dX0_forbidsAlone_54 rfl ?_
    refine ww_iconst (v := (2)) C0 dX0_forbidsAlone_55 rfl ?_
    refine ww_irem C0 dX0_forbidsAlone_56 (by decide) ?_
    refine ww_icmp_eq (tgt := 64) C0 dX0_forbidsAlone_57 (by decide) (fun h57 => ?_) (fun h57 => ?_)
    · skip
      refine ww_iconst (v := (0)) C0 dX0_forbidsAlone_64 rfl ?_
      exact ww_zret C0 hr dX0_forbidsAlone_65 (by simp [sBarA, bI, *]) (by rfl)
    · skip
      refine ww_iconst (v := (1)) C0 dX0_forbidsAlone_60 rfl ?_
      refine ww_goto (tgt := 65) C0 dX0_forbidsAlone_61 (by decide) ?_
      exact ww_zret C0 hr dX0_forbidsAlone_65 (by simp [sBarA, bI, *]) (by rfl)
  refine ww_tableOut (tgt := 66) C0 dX0_forbidsAlone_1 (sw_outc (so) 0 2 (by
    intro k hk1 hk2 he
    rcases (show k = 0 ∨ k = 1 ∨ k = 2 by omega) with rfl | rfl | rfl
    · exact i32_ne (n := 0) (by decide) hs1_0 he
    · exact i32_ne (n := 1) (by decide) hs1_1 he
    · exact i32_ne (n := 2) (by decide) hs1_2 he
    )) (by decide) ?_
  refine ww_iconst (v := (0)) C0 dX0_forbidsAlone_66 rfl ?_
  exact ww_zret C0 hr dX0_forbidsAlone_67 (by simp [sBarA, bI, *]) (by rfl)

set_option maxHeartbeats 4000000 in
set_option maxRecDepth 100000 in
theorem c_X0_forbids (l : Launch) (D : va_G) (cI cZ cQ : ClassId) {aL al0 al1 al2 : Nat} {na : Nat} {fl0 fl1 fl2 : Nat → Int32} {z0 : Nat × va_E} {rest : va_W} {a : Nat} {on co ho wa ot : Int32} (hna : na ≤ 5) (ha : a < na) : MI l D [(cI, .int), (cZ, .boolean), (cQ, .object "MulesRemember$State")] yX0_forbids cX0_forbids 7 .boolean ({ frames := 1, cells := 0, slots := 0, locals := 24 } : Room) [.ref aL, .int (nI a), .int on, .int co, .int ho, .int wa, .int ot] (z0 :: (aL, .inr (0, [.ref al0, .ref al1, .ref al2, .int (nI na)])) :: (al0, .inl (cI, 5, .inl (fl0))) :: (al1, .inl (cI, 5, .inl (fl1))) :: (al2, .inl (cI, 5, .inl (fl2))) :: rest) (bI (sBar (fl0 a) (fl1 a) (fl2 a) on co ho wa ot)) (z0 :: (aL, .inr (0, [.ref al0, .ref al1, .ref al2, .int (nI na)])) :: (al0, .inl (cI, 5, .inl (fl0))) :: (al1, .inl (cI, 5, .inl (fl1))) :: (al2, .inl (cI, 5, .inl (fl2))) :: rest) := by
  refine MI.of [.ref aL, .int (nI a), .int on, .int co, .int ho, .int wa, .int ot] (by decide) (Nat.le_of_ble_eq_true rfl) rfl ?_
  intro p e s m below meth c A C0 hr
  refine ww_iload_n C0 dX0_forbids_0 rfl ?_
  refine ww_if_lt (tgt := 27) C0 dX0_forbids_1 (by decide) (fun h1 => ?_) (fun h1 => ?_)
  · skip
    replace h1 := (nI_ltE (a := a) (b := 0) rfl rfl (by omega) (by omega)).mp h1
    exfalso; omega
  · skip
    replace h1 := (not_congr (nI_ltE (a := a) (b := 0) rfl rfl (by omega) (by omega))).mp h1
    refine ww_iload_n C0 dX0_forbids_4 rfl ?_
    refine ww_aload_n C0 dX0_forbids_5 rfl ?_
    refine ww_get C0 (ci := 0) (C := RX0) (T := TX0) (N := 4) ku_X0 1 rfl rfl 3 (by decide) kw_X0_21 rfl dX0_forbids_6 ?_
    refine ww_icmp_ge (tgt := 27) C0 dX0_forbids_9 (by decide) (fun h9 => ?_) (fun h9 => ?_)
    · skip
      replace h9 := (nI_leE (a := na) (b := a) rfl rfl (by omega) (by omega)).mp h9
      exfalso; omega
    · skip
      replace h9 := (not_congr (nI_leE (a := na) (b := a) rfl rfl (by omega) (by omega))).mp h9
      refine ww_iload_n C0 dX0_forbids_12 rfl ?_
      refine ww_iconst (v := (5)) C0 dX0_forbids_13 rfl ?_
      refine ww_icmp_ge (tgt := 27) C0 dX0_forbids_14 (by decide) (fun h14 => ?_) (fun h14 => ?_)
      · skip
        replace h14 := (nI_leE (a := 5) (b := a) rfl rfl (by omega) (by omega)).mp h14
        exfalso; omega
      · skip
        replace h14 := (not_congr (nI_leE (a := 5) (b := a) rfl rfl (by omega) (by omega))).mp h14
        refine ww_aload_n C0 dX0_forbids_17 rfl ?_
        refine ww_get C0 (ci := 0) (C := RX0) (T := TX0) (N := 4) ku_X0 1 rfl rfl 0 (by decide) kw_X0_9 rfl dX0_forbids_18 ?_
        refine ww_iload_n C0 dX0_forbids_21 rfl ?_
        refine ww_iald_n (j := a) C0 2 0 rfl rfl rfl (by omega) (by decide) dX0_forbids_22 ?_
        refine ww_iload_n C0 dX0_forbids_23 rfl ?_
        refine ww_icmp_eq (tgt := 29) C0 dX0_forbids_24 (by decide) (fun h24 => ?_) (fun h24 => ?_)
        · skip
          refine ww_aload_n C0 dX0_forbids_29 rfl ?_
          refine ww_get C0 (ci := 0) (C := RX0) (T := TX0) (N := 4) ku_X0 1 rfl rfl 1 (by decide) kw_X0_15 rfl dX0_forbids_30 ?_
          refine ww_iload_n C0 dX0_forbids_33 rfl ?_
          refine ww_iald_n (j := a) C0 3 0 rfl rfl rfl (by omega) (by decide) dX0_forbids_34 ?_
          refine ww_iconst (v := (3)) C0 dX0_forbids_35 rfl ?_
          refine ww_icmp_ne (tgt := 58) C0 dX0_forbids_36 (by decide) (fun h36 => ?_) (fun h36 => ?_)
          · skip
            refine ww_aload_n C0 dX0_forbids_58 rfl ?_
            refine ww_get C0 (ci := 0) (C := RX0) (T := TX0) (N := 4) ku_X0 1 rfl rfl 1 (by decide) kw_X0_15 rfl dX0_forbids_59 ?_
            refine ww_iload_n C0 dX0_forbids_62 rfl ?_
            refine ww_iald_n (j := a) C0 3 0 rfl rfl rfl (by omega) (by decide) dX0_forbids_63 ?_
            refine ww_aload_n C0 dX0_forbids_64 rfl ?_
            refine ww_get C0 (ci := 0) (C := RX0) (T := TX0) (N := 4) ku_X0 1 rfl rfl 2 (by decide) kw_X0_18 rfl dX0_forbids_65 ?_
            refine ww_iload_n C0 dX0_forbids_68 rfl ?_
            refine ww_iald_n (j := a) C0 4 0 rfl rfl rfl (by omega) (by decide) dX0_forbids_69 ?_
            refine ww_iload_n C0 dX0_forbids_70 rfl ?_
            refine ww_iload C0 dX0_forbids_71 rfl ?_
            refine ww_iload C0 dX0_forbids_73 rfl ?_
            refine ww_callSi C0 (c_X0_forbidsAlone l D cI cZ cQ) kd_X0_forbidsAlone kw_X0_25 ks_X0_forbidsAlone ki_X0 hd_X0_forbidsAlone ⟨Nat.le_of_ble_eq_true rfl, Nat.le_of_ble_eq_true rfl, rfl, rfl⟩ (Nat.le_of_ble_eq_true rfl) dX0_forbids_75 rfl rfl ⟨Nat.zero_le _, Nat.zero_le _⟩ ?_
            exact ww_zret C0 hr dX0_forbids_78 (by simp [sBar, bI, *]) (by rfl)
          · skip
            refine ww_iload C0 dX0_forbids_39 rfl ?_
            refine ww_aload_n C0 dX0_forbids_41 rfl ?_
            refine ww_get C0 (ci := 0) (C := RX0) (T := TX0) (N := 4) ku_X0 1 rfl rfl 2 (by decide) kw_X0_18 rfl dX0_forbids_42 ?_
            refine ww_iload_n C0 dX0_forbids_45 rfl ?_
            refine ww_iald_n (j := a) C0 4 0 rfl rfl rfl (by omega) (by decide) dX0_forbids_46 ?_
            refine ww_iconst (v := (5)) C0 dX0_forbids_47 rfl ?_
            refine ww_irem C0 dX0_forbids_48 (by decide) ?_
            refine ww_icmp_ge (tgt := 56) C0 dX0_forbids_49 (by decide) (fun h49 => ?_) (fun h49 => ?_)
            · skip
              refine ww_iconst (v := (0)) C0 dX0_forbids_56 rfl ?_
              exact ww_zret C0 hr dX0_forbids_57 (by simp [sBar, bI, *]) (by rfl)
            · skip
              refine ww_iconst (v := (1)) C0 dX0_forbids_52 rfl ?_
              refine ww_goto (tgt := 57) C0 dX0_forbids_53 (by decide) ?_
              exact ww_zret C0 hr dX0_forbids_57 (by simp [sBar, bI, *]) (by rfl)
        · skip
          refine ww_iconst (v := (0)) C0 dX0_forbids_27 rfl ?_
          exact ww_zret C0 hr dX0_forbids_28 (by simp [sBar, bI, *]) (by rfl)

set_option maxHeartbeats 4000000 in
set_option maxRecDepth 100000 in
theorem c_X4_isMule (l : Launch) (D : va_G) (cI cZ cQ : ClassId) {aX aT aL aC aN aY aA aO aK aG aW : Nat} {nm fa ac : Nat} {sd : Int64} {rest : va_W} {m : Int32} (hnm : nm ≤ 5) : MI l D [(cI, .int), (cZ, .boolean), (cQ, .object "MulesRemember$State")] yX4_isMule cX4_isMule 2 .boolean ({ frames := 0, cells := 0, slots := 0, locals := 0 } : Room) [.ref aX, .int m] ((aX, .inr (4, [.ref aT, .ref aL, .ref aC, .int (nI nm), .ref aN, .ref aY, .ref aA, .int (nI fa), .int (nI ac), .ref aO, .ref aK, .ref aG, .ref aW, .long sd])) :: rest) (bI (isN nm m)) ((aX, .inr (4, [.ref aT, .ref aL, .ref aC, .int (nI nm), .ref aN, .ref aY, .ref aA, .int (nI fa), .int (nI ac), .ref aO, .ref aK, .ref aG, .ref aW, .long sd])) :: rest) := by
  refine MI.of [.ref aX, .int m] (by decide) (Nat.le_of_ble_eq_true rfl) rfl ?_
  intro p e s m below meth c A C0 hr
  refine ww_iload_n C0 dX4_isMule_0 rfl ?_
  refine ww_if_lt (tgt := 21) C0 dX4_isMule_1 (by decide) (fun h1 => ?_) (fun h1 => ?_)
  · skip
    refine ww_iconst (v := (0)) C0 dX4_isMule_21 rfl ?_
    exact ww_zret C0 hr dX4_isMule_22 (by first | (rw [isN_lt0 h1]; rfl) | (rw [isN_ge h9]; rfl) | (rw [isN_yes h1 h9]; rfl)) (by rfl)
  · skip
    refine ww_iload_n C0 dX4_isMule_4 rfl ?_
    refine ww_aload_n C0 dX4_isMule_5 rfl ?_
    refine ww_get C0 (ci := 4) (C := RX4) (T := TX4) (N := 14) ku_X4 0 rfl rfl 3 (by decide) kw_X4_27 rfl dX4_isMule_6 ?_
    refine ww_icmp_ge (tgt := 21) C0 dX4_isMule_9 (by decide) (fun h9 => ?_) (fun h9 => ?_)
    · skip
      refine ww_iconst (v := (0)) C0 dX4_isMule_21 rfl ?_
      exact ww_zret C0 hr dX4_isMule_22 (by first | (rw [isN_lt0 h1]; rfl) | (rw [isN_ge h9]; rfl) | (rw [isN_yes h1 h9]; rfl)) (by rfl)
    · skip
      refine ww_iload_n C0 dX4_isMule_12 rfl ?_
      refine ww_iconst (v := (5)) C0 dX4_isMule_13 rfl ?_
      refine ww_icmp_ge (tgt := 21) C0 dX4_isMule_14 (by decide) (fun h14 => ?_) (fun h14 => ?_)
      · skip
        exact absurd h14 (isN_cap 5 (by decide) hnm h9)
      · skip
        refine ww_iconst (v := (1)) C0 dX4_isMule_17 rfl ?_
        refine ww_goto (tgt := 22) C0 dX4_isMule_18 (by decide) ?_
        exact ww_zret C0 hr dX4_isMule_22 (by first | (rw [isN_lt0 h1]; rfl) | (rw [isN_ge h9]; rfl) | (rw [isN_yes h1 h9]; rfl)) (by rfl)

set_option maxHeartbeats 4000000 in
set_option maxRecDepth 100000 in
theorem c_X4_isArticle (l : Launch) (D : va_G) (cI cZ cQ : ClassId) {aX aT aL aC aN aY aA aO aK aG aW al0 al1 al2 : Nat} {nm fa ac na : Nat} {sd : Int64} {rest : va_W} {m : Int32} (hna : na ≤ 5) : MI l D [(cI, .int), (cZ, .boolean), (cQ, .object "MulesRemember$State")] yX4_isArticle cX4_isArticle 2 .boolean ({ frames := 0, cells := 0, slots := 0, locals := 0 } : Room) [.ref aX, .int m] ((aX, .inr (4, [.ref aT, .ref aL, .ref aC, .int (nI nm), .ref aN, .ref aY, .ref aA, .int (nI fa), .int (nI ac), .ref aO, .ref aK, .ref aG, .ref aW, .long sd])) :: (aL, .inr (0, [.ref al0, .ref al1, .ref al2, .int (nI na)])) :: rest) (bI (isN na m)) ((aX, .inr (4, [.ref aT, .ref aL, .ref aC, .int (nI nm), .ref aN, .ref aY, .ref aA, .int (nI fa), .int (nI ac), .ref aO, .ref aK, .ref aG, .ref aW, .long sd])) :: (aL, .inr (0, [.ref al0, .ref al1, .ref al2, .int (nI na)])) :: rest) := by
  refine MI.of [.ref aX, .int m] (by decide) (Nat.le_of_ble_eq_true rfl) rfl ?_
  intro p e s m below meth c A C0 hr
  refine ww_iload_n C0 dX4_isArticle_0 rfl ?_
  refine ww_if_lt (tgt := 24) C0 dX4_isArticle_1 (by decide) (fun h1 => ?_) (fun h1 => ?_)
  · skip
    refine ww_iconst (v := (0)) C0 dX4_isArticle_24 rfl ?_
    exact ww_zret C0 hr dX4_isArticle_25 (by first | (rw [isN_lt0 h1]; rfl) | (rw [isN_ge h12]; rfl) | (rw [isN_yes h1 h12]; rfl)) (by rfl)
  · skip
    refine ww_iload_n C0 dX4_isArticle_4 rfl ?_
    refine ww_aload_n C0 dX4_isArticle_5 rfl ?_
    refine ww_get C0 (ci := 4) (C := RX4) (T := TX4) (N := 14) ku_X4 0 rfl rfl 1 (by decide) kw_X4_19 rfl dX4_isArticle_6 ?_
    refine ww_getN C0 (ci := 0) (C := RX0) (T := TX0) (N := 4) ku_X0 1 rfl rfl 3 (by decide) kn_X4_83 rfl dX4_isArticle_9 ?_
    refine ww_icmp_ge (tgt := 24) C0 dX4_isArticle_12 (by decide) (fun h12 => ?_) (fun h12 => ?_)
    · skip
      refine ww_iconst (v := (0)) C0 dX4_isArticle_24 rfl ?_
      exact ww_zret C0 hr dX4_isArticle_25 (by first | (rw [isN_lt0 h1]; rfl) | (rw [isN_ge h12]; rfl) | (rw [isN_yes h1 h12]; rfl)) (by rfl)
    · skip
      refine ww_iload_n C0 dX4_isArticle_15 rfl ?_
      refine ww_iconst (v := (5)) C0 dX4_isArticle_16 rfl ?_
      refine ww_icmp_ge (tgt := 24) C0 dX4_isArticle_17 (by decide) (fun h17 => ?_) (fun h17 => ?_)
      · skip
        exact absurd h17 (isN_cap 5 (by decide) hna h12)
      · skip
        refine ww_iconst (v := (1)) C0 dX4_isArticle_20 rfl ?_
        refine ww_goto (tgt := 25) C0 dX4_isArticle_21 (by decide) ?_
        exact ww_zret C0 hr dX4_isArticle_25 (by first | (rw [isN_lt0 h1]; rfl) | (rw [isN_ge h12]; rfl) | (rw [isN_yes h1 h12]; rfl)) (by rfl)

set_option maxHeartbeats 4000000 in
set_option maxRecDepth 100000 in
theorem c_X4_isStone (l : Launch) (D : va_G) (cI cZ cQ : ClassId) {rest : va_W} {m : Int32} : MI l D [(cI, .int), (cZ, .boolean), (cQ, .object "MulesRemember$State")] yX4_isStone cX4_isStone 1 .boolean ({ frames := 0, cells := 0, slots := 0, locals := 0 } : Room) [.int m] (rest) (bI (isN 10 m)) (rest) := by
  refine MI.of [.int m] (by decide) (Nat.le_of_ble_eq_true rfl) rfl ?_
  intro p e s m below meth c A C0 hr
  refine ww_iload_n C0 dX4_isStone_0 rfl ?_
  refine ww_if_lt (tgt := 14) C0 dX4_isStone_1 (by decide) (fun h1 => ?_) (fun h1 => ?_)
  · skip
    refine ww_iconst (v := (0)) C0 dX4_isStone_14 rfl ?_
    exact ww_zret C0 hr dX4_isStone_15 (by first | (rw [isN_lt0 h1]; rfl) | (rw [isN_ge h7]; rfl) | (rw [isN_yes h1 h7]; rfl)) (by rfl)
  · skip
    refine ww_iload_n C0 dX4_isStone_4 rfl ?_
    refine ww_bipush (v := (10)) C0 dX4_isStone_5 rfl ?_
    refine ww_icmp_ge (tgt := 14) C0 dX4_isStone_7 (by decide) (fun h7 => ?_) (fun h7 => ?_)
    · skip
      refine ww_iconst (v := (0)) C0 dX4_isStone_14 rfl ?_
      exact ww_zret C0 hr dX4_isStone_15 (by first | (rw [isN_lt0 h1]; rfl) | (rw [isN_ge h7]; rfl) | (rw [isN_yes h1 h7]; rfl)) (by rfl)
    · skip
      refine ww_iconst (v := (1)) C0 dX4_isStone_10 rfl ?_
      refine ww_goto (tgt := 15) C0 dX4_isStone_11 (by decide) ?_
      exact ww_zret C0 hr dX4_isStone_15 (by first | (rw [isN_lt0 h1]; rfl) | (rw [isN_ge h7]; rfl) | (rw [isN_yes h1 h7]; rfl)) (by rfl)

set_option maxHeartbeats 4000000 in
set_option maxRecDepth 100000 in
theorem c_X4_isSlot (l : Launch) (D : va_G) (cI cZ cQ : ClassId) {rest : va_W} {m : Int32} : MI l D [(cI, .int), (cZ, .boolean), (cQ, .object "MulesRemember$State")] yX4_isSlot cX4_isSlot 1 .boolean ({ frames := 0, cells := 0, slots := 0, locals := 0 } : Room) [.int m] (rest) (bI (isN 2 m)) (rest) := by
  refine MI.of [.int m] (by decide) (Nat.le_of_ble_eq_true rfl) rfl ?_
  intro p e s m below meth c A C0 hr
  refine ww_iload_n C0 dX4_isSlot_0 rfl ?_
  refine ww_if_lt (tgt := 13) C0 dX4_isSlot_1 (by decide) (fun h1 => ?_) (fun h1 => ?_)
  · skip
    refine ww_iconst (v := (0)) C0 dX4_isSlot_13 rfl ?_
    exact ww_zret C0 hr dX4_isSlot_14 (by first | (rw [isN_lt0 h1]; rfl) | (rw [isN_ge h6]; rfl) | (rw [isN_yes h1 h6]; rfl)) (by rfl)
  · skip
    refine ww_iload_n C0 dX4_isSlot_4 rfl ?_
    refine ww_iconst (v := (2)) C0 dX4_isSlot_5 rfl ?_
    refine ww_icmp_ge (tgt := 13) C0 dX4_isSlot_6 (by decide) (fun h6 => ?_) (fun h6 => ?_)
    · skip
      refine ww_iconst (v := (0)) C0 dX4_isSlot_13 rfl ?_
      exact ww_zret C0 hr dX4_isSlot_14 (by first | (rw [isN_lt0 h1]; rfl) | (rw [isN_ge h6]; rfl) | (rw [isN_yes h1 h6]; rfl)) (by rfl)
    · skip
      refine ww_iconst (v := (1)) C0 dX4_isSlot_9 rfl ?_
      refine ww_goto (tgt := 14) C0 dX4_isSlot_10 (by decide) ?_
      exact ww_zret C0 hr dX4_isSlot_14 (by first | (rw [isN_lt0 h1]; rfl) | (rw [isN_ge h6]; rfl) | (rw [isN_yes h1 h6]; rfl)) (by rfl)

set_option maxHeartbeats 4000000 in
set_option maxRecDepth 100000 in
theorem c_X4_isFlag (l : Launch) (D : va_G) (cI cZ cQ : ClassId) {rest : va_W} {m : Int32} : MI l D [(cI, .int), (cZ, .boolean), (cQ, .object "MulesRemember$State")] yX4_isFlag cX4_isFlag 1 .boolean ({ frames := 0, cells := 0, slots := 0, locals := 0 } : Room) [.int m] (rest) (bI (isN 2 m)) (rest) := by
  refine MI.of [.int m] (by decide) (Nat.le_of_ble_eq_true rfl) rfl ?_
  intro p e s m below meth c A C0 hr
  refine ww_iload_n C0 dX4_isFlag_0 rfl ?_
  refine ww_if_eq (tgt := 9) C0 dX4_isFlag_1 (by decide) (fun h1 => ?_) (fun h1 => ?_)
  · skip
    refine ww_iconst (v := (1)) C0 dX4_isFlag_9 rfl ?_
    refine ww_goto (tgt := 14) C0 dX4_isFlag_10 (by decide) ?_
    exact ww_zret C0 hr dX4_isFlag_14 (by simp [isN_2, bI, *]) (by rfl)
  · skip
    refine ww_iload_n C0 dX4_isFlag_4 rfl ?_
    refine ww_iconst (v := (1)) C0 dX4_isFlag_5 rfl ?_
    refine ww_icmp_ne (tgt := 13) C0 dX4_isFlag_6 (by decide) (fun h6 => ?_) (fun h6 => ?_)
    · skip
      refine ww_iconst (v := (0)) C0 dX4_isFlag_13 rfl ?_
      exact ww_zret C0 hr dX4_isFlag_14 (by simp [isN_2, bI, *]) (by rfl)
    · skip
      refine ww_iconst (v := (1)) C0 dX4_isFlag_9 rfl ?_
      refine ww_goto (tgt := 14) C0 dX4_isFlag_10 (by decide) ?_
      exact ww_zret C0 hr dX4_isFlag_14 (by simp [isN_2, bI, *]) (by rfl)

set_option maxHeartbeats 4000000 in
set_option maxRecDepth 100000 in
theorem c_X4_nextStone (l : Launch) (D : va_G) (cI cZ cQ : ClassId) {rest : va_W} {s0 wa : Int32} : MI l D [(cI, .int), (cZ, .boolean), (cQ, .object "MulesRemember$State")] yX4_nextStone cX4_nextStone 2 .int ({ frames := 0, cells := 0, slots := 0, locals := 0 } : Room) [.int s0, .int wa] (rest) (sNext s0 wa) (rest) := by
  refine MI.of [.int s0, .int wa] (by decide) (Nat.le_of_ble_eq_true rfl) rfl ?_
  intro p e s m below meth c A C0 hr
  refine ww_iload_n C0 dX4_nextStone_0 rfl ?_
  refine ww_iconst (v := (1)) C0 dX4_nextStone_1 rfl ?_
  refine ww_icmp_ne (tgt := 11) C0 dX4_nextStone_2 (by decide) (fun h2 => ?_) (fun h2 => ?_)
  · skip
    refine ww_iload_n C0 dX4_nextStone_11 rfl ?_
    refine ww_iconst (v := (1)) C0 dX4_nextStone_12 rfl ?_
    refine ww_isub C0 dX4_nextStone_13 ?_
    exact ww_iret C0 hr dX4_nextStone_14 (by simp [sNext, *]) (by rfl)
  · skip
    refine ww_iload_n C0 dX4_nextStone_5 rfl ?_
    refine ww_iconst (v := (1)) C0 dX4_nextStone_6 rfl ?_
    refine ww_iadd C0 dX4_nextStone_7 ?_
    refine ww_goto (tgt := 14) C0 dX4_nextStone_8 (by decide) ?_
    exact ww_iret C0 hr dX4_nextStone_14 (by simp [sNext, *]) (by rfl)
end
section
set_option maxHeartbeats 4000000 in
set_option maxRecDepth 100000 in
theorem c_X4_firstOf (l : Launch) (D : va_G) (cI cZ cQ : ClassId) {rest : va_W} {b : Int32} : MI l D [(cI, .int), (cZ, .boolean), (cQ, .object "MulesRemember$State")] yX4_firstOf cX4_firstOf 2 .int ({ frames := 0, cells := 0, slots := 0, locals := 0 } : Room) [.int b] (rest) (sFirst b) (rest) := by
  refine MI.of [.int b, .null] (by decide) (Nat.le_of_ble_eq_true rfl) rfl ?_
  intro p e s m below meth c A C0 hr
  refine ww_iconst (v := (0)) C0 dX4_firstOf_0 rfl ?_
  refine ww_istore_n (i := 1) C0 dX4_firstOf_1 rfl (Nat.le_of_ble_eq_true rfl) rfl ?_
  simp only [List.set_cons_zero, List.set_cons_succ]
  refine ww_cong (lo' := [.int b, .int 0]) ?_ (by rfl) rfl rfl
  refine ww_iload_n C0 dX4_firstOf_2 rfl ?_
  refine ww_iconst (v := (5)) C0 dX4_firstOf_3 rfl ?_
  refine ww_icmp_ge (tgt := 23) C0 dX4_firstOf_4 (by decide) (fun h4 => ?_) (fun h4 => ?_)
  · skip
    replace h4 := (nI_leE (a := 5) (b := 0) rfl rfl (by omega) (by omega)).mp h4
    exfalso; omega
  · skip
    replace h4 := (not_congr (nI_leE (a := 5) (b := 0) rfl rfl (by omega) (by omega))).mp h4
    refine ww_iload_n C0 dX4_firstOf_7 rfl ?_
    refine ww_iload_n C0 dX4_firstOf_8 rfl ?_
    refine ww_ishr C0 dX4_firstOf_9 ?_
    refine ww_iconst (v := (1)) C0 dX4_firstOf_10 rfl ?_
    refine ww_iand C0 dX4_firstOf_11 ?_
    refine ww_if_eq (tgt := 17) C0 dX4_firstOf_12 (by decide) (fun h12 => ?_) (fun h12 => ?_)
    · skip
      have g0 := hbit_f (a := 0) h12
      refine ww_iinc (d := 1) C0 dX4_firstOf_17 rfl rfl rfl ?_
      simp only [List.set_cons_zero, List.set_cons_succ]
      refine ww_goto (tgt := 2) C0 dX4_firstOf_20 (by decide) ?_
      refine ww_cong (lo' := [.int b, .int 1]) ?_ (by rfl) rfl rfl
      refine ww_iload_n C0 dX4_firstOf_2 rfl ?_
      refine ww_iconst (v := (5)) C0 dX4_firstOf_3 rfl ?_
      refine ww_icmp_ge (tgt := 23) C0 dX4_firstOf_4 (by decide) (fun h4 => ?_) (fun h4 => ?_)
      · skip
        replace h4 := (nI_leE (a := 5) (b := 1) rfl rfl (by omega) (by omega)).mp h4
        exfalso; omega
      · skip
        replace h4 := (not_congr (nI_leE (a := 5) (b := 1) rfl rfl (by omega) (by omega))).mp h4
        refine ww_iload_n C0 dX4_firstOf_7 rfl ?_
        refine ww_iload_n C0 dX4_firstOf_8 rfl ?_
        refine ww_ishr C0 dX4_firstOf_9 ?_
        refine ww_iconst (v := (1)) C0 dX4_firstOf_10 rfl ?_
        refine ww_iand C0 dX4_firstOf_11 ?_
        refine ww_if_eq (tgt := 17) C0 dX4_firstOf_12 (by decide) (fun h12 => ?_) (fun h12 => ?_)
        · skip
          have g1 := hbit_f (a := 1) h12
          refine ww_iinc (d := 1) C0 dX4_firstOf_17 rfl rfl rfl ?_
          simp only [List.set_cons_zero, List.set_cons_succ]
          refine ww_goto (tgt := 2) C0 dX4_firstOf_20 (by decide) ?_
          refine ww_cong (lo' := [.int b, .int 2]) ?_ (by rfl) rfl rfl
          refine ww_iload_n C0 dX4_firstOf_2 rfl ?_
          refine ww_iconst (v := (5)) C0 dX4_firstOf_3 rfl ?_
          refine ww_icmp_ge (tgt := 23) C0 dX4_firstOf_4 (by decide) (fun h4 => ?_) (fun h4 => ?_)
          · skip
            replace h4 := (nI_leE (a := 5) (b := 2) rfl rfl (by omega) (by omega)).mp h4
            exfalso; omega
          · skip
            replace h4 := (not_congr (nI_leE (a := 5) (b := 2) rfl rfl (by omega) (by omega))).mp h4
            refine ww_iload_n C0 dX4_firstOf_7 rfl ?_
            refine ww_iload_n C0 dX4_firstOf_8 rfl ?_
            refine ww_ishr C0 dX4_firstOf_9 ?_
            refine ww_iconst (v := (1)) C0 dX4_firstOf_10 rfl ?_
            refine ww_iand C0 dX4_firstOf_11 ?_
            refine ww_if_eq (tgt := 17) C0 dX4_firstOf_12 (by decide) (fun h12 => ?_) (fun h12 => ?_)
            · skip
              have g2 := hbit_f (a := 2) h12
              refine ww_iinc (d := 1) C0 dX4_firstOf_17 rfl rfl rfl ?_
              simp only [List.set_cons_zero, List.set_cons_succ]
              refine ww_goto (tgt := 2) C0 dX4_firstOf_20 (by decide) ?_
              refine ww_cong (lo' := [.int b, .int 3]) ?_ (by rfl) rfl rfl
              refine ww_iload_n C0 dX4_firstOf_2 rfl ?_
              refine ww_iconst (v := (5)) C0 dX4_firstOf_3 rfl ?_
              refine ww_icmp_ge (tgt := 23) C0 dX4_firstOf_4 (by decide) (fun h4 => ?_) (fun h4 => ?_)
              · skip
                replace h4 := (nI_leE (a := 5) (b := 3) rfl rfl (by omega) (by omega)).mp h4
                exfalso; omega
              · skip
                replace h4 := (not_congr (nI_leE (a := 5) (b := 3) rfl rfl (by omega) (by omega))).mp h4
                refine ww_iload_n C0 dX4_firstOf_7 rfl ?_
                refine ww_iload_n C0 dX4_firstOf_8 rfl ?_
                refine ww_ishr C0 dX4_firstOf_9 ?_
                refine ww_iconst (v := (1)) C0 dX4_firstOf_10 rfl ?_
                refine ww_iand C0 dX4_firstOf_11 ?_
                refine ww_if_eq (tgt := 17) C0 dX4_firstOf_12 (by decide) (fun h12 => ?_) (fun h12 => ?_)
                · skip
                  have g3 := hbit_f (a := 3) h12
                  refine ww_iinc (d := 1) C0 dX4_firstOf_17 rfl rfl rfl ?_
                  simp only [List.set_cons_zero, List.set_cons_succ]
                  refine ww_goto (tgt := 2) C0 dX4_firstOf_20 (by decide) ?_
                  refine ww_cong (lo' := [.int b, .int 4]) ?_ (by rfl) rfl rfl
                  refine ww_iload_n C0 dX4_firstOf_2 rfl ?_
                  refine ww_iconst (v := (5)) C0 dX4_firstOf_3 rfl ?_
                  refine ww_icmp_ge (tgt := 23) C0 dX4_firstOf_4 (by decide) (fun h4 => ?_) (fun h4 => ?_)
                  · skip
                    replace h4 := (nI_leE (a := 5) (b := 4) rfl rfl (by omega) (by omega)).mp h4
                    exfalso; omega
                  · skip
                    replace h4 := (not_congr (nI_leE (a := 5) (b := 4) rfl rfl (by omega) (by omega))).mp h4
                    refine ww_iload_n C0 dX4_firstOf_7 rfl ?_
                    refine ww_iload_n C0 dX4_firstOf_8 rfl ?_
                    refine ww_ishr C0 dX4_firstOf_9 ?_
                    refine ww_iconst (v := (1)) C0 dX4_firstOf_10 rfl ?_
                    refine ww_iand C0 dX4_firstOf_11 ?_
                    refine ww_if_eq (tgt := 17) C0 dX4_firstOf_12 (by decide) (fun h12 => ?_) (fun h12 => ?_)
                    · skip
                      have g4 := hbit_f (a := 4) h12
                      refine ww_iinc (d := 1) C0 dX4_firstOf_17 rfl rfl rfl ?_
                      simp only [List.set_cons_zero, List.set_cons_succ]
                      refine ww_goto (tgt := 2) C0 dX4_firstOf_20 (by decide) ?_
                      refine ww_cong (lo' := [.int b, .int 5]) ?_ (by rfl) rfl rfl
                      refine ww_iload_n C0 dX4_firstOf_2 rfl ?_
                      refine ww_iconst (v := (5)) C0 dX4_firstOf_3 rfl ?_
                      refine ww_icmp_ge (tgt := 23) C0 dX4_firstOf_4 (by decide) (fun h4 => ?_) (fun h4 => ?_)
                      · skip
                        replace h4 := (nI_leE (a := 5) (b := 5) rfl rfl (by omega) (by omega)).mp h4
                        refine ww_bipush (v := (-9)) C0 dX4_firstOf_23 rfl ?_
                        exact ww_iret C0 hr dX4_firstOf_25 (by simp [sFirst, *]) (by rfl)
                      · skip
                        replace h4 := (not_congr (nI_leE (a := 5) (b := 5) rfl rfl (by omega) (by omega))).mp h4
                        exfalso; omega
                    · skip
                      have g4 := hbit_t (a := 4) h12
                      refine ww_iload_n C0 dX4_firstOf_15 rfl ?_
                      exact ww_iret C0 hr dX4_firstOf_16 (by simp [sFirst, *]) (by rfl)
                · skip
                  have g3 := hbit_t (a := 3) h12
                  refine ww_iload_n C0 dX4_firstOf_15 rfl ?_
                  exact ww_iret C0 hr dX4_firstOf_16 (by simp [sFirst, *]) (by rfl)
            · skip
              have g2 := hbit_t (a := 2) h12
              refine ww_iload_n C0 dX4_firstOf_15 rfl ?_
              exact ww_iret C0 hr dX4_firstOf_16 (by simp [sFirst, *]) (by rfl)
        · skip
          have g1 := hbit_t (a := 1) h12
          refine ww_iload_n C0 dX4_firstOf_15 rfl ?_
          exact ww_iret C0 hr dX4_firstOf_16 (by simp [sFirst, *]) (by rfl)
    · skip
      have g0 := hbit_t (a := 0) h12
      refine ww_iload_n C0 dX4_firstOf_15 rfl ?_
      exact ww_iret C0 hr dX4_firstOf_16 (by simp [sFirst, *]) (by rfl)

set_option maxHeartbeats 4000000 in
set_option maxRecDepth 100000 in
theorem c_X4_knownIfShown (l : Launch) (D : va_G) (cI cZ cQ : ClassId) {aX aT aL aC aN aY aA aO aK aG aW al0 al1 al2 : Nat} {nm fa ac na : Nat} {sd : Int64} {rest : va_W} {ki sh : Int32} (hna : na ≤ 5) : MI l D [(cI, .int), (cZ, .boolean), (cQ, .object "MulesRemember$State")] yX4_knownIfShown cX4_knownIfShown 4 .int ({ frames := 1, cells := 0, slots := 0, locals := 20 } : Room) [.ref aX, .int ki, .int sh] ((aX, .inr (4, [.ref aT, .ref aL, .ref aC, .int (nI nm), .ref aN, .ref aY, .ref aA, .int (nI fa), .int (nI ac), .ref aO, .ref aK, .ref aG, .ref aW, .long sd])) :: (aL, .inr (0, [.ref al0, .ref al1, .ref al2, .int (nI na)])) :: rest) (sKnown na ki sh) ((aX, .inr (4, [.ref aT, .ref aL, .ref aC, .int (nI nm), .ref aN, .ref aY, .ref aA, .int (nI fa), .int (nI ac), .ref aO, .ref aK, .ref aG, .ref aW, .long sd])) :: (aL, .inr (0, [.ref al0, .ref al1, .ref al2, .int (nI na)])) :: rest) := by
  refine MI.of [.ref aX, .int ki, .int sh, .null] (by decide) (Nat.le_of_ble_eq_true rfl) rfl ?_
  intro p e s m below meth c A C0 hr
  refine ww_aload_n C0 dX4_knownIfShown_0 rfl ?_
  refine ww_get C0 (ci := 4) (C := RX4) (T := TX4) (N := 14) ku_X4 0 rfl rfl 1 (by decide) kw_X4_19 rfl dX4_knownIfShown_1 ?_
  refine ww_callVNi C0 (qc := (RX0, TX0, 4)) 1 0 (c_X0_all l D cI cZ cQ) kd_X0_all kn_X4_164 km_X0_all kl_X0_all ki_X0 hd_X0_all rfl rfl ⟨Nat.le_of_ble_eq_true rfl, Nat.le_of_ble_eq_true rfl, rfl, rfl⟩ (Nat.le_of_ble_eq_true rfl) dX4_knownIfShown_4 rfl rfl rfl ⟨Nat.zero_le _, Nat.zero_le _⟩ ?_
  refine ww_istore_n (i := 3) C0 dX4_knownIfShown_7 rfl (Nat.le_of_ble_eq_true rfl) rfl ?_
  simp only [List.set_cons_zero, List.set_cons_succ]
  refine ww_iload_n C0 dX4_knownIfShown_8 rfl ?_
  by_cases hs9_0 : ki = 0
  · skip
    have hsi : (ki).toInt = 0 := by rw [hs9_0]; rfl
    refine ww_tableIn (off := 31) (tgt := 40) C0 dX4_knownIfShown_9 (by rw [hsi]; decide) (by rw [hsi]; decide) (by rw [hsi]; rfl) (by decide) ?_
    refine ww_iload_n C0 dX4_knownIfShown_40 rfl ?_
    refine ww_bipush (v := (21)) C0 dX4_knownIfShown_41 rfl ?_
    refine ww_iload_n C0 dX4_knownIfShown_43 rfl ?_
    refine ww_iand C0 dX4_knownIfShown_44 ?_
    refine ww_ior C0 dX4_knownIfShown_45 ?_
    exact ww_iret C0 hr dX4_knownIfShown_46 (by simp [sKnown, *]) (by rfl)
  by_cases hs9_1 : ki = 1
  · skip
    have hsi : (ki).toInt = 1 := by rw [hs9_1]; rfl
    refine ww_tableIn (off := 38) (tgt := 47) C0 dX4_knownIfShown_9 (by rw [hsi]; decide) (by rw [hsi]; decide) (by rw [hsi]; rfl) (by decide) ?_
    refine ww_iload_n C0 dX4_knownIfShown_47 rfl ?_
    exact ww_iret C0 hr dX4_knownIfShown_48 (by simp [sKnown, *]) (by rfl)
  by_cases hs9_2 : ki = 2
  · skip
    have hsi : (ki).toInt = 2 := by rw [hs9_2]; rfl
    refine ww_tableIn (off := 40) (tgt := 49) C0 dX4_knownIfShown_9 (by rw [hsi]; decide) (by rw [hsi]; decide) (by rw [hsi]; rfl) (by decide) ?_
    refine ww_iload_n C0 dX4_knownIfShown_49 rfl ?_
    exact ww_iret C0 hr dX4_knownIfShown_50 (by simp [sKnown, *]) (by rfl)
  by_cases hs9_3 : ki = 3
  · skip
    have hsi : (ki).toInt = 3 := by rw [hs9_3]; rfl
    refine ww_tableIn (off := 42) (tgt := 51) C0 dX4_knownIfShown_9 (by rw [hsi]; decide) (by rw [hsi]; decide) (by rw [hsi]; rfl) (by decide) ?_
    refine ww_aload_n C0 dX4_knownIfShown_51 rfl ?_
    refine ww_get C0 (ci := 4) (C := RX4) (T := TX4) (N := 14) ku_X4 0 rfl rfl 1 (by decide) kw_X4_19 rfl dX4_knownIfShown_52 ?_
    refine ww_callVNi C0 (qc := (RX0, TX0, 4)) 1 0 (c_X0_last l D cI cZ cQ hna) kd_X0_last kn_X4_233 km_X0_last kl_X0_last ki_X0 hd_X0_last rfl rfl ⟨Nat.le_of_ble_eq_true rfl, Nat.le_of_ble_eq_true rfl, rfl, rfl⟩ (Nat.le_of_ble_eq_true rfl) dX4_knownIfShown_55 rfl rfl rfl ⟨Nat.zero_le _, Nat.zero_le _⟩ ?_
    exact ww_iret C0 hr dX4_knownIfShown_58 (by simp [sKnown, *]) (by rfl)
  refine ww_tableOut (tgt := 59) C0 dX4_knownIfShown_9 (sw_outc (ki) 0 3 (by
    intro k hk1 hk2 he
    rcases (show k = 0 ∨ k = 1 ∨ k = 2 ∨ k = 3 by omega) with rfl | rfl | rfl | rfl
    · exact i32_ne (n := 0) (by decide) hs9_0 he
    · exact i32_ne (n := 1) (by decide) hs9_1 he
    · exact i32_ne (n := 2) (by decide) hs9_2 he
    · exact i32_ne (n := 3) (by decide) hs9_3 he
    )) (by decide) ?_
  refine ww_iconst (v := (0)) C0 dX4_knownIfShown_59 rfl ?_
  exact ww_iret C0 hr dX4_knownIfShown_60 (by simp [sKnown, *]) (by rfl)

set_option maxHeartbeats 4000000 in
set_option maxRecDepth 100000 in
theorem c_X4_known (l : Launch) (D : va_G) (cI cZ cQ : ClassId) {aX aT aL aC aN aY aA aO aK aG aW al0 al1 al2 aS as0 as1 as2 : Nat} {nm fa ac na : Nat} {hS bS : Int32} {sd : Int64} {fl0 fl1 fl2 fC fs0 fs1 fs2 : Nat → Int32} {rest : va_W} {k : Nat} (hnm : nm ≤ 5) (hna : na ≤ 5) (hk : k < nm) : MI l D [(cI, .int), (cZ, .boolean), (cQ, .object "MulesRemember$State")] yX4_known cX4_known 3 .int ({ frames := 2, cells := 0, slots := 0, locals := 43 } : Room) [.ref aX, .ref aS, .int (nI k)] ((aX, .inr (4, [.ref aT, .ref aL, .ref aC, .int (nI nm), .ref aN, .ref aY, .ref aA, .int (nI fa), .int (nI ac), .ref aO, .ref aK, .ref aG, .ref aW, .long sd])) :: (aL, .inr (0, [.ref al0, .ref al1, .ref al2, .int (nI na)])) :: (al0, .inl (cI, 5, .inl (fl0))) :: (al1, .inl (cI, 5, .inl (fl1))) :: (al2, .inl (cI, 5, .inl (fl2))) :: (aC, .inl (cI, 5, .inl (fC))) :: (aS, .inr (2, [.ref as0, .ref as1, .ref as2, .int hS, .int bS])) :: (as0, .inl (cI, 5, .inl (fs0))) :: (as1, .inl (cI, 5, .inl (fs1))) :: (as2, .inl (cI, 5, .inl (fs2))) :: rest) (sKnown na (fs1 k) (fs2 k)) ((aX, .inr (4, [.ref aT, .ref aL, .ref aC, .int (nI nm), .ref aN, .ref aY, .ref aA, .int (nI fa), .int (nI ac), .ref aO, .ref aK, .ref aG, .ref aW, .long sd])) :: (aL, .inr (0, [.ref al0, .ref al1, .ref al2, .int (nI na)])) :: (al0, .inl (cI, 5, .inl (fl0))) :: (al1, .inl (cI, 5, .inl (fl1))) :: (al2, .inl (cI, 5, .inl (fl2))) :: (aC, .inl (cI, 5, .inl (fC))) :: (aS, .inr (2, [.ref as0, .ref as1, .ref as2, .int hS, .int bS])) :: (as0, .inl (cI, 5, .inl (fs0))) :: (as1, .inl (cI, 5, .inl (fs1))) :: (as2, .inl (cI, 5, .inl (fs2))) :: rest) := by
  refine MI.of [.ref aX, .ref aS, .int (nI k)] (by decide) (Nat.le_of_ble_eq_true rfl) rfl ?_
  intro p e s m below meth c A C0 hr
  refine ww_aload_n C0 dX4_known_0 rfl ?_
  refine ww_iload_n C0 dX4_known_1 rfl ?_
  refine ww_callVi C0 (qc := (RX4, TX4, 14)) 0 4 (c_X4_isMule l D cI cZ cQ hnm) kd_X4_isMule kw_X4_113 km_X4_isMule kl_X4_isMule ki_X4 hd_X4_isMule rfl rfl ⟨Nat.le_of_ble_eq_true rfl, Nat.le_of_ble_eq_true rfl, rfl, rfl⟩ (Nat.le_of_ble_eq_true rfl) dX4_known_2 rfl rfl rfl ⟨Nat.zero_le _, Nat.zero_le _⟩ ?_
  refine ww_bif_eq (tgt := 27) C0 dX4_known_5 (by decide) (fun h5 => ?_) (fun h5 => ?_)
  · skip
    exact absurd (isN_nI (by omega) hk) (by rw [h5]; decide)
  · skip
    refine ww_aload_n C0 dX4_known_8 rfl ?_
    refine ww_aload_n C0 dX4_known_9 rfl ?_
    refine ww_getN C0 (ci := 2) (C := RX2) (T := TX2) (N := 5) ku_X2 6 rfl rfl 1 (by decide) kn_X4_117 rfl dX4_known_10 ?_
    refine ww_iload_n C0 dX4_known_13 rfl ?_
    refine ww_iald_n (j := k) C0 8 0 rfl rfl rfl (by omega) (by decide) dX4_known_14 ?_
    refine ww_aload_n C0 dX4_known_15 rfl ?_
    refine ww_getN C0 (ci := 2) (C := RX2) (T := TX2) (N := 5) ku_X2 6 rfl rfl 2 (by decide) kn_X4_120 rfl dX4_known_16 ?_
    refine ww_iload_n C0 dX4_known_19 rfl ?_
    refine ww_iald_n (j := k) C0 9 0 rfl rfl rfl (by omega) (by decide) dX4_known_20 ?_
    refine ww_callVi C0 (qc := (RX4, TX4, 14)) 0 4 (c_X4_knownIfShown l D cI cZ cQ hna) kd_X4_knownIfShown kw_X4_230 km_X4_knownIfShown kl_X4_knownIfShown ki_X4 hd_X4_knownIfShown rfl rfl ⟨Nat.le_of_ble_eq_true rfl, Nat.le_of_ble_eq_true rfl, rfl, rfl⟩ (Nat.le_of_ble_eq_true rfl) dX4_known_21 rfl rfl rfl ⟨Nat.zero_le _, Nat.zero_le _⟩ ?_
    refine ww_goto (tgt := 28) C0 dX4_known_24 (by decide) ?_
    exact ww_iret C0 hr dX4_known_28 (by rfl) (by rfl)

set_option maxHeartbeats 4000000 in
set_option maxRecDepth 100000 in
theorem c_X4_mulesThatKnow (l : Launch) (D : va_G) (cI cZ cQ : ClassId) {aX aT aL aC aN aY aA aO aK aG aW al0 al1 al2 an0 an1 an2 : Nat} {nm fa ac na : Nat} {hN bN : Int32} {sd : Int64} {fl0 fl1 fl2 fC fn0 fn1 fn2 : Nat → Int32} {rest : va_W} {a : Int32} (hnm : nm ≤ 5) (hna : na ≤ 5) : MI l D [(cI, .int), (cZ, .boolean), (cQ, .object "MulesRemember$State")] yX4_mulesThatKnow cX4_mulesThatKnow 4 .int ({ frames := 3, cells := 0, slots := 0, locals := 65 } : Room) [.ref aX, .int a] ((aX, .inr (4, [.ref aT, .ref aL, .ref aC, .int (nI nm), .ref aN, .ref aY, .ref aA, .int (nI fa), .int (nI ac), .ref aO, .ref aK, .ref aG, .ref aW, .long sd])) :: (aL, .inr (0, [.ref al0, .ref al1, .ref al2, .int (nI na)])) :: (al0, .inl (cI, 5, .inl (fl0))) :: (al1, .inl (cI, 5, .inl (fl1))) :: (al2, .inl (cI, 5, .inl (fl2))) :: (aC, .inl (cI, 5, .inl (fC))) :: (aN, .inr (2, [.ref an0, .ref an1, .ref an2, .int hN, .int bN])) :: (an0, .inl (cI, 5, .inl (fn0))) :: (an1, .inl (cI, 5, .inl (fn1))) :: (an2, .inl (cI, 5, .inl (fn2))) :: rest) (orBits (fun o => hbit (sKnown na (fn1 o) (fn2 o)) a) nm) ((aX, .inr (4, [.ref aT, .ref aL, .ref aC, .int (nI nm), .ref aN, .ref aY, .ref aA, .int (nI fa), .int (nI ac), .ref aO, .ref aK, .ref aG, .ref aW, .long sd])) :: (aL, .inr (0, [.ref al0, .ref al1, .ref al2, .int (nI na)])) :: (al0, .inl (cI, 5, .inl (fl0))) :: (al1, .inl (cI, 5, .inl (fl1))) :: (al2, .inl (cI, 5, .inl (fl2))) :: (aC, .inl (cI, 5, .inl (fC))) :: (aN, .inr (2, [.ref an0, .ref an1, .ref an2, .int hN, .int bN])) :: (an0, .inl (cI, 5, .inl (fn0))) :: (an1, .inl (cI, 5, .inl (fn1))) :: (an2, .inl (cI, 5, .inl (fn2))) :: rest) := by
  refine MI.of [.ref aX, .int a, .null, .null] (by decide) (Nat.le_of_ble_eq_true rfl) rfl ?_
  intro p e s m below meth c A C0 hr
  refine ww_iconst (v := (0)) C0 dX4_mulesThatKnow_0 rfl ?_
  refine ww_istore_n (i := 2) C0 dX4_mulesThatKnow_1 rfl (Nat.le_of_ble_eq_true rfl) rfl ?_
  simp only [List.set_cons_zero, List.set_cons_succ]
  refine ww_iconst (v := (0)) C0 dX4_mulesThatKnow_2 rfl ?_
  refine ww_istore_n (i := 3) C0 dX4_mulesThatKnow_3 rfl (Nat.le_of_ble_eq_true rfl) rfl ?_
  simp only [List.set_cons_zero, List.set_cons_succ]
  refine ww_back (ww_loop (pc := 4) 0 (nm) (by omega) (fun j => [_, _, .int (orBits (fun o => hbit (sKnown na (fn1 o) (fn2 o)) a) j), .int (nI j)]) (fun j => _) ?_ ?_) ⟨Or.inr rfl, Or.inr rfl, Or.inr rfl, Or.inr rfl, trivial⟩ (by rfl)
  · intro j hj0 hj ih
    refine ww_iload_n C0 dX4_mulesThatKnow_4 rfl ?_
    refine ww_aload_n C0 dX4_mulesThatKnow_5 rfl ?_
    refine ww_get C0 (ci := 4) (C := RX4) (T := TX4) (N := 14) ku_X4 0 rfl rfl 3 (by decide) kw_X4_27 rfl dX4_mulesThatKnow_6 ?_
    refine ww_icmp_ge (tgt := 40) C0 dX4_mulesThatKnow_9 (by decide) (fun h9 => ?_) (fun h9 => ?_)
    · skip
      replace h9 := (nI_leE (a := nm) (b := j) rfl rfl (by omega) (by omega)).mp h9
      exfalso; omega
    · skip
      replace h9 := (not_congr (nI_leE (a := nm) (b := j) rfl rfl (by omega) (by omega))).mp h9
      refine ww_aload_n C0 dX4_mulesThatKnow_12 rfl ?_
      refine ww_aload_n C0 dX4_mulesThatKnow_13 rfl ?_
      refine ww_get C0 (ci := 4) (C := RX4) (T := TX4) (N := 14) ku_X4 0 rfl rfl 4 (by decide) kw_X4_34 rfl dX4_mulesThatKnow_14 ?_
      refine ww_iload_n C0 dX4_mulesThatKnow_17 rfl ?_
      refine ww_callVi C0 (qc := (RX4, TX4, 14)) 0 4 (c_X4_known l D cI cZ cQ hnm hna hj) kd_X4_known kw_X4_123 km_X4_known kl_X4_known ki_X4 hd_X4_known rfl rfl ⟨Nat.le_of_ble_eq_true rfl, Nat.le_of_ble_eq_true rfl, rfl, rfl⟩ (Nat.le_of_ble_eq_true rfl) dX4_mulesThatKnow_18 rfl rfl rfl ⟨Nat.zero_le _, Nat.zero_le _⟩ ?_
      refine ww_iload_n C0 dX4_mulesThatKnow_21 rfl ?_
      refine ww_ishr C0 dX4_mulesThatKnow_22 ?_
      refine ww_iconst (v := (1)) C0 dX4_mulesThatKnow_23 rfl ?_
      refine ww_iand C0 dX4_mulesThatKnow_24 ?_
      refine ww_if_eq (tgt := 34) C0 dX4_mulesThatKnow_25 (by decide) (fun h25 => ?_) (fun h25 => ?_)
      · skip
        refine ww_iinc (d := 1) C0 dX4_mulesThatKnow_34 rfl rfl rfl ?_
        simp only [List.set_cons_zero, List.set_cons_succ]
        refine ww_goto (tgt := 4) C0 dX4_mulesThatKnow_37 (by decide) ?_
        exact ww_back ih ⟨Or.inr rfl, Or.inr rfl, Or.inr (congrArg Value.int (by simp [orBits, hbit, *])), Or.inr (congrArg Value.int (nI_addE rfl rfl).symm), trivial⟩ (by rfl)
      · skip
        refine ww_iload_n C0 dX4_mulesThatKnow_28 rfl ?_
        refine ww_iconst (v := (1)) C0 dX4_mulesThatKnow_29 rfl ?_
        refine ww_iload_n C0 dX4_mulesThatKnow_30 rfl ?_
        refine ww_ishl C0 dX4_mulesThatKnow_31 ?_
        refine ww_ior C0 dX4_mulesThatKnow_32 ?_
        refine ww_istore_n (i := 2) C0 dX4_mulesThatKnow_33 rfl (Nat.le_of_ble_eq_true rfl) rfl ?_
        simp only [List.set_cons_zero, List.set_cons_succ]
        refine ww_iinc (d := 1) C0 dX4_mulesThatKnow_34 rfl rfl rfl ?_
        simp only [List.set_cons_zero, List.set_cons_succ]
        refine ww_goto (tgt := 4) C0 dX4_mulesThatKnow_37 (by decide) ?_
        exact ww_back ih ⟨Or.inr rfl, Or.inr rfl, Or.inr (congrArg Value.int (by simp [orBits, hbit, *])), Or.inr (congrArg Value.int (nI_addE rfl rfl).symm), trivial⟩ (by rfl)
  · skip
    refine ww_iload_n C0 dX4_mulesThatKnow_4 rfl ?_
    refine ww_aload_n C0 dX4_mulesThatKnow_5 rfl ?_
    refine ww_get C0 (ci := 4) (C := RX4) (T := TX4) (N := 14) ku_X4 0 rfl rfl 3 (by decide) kw_X4_27 rfl dX4_mulesThatKnow_6 ?_
    refine ww_icmp_ge (tgt := 40) C0 dX4_mulesThatKnow_9 (by decide) (fun h9 => ?_) (fun h9 => ?_)
    · skip
      replace h9 := (nI_leE (a := nm) (b := nm) rfl rfl (by omega) (by omega)).mp h9
      refine ww_iload_n C0 dX4_mulesThatKnow_40 rfl ?_
      exact ww_iret C0 hr dX4_mulesThatKnow_41 (by rfl) (by rfl)
    · skip
      replace h9 := (not_congr (nI_leE (a := nm) (b := nm) rfl rfl (by omega) (by omega))).mp h9
      exfalso; omega

set_option maxHeartbeats 4000000 in
set_option maxRecDepth 100000 in
theorem c_X4_stepRefusal (l : Launch) (D : va_G) (cI cZ cQ : ClassId) {aX aT aL aC aN aY aA aO aK aG aW al0 al1 al2 an0 an1 an2 : Nat} {nm fa ac na : Nat} {hN bN : Int32} {sd : Int64} {fl0 fl1 fl2 fC fn0 fn1 fn2 : Nat → Int32} {rest : va_W} {k : Nat} {wa : Int32} (hnm : nm ≤ 5) (hna : na ≤ 5) (hk : k < nm) : MI l D [(cI, .int), (cZ, .boolean), (cQ, .object "MulesRemember$State")] yX4_stepRefusal cX4_stepRefusal 3 .int ({ frames := 1, cells := 0, slots := 0, locals := 21 } : Room) [.ref aX, .int (nI k), .int wa] ((aX, .inr (4, [.ref aT, .ref aL, .ref aC, .int (nI nm), .ref aN, .ref aY, .ref aA, .int (nI fa), .int (nI ac), .ref aO, .ref aK, .ref aG, .ref aW, .long sd])) :: (aL, .inr (0, [.ref al0, .ref al1, .ref al2, .int (nI na)])) :: (al0, .inl (cI, 5, .inl (fl0))) :: (al1, .inl (cI, 5, .inl (fl1))) :: (al2, .inl (cI, 5, .inl (fl2))) :: (aC, .inl (cI, 5, .inl (fC))) :: (aN, .inr (2, [.ref an0, .ref an1, .ref an2, .int hN, .int bN])) :: (an0, .inl (cI, 5, .inl (fn0))) :: (an1, .inl (cI, 5, .inl (fn1))) :: (an2, .inl (cI, 5, .inl (fn2))) :: rest) (sRef (fn0 k) wa) ((aX, .inr (4, [.ref aT, .ref aL, .ref aC, .int (nI nm), .ref aN, .ref aY, .ref aA, .int (nI fa), .int (nI ac), .ref aO, .ref aK, .ref aG, .ref aW, .long sd])) :: (aL, .inr (0, [.ref al0, .ref al1, .ref al2, .int (nI na)])) :: (al0, .inl (cI, 5, .inl (fl0))) :: (al1, .inl (cI, 5, .inl (fl1))) :: (al2, .inl (cI, 5, .inl (fl2))) :: (aC, .inl (cI, 5, .inl (fC))) :: (aN, .inr (2, [.ref an0, .ref an1, .ref an2, .int hN, .int bN])) :: (an0, .inl (cI, 5, .inl (fn0))) :: (an1, .inl (cI, 5, .inl (fn1))) :: (an2, .inl (cI, 5, .inl (fn2))) :: rest) := by
  refine MI.of [.ref aX, .int (nI k), .int wa] (by decide) (Nat.le_of_ble_eq_true rfl) rfl ?_
  intro p e s m below meth c A C0 hr
  refine ww_aload_n C0 dX4_stepRefusal_0 rfl ?_
  refine ww_iload_n C0 dX4_stepRefusal_1 rfl ?_
  refine ww_callVi C0 (qc := (RX4, TX4, 14)) 0 4 (c_X4_isMule l D cI cZ cQ hnm) kd_X4_isMule kw_X4_113 km_X4_isMule kl_X4_isMule ki_X4 hd_X4_isMule rfl rfl ⟨Nat.le_of_ble_eq_true rfl, Nat.le_of_ble_eq_true rfl, rfl, rfl⟩ (Nat.le_of_ble_eq_true rfl) dX4_stepRefusal_2 rfl rfl rfl ⟨Nat.zero_le _, Nat.zero_le _⟩ ?_
  refine ww_bif_ne (tgt := 10) C0 dX4_stepRefusal_5 (by decide) (fun h5 => ?_) (fun h5 => ?_)
  · skip
    refine ww_iload_n C0 dX4_stepRefusal_10 rfl ?_
    refine ww_callSi C0 (c_X4_isFlag l D cI cZ cQ) kd_X4_isFlag kw_X4_185 ks_X4_isFlag ki_X4 hd_X4_isFlag ⟨Nat.le_of_ble_eq_true rfl, Nat.le_of_ble_eq_true rfl, rfl, rfl⟩ (Nat.le_of_ble_eq_true rfl) dX4_stepRefusal_11 rfl rfl ⟨Nat.zero_le _, Nat.zero_le _⟩ ?_
    refine ww_bif_ne (tgt := 20) C0 dX4_stepRefusal_14 (by decide) (fun h14 => ?_) (fun h14 => ?_)
    · skip
      refine ww_aload_n C0 dX4_stepRefusal_20 rfl ?_
      refine ww_get C0 (ci := 4) (C := RX4) (T := TX4) (N := 14) ku_X4 0 rfl rfl 4 (by decide) kw_X4_34 rfl dX4_stepRefusal_21 ?_
      refine ww_getN C0 (ci := 2) (C := RX2) (T := TX2) (N := 5) ku_X2 6 rfl rfl 0 (by decide) kn_X4_116 rfl dX4_stepRefusal_24 ?_
      refine ww_iload_n C0 dX4_stepRefusal_27 rfl ?_
      refine ww_iald_n (j := k) C0 7 0 rfl rfl rfl (by omega) (by decide) dX4_stepRefusal_28 ?_
      refine ww_iload_n C0 dX4_stepRefusal_29 rfl ?_
      refine ww_callSi C0 (c_X4_nextStone l D cI cZ cQ) kd_X4_nextStone kw_X4_236 ks_X4_nextStone ki_X4 hd_X4_nextStone ⟨Nat.le_of_ble_eq_true rfl, Nat.le_of_ble_eq_true rfl, rfl, rfl⟩ (Nat.le_of_ble_eq_true rfl) dX4_stepRefusal_30 rfl rfl ⟨Nat.zero_le _, Nat.zero_le _⟩ ?_
      refine ww_callSi C0 (c_X4_isStone l D cI cZ cQ) kd_X4_isStone kw_X4_161 ks_X4_isStone ki_X4 hd_X4_isStone ⟨Nat.le_of_ble_eq_true rfl, Nat.le_of_ble_eq_true rfl, rfl, rfl⟩ (Nat.le_of_ble_eq_true rfl) dX4_stepRefusal_33 rfl rfl ⟨Nat.zero_le _, Nat.zero_le _⟩ ?_
      refine ww_bif_eq (tgt := 43) C0 dX4_stepRefusal_36 (by decide) (fun h36 => ?_) (fun h36 => ?_)
      · skip
        refine ww_bipush (v := (-3)) C0 dX4_stepRefusal_43 rfl ?_
        exact ww_iret C0 hr dX4_stepRefusal_45 (by simp [sRef, *]) (by rfl)
      · skip
        refine ww_iconst (v := (0)) C0 dX4_stepRefusal_39 rfl ?_
        refine ww_goto (tgt := 45) C0 dX4_stepRefusal_40 (by decide) ?_
        exact ww_iret C0 hr dX4_stepRefusal_45 (by simp [sRef, *]) (by rfl)
    · skip
      refine ww_bipush (v := (-2)) C0 dX4_stepRefusal_17 rfl ?_
      exact ww_iret C0 hr dX4_stepRefusal_19 (by simp [sRef, *]) (by rfl)
  · skip
    exact absurd (isN_nI (by omega) hk) (by rw [h5]; decide)

set_option maxHeartbeats 4000000 in
set_option maxRecDepth 100000 in
theorem c_X4_stepRefusal_b (l : Launch) (D : va_G) (cI cZ cQ : ClassId) {aX aT aL aC aN aY aA aO aK aG aW : Nat} {nm fa ac : Nat} {sd : Int64} {rest : va_W} {m wa : Int32} (hnm : nm ≤ 5) (hm : isN nm m = false) : MI l D [(cI, .int), (cZ, .boolean), (cQ, .object "MulesRemember$State")] yX4_stepRefusal cX4_stepRefusal 3 .int ({ frames := 1, cells := 0, slots := 0, locals := 21 } : Room) [.ref aX, .int m, .int wa] ((aX, .inr (4, [.ref aT, .ref aL, .ref aC, .int (nI nm), .ref aN, .ref aY, .ref aA, .int (nI fa), .int (nI ac), .ref aO, .ref aK, .ref aG, .ref aW, .long sd])) :: rest) (-1) ((aX, .inr (4, [.ref aT, .ref aL, .ref aC, .int (nI nm), .ref aN, .ref aY, .ref aA, .int (nI fa), .int (nI ac), .ref aO, .ref aK, .ref aG, .ref aW, .long sd])) :: rest) := by
  refine MI.of [.ref aX, .int m, .int wa] (by decide) (Nat.le_of_ble_eq_true rfl) rfl ?_
  intro p e s m below meth c A C0 hr
  refine ww_aload_n C0 dX4_stepRefusal_0 rfl ?_
  refine ww_iload_n C0 dX4_stepRefusal_1 rfl ?_
  refine ww_callVi C0 (qc := (RX4, TX4, 14)) 0 4 (c_X4_isMule l D cI cZ cQ hnm) kd_X4_isMule kw_X4_113 km_X4_isMule kl_X4_isMule ki_X4 hd_X4_isMule rfl rfl ⟨Nat.le_of_ble_eq_true rfl, Nat.le_of_ble_eq_true rfl, rfl, rfl⟩ (Nat.le_of_ble_eq_true rfl) dX4_stepRefusal_2 rfl rfl rfl ⟨Nat.zero_le _, Nat.zero_le _⟩ ?_
  refine ww_bif_ne (tgt := 10) C0 dX4_stepRefusal_5 (by decide) (fun h5 => ?_) (fun h5 => ?_)
  · skip
    exact absurd h5 (by rw [hm]; decide)
  · skip
    refine ww_iconst (v := (-1)) C0 dX4_stepRefusal_8 rfl ?_
    exact ww_iret C0 hr dX4_stepRefusal_9 (by rfl) (by rfl)

set_option maxHeartbeats 4000000 in
set_option maxRecDepth 100000 in
theorem c_X4_othersFromNorthOf (l : Launch) (D : va_G) (cI cZ cQ : ClassId) {aX aT aL aC aN aY aA aO aK aG aW al0 al1 al2 aS as0 as1 as2 : Nat} {nm fa ac na : Nat} {hS bS : Int32} {sd : Int64} {fl0 fl1 fl2 fC fs0 fs1 fs2 : Nat → Int32} {rest : va_W} {k : Nat} {on : Int32} (hnm : nm ≤ 5) (hk : k < nm) : MI l D [(cI, .int), (cZ, .boolean), (cQ, .object "MulesRemember$State")] yX4_othersFromNorthOf cX4_othersFromNorthOf 6 .int ({ frames := 0, cells := 0, slots := 0, locals := 0 } : Room) [.ref aX, .ref aS, .int (nI k), .int on] ((aX, .inr (4, [.ref aT, .ref aL, .ref aC, .int (nI nm), .ref aN, .ref aY, .ref aA, .int (nI fa), .int (nI ac), .ref aO, .ref aK, .ref aG, .ref aW, .long sd])) :: (aL, .inr (0, [.ref al0, .ref al1, .ref al2, .int (nI na)])) :: (al0, .inl (cI, 5, .inl (fl0))) :: (al1, .inl (cI, 5, .inl (fl1))) :: (al2, .inl (cI, 5, .inl (fl2))) :: (aC, .inl (cI, 5, .inl (fC))) :: (aS, .inr (2, [.ref as0, .ref as1, .ref as2, .int hS, .int bS])) :: (as0, .inl (cI, 5, .inl (fs0))) :: (as1, .inl (cI, 5, .inl (fs1))) :: (as2, .inl (cI, 5, .inl (fs2))) :: rest) (sOth nm fs0 k on) ((aX, .inr (4, [.ref aT, .ref aL, .ref aC, .int (nI nm), .ref aN, .ref aY, .ref aA, .int (nI fa), .int (nI ac), .ref aO, .ref aK, .ref aG, .ref aW, .long sd])) :: (aL, .inr (0, [.ref al0, .ref al1, .ref al2, .int (nI na)])) :: (al0, .inl (cI, 5, .inl (fl0))) :: (al1, .inl (cI, 5, .inl (fl1))) :: (al2, .inl (cI, 5, .inl (fl2))) :: (aC, .inl (cI, 5, .inl (fC))) :: (aS, .inr (2, [.ref as0, .ref as1, .ref as2, .int hS, .int bS])) :: (as0, .inl (cI, 5, .inl (fs0))) :: (as1, .inl (cI, 5, .inl (fs1))) :: (as2, .inl (cI, 5, .inl (fs2))) :: rest) := by
  refine MI.of [.ref aX, .ref aS, .int (nI k), .int on, .null, .null] (by decide) (Nat.le_of_ble_eq_true rfl) rfl ?_
  intro p e s m below meth c A C0 hr
  refine ww_iconst (v := (0)) C0 dX4_othersFromNorthOf_0 rfl ?_
  refine ww_istore (i := 4) C0 dX4_othersFromNorthOf_1 (Nat.le_of_ble_eq_true rfl) rfl ?_
  simp only [List.set_cons_zero, List.set_cons_succ]
  refine ww_iconst (v := (0)) C0 dX4_othersFromNorthOf_3 rfl ?_
  refine ww_istore (i := 5) C0 dX4_othersFromNorthOf_4 (Nat.le_of_ble_eq_true rfl) rfl ?_
  simp only [List.set_cons_zero, List.set_cons_succ]
  refine ww_back (ww_loop (pc := 6) 0 (nm) (by omega) (fun j => [_, _, _, _, .int (sOth j fs0 k on), .int (nI j)]) (fun j => _) ?_ ?_) ⟨Or.inr rfl, Or.inr rfl, Or.inr rfl, Or.inr rfl, Or.inr rfl, Or.inr rfl, trivial⟩ (by rfl)
  · intro j hj0 hj ih
    refine ww_iload C0 dX4_othersFromNorthOf_6 rfl ?_
    refine ww_aload_n C0 dX4_othersFromNorthOf_8 rfl ?_
    refine ww_get C0 (ci := 4) (C := RX4) (T := TX4) (N := 14) ku_X4 0 rfl rfl 3 (by decide) kw_X4_27 rfl dX4_othersFromNorthOf_9 ?_
    refine ww_icmp_ge (tgt := 41) C0 dX4_othersFromNorthOf_12 (by decide) (fun h12 => ?_) (fun h12 => ?_)
    · skip
      replace h12 := (nI_leE (a := nm) (b := j) rfl rfl (by omega) (by omega)).mp h12
      exfalso; omega
    · skip
      replace h12 := (not_congr (nI_leE (a := nm) (b := j) rfl rfl (by omega) (by omega))).mp h12
      refine ww_iload C0 dX4_othersFromNorthOf_15 rfl ?_
      refine ww_iload_n C0 dX4_othersFromNorthOf_17 rfl ?_
      refine ww_icmp_eq (tgt := 35) C0 dX4_othersFromNorthOf_18 (by decide) (fun h18 => ?_) (fun h18 => ?_)
      · skip
        replace h18 := (nI_eqE (a := j) (b := k) rfl rfl (by omega) (by omega)).mp h18
        subst h18
        refine ww_iinc (d := 1) C0 dX4_othersFromNorthOf_35 rfl rfl rfl ?_
        simp only [List.set_cons_zero, List.set_cons_succ]
        refine ww_goto (tgt := 6) C0 dX4_othersFromNorthOf_38 (by decide) ?_
        exact ww_back ih ⟨Or.inr rfl, Or.inr rfl, Or.inr rfl, Or.inr rfl, Or.inr (congrArg Value.int (by simp [sOth, cntI, *])), Or.inr (congrArg Value.int (nI_addE rfl rfl).symm), trivial⟩ (by rfl)
      · skip
        replace h18 := (not_congr (nI_eqE (a := j) (b := k) rfl rfl (by omega) (by omega))).mp h18
        refine ww_aload_n C0 dX4_othersFromNorthOf_21 rfl ?_
        refine ww_getN C0 (ci := 2) (C := RX2) (T := TX2) (N := 5) ku_X2 6 rfl rfl 0 (by decide) kn_X4_116 rfl dX4_othersFromNorthOf_22 ?_
        refine ww_iload C0 dX4_othersFromNorthOf_25 rfl ?_
        refine ww_iald_n (j := j) C0 7 0 rfl rfl rfl (by omega) (by decide) dX4_othersFromNorthOf_27 ?_
        refine ww_iload_n C0 dX4_othersFromNorthOf_28 rfl ?_
        refine ww_icmp_lt (tgt := 35) C0 dX4_othersFromNorthOf_29 (by decide) (fun h29 => ?_) (fun h29 => ?_)
        · skip
          refine ww_iinc (d := 1) C0 dX4_othersFromNorthOf_35 rfl rfl rfl ?_
          simp only [List.set_cons_zero, List.set_cons_succ]
          refine ww_goto (tgt := 6) C0 dX4_othersFromNorthOf_38 (by decide) ?_
          exact ww_back ih ⟨Or.inr rfl, Or.inr rfl, Or.inr rfl, Or.inr rfl, Or.inr (congrArg Value.int (by simp [sOth, cntI, *])), Or.inr (congrArg Value.int (nI_addE rfl rfl).symm), trivial⟩ (by rfl)
        · skip
          refine ww_iinc (d := 1) C0 dX4_othersFromNorthOf_32 rfl rfl rfl ?_
          simp only [List.set_cons_zero, List.set_cons_succ]
          refine ww_iinc (d := 1) C0 dX4_othersFromNorthOf_35 rfl rfl rfl ?_
          simp only [List.set_cons_zero, List.set_cons_succ]
          refine ww_goto (tgt := 6) C0 dX4_othersFromNorthOf_38 (by decide) ?_
          exact ww_back ih ⟨Or.inr rfl, Or.inr rfl, Or.inr rfl, Or.inr rfl, Or.inr (congrArg Value.int (by simp [sOth, cntI, *])), Or.inr (congrArg Value.int (nI_addE rfl rfl).symm), trivial⟩ (by rfl)
  · skip
    refine ww_iload C0 dX4_othersFromNorthOf_6 rfl ?_
    refine ww_aload_n C0 dX4_othersFromNorthOf_8 rfl ?_
    refine ww_get C0 (ci := 4) (C := RX4) (T := TX4) (N := 14) ku_X4 0 rfl rfl 3 (by decide) kw_X4_27 rfl dX4_othersFromNorthOf_9 ?_
    refine ww_icmp_ge (tgt := 41) C0 dX4_othersFromNorthOf_12 (by decide) (fun h12 => ?_) (fun h12 => ?_)
    · skip
      replace h12 := (nI_leE (a := nm) (b := nm) rfl rfl (by omega) (by omega)).mp h12
      refine ww_iload C0 dX4_othersFromNorthOf_41 rfl ?_
      exact ww_iret C0 hr dX4_othersFromNorthOf_43 (by rfl) (by rfl)
    · skip
      replace h12 := (not_congr (nI_leE (a := nm) (b := nm) rfl rfl (by omega) (by omega))).mp h12
      exfalso; omega

set_option maxHeartbeats 4000000 in
set_option maxRecDepth 100000 in
theorem c_X4_forbiddersFrom (l : Launch) (D : va_G) (cI cZ cQ : ClassId) {aX aT aL aC aN aY aA aO aK aG aW al0 al1 al2 aS as0 as1 as2 : Nat} {nm fa ac na : Nat} {hS bS : Int32} {sd : Int64} {fl0 fl1 fl2 fC fs0 fs1 fs2 : Nat → Int32} {rest : va_W} {k : Nat} {fr wa ho : Int32} (hnm : nm ≤ 5) (hna : na ≤ 5) (hk : k < nm) : MI l D [(cI, .int), (cZ, .boolean), (cQ, .object "MulesRemember$State")] yX4_forbiddersFrom cX4_forbiddersFrom 10 .int ({ frames := 2, cells := 0, slots := 0, locals := 50 } : Room) [.ref aX, .ref aS, .int (nI k), .int fr, .int wa, .int ho] ((aX, .inr (4, [.ref aT, .ref aL, .ref aC, .int (nI nm), .ref aN, .ref aY, .ref aA, .int (nI fa), .int (nI ac), .ref aO, .ref aK, .ref aG, .ref aW, .long sd])) :: (aL, .inr (0, [.ref al0, .ref al1, .ref al2, .int (nI na)])) :: (al0, .inl (cI, 5, .inl (fl0))) :: (al1, .inl (cI, 5, .inl (fl1))) :: (al2, .inl (cI, 5, .inl (fl2))) :: (aC, .inl (cI, 5, .inl (fC))) :: (aS, .inr (2, [.ref as0, .ref as1, .ref as2, .int hS, .int bS])) :: (as0, .inl (cI, 5, .inl (fs0))) :: (as1, .inl (cI, 5, .inl (fs1))) :: (as2, .inl (cI, 5, .inl (fs2))) :: rest) (sFF nm na fl0 fl1 fl2 fC fs0 k fr wa ho) ((aX, .inr (4, [.ref aT, .ref aL, .ref aC, .int (nI nm), .ref aN, .ref aY, .ref aA, .int (nI fa), .int (nI ac), .ref aO, .ref aK, .ref aG, .ref aW, .long sd])) :: (aL, .inr (0, [.ref al0, .ref al1, .ref al2, .int (nI na)])) :: (al0, .inl (cI, 5, .inl (fl0))) :: (al1, .inl (cI, 5, .inl (fl1))) :: (al2, .inl (cI, 5, .inl (fl2))) :: (aC, .inl (cI, 5, .inl (fC))) :: (aS, .inr (2, [.ref as0, .ref as1, .ref as2, .int hS, .int bS])) :: (as0, .inl (cI, 5, .inl (fs0))) :: (as1, .inl (cI, 5, .inl (fs1))) :: (as2, .inl (cI, 5, .inl (fs2))) :: rest) := by
  refine MI.of [.ref aX, .ref aS, .int (nI k), .int fr, .int wa, .int ho, .null, .null, .null, .null] (by decide) (Nat.le_of_ble_eq_true rfl) rfl ?_
  intro p e s m below meth c A C0 hr
  refine ww_iload_n C0 dX4_forbiddersFrom_0 rfl ?_
  refine ww_iload C0 dX4_forbiddersFrom_1 rfl ?_
  refine ww_callSi C0 (c_X4_nextStone l D cI cZ cQ) kd_X4_nextStone kw_X4_236 ks_X4_nextStone ki_X4 hd_X4_nextStone ⟨Nat.le_of_ble_eq_true rfl, Nat.le_of_ble_eq_true rfl, rfl, rfl⟩ (Nat.le_of_ble_eq_true rfl) dX4_forbiddersFrom_3 rfl rfl ⟨Nat.zero_le _, Nat.zero_le _⟩ ?_
  refine ww_istore (i := 6) C0 dX4_forbiddersFrom_6 (Nat.le_of_ble_eq_true rfl) rfl ?_
  simp only [List.set_cons_zero, List.set_cons_succ]
  refine ww_aload_n C0 dX4_forbiddersFrom_8 rfl ?_
  refine ww_iload_n C0 dX4_forbiddersFrom_9 rfl ?_
  refine ww_callVi C0 (qc := (RX4, TX4, 14)) 0 4 (c_X4_isMule l D cI cZ cQ hnm) kd_X4_isMule kw_X4_113 km_X4_isMule kl_X4_isMule ki_X4 hd_X4_isMule rfl rfl ⟨Nat.le_of_ble_eq_true rfl, Nat.le_of_ble_eq_true rfl, rfl, rfl⟩ (Nat.le_of_ble_eq_true rfl) dX4_forbiddersFrom_10 rfl rfl rfl ⟨Nat.zero_le _, Nat.zero_le _⟩ ?_
  refine ww_bif_eq (tgt := 24) C0 dX4_forbiddersFrom_13 (by decide) (fun h13 => ?_) (fun h13 => ?_)
  · skip
    exact absurd (isN_nI (by omega) hk) (by rw [h13]; decide)
  · skip
    refine ww_iload C0 dX4_forbiddersFrom_16 rfl ?_
    refine ww_callSi C0 (c_X4_isStone l D cI cZ cQ) kd_X4_isStone kw_X4_161 ks_X4_isStone ki_X4 hd_X4_isStone ⟨Nat.le_of_ble_eq_true rfl, Nat.le_of_ble_eq_true rfl, rfl, rfl⟩ (Nat.le_of_ble_eq_true rfl) dX4_forbiddersFrom_18 rfl rfl ⟨Nat.zero_le _, Nat.zero_le _⟩ ?_
    refine ww_bif_ne (tgt := 26) C0 dX4_forbiddersFrom_21 (by decide) (fun h21 => ?_) (fun h21 => ?_)
    · skip
      refine ww_aload_n C0 dX4_forbiddersFrom_26 rfl ?_
      refine ww_aload_n C0 dX4_forbiddersFrom_27 rfl ?_
      refine ww_iload_n C0 dX4_forbiddersFrom_28 rfl ?_
      refine ww_iload C0 dX4_forbiddersFrom_29 rfl ?_
      refine ww_callVi C0 (qc := (RX4, TX4, 14)) 0 4 (c_X4_othersFromNorthOf l D cI cZ cQ hnm hk) kd_X4_othersFromNorthOf kw_X4_243 km_X4_othersFromNorthOf kl_X4_othersFromNorthOf ki_X4 hd_X4_othersFromNorthOf rfl rfl ⟨Nat.le_of_ble_eq_true rfl, Nat.le_of_ble_eq_true rfl, rfl, rfl⟩ (Nat.le_of_ble_eq_true rfl) dX4_forbiddersFrom_31 rfl rfl rfl ⟨Nat.zero_le _, Nat.zero_le _⟩ ?_
      refine ww_istore (i := 7) C0 dX4_forbiddersFrom_34 (Nat.le_of_ble_eq_true rfl) rfl ?_
      simp only [List.set_cons_zero, List.set_cons_succ]
      refine ww_iconst (v := (0)) C0 dX4_forbiddersFrom_36 rfl ?_
      refine ww_istore (i := 8) C0 dX4_forbiddersFrom_37 (Nat.le_of_ble_eq_true rfl) rfl ?_
      simp only [List.set_cons_zero, List.set_cons_succ]
      refine ww_iconst (v := (0)) C0 dX4_forbiddersFrom_39 rfl ?_
      refine ww_istore (i := 9) C0 dX4_forbiddersFrom_40 (Nat.le_of_ble_eq_true rfl) rfl ?_
      simp only [List.set_cons_zero, List.set_cons_succ]
      refine ww_back (ww_loop (pc := 42) 0 (na) (by omega) (fun j => [_, _, _, _, _, _, _, _, .int (sForb j fl0 fl1 fl2 (sNext fr wa) (fC k) (ho - ho / 10 * 10) wa (sOth nm fs0 k (sNext fr wa))), .int (nI j)]) (fun j => _) ?_ ?_) ⟨Or.inr rfl, Or.inr rfl, Or.inr rfl, Or.inr rfl, Or.inr rfl, Or.inr rfl, Or.inr rfl, Or.inr rfl, Or.inr rfl, Or.inr rfl, trivial⟩ (by rfl)
      · intro j hj0 hj ih
        refine ww_iload C0 dX4_forbiddersFrom_42 rfl ?_
        refine ww_aload_n C0 dX4_forbiddersFrom_44 rfl ?_
        refine ww_get C0 (ci := 4) (C := RX4) (T := TX4) (N := 14) ku_X4 0 rfl rfl 1 (by decide) kw_X4_19 rfl dX4_forbiddersFrom_45 ?_
        refine ww_getN C0 (ci := 0) (C := RX0) (T := TX0) (N := 4) ku_X0 1 rfl rfl 3 (by decide) kn_X4_83 rfl dX4_forbiddersFrom_48 ?_
        refine ww_icmp_ge (tgt := 98) C0 dX4_forbiddersFrom_51 (by decide) (fun h51 => ?_) (fun h51 => ?_)
        · skip
          replace h51 := (nI_leE (a := na) (b := j) rfl rfl (by omega) (by omega)).mp h51
          exfalso; omega
        · skip
          replace h51 := (not_congr (nI_leE (a := na) (b := j) rfl rfl (by omega) (by omega))).mp h51
          refine ww_aload_n C0 dX4_forbiddersFrom_54 rfl ?_
          refine ww_get C0 (ci := 4) (C := RX4) (T := TX4) (N := 14) ku_X4 0 rfl rfl 1 (by decide) kw_X4_19 rfl dX4_forbiddersFrom_55 ?_
          refine ww_iload C0 dX4_forbiddersFrom_58 rfl ?_
          refine ww_iload C0 dX4_forbiddersFrom_60 rfl ?_
          refine ww_aload_n C0 dX4_forbiddersFrom_62 rfl ?_
          refine ww_get C0 (ci := 4) (C := RX4) (T := TX4) (N := 14) ku_X4 0 rfl rfl 2 (by decide) kw_X4_23 rfl dX4_forbiddersFrom_63 ?_
          refine ww_iload_n C0 dX4_forbiddersFrom_66 rfl ?_
          refine ww_iald_n (j := k) C0 5 0 rfl rfl rfl (by omega) (by decide) dX4_forbiddersFrom_67 ?_
          refine ww_iload C0 dX4_forbiddersFrom_68 rfl ?_
          refine ww_bipush (v := (10)) C0 dX4_forbiddersFrom_70 rfl ?_
          refine ww_irem C0 dX4_forbiddersFrom_72 (by decide) ?_
          refine ww_iload C0 dX4_forbiddersFrom_73 rfl ?_
          refine ww_iload C0 dX4_forbiddersFrom_75 rfl ?_
          refine ww_callVNi C0 (qc := (RX0, TX0, 4)) 1 0 (c_X0_forbids l D cI cZ cQ hna hj) kd_X0_forbids kn_X4_246 km_X0_forbids kl_X0_forbids ki_X0 hd_X0_forbids rfl rfl ⟨Nat.le_of_ble_eq_true rfl, Nat.le_of_ble_eq_true rfl, rfl, rfl⟩ (Nat.le_of_ble_eq_true rfl) dX4_forbiddersFrom_77 rfl rfl rfl ⟨Nat.zero_le _, Nat.zero_le _⟩ ?_
          refine ww_bif_eq (tgt := 92) C0 dX4_forbiddersFrom_80 (by decide) (fun h80 => ?_) (fun h80 => ?_)
          · skip
            refine ww_iinc (d := 1) C0 dX4_forbiddersFrom_92 rfl rfl rfl ?_
            simp only [List.set_cons_zero, List.set_cons_succ]
            refine ww_goto (tgt := 42) C0 dX4_forbiddersFrom_95 (by decide) ?_
            exact ww_back ih ⟨Or.inr rfl, Or.inr rfl, Or.inr rfl, Or.inr rfl, Or.inr rfl, Or.inr rfl, Or.inr rfl, Or.inr rfl, Or.inr (congrArg Value.int (by simp [sForb, orBits, *])), Or.inr (congrArg Value.int (nI_addE rfl rfl).symm), trivial⟩ (by rfl)
          · skip
            refine ww_iload C0 dX4_forbiddersFrom_83 rfl ?_
            refine ww_iconst (v := (1)) C0 dX4_forbiddersFrom_85 rfl ?_
            refine ww_iload C0 dX4_forbiddersFrom_86 rfl ?_
            refine ww_ishl C0 dX4_forbiddersFrom_88 ?_
            refine ww_ior C0 dX4_forbiddersFrom_89 ?_
            refine ww_istore (i := 8) C0 dX4_forbiddersFrom_90 (Nat.le_of_ble_eq_true rfl) rfl ?_
            simp only [List.set_cons_zero, List.set_cons_succ]
            refine ww_iinc (d := 1) C0 dX4_forbiddersFrom_92 rfl rfl rfl ?_
            simp only [List.set_cons_zero, List.set_cons_succ]
            refine ww_goto (tgt := 42) C0 dX4_forbiddersFrom_95 (by decide) ?_
            exact ww_back ih ⟨Or.inr rfl, Or.inr rfl, Or.inr rfl, Or.inr rfl, Or.inr rfl, Or.inr rfl, Or.inr rfl, Or.inr rfl, Or.inr (congrArg Value.int (by simp [sForb, orBits, *])), Or.inr (congrArg Value.int (nI_addE rfl rfl).symm), trivial⟩ (by rfl)
      · skip
        refine ww_iload C0 dX4_forbiddersFrom_42 rfl ?_
        refine ww_aload_n C0 dX4_forbiddersFrom_44 rfl ?_
        refine ww_get C0 (ci := 4) (C := RX4) (T := TX4) (N := 14) ku_X4 0 rfl rfl 1 (by decide) kw_X4_19 rfl dX4_forbiddersFrom_45 ?_
        refine ww_getN C0 (ci := 0) (C := RX0) (T := TX0) (N := 4) ku_X0 1 rfl rfl 3 (by decide) kn_X4_83 rfl dX4_forbiddersFrom_48 ?_
        refine ww_icmp_ge (tgt := 98) C0 dX4_forbiddersFrom_51 (by decide) (fun h51 => ?_) (fun h51 => ?_)
        · skip
          replace h51 := (nI_leE (a := na) (b := na) rfl rfl (by omega) (by omega)).mp h51
          refine ww_iload C0 dX4_forbiddersFrom_98 rfl ?_
          exact ww_iret C0 hr dX4_forbiddersFrom_100 (by simp [sFF, *]) (by rfl)
        · skip
          replace h51 := (not_congr (nI_leE (a := na) (b := na) rfl rfl (by omega) (by omega))).mp h51
          exfalso; omega
    · skip
      refine ww_iconst (v := (-1)) C0 dX4_forbiddersFrom_24 rfl ?_
      exact ww_iret C0 hr dX4_forbiddersFrom_25 (by simp [sFF, *]) (by rfl)

set_option maxHeartbeats 4000000 in
set_option maxRecDepth 100000 in
theorem c_X4_forbidders (l : Launch) (D : va_G) (cI cZ cQ : ClassId) {aX aT aL aC aN aY aA aO aK aG aW al0 al1 al2 aS as0 as1 as2 : Nat} {nm fa ac na : Nat} {hS bS : Int32} {sd : Int64} {fl0 fl1 fl2 fC fs0 fs1 fs2 : Nat → Int32} {rest : va_W} {k : Nat} {wa : Int32} (hnm : nm ≤ 5) (hna : na ≤ 5) (hk : k < nm) : MI l D [(cI, .int), (cZ, .boolean), (cQ, .object "MulesRemember$State")] yX4_forbidders cX4_forbidders 4 .int ({ frames := 3, cells := 0, slots := 0, locals := 79 } : Room) [.ref aX, .ref aS, .int (nI k), .int wa] ((aX, .inr (4, [.ref aT, .ref aL, .ref aC, .int (nI nm), .ref aN, .ref aY, .ref aA, .int (nI fa), .int (nI ac), .ref aO, .ref aK, .ref aG, .ref aW, .long sd])) :: (aL, .inr (0, [.ref al0, .ref al1, .ref al2, .int (nI na)])) :: (al0, .inl (cI, 5, .inl (fl0))) :: (al1, .inl (cI, 5, .inl (fl1))) :: (al2, .inl (cI, 5, .inl (fl2))) :: (aC, .inl (cI, 5, .inl (fC))) :: (aS, .inr (2, [.ref as0, .ref as1, .ref as2, .int hS, .int bS])) :: (as0, .inl (cI, 5, .inl (fs0))) :: (as1, .inl (cI, 5, .inl (fs1))) :: (as2, .inl (cI, 5, .inl (fs2))) :: rest) (sFF nm na fl0 fl1 fl2 fC fs0 k (fs0 k) wa hS) ((aX, .inr (4, [.ref aT, .ref aL, .ref aC, .int (nI nm), .ref aN, .ref aY, .ref aA, .int (nI fa), .int (nI ac), .ref aO, .ref aK, .ref aG, .ref aW, .long sd])) :: (aL, .inr (0, [.ref al0, .ref al1, .ref al2, .int (nI na)])) :: (al0, .inl (cI, 5, .inl (fl0))) :: (al1, .inl (cI, 5, .inl (fl1))) :: (al2, .inl (cI, 5, .inl (fl2))) :: (aC, .inl (cI, 5, .inl (fC))) :: (aS, .inr (2, [.ref as0, .ref as1, .ref as2, .int hS, .int bS])) :: (as0, .inl (cI, 5, .inl (fs0))) :: (as1, .inl (cI, 5, .inl (fs1))) :: (as2, .inl (cI, 5, .inl (fs2))) :: rest) := by
  refine MI.of [.ref aX, .ref aS, .int (nI k), .int wa] (by decide) (Nat.le_of_ble_eq_true rfl) rfl ?_
  intro p e s m below meth c A C0 hr
  refine ww_aload_n C0 dX4_forbidders_0 rfl ?_
  refine ww_iload_n C0 dX4_forbidders_1 rfl ?_
  refine ww_callVi C0 (qc := (RX4, TX4, 14)) 0 4 (c_X4_isMule l D cI cZ cQ hnm) kd_X4_isMule kw_X4_113 km_X4_isMule kl_X4_isMule ki_X4 hd_X4_isMule rfl rfl ⟨Nat.le_of_ble_eq_true rfl, Nat.le_of_ble_eq_true rfl, rfl, rfl⟩ (Nat.le_of_ble_eq_true rfl) dX4_forbidders_2 rfl rfl rfl ⟨Nat.zero_le _, Nat.zero_le _⟩ ?_
  refine ww_bif_ne (tgt := 10) C0 dX4_forbidders_5 (by decide) (fun h5 => ?_) (fun h5 => ?_)
  · skip
    refine ww_aload_n C0 dX4_forbidders_10 rfl ?_
    refine ww_aload_n C0 dX4_forbidders_11 rfl ?_
    refine ww_iload_n C0 dX4_forbidders_12 rfl ?_
    refine ww_aload_n C0 dX4_forbidders_13 rfl ?_
    refine ww_getN C0 (ci := 2) (C := RX2) (T := TX2) (N := 5) ku_X2 6 rfl rfl 0 (by decide) kn_X4_116 rfl dX4_forbidders_14 ?_
    refine ww_iload_n C0 dX4_forbidders_17 rfl ?_
    refine ww_iald_n (j := k) C0 7 0 rfl rfl rfl (by omega) (by decide) dX4_forbidders_18 ?_
    refine ww_iload_n C0 dX4_forbidders_19 rfl ?_
    refine ww_aload_n C0 dX4_forbidders_20 rfl ?_
    refine ww_getN C0 (ci := 2) (C := RX2) (T := TX2) (N := 5) ku_X2 6 rfl rfl 3 (by decide) kn_X4_86 rfl dX4_forbidders_21 ?_
    refine ww_callVi C0 (qc := (RX4, TX4, 14)) 0 4 (c_X4_forbiddersFrom l D cI cZ cQ hnm hna hk) kd_X4_forbiddersFrom kw_X4_239 km_X4_forbiddersFrom kl_X4_forbiddersFrom ki_X4 hd_X4_forbiddersFrom rfl rfl ⟨Nat.le_of_ble_eq_true rfl, Nat.le_of_ble_eq_true rfl, rfl, rfl⟩ (Nat.le_of_ble_eq_true rfl) dX4_forbidders_24 rfl rfl rfl ⟨Nat.zero_le _, Nat.zero_le _⟩ ?_
    exact ww_iret C0 hr dX4_forbidders_27 (by rfl) (by rfl)
  · skip
    exact absurd (isN_nI (by omega) hk) (by rw [h5]; decide)

set_option maxHeartbeats 4000000 in
set_option maxRecDepth 100000 in
theorem c_X4_forbidders_b (l : Launch) (D : va_G) (cI cZ cQ : ClassId) {aX aT aL aC aN aY aA aO aK aG aW : Nat} {nm fa ac : Nat} {sd : Int64} {rest : va_W} {aS : Nat} {m wa : Int32} (hnm : nm ≤ 5) (hm : isN nm m = false) : MI l D [(cI, .int), (cZ, .boolean), (cQ, .object "MulesRemember$State")] yX4_forbidders cX4_forbidders 4 .int ({ frames := 3, cells := 0, slots := 0, locals := 79 } : Room) [.ref aX, .ref aS, .int m, .int wa] ((aX, .inr (4, [.ref aT, .ref aL, .ref aC, .int (nI nm), .ref aN, .ref aY, .ref aA, .int (nI fa), .int (nI ac), .ref aO, .ref aK, .ref aG, .ref aW, .long sd])) :: rest) (-1) ((aX, .inr (4, [.ref aT, .ref aL, .ref aC, .int (nI nm), .ref aN, .ref aY, .ref aA, .int (nI fa), .int (nI ac), .ref aO, .ref aK, .ref aG, .ref aW, .long sd])) :: rest) := by
  refine MI.of [.ref aX, .ref aS, .int m, .int wa] (by decide) (Nat.le_of_ble_eq_true rfl) rfl ?_
  intro p e s m below meth c A C0 hr
  refine ww_aload_n C0 dX4_forbidders_0 rfl ?_
  refine ww_iload_n C0 dX4_forbidders_1 rfl ?_
  refine ww_callVi C0 (qc := (RX4, TX4, 14)) 0 4 (c_X4_isMule l D cI cZ cQ hnm) kd_X4_isMule kw_X4_113 km_X4_isMule kl_X4_isMule ki_X4 hd_X4_isMule rfl rfl ⟨Nat.le_of_ble_eq_true rfl, Nat.le_of_ble_eq_true rfl, rfl, rfl⟩ (Nat.le_of_ble_eq_true rfl) dX4_forbidders_2 rfl rfl rfl ⟨Nat.zero_le _, Nat.zero_le _⟩ ?_
  refine ww_bif_ne (tgt := 10) C0 dX4_forbidders_5 (by decide) (fun h5 => ?_) (fun h5 => ?_)
  · skip
    exact absurd h5 (by rw [hm]; decide)
  · skip
    refine ww_iconst (v := (-1)) C0 dX4_forbidders_8 rfl ?_
    exact ww_iret C0 hr dX4_forbidders_9 (by rfl) (by rfl)

set_option maxHeartbeats 4000000 in
set_option maxRecDepth 100000 in
theorem c_X4_balkers (l : Launch) (D : va_G) (cI cZ cQ : ClassId) {aX aT aL aC aN aY aA aO aK aG aW al0 al1 al2 aS as0 as1 as2 : Nat} {nm fa ac na : Nat} {hS bS : Int32} {sd : Int64} {fl0 fl1 fl2 fC fs0 fs1 fs2 : Nat → Int32} {rest : va_W} {k : Nat} {wa : Int32} (hnm : nm ≤ 5) (hna : na ≤ 5) (hk : k < nm) : MI l D [(cI, .int), (cZ, .boolean), (cQ, .object "MulesRemember$State")] yX4_balkers cX4_balkers 5 .int ({ frames := 4, cells := 0, slots := 0, locals := 102 } : Room) [.ref aX, .ref aS, .int (nI k), .int wa] ((aX, .inr (4, [.ref aT, .ref aL, .ref aC, .int (nI nm), .ref aN, .ref aY, .ref aA, .int (nI fa), .int (nI ac), .ref aO, .ref aK, .ref aG, .ref aW, .long sd])) :: (aL, .inr (0, [.ref al0, .ref al1, .ref al2, .int (nI na)])) :: (al0, .inl (cI, 5, .inl (fl0))) :: (al1, .inl (cI, 5, .inl (fl1))) :: (al2, .inl (cI, 5, .inl (fl2))) :: (aC, .inl (cI, 5, .inl (fC))) :: (aS, .inr (2, [.ref as0, .ref as1, .ref as2, .int hS, .int bS])) :: (as0, .inl (cI, 5, .inl (fs0))) :: (as1, .inl (cI, 5, .inl (fs1))) :: (as2, .inl (cI, 5, .inl (fs2))) :: rest) (sBalk (sFF nm na fl0 fl1 fl2 fC fs0 k (fs0 k) wa hS) (sKnown na (fs1 k) (fs2 k))) ((aX, .inr (4, [.ref aT, .ref aL, .ref aC, .int (nI nm), .ref aN, .ref aY, .ref aA, .int (nI fa), .int (nI ac), .ref aO, .ref aK, .ref aG, .ref aW, .long sd])) :: (aL, .inr (0, [.ref al0, .ref al1, .ref al2, .int (nI na)])) :: (al0, .inl (cI, 5, .inl (fl0))) :: (al1, .inl (cI, 5, .inl (fl1))) :: (al2, .inl (cI, 5, .inl (fl2))) :: (aC, .inl (cI, 5, .inl (fC))) :: (aS, .inr (2, [.ref as0, .ref as1, .ref as2, .int hS, .int bS])) :: (as0, .inl (cI, 5, .inl (fs0))) :: (as1, .inl (cI, 5, .inl (fs1))) :: (as2, .inl (cI, 5, .inl (fs2))) :: rest) := by
  refine MI.of [.ref aX, .ref aS, .int (nI k), .int wa, .null] (by decide) (Nat.le_of_ble_eq_true rfl) rfl ?_
  intro p e s m below meth c A C0 hr
  refine ww_aload_n C0 dX4_balkers_0 rfl ?_
  refine ww_aload_n C0 dX4_balkers_1 rfl ?_
  refine ww_iload_n C0 dX4_balkers_2 rfl ?_
  refine ww_iload_n C0 dX4_balkers_3 rfl ?_
  refine ww_callVi C0 (qc := (RX4, TX4, 14)) 0 4 (c_X4_forbidders l D cI cZ cQ hnm hna hk) kd_X4_forbidders kw_X4_131 km_X4_forbidders kl_X4_forbidders ki_X4 hd_X4_forbidders rfl rfl ⟨Nat.le_of_ble_eq_true rfl, Nat.le_of_ble_eq_true rfl, rfl, rfl⟩ (Nat.le_of_ble_eq_true rfl) dX4_balkers_4 rfl rfl rfl ⟨Nat.zero_le _, Nat.zero_le _⟩ ?_
  refine ww_istore (i := 4) C0 dX4_balkers_7 (Nat.le_of_ble_eq_true rfl) rfl ?_
  simp only [List.set_cons_zero, List.set_cons_succ]
  refine ww_iload C0 dX4_balkers_9 rfl ?_
  refine ww_iconst (v := (-1)) C0 dX4_balkers_11 rfl ?_
  refine ww_icmp_ne (tgt := 19) C0 dX4_balkers_12 (by decide) (fun h12 => ?_) (fun h12 => ?_)
  · skip
    refine ww_iload C0 dX4_balkers_19 rfl ?_
    refine ww_aload_n C0 dX4_balkers_21 rfl ?_
    refine ww_aload_n C0 dX4_balkers_22 rfl ?_
    refine ww_iload_n C0 dX4_balkers_23 rfl ?_
    refine ww_callVi C0 (qc := (RX4, TX4, 14)) 0 4 (c_X4_known l D cI cZ cQ hnm hna hk) kd_X4_known kw_X4_123 km_X4_known kl_X4_known ki_X4 hd_X4_known rfl rfl ⟨Nat.le_of_ble_eq_true rfl, Nat.le_of_ble_eq_true rfl, rfl, rfl⟩ (Nat.le_of_ble_eq_true rfl) dX4_balkers_24 rfl rfl rfl ⟨Nat.zero_le _, Nat.zero_le _⟩ ?_
    refine ww_iand C0 dX4_balkers_27 ?_
    exact ww_iret C0 hr dX4_balkers_28 (by simp [sBalk, *]) (by rfl)
  · skip
    refine ww_iconst (v := (0)) C0 dX4_balkers_15 rfl ?_
    refine ww_goto (tgt := 28) C0 dX4_balkers_16 (by decide) ?_
    exact ww_iret C0 hr dX4_balkers_28 (by simp [sBalk, *]) (by rfl)

set_option maxHeartbeats 4000000 in
set_option maxRecDepth 100000 in
theorem c_X4_wouldGo (l : Launch) (D : va_G) (cI cZ cQ : ClassId) {aX aT aL aC aN aY aA aO aK aG aW al0 al1 al2 aS as0 as1 as2 : Nat} {nm fa ac na : Nat} {hS bS : Int32} {sd : Int64} {fl0 fl1 fl2 fC fs0 fs1 fs2 : Nat → Int32} {rest : va_W} {k : Nat} {wa : Int32} (hnm : nm ≤ 5) (hna : na ≤ 5) (hk : k < nm) : MI l D [(cI, .int), (cZ, .boolean), (cQ, .object "MulesRemember$State")] yX4_wouldGo cX4_wouldGo 5 .boolean ({ frames := 4, cells := 0, slots := 0, locals := 102 } : Room) [.ref aX, .ref aS, .int (nI k), .int wa] ((aX, .inr (4, [.ref aT, .ref aL, .ref aC, .int (nI nm), .ref aN, .ref aY, .ref aA, .int (nI fa), .int (nI ac), .ref aO, .ref aK, .ref aG, .ref aW, .long sd])) :: (aL, .inr (0, [.ref al0, .ref al1, .ref al2, .int (nI na)])) :: (al0, .inl (cI, 5, .inl (fl0))) :: (al1, .inl (cI, 5, .inl (fl1))) :: (al2, .inl (cI, 5, .inl (fl2))) :: (aC, .inl (cI, 5, .inl (fC))) :: (aS, .inr (2, [.ref as0, .ref as1, .ref as2, .int hS, .int bS])) :: (as0, .inl (cI, 5, .inl (fs0))) :: (as1, .inl (cI, 5, .inl (fs1))) :: (as2, .inl (cI, 5, .inl (fs2))) :: rest) (bI (sGoes (sFF nm na fl0 fl1 fl2 fC fs0 k (fs0 k) wa hS) (sKnown na (fs1 k) (fs2 k)))) ((aX, .inr (4, [.ref aT, .ref aL, .ref aC, .int (nI nm), .ref aN, .ref aY, .ref aA, .int (nI fa), .int (nI ac), .ref aO, .ref aK, .ref aG, .ref aW, .long sd])) :: (aL, .inr (0, [.ref al0, .ref al1, .ref al2, .int (nI na)])) :: (al0, .inl (cI, 5, .inl (fl0))) :: (al1, .inl (cI, 5, .inl (fl1))) :: (al2, .inl (cI, 5, .inl (fl2))) :: (aC, .inl (cI, 5, .inl (fC))) :: (aS, .inr (2, [.ref as0, .ref as1, .ref as2, .int hS, .int bS])) :: (as0, .inl (cI, 5, .inl (fs0))) :: (as1, .inl (cI, 5, .inl (fs1))) :: (as2, .inl (cI, 5, .inl (fs2))) :: rest) := by
  refine MI.of [.ref aX, .ref aS, .int (nI k), .int wa, .null] (by decide) (Nat.le_of_ble_eq_true rfl) rfl ?_
  intro p e s m below meth c A C0 hr
  refine ww_aload_n C0 dX4_wouldGo_0 rfl ?_
  refine ww_aload_n C0 dX4_wouldGo_1 rfl ?_
  refine ww_iload_n C0 dX4_wouldGo_2 rfl ?_
  refine ww_iload_n C0 dX4_wouldGo_3 rfl ?_
  refine ww_callVi C0 (qc := (RX4, TX4, 14)) 0 4 (c_X4_forbidders l D cI cZ cQ hnm hna hk) kd_X4_forbidders kw_X4_131 km_X4_forbidders kl_X4_forbidders ki_X4 hd_X4_forbidders rfl rfl ⟨Nat.le_of_ble_eq_true rfl, Nat.le_of_ble_eq_true rfl, rfl, rfl⟩ (Nat.le_of_ble_eq_true rfl) dX4_wouldGo_4 rfl rfl rfl ⟨Nat.zero_le _, Nat.zero_le _⟩ ?_
  refine ww_istore (i := 4) C0 dX4_wouldGo_7 (Nat.le_of_ble_eq_true rfl) rfl ?_
  simp only [List.set_cons_zero, List.set_cons_succ]
  refine ww_iload C0 dX4_wouldGo_9 rfl ?_
  refine ww_iconst (v := (-1)) C0 dX4_wouldGo_11 rfl ?_
  refine ww_icmp_eq (tgt := 31) C0 dX4_wouldGo_12 (by decide) (fun h12 => ?_) (fun h12 => ?_)
  · skip
    refine ww_iconst (v := (0)) C0 dX4_wouldGo_31 rfl ?_
    exact ww_zret C0 hr dX4_wouldGo_32 (by simp [sGoes, bI, *]) (by rfl)
  · skip
    refine ww_iload C0 dX4_wouldGo_15 rfl ?_
    refine ww_aload_n C0 dX4_wouldGo_17 rfl ?_
    refine ww_aload_n C0 dX4_wouldGo_18 rfl ?_
    refine ww_iload_n C0 dX4_wouldGo_19 rfl ?_
    refine ww_callVi C0 (qc := (RX4, TX4, 14)) 0 4 (c_X4_known l D cI cZ cQ hnm hna hk) kd_X4_known kw_X4_123 km_X4_known kl_X4_known ki_X4 hd_X4_known rfl rfl ⟨Nat.le_of_ble_eq_true rfl, Nat.le_of_ble_eq_true rfl, rfl, rfl⟩ (Nat.le_of_ble_eq_true rfl) dX4_wouldGo_20 rfl rfl rfl ⟨Nat.zero_le _, Nat.zero_le _⟩ ?_
    refine ww_iand C0 dX4_wouldGo_23 ?_
    refine ww_if_ne (tgt := 31) C0 dX4_wouldGo_24 (by decide) (fun h24 => ?_) (fun h24 => ?_)
    · skip
      refine ww_iconst (v := (0)) C0 dX4_wouldGo_31 rfl ?_
      exact ww_zret C0 hr dX4_wouldGo_32 (by simp [sGoes, bI, *]) (by rfl)
    · skip
      refine ww_iconst (v := (1)) C0 dX4_wouldGo_27 rfl ?_
      refine ww_goto (tgt := 32) C0 dX4_wouldGo_28 (by decide) ?_
      exact ww_zret C0 hr dX4_wouldGo_32 (by simp [sGoes, bI, *]) (by rfl)

set_option maxHeartbeats 4000000 in
set_option maxRecDepth 100000 in
theorem c_X4_wouldGo_b (l : Launch) (D : va_G) (cI cZ cQ : ClassId) {aX aT aL aC aN aY aA aO aK aG aW : Nat} {nm fa ac : Nat} {sd : Int64} {rest : va_W} {aS : Nat} {m wa : Int32} (hnm : nm ≤ 5) (hm : isN nm m = false) : MI l D [(cI, .int), (cZ, .boolean), (cQ, .object "MulesRemember$State")] yX4_wouldGo cX4_wouldGo 5 .boolean ({ frames := 4, cells := 0, slots := 0, locals := 102 } : Room) [.ref aX, .ref aS, .int m, .int wa] ((aX, .inr (4, [.ref aT, .ref aL, .ref aC, .int (nI nm), .ref aN, .ref aY, .ref aA, .int (nI fa), .int (nI ac), .ref aO, .ref aK, .ref aG, .ref aW, .long sd])) :: rest) (bI false) ((aX, .inr (4, [.ref aT, .ref aL, .ref aC, .int (nI nm), .ref aN, .ref aY, .ref aA, .int (nI fa), .int (nI ac), .ref aO, .ref aK, .ref aG, .ref aW, .long sd])) :: rest) := by
  refine MI.of [.ref aX, .ref aS, .int m, .int wa, .null] (by decide) (Nat.le_of_ble_eq_true rfl) rfl ?_
  intro p e s m below meth c A C0 hr
  refine ww_aload_n C0 dX4_wouldGo_0 rfl ?_
  refine ww_aload_n C0 dX4_wouldGo_1 rfl ?_
  refine ww_iload_n C0 dX4_wouldGo_2 rfl ?_
  refine ww_iload_n C0 dX4_wouldGo_3 rfl ?_
  refine ww_callVi C0 (qc := (RX4, TX4, 14)) 0 4 (c_X4_forbidders_b l D cI cZ cQ hnm hm) kd_X4_forbidders kw_X4_131 km_X4_forbidders kl_X4_forbidders ki_X4 hd_X4_forbidders rfl rfl ⟨Nat.le_of_ble_eq_true rfl, Nat.le_of_ble_eq_true rfl, rfl, rfl⟩ (Nat.le_of_ble_eq_true rfl) dX4_wouldGo_4 rfl rfl rfl ⟨Nat.zero_le _, Nat.zero_le _⟩ ?_
  refine ww_istore (i := 4) C0 dX4_wouldGo_7 (Nat.le_of_ble_eq_true rfl) rfl ?_
  simp only [List.set_cons_zero, List.set_cons_succ]
  refine ww_iload C0 dX4_wouldGo_9 rfl ?_
  refine ww_iconst (v := (-1)) C0 dX4_wouldGo_11 rfl ?_
  refine ww_icmp_eq (tgt := 31) C0 dX4_wouldGo_12 (by decide) (fun h12 => ?_) (fun h12 => ?_)
  · skip
    refine ww_iconst (v := (0)) C0 dX4_wouldGo_31 rfl ?_
    exact ww_zret C0 hr dX4_wouldGo_32 (by rfl) (by rfl)
  · skip
    exact absurd rfl h12
end
