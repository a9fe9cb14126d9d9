section
-- ===== PART A: goes FIRST, ahead of the names: the tables' words, and 'selects' of the private methods out of them =====
/-- a private method of a class that the tables say can be made, by its rows of tables_1 -/
def lw_okq (q : MethodName × Nat) : Prop := (q.1.cls ≠ "java/lang/invoke/MethodHandle" ∧ q.1.cls ≠ "java/lang/invoke/VarHandle") ∧ Cond.instantiable q.1.cls q.2 ∈ tables_1 ∧ Cond.privateMethod q.1 ∈ tables_1 ∧ Cond.instanceMethod q.1 ∈ tables_1
theorem lw_p0 : lw_okq (⟨"MulesRemember$Text", "put", "(I)Z"⟩, 2) := ⟨⟨by decide +kernel, by decide +kernel⟩, List.mem_of_getElem? (i := 17) (by decide +kernel), List.mem_of_getElem? (i := 157) (by decide +kernel), List.mem_of_getElem? (i := 158) (by decide +kernel)⟩
theorem lw_p1 : lw_okq (⟨"MulesRemember$Text", "firstFault", "()I"⟩, 2) := ⟨⟨by decide +kernel, by decide +kernel⟩, List.mem_of_getElem? (i := 17) (by decide +kernel), List.mem_of_getElem? (i := 169) (by decide +kernel), List.mem_of_getElem? (i := 170) (by decide +kernel)⟩
theorem lw_p2 : lw_okq (⟨"MulesRemember$Text", "letter", "(I)I"⟩, 2) := ⟨⟨by decide +kernel, by decide +kernel⟩, List.mem_of_getElem? (i := 17) (by decide +kernel), List.mem_of_getElem? (i := 173) (by decide +kernel), List.mem_of_getElem? (i := 174) (by decide +kernel)⟩
theorem lw_p3 : lw_okq (⟨"MulesRemember", "readPart", "(I)V"⟩, 14) := ⟨⟨by decide +kernel, by decide +kernel⟩, List.mem_of_getElem? (i := 9) (by decide +kernel), List.mem_of_getElem? (i := 184) (by decide +kernel), List.mem_of_getElem? (i := 185) (by decide +kernel)⟩
theorem lw_p4 : lw_okq (⟨"MulesRemember$Text", "figure", "(I)I"⟩, 2) := ⟨⟨by decide +kernel, by decide +kernel⟩, List.mem_of_getElem? (i := 17) (by decide +kernel), List.mem_of_getElem? (i := 188) (by decide +kernel), List.mem_of_getElem? (i := 189) (by decide +kernel)⟩
theorem lw_p5 : lw_okq (⟨"MulesRemember$Law", "add", "(III)V"⟩, 4) := ⟨⟨by decide +kernel, by decide +kernel⟩, List.mem_of_getElem? (i := 32) (by decide +kernel), List.mem_of_getElem? (i := 193) (by decide +kernel), List.mem_of_getElem? (i := 194) (by decide +kernel)⟩
theorem lw_p6 : lw_okq (⟨"MulesRemember", "isArticle", "(I)Z"⟩, 14) := ⟨⟨by decide +kernel, by decide +kernel⟩, List.mem_of_getElem? (i := 9) (by decide +kernel), List.mem_of_getElem? (i := 205) (by decide +kernel), List.mem_of_getElem? (i := 206) (by decide +kernel)⟩
theorem lw_p7 : lw_okq (⟨"MulesRemember", "mulesThatKnow", "(I)I"⟩, 14) := ⟨⟨by decide +kernel, by decide +kernel⟩, List.mem_of_getElem? (i := 9) (by decide +kernel), List.mem_of_getElem? (i := 209) (by decide +kernel), List.mem_of_getElem? (i := 210) (by decide +kernel)⟩
theorem lw_p8 : lw_okq (⟨"MulesRemember", "known", "(LMulesRemember$State;I)I"⟩, 14) := ⟨⟨by decide +kernel, by decide +kernel⟩, List.mem_of_getElem? (i := 9) (by decide +kernel), List.mem_of_getElem? (i := 213) (by decide +kernel), List.mem_of_getElem? (i := 214) (by decide +kernel)⟩
theorem lw_p9 : lw_okq (⟨"MulesRemember", "isMule", "(I)Z"⟩, 14) := ⟨⟨by decide +kernel, by decide +kernel⟩, List.mem_of_getElem? (i := 9) (by decide +kernel), List.mem_of_getElem? (i := 217) (by decide +kernel), List.mem_of_getElem? (i := 218) (by decide +kernel)⟩
theorem lw_p10 : lw_okq (⟨"MulesRemember", "knownIfShown", "(II)I"⟩, 14) := ⟨⟨by decide +kernel, by decide +kernel⟩, List.mem_of_getElem? (i := 9) (by decide +kernel), List.mem_of_getElem? (i := 221) (by decide +kernel), List.mem_of_getElem? (i := 222) (by decide +kernel)⟩
theorem lw_p11 : lw_okq (⟨"MulesRemember$Law", "all", "()I"⟩, 4) := ⟨⟨by decide +kernel, by decide +kernel⟩, List.mem_of_getElem? (i := 32) (by decide +kernel), List.mem_of_getElem? (i := 225) (by decide +kernel), List.mem_of_getElem? (i := 226) (by decide +kernel)⟩
theorem lw_p12 : lw_okq (⟨"MulesRemember$Law", "last", "()I"⟩, 4) := ⟨⟨by decide +kernel, by decide +kernel⟩, List.mem_of_getElem? (i := 32) (by decide +kernel), List.mem_of_getElem? (i := 229) (by decide +kernel), List.mem_of_getElem? (i := 230) (by decide +kernel)⟩
theorem lw_p13 : lw_okq (⟨"MulesRemember", "stepRefusal", "(II)I"⟩, 14) := ⟨⟨by decide +kernel, by decide +kernel⟩, List.mem_of_getElem? (i := 9) (by decide +kernel), List.mem_of_getElem? (i := 241) (by decide +kernel), List.mem_of_getElem? (i := 242) (by decide +kernel)⟩
theorem lw_p14 : lw_okq (⟨"MulesRemember", "forbidders", "(LMulesRemember$State;II)I"⟩, 14) := ⟨⟨by decide +kernel, by decide +kernel⟩, List.mem_of_getElem? (i := 9) (by decide +kernel), List.mem_of_getElem? (i := 254) (by decide +kernel), List.mem_of_getElem? (i := 255) (by decide +kernel)⟩
theorem lw_p15 : lw_okq (⟨"MulesRemember", "forbiddersFrom", "(LMulesRemember$State;IIII)I"⟩, 14) := ⟨⟨by decide +kernel, by decide +kernel⟩, List.mem_of_getElem? (i := 9) (by decide +kernel), List.mem_of_getElem? (i := 258) (by decide +kernel), List.mem_of_getElem? (i := 259) (by decide +kernel)⟩
def lw_privs_1 : List (MethodName × Nat) := [(⟨"MulesRemember$Text", "put", "(I)Z"⟩, 2), (⟨"MulesRemember$Text", "firstFault", "()I"⟩, 2), (⟨"MulesRemember$Text", "letter", "(I)I"⟩, 2), (⟨"MulesRemember", "readPart", "(I)V"⟩, 14), (⟨"MulesRemember$Text", "figure", "(I)I"⟩, 2), (⟨"MulesRemember$Law", "add", "(III)V"⟩, 4), (⟨"MulesRemember", "isArticle", "(I)Z"⟩, 14), (⟨"MulesRemember", "mulesThatKnow", "(I)I"⟩, 14), (⟨"MulesRemember", "known", "(LMulesRemember$State;I)I"⟩, 14), (⟨"MulesRemember", "isMule", "(I)Z"⟩, 14), (⟨"MulesRemember", "knownIfShown", "(II)I"⟩, 14), (⟨"MulesRemember$Law", "all", "()I"⟩, 4), (⟨"MulesRemember$Law", "last", "()I"⟩, 4), (⟨"MulesRemember", "stepRefusal", "(II)I"⟩, 14), (⟨"MulesRemember", "forbidders", "(LMulesRemember$State;II)I"⟩, 14), (⟨"MulesRemember", "forbiddersFrom", "(LMulesRemember$State;IIII)I"⟩, 14)]
theorem lw_r1 : ∀ q ∈ lw_privs_1, lw_okq q := List.forall_mem_cons.mpr ⟨lw_p0, List.forall_mem_cons.mpr ⟨lw_p1, List.forall_mem_cons.mpr ⟨lw_p2, List.forall_mem_cons.mpr ⟨lw_p3, List.forall_mem_cons.mpr ⟨lw_p4, List.forall_mem_cons.mpr ⟨lw_p5, List.forall_mem_cons.mpr ⟨lw_p6, List.forall_mem_cons.mpr ⟨lw_p7, List.forall_mem_cons.mpr ⟨lw_p8, List.forall_mem_cons.mpr ⟨lw_p9, List.forall_mem_cons.mpr ⟨lw_p10, List.forall_mem_cons.mpr ⟨lw_p11, List.forall_mem_cons.mpr ⟨lw_p12, List.forall_mem_cons.mpr ⟨lw_p13, List.forall_mem_cons.mpr ⟨lw_p14, List.forall_mem_cons.mpr ⟨lw_p15, fun _ h => absurd h List.not_mem_nil⟩⟩⟩⟩⟩⟩⟩⟩⟩⟩⟩⟩⟩⟩⟩⟩
theorem lw_p16 : lw_okq (⟨"MulesRemember", "othersFromNorthOf", "(LMulesRemember$State;II)I"⟩, 14) := ⟨⟨by decide +kernel, by decide +kernel⟩, List.mem_of_getElem? (i := 9) (by decide +kernel), List.mem_of_getElem? (i := 262) (by decide +kernel), List.mem_of_getElem? (i := 263) (by decide +kernel)⟩
theorem lw_p17 : lw_okq (⟨"MulesRemember$Law", "forbids", "(IIIIII)Z"⟩, 4) := ⟨⟨by decide +kernel, by decide +kernel⟩, List.mem_of_getElem? (i := 32) (by decide +kernel), List.mem_of_getElem? (i := 266) (by decide +kernel), List.mem_of_getElem? (i := 267) (by decide +kernel)⟩
theorem lw_p18 : lw_okq (⟨"MulesRemember", "balkers", "(LMulesRemember$State;II)I"⟩, 14) := ⟨⟨by decide +kernel, by decide +kernel⟩, List.mem_of_getElem? (i := 9) (by decide +kernel), List.mem_of_getElem? (i := 277) (by decide +kernel), List.mem_of_getElem? (i := 278) (by decide +kernel)⟩
theorem lw_p19 : lw_okq (⟨"MulesRemember", "wouldGo", "(LMulesRemember$State;II)Z"⟩, 14) := ⟨⟨by decide +kernel, by decide +kernel⟩, List.mem_of_getElem? (i := 9) (by decide +kernel), List.mem_of_getElem? (i := 288) (by decide +kernel), List.mem_of_getElem? (i := 289) (by decide +kernel)⟩
theorem lw_p20 : lw_okq (⟨"MulesRemember", "rememberAct", "()V"⟩, 14) := ⟨⟨by decide +kernel, by decide +kernel⟩, List.mem_of_getElem? (i := 9) (by decide +kernel), List.mem_of_getElem? (i := 292) (by decide +kernel), List.mem_of_getElem? (i := 293) (by decide +kernel)⟩
theorem lw_p21 : lw_okq (⟨"MulesRemember", "go", "(LMulesRemember$State;II)V"⟩, 14) := ⟨⟨by decide +kernel, by decide +kernel⟩, List.mem_of_getElem? (i := 9) (by decide +kernel), List.mem_of_getElem? (i := 299) (by decide +kernel), List.mem_of_getElem? (i := 300) (by decide +kernel)⟩
theorem lw_p22 : lw_okq (⟨"MulesRemember", "spread", "(IIII)I"⟩, 14) := ⟨⟨by decide +kernel, by decide +kernel⟩, List.mem_of_getElem? (i := 9) (by decide +kernel), List.mem_of_getElem? (i := 333) (by decide +kernel), List.mem_of_getElem? (i := 334) (by decide +kernel)⟩
theorem lw_p23 : lw_okq (⟨"MulesRemember", "keepsAllIfShown", "(II)Z"⟩, 14) := ⟨⟨by decide +kernel, by decide +kernel⟩, List.mem_of_getElem? (i := 9) (by decide +kernel), List.mem_of_getElem? (i := 345) (by decide +kernel), List.mem_of_getElem? (i := 346) (by decide +kernel)⟩
theorem lw_p24 : lw_okq (⟨"MulesRemember", "doneWithoutFault", "(LMulesRemember$State;II)Z"⟩, 14) := ⟨⟨by decide +kernel, by decide +kernel⟩, List.mem_of_getElem? (i := 9) (by decide +kernel), List.mem_of_getElem? (i := 357) (by decide +kernel), List.mem_of_getElem? (i := 358) (by decide +kernel)⟩
theorem lw_p25 : lw_okq (⟨"MulesRemember$Sightings", "add", "(IIIII)Z"⟩, 6) := ⟨⟨by decide +kernel, by decide +kernel⟩, List.mem_of_getElem? (i := 83) (by decide +kernel), List.mem_of_getElem? (i := 375) (by decide +kernel), List.mem_of_getElem? (i := 376) (by decide +kernel)⟩
theorem lw_p26 : lw_okq (⟨"MulesRemember$Sightings", "agreeWith", "(III)Z"⟩, 6) := ⟨⟨by decide +kernel, by decide +kernel⟩, List.mem_of_getElem? (i := 83) (by decide +kernel), List.mem_of_getElem? (i := 387) (by decide +kernel), List.mem_of_getElem? (i := 388) (by decide +kernel)⟩
theorem lw_p27 : lw_okq (⟨"MulesRemember", "worthOfString", "()I"⟩, 14) := ⟨⟨by decide +kernel, by decide +kernel⟩, List.mem_of_getElem? (i := 9) (by decide +kernel), List.mem_of_getElem? (i := 396) (by decide +kernel), List.mem_of_getElem? (i := 397) (by decide +kernel)⟩
theorem lw_p28 : lw_okq (⟨"MulesRemember", "tenthsToBalk", "(III)I"⟩, 14) := ⟨⟨by decide +kernel, by decide +kernel⟩, List.mem_of_getElem? (i := 9) (by decide +kernel), List.mem_of_getElem? (i := 410) (by decide +kernel), List.mem_of_getElem? (i := 411) (by decide +kernel)⟩
theorem lw_p29 : lw_okq (⟨"MulesRemember", "tallyMule", "(I)V"⟩, 14) := ⟨⟨by decide +kernel, by decide +kernel⟩, List.mem_of_getElem? (i := 9) (by decide +kernel), List.mem_of_getElem? (i := 414) (by decide +kernel), List.mem_of_getElem? (i := 415) (by decide +kernel)⟩
theorem lw_p30 : lw_okq (⟨"MulesRemember", "liveThrough", "(LMulesRemember$State;II)V"⟩, 14) := ⟨⟨by decide +kernel, by decide +kernel⟩, List.mem_of_getElem? (i := 9) (by decide +kernel), List.mem_of_getElem? (i := 429) (by decide +kernel), List.mem_of_getElem? (i := 430) (by decide +kernel)⟩
theorem lw_p31 : lw_okq (⟨"MulesRememberModel", "readTreaty", "()I"⟩, 33) := ⟨⟨by decide +kernel, by decide +kernel⟩, List.mem_of_getElem? (i := 444) (by decide +kernel), List.mem_of_getElem? (i := 566) (by decide +kernel), List.mem_of_getElem? (i := 567) (by decide +kernel)⟩
def lw_privs_2 : List (MethodName × Nat) := [(⟨"MulesRemember", "othersFromNorthOf", "(LMulesRemember$State;II)I"⟩, 14), (⟨"MulesRemember$Law", "forbids", "(IIIIII)Z"⟩, 4), (⟨"MulesRemember", "balkers", "(LMulesRemember$State;II)I"⟩, 14), (⟨"MulesRemember", "wouldGo", "(LMulesRemember$State;II)Z"⟩, 14), (⟨"MulesRemember", "rememberAct", "()V"⟩, 14), (⟨"MulesRemember", "go", "(LMulesRemember$State;II)V"⟩, 14), (⟨"MulesRemember", "spread", "(IIII)I"⟩, 14), (⟨"MulesRemember", "keepsAllIfShown", "(II)Z"⟩, 14), (⟨"MulesRemember", "doneWithoutFault", "(LMulesRemember$State;II)Z"⟩, 14), (⟨"MulesRemember$Sightings", "add", "(IIIII)Z"⟩, 6), (⟨"MulesRemember$Sightings", "agreeWith", "(III)Z"⟩, 6), (⟨"MulesRemember", "worthOfString", "()I"⟩, 14), (⟨"MulesRemember", "tenthsToBalk", "(III)I"⟩, 14), (⟨"MulesRemember", "tallyMule", "(I)V"⟩, 14), (⟨"MulesRemember", "liveThrough", "(LMulesRemember$State;II)V"⟩, 14), (⟨"MulesRememberModel", "readTreaty", "()I"⟩, 33)]
theorem lw_r2 : ∀ q ∈ lw_privs_2, lw_okq q := List.forall_mem_cons.mpr ⟨lw_p16, List.forall_mem_cons.mpr ⟨lw_p17, List.forall_mem_cons.mpr ⟨lw_p18, List.forall_mem_cons.mpr ⟨lw_p19, List.forall_mem_cons.mpr ⟨lw_p20, List.forall_mem_cons.mpr ⟨lw_p21, List.forall_mem_cons.mpr ⟨lw_p22, List.forall_mem_cons.mpr ⟨lw_p23, List.forall_mem_cons.mpr ⟨lw_p24, List.forall_mem_cons.mpr ⟨lw_p25, List.forall_mem_cons.mpr ⟨lw_p26, List.forall_mem_cons.mpr ⟨lw_p27, List.forall_mem_cons.mpr ⟨lw_p28, List.forall_mem_cons.mpr ⟨lw_p29, List.forall_mem_cons.mpr ⟨lw_p30, List.forall_mem_cons.mpr ⟨lw_p31, fun _ h => absurd h List.not_mem_nil⟩⟩⟩⟩⟩⟩⟩⟩⟩⟩⟩⟩⟩⟩⟩⟩
theorem lw_p32 : lw_okq (⟨"MulesRememberModel", "readPart", "()Z"⟩, 33) := ⟨⟨by decide +kernel, by decide +kernel⟩, List.mem_of_getElem? (i := 444) (by decide +kernel), List.mem_of_getElem? (i := 570) (by decide +kernel), List.mem_of_getElem? (i := 571) (by decide +kernel)⟩
theorem lw_p33 : lw_okq (⟨"MulesRememberModel", "readOneArticle", "()Z"⟩, 33) := ⟨⟨by decide +kernel, by decide +kernel⟩, List.mem_of_getElem? (i := 444) (by decide +kernel), List.mem_of_getElem? (i := 574) (by decide +kernel), List.mem_of_getElem? (i := 575) (by decide +kernel)⟩
theorem lw_p34 : lw_okq (⟨"MulesRememberModel", "figure", "(I)I"⟩, 33) := ⟨⟨by decide +kernel, by decide +kernel⟩, List.mem_of_getElem? (i := 444) (by decide +kernel), List.mem_of_getElem? (i := 578) (by decide +kernel), List.mem_of_getElem? (i := 579) (by decide +kernel)⟩
theorem lw_p35 : lw_okq (⟨"MulesRememberModel", "readOneMule", "()Z"⟩, 33) := ⟨⟨by decide +kernel, by decide +kernel⟩, List.mem_of_getElem? (i := 444) (by decide +kernel), List.mem_of_getElem? (i := 582) (by decide +kernel), List.mem_of_getElem? (i := 583) (by decide +kernel)⟩
theorem lw_p36 : lw_okq (⟨"MulesRememberModel", "noArticle", "(I)Z"⟩, 33) := ⟨⟨by decide +kernel, by decide +kernel⟩, List.mem_of_getElem? (i := 444) (by decide +kernel), List.mem_of_getElem? (i := 598) (by decide +kernel), List.mem_of_getElem? (i := 599) (by decide +kernel)⟩
theorem lw_p37 : lw_okq (⟨"MulesRememberModel", "knowers", "(I)I"⟩, 33) := ⟨⟨by decide +kernel, by decide +kernel⟩, List.mem_of_getElem? (i := 444) (by decide +kernel), List.mem_of_getElem? (i := 602) (by decide +kernel), List.mem_of_getElem? (i := 603) (by decide +kernel)⟩
theorem lw_p38 : lw_okq (⟨"MulesRememberModel", "knows", "([II)I"⟩, 33) := ⟨⟨by decide +kernel, by decide +kernel⟩, List.mem_of_getElem? (i := 444) (by decide +kernel), List.mem_of_getElem? (i := 606) (by decide +kernel), List.mem_of_getElem? (i := 607) (by decide +kernel)⟩
theorem lw_p39 : lw_okq (⟨"MulesRememberModel", "noMule", "(I)Z"⟩, 33) := ⟨⟨by decide +kernel, by decide +kernel⟩, List.mem_of_getElem? (i := 444) (by decide +kernel), List.mem_of_getElem? (i := 617) (by decide +kernel), List.mem_of_getElem? (i := 618) (by decide +kernel)⟩
theorem lw_p40 : lw_okq (⟨"MulesRememberModel", "noStep", "(II)I"⟩, 33) := ⟨⟨by decide +kernel, by decide +kernel⟩, List.mem_of_getElem? (i := 444) (by decide +kernel), List.mem_of_getElem? (i := 625) (by decide +kernel), List.mem_of_getElem? (i := 626) (by decide +kernel)⟩
theorem lw_p41 : lw_okq (⟨"MulesRememberModel", "forbids", "([III)I"⟩, 33) := ⟨⟨by decide +kernel, by decide +kernel⟩, List.mem_of_getElem? (i := 444) (by decide +kernel), List.mem_of_getElem? (i := 633) (by decide +kernel), List.mem_of_getElem? (i := 634) (by decide +kernel)⟩
theorem lw_p42 : lw_okq (⟨"MulesRememberModel", "northern", "([III)I"⟩, 33) := ⟨⟨by decide +kernel, by decide +kernel⟩, List.mem_of_getElem? (i := 444) (by decide +kernel), List.mem_of_getElem? (i := 637) (by decide +kernel), List.mem_of_getElem? (i := 638) (by decide +kernel)⟩
theorem lw_p43 : lw_okq (⟨"MulesRememberModel", "isBalking", "([III)Z"⟩, 33) := ⟨⟨by decide +kernel, by decide +kernel⟩, List.mem_of_getElem? (i := 444) (by decide +kernel), List.mem_of_getElem? (i := 655) (by decide +kernel), List.mem_of_getElem? (i := 656) (by decide +kernel)⟩
theorem lw_p44 : lw_okq (⟨"MulesRememberModel", "note", "()V"⟩, 33) := ⟨⟨by decide +kernel, by decide +kernel⟩, List.mem_of_getElem? (i := 444) (by decide +kernel), List.mem_of_getElem? (i := 659) (by decide +kernel), List.mem_of_getElem? (i := 660) (by decide +kernel)⟩
theorem lw_p45 : lw_okq (⟨"MulesRememberModel", "go", "([III)V"⟩, 33) := ⟨⟨by decide +kernel, by decide +kernel⟩, List.mem_of_getElem? (i := 444) (by decide +kernel), List.mem_of_getElem? (i := 663) (by decide +kernel), List.mem_of_getElem? (i := 664) (by decide +kernel)⟩
theorem lw_p46 : lw_okq (⟨"MulesRememberModel", "layWays", "(IZ)V"⟩, 33) := ⟨⟨by decide +kernel, by decide +kernel⟩, List.mem_of_getElem? (i := 444) (by decide +kernel), List.mem_of_getElem? (i := 694) (by decide +kernel), List.mem_of_getElem? (i := 695) (by decide +kernel)⟩
theorem lw_p47 : lw_okq (⟨"MulesRememberModel", "begin", "()V"⟩, 33) := ⟨⟨by decide +kernel, by decide +kernel⟩, List.mem_of_getElem? (i := 444) (by decide +kernel), List.mem_of_getElem? (i := 698) (by decide +kernel), List.mem_of_getElem? (i := 699) (by decide +kernel)⟩
def lw_privs_3 : List (MethodName × Nat) := [(⟨"MulesRememberModel", "readPart", "()Z"⟩, 33), (⟨"MulesRememberModel", "readOneArticle", "()Z"⟩, 33), (⟨"MulesRememberModel", "figure", "(I)I"⟩, 33), (⟨"MulesRememberModel", "readOneMule", "()Z"⟩, 33), (⟨"MulesRememberModel", "noArticle", "(I)Z"⟩, 33), (⟨"MulesRememberModel", "knowers", "(I)I"⟩, 33), (⟨"MulesRememberModel", "knows", "([II)I"⟩, 33), (⟨"MulesRememberModel", "noMule", "(I)Z"⟩, 33), (⟨"MulesRememberModel", "noStep", "(II)I"⟩, 33), (⟨"MulesRememberModel", "forbids", "([III)I"⟩, 33), (⟨"MulesRememberModel", "northern", "([III)I"⟩, 33), (⟨"MulesRememberModel", "isBalking", "([III)Z"⟩, 33), (⟨"MulesRememberModel", "note", "()V"⟩, 33), (⟨"MulesRememberModel", "go", "([III)V"⟩, 33), (⟨"MulesRememberModel", "layWays", "(IZ)V"⟩, 33), (⟨"MulesRememberModel", "begin", "()V"⟩, 33)]
theorem lw_r3 : ∀ q ∈ lw_privs_3, lw_okq q := List.forall_mem_cons.mpr ⟨lw_p32, List.forall_mem_cons.mpr ⟨lw_p33, List.forall_mem_cons.mpr ⟨lw_p34, List.forall_mem_cons.mpr ⟨lw_p35, List.forall_mem_cons.mpr ⟨lw_p36, List.forall_mem_cons.mpr ⟨lw_p37, List.forall_mem_cons.mpr ⟨lw_p38, List.forall_mem_cons.mpr ⟨lw_p39, List.forall_mem_cons.mpr ⟨lw_p40, List.forall_mem_cons.mpr ⟨lw_p41, List.forall_mem_cons.mpr ⟨lw_p42, List.forall_mem_cons.mpr ⟨lw_p43, List.forall_mem_cons.mpr ⟨lw_p44, List.forall_mem_cons.mpr ⟨lw_p45, List.forall_mem_cons.mpr ⟨lw_p46, List.forall_mem_cons.mpr ⟨lw_p47, fun _ h => absurd h List.not_mem_nil⟩⟩⟩⟩⟩⟩⟩⟩⟩⟩⟩⟩⟩⟩⟩⟩
theorem lw_p48 : lw_okq (⟨"MulesRememberModel", "holdsFast", "(I)Z"⟩, 33) := ⟨⟨by decide +kernel, by decide +kernel⟩, List.mem_of_getElem? (i := 444) (by decide +kernel), List.mem_of_getElem? (i := 710) (by decide +kernel), List.mem_of_getElem? (i := 711) (by decide +kernel)⟩
theorem lw_p49 : lw_okq (⟨"MulesRememberModel", "does", "(I)Z"⟩, 33) := ⟨⟨by decide +kernel, by decide +kernel⟩, List.mem_of_getElem? (i := 444) (by decide +kernel), List.mem_of_getElem? (i := 726) (by decide +kernel), List.mem_of_getElem? (i := 727) (by decide +kernel)⟩
theorem lw_p50 : lw_okq (⟨"MulesRememberModel", "barredBy", "(I)I"⟩, 33) := ⟨⟨by decide +kernel, by decide +kernel⟩, List.mem_of_getElem? (i := 444) (by decide +kernel), List.mem_of_getElem? (i := 735) (by decide +kernel), List.mem_of_getElem? (i := 736) (by decide +kernel)⟩
theorem lw_p51 : lw_okq (⟨"MulesRememberModel", "findMay", "(I)V"⟩, 33) := ⟨⟨by decide +kernel, by decide +kernel⟩, List.mem_of_getElem? (i := 444) (by decide +kernel), List.mem_of_getElem? (i := 761) (by decide +kernel), List.mem_of_getElem? (i := 762) (by decide +kernel)⟩
theorem lw_p52 : lw_okq (⟨"MulesRememberModel", "sent", "()I"⟩, 33) := ⟨⟨by decide +kernel, by decide +kernel⟩, List.mem_of_getElem? (i := 444) (by decide +kernel), List.mem_of_getElem? (i := 769) (by decide +kernel), List.mem_of_getElem? (i := 770) (by decide +kernel)⟩
theorem lw_p53 : lw_okq (⟨"MulesRememberModel", "balkers", "(II)I"⟩, 33) := ⟨⟨by decide +kernel, by decide +kernel⟩, List.mem_of_getElem? (i := 444) (by decide +kernel), List.mem_of_getElem? (i := 781) (by decide +kernel), List.mem_of_getElem? (i := 782) (by decide +kernel)⟩
def lw_privs_4 : List (MethodName × Nat) := [(⟨"MulesRememberModel", "holdsFast", "(I)Z"⟩, 33), (⟨"MulesRememberModel", "does", "(I)Z"⟩, 33), (⟨"MulesRememberModel", "barredBy", "(I)I"⟩, 33), (⟨"MulesRememberModel", "findMay", "(I)V"⟩, 33), (⟨"MulesRememberModel", "sent", "()I"⟩, 33), (⟨"MulesRememberModel", "balkers", "(II)I"⟩, 33)]
theorem lw_r4 : ∀ q ∈ lw_privs_4, lw_okq q := List.forall_mem_cons.mpr ⟨lw_p48, List.forall_mem_cons.mpr ⟨lw_p49, List.forall_mem_cons.mpr ⟨lw_p50, List.forall_mem_cons.mpr ⟨lw_p51, List.forall_mem_cons.mpr ⟨lw_p52, List.forall_mem_cons.mpr ⟨lw_p53, fun _ h => absurd h List.not_mem_nil⟩⟩⟩⟩⟩⟩
def lw_privs : List (MethodName × Nat) := lw_privs_1 ++ (lw_privs_2 ++ (lw_privs_3 ++ (lw_privs_4)))
def lw_tbl : List Cond := k2_sels lw_privs ++ tables_1
theorem lw_privs_ok : ∀ q ∈ lw_privs, lw_okq q := by
  show ∀ q ∈ lw_privs_1 ++ (lw_privs_2 ++ (lw_privs_3 ++ (lw_privs_4))), lw_okq q
  exact List.forall_mem_append.mpr ⟨lw_r1, List.forall_mem_append.mpr ⟨lw_r2, List.forall_mem_append.mpr ⟨lw_r3, lw_r4⟩⟩⟩
-- ===== end of PART A; then your names; then what follows =====
end
section
def RX0 : String := "MulesRemember$Law"
def TX0 : u_T := fun k => match k with
  | 0 => ("MulesRemember$Law", "stone", "[I", true)
  | 1 => ("MulesRemember$Law", "sort", "[I", true)
  | 2 => ("MulesRemember$Law", "value", "[I", true)
  | _ => ("MulesRemember$Law", "count", "I", false)
def tyX0 : Nat → FieldType := fun k => match k with
  | 0 => .array .int
  | 1 => .array .int
  | 2 => .array .int
  | _ => .int
abbrev wsX00 : List Cond := u_ws RX0 TX0 4
theorem nmX0 : ∀ a, a < 4 → ∀ b, b < 4 → a ≠ b → (TX0 a).2.1 ≠ (TX0 b).2.1 := by decide +kernel
theorem tyX0_ok : ∀ k, k < 4 → parseFieldDescriptor (TX0 k).2.2.1 = some (tyX0 k) := by decide +kernel
abbrev cX0_init : ByteArray := prog_2_method_1_code
def yX0_init : MethodName := ⟨RX0, "<init>", "()V"⟩
abbrev cX0_add : ByteArray := prog_2_method_2_code
def yX0_add : MethodName := ⟨RX0, "add", "(III)V"⟩
abbrev cX0_all : ByteArray := prog_2_method_3_code
def yX0_all : MethodName := ⟨RX0, "all", "()I"⟩
abbrev cX0_last : ByteArray := prog_2_method_4_code
def yX0_last : MethodName := ⟨RX0, "last", "()I"⟩
abbrev cX0_forbids : ByteArray := prog_2_method_5_code
def yX0_forbids : MethodName := ⟨RX0, "forbids", "(IIIIII)Z"⟩
abbrev cX0_forbidsAlone : ByteArray := prog_2_method_6_code
def yX0_forbidsAlone : MethodName := ⟨RX0, "forbidsAlone", "(IIIII)Z"⟩
def RX1 : String := "MulesRemember$Sightings"
def TX1 : u_T := fun k => match k with
  | 0 => ("MulesRemember$Sightings", "stone", "[I", true)
  | 1 => ("MulesRemember$Sightings", "coat", "[I", true)
  | 2 => ("MulesRemember$Sightings", "hour", "[I", true)
  | 3 => ("MulesRemember$Sightings", "south", "[I", true)
  | 4 => ("MulesRemember$Sightings", "balked", "[I", true)
  | _ => ("MulesRemember$Sightings", "count", "I", false)
def tyX1 : Nat → FieldType := fun k => match k with
  | 0 => .array .int
  | 1 => .array .int
  | 2 => .array .int
  | 3 => .array .int
  | 4 => .array .int
  | _ => .int
abbrev wsX10 : List Cond := u_ws RX1 TX1 6
theorem nmX1 : ∀ a, a < 6 → ∀ b, b < 6 → a ≠ b → (TX1 a).2.1 ≠ (TX1 b).2.1 := by decide +kernel
theorem tyX1_ok : ∀ k, k < 6 → parseFieldDescriptor (TX1 k).2.2.1 = some (tyX1 k) := by decide +kernel
abbrev cX1_init : ByteArray := prog_3_method_1_code
def yX1_init : MethodName := ⟨RX1, "<init>", "()V"⟩
abbrev cX1_add : ByteArray := prog_3_method_2_code
def yX1_add : MethodName := ⟨RX1, "add", "(IIIII)Z"⟩
abbrev cX1_agreeWith : ByteArray := prog_3_method_3_code
def yX1_agreeWith : MethodName := ⟨RX1, "agreeWith", "(III)Z"⟩
def RX2 : String := "MulesRemember$State"
def TX2 : u_T := fun k => match k with
  | 0 => ("MulesRemember$State", "stone", "[I", true)
  | 1 => ("MulesRemember$State", "kind", "[I", true)
  | 2 => ("MulesRemember$State", "shown", "[I", true)
  | 3 => ("MulesRemember$State", "hour", "I", false)
  | _ => ("MulesRemember$State", "broken", "I", false)
def tyX2 : Nat → FieldType := fun k => match k with
  | 0 => .array .int
  | 1 => .array .int
  | 2 => .array .int
  | 3 => .int
  | _ => .int
abbrev wsX20 : List Cond := u_ws RX2 TX2 5
theorem nmX2 : ∀ a, a < 5 → ∀ b, b < 5 → a ≠ b → (TX2 a).2.1 ≠ (TX2 b).2.1 := by decide +kernel
theorem tyX2_ok : ∀ k, k < 5 → parseFieldDescriptor (TX2 k).2.2.1 = some (tyX2 k) := by decide +kernel
abbrev cX2_init : ByteArray := prog_4_method_1_code
def yX2_init : MethodName := ⟨RX2, "<init>", "()V"⟩
def RX3 : String := "MulesRemember$Text"
def TX3 : u_T := fun k => match k with
  | 0 => ("MulesRemember$Text", "letters", "[I", true)
  | _ => ("MulesRemember$Text", "length", "I", false)
def tyX3 : Nat → FieldType := fun k => match k with
  | 0 => .array .int
  | _ => .int
abbrev wsX30 : List Cond := u_ws RX3 TX3 2
theorem nmX3 : ∀ a, a < 2 → ∀ b, b < 2 → a ≠ b → (TX3 a).2.1 ≠ (TX3 b).2.1 := by decide +kernel
theorem tyX3_ok : ∀ k, k < 2 → parseFieldDescriptor (TX3 k).2.2.1 = some (tyX3 k) := by decide +kernel
abbrev cX3_init : ByteArray := prog_5_method_1_code
def yX3_init : MethodName := ⟨RX3, "<init>", "()V"⟩
abbrev cX3_put : ByteArray := prog_5_method_2_code
def yX3_put : MethodName := ⟨RX3, "put", "(I)Z"⟩
abbrev cX3_letter : ByteArray := prog_5_method_3_code
def yX3_letter : MethodName := ⟨RX3, "letter", "(I)I"⟩
abbrev cX3_figure : ByteArray := prog_5_method_4_code
def yX3_figure : MethodName := ⟨RX3, "figure", "(I)I"⟩
abbrev cX3_firstFault : ByteArray := prog_5_method_5_code
def yX3_firstFault : MethodName := ⟨RX3, "firstFault", "()I"⟩
abbrev cX3_figuresAt : ByteArray := prog_5_method_6_code
def yX3_figuresAt : MethodName := ⟨RX3, "figuresAt", "(II)I"⟩
def RX4 : String := "MulesRemember"
def TX4 : u_T := fun k => match k with
  | 0 => ("MulesRemember", "text", "LMulesRemember$Text;", true)
  | 1 => ("MulesRemember", "law", "LMulesRemember$Law;", true)
  | 2 => ("MulesRemember", "coats", "[I", true)
  | 3 => ("MulesRemember", "muleCount", "I", false)
  | 4 => ("MulesRemember", "now", "LMulesRemember$State;", true)
  | 5 => ("MulesRemember", "tried", "LMulesRemember$State;", true)
  | 6 => ("MulesRemember", "acts", "[LMulesRemember$State;", true)
  | 7 => ("MulesRemember", "firstAct", "I", false)
  | 8 => ("MulesRemember", "actCount", "I", false)
  | 9 => ("MulesRemember", "slots", "[LMulesRemember$State;", true)
  | 10 => ("MulesRemember", "kept", "[Z", true)
  | 11 => ("MulesRemember", "sightings", "LMulesRemember$Sightings;", true)
  | 12 => ("MulesRemember", "tally", "[I", true)
  | _ => ("MulesRemember", "theSeed", "J", false)
def tyX4 : Nat → FieldType := fun k => match k with
  | 0 => .object "MulesRemember$Text"
  | 1 => .object "MulesRemember$Law"
  | 2 => .array .int
  | 3 => .int
  | 4 => .object "MulesRemember$State"
  | 5 => .object "MulesRemember$State"
  | 6 => .array (.object "MulesRemember$State")
  | 7 => .int
  | 8 => .int
  | 9 => .array (.object "MulesRemember$State")
  | 10 => .array .boolean
  | 11 => .object "MulesRemember$Sightings"
  | 12 => .array .int
  | _ => .long
abbrev wsX40 : List Cond := u_ws RX4 TX4 14
theorem nmX4 : ∀ a, a < 14 → ∀ b, b < 14 → a ≠ b → (TX4 a).2.1 ≠ (TX4 b).2.1 := by decide +kernel
theorem tyX4_ok : ∀ k, k < 14 → parseFieldDescriptor (TX4 k).2.2.1 = some (tyX4 k) := by decide +kernel
abbrev cX4_init : ByteArray := prog_1_method_1_code
def yX4_init : MethodName := ⟨RX4, "<init>", "()V"⟩
abbrev cX4_write : ByteArray := prog_1_method_2_code
def yX4_write : MethodName := ⟨RX4, "write", "(I)I"⟩
abbrev cX4_wipe : ByteArray := prog_1_method_3_code
def yX4_wipe : MethodName := ⟨RX4, "wipe", "()I"⟩
abbrev cX4_fault : ByteArray := prog_1_method_4_code
def yX4_fault : MethodName := ⟨RX4, "fault", "()I"⟩
abbrev cX4_treaty : ByteArray := prog_1_method_5_code
def yX4_treaty : MethodName := ⟨RX4, "treaty", "()I"⟩
abbrev cX4_about : ByteArray := prog_1_method_6_code
def yX4_about : MethodName := ⟨RX4, "about", "(I)I"⟩
abbrev cX4_article : ByteArray := prog_1_method_7_code
def yX4_article : MethodName := ⟨RX4, "article", "(II)I"⟩
abbrev cX4_mule : ByteArray := prog_1_method_8_code
def yX4_mule : MethodName := ⟨RX4, "mule", "(II)I"⟩
abbrev cX4_by : ByteArray := prog_1_method_9_code
def yX4_by : MethodName := ⟨RX4, "by", "(II)I"⟩
abbrev cX4_balks : ByteArray := prog_1_method_10_code
def yX4_balks : MethodName := ⟨RX4, "balks", "(II)I"⟩
abbrev cX4_step : ByteArray := prog_1_method_11_code
def yX4_step : MethodName := ⟨RX4, "step", "(II)I"⟩
abbrev cX4_pause : ByteArray := prog_1_method_12_code
def yX4_pause : MethodName := ⟨RX4, "pause", "()I"⟩
abbrev cX4_show : ByteArray := prog_1_method_13_code
def yX4_show : MethodName := ⟨RX4, "show", "(III)I"⟩
abbrev cX4_sell : ByteArray := prog_1_method_14_code
def yX4_sell : MethodName := ⟨RX4, "sell", "(I)I"⟩
abbrev cX4_forget : ByteArray := prog_1_method_15_code
def yX4_forget : MethodName := ⟨RX4, "forget", "(I)I"⟩
abbrev cX4_undo : ByteArray := prog_1_method_16_code
def yX4_undo : MethodName := ⟨RX4, "undo", "()I"⟩
abbrev cX4_way : ByteArray := prog_1_method_17_code
def yX4_way : MethodName := ⟨RX4, "way", "(IIZ)I"⟩
abbrev cX4_enclaves : ByteArray := prog_1_method_18_code
def yX4_enclaves : MethodName := ⟨RX4, "enclaves", "(I)I"⟩
abbrev cX4_teach : ByteArray := prog_1_method_19_code
def yX4_teach : MethodName := ⟨RX4, "teach", "(I)I"⟩
abbrev cX4_differ : ByteArray := prog_1_method_20_code
def yX4_differ : MethodName := ⟨RX4, "differ", "(II)I"⟩
abbrev cX4_judge : ByteArray := prog_1_method_21_code
def yX4_judge : MethodName := ⟨RX4, "judge", "(II)I"⟩
abbrev cX4_share : ByteArray := prog_1_method_22_code
def yX4_share : MethodName := ⟨RX4, "share", "(IZ)I"⟩
abbrev cX4_see : ByteArray := prog_1_method_23_code
def yX4_see : MethodName := ⟨RX4, "see", "(IIIII)I"⟩
abbrev cX4_unsee : ByteArray := prog_1_method_24_code
def yX4_unsee : MethodName := ⟨RX4, "unsee", "()I"⟩
abbrev cX4_may : ByteArray := prog_1_method_25_code
def yX4_may : MethodName := ⟨RX4, "may", "(II)I"⟩
abbrev cX4_rests : ByteArray := prog_1_method_26_code
def yX4_rests : MethodName := ⟨RX4, "rests", "(I)I"⟩
abbrev cX4_forgets : ByteArray := prog_1_method_27_code
def yX4_forgets : MethodName := ⟨RX4, "forgets", "(IIIZ)I"⟩
abbrev cX4_seed : ByteArray := prog_1_method_28_code
def yX4_seed : MethodName := ⟨RX4, "seed", "(J)J"⟩
abbrev cX4_years : ByteArray := prog_1_method_29_code
def yX4_years : MethodName := ⟨RX4, "years", "(I)I"⟩
abbrev cX4_keep : ByteArray := prog_1_method_30_code
def yX4_keep : MethodName := ⟨RX4, "keep", "(I)I"⟩
abbrev cX4_again : ByteArray := prog_1_method_31_code
def yX4_again : MethodName := ⟨RX4, "again", "(I)I"⟩
abbrev cX4_isMule : ByteArray := prog_1_method_32_code
def yX4_isMule : MethodName := ⟨RX4, "isMule", "(I)Z"⟩
abbrev cX4_isArticle : ByteArray := prog_1_method_33_code
def yX4_isArticle : MethodName := ⟨RX4, "isArticle", "(I)Z"⟩
abbrev cX4_isStone : ByteArray := prog_1_method_34_code
def yX4_isStone : MethodName := ⟨RX4, "isStone", "(I)Z"⟩
abbrev cX4_isSlot : ByteArray := prog_1_method_35_code
def yX4_isSlot : MethodName := ⟨RX4, "isSlot", "(I)Z"⟩
abbrev cX4_isFlag : ByteArray := prog_1_method_36_code
def yX4_isFlag : MethodName := ⟨RX4, "isFlag", "(I)Z"⟩
abbrev cX4_firstOf : ByteArray := prog_1_method_37_code
def yX4_firstOf : MethodName := ⟨RX4, "firstOf", "(I)I"⟩
abbrev cX4_readPart : ByteArray := prog_1_method_38_code
def yX4_readPart : MethodName := ⟨RX4, "readPart", "(I)V"⟩
abbrev cX4_known : ByteArray := prog_1_method_39_code
def yX4_known : MethodName := ⟨RX4, "known", "(LMulesRemember$State;I)I"⟩
abbrev cX4_knownIfShown : ByteArray := prog_1_method_40_code
def yX4_knownIfShown : MethodName := ⟨RX4, "knownIfShown", "(II)I"⟩
abbrev cX4_mulesThatKnow : ByteArray := prog_1_method_41_code
def yX4_mulesThatKnow : MethodName := ⟨RX4, "mulesThatKnow", "(I)I"⟩
abbrev cX4_stepRefusal : ByteArray := prog_1_method_42_code
def yX4_stepRefusal : MethodName := ⟨RX4, "stepRefusal", "(II)I"⟩
abbrev cX4_nextStone : ByteArray := prog_1_method_43_code
def yX4_nextStone : MethodName := ⟨RX4, "nextStone", "(II)I"⟩
abbrev cX4_forbidders : ByteArray := prog_1_method_44_code
def yX4_forbidders : MethodName := ⟨RX4, "forbidders", "(LMulesRemember$State;II)I"⟩
abbrev cX4_forbiddersFrom : ByteArray := prog_1_method_45_code
def yX4_forbiddersFrom : MethodName := ⟨RX4, "forbiddersFrom", "(LMulesRemember$State;IIII)I"⟩
abbrev cX4_othersFromNorthOf : ByteArray := prog_1_method_46_code
def yX4_othersFromNorthOf : MethodName := ⟨RX4, "othersFromNorthOf", "(LMulesRemember$State;II)I"⟩
abbrev cX4_balkers : ByteArray := prog_1_method_47_code
def yX4_balkers : MethodName := ⟨RX4, "balkers", "(LMulesRemember$State;II)I"⟩
abbrev cX4_wouldGo : ByteArray := prog_1_method_48_code
def yX4_wouldGo : MethodName := ⟨RX4, "wouldGo", "(LMulesRemember$State;II)Z"⟩
abbrev cX4_copyState : ByteArray := prog_1_method_49_code
def yX4_copyState : MethodName := ⟨RX4, "copyState", "(LMulesRemember$State;LMulesRemember$State;)V"⟩
abbrev cX4_rememberAct : ByteArray := prog_1_method_50_code
def yX4_rememberAct : MethodName := ⟨RX4, "rememberAct", "()V"⟩
abbrev cX4_go : ByteArray := prog_1_method_51_code
def yX4_go : MethodName := ⟨RX4, "go", "(LMulesRemember$State;II)V"⟩
abbrev cX4_doneWithoutFault : ByteArray := prog_1_method_52_code
def yX4_doneWithoutFault : MethodName := ⟨RX4, "doneWithoutFault", "(LMulesRemember$State;II)Z"⟩
abbrev cX4_liveThrough : ByteArray := prog_1_method_53_code
def yX4_liveThrough : MethodName := ⟨RX4, "liveThrough", "(LMulesRemember$State;II)V"⟩
abbrev cX4_spread : ByteArray := prog_1_method_54_code
def yX4_spread : MethodName := ⟨RX4, "spread", "(IIII)I"⟩
abbrev cX4_keepsAllIfShown : ByteArray := prog_1_method_55_code
def yX4_keepsAllIfShown : MethodName := ⟨RX4, "keepsAllIfShown", "(II)Z"⟩
abbrev cX4_sixtiethsOfStep : ByteArray := prog_1_method_56_code
def yX4_sixtiethsOfStep : MethodName := ⟨RX4, "sixtiethsOfStep", "(II)I"⟩
abbrev cX4_worthOfString : ByteArray := prog_1_method_57_code
def yX4_worthOfString : MethodName := ⟨RX4, "worthOfString", "()I"⟩
abbrev cX4_gain : ByteArray := prog_1_method_58_code
def yX4_gain : MethodName := ⟨RX4, "gain", "(III)I"⟩
abbrev cX4_isContent : ByteArray := prog_1_method_59_code
def yX4_isContent : MethodName := ⟨RX4, "isContent", "(III)Z"⟩
abbrev cX4_tenthsToBalk : ByteArray := prog_1_method_60_code
def yX4_tenthsToBalk : MethodName := ⟨RX4, "tenthsToBalk", "(III)I"⟩
abbrev cX4_tallyMule : ByteArray := prog_1_method_61_code
def yX4_tallyMule : MethodName := ⟨RX4, "tallyMule", "(I)V"⟩
abbrev cX4_fractionPart : ByteArray := prog_1_method_62_code
def yX4_fractionPart : MethodName := ⟨RX4, "fractionPart", "(IIZ)I"⟩
def RX5 : String := "MulesRememberModel"
def TX5 : u_T := fun k => match k with
  | 0 => ("MulesRememberModel", "thrown", "I", false)
  | 1 => ("MulesRememberModel", "text", "[I", true)
  | 2 => ("MulesRememberModel", "textSize", "I", false)
  | 3 => ("MulesRememberModel", "place", "I", false)
  | 4 => ("MulesRememberModel", "mules", "I", false)
  | 5 => ("MulesRememberModel", "coat", "[I", true)
  | 6 => ("MulesRememberModel", "articles", "I", false)
  | 7 => ("MulesRememberModel", "where", "[I", true)
  | 8 => ("MulesRememberModel", "sort", "[I", true)
  | 9 => ("MulesRememberModel", "value", "[I", true)
  | 10 => ("MulesRememberModel", "readMules", "I", false)
  | 11 => ("MulesRememberModel", "readMule", "[I", true)
  | 12 => ("MulesRememberModel", "readArticles", "I", false)
  | 13 => ("MulesRememberModel", "readArticle", "[I", true)
  | 14 => ("MulesRememberModel", "page", "[I", true)
  | 15 => ("MulesRememberModel", "trial", "[I", true)
  | 16 => ("MulesRememberModel", "book", "[I", true)
  | 17 => ("MulesRememberModel", "acts", "I", false)
  | 18 => ("MulesRememberModel", "kept", "[I", true)
  | 19 => ("MulesRememberModel", "isKept", "[Z", true)
  | 20 => ("MulesRememberModel", "seen", "I", false)
  | 21 => ("MulesRememberModel", "seenStone", "[I", true)
  | 22 => ("MulesRememberModel", "seenCoat", "[I", true)
  | 23 => ("MulesRememberModel", "seenHour", "[I", true)
  | 24 => ("MulesRememberModel", "seenSouth", "[I", true)
  | 25 => ("MulesRememberModel", "seenBalked", "[I", true)
  | 26 => ("MulesRememberModel", "seed", "J", false)
  | 27 => ("MulesRememberModel", "when", "[I", true)
  | 28 => ("MulesRememberModel", "mayMany", "I", false)
  | 29 => ("MulesRememberModel", "mayFirst", "I", false)
  | 30 => ("MulesRememberModel", "restMany", "I", false)
  | 31 => ("MulesRememberModel", "restFirst", "I", false)
  | _ => ("MulesRememberModel", "worth", "[I", true)
def tyX5 : Nat → FieldType := fun k => match k with
  | 0 => .int
  | 1 => .array .int
  | 2 => .int
  | 3 => .int
  | 4 => .int
  | 5 => .array .int
  | 6 => .int
  | 7 => .array .int
  | 8 => .array .int
  | 9 => .array .int
  | 10 => .int
  | 11 => .array .int
  | 12 => .int
  | 13 => .array .int
  | 14 => .array .int
  | 15 => .array .int
  | 16 => .array .int
  | 17 => .int
  | 18 => .array .int
  | 19 => .array .boolean
  | 20 => .int
  | 21 => .array .int
  | 22 => .array .int
  | 23 => .array .int
  | 24 => .array .int
  | 25 => .array .int
  | 26 => .long
  | 27 => .array .int
  | 28 => .int
  | 29 => .int
  | 30 => .int
  | 31 => .int
  | _ => .array .int
abbrev wsX50 : List Cond := u_ws RX5 TX5 33
theorem nmX5 : ∀ a, a < 33 → ∀ b, b < 33 → a ≠ b → (TX5 a).2.1 ≠ (TX5 b).2.1 := by decide +kernel
theorem tyX5_ok : ∀ k, k < 33 → parseFieldDescriptor (TX5 k).2.2.1 = some (tyX5 k) := by decide +kernel
abbrev cX5_init : ByteArray := prog_7_method_1_code
def yX5_init : MethodName := ⟨RX5, "<init>", "()V"⟩
abbrev cX5_in : ByteArray := prog_7_method_3_code
def yX5_in : MethodName := ⟨RX5, "in", "(JJJ)Z"⟩
abbrev cX5_has : ByteArray := prog_7_method_4_code
def yX5_has : MethodName := ⟨RX5, "has", "(II)Z"⟩
abbrev cX5_many : ByteArray := prog_7_method_5_code
def yX5_many : MethodName := ⟨RX5, "many", "(I)I"⟩
abbrev cX5_noMule : ByteArray := prog_7_method_6_code
def yX5_noMule : MethodName := ⟨RX5, "noMule", "(I)Z"⟩
abbrev cX5_noArticle : ByteArray := prog_7_method_7_code
def yX5_noArticle : MethodName := ⟨RX5, "noArticle", "(I)Z"⟩
abbrev cX5_write : ByteArray := prog_7_method_8_code
def yX5_write : MethodName := ⟨RX5, "write", "(I)I"⟩
abbrev cX5_wipe : ByteArray := prog_7_method_9_code
def yX5_wipe : MethodName := ⟨RX5, "wipe", "()I"⟩
abbrev cX5_figure : ByteArray := prog_7_method_10_code
def yX5_figure : MethodName := ⟨RX5, "figure", "(I)I"⟩
abbrev cX5_readOneArticle : ByteArray := prog_7_method_11_code
def yX5_readOneArticle : MethodName := ⟨RX5, "readOneArticle", "()Z"⟩
abbrev cX5_readOneMule : ByteArray := prog_7_method_12_code
def yX5_readOneMule : MethodName := ⟨RX5, "readOneMule", "()Z"⟩
abbrev cX5_readPart : ByteArray := prog_7_method_13_code
def yX5_readPart : MethodName := ⟨RX5, "readPart", "()Z"⟩
abbrev cX5_readTreaty : ByteArray := prog_7_method_14_code
def yX5_readTreaty : MethodName := ⟨RX5, "readTreaty", "()I"⟩
abbrev cX5_fault : ByteArray := prog_7_method_15_code
def yX5_fault : MethodName := ⟨RX5, "fault", "()I"⟩
abbrev cX5_treaty : ByteArray := prog_7_method_16_code
def yX5_treaty : MethodName := ⟨RX5, "treaty", "()I"⟩
abbrev cX5_knows : ByteArray := prog_7_method_17_code
def yX5_knows : MethodName := ⟨RX5, "knows", "([II)I"⟩
abbrev cX5_toStone : ByteArray := prog_7_method_18_code
def yX5_toStone : MethodName := ⟨RX5, "toStone", "([III)I"⟩
abbrev cX5_northern : ByteArray := prog_7_method_19_code
def yX5_northern : MethodName := ⟨RX5, "northern", "([III)I"⟩
abbrev cX5_isBarred : ByteArray := prog_7_method_20_code
def yX5_isBarred : MethodName := ⟨RX5, "isBarred", "(IIIIII)Z"⟩
abbrev cX5_forbids : ByteArray := prog_7_method_21_code
def yX5_forbids : MethodName := ⟨RX5, "forbids", "([III)I"⟩
abbrev cX5_isBalking : ByteArray := prog_7_method_22_code
def yX5_isBalking : MethodName := ⟨RX5, "isBalking", "([III)Z"⟩
abbrev cX5_about : ByteArray := prog_7_method_23_code
def yX5_about : MethodName := ⟨RX5, "about", "(I)I"⟩
abbrev cX5_knowers : ByteArray := prog_7_method_24_code
def yX5_knowers : MethodName := ⟨RX5, "knowers", "(I)I"⟩
abbrev cX5_article : ByteArray := prog_7_method_25_code
def yX5_article : MethodName := ⟨RX5, "article", "(II)I"⟩
abbrev cX5_mule : ByteArray := prog_7_method_26_code
def yX5_mule : MethodName := ⟨RX5, "mule", "(II)I"⟩
abbrev cX5_noStep : ByteArray := prog_7_method_27_code
def yX5_noStep : MethodName := ⟨RX5, "noStep", "(II)I"⟩
abbrev cX5_by : ByteArray := prog_7_method_28_code
def yX5_by : MethodName := ⟨RX5, "by", "(II)I"⟩
abbrev cX5_leastOf : ByteArray := prog_7_method_29_code
def yX5_leastOf : MethodName := ⟨RX5, "leastOf", "(I)I"⟩
abbrev cX5_balks : ByteArray := prog_7_method_30_code
def yX5_balks : MethodName := ⟨RX5, "balks", "(II)I"⟩
abbrev cX5_note : ByteArray := prog_7_method_31_code
def yX5_note : MethodName := ⟨RX5, "note", "()V"⟩
abbrev cX5_go : ByteArray := prog_7_method_32_code
def yX5_go : MethodName := ⟨RX5, "go", "([III)V"⟩
abbrev cX5_step : ByteArray := prog_7_method_33_code
def yX5_step : MethodName := ⟨RX5, "step", "(II)I"⟩
abbrev cX5_pause : ByteArray := prog_7_method_34_code
def yX5_pause : MethodName := ⟨RX5, "pause", "()I"⟩
abbrev cX5_show : ByteArray := prog_7_method_35_code
def yX5_show : MethodName := ⟨RX5, "show", "(III)I"⟩
abbrev cX5_sell : ByteArray := prog_7_method_36_code
def yX5_sell : MethodName := ⟨RX5, "sell", "(I)I"⟩
abbrev cX5_forget : ByteArray := prog_7_method_37_code
def yX5_forget : MethodName := ⟨RX5, "forget", "(I)I"⟩
abbrev cX5_undo : ByteArray := prog_7_method_38_code
def yX5_undo : MethodName := ⟨RX5, "undo", "()I"⟩
abbrev cX5_begin : ByteArray := prog_7_method_39_code
def yX5_begin : MethodName := ⟨RX5, "begin", "()V"⟩
abbrev cX5_layWays : ByteArray := prog_7_method_40_code
def yX5_layWays : MethodName := ⟨RX5, "layWays", "(IZ)V"⟩
abbrev cX5_way : ByteArray := prog_7_method_41_code
def yX5_way : MethodName := ⟨RX5, "way", "(IIZ)I"⟩
abbrev cX5_enclaves : ByteArray := prog_7_method_42_code
def yX5_enclaves : MethodName := ⟨RX5, "enclaves", "(I)I"⟩
abbrev cX5_holdsFast : ByteArray := prog_7_method_43_code
def yX5_holdsFast : MethodName := ⟨RX5, "holdsFast", "(I)Z"⟩
abbrev cX5_teach : ByteArray := prog_7_method_44_code
def yX5_teach : MethodName := ⟨RX5, "teach", "(I)I"⟩
abbrev cX5_differ : ByteArray := prog_7_method_45_code
def yX5_differ : MethodName := ⟨RX5, "differ", "(II)I"⟩
abbrev cX5_power : ByteArray := prog_7_method_46_code
def yX5_power : MethodName := ⟨RX5, "power", "(II)I"⟩
abbrev cX5_does : ByteArray := prog_7_method_47_code
def yX5_does : MethodName := ⟨RX5, "does", "(I)Z"⟩
abbrev cX5_judge : ByteArray := prog_7_method_48_code
def yX5_judge : MethodName := ⟨RX5, "judge", "(II)I"⟩
abbrev cX5_ways : ByteArray := prog_7_method_49_code
def yX5_ways : MethodName := ⟨RX5, "ways", "(I)I"⟩
abbrev cX5_divisor : ByteArray := prog_7_method_50_code
def yX5_divisor : MethodName := ⟨RX5, "divisor", "(II)I"⟩
abbrev cX5_fraction : ByteArray := prog_7_method_51_code
def yX5_fraction : MethodName := ⟨RX5, "fraction", "(IIZ)I"⟩
abbrev cX5_barredBy : ByteArray := prog_7_method_52_code
def yX5_barredBy : MethodName := ⟨RX5, "barredBy", "(I)I"⟩
abbrev cX5_share : ByteArray := prog_7_method_53_code
def yX5_share : MethodName := ⟨RX5, "share", "(IZ)I"⟩
abbrev cX5_see : ByteArray := prog_7_method_54_code
def yX5_see : MethodName := ⟨RX5, "see", "(IIIII)I"⟩
abbrev cX5_unsee : ByteArray := prog_7_method_55_code
def yX5_unsee : MethodName := ⟨RX5, "unsee", "()I"⟩
abbrev cX5_findMay : ByteArray := prog_7_method_56_code
def yX5_findMay : MethodName := ⟨RX5, "findMay", "(I)V"⟩
abbrev cX5_may : ByteArray := prog_7_method_57_code
def yX5_may : MethodName := ⟨RX5, "may", "(II)I"⟩
abbrev cX5_sent : ByteArray := prog_7_method_58_code
def yX5_sent : MethodName := ⟨RX5, "sent", "()I"⟩
abbrev cX5_gain : ByteArray := prog_7_method_59_code
def yX5_gain : MethodName := ⟨RX5, "gain", "(III)I"⟩
abbrev cX5_rests : ByteArray := prog_7_method_60_code
def yX5_rests : MethodName := ⟨RX5, "rests", "(I)I"⟩
abbrev cX5_balkers : ByteArray := prog_7_method_61_code
def yX5_balkers : MethodName := ⟨RX5, "balkers", "(II)I"⟩
abbrev cX5_forgets : ByteArray := prog_7_method_62_code
def yX5_forgets : MethodName := ⟨RX5, "forgets", "(IIIZ)I"⟩
abbrev cX5_seed : ByteArray := prog_7_method_63_code
def yX5_seed : MethodName := ⟨RX5, "seed", "(J)J"⟩
abbrev cX5_years : ByteArray := prog_7_method_64_code
def yX5_years : MethodName := ⟨RX5, "years", "(I)I"⟩
abbrev cX5_keep : ByteArray := prog_7_method_65_code
def yX5_keep : MethodName := ⟨RX5, "keep", "(I)I"⟩
abbrev cX5_again : ByteArray := prog_7_method_66_code
def yX5_again : MethodName := ⟨RX5, "again", "(I)I"⟩
def RJ6 : String := "java/lang/Integer"
def TJ6 : u_T := fun k => match k with
  | _ => ("", "", "", false)
def tyJ6 : Nat → FieldType := fun k => match k with
  | _ => .int
abbrev wsJ60 : List Cond := u_ws RJ6 TJ6 0
theorem nmJ6 : ∀ a, a < 0 → ∀ b, b < 0 → a ≠ b → (TJ6 a).2.1 ≠ (TJ6 b).2.1 := by decide +kernel
theorem tyJ6_ok : ∀ k, k < 0 → parseFieldDescriptor (TJ6 k).2.2.1 = some (tyJ6 k) := by decide +kernel
abbrev cJ6_bitCount_0f7a4 : ByteArray := prog_8_method_49_code
def yJ6_bitCount_0f7a4 : MethodName := ⟨RJ6, "bitCount", "(I)I"⟩
def RL : String := "MulesRememberLaw"
abbrev cL_law : ByteArray := code
def yL_law : MethodName := ⟨RL, "law", "([I)Z"⟩
abbrev vwCl : List vw_C := [(RX0, TX0, 4), (RX1, TX1, 6), (RX2, TX2, 5), (RX3, TX3, 2), (RX4, TX4, 14), (RX5, TX5, 33)]
/-- the words that every method takes with it -/
def rg_tbl : List Cond := lw_tbl.filter goodWord
theorem rg_in {w : Cond} (k : Nat) (h : lw_tbl[k]? = some w) (hg : goodWord w = true) : w ∈ rg_tbl := List.mem_filter.mpr ⟨List.mem_of_getElem? h, hg⟩
theorem rg_sub {ws : List Cond} (ps : List Nat) (hp : ws = ps.filterMap (fun i => lw_tbl[i]?)) (h : ws.all goodWord = true) : ∀ w ∈ ws, w ∈ rg_tbl := by
  intro w hw
  have h1 := List.all_eq_true.mp h w hw
  rw [hp] at hw
  obtain ⟨i, -, hi⟩ := List.mem_filterMap.mp hw
  exact rg_in i hi h1
theorem rg_good {w : Cond} (h : w ∈ rg_tbl) : (w.onTables && w.keeps) = true ∨ ∃ ty, w = .arrayClass ty := good_of_word (List.mem_filter.mp h).2
theorem rg_goodIn {ws : List Cond} (h : ∀ w ∈ ws, w ∈ rg_tbl) : GoodIn rg_tbl ws := fun w hw => ⟨h w hw, rg_good (h w hw)⟩
/-- the links between nest mates -/
def nk_is : Cond → Bool
  | .fieldLinkNest .. => true
  | .methodLinkNest .. => true
  | _ => false
def nk_tbl : List Cond := lw_tbl.filter nk_is
theorem nk_in {w : Cond} (k : Nat) (h : lw_tbl[k]? = some w) (hg : nk_is w = true) : w ∈ nk_tbl := List.mem_filter.mpr ⟨List.mem_of_getElem? h, hg⟩
def NK (U : State) : Prop := ∀ w ∈ nk_tbl, va_Nw w U
theorem NK.warm {s U : State} (hW : s.WarmedH U.vm) (h : NK s) : NK U := by
  intro w hw
  have h1 := h w hw
  have h2 := (List.mem_filter.mp hw).2
  cases w <;> simp only [nk_is, Bool.false_eq_true] at h2
  · first | exact va_Nw.warmF hW h1 | exact va_Nw.warmM hW h1
  · first | exact va_Nw.warmF hW h1 | exact va_Nw.warmM hW h1
theorem nk_on {w : Cond} (h : nk_is w = true) : w.onTables = true := by cases w <;> simp only [nk_is, Bool.false_eq_true] at h <;> rfl
theorem NK.same {u U : State} (he : u.vm = U.vm) (h : NK u) : NK U := fun w hw => va_Nw.same (nk_on (List.mem_filter.mp hw).2) he (h w hw)
theorem NK.of {args : Array Value} {s : State} (h : ∀ w ∈ lw_tbl, w.before args s = true) : NK s := fun w hw => va_Nw.of (nk_on (List.mem_filter.mp hw).2) (h w (List.mem_filter.mp hw).1)
theorem ku_X0 : ∀ w ∈ u_ws RX0 TX0 4, w ∈ rg_tbl := rg_sub [99, 101, 103, 105] (by decide +kernel) (by decide +kernel)
theorem ku_X1 : ∀ w ∈ u_ws RX1 TX1 6, w ∈ rg_tbl := rg_sub [149, 151, 153, 155, 157, 159] (by decide +kernel) (by decide +kernel)
theorem ku_X2 : ∀ w ∈ u_ws RX2 TX2 5, w ∈ rg_tbl := rg_sub [124, 126, 128, 130, 132] (by decide +kernel) (by decide +kernel)
theorem ku_X3 : ∀ w ∈ u_ws RX3 TX3 2, w ∈ rg_tbl := rg_sub [79, 81] (by decide +kernel) (by decide +kernel)
theorem ku_X4 : ∀ w ∈ u_ws RX4 TX4 14, w ∈ rg_tbl := rg_sub [177, 179, 181, 183, 185, 187, 189, 191, 193, 195, 197, 199, 201, 203] (by decide +kernel) (by decide +kernel)
theorem ku_X5 : ∀ w ∈ u_ws RX5 TX5 33, w ∈ rg_tbl := rg_sub [536, 538, 540, 542, 544, 546, 548, 550, 552, 554, 556, 558, 560, 562, 564, 566, 568, 570, 572, 574, 576, 578, 580, 582, 584, 586, 588, 590, 592, 594, 596, 598, 600] (by decide +kernel) (by decide +kernel)
theorem kl_X3_put : Cond.selects "MulesRemember$Text" yX3_put yX3_put ∈ rg_tbl := rg_in 0 (by decide +kernel) (by decide +kernel)
theorem kl_X3_firstFault : Cond.selects "MulesRemember$Text" yX3_firstFault yX3_firstFault ∈ rg_tbl := rg_in 1 (by decide +kernel) (by decide +kernel)
theorem kl_X3_letter : Cond.selects "MulesRemember$Text" yX3_letter yX3_letter ∈ rg_tbl := rg_in 2 (by decide +kernel) (by decide +kernel)
theorem kl_X4_readPart : Cond.selects "MulesRemember" yX4_readPart yX4_readPart ∈ rg_tbl := rg_in 3 (by decide +kernel) (by decide +kernel)
theorem kl_X3_figure : Cond.selects "MulesRemember$Text" yX3_figure yX3_figure ∈ rg_tbl := rg_in 4 (by decide +kernel) (by decide +kernel)
theorem kl_X0_add : Cond.selects "MulesRemember$Law" yX0_add yX0_add ∈ rg_tbl := rg_in 5 (by decide +kernel) (by decide +kernel)
theorem kl_X4_isArticle : Cond.selects "MulesRemember" yX4_isArticle yX4_isArticle ∈ rg_tbl := rg_in 6 (by decide +kernel) (by decide +kernel)
theorem kl_X4_mulesThatKnow : Cond.selects "MulesRemember" yX4_mulesThatKnow yX4_mulesThatKnow ∈ rg_tbl := rg_in 7 (by decide +kernel) (by decide +kernel)
theorem kl_X4_known : Cond.selects "MulesRemember" yX4_known yX4_known ∈ rg_tbl := rg_in 8 (by decide +kernel) (by decide +kernel)
theorem kl_X4_isMule : Cond.selects "MulesRemember" yX4_isMule yX4_isMule ∈ rg_tbl := rg_in 9 (by decide +kernel) (by decide +kernel)
theorem kl_X4_knownIfShown : Cond.selects "MulesRemember" yX4_knownIfShown yX4_knownIfShown ∈ rg_tbl := rg_in 10 (by decide +kernel) (by decide +kernel)
theorem kl_X0_all : Cond.selects "MulesRemember$Law" yX0_all yX0_all ∈ rg_tbl := rg_in 11 (by decide +kernel) (by decide +kernel)
theorem kl_X0_last : Cond.selects "MulesRemember$Law" yX0_last yX0_last ∈ rg_tbl := rg_in 12 (by decide +kernel) (by decide +kernel)
theorem kl_X4_stepRefusal : Cond.selects "MulesRemember" yX4_stepRefusal yX4_stepRefusal ∈ rg_tbl := rg_in 13 (by decide +kernel) (by decide +kernel)
theorem kl_X4_forbidders : Cond.selects "MulesRemember" yX4_forbidders yX4_forbidders ∈ rg_tbl := rg_in 14 (by decide +kernel) (by decide +kernel)
theorem kl_X4_forbiddersFrom : Cond.selects "MulesRemember" yX4_forbiddersFrom yX4_forbiddersFrom ∈ rg_tbl := rg_in 15 (by decide +kernel) (by decide +kernel)
theorem kl_X4_othersFromNorthOf : Cond.selects "MulesRemember" yX4_othersFromNorthOf yX4_othersFromNorthOf ∈ rg_tbl := rg_in 16 (by decide +kernel) (by decide +kernel)
theorem kl_X0_forbids : Cond.selects "MulesRemember$Law" yX0_forbids yX0_forbids ∈ rg_tbl := rg_in 17 (by decide +kernel) (by decide +kernel)
theorem kl_X4_balkers : Cond.selects "MulesRemember" yX4_balkers yX4_balkers ∈ rg_tbl := rg_in 18 (by decide +kernel) (by decide +kernel)
theorem kl_X4_wouldGo : Cond.selects "MulesRemember" yX4_wouldGo yX4_wouldGo ∈ rg_tbl := rg_in 19 (by decide +kernel) (by decide +kernel)
theorem kl_X4_rememberAct : Cond.selects "MulesRemember" yX4_rememberAct yX4_rememberAct ∈ rg_tbl := rg_in 20 (by decide +kernel) (by decide +kernel)
theorem kl_X4_go : Cond.selects "MulesRemember" yX4_go yX4_go ∈ rg_tbl := rg_in 21 (by decide +kernel) (by decide +kernel)
theorem kl_X4_spread : Cond.selects "MulesRemember" yX4_spread yX4_spread ∈ rg_tbl := rg_in 22 (by decide +kernel) (by decide +kernel)
theorem kl_X4_keepsAllIfShown : Cond.selects "MulesRemember" yX4_keepsAllIfShown yX4_keepsAllIfShown ∈ rg_tbl := rg_in 23 (by decide +kernel) (by decide +kernel)
theorem kl_X4_doneWithoutFault : Cond.selects "MulesRemember" yX4_doneWithoutFault yX4_doneWithoutFault ∈ rg_tbl := rg_in 24 (by decide +kernel) (by decide +kernel)
theorem kl_X1_add : Cond.selects "MulesRemember$Sightings" yX1_add yX1_add ∈ rg_tbl := rg_in 25 (by decide +kernel) (by decide +kernel)
theorem kl_X1_agreeWith : Cond.selects "MulesRemember$Sightings" yX1_agreeWith yX1_agreeWith ∈ rg_tbl := rg_in 26 (by decide +kernel) (by decide +kernel)
theorem kl_X4_worthOfString : Cond.selects "MulesRemember" yX4_worthOfString yX4_worthOfString ∈ rg_tbl := rg_in 27 (by decide +kernel) (by decide +kernel)
theorem kl_X4_tenthsToBalk : Cond.selects "MulesRemember" yX4_tenthsToBalk yX4_tenthsToBalk ∈ rg_tbl := rg_in 28 (by decide +kernel) (by decide +kernel)
theorem kl_X4_tallyMule : Cond.selects "MulesRemember" yX4_tallyMule yX4_tallyMule ∈ rg_tbl := rg_in 29 (by decide +kernel) (by decide +kernel)
theorem kl_X4_liveThrough : Cond.selects "MulesRemember" yX4_liveThrough yX4_liveThrough ∈ rg_tbl := rg_in 30 (by decide +kernel) (by decide +kernel)
theorem kl_X5_readTreaty : Cond.selects "MulesRememberModel" yX5_readTreaty yX5_readTreaty ∈ rg_tbl := rg_in 31 (by decide +kernel) (by decide +kernel)
theorem kl_X5_readPart : Cond.selects "MulesRememberModel" yX5_readPart yX5_readPart ∈ rg_tbl := rg_in 32 (by decide +kernel) (by decide +kernel)
theorem kl_X5_readOneArticle : Cond.selects "MulesRememberModel" yX5_readOneArticle yX5_readOneArticle ∈ rg_tbl := rg_in 33 (by decide +kernel) (by decide +kernel)
theorem kl_X5_figure : Cond.selects "MulesRememberModel" yX5_figure yX5_figure ∈ rg_tbl := rg_in 34 (by decide +kernel) (by decide +kernel)
theorem kl_X5_readOneMule : Cond.selects "MulesRememberModel" yX5_readOneMule yX5_readOneMule ∈ rg_tbl := rg_in 35 (by decide +kernel) (by decide +kernel)
theorem kl_X5_noArticle : Cond.selects "MulesRememberModel" yX5_noArticle yX5_noArticle ∈ rg_tbl := rg_in 36 (by decide +kernel) (by decide +kernel)
theorem kl_X5_knowers : Cond.selects "MulesRememberModel" yX5_knowers yX5_knowers ∈ rg_tbl := rg_in 37 (by decide +kernel) (by decide +kernel)
theorem kl_X5_knows : Cond.selects "MulesRememberModel" yX5_knows yX5_knows ∈ rg_tbl := rg_in 38 (by decide +kernel) (by decide +kernel)
theorem kl_X5_noMule : Cond.selects "MulesRememberModel" yX5_noMule yX5_noMule ∈ rg_tbl := rg_in 39 (by decide +kernel) (by decide +kernel)
theorem kl_X5_noStep : Cond.selects "MulesRememberModel" yX5_noStep yX5_noStep ∈ rg_tbl := rg_in 40 (by decide +kernel) (by decide +kernel)
theorem kl_X5_forbids : Cond.selects "MulesRememberModel" yX5_forbids yX5_forbids ∈ rg_tbl := rg_in 41 (by decide +kernel) (by decide +kernel)
theorem kl_X5_northern : Cond.selects "MulesRememberModel" yX5_northern yX5_northern ∈ rg_tbl := rg_in 42 (by decide +kernel) (by decide +kernel)
theorem kl_X5_isBalking : Cond.selects "MulesRememberModel" yX5_isBalking yX5_isBalking ∈ rg_tbl := rg_in 43 (by decide +kernel) (by decide +kernel)
theorem kl_X5_note : Cond.selects "MulesRememberModel" yX5_note yX5_note ∈ rg_tbl := rg_in 44 (by decide +kernel) (by decide +kernel)
theorem kl_X5_go : Cond.selects "MulesRememberModel" yX5_go yX5_go ∈ rg_tbl := rg_in 45 (by decide +kernel) (by decide +kernel)
theorem kl_X5_layWays : Cond.selects "MulesRememberModel" yX5_layWays yX5_layWays ∈ rg_tbl := rg_in 46 (by decide +kernel) (by decide +kernel)
theorem kl_X5_begin : Cond.selects "MulesRememberModel" yX5_begin yX5_begin ∈ rg_tbl := rg_in 47 (by decide +kernel) (by decide +kernel)
theorem kl_X5_holdsFast : Cond.selects "MulesRememberModel" yX5_holdsFast yX5_holdsFast ∈ rg_tbl := rg_in 48 (by decide +kernel) (by decide +kernel)
theorem kl_X5_does : Cond.selects "MulesRememberModel" yX5_does yX5_does ∈ rg_tbl := rg_in 49 (by decide +kernel) (by decide +kernel)
theorem kl_X5_barredBy : Cond.selects "MulesRememberModel" yX5_barredBy yX5_barredBy ∈ rg_tbl := rg_in 50 (by decide +kernel) (by decide +kernel)
theorem kl_X5_findMay : Cond.selects "MulesRememberModel" yX5_findMay yX5_findMay ∈ rg_tbl := rg_in 51 (by decide +kernel) (by decide +kernel)
theorem kl_X5_sent : Cond.selects "MulesRememberModel" yX5_sent yX5_sent ∈ rg_tbl := rg_in 52 (by decide +kernel) (by decide +kernel)
theorem kl_X5_balkers : Cond.selects "MulesRememberModel" yX5_balkers yX5_balkers ∈ rg_tbl := rg_in 53 (by decide +kernel) (by decide +kernel)
theorem ki_L : Cond.initialized "MulesRememberLaw" ∈ rg_tbl := rg_in 54 (by decide +kernel) (by decide +kernel)
theorem ki_X4 : Cond.initialized "MulesRemember" ∈ rg_tbl := rg_in 55 (by decide +kernel) (by decide +kernel)
theorem ki_X3 : Cond.initialized "MulesRemember$Text" ∈ rg_tbl := rg_in 56 (by decide +kernel) (by decide +kernel)
theorem ki_X0 : Cond.initialized "MulesRemember$Law" ∈ rg_tbl := rg_in 57 (by decide +kernel) (by decide +kernel)
theorem ki_X2 : Cond.initialized "MulesRemember$State" ∈ rg_tbl := rg_in 58 (by decide +kernel) (by decide +kernel)
theorem ki_X1 : Cond.initialized "MulesRemember$Sightings" ∈ rg_tbl := rg_in 59 (by decide +kernel) (by decide +kernel)
theorem ki_X5 : Cond.initialized "MulesRememberModel" ∈ rg_tbl := rg_in 60 (by decide +kernel) (by decide +kernel)
theorem ki_J6 : Cond.initialized "java/lang/Integer" ∈ rg_tbl := rg_in 61 (by decide +kernel) (by decide +kernel)
theorem kc_L_7 : Cond.classLink "MulesRememberLaw" 7 "MulesRemember" ∈ rg_tbl := rg_in 62 (by decide +kernel) (by decide +kernel)
theorem kt_X4 : Cond.instantiable "MulesRemember" 14 ∈ rg_tbl := rg_in 63 (by decide +kernel) (by decide +kernel)
theorem kw_L_9 : Cond.methodLink "MulesRememberLaw" 9 yX4_init ∈ rg_tbl := rg_in 64 (by decide +kernel) (by decide +kernel)
theorem km_X4_init : Cond.instanceMethod yX4_init ∈ rg_tbl := rg_in 65 (by decide +kernel) (by decide +kernel)
theorem kd_X4_init : Cond.code yX4_init cX4_init 2 none ∈ rg_tbl := rg_in 66 (by decide +kernel) (by decide +kernel)
theorem kw_X4_1 : Cond.methodLink "MulesRemember" 1 objectInit ∈ rg_tbl := rg_in 67 (by decide +kernel) (by decide +kernel)
theorem km_objectInit : Cond.instanceMethod objectInit ∈ rg_tbl := rg_in 68 (by decide +kernel) (by decide +kernel)
theorem kd_objectInit : Cond.code objectInit ⟨#[0xb1]⟩ 1 none ∈ rg_tbl := rg_in 69 (by decide +kernel) (by decide +kernel)
theorem kc_X4_7 : Cond.classLink "MulesRemember" 7 "MulesRemember$Text" ∈ rg_tbl := rg_in 70 (by decide +kernel) (by decide +kernel)
theorem kt_X3 : Cond.instantiable "MulesRemember$Text" 2 ∈ rg_tbl := rg_in 71 (by decide +kernel) (by decide +kernel)
theorem kn_X4_9 : Cond.methodLinkNest "MulesRemember" 9 yX3_init "MulesRemember" ∈ nk_tbl := nk_in 72 (by decide +kernel) (by decide +kernel)
theorem km_X3_init : Cond.instanceMethod yX3_init ∈ rg_tbl := rg_in 73 (by decide +kernel) (by decide +kernel)
theorem kd_X3_init : Cond.code yX3_init cX3_init 1 none ∈ rg_tbl := rg_in 74 (by decide +kernel) (by decide +kernel)
theorem kw_X3_3 : Cond.methodLink "MulesRemember$Text" 3 objectInit ∈ rg_tbl := rg_in 75 (by decide +kernel) (by decide +kernel)
theorem kw_X3_9 : Cond.fieldLink "MulesRemember$Text" 9 "MulesRemember$Text" "letters" "[I" ∈ rg_tbl := rg_in 76 (by decide +kernel) (by decide +kernel)
theorem kw_X3_15 : Cond.fieldLink "MulesRemember$Text" 15 "MulesRemember$Text" "length" "I" ∈ rg_tbl := rg_in 77 (by decide +kernel) (by decide +kernel)
theorem kn_X4_76 : Cond.fieldLinkNest "MulesRemember" 76 "MulesRemember$Text" "length" "I" "MulesRemember" ∈ nk_tbl := nk_in 78 (by decide +kernel) (by decide +kernel)
theorem ka_int : Cond.arrayClass .int ∈ rg_tbl := rg_in 84 (by decide +kernel) (by decide +kernel)
theorem kc_X4_16 : Cond.classLink "MulesRemember" 16 "MulesRemember$Law" ∈ rg_tbl := rg_in 85 (by decide +kernel) (by decide +kernel)
theorem kt_X0 : Cond.instantiable "MulesRemember$Law" 4 ∈ rg_tbl := rg_in 86 (by decide +kernel) (by decide +kernel)
theorem kn_X4_18 : Cond.methodLinkNest "MulesRemember" 18 yX0_init "MulesRemember" ∈ nk_tbl := nk_in 87 (by decide +kernel) (by decide +kernel)
theorem km_X0_init : Cond.instanceMethod yX0_init ∈ rg_tbl := rg_in 88 (by decide +kernel) (by decide +kernel)
theorem kd_X0_init : Cond.code yX0_init cX0_init 1 none ∈ rg_tbl := rg_in 89 (by decide +kernel) (by decide +kernel)
theorem kw_X0_3 : Cond.methodLink "MulesRemember$Law" 3 objectInit ∈ rg_tbl := rg_in 90 (by decide +kernel) (by decide +kernel)
theorem kw_X0_9 : Cond.fieldLink "MulesRemember$Law" 9 "MulesRemember$Law" "stone" "[I" ∈ rg_tbl := rg_in 91 (by decide +kernel) (by decide +kernel)
theorem kn_X4_100 : Cond.fieldLinkNest "MulesRemember" 100 "MulesRemember$Law" "stone" "[I" "MulesRemember" ∈ nk_tbl := nk_in 92 (by decide +kernel) (by decide +kernel)
theorem kw_X0_15 : Cond.fieldLink "MulesRemember$Law" 15 "MulesRemember$Law" "sort" "[I" ∈ rg_tbl := rg_in 93 (by decide +kernel) (by decide +kernel)
theorem kn_X4_103 : Cond.fieldLinkNest "MulesRemember" 103 "MulesRemember$Law" "sort" "[I" "MulesRemember" ∈ nk_tbl := nk_in 94 (by decide +kernel) (by decide +kernel)
theorem kw_X0_18 : Cond.fieldLink "MulesRemember$Law" 18 "MulesRemember$Law" "value" "[I" ∈ rg_tbl := rg_in 95 (by decide +kernel) (by decide +kernel)
theorem kn_X4_106 : Cond.fieldLinkNest "MulesRemember" 106 "MulesRemember$Law" "value" "[I" "MulesRemember" ∈ nk_tbl := nk_in 96 (by decide +kernel) (by decide +kernel)
theorem kw_X0_21 : Cond.fieldLink "MulesRemember$Law" 21 "MulesRemember$Law" "count" "I" ∈ rg_tbl := rg_in 97 (by decide +kernel) (by decide +kernel)
theorem kn_X4_83 : Cond.fieldLinkNest "MulesRemember" 83 "MulesRemember$Law" "count" "I" "MulesRemember" ∈ nk_tbl := nk_in 98 (by decide +kernel) (by decide +kernel)
theorem kc_X4_31 : Cond.classLink "MulesRemember" 31 "MulesRemember$State" ∈ rg_tbl := rg_in 108 (by decide +kernel) (by decide +kernel)
theorem kt_X2 : Cond.instantiable "MulesRemember$State" 5 ∈ rg_tbl := rg_in 109 (by decide +kernel) (by decide +kernel)
theorem kn_X4_33 : Cond.methodLinkNest "MulesRemember" 33 yX2_init "MulesRemember" ∈ nk_tbl := nk_in 110 (by decide +kernel) (by decide +kernel)
theorem km_X2_init : Cond.instanceMethod yX2_init ∈ rg_tbl := rg_in 111 (by decide +kernel) (by decide +kernel)
theorem kd_X2_init : Cond.code yX2_init cX2_init 1 none ∈ rg_tbl := rg_in 112 (by decide +kernel) (by decide +kernel)
theorem kw_X2_3 : Cond.methodLink "MulesRemember$State" 3 objectInit ∈ rg_tbl := rg_in 113 (by decide +kernel) (by decide +kernel)
theorem kw_X2_9 : Cond.fieldLink "MulesRemember$State" 9 "MulesRemember$State" "stone" "[I" ∈ rg_tbl := rg_in 114 (by decide +kernel) (by decide +kernel)
theorem kn_X4_116 : Cond.fieldLinkNest "MulesRemember" 116 "MulesRemember$State" "stone" "[I" "MulesRemember" ∈ nk_tbl := nk_in 115 (by decide +kernel) (by decide +kernel)
theorem kw_X2_15 : Cond.fieldLink "MulesRemember$State" 15 "MulesRemember$State" "kind" "[I" ∈ rg_tbl := rg_in 116 (by decide +kernel) (by decide +kernel)
theorem kn_X4_117 : Cond.fieldLinkNest "MulesRemember" 117 "MulesRemember$State" "kind" "[I" "MulesRemember" ∈ nk_tbl := nk_in 117 (by decide +kernel) (by decide +kernel)
theorem kw_X2_18 : Cond.fieldLink "MulesRemember$State" 18 "MulesRemember$State" "shown" "[I" ∈ rg_tbl := rg_in 118 (by decide +kernel) (by decide +kernel)
theorem kn_X4_120 : Cond.fieldLinkNest "MulesRemember" 120 "MulesRemember$State" "shown" "[I" "MulesRemember" ∈ nk_tbl := nk_in 119 (by decide +kernel) (by decide +kernel)
theorem kw_X2_21 : Cond.fieldLink "MulesRemember$State" 21 "MulesRemember$State" "hour" "I" ∈ rg_tbl := rg_in 120 (by decide +kernel) (by decide +kernel)
theorem kn_X4_86 : Cond.fieldLinkNest "MulesRemember" 86 "MulesRemember$State" "hour" "I" "MulesRemember" ∈ nk_tbl := nk_in 121 (by decide +kernel) (by decide +kernel)
theorem kw_X2_25 : Cond.fieldLink "MulesRemember$State" 25 "MulesRemember$State" "broken" "I" ∈ rg_tbl := rg_in 122 (by decide +kernel) (by decide +kernel)
theorem kn_X4_89 : Cond.fieldLinkNest "MulesRemember" 89 "MulesRemember$State" "broken" "I" "MulesRemember" ∈ nk_tbl := nk_in 123 (by decide +kernel) (by decide +kernel)
theorem kc_X4_58 : Cond.classLink "MulesRemember" 58 "MulesRemember$Sightings" ∈ rg_tbl := rg_in 136 (by decide +kernel) (by decide +kernel)
theorem kt_X1 : Cond.instantiable "MulesRemember$Sightings" 6 ∈ rg_tbl := rg_in 137 (by decide +kernel) (by decide +kernel)
theorem kn_X4_60 : Cond.methodLinkNest "MulesRemember" 60 yX1_init "MulesRemember" ∈ nk_tbl := nk_in 138 (by decide +kernel) (by decide +kernel)
theorem km_X1_init : Cond.instanceMethod yX1_init ∈ rg_tbl := rg_in 139 (by decide +kernel) (by decide +kernel)
theorem kd_X1_init : Cond.code yX1_init cX1_init 1 none ∈ rg_tbl := rg_in 140 (by decide +kernel) (by decide +kernel)
theorem kw_X1_3 : Cond.methodLink "MulesRemember$Sightings" 3 objectInit ∈ rg_tbl := rg_in 141 (by decide +kernel) (by decide +kernel)
theorem kw_X1_9 : Cond.fieldLink "MulesRemember$Sightings" 9 "MulesRemember$Sightings" "stone" "[I" ∈ rg_tbl := rg_in 142 (by decide +kernel) (by decide +kernel)
theorem kw_X1_15 : Cond.fieldLink "MulesRemember$Sightings" 15 "MulesRemember$Sightings" "coat" "[I" ∈ rg_tbl := rg_in 143 (by decide +kernel) (by decide +kernel)
theorem kw_X1_18 : Cond.fieldLink "MulesRemember$Sightings" 18 "MulesRemember$Sightings" "hour" "[I" ∈ rg_tbl := rg_in 144 (by decide +kernel) (by decide +kernel)
theorem kw_X1_21 : Cond.fieldLink "MulesRemember$Sightings" 21 "MulesRemember$Sightings" "south" "[I" ∈ rg_tbl := rg_in 145 (by decide +kernel) (by decide +kernel)
theorem kw_X1_24 : Cond.fieldLink "MulesRemember$Sightings" 24 "MulesRemember$Sightings" "balked" "[I" ∈ rg_tbl := rg_in 146 (by decide +kernel) (by decide +kernel)
theorem kw_X1_27 : Cond.fieldLink "MulesRemember$Sightings" 27 "MulesRemember$Sightings" "count" "I" ∈ rg_tbl := rg_in 147 (by decide +kernel) (by decide +kernel)
theorem kn_X4_96 : Cond.fieldLinkNest "MulesRemember" 96 "MulesRemember$Sightings" "count" "I" "MulesRemember" ∈ nk_tbl := nk_in 148 (by decide +kernel) (by decide +kernel)
theorem ka_boolean : Cond.arrayClass .boolean ∈ rg_tbl := rg_in 162 (by decide +kernel) (by decide +kernel)
theorem kw_X4_10 : Cond.fieldLink "MulesRemember" 10 "MulesRemember" "text" "LMulesRemember$Text;" ∈ rg_tbl := rg_in 163 (by decide +kernel) (by decide +kernel)
theorem kw_X4_19 : Cond.fieldLink "MulesRemember" 19 "MulesRemember" "law" "LMulesRemember$Law;" ∈ rg_tbl := rg_in 164 (by decide +kernel) (by decide +kernel)
theorem kw_X4_23 : Cond.fieldLink "MulesRemember" 23 "MulesRemember" "coats" "[I" ∈ rg_tbl := rg_in 165 (by decide +kernel) (by decide +kernel)
theorem kw_X4_27 : Cond.fieldLink "MulesRemember" 27 "MulesRemember" "muleCount" "I" ∈ rg_tbl := rg_in 166 (by decide +kernel) (by decide +kernel)
theorem kw_X4_34 : Cond.fieldLink "MulesRemember" 34 "MulesRemember" "now" "LMulesRemember$State;" ∈ rg_tbl := rg_in 167 (by decide +kernel) (by decide +kernel)
theorem kw_X4_38 : Cond.fieldLink "MulesRemember" 38 "MulesRemember" "tried" "LMulesRemember$State;" ∈ rg_tbl := rg_in 168 (by decide +kernel) (by decide +kernel)
theorem kw_X4_41 : Cond.fieldLink "MulesRemember" 41 "MulesRemember" "acts" "[LMulesRemember$State;" ∈ rg_tbl := rg_in 169 (by decide +kernel) (by decide +kernel)
theorem kw_X4_45 : Cond.fieldLink "MulesRemember" 45 "MulesRemember" "firstAct" "I" ∈ rg_tbl := rg_in 170 (by decide +kernel) (by decide +kernel)
theorem kw_X4_48 : Cond.fieldLink "MulesRemember" 48 "MulesRemember" "actCount" "I" ∈ rg_tbl := rg_in 171 (by decide +kernel) (by decide +kernel)
theorem kw_X4_51 : Cond.fieldLink "MulesRemember" 51 "MulesRemember" "slots" "[LMulesRemember$State;" ∈ rg_tbl := rg_in 172 (by decide +kernel) (by decide +kernel)
theorem kw_X4_54 : Cond.fieldLink "MulesRemember" 54 "MulesRemember" "kept" "[Z" ∈ rg_tbl := rg_in 173 (by decide +kernel) (by decide +kernel)
theorem kw_X4_61 : Cond.fieldLink "MulesRemember" 61 "MulesRemember" "sightings" "LMulesRemember$Sightings;" ∈ rg_tbl := rg_in 174 (by decide +kernel) (by decide +kernel)
theorem kw_X4_65 : Cond.fieldLink "MulesRemember" 65 "MulesRemember" "tally" "[I" ∈ rg_tbl := rg_in 175 (by decide +kernel) (by decide +kernel)
theorem kw_X4_68 : Cond.fieldLink "MulesRemember" 68 "MulesRemember" "theSeed" "J" ∈ rg_tbl := rg_in 176 (by decide +kernel) (by decide +kernel)
theorem kw_L_13 : Cond.methodLink "MulesRememberLaw" 13 yX4_write ∈ rg_tbl := rg_in 206 (by decide +kernel) (by decide +kernel)
theorem km_X4_write : Cond.instanceMethod yX4_write ∈ rg_tbl := rg_in 207 (by decide +kernel) (by decide +kernel)
theorem kl_X4_write : Cond.selects "MulesRemember" yX4_write yX4_write ∈ rg_tbl := rg_in 208 (by decide +kernel) (by decide +kernel)
theorem kd_X4_write : Cond.code yX4_write cX4_write 2 (some .int) ∈ rg_tbl := rg_in 209 (by decide +kernel) (by decide +kernel)
theorem kn_X4_72 : Cond.methodLinkNest "MulesRemember" 72 yX3_put "MulesRemember" ∈ nk_tbl := nk_in 210 (by decide +kernel) (by decide +kernel)
theorem km_X3_put : Cond.instanceMethod yX3_put ∈ rg_tbl := rg_in 212 (by decide +kernel) (by decide +kernel)
theorem kd_X3_put : Cond.code yX3_put cX3_put 2 (some .boolean) ∈ rg_tbl := rg_in 213 (by decide +kernel) (by decide +kernel)
theorem kw_L_18 : Cond.methodLink "MulesRememberLaw" 18 yX4_wipe ∈ rg_tbl := rg_in 214 (by decide +kernel) (by decide +kernel)
theorem km_X4_wipe : Cond.instanceMethod yX4_wipe ∈ rg_tbl := rg_in 215 (by decide +kernel) (by decide +kernel)
theorem kl_X4_wipe : Cond.selects "MulesRemember" yX4_wipe yX4_wipe ∈ rg_tbl := rg_in 216 (by decide +kernel) (by decide +kernel)
theorem kd_X4_wipe : Cond.code yX4_wipe cX4_wipe 2 (some .int) ∈ rg_tbl := rg_in 217 (by decide +kernel) (by decide +kernel)
theorem kw_L_23 : Cond.methodLink "MulesRememberLaw" 23 yX4_fault ∈ rg_tbl := rg_in 218 (by decide +kernel) (by decide +kernel)
theorem km_X4_fault : Cond.instanceMethod yX4_fault ∈ rg_tbl := rg_in 219 (by decide +kernel) (by decide +kernel)
theorem kl_X4_fault : Cond.selects "MulesRemember" yX4_fault yX4_fault ∈ rg_tbl := rg_in 220 (by decide +kernel) (by decide +kernel)
theorem kd_X4_fault : Cond.code yX4_fault cX4_fault 1 (some .int) ∈ rg_tbl := rg_in 221 (by decide +kernel) (by decide +kernel)
theorem kn_X4_79 : Cond.methodLinkNest "MulesRemember" 79 yX3_firstFault "MulesRemember" ∈ nk_tbl := nk_in 222 (by decide +kernel) (by decide +kernel)
theorem km_X3_firstFault : Cond.instanceMethod yX3_firstFault ∈ rg_tbl := rg_in 224 (by decide +kernel) (by decide +kernel)
theorem kd_X3_firstFault : Cond.code yX3_firstFault cX3_firstFault 8 (some .int) ∈ rg_tbl := rg_in 225 (by decide +kernel) (by decide +kernel)
theorem kw_X3_19 : Cond.methodLink "MulesRemember$Text" 19 yX3_letter ∈ rg_tbl := rg_in 226 (by decide +kernel) (by decide +kernel)
theorem km_X3_letter : Cond.instanceMethod yX3_letter ∈ rg_tbl := rg_in 228 (by decide +kernel) (by decide +kernel)
theorem kd_X3_letter : Cond.code yX3_letter cX3_letter 2 (some .int) ∈ rg_tbl := rg_in 229 (by decide +kernel) (by decide +kernel)
theorem kw_X3_23 : Cond.methodLink "MulesRemember$Text" 23 yX3_figuresAt ∈ rg_tbl := rg_in 230 (by decide +kernel) (by decide +kernel)
theorem ks_X3_figuresAt : Cond.static yX3_figuresAt ∈ rg_tbl := rg_in 231 (by decide +kernel) (by decide +kernel)
theorem kd_X3_figuresAt : Cond.code yX3_figuresAt cX3_figuresAt 2 (some .int) ∈ rg_tbl := rg_in 232 (by decide +kernel) (by decide +kernel)
theorem kw_L_27 : Cond.methodLink "MulesRememberLaw" 27 yX4_treaty ∈ rg_tbl := rg_in 233 (by decide +kernel) (by decide +kernel)
theorem km_X4_treaty : Cond.instanceMethod yX4_treaty ∈ rg_tbl := rg_in 234 (by decide +kernel) (by decide +kernel)
theorem kl_X4_treaty : Cond.selects "MulesRemember" yX4_treaty yX4_treaty ∈ rg_tbl := rg_in 235 (by decide +kernel) (by decide +kernel)
theorem kd_X4_treaty : Cond.code yX4_treaty cX4_treaty 2 (some .int) ∈ rg_tbl := rg_in 236 (by decide +kernel) (by decide +kernel)
theorem kw_X4_92 : Cond.methodLink "MulesRemember" 92 yX4_readPart ∈ rg_tbl := rg_in 237 (by decide +kernel) (by decide +kernel)
theorem km_X4_readPart : Cond.instanceMethod yX4_readPart ∈ rg_tbl := rg_in 239 (by decide +kernel) (by decide +kernel)
theorem kd_X4_readPart : Cond.code yX4_readPart cX4_readPart 5 none ∈ rg_tbl := rg_in 240 (by decide +kernel) (by decide +kernel)
theorem kn_X4_221 : Cond.methodLinkNest "MulesRemember" 221 yX3_figure "MulesRemember" ∈ nk_tbl := nk_in 241 (by decide +kernel) (by decide +kernel)
theorem km_X3_figure : Cond.instanceMethod yX3_figure ∈ rg_tbl := rg_in 243 (by decide +kernel) (by decide +kernel)
theorem kd_X3_figure : Cond.code yX3_figure cX3_figure 2 (some .int) ∈ rg_tbl := rg_in 244 (by decide +kernel) (by decide +kernel)
theorem kn_X4_224 : Cond.methodLinkNest "MulesRemember" 224 yX3_letter "MulesRemember" ∈ nk_tbl := nk_in 245 (by decide +kernel) (by decide +kernel)
theorem kn_X4_227 : Cond.methodLinkNest "MulesRemember" 227 yX0_add "MulesRemember" ∈ nk_tbl := nk_in 246 (by decide +kernel) (by decide +kernel)
theorem km_X0_add : Cond.instanceMethod yX0_add ∈ rg_tbl := rg_in 248 (by decide +kernel) (by decide +kernel)
theorem kd_X0_add : Cond.code yX0_add cX0_add 4 none ∈ rg_tbl := rg_in 249 (by decide +kernel) (by decide +kernel)
theorem kw_L_31 : Cond.methodLink "MulesRememberLaw" 31 yX4_about ∈ rg_tbl := rg_in 250 (by decide +kernel) (by decide +kernel)
theorem km_X4_about : Cond.instanceMethod yX4_about ∈ rg_tbl := rg_in 251 (by decide +kernel) (by decide +kernel)
theorem kl_X4_about : Cond.selects "MulesRemember" yX4_about yX4_about ∈ rg_tbl := rg_in 252 (by decide +kernel) (by decide +kernel)
theorem kd_X4_about : Cond.code yX4_about cX4_about 2 (some .int) ∈ rg_tbl := rg_in 253 (by decide +kernel) (by decide +kernel)
theorem kw_L_35 : Cond.methodLink "MulesRememberLaw" 35 yX4_article ∈ rg_tbl := rg_in 254 (by decide +kernel) (by decide +kernel)
theorem km_X4_article : Cond.instanceMethod yX4_article ∈ rg_tbl := rg_in 255 (by decide +kernel) (by decide +kernel)
theorem kl_X4_article : Cond.selects "MulesRemember" yX4_article yX4_article ∈ rg_tbl := rg_in 256 (by decide +kernel) (by decide +kernel)
theorem kd_X4_article : Cond.code yX4_article cX4_article 3 (some .int) ∈ rg_tbl := rg_in 257 (by decide +kernel) (by decide +kernel)
theorem kw_X4_97 : Cond.methodLink "MulesRemember" 97 yX4_isArticle ∈ rg_tbl := rg_in 258 (by decide +kernel) (by decide +kernel)
theorem km_X4_isArticle : Cond.instanceMethod yX4_isArticle ∈ rg_tbl := rg_in 260 (by decide +kernel) (by decide +kernel)
theorem kd_X4_isArticle : Cond.code yX4_isArticle cX4_isArticle 2 (some .boolean) ∈ rg_tbl := rg_in 261 (by decide +kernel) (by decide +kernel)
theorem kw_X4_109 : Cond.methodLink "MulesRemember" 109 yX4_mulesThatKnow ∈ rg_tbl := rg_in 262 (by decide +kernel) (by decide +kernel)
theorem km_X4_mulesThatKnow : Cond.instanceMethod yX4_mulesThatKnow ∈ rg_tbl := rg_in 264 (by decide +kernel) (by decide +kernel)
theorem kd_X4_mulesThatKnow : Cond.code yX4_mulesThatKnow cX4_mulesThatKnow 4 (some .int) ∈ rg_tbl := rg_in 265 (by decide +kernel) (by decide +kernel)
theorem kw_X4_123 : Cond.methodLink "MulesRemember" 123 yX4_known ∈ rg_tbl := rg_in 266 (by decide +kernel) (by decide +kernel)
theorem km_X4_known : Cond.instanceMethod yX4_known ∈ rg_tbl := rg_in 268 (by decide +kernel) (by decide +kernel)
theorem kd_X4_known : Cond.code yX4_known cX4_known 3 (some .int) ∈ rg_tbl := rg_in 269 (by decide +kernel) (by decide +kernel)
theorem kw_X4_113 : Cond.methodLink "MulesRemember" 113 yX4_isMule ∈ rg_tbl := rg_in 270 (by decide +kernel) (by decide +kernel)
theorem km_X4_isMule : Cond.instanceMethod yX4_isMule ∈ rg_tbl := rg_in 272 (by decide +kernel) (by decide +kernel)
theorem kd_X4_isMule : Cond.code yX4_isMule cX4_isMule 2 (some .boolean) ∈ rg_tbl := rg_in 273 (by decide +kernel) (by decide +kernel)
theorem kw_X4_230 : Cond.methodLink "MulesRemember" 230 yX4_knownIfShown ∈ rg_tbl := rg_in 274 (by decide +kernel) (by decide +kernel)
theorem km_X4_knownIfShown : Cond.instanceMethod yX4_knownIfShown ∈ rg_tbl := rg_in 276 (by decide +kernel) (by decide +kernel)
theorem kd_X4_knownIfShown : Cond.code yX4_knownIfShown cX4_knownIfShown 4 (some .int) ∈ rg_tbl := rg_in 277 (by decide +kernel) (by decide +kernel)
theorem kn_X4_164 : Cond.methodLinkNest "MulesRemember" 164 yX0_all "MulesRemember" ∈ nk_tbl := nk_in 278 (by decide +kernel) (by decide +kernel)
theorem km_X0_all : Cond.instanceMethod yX0_all ∈ rg_tbl := rg_in 280 (by decide +kernel) (by decide +kernel)
theorem kd_X0_all : Cond.code yX0_all cX0_all 1 (some .int) ∈ rg_tbl := rg_in 281 (by decide +kernel) (by decide +kernel)
theorem kn_X4_233 : Cond.methodLinkNest "MulesRemember" 233 yX0_last "MulesRemember" ∈ nk_tbl := nk_in 282 (by decide +kernel) (by decide +kernel)
theorem km_X0_last : Cond.instanceMethod yX0_last ∈ rg_tbl := rg_in 284 (by decide +kernel) (by decide +kernel)
theorem kd_X0_last : Cond.code yX0_last cX0_last 1 (some .int) ∈ rg_tbl := rg_in 285 (by decide +kernel) (by decide +kernel)
theorem kw_L_40 : Cond.methodLink "MulesRememberLaw" 40 yX4_mule ∈ rg_tbl := rg_in 286 (by decide +kernel) (by decide +kernel)
theorem km_X4_mule : Cond.instanceMethod yX4_mule ∈ rg_tbl := rg_in 287 (by decide +kernel) (by decide +kernel)
theorem kl_X4_mule : Cond.selects "MulesRemember" yX4_mule yX4_mule ∈ rg_tbl := rg_in 288 (by decide +kernel) (by decide +kernel)
theorem kd_X4_mule : Cond.code yX4_mule cX4_mule 3 (some .int) ∈ rg_tbl := rg_in 289 (by decide +kernel) (by decide +kernel)
theorem kw_L_44 : Cond.methodLink "MulesRememberLaw" 44 yX4_by ∈ rg_tbl := rg_in 290 (by decide +kernel) (by decide +kernel)
theorem km_X4_by : Cond.instanceMethod yX4_by ∈ rg_tbl := rg_in 291 (by decide +kernel) (by decide +kernel)
theorem kl_X4_by : Cond.selects "MulesRemember" yX4_by yX4_by ∈ rg_tbl := rg_in 292 (by decide +kernel) (by decide +kernel)
theorem kd_X4_by : Cond.code yX4_by cX4_by 4 (some .int) ∈ rg_tbl := rg_in 293 (by decide +kernel) (by decide +kernel)
theorem kw_X4_127 : Cond.methodLink "MulesRemember" 127 yX4_stepRefusal ∈ rg_tbl := rg_in 294 (by decide +kernel) (by decide +kernel)
theorem km_X4_stepRefusal : Cond.instanceMethod yX4_stepRefusal ∈ rg_tbl := rg_in 296 (by decide +kernel) (by decide +kernel)
theorem kd_X4_stepRefusal : Cond.code yX4_stepRefusal cX4_stepRefusal 3 (some .int) ∈ rg_tbl := rg_in 297 (by decide +kernel) (by decide +kernel)
theorem kw_X4_185 : Cond.methodLink "MulesRemember" 185 yX4_isFlag ∈ rg_tbl := rg_in 298 (by decide +kernel) (by decide +kernel)
theorem ks_X4_isFlag : Cond.static yX4_isFlag ∈ rg_tbl := rg_in 299 (by decide +kernel) (by decide +kernel)
theorem kd_X4_isFlag : Cond.code yX4_isFlag cX4_isFlag 1 (some .boolean) ∈ rg_tbl := rg_in 300 (by decide +kernel) (by decide +kernel)
theorem kw_X4_236 : Cond.methodLink "MulesRemember" 236 yX4_nextStone ∈ rg_tbl := rg_in 301 (by decide +kernel) (by decide +kernel)
theorem ks_X4_nextStone : Cond.static yX4_nextStone ∈ rg_tbl := rg_in 302 (by decide +kernel) (by decide +kernel)
theorem kd_X4_nextStone : Cond.code yX4_nextStone cX4_nextStone 2 (some .int) ∈ rg_tbl := rg_in 303 (by decide +kernel) (by decide +kernel)
theorem kw_X4_161 : Cond.methodLink "MulesRemember" 161 yX4_isStone ∈ rg_tbl := rg_in 304 (by decide +kernel) (by decide +kernel)
theorem ks_X4_isStone : Cond.static yX4_isStone ∈ rg_tbl := rg_in 305 (by decide +kernel) (by decide +kernel)
theorem kd_X4_isStone : Cond.code yX4_isStone cX4_isStone 1 (some .boolean) ∈ rg_tbl := rg_in 306 (by decide +kernel) (by decide +kernel)
theorem kw_X4_131 : Cond.methodLink "MulesRemember" 131 yX4_forbidders ∈ rg_tbl := rg_in 307 (by decide +kernel) (by decide +kernel)
theorem km_X4_forbidders : Cond.instanceMethod yX4_forbidders ∈ rg_tbl := rg_in 309 (by decide +kernel) (by decide +kernel)
theorem kd_X4_forbidders : Cond.code yX4_forbidders cX4_forbidders 4 (some .int) ∈ rg_tbl := rg_in 310 (by decide +kernel) (by decide +kernel)
theorem kw_X4_239 : Cond.methodLink "MulesRemember" 239 yX4_forbiddersFrom ∈ rg_tbl := rg_in 311 (by decide +kernel) (by decide +kernel)
theorem km_X4_forbiddersFrom : Cond.instanceMethod yX4_forbiddersFrom ∈ rg_tbl := rg_in 313 (by decide +kernel) (by decide +kernel)
theorem kd_X4_forbiddersFrom : Cond.code yX4_forbiddersFrom cX4_forbiddersFrom 10 (some .int) ∈ rg_tbl := rg_in 314 (by decide +kernel) (by decide +kernel)
theorem kw_X4_243 : Cond.methodLink "MulesRemember" 243 yX4_othersFromNorthOf ∈ rg_tbl := rg_in 315 (by decide +kernel) (by decide +kernel)
theorem km_X4_othersFromNorthOf : Cond.instanceMethod yX4_othersFromNorthOf ∈ rg_tbl := rg_in 317 (by decide +kernel) (by decide +kernel)
theorem kd_X4_othersFromNorthOf : Cond.code yX4_othersFromNorthOf cX4_othersFromNorthOf 6 (some .int) ∈ rg_tbl := rg_in 318 (by decide +kernel) (by decide +kernel)
theorem kn_X4_246 : Cond.methodLinkNest "MulesRemember" 246 yX0_forbids "MulesRemember" ∈ nk_tbl := nk_in 319 (by decide +kernel) (by decide +kernel)
theorem km_X0_forbids : Cond.instanceMethod yX0_forbids ∈ rg_tbl := rg_in 321 (by decide +kernel) (by decide +kernel)
theorem kd_X0_forbids : Cond.code yX0_forbids cX0_forbids 7 (some .boolean) ∈ rg_tbl := rg_in 322 (by decide +kernel) (by decide +kernel)
theorem kw_X0_25 : Cond.methodLink "MulesRemember$Law" 25 yX0_forbidsAlone ∈ rg_tbl := rg_in 323 (by decide +kernel) (by decide +kernel)
theorem ks_X0_forbidsAlone : Cond.static yX0_forbidsAlone ∈ rg_tbl := rg_in 324 (by decide +kernel) (by decide +kernel)
theorem kd_X0_forbidsAlone : Cond.code yX0_forbidsAlone cX0_forbidsAlone 5 (some .boolean) ∈ rg_tbl := rg_in 325 (by decide +kernel) (by decide +kernel)
theorem kw_L_48 : Cond.methodLink "MulesRememberLaw" 48 yX4_balks ∈ rg_tbl := rg_in 326 (by decide +kernel) (by decide +kernel)
theorem km_X4_balks : Cond.instanceMethod yX4_balks ∈ rg_tbl := rg_in 327 (by decide +kernel) (by decide +kernel)
theorem kl_X4_balks : Cond.selects "MulesRemember" yX4_balks yX4_balks ∈ rg_tbl := rg_in 328 (by decide +kernel) (by decide +kernel)
theorem kd_X4_balks : Cond.code yX4_balks cX4_balks 4 (some .int) ∈ rg_tbl := rg_in 329 (by decide +kernel) (by decide +kernel)
theorem kw_X4_135 : Cond.methodLink "MulesRemember" 135 yX4_balkers ∈ rg_tbl := rg_in 330 (by decide +kernel) (by decide +kernel)
theorem km_X4_balkers : Cond.instanceMethod yX4_balkers ∈ rg_tbl := rg_in 332 (by decide +kernel) (by decide +kernel)
theorem kd_X4_balkers : Cond.code yX4_balkers cX4_balkers 5 (some .int) ∈ rg_tbl := rg_in 333 (by decide +kernel) (by decide +kernel)
theorem kw_X4_138 : Cond.methodLink "MulesRemember" 138 yX4_firstOf ∈ rg_tbl := rg_in 334 (by decide +kernel) (by decide +kernel)
theorem ks_X4_firstOf : Cond.static yX4_firstOf ∈ rg_tbl := rg_in 335 (by decide +kernel) (by decide +kernel)
theorem kd_X4_firstOf : Cond.code yX4_firstOf cX4_firstOf 2 (some .int) ∈ rg_tbl := rg_in 336 (by decide +kernel) (by decide +kernel)
theorem kw_L_52 : Cond.methodLink "MulesRememberLaw" 52 yX4_step ∈ rg_tbl := rg_in 337 (by decide +kernel) (by decide +kernel)
theorem km_X4_step : Cond.instanceMethod yX4_step ∈ rg_tbl := rg_in 338 (by decide +kernel) (by decide +kernel)
theorem kl_X4_step : Cond.selects "MulesRemember" yX4_step yX4_step ∈ rg_tbl := rg_in 339 (by decide +kernel) (by decide +kernel)
theorem kd_X4_step : Cond.code yX4_step cX4_step 4 (some .int) ∈ rg_tbl := rg_in 340 (by decide +kernel) (by decide +kernel)
theorem kw_X4_141 : Cond.methodLink "MulesRemember" 141 yX4_wouldGo ∈ rg_tbl := rg_in 341 (by decide +kernel) (by decide +kernel)
theorem km_X4_wouldGo : Cond.instanceMethod yX4_wouldGo ∈ rg_tbl := rg_in 343 (by decide +kernel) (by decide +kernel)
theorem kd_X4_wouldGo : Cond.code yX4_wouldGo cX4_wouldGo 5 (some .boolean) ∈ rg_tbl := rg_in 344 (by decide +kernel) (by decide +kernel)
theorem kw_X4_145 : Cond.methodLink "MulesRemember" 145 yX4_rememberAct ∈ rg_tbl := rg_in 345 (by decide +kernel) (by decide +kernel)
theorem km_X4_rememberAct : Cond.instanceMethod yX4_rememberAct ∈ rg_tbl := rg_in 347 (by decide +kernel) (by decide +kernel)
theorem kd_X4_rememberAct : Cond.code yX4_rememberAct cX4_rememberAct 1 none ∈ rg_tbl := rg_in 348 (by decide +kernel) (by decide +kernel)
theorem kw_X4_157 : Cond.methodLink "MulesRemember" 157 yX4_copyState ∈ rg_tbl := rg_in 349 (by decide +kernel) (by decide +kernel)
theorem ks_X4_copyState : Cond.static yX4_copyState ∈ rg_tbl := rg_in 350 (by decide +kernel) (by decide +kernel)
theorem kd_X4_copyState : Cond.code yX4_copyState cX4_copyState 3 none ∈ rg_tbl := rg_in 351 (by decide +kernel) (by decide +kernel)
theorem kw_X4_148 : Cond.methodLink "MulesRemember" 148 yX4_go ∈ rg_tbl := rg_in 352 (by decide +kernel) (by decide +kernel)
theorem km_X4_go : Cond.instanceMethod yX4_go ∈ rg_tbl := rg_in 354 (by decide +kernel) (by decide +kernel)
theorem kd_X4_go : Cond.code yX4_go cX4_go 5 none ∈ rg_tbl := rg_in 355 (by decide +kernel) (by decide +kernel)
theorem kw_X4_152 : Cond.methodLink "MulesRemember" 152 yJ6_bitCount_0f7a4 ∈ rg_tbl := rg_in 356 (by decide +kernel) (by decide +kernel)
theorem ks_J6_bitCount_0f7a4 : Cond.static yJ6_bitCount_0f7a4 ∈ rg_tbl := rg_in 357 (by decide +kernel) (by decide +kernel)
theorem kd_J6_bitCount_0f7a4 : Cond.code yJ6_bitCount_0f7a4 cJ6_bitCount_0f7a4 1 (some .int) ∈ rg_tbl := rg_in 358 (by decide +kernel) (by decide +kernel)
theorem kw_J6_265 : Cond.constant "java/lang/Integer" 265 1431655765 ∈ rg_tbl := rg_in 359 (by decide +kernel) (by decide +kernel)
theorem kw_J6_266 : Cond.constant "java/lang/Integer" 266 858993459 ∈ rg_tbl := rg_in 360 (by decide +kernel) (by decide +kernel)
theorem kw_J6_267 : Cond.constant "java/lang/Integer" 267 252645135 ∈ rg_tbl := rg_in 361 (by decide +kernel) (by decide +kernel)
theorem kw_L_56 : Cond.methodLink "MulesRememberLaw" 56 yX4_pause ∈ rg_tbl := rg_in 362 (by decide +kernel) (by decide +kernel)
theorem km_X4_pause : Cond.instanceMethod yX4_pause ∈ rg_tbl := rg_in 363 (by decide +kernel) (by decide +kernel)
theorem kl_X4_pause : Cond.selects "MulesRemember" yX4_pause yX4_pause ∈ rg_tbl := rg_in 364 (by decide +kernel) (by decide +kernel)
theorem kd_X4_pause : Cond.code yX4_pause cX4_pause 1 (some .int) ∈ rg_tbl := rg_in 365 (by decide +kernel) (by decide +kernel)
theorem kw_L_60 : Cond.methodLink "MulesRememberLaw" 60 yX4_show ∈ rg_tbl := rg_in 366 (by decide +kernel) (by decide +kernel)
theorem km_X4_show : Cond.instanceMethod yX4_show ∈ rg_tbl := rg_in 367 (by decide +kernel) (by decide +kernel)
theorem kl_X4_show : Cond.selects "MulesRemember" yX4_show yX4_show ∈ rg_tbl := rg_in 368 (by decide +kernel) (by decide +kernel)
theorem kd_X4_show : Cond.code yX4_show cX4_show 6 (some .int) ∈ rg_tbl := rg_in 369 (by decide +kernel) (by decide +kernel)
theorem kw_L_65 : Cond.methodLink "MulesRememberLaw" 65 yX4_sell ∈ rg_tbl := rg_in 370 (by decide +kernel) (by decide +kernel)
theorem km_X4_sell : Cond.instanceMethod yX4_sell ∈ rg_tbl := rg_in 371 (by decide +kernel) (by decide +kernel)
theorem kl_X4_sell : Cond.selects "MulesRemember" yX4_sell yX4_sell ∈ rg_tbl := rg_in 372 (by decide +kernel) (by decide +kernel)
theorem kd_X4_sell : Cond.code yX4_sell cX4_sell 3 (some .int) ∈ rg_tbl := rg_in 373 (by decide +kernel) (by decide +kernel)
theorem kw_L_69 : Cond.methodLink "MulesRememberLaw" 69 yX4_forget ∈ rg_tbl := rg_in 374 (by decide +kernel) (by decide +kernel)
theorem km_X4_forget : Cond.instanceMethod yX4_forget ∈ rg_tbl := rg_in 375 (by decide +kernel) (by decide +kernel)
theorem kl_X4_forget : Cond.selects "MulesRemember" yX4_forget yX4_forget ∈ rg_tbl := rg_in 376 (by decide +kernel) (by decide +kernel)
theorem kd_X4_forget : Cond.code yX4_forget cX4_forget 3 (some .int) ∈ rg_tbl := rg_in 377 (by decide +kernel) (by decide +kernel)
theorem kw_L_73 : Cond.methodLink "MulesRememberLaw" 73 yX4_undo ∈ rg_tbl := rg_in 378 (by decide +kernel) (by decide +kernel)
theorem km_X4_undo : Cond.instanceMethod yX4_undo ∈ rg_tbl := rg_in 379 (by decide +kernel) (by decide +kernel)
theorem kl_X4_undo : Cond.selects "MulesRemember" yX4_undo yX4_undo ∈ rg_tbl := rg_in 380 (by decide +kernel) (by decide +kernel)
theorem kd_X4_undo : Cond.code yX4_undo cX4_undo 1 (some .int) ∈ rg_tbl := rg_in 381 (by decide +kernel) (by decide +kernel)
theorem kw_L_77 : Cond.methodLink "MulesRememberLaw" 77 yX4_way ∈ rg_tbl := rg_in 382 (by decide +kernel) (by decide +kernel)
theorem km_X4_way : Cond.instanceMethod yX4_way ∈ rg_tbl := rg_in 383 (by decide +kernel) (by decide +kernel)
theorem kl_X4_way : Cond.selects "MulesRemember" yX4_way yX4_way ∈ rg_tbl := rg_in 384 (by decide +kernel) (by decide +kernel)
theorem kd_X4_way : Cond.code yX4_way cX4_way 7 (some .int) ∈ rg_tbl := rg_in 385 (by decide +kernel) (by decide +kernel)
theorem kw_X4_167 : Cond.methodLink "MulesRemember" 167 yX4_spread ∈ rg_tbl := rg_in 386 (by decide +kernel) (by decide +kernel)
theorem km_X4_spread : Cond.instanceMethod yX4_spread ∈ rg_tbl := rg_in 388 (by decide +kernel) (by decide +kernel)
theorem kd_X4_spread : Cond.code yX4_spread cX4_spread 9 (some .int) ∈ rg_tbl := rg_in 389 (by decide +kernel) (by decide +kernel)
theorem kw_L_82 : Cond.methodLink "MulesRememberLaw" 82 yX4_enclaves ∈ rg_tbl := rg_in 390 (by decide +kernel) (by decide +kernel)
theorem km_X4_enclaves : Cond.instanceMethod yX4_enclaves ∈ rg_tbl := rg_in 391 (by decide +kernel) (by decide +kernel)
theorem kl_X4_enclaves : Cond.selects "MulesRemember" yX4_enclaves yX4_enclaves ∈ rg_tbl := rg_in 392 (by decide +kernel) (by decide +kernel)
theorem kd_X4_enclaves : Cond.code yX4_enclaves cX4_enclaves 5 (some .int) ∈ rg_tbl := rg_in 393 (by decide +kernel) (by decide +kernel)
theorem kw_L_86 : Cond.methodLink "MulesRememberLaw" 86 yX4_teach ∈ rg_tbl := rg_in 394 (by decide +kernel) (by decide +kernel)
theorem km_X4_teach : Cond.instanceMethod yX4_teach ∈ rg_tbl := rg_in 395 (by decide +kernel) (by decide +kernel)
theorem kl_X4_teach : Cond.selects "MulesRemember" yX4_teach yX4_teach ∈ rg_tbl := rg_in 396 (by decide +kernel) (by decide +kernel)
theorem kd_X4_teach : Cond.code yX4_teach cX4_teach 7 (some .int) ∈ rg_tbl := rg_in 397 (by decide +kernel) (by decide +kernel)
theorem kw_X4_171 : Cond.methodLink "MulesRemember" 171 yX4_keepsAllIfShown ∈ rg_tbl := rg_in 398 (by decide +kernel) (by decide +kernel)
theorem km_X4_keepsAllIfShown : Cond.instanceMethod yX4_keepsAllIfShown ∈ rg_tbl := rg_in 400 (by decide +kernel) (by decide +kernel)
theorem kd_X4_keepsAllIfShown : Cond.code yX4_keepsAllIfShown cX4_keepsAllIfShown 6 (some .boolean) ∈ rg_tbl := rg_in 401 (by decide +kernel) (by decide +kernel)
theorem kw_L_90 : Cond.methodLink "MulesRememberLaw" 90 yX4_differ ∈ rg_tbl := rg_in 402 (by decide +kernel) (by decide +kernel)
theorem km_X4_differ : Cond.instanceMethod yX4_differ ∈ rg_tbl := rg_in 403 (by decide +kernel) (by decide +kernel)
theorem kl_X4_differ : Cond.selects "MulesRemember" yX4_differ yX4_differ ∈ rg_tbl := rg_in 404 (by decide +kernel) (by decide +kernel)
theorem kd_X4_differ : Cond.code yX4_differ cX4_differ 3 (some .int) ∈ rg_tbl := rg_in 405 (by decide +kernel) (by decide +kernel)
theorem kw_L_94 : Cond.methodLink "MulesRememberLaw" 94 yX4_judge ∈ rg_tbl := rg_in 406 (by decide +kernel) (by decide +kernel)
theorem km_X4_judge : Cond.instanceMethod yX4_judge ∈ rg_tbl := rg_in 407 (by decide +kernel) (by decide +kernel)
theorem kl_X4_judge : Cond.selects "MulesRemember" yX4_judge yX4_judge ∈ rg_tbl := rg_in 408 (by decide +kernel) (by decide +kernel)
theorem kd_X4_judge : Cond.code yX4_judge cX4_judge 6 (some .int) ∈ rg_tbl := rg_in 409 (by decide +kernel) (by decide +kernel)
theorem kw_X4_175 : Cond.methodLink "MulesRemember" 175 yX4_doneWithoutFault ∈ rg_tbl := rg_in 410 (by decide +kernel) (by decide +kernel)
theorem km_X4_doneWithoutFault : Cond.instanceMethod yX4_doneWithoutFault ∈ rg_tbl := rg_in 412 (by decide +kernel) (by decide +kernel)
theorem kd_X4_doneWithoutFault : Cond.code yX4_doneWithoutFault cX4_doneWithoutFault 5 (some .boolean) ∈ rg_tbl := rg_in 413 (by decide +kernel) (by decide +kernel)
theorem kw_L_98 : Cond.methodLink "MulesRememberLaw" 98 yX4_share ∈ rg_tbl := rg_in 414 (by decide +kernel) (by decide +kernel)
theorem km_X4_share : Cond.instanceMethod yX4_share ∈ rg_tbl := rg_in 415 (by decide +kernel) (by decide +kernel)
theorem kl_X4_share : Cond.selects "MulesRemember" yX4_share yX4_share ∈ rg_tbl := rg_in 416 (by decide +kernel) (by decide +kernel)
theorem kd_X4_share : Cond.code yX4_share cX4_share 6 (some .int) ∈ rg_tbl := rg_in 417 (by decide +kernel) (by decide +kernel)
theorem kw_X4_178 : Cond.methodLink "MulesRemember" 178 yX4_sixtiethsOfStep ∈ rg_tbl := rg_in 418 (by decide +kernel) (by decide +kernel)
theorem ks_X4_sixtiethsOfStep : Cond.static yX4_sixtiethsOfStep ∈ rg_tbl := rg_in 419 (by decide +kernel) (by decide +kernel)
theorem kd_X4_sixtiethsOfStep : Cond.code yX4_sixtiethsOfStep cX4_sixtiethsOfStep 3 (some .int) ∈ rg_tbl := rg_in 420 (by decide +kernel) (by decide +kernel)
theorem kw_X4_181 : Cond.methodLink "MulesRemember" 181 yX4_fractionPart ∈ rg_tbl := rg_in 421 (by decide +kernel) (by decide +kernel)
theorem ks_X4_fractionPart : Cond.static yX4_fractionPart ∈ rg_tbl := rg_in 422 (by decide +kernel) (by decide +kernel)
theorem kd_X4_fractionPart : Cond.code yX4_fractionPart cX4_fractionPart 7 (some .int) ∈ rg_tbl := rg_in 423 (by decide +kernel) (by decide +kernel)
theorem kw_L_103 : Cond.methodLink "MulesRememberLaw" 103 yX4_see ∈ rg_tbl := rg_in 424 (by decide +kernel) (by decide +kernel)
theorem km_X4_see : Cond.instanceMethod yX4_see ∈ rg_tbl := rg_in 425 (by decide +kernel) (by decide +kernel)
theorem kl_X4_see : Cond.selects "MulesRemember" yX4_see yX4_see ∈ rg_tbl := rg_in 426 (by decide +kernel) (by decide +kernel)
theorem kd_X4_see : Cond.code yX4_see cX4_see 6 (some .int) ∈ rg_tbl := rg_in 427 (by decide +kernel) (by decide +kernel)
theorem kn_X4_188 : Cond.methodLinkNest "MulesRemember" 188 yX1_add "MulesRemember" ∈ nk_tbl := nk_in 428 (by decide +kernel) (by decide +kernel)
theorem km_X1_add : Cond.instanceMethod yX1_add ∈ rg_tbl := rg_in 430 (by decide +kernel) (by decide +kernel)
theorem kd_X1_add : Cond.code yX1_add cX1_add 6 (some .boolean) ∈ rg_tbl := rg_in 431 (by decide +kernel) (by decide +kernel)
theorem kw_L_108 : Cond.methodLink "MulesRememberLaw" 108 yX4_unsee ∈ rg_tbl := rg_in 432 (by decide +kernel) (by decide +kernel)
theorem km_X4_unsee : Cond.instanceMethod yX4_unsee ∈ rg_tbl := rg_in 433 (by decide +kernel) (by decide +kernel)
theorem kl_X4_unsee : Cond.selects "MulesRemember" yX4_unsee yX4_unsee ∈ rg_tbl := rg_in 434 (by decide +kernel) (by decide +kernel)
theorem kd_X4_unsee : Cond.code yX4_unsee cX4_unsee 2 (some .int) ∈ rg_tbl := rg_in 435 (by decide +kernel) (by decide +kernel)
theorem kw_L_112 : Cond.methodLink "MulesRememberLaw" 112 yX4_may ∈ rg_tbl := rg_in 436 (by decide +kernel) (by decide +kernel)
theorem km_X4_may : Cond.instanceMethod yX4_may ∈ rg_tbl := rg_in 437 (by decide +kernel) (by decide +kernel)
theorem kl_X4_may : Cond.selects "MulesRemember" yX4_may yX4_may ∈ rg_tbl := rg_in 438 (by decide +kernel) (by decide +kernel)
theorem kd_X4_may : Cond.code yX4_may cX4_may 7 (some .int) ∈ rg_tbl := rg_in 439 (by decide +kernel) (by decide +kernel)
theorem kn_X4_192 : Cond.methodLinkNest "MulesRemember" 192 yX1_agreeWith "MulesRemember" ∈ nk_tbl := nk_in 440 (by decide +kernel) (by decide +kernel)
theorem km_X1_agreeWith : Cond.instanceMethod yX1_agreeWith ∈ rg_tbl := rg_in 442 (by decide +kernel) (by decide +kernel)
theorem kd_X1_agreeWith : Cond.code yX1_agreeWith cX1_agreeWith 6 (some .boolean) ∈ rg_tbl := rg_in 443 (by decide +kernel) (by decide +kernel)
theorem kn_X1_31 : Cond.methodLinkNest "MulesRemember$Sightings" 31 yX0_forbidsAlone "MulesRemember" ∈ nk_tbl := nk_in 444 (by decide +kernel) (by decide +kernel)
theorem kw_L_116 : Cond.methodLink "MulesRememberLaw" 116 yX4_rests ∈ rg_tbl := rg_in 445 (by decide +kernel) (by decide +kernel)
theorem km_X4_rests : Cond.instanceMethod yX4_rests ∈ rg_tbl := rg_in 446 (by decide +kernel) (by decide +kernel)
theorem kl_X4_rests : Cond.selects "MulesRemember" yX4_rests yX4_rests ∈ rg_tbl := rg_in 447 (by decide +kernel) (by decide +kernel)
theorem kd_X4_rests : Cond.code yX4_rests cX4_rests 7 (some .int) ∈ rg_tbl := rg_in 448 (by decide +kernel) (by decide +kernel)
theorem kw_X4_196 : Cond.methodLink "MulesRemember" 196 yX4_worthOfString ∈ rg_tbl := rg_in 449 (by decide +kernel) (by decide +kernel)
theorem km_X4_worthOfString : Cond.instanceMethod yX4_worthOfString ∈ rg_tbl := rg_in 451 (by decide +kernel) (by decide +kernel)
theorem kd_X4_worthOfString : Cond.code yX4_worthOfString cX4_worthOfString 4 (some .int) ∈ rg_tbl := rg_in 452 (by decide +kernel) (by decide +kernel)
theorem kw_X4_199 : Cond.methodLink "MulesRemember" 199 yX4_isContent ∈ rg_tbl := rg_in 453 (by decide +kernel) (by decide +kernel)
theorem ks_X4_isContent : Cond.static yX4_isContent ∈ rg_tbl := rg_in 454 (by decide +kernel) (by decide +kernel)
theorem kd_X4_isContent : Cond.code yX4_isContent cX4_isContent 3 (some .boolean) ∈ rg_tbl := rg_in 455 (by decide +kernel) (by decide +kernel)
theorem kw_X4_250 : Cond.methodLink "MulesRemember" 250 yX4_gain ∈ rg_tbl := rg_in 456 (by decide +kernel) (by decide +kernel)
theorem ks_X4_gain : Cond.static yX4_gain ∈ rg_tbl := rg_in 457 (by decide +kernel) (by decide +kernel)
theorem kd_X4_gain : Cond.code yX4_gain cX4_gain 3 (some .int) ∈ rg_tbl := rg_in 458 (by decide +kernel) (by decide +kernel)
theorem kw_L_120 : Cond.methodLink "MulesRememberLaw" 120 yX4_forgets ∈ rg_tbl := rg_in 459 (by decide +kernel) (by decide +kernel)
theorem km_X4_forgets : Cond.instanceMethod yX4_forgets ∈ rg_tbl := rg_in 460 (by decide +kernel) (by decide +kernel)
theorem kl_X4_forgets : Cond.selects "MulesRemember" yX4_forgets yX4_forgets ∈ rg_tbl := rg_in 461 (by decide +kernel) (by decide +kernel)
theorem kd_X4_forgets : Cond.code yX4_forgets cX4_forgets 8 (some .int) ∈ rg_tbl := rg_in 462 (by decide +kernel) (by decide +kernel)
theorem kw_X4_202 : Cond.methodLink "MulesRemember" 202 yX4_tenthsToBalk ∈ rg_tbl := rg_in 463 (by decide +kernel) (by decide +kernel)
theorem km_X4_tenthsToBalk : Cond.instanceMethod yX4_tenthsToBalk ∈ rg_tbl := rg_in 465 (by decide +kernel) (by decide +kernel)
theorem kd_X4_tenthsToBalk : Cond.code yX4_tenthsToBalk cX4_tenthsToBalk 7 (some .int) ∈ rg_tbl := rg_in 466 (by decide +kernel) (by decide +kernel)
theorem kw_X4_206 : Cond.methodLink "MulesRemember" 206 yX4_tallyMule ∈ rg_tbl := rg_in 467 (by decide +kernel) (by decide +kernel)
theorem km_X4_tallyMule : Cond.instanceMethod yX4_tallyMule ∈ rg_tbl := rg_in 469 (by decide +kernel) (by decide +kernel)
theorem kd_X4_tallyMule : Cond.code yX4_tallyMule cX4_tallyMule 3 none ∈ rg_tbl := rg_in 470 (by decide +kernel) (by decide +kernel)
theorem kw_L_127 : Cond.methodLink "MulesRememberLaw" 127 yX4_seed ∈ rg_tbl := rg_in 471 (by decide +kernel) (by decide +kernel)
theorem km_X4_seed : Cond.instanceMethod yX4_seed ∈ rg_tbl := rg_in 472 (by decide +kernel) (by decide +kernel)
theorem kl_X4_seed : Cond.selects "MulesRemember" yX4_seed yX4_seed ∈ rg_tbl := rg_in 473 (by decide +kernel) (by decide +kernel)
theorem kd_X4_seed : Cond.code yX4_seed cX4_seed 5 (some .long) ∈ rg_tbl := rg_in 474 (by decide +kernel) (by decide +kernel)
theorem kw_L_132 : Cond.methodLink "MulesRememberLaw" 132 yX4_years ∈ rg_tbl := rg_in 475 (by decide +kernel) (by decide +kernel)
theorem km_X4_years : Cond.instanceMethod yX4_years ∈ rg_tbl := rg_in 476 (by decide +kernel) (by decide +kernel)
theorem kl_X4_years : Cond.selects "MulesRemember" yX4_years yX4_years ∈ rg_tbl := rg_in 477 (by decide +kernel) (by decide +kernel)
theorem kd_X4_years : Cond.code yX4_years cX4_years 4 (some .int) ∈ rg_tbl := rg_in 478 (by decide +kernel) (by decide +kernel)
theorem kw_X4_209 : Cond.constantLong "MulesRemember" 209 (6364136223846793005) ∈ rg_tbl := rg_in 479 (by decide +kernel) (by decide +kernel)
theorem kw_X4_211 : Cond.constantLong "MulesRemember" 211 (1442695040888963407) ∈ rg_tbl := rg_in 480 (by decide +kernel) (by decide +kernel)
theorem kw_X4_213 : Cond.constantLong "MulesRemember" 213 (12) ∈ rg_tbl := rg_in 481 (by decide +kernel) (by decide +kernel)
theorem kw_X4_215 : Cond.methodLink "MulesRemember" 215 yX4_liveThrough ∈ rg_tbl := rg_in 482 (by decide +kernel) (by decide +kernel)
theorem km_X4_liveThrough : Cond.instanceMethod yX4_liveThrough ∈ rg_tbl := rg_in 484 (by decide +kernel) (by decide +kernel)
theorem kd_X4_liveThrough : Cond.code yX4_liveThrough cX4_liveThrough 4 none ∈ rg_tbl := rg_in 485 (by decide +kernel) (by decide +kernel)
theorem kw_L_136 : Cond.methodLink "MulesRememberLaw" 136 yX4_keep ∈ rg_tbl := rg_in 486 (by decide +kernel) (by decide +kernel)
theorem km_X4_keep : Cond.instanceMethod yX4_keep ∈ rg_tbl := rg_in 487 (by decide +kernel) (by decide +kernel)
theorem kl_X4_keep : Cond.selects "MulesRemember" yX4_keep yX4_keep ∈ rg_tbl := rg_in 488 (by decide +kernel) (by decide +kernel)
theorem kd_X4_keep : Cond.code yX4_keep cX4_keep 2 (some .int) ∈ rg_tbl := rg_in 489 (by decide +kernel) (by decide +kernel)
theorem kw_X4_218 : Cond.methodLink "MulesRemember" 218 yX4_isSlot ∈ rg_tbl := rg_in 490 (by decide +kernel) (by decide +kernel)
theorem ks_X4_isSlot : Cond.static yX4_isSlot ∈ rg_tbl := rg_in 491 (by decide +kernel) (by decide +kernel)
theorem kd_X4_isSlot : Cond.code yX4_isSlot cX4_isSlot 1 (some .boolean) ∈ rg_tbl := rg_in 492 (by decide +kernel) (by decide +kernel)
theorem kw_L_140 : Cond.methodLink "MulesRememberLaw" 140 yX4_again ∈ rg_tbl := rg_in 493 (by decide +kernel) (by decide +kernel)
theorem km_X4_again : Cond.instanceMethod yX4_again ∈ rg_tbl := rg_in 494 (by decide +kernel) (by decide +kernel)
theorem kl_X4_again : Cond.selects "MulesRemember" yX4_again yX4_again ∈ rg_tbl := rg_in 495 (by decide +kernel) (by decide +kernel)
theorem kd_X4_again : Cond.code yX4_again cX4_again 2 (some .int) ∈ rg_tbl := rg_in 496 (by decide +kernel) (by decide +kernel)
theorem kc_L_10 : Cond.classLink "MulesRememberLaw" 10 "MulesRememberModel" ∈ rg_tbl := rg_in 497 (by decide +kernel) (by decide +kernel)
theorem kt_X5 : Cond.instantiable "MulesRememberModel" 33 ∈ rg_tbl := rg_in 498 (by decide +kernel) (by decide +kernel)
theorem kw_L_12 : Cond.methodLink "MulesRememberLaw" 12 yX5_init ∈ rg_tbl := rg_in 499 (by decide +kernel) (by decide +kernel)
theorem km_X5_init : Cond.instanceMethod yX5_init ∈ rg_tbl := rg_in 500 (by decide +kernel) (by decide +kernel)
theorem kd_X5_init : Cond.code yX5_init cX5_init 1 none ∈ rg_tbl := rg_in 501 (by decide +kernel) (by decide +kernel)
theorem kw_X5_1 : Cond.methodLink "MulesRememberModel" 1 objectInit ∈ rg_tbl := rg_in 502 (by decide +kernel) (by decide +kernel)
theorem kw_X5_68 : Cond.fieldLink "MulesRememberModel" 68 "MulesRememberModel" "thrown" "I" ∈ rg_tbl := rg_in 503 (by decide +kernel) (by decide +kernel)
theorem kw_X5_7 : Cond.fieldLink "MulesRememberModel" 7 "MulesRememberModel" "text" "[I" ∈ rg_tbl := rg_in 504 (by decide +kernel) (by decide +kernel)
theorem kw_X5_84 : Cond.fieldLink "MulesRememberModel" 84 "MulesRememberModel" "textSize" "I" ∈ rg_tbl := rg_in 505 (by decide +kernel) (by decide +kernel)
theorem kw_X5_87 : Cond.fieldLink "MulesRememberModel" 87 "MulesRememberModel" "place" "I" ∈ rg_tbl := rg_in 506 (by decide +kernel) (by decide +kernel)
theorem kw_X5_72 : Cond.fieldLink "MulesRememberModel" 72 "MulesRememberModel" "mules" "I" ∈ rg_tbl := rg_in 507 (by decide +kernel) (by decide +kernel)
theorem kw_X5_13 : Cond.fieldLink "MulesRememberModel" 13 "MulesRememberModel" "coat" "[I" ∈ rg_tbl := rg_in 508 (by decide +kernel) (by decide +kernel)
theorem kw_X5_79 : Cond.fieldLink "MulesRememberModel" 79 "MulesRememberModel" "articles" "I" ∈ rg_tbl := rg_in 509 (by decide +kernel) (by decide +kernel)
theorem kw_X5_16 : Cond.fieldLink "MulesRememberModel" 16 "MulesRememberModel" "where" "[I" ∈ rg_tbl := rg_in 510 (by decide +kernel) (by decide +kernel)
theorem kw_X5_19 : Cond.fieldLink "MulesRememberModel" 19 "MulesRememberModel" "sort" "[I" ∈ rg_tbl := rg_in 511 (by decide +kernel) (by decide +kernel)
theorem kw_X5_22 : Cond.fieldLink "MulesRememberModel" 22 "MulesRememberModel" "value" "[I" ∈ rg_tbl := rg_in 512 (by decide +kernel) (by decide +kernel)
theorem kw_X5_97 : Cond.fieldLink "MulesRememberModel" 97 "MulesRememberModel" "readMules" "I" ∈ rg_tbl := rg_in 513 (by decide +kernel) (by decide +kernel)
theorem kw_X5_25 : Cond.fieldLink "MulesRememberModel" 25 "MulesRememberModel" "readMule" "[I" ∈ rg_tbl := rg_in 514 (by decide +kernel) (by decide +kernel)
theorem kw_X5_94 : Cond.fieldLink "MulesRememberModel" 94 "MulesRememberModel" "readArticles" "I" ∈ rg_tbl := rg_in 515 (by decide +kernel) (by decide +kernel)
theorem kw_X5_28 : Cond.fieldLink "MulesRememberModel" 28 "MulesRememberModel" "readArticle" "[I" ∈ rg_tbl := rg_in 516 (by decide +kernel) (by decide +kernel)
theorem kw_X5_31 : Cond.fieldLink "MulesRememberModel" 31 "MulesRememberModel" "page" "[I" ∈ rg_tbl := rg_in 517 (by decide +kernel) (by decide +kernel)
theorem kw_X5_34 : Cond.fieldLink "MulesRememberModel" 34 "MulesRememberModel" "trial" "[I" ∈ rg_tbl := rg_in 518 (by decide +kernel) (by decide +kernel)
theorem kw_X5_37 : Cond.fieldLink "MulesRememberModel" 37 "MulesRememberModel" "book" "[I" ∈ rg_tbl := rg_in 519 (by decide +kernel) (by decide +kernel)
theorem kw_X5_114 : Cond.fieldLink "MulesRememberModel" 114 "MulesRememberModel" "acts" "I" ∈ rg_tbl := rg_in 520 (by decide +kernel) (by decide +kernel)
theorem kw_X5_40 : Cond.fieldLink "MulesRememberModel" 40 "MulesRememberModel" "kept" "[I" ∈ rg_tbl := rg_in 521 (by decide +kernel) (by decide +kernel)
theorem kw_X5_43 : Cond.fieldLink "MulesRememberModel" 43 "MulesRememberModel" "isKept" "[Z" ∈ rg_tbl := rg_in 522 (by decide +kernel) (by decide +kernel)
theorem kw_X5_137 : Cond.fieldLink "MulesRememberModel" 137 "MulesRememberModel" "seen" "I" ∈ rg_tbl := rg_in 523 (by decide +kernel) (by decide +kernel)
theorem kw_X5_47 : Cond.fieldLink "MulesRememberModel" 47 "MulesRememberModel" "seenStone" "[I" ∈ rg_tbl := rg_in 524 (by decide +kernel) (by decide +kernel)
theorem kw_X5_50 : Cond.fieldLink "MulesRememberModel" 50 "MulesRememberModel" "seenCoat" "[I" ∈ rg_tbl := rg_in 525 (by decide +kernel) (by decide +kernel)
theorem kw_X5_53 : Cond.fieldLink "MulesRememberModel" 53 "MulesRememberModel" "seenHour" "[I" ∈ rg_tbl := rg_in 526 (by decide +kernel) (by decide +kernel)
theorem kw_X5_56 : Cond.fieldLink "MulesRememberModel" 56 "MulesRememberModel" "seenSouth" "[I" ∈ rg_tbl := rg_in 527 (by decide +kernel) (by decide +kernel)
theorem kw_X5_59 : Cond.fieldLink "MulesRememberModel" 59 "MulesRememberModel" "seenBalked" "[I" ∈ rg_tbl := rg_in 528 (by decide +kernel) (by decide +kernel)
theorem kw_X5_238 : Cond.fieldLink "MulesRememberModel" 238 "MulesRememberModel" "seed" "J" ∈ rg_tbl := rg_in 529 (by decide +kernel) (by decide +kernel)
theorem kw_X5_62 : Cond.fieldLink "MulesRememberModel" 62 "MulesRememberModel" "when" "[I" ∈ rg_tbl := rg_in 530 (by decide +kernel) (by decide +kernel)
theorem kw_X5_210 : Cond.fieldLink "MulesRememberModel" 210 "MulesRememberModel" "mayMany" "I" ∈ rg_tbl := rg_in 531 (by decide +kernel) (by decide +kernel)
theorem kw_X5_213 : Cond.fieldLink "MulesRememberModel" 213 "MulesRememberModel" "mayFirst" "I" ∈ rg_tbl := rg_in 532 (by decide +kernel) (by decide +kernel)
theorem kw_X5_223 : Cond.fieldLink "MulesRememberModel" 223 "MulesRememberModel" "restMany" "I" ∈ rg_tbl := rg_in 533 (by decide +kernel) (by decide +kernel)
theorem kw_X5_226 : Cond.fieldLink "MulesRememberModel" 226 "MulesRememberModel" "restFirst" "I" ∈ rg_tbl := rg_in 534 (by decide +kernel) (by decide +kernel)
theorem kw_X5_65 : Cond.fieldLink "MulesRememberModel" 65 "MulesRememberModel" "worth" "[I" ∈ rg_tbl := rg_in 535 (by decide +kernel) (by decide +kernel)
theorem kw_L_17 : Cond.methodLink "MulesRememberLaw" 17 yX5_write ∈ rg_tbl := rg_in 603 (by decide +kernel) (by decide +kernel)
theorem km_X5_write : Cond.instanceMethod yX5_write ∈ rg_tbl := rg_in 604 (by decide +kernel) (by decide +kernel)
theorem kl_X5_write : Cond.selects "MulesRememberModel" yX5_write yX5_write ∈ rg_tbl := rg_in 605 (by decide +kernel) (by decide +kernel)
theorem kd_X5_write : Cond.code yX5_write cX5_write 2 (some .int) ∈ rg_tbl := rg_in 606 (by decide +kernel) (by decide +kernel)
theorem kw_X5_82 : Cond.constantLong "MulesRememberModel" 82 (255) ∈ rg_tbl := rg_in 607 (by decide +kernel) (by decide +kernel)
theorem kw_X5_75 : Cond.methodLink "MulesRememberModel" 75 yX5_in ∈ rg_tbl := rg_in 608 (by decide +kernel) (by decide +kernel)
theorem ks_X5_in : Cond.static yX5_in ∈ rg_tbl := rg_in 609 (by decide +kernel) (by decide +kernel)
theorem kd_X5_in : Cond.code yX5_in cX5_in 6 (some .boolean) ∈ rg_tbl := rg_in 610 (by decide +kernel) (by decide +kernel)
theorem kw_L_22 : Cond.methodLink "MulesRememberLaw" 22 yX5_wipe ∈ rg_tbl := rg_in 611 (by decide +kernel) (by decide +kernel)
theorem km_X5_wipe : Cond.instanceMethod yX5_wipe ∈ rg_tbl := rg_in 612 (by decide +kernel) (by decide +kernel)
theorem kl_X5_wipe : Cond.selects "MulesRememberModel" yX5_wipe yX5_wipe ∈ rg_tbl := rg_in 613 (by decide +kernel) (by decide +kernel)
theorem kd_X5_wipe : Cond.code yX5_wipe cX5_wipe 2 (some .int) ∈ rg_tbl := rg_in 614 (by decide +kernel) (by decide +kernel)
theorem kw_L_26 : Cond.methodLink "MulesRememberLaw" 26 yX5_fault ∈ rg_tbl := rg_in 615 (by decide +kernel) (by decide +kernel)
theorem km_X5_fault : Cond.instanceMethod yX5_fault ∈ rg_tbl := rg_in 616 (by decide +kernel) (by decide +kernel)
theorem kl_X5_fault : Cond.selects "MulesRememberModel" yX5_fault yX5_fault ∈ rg_tbl := rg_in 617 (by decide +kernel) (by decide +kernel)
theorem kd_X5_fault : Cond.code yX5_fault cX5_fault 1 (some .int) ∈ rg_tbl := rg_in 618 (by decide +kernel) (by decide +kernel)
theorem kw_X5_110 : Cond.methodLink "MulesRememberModel" 110 yX5_readTreaty ∈ rg_tbl := rg_in 619 (by decide +kernel) (by decide +kernel)
theorem km_X5_readTreaty : Cond.instanceMethod yX5_readTreaty ∈ rg_tbl := rg_in 621 (by decide +kernel) (by decide +kernel)
theorem kd_X5_readTreaty : Cond.code yX5_readTreaty cX5_readTreaty 1 (some .int) ∈ rg_tbl := rg_in 622 (by decide +kernel) (by decide +kernel)
theorem kw_X5_107 : Cond.methodLink "MulesRememberModel" 107 yX5_readPart ∈ rg_tbl := rg_in 623 (by decide +kernel) (by decide +kernel)
theorem km_X5_readPart : Cond.instanceMethod yX5_readPart ∈ rg_tbl := rg_in 625 (by decide +kernel) (by decide +kernel)
theorem kd_X5_readPart : Cond.code yX5_readPart cX5_readPart 2 (some .boolean) ∈ rg_tbl := rg_in 626 (by decide +kernel) (by decide +kernel)
theorem kw_X5_100 : Cond.methodLink "MulesRememberModel" 100 yX5_readOneArticle ∈ rg_tbl := rg_in 627 (by decide +kernel) (by decide +kernel)
theorem km_X5_readOneArticle : Cond.instanceMethod yX5_readOneArticle ∈ rg_tbl := rg_in 629 (by decide +kernel) (by decide +kernel)
theorem kd_X5_readOneArticle : Cond.code yX5_readOneArticle cX5_readOneArticle 3 (some .boolean) ∈ rg_tbl := rg_in 630 (by decide +kernel) (by decide +kernel)
theorem kw_X5_90 : Cond.methodLink "MulesRememberModel" 90 yX5_figure ∈ rg_tbl := rg_in 631 (by decide +kernel) (by decide +kernel)
theorem km_X5_figure : Cond.instanceMethod yX5_figure ∈ rg_tbl := rg_in 633 (by decide +kernel) (by decide +kernel)
theorem kd_X5_figure : Cond.code yX5_figure cX5_figure 2 (some .int) ∈ rg_tbl := rg_in 634 (by decide +kernel) (by decide +kernel)
theorem kw_X5_104 : Cond.methodLink "MulesRememberModel" 104 yX5_readOneMule ∈ rg_tbl := rg_in 635 (by decide +kernel) (by decide +kernel)
theorem km_X5_readOneMule : Cond.instanceMethod yX5_readOneMule ∈ rg_tbl := rg_in 637 (by decide +kernel) (by decide +kernel)
theorem kd_X5_readOneMule : Cond.code yX5_readOneMule cX5_readOneMule 3 (some .boolean) ∈ rg_tbl := rg_in 638 (by decide +kernel) (by decide +kernel)
theorem kw_L_30 : Cond.methodLink "MulesRememberLaw" 30 yX5_treaty ∈ rg_tbl := rg_in 639 (by decide +kernel) (by decide +kernel)
theorem km_X5_treaty : Cond.instanceMethod yX5_treaty ∈ rg_tbl := rg_in 640 (by decide +kernel) (by decide +kernel)
theorem kl_X5_treaty : Cond.selects "MulesRememberModel" yX5_treaty yX5_treaty ∈ rg_tbl := rg_in 641 (by decide +kernel) (by decide +kernel)
theorem kd_X5_treaty : Cond.code yX5_treaty cX5_treaty 2 (some .int) ∈ rg_tbl := rg_in 642 (by decide +kernel) (by decide +kernel)
theorem kw_L_34 : Cond.methodLink "MulesRememberLaw" 34 yX5_about ∈ rg_tbl := rg_in 643 (by decide +kernel) (by decide +kernel)
theorem km_X5_about : Cond.instanceMethod yX5_about ∈ rg_tbl := rg_in 644 (by decide +kernel) (by decide +kernel)
theorem kl_X5_about : Cond.selects "MulesRememberModel" yX5_about yX5_about ∈ rg_tbl := rg_in 645 (by decide +kernel) (by decide +kernel)
theorem kd_X5_about : Cond.code yX5_about cX5_about 2 (some .int) ∈ rg_tbl := rg_in 646 (by decide +kernel) (by decide +kernel)
theorem kw_L_39 : Cond.methodLink "MulesRememberLaw" 39 yX5_article ∈ rg_tbl := rg_in 647 (by decide +kernel) (by decide +kernel)
theorem km_X5_article : Cond.instanceMethod yX5_article ∈ rg_tbl := rg_in 648 (by decide +kernel) (by decide +kernel)
theorem kl_X5_article : Cond.selects "MulesRememberModel" yX5_article yX5_article ∈ rg_tbl := rg_in 649 (by decide +kernel) (by decide +kernel)
theorem kd_X5_article : Cond.code yX5_article cX5_article 3 (some .int) ∈ rg_tbl := rg_in 650 (by decide +kernel) (by decide +kernel)
theorem kw_X5_144 : Cond.methodLink "MulesRememberModel" 144 yX5_noArticle ∈ rg_tbl := rg_in 651 (by decide +kernel) (by decide +kernel)
theorem km_X5_noArticle : Cond.instanceMethod yX5_noArticle ∈ rg_tbl := rg_in 653 (by decide +kernel) (by decide +kernel)
theorem kd_X5_noArticle : Cond.code yX5_noArticle cX5_noArticle 2 (some .boolean) ∈ rg_tbl := rg_in 654 (by decide +kernel) (by decide +kernel)
theorem kw_X5_148 : Cond.methodLink "MulesRememberModel" 148 yX5_knowers ∈ rg_tbl := rg_in 655 (by decide +kernel) (by decide +kernel)
theorem km_X5_knowers : Cond.instanceMethod yX5_knowers ∈ rg_tbl := rg_in 657 (by decide +kernel) (by decide +kernel)
theorem kd_X5_knowers : Cond.code yX5_knowers cX5_knowers 4 (some .int) ∈ rg_tbl := rg_in 658 (by decide +kernel) (by decide +kernel)
theorem kw_X5_133 : Cond.methodLink "MulesRememberModel" 133 yX5_knows ∈ rg_tbl := rg_in 659 (by decide +kernel) (by decide +kernel)
theorem km_X5_knows : Cond.instanceMethod yX5_knows ∈ rg_tbl := rg_in 661 (by decide +kernel) (by decide +kernel)
theorem kd_X5_knows : Cond.code yX5_knows cX5_knows 4 (some .int) ∈ rg_tbl := rg_in 662 (by decide +kernel) (by decide +kernel)
theorem kw_X5_140 : Cond.methodLink "MulesRememberModel" 140 yX5_has ∈ rg_tbl := rg_in 663 (by decide +kernel) (by decide +kernel)
theorem ks_X5_has : Cond.static yX5_has ∈ rg_tbl := rg_in 664 (by decide +kernel) (by decide +kernel)
theorem kd_X5_has : Cond.code yX5_has cX5_has 2 (some .boolean) ∈ rg_tbl := rg_in 665 (by decide +kernel) (by decide +kernel)
theorem kw_L_43 : Cond.methodLink "MulesRememberLaw" 43 yX5_mule ∈ rg_tbl := rg_in 666 (by decide +kernel) (by decide +kernel)
theorem km_X5_mule : Cond.instanceMethod yX5_mule ∈ rg_tbl := rg_in 667 (by decide +kernel) (by decide +kernel)
theorem kl_X5_mule : Cond.selects "MulesRememberModel" yX5_mule yX5_mule ∈ rg_tbl := rg_in 668 (by decide +kernel) (by decide +kernel)
theorem kd_X5_mule : Cond.code yX5_mule cX5_mule 3 (some .int) ∈ rg_tbl := rg_in 669 (by decide +kernel) (by decide +kernel)
theorem kw_X5_151 : Cond.methodLink "MulesRememberModel" 151 yX5_noMule ∈ rg_tbl := rg_in 670 (by decide +kernel) (by decide +kernel)
theorem km_X5_noMule : Cond.instanceMethod yX5_noMule ∈ rg_tbl := rg_in 672 (by decide +kernel) (by decide +kernel)
theorem kd_X5_noMule : Cond.code yX5_noMule cX5_noMule 2 (some .boolean) ∈ rg_tbl := rg_in 673 (by decide +kernel) (by decide +kernel)
theorem kw_L_47 : Cond.methodLink "MulesRememberLaw" 47 yX5_by ∈ rg_tbl := rg_in 674 (by decide +kernel) (by decide +kernel)
theorem km_X5_by : Cond.instanceMethod yX5_by ∈ rg_tbl := rg_in 675 (by decide +kernel) (by decide +kernel)
theorem kl_X5_by : Cond.selects "MulesRememberModel" yX5_by yX5_by ∈ rg_tbl := rg_in 676 (by decide +kernel) (by decide +kernel)
theorem kd_X5_by : Cond.code yX5_by cX5_by 4 (some .int) ∈ rg_tbl := rg_in 677 (by decide +kernel) (by decide +kernel)
theorem kw_X5_154 : Cond.methodLink "MulesRememberModel" 154 yX5_noStep ∈ rg_tbl := rg_in 678 (by decide +kernel) (by decide +kernel)
theorem km_X5_noStep : Cond.instanceMethod yX5_noStep ∈ rg_tbl := rg_in 680 (by decide +kernel) (by decide +kernel)
theorem kd_X5_noStep : Cond.code yX5_noStep cX5_noStep 3 (some .int) ∈ rg_tbl := rg_in 681 (by decide +kernel) (by decide +kernel)
theorem kw_X5_119 : Cond.methodLink "MulesRememberModel" 119 yX5_toStone ∈ rg_tbl := rg_in 682 (by decide +kernel) (by decide +kernel)
theorem ks_X5_toStone : Cond.static yX5_toStone ∈ rg_tbl := rg_in 683 (by decide +kernel) (by decide +kernel)
theorem kd_X5_toStone : Cond.code yX5_toStone cX5_toStone 4 (some .int) ∈ rg_tbl := rg_in 684 (by decide +kernel) (by decide +kernel)
theorem kw_X5_117 : Cond.constantLong "MulesRememberModel" 117 (9) ∈ rg_tbl := rg_in 685 (by decide +kernel) (by decide +kernel)
theorem kw_X5_130 : Cond.methodLink "MulesRememberModel" 130 yX5_forbids ∈ rg_tbl := rg_in 686 (by decide +kernel) (by decide +kernel)
theorem km_X5_forbids : Cond.instanceMethod yX5_forbids ∈ rg_tbl := rg_in 688 (by decide +kernel) (by decide +kernel)
theorem kd_X5_forbids : Cond.code yX5_forbids cX5_forbids 9 (some .int) ∈ rg_tbl := rg_in 689 (by decide +kernel) (by decide +kernel)
theorem kw_X5_123 : Cond.methodLink "MulesRememberModel" 123 yX5_northern ∈ rg_tbl := rg_in 690 (by decide +kernel) (by decide +kernel)
theorem km_X5_northern : Cond.instanceMethod yX5_northern ∈ rg_tbl := rg_in 692 (by decide +kernel) (by decide +kernel)
theorem kd_X5_northern : Cond.code yX5_northern cX5_northern 6 (some .int) ∈ rg_tbl := rg_in 693 (by decide +kernel) (by decide +kernel)
theorem kw_X5_126 : Cond.methodLink "MulesRememberModel" 126 yX5_isBarred ∈ rg_tbl := rg_in 694 (by decide +kernel) (by decide +kernel)
theorem ks_X5_isBarred : Cond.static yX5_isBarred ∈ rg_tbl := rg_in 695 (by decide +kernel) (by decide +kernel)
theorem kd_X5_isBarred : Cond.code yX5_isBarred cX5_isBarred 6 (some .boolean) ∈ rg_tbl := rg_in 696 (by decide +kernel) (by decide +kernel)
theorem kw_L_51 : Cond.methodLink "MulesRememberLaw" 51 yX5_balks ∈ rg_tbl := rg_in 697 (by decide +kernel) (by decide +kernel)
theorem km_X5_balks : Cond.instanceMethod yX5_balks ∈ rg_tbl := rg_in 698 (by decide +kernel) (by decide +kernel)
theorem kl_X5_balks : Cond.selects "MulesRememberModel" yX5_balks yX5_balks ∈ rg_tbl := rg_in 699 (by decide +kernel) (by decide +kernel)
theorem kd_X5_balks : Cond.code yX5_balks cX5_balks 4 (some .int) ∈ rg_tbl := rg_in 700 (by decide +kernel) (by decide +kernel)
theorem kw_X5_158 : Cond.methodLink "MulesRememberModel" 158 yX5_leastOf ∈ rg_tbl := rg_in 701 (by decide +kernel) (by decide +kernel)
theorem ks_X5_leastOf : Cond.static yX5_leastOf ∈ rg_tbl := rg_in 702 (by decide +kernel) (by decide +kernel)
theorem kd_X5_leastOf : Cond.code yX5_leastOf cX5_leastOf 3 (some .int) ∈ rg_tbl := rg_in 703 (by decide +kernel) (by decide +kernel)
theorem kw_L_55 : Cond.methodLink "MulesRememberLaw" 55 yX5_step ∈ rg_tbl := rg_in 704 (by decide +kernel) (by decide +kernel)
theorem km_X5_step : Cond.instanceMethod yX5_step ∈ rg_tbl := rg_in 705 (by decide +kernel) (by decide +kernel)
theorem kl_X5_step : Cond.selects "MulesRememberModel" yX5_step yX5_step ∈ rg_tbl := rg_in 706 (by decide +kernel) (by decide +kernel)
theorem kd_X5_step : Cond.code yX5_step cX5_step 4 (some .int) ∈ rg_tbl := rg_in 707 (by decide +kernel) (by decide +kernel)
theorem kw_X5_164 : Cond.methodLink "MulesRememberModel" 164 yX5_isBalking ∈ rg_tbl := rg_in 708 (by decide +kernel) (by decide +kernel)
theorem km_X5_isBalking : Cond.instanceMethod yX5_isBalking ∈ rg_tbl := rg_in 710 (by decide +kernel) (by decide +kernel)
theorem kd_X5_isBalking : Cond.code yX5_isBalking cX5_isBalking 4 (some .boolean) ∈ rg_tbl := rg_in 711 (by decide +kernel) (by decide +kernel)
theorem kw_X5_168 : Cond.methodLink "MulesRememberModel" 168 yX5_note ∈ rg_tbl := rg_in 712 (by decide +kernel) (by decide +kernel)
theorem km_X5_note : Cond.instanceMethod yX5_note ∈ rg_tbl := rg_in 714 (by decide +kernel) (by decide +kernel)
theorem kd_X5_note : Cond.code yX5_note cX5_note 2 none ∈ rg_tbl := rg_in 715 (by decide +kernel) (by decide +kernel)
theorem kw_X5_171 : Cond.methodLink "MulesRememberModel" 171 yX5_go ∈ rg_tbl := rg_in 716 (by decide +kernel) (by decide +kernel)
theorem km_X5_go : Cond.instanceMethod yX5_go ∈ rg_tbl := rg_in 718 (by decide +kernel) (by decide +kernel)
theorem kd_X5_go : Cond.code yX5_go cX5_go 4 none ∈ rg_tbl := rg_in 719 (by decide +kernel) (by decide +kernel)
theorem kw_X5_161 : Cond.methodLink "MulesRememberModel" 161 yX5_many ∈ rg_tbl := rg_in 720 (by decide +kernel) (by decide +kernel)
theorem ks_X5_many : Cond.static yX5_many ∈ rg_tbl := rg_in 721 (by decide +kernel) (by decide +kernel)
theorem kd_X5_many : Cond.code yX5_many cX5_many 3 (some .int) ∈ rg_tbl := rg_in 722 (by decide +kernel) (by decide +kernel)
theorem kw_L_59 : Cond.methodLink "MulesRememberLaw" 59 yX5_pause ∈ rg_tbl := rg_in 723 (by decide +kernel) (by decide +kernel)
theorem km_X5_pause : Cond.instanceMethod yX5_pause ∈ rg_tbl := rg_in 724 (by decide +kernel) (by decide +kernel)
theorem kl_X5_pause : Cond.selects "MulesRememberModel" yX5_pause yX5_pause ∈ rg_tbl := rg_in 725 (by decide +kernel) (by decide +kernel)
theorem kd_X5_pause : Cond.code yX5_pause cX5_pause 1 (some .int) ∈ rg_tbl := rg_in 726 (by decide +kernel) (by decide +kernel)
theorem kw_L_64 : Cond.methodLink "MulesRememberLaw" 64 yX5_show ∈ rg_tbl := rg_in 727 (by decide +kernel) (by decide +kernel)
theorem km_X5_show : Cond.instanceMethod yX5_show ∈ rg_tbl := rg_in 728 (by decide +kernel) (by decide +kernel)
theorem kl_X5_show : Cond.selects "MulesRememberModel" yX5_show yX5_show ∈ rg_tbl := rg_in 729 (by decide +kernel) (by decide +kernel)
theorem kd_X5_show : Cond.code yX5_show cX5_show 4 (some .int) ∈ rg_tbl := rg_in 730 (by decide +kernel) (by decide +kernel)
theorem kw_L_68 : Cond.methodLink "MulesRememberLaw" 68 yX5_sell ∈ rg_tbl := rg_in 731 (by decide +kernel) (by decide +kernel)
theorem km_X5_sell : Cond.instanceMethod yX5_sell ∈ rg_tbl := rg_in 732 (by decide +kernel) (by decide +kernel)
theorem kl_X5_sell : Cond.selects "MulesRememberModel" yX5_sell yX5_sell ∈ rg_tbl := rg_in 733 (by decide +kernel) (by decide +kernel)
theorem kd_X5_sell : Cond.code yX5_sell cX5_sell 3 (some .int) ∈ rg_tbl := rg_in 734 (by decide +kernel) (by decide +kernel)
theorem kw_L_72 : Cond.methodLink "MulesRememberLaw" 72 yX5_forget ∈ rg_tbl := rg_in 735 (by decide +kernel) (by decide +kernel)
theorem km_X5_forget : Cond.instanceMethod yX5_forget ∈ rg_tbl := rg_in 736 (by decide +kernel) (by decide +kernel)
theorem kl_X5_forget : Cond.selects "MulesRememberModel" yX5_forget yX5_forget ∈ rg_tbl := rg_in 737 (by decide +kernel) (by decide +kernel)
theorem kd_X5_forget : Cond.code yX5_forget cX5_forget 3 (some .int) ∈ rg_tbl := rg_in 738 (by decide +kernel) (by decide +kernel)
theorem kw_L_76 : Cond.methodLink "MulesRememberLaw" 76 yX5_undo ∈ rg_tbl := rg_in 739 (by decide +kernel) (by decide +kernel)
theorem km_X5_undo : Cond.instanceMethod yX5_undo ∈ rg_tbl := rg_in 740 (by decide +kernel) (by decide +kernel)
theorem kl_X5_undo : Cond.selects "MulesRememberModel" yX5_undo yX5_undo ∈ rg_tbl := rg_in 741 (by decide +kernel) (by decide +kernel)
theorem kd_X5_undo : Cond.code yX5_undo cX5_undo 2 (some .int) ∈ rg_tbl := rg_in 742 (by decide +kernel) (by decide +kernel)
theorem kw_L_81 : Cond.methodLink "MulesRememberLaw" 81 yX5_way ∈ rg_tbl := rg_in 743 (by decide +kernel) (by decide +kernel)
theorem km_X5_way : Cond.instanceMethod yX5_way ∈ rg_tbl := rg_in 744 (by decide +kernel) (by decide +kernel)
theorem kl_X5_way : Cond.selects "MulesRememberModel" yX5_way yX5_way ∈ rg_tbl := rg_in 745 (by decide +kernel) (by decide +kernel)
theorem kd_X5_way : Cond.code yX5_way cX5_way 4 (some .int) ∈ rg_tbl := rg_in 746 (by decide +kernel) (by decide +kernel)
theorem kw_X5_178 : Cond.methodLink "MulesRememberModel" 178 yX5_layWays ∈ rg_tbl := rg_in 747 (by decide +kernel) (by decide +kernel)
theorem km_X5_layWays : Cond.instanceMethod yX5_layWays ∈ rg_tbl := rg_in 749 (by decide +kernel) (by decide +kernel)
theorem kd_X5_layWays : Cond.code yX5_layWays cX5_layWays 9 none ∈ rg_tbl := rg_in 750 (by decide +kernel) (by decide +kernel)
theorem kw_X5_175 : Cond.methodLink "MulesRememberModel" 175 yX5_begin ∈ rg_tbl := rg_in 751 (by decide +kernel) (by decide +kernel)
theorem km_X5_begin : Cond.instanceMethod yX5_begin ∈ rg_tbl := rg_in 753 (by decide +kernel) (by decide +kernel)
theorem kd_X5_begin : Cond.code yX5_begin cX5_begin 2 none ∈ rg_tbl := rg_in 754 (by decide +kernel) (by decide +kernel)
theorem kw_L_85 : Cond.methodLink "MulesRememberLaw" 85 yX5_enclaves ∈ rg_tbl := rg_in 755 (by decide +kernel) (by decide +kernel)
theorem km_X5_enclaves : Cond.instanceMethod yX5_enclaves ∈ rg_tbl := rg_in 756 (by decide +kernel) (by decide +kernel)
theorem kl_X5_enclaves : Cond.selects "MulesRememberModel" yX5_enclaves yX5_enclaves ∈ rg_tbl := rg_in 757 (by decide +kernel) (by decide +kernel)
theorem kd_X5_enclaves : Cond.code yX5_enclaves cX5_enclaves 4 (some .int) ∈ rg_tbl := rg_in 758 (by decide +kernel) (by decide +kernel)
theorem kw_L_89 : Cond.methodLink "MulesRememberLaw" 89 yX5_teach ∈ rg_tbl := rg_in 759 (by decide +kernel) (by decide +kernel)
theorem km_X5_teach : Cond.instanceMethod yX5_teach ∈ rg_tbl := rg_in 760 (by decide +kernel) (by decide +kernel)
theorem kl_X5_teach : Cond.selects "MulesRememberModel" yX5_teach yX5_teach ∈ rg_tbl := rg_in 761 (by decide +kernel) (by decide +kernel)
theorem kd_X5_teach : Cond.code yX5_teach cX5_teach 4 (some .int) ∈ rg_tbl := rg_in 762 (by decide +kernel) (by decide +kernel)
theorem kw_X5_182 : Cond.methodLink "MulesRememberModel" 182 yX5_holdsFast ∈ rg_tbl := rg_in 763 (by decide +kernel) (by decide +kernel)
theorem km_X5_holdsFast : Cond.instanceMethod yX5_holdsFast ∈ rg_tbl := rg_in 765 (by decide +kernel) (by decide +kernel)
theorem kd_X5_holdsFast : Cond.code yX5_holdsFast cX5_holdsFast 5 (some .boolean) ∈ rg_tbl := rg_in 766 (by decide +kernel) (by decide +kernel)
theorem kw_L_93 : Cond.methodLink "MulesRememberLaw" 93 yX5_differ ∈ rg_tbl := rg_in 767 (by decide +kernel) (by decide +kernel)
theorem km_X5_differ : Cond.instanceMethod yX5_differ ∈ rg_tbl := rg_in 768 (by decide +kernel) (by decide +kernel)
theorem kl_X5_differ : Cond.selects "MulesRememberModel" yX5_differ yX5_differ ∈ rg_tbl := rg_in 769 (by decide +kernel) (by decide +kernel)
theorem kd_X5_differ : Cond.code yX5_differ cX5_differ 3 (some .int) ∈ rg_tbl := rg_in 770 (by decide +kernel) (by decide +kernel)
theorem kw_L_97 : Cond.methodLink "MulesRememberLaw" 97 yX5_judge ∈ rg_tbl := rg_in 771 (by decide +kernel) (by decide +kernel)
theorem km_X5_judge : Cond.instanceMethod yX5_judge ∈ rg_tbl := rg_in 772 (by decide +kernel) (by decide +kernel)
theorem kl_X5_judge : Cond.selects "MulesRememberModel" yX5_judge yX5_judge ∈ rg_tbl := rg_in 773 (by decide +kernel) (by decide +kernel)
theorem kd_X5_judge : Cond.code yX5_judge cX5_judge 4 (some .int) ∈ rg_tbl := rg_in 774 (by decide +kernel) (by decide +kernel)
theorem kw_X5_187 : Cond.constantLong "MulesRememberModel" 187 (4) ∈ rg_tbl := rg_in 775 (by decide +kernel) (by decide +kernel)
theorem kw_X5_189 : Cond.methodLink "MulesRememberModel" 189 yX5_power ∈ rg_tbl := rg_in 776 (by decide +kernel) (by decide +kernel)
theorem ks_X5_power : Cond.static yX5_power ∈ rg_tbl := rg_in 777 (by decide +kernel) (by decide +kernel)
theorem kd_X5_power : Cond.code yX5_power cX5_power 4 (some .int) ∈ rg_tbl := rg_in 778 (by decide +kernel) (by decide +kernel)
theorem kw_X5_192 : Cond.methodLink "MulesRememberModel" 192 yX5_does ∈ rg_tbl := rg_in 779 (by decide +kernel) (by decide +kernel)
theorem km_X5_does : Cond.instanceMethod yX5_does ∈ rg_tbl := rg_in 781 (by decide +kernel) (by decide +kernel)
theorem kd_X5_does : Cond.code yX5_does cX5_does 5 (some .boolean) ∈ rg_tbl := rg_in 782 (by decide +kernel) (by decide +kernel)
theorem kw_X5_185 : Cond.constantLong "MulesRememberModel" 185 (5) ∈ rg_tbl := rg_in 783 (by decide +kernel) (by decide +kernel)
theorem kw_L_102 : Cond.methodLink "MulesRememberLaw" 102 yX5_share ∈ rg_tbl := rg_in 784 (by decide +kernel) (by decide +kernel)
theorem km_X5_share : Cond.instanceMethod yX5_share ∈ rg_tbl := rg_in 785 (by decide +kernel) (by decide +kernel)
theorem kl_X5_share : Cond.selects "MulesRememberModel" yX5_share yX5_share ∈ rg_tbl := rg_in 786 (by decide +kernel) (by decide +kernel)
theorem kd_X5_share : Cond.code yX5_share cX5_share 6 (some .int) ∈ rg_tbl := rg_in 787 (by decide +kernel) (by decide +kernel)
theorem kw_X5_198 : Cond.methodLink "MulesRememberModel" 198 yX5_barredBy ∈ rg_tbl := rg_in 788 (by decide +kernel) (by decide +kernel)
theorem km_X5_barredBy : Cond.instanceMethod yX5_barredBy ∈ rg_tbl := rg_in 790 (by decide +kernel) (by decide +kernel)
theorem kd_X5_barredBy : Cond.code yX5_barredBy cX5_barredBy 5 (some .int) ∈ rg_tbl := rg_in 791 (by decide +kernel) (by decide +kernel)
theorem kw_X5_201 : Cond.methodLink "MulesRememberModel" 201 yX5_ways ∈ rg_tbl := rg_in 792 (by decide +kernel) (by decide +kernel)
theorem ks_X5_ways : Cond.static yX5_ways ∈ rg_tbl := rg_in 793 (by decide +kernel) (by decide +kernel)
theorem kd_X5_ways : Cond.code yX5_ways cX5_ways 3 (some .int) ∈ rg_tbl := rg_in 794 (by decide +kernel) (by decide +kernel)
theorem kw_X5_204 : Cond.methodLink "MulesRememberModel" 204 yX5_fraction ∈ rg_tbl := rg_in 795 (by decide +kernel) (by decide +kernel)
theorem ks_X5_fraction : Cond.static yX5_fraction ∈ rg_tbl := rg_in 796 (by decide +kernel) (by decide +kernel)
theorem kd_X5_fraction : Cond.code yX5_fraction cX5_fraction 4 (some .int) ∈ rg_tbl := rg_in 797 (by decide +kernel) (by decide +kernel)
theorem kw_X5_195 : Cond.methodLink "MulesRememberModel" 195 yX5_divisor ∈ rg_tbl := rg_in 798 (by decide +kernel) (by decide +kernel)
theorem ks_X5_divisor : Cond.static yX5_divisor ∈ rg_tbl := rg_in 799 (by decide +kernel) (by decide +kernel)
theorem kd_X5_divisor : Cond.code yX5_divisor cX5_divisor 5 (some .int) ∈ rg_tbl := rg_in 800 (by decide +kernel) (by decide +kernel)
theorem kw_L_107 : Cond.methodLink "MulesRememberLaw" 107 yX5_see ∈ rg_tbl := rg_in 801 (by decide +kernel) (by decide +kernel)
theorem km_X5_see : Cond.instanceMethod yX5_see ∈ rg_tbl := rg_in 802 (by decide +kernel) (by decide +kernel)
theorem kl_X5_see : Cond.selects "MulesRememberModel" yX5_see yX5_see ∈ rg_tbl := rg_in 803 (by decide +kernel) (by decide +kernel)
theorem kd_X5_see : Cond.code yX5_see cX5_see 6 (some .int) ∈ rg_tbl := rg_in 804 (by decide +kernel) (by decide +kernel)
theorem kw_X5_208 : Cond.constantLong "MulesRememberModel" 208 (3) ∈ rg_tbl := rg_in 805 (by decide +kernel) (by decide +kernel)
theorem kw_L_111 : Cond.methodLink "MulesRememberLaw" 111 yX5_unsee ∈ rg_tbl := rg_in 806 (by decide +kernel) (by decide +kernel)
theorem km_X5_unsee : Cond.instanceMethod yX5_unsee ∈ rg_tbl := rg_in 807 (by decide +kernel) (by decide +kernel)
theorem kl_X5_unsee : Cond.selects "MulesRememberModel" yX5_unsee yX5_unsee ∈ rg_tbl := rg_in 808 (by decide +kernel) (by decide +kernel)
theorem kd_X5_unsee : Cond.code yX5_unsee cX5_unsee 2 (some .int) ∈ rg_tbl := rg_in 809 (by decide +kernel) (by decide +kernel)
theorem kw_L_115 : Cond.methodLink "MulesRememberLaw" 115 yX5_may ∈ rg_tbl := rg_in 810 (by decide +kernel) (by decide +kernel)
theorem km_X5_may : Cond.instanceMethod yX5_may ∈ rg_tbl := rg_in 811 (by decide +kernel) (by decide +kernel)
theorem kl_X5_may : Cond.selects "MulesRememberModel" yX5_may yX5_may ∈ rg_tbl := rg_in 812 (by decide +kernel) (by decide +kernel)
theorem kd_X5_may : Cond.code yX5_may cX5_may 3 (some .int) ∈ rg_tbl := rg_in 813 (by decide +kernel) (by decide +kernel)
theorem kw_X5_216 : Cond.methodLink "MulesRememberModel" 216 yX5_findMay ∈ rg_tbl := rg_in 814 (by decide +kernel) (by decide +kernel)
theorem km_X5_findMay : Cond.instanceMethod yX5_findMay ∈ rg_tbl := rg_in 816 (by decide +kernel) (by decide +kernel)
theorem kd_X5_findMay : Cond.code yX5_findMay cX5_findMay 6 none ∈ rg_tbl := rg_in 817 (by decide +kernel) (by decide +kernel)
theorem kw_L_119 : Cond.methodLink "MulesRememberLaw" 119 yX5_rests ∈ rg_tbl := rg_in 818 (by decide +kernel) (by decide +kernel)
theorem km_X5_rests : Cond.instanceMethod yX5_rests ∈ rg_tbl := rg_in 819 (by decide +kernel) (by decide +kernel)
theorem kl_X5_rests : Cond.selects "MulesRememberModel" yX5_rests yX5_rests ∈ rg_tbl := rg_in 820 (by decide +kernel) (by decide +kernel)
theorem kd_X5_rests : Cond.code yX5_rests cX5_rests 6 (some .int) ∈ rg_tbl := rg_in 821 (by decide +kernel) (by decide +kernel)
theorem kw_X5_220 : Cond.methodLink "MulesRememberModel" 220 yX5_sent ∈ rg_tbl := rg_in 822 (by decide +kernel) (by decide +kernel)
theorem km_X5_sent : Cond.instanceMethod yX5_sent ∈ rg_tbl := rg_in 824 (by decide +kernel) (by decide +kernel)
theorem kd_X5_sent : Cond.code yX5_sent cX5_sent 3 (some .int) ∈ rg_tbl := rg_in 825 (by decide +kernel) (by decide +kernel)
theorem kw_X5_229 : Cond.methodLink "MulesRememberModel" 229 yX5_gain ∈ rg_tbl := rg_in 826 (by decide +kernel) (by decide +kernel)
theorem ks_X5_gain : Cond.static yX5_gain ∈ rg_tbl := rg_in 827 (by decide +kernel) (by decide +kernel)
theorem kd_X5_gain : Cond.code yX5_gain cX5_gain 3 (some .int) ∈ rg_tbl := rg_in 828 (by decide +kernel) (by decide +kernel)
theorem kw_L_124 : Cond.methodLink "MulesRememberLaw" 124 yX5_forgets ∈ rg_tbl := rg_in 829 (by decide +kernel) (by decide +kernel)
theorem km_X5_forgets : Cond.instanceMethod yX5_forgets ∈ rg_tbl := rg_in 830 (by decide +kernel) (by decide +kernel)
theorem kl_X5_forgets : Cond.selects "MulesRememberModel" yX5_forgets yX5_forgets ∈ rg_tbl := rg_in 831 (by decide +kernel) (by decide +kernel)
theorem kd_X5_forgets : Cond.code yX5_forgets cX5_forgets 8 (some .int) ∈ rg_tbl := rg_in 832 (by decide +kernel) (by decide +kernel)
theorem kw_X5_233 : Cond.constantLong "MulesRememberModel" 233 (10) ∈ rg_tbl := rg_in 833 (by decide +kernel) (by decide +kernel)
theorem kw_X5_235 : Cond.methodLink "MulesRememberModel" 235 yX5_balkers ∈ rg_tbl := rg_in 834 (by decide +kernel) (by decide +kernel)
theorem km_X5_balkers : Cond.instanceMethod yX5_balkers ∈ rg_tbl := rg_in 836 (by decide +kernel) (by decide +kernel)
theorem kd_X5_balkers : Cond.code yX5_balkers cX5_balkers 5 (some .int) ∈ rg_tbl := rg_in 837 (by decide +kernel) (by decide +kernel)
theorem kw_L_131 : Cond.methodLink "MulesRememberLaw" 131 yX5_seed ∈ rg_tbl := rg_in 838 (by decide +kernel) (by decide +kernel)
theorem km_X5_seed : Cond.instanceMethod yX5_seed ∈ rg_tbl := rg_in 839 (by decide +kernel) (by decide +kernel)
theorem kl_X5_seed : Cond.selects "MulesRememberModel" yX5_seed yX5_seed ∈ rg_tbl := rg_in 840 (by decide +kernel) (by decide +kernel)
theorem kd_X5_seed : Cond.code yX5_seed cX5_seed 5 (some .long) ∈ rg_tbl := rg_in 841 (by decide +kernel) (by decide +kernel)
theorem kw_L_135 : Cond.methodLink "MulesRememberLaw" 135 yX5_years ∈ rg_tbl := rg_in 842 (by decide +kernel) (by decide +kernel)
theorem km_X5_years : Cond.instanceMethod yX5_years ∈ rg_tbl := rg_in 843 (by decide +kernel) (by decide +kernel)
theorem kl_X5_years : Cond.selects "MulesRememberModel" yX5_years yX5_years ∈ rg_tbl := rg_in 844 (by decide +kernel) (by decide +kernel)
theorem kd_X5_years : Cond.code yX5_years cX5_years 5 (some .int) ∈ rg_tbl := rg_in 845 (by decide +kernel) (by decide +kernel)
theorem kw_X5_242 : Cond.constantLong "MulesRememberModel" 242 (30) ∈ rg_tbl := rg_in 846 (by decide +kernel) (by decide +kernel)
theorem kw_X5_244 : Cond.constantLong "MulesRememberModel" 244 (6364136223846793005) ∈ rg_tbl := rg_in 847 (by decide +kernel) (by decide +kernel)
theorem kw_X5_246 : Cond.constantLong "MulesRememberModel" 246 (1442695040888963407) ∈ rg_tbl := rg_in 848 (by decide +kernel) (by decide +kernel)
theorem kw_X5_248 : Cond.constantLong "MulesRememberModel" 248 (12) ∈ rg_tbl := rg_in 849 (by decide +kernel) (by decide +kernel)
theorem kw_L_139 : Cond.methodLink "MulesRememberLaw" 139 yX5_keep ∈ rg_tbl := rg_in 850 (by decide +kernel) (by decide +kernel)
theorem km_X5_keep : Cond.instanceMethod yX5_keep ∈ rg_tbl := rg_in 851 (by decide +kernel) (by decide +kernel)
theorem kl_X5_keep : Cond.selects "MulesRememberModel" yX5_keep yX5_keep ∈ rg_tbl := rg_in 852 (by decide +kernel) (by decide +kernel)
theorem kd_X5_keep : Cond.code yX5_keep cX5_keep 3 (some .int) ∈ rg_tbl := rg_in 853 (by decide +kernel) (by decide +kernel)
theorem kw_L_143 : Cond.methodLink "MulesRememberLaw" 143 yX5_again ∈ rg_tbl := rg_in 854 (by decide +kernel) (by decide +kernel)
theorem km_X5_again : Cond.instanceMethod yX5_again ∈ rg_tbl := rg_in 855 (by decide +kernel) (by decide +kernel)
theorem kl_X5_again : Cond.selects "MulesRememberModel" yX5_again yX5_again ∈ rg_tbl := rg_in 856 (by decide +kernel) (by decide +kernel)
theorem kd_X5_again : Cond.code yX5_again cX5_again 3 (some .int) ∈ rg_tbl := rg_in 857 (by decide +kernel) (by decide +kernel)
theorem kw_L_125 : Cond.constantLong "MulesRememberLaw" 125 (4294967295) ∈ rg_tbl := rg_in 858 (by decide +kernel) (by decide +kernel)
end
section
/-! The walk over a world: locals as a list (.null: not known), the world as a list of cells; a row an instruction. -/
def wl_l (ls : Array Slot) (nL : Nat) (lo : List Value) : Prop := lo.length = nL ∧ ls.size = nL ∧ lv_wf ls ∧ ∀ (i : Nat) (v : Value), lo[i]? = some v → v ≠ .null → ls[i]? = some (.val v)
def wl_ok (lo : List Value) : Nat → Bool
  | 0 => true
  | i + 1 => match (lo[i]? : Option Value) with
    | some v => decide (v.category = 1)
    | none => true
def wl_enum (lo : List Value) : List (Nat × Value) := (List.range lo.length).filterMap fun i => match (lo[i]? : Option Value) with
  | some Value.null => none
  | some v => some (i, v)
  | none => none
theorem wl_enum_mem {lo : List Value} {i : Nat} {v : Value} : (i, v) ∈ wl_enum lo ↔ lo[i]? = some v ∧ v ≠ .null := by
  simp only [wl_enum, List.mem_filterMap, List.mem_range]
  constructor
  · rintro ⟨j, hj, h⟩
    cases hq : lo[j]? with
    | none => rw [hq] at h; cases h
    | some w =>
      rw [hq] at h
      cases w <;> simp only [Option.some.injEq, Prod.mk.injEq, reduceCtorEq] at h <;> obtain ⟨rfl, rfl⟩ := h <;> exact ⟨hq, by simp⟩
  · rintro ⟨h, hn⟩
    have hlt := (List.getElem?_eq_some_iff.mp h).1
    refine ⟨i, hlt, ?_⟩
    rw [h]
    cases v <;> first | rfl | exact absurd rfl hn
theorem wl_has {ls : Array Slot} {nL : Nat} {lo : List Value} (h : wl_l ls nL lo) : lv_has ls nL (wl_enum lo) :=
  ⟨h.2.1, h.2.2.1, fun q hq => h.2.2.2 q.1 q.2 (wl_enum_mem.mp hq).1 (wl_enum_mem.mp hq).2⟩
theorem wl_of {ls : Array Slot} {nL : Nat} {lo : List Value} {l : List (Nat × Value)} (hlen : lo.length = nL) (h : lv_has ls nL l) (hs : ∀ (i : Nat) (v : Value), lo[i]? = some v → v ≠ .null → (i, v) ∈ l) : wl_l ls nL lo :=
  ⟨hlen, h.1, h.2.1, fun i v hi hv => h.2.2 (i, v) (hs i v hi hv)⟩
theorem wl_at {ls : Array Slot} {nL : Nat} {lo : List Value} (h : wl_l ls nL lo) {i : Nat} {v : Value} (hk : lo[i]? = some v) (hv : v ≠ .null) : ls[i]? = some (.val v) := h.2.2.2 i v hk hv
theorem wl_store1 {ls' : Array Slot} {nL i : Nat} {lo : List Value} {v : Value} (hlen : lo.length = nL) (hok : wl_ok lo i = true) (h : lv_has ls' nL ((i, v) :: (wl_enum lo).filter (fun q => !(q.1 == i) && !(q.1 + 1 == i && q.2.category == 2)))) : wl_l ls' nL (lo.set i v) := by
  refine wl_of (by rw [List.length_set]; exact hlen) h (fun j w hj hw => ?_)
  rw [List.getElem?_set] at hj
  by_cases hij : i = j
  · subst hij
    rw [if_pos rfl] at hj
    split at hj
    · cases hj; exact List.mem_cons_self
    · cases hj
  · rw [if_neg hij] at hj
    refine List.mem_cons_of_mem _ (List.mem_filter.mpr ⟨wl_enum_mem.mpr ⟨hj, hw⟩, ?_⟩)
    simp only [Bool.and_eq_true, Bool.not_eq_true', beq_eq_false_iff_ne, Bool.and_eq_false_iff]
    refine ⟨fun e => hij e.symm, ?_⟩
    by_cases hj1 : j + 1 = i
    · right
      subst hj1
      simp only [wl_ok, hj, decide_eq_true_eq] at hok
      omega
    · exact Or.inl hj1
theorem wl_store2 {ls' : Array Slot} {nL i : Nat} {lo : List Value} {v : Value} (hlen : lo.length = nL) (hok : wl_ok lo i = true) (h : lv_has ls' nL ((i, v) :: (wl_enum lo).filter (fun q => !(q.1 == i) && (!(q.1 == i + 1) && !(q.1 + 1 == i && q.2.category == 2))))) : wl_l ls' nL ((lo.set i v).set (i + 1) .null) := by
  refine wl_of (by rw [List.length_set, List.length_set]; exact hlen) h (fun j w hj hw => ?_)
  rw [List.getElem?_set] at hj
  by_cases hij1 : i + 1 = j
  · rw [if_pos hij1] at hj
    split at hj
    · cases hj; exact absurd rfl hw
    · cases hj
  rw [if_neg hij1, List.getElem?_set] at hj
  by_cases hij : i = j
  · subst hij
    rw [if_pos rfl] at hj
    split at hj
    · cases hj; exact List.mem_cons_self
    · cases hj
  · rw [if_neg hij] at hj
    refine List.mem_cons_of_mem _ (List.mem_filter.mpr ⟨wl_enum_mem.mpr ⟨hj, hw⟩, ?_⟩)
    simp only [Bool.and_eq_true, Bool.not_eq_true', beq_eq_false_iff_ne, Bool.and_eq_false_iff]
    refine ⟨fun e => hij e.symm, fun e => hij1 e.symm, ?_⟩
    by_cases hj1 : j + 1 = i
    · right
      subst hj1
      simp only [wl_ok, hj, decide_eq_true_eq] at hok
      omega
    · exact Or.inl hj1
/-- the locals at a method's entry -/
def wl_pad (vs : List Value) (n : Nat) : List Value := let l := vs.flatMap (fun v => if v.category = 2 then [v, .null] else [v]); l ++ List.replicate (n - l.length) .null
/-- the standing facts of a walk -/
def CT (p : Program) (s : State) (m : MethodId) (args : Array Value) (meth : Method) (c : Code) (cc : ByteArray) (own : String) (nL : Nat) (A : Nat → Prop) : Prop :=
  p.tables.exec = Jvm.exec ∧ c.code = cc ∧ c.maxLocals = nL ∧ s.vm.findClass own = some m.cls ∧ (∀ w ∈ rg_tbl, w.before args s = true) ∧ (∀ q, s.heap.size ≤ q → A q) ∧ meth.locks = false ∧ NK s
def WW (p : Program) (l : Launch) (e : Env) (R : Room) (s : State) (m : MethodId) (args : Array Value) (below : List Frame) (meth : Method) (c : Code) (Q : State → Prop) (D : va_G) (A : Nat → Prop) (nL : Nat) (tys : List (ClassId × FieldType)) (cells slots : Nat) (pc : Nat) (lo st : List Value) (w : va_W) : Prop :=
  va_K D vwCl tys s → ∀ (H : Heap) (locs : List Loc) (ls : Array Slot), va_P D vwCl w H → va_D A w → va_S A s.heap H locs → wl_l ls nL lo → W p l e R s m args below meth c H locs cells slots Q (F0 m pc ls st)
def bI (b : Bool) : Int32 := if b then 1 else 0
section WWs
variable {p : Program} {l : Launch} {e : Env} {R : Room} {s : State} {m : MethodId} {args : Array Value} {below : List Frame} {meth : Method} {c : Code} {Q : State → Prop} {D : va_G} {A : Nat → Prop} {cc : ByteArray} {own : String} {nL : Nat} {tys : List (ClassId × FieldType)} {cells slots pc : Nat} {lo st : List Value} {w : va_W}
theorem ww_iconst (C0 : CT p s m args meth c cc own nL A) {n : Int} {v : Int32} (hdg : decode cc pc = .ok (.iconst n, 1)) (hv : Int32.ofInt n = v) (k : WW p l e R s m args below meth c Q D A nL tys cells slots (pc + 1) lo (.int v :: st) w) : WW p l e R s m args below meth c Q D A nL tys cells slots pc lo st w :=
  fun hK H locs ls hP hD hS hl => lv_iconst C0.1 C0.2.1 hdg hv (k hK H locs ls hP hD hS hl)
theorem ww_bipush (C0 : CT p s m args meth c cc own nL A) {n : Int} {v : Int32} (hdg : decode cc pc = .ok (.bipush n, 2)) (hv : (Int8.ofInt n).toInt32 = v) (k : WW p l e R s m args below meth c Q D A nL tys cells slots (pc + 2) lo (.int v :: st) w) : WW p l e R s m args below meth c Q D A nL tys cells slots pc lo st w :=
  fun hK H locs ls hP hD hS hl => lv_bipush C0.1 C0.2.1 hdg hv (k hK H locs ls hP hD hS hl)
theorem ww_sipush (C0 : CT p s m args meth c cc own nL A) {n : Int} {v : Int32} (hdg : decode cc pc = .ok (.sipush n, 3)) (hv : (Int16.ofInt n).toInt32 = v) (k : WW p l e R s m args below meth c Q D A nL tys cells slots (pc + 3) lo (.int v :: st) w) : WW p l e R s m args below meth c Q D A nL tys cells slots pc lo st w :=
  fun hK H locs ls hP hD hS hl => lv_sipush C0.1 C0.2.1 hdg hv (k hK H locs ls hP hD hS hl)
theorem ww_lconst (C0 : CT p s m args meth c cc own nL A) {n : Fin 2} {v : Int64} (hdg : decode cc pc = .ok (.lconst n, 1)) (hv : Int64.ofNat (n : Nat) = v) (k : WW p l e R s m args below meth c Q D A nL tys cells slots (pc + 1) lo (.long v :: st) w) : WW p l e R s m args below meth c Q D A nL tys cells slots pc lo st w :=
  fun hK H locs ls hP hD hS hl => lv_lconst C0.1 C0.2.1 hdg hv (k hK H locs ls hP hD hS hl)
theorem ww_ldc2 (C0 : CT p s m args meth c cc own nL A) {index : Nat} {v : Int64} (hin : Cond.constantLong own index v ∈ rg_tbl) (hdg : decode cc pc = .ok (.ldc2_w index, 3)) (k : WW p l e R s m args below meth c Q D A nL tys cells slots (pc + 3) lo (.long v :: st) w) : WW p l e R s m args below meth c Q D A nL tys cells slots pc lo st w :=
  fun hK H locs ls hP hD hS hl => lv_ldc2 C0.1 C0.2.1 C0.2.2.2.1 (C0.2.2.2.2.1 _ hin) hdg (k hK H locs ls hP hD hS hl)
theorem ww_ldcw (C0 : CT p s m args meth c cc own nL A) {index : Nat} {v : Int32} (hin : Cond.constant own index v ∈ rg_tbl) (hdg : decode cc pc = .ok (.ldc_w index, 3)) (k : WW p l e R s m args below meth c Q D A nL tys cells slots (pc + 3) lo (.int v :: st) w) : WW p l e R s m args below meth c Q D A nL tys cells slots pc lo st w :=
  fun hK H locs ls hP hD hS hl => lv_ldcw C0.1 C0.2.1 C0.2.2.2.1 (C0.2.2.2.2.1 _ hin) hdg (k hK H locs ls hP hD hS hl)
theorem ww_iload_n (C0 : CT p s m args meth c cc own nL A) {k : Fin 4} {x : Int32} (hdg : decode cc pc = .ok (.iload_n k, 1)) (hx : lo[(k : Nat)]? = some (.int x)) (kk : WW p l e R s m args below meth c Q D A nL tys cells slots (pc + 1) lo (.int x :: st) w) : WW p l e R s m args below meth c Q D A nL tys cells slots pc lo st w :=
  fun hK H locs ls hP hD hS hl => lv_iload_n C0.1 C0.2.1 hdg rfl (wl_at hl hx (by simp)) (kk hK H locs ls hP hD hS hl)
theorem ww_iload (C0 : CT p s m args meth c cc own nL A) {i : Nat} {x : Int32} (hdg : decode cc pc = .ok (.iload i, 2)) (hx : lo[i]? = some (.int x)) (kk : WW p l e R s m args below meth c Q D A nL tys cells slots (pc + 2) lo (.int x :: st) w) : WW p l e R s m args below meth c Q D A nL tys cells slots pc lo st w :=
  fun hK H locs ls hP hD hS hl => lv_iload C0.1 C0.2.1 hdg (wl_at hl hx (by simp)) (kk hK H locs ls hP hD hS hl)
theorem ww_lload_n (C0 : CT p s m args meth c cc own nL A) {k : Fin 4} {x : Int64} (hdg : decode cc pc = .ok (.lload_n k, 1)) (hx : lo[(k : Nat)]? = some (.long x)) (kk : WW p l e R s m args below meth c Q D A nL tys cells slots (pc + 1) lo (.long x :: st) w) : WW p l e R s m args below meth c Q D A nL tys cells slots pc lo st w :=
  fun hK H locs ls hP hD hS hl => lv_lload_n C0.1 C0.2.1 hdg rfl (wl_at hl hx (by simp)) (kk hK H locs ls hP hD hS hl)
theorem ww_lload (C0 : CT p s m args meth c cc own nL A) {i : Nat} {x : Int64} (hdg : decode cc pc = .ok (.lload i, 2)) (hx : lo[i]? = some (.long x)) (kk : WW p l e R s m args below meth c Q D A nL tys cells slots (pc + 2) lo (.long x :: st) w) : WW p l e R s m args below meth c Q D A nL tys cells slots pc lo st w :=
  fun hK H locs ls hP hD hS hl => lv_lload C0.1 C0.2.1 hdg (wl_at hl hx (by simp)) (kk hK H locs ls hP hD hS hl)
theorem ww_aload_n (C0 : CT p s m args meth c cc own nL A) {k : Fin 4} {x : Nat} (hdg : decode cc pc = .ok (.aload_n k, 1)) (hx : lo[(k : Nat)]? = some (.ref x)) (kk : WW p l e R s m args below meth c Q D A nL tys cells slots (pc + 1) lo (.ref x :: st) w) : WW p l e R s m args below meth c Q D A nL tys cells slots pc lo st w :=
  fun hK H locs ls hP hD hS hl => lv_aload_n C0.1 C0.2.1 hdg rfl (wl_at hl hx (by simp)) (kk hK H locs ls hP hD hS hl)
theorem ww_aload (C0 : CT p s m args meth c cc own nL A) {i : Nat} {x : Nat} (hdg : decode cc pc = .ok (.aload i, 2)) (hx : lo[i]? = some (.ref x)) (kk : WW p l e R s m args below meth c Q D A nL tys cells slots (pc + 2) lo (.ref x :: st) w) : WW p l e R s m args below meth c Q D A nL tys cells slots pc lo st w :=
  fun hK H locs ls hP hD hS hl => lv_aload C0.1 C0.2.1 hdg (wl_at hl hx (by simp)) (kk hK H locs ls hP hD hS hl)
theorem ww_istore_n (C0 : CT p s m args meth c cc own nL A) {k : Fin 4} {x : Int32} (hdg : decode cc pc = .ok (.istore_n k, 1)) (hi : (k : Nat) < lo.length) (hok : wl_ok lo (k : Nat) = true) (kk : WW p l e R s m args below meth c Q D A nL tys cells slots (pc + 1) (lo.set (k : Nat) (.int x)) st w) : WW p l e R s m args below meth c Q D A nL tys cells slots pc lo (.int x :: st) w :=
  fun hK H locs ls hP hD hS hl => lv_istore_n C0.1 C0.2.1 hdg rfl (wl_has hl) (by rw [← hl.1]; exact hi) rfl (fun ls' h' => kk hK H locs ls' hP hD hS (wl_store1 hl.1 hok h'))
theorem ww_istore (C0 : CT p s m args meth c cc own nL A) {i : Nat} {x : Int32} (hdg : decode cc pc = .ok (.istore i, 2)) (hi : i < lo.length) (hok : wl_ok lo i = true) (kk : WW p l e R s m args below meth c Q D A nL tys cells slots (pc + 2) (lo.set i (.int x)) st w) : WW p l e R s m args below meth c Q D A nL tys cells slots pc lo (.int x :: st) w :=
  fun hK H locs ls hP hD hS hl => lv_istore C0.1 C0.2.1 hdg (wl_has hl) (by rw [← hl.1]; exact hi) rfl (fun ls' h' => kk hK H locs ls' hP hD hS (wl_store1 hl.1 hok h'))
theorem ww_astore_n (C0 : CT p s m args meth c cc own nL A) {k : Fin 4} {x : Nat} (hdg : decode cc pc = .ok (.astore_n k, 1)) (hi : (k : Nat) < lo.length) (hok : wl_ok lo (k : Nat) = true) (kk : WW p l e R s m args below meth c Q D A nL tys cells slots (pc + 1) (lo.set (k : Nat) (.ref x)) st w) : WW p l e R s m args below meth c Q D A nL tys cells slots pc lo (.ref x :: st) w :=
  fun hK H locs ls hP hD hS hl => lv_astore_n C0.1 C0.2.1 hdg rfl (wl_has hl) (by rw [← hl.1]; exact hi) rfl (fun ls' h' => kk hK H locs ls' hP hD hS (wl_store1 hl.1 hok h'))
theorem ww_lstore_n (C0 : CT p s m args meth c cc own nL A) {k : Fin 4} {x : Int64} (hdg : decode cc pc = .ok (.lstore_n k, 1)) (hi : (k : Nat) + 1 < lo.length) (hok : wl_ok lo (k : Nat) = true) (kk : WW p l e R s m args below meth c Q D A nL tys cells slots (pc + 1) ((lo.set (k : Nat) (.long x)).set ((k : Nat) + 1) .null) st w) : WW p l e R s m args below meth c Q D A nL tys cells slots pc lo (.long x :: st) w :=
  fun hK H locs ls hP hD hS hl => lv_lstore_n C0.1 C0.2.1 hdg rfl (wl_has hl) (by rw [← hl.1]; exact hi) rfl (fun ls' h' => kk hK H locs ls' hP hD hS (wl_store2 hl.1 hok h'))
theorem ww_iinc (C0 : CT p s m args meth c cc own nL A) {i : Nat} {n : Int} {x d : Int32} (hdg : decode cc pc = .ok (.iinc i n, 3)) (hx : lo[i]? = some (.int x)) (hd : Int32.ofInt n = d) (hok : wl_ok lo i = true) (kk : WW p l e R s m args below meth c Q D A nL tys cells slots (pc + 3) (lo.set i (.int (x + d))) st w) : WW p l e R s m args below meth c Q D A nL tys cells slots pc lo st w := by
  intro hK H locs ls hP hD hS hl
  obtain ⟨q, hq⟩ := List.getElem?_of_mem (wl_enum_mem.mpr ⟨hx, by simp⟩)
  exact lv_iinc C0.1 C0.2.1 hdg (wl_has hl) hq (by rw [hd]) (by rw [← hl.1]; exact (List.getElem?_eq_some_iff.mp hx).1) rfl (fun ls' h' => kk hK H locs ls' hP hD hS (wl_store1 hl.1 hok h'))
theorem ww_iadd (C0 : CT p s m args meth c cc own nL A) {x y : Int32} (hdg : decode cc pc = .ok (.iadd, 1)) (k : WW p l e R s m args below meth c Q D A nL tys cells slots (pc + 1) lo (.int (x + y) :: st) w) : WW p l e R s m args below meth c Q D A nL tys cells slots pc lo (.int y :: .int x :: st) w :=
  fun hK H locs ls hP hD hS hl => lv_iadd C0.1 C0.2.1 hdg (k hK H locs ls hP hD hS hl)
theorem ww_isub (C0 : CT p s m args meth c cc own nL A) {x y : Int32} (hdg : decode cc pc = .ok (.isub, 1)) (k : WW p l e R s m args below meth c Q D A nL tys cells slots (pc + 1) lo (.int (x - y) :: st) w) : WW p l e R s m args below meth c Q D A nL tys cells slots pc lo (.int y :: .int x :: st) w :=
  fun hK H locs ls hP hD hS hl => lv_isub C0.1 C0.2.1 hdg (k hK H locs ls hP hD hS hl)
theorem ww_imul (C0 : CT p s m args meth c cc own nL A) {x y : Int32} (hdg : decode cc pc = .ok (.imul, 1)) (k : WW p l e R s m args below meth c Q D A nL tys cells slots (pc + 1) lo (.int (x * y) :: st) w) : WW p l e R s m args below meth c Q D A nL tys cells slots pc lo (.int y :: .int x :: st) w :=
  fun hK H locs ls hP hD hS hl => lv_imul C0.1 C0.2.1 hdg (k hK H locs ls hP hD hS hl)
theorem ww_iand (C0 : CT p s m args meth c cc own nL A) {x y : Int32} (hdg : decode cc pc = .ok (.iand, 1)) (k : WW p l e R s m args below meth c Q D A nL tys cells slots (pc + 1) lo (.int (x &&& y) :: st) w) : WW p l e R s m args below meth c Q D A nL tys cells slots pc lo (.int y :: .int x :: st) w :=
  fun hK H locs ls hP hD hS hl => lv_iand C0.1 C0.2.1 hdg (k hK H locs ls hP hD hS hl)
theorem ww_ior (C0 : CT p s m args meth c cc own nL A) {x y : Int32} (hdg : decode cc pc = .ok (.ior, 1)) (k : WW p l e R s m args below meth c Q D A nL tys cells slots (pc + 1) lo (.int (x ||| y) :: st) w) : WW p l e R s m args below meth c Q D A nL tys cells slots pc lo (.int y :: .int x :: st) w :=
  fun hK H locs ls hP hD hS hl => lv_ior C0.1 C0.2.1 hdg (k hK H locs ls hP hD hS hl)
theorem ww_ixor (C0 : CT p s m args meth c cc own nL A) {x y : Int32} (hdg : decode cc pc = .ok (.ixor, 1)) (k : WW p l e R s m args below meth c Q D A nL tys cells slots (pc + 1) lo (.int (x ^^^ y) :: st) w) : WW p l e R s m args below meth c Q D A nL tys cells slots pc lo (.int y :: .int x :: st) w :=
  fun hK H locs ls hP hD hS hl => lv_ixor C0.1 C0.2.1 hdg (k hK H locs ls hP hD hS hl)
theorem ww_ishl (C0 : CT p s m args meth c cc own nL A) {x y : Int32} (hdg : decode cc pc = .ok (.ishl, 1)) (k : WW p l e R s m args below meth c Q D A nL tys cells slots (pc + 1) lo (.int (x <<< (y &&& 31)) :: st) w) : WW p l e R s m args below meth c Q D A nL tys cells slots pc lo (.int y :: .int x :: st) w :=
  fun hK H locs ls hP hD hS hl => lv_ishl C0.1 C0.2.1 hdg (k hK H locs ls hP hD hS hl)
theorem ww_ishr (C0 : CT p s m args meth c cc own nL A) {x y : Int32} (hdg : decode cc pc = .ok (.ishr, 1)) (k : WW p l e R s m args below meth c Q D A nL tys cells slots (pc + 1) lo (.int (x >>> (y &&& 31)) :: st) w) : WW p l e R s m args below meth c Q D A nL tys cells slots pc lo (.int y :: .int x :: st) w :=
  fun hK H locs ls hP hD hS hl => lv_ishr C0.1 C0.2.1 hdg (k hK H locs ls hP hD hS hl)
theorem ww_idiv (C0 : CT p s m args meth c cc own nL A) {x y : Int32} (hdg : decode cc pc = .ok (.idiv, 1)) (hne : ¬ y = 0) (k : WW p l e R s m args below meth c Q D A nL tys cells slots (pc + 1) lo (.int (x / y) :: st) w) : WW p l e R s m args below meth c Q D A nL tys cells slots pc lo (.int y :: .int x :: st) w :=
  fun hK H locs ls hP hD hS hl => lv_idiv C0.1 C0.2.1 hdg hne (k hK H locs ls hP hD hS hl)
theorem ww_irem (C0 : CT p s m args meth c cc own nL A) {x y : Int32} (hdg : decode cc pc = .ok (.irem, 1)) (hne : ¬ y = 0) (k : WW p l e R s m args below meth c Q D A nL tys cells slots (pc + 1) lo (.int (x - x / y * y) :: st) w) : WW p l e R s m args below meth c Q D A nL tys cells slots pc lo (.int y :: .int x :: st) w :=
  fun hK H locs ls hP hD hS hl => lv_irem C0.1 C0.2.1 hdg hne (k hK H locs ls hP hD hS hl)
theorem ww_ladd (C0 : CT p s m args meth c cc own nL A) {x y : Int64} (hdg : decode cc pc = .ok (.ladd, 1)) (k : WW p l e R s m args below meth c Q D A nL tys cells slots (pc + 1) lo (.long (x + y) :: st) w) : WW p l e R s m args below meth c Q D A nL tys cells slots pc lo (.long y :: .long x :: st) w :=
  fun hK H locs ls hP hD hS hl => lv_ladd C0.1 C0.2.1 hdg (k hK H locs ls hP hD hS hl)
theorem ww_lmul (C0 : CT p s m args meth c cc own nL A) {x y : Int64} (hdg : decode cc pc = .ok (.lmul, 1)) (k : WW p l e R s m args below meth c Q D A nL tys cells slots (pc + 1) lo (.long (x * y) :: st) w) : WW p l e R s m args below meth c Q D A nL tys cells slots pc lo (.long y :: .long x :: st) w :=
  fun hK H locs ls hP hD hS hl => lv_lmul C0.1 C0.2.1 hdg (k hK H locs ls hP hD hS hl)
theorem ww_land (C0 : CT p s m args meth c cc own nL A) {x y : Int64} (hdg : decode cc pc = .ok (.land, 1)) (k : WW p l e R s m args below meth c Q D A nL tys cells slots (pc + 1) lo (.long (x &&& y) :: st) w) : WW p l e R s m args below meth c Q D A nL tys cells slots pc lo (.long y :: .long x :: st) w :=
  fun hK H locs ls hP hD hS hl => lv_land C0.1 C0.2.1 hdg (k hK H locs ls hP hD hS hl)
theorem ww_lor (C0 : CT p s m args meth c cc own nL A) {x y : Int64} (hdg : decode cc pc = .ok (.lor, 1)) (k : WW p l e R s m args below meth c Q D A nL tys cells slots (pc + 1) lo (.long (x ||| y) :: st) w) : WW p l e R s m args below meth c Q D A nL tys cells slots pc lo (.long y :: .long x :: st) w :=
  fun hK H locs ls hP hD hS hl => lv_lor C0.1 C0.2.1 hdg (k hK H locs ls hP hD hS hl)
theorem ww_lsub (C0 : CT p s m args meth c cc own nL A) {x y : Int64} (hdg : decode cc pc = .ok (.lsub, 1)) (k : WW p l e R s m args below meth c Q D A nL tys cells slots (pc + 1) lo (.long (x - y) :: st) w) : WW p l e R s m args below meth c Q D A nL tys cells slots pc lo (.long y :: .long x :: st) w :=
  fun hK H locs ls hP hD hS hl => lv_lsub C0.1 C0.2.1 hdg (k hK H locs ls hP hD hS hl)
theorem ww_lrem (C0 : CT p s m args meth c cc own nL A) {x y : Int64} (hdg : decode cc pc = .ok (.lrem, 1)) (hne : ¬ y = 0) (k : WW p l e R s m args below meth c Q D A nL tys cells slots (pc + 1) lo (.long (x - x / y * y) :: st) w) : WW p l e R s m args below meth c Q D A nL tys cells slots pc lo (.long y :: .long x :: st) w :=
  fun hK H locs ls hP hD hS hl => lv_lrem C0.1 C0.2.1 hdg hne (k hK H locs ls hP hD hS hl)
theorem ww_iushr (C0 : CT p s m args meth c cc own nL A) {x y : Int32} (hdg : decode cc pc = .ok (.iushr, 1)) (k : WW p l e R s m args below meth c Q D A nL tys cells slots (pc + 1) lo (.int (x.toUInt32 >>> (y.toUInt32 &&& Int32.toUInt32 31)).toInt32 :: st) w) : WW p l e R s m args below meth c Q D A nL tys cells slots pc lo (.int y :: .int x :: st) w :=
  fun hK H locs ls hP hD hS hl => lv_iushr C0.1 C0.2.1 hdg rfl (k hK H locs ls hP hD hS hl)
theorem ww_lushr (C0 : CT p s m args meth c cc own nL A) {x : Int64} {y : Int32} (hdg : decode cc pc = .ok (.lushr, 1)) (k : WW p l e R s m args below meth c Q D A nL tys cells slots (pc + 1) lo (.long (x.toUInt64 >>> (y.toInt64.toUInt64 &&& Int64.toUInt64 63)).toInt64 :: st) w) : WW p l e R s m args below meth c Q D A nL tys cells slots pc lo (.int y :: .long x :: st) w :=
  fun hK H locs ls hP hD hS hl => lv_lushr C0.1 C0.2.1 hdg rfl (k hK H locs ls hP hD hS hl)
theorem ww_lshl (C0 : CT p s m args meth c cc own nL A) {x : Int64} {y : Int32} (hdg : decode cc pc = .ok (.lshl, 1)) (k : WW p l e R s m args below meth c Q D A nL tys cells slots (pc + 1) lo (.long (x <<< (y.toInt64 &&& 63)) :: st) w) : WW p l e R s m args below meth c Q D A nL tys cells slots pc lo (.int y :: .long x :: st) w :=
  fun hK H locs ls hP hD hS hl => lv_lshl C0.1 C0.2.1 hdg rfl (k hK H locs ls hP hD hS hl)
theorem ww_ineg (C0 : CT p s m args meth c cc own nL A) {x : Int32} (hdg : decode cc pc = .ok (.ineg, 1)) (k : WW p l e R s m args below meth c Q D A nL tys cells slots (pc + 1) lo (.int (-x) :: st) w) : WW p l e R s m args below meth c Q D A nL tys cells slots pc lo (.int x :: st) w :=
  fun hK H locs ls hP hD hS hl => lv_ineg C0.1 C0.2.1 hdg (k hK H locs ls hP hD hS hl)
theorem ww_i2l (C0 : CT p s m args meth c cc own nL A) {x : Int32} (hdg : decode cc pc = .ok (.i2l, 1)) (k : WW p l e R s m args below meth c Q D A nL tys cells slots (pc + 1) lo (.long x.toInt64 :: st) w) : WW p l e R s m args below meth c Q D A nL tys cells slots pc lo (.int x :: st) w :=
  fun hK H locs ls hP hD hS hl => lv_i2l C0.1 C0.2.1 hdg rfl (k hK H locs ls hP hD hS hl)
theorem ww_l2i (C0 : CT p s m args meth c cc own nL A) {x : Int64} (hdg : decode cc pc = .ok (.l2i, 1)) (k : WW p l e R s m args below meth c Q D A nL tys cells slots (pc + 1) lo (.int x.toInt32 :: st) w) : WW p l e R s m args below meth c Q D A nL tys cells slots pc lo (.long x :: st) w :=
  fun hK H locs ls hP hD hS hl => lv_l2i C0.1 C0.2.1 hdg rfl (k hK H locs ls hP hD hS hl)
theorem ww_lcmp (C0 : CT p s m args meth c cc own nL A) {x y : Int64} (hdg : decode cc pc = .ok (.lcmp, 1)) (k : WW p l e R s m args below meth c Q D A nL tys cells slots (pc + 1) lo (.int (lg_cmp x y) :: st) w) : WW p l e R s m args below meth c Q D A nL tys cells slots pc lo (.long y :: .long x :: st) w :=
  fun hK H locs ls hP hD hS hl => W.lcmp C0.1 C0.2.1 hdg (k hK H locs ls hP hD hS hl)
theorem ww_dup (C0 : CT p s m args meth c cc own nL A) {va : Value} (hdg : decode cc pc = .ok (.dup, 1)) (hva : va.category = 1) (k : WW p l e R s m args below meth c Q D A nL tys cells slots (pc + 1) lo (va :: va :: st) w) : WW p l e R s m args below meth c Q D A nL tys cells slots pc lo (va :: st) w :=
  fun hK H locs ls hP hD hS hl => lv_dup C0.1 C0.2.1 hdg hva (k hK H locs ls hP hD hS hl)
theorem ww_dup2 (C0 : CT p s m args meth c cc own nL A) {va vb : Value} (hdg : decode cc pc = .ok (.dup2, 1)) (hva : va.category = 1) (hvb : vb.category = 1) (k : WW p l e R s m args below meth c Q D A nL tys cells slots (pc + 1) lo (va :: vb :: va :: vb :: st) w) : WW p l e R s m args below meth c Q D A nL tys cells slots pc lo (va :: vb :: st) w :=
  fun hK H locs ls hP hD hS hl => lv_dup2_11 C0.1 C0.2.1 hdg hva hvb (k hK H locs ls hP hD hS hl)
theorem ww_if_eq (C0 : CT p s m args meth c cc own nL A) {x : Int32} {off : Int} {tgt : Nat} (hdg : decode cc pc = .ok (.ifCond .eq off, 3)) (ht : (pc : Int) + off = (tgt : Int)) (kt : (x = 0) → WW p l e R s m args below meth c Q D A nL tys cells slots tgt lo st w) (kf : (¬ x = 0) → WW p l e R s m args below meth c Q D A nL tys cells slots (pc + 3) lo st w) : WW p l e R s m args below meth c Q D A nL tys cells slots pc lo (.int x :: st) w :=
  fun hK H locs ls hP hD hS hl => lv_if_eq C0.1 C0.2.1 hdg ht (fun h => kt h hK H locs ls hP hD hS hl) (fun h => kf h hK H locs ls hP hD hS hl)
theorem ww_icmp_eq (C0 : CT p s m args meth c cc own nL A) {x y : Int32} {off : Int} {tgt : Nat} (hdg : decode cc pc = .ok (.if_icmp .eq off, 3)) (ht : (pc : Int) + off = (tgt : Int)) (kt : (x = y) → WW p l e R s m args below meth c Q D A nL tys cells slots tgt lo st w) (kf : (¬ x = y) → WW p l e R s m args below meth c Q D A nL tys cells slots (pc + 3) lo st w) : WW p l e R s m args below meth c Q D A nL tys cells slots pc lo (.int y :: .int x :: st) w :=
  fun hK H locs ls hP hD hS hl => lv_icmp_eq C0.1 C0.2.1 hdg ht (fun h => kt h hK H locs ls hP hD hS hl) (fun h => kf h hK H locs ls hP hD hS hl)
theorem ww_if_ne (C0 : CT p s m args meth c cc own nL A) {x : Int32} {off : Int} {tgt : Nat} (hdg : decode cc pc = .ok (.ifCond .ne off, 3)) (ht : (pc : Int) + off = (tgt : Int)) (kt : (¬ x = 0) → WW p l e R s m args below meth c Q D A nL tys cells slots tgt lo st w) (kf : (x = 0) → WW p l e R s m args below meth c Q D A nL tys cells slots (pc + 3) lo st w) : WW p l e R s m args below meth c Q D A nL tys cells slots pc lo (.int x :: st) w :=
  fun hK H locs ls hP hD hS hl => lv_if_ne C0.1 C0.2.1 hdg ht (fun h => kt h hK H locs ls hP hD hS hl) (fun h => kf h hK H locs ls hP hD hS hl)
theorem ww_icmp_ne (C0 : CT p s m args meth c cc own nL A) {x y : Int32} {off : Int} {tgt : Nat} (hdg : decode cc pc = .ok (.if_icmp .ne off, 3)) (ht : (pc : Int) + off = (tgt : Int)) (kt : (¬ x = y) → WW p l e R s m args below meth c Q D A nL tys cells slots tgt lo st w) (kf : (x = y) → WW p l e R s m args below meth c Q D A nL tys cells slots (pc + 3) lo st w) : WW p l e R s m args below meth c Q D A nL tys cells slots pc lo (.int y :: .int x :: st) w :=
  fun hK H locs ls hP hD hS hl => lv_icmp_ne C0.1 C0.2.1 hdg ht (fun h => kt h hK H locs ls hP hD hS hl) (fun h => kf h hK H locs ls hP hD hS hl)
theorem ww_if_lt (C0 : CT p s m args meth c cc own nL A) {x : Int32} {off : Int} {tgt : Nat} (hdg : decode cc pc = .ok (.ifCond .lt off, 3)) (ht : (pc : Int) + off = (tgt : Int)) (kt : (x < 0) → WW p l e R s m args below meth c Q D A nL tys cells slots tgt lo st w) (kf : (¬ x < 0) → WW p l e R s m args below meth c Q D A nL tys cells slots (pc + 3) lo st w) : WW p l e R s m args below meth c Q D A nL tys cells slots pc lo (.int x :: st) w :=
  fun hK H locs ls hP hD hS hl => lv_if_lt C0.1 C0.2.1 hdg ht (fun h => kt h hK H locs ls hP hD hS hl) (fun h => kf h hK H locs ls hP hD hS hl)
theorem ww_icmp_lt (C0 : CT p s m args meth c cc own nL A) {x y : Int32} {off : Int} {tgt : Nat} (hdg : decode cc pc = .ok (.if_icmp .lt off, 3)) (ht : (pc : Int) + off = (tgt : Int)) (kt : (x < y) → WW p l e R s m args below meth c Q D A nL tys cells slots tgt lo st w) (kf : (¬ x < y) → WW p l e R s m args below meth c Q D A nL tys cells slots (pc + 3) lo st w) : WW p l e R s m args below meth c Q D A nL tys cells slots pc lo (.int y :: .int x :: st) w :=
  fun hK H locs ls hP hD hS hl => lv_icmp_lt C0.1 C0.2.1 hdg ht (fun h => kt h hK H locs ls hP hD hS hl) (fun h => kf h hK H locs ls hP hD hS hl)
theorem ww_if_ge (C0 : CT p s m args meth c cc own nL A) {x : Int32} {off : Int} {tgt : Nat} (hdg : decode cc pc = .ok (.ifCond .ge off, 3)) (ht : (pc : Int) + off = (tgt : Int)) (kt : (0 ≤ x) → WW p l e R s m args below meth c Q D A nL tys cells slots tgt lo st w) (kf : (¬ 0 ≤ x) → WW p l e R s m args below meth c Q D A nL tys cells slots (pc + 3) lo st w) : WW p l e R s m args below meth c Q D A nL tys cells slots pc lo (.int x :: st) w :=
  fun hK H locs ls hP hD hS hl => lv_if_ge C0.1 C0.2.1 hdg ht (fun h => kt h hK H locs ls hP hD hS hl) (fun h => kf h hK H locs ls hP hD hS hl)
theorem ww_icmp_ge (C0 : CT p s m args meth c cc own nL A) {x y : Int32} {off : Int} {tgt : Nat} (hdg : decode cc pc = .ok (.if_icmp .ge off, 3)) (ht : (pc : Int) + off = (tgt : Int)) (kt : (y ≤ x) → WW p l e R s m args below meth c Q D A nL tys cells slots tgt lo st w) (kf : (¬ y ≤ x) → WW p l e R s m args below meth c Q D A nL tys cells slots (pc + 3) lo st w) : WW p l e R s m args below meth c Q D A nL tys cells slots pc lo (.int y :: .int x :: st) w :=
  fun hK H locs ls hP hD hS hl => lv_icmp_ge C0.1 C0.2.1 hdg ht (fun h => kt h hK H locs ls hP hD hS hl) (fun h => kf h hK H locs ls hP hD hS hl)
theorem ww_if_gt (C0 : CT p s m args meth c cc own nL A) {x : Int32} {off : Int} {tgt : Nat} (hdg : decode cc pc = .ok (.ifCond .gt off, 3)) (ht : (pc : Int) + off = (tgt : Int)) (kt : (0 < x) → WW p l e R s m args below meth c Q D A nL tys cells slots tgt lo st w) (kf : (¬ 0 < x) → WW p l e R s m args below meth c Q D A nL tys cells slots (pc + 3) lo st w) : WW p l e R s m args below meth c Q D A nL tys cells slots pc lo (.int x :: st) w :=
  fun hK H locs ls hP hD hS hl => lv_if_gt C0.1 C0.2.1 hdg ht (fun h => kt h hK H locs ls hP hD hS hl) (fun h => kf h hK H locs ls hP hD hS hl)
theorem ww_icmp_gt (C0 : CT p s m args meth c cc own nL A) {x y : Int32} {off : Int} {tgt : Nat} (hdg : decode cc pc = .ok (.if_icmp .gt off, 3)) (ht : (pc : Int) + off = (tgt : Int)) (kt : (y < x) → WW p l e R s m args below meth c Q D A nL tys cells slots tgt lo st w) (kf : (¬ y < x) → WW p l e R s m args below meth c Q D A nL tys cells slots (pc + 3) lo st w) : WW p l e R s m args below meth c Q D A nL tys cells slots pc lo (.int y :: .int x :: st) w :=
  fun hK H locs ls hP hD hS hl => lv_icmp_gt C0.1 C0.2.1 hdg ht (fun h => kt h hK H locs ls hP hD hS hl) (fun h => kf h hK H locs ls hP hD hS hl)
theorem ww_if_le (C0 : CT p s m args meth c cc own nL A) {x : Int32} {off : Int} {tgt : Nat} (hdg : decode cc pc = .ok (.ifCond .le off, 3)) (ht : (pc : Int) + off = (tgt : Int)) (kt : (x ≤ 0) → WW p l e R s m args below meth c Q D A nL tys cells slots tgt lo st w) (kf : (¬ x ≤ 0) → WW p l e R s m args below meth c Q D A nL tys cells slots (pc + 3) lo st w) : WW p l e R s m args below meth c Q D A nL tys cells slots pc lo (.int x :: st) w :=
  fun hK H locs ls hP hD hS hl => lv_if_le C0.1 C0.2.1 hdg ht (fun h => kt h hK H locs ls hP hD hS hl) (fun h => kf h hK H locs ls hP hD hS hl)
theorem ww_icmp_le (C0 : CT p s m args meth c cc own nL A) {x y : Int32} {off : Int} {tgt : Nat} (hdg : decode cc pc = .ok (.if_icmp .le off, 3)) (ht : (pc : Int) + off = (tgt : Int)) (kt : (x ≤ y) → WW p l e R s m args below meth c Q D A nL tys cells slots tgt lo st w) (kf : (¬ x ≤ y) → WW p l e R s m args below meth c Q D A nL tys cells slots (pc + 3) lo st w) : WW p l e R s m args below meth c Q D A nL tys cells slots pc lo (.int y :: .int x :: st) w :=
  fun hK H locs ls hP hD hS hl => lv_icmp_le C0.1 C0.2.1 hdg ht (fun h => kt h hK H locs ls hP hD hS hl) (fun h => kf h hK H locs ls hP hD hS hl)
theorem ww_goto (C0 : CT p s m args meth c cc own nL A) {off : Int} {tgt : Nat} (hdg : decode cc pc = .ok (.goto off, 3)) (ht : (pc : Int) + off = (tgt : Int)) (k : WW p l e R s m args below meth c Q D A nL tys cells slots tgt lo st w) : WW p l e R s m args below meth c Q D A nL tys cells slots pc lo st w :=
  fun hK H locs ls hP hD hS hl => lv_goto C0.1 C0.2.1 hdg ht (k hK H locs ls hP hD hS hl)
theorem ww_tableIn (C0 : CT p s m args meth c cc own nL A) {dflt lo1 hi : Int} {offs : Array Int} {len : Nat} {x : Int32} {off : Int} {tgt : Nat} (hdg : decode cc pc = .ok (.tableswitch dflt lo1 hi offs, len)) (h1 : ¬ x.toInt < lo1) (h2 : ¬ hi < x.toInt) (ho : offs[(x.toInt - lo1).toNat]? = some off) (ht : (pc : Int) + off = (tgt : Int)) (k : WW p l e R s m args below meth c Q D A nL tys cells slots tgt lo st w) : WW p l e R s m args below meth c Q D A nL tys cells slots pc lo (.int x :: st) w :=
  fun hK H locs ls hP hD hS hl => lv_tableIn C0.1 C0.2.1 hdg h1 h2 ho ht (k hK H locs ls hP hD hS hl)
theorem ww_tableOut (C0 : CT p s m args meth c cc own nL A) {dflt lo1 hi : Int} {offs : Array Int} {len : Nat} {x : Int32} {tgt : Nat} (hdg : decode cc pc = .ok (.tableswitch dflt lo1 hi offs, len)) (h : x.toInt < lo1 ∨ hi < x.toInt) (ht : (pc : Int) + dflt = (tgt : Int)) (k : WW p l e R s m args below meth c Q D A nL tys cells slots tgt lo st w) : WW p l e R s m args below meth c Q D A nL tys cells slots pc lo (.int x :: st) w :=
  fun hK H locs ls hP hD hS hl => lv_tableOut C0.1 C0.2.1 hdg h ht (k hK H locs ls hP hD hS hl)
theorem ww_lookup (C0 : CT p s m args meth c cc own nL A) {dflt : Int} {ps : Array (Int × Int)} {len : Nat} {x : Int32} {off : Int} {tgt : Nat} (hdg : decode cc pc = .ok (.lookupswitch dflt ps, len)) (hp : (ps.toList.zip (ps.toList.drop 1)).all (fun (a, next) => a.1 < next.1) = true) (ho : Op.lookupswitch.offset ps.toList dflt x.toInt = off) (ht : (pc : Int) + off = (tgt : Int)) (k : WW p l e R s m args below meth c Q D A nL tys cells slots tgt lo st w) : WW p l e R s m args below meth c Q D A nL tys cells slots pc lo (.int x :: st) w :=
  fun hK H locs ls hP hD hS hl => lv_lookup C0.1 C0.2.1 hdg hp ho ht (k hK H locs ls hP hD hS hl)
theorem ww_ifnull (C0 : CT p s m args meth c cc own nL A) {x : Nat} {off : Int} (hdg : decode cc pc = .ok (.ifnull off, 3)) (k : WW p l e R s m args below meth c Q D A nL tys cells slots (pc + 3) lo st w) : WW p l e R s m args below meth c Q D A nL tys cells slots pc lo (.ref x :: st) w :=
  fun hK H locs ls hP hD hS hl => lv_ifnull C0.1 C0.2.1 hdg (k hK H locs ls hP hD hS hl)
theorem ww_ifnonnull (C0 : CT p s m args meth c cc own nL A) {x : Nat} {off : Int} {tgt : Nat} (hdg : decode cc pc = .ok (.ifnonnull off, 3)) (ht : (pc : Int) + off = (tgt : Int)) (k : WW p l e R s m args below meth c Q D A nL tys cells slots tgt lo st w) : WW p l e R s m args below meth c Q D A nL tys cells slots pc lo (.ref x :: st) w :=
  fun hK H locs ls hP hD hS hl => lv_ifnonnull C0.1 C0.2.1 hdg ht (k hK H locs ls hP hD hS hl)
theorem ww_get (C0 : CT p s m args meth c cc own nL A) {a ci : Nat} {C : String} {T : u_T} {N : Nat} {index : Nat} (hin : ∀ w ∈ u_ws C T N, w ∈ rg_tbl) (q0 : Nat) {fs : List Value} (he : w[q0]? = some (a, .inr (ci, fs))) (hc : vwCl[ci]? = some (C, T, N)) (k : Nat) (hk : k < N) (hlink : Cond.fieldLink own index (T k).1 (T k).2.1 (T k).2.2.1 ∈ rg_tbl) {v : Value} (hv : fs[k]? = some v) (hdg : decode cc pc = .ok (.getfield index, 3)) (kk : WW p l e R s m args below meth c Q D A nL tys cells slots (pc + 3) lo (v :: st) w) : WW p l e R s m args below meth c Q D A nL tys cells slots pc lo (.ref a :: st) w :=
  fun hK H locs ls hP hD hS hl => va_get C0.1 C0.2.1 C0.2.2.2.2.1 hin C0.2.2.2.1 hK hP q0 he hc k hk (C0.2.2.2.2.1 _ hlink) (fun _ h9 => h9) hv hdg (kk hK H locs ls hP hD hS hl)
theorem ww_getN (C0 : CT p s m args meth c cc own nL A) {a ci : Nat} {C : String} {T : u_T} {N : Nat} {host : String} {index : Nat} (hin : ∀ w ∈ u_ws C T N, w ∈ rg_tbl) (q0 : Nat) {fs : List Value} (he : w[q0]? = some (a, .inr (ci, fs))) (hc : vwCl[ci]? = some (C, T, N)) (k : Nat) (hk : k < N) (hlink : Cond.fieldLinkNest own index (T k).1 (T k).2.1 (T k).2.2.1 host ∈ nk_tbl) {v : Value} (hv : fs[k]? = some v) (hdg : decode cc pc = .ok (.getfield index, 3)) (kk : WW p l e R s m args below meth c Q D A nL tys cells slots (pc + 3) lo (v :: st) w) : WW p l e R s m args below meth c Q D A nL tys cells slots pc lo (.ref a :: st) w :=
  fun hK H locs ls hP hD hS hl => va_getN C0.1 C0.2.1 C0.2.2.2.2.1 hin C0.2.2.2.1 hK hP q0 he hc k hk (va_Nw.use rfl (C0.2.2.2.2.2.2.2 _ hlink)) (fun _ h9 => h9) hv hdg (kk hK H locs ls hP hD hS hl)
theorem ww_put (C0 : CT p s m args meth c cc own nL A) {a ci : Nat} {C : String} {T : u_T} {N : Nat} {index : Nat} (hin : ∀ w ∈ u_ws C T N, w ∈ rg_tbl) (q0 : Nat) {fs : List Value} (he : w[q0]? = some (a, .inr (ci, fs))) (hc : vwCl[ci]? = some (C, T, N)) (k : Nat) (hk : k < N) (ty0 : Nat → FieldType) (hty : ∀ k, k < N → parseFieldDescriptor (T k).2.2.1 = some (ty0 k)) (hnm : ∀ a, a < N → ∀ b, b < N → a ≠ b → (T a).2.1 ≠ (T b).2.1) (hlink : Cond.fieldLink own index (T k).1 (T k).2.1 (T k).2.2.1 ∈ rg_tbl) (hfin : (T k).2.2.2 = false) {ty : FieldType} {v : Value} (hd : parseFieldDescriptor (T k).2.2.1 = some ty) (hn : narrow ty v = v) (hfit : fits ty v = true) (hl0 : k < fs.length) (hdg : decode cc pc = .ok (.putfield index, 3)) (kk : WW p l e R s m args below meth c Q D A nL tys cells slots (pc + 3) lo st (w.set q0 (a, .inr (ci, fs.set k v)))) : WW p l e R s m args below meth c Q D A nL tys cells slots pc lo (v :: .ref a :: st) w :=
  fun hK H locs ls hP hD hS hl => va_put C0.1 C0.2.1 C0.2.2.2.2.1 hin ty0 hty hnm C0.2.2.2.1 hK hP hD hS q0 he hc k hk (C0.2.2.2.2.1 _ hlink) (fun _ h9 => h9) hfin hd hn hfit hl0 hdg (fun H1 locs1 hP1 hD1 hS1 => kk hK H1 locs1 ls hP1 hD1 hS1 hl)
theorem ww_putN (C0 : CT p s m args meth c cc own nL A) {a ci : Nat} {C : String} {T : u_T} {N : Nat} {host : String} {index : Nat} (hin : ∀ w ∈ u_ws C T N, w ∈ rg_tbl) (q0 : Nat) {fs : List Value} (he : w[q0]? = some (a, .inr (ci, fs))) (hc : vwCl[ci]? = some (C, T, N)) (k : Nat) (hk : k < N) (ty0 : Nat → FieldType) (hty : ∀ k, k < N → parseFieldDescriptor (T k).2.2.1 = some (ty0 k)) (hnm : ∀ a, a < N → ∀ b, b < N → a ≠ b → (T a).2.1 ≠ (T b).2.1) (hlink : Cond.fieldLinkNest own index (T k).1 (T k).2.1 (T k).2.2.1 host ∈ nk_tbl) (hfin : (T k).2.2.2 = false) {ty : FieldType} {v : Value} (hd : parseFieldDescriptor (T k).2.2.1 = some ty) (hn : narrow ty v = v) (hfit : fits ty v = true) (hl0 : k < fs.length) (hdg : decode cc pc = .ok (.putfield index, 3)) (kk : WW p l e R s m args below meth c Q D A nL tys cells slots (pc + 3) lo st (w.set q0 (a, .inr (ci, fs.set k v)))) : WW p l e R s m args below meth c Q D A nL tys cells slots pc lo (v :: .ref a :: st) w :=
  fun hK H locs ls hP hD hS hl => va_putN C0.1 C0.2.1 C0.2.2.2.2.1 hin ty0 hty hnm C0.2.2.2.1 hK hP hD hS q0 he hc k hk (va_Nw.use rfl (C0.2.2.2.2.2.2.2 _ hlink)) (fun _ h9 => h9) hfin hd hn hfit hl0 hdg (fun H1 locs1 hP1 hD1 hS1 => kk hK H1 locs1 ls hP1 hD1 hS1 hl)
theorem ww_putF (C0 : CT p s m args meth c cc own nL A) (hinit : meth.name = "<init>") {a ci : Nat} {C : String} {T : u_T} {N : Nat} {index : Nat} (hin : ∀ w ∈ u_ws C T N, w ∈ rg_tbl) (q0 : Nat) {fs : List Value} (he : w[q0]? = some (a, .inr (ci, fs))) (hc : vwCl[ci]? = some (C, T, N)) (k : Nat) (hk : k < N) (ty0 : Nat → FieldType) (hty : ∀ k, k < N → parseFieldDescriptor (T k).2.2.1 = some (ty0 k)) (hnm : ∀ a, a < N → ∀ b, b < N → a ≠ b → (T a).2.1 ≠ (T b).2.1) (hlink : Cond.fieldLink own index (T k).1 (T k).2.1 (T k).2.2.1 ∈ rg_tbl) (hfin : (T k).2.2.2 = true) (hdecl : (T k).1 = own) {ty : FieldType} {v : Value} (hd : parseFieldDescriptor (T k).2.2.1 = some ty) (hn : narrow ty v = v) (hfit : fits ty v = true) (hl0 : k < fs.length) (hdg : decode cc pc = .ok (.putfield index, 3)) (kk : WW p l e R s m args below meth c Q D A nL tys cells slots (pc + 3) lo st (w.set q0 (a, .inr (ci, fs.set k v)))) : WW p l e R s m args below meth c Q D A nL tys cells slots pc lo (v :: .ref a :: st) w :=
  fun hK H locs ls hP hD hS hl => va_putF C0.1 C0.2.1 C0.2.2.2.2.1 hin ty0 hty hnm C0.2.2.2.1 hK hP hD hS q0 he hc k hk (C0.2.2.2.2.1 _ hlink) (fun _ h9 => h9) hfin hinit hdecl hd hn hfit hl0 hdg (fun H1 locs1 hP1 hD1 hS1 => kk hK H1 locs1 ls hP1 hD1 hS1 hl)
theorem ww_iald (C0 : CT p s m args meth c cc own nL A) {a : Nat} (q0 t0 : Nat) {cA : ClassId} {n : Nat} {f : Nat → Int32} (ha : w[q0]? = some (a, .inl (cA, n, .inl f))) (ht : tys[t0]? = some (cA, .int)) {i : Int32} (hin : vp_in i n) (hdg : decode cc pc = .ok (.iaload, 1)) (kk : WW p l e R s m args below meth c Q D A nL tys cells slots (pc + 1) lo (.int (f i.toNatClampNeg) :: st) w) : WW p l e R s m args below meth c Q D A nL tys cells slots pc lo (.int i :: .ref a :: st) w :=
  fun hK H locs ls hP hD hS hl => va_iald C0.1 C0.2.1 hK hP q0 t0 ha ht hin hdg (kk hK H locs ls hP hD hS hl)
theorem ww_iald_n (C0 : CT p s m args meth c cc own nL A) {a : Nat} (q0 t0 : Nat) {cA : ClassId} {n : Nat} {f : Nat → Int32} (ha : w[q0]? = some (a, .inl (cA, n, .inl f))) (ht : tys[t0]? = some (cA, .int)) {i : Int32} {j : Nat} (hi : i = nI j) (hj : j < n) (hn : n < 2 ^ 31) (hdg : decode cc pc = .ok (.iaload, 1)) (kk : WW p l e R s m args below meth c Q D A nL tys cells slots (pc + 1) lo (.int (f j) :: st) w) : WW p l e R s m args below meth c Q D A nL tys cells slots pc lo (.int i :: .ref a :: st) w := by
  subst hi
  exact ww_iald C0 q0 t0 ha ht (vp_in_nI hj hn) hdg (by rw [nI_clamp (by omega)]; exact kk)
theorem ww_zald (C0 : CT p s m args meth c cc own nL A) {a : Nat} (q0 t0 : Nat) {cA : ClassId} {n : Nat} {f : Nat → Int32} (ha : w[q0]? = some (a, .inl (cA, n, .inl f))) (ht : tys[t0]? = some (cA, .boolean)) {i : Int32} (hin : vp_in i n) (hdg : decode cc pc = .ok (.baload, 1)) (kk : WW p l e R s m args below meth c Q D A nL tys cells slots (pc + 1) lo (.int (f i.toNatClampNeg) :: st) w) : WW p l e R s m args below meth c Q D A nL tys cells slots pc lo (.int i :: .ref a :: st) w :=
  fun hK H locs ls hP hD hS hl => va_zald C0.1 C0.2.1 hK hP q0 t0 ha ht hin hdg (kk hK H locs ls hP hD hS hl)
theorem ww_zald_n (C0 : CT p s m args meth c cc own nL A) {a : Nat} (q0 t0 : Nat) {cA : ClassId} {n : Nat} {f : Nat → Int32} (ha : w[q0]? = some (a, .inl (cA, n, .inl f))) (ht : tys[t0]? = some (cA, .boolean)) {i : Int32} {j : Nat} (hi : i = nI j) (hj : j < n) (hn : n < 2 ^ 31) (hdg : decode cc pc = .ok (.baload, 1)) (kk : WW p l e R s m args below meth c Q D A nL tys cells slots (pc + 1) lo (.int (f j) :: st) w) : WW p l e R s m args below meth c Q D A nL tys cells slots pc lo (.int i :: .ref a :: st) w := by
  subst hi
  exact ww_zald C0 q0 t0 ha ht (vp_in_nI hj hn) hdg (by rw [nI_clamp (by omega)]; exact kk)
theorem ww_iast (C0 : CT p s m args meth c cc own nL A) {a : Nat} (q0 t0 : Nat) {cA : ClassId} {n : Nat} {f : Nat → Int32} (ha : w[q0]? = some (a, .inl (cA, n, .inl f))) (ht : tys[t0]? = some (cA, .int)) {i x : Int32} (hin : vp_in i n) (hdg : decode cc pc = .ok (.iastore, 1)) (kk : WW p l e R s m args below meth c Q D A nL tys cells slots (pc + 1) lo st (w.set q0 (a, .inl (cA, n, .inl (upd f i.toNatClampNeg x))))) : WW p l e R s m args below meth c Q D A nL tys cells slots pc lo (.int x :: .int i :: .ref a :: st) w :=
  fun hK H locs ls hP hD hS hl => va_iast C0.1 C0.2.1 hK hP hD hS q0 t0 ha ht hin hdg (fun H1 locs1 hP1 hD1 hS1 => kk hK H1 locs1 ls hP1 hD1 hS1 hl)
theorem ww_iast_n (C0 : CT p s m args meth c cc own nL A) {a : Nat} (q0 t0 : Nat) {cA : ClassId} {n : Nat} {f : Nat → Int32} (ha : w[q0]? = some (a, .inl (cA, n, .inl f))) (ht : tys[t0]? = some (cA, .int)) {i x : Int32} {j : Nat} (hi : i = nI j) (hj : j < n) (hn : n < 2 ^ 31) (hdg : decode cc pc = .ok (.iastore, 1)) (kk : WW p l e R s m args below meth c Q D A nL tys cells slots (pc + 1) lo st (w.set q0 (a, .inl (cA, n, .inl (upd f j x))))) : WW p l e R s m args below meth c Q D A nL tys cells slots pc lo (.int x :: .int i :: .ref a :: st) w := by
  subst hi
  exact ww_iast C0 q0 t0 ha ht (vp_in_nI hj hn) hdg (by rw [nI_clamp (by omega)]; exact kk)
theorem ww_zast (C0 : CT p s m args meth c cc own nL A) {a : Nat} (q0 t0 : Nat) {cA : ClassId} {n : Nat} {f : Nat → Int32} (ha : w[q0]? = some (a, .inl (cA, n, .inl f))) (ht : tys[t0]? = some (cA, .boolean)) {i x : Int32} (hin : vp_in i n) (hdg : decode cc pc = .ok (.bastore, 1)) (kk : WW p l e R s m args below meth c Q D A nL tys cells slots (pc + 1) lo st (w.set q0 (a, .inl (cA, n, .inl (upd f i.toNatClampNeg (vp_nar .boolean x)))))) : WW p l e R s m args below meth c Q D A nL tys cells slots pc lo (.int x :: .int i :: .ref a :: st) w :=
  fun hK H locs ls hP hD hS hl => va_zast C0.1 C0.2.1 hK hP hD hS q0 t0 ha ht hin hdg (fun H1 locs1 hP1 hD1 hS1 => kk hK H1 locs1 ls hP1 hD1 hS1 hl)
theorem ww_zast_n (C0 : CT p s m args meth c cc own nL A) {a : Nat} (q0 t0 : Nat) {cA : ClassId} {n : Nat} {f : Nat → Int32} (ha : w[q0]? = some (a, .inl (cA, n, .inl f))) (ht : tys[t0]? = some (cA, .boolean)) {i x : Int32} {j : Nat} (hi : i = nI j) (hj : j < n) (hn : n < 2 ^ 31) (hdg : decode cc pc = .ok (.bastore, 1)) (kk : WW p l e R s m args below meth c Q D A nL tys cells slots (pc + 1) lo st (w.set q0 (a, .inl (cA, n, .inl (upd f j (vp_nar .boolean x)))))) : WW p l e R s m args below meth c Q D A nL tys cells slots pc lo (.int x :: .int i :: .ref a :: st) w := by
  subst hi
  exact ww_zast C0 q0 t0 ha ht (vp_in_nI hj hn) hdg (by rw [nI_clamp (by omega)]; exact kk)
theorem ww_aald (C0 : CT p s m args meth c cc own nL A) {a : Nat} (q0 t0 : Nat) {cA : ClassId} {C : String} {n : Nat} {f : Nat → Option Nat} (ha : w[q0]? = some (a, .inl (cA, n, .inr (.inr (.inr (.inr f)))))) (ht : tys[t0]? = some (cA, .object C)) {i : Int32} {j b : Nat} (hi : i = nI j) (hj : j < n) (hn : n < 2 ^ 31) (hf : f j = some b) (hdg : decode cc pc = .ok (.aaload, 1)) (kk : WW p l e R s m args below meth c Q D A nL tys cells slots (pc + 1) lo (.ref b :: st) w) : WW p l e R s m args below meth c Q D A nL tys cells slots pc lo (.int i :: .ref a :: st) w := by
  subst hi
  intro hK H locs ls hP hD hS hl
  refine va_aldq C0.1 C0.2.1 hK hP q0 t0 ha ht (vp_in_nI hj hn) hdg ?_
  rw [nI_clamp (by omega), hf]
  exact kk hK H locs ls hP hD hS hl
theorem ww_aast (C0 : CT p s m args meth c cc own nL A) {a : Nat} (q0 t0 qk ci : Nat) {cA : ClassId} {r : vw_C} {n v : Nat} {vs : List Value} {f : Nat → Option Nat} (ha : w[q0]? = some (a, .inl (cA, n, .inr (.inr (.inr (.inr f)))))) (ht : tys[t0]? = some (cA, .object r.1)) (hv : w[qk]? = some (v, .inr (ci, vs))) (hc : vwCl[ci]? = some r) {i : Int32} {j : Nat} (hi : i = nI j) (hj : j < n) (hn : n < 2 ^ 31) (hdg : decode cc pc = .ok (.aastore, 1)) (kk : WW p l e R s m args below meth c Q D A nL tys cells slots (pc + 1) lo st (w.set q0 (a, .inl (cA, n, .inr (.inr (.inr (.inr (va_up f j (some v))))))))) : WW p l e R s m args below meth c Q D A nL tys cells slots pc lo (.ref v :: .int i :: .ref a :: st) w := by
  subst hi
  intro hK H locs ls hP hD hS hl
  refine va_astq C0.1 C0.2.1 hK hP hD hS q0 t0 qk ci ha ht hv hc (vp_in_nI hj hn) hdg (fun H1 locs1 hP1 hD1 hS1 => ?_)
  rw [nI_clamp (by omega)] at hP1 hD1
  exact kk hK H1 locs1 ls hP1 hD1 hS1 hl
theorem ww_alen (C0 : CT p s m args meth c cc own nL A) {a : Nat} (q0 t0 : Nat) {cA : ClassId} {x : vp_A} (ha : w[q0]? = some (a, .inl (cA, x))) {ty : FieldType} (ht : tys[t0]? = some (cA, ty)) {v : Int32} (hv : Int32.ofNat x.1 = v) (hdg : decode cc pc = .ok (.arraylength, 1)) (kk : WW p l e R s m args below meth c Q D A nL tys cells slots (pc + 1) lo (.int v :: st) w) : WW p l e R s m args below meth c Q D A nL tys cells slots pc lo (.ref a :: st) w :=
  fun hK H locs ls hP hD hS hl => va_alen C0.1 C0.2.1 hK hP q0 t0 ha ht hv hdg (kk hK H locs ls hP hD hS hl)
theorem ww_new (C0 : CT p s m args meth c cc own nL A) {ci : Nat} {C : String} {T : u_T} {N : Nat} {index : Nat} (hin : ∀ w ∈ u_ws C T N, w ∈ rg_tbl) (ty0 : Nat → FieldType) (hty : ∀ k, k < N → parseFieldDescriptor (T k).2.2.1 = some (ty0 k)) (hcl : Cond.classLink own index C ∈ rg_tbl) (hinst : Cond.instantiable C N ∈ rg_tbl) (hini : Cond.initialized C ∈ rg_tbl) (hc : vwCl[ci]? = some (C, T, N)) {fs : List Value} (hfs : ∀ j, j < N → defaultValue (ty0 j) = vp_V fs j) (hcells : cells + 1 ≤ R.cells) (hslots : slots + N ≤ R.slots) (hdg : decode cc pc = .ok (.new index, 3)) (kk : ∀ q : Nat, WW p l e R s m args below meth c Q D A nL tys (cells + 1) (slots + N) (pc + 3) lo (.ref q :: st) (w ++ [(q, .inr (ci, fs))])) : WW p l e R s m args below meth c Q D A nL tys cells slots pc lo st w :=
  fun hK H locs ls hP hD hS hl => va_new C0.1 C0.2.1 C0.2.2.2.2.1 hin ty0 hty C0.2.2.2.1 (C0.2.2.2.2.1 _ hcl) (C0.2.2.2.2.1 _ hinst) (C0.2.2.2.2.1 _ hini) hK hP hD hS C0.2.2.2.2.2.1 hc hfs hcells hslots hdg (fun q H1 hP1 hD1 hS1 => kk q hK H1 locs ls hP1 hD1 hS1 hl)
/-- two arrays' classes of one kind are one -/
theorem ww_sameA {U : State} {cA cB : ClassId} {ty : FieldType} (h1 : va_RA U cA ty) (h2 : va_RA U cB ty) : cA = cB := by
  have key : ∀ {c : ClassId}, va_RA U c ty → U.vm.findClass ("[" ++ ty.toString) = some c := by
    intro c h
    cases ty <;> first | exact h | (obtain ⟨_, _, _, _, _, h4⟩ := h; exact h4)
  exact Option.some.inj ((key h1).symm.trans (key h2))
theorem ww_newa (C0 : CT p s m args meth c cc own nL A) {atype : ArrayType} {ty : FieldType} (harr : Cond.arrayClass ty ∈ rg_tbl) (hty : newarray.typeOf atype = ty) {n : Int32} {N' : Nat} {a0 : vp_A} (ha : ∀ cA : ClassId, vp_cell cA a0 = arrV cA N' (fun _ => defaultValue ty)) (hn : ¬ n < 0) (hN : n.toNatClampNeg = N') (hbytes : N' * componentBytes ty ≤ 536870912) (hcells : cells + 1 ≤ R.cells) (hslots : slots + N' ≤ R.slots) (hdg : decode cc pc = .ok (.newarray atype, 2)) (kk : ∀ (q : Nat) (cA : ClassId), WW p l e R s m args below meth c Q D A nL (tys ++ [(cA, ty)]) (cells + 1) (slots + N') (pc + 2) lo (.ref q :: st) (w ++ [(q, .inl (cA, a0))])) : WW p l e R s m args below meth c Q D A nL tys cells slots pc lo (.int n :: st) w := by
  subst hty
  exact fun hK H locs ls hP hD hS hl => va_newa C0.1 C0.2.1 (C0.2.2.2.2.1 _ harr) rfl hK hP hD hS C0.2.2.2.2.2.1 ha hn hN hbytes hcells hslots hdg (fun q cA H1 hK1 hP1 hD1 hS1 => kk q cA hK1 H1 locs ls hP1 hD1 hS1 hl)
/-- a new array of a kind that is known: its class is the one that is listed -/
theorem ww_newaK (C0 : CT p s m args meth c cc own nL A) {atype : ArrayType} {ty : FieldType} (harr : Cond.arrayClass ty ∈ rg_tbl) (hty : newarray.typeOf atype = ty) (t0 : Nat) {cB : ClassId} (ht : tys[t0]? = some (cB, ty)) {n : Int32} {N' : Nat} {a0 : vp_A} (ha : ∀ cA : ClassId, vp_cell cA a0 = arrV cA N' (fun _ => defaultValue ty)) (hn : ¬ n < 0) (hN : n.toNatClampNeg = N') (hbytes : N' * componentBytes ty ≤ 536870912) (hcells : cells + 1 ≤ R.cells) (hslots : slots + N' ≤ R.slots) (hdg : decode cc pc = .ok (.newarray atype, 2)) (kk : ∀ (q : Nat), WW p l e R s m args below meth c Q D A nL tys (cells + 1) (slots + N') (pc + 2) lo (.ref q :: st) (w ++ [(q, .inl (cB, a0))])) : WW p l e R s m args below meth c Q D A nL tys cells slots pc lo (.int n :: st) w := by
  refine ww_newa C0 harr hty ha hn hN hbytes hcells hslots hdg (fun q cA => ?_)
  intro hK H locs ls hP hD hS hl
  have h1 := (hK.2 t0 (cB, ty) (by rw [List.getElem?_append_left (List.getElem?_eq_some_iff.mp ht).1]; exact ht)).2
  have h2 := (hK.2 tys.length (cA, ty) (by simp)).2
  have hc : cA = cB := ww_sameA h2 h1
  subst hc
  exact kk q ⟨hK.1, fun k x hx => hK.2 k x (by rw [List.getElem?_append_left (List.getElem?_eq_some_iff.mp hx).1]; exact hx)⟩ H locs ls hP hD hS hl
theorem ww_newq (C0 : CT p s m args meth c cc own nL A) {C : String} {index : Nat} (hcl : Cond.classLink own index C ∈ rg_tbl) (hover : va_AO C s) {n : Int32} {N' : Nat} (hn : ¬ n < 0) (hN : n.toNatClampNeg = N') (hbytes : N' * 4 ≤ 536870912) (hcells : cells + 1 ≤ R.cells) (hslots : slots + N' ≤ R.slots) (hdg : decode cc pc = .ok (.anewarray index, 3)) (kk : ∀ (q : Nat) (cA : ClassId), WW p l e R s m args below meth c Q D A nL (tys ++ [(cA, .object C)]) (cells + 1) (slots + N') (pc + 3) lo (.ref q :: st) (w ++ [(q, .inl (cA, N', .inr (.inr (.inr (.inr (fun _ => none))))))])) : WW p l e R s m args below meth c Q D A nL tys cells slots pc lo (.int n :: st) w :=
  fun hK H locs ls hP hD hS hl => va_newq C0.1 C0.2.1 C0.2.2.2.1 (C0.2.2.2.2.1 _ hcl) hover hK hP hD hS C0.2.2.2.2.2.1 hn hN hbytes hcells hslots hdg (fun q cA H1 hK1 hP1 hD1 hS1 => kk q cA hK1 H1 locs ls hP1 hD1 hS1 hl)
theorem ww_newqK (C0 : CT p s m args meth c cc own nL A) {C : String} {index : Nat} (hcl : Cond.classLink own index C ∈ rg_tbl) (hover : va_AO C s) (t0 : Nat) {cB : ClassId} (ht : tys[t0]? = some (cB, .object C)) {n : Int32} {N' : Nat} (hn : ¬ n < 0) (hN : n.toNatClampNeg = N') (hbytes : N' * 4 ≤ 536870912) (hcells : cells + 1 ≤ R.cells) (hslots : slots + N' ≤ R.slots) (hdg : decode cc pc = .ok (.anewarray index, 3)) (kk : ∀ (q : Nat), WW p l e R s m args below meth c Q D A nL tys (cells + 1) (slots + N') (pc + 3) lo (.ref q :: st) (w ++ [(q, .inl (cB, N', .inr (.inr (.inr (.inr (fun _ => none))))))])) : WW p l e R s m args below meth c Q D A nL tys cells slots pc lo (.int n :: st) w := by
  refine ww_newq C0 hcl hover hn hN hbytes hcells hslots hdg (fun q cA => ?_)
  intro hK H locs ls hP hD hS hl
  have h1 := (hK.2 t0 (cB, .object C) (by rw [List.getElem?_append_left (List.getElem?_eq_some_iff.mp ht).1]; exact ht)).2
  have h2 := (hK.2 tys.length (cA, .object C) (by simp)).2
  have hc : cA = cB := ww_sameA h2 h1
  subst hc
  exact kk q ⟨hK.1, fun k x hx => hK.2 k x (by rw [List.getElem?_append_left (List.getElem?_eq_some_iff.mp hx).1]; exact hx)⟩ H locs ls hP hD hS hl
theorem ww_objInit (C0 : CT p s m args meth c cc own nL A) {a index : Nat} (hlink : Cond.methodLink own index objectInit ∈ rg_tbl) (hsum : (st.map fun v => v.category).sum ≤ 0) (hdg : decode cc pc = .ok (.invokespecial index, 3)) (hfr : 1 ≤ R.frames) (hlo : 12 ≤ R.locals) (kk : WW p l e R s m args below meth c Q D A nL tys cells slots (pc + 3) lo st w) : WW p l e R s m args below meth c Q D A nL tys cells slots pc lo (.ref a :: st) w :=
  fun hK H locs ls hP hD hS hl => W.objInit C0.1 C0.2.1 C0.2.2.2.1 (C0.2.2.2.2.1 _ hlink) (C0.2.2.2.2.1 _ km_objectInit) (C0.2.2.2.2.1 _ kd_objectInit) rfl (by show ls.size = c.maxLocals; rw [C0.2.2.1, ← hl.2.1]) rfl hdg hfr (by show 0 + (st.map fun v => v.category).sum + 12 ≤ R.locals; omega) (kk hK H locs ls hP hD hS hl)
theorem ww_widen {k n : Nat} (h1 : cells ≤ k) (h2 : slots ≤ n) (kk : WW p l e R s m args below meth c Q D A nL tys k n pc lo st w) : WW p l e R s m args below meth c Q D A nL tys cells slots pc lo st w :=
  fun hK H locs ls hP hD hS hl => W.widen h1 h2 (kk hK H locs ls hP hD hS hl)
theorem ww_cong {lo' st' : List Value} {w' : va_W} (k : WW p l e R s m args below meth c Q D A nL tys cells slots pc lo' st' w') (h1 : lo = lo') (h2 : st = st') (h3 : w = w') : WW p l e R s m args below meth c Q D A nL tys cells slots pc lo st w := by
  subst h1; subst h2; subst h3; exact k
theorem ww_bif_eq (C0 : CT p s m args meth c cc own nL A) {x : Bool} {off : Int} {tgt : Nat} (hdg : decode cc pc = .ok (.ifCond .eq off, 3)) (ht : (pc : Int) + off = (tgt : Int)) (kt : x = false → WW p l e R s m args below meth c Q D A nL tys cells slots tgt lo st w) (kf : x = true → WW p l e R s m args below meth c Q D A nL tys cells slots (pc + 3) lo st w) : WW p l e R s m args below meth c Q D A nL tys cells slots pc lo (.int (bI x) :: st) w :=
  ww_if_eq C0 hdg ht (fun h => kt (by cases x <;> first | rfl | exact absurd h (by decide))) (fun h => kf (by cases x <;> first | rfl | exact absurd rfl h))
theorem ww_bif_ne (C0 : CT p s m args meth c cc own nL A) {x : Bool} {off : Int} {tgt : Nat} (hdg : decode cc pc = .ok (.ifCond .ne off, 3)) (ht : (pc : Int) + off = (tgt : Int)) (kt : x = true → WW p l e R s m args below meth c Q D A nL tys cells slots tgt lo st w) (kf : x = false → WW p l e R s m args below meth c Q D A nL tys cells slots (pc + 3) lo st w) : WW p l e R s m args below meth c Q D A nL tys cells slots pc lo (.int (bI x) :: st) w :=
  ww_if_ne C0 hdg ht (fun h => kt (by cases x <;> first | rfl | exact absurd rfl h)) (fun h => kf (by cases x <;> first | rfl | exact absurd h (by decide)))
end WWs
end
section
/-! contracts: from the world W0, args av: what is answered, and the world behind it (no new cells) -/
def MP (D : va_G) (tys : List (ClassId × FieldType)) (W0 : va_W) (sz : Nat) : State → Prop := fun U => U.heap.size = sz ∧ va_P D vwCl W0 U.heap ∧ va_K D vwCl tys U ∧ va_D (fun _ => True) W0 ∧ NK U
def MB (D : va_G) (tys : List (ClassId × FieldType)) (A : Nat → Prop) (W1 : va_W) : Unit → State → Prop := fun _ t => va_P D vwCl W1 t.heap ∧ va_K D vwCl tys t ∧ va_D A W1
def MI (l : Launch) (D : va_G) (tys : List (ClassId × FieldType)) (y : MethodName) (cc : ByteArray) (nL : Nat) (ret : FieldType) (rm : Room) (av : List Value) (W0 : va_W) (r : Int32) (W1 : va_W) : Prop :=
  ∀ sz : Nat, Met l y (Cond.code y cc nL (some ret) :: rg_tbl) rm (va_Pc av (MP D tys W0 sz)) (va_Qi (fun (r' : Int32) (_ : Unit) => r' = r) (MB D tys (va_A W0 sz) W1) (va_A W0 sz)) 0 0 (va_A W0 sz)
def ML (l : Launch) (D : va_G) (tys : List (ClassId × FieldType)) (y : MethodName) (cc : ByteArray) (nL : Nat) (rm : Room) (av : List Value) (W0 : va_W) (r : Int64) (W1 : va_W) : Prop :=
  ∀ sz : Nat, Met l y (Cond.code y cc nL (some .long) :: rg_tbl) rm (va_Pc av (MP D tys W0 sz)) (va_Ql (fun (r' : Int64) (_ : Unit) => r' = r) (MB D tys (va_A W0 sz) W1) (va_A W0 sz)) 0 0 (va_A W0 sz)
def MV (l : Launch) (D : va_G) (tys : List (ClassId × FieldType)) (y : MethodName) (cc : ByteArray) (nL : Nat) (rm : Room) (av : List Value) (W0 : va_W) (W1 : va_W) : Prop :=
  ∀ sz : Nat, Met l y (Cond.code y cc nL none :: rg_tbl) rm (va_Pc av (MP D tys W0 sz)) (va_Qv (fun (_ : Unit) => True) (MB D tys (va_A W0 sz) W1) (va_A W0 sz)) 0 0 (va_A W0 sz)
/-- what a walk ends at -/
def QI (below : List Frame) (args : Array Value) (s : State) (D : va_G) (tys : List (ClassId × FieldType)) (A : Nat → Prop) (r : Int32) (W1 : va_W) : State → Prop := MQ below (va_Qi (fun (r' : Int32) (_ : Unit) => r' = r) (MB D tys A W1) A) args s 0 0 A
def QL (below : List Frame) (args : Array Value) (s : State) (D : va_G) (tys : List (ClassId × FieldType)) (A : Nat → Prop) (r : Int64) (W1 : va_W) : State → Prop := MQ below (va_Ql (fun (r' : Int64) (_ : Unit) => r' = r) (MB D tys A W1) A) args s 0 0 A
def QV (below : List Frame) (args : Array Value) (s : State) (D : va_G) (tys : List (ClassId × FieldType)) (A : Nat → Prop) (W1 : va_W) : State → Prop := MQ below (va_Qv (fun (_ : Unit) => True) (MB D tys A W1) A) args s 0 0 A
theorem wl_pad_len (vs : List Value) : (vs.flatMap (fun v => if v.category = 2 then [v, .null] else [v])).length = (lg_sl vs).length := by
  induction vs with
  | nil => rfl
  | cons v t ih =>
    simp only [lg_sl, List.flatMap_cons, List.length_append] at ih ⊢
    rw [ih]
    split <;> rfl
theorem wl_slot (vs : List Value) (i : Nat) (v : Value) : (vs.flatMap (fun v => if v.category = 2 then [v, .null] else [v]))[i]? = some v → v ≠ .null → (lg_sl vs)[i]? = some (.val v) := by
  induction vs generalizing i with
  | nil => intro h; simp at h
  | cons x t ih =>
    intro h hn
    simp only [lg_sl, List.flatMap_cons] at h ⊢
    by_cases hx : x.category = 2
    · rw [if_pos hx] at h ⊢
      match i with
      | 0 => simp at h ⊢; exact h
      | 1 => simp at h; exact absurd h.symm hn
      | k + 2 => simp at h ⊢; exact ih k h hn
    · rw [if_neg hx] at h ⊢
      match i with
      | 0 => simp at h ⊢; exact h
      | k + 1 => simp at h ⊢; exact ih k h hn
theorem wl_entry (vs : List Value) {n : Nat} {lo : List Value} (h : (lg_sl vs).length ≤ n) (hlo : wl_pad vs n = lo) : wl_l ((lg_sl vs ++ List.replicate (n - (lg_sl vs).length) Slot.unset).toArray) n lo := by
  subst hlo
  have h0 := lv_entry vs h
  refine ⟨?_, h0.1, h0.2.1, fun i v hi hv => ?_⟩
  · simp only [wl_pad, List.length_append, List.length_replicate, wl_pad_len]
    omega
  · simp only [wl_pad] at hi
    by_cases hl : i < (lg_sl vs).length
    · rw [List.getElem?_append_left (by rw [wl_pad_len]; exact hl)] at hi
      have := wl_slot vs i v hi hv
      simp only [List.getElem?_toArray]
      rw [List.getElem?_append_left hl]
      exact this
    · rw [List.getElem?_append_right (by rw [wl_pad_len]; omega), List.getElem?_replicate] at hi
      split at hi
      · cases hi; exact absurd rfl hv
      · cases hi
theorem MI.of {l : Launch} {D : va_G} {tys : List (ClassId × FieldType)} {y : MethodName} {cc : ByteArray} {nL : Nat} {ret : FieldType} {rm : Room} {av : List Value} {W0 : va_W} {r : Int32} {W1 : va_W} (lo : List Value) (hy : plainName y.cls = true) (hlen : (lg_sl av).length ≤ nL) (hlo : wl_pad av nL = lo)
    (k : ∀ (p : Program) (e : Env) (s : State) (m : MethodId) (below : List Frame) (meth : Method) (c : Code) (A : Nat → Prop), CT p s m av.toArray meth c cc y.cls nL A → meth.sig.returnType = some ret → WW p l e rm s m av.toArray below meth c (QI below av.toArray s D tys A r W1) D A nL tys 0 0 0 lo [] W0) : MI l D tys y cc nL ret rm av W0 r W1 := by
  intro sz
  refine Met.ofW (cc := cc) (maxL := nL) (ret := some ret) hy rfl ?_
  intro p e s m args below meth c s₁ B hml hv
  obtain ⟨rfl, hsz, hP, hK, hD0, hN⟩ := hv
  subst hsz
  have hts := atoms_spec (ws := Cond.code y cc nL (some ret) :: rg_tbl) B.pre
  have C0 : CT p s m av.toArray meth c cc y.cls nL (va_A W0 s.heap.size) := ⟨B.exec, B.bytes, hml, findClass_of_methodNamed B.named, fun w h => hts w (List.mem_cons_of_mem _ h), fun q h => Or.inr h, B.notSynchronized, hN⟩
  have hl := wl_entry av hlen hlo
  have K := k p e s m below meth c (va_A W0 s.heap.size) C0 B.returns hK s.heap [] _ hP hD0.self va_S.rf hl
  rw [lg_entry_eq]
  exact K
theorem ML.of {l : Launch} {D : va_G} {tys : List (ClassId × FieldType)} {y : MethodName} {cc : ByteArray} {nL : Nat} {rm : Room} {av : List Value} {W0 : va_W} {r : Int64} {W1 : va_W} (lo : List Value) (hy : plainName y.cls = true) (hlen : (lg_sl av).length ≤ nL) (hlo : wl_pad av nL = lo)
    (k : ∀ (p : Program) (e : Env) (s : State) (m : MethodId) (below : List Frame) (meth : Method) (c : Code) (A : Nat → Prop), CT p s m av.toArray meth c cc y.cls nL A → meth.sig.returnType = some .long → WW p l e rm s m av.toArray below meth c (QL below av.toArray s D tys A r W1) D A nL tys 0 0 0 lo [] W0) : ML l D tys y cc nL rm av W0 r W1 := by
  intro sz
  refine Met.ofW (cc := cc) (maxL := nL) (ret := some .long) hy rfl ?_
  intro p e s m args below meth c s₁ B hml hv
  obtain ⟨rfl, hsz, hP, hK, hD0, hN⟩ := hv
  subst hsz
  have hts := atoms_spec (ws := Cond.code y cc nL (some .long) :: rg_tbl) B.pre
  have C0 : CT p s m av.toArray meth c cc y.cls nL (va_A W0 s.heap.size) := ⟨B.exec, B.bytes, hml, findClass_of_methodNamed B.named, fun w h => hts w (List.mem_cons_of_mem _ h), fun q h => Or.inr h, B.notSynchronized, hN⟩
  have hl := wl_entry av hlen hlo
  have K := k p e s m below meth c (va_A W0 s.heap.size) C0 B.returns hK s.heap [] _ hP hD0.self va_S.rf hl
  rw [lg_entry_eq]
  exact K
theorem MV.of {l : Launch} {D : va_G} {tys : List (ClassId × FieldType)} {y : MethodName} {cc : ByteArray} {nL : Nat} {rm : Room} {av : List Value} {W0 : va_W} {W1 : va_W} (lo : List Value) (hy : plainName y.cls = true) (hlen : (lg_sl av).length ≤ nL) (hlo : wl_pad av nL = lo)
    (k : ∀ (p : Program) (e : Env) (s : State) (m : MethodId) (below : List Frame) (meth : Method) (c : Code) (A : Nat → Prop), CT p s m av.toArray meth c cc y.cls nL A → meth.sig.returnType = none → WW p l e rm s m av.toArray below meth c (QV below av.toArray s D tys A W1) D A nL tys 0 0 0 lo [] W0) : MV l D tys y cc nL rm av W0 W1 := by
  intro sz
  refine Met.ofW (cc := cc) (maxL := nL) (ret := none) hy rfl ?_
  intro p e s m args below meth c s₁ B hml hv
  obtain ⟨rfl, hsz, hP, hK, hD0, hN⟩ := hv
  subst hsz
  have hts := atoms_spec (ws := Cond.code y cc nL (none) :: rg_tbl) B.pre
  have C0 : CT p s m av.toArray meth c cc y.cls nL (va_A W0 s.heap.size) := ⟨B.exec, B.bytes, hml, findClass_of_methodNamed B.named, fun w h => hts w (List.mem_cons_of_mem _ h), fun q h => Or.inr h, B.notSynchronized, hN⟩
  have hl := wl_entry av hlen hlo
  have K := k p e s m below meth c (va_A W0 s.heap.size) C0 B.returns hK s.heap [] _ hP hD0.self va_S.rf hl
  rw [lg_entry_eq]
  exact K
section WWc
variable {p : Program} {l : Launch} {e : Env} {R : Room} {s : State} {m : MethodId} {args : Array Value} {below : List Frame} {meth : Method} {c : Code} {Q : State → Prop} {D : va_G} {A : Nat → Prop} {cc : ByteArray} {own : String} {nL : Nat} {tys : List (ClassId × FieldType)} {cells slots pc : Nat} {lo st : List Value} {w : va_W}
theorem ww_iret (C0 : CT p s m args meth c cc own nL A) (hr : meth.sig.returnType = some .int) {v r : Int32} {W1 : va_W} (hdg : decode cc pc = .ok (.ireturn, 1)) (hv : v = r) (hw : w = W1) : WW p l e R s m args below meth c (QI below args s D tys A r W1) D A nL tys 0 0 pc lo [.int v] w := by
  subst hv; subst hw
  intro hK H locs ls hP hD hS hl
  exact W.iret (hlocks := C0.2.2.2.2.2.2.1) C0.1 C0.2.1 hr (fun t ht hW => ⟨⟨v, (), rfl, rfl, by rw [ht]; exact hP, va_K.moved hW.alike hK, hD⟩, hS.F ht⟩) hS.2.2 hdg
theorem bI_nar (b : Bool) : narrow .boolean (.int (bI b)) = .int (bI b) := by cases b <;> rfl
theorem ww_zret (C0 : CT p s m args meth c cc own nL A) (hr : meth.sig.returnType = some .boolean) {v : Int32} {b : Bool} {W1 : va_W} (hdg : decode cc pc = .ok (.ireturn, 1)) (hv : v = bI b) (hw : w = W1) : WW p l e R s m args below meth c (QI below args s D tys A (bI b) W1) D A nL tys 0 0 pc lo [.int v] w := by
  subst hv; subst hw
  intro hK H locs ls hP hD hS hl
  exact W.zret (hlocks := C0.2.2.2.2.2.2.1) C0.1 C0.2.1 hr (bI_nar b) (fun t ht hW => ⟨⟨bI b, (), rfl, rfl, by rw [ht]; exact hP, va_K.moved hW.alike hK, hD⟩, hS.F ht⟩) hS.2.2 hdg
theorem ww_lret (C0 : CT p s m args meth c cc own nL A) (hr : meth.sig.returnType = some .long) {v r : Int64} {W1 : va_W} (hdg : decode cc pc = .ok (.lreturn, 1)) (hv : v = r) (hw : w = W1) : WW p l e R s m args below meth c (QL below args s D tys A r W1) D A nL tys 0 0 pc lo [.long v] w := by
  subst hv; subst hw
  intro hK H locs ls hP hD hS hl
  exact W.lret (hlocks := C0.2.2.2.2.2.2.1) C0.1 C0.2.1 hr (fun t ht hW => ⟨⟨v, (), rfl, rfl, by rw [ht]; exact hP, va_K.moved hW.alike hK, hD⟩, hS.F ht⟩) hS.2.2 hdg
theorem ww_vret (C0 : CT p s m args meth c cc own nL A) (hr : meth.sig.returnType = none) {W1 : va_W} (hdg : decode cc pc = .ok (.return_, 1)) (hw : w = W1) : WW p l e R s m args below meth c (QV below args s D tys A W1) D A nL tys 0 0 pc lo [] w := by
  subst hw
  intro hK H locs ls hP hD hS hl
  exact W.vret (hlocks := C0.2.2.2.2.2.2.1) C0.1 C0.2.1 hr (fun t ht hW => ⟨⟨(), rfl, trivial, by rw [ht]; exact hP, va_K.moved hW.alike hK, hD⟩, hS.F ht⟩) hS.2.2 hdg
theorem mp_blind {av : List Value} {W0 : va_W} {sz : Nat} : FrameBlind (va_Pc av (MP D tys W0 sz)) := by
  intro a U g mk h
  obtain ⟨rfl, h1, h2, h3, h4, h5⟩ := h
  exact ⟨rfl, h1, h2, va_K.moved (u := U) (U := U.calling g mk av.toArray) (Vm.Alike.refl U.vm) h3, h4, NK.same (u := U) (U := U.calling g mk av.toArray) rfl h5⟩
theorem mp_of {av : List Value} {H : Heap} (hK : va_K D vwCl tys s) (hN : NK s) (hP : va_P D vwCl w H) (hD : va_D A w) (U : State) (hU : U.heap = H) (hW : s.WarmedH U.vm) : va_Pc av (MP D tys w H.size) av.toArray U :=
  ⟨rfl, by rw [hU], by rw [hU]; exact hP, va_K.moved hW.alike hK, hD.weaken (fun _ _ _ _ => trivial), NK.warm hW hN⟩
theorem ww_AA {H : Heap} {locs : List Loc} (C0 : CT p s m args meth c cc own nL A) (hD : va_D A w) (hS : va_S A s.heap H locs) : ∀ q, va_A w H.size q → A q := by
  intro q h
  rcases h with ⟨k, x, h⟩ | h
  · exact hD.2 k (q, x) h
  · exact C0.2.2.2.2.2.1 q (Nat.le_trans hS.1 h)
/-- a world in another order -/
theorem va_P.perm {cl : List vw_C} {w w' : va_W} {H : Heap} (h : w.Perm w') (hP : va_P D cl w H) : va_P D cl w' H := by
  intro k q hq
  obtain ⟨i, hi⟩ := List.getElem?_of_mem (h.symm.subset (List.mem_of_getElem? hq))
  exact hP i q hi
theorem va_D_iff {A : Nat → Prop} {w : va_W} : va_D A w ↔ (w.map (·.1)).Nodup ∧ ∀ q ∈ w, A q.1 := by
  constructor
  · rintro ⟨h1, h2⟩
    refine ⟨?_, fun q hq => ?_⟩
    · rw [List.nodup_iff_pairwise_ne, List.pairwise_iff_getElem]
      intro i j hi hj hij he
      simp only [List.length_map] at hi hj
      simp only [List.getElem_map] at he
      have := h1 i j w[i] w[j] (List.getElem?_eq_getElem hi) (List.getElem?_eq_getElem hj) he
      omega
    · obtain ⟨k, hk⟩ := List.getElem?_of_mem hq
      exact h2 k q hk
  · rintro ⟨h1, h2⟩
    refine ⟨fun i j x y hi hj hxy => ?_, fun k q hq => h2 q (List.mem_of_getElem? hq)⟩
    obtain ⟨li, hi⟩ := List.getElem?_eq_some_iff.mp hi
    obtain ⟨lj, hj⟩ := List.getElem?_eq_some_iff.mp hj
    rw [List.nodup_iff_pairwise_ne, List.pairwise_iff_getElem] at h1
    rcases Nat.lt_trichotomy i j with q | q | q
    · have z := h1 i j (by simpa using li) (by simpa using lj) q
      simp only [List.getElem_map, hi, hj] at z
      exact absurd hxy z
    · exact q
    · have z := h1 j i (by simpa using lj) (by simpa using li) q
      simp only [List.getElem_map, hi, hj] at z
      exact absurd hxy.symm z
theorem va_D.perm {A : Nat → Prop} {w w' : va_W} (h : w.Perm w') (hD : va_D A w) : va_D A w' := by
  rw [va_D_iff] at hD ⊢
  exact ⟨(h.map _).nodup_iff.mp hD.1, fun q hq => hD.2 q (h.symm.subset hq)⟩
theorem ww_perm {w' : va_W} (h : w.Perm w') (k : WW p l e R s m args below meth c Q D A nL tys cells slots pc lo st w') : WW p l e R s m args below meth c Q D A nL tys cells slots pc lo st w :=
  fun hK H locs ls hP hD hS hl => k hK H locs ls (hP.perm h) (hD.perm h) hS hl
theorem perm_swap3 (a b c d : va_W) : (a ++ (b ++ (c ++ d))).Perm (a ++ (c ++ (b ++ d))) := by
  refine List.Perm.append_left a ?_
  rw [← List.append_assoc, ← List.append_assoc]
  exact List.Perm.append_right d List.perm_append_comm
theorem ww_callVi (C0 : CT p s m args meth c cc own nL A) {ret : FieldType} {r : Int32} {y : MethodName} {bytes : ByteArray} {maxL n index : Nat} {rm : Room} {b : Nat} {As : List Value} {stk : List Value} {W1 : va_W} (q0 ci : Nat) {fs : List Value} {qc : vw_C} (hM : MI l D tys y bytes maxL ret rm (.ref b :: As) w r W1) (hcode : Cond.code y bytes maxL (some ret) ∈ rg_tbl) (hlink : Cond.methodLink own index y ∈ rg_tbl) (hinst : Cond.instanceMethod y ∈ rg_tbl) (hsel : Cond.selects y.cls y y ∈ rg_tbl) (hini : Cond.initialized y.cls ∈ rg_tbl) (hd : y.cls ≠ "java/lang/invoke/MethodHandle" ∧ y.cls ≠ "java/lang/invoke/VarHandle" ∧ (parseMethodDescriptor y.desc).map (fun d => d.parameters.length) = some n) (hcl : vwCl[ci]? = some qc) (hqc : qc.1 = y.cls) (hR : rm.frames + 1 ≤ R.frames ∧ 8 + (maxL + 11) + rm.locals ≤ R.locals ∧ rm.cells = 0 ∧ rm.slots = 0) (hcat : (st.map fun v => v.category).sum ≤ 8) (hdg : decode cc pc = .ok (.invokevirtual index, 3)) (hrec : w[q0]? = some (b, .inr (ci, fs))) (hn : As.length = n) (hst : stk = As.reverse ++ .ref b :: st) (hfc : cells ≤ R.cells ∧ slots ≤ R.slots) (kk : WW p l e R s m args below meth c Q D A nL tys cells slots (pc + 3) lo (.int r :: st) W1) : WW p l e R s m args below meth c Q D A nL tys cells slots pc lo stk w := by
  subst hst
  intro hK H locs ls hP hD hS hl
  have cw : CallW R s args own y.cls index y bytes maxL (some ret) (Cond.code y bytes maxL (some ret) :: rg_tbl) rm 0 0 n := cwV n C0.2.2.2.2.1 (rg_goodIn (by
    intro w hw
    simp only [wsV, List.cons_append, List.nil_append, List.mem_cons] at hw
    rcases hw with rfl | rfl | rfl | rfl | rfl | hw <;> assumption)) rfl hR.2.2.1 hR.2.2.2 ⟨rfl, hd⟩ ⟨hR.1, hR.2.1⟩
  exact va_calli (va_runV (As := As) (rest := st) ⟨C0.1, C0.2.1, C0.2.2.1, C0.2.2.2.1, C0.2.2.2.2.1⟩ (hM H.size) cw ⟨mp_blind, (by rw [← hqc]; exact va_recv hK hP hcl hrec), fun U hU hW => mp_of hK C0.2.2.2.2.2.2.2 hP hD U hU hW⟩ rfl hn hl.2.1 rfl (lv_room hcat) hdg ⟨by have := hfc.1; omega, by have := hfc.2; omega⟩) hS (fun q _ h => ww_AA C0 hD hS q h) (ww_AA C0 hD hS) (fun r' u t H1 locs1 ht hvm hw hB hz1 hk1 hS1 => by
    obtain ⟨hP1, hK1, hD1⟩ := hB
    rw [ht] at hP1
    subst hw
    exact kk hK H1 locs1 ls hP1 (hD1.weaken (fun _ _ _ h => ww_AA C0 hD hS _ h)) hS1 hl)
theorem ww_callSi (C0 : CT p s m args meth c cc own nL A) {ret : FieldType} {r : Int32} {y : MethodName} {bytes : ByteArray} {maxL n index : Nat} {rm : Room} {As : List Value} {stk : List Value} {W1 : va_W} (hM : MI l D tys y bytes maxL ret rm As w r W1) (hcode : Cond.code y bytes maxL (some ret) ∈ rg_tbl) (hlink : Cond.methodLink own index y ∈ rg_tbl) (hstat : Cond.static y ∈ rg_tbl) (hini : Cond.initialized y.cls ∈ rg_tbl) (hd : y.cls ≠ "java/lang/invoke/MethodHandle" ∧ y.cls ≠ "java/lang/invoke/VarHandle" ∧ (parseMethodDescriptor y.desc).map (fun d => d.parameters.length) = some n) (hR : rm.frames + 1 ≤ R.frames ∧ 8 + (maxL + 11) + rm.locals ≤ R.locals ∧ rm.cells = 0 ∧ rm.slots = 0) (hcat : (st.map fun v => v.category).sum ≤ 8) (hdg : decode cc pc = .ok (.invokestatic index, 3)) (hn : As.length = n) (hst : stk = As.reverse ++ st) (hfc : cells ≤ R.cells ∧ slots ≤ R.slots) (kk : WW p l e R s m args below meth c Q D A nL tys cells slots (pc + 3) lo (.int r :: st) W1) : WW p l e R s m args below meth c Q D A nL tys cells slots pc lo stk w := by
  subst hst
  intro hK H locs ls hP hD hS hl
  have cw := va_cwS (R := R) (s := s) (args := args) (own := own) (index := index) (y := y) (bytes := bytes) (maxL := maxL) (mc := 0) (ms := 0) (ret := (some ret)) (ws := Cond.code y bytes maxL (some ret) :: rg_tbl) (rm := rm) n C0.2.2.2.2.1 (rg_goodIn (by
    intro w hw
    simp only [va_wsS, List.cons_append, List.nil_append, List.mem_cons] at hw
    rcases hw with rfl | rfl | rfl | rfl | hw <;> assumption)) rfl hR.2.2.1 hR.2.2.2 hd ⟨hR.1, hR.2.1⟩
  exact va_calli (va_runS (As := As) (rest := st) ⟨C0.1, C0.2.1, C0.2.2.1, C0.2.2.2.1, C0.2.2.2.2.1⟩ (hM H.size) cw ⟨mp_blind, fun U hU hW => mp_of hK C0.2.2.2.2.2.2.2 hP hD U hU hW⟩ rfl hn hl.2.1 rfl (lv_room hcat) hdg ⟨by have := hfc.1; omega, by have := hfc.2; omega⟩) hS (fun q _ h => ww_AA C0 hD hS q h) (ww_AA C0 hD hS) (fun r' u t H1 locs1 ht hvm hw hB hz1 hk1 hS1 => by
    obtain ⟨hP1, hK1, hD1⟩ := hB
    rw [ht] at hP1
    subst hw
    exact kk hK H1 locs1 ls hP1 (hD1.weaken (fun _ _ _ h => ww_AA C0 hD hS _ h)) hS1 hl)
theorem ww_callVNi (C0 : CT p s m args meth c cc own nL A) {ret : FieldType} {r : Int32} {host : String} {y : MethodName} {bytes : ByteArray} {maxL n index : Nat} {rm : Room} {b : Nat} {As : List Value} {stk : List Value} {W1 : va_W} (q0 ci : Nat) {fs : List Value} {qc : vw_C} (hM : MI l D tys y bytes maxL ret rm (.ref b :: As) w r W1) (hcode : Cond.code y bytes maxL (some ret) ∈ rg_tbl) (hlink : Cond.methodLinkNest own index y host ∈ nk_tbl) (hinst : Cond.instanceMethod y ∈ rg_tbl) (hsel : Cond.selects y.cls y y ∈ rg_tbl) (hini : Cond.initialized y.cls ∈ rg_tbl) (hd : y.cls ≠ "java/lang/invoke/MethodHandle" ∧ y.cls ≠ "java/lang/invoke/VarHandle" ∧ (parseMethodDescriptor y.desc).map (fun d => d.parameters.length) = some n) (hcl : vwCl[ci]? = some qc) (hqc : qc.1 = y.cls) (hR : rm.frames + 1 ≤ R.frames ∧ 8 + (maxL + 11) + rm.locals ≤ R.locals ∧ rm.cells = 0 ∧ rm.slots = 0) (hcat : (st.map fun v => v.category).sum ≤ 8) (hdg : decode cc pc = .ok (.invokevirtual index, 3)) (hrec : w[q0]? = some (b, .inr (ci, fs))) (hn : As.length = n) (hst : stk = As.reverse ++ .ref b :: st) (hfc : cells ≤ R.cells ∧ slots ≤ R.slots) (kk : WW p l e R s m args below meth c Q D A nL tys cells slots (pc + 3) lo (.int r :: st) W1) : WW p l e R s m args below meth c Q D A nL tys cells slots pc lo stk w := by
  subst hst
  intro hK H locs ls hP hD hS hl
  have cw : va_CN R s args own index y host bytes maxL (some ret) (Cond.code y bytes maxL (some ret) :: rg_tbl) rm 0 0 n := va_cnB n C0.2.2.2.2.1 (rg_goodIn (by
    intro w hw
    rcases List.mem_cons.mp hw with rfl | hw <;> assumption)) rfl hR.2.2.1 hR.2.2.2 (C0.2.2.2.2.2.2.2 _ hlink) (C0.2.2.2.2.1 _ hini) hd ⟨hR.1, hR.2.1⟩
  exact va_calli (va_runVN (As := As) (rest := st) ⟨C0.1, C0.2.1, C0.2.2.1, C0.2.2.2.1, C0.2.2.2.2.1⟩ (hM H.size) ⟨cw, C0.2.2.2.2.1 _ hinst, C0.2.2.2.2.1 _ hsel⟩ ⟨mp_blind, (by rw [← hqc]; exact va_recv hK hP hcl hrec), fun U hU hW => mp_of hK C0.2.2.2.2.2.2.2 hP hD U hU hW⟩ rfl hn hl.2.1 rfl (lv_room hcat) hdg ⟨by have := hfc.1; omega, by have := hfc.2; omega⟩) hS (fun q _ h => ww_AA C0 hD hS q h) (ww_AA C0 hD hS) (fun r' u t H1 locs1 ht hvm hw hB hz1 hk1 hS1 => by
    obtain ⟨hP1, hK1, hD1⟩ := hB
    rw [ht] at hP1
    subst hw
    exact kk hK H1 locs1 ls hP1 (hD1.weaken (fun _ _ _ h => ww_AA C0 hD hS _ h)) hS1 hl)
theorem ww_callSNi (C0 : CT p s m args meth c cc own nL A) {ret : FieldType} {r : Int32} {host : String} {y : MethodName} {bytes : ByteArray} {maxL n index : Nat} {rm : Room} {As : List Value} {stk : List Value} {W1 : va_W} (hM : MI l D tys y bytes maxL ret rm As w r W1) (hcode : Cond.code y bytes maxL (some ret) ∈ rg_tbl) (hlink : Cond.methodLinkNest own index y host ∈ nk_tbl) (hstat : Cond.static y ∈ rg_tbl) (hini : Cond.initialized y.cls ∈ rg_tbl) (hd : y.cls ≠ "java/lang/invoke/MethodHandle" ∧ y.cls ≠ "java/lang/invoke/VarHandle" ∧ (parseMethodDescriptor y.desc).map (fun d => d.parameters.length) = some n) (hR : rm.frames + 1 ≤ R.frames ∧ 8 + (maxL + 11) + rm.locals ≤ R.locals ∧ rm.cells = 0 ∧ rm.slots = 0) (hcat : (st.map fun v => v.category).sum ≤ 8) (hdg : decode cc pc = .ok (.invokestatic index, 3)) (hn : As.length = n) (hst : stk = As.reverse ++ st) (hfc : cells ≤ R.cells ∧ slots ≤ R.slots) (kk : WW p l e R s m args below meth c Q D A nL tys cells slots (pc + 3) lo (.int r :: st) W1) : WW p l e R s m args below meth c Q D A nL tys cells slots pc lo stk w := by
  subst hst
  intro hK H locs ls hP hD hS hl
  have cw : va_CN R s args own index y host bytes maxL (some ret) (Cond.code y bytes maxL (some ret) :: rg_tbl) rm 0 0 n := va_cnB n C0.2.2.2.2.1 (rg_goodIn (by
    intro w hw
    rcases List.mem_cons.mp hw with rfl | hw <;> assumption)) rfl hR.2.2.1 hR.2.2.2 (C0.2.2.2.2.2.2.2 _ hlink) (C0.2.2.2.2.1 _ hini) hd ⟨hR.1, hR.2.1⟩
  exact va_calli (va_runSN (As := As) (rest := st) ⟨C0.1, C0.2.1, C0.2.2.1, C0.2.2.2.1, C0.2.2.2.2.1⟩ (hM H.size) ⟨cw, C0.2.2.2.2.1 _ hstat, trivial⟩ ⟨mp_blind, fun U hU hW => mp_of hK C0.2.2.2.2.2.2.2 hP hD U hU hW⟩ rfl hn hl.2.1 rfl (lv_room hcat) hdg ⟨by have := hfc.1; omega, by have := hfc.2; omega⟩) hS (fun q _ h => ww_AA C0 hD hS q h) (ww_AA C0 hD hS) (fun r' u t H1 locs1 ht hvm hw hB hz1 hk1 hS1 => by
    obtain ⟨hP1, hK1, hD1⟩ := hB
    rw [ht] at hP1
    subst hw
    exact kk hK H1 locs1 ls hP1 (hD1.weaken (fun _ _ _ h => ww_AA C0 hD hS _ h)) hS1 hl)
theorem ww_callVl (C0 : CT p s m args meth c cc own nL A) {r : Int64} {y : MethodName} {bytes : ByteArray} {maxL n index : Nat} {rm : Room} {b : Nat} {As : List Value} {stk : List Value} {W1 : va_W} (q0 ci : Nat) {fs : List Value} {qc : vw_C} (hM : ML l D tys y bytes maxL rm (.ref b :: As) w r W1) (hcode : Cond.code y bytes maxL (some .long) ∈ rg_tbl) (hlink : Cond.methodLink own index y ∈ rg_tbl) (hinst : Cond.instanceMethod y ∈ rg_tbl) (hsel : Cond.selects y.cls y y ∈ rg_tbl) (hini : Cond.initialized y.cls ∈ rg_tbl) (hd : y.cls ≠ "java/lang/invoke/MethodHandle" ∧ y.cls ≠ "java/lang/invoke/VarHandle" ∧ (parseMethodDescriptor y.desc).map (fun d => d.parameters.length) = some n) (hcl : vwCl[ci]? = some qc) (hqc : qc.1 = y.cls) (hR : rm.frames + 1 ≤ R.frames ∧ 8 + (maxL + 11) + rm.locals ≤ R.locals ∧ rm.cells = 0 ∧ rm.slots = 0) (hcat : (st.map fun v => v.category).sum ≤ 8) (hdg : decode cc pc = .ok (.invokevirtual index, 3)) (hrec : w[q0]? = some (b, .inr (ci, fs))) (hn : As.length = n) (hst : stk = As.reverse ++ .ref b :: st) (hfc : cells ≤ R.cells ∧ slots ≤ R.slots) (kk : WW p l e R s m args below meth c Q D A nL tys cells slots (pc + 3) lo (.long r :: st) W1) : WW p l e R s m args below meth c Q D A nL tys cells slots pc lo stk w := by
  subst hst
  intro hK H locs ls hP hD hS hl
  have cw : CallW R s args own y.cls index y bytes maxL (some .long) (Cond.code y bytes maxL (some .long) :: rg_tbl) rm 0 0 n := cwV n C0.2.2.2.2.1 (rg_goodIn (by
    intro w hw
    simp only [wsV, List.cons_append, List.nil_append, List.mem_cons] at hw
    rcases hw with rfl | rfl | rfl | rfl | rfl | hw <;> assumption)) rfl hR.2.2.1 hR.2.2.2 ⟨rfl, hd⟩ ⟨hR.1, hR.2.1⟩
  exact va_calll (va_runV (As := As) (rest := st) ⟨C0.1, C0.2.1, C0.2.2.1, C0.2.2.2.1, C0.2.2.2.2.1⟩ (hM H.size) cw ⟨mp_blind, (by rw [← hqc]; exact va_recv hK hP hcl hrec), fun U hU hW => mp_of hK C0.2.2.2.2.2.2.2 hP hD U hU hW⟩ rfl hn hl.2.1 rfl (lv_room hcat) hdg ⟨by have := hfc.1; omega, by have := hfc.2; omega⟩) hS (fun q _ h => ww_AA C0 hD hS q h) (ww_AA C0 hD hS) (fun r' u t H1 locs1 ht hvm hw hB hz1 hk1 hS1 => by
    obtain ⟨hP1, hK1, hD1⟩ := hB
    rw [ht] at hP1
    subst hw
    exact kk hK H1 locs1 ls hP1 (hD1.weaken (fun _ _ _ h => ww_AA C0 hD hS _ h)) hS1 hl)
theorem ww_callSl (C0 : CT p s m args meth c cc own nL A) {r : Int64} {y : MethodName} {bytes : ByteArray} {maxL n index : Nat} {rm : Room} {As : List Value} {stk : List Value} {W1 : va_W} (hM : ML l D tys y bytes maxL rm As w r W1) (hcode : Cond.code y bytes maxL (some .long) ∈ rg_tbl) (hlink : Cond.methodLink own index y ∈ rg_tbl) (hstat : Cond.static y ∈ rg_tbl) (hini : Cond.initialized y.cls ∈ rg_tbl) (hd : y.cls ≠ "java/lang/invoke/MethodHandle" ∧ y.cls ≠ "java/lang/invoke/VarHandle" ∧ (parseMethodDescriptor y.desc).map (fun d => d.parameters.length) = some n) (hR : rm.frames + 1 ≤ R.frames ∧ 8 + (maxL + 11) + rm.locals ≤ R.locals ∧ rm.cells = 0 ∧ rm.slots = 0) (hcat : (st.map fun v => v.category).sum ≤ 8) (hdg : decode cc pc = .ok (.invokestatic index, 3)) (hn : As.length = n) (hst : stk = As.reverse ++ st) (hfc : cells ≤ R.cells ∧ slots ≤ R.slots) (kk : WW p l e R s m args below meth c Q D A nL tys cells slots (pc + 3) lo (.long r :: st) W1) : WW p l e R s m args below meth c Q D A nL tys cells slots pc lo stk w := by
  subst hst
  intro hK H locs ls hP hD hS hl
  have cw := va_cwS (R := R) (s := s) (args := args) (own := own) (index := index) (y := y) (bytes := bytes) (maxL := maxL) (mc := 0) (ms := 0) (ret := (some .long)) (ws := Cond.code y bytes maxL (some .long) :: rg_tbl) (rm := rm) n C0.2.2.2.2.1 (rg_goodIn (by
    intro w hw
    simp only [va_wsS, List.cons_append, List.nil_append, List.mem_cons] at hw
    rcases hw with rfl | rfl | rfl | rfl | hw <;> assumption)) rfl hR.2.2.1 hR.2.2.2 hd ⟨hR.1, hR.2.1⟩
  exact va_calll (va_runS (As := As) (rest := st) ⟨C0.1, C0.2.1, C0.2.2.1, C0.2.2.2.1, C0.2.2.2.2.1⟩ (hM H.size) cw ⟨mp_blind, fun U hU hW => mp_of hK C0.2.2.2.2.2.2.2 hP hD U hU hW⟩ rfl hn hl.2.1 rfl (lv_room hcat) hdg ⟨by have := hfc.1; omega, by have := hfc.2; omega⟩) hS (fun q _ h => ww_AA C0 hD hS q h) (ww_AA C0 hD hS) (fun r' u t H1 locs1 ht hvm hw hB hz1 hk1 hS1 => by
    obtain ⟨hP1, hK1, hD1⟩ := hB
    rw [ht] at hP1
    subst hw
    exact kk hK H1 locs1 ls hP1 (hD1.weaken (fun _ _ _ h => ww_AA C0 hD hS _ h)) hS1 hl)
theorem ww_callVNl (C0 : CT p s m args meth c cc own nL A) {r : Int64} {host : String} {y : MethodName} {bytes : ByteArray} {maxL n index : Nat} {rm : Room} {b : Nat} {As : List Value} {stk : List Value} {W1 : va_W} (q0 ci : Nat) {fs : List Value} {qc : vw_C} (hM : ML l D tys y bytes maxL rm (.ref b :: As) w r W1) (hcode : Cond.code y bytes maxL (some .long) ∈ rg_tbl) (hlink : Cond.methodLinkNest own index y host ∈ nk_tbl) (hinst : Cond.instanceMethod y ∈ rg_tbl) (hsel : Cond.selects y.cls y y ∈ rg_tbl) (hini : Cond.initialized y.cls ∈ rg_tbl) (hd : y.cls ≠ "java/lang/invoke/MethodHandle" ∧ y.cls ≠ "java/lang/invoke/VarHandle" ∧ (parseMethodDescriptor y.desc).map (fun d => d.parameters.length) = some n) (hcl : vwCl[ci]? = some qc) (hqc : qc.1 = y.cls) (hR : rm.frames + 1 ≤ R.frames ∧ 8 + (maxL + 11) + rm.locals ≤ R.locals ∧ rm.cells = 0 ∧ rm.slots = 0) (hcat : (st.map fun v => v.category).sum ≤ 8) (hdg : decode cc pc = .ok (.invokevirtual index, 3)) (hrec : w[q0]? = some (b, .inr (ci, fs))) (hn : As.length = n) (hst : stk = As.reverse ++ .ref b :: st) (hfc : cells ≤ R.cells ∧ slots ≤ R.slots) (kk : WW p l e R s m args below meth c Q D A nL tys cells slots (pc + 3) lo (.long r :: st) W1) : WW p l e R s m args below meth c Q D A nL tys cells slots pc lo stk w := by
  subst hst
  intro hK H locs ls hP hD hS hl
  have cw : va_CN R s args own index y host bytes maxL (some .long) (Cond.code y bytes maxL (some .long) :: rg_tbl) rm 0 0 n := va_cnB n C0.2.2.2.2.1 (rg_goodIn (by
    intro w hw
    rcases List.mem_cons.mp hw with rfl | hw <;> assumption)) rfl hR.2.2.1 hR.2.2.2 (C0.2.2.2.2.2.2.2 _ hlink) (C0.2.2.2.2.1 _ hini) hd ⟨hR.1, hR.2.1⟩
  exact va_calll (va_runVN (As := As) (rest := st) ⟨C0.1, C0.2.1, C0.2.2.1, C0.2.2.2.1, C0.2.2.2.2.1⟩ (hM H.size) ⟨cw, C0.2.2.2.2.1 _ hinst, C0.2.2.2.2.1 _ hsel⟩ ⟨mp_blind, (by rw [← hqc]; exact va_recv hK hP hcl hrec), fun U hU hW => mp_of hK C0.2.2.2.2.2.2.2 hP hD U hU hW⟩ rfl hn hl.2.1 rfl (lv_room hcat) hdg ⟨by have := hfc.1; omega, by have := hfc.2; omega⟩) hS (fun q _ h => ww_AA C0 hD hS q h) (ww_AA C0 hD hS) (fun r' u t H1 locs1 ht hvm hw hB hz1 hk1 hS1 => by
    obtain ⟨hP1, hK1, hD1⟩ := hB
    rw [ht] at hP1
    subst hw
    exact kk hK H1 locs1 ls hP1 (hD1.weaken (fun _ _ _ h => ww_AA C0 hD hS _ h)) hS1 hl)
theorem ww_callSNl (C0 : CT p s m args meth c cc own nL A) {r : Int64} {host : String} {y : MethodName} {bytes : ByteArray} {maxL n index : Nat} {rm : Room} {As : List Value} {stk : List Value} {W1 : va_W} (hM : ML l D tys y bytes maxL rm As w r W1) (hcode : Cond.code y bytes maxL (some .long) ∈ rg_tbl) (hlink : Cond.methodLinkNest own index y host ∈ nk_tbl) (hstat : Cond.static y ∈ rg_tbl) (hini : Cond.initialized y.cls ∈ rg_tbl) (hd : y.cls ≠ "java/lang/invoke/MethodHandle" ∧ y.cls ≠ "java/lang/invoke/VarHandle" ∧ (parseMethodDescriptor y.desc).map (fun d => d.parameters.length) = some n) (hR : rm.frames + 1 ≤ R.frames ∧ 8 + (maxL + 11) + rm.locals ≤ R.locals ∧ rm.cells = 0 ∧ rm.slots = 0) (hcat : (st.map fun v => v.category).sum ≤ 8) (hdg : decode cc pc = .ok (.invokestatic index, 3)) (hn : As.length = n) (hst : stk = As.reverse ++ st) (hfc : cells ≤ R.cells ∧ slots ≤ R.slots) (kk : WW p l e R s m args below meth c Q D A nL tys cells slots (pc + 3) lo (.long r :: st) W1) : WW p l e R s m args below meth c Q D A nL tys cells slots pc lo stk w := by
  subst hst
  intro hK H locs ls hP hD hS hl
  have cw : va_CN R s args own index y host bytes maxL (some .long) (Cond.code y bytes maxL (some .long) :: rg_tbl) rm 0 0 n := va_cnB n C0.2.2.2.2.1 (rg_goodIn (by
    intro w hw
    rcases List.mem_cons.mp hw with rfl | hw <;> assumption)) rfl hR.2.2.1 hR.2.2.2 (C0.2.2.2.2.2.2.2 _ hlink) (C0.2.2.2.2.1 _ hini) hd ⟨hR.1, hR.2.1⟩
  exact va_calll (va_runSN (As := As) (rest := st) ⟨C0.1, C0.2.1, C0.2.2.1, C0.2.2.2.1, C0.2.2.2.2.1⟩ (hM H.size) ⟨cw, C0.2.2.2.2.1 _ hstat, trivial⟩ ⟨mp_blind, fun U hU hW => mp_of hK C0.2.2.2.2.2.2.2 hP hD U hU hW⟩ rfl hn hl.2.1 rfl (lv_room hcat) hdg ⟨by have := hfc.1; omega, by have := hfc.2; omega⟩) hS (fun q _ h => ww_AA C0 hD hS q h) (ww_AA C0 hD hS) (fun r' u t H1 locs1 ht hvm hw hB hz1 hk1 hS1 => by
    obtain ⟨hP1, hK1, hD1⟩ := hB
    rw [ht] at hP1
    subst hw
    exact kk hK H1 locs1 ls hP1 (hD1.weaken (fun _ _ _ h => ww_AA C0 hD hS _ h)) hS1 hl)
theorem ww_callVv (C0 : CT p s m args meth c cc own nL A) {y : MethodName} {bytes : ByteArray} {maxL n index : Nat} {rm : Room} {b : Nat} {As : List Value} {stk : List Value} {W1 : va_W} (q0 ci : Nat) {fs : List Value} {qc : vw_C} (hM : MV l D tys y bytes maxL rm (.ref b :: As) w W1) (hcode : Cond.code y bytes maxL none ∈ rg_tbl) (hlink : Cond.methodLink own index y ∈ rg_tbl) (hinst : Cond.instanceMethod y ∈ rg_tbl) (hsel : Cond.selects y.cls y y ∈ rg_tbl) (hini : Cond.initialized y.cls ∈ rg_tbl) (hd : y.cls ≠ "java/lang/invoke/MethodHandle" ∧ y.cls ≠ "java/lang/invoke/VarHandle" ∧ (parseMethodDescriptor y.desc).map (fun d => d.parameters.length) = some n) (hcl : vwCl[ci]? = some qc) (hqc : qc.1 = y.cls) (hR : rm.frames + 1 ≤ R.frames ∧ 8 + (maxL + 11) + rm.locals ≤ R.locals ∧ rm.cells = 0 ∧ rm.slots = 0) (hcat : (st.map fun v => v.category).sum ≤ 8) (hdg : decode cc pc = .ok (.invokevirtual index, 3)) (hrec : w[q0]? = some (b, .inr (ci, fs))) (hn : As.length = n) (hst : stk = As.reverse ++ .ref b :: st) (hfc : cells ≤ R.cells ∧ slots ≤ R.slots) (kk : WW p l e R s m args below meth c Q D A nL tys cells slots (pc + 3) lo st W1) : WW p l e R s m args below meth c Q D A nL tys cells slots pc lo stk w := by
  subst hst
  intro hK H locs ls hP hD hS hl
  have cw : CallW R s args own y.cls index y bytes maxL none (Cond.code y bytes maxL none :: rg_tbl) rm 0 0 n := cwV n C0.2.2.2.2.1 (rg_goodIn (by
    intro w hw
    simp only [wsV, List.cons_append, List.nil_append, List.mem_cons] at hw
    rcases hw with rfl | rfl | rfl | rfl | rfl | hw <;> assumption)) rfl hR.2.2.1 hR.2.2.2 ⟨rfl, hd⟩ ⟨hR.1, hR.2.1⟩
  exact va_callv (va_runV (As := As) (rest := st) ⟨C0.1, C0.2.1, C0.2.2.1, C0.2.2.2.1, C0.2.2.2.2.1⟩ (hM H.size) cw ⟨mp_blind, (by rw [← hqc]; exact va_recv hK hP hcl hrec), fun U hU hW => mp_of hK C0.2.2.2.2.2.2.2 hP hD U hU hW⟩ rfl hn hl.2.1 rfl (lv_room hcat) hdg ⟨by have := hfc.1; omega, by have := hfc.2; omega⟩) hS (fun q _ h => ww_AA C0 hD hS q h) (ww_AA C0 hD hS) (fun u t H1 locs1 ht hvm hw hB hz1 hk1 hS1 => by
    obtain ⟨hP1, hK1, hD1⟩ := hB
    rw [ht] at hP1
    exact kk hK H1 locs1 ls hP1 (hD1.weaken (fun _ _ _ h => ww_AA C0 hD hS _ h)) hS1 hl)
theorem ww_callSv (C0 : CT p s m args meth c cc own nL A) {y : MethodName} {bytes : ByteArray} {maxL n index : Nat} {rm : Room} {As : List Value} {stk : List Value} {W1 : va_W} (hM : MV l D tys y bytes maxL rm As w W1) (hcode : Cond.code y bytes maxL none ∈ rg_tbl) (hlink : Cond.methodLink own index y ∈ rg_tbl) (hstat : Cond.static y ∈ rg_tbl) (hini : Cond.initialized y.cls ∈ rg_tbl) (hd : y.cls ≠ "java/lang/invoke/MethodHandle" ∧ y.cls ≠ "java/lang/invoke/VarHandle" ∧ (parseMethodDescriptor y.desc).map (fun d => d.parameters.length) = some n) (hR : rm.frames + 1 ≤ R.frames ∧ 8 + (maxL + 11) + rm.locals ≤ R.locals ∧ rm.cells = 0 ∧ rm.slots = 0) (hcat : (st.map fun v => v.category).sum ≤ 8) (hdg : decode cc pc = .ok (.invokestatic index, 3)) (hn : As.length = n) (hst : stk = As.reverse ++ st) (hfc : cells ≤ R.cells ∧ slots ≤ R.slots) (kk : WW p l e R s m args below meth c Q D A nL tys cells slots (pc + 3) lo st W1) : WW p l e R s m args below meth c Q D A nL tys cells slots pc lo stk w := by
  subst hst
  intro hK H locs ls hP hD hS hl
  have cw := va_cwS (R := R) (s := s) (args := args) (own := own) (index := index) (y := y) (bytes := bytes) (maxL := maxL) (mc := 0) (ms := 0) (ret := none) (ws := Cond.code y bytes maxL none :: rg_tbl) (rm := rm) n C0.2.2.2.2.1 (rg_goodIn (by
    intro w hw
    simp only [va_wsS, List.cons_append, List.nil_append, List.mem_cons] at hw
    rcases hw with rfl | rfl | rfl | rfl | hw <;> assumption)) rfl hR.2.2.1 hR.2.2.2 hd ⟨hR.1, hR.2.1⟩
  exact va_callv (va_runS (As := As) (rest := st) ⟨C0.1, C0.2.1, C0.2.2.1, C0.2.2.2.1, C0.2.2.2.2.1⟩ (hM H.size) cw ⟨mp_blind, fun U hU hW => mp_of hK C0.2.2.2.2.2.2.2 hP hD U hU hW⟩ rfl hn hl.2.1 rfl (lv_room hcat) hdg ⟨by have := hfc.1; omega, by have := hfc.2; omega⟩) hS (fun q _ h => ww_AA C0 hD hS q h) (ww_AA C0 hD hS) (fun u t H1 locs1 ht hvm hw hB hz1 hk1 hS1 => by
    obtain ⟨hP1, hK1, hD1⟩ := hB
    rw [ht] at hP1
    exact kk hK H1 locs1 ls hP1 (hD1.weaken (fun _ _ _ h => ww_AA C0 hD hS _ h)) hS1 hl)
theorem ww_callVNv (C0 : CT p s m args meth c cc own nL A) {host : String} {y : MethodName} {bytes : ByteArray} {maxL n index : Nat} {rm : Room} {b : Nat} {As : List Value} {stk : List Value} {W1 : va_W} (q0 ci : Nat) {fs : List Value} {qc : vw_C} (hM : MV l D tys y bytes maxL rm (.ref b :: As) w W1) (hcode : Cond.code y bytes maxL none ∈ rg_tbl) (hlink : Cond.methodLinkNest own index y host ∈ nk_tbl) (hinst : Cond.instanceMethod y ∈ rg_tbl) (hsel : Cond.selects y.cls y y ∈ rg_tbl) (hini : Cond.initialized y.cls ∈ rg_tbl) (hd : y.cls ≠ "java/lang/invoke/MethodHandle" ∧ y.cls ≠ "java/lang/invoke/VarHandle" ∧ (parseMethodDescriptor y.desc).map (fun d => d.parameters.length) = some n) (hcl : vwCl[ci]? = some qc) (hqc : qc.1 = y.cls) (hR : rm.frames + 1 ≤ R.frames ∧ 8 + (maxL + 11) + rm.locals ≤ R.locals ∧ rm.cells = 0 ∧ rm.slots = 0) (hcat : (st.map fun v => v.category).sum ≤ 8) (hdg : decode cc pc = .ok (.invokevirtual index, 3)) (hrec : w[q0]? = some (b, .inr (ci, fs))) (hn : As.length = n) (hst : stk = As.reverse ++ .ref b :: st) (hfc : cells ≤ R.cells ∧ slots ≤ R.slots) (kk : WW p l e R s m args below meth c Q D A nL tys cells slots (pc + 3) lo st W1) : WW p l e R s m args below meth c Q D A nL tys cells slots pc lo stk w := by
  subst hst
  intro hK H locs ls hP hD hS hl
  have cw : va_CN R s args own index y host bytes maxL none (Cond.code y bytes maxL none :: rg_tbl) rm 0 0 n := va_cnB n C0.2.2.2.2.1 (rg_goodIn (by
    intro w hw
    rcases List.mem_cons.mp hw with rfl | hw <;> assumption)) rfl hR.2.2.1 hR.2.2.2 (C0.2.2.2.2.2.2.2 _ hlink) (C0.2.2.2.2.1 _ hini) hd ⟨hR.1, hR.2.1⟩
  exact va_callv (va_runVN (As := As) (rest := st) ⟨C0.1, C0.2.1, C0.2.2.1, C0.2.2.2.1, C0.2.2.2.2.1⟩ (hM H.size) ⟨cw, C0.2.2.2.2.1 _ hinst, C0.2.2.2.2.1 _ hsel⟩ ⟨mp_blind, (by rw [← hqc]; exact va_recv hK hP hcl hrec), fun U hU hW => mp_of hK C0.2.2.2.2.2.2.2 hP hD U hU hW⟩ rfl hn hl.2.1 rfl (lv_room hcat) hdg ⟨by have := hfc.1; omega, by have := hfc.2; omega⟩) hS (fun q _ h => ww_AA C0 hD hS q h) (ww_AA C0 hD hS) (fun u t H1 locs1 ht hvm hw hB hz1 hk1 hS1 => by
    obtain ⟨hP1, hK1, hD1⟩ := hB
    rw [ht] at hP1
    exact kk hK H1 locs1 ls hP1 (hD1.weaken (fun _ _ _ h => ww_AA C0 hD hS _ h)) hS1 hl)
end WWc
end
section
/-! fewer things known of the locals; loops; worlds in another order -/
def wl_le : List Value → List Value → Prop
  | [], [] => True
  | a :: as, b :: bs => (a = .null ∨ a = b) ∧ wl_le as bs
  | _, _ => False
theorem wl_le_at : ∀ {lo lo' : List Value}, wl_le lo lo' → lo.length = lo'.length ∧ ∀ (i : Nat) (v : Value), lo[i]? = some v → v ≠ .null → lo'[i]? = some v
  | [], [], _ => ⟨rfl, fun i v h => by simp at h⟩
  | a :: as, b :: bs, h => by
    obtain ⟨h1, h2⟩ := h
    obtain ⟨g1, g2⟩ := wl_le_at h2
    refine ⟨by simp [g1], fun i v hi hv => ?_⟩
    cases i with
    | zero =>
      simp only [List.getElem?_cons_zero, Option.some.injEq] at hi ⊢
      subst hi
      rcases h1 with h1 | h1
      · exact absurd h1 hv
      · exact h1.symm
    | succ i =>
      simp only [List.getElem?_cons_succ] at hi ⊢
      exact g2 i v hi hv
  | [], _ :: _, h => h.elim
  | _ :: _, [], h => h.elim
theorem wl_l.le {ls : Array Slot} {nL : Nat} {lo lo' : List Value} (h : wl_le lo lo') (hl : wl_l ls nL lo') : wl_l ls nL lo :=
  ⟨(wl_le_at h).1.trans hl.1, hl.2.1, hl.2.2.1, fun i v hi hv => hl.2.2.2 i v ((wl_le_at h).2 i v hi hv) hv⟩
theorem perm_mv (i k j : Nat) (w : va_W) : w.Perm (w.take i ++ ((w.drop (i + k)).take j ++ ((w.drop i).take k ++ w.drop (i + k + j)))) := by
  have e : w = w.take i ++ ((w.drop i).take k ++ ((w.drop (i + k)).take j ++ w.drop (i + k + j))) := by
    have h1 : w.drop (i + k) = (w.drop (i + k)).take j ++ w.drop (i + k + j) := by
      conv => lhs; rw [← List.take_append_drop j (w.drop (i + k))]
      rw [List.drop_drop]
    have h2 : w.drop i = (w.drop i).take k ++ w.drop (i + k) := by
      conv => lhs; rw [← List.take_append_drop k (w.drop i)]
      rw [List.drop_drop]
    rw [← h1, ← h2, List.take_append_drop]
  exact (List.Perm.of_eq e).trans (perm_swap3 _ _ _ _)
section WWd
variable {p : Program} {l : Launch} {e : Env} {R : Room} {s : State} {m : MethodId} {args : Array Value} {below : List Frame} {meth : Method} {c : Code} {Q : State → Prop} {D : va_G} {A : Nat → Prop} {cc : ByteArray} {own : String} {nL : Nat} {tys : List (ClassId × FieldType)} {cells slots pc : Nat} {lo st : List Value} {w : va_W}
theorem ww_back {lo' : List Value} {w' : va_W} (k : WW p l e R s m args below meth c Q D A nL tys cells slots pc lo' st w') (h : wl_le lo' lo) (hw : w = w') : WW p l e R s m args below meth c Q D A nL tys cells slots pc lo st w := by
  subst hw
  exact fun hK H locs ls hP hD hS hl => k hK H locs ls hP hD hS (hl.le h)
theorem ww_top {v v' : Int32} (h : v = v') (k : WW p l e R s m args below meth c Q D A nL tys cells slots pc lo (.int v' :: st) w) : WW p l e R s m args below meth c Q D A nL tys cells slots pc lo (.int v :: st) w := by
  subst h; exact k
theorem ww_world {w' : va_W} (h : w = w') (k : WW p l e R s m args below meth c Q D A nL tys cells slots pc lo st w') : WW p l e R s m args below meth c Q D A nL tys cells slots pc lo st w := by
  subst h; exact k
/-- a loop that counts i0 .. N -/
theorem ww_loop (i0 N : Nat) (h0 : i0 ≤ N) (lo : Nat → List Value) (w : Nat → va_W) (hs : ∀ j, i0 ≤ j → j < N → WW p l e R s m args below meth c Q D A nL tys cells slots pc (lo (j + 1)) st (w (j + 1)) → WW p l e R s m args below meth c Q D A nL tys cells slots pc (lo j) st (w j)) (hx : WW p l e R s m args below meth c Q D A nL tys cells slots pc (lo N) st (w N)) : WW p l e R s m args below meth c Q D A nL tys cells slots pc (lo i0) st (w i0) := by
  have key : ∀ n j, i0 ≤ j → j + n = N → WW p l e R s m args below meth c Q D A nL tys cells slots pc (lo j) st (w j) := by
    intro n
    induction n with
    | zero => intro j _ hj; have : j = N := by omega
              subst this; exact hx
    | succ n ih => intro j h1 hj; exact hs j h1 (by omega) (ih (j + 1) (by omega) (by omega))
  exact key (N - i0) i0 (Nat.le_refl _) (by omega)
/-- a loop with an invariant: it may end early -/
theorem ww_loopI {σ : Type} (i0 N : Nat) (h0 : i0 ≤ N) (I : Nat → σ → Prop) (lo : Nat → σ → List Value) (w : Nat → σ → va_W) (x0 : σ) (hI : I i0 x0) (hs : ∀ j x, i0 ≤ j → j < N → I j x → (∀ x', I (j + 1) x' → WW p l e R s m args below meth c Q D A nL tys cells slots pc (lo (j + 1) x') st (w (j + 1) x')) → WW p l e R s m args below meth c Q D A nL tys cells slots pc (lo j x) st (w j x)) (hx : ∀ x, I N x → WW p l e R s m args below meth c Q D A nL tys cells slots pc (lo N x) st (w N x)) : WW p l e R s m args below meth c Q D A nL tys cells slots pc (lo i0 x0) st (w i0 x0) := by
  have key : ∀ n j x, i0 ≤ j → j + n = N → I j x → WW p l e R s m args below meth c Q D A nL tys cells slots pc (lo j x) st (w j x) := by
    intro n
    induction n with
    | zero => intro j x _ hj hi; have : j = N := by omega
              subst this; exact hx x hi
    | succ n ih => intro j x h1 hj hi; exact hs j x h1 (by omega) hi (fun x' h' => ih (j + 1) x' (by omega) (by omega) h')
  exact key (N - i0) i0 x0 (Nat.le_refl _) (by omega) hI
/-- a loop by a measure -/
theorem ww_loopM {σ : Type} (I : σ → Prop) (μ : σ → Nat) (lo : σ → List Value) (w : σ → va_W) (x0 : σ) (hI : I x0) (hs : ∀ x, I x → (∀ x', I x' → μ x' < μ x → WW p l e R s m args below meth c Q D A nL tys cells slots pc (lo x') st (w x')) → WW p l e R s m args below meth c Q D A nL tys cells slots pc (lo x) st (w x)) : WW p l e R s m args below meth c Q D A nL tys cells slots pc (lo x0) st (w x0) := by
  have key : ∀ n x, μ x < n → I x → WW p l e R s m args below meth c Q D A nL tys cells slots pc (lo x) st (w x) := by
    intro n
    induction n with
    | zero => intro x h; omega
    | succ n ih => intro x h hi; exact hs x hi (fun x' h' hm => ih x' (by omega) h')
  exact key (μ x0 + 1) x0 (Nat.lt_succ_self _) hI
end WWd
theorem sw_out {x : Int32} (n : Nat) (hn : n < 2 ^ 31) (h : ∀ k, k < n → ¬ x = nI k) : x.toInt < 0 ∨ (n : Int) - 1 < x.toInt := by
  by_cases h0 : x.toInt < 0
  · exact Or.inl h0
  · by_cases h1 : (n : Int) - 1 < x.toInt
    · exact Or.inr h1
    · exfalso
      refine h x.toInt.toNat (by omega) ?_
      rw [← Int32.toInt_inj, nI_toInt (by omega)]
      omega
end
section
/-! small numbers -/
theorem nI_addE {x y : Int32} {a b : Nat} (hx : x = nI a) (hy : y = nI b) : x + y = nI (a + b) := by subst hx; subst hy; exact nI_add a b
theorem nI_mulE {x y : Int32} {a b : Nat} (hx : x = nI a) (hy : y = nI b) : x * y = nI (a * b) := by subst hx; subst hy; exact pk_mul a b
theorem nI_subE {x y : Int32} {a b : Nat} (hx : x = nI a) (hy : y = nI b) (h : b ≤ a) : x - y = nI (a - b) := by subst hx; subst hy; exact pk_sub h
theorem nI_decE {x : Int32} {a : Nat} (hx : x = nI a) (h : 1 ≤ a) : x + (-1) = nI (a - 1) := by
  subst hx
  obtain ⟨b, rfl⟩ : ∃ b, a = b + 1 := ⟨a - 1, by omega⟩
  exact pk_m1 b
theorem nI_divE {x y : Int32} {a b : Nat} (hx : x = nI a) (hy : y = nI b) (ha : a < 2 ^ 31) (h0 : 0 < b) (hb : b < 2 ^ 31) : x / y = nI (a / b) := by subst hx; subst hy; exact pk_div ha h0 hb
theorem nI_remE {x y : Int32} {a b : Nat} (hx : x = nI a) (hy : y = nI b) (ha : a < 2 ^ 31) (h0 : 0 < b) (hb : b < 2 ^ 31) : x - x / y * y = nI (a % b) := by subst hx; subst hy; exact pk_rem ha h0 hb
theorem nI_leE {x y : Int32} {a b : Nat} (hx : x = nI a) (hy : y = nI b) (ha : a < 2 ^ 31) (hb : b < 2 ^ 31) : x ≤ y ↔ a ≤ b := by subst hx; subst hy; exact nI_leI ha hb
theorem nI_ltE {x y : Int32} {a b : Nat} (hx : x = nI a) (hy : y = nI b) (ha : a < 2 ^ 31) (hb : b < 2 ^ 31) : x < y ↔ a < b := by subst hx; subst hy; exact nI_ltI ha hb
theorem nI_eqE {x y : Int32} {a b : Nat} (hx : x = nI a) (hy : y = nI b) (ha : a < 2 ^ 31) (hb : b < 2 ^ 31) : x = y ↔ a = b := by subst hx; subst hy; exact nI_eq ha hb
theorem sw_outc (x : Int32) (lo hi : Int) (h : ∀ k : Int, lo ≤ k → k ≤ hi → ¬ x.toInt = k) : x.toInt < lo ∨ hi < x.toInt := by
  by_cases h0 : x.toInt < lo
  · exact Or.inl h0
  · by_cases h1 : hi < x.toInt
    · exact Or.inr h1
    · exact absurd rfl (h x.toInt (by omega) (by omega))
theorem i32_ne {x : Int32} {n : Nat} (hn : n < 2 ^ 31) (h : ¬ x = nI n) : ¬ x.toInt = (n : Int) := fun e => h (by rw [← Int32.toInt_inj, nI_toInt hn, e])
/-- within 0 .. n - 1 -/
def isN (n : Nat) (m : Int32) : Bool := decide (0 ≤ m) && decide (m < nI n)
theorem isN_of {n : Nat} {m : Int32} (hn : n < 2 ^ 31) (h : isN n m = true) : ∃ k, k < n ∧ m = nI k := by
  simp only [isN, Bool.and_eq_true, decide_eq_true_eq] at h
  obtain ⟨j, hj, rfl⟩ := nI_of (x := m) (fun q => by
    have h1 := h.1
    simp only [Int32.le_iff_toInt_le, Int32.lt_iff_toInt_lt] at h1 q
    omega)
  exact ⟨j, (nI_ltI hj hn).mp h.2, rfl⟩
theorem isN_nI {n k : Nat} (hn : n < 2 ^ 31) (h : k < n) : isN n (nI k) = true := by
  simp only [isN, Bool.and_eq_true, decide_eq_true_eq]
  exact ⟨nI_pos' (by omega), (nI_ltI (by omega) hn).mpr h⟩
theorem isN_nI' {n k : Nat} (hn : n < 2 ^ 31) (hk : k < 2 ^ 31) : isN n (nI k) = decide (k < n) := by
  by_cases h : k < n
  · rw [isN_nI hn h]; simp [h]
  · simp only [isN, h, decide_false, Bool.and_eq_false_iff, decide_eq_false_iff_not]
    exact Or.inr (fun q => h ((nI_ltI hk hn).mp q))
theorem isN_neg {n : Nat} {m : Int32} (h : ¬ 0 ≤ m) : isN n m = false := by simp [isN, h]
theorem isN_big {n : Nat} {m : Int32} (h : ¬ m < nI n) : isN n m = false := by simp [isN, h]
theorem i32_lt0 {m : Int32} : m < 0 ↔ ¬ 0 ≤ m := by
  simp only [Int32.le_iff_toInt_le, Int32.lt_iff_toInt_lt]; omega
theorem i32_nlt {a b : Int32} : ¬ a < b ↔ b ≤ a := by
  simp only [Int32.le_iff_toInt_le, Int32.lt_iff_toInt_lt]; omega
theorem i32_nle {a b : Int32} : ¬ a ≤ b ↔ b < a := by
  simp only [Int32.le_iff_toInt_le, Int32.lt_iff_toInt_lt]; omega
theorem hd_X4_init : yX4_init.cls ≠ "java/lang/invoke/MethodHandle" ∧ yX4_init.cls ≠ "java/lang/invoke/VarHandle" ∧ (parseMethodDescriptor yX4_init.desc).map (fun d => d.parameters.length) = some 0 := ⟨by decide +kernel, by decide +kernel, by decide +kernel⟩
theorem hd_X3_init : yX3_init.cls ≠ "java/lang/invoke/MethodHandle" ∧ yX3_init.cls ≠ "java/lang/invoke/VarHandle" ∧ (parseMethodDescriptor yX3_init.desc).map (fun d => d.parameters.length) = some 0 := ⟨by decide +kernel, by decide +kernel, by decide +kernel⟩
theorem hd_X0_init : yX0_init.cls ≠ "java/lang/invoke/MethodHandle" ∧ yX0_init.cls ≠ "java/lang/invoke/VarHandle" ∧ (parseMethodDescriptor yX0_init.desc).map (fun d => d.parameters.length) = some 0 := ⟨by decide +kernel, by decide +kernel, by decide +kernel⟩
theorem hd_X2_init : yX2_init.cls ≠ "java/lang/invoke/MethodHandle" ∧ yX2_init.cls ≠ "java/lang/invoke/VarHandle" ∧ (parseMethodDescriptor yX2_init.desc).map (fun d => d.parameters.length) = some 0 := ⟨by decide +kernel, by decide +kernel, by decide +kernel⟩
theorem hd_X1_init : yX1_init.cls ≠ "java/lang/invoke/MethodHandle" ∧ yX1_init.cls ≠ "java/lang/invoke/VarHandle" ∧ (parseMethodDescriptor yX1_init.desc).map (fun d => d.parameters.length) = some 0 := ⟨by decide +kernel, by decide +kernel, by decide +kernel⟩
theorem hd_X4_write : yX4_write.cls ≠ "java/lang/invoke/MethodHandle" ∧ yX4_write.cls ≠ "java/lang/invoke/VarHandle" ∧ (parseMethodDescriptor yX4_write.desc).map (fun d => d.parameters.length) = some 1 := ⟨by decide +kernel, by decide +kernel, by decide +kernel⟩
theorem hd_X3_put : yX3_put.cls ≠ "java/lang/invoke/MethodHandle" ∧ yX3_put.cls ≠ "java/lang/invoke/VarHandle" ∧ (parseMethodDescriptor yX3_put.desc).map (fun d => d.parameters.length) = some 1 := ⟨by decide +kernel, by decide +kernel, by decide +kernel⟩
theorem hd_X4_wipe : yX4_wipe.cls ≠ "java/lang/invoke/MethodHandle" ∧ yX4_wipe.cls ≠ "java/lang/invoke/VarHandle" ∧ (parseMethodDescriptor yX4_wipe.desc).map (fun d => d.parameters.length) = some 0 := ⟨by decide +kernel, by decide +kernel, by decide +kernel⟩
theorem hd_X4_fault : yX4_fault.cls ≠ "java/lang/invoke/MethodHandle" ∧ yX4_fault.cls ≠ "java/lang/invoke/VarHandle" ∧ (parseMethodDescriptor yX4_fault.desc).map (fun d => d.parameters.length) = some 0 := ⟨by decide +kernel, by decide +kernel, by decide +kernel⟩
theorem hd_X3_firstFault : yX3_firstFault.cls ≠ "java/lang/invoke/MethodHandle" ∧ yX3_firstFault.cls ≠ "java/lang/invoke/VarHandle" ∧ (parseMethodDescriptor yX3_firstFault.desc).map (fun d => d.parameters.length) = some 0 := ⟨by decide +kernel, by decide +kernel, by decide +kernel⟩
theorem hd_X3_letter : yX3_letter.cls ≠ "java/lang/invoke/MethodHandle" ∧ yX3_letter.cls ≠ "java/lang/invoke/VarHandle" ∧ (parseMethodDescriptor yX3_letter.desc).map (fun d => d.parameters.length) = some 1 := ⟨by decide +kernel, by decide +kernel, by decide +kernel⟩
theorem hd_X3_figuresAt : yX3_figuresAt.cls ≠ "java/lang/invoke/MethodHandle" ∧ yX3_figuresAt.cls ≠ "java/lang/invoke/VarHandle" ∧ (parseMethodDescriptor yX3_figuresAt.desc).map (fun d => d.parameters.length) = some 2 := ⟨by decide +kernel, by decide +kernel, by decide +kernel⟩
theorem hd_X4_treaty : yX4_treaty.cls ≠ "java/lang/invoke/MethodHandle" ∧ yX4_treaty.cls ≠ "java/lang/invoke/VarHandle" ∧ (parseMethodDescriptor yX4_treaty.desc).map (fun d => d.parameters.length) = some 0 := ⟨by decide +kernel, by decide +kernel, by decide +kernel⟩
theorem hd_X4_readPart : yX4_readPart.cls ≠ "java/lang/invoke/MethodHandle" ∧ yX4_readPart.cls ≠ "java/lang/invoke/VarHandle" ∧ (parseMethodDescriptor yX4_readPart.desc).map (fun d => d.parameters.length) = some 1 := ⟨by decide +kernel, by decide +kernel, by decide +kernel⟩
theorem hd_X3_figure : yX3_figure.cls ≠ "java/lang/invoke/MethodHandle" ∧ yX3_figure.cls ≠ "java/lang/invoke/VarHandle" ∧ (parseMethodDescriptor yX3_figure.desc).map (fun d => d.parameters.length) = some 1 := ⟨by decide +kernel, by decide +kernel, by decide +kernel⟩
theorem hd_X0_add : yX0_add.cls ≠ "java/lang/invoke/MethodHandle" ∧ yX0_add.cls ≠ "java/lang/invoke/VarHandle" ∧ (parseMethodDescriptor yX0_add.desc).map (fun d => d.parameters.length) = some 3 := ⟨by decide +kernel, by decide +kernel, by decide +kernel⟩
theorem hd_X4_about : yX4_about.cls ≠ "java/lang/invoke/MethodHandle" ∧ yX4_about.cls ≠ "java/lang/invoke/VarHandle" ∧ (parseMethodDescriptor yX4_about.desc).map (fun d => d.parameters.length) = some 1 := ⟨by decide +kernel, by decide +kernel, by decide +kernel⟩
theorem hd_X4_article : yX4_article.cls ≠ "java/lang/invoke/MethodHandle" ∧ yX4_article.cls ≠ "java/lang/invoke/VarHandle" ∧ (parseMethodDescriptor yX4_article.desc).map (fun d => d.parameters.length) = some 2 := ⟨by decide +kernel, by decide +kernel, by decide +kernel⟩
theorem hd_X4_isArticle : yX4_isArticle.cls ≠ "java/lang/invoke/MethodHandle" ∧ yX4_isArticle.cls ≠ "java/lang/invoke/VarHandle" ∧ (parseMethodDescriptor yX4_isArticle.desc).map (fun d => d.parameters.length) = some 1 := ⟨by decide +kernel, by decide +kernel, by decide +kernel⟩
theorem hd_X4_mulesThatKnow : yX4_mulesThatKnow.cls ≠ "java/lang/invoke/MethodHandle" ∧ yX4_mulesThatKnow.cls ≠ "java/lang/invoke/VarHandle" ∧ (parseMethodDescriptor yX4_mulesThatKnow.desc).map (fun d => d.parameters.length) = some 1 := ⟨by decide +kernel, by decide +kernel, by decide +kernel⟩
theorem hd_X4_known : yX4_known.cls ≠ "java/lang/invoke/MethodHandle" ∧ yX4_known.cls ≠ "java/lang/invoke/VarHandle" ∧ (parseMethodDescriptor yX4_known.desc).map (fun d => d.parameters.length) = some 2 := ⟨by decide +kernel, by decide +kernel, by decide +kernel⟩
theorem hd_X4_isMule : yX4_isMule.cls ≠ "java/lang/invoke/MethodHandle" ∧ yX4_isMule.cls ≠ "java/lang/invoke/VarHandle" ∧ (parseMethodDescriptor yX4_isMule.desc).map (fun d => d.parameters.length) = some 1 := ⟨by decide +kernel, by decide +kernel, by decide +kernel⟩
theorem hd_X4_knownIfShown : yX4_knownIfShown.cls ≠ "java/lang/invoke/MethodHandle" ∧ yX4_knownIfShown.cls ≠ "java/lang/invoke/VarHandle" ∧ (parseMethodDescriptor yX4_knownIfShown.desc).map (fun d => d.parameters.length) = some 2 := ⟨by decide +kernel, by decide +kernel, by decide +kernel⟩
theorem hd_X0_all : yX0_all.cls ≠ "java/lang/invoke/MethodHandle" ∧ yX0_all.cls ≠ "java/lang/invoke/VarHandle" ∧ (parseMethodDescriptor yX0_all.desc).map (fun d => d.parameters.length) = some 0 := ⟨by decide +kernel, by decide +kernel, by decide +kernel⟩
theorem hd_X0_last : yX0_last.cls ≠ "java/lang/invoke/MethodHandle" ∧ yX0_last.cls ≠ "java/lang/invoke/VarHandle" ∧ (parseMethodDescriptor yX0_last.desc).map (fun d => d.parameters.length) = some 0 := ⟨by decide +kernel, by decide +kernel, by decide +kernel⟩
theorem hd_X4_mule : yX4_mule.cls ≠ "java/lang/invoke/MethodHandle" ∧ yX4_mule.cls ≠ "java/lang/invoke/VarHandle" ∧ (parseMethodDescriptor yX4_mule.desc).map (fun d => d.parameters.length) = some 2 := ⟨by decide +kernel, by decide +kernel, by decide +kernel⟩
theorem hd_X4_by : yX4_by.cls ≠ "java/lang/invoke/MethodHandle" ∧ yX4_by.cls ≠ "java/lang/invoke/VarHandle" ∧ (parseMethodDescriptor yX4_by.desc).map (fun d => d.parameters.length) = some 2 := ⟨by decide +kernel, by decide +kernel, by decide +kernel⟩
theorem hd_X4_stepRefusal : yX4_stepRefusal.cls ≠ "java/lang/invoke/MethodHandle" ∧ yX4_stepRefusal.cls ≠ "java/lang/invoke/VarHandle" ∧ (parseMethodDescriptor yX4_stepRefusal.desc).map (fun d => d.parameters.length) = some 2 := ⟨by decide +kernel, by decide +kernel, by decide +kernel⟩
theorem hd_X4_isFlag : yX4_isFlag.cls ≠ "java/lang/invoke/MethodHandle" ∧ yX4_isFlag.cls ≠ "java/lang/invoke/VarHandle" ∧ (parseMethodDescriptor yX4_isFlag.desc).map (fun d => d.parameters.length) = some 1 := ⟨by decide +kernel, by decide +kernel, by decide +kernel⟩
theorem hd_X4_nextStone : yX4_nextStone.cls ≠ "java/lang/invoke/MethodHandle" ∧ yX4_nextStone.cls ≠ "java/lang/invoke/VarHandle" ∧ (parseMethodDescriptor yX4_nextStone.desc).map (fun d => d.parameters.length) = some 2 := ⟨by decide +kernel, by decide +kernel, by decide +kernel⟩
theorem hd_X4_isStone : yX4_isStone.cls ≠ "java/lang/invoke/MethodHandle" ∧ yX4_isStone.cls ≠ "java/lang/invoke/VarHandle" ∧ (parseMethodDescriptor yX4_isStone.desc).map (fun d => d.parameters.length) = some 1 := ⟨by decide +kernel, by decide +kernel, by decide +kernel⟩
theorem hd_X4_forbidders : yX4_forbidders.cls ≠ "java/lang/invoke/MethodHandle" ∧ yX4_forbidders.cls ≠ "java/lang/invoke/VarHandle" ∧ (parseMethodDescriptor yX4_forbidders.desc).map (fun d => d.parameters.length) = some 3 := ⟨by decide +kernel, by decide +kernel, by decide +kernel⟩
theorem hd_X4_forbiddersFrom : yX4_forbiddersFrom.cls ≠ "java/lang/invoke/MethodHandle" ∧ yX4_forbiddersFrom.cls ≠ "java/lang/invoke/VarHandle" ∧ (parseMethodDescriptor yX4_forbiddersFrom.desc).map (fun d => d.parameters.length) = some 5 := ⟨by decide +kernel, by decide +kernel, by decide +kernel⟩
theorem hd_X4_othersFromNorthOf : yX4_othersFromNorthOf.cls ≠ "java/lang/invoke/MethodHandle" ∧ yX4_othersFromNorthOf.cls ≠ "java/lang/invoke/VarHandle" ∧ (parseMethodDescriptor yX4_othersFromNorthOf.desc).map (fun d => d.parameters.length) = some 3 := ⟨by decide +kernel, by decide +kernel, by decide +kernel⟩
theorem hd_X0_forbids : yX0_forbids.cls ≠ "java/lang/invoke/MethodHandle" ∧ yX0_forbids.cls ≠ "java/lang/invoke/VarHandle" ∧ (parseMethodDescriptor yX0_forbids.desc).map (fun d => d.parameters.length) = some 6 := ⟨by decide +kernel, by decide +kernel, by decide +kernel⟩
theorem hd_X0_forbidsAlone : yX0_forbidsAlone.cls ≠ "java/lang/invoke/MethodHandle" ∧ yX0_forbidsAlone.cls ≠ "java/lang/invoke/VarHandle" ∧ (parseMethodDescriptor yX0_forbidsAlone.desc).map (fun d => d.parameters.length) = some 5 := ⟨by decide +kernel, by decide +kernel, by decide +kernel⟩
theorem hd_X4_balks : yX4_balks.cls ≠ "java/lang/invoke/MethodHandle" ∧ yX4_balks.cls ≠ "java/lang/invoke/VarHandle" ∧ (parseMethodDescriptor yX4_balks.desc).map (fun d => d.parameters.length) = some 2 := ⟨by decide +kernel, by decide +kernel, by decide +kernel⟩
theorem hd_X4_balkers : yX4_balkers.cls ≠ "java/lang/invoke/MethodHandle" ∧ yX4_balkers.cls ≠ "java/lang/invoke/VarHandle" ∧ (parseMethodDescriptor yX4_balkers.desc).map (fun d => d.parameters.length) = some 3 := ⟨by decide +kernel, by decide +kernel, by decide +kernel⟩
theorem hd_X4_firstOf : yX4_firstOf.cls ≠ "java/lang/invoke/MethodHandle" ∧ yX4_firstOf.cls ≠ "java/lang/invoke/VarHandle" ∧ (parseMethodDescriptor yX4_firstOf.desc).map (fun d => d.parameters.length) = some 1 := ⟨by decide +kernel, by decide +kernel, by decide +kernel⟩
theorem hd_X4_step : yX4_step.cls ≠ "java/lang/invoke/MethodHandle" ∧ yX4_step.cls ≠ "java/lang/invoke/VarHandle" ∧ (parseMethodDescriptor yX4_step.desc).map (fun d => d.parameters.length) = some 2 := ⟨by decide +kernel, by decide +kernel, by decide +kernel⟩
theorem hd_X4_wouldGo : yX4_wouldGo.cls ≠ "java/lang/invoke/MethodHandle" ∧ yX4_wouldGo.cls ≠ "java/lang/invoke/VarHandle" ∧ (parseMethodDescriptor yX4_wouldGo.desc).map (fun d => d.parameters.length) = some 3 := ⟨by decide +kernel, by decide +kernel, by decide +kernel⟩
theorem hd_X4_rememberAct : yX4_rememberAct.cls ≠ "java/lang/invoke/MethodHandle" ∧ yX4_rememberAct.cls ≠ "java/lang/invoke/VarHandle" ∧ (parseMethodDescriptor yX4_rememberAct.desc).map (fun d => d.parameters.length) = some 0 := ⟨by decide +kernel, by decide +kernel, by decide +kernel⟩
theorem hd_X4_copyState : yX4_copyState.cls ≠ "java/lang/invoke/MethodHandle" ∧ yX4_copyState.cls ≠ "java/lang/invoke/VarHandle" ∧ (parseMethodDescriptor yX4_copyState.desc).map (fun d => d.parameters.length) = some 2 := ⟨by decide +kernel, by decide +kernel, by decide +kernel⟩
theorem hd_X4_go : yX4_go.cls ≠ "java/lang/invoke/MethodHandle" ∧ yX4_go.cls ≠ "java/lang/invoke/VarHandle" ∧ (parseMethodDescriptor yX4_go.desc).map (fun d => d.parameters.length) = some 3 := ⟨by decide +kernel, by decide +kernel, by decide +kernel⟩
theorem hd_J6_bitCount_0f7a4 : yJ6_bitCount_0f7a4.cls ≠ "java/lang/invoke/MethodHandle" ∧ yJ6_bitCount_0f7a4.cls ≠ "java/lang/invoke/VarHandle" ∧ (parseMethodDescriptor yJ6_bitCount_0f7a4.desc).map (fun d => d.parameters.length) = some 1 := ⟨by decide +kernel, by decide +kernel, by decide +kernel⟩
theorem hd_X4_pause : yX4_pause.cls ≠ "java/lang/invoke/MethodHandle" ∧ yX4_pause.cls ≠ "java/lang/invoke/VarHandle" ∧ (parseMethodDescriptor yX4_pause.desc).map (fun d => d.parameters.length) = some 0 := ⟨by decide +kernel, by decide +kernel, by decide +kernel⟩
theorem hd_X4_show : yX4_show.cls ≠ "java/lang/invoke/MethodHandle" ∧ yX4_show.cls ≠ "java/lang/invoke/VarHandle" ∧ (parseMethodDescriptor yX4_show.desc).map (fun d => d.parameters.length) = some 3 := ⟨by decide +kernel, by decide +kernel, by decide +kernel⟩
theorem hd_X4_sell : yX4_sell.cls ≠ "java/lang/invoke/MethodHandle" ∧ yX4_sell.cls ≠ "java/lang/invoke/VarHandle" ∧ (parseMethodDescriptor yX4_sell.desc).map (fun d => d.parameters.length) = some 1 := ⟨by decide +kernel, by decide +kernel, by decide +kernel⟩
theorem hd_X4_forget : yX4_forget.cls ≠ "java/lang/invoke/MethodHandle" ∧ yX4_forget.cls ≠ "java/lang/invoke/VarHandle" ∧ (parseMethodDescriptor yX4_forget.desc).map (fun d => d.parameters.length) = some 1 := ⟨by decide +kernel, by decide +kernel, by decide +kernel⟩
theorem hd_X4_undo : yX4_undo.cls ≠ "java/lang/invoke/MethodHandle" ∧ yX4_undo.cls ≠ "java/lang/invoke/VarHandle" ∧ (parseMethodDescriptor yX4_undo.desc).map (fun d => d.parameters.length) = some 0 := ⟨by decide +kernel, by decide +kernel, by decide +kernel⟩
theorem hd_X4_way : yX4_way.cls ≠ "java/lang/invoke/MethodHandle" ∧ yX4_way.cls ≠ "java/lang/invoke/VarHandle" ∧ (parseMethodDescriptor yX4_way.desc).map (fun d => d.parameters.length) = some 3 := ⟨by decide +kernel, by decide +kernel, by decide +kernel⟩
theorem hd_X4_spread : yX4_spread.cls ≠ "java/lang/invoke/MethodHandle" ∧ yX4_spread.cls ≠ "java/lang/invoke/VarHandle" ∧ (parseMethodDescriptor yX4_spread.desc).map (fun d => d.parameters.length) = some 4 := ⟨by decide +kernel, by decide +kernel, by decide +kernel⟩
theorem hd_X4_enclaves : yX4_enclaves.cls ≠ "java/lang/invoke/MethodHandle" ∧ yX4_enclaves.cls ≠ "java/lang/invoke/VarHandle" ∧ (parseMethodDescriptor yX4_enclaves.desc).map (fun d => d.parameters.length) = some 1 := ⟨by decide +kernel, by decide +kernel, by decide +kernel⟩
theorem hd_X4_teach : yX4_teach.cls ≠ "java/lang/invoke/MethodHandle" ∧ yX4_teach.cls ≠ "java/lang/invoke/VarHandle" ∧ (parseMethodDescriptor yX4_teach.desc).map (fun d => d.parameters.length) = some 1 := ⟨by decide +kernel, by decide +kernel, by decide +kernel⟩
theorem hd_X4_keepsAllIfShown : yX4_keepsAllIfShown.cls ≠ "java/lang/invoke/MethodHandle" ∧ yX4_keepsAllIfShown.cls ≠ "java/lang/invoke/VarHandle" ∧ (parseMethodDescriptor yX4_keepsAllIfShown.desc).map (fun d => d.parameters.length) = some 2 := ⟨by decide +kernel, by decide +kernel, by decide +kernel⟩
theorem hd_X4_differ : yX4_differ.cls ≠ "java/lang/invoke/MethodHandle" ∧ yX4_differ.cls ≠ "java/lang/invoke/VarHandle" ∧ (parseMethodDescriptor yX4_differ.desc).map (fun d => d.parameters.length) = some 2 := ⟨by decide +kernel, by decide +kernel, by decide +kernel⟩
theorem hd_X4_judge : yX4_judge.cls ≠ "java/lang/invoke/MethodHandle" ∧ yX4_judge.cls ≠ "java/lang/invoke/VarHandle" ∧ (parseMethodDescriptor yX4_judge.desc).map (fun d => d.parameters.length) = some 2 := ⟨by decide +kernel, by decide +kernel, by decide +kernel⟩
theorem hd_X4_doneWithoutFault : yX4_doneWithoutFault.cls ≠ "java/lang/invoke/MethodHandle" ∧ yX4_doneWithoutFault.cls ≠ "java/lang/invoke/VarHandle" ∧ (parseMethodDescriptor yX4_doneWithoutFault.desc).map (fun d => d.parameters.length) = some 3 := ⟨by decide +kernel, by decide +kernel, by decide +kernel⟩
theorem hd_X4_share : yX4_share.cls ≠ "java/lang/invoke/MethodHandle" ∧ yX4_share.cls ≠ "java/lang/invoke/VarHandle" ∧ (parseMethodDescriptor yX4_share.desc).map (fun d => d.parameters.length) = some 2 := ⟨by decide +kernel, by decide +kernel, by decide +kernel⟩
theorem hd_X4_sixtiethsOfStep : yX4_sixtiethsOfStep.cls ≠ "java/lang/invoke/MethodHandle" ∧ yX4_sixtiethsOfStep.cls ≠ "java/lang/invoke/VarHandle" ∧ (parseMethodDescriptor yX4_sixtiethsOfStep.desc).map (fun d => d.parameters.length) = some 2 := ⟨by decide +kernel, by decide +kernel, by decide +kernel⟩
theorem hd_X4_fractionPart : yX4_fractionPart.cls ≠ "java/lang/invoke/MethodHandle" ∧ yX4_fractionPart.cls ≠ "java/lang/invoke/VarHandle" ∧ (parseMethodDescriptor yX4_fractionPart.desc).map (fun d => d.parameters.length) = some 3 := ⟨by decide +kernel, by decide +kernel, by decide +kernel⟩
theorem hd_X4_see : yX4_see.cls ≠ "java/lang/invoke/MethodHandle" ∧ yX4_see.cls ≠ "java/lang/invoke/VarHandle" ∧ (parseMethodDescriptor yX4_see.desc).map (fun d => d.parameters.length) = some 5 := ⟨by decide +kernel, by decide +kernel, by decide +kernel⟩
theorem hd_X1_add : yX1_add.cls ≠ "java/lang/invoke/MethodHandle" ∧ yX1_add.cls ≠ "java/lang/invoke/VarHandle" ∧ (parseMethodDescriptor yX1_add.desc).map (fun d => d.parameters.length) = some 5 := ⟨by decide +kernel, by decide +kernel, by decide +kernel⟩
theorem hd_X4_unsee : yX4_unsee.cls ≠ "java/lang/invoke/MethodHandle" ∧ yX4_unsee.cls ≠ "java/lang/invoke/VarHandle" ∧ (parseMethodDescriptor yX4_unsee.desc).map (fun d => d.parameters.length) = some 0 := ⟨by decide +kernel, by decide +kernel, by decide +kernel⟩
theorem hd_X4_may : yX4_may.cls ≠ "java/lang/invoke/MethodHandle" ∧ yX4_may.cls ≠ "java/lang/invoke/VarHandle" ∧ (parseMethodDescriptor yX4_may.desc).map (fun d => d.parameters.length) = some 2 := ⟨by decide +kernel, by decide +kernel, by decide +kernel⟩
theorem hd_X1_agreeWith : yX1_agreeWith.cls ≠ "java/lang/invoke/MethodHandle" ∧ yX1_agreeWith.cls ≠ "java/lang/invoke/VarHandle" ∧ (parseMethodDescriptor yX1_agreeWith.desc).map (fun d => d.parameters.length) = some 3 := ⟨by decide +kernel, by decide +kernel, by decide +kernel⟩
theorem hd_X4_rests : yX4_rests.cls ≠ "java/lang/invoke/MethodHandle" ∧ yX4_rests.cls ≠ "java/lang/invoke/VarHandle" ∧ (parseMethodDescriptor yX4_rests.desc).map (fun d => d.parameters.length) = some 1 := ⟨by decide +kernel, by decide +kernel, by decide +kernel⟩
theorem hd_X4_worthOfString : yX4_worthOfString.cls ≠ "java/lang/invoke/MethodHandle" ∧ yX4_worthOfString.cls ≠ "java/lang/invoke/VarHandle" ∧ (parseMethodDescriptor yX4_worthOfString.desc).map (fun d => d.parameters.length) = some 0 := ⟨by decide +kernel, by decide +kernel, by decide +kernel⟩
theorem hd_X4_isContent : yX4_isContent.cls ≠ "java/lang/invoke/MethodHandle" ∧ yX4_isContent.cls ≠ "java/lang/invoke/VarHandle" ∧ (parseMethodDescriptor yX4_isContent.desc).map (fun d => d.parameters.length) = some 3 := ⟨by decide +kernel, by decide +kernel, by decide +kernel⟩
theorem hd_X4_gain : yX4_gain.cls ≠ "java/lang/invoke/MethodHandle" ∧ yX4_gain.cls ≠ "java/lang/invoke/VarHandle" ∧ (parseMethodDescriptor yX4_gain.desc).map (fun d => d.parameters.length) = some 3 := ⟨by decide +kernel, by decide +kernel, by decide +kernel⟩
theorem hd_X4_forgets : yX4_forgets.cls ≠ "java/lang/invoke/MethodHandle" ∧ yX4_forgets.cls ≠ "java/lang/invoke/VarHandle" ∧ (parseMethodDescriptor yX4_forgets.desc).map (fun d => d.parameters.length) = some 4 := ⟨by decide +kernel, by decide +kernel, by decide +kernel⟩
theorem hd_X4_tenthsToBalk : yX4_tenthsToBalk.cls ≠ "java/lang/invoke/MethodHandle" ∧ yX4_tenthsToBalk.cls ≠ "java/lang/invoke/VarHandle" ∧ (parseMethodDescriptor yX4_tenthsToBalk.desc).map (fun d => d.parameters.length) = some 3 := ⟨by decide +kernel, by decide +kernel, by decide +kernel⟩
theorem hd_X4_tallyMule : yX4_tallyMule.cls ≠ "java/lang/invoke/MethodHandle" ∧ yX4_tallyMule.cls ≠ "java/lang/invoke/VarHandle" ∧ (parseMethodDescriptor yX4_tallyMule.desc).map (fun d => d.parameters.length) = some 1 := ⟨by decide +kernel, by decide +kernel, by decide +kernel⟩
theorem hd_X4_seed : yX4_seed.cls ≠ "java/lang/invoke/MethodHandle" ∧ yX4_seed.cls ≠ "java/lang/invoke/VarHandle" ∧ (parseMethodDescriptor yX4_seed.desc).map (fun d => d.parameters.length) = some 1 := ⟨by decide +kernel, by decide +kernel, by decide +kernel⟩
theorem hd_X4_years : yX4_years.cls ≠ "java/lang/invoke/MethodHandle" ∧ yX4_years.cls ≠ "java/lang/invoke/VarHandle" ∧ (parseMethodDescriptor yX4_years.desc).map (fun d => d.parameters.length) = some 1 := ⟨by decide +kernel, by decide +kernel, by decide +kernel⟩
theorem hd_X4_liveThrough : yX4_liveThrough.cls ≠ "java/lang/invoke/MethodHandle" ∧ yX4_liveThrough.cls ≠ "java/lang/invoke/VarHandle" ∧ (parseMethodDescriptor yX4_liveThrough.desc).map (fun d => d.parameters.length) = some 3 := ⟨by decide +kernel, by decide +kernel, by decide +kernel⟩
theorem hd_X4_keep : yX4_keep.cls ≠ "java/lang/invoke/MethodHandle" ∧ yX4_keep.cls ≠ "java/lang/invoke/VarHandle" ∧ (parseMethodDescriptor yX4_keep.desc).map (fun d => d.parameters.length) = some 1 := ⟨by decide +kernel, by decide +kernel, by decide +kernel⟩
theorem hd_X4_isSlot : yX4_isSlot.cls ≠ "java/lang/invoke/MethodHandle" ∧ yX4_isSlot.cls ≠ "java/lang/invoke/VarHandle" ∧ (parseMethodDescriptor yX4_isSlot.desc).map (fun d => d.parameters.length) = some 1 := ⟨by decide +kernel, by decide +kernel, by decide +kernel⟩
theorem hd_X4_again : yX4_again.cls ≠ "java/lang/invoke/MethodHandle" ∧ yX4_again.cls ≠ "java/lang/invoke/VarHandle" ∧ (parseMethodDescriptor yX4_again.desc).map (fun d => d.parameters.length) = some 1 := ⟨by decide +kernel, by decide +kernel, by decide +kernel⟩
theorem hd_X5_init : yX5_init.cls ≠ "java/lang/invoke/MethodHandle" ∧ yX5_init.cls ≠ "java/lang/invoke/VarHandle" ∧ (parseMethodDescriptor yX5_init.desc).map (fun d => d.parameters.length) = some 0 := ⟨by decide +kernel, by decide +kernel, by decide +kernel⟩
theorem hd_X5_write : yX5_write.cls ≠ "java/lang/invoke/MethodHandle" ∧ yX5_write.cls ≠ "java/lang/invoke/VarHandle" ∧ (parseMethodDescriptor yX5_write.desc).map (fun d => d.parameters.length) = some 1 := ⟨by decide +kernel, by decide +kernel, by decide +kernel⟩
theorem hd_X5_in : yX5_in.cls ≠ "java/lang/invoke/MethodHandle" ∧ yX5_in.cls ≠ "java/lang/invoke/VarHandle" ∧ (parseMethodDescriptor yX5_in.desc).map (fun d => d.parameters.length) = some 3 := ⟨by decide +kernel, by decide +kernel, by decide +kernel⟩
theorem hd_X5_wipe : yX5_wipe.cls ≠ "java/lang/invoke/MethodHandle" ∧ yX5_wipe.cls ≠ "java/lang/invoke/VarHandle" ∧ (parseMethodDescriptor yX5_wipe.desc).map (fun d => d.parameters.length) = some 0 := ⟨by decide +kernel, by decide +kernel, by decide +kernel⟩
theorem hd_X5_fault : yX5_fault.cls ≠ "java/lang/invoke/MethodHandle" ∧ yX5_fault.cls ≠ "java/lang/invoke/VarHandle" ∧ (parseMethodDescriptor yX5_fault.desc).map (fun d => d.parameters.length) = some 0 := ⟨by decide +kernel, by decide +kernel, by decide +kernel⟩
theorem hd_X5_readTreaty : yX5_readTreaty.cls ≠ "java/lang/invoke/MethodHandle" ∧ yX5_readTreaty.cls ≠ "java/lang/invoke/VarHandle" ∧ (parseMethodDescriptor yX5_readTreaty.desc).map (fun d => d.parameters.length) = some 0 := ⟨by decide +kernel, by decide +kernel, by decide +kernel⟩
theorem hd_X5_readPart : yX5_readPart.cls ≠ "java/lang/invoke/MethodHandle" ∧ yX5_readPart.cls ≠ "java/lang/invoke/VarHandle" ∧ (parseMethodDescriptor yX5_readPart.desc).map (fun d => d.parameters.length) = some 0 := ⟨by decide +kernel, by decide +kernel, by decide +kernel⟩
theorem hd_X5_readOneArticle : yX5_readOneArticle.cls ≠ "java/lang/invoke/MethodHandle" ∧ yX5_readOneArticle.cls ≠ "java/lang/invoke/VarHandle" ∧ (parseMethodDescriptor yX5_readOneArticle.desc).map (fun d => d.parameters.length) = some 0 := ⟨by decide +kernel, by decide +kernel, by decide +kernel⟩
theorem hd_X5_figure : yX5_figure.cls ≠ "java/lang/invoke/MethodHandle" ∧ yX5_figure.cls ≠ "java/lang/invoke/VarHandle" ∧ (parseMethodDescriptor yX5_figure.desc).map (fun d => d.parameters.length) = some 1 := ⟨by decide +kernel, by decide +kernel, by decide +kernel⟩
theorem hd_X5_readOneMule : yX5_readOneMule.cls ≠ "java/lang/invoke/MethodHandle" ∧ yX5_readOneMule.cls ≠ "java/lang/invoke/VarHandle" ∧ (parseMethodDescriptor yX5_readOneMule.desc).map (fun d => d.parameters.length) = some 0 := ⟨by decide +kernel, by decide +kernel, by decide +kernel⟩
theorem hd_X5_treaty : yX5_treaty.cls ≠ "java/lang/invoke/MethodHandle" ∧ yX5_treaty.cls ≠ "java/lang/invoke/VarHandle" ∧ (parseMethodDescriptor yX5_treaty.desc).map (fun d => d.parameters.length) = some 0 := ⟨by decide +kernel, by decide +kernel, by decide +kernel⟩
theorem hd_X5_about : yX5_about.cls ≠ "java/lang/invoke/MethodHandle" ∧ yX5_about.cls ≠ "java/lang/invoke/VarHandle" ∧ (parseMethodDescriptor yX5_about.desc).map (fun d => d.parameters.length) = some 1 := ⟨by decide +kernel, by decide +kernel, by decide +kernel⟩
theorem hd_X5_article : yX5_article.cls ≠ "java/lang/invoke/MethodHandle" ∧ yX5_article.cls ≠ "java/lang/invoke/VarHandle" ∧ (parseMethodDescriptor yX5_article.desc).map (fun d => d.parameters.length) = some 2 := ⟨by decide +kernel, by decide +kernel, by decide +kernel⟩
theorem hd_X5_noArticle : yX5_noArticle.cls ≠ "java/lang/invoke/MethodHandle" ∧ yX5_noArticle.cls ≠ "java/lang/invoke/VarHandle" ∧ (parseMethodDescriptor yX5_noArticle.desc).map (fun d => d.parameters.length) = some 1 := ⟨by decide +kernel, by decide +kernel, by decide +kernel⟩
theorem hd_X5_knowers : yX5_knowers.cls ≠ "java/lang/invoke/MethodHandle" ∧ yX5_knowers.cls ≠ "java/lang/invoke/VarHandle" ∧ (parseMethodDescriptor yX5_knowers.desc).map (fun d => d.parameters.length) = some 1 := ⟨by decide +kernel, by decide +kernel, by decide +kernel⟩
theorem hd_X5_knows : yX5_knows.cls ≠ "java/lang/invoke/MethodHandle" ∧ yX5_knows.cls ≠ "java/lang/invoke/VarHandle" ∧ (parseMethodDescriptor yX5_knows.desc).map (fun d => d.parameters.length) = some 2 := ⟨by decide +kernel, by decide +kernel, by decide +kernel⟩
theorem hd_X5_has : yX5_has.cls ≠ "java/lang/invoke/MethodHandle" ∧ yX5_has.cls ≠ "java/lang/invoke/VarHandle" ∧ (parseMethodDescriptor yX5_has.desc).map (fun d => d.parameters.length) = some 2 := ⟨by decide +kernel, by decide +kernel, by decide +kernel⟩
theorem hd_X5_mule : yX5_mule.cls ≠ "java/lang/invoke/MethodHandle" ∧ yX5_mule.cls ≠ "java/lang/invoke/VarHandle" ∧ (parseMethodDescriptor yX5_mule.desc).map (fun d => d.parameters.length) = some 2 := ⟨by decide +kernel, by decide +kernel, by decide +kernel⟩
theorem hd_X5_noMule : yX5_noMule.cls ≠ "java/lang/invoke/MethodHandle" ∧ yX5_noMule.cls ≠ "java/lang/invoke/VarHandle" ∧ (parseMethodDescriptor yX5_noMule.desc).map (fun d => d.parameters.length) = some 1 := ⟨by decide +kernel, by decide +kernel, by decide +kernel⟩
theorem hd_X5_by : yX5_by.cls ≠ "java/lang/invoke/MethodHandle" ∧ yX5_by.cls ≠ "java/lang/invoke/VarHandle" ∧ (parseMethodDescriptor yX5_by.desc).map (fun d => d.parameters.length) = some 2 := ⟨by decide +kernel, by decide +kernel, by decide +kernel⟩
theorem hd_X5_noStep : yX5_noStep.cls ≠ "java/lang/invoke/MethodHandle" ∧ yX5_noStep.cls ≠ "java/lang/invoke/VarHandle" ∧ (parseMethodDescriptor yX5_noStep.desc).map (fun d => d.parameters.length) = some 2 := ⟨by decide +kernel, by decide +kernel, by decide +kernel⟩
theorem hd_X5_toStone : yX5_toStone.cls ≠ "java/lang/invoke/MethodHandle" ∧ yX5_toStone.cls ≠ "java/lang/invoke/VarHandle" ∧ (parseMethodDescriptor yX5_toStone.desc).map (fun d => d.parameters.length) = some 3 := ⟨by decide +kernel, by decide +kernel, by decide +kernel⟩
theorem hd_X5_forbids : yX5_forbids.cls ≠ "java/lang/invoke/MethodHandle" ∧ yX5_forbids.cls ≠ "java/lang/invoke/VarHandle" ∧ (parseMethodDescriptor yX5_forbids.desc).map (fun d => d.parameters.length) = some 3 := ⟨by decide +kernel, by decide +kernel, by decide +kernel⟩
theorem hd_X5_northern : yX5_northern.cls ≠ "java/lang/invoke/MethodHandle" ∧ yX5_northern.cls ≠ "java/lang/invoke/VarHandle" ∧ (parseMethodDescriptor yX5_northern.desc).map (fun d => d.parameters.length) = some 3 := ⟨by decide +kernel, by decide +kernel, by decide +kernel⟩
theorem hd_X5_isBarred : yX5_isBarred.cls ≠ "java/lang/invoke/MethodHandle" ∧ yX5_isBarred.cls ≠ "java/lang/invoke/VarHandle" ∧ (parseMethodDescriptor yX5_isBarred.desc).map (fun d => d.parameters.length) = some 6 := ⟨by decide +kernel, by decide +kernel, by decide +kernel⟩
theorem hd_X5_balks : yX5_balks.cls ≠ "java/lang/invoke/MethodHandle" ∧ yX5_balks.cls ≠ "java/lang/invoke/VarHandle" ∧ (parseMethodDescriptor yX5_balks.desc).map (fun d => d.parameters.length) = some 2 := ⟨by decide +kernel, by decide +kernel, by decide +kernel⟩
theorem hd_X5_leastOf : yX5_leastOf.cls ≠ "java/lang/invoke/MethodHandle" ∧ yX5_leastOf.cls ≠ "java/lang/invoke/VarHandle" ∧ (parseMethodDescriptor yX5_leastOf.desc).map (fun d => d.parameters.length) = some 1 := ⟨by decide +kernel, by decide +kernel, by decide +kernel⟩
theorem hd_X5_step : yX5_step.cls ≠ "java/lang/invoke/MethodHandle" ∧ yX5_step.cls ≠ "java/lang/invoke/VarHandle" ∧ (parseMethodDescriptor yX5_step.desc).map (fun d => d.parameters.length) = some 2 := ⟨by decide +kernel, by decide +kernel, by decide +kernel⟩
theorem hd_X5_isBalking : yX5_isBalking.cls ≠ "java/lang/invoke/MethodHandle" ∧ yX5_isBalking.cls ≠ "java/lang/invoke/VarHandle" ∧ (parseMethodDescriptor yX5_isBalking.desc).map (fun d => d.parameters.length) = some 3 := ⟨by decide +kernel, by decide +kernel, by decide +kernel⟩
theorem hd_X5_note : yX5_note.cls ≠ "java/lang/invoke/MethodHandle" ∧ yX5_note.cls ≠ "java/lang/invoke/VarHandle" ∧ (parseMethodDescriptor yX5_note.desc).map (fun d => d.parameters.length) = some 0 := ⟨by decide +kernel, by decide +kernel, by decide +kernel⟩
theorem hd_X5_go : yX5_go.cls ≠ "java/lang/invoke/MethodHandle" ∧ yX5_go.cls ≠ "java/lang/invoke/VarHandle" ∧ (parseMethodDescriptor yX5_go.desc).map (fun d => d.parameters.length) = some 3 := ⟨by decide +kernel, by decide +kernel, by decide +kernel⟩
theorem hd_X5_many : yX5_many.cls ≠ "java/lang/invoke/MethodHandle" ∧ yX5_many.cls ≠ "java/lang/invoke/VarHandle" ∧ (parseMethodDescriptor yX5_many.desc).map (fun d => d.parameters.length) = some 1 := ⟨by decide +kernel, by decide +kernel, by decide +kernel⟩
theorem hd_X5_pause : yX5_pause.cls ≠ "java/lang/invoke/MethodHandle" ∧ yX5_pause.cls ≠ "java/lang/invoke/VarHandle" ∧ (parseMethodDescriptor yX5_pause.desc).map (fun d => d.parameters.length) = some 0 := ⟨by decide +kernel, by decide +kernel, by decide +kernel⟩
theorem hd_X5_show : yX5_show.cls ≠ "java/lang/invoke/MethodHandle" ∧ yX5_show.cls ≠ "java/lang/invoke/VarHandle" ∧ (parseMethodDescriptor yX5_show.desc).map (fun d => d.parameters.length) = some 3 := ⟨by decide +kernel, by decide +kernel, by decide +kernel⟩
theorem hd_X5_sell : yX5_sell.cls ≠ "java/lang/invoke/MethodHandle" ∧ yX5_sell.cls ≠ "java/lang/invoke/VarHandle" ∧ (parseMethodDescriptor yX5_sell.desc).map (fun d => d.parameters.length) = some 1 := ⟨by decide +kernel, by decide +kernel, by decide +kernel⟩
theorem hd_X5_forget : yX5_forget.cls ≠ "java/lang/invoke/MethodHandle" ∧ yX5_forget.cls ≠ "java/lang/invoke/VarHandle" ∧ (parseMethodDescriptor yX5_forget.desc).map (fun d => d.parameters.length) = some 1 := ⟨by decide +kernel, by decide +kernel, by decide +kernel⟩
theorem hd_X5_undo : yX5_undo.cls ≠ "java/lang/invoke/MethodHandle" ∧ yX5_undo.cls ≠ "java/lang/invoke/VarHandle" ∧ (parseMethodDescriptor yX5_undo.desc).map (fun d => d.parameters.length) = some 0 := ⟨by decide +kernel, by decide +kernel, by decide +kernel⟩
theorem hd_X5_way : yX5_way.cls ≠ "java/lang/invoke/MethodHandle" ∧ yX5_way.cls ≠ "java/lang/invoke/VarHandle" ∧ (parseMethodDescriptor yX5_way.desc).map (fun d => d.parameters.length) = some 3 := ⟨by decide +kernel, by decide +kernel, by decide +kernel⟩
theorem hd_X5_layWays : yX5_layWays.cls ≠ "java/lang/invoke/MethodHandle" ∧ yX5_layWays.cls ≠ "java/lang/invoke/VarHandle" ∧ (parseMethodDescriptor yX5_layWays.desc).map (fun d => d.parameters.length) = some 2 := ⟨by decide +kernel, by decide +kernel, by decide +kernel⟩
theorem hd_X5_begin : yX5_begin.cls ≠ "java/lang/invoke/MethodHandle" ∧ yX5_begin.cls ≠ "java/lang/invoke/VarHandle" ∧ (parseMethodDescriptor yX5_begin.desc).map (fun d => d.parameters.length) = some 0 := ⟨by decide +kernel, by decide +kernel, by decide +kernel⟩
theorem hd_X5_enclaves : yX5_enclaves.cls ≠ "java/lang/invoke/MethodHandle" ∧ yX5_enclaves.cls ≠ "java/lang/invoke/VarHandle" ∧ (parseMethodDescriptor yX5_enclaves.desc).map (fun d => d.parameters.length) = some 1 := ⟨by decide +kernel, by decide +kernel, by decide +kernel⟩
theorem hd_X5_teach : yX5_teach.cls ≠ "java/lang/invoke/MethodHandle" ∧ yX5_teach.cls ≠ "java/lang/invoke/VarHandle" ∧ (parseMethodDescriptor yX5_teach.desc).map (fun d => d.parameters.length) = some 1 := ⟨by decide +kernel, by decide +kernel, by decide +kernel⟩
theorem hd_X5_holdsFast : yX5_holdsFast.cls ≠ "java/lang/invoke/MethodHandle" ∧ yX5_holdsFast.cls ≠ "java/lang/invoke/VarHandle" ∧ (parseMethodDescriptor yX5_holdsFast.desc).map (fun d => d.parameters.length) = some 1 := ⟨by decide +kernel, by decide +kernel, by decide +kernel⟩
theorem hd_X5_differ : yX5_differ.cls ≠ "java/lang/invoke/MethodHandle" ∧ yX5_differ.cls ≠ "java/lang/invoke/VarHandle" ∧ (parseMethodDescriptor yX5_differ.desc).map (fun d => d.parameters.length) = some 2 := ⟨by decide +kernel, by decide +kernel, by decide +kernel⟩
theorem hd_X5_judge : yX5_judge.cls ≠ "java/lang/invoke/MethodHandle" ∧ yX5_judge.cls ≠ "java/lang/invoke/VarHandle" ∧ (parseMethodDescriptor yX5_judge.desc).map (fun d => d.parameters.length) = some 2 := ⟨by decide +kernel, by decide +kernel, by decide +kernel⟩
theorem hd_X5_power : yX5_power.cls ≠ "java/lang/invoke/MethodHandle" ∧ yX5_power.cls ≠ "java/lang/invoke/VarHandle" ∧ (parseMethodDescriptor yX5_power.desc).map (fun d => d.parameters.length) = some 2 := ⟨by decide +kernel, by decide +kernel, by decide +kernel⟩
theorem hd_X5_does : yX5_does.cls ≠ "java/lang/invoke/MethodHandle" ∧ yX5_does.cls ≠ "java/lang/invoke/VarHandle" ∧ (parseMethodDescriptor yX5_does.desc).map (fun d => d.parameters.length) = some 1 := ⟨by decide +kernel, by decide +kernel, by decide +kernel⟩
theorem hd_X5_share : yX5_share.cls ≠ "java/lang/invoke/MethodHandle" ∧ yX5_share.cls ≠ "java/lang/invoke/VarHandle" ∧ (parseMethodDescriptor yX5_share.desc).map (fun d => d.parameters.length) = some 2 := ⟨by decide +kernel, by decide +kernel, by decide +kernel⟩
theorem hd_X5_barredBy : yX5_barredBy.cls ≠ "java/lang/invoke/MethodHandle" ∧ yX5_barredBy.cls ≠ "java/lang/invoke/VarHandle" ∧ (parseMethodDescriptor yX5_barredBy.desc).map (fun d => d.parameters.length) = some 1 := ⟨by decide +kernel, by decide +kernel, by decide +kernel⟩
theorem hd_X5_ways : yX5_ways.cls ≠ "java/lang/invoke/MethodHandle" ∧ yX5_ways.cls ≠ "java/lang/invoke/VarHandle" ∧ (parseMethodDescriptor yX5_ways.desc).map (fun d => d.parameters.length) = some 1 := ⟨by decide +kernel, by decide +kernel, by decide +kernel⟩
theorem hd_X5_fraction : yX5_fraction.cls ≠ "java/lang/invoke/MethodHandle" ∧ yX5_fraction.cls ≠ "java/lang/invoke/VarHandle" ∧ (parseMethodDescriptor yX5_fraction.desc).map (fun d => d.parameters.length) = some 3 := ⟨by decide +kernel, by decide +kernel, by decide +kernel⟩
theorem hd_X5_divisor : yX5_divisor.cls ≠ "java/lang/invoke/MethodHandle" ∧ yX5_divisor.cls ≠ "java/lang/invoke/VarHandle" ∧ (parseMethodDescriptor yX5_divisor.desc).map (fun d => d.parameters.length) = some 2 := ⟨by decide +kernel, by decide +kernel, by decide +kernel⟩
theorem hd_X5_see : yX5_see.cls ≠ "java/lang/invoke/MethodHandle" ∧ yX5_see.cls ≠ "java/lang/invoke/VarHandle" ∧ (parseMethodDescriptor yX5_see.desc).map (fun d => d.parameters.length) = some 5 := ⟨by decide +kernel, by decide +kernel, by decide +kernel⟩
theorem hd_X5_unsee : yX5_unsee.cls ≠ "java/lang/invoke/MethodHandle" ∧ yX5_unsee.cls ≠ "java/lang/invoke/VarHandle" ∧ (parseMethodDescriptor yX5_unsee.desc).map (fun d => d.parameters.length) = some 0 := ⟨by decide +kernel, by decide +kernel, by decide +kernel⟩
theorem hd_X5_may : yX5_may.cls ≠ "java/lang/invoke/MethodHandle" ∧ yX5_may.cls ≠ "java/lang/invoke/VarHandle" ∧ (parseMethodDescriptor yX5_may.desc).map (fun d => d.parameters.length) = some 2 := ⟨by decide +kernel, by decide +kernel, by decide +kernel⟩
theorem hd_X5_findMay : yX5_findMay.cls ≠ "java/lang/invoke/MethodHandle" ∧ yX5_findMay.cls ≠ "java/lang/invoke/VarHandle" ∧ (parseMethodDescriptor yX5_findMay.desc).map (fun d => d.parameters.length) = some 1 := ⟨by decide +kernel, by decide +kernel, by decide +kernel⟩
theorem hd_X5_rests : yX5_rests.cls ≠ "java/lang/invoke/MethodHandle" ∧ yX5_rests.cls ≠ "java/lang/invoke/VarHandle" ∧ (parseMethodDescriptor yX5_rests.desc).map (fun d => d.parameters.length) = some 1 := ⟨by decide +kernel, by decide +kernel, by decide +kernel⟩
theorem hd_X5_sent : yX5_sent.cls ≠ "java/lang/invoke/MethodHandle" ∧ yX5_sent.cls ≠ "java/lang/invoke/VarHandle" ∧ (parseMethodDescriptor yX5_sent.desc).map (fun d => d.parameters.length) = some 0 := ⟨by decide +kernel, by decide +kernel, by decide +kernel⟩
theorem hd_X5_gain : yX5_gain.cls ≠ "java/lang/invoke/MethodHandle" ∧ yX5_gain.cls ≠ "java/lang/invoke/VarHandle" ∧ (parseMethodDescriptor yX5_gain.desc).map (fun d => d.parameters.length) = some 3 := ⟨by decide +kernel, by decide +kernel, by decide +kernel⟩
theorem hd_X5_forgets : yX5_forgets.cls ≠ "java/lang/invoke/MethodHandle" ∧ yX5_forgets.cls ≠ "java/lang/invoke/VarHandle" ∧ (parseMethodDescriptor yX5_forgets.desc).map (fun d => d.parameters.length) = some 4 := ⟨by decide +kernel, by decide +kernel, by decide +kernel⟩
theorem hd_X5_balkers : yX5_balkers.cls ≠ "java/lang/invoke/MethodHandle" ∧ yX5_balkers.cls ≠ "java/lang/invoke/VarHandle" ∧ (parseMethodDescriptor yX5_balkers.desc).map (fun d => d.parameters.length) = some 2 := ⟨by decide +kernel, by decide +kernel, by decide +kernel⟩
theorem hd_X5_seed : yX5_seed.cls ≠ "java/lang/invoke/MethodHandle" ∧ yX5_seed.cls ≠ "java/lang/invoke/VarHandle" ∧ (parseMethodDescriptor yX5_seed.desc).map (fun d => d.parameters.length) = some 1 := ⟨by decide +kernel, by decide +kernel, by decide +kernel⟩
theorem hd_X5_years : yX5_years.cls ≠ "java/lang/invoke/MethodHandle" ∧ yX5_years.cls ≠ "java/lang/invoke/VarHandle" ∧ (parseMethodDescriptor yX5_years.desc).map (fun d => d.parameters.length) = some 1 := ⟨by decide +kernel, by decide +kernel, by decide +kernel⟩
theorem hd_X5_keep : yX5_keep.cls ≠ "java/lang/invoke/MethodHandle" ∧ yX5_keep.cls ≠ "java/lang/invoke/VarHandle" ∧ (parseMethodDescriptor yX5_keep.desc).map (fun d => d.parameters.length) = some 1 := ⟨by decide +kernel, by decide +kernel, by decide +kernel⟩
theorem hd_X5_again : yX5_again.cls ≠ "java/lang/invoke/MethodHandle" ∧ yX5_again.cls ≠ "java/lang/invoke/VarHandle" ∧ (parseMethodDescriptor yX5_again.desc).map (fun d => d.parameters.length) = some 1 := ⟨by decide +kernel, by decide +kernel, by decide +kernel⟩
end
