set_option maxHeartbeats 4000000 in
set_option maxRecDepth 100000 in
theorem law_sw {p : Program} {l : Launch} {e : Env} {s : State} {m : MethodId} {below : List Frame} {meth : Method} {c : Code} {Q : State → Prop} {D : va_G} {b L : Nat} {xs : Nat → Int32} {A : Ad} {S : St} {j : Nat} (C0 : CT p s m #[Value.ref b] meth c cL_law RL 4 (fun q => s.heap.size ≤ q)) (hX : va_X b L xs s s.heap) (hbl : b < s.heap.size) (hL : L ≤ 3072) (h : INV A S) (hj : 6 * j + 6 ≤ L) (ih : ∀ T : St, INV A T → WW p l e room_1 s m #[Value.ref b] below meth c Q D (fun q => s.heap.size ≤ q) 4 (TY3 A) 110 1019 1077 [.ref b, .ref A.aX, .ref A.aM, .int (nI (6 * j))] [] (XW A T (MW A T []))) : WW p l e room_1 s m #[Value.ref b] below meth c Q D (fun q => s.heap.size ≤ q) 4 (TY3 A) 110 1019 27 [.ref b, .ref A.aX, .ref A.aM, .int (nI (6 * j))] [] (XW A S (MW A S [])) := by
  obtain ⟨k, hk, ek⟩ := pk_andE (xs (6 * j)) (m := 31) 5 rfl
  refine ww_aload_n C0 dL_law_27 rfl ?_
  refine ww_iload_n C0 dL_law_28 rfl ?_
  refine ww_sld C0 hX hbl (Nat.not_le.mpr hbl) (j := 6 * j) rfl (by omega) hL dL_law_29 ?_
  refine ww_bipush (v := 31) C0 dL_law_30 rfl ?_
  refine ww_iand C0 dL_law_32 ?_
  refine ww_top ek ?_
  rcases (show k = 0 ∨ k = 1 ∨ k = 2 ∨ k = 3 ∨ k = 4 ∨ k = 5 ∨ k = 6 ∨ k = 7 ∨ k = 8 ∨ k = 9 ∨ k = 10 ∨ k = 11 ∨ k = 12 ∨ k = 13 ∨ k = 14 ∨ k = 15 ∨ k = 16 ∨ k = 17 ∨ k = 18 ∨ k = 19 ∨ k = 20 ∨ k = 21 ∨ k = 22 ∨ k = 23 ∨ k = 24 ∨ k = 25 ∨ k = 26 ∨ k = 27 ∨ k = 28 ∨ k = 29 ∨ k = 30 ∨ k = 31 by omega) with rfl | rfl | rfl | rfl | rfl | rfl | rfl | rfl | rfl | rfl | rfl | rfl | rfl | rfl | rfl | rfl | rfl | rfl | rfl | rfl | rfl | rfl | rfl | rfl | rfl | rfl | rfl | rfl | rfl | rfl | rfl | rfl
  · exact ww_tableIn (off := 135) (tgt := 168) C0 dL_law_33 (by decide) (by decide) (by rfl) (by decide) (law_0 C0 hX hbl hL h hj ih)
  · exact ww_tableIn (off := 158) (tgt := 191) C0 dL_law_33 (by decide) (by decide) (by rfl) (by decide) (law_1 C0 hX hbl hL h hj ih)
  · exact ww_tableIn (off := 171) (tgt := 204) C0 dL_law_33 (by decide) (by decide) (by rfl) (by decide) (law_2 C0 hX hbl hL h hj ih)
  · exact ww_tableIn (off := 184) (tgt := 217) C0 dL_law_33 (by decide) (by decide) (by rfl) (by decide) (law_3 C0 hX hbl hL h hj ih)
  · exact ww_tableIn (off := 197) (tgt := 230) C0 dL_law_33 (by decide) (by decide) (by rfl) (by decide) (law_4 C0 hX hbl hL h hj ih)
  · exact ww_tableIn (off := 220) (tgt := 253) C0 dL_law_33 (by decide) (by decide) (by rfl) (by decide) (law_5 C0 hX hbl hL h hj ih)
  · exact ww_tableIn (off := 253) (tgt := 286) C0 dL_law_33 (by decide) (by decide) (by rfl) (by decide) (law_6 C0 hX hbl hL h hj ih)
  · exact ww_tableIn (off := 286) (tgt := 319) C0 dL_law_33 (by decide) (by decide) (by rfl) (by decide) (law_7 C0 hX hbl hL h hj ih)
  · exact ww_tableIn (off := 319) (tgt := 352) C0 dL_law_33 (by decide) (by decide) (by rfl) (by decide) (law_8 C0 hX hbl hL h hj ih)
  · exact ww_tableIn (off := 352) (tgt := 385) C0 dL_law_33 (by decide) (by decide) (by rfl) (by decide) (law_9 C0 hX hbl hL h hj ih)
  · exact ww_tableIn (off := 385) (tgt := 418) C0 dL_law_33 (by decide) (by decide) (by rfl) (by decide) (law_10 C0 hX hbl hL h hj ih)
  · exact ww_tableIn (off := 398) (tgt := 431) C0 dL_law_33 (by decide) (by decide) (by rfl) (by decide) (law_11 C0 hX hbl hL h hj ih)
  · exact ww_tableIn (off := 441) (tgt := 474) C0 dL_law_33 (by decide) (by decide) (by rfl) (by decide) (law_12 C0 hX hbl hL h hj ih)
  · exact ww_tableIn (off := 464) (tgt := 497) C0 dL_law_33 (by decide) (by decide) (by rfl) (by decide) (law_13 C0 hX hbl hL h hj ih)
  · exact ww_tableIn (off := 487) (tgt := 520) C0 dL_law_33 (by decide) (by decide) (by rfl) (by decide) (law_14 C0 hX hbl hL h hj ih)
  · exact ww_tableIn (off := 500) (tgt := 533) C0 dL_law_33 (by decide) (by decide) (by rfl) (by decide) (law_15 C0 hX hbl hL h hj ih)
  · exact ww_tableIn (off := 559) (tgt := 592) C0 dL_law_33 (by decide) (by decide) (by rfl) (by decide) (law_16 C0 hX hbl hL h hj ih)
  · exact ww_tableIn (off := 582) (tgt := 615) C0 dL_law_33 (by decide) (by decide) (by rfl) (by decide) (law_17 C0 hX hbl hL h hj ih)
  · exact ww_tableIn (off := 605) (tgt := 638) C0 dL_law_33 (by decide) (by decide) (by rfl) (by decide) (law_18 C0 hX hbl hL h hj ih)
  · exact ww_tableIn (off := 638) (tgt := 671) C0 dL_law_33 (by decide) (by decide) (by rfl) (by decide) (law_19 C0 hX hbl hL h hj ih)
  · exact ww_tableIn (off := 671) (tgt := 704) C0 dL_law_33 (by decide) (by decide) (by rfl) (by decide) (law_20 C0 hX hbl hL h hj ih)
  · exact ww_tableIn (off := 720) (tgt := 753) C0 dL_law_33 (by decide) (by decide) (by rfl) (by decide) (law_21 C0 hX hbl hL h hj ih)
  · exact ww_tableIn (off := 783) (tgt := 816) C0 dL_law_33 (by decide) (by decide) (by rfl) (by decide) (law_22 C0 hX hbl hL h hj ih)
  · exact ww_tableIn (off := 796) (tgt := 829) C0 dL_law_33 (by decide) (by decide) (by rfl) (by decide) (law_23 C0 hX hbl hL h hj ih)
  · exact ww_tableIn (off := 829) (tgt := 862) C0 dL_law_33 (by decide) (by decide) (by rfl) (by decide) (law_24 C0 hX hbl hL h hj ih)
  · exact ww_tableIn (off := 852) (tgt := 885) C0 dL_law_33 (by decide) (by decide) (by rfl) (by decide) (law_25 C0 hX hbl hL h hj ih)
  · exact ww_tableIn (off := 921) (tgt := 954) C0 dL_law_33 (by decide) (by decide) (by rfl) (by decide) (law_26 C0 hX hbl hL h hj ih)
  · exact ww_tableIn (off := 975) (tgt := 1008) C0 dL_law_33 (by decide) (by decide) (by rfl) (by decide) (law_27 C0 hX hbl hL h hj ih)
  · exact ww_tableIn (off := 998) (tgt := 1031) C0 dL_law_33 (by decide) (by decide) (by rfl) (by decide) (law_28 C0 hX hbl hL h hj ih)
  · exact ww_tableIn (off := 1021) (tgt := 1054) C0 dL_law_33 (by decide) (by decide) (by rfl) (by decide) (law_29 C0 hX hbl hL h hj ih)
  · exact ww_tableOut (tgt := 1077) C0 dL_law_33 (Or.inr (by decide)) (by decide) (ih S h)
  · exact ww_tableOut (tgt := 1077) C0 dL_law_33 (Or.inr (by decide)) (by decide) (ih S h)
theorem len6 {L q : Nat} (hL : L ≤ 3072) (hq : q ≤ 3072) : Int32.ofNat L - 6 < nI q ↔ L < q + 6 := by
  have h1 : (Int32.ofNat L - 6).toInt = (L : Int) - 6 := by
    have e1 : (Int32.ofNat L).toInt = (L : Int) := nI_toInt (n := L) (by omega)
    have e6 : (6 : Int32).toInt = 6 := by decide
    rw [Int32.toInt_sub, e1, e6]
    exact Int.bmod_eq_of_le (by omega) (by omega)
  rw [Int32.lt_iff_toInt_lt, h1, nI_toInt (by omega)]
  omega
set_option maxHeartbeats 4000000 in
set_option maxRecDepth 100000 in
theorem law_loop {p : Program} {l : Launch} {e : Env} {s : State} {m : MethodId} {below : List Frame} {meth : Method} {c : Code} {D : va_G} {b L : Nat} {xs : Nat → Int32} {A : Ad} {S : St} (C0 : CT p s m #[Value.ref b] meth c cL_law RL 4 (fun q => s.heap.size ≤ q)) (hr : meth.sig.returnType = ret) (hX : va_X b L xs s s.heap) (hbl : b < s.heap.size) (hL : L ≤ 3072) (h : INV A S) : WW p l e room_1 s m #[Value.ref b] below meth c (lw_Z below #[Value.ref b] s) D (fun q => s.heap.size ≤ q) 4 (TY3 A) 110 1019 18 [.ref b, .ref A.aX, .ref A.aM, .int (nI (6 * 0))] [] (XW A S (MW A S [])) := by
  refine ww_loopI 0 (L / 6) (Nat.zero_le _) (fun _ T => INV A T) (fun j _ => [.ref b, .ref A.aX, .ref A.aM, .int (nI (6 * j))]) (fun _ T => XW A T (MW A T [])) S h ?_ ?_
  · intro j T _ hj hT ih
    have hj6 : 6 * j + 6 ≤ L := by omega
    refine ww_iload_n C0 dL_law_18 rfl ?_
    refine ww_aload_n C0 dL_law_19 rfl ?_
    refine ww_slen C0 hX hbl (Nat.not_le.mpr hbl) dL_law_20 ?_
    refine ww_bipush (v := 6) C0 dL_law_21 rfl ?_
    refine ww_isub C0 dL_law_23 ?_
    refine ww_icmp_gt (tgt := 1083) C0 dL_law_24 (by decide) (fun z => absurd ((len6 hL (by omega)).mp z) (by omega)) (fun _ => ?_)
    refine law_sw C0 hX hbl hL hT hj6 (fun U hU => ?_)
    refine ww_iinc (d := 6) C0 dL_law_1077 rfl rfl rfl ?_
    simp only [List.set_cons_zero, List.set_cons_succ]
    refine ww_goto (tgt := 18) C0 dL_law_1080 (by decide) ?_
    refine ww_back (ih U hU) ⟨Or.inr rfl, Or.inr rfl, Or.inr rfl, Or.inr (congrArg Value.int ?_), trivial⟩ rfl
    exact (nI_addE (a := 6 * j) (b := 6) rfl rfl).symm
  · intro T hT
    refine ww_iload_n C0 dL_law_18 rfl ?_
    refine ww_aload_n C0 dL_law_19 rfl ?_
    refine ww_slen C0 hX hbl (Nat.not_le.mpr hbl) dL_law_20 ?_
    refine ww_bipush (v := 6) C0 dL_law_21 rfl ?_
    refine ww_isub C0 dL_law_23 ?_
    refine ww_icmp_gt (tgt := 1083) C0 dL_law_24 (by decide) (fun _ => ?_) (fun z => absurd ((len6 hL (by omega)).mpr (by omega)) z)
    refine ww_iconst (v := 1) C0 dL_law_1083 rfl ?_
    exact ww_lawend C0 hr (Nat.le_of_ble_eq_true rfl) (Nat.le_of_ble_eq_true rfl) dL_law_1084
