set_option maxHeartbeats 4000000 in
set_option maxRecDepth 100000 in
/-- from the entry, over the worlds -/
theorem law_all {p : Program} {l : Launch} {e : Env} {s : State} {m : MethodId} {below : List Frame} {meth : Method} {c : Code} {D : va_G} {b L : Nat} {xs : Nat → Int32} (C0 : CT p s m #[Value.ref b] meth c cL_law RL 4 (fun q => s.heap.size ≤ q)) (hAO : va_AO "MulesRemember$State" s) (hr : meth.sig.returnType = ret) (hX : va_X b L xs s s.heap) (hbl : b < s.heap.size) (hL : L ≤ 3072) : WW p l e room_1 s m #[Value.ref b] below meth c (lw_Z below #[Value.ref b] s) D (fun q => s.heap.size ≤ q) 4 [] 0 0 0 [.ref b, .null, .null, .null] [] [] := by
  refine ww_new C0 (ci := 4) (C := RX4) (T := TX4) (N := 14) ku_X4 tyX4 tyX4_ok kc_L_7 kt_X4 ki_X4 rfl (fs := [.null, .null, .null, .int 0, .null, .null, .null, .int 0, .int 0, .null, .null, .null, .null, .long 0]) (fun j hj => by
    rcases (show j = 0 ∨ j = 1 ∨ j = 2 ∨ j = 3 ∨ j = 4 ∨ j = 5 ∨ j = 6 ∨ j = 7 ∨ j = 8 ∨ j = 9 ∨ j = 10 ∨ j = 11 ∨ j = 12 ∨ j = 13 by omega) with rfl | rfl | rfl | rfl | rfl | rfl | rfl | rfl | rfl | rfl | rfl | rfl | rfl | rfl <;> rfl) (Nat.le_of_ble_eq_true rfl) (Nat.le_of_ble_eq_true rfl) dL_law_0 (fun aX => ?_)
  refine ww_perm (List.perm_append_singleton _ _) ?_
  refine ww_dup C0 dL_law_3 rfl ?_
  refine ww_callI C0 (c_X4_init l D) kd_X4_init kw_L_9 km_X4_init ki_X4 rfl hd_X4_init hAO ⟨Nat.le_of_ble_eq_true rfl, Nat.le_of_ble_eq_true rfl, rfl, rfl⟩ (Nat.le_of_ble_eq_true rfl) dL_law_4 rfl rfl ⟨Nat.le_of_ble_eq_true rfl, Nat.le_of_ble_eq_true rfl⟩ ?_
  rintro _ ⟨cI, cZ, cQ, aT, at0, aL, al0, al1, al2, aC, aN, an0, an1, an2, aY, ay0, ay1, ay2, aA, aO, aK, aG, ag0, ag1, ag2, ag3, ag4, aW, fA, fO, ad, hA, hO, rfl⟩
  dsimp only
  refine ww_astore_n (i := 1) C0 dL_law_7 rfl (Nat.le_of_ble_eq_true rfl) rfl ?_
  simp only [List.set_cons_zero, List.set_cons_succ]
  refine ww_new C0 (ci := 5) (C := RX5) (T := TX5) (N := 33) ku_X5 tyX5 tyX5_ok kc_L_10 kt_X5 ki_X5 rfl (fs := [.int 0, .null, .int 0, .int 0, .int 0, .null, .int 0, .null, .null, .null, .int 0, .null, .int 0, .null, .null, .null, .null, .int 0, .null, .null, .int 0, .null, .null, .null, .null, .null, .long 0, .null, .int 0, .int 0, .int 0, .int 0, .null]) (fun j hj => by
    rcases (show j = 0 ∨ j = 1 ∨ j = 2 ∨ j = 3 ∨ j = 4 ∨ j = 5 ∨ j = 6 ∨ j = 7 ∨ j = 8 ∨ j = 9 ∨ j = 10 ∨ j = 11 ∨ j = 12 ∨ j = 13 ∨ j = 14 ∨ j = 15 ∨ j = 16 ∨ j = 17 ∨ j = 18 ∨ j = 19 ∨ j = 20 ∨ j = 21 ∨ j = 22 ∨ j = 23 ∨ j = 24 ∨ j = 25 ∨ j = 26 ∨ j = 27 ∨ j = 28 ∨ j = 29 ∨ j = 30 ∨ j = 31 ∨ j = 32 by omega) with rfl | rfl | rfl | rfl | rfl | rfl | rfl | rfl | rfl | rfl | rfl | rfl | rfl | rfl | rfl | rfl | rfl | rfl | rfl | rfl | rfl | rfl | rfl | rfl | rfl | rfl | rfl | rfl | rfl | rfl | rfl | rfl | rfl <;> rfl) (Nat.le_of_ble_eq_true rfl) (Nat.le_of_ble_eq_true rfl) dL_law_8 (fun aM => ?_)
  refine ww_perm (List.perm_append_singleton _ _) ?_
  refine ww_dup C0 dL_law_11 rfl ?_
  refine ww_callI C0 (c_X5_init l D (cI := cI) (cZ := cZ) rfl rfl) kd_X5_init kw_L_12 km_X5_init ki_X5 rfl hd_X5_init hAO ⟨Nat.le_of_ble_eq_true rfl, Nat.le_of_ble_eq_true rfl, rfl, rfl⟩ (Nat.le_of_ble_eq_true rfl) dL_law_12 rfl rfl ⟨Nat.le_of_ble_eq_true rfl, Nat.le_of_ble_eq_true rfl⟩ ?_
  rintro _ ⟨amt, amc, amw, ams, amv, amr, amx, amp, amq, amb, amk, amz, am0, am1, am2, am3, am4, amh, amo, rfl⟩
  dsimp only
  refine ww_astore_n (i := 2) C0 dL_law_15 rfl (Nat.le_of_ble_eq_true rfl) rfl ?_
  simp only [List.set_cons_zero, List.set_cons_succ]
  refine ww_iconst (v := 0) C0 dL_law_16 rfl ?_
  refine ww_istore_n (i := 3) C0 dL_law_17 rfl (Nat.le_of_ble_eq_true rfl) rfl ?_
  simp only [List.set_cons_zero, List.set_cons_succ]
  refine ww_perm (MX_perm (cI, cZ, cQ, aX, aL, al0, al1, al2, aC, aN, an0, an1, an2, aY, ay0, ay1, ay2, aT, at0, aG, ag0, ag1, ag2, ag3, ag4, aW, aK, aO, aA, aM, amt, amc, amw, ams, amv, amp, amq, amr, amx, amb, amk, amz, am0, am1, am2, am3, am4, amh, amo, fA, fO, ad) (0, 0, 0, 0, 0, 0, 0, 0, 0, 0, 0, 0, 0, 0, 0, 0, 0, 0, 0, (fun _ => zSV), (fun _ => 0), (fun _ => 0), (fun _ => 0), (fun _ => 0), (fun _ => 0), (fun _ => 0), (fun _ => 0), (fun _ => 0), (fun _ => 0), (fun _ => 0), (fun _ => 0), (fun _ => 0), (fun _ => 0), (fun _ => 0), (fun _ => 0), (fun _ => 0), (fun _ => 0), (fun _ => 0), (fun _ => 0), (fun _ => 0), (fun _ => 0), (fun _ => 0), (fun _ => 0), (fun _ => 0), (fun _ => 0), (fun _ => 0), (fun _ => 0)) (0, 0, 0, 0, 0, 0, 0, 0, 0, 0, 0, 0, 0, 0, 0, 0, 0, 0, 0, (fun _ => zSV), (fun _ => 0), (fun _ => 0), (fun _ => 0), (fun _ => 0), (fun _ => 0), (fun _ => 0), (fun _ => 0), (fun _ => 0), (fun _ => 0), (fun _ => 0), (fun _ => 0), (fun _ => 0), (fun _ => 0), (fun _ => 0), (fun _ => 0), (fun _ => 0), (fun _ => 0), (fun _ => 0), (fun _ => 0), (fun _ => 0), (fun _ => 0), (fun _ => 0), (fun _ => 0), (fun _ => 0), (fun _ => 0), (fun _ => 0), (fun _ => 0)) []) ?_
  refine law_loop (A := (cI, cZ, cQ, aX, aL, al0, al1, al2, aC, aN, an0, an1, an2, aY, ay0, ay1, ay2, aT, at0, aG, ag0, ag1, ag2, ag3, ag4, aW, aK, aO, aA, aM, amt, amc, amw, ams, amv, amp, amq, amr, amx, amb, amk, amz, am0, am1, am2, am3, am4, amh, amo, fA, fO, ad)) (S := (0, 0, 0, 0, 0, 0, 0, 0, 0, 0, 0, 0, 0, 0, 0, 0, 0, 0, 0, (fun _ => zSV), (fun _ => 0), (fun _ => 0), (fun _ => 0), (fun _ => 0), (fun _ => 0), (fun _ => 0), (fun _ => 0), (fun _ => 0), (fun _ => 0), (fun _ => 0), (fun _ => 0), (fun _ => 0), (fun _ => 0), (fun _ => 0), (fun _ => 0), (fun _ => 0), (fun _ => 0), (fun _ => 0), (fun _ => 0), (fun _ => 0), (fun _ => 0), (fun _ => 0), (fun _ => 0), (fun _ => 0), (fun _ => 0), (fun _ => 0), (fun _ => 0))) C0 hr hX hbl hL ?_
  exact ⟨Nat.zero_le _, Nat.zero_le _, Nat.zero_le _, Nat.zero_le _, (show 0 < 14 by decide), Nat.zero_le _, hA, hO, fun a ha => absurd ha (Nat.not_lt_zero a), ⟨fun a ha => absurd ha (Nat.not_lt_zero a), rfl, rfl⟩, fun a ha => absurd ha (Nat.not_lt_zero a), fun a ha => absurd ha (Nat.not_lt_zero a), fun a ha => absurd ha (Nat.not_lt_zero a), fun a ha => absurd ha (Nat.not_lt_zero a), fun q _ => ⟨Iff.rfl, fun z => absurd rfl z⟩⟩
/-- YOUR PART: from the entry, for every script of at most 3072 ints, the law comes to its end with true -/
theorem whole_start {p : Program} {e : Env} {s : State} {m : MethodId} {below : List Frame} {meth : Method} {c : Code} (l : Launch) (hflags : l.flags = flags0) {b L : Nat} {xs : Nat → Int32} (hL : L ≤ 3072) (C0 : lw_At p s m meth c b L xs) : W p l e room_1 s m #[Value.ref b] below meth c s.heap [] 0 0 (lw_Z below #[Value.ref b] s) (entryFrame m ([Value.ref b] : List Value).toArray 4) := by
  obtain ⟨hx, hb, hr, hml, hown, hts, hX, hbl, hlocks, hgv⟩ := id C0
  have hrg : ∀ w ∈ rg_tbl, w.before #[Value.ref b] s = true := fun w hw => hts w (List.mem_filter.mp hw).1
  obtain ⟨c0, i0, hk0⟩ := u_known (C := RX0) (T := TX0) (N := 4) (n := 4) hrg ku_X0 (hrg _ kt_X0)
  obtain ⟨c1, i1, hk1⟩ := u_known (C := RX1) (T := TX1) (N := 6) (n := 6) hrg ku_X1 (hrg _ kt_X1)
  obtain ⟨c2, i2, hk2⟩ := u_known (C := RX2) (T := TX2) (N := 5) (n := 5) hrg ku_X2 (hrg _ kt_X2)
  obtain ⟨c3, i3, hk3⟩ := u_known (C := RX3) (T := TX3) (N := 2) (n := 2) hrg ku_X3 (hrg _ kt_X3)
  obtain ⟨c4, i4, hk4⟩ := u_known (C := RX4) (T := TX4) (N := 14) (n := 14) hrg ku_X4 (hrg _ kt_X4)
  obtain ⟨c5, i5, hk5⟩ := u_known (C := RX5) (T := TX5) (N := 33) (n := 33) hrg ku_X5 (hrg _ kt_X5)
  obtain ⟨D, hKc⟩ : ∃ D : va_G, ∀ (k : Nat) (q : vw_C), vwCl[k]? = some q → u_Kn s q.1 q.2.1 q.2.2 (D.1 k) (D.2 k) := by
    refine ⟨(fun k => match k with | 0 => c0 | 1 => c1 | 2 => c2 | 3 => c3 | 4 => c4 | _ => c5, fun k => match k with | 0 => i0 | 1 => i1 | 2 => i2 | 3 => i3 | 4 => i4 | _ => i5), ?_⟩
    intro k q hq
    match k, hq with
    | 0, hq => cases hq; exact hk0
    | 1, hq => cases hq; exact hk1
    | 2, hq => cases hq; exact hk2
    | 3, hq => cases hq; exact hk3
    | 4, hq => cases hq; exact hk4
    | 5, hq => cases hq; exact hk5
    | k + 6, hq => simp [vwCl] at hq
  have hAO : va_AO "MulesRemember$State" s := va_AO.of (hts (Cond.arrayOver (.object "MulesRemember$State")) (List.mem_of_getElem? (i := 136) (by decide +kernel)))
  have C1 : CT p s m #[Value.ref b] meth c cL_law RL 4 (fun q => s.heap.size ≤ q) := ⟨hx, hb, hml, hown, hrg, fun q hq => hq, hlocks, NK.of hts⟩
  have hl := wl_entry [Value.ref b] (n := 4) (lo := [.ref b, .null, .null, .null]) (Nat.le_of_ble_eq_true rfl) rfl
  have K := law_all (l := l) (e := e) (below := below) (D := D) C1 hAO hr hX hbl hL ⟨hKc, fun k q hk => by simp at hk⟩ s.heap [] _ (fun k q hk => by simp at hk) ⟨fun i j p q hk => by simp at hk, fun k q hk => by simp at hk⟩ va_S.rf hl
  rw [lg_entry_eq]
  exact K
