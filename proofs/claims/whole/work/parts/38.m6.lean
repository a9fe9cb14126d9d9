set_option maxHeartbeats 4000000 in
set_option maxRecDepth 100000 in
theorem c_X5_ways (l : Launch) (D : va_G) (cI cZ cQ : ClassId) {rest : va_W} {nn : Nat} (hn : nn ≤ 5) : MI l D [(cI, .int), (cZ, .boolean), (cQ, .object "MulesRemember$State")] yX5_ways cX5_ways 3 .int ({ frames := 0, cells := 0, slots := 0, locals := 0 } : Room) [.int (nI nn)] (rest) (mWays nn) (rest) := by
  refine MI.of [.int (nI nn), .null, .null] (by decide) (Nat.le_of_ble_eq_true rfl) rfl ?_
  intro p e s m below meth c A C0 hr
  rcases (show nn = 0 ∨ nn = 1 ∨ nn = 2 ∨ nn = 3 ∨ nn = 4 ∨ nn = 5 by omega) with rfl | rfl | rfl | rfl | rfl | rfl
  · skip
    refine ww_iconst (v := (1)) C0 dX5_ways_0 rfl ?_
    refine ww_istore_n (i := 1) C0 dX5_ways_1 rfl (Nat.le_of_ble_eq_true rfl) rfl ?_
    simp only [List.set_cons_zero, List.set_cons_succ]
    refine ww_iconst (v := (2)) C0 dX5_ways_2 rfl ?_
    refine ww_istore_n (i := 2) C0 dX5_ways_3 rfl (Nat.le_of_ble_eq_true rfl) rfl ?_
    simp only [List.set_cons_zero, List.set_cons_succ]
    refine ww_cong (lo' := [_, _, .int 2]) ?_ (by rfl) rfl rfl
    refine ww_cong (lo' := [_, .int 1, _]) ?_ (by rfl) rfl rfl
    refine ww_iload_n C0 dX5_ways_4 rfl ?_
    refine ww_iload_n C0 dX5_ways_5 rfl ?_
    refine ww_icmp_gt (tgt := 19) C0 dX5_ways_6 (by decide) (fun h6 => ?_) (fun h6 => ?_)
    · skip
      replace h6 := (nI_ltE (a := 0) (b := 2) rfl rfl (by omega) (by omega)).mp h6
      refine ww_iload_n C0 dX5_ways_19 rfl ?_
      exact ww_iret C0 hr dX5_ways_20 (by rfl) (by rfl)
    · skip
      replace h6 := (not_congr (nI_ltE (a := 0) (b := 2) rfl rfl (by omega) (by omega))).mp h6
      exfalso; omega
  · skip
    refine ww_iconst (v := (1)) C0 dX5_ways_0 rfl ?_
    refine ww_istore_n (i := 1) C0 dX5_ways_1 rfl (Nat.le_of_ble_eq_true rfl) rfl ?_
    simp only [List.set_cons_zero, List.set_cons_succ]
    refine ww_iconst (v := (2)) C0 dX5_ways_2 rfl ?_
    refine ww_istore_n (i := 2) C0 dX5_ways_3 rfl (Nat.le_of_ble_eq_true rfl) rfl ?_
    simp only [List.set_cons_zero, List.set_cons_succ]
    refine ww_cong (lo' := [_, _, .int 2]) ?_ (by rfl) rfl rfl
    refine ww_cong (lo' := [_, .int 1, _]) ?_ (by rfl) rfl rfl
    refine ww_iload_n C0 dX5_ways_4 rfl ?_
    refine ww_iload_n C0 dX5_ways_5 rfl ?_
    refine ww_icmp_gt (tgt := 19) C0 dX5_ways_6 (by decide) (fun h6 => ?_) (fun h6 => ?_)
    · skip
      replace h6 := (nI_ltE (a := 1) (b := 2) rfl rfl (by omega) (by omega)).mp h6
      refine ww_iload_n C0 dX5_ways_19 rfl ?_
      exact ww_iret C0 hr dX5_ways_20 (by rfl) (by rfl)
    · skip
      replace h6 := (not_congr (nI_ltE (a := 1) (b := 2) rfl rfl (by omega) (by omega))).mp h6
      exfalso; omega
  · skip
    refine ww_iconst (v := (1)) C0 dX5_ways_0 rfl ?_
    refine ww_istore_n (i := 1) C0 dX5_ways_1 rfl (Nat.le_of_ble_eq_true rfl) rfl ?_
    simp only [List.set_cons_zero, List.set_cons_succ]
    refine ww_iconst (v := (2)) C0 dX5_ways_2 rfl ?_
    refine ww_istore_n (i := 2) C0 dX5_ways_3 rfl (Nat.le_of_ble_eq_true rfl) rfl ?_
    simp only [List.set_cons_zero, List.set_cons_succ]
    refine ww_cong (lo' := [_, _, .int 2]) ?_ (by rfl) rfl rfl
    refine ww_cong (lo' := [_, .int 1, _]) ?_ (by rfl) rfl rfl
    refine ww_iload_n C0 dX5_ways_4 rfl ?_
    refine ww_iload_n C0 dX5_ways_5 rfl ?_
    refine ww_icmp_gt (tgt := 19) C0 dX5_ways_6 (by decide) (fun h6 => ?_) (fun h6 => ?_)
    · skip
      replace h6 := (nI_ltE (a := 2) (b := 2) rfl rfl (by omega) (by omega)).mp h6
      exfalso; omega
    · skip
      replace h6 := (not_congr (nI_ltE (a := 2) (b := 2) rfl rfl (by omega) (by omega))).mp h6
      refine ww_iload_n C0 dX5_ways_9 rfl ?_
      refine ww_iload_n C0 dX5_ways_10 rfl ?_
      refine ww_imul C0 dX5_ways_11 ?_
      refine ww_istore_n (i := 1) C0 dX5_ways_12 rfl (Nat.le_of_ble_eq_true rfl) rfl ?_
      simp only [List.set_cons_zero, List.set_cons_succ]
      refine ww_iinc (d := 1) C0 dX5_ways_13 rfl rfl rfl ?_
      simp only [List.set_cons_zero, List.set_cons_succ]
      refine ww_goto (tgt := 4) C0 dX5_ways_16 (by decide) ?_
      refine ww_cong (lo' := [_, _, .int 3]) ?_ (by rfl) rfl rfl
      refine ww_cong (lo' := [_, .int 2, _]) ?_ (by rfl) rfl rfl
      refine ww_iload_n C0 dX5_ways_4 rfl ?_
      refine ww_iload_n C0 dX5_ways_5 rfl ?_
      refine ww_icmp_gt (tgt := 19) C0 dX5_ways_6 (by decide) (fun h6 => ?_) (fun h6 => ?_)
      · skip
        replace h6 := (nI_ltE (a := 2) (b := 3) rfl rfl (by omega) (by omega)).mp h6
        refine ww_iload_n C0 dX5_ways_19 rfl ?_
        exact ww_iret C0 hr dX5_ways_20 (by rfl) (by rfl)
      · skip
        replace h6 := (not_congr (nI_ltE (a := 2) (b := 3) rfl rfl (by omega) (by omega))).mp h6
        exfalso; omega
  · skip
    refine ww_iconst (v := (1)) C0 dX5_ways_0 rfl ?_
    refine ww_istore_n (i := 1) C0 dX5_ways_1 rfl (Nat.le_of_ble_eq_true rfl) rfl ?_
    simp only [List.set_cons_zero, List.set_cons_succ]
    refine ww_iconst (v := (2)) C0 dX5_ways_2 rfl ?_
    refine ww_istore_n (i := 2) C0 dX5_ways_3 rfl (Nat.le_of_ble_eq_true rfl) rfl ?_
    simp only [List.set_cons_zero, List.set_cons_succ]
    refine ww_cong (lo' := [_, _, .int 2]) ?_ (by rfl) rfl rfl
    refine ww_cong (lo' := [_, .int 1, _]) ?_ (by rfl) rfl rfl
    refine ww_iload_n C0 dX5_ways_4 rfl ?_
    refine ww_iload_n C0 dX5_ways_5 rfl ?_
    refine ww_icmp_gt (tgt := 19) C0 dX5_ways_6 (by decide) (fun h6 => ?_) (fun h6 => ?_)
    · skip
      replace h6 := (nI_ltE (a := 3) (b := 2) rfl rfl (by omega) (by omega)).mp h6
      exfalso; omega
    · skip
      replace h6 := (not_congr (nI_ltE (a := 3) (b := 2) rfl rfl (by omega) (by omega))).mp h6
      refine ww_iload_n C0 dX5_ways_9 rfl ?_
      refine ww_iload_n C0 dX5_ways_10 rfl ?_
      refine ww_imul C0 dX5_ways_11 ?_
      refine ww_istore_n (i := 1) C0 dX5_ways_12 rfl (Nat.le_of_ble_eq_true rfl) rfl ?_
      simp only [List.set_cons_zero, List.set_cons_succ]
      refine ww_iinc (d := 1) C0 dX5_ways_13 rfl rfl rfl ?_
      simp only [List.set_cons_zero, List.set_cons_succ]
      refine ww_goto (tgt := 4) C0 dX5_ways_16 (by decide) ?_
      refine ww_cong (lo' := [_, _, .int 3]) ?_ (by rfl) rfl rfl
      refine ww_cong (lo' := [_, .int 2, _]) ?_ (by rfl) rfl rfl
      refine ww_iload_n C0 dX5_ways_4 rfl ?_
      refine ww_iload_n C0 dX5_ways_5 rfl ?_
      refine ww_icmp_gt (tgt := 19) C0 dX5_ways_6 (by decide) (fun h6 => ?_) (fun h6 => ?_)
      · skip
        replace h6 := (nI_ltE (a := 3) (b := 3) rfl rfl (by omega) (by omega)).mp h6
        exfalso; omega
      · skip
        replace h6 := (not_congr (nI_ltE (a := 3) (b := 3) rfl rfl (by omega) (by omega))).mp h6
        refine ww_iload_n C0 dX5_ways_9 rfl ?_
        refine ww_iload_n C0 dX5_ways_10 rfl ?_
        refine ww_imul C0 dX5_ways_11 ?_
        refine ww_istore_n (i := 1) C0 dX5_ways_12 rfl (Nat.le_of_ble_eq_true rfl) rfl ?_
        simp only [List.set_cons_zero, List.set_cons_succ]
        refine ww_iinc (d := 1) C0 dX5_ways_13 rfl rfl rfl ?_
        simp only [List.set_cons_zero, List.set_cons_succ]
        refine ww_goto (tgt := 4) C0 dX5_ways_16 (by decide) ?_
        refine ww_cong (lo' := [_, _, .int 4]) ?_ (by rfl) rfl rfl
        refine ww_cong (lo' := [_, .int 6, _]) ?_ (by rfl) rfl rfl
        refine ww_iload_n C0 dX5_ways_4 rfl ?_
        refine ww_iload_n C0 dX5_ways_5 rfl ?_
        refine ww_icmp_gt (tgt := 19) C0 dX5_ways_6 (by decide) (fun h6 => ?_) (fun h6 => ?_)
        · skip
          replace h6 := (nI_ltE (a := 3) (b := 4) rfl rfl (by omega) (by omega)).mp h6
          refine ww_iload_n C0 dX5_ways_19 rfl ?_
          exact ww_iret C0 hr dX5_ways_20 (by rfl) (by rfl)
        · skip
          replace h6 := (not_congr (nI_ltE (a := 3) (b := 4) rfl rfl (by omega) (by omega))).mp h6
          exfalso; omega
  · skip
    refine ww_iconst (v := (1)) C0 dX5_ways_0 rfl ?_
    refine ww_istore_n (i := 1) C0 dX5_ways_1 rfl (Nat.le_of_ble_eq_true rfl) rfl ?_
    simp only [List.set_cons_zero, List.set_cons_succ]
    refine ww_iconst (v := (2)) C0 dX5_ways_2 rfl ?_
    refine ww_istore_n (i := 2) C0 dX5_ways_3 rfl (Nat.le_of_ble_eq_true rfl) rfl ?_
    simp only [List.set_cons_zero, List.set_cons_succ]
    refine ww_cong (lo' := [_, _, .int 2]) ?_ (by rfl) rfl rfl
    refine ww_cong (lo' := [_, .int 1, _]) ?_ (by rfl) rfl rfl
    refine ww_iload_n C0 dX5_ways_4 rfl ?_
    refine ww_iload_n C0 dX5_ways_5 rfl ?_
    refine ww_icmp_gt (tgt := 19) C0 dX5_ways_6 (by decide) (fun h6 => ?_) (fun h6 => ?_)
    · skip
      replace h6 := (nI_ltE (a := 4) (b := 2) rfl rfl (by omega) (by omega)).mp h6
      exfalso; omega
    · skip
      replace h6 := (not_congr (nI_ltE (a := 4) (b := 2) rfl rfl (by omega) (by omega))).mp h6
      refine ww_iload_n C0 dX5_ways_9 rfl ?_
      refine ww_iload_n C0 dX5_ways_10 rfl ?_
      refine ww_imul C0 dX5_ways_11 ?_
      refine ww_istore_n (i := 1) C0 dX5_ways_12 rfl (Nat.le_of_ble_eq_true rfl) rfl ?_
      simp only [List.set_cons_zero, List.set_cons_succ]
      refine ww_iinc (d := 1) C0 dX5_ways_13 rfl rfl rfl ?_
      simp only [List.set_cons_zero, List.set_cons_succ]
      refine ww_goto (tgt := 4) C0 dX5_ways_16 (by decide) ?_
      refine ww_cong (lo' := [_, _, .int 3]) ?_ (by rfl) rfl rfl
      refine ww_cong (lo' := [_, .int 2, _]) ?_ (by rfl) rfl rfl
      refine ww_iload_n C0 dX5_ways_4 rfl ?_
      refine ww_iload_n C0 dX5_ways_5 rfl ?_
      refine ww_icmp_gt (tgt := 19) C0 dX5_ways_6 (by decide) (fun h6 => ?_) (fun h6 => ?_)
      · skip
        replace h6 := (nI_ltE (a := 4) (b := 3) rfl rfl (by omega) (by omega)).mp h6
        exfalso; omega
      · skip
        replace h6 := (not_congr (nI_ltE (a := 4) (b := 3) rfl rfl (by omega) (by omega))).mp h6
        refine ww_iload_n C0 dX5_ways_9 rfl ?_
        refine ww_iload_n C0 dX5_ways_10 rfl ?_
        refine ww_imul C0 dX5_ways_11 ?_
        refine ww_istore_n (i := 1) C0 dX5_ways_12 rfl (Nat.le_of_ble_eq_true rfl) rfl ?_
        simp only [List.set_cons_zero, List.set_cons_succ]
        refine ww_iinc (d := 1) C0 dX5_ways_13 rfl rfl rfl ?_
        simp only [List.set_cons_zero, List.set_cons_succ]
        refine ww_goto (tgt := 4) C0 dX5_ways_16 (by decide) ?_
        refine ww_cong (lo' := [_, _, .int 4]) ?_ (by rfl) rfl rfl
        refine ww_cong (lo' := [_, .int 6, _]) ?_ (by rfl) rfl rfl
        refine ww_iload_n C0 dX5_ways_4 rfl ?_
        refine ww_iload_n C0 dX5_ways_5 rfl ?_
        refine ww_icmp_gt (tgt := 19) C0 dX5_ways_6 (by decide) (fun h6 => ?_) (fun h6 => ?_)
        · skip
          replace h6 := (nI_ltE (a := 4) (b := 4) rfl rfl (by omega) (by omega)).mp h6
          exfalso; omega
        · skip
          replace h6 := (not_congr (nI_ltE (a := 4) (b := 4) rfl rfl (by omega) (by omega))).mp h6
          refine ww_iload_n C0 dX5_ways_9 rfl ?_
          refine ww_iload_n C0 dX5_ways_10 rfl ?_
          refine ww_imul C0 dX5_ways_11 ?_
          refine ww_istore_n (i := 1) C0 dX5_ways_12 rfl (Nat.le_of_ble_eq_true rfl) rfl ?_
          simp only [List.set_cons_zero, List.set_cons_succ]
          refine ww_iinc (d := 1) C0 dX5_ways_13 rfl rfl rfl ?_
          simp only [List.set_cons_zero, List.set_cons_succ]
          refine ww_goto (tgt := 4) C0 dX5_ways_16 (by decide) ?_
          refine ww_cong (lo' := [_, _, .int 5]) ?_ (by rfl) rfl rfl
          refine ww_cong (lo' := [_, .int 24, _]) ?_ (by rfl) rfl rfl
          refine ww_iload_n C0 dX5_ways_4 rfl ?_
          refine ww_iload_n C0 dX5_ways_5 rfl ?_
          refine ww_icmp_gt (tgt := 19) C0 dX5_ways_6 (by decide) (fun h6 => ?_) (fun h6 => ?_)
          · skip
            replace h6 := (nI_ltE (a := 4) (b := 5) rfl rfl (by omega) (by omega)).mp h6
            refine ww_iload_n C0 dX5_ways_19 rfl ?_
            exact ww_iret C0 hr dX5_ways_20 (by rfl) (by rfl)
          · skip
            replace h6 := (not_congr (nI_ltE (a := 4) (b := 5) rfl rfl (by omega) (by omega))).mp h6
            exfalso; omega
  · skip
    refine ww_iconst (v := (1)) C0 dX5_ways_0 rfl ?_
    refine ww_istore_n (i := 1) C0 dX5_ways_1 rfl (Nat.le_of_ble_eq_true rfl) rfl ?_
    simp only [List.set_cons_zero, List.set_cons_succ]
    refine ww_iconst (v := (2)) C0 dX5_ways_2 rfl ?_
    refine ww_istore_n (i := 2) C0 dX5_ways_3 rfl (Nat.le_of_ble_eq_true rfl) rfl ?_
    simp only [List.set_cons_zero, List.set_cons_succ]
    refine ww_cong (lo' := [_, _, .int 2]) ?_ (by rfl) rfl rfl
    refine ww_cong (lo' := [_, .int 1, _]) ?_ (by rfl) rfl rfl
    refine ww_iload_n C0 dX5_ways_4 rfl ?_
    refine ww_iload_n C0 dX5_ways_5 rfl ?_
    refine ww_icmp_gt (tgt := 19) C0 dX5_ways_6 (by decide) (fun h6 => ?_) (fun h6 => ?_)
    · skip
      replace h6 := (nI_ltE (a := 5) (b := 2) rfl rfl (by omega) (by omega)).mp h6
      exfalso; omega
    · skip
      replace h6 := (not_congr (nI_ltE (a := 5) (b := 2) rfl rfl (by omega) (by omega))).mp h6
      refine ww_iload_n C0 dX5_ways_9 rfl ?_
      refine ww_iload_n C0 dX5_ways_10 rfl ?_
      refine ww_imul C0 dX5_ways_11 ?_
      refine ww_istore_n (i := 1) C0 dX5_ways_12 rfl (Nat.le_of_ble_eq_true rfl) rfl ?_
      simp only [List.set_cons_zero, List.set_cons_succ]
      refine ww_iinc (d := 1) C0 dX5_ways_13 rfl rfl rfl ?_
      simp only [List.set_cons_zero, List.set_cons_succ]
      refine ww_goto (tgt := 4) C0 dX5_ways_16 (by decide) ?_
      refine ww_cong (lo' := [_, _, .int 3]) ?_ (by rfl) rfl rfl
      refine ww_cong (lo' := [_, .int 2, _]) ?_ (by rfl) rfl rfl
      refine ww_iload_n C0 dX5_ways_4 rfl ?_
      refine ww_iload_n C0 dX5_ways_5 rfl ?_
      refine ww_icmp_gt (tgt := 19) C0 dX5_ways_6 (by decide) (fun h6 => ?_) (fun h6 => ?_)
      · skip
        replace h6 := (nI_ltE (a := 5) (b := 3) rfl rfl (by omega) (by omega)).mp h6
        exfalso; omega
      · skip
        replace h6 := (not_congr (nI_ltE (a := 5) (b := 3) rfl rfl (by omega) (by omega))).mp h6
        refine ww_iload_n C0 dX5_ways_9 rfl ?_
        refine ww_iload_n C0 dX5_ways_10 rfl ?_
        refine ww_imul C0 dX5_ways_11 ?_
        refine ww_istore_n (i := 1) C0 dX5_ways_12 rfl (Nat.le_of_ble_eq_true rfl) rfl ?_
        simp only [List.set_cons_zero, List.set_cons_succ]
        refine ww_iinc (d := 1) C0 dX5_ways_13 rfl rfl rfl ?_
        simp only [List.set_cons_zero, List.set_cons_succ]
        refine ww_goto (tgt := 4) C0 dX5_ways_16 (by decide) ?_
        refine ww_cong (lo' := [_, _, .int 4]) ?_ (by rfl) rfl rfl
        refine ww_cong (lo' := [_, .int 6, _]) ?_ (by rfl) rfl rfl
        refine ww_iload_n C0 dX5_ways_4 rfl ?_
        refine ww_iload_n C0 dX5_ways_5 rfl ?_
        refine ww_icmp_gt (tgt := 19) C0 dX5_ways_6 (by decide) (fun h6 => ?_) (fun h6 => ?_)
        · skip
          replace h6 := (nI_ltE (a := 5) (b := 4) rfl rfl (by omega) (by omega)).mp h6
          exfalso; omega
        · skip
          replace h6 := (not_congr (nI_ltE (a := 5) (b := 4) rfl rfl (by omega) (by omega))).mp h6
          refine ww_iload_n C0 dX5_ways_9 rfl ?_
          refine ww_iload_n C0 dX5_ways_10 rfl ?_
          refine ww_imul C0 dX5_ways_11 ?_
          refine ww_istore_n (i := 1) C0 dX5_ways_12 rfl (Nat.le_of_ble_eq_true rfl) rfl ?_
          simp only [List.set_cons_zero, List.set_cons_succ]
          refine ww_iinc (d := 1) C0 dX5_ways_13 rfl rfl rfl ?_
          simp only [List.set_cons_zero, List.set_cons_succ]
          refine ww_goto (tgt := 4) C0 dX5_ways_16 (by decide) ?_
          refine ww_cong (lo' := [_, _, .int 5]) ?_ (by rfl) rfl rfl
          refine ww_cong (lo' := [_, .int 24, _]) ?_ (by rfl) rfl rfl
          refine ww_iload_n C0 dX5_ways_4 rfl ?_
          refine ww_iload_n C0 dX5_ways_5 rfl ?_
          refine ww_icmp_gt (tgt := 19) C0 dX5_ways_6 (by decide) (fun h6 => ?_) (fun h6 => ?_)
          · skip
            replace h6 := (nI_ltE (a := 5) (b := 5) rfl rfl (by omega) (by omega)).mp h6
            exfalso; omega
          · skip
            replace h6 := (not_congr (nI_ltE (a := 5) (b := 5) rfl rfl (by omega) (by omega))).mp h6
            refine ww_iload_n C0 dX5_ways_9 rfl ?_
            refine ww_iload_n C0 dX5_ways_10 rfl ?_
            refine ww_imul C0 dX5_ways_11 ?_
            refine ww_istore_n (i := 1) C0 dX5_ways_12 rfl (Nat.le_of_ble_eq_true rfl) rfl ?_
            simp only [List.set_cons_zero, List.set_cons_succ]
            refine ww_iinc (d := 1) C0 dX5_ways_13 rfl rfl rfl ?_
            simp only [List.set_cons_zero, List.set_cons_succ]
            refine ww_goto (tgt := 4) C0 dX5_ways_16 (by decide) ?_
            refine ww_cong (lo' := [_, _, .int 6]) ?_ (by rfl) rfl rfl
            refine ww_cong (lo' := [_, .int 120, _]) ?_ (by rfl) rfl rfl
            refine ww_iload_n C0 dX5_ways_4 rfl ?_
            refine ww_iload_n C0 dX5_ways_5 rfl ?_
            refine ww_icmp_gt (tgt := 19) C0 dX5_ways_6 (by decide) (fun h6 => ?_) (fun h6 => ?_)
            · skip
              replace h6 := (nI_ltE (a := 5) (b := 6) rfl rfl (by omega) (by omega)).mp h6
              refine ww_iload_n C0 dX5_ways_19 rfl ?_
              exact ww_iret C0 hr dX5_ways_20 (by rfl) (by rfl)
            · skip
              replace h6 := (not_congr (nI_ltE (a := 5) (b := 6) rfl rfl (by omega) (by omega))).mp h6
              exfalso; omega

set_option maxHeartbeats 4000000 in
set_option maxRecDepth 100000 in
theorem c_X5_divisor (l : Launch) (D : va_G) (cI cZ cQ : ClassId) {rest : va_W} {a b : Nat} (ha : a < 2 ^ 31) (hb : b < 2 ^ 31) : MI l D [(cI, .int), (cZ, .boolean), (cQ, .object "MulesRemember$State")] yX5_divisor cX5_divisor 5 .int ({ frames := 0, cells := 0, slots := 0, locals := 0 } : Room) [.int (nI a), .int (nI b)] (rest) (nI (Nat.gcd b a)) (rest) := by
  refine MI.of [.int (nI a), .int (nI b), .null, .null, .null] (by decide) (Nat.le_of_ble_eq_true rfl) rfl ?_
  intro p e s m below meth c A C0 hr
  refine ww_iload_n C0 dX5_divisor_0 rfl ?_
  refine ww_if_ge (tgt := 9) C0 dX5_divisor_1 (by decide) (fun h1 => ?_) (fun h1 => ?_)
  · skip
    replace h1 := (nI_leE (a := 0) (b := a) rfl rfl (by omega) (by omega)).mp h1
    refine ww_iload_n C0 dX5_divisor_9 rfl ?_
    refine ww_istore_n (i := 2) C0 dX5_divisor_10 rfl (Nat.le_of_ble_eq_true rfl) rfl ?_
    simp only [List.set_cons_zero, List.set_cons_succ]
    refine ww_iload_n C0 dX5_divisor_11 rfl ?_
    refine ww_istore_n (i := 3) C0 dX5_divisor_12 rfl (Nat.le_of_ble_eq_true rfl) rfl ?_
    simp only [List.set_cons_zero, List.set_cons_succ]
    refine ww_back (ww_loopM (σ := Nat × Nat) (pc := 13) (fun x => x.1 < 2 ^ 31 ∧ x.2 < 2 ^ 31 ∧ Nat.gcd x.2 x.1 = Nat.gcd b a) (fun x => x.2) (fun x => [_, _, .int (nI x.1), .int (nI x.2), .null]) (fun _ => _) (a, b) ⟨ha, hb, rfl⟩ ?_) ⟨Or.inr rfl, Or.inr rfl, Or.inr rfl, Or.inr rfl, Or.inl rfl, trivial⟩ rfl
    rintro ⟨d, q⟩ ⟨hd1, hq1, hg⟩ ih
    simp only at hd1 hq1 hg ⊢
    refine ww_iload_n C0 dX5_divisor_13 rfl ?_
    refine ww_if_eq (tgt := 30) C0 dX5_divisor_14 (by decide) (fun h14 => ?_) (fun h14 => ?_)
    · skip
      replace h14 := (nI_eqE (a := q) (b := 0) rfl rfl (by omega) (by omega)).mp h14
      subst h14
      rw [Nat.gcd_zero_left] at hg
      subst hg
      refine ww_iload_n C0 dX5_divisor_30 rfl ?_
      exact ww_iret C0 hr dX5_divisor_31 (by rfl) (by rfl)
    · skip
      replace h14 := (not_congr (nI_eqE (a := q) (b := 0) rfl rfl (by omega) (by omega))).mp h14
      refine ww_iload_n C0 dX5_divisor_17 rfl ?_
      refine ww_iload_n C0 dX5_divisor_18 rfl ?_
      refine ww_irem C0 dX5_divisor_19 (nI_ne0 (by omega) (by omega)) ?_
      refine ww_istore (i := 4) C0 dX5_divisor_20 (Nat.le_of_ble_eq_true rfl) rfl ?_
      simp only [List.set_cons_zero, List.set_cons_succ]
      refine ww_iload_n C0 dX5_divisor_22 rfl ?_
      refine ww_istore_n (i := 2) C0 dX5_divisor_23 rfl (Nat.le_of_ble_eq_true rfl) rfl ?_
      simp only [List.set_cons_zero, List.set_cons_succ]
      refine ww_iload C0 dX5_divisor_24 rfl ?_
      refine ww_istore_n (i := 3) C0 dX5_divisor_26 rfl (Nat.le_of_ble_eq_true rfl) rfl ?_
      simp only [List.set_cons_zero, List.set_cons_succ]
      refine ww_goto (tgt := 13) C0 dX5_divisor_27 (by decide) ?_
      exact ww_back (ih (q, d % q) ⟨hq1, Nat.lt_trans (Nat.mod_lt _ (by omega)) hq1, by rw [← hg]; exact (Nat.gcd_rec q d).symm⟩ (Nat.mod_lt _ (by omega))) ⟨Or.inr rfl, Or.inr rfl, Or.inr rfl, Or.inr (congrArg Value.int (nI_remE rfl rfl (by omega) (by omega) (by omega)).symm), Or.inl rfl, trivial⟩ rfl
  · skip
    replace h1 := (not_congr (nI_leE (a := 0) (b := a) rfl rfl (by omega) (by omega))).mp h1
    exfalso; omega

set_option maxHeartbeats 4000000 in
set_option maxRecDepth 100000 in
theorem c_X5_fraction (l : Launch) (D : va_G) (cI cZ cQ : ClassId) {rest : va_W} {a b : Nat} {u : Bool} (ha : a < 2 ^ 31) (hb : b < 2 ^ 31) (h0 : 0 < b) : MI l D [(cI, .int), (cZ, .boolean), (cQ, .object "MulesRemember$State")] yX5_fraction cX5_fraction 4 .int ({ frames := 1, cells := 0, slots := 0, locals := 24 } : Room) [.int (nI a), .int (nI b), .int (bI u)] (rest) (sFrac a b u) (rest) := by
  refine MI.of [.int (nI a), .int (nI b), .int (bI u), .null] (by decide) (Nat.le_of_ble_eq_true rfl) rfl ?_
  intro p e s m below meth c A C0 hr
  have hd0 : 0 < Nat.gcd b a := Nat.gcd_pos_of_pos_left a h0
  have hd1 : Nat.gcd b a < 2 ^ 31 := Nat.lt_of_le_of_lt (Nat.gcd_le_left a h0) hb
  refine ww_iload_n C0 dX5_fraction_0 rfl ?_
  refine ww_iload_n C0 dX5_fraction_1 rfl ?_
  refine ww_callSi C0 (c_X5_divisor l D cI cZ cQ ha hb) kd_X5_divisor kw_X5_195 ks_X5_divisor ki_X5 hd_X5_divisor ⟨Nat.le_of_ble_eq_true rfl, Nat.le_of_ble_eq_true rfl, rfl, rfl⟩ (Nat.le_of_ble_eq_true rfl) dX5_fraction_2 rfl rfl ⟨Nat.zero_le _, Nat.zero_le _⟩ ?_
  refine ww_istore_n (i := 3) C0 dX5_fraction_5 rfl (Nat.le_of_ble_eq_true rfl) rfl ?_
  simp only [List.set_cons_zero, List.set_cons_succ]
  refine ww_iload_n C0 dX5_fraction_6 rfl ?_
  refine ww_bif_eq (tgt := 16) C0 dX5_fraction_7 (by decide) (fun h7 => ?_) (fun h7 => ?_)
  · skip
    refine ww_iload_n C0 dX5_fraction_16 rfl ?_
    refine ww_iload_n C0 dX5_fraction_17 rfl ?_
    refine ww_idiv C0 dX5_fraction_18 (nI_ne0 hd0 hd1) ?_
    exact ww_iret C0 hr dX5_fraction_19 (by (simp only [sFrac, *, if_true, Bool.false_eq_true, if_false]; first | exact pk_div ha hd0 hd1 | exact pk_div hb hd0 hd1)) (by rfl)
  · skip
    refine ww_iload_n C0 dX5_fraction_10 rfl ?_
    refine ww_iload_n C0 dX5_fraction_11 rfl ?_
    refine ww_idiv C0 dX5_fraction_12 (nI_ne0 hd0 hd1) ?_
    refine ww_goto (tgt := 19) C0 dX5_fraction_13 (by decide) ?_
    exact ww_iret C0 hr dX5_fraction_19 (by (simp only [sFrac, *, if_true, Bool.false_eq_true, if_false]; first | exact pk_div ha hd0 hd1 | exact pk_div hb hd0 hd1)) (by rfl)

set_option maxHeartbeats 4000000 in
set_option maxRecDepth 100000 in
theorem c_X5_see_b (l : Launch) (D : va_G) (cI cZ cQ : ClassId) {aM amt amc amw ams amv amr amx amp amq amb amk amz am0 am1 am2 am3 am4 amh amo : Nat} {tn nm na ac gn : Nat} {th vpl vrm vra x0 x1 x2 x3 : Int32} {sd : Int64} {rest : va_W} {y0 y1 y2 y3 y4 : Int32} (hs : isN 10 y0 = false) : MI l D [(cI, .int), (cZ, .boolean), (cQ, .object "MulesRemember$State")] yX5_see cX5_see 6 .int ({ frames := 1, cells := 0, slots := 0, locals := 25 } : Room) [.ref aM, .int y0, .int y1, .int y2, .int y3, .int y4] ((aM, .inr (5, [.int th, .ref amt, .int (nI tn), .int vpl, .int (nI nm), .ref amc, .int (nI na), .ref amw, .ref ams, .ref amv, .int vrm, .ref amr, .int vra, .ref amx, .ref amp, .ref amq, .ref amb, .int (nI ac), .ref amk, .ref amz, .int (nI gn), .ref am0, .ref am1, .ref am2, .ref am3, .ref am4, .long sd, .ref amh, .int x0, .int x1, .int x2, .int x3, .ref amo])) :: rest) (-1) ((aM, .inr (5, [.int 0, .ref amt, .int (nI tn), .int vpl, .int (nI nm), .ref amc, .int (nI na), .ref amw, .ref ams, .ref amv, .int vrm, .ref amr, .int vra, .ref amx, .ref amp, .ref amq, .ref amb, .int (nI ac), .ref amk, .ref amz, .int (nI gn), .ref am0, .ref am1, .ref am2, .ref am3, .ref am4, .long sd, .ref amh, .int x0, .int x1, .int x2, .int x3, .ref amo])) :: rest) := by
  refine MI.of [.ref aM, .int y0, .int y1, .int y2, .int y3, .int y4] (by decide) (Nat.le_of_ble_eq_true rfl) rfl ?_
  intro p e s m below meth c A C0 hr
  refine ww_aload_n C0 dX5_see_0 rfl ?_
  refine ww_iconst (v := (0)) C0 dX5_see_1 rfl ?_
  refine ww_put C0 (ci := 5) (C := RX5) (T := TX5) (N := 33) ku_X5 0 rfl rfl 0 (by decide) tyX5 tyX5_ok nmX5 kw_X5_68 rfl (ty := .int) (by decide +kernel) rfl rfl (Nat.le_of_ble_eq_true rfl) dX5_see_2 ?_
  simp only [List.set_cons_zero, List.set_cons_succ]
  refine ww_iload_n C0 dX5_see_5 rfl ?_
  refine ww_i2l C0 dX5_see_6 ?_
  refine ww_lconst (v := 0) C0 dX5_see_7 rfl ?_
  refine ww_ldc2 C0 kw_X5_117 dX5_see_8 ?_
  refine ww_callSi C0 (c_X5_in0 l D cI cZ cQ 10 (by decide) (by decide)) kd_X5_in kw_X5_75 ks_X5_in ki_X5 hd_X5_in ⟨Nat.le_of_ble_eq_true rfl, Nat.le_of_ble_eq_true rfl, rfl, rfl⟩ (Nat.le_of_ble_eq_true rfl) dX5_see_11 rfl rfl ⟨Nat.zero_le _, Nat.zero_le _⟩ ?_
  refine ww_bif_ne (tgt := 19) C0 dX5_see_14 (by decide) (fun h14 => ?_) (fun h14 => ?_)
  · skip
    exact absurd hs (by rw [h14]; decide)
  · skip
    refine ww_iconst (v := (-1)) C0 dX5_see_17 rfl ?_
    exact ww_iret C0 hr dX5_see_18 (by rfl) (by rfl)

set_option maxHeartbeats 4000000 in
set_option maxRecDepth 100000 in
theorem c_X5_see_b2 (l : Launch) (D : va_G) (cI cZ cQ : ClassId) {aM amt amc amw ams amv amr amx amp amq amb amk amz am0 am1 am2 am3 am4 amh amo : Nat} {tn nm na ac gn : Nat} {th vpl vrm vra x0 x1 x2 x3 : Int32} {sd : Int64} {rest : va_W} {y0 y1 y2 y3 y4 : Int32} (hs : isN 10 y0 = true) (hb : (isN 4 y1 && isN 10 y2 && isN 2 y3 && isN 2 y4) = false) : MI l D [(cI, .int), (cZ, .boolean), (cQ, .object "MulesRemember$State")] yX5_see cX5_see 6 .int ({ frames := 1, cells := 0, slots := 0, locals := 25 } : Room) [.ref aM, .int y0, .int y1, .int y2, .int y3, .int y4] ((aM, .inr (5, [.int th, .ref amt, .int (nI tn), .int vpl, .int (nI nm), .ref amc, .int (nI na), .ref amw, .ref ams, .ref amv, .int vrm, .ref amr, .int vra, .ref amx, .ref amp, .ref amq, .ref amb, .int (nI ac), .ref amk, .ref amz, .int (nI gn), .ref am0, .ref am1, .ref am2, .ref am3, .ref am4, .long sd, .ref amh, .int x0, .int x1, .int x2, .int x3, .ref amo])) :: rest) (-2) ((aM, .inr (5, [.int 0, .ref amt, .int (nI tn), .int vpl, .int (nI nm), .ref amc, .int (nI na), .ref amw, .ref ams, .ref amv, .int vrm, .ref amr, .int vra, .ref amx, .ref amp, .ref amq, .ref amb, .int (nI ac), .ref amk, .ref amz, .int (nI gn), .ref am0, .ref am1, .ref am2, .ref am3, .ref am4, .long sd, .ref amh, .int x0, .int x1, .int x2, .int x3, .ref amo])) :: rest) := by
  refine MI.of [.ref aM, .int y0, .int y1, .int y2, .int y3, .int y4] (by decide) (Nat.le_of_ble_eq_true rfl) rfl ?_
  intro p e s m below meth c A C0 hr
  refine ww_aload_n C0 dX5_see_0 rfl ?_
  refine ww_iconst (v := (0)) C0 dX5_see_1 rfl ?_
  refine ww_put C0 (ci := 5) (C := RX5) (T := TX5) (N := 33) ku_X5 0 rfl rfl 0 (by decide) tyX5 tyX5_ok nmX5 kw_X5_68 rfl (ty := .int) (by decide +kernel) rfl rfl (Nat.le_of_ble_eq_true rfl) dX5_see_2 ?_
  simp only [List.set_cons_zero, List.set_cons_succ]
  refine ww_iload_n C0 dX5_see_5 rfl ?_
  refine ww_i2l C0 dX5_see_6 ?_
  refine ww_lconst (v := 0) C0 dX5_see_7 rfl ?_
  refine ww_ldc2 C0 kw_X5_117 dX5_see_8 ?_
  refine ww_callSi C0 (c_X5_in0 l D cI cZ cQ 10 (by decide) (by decide)) kd_X5_in kw_X5_75 ks_X5_in ki_X5 hd_X5_in ⟨Nat.le_of_ble_eq_true rfl, Nat.le_of_ble_eq_true rfl, rfl, rfl⟩ (Nat.le_of_ble_eq_true rfl) dX5_see_11 rfl rfl ⟨Nat.zero_le _, Nat.zero_le _⟩ ?_
  refine ww_bif_ne (tgt := 19) C0 dX5_see_14 (by decide) (fun h14 => ?_) (fun h14 => ?_)
  · skip
    refine ww_iload_n C0 dX5_see_19 rfl ?_
    refine ww_i2l C0 dX5_see_20 ?_
    refine ww_lconst (v := 0) C0 dX5_see_21 rfl ?_
    refine ww_ldc2 C0 kw_X5_208 dX5_see_22 ?_
    refine ww_callSi C0 (c_X5_in0 l D cI cZ cQ 4 (by decide) (by decide)) kd_X5_in kw_X5_75 ks_X5_in ki_X5 hd_X5_in ⟨Nat.le_of_ble_eq_true rfl, Nat.le_of_ble_eq_true rfl, rfl, rfl⟩ (Nat.le_of_ble_eq_true rfl) dX5_see_25 rfl rfl ⟨Nat.zero_le _, Nat.zero_le _⟩ ?_
    refine ww_bif_eq (tgt := 65) C0 dX5_see_28 (by decide) (fun h28 => ?_) (fun h28 => ?_)
    · skip
      refine ww_bipush (v := (-2)) C0 dX5_see_65 rfl ?_
      exact ww_iret C0 hr dX5_see_67 (by rfl) (by rfl)
    · skip
      refine ww_iload_n C0 dX5_see_31 rfl ?_
      refine ww_i2l C0 dX5_see_32 ?_
      refine ww_lconst (v := 0) C0 dX5_see_33 rfl ?_
      refine ww_ldc2 C0 kw_X5_117 dX5_see_34 ?_
      refine ww_callSi C0 (c_X5_in0 l D cI cZ cQ 10 (by decide) (by decide)) kd_X5_in kw_X5_75 ks_X5_in ki_X5 hd_X5_in ⟨Nat.le_of_ble_eq_true rfl, Nat.le_of_ble_eq_true rfl, rfl, rfl⟩ (Nat.le_of_ble_eq_true rfl) dX5_see_37 rfl rfl ⟨Nat.zero_le _, Nat.zero_le _⟩ ?_
      refine ww_bif_eq (tgt := 65) C0 dX5_see_40 (by decide) (fun h40 => ?_) (fun h40 => ?_)
      · skip
        refine ww_bipush (v := (-2)) C0 dX5_see_65 rfl ?_
        exact ww_iret C0 hr dX5_see_67 (by rfl) (by rfl)
      · skip
        refine ww_iload C0 dX5_see_43 rfl ?_
        refine ww_i2l C0 dX5_see_45 ?_
        refine ww_lconst (v := 0) C0 dX5_see_46 rfl ?_
        refine ww_lconst (v := 1) C0 dX5_see_47 rfl ?_
        refine ww_callSi C0 (c_X5_in0 l D cI cZ cQ 2 (by decide) (by decide)) kd_X5_in kw_X5_75 ks_X5_in ki_X5 hd_X5_in ⟨Nat.le_of_ble_eq_true rfl, Nat.le_of_ble_eq_true rfl, rfl, rfl⟩ (Nat.le_of_ble_eq_true rfl) dX5_see_48 rfl rfl ⟨Nat.zero_le _, Nat.zero_le _⟩ ?_
        refine ww_bif_eq (tgt := 65) C0 dX5_see_51 (by decide) (fun h51 => ?_) (fun h51 => ?_)
        · skip
          refine ww_bipush (v := (-2)) C0 dX5_see_65 rfl ?_
          exact ww_iret C0 hr dX5_see_67 (by rfl) (by rfl)
        · skip
          refine ww_iload C0 dX5_see_54 rfl ?_
          refine ww_i2l C0 dX5_see_56 ?_
          refine ww_lconst (v := 0) C0 dX5_see_57 rfl ?_
          refine ww_lconst (v := 1) C0 dX5_see_58 rfl ?_
          refine ww_callSi C0 (c_X5_in0 l D cI cZ cQ 2 (by decide) (by decide)) kd_X5_in kw_X5_75 ks_X5_in ki_X5 hd_X5_in ⟨Nat.le_of_ble_eq_true rfl, Nat.le_of_ble_eq_true rfl, rfl, rfl⟩ (Nat.le_of_ble_eq_true rfl) dX5_see_59 rfl rfl ⟨Nat.zero_le _, Nat.zero_le _⟩ ?_
          refine ww_bif_ne (tgt := 68) C0 dX5_see_62 (by decide) (fun h62 => ?_) (fun h62 => ?_)
          · skip
            exact absurd hb (by rw [h28, h40, h51, h62]; decide)
          · skip
            refine ww_bipush (v := (-2)) C0 dX5_see_65 rfl ?_
            exact ww_iret C0 hr dX5_see_67 (by rfl) (by rfl)
  · skip
    exact absurd hs (by rw [h14]; decide)

set_option maxHeartbeats 4000000 in
set_option maxRecDepth 100000 in
theorem c_X5_see_f (l : Launch) (D : va_G) (cI cZ cQ : ClassId) {aM amt amc amw ams amv amr amx amp amq amb amk amz am0 am1 am2 am3 am4 amh amo : Nat} {tn nm na ac gn : Nat} {th vpl vrm vra x0 x1 x2 x3 : Int32} {sd : Int64} {rest : va_W} {y0 y1 y2 y3 y4 : Int32} (hs : isN 10 y0 = true) (h1s : isN 4 y1 = true) (h2s : isN 10 y2 = true) (h3s : isN 2 y3 = true) (h4s : isN 2 y4 = true) (hg : gn = 6) : MI l D [(cI, .int), (cZ, .boolean), (cQ, .object "MulesRemember$State")] yX5_see cX5_see 6 .int ({ frames := 1, cells := 0, slots := 0, locals := 25 } : Room) [.ref aM, .int y0, .int y1, .int y2, .int y3, .int y4] ((aM, .inr (5, [.int th, .ref amt, .int (nI tn), .int vpl, .int (nI nm), .ref amc, .int (nI na), .ref amw, .ref ams, .ref amv, .int vrm, .ref amr, .int vra, .ref amx, .ref amp, .ref amq, .ref amb, .int (nI ac), .ref amk, .ref amz, .int (nI gn), .ref am0, .ref am1, .ref am2, .ref am3, .ref am4, .long sd, .ref amh, .int x0, .int x1, .int x2, .int x3, .ref amo])) :: rest) (-4) ((aM, .inr (5, [.int 0, .ref amt, .int (nI tn), .int vpl, .int (nI nm), .ref amc, .int (nI na), .ref amw, .ref ams, .ref amv, .int vrm, .ref amr, .int vra, .ref amx, .ref amp, .ref amq, .ref amb, .int (nI ac), .ref amk, .ref amz, .int (nI gn), .ref am0, .ref am1, .ref am2, .ref am3, .ref am4, .long sd, .ref amh, .int x0, .int x1, .int x2, .int x3, .ref amo])) :: rest) := by
  refine MI.of [.ref aM, .int y0, .int y1, .int y2, .int y3, .int y4] (by decide) (Nat.le_of_ble_eq_true rfl) rfl ?_
  intro p e s m below meth c A C0 hr
  refine ww_aload_n C0 dX5_see_0 rfl ?_
  refine ww_iconst (v := (0)) C0 dX5_see_1 rfl ?_
  refine ww_put C0 (ci := 5) (C := RX5) (T := TX5) (N := 33) ku_X5 0 rfl rfl 0 (by decide) tyX5 tyX5_ok nmX5 kw_X5_68 rfl (ty := .int) (by decide +kernel) rfl rfl (Nat.le_of_ble_eq_true rfl) dX5_see_2 ?_
  simp only [List.set_cons_zero, List.set_cons_succ]
  refine ww_iload_n C0 dX5_see_5 rfl ?_
  refine ww_i2l C0 dX5_see_6 ?_
  refine ww_lconst (v := 0) C0 dX5_see_7 rfl ?_
  refine ww_ldc2 C0 kw_X5_117 dX5_see_8 ?_
  refine ww_callSi C0 (c_X5_in0 l D cI cZ cQ 10 (by decide) (by decide)) kd_X5_in kw_X5_75 ks_X5_in ki_X5 hd_X5_in ⟨Nat.le_of_ble_eq_true rfl, Nat.le_of_ble_eq_true rfl, rfl, rfl⟩ (Nat.le_of_ble_eq_true rfl) dX5_see_11 rfl rfl ⟨Nat.zero_le _, Nat.zero_le _⟩ ?_
  refine ww_bif_ne (tgt := 19) C0 dX5_see_14 (by decide) (fun h14 => ?_) (fun h14 => ?_)
  · skip
    refine ww_iload_n C0 dX5_see_19 rfl ?_
    refine ww_i2l C0 dX5_see_20 ?_
    refine ww_lconst (v := 0) C0 dX5_see_21 rfl ?_
    refine ww_ldc2 C0 kw_X5_208 dX5_see_22 ?_
    refine ww_callSi C0 (c_X5_in0 l D cI cZ cQ 4 (by decide) (by decide)) kd_X5_in kw_X5_75 ks_X5_in ki_X5 hd_X5_in ⟨Nat.le_of_ble_eq_true rfl, Nat.le_of_ble_eq_true rfl, rfl, rfl⟩ (Nat.le_of_ble_eq_true rfl) dX5_see_25 rfl rfl ⟨Nat.zero_le _, Nat.zero_le _⟩ ?_
    refine ww_bif_eq (tgt := 65) C0 dX5_see_28 (by decide) (fun h28 => ?_) (fun h28 => ?_)
    · skip
      exact absurd h1s (by rw [h28]; decide)
    · skip
      refine ww_iload_n C0 dX5_see_31 rfl ?_
      refine ww_i2l C0 dX5_see_32 ?_
      refine ww_lconst (v := 0) C0 dX5_see_33 rfl ?_
      refine ww_ldc2 C0 kw_X5_117 dX5_see_34 ?_
      refine ww_callSi C0 (c_X5_in0 l D cI cZ cQ 10 (by decide) (by decide)) kd_X5_in kw_X5_75 ks_X5_in ki_X5 hd_X5_in ⟨Nat.le_of_ble_eq_true rfl, Nat.le_of_ble_eq_true rfl, rfl, rfl⟩ (Nat.le_of_ble_eq_true rfl) dX5_see_37 rfl rfl ⟨Nat.zero_le _, Nat.zero_le _⟩ ?_
      refine ww_bif_eq (tgt := 65) C0 dX5_see_40 (by decide) (fun h40 => ?_) (fun h40 => ?_)
      · skip
        exact absurd h2s (by rw [h40]; decide)
      · skip
        refine ww_iload C0 dX5_see_43 rfl ?_
        refine ww_i2l C0 dX5_see_45 ?_
        refine ww_lconst (v := 0) C0 dX5_see_46 rfl ?_
        refine ww_lconst (v := 1) C0 dX5_see_47 rfl ?_
        refine ww_callSi C0 (c_X5_in0 l D cI cZ cQ 2 (by decide) (by decide)) kd_X5_in kw_X5_75 ks_X5_in ki_X5 hd_X5_in ⟨Nat.le_of_ble_eq_true rfl, Nat.le_of_ble_eq_true rfl, rfl, rfl⟩ (Nat.le_of_ble_eq_true rfl) dX5_see_48 rfl rfl ⟨Nat.zero_le _, Nat.zero_le _⟩ ?_
        refine ww_bif_eq (tgt := 65) C0 dX5_see_51 (by decide) (fun h51 => ?_) (fun h51 => ?_)
        · skip
          exact absurd h3s (by rw [h51]; decide)
        · skip
          refine ww_iload C0 dX5_see_54 rfl ?_
          refine ww_i2l C0 dX5_see_56 ?_
          refine ww_lconst (v := 0) C0 dX5_see_57 rfl ?_
          refine ww_lconst (v := 1) C0 dX5_see_58 rfl ?_
          refine ww_callSi C0 (c_X5_in0 l D cI cZ cQ 2 (by decide) (by decide)) kd_X5_in kw_X5_75 ks_X5_in ki_X5 hd_X5_in ⟨Nat.le_of_ble_eq_true rfl, Nat.le_of_ble_eq_true rfl, rfl, rfl⟩ (Nat.le_of_ble_eq_true rfl) dX5_see_59 rfl rfl ⟨Nat.zero_le _, Nat.zero_le _⟩ ?_
          refine ww_bif_ne (tgt := 68) C0 dX5_see_62 (by decide) (fun h62 => ?_) (fun h62 => ?_)
          · skip
            refine ww_aload_n C0 dX5_see_68 rfl ?_
            refine ww_get C0 (ci := 5) (C := RX5) (T := TX5) (N := 33) ku_X5 0 rfl rfl 20 (by decide) kw_X5_137 rfl dX5_see_69 ?_
            refine ww_bipush (v := (6)) C0 dX5_see_72 rfl ?_
            refine ww_icmp_ne (tgt := 80) C0 dX5_see_74 (by decide) (fun h74 => ?_) (fun h74 => ?_)
            · skip
              replace h74 := (not_congr (nI_eqE (a := gn) (b := 6) rfl rfl (by omega) (by omega))).mp h74
              exfalso; omega
            · skip
              replace h74 := (nI_eqE (a := gn) (b := 6) rfl rfl (by omega) (by omega)).mp h74
              refine ww_bipush (v := (-4)) C0 dX5_see_77 rfl ?_
              exact ww_iret C0 hr dX5_see_79 (by rfl) (by rfl)
          · skip
            exact absurd h4s (by rw [h62]; decide)
  · skip
    exact absurd hs (by rw [h14]; decide)

set_option maxHeartbeats 4000000 in
set_option maxRecDepth 100000 in
theorem c_X5_see (l : Launch) (D : va_G) (cI cZ cQ : ClassId) {aM amt amc amw ams amv amr amx amp amq amb amk amz am0 am1 am2 am3 am4 amh amo : Nat} {tn nm na ac gn : Nat} {th vpl vrm vra x0 x1 x2 x3 : Int32} {sd : Int64} {fmt fmc fmw fms fmv fmp fmq fmr fmx fmb fmk fmz fm0 fm1 fm2 fm3 fm4 : Nat → Int32} {rest : va_W} {y0 y1 y2 y3 y4 : Int32} (hs : isN 10 y0 = true) (h1s : isN 4 y1 = true) (h2s : isN 10 y2 = true) (h3s : isN 2 y3 = true) (h4s : isN 2 y4 = true) (hg : gn < 6) : MI l D [(cI, .int), (cZ, .boolean), (cQ, .object "MulesRemember$State")] yX5_see cX5_see 6 .int ({ frames := 1, cells := 0, slots := 0, locals := 25 } : Room) [.ref aM, .int y0, .int y1, .int y2, .int y3, .int y4] ((aM, .inr (5, [.int th, .ref amt, .int (nI tn), .int vpl, .int (nI nm), .ref amc, .int (nI na), .ref amw, .ref ams, .ref amv, .int vrm, .ref amr, .int vra, .ref amx, .ref amp, .ref amq, .ref amb, .int (nI ac), .ref amk, .ref amz, .int (nI gn), .ref am0, .ref am1, .ref am2, .ref am3, .ref am4, .long sd, .ref amh, .int x0, .int x1, .int x2, .int x3, .ref amo])) :: (amt, .inl (cI, 48, .inl (fmt))) :: (amc, .inl (cI, 5, .inl (fmc))) :: (amw, .inl (cI, 5, .inl (fmw))) :: (ams, .inl (cI, 5, .inl (fms))) :: (amv, .inl (cI, 5, .inl (fmv))) :: (amp, .inl (cI, 17, .inl (fmp))) :: (amq, .inl (cI, 17, .inl (fmq))) :: (amr, .inl (cI, 15, .inl (fmr))) :: (amx, .inl (cI, 15, .inl (fmx))) :: (amb, .inl (cI, 238, .inl (fmb))) :: (amk, .inl (cI, 34, .inl (fmk))) :: (amz, .inl (cZ, 2, .inl (fmz))) :: (am0, .inl (cI, 6, .inl (fm0))) :: (am1, .inl (cI, 6, .inl (fm1))) :: (am2, .inl (cI, 6, .inl (fm2))) :: (am3, .inl (cI, 6, .inl (fm3))) :: (am4, .inl (cI, 6, .inl (fm4))) :: rest) (nI (gn + 1)) ((aM, .inr (5, [.int 0, .ref amt, .int (nI tn), .int vpl, .int (nI nm), .ref amc, .int (nI na), .ref amw, .ref ams, .ref amv, .int vrm, .ref amr, .int vra, .ref amx, .ref amp, .ref amq, .ref amb, .int (nI ac), .ref amk, .ref amz, .int (nI (gn + 1)), .ref am0, .ref am1, .ref am2, .ref am3, .ref am4, .long sd, .ref amh, .int x0, .int x1, .int x2, .int x3, .ref amo])) :: (amt, .inl (cI, 48, .inl (fmt))) :: (amc, .inl (cI, 5, .inl (fmc))) :: (amw, .inl (cI, 5, .inl (fmw))) :: (ams, .inl (cI, 5, .inl (fms))) :: (amv, .inl (cI, 5, .inl (fmv))) :: (amp, .inl (cI, 17, .inl (fmp))) :: (amq, .inl (cI, 17, .inl (fmq))) :: (amr, .inl (cI, 15, .inl (fmr))) :: (amx, .inl (cI, 15, .inl (fmx))) :: (amb, .inl (cI, 238, .inl (fmb))) :: (amk, .inl (cI, 34, .inl (fmk))) :: (amz, .inl (cZ, 2, .inl (fmz))) :: (am0, .inl (cI, 6, .inl (upd fm0 gn y0))) :: (am1, .inl (cI, 6, .inl (upd fm1 gn y1))) :: (am2, .inl (cI, 6, .inl (upd fm2 gn y2))) :: (am3, .inl (cI, 6, .inl (upd fm3 gn y3))) :: (am4, .inl (cI, 6, .inl (upd fm4 gn y4))) :: rest) := by
  refine MI.of [.ref aM, .int y0, .int y1, .int y2, .int y3, .int y4] (by decide) (Nat.le_of_ble_eq_true rfl) rfl ?_
  intro p e s m below meth c A C0 hr
  refine ww_aload_n C0 dX5_see_0 rfl ?_
  refine ww_iconst (v := (0)) C0 dX5_see_1 rfl ?_
  refine ww_put C0 (ci := 5) (C := RX5) (T := TX5) (N := 33) ku_X5 0 rfl rfl 0 (by decide) tyX5 tyX5_ok nmX5 kw_X5_68 rfl (ty := .int) (by decide +kernel) rfl rfl (Nat.le_of_ble_eq_true rfl) dX5_see_2 ?_
  simp only [List.set_cons_zero, List.set_cons_succ]
  refine ww_iload_n C0 dX5_see_5 rfl ?_
  refine ww_i2l C0 dX5_see_6 ?_
  refine ww_lconst (v := 0) C0 dX5_see_7 rfl ?_
  refine ww_ldc2 C0 kw_X5_117 dX5_see_8 ?_
  refine ww_callSi C0 (c_X5_in0 l D cI cZ cQ 10 (by decide) (by decide)) kd_X5_in kw_X5_75 ks_X5_in ki_X5 hd_X5_in ⟨Nat.le_of_ble_eq_true rfl, Nat.le_of_ble_eq_true rfl, rfl, rfl⟩ (Nat.le_of_ble_eq_true rfl) dX5_see_11 rfl rfl ⟨Nat.zero_le _, Nat.zero_le _⟩ ?_
  refine ww_bif_ne (tgt := 19) C0 dX5_see_14 (by decide) (fun h14 => ?_) (fun h14 => ?_)
  · skip
    refine ww_iload_n C0 dX5_see_19 rfl ?_
    refine ww_i2l C0 dX5_see_20 ?_
    refine ww_lconst (v := 0) C0 dX5_see_21 rfl ?_
    refine ww_ldc2 C0 kw_X5_208 dX5_see_22 ?_
    refine ww_callSi C0 (c_X5_in0 l D cI cZ cQ 4 (by decide) (by decide)) kd_X5_in kw_X5_75 ks_X5_in ki_X5 hd_X5_in ⟨Nat.le_of_ble_eq_true rfl, Nat.le_of_ble_eq_true rfl, rfl, rfl⟩ (Nat.le_of_ble_eq_true rfl) dX5_see_25 rfl rfl ⟨Nat.zero_le _, Nat.zero_le _⟩ ?_
    refine ww_bif_eq (tgt := 65) C0 dX5_see_28 (by decide) (fun h28 => ?_) (fun h28 => ?_)
    · skip
      exact absurd h1s (by rw [h28]; decide)
    · skip
      refine ww_iload_n C0 dX5_see_31 rfl ?_
      refine ww_i2l C0 dX5_see_32 ?_
      refine ww_lconst (v := 0) C0 dX5_see_33 rfl ?_
      refine ww_ldc2 C0 kw_X5_117 dX5_see_34 ?_
      refine ww_callSi C0 (c_X5_in0 l D cI cZ cQ 10 (by decide) (by decide)) kd_X5_in kw_X5_75 ks_X5_in ki_X5 hd_X5_in ⟨Nat.le_of_ble_eq_true rfl, Nat.le_of_ble_eq_true rfl, rfl, rfl⟩ (Nat.le_of_ble_eq_true rfl) dX5_see_37 rfl rfl ⟨Nat.zero_le _, Nat.zero_le _⟩ ?_
      refine ww_bif_eq (tgt := 65) C0 dX5_see_40 (by decide) (fun h40 => ?_) (fun h40 => ?_)
      · skip
        exact absurd h2s (by rw [h40]; decide)
      · skip
        refine ww_iload C0 dX5_see_43 rfl ?_
        refine ww_i2l C0 dX5_see_45 ?_
        refine ww_lconst (v := 0) C0 dX5_see_46 rfl ?_
        refine ww_lconst (v := 1) C0 dX5_see_47 rfl ?_
        refine ww_callSi C0 (c_X5_in0 l D cI cZ cQ 2 (by decide) (by decide)) kd_X5_in kw_X5_75 ks_X5_in ki_X5 hd_X5_in ⟨Nat.le_of_ble_eq_true rfl, Nat.le_of_ble_eq_true rfl, rfl, rfl⟩ (Nat.le_of_ble_eq_true rfl) dX5_see_48 rfl rfl ⟨Nat.zero_le _, Nat.zero_le _⟩ ?_
        refine ww_bif_eq (tgt := 65) C0 dX5_see_51 (by decide) (fun h51 => ?_) (fun h51 => ?_)
        · skip
          exact absurd h3s (by rw [h51]; decide)
        · skip
          refine ww_iload C0 dX5_see_54 rfl ?_
          refine ww_i2l C0 dX5_see_56 ?_
          refine ww_lconst (v := 0) C0 dX5_see_57 rfl ?_
          refine ww_lconst (v := 1) C0 dX5_see_58 rfl ?_
          refine ww_callSi C0 (c_X5_in0 l D cI cZ cQ 2 (by decide) (by decide)) kd_X5_in kw_X5_75 ks_X5_in ki_X5 hd_X5_in ⟨Nat.le_of_ble_eq_true rfl, Nat.le_of_ble_eq_true rfl, rfl, rfl⟩ (Nat.le_of_ble_eq_true rfl) dX5_see_59 rfl rfl ⟨Nat.zero_le _, Nat.zero_le _⟩ ?_
          refine ww_bif_ne (tgt := 68) C0 dX5_see_62 (by decide) (fun h62 => ?_) (fun h62 => ?_)
          · skip
            refine ww_aload_n C0 dX5_see_68 rfl ?_
            refine ww_get C0 (ci := 5) (C := RX5) (T := TX5) (N := 33) ku_X5 0 rfl rfl 20 (by decide) kw_X5_137 rfl dX5_see_69 ?_
            refine ww_bipush (v := (6)) C0 dX5_see_72 rfl ?_
            refine ww_icmp_ne (tgt := 80) C0 dX5_see_74 (by decide) (fun h74 => ?_) (fun h74 => ?_)
            · skip
              replace h74 := (not_congr (nI_eqE (a := gn) (b := 6) rfl rfl (by omega) (by omega))).mp h74
              refine ww_aload_n C0 dX5_see_80 rfl ?_
              refine ww_get C0 (ci := 5) (C := RX5) (T := TX5) (N := 33) ku_X5 0 rfl rfl 21 (by decide) kw_X5_47 rfl dX5_see_81 ?_
              refine ww_aload_n C0 dX5_see_84 rfl ?_
              refine ww_get C0 (ci := 5) (C := RX5) (T := TX5) (N := 33) ku_X5 0 rfl rfl 20 (by decide) kw_X5_137 rfl dX5_see_85 ?_
              refine ww_iload_n C0 dX5_see_88 rfl ?_
              refine ww_iast_n (j := gn) C0 13 0 rfl rfl rfl (by omega) (by decide) dX5_see_89 ?_
              simp only [List.set_cons_zero, List.set_cons_succ]
              refine ww_aload_n C0 dX5_see_90 rfl ?_
              refine ww_get C0 (ci := 5) (C := RX5) (T := TX5) (N := 33) ku_X5 0 rfl rfl 22 (by decide) kw_X5_50 rfl dX5_see_91 ?_
              refine ww_aload_n C0 dX5_see_94 rfl ?_
              refine ww_get C0 (ci := 5) (C := RX5) (T := TX5) (N := 33) ku_X5 0 rfl rfl 20 (by decide) kw_X5_137 rfl dX5_see_95 ?_
              refine ww_iload_n C0 dX5_see_98 rfl ?_
              refine ww_iast_n (j := gn) C0 14 0 rfl rfl rfl (by omega) (by decide) dX5_see_99 ?_
              simp only [List.set_cons_zero, List.set_cons_succ]
              refine ww_aload_n C0 dX5_see_100 rfl ?_
              refine ww_get C0 (ci := 5) (C := RX5) (T := TX5) (N := 33) ku_X5 0 rfl rfl 23 (by decide) kw_X5_53 rfl dX5_see_101 ?_
              refine ww_aload_n C0 dX5_see_104 rfl ?_
              refine ww_get C0 (ci := 5) (C := RX5) (T := TX5) (N := 33) ku_X5 0 rfl rfl 20 (by decide) kw_X5_137 rfl dX5_see_105 ?_
              refine ww_iload_n C0 dX5_see_108 rfl ?_
              refine ww_iast_n (j := gn) C0 15 0 rfl rfl rfl (by omega) (by decide) dX5_see_109 ?_
              simp only [List.set_cons_zero, List.set_cons_succ]
              refine ww_aload_n C0 dX5_see_110 rfl ?_
              refine ww_get C0 (ci := 5) (C := RX5) (T := TX5) (N := 33) ku_X5 0 rfl rfl 24 (by decide) kw_X5_56 rfl dX5_see_111 ?_
              refine ww_aload_n C0 dX5_see_114 rfl ?_
              refine ww_get C0 (ci := 5) (C := RX5) (T := TX5) (N := 33) ku_X5 0 rfl rfl 20 (by decide) kw_X5_137 rfl dX5_see_115 ?_
              refine ww_iload C0 dX5_see_118 rfl ?_
              refine ww_iast_n (j := gn) C0 16 0 rfl rfl rfl (by omega) (by decide) dX5_see_120 ?_
              simp only [List.set_cons_zero, List.set_cons_succ]
              refine ww_aload_n C0 dX5_see_121 rfl ?_
              refine ww_get C0 (ci := 5) (C := RX5) (T := TX5) (N := 33) ku_X5 0 rfl rfl 25 (by decide) kw_X5_59 rfl dX5_see_122 ?_
              refine ww_aload_n C0 dX5_see_125 rfl ?_
              refine ww_get C0 (ci := 5) (C := RX5) (T := TX5) (N := 33) ku_X5 0 rfl rfl 20 (by decide) kw_X5_137 rfl dX5_see_126 ?_
              refine ww_iload C0 dX5_see_129 rfl ?_
              refine ww_iast_n (j := gn) C0 17 0 rfl rfl rfl (by omega) (by decide) dX5_see_131 ?_
              simp only [List.set_cons_zero, List.set_cons_succ]
              refine ww_aload_n C0 dX5_see_132 rfl ?_
              refine ww_dup C0 dX5_see_133 rfl ?_
              refine ww_get C0 (ci := 5) (C := RX5) (T := TX5) (N := 33) ku_X5 0 rfl rfl 20 (by decide) kw_X5_137 rfl dX5_see_134 ?_
              refine ww_iconst (v := (1)) C0 dX5_see_137 rfl ?_
              refine ww_iadd C0 dX5_see_138 ?_
              refine ww_put C0 (ci := 5) (C := RX5) (T := TX5) (N := 33) ku_X5 0 rfl rfl 20 (by decide) tyX5 tyX5_ok nmX5 kw_X5_137 rfl (ty := .int) (by decide +kernel) rfl rfl (Nat.le_of_ble_eq_true rfl) dX5_see_139 ?_
              simp only [List.set_cons_zero, List.set_cons_succ]
              refine ww_aload_n C0 dX5_see_142 rfl ?_
              refine ww_get C0 (ci := 5) (C := RX5) (T := TX5) (N := 33) ku_X5 0 rfl rfl 20 (by decide) kw_X5_137 rfl dX5_see_143 ?_
              exact ww_iret C0 hr dX5_see_146 (by exact nI_1 gn) (by simp only [nI_1])
            · skip
              replace h74 := (nI_eqE (a := gn) (b := 6) rfl rfl (by omega) (by omega)).mp h74
              exfalso; omega
          · skip
            exact absurd h4s (by rw [h62]; decide)
  · skip
    exact absurd hs (by rw [h14]; decide)

set_option maxHeartbeats 4000000 in
set_option maxRecDepth 100000 in
theorem c_X5_unsee (l : Launch) (D : va_G) (cI cZ cQ : ClassId) {aM amt amc amw ams amv amr amx amp amq amb amk amz am0 am1 am2 am3 am4 amh amo : Nat} {tn nm na ac gn : Nat} {th vpl vrm vra x0 x1 x2 x3 : Int32} {sd : Int64} {rest : va_W} : MI l D [(cI, .int), (cZ, .boolean), (cQ, .object "MulesRemember$State")] yX5_unsee cX5_unsee 2 .int ({ frames := 0, cells := 0, slots := 0, locals := 0 } : Room) [.ref aM] ((aM, .inr (5, [.int th, .ref amt, .int (nI tn), .int vpl, .int (nI nm), .ref amc, .int (nI na), .ref amw, .ref ams, .ref amv, .int vrm, .ref amr, .int vra, .ref amx, .ref amp, .ref amq, .ref amb, .int (nI ac), .ref amk, .ref amz, .int (nI gn), .ref am0, .ref am1, .ref am2, .ref am3, .ref am4, .long sd, .ref amh, .int x0, .int x1, .int x2, .int x3, .ref amo])) :: rest) (nI gn) ((aM, .inr (5, [.int 0, .ref amt, .int (nI tn), .int vpl, .int (nI nm), .ref amc, .int (nI na), .ref amw, .ref ams, .ref amv, .int vrm, .ref amr, .int vra, .ref amx, .ref amp, .ref amq, .ref amb, .int (nI ac), .ref amk, .ref amz, .int (nI 0), .ref am0, .ref am1, .ref am2, .ref am3, .ref am4, .long sd, .ref amh, .int x0, .int x1, .int x2, .int x3, .ref amo])) :: rest) := by
  refine MI.of [.ref aM, .null] (by decide) (Nat.le_of_ble_eq_true rfl) rfl ?_
  intro p e s m below meth c A C0 hr
  refine ww_aload_n C0 dX5_unsee_0 rfl ?_
  refine ww_iconst (v := (0)) C0 dX5_unsee_1 rfl ?_
  refine ww_put C0 (ci := 5) (C := RX5) (T := TX5) (N := 33) ku_X5 0 rfl rfl 0 (by decide) tyX5 tyX5_ok nmX5 kw_X5_68 rfl (ty := .int) (by decide +kernel) rfl rfl (Nat.le_of_ble_eq_true rfl) dX5_unsee_2 ?_
  simp only [List.set_cons_zero, List.set_cons_succ]
  refine ww_aload_n C0 dX5_unsee_5 rfl ?_
  refine ww_get C0 (ci := 5) (C := RX5) (T := TX5) (N := 33) ku_X5 0 rfl rfl 20 (by decide) kw_X5_137 rfl dX5_unsee_6 ?_
  refine ww_istore_n (i := 1) C0 dX5_unsee_9 rfl (Nat.le_of_ble_eq_true rfl) rfl ?_
  simp only [List.set_cons_zero, List.set_cons_succ]
  refine ww_aload_n C0 dX5_unsee_10 rfl ?_
  refine ww_iconst (v := (0)) C0 dX5_unsee_11 rfl ?_
  refine ww_put C0 (ci := 5) (C := RX5) (T := TX5) (N := 33) ku_X5 0 rfl rfl 20 (by decide) tyX5 tyX5_ok nmX5 kw_X5_137 rfl (ty := .int) (by decide +kernel) rfl rfl (Nat.le_of_ble_eq_true rfl) dX5_unsee_12 ?_
  simp only [List.set_cons_zero, List.set_cons_succ]
  refine ww_iload_n C0 dX5_unsee_15 rfl ?_
  exact ww_iret C0 hr dX5_unsee_16 (by rfl) (by rfl)

set_option maxHeartbeats 4000000 in
set_option maxRecDepth 100000 in
theorem c_X5_seed (l : Launch) (D : va_G) (cI cZ cQ : ClassId) {aM amt amc amw ams amv amr amx amp amq amb amk amz am0 am1 am2 am3 am4 amh amo : Nat} {tn nm na ac gn : Nat} {th vpl vrm vra x0 x1 x2 x3 : Int32} {sd : Int64} {rest : va_W} {v : Int64} : ML l D [(cI, .int), (cZ, .boolean), (cQ, .object "MulesRemember$State")] yX5_seed cX5_seed 5 ({ frames := 0, cells := 0, slots := 0, locals := 0 } : Room) [.ref aM, .long v] ((aM, .inr (5, [.int th, .ref amt, .int (nI tn), .int vpl, .int (nI nm), .ref amc, .int (nI na), .ref amw, .ref ams, .ref amv, .int vrm, .ref amr, .int vra, .ref amx, .ref amp, .ref amq, .ref amb, .int (nI ac), .ref amk, .ref amz, .int (nI gn), .ref am0, .ref am1, .ref am2, .ref am3, .ref am4, .long sd, .ref amh, .int x0, .int x1, .int x2, .int x3, .ref amo])) :: rest) (sd) ((aM, .inr (5, [.int 0, .ref amt, .int (nI tn), .int vpl, .int (nI nm), .ref amc, .int (nI na), .ref amw, .ref ams, .ref amv, .int vrm, .ref amr, .int vra, .ref amx, .ref amp, .ref amq, .ref amb, .int (nI ac), .ref amk, .ref amz, .int (nI gn), .ref am0, .ref am1, .ref am2, .ref am3, .ref am4, .long v, .ref amh, .int x0, .int x1, .int x2, .int x3, .ref amo])) :: rest) := by
  refine ML.of [.ref aM, .long v, .null, .null, .null] (by decide) (Nat.le_of_ble_eq_true rfl) rfl ?_
  intro p e s m below meth c A C0 hr
  refine ww_aload_n C0 dX5_seed_0 rfl ?_
  refine ww_iconst (v := (0)) C0 dX5_seed_1 rfl ?_
  refine ww_put C0 (ci := 5) (C := RX5) (T := TX5) (N := 33) ku_X5 0 rfl rfl 0 (by decide) tyX5 tyX5_ok nmX5 kw_X5_68 rfl (ty := .int) (by decide +kernel) rfl rfl (Nat.le_of_ble_eq_true rfl) dX5_seed_2 ?_
  simp only [List.set_cons_zero, List.set_cons_succ]
  refine ww_aload_n C0 dX5_seed_5 rfl ?_
  refine ww_get C0 (ci := 5) (C := RX5) (T := TX5) (N := 33) ku_X5 0 rfl rfl 26 (by decide) kw_X5_238 rfl dX5_seed_6 ?_
  refine ww_lstore_n (i := 3) C0 dX5_seed_9 rfl (Nat.le_of_ble_eq_true rfl) rfl ?_
  simp only [List.set_cons_zero, List.set_cons_succ]
  refine ww_aload_n C0 dX5_seed_10 rfl ?_
  refine ww_lload_n C0 dX5_seed_11 rfl ?_
  refine ww_put C0 (ci := 5) (C := RX5) (T := TX5) (N := 33) ku_X5 0 rfl rfl 26 (by decide) tyX5 tyX5_ok nmX5 kw_X5_238 rfl (ty := .long) (by decide +kernel) rfl rfl (Nat.le_of_ble_eq_true rfl) dX5_seed_12 ?_
  simp only [List.set_cons_zero, List.set_cons_succ]
  refine ww_lload_n C0 dX5_seed_15 rfl ?_
  exact ww_lret C0 hr dX5_seed_16 (by rfl) (by rfl)

set_option maxHeartbeats 4000000 in
set_option maxRecDepth 100000 in
theorem c_X5_gain (l : Launch) (D : va_G) (cI cZ cQ : ClassId) {rest : va_W} {a b d : Int32} : MI l D [(cI, .int), (cZ, .boolean), (cQ, .object "MulesRemember$State")] yX5_gain cX5_gain 3 .int ({ frames := 0, cells := 0, slots := 0, locals := 0 } : Room) [.int a, .int b, .int d] (rest) (mGain a b d) (rest) := by
  refine MI.of [.int a, .int b, .int d] (by decide) (Nat.le_of_ble_eq_true rfl) rfl ?_
  intro p e s m below meth c A C0 hr
  refine ww_iload_n C0 dX5_gain_0 rfl ?_
  refine ww_if_ne (tgt := 15) C0 dX5_gain_1 (by decide) (fun h1 => ?_) (fun h1 => ?_)
  · skip
    refine ww_iload_n C0 dX5_gain_15 rfl ?_
    refine ww_iconst (v := (1)) C0 dX5_gain_16 rfl ?_
    refine ww_icmp_ne (tgt := 26) C0 dX5_gain_17 (by decide) (fun h17 => ?_) (fun h17 => ?_)
    · skip
      refine ww_iload_n C0 dX5_gain_26 rfl ?_
      exact ww_iret C0 hr dX5_gain_27 (by simp [mGain, *]) (by rfl)
    · skip
      refine ww_iload_n C0 dX5_gain_20 rfl ?_
      refine ww_iconst (v := (2)) C0 dX5_gain_21 rfl ?_
      refine ww_idiv C0 dX5_gain_22 (by decide) ?_
      refine ww_goto (tgt := 27) C0 dX5_gain_23 (by decide) ?_
      exact ww_iret C0 hr dX5_gain_27 (by simp [mGain, *]) (by rfl)
  · skip
    refine ww_iload_n C0 dX5_gain_4 rfl ?_
    refine ww_iconst (v := (1)) C0 dX5_gain_5 rfl ?_
    refine ww_icmp_ne (tgt := 13) C0 dX5_gain_6 (by decide) (fun h6 => ?_) (fun h6 => ?_)
    · skip
      refine ww_iconst (v := (0)) C0 dX5_gain_13 rfl ?_
      exact ww_iret C0 hr dX5_gain_14 (by simp [mGain, *]) (by rfl)
    · skip
      refine ww_iconst (v := (-1)) C0 dX5_gain_9 rfl ?_
      refine ww_goto (tgt := 14) C0 dX5_gain_10 (by decide) ?_
      exact ww_iret C0 hr dX5_gain_14 (by simp [mGain, *]) (by rfl)

set_option maxHeartbeats 4000000 in
set_option maxRecDepth 100000 in
theorem c_X5_keep_b (l : Launch) (D : va_G) (cI cZ cQ : ClassId) {aM amt amc amw ams amv amr amx amp amq amb amk amz am0 am1 am2 am3 am4 amh amo : Nat} {tn nm na ac gn : Nat} {th vpl vrm vra x0 x1 x2 x3 : Int32} {sd : Int64} {rest : va_W} {q : Int32} (hq : isN 2 q = false) : MI l D [(cI, .int), (cZ, .boolean), (cQ, .object "MulesRemember$State")] yX5_keep cX5_keep 3 .int ({ frames := 1, cells := 0, slots := 0, locals := 25 } : Room) [.ref aM, .int q] ((aM, .inr (5, [.int th, .ref amt, .int (nI tn), .int vpl, .int (nI nm), .ref amc, .int (nI na), .ref amw, .ref ams, .ref amv, .int vrm, .ref amr, .int vra, .ref amx, .ref amp, .ref amq, .ref amb, .int (nI ac), .ref amk, .ref amz, .int (nI gn), .ref am0, .ref am1, .ref am2, .ref am3, .ref am4, .long sd, .ref amh, .int x0, .int x1, .int x2, .int x3, .ref amo])) :: rest) (-1) ((aM, .inr (5, [.int 0, .ref amt, .int (nI tn), .int vpl, .int (nI nm), .ref amc, .int (nI na), .ref amw, .ref ams, .ref amv, .int vrm, .ref amr, .int vra, .ref amx, .ref amp, .ref amq, .ref amb, .int (nI ac), .ref amk, .ref amz, .int (nI gn), .ref am0, .ref am1, .ref am2, .ref am3, .ref am4, .long sd, .ref amh, .int x0, .int x1, .int x2, .int x3, .ref amo])) :: rest) := by
  refine MI.of [.ref aM, .int q, .null] (by decide) (Nat.le_of_ble_eq_true rfl) rfl ?_
  intro p e s m below meth c A C0 hr
  refine ww_aload_n C0 dX5_keep_0 rfl ?_
  refine ww_iconst (v := (0)) C0 dX5_keep_1 rfl ?_
  refine ww_put C0 (ci := 5) (C := RX5) (T := TX5) (N := 33) ku_X5 0 rfl rfl 0 (by decide) tyX5 tyX5_ok nmX5 kw_X5_68 rfl (ty := .int) (by decide +kernel) rfl rfl (Nat.le_of_ble_eq_true rfl) dX5_keep_2 ?_
  simp only [List.set_cons_zero, List.set_cons_succ]
  refine ww_iload_n C0 dX5_keep_5 rfl ?_
  refine ww_i2l C0 dX5_keep_6 ?_
  refine ww_lconst (v := 0) C0 dX5_keep_7 rfl ?_
  refine ww_lconst (v := 1) C0 dX5_keep_8 rfl ?_
  refine ww_callSi C0 (c_X5_in0 l D cI cZ cQ 2 (by decide) (by decide)) kd_X5_in kw_X5_75 ks_X5_in ki_X5 hd_X5_in ⟨Nat.le_of_ble_eq_true rfl, Nat.le_of_ble_eq_true rfl, rfl, rfl⟩ (Nat.le_of_ble_eq_true rfl) dX5_keep_9 rfl rfl ⟨Nat.zero_le _, Nat.zero_le _⟩ ?_
  refine ww_bif_ne (tgt := 17) C0 dX5_keep_12 (by decide) (fun h12 => ?_) (fun h12 => ?_)
  · skip
    exact absurd hq (by rw [h12]; decide)
  · skip
    refine ww_iconst (v := (-1)) C0 dX5_keep_15 rfl ?_
    exact ww_iret C0 hr dX5_keep_16 (by rfl) (by rfl)

set_option maxHeartbeats 4000000 in
set_option maxRecDepth 100000 in
theorem c_X5_keep (l : Launch) (D : va_G) (cI cZ cQ : ClassId) {aM amt amc amw ams amv amr amx amp amq amb amk amz am0 am1 am2 am3 am4 amh amo : Nat} {tn nm na ac gn : Nat} {th vpl vrm vra x0 x1 x2 x3 : Int32} {sd : Int64} {fmt fmc fmw fms fmv fmp fmq fmr fmx fmb fmk fmz : Nat → Int32} {rest : va_W} {q : Nat} (hq : q < 2) : MI l D [(cI, .int), (cZ, .boolean), (cQ, .object "MulesRemember$State")] yX5_keep cX5_keep 3 .int ({ frames := 1, cells := 0, slots := 0, locals := 25 } : Room) [.ref aM, .int (nI q)] ((aM, .inr (5, [.int th, .ref amt, .int (nI tn), .int vpl, .int (nI nm), .ref amc, .int (nI na), .ref amw, .ref ams, .ref amv, .int vrm, .ref amr, .int vra, .ref amx, .ref amp, .ref amq, .ref amb, .int (nI ac), .ref amk, .ref amz, .int (nI gn), .ref am0, .ref am1, .ref am2, .ref am3, .ref am4, .long sd, .ref amh, .int x0, .int x1, .int x2, .int x3, .ref amo])) :: (amt, .inl (cI, 48, .inl (fmt))) :: (amc, .inl (cI, 5, .inl (fmc))) :: (amw, .inl (cI, 5, .inl (fmw))) :: (ams, .inl (cI, 5, .inl (fms))) :: (amv, .inl (cI, 5, .inl (fmv))) :: (amp, .inl (cI, 17, .inl (fmp))) :: (amq, .inl (cI, 17, .inl (fmq))) :: (amr, .inl (cI, 15, .inl (fmr))) :: (amx, .inl (cI, 15, .inl (fmx))) :: (amb, .inl (cI, 238, .inl (fmb))) :: (amk, .inl (cI, 34, .inl (fmk))) :: (amz, .inl (cZ, 2, .inl (fmz))) :: rest) (fmp 15) ((aM, .inr (5, [.int 0, .ref amt, .int (nI tn), .int vpl, .int (nI nm), .ref amc, .int (nI na), .ref amw, .ref ams, .ref amv, .int vrm, .ref amr, .int vra, .ref amx, .ref amp, .ref amq, .ref amb, .int (nI ac), .ref amk, .ref amz, .int (nI gn), .ref am0, .ref am1, .ref am2, .ref am3, .ref am4, .long sd, .ref amh, .int x0, .int x1, .int x2, .int x3, .ref amo])) :: (amt, .inl (cI, 48, .inl (fmt))) :: (amc, .inl (cI, 5, .inl (fmc))) :: (amw, .inl (cI, 5, .inl (fmw))) :: (ams, .inl (cI, 5, .inl (fms))) :: (amv, .inl (cI, 5, .inl (fmv))) :: (amp, .inl (cI, 17, .inl (fmp))) :: (amq, .inl (cI, 17, .inl (fmq))) :: (amr, .inl (cI, 15, .inl (fmr))) :: (amx, .inl (cI, 15, .inl (fmx))) :: (amb, .inl (cI, 238, .inl (fmb))) :: (amk, .inl (cI, 34, .inl (ptF fmk fmp (17 * q) 17))) :: (amz, .inl (cZ, 2, .inl (upd fmz q 1))) :: rest) := by
  refine MI.of [.ref aM, .int (nI q), .null] (by decide) (Nat.le_of_ble_eq_true rfl) rfl ?_
  intro p e s m below meth c A C0 hr
  refine ww_aload_n C0 dX5_keep_0 rfl ?_
  refine ww_iconst (v := (0)) C0 dX5_keep_1 rfl ?_
  refine ww_put C0 (ci := 5) (C := RX5) (T := TX5) (N := 33) ku_X5 0 rfl rfl 0 (by decide) tyX5 tyX5_ok nmX5 kw_X5_68 rfl (ty := .int) (by decide +kernel) rfl rfl (Nat.le_of_ble_eq_true rfl) dX5_keep_2 ?_
  simp only [List.set_cons_zero, List.set_cons_succ]
  refine ww_iload_n C0 dX5_keep_5 rfl ?_
  refine ww_i2l C0 dX5_keep_6 ?_
  refine ww_lconst (v := 0) C0 dX5_keep_7 rfl ?_
  refine ww_lconst (v := 1) C0 dX5_keep_8 rfl ?_
  refine ww_callSi C0 (c_X5_in0 l D cI cZ cQ 2 (by decide) (by decide)) kd_X5_in kw_X5_75 ks_X5_in ki_X5 hd_X5_in ⟨Nat.le_of_ble_eq_true rfl, Nat.le_of_ble_eq_true rfl, rfl, rfl⟩ (Nat.le_of_ble_eq_true rfl) dX5_keep_9 rfl rfl ⟨Nat.zero_le _, Nat.zero_le _⟩ ?_
  refine ww_bif_ne (tgt := 17) C0 dX5_keep_12 (by decide) (fun h12 => ?_) (fun h12 => ?_)
  · skip
    refine ww_aload_n C0 dX5_keep_17 rfl ?_
    refine ww_get C0 (ci := 5) (C := RX5) (T := TX5) (N := 33) ku_X5 0 rfl rfl 19 (by decide) kw_X5_43 rfl dX5_keep_18 ?_
    refine ww_iload_n C0 dX5_keep_21 rfl ?_
    refine ww_iconst (v := (1)) C0 dX5_keep_22 rfl ?_
    refine ww_zast_n (j := q) C0 12 1 rfl rfl rfl (by omega) (by decide) dX5_keep_23 ?_
    simp only [List.set_cons_zero, List.set_cons_succ]
    refine ww_iconst (v := (0)) C0 dX5_keep_24 rfl ?_
    refine ww_istore_n (i := 2) C0 dX5_keep_25 rfl (Nat.le_of_ble_eq_true rfl) rfl ?_
    simp only [List.set_cons_zero, List.set_cons_succ]
    refine ww_back (ww_loop (pc := 26) 0 (17) (by omega) (fun j => [_, _, .int (nI j)]) (fun j => (aM, .inr (5, [.int 0, .ref amt, .int (nI tn), .int vpl, .int (nI nm), .ref amc, .int (nI na), .ref amw, .ref ams, .ref amv, .int vrm, .ref amr, .int vra, .ref amx, .ref amp, .ref amq, .ref amb, .int (nI ac), .ref amk, .ref amz, .int (nI gn), .ref am0, .ref am1, .ref am2, .ref am3, .ref am4, .long sd, .ref amh, .int x0, .int x1, .int x2, .int x3, .ref amo])) :: (amt, .inl (cI, 48, .inl (fmt))) :: (amc, .inl (cI, 5, .inl (fmc))) :: (amw, .inl (cI, 5, .inl (fmw))) :: (ams, .inl (cI, 5, .inl (fms))) :: (amv, .inl (cI, 5, .inl (fmv))) :: (amp, .inl (cI, 17, .inl (fmp))) :: (amq, .inl (cI, 17, .inl (fmq))) :: (amr, .inl (cI, 15, .inl (fmr))) :: (amx, .inl (cI, 15, .inl (fmx))) :: (amb, .inl (cI, 238, .inl (fmb))) :: (amk, .inl (cI, 34, .inl (ptF fmk fmp (17 * q) j))) :: (amz, .inl (cZ, 2, .inl (upd fmz q 1))) :: rest) ?_ ?_) ⟨Or.inr rfl, Or.inr rfl, Or.inr rfl, trivial⟩ (by (rw [ptF_0]; rfl))
    · intro j hj0 hj ih
      refine ww_iload_n C0 dX5_keep_26 rfl ?_
      refine ww_bipush (v := (17)) C0 dX5_keep_27 rfl ?_
      refine ww_icmp_ge (tgt := 55) C0 dX5_keep_29 (by decide) (fun h29 => ?_) (fun h29 => ?_)
      · skip
        replace h29 := (nI_leE (a := 17) (b := j) rfl rfl (by omega) (by omega)).mp h29
        exfalso; omega
      · skip
        replace h29 := (not_congr (nI_leE (a := 17) (b := j) rfl rfl (by omega) (by omega))).mp h29
        refine ww_aload_n C0 dX5_keep_32 rfl ?_
        refine ww_get C0 (ci := 5) (C := RX5) (T := TX5) (N := 33) ku_X5 0 rfl rfl 18 (by decide) kw_X5_40 rfl dX5_keep_33 ?_
        refine ww_bipush (v := (17)) C0 dX5_keep_36 rfl ?_
        refine ww_iload_n C0 dX5_keep_38 rfl ?_
        refine ww_imul C0 dX5_keep_39 ?_
        refine ww_iload_n C0 dX5_keep_40 rfl ?_
        refine ww_iadd C0 dX5_keep_41 ?_
        refine ww_aload_n C0 dX5_keep_42 rfl ?_
        refine ww_get C0 (ci := 5) (C := RX5) (T := TX5) (N := 33) ku_X5 0 rfl rfl 14 (by decide) kw_X5_31 rfl dX5_keep_43 ?_
        refine ww_iload_n C0 dX5_keep_46 rfl ?_
        refine ww_iald_n (j := j) C0 6 0 rfl rfl rfl (by omega) (by decide) dX5_keep_47 ?_
        refine ww_iast_n (j := (17 * q) + j) C0 11 0 rfl rfl (nI_addE (a := 17 * q) (b := j) (nI_mulE (a := 17) (b := q) rfl rfl) rfl) (by omega) (by decide) dX5_keep_48 ?_
        simp only [List.set_cons_zero, List.set_cons_succ]
        refine ww_iinc (d := 1) C0 dX5_keep_49 rfl rfl rfl ?_
        simp only [List.set_cons_zero, List.set_cons_succ]
        refine ww_goto (tgt := 26) C0 dX5_keep_52 (by decide) ?_
        exact ww_back ih ⟨Or.inr rfl, Or.inr rfl, Or.inr (congrArg Value.int (nI_addE (a := j) (b := 1) rfl rfl).symm), trivial⟩ (by (simp only [← ptF_s]))
    · skip
      refine ww_iload_n C0 dX5_keep_26 rfl ?_
      refine ww_bipush (v := (17)) C0 dX5_keep_27 rfl ?_
      refine ww_icmp_ge (tgt := 55) C0 dX5_keep_29 (by decide) (fun h29 => ?_) (fun h29 => ?_)
      · skip
        replace h29 := (nI_leE (a := 17) (b := 17) rfl rfl (by omega) (by omega)).mp h29
        refine ww_aload_n C0 dX5_keep_55 rfl ?_
        refine ww_get C0 (ci := 5) (C := RX5) (T := TX5) (N := 33) ku_X5 0 rfl rfl 14 (by decide) kw_X5_31 rfl dX5_keep_56 ?_
        refine ww_bipush (v := (15)) C0 dX5_keep_59 rfl ?_
        refine ww_iald_n (j := 15) C0 6 0 rfl rfl rfl (by omega) (by decide) dX5_keep_61 ?_
        exact ww_iret C0 hr dX5_keep_62 (by rfl) (by rfl)
      · skip
        replace h29 := (not_congr (nI_leE (a := 17) (b := 17) rfl rfl (by omega) (by omega))).mp h29
        exfalso; omega
  · skip
    exact absurd (isN_nI (by omega) hq) (by rw [h12]; decide)

set_option maxHeartbeats 4000000 in
set_option maxRecDepth 100000 in
theorem c_X5_again_b (l : Launch) (D : va_G) (cI cZ cQ : ClassId) {aM amt amc amw ams amv amr amx amp amq amb amk amz am0 am1 am2 am3 am4 amh amo : Nat} {tn nm na ac gn : Nat} {th vpl vrm vra x0 x1 x2 x3 : Int32} {sd : Int64} {rest : va_W} {q : Int32} (hq : isN 2 q = false) : MI l D [(cI, .int), (cZ, .boolean), (cQ, .object "MulesRemember$State")] yX5_again cX5_again 3 .int ({ frames := 1, cells := 0, slots := 0, locals := 25 } : Room) [.ref aM, .int q] ((aM, .inr (5, [.int th, .ref amt, .int (nI tn), .int vpl, .int (nI nm), .ref amc, .int (nI na), .ref amw, .ref ams, .ref amv, .int vrm, .ref amr, .int vra, .ref amx, .ref amp, .ref amq, .ref amb, .int (nI ac), .ref amk, .ref amz, .int (nI gn), .ref am0, .ref am1, .ref am2, .ref am3, .ref am4, .long sd, .ref amh, .int x0, .int x1, .int x2, .int x3, .ref amo])) :: rest) (-1) ((aM, .inr (5, [.int 0, .ref amt, .int (nI tn), .int vpl, .int (nI nm), .ref amc, .int (nI na), .ref amw, .ref ams, .ref amv, .int vrm, .ref amr, .int vra, .ref amx, .ref amp, .ref amq, .ref amb, .int (nI ac), .ref amk, .ref amz, .int (nI gn), .ref am0, .ref am1, .ref am2, .ref am3, .ref am4, .long sd, .ref amh, .int x0, .int x1, .int x2, .int x3, .ref amo])) :: rest) := by
  refine MI.of [.ref aM, .int q, .null] (by decide) (Nat.le_of_ble_eq_true rfl) rfl ?_
  intro p e s m below meth c A C0 hr
  refine ww_aload_n C0 dX5_again_0 rfl ?_
  refine ww_iconst (v := (0)) C0 dX5_again_1 rfl ?_
  refine ww_put C0 (ci := 5) (C := RX5) (T := TX5) (N := 33) ku_X5 0 rfl rfl 0 (by decide) tyX5 tyX5_ok nmX5 kw_X5_68 rfl (ty := .int) (by decide +kernel) rfl rfl (Nat.le_of_ble_eq_true rfl) dX5_again_2 ?_
  simp only [List.set_cons_zero, List.set_cons_succ]
  refine ww_iload_n C0 dX5_again_5 rfl ?_
  refine ww_i2l C0 dX5_again_6 ?_
  refine ww_lconst (v := 0) C0 dX5_again_7 rfl ?_
  refine ww_lconst (v := 1) C0 dX5_again_8 rfl ?_
  refine ww_callSi C0 (c_X5_in0 l D cI cZ cQ 2 (by decide) (by decide)) kd_X5_in kw_X5_75 ks_X5_in ki_X5 hd_X5_in ⟨Nat.le_of_ble_eq_true rfl, Nat.le_of_ble_eq_true rfl, rfl, rfl⟩ (Nat.le_of_ble_eq_true rfl) dX5_again_9 rfl rfl ⟨Nat.zero_le _, Nat.zero_le _⟩ ?_
  refine ww_bif_ne (tgt := 17) C0 dX5_again_12 (by decide) (fun h12 => ?_) (fun h12 => ?_)
  · skip
    exact absurd hq (by rw [h12]; decide)
  · skip
    refine ww_iconst (v := (-1)) C0 dX5_again_15 rfl ?_
    exact ww_iret C0 hr dX5_again_16 (by rfl) (by rfl)

set_option maxHeartbeats 4000000 in
set_option maxRecDepth 100000 in
theorem c_X5_again_l (l : Launch) (D : va_G) (cI cZ cQ : ClassId) {aM amt amc amw ams amv amr amx amp amq amb amk amz am0 am1 am2 am3 am4 amh amo : Nat} {tn nm na ac gn : Nat} {th vpl vrm vra x0 x1 x2 x3 : Int32} {sd : Int64} {fmt fmc fmw fms fmv fmp fmq fmr fmx fmb fmk fmz : Nat → Int32} {rest : va_W} {q : Nat} (hq : q < 2) (hz : fmz q = 0) : MI l D [(cI, .int), (cZ, .boolean), (cQ, .object "MulesRemember$State")] yX5_again cX5_again 3 .int ({ frames := 1, cells := 0, slots := 0, locals := 25 } : Room) [.ref aM, .int (nI q)] ((aM, .inr (5, [.int th, .ref amt, .int (nI tn), .int vpl, .int (nI nm), .ref amc, .int (nI na), .ref amw, .ref ams, .ref amv, .int vrm, .ref amr, .int vra, .ref amx, .ref amp, .ref amq, .ref amb, .int (nI ac), .ref amk, .ref amz, .int (nI gn), .ref am0, .ref am1, .ref am2, .ref am3, .ref am4, .long sd, .ref amh, .int x0, .int x1, .int x2, .int x3, .ref amo])) :: (amt, .inl (cI, 48, .inl (fmt))) :: (amc, .inl (cI, 5, .inl (fmc))) :: (amw, .inl (cI, 5, .inl (fmw))) :: (ams, .inl (cI, 5, .inl (fms))) :: (amv, .inl (cI, 5, .inl (fmv))) :: (amp, .inl (cI, 17, .inl (fmp))) :: (amq, .inl (cI, 17, .inl (fmq))) :: (amr, .inl (cI, 15, .inl (fmr))) :: (amx, .inl (cI, 15, .inl (fmx))) :: (amb, .inl (cI, 238, .inl (fmb))) :: (amk, .inl (cI, 34, .inl (fmk))) :: (amz, .inl (cZ, 2, .inl (fmz))) :: rest) (-3) ((aM, .inr (5, [.int 0, .ref amt, .int (nI tn), .int vpl, .int (nI nm), .ref amc, .int (nI na), .ref amw, .ref ams, .ref amv, .int vrm, .ref amr, .int vra, .ref amx, .ref amp, .ref amq, .ref amb, .int (nI ac), .ref amk, .ref amz, .int (nI gn), .ref am0, .ref am1, .ref am2, .ref am3, .ref am4, .long sd, .ref amh, .int x0, .int x1, .int x2, .int x3, .ref amo])) :: (amt, .inl (cI, 48, .inl (fmt))) :: (amc, .inl (cI, 5, .inl (fmc))) :: (amw, .inl (cI, 5, .inl (fmw))) :: (ams, .inl (cI, 5, .inl (fms))) :: (amv, .inl (cI, 5, .inl (fmv))) :: (amp, .inl (cI, 17, .inl (fmp))) :: (amq, .inl (cI, 17, .inl (fmq))) :: (amr, .inl (cI, 15, .inl (fmr))) :: (amx, .inl (cI, 15, .inl (fmx))) :: (amb, .inl (cI, 238, .inl (fmb))) :: (amk, .inl (cI, 34, .inl (fmk))) :: (amz, .inl (cZ, 2, .inl (fmz))) :: rest) := by
  refine MI.of [.ref aM, .int (nI q), .null] (by decide) (Nat.le_of_ble_eq_true rfl) rfl ?_
  intro p e s m below meth c A C0 hr
  refine ww_aload_n C0 dX5_again_0 rfl ?_
  refine ww_iconst (v := (0)) C0 dX5_again_1 rfl ?_
  refine ww_put C0 (ci := 5) (C := RX5) (T := TX5) (N := 33) ku_X5 0 rfl rfl 0 (by decide) tyX5 tyX5_ok nmX5 kw_X5_68 rfl (ty := .int) (by decide +kernel) rfl rfl (Nat.le_of_ble_eq_true rfl) dX5_again_2 ?_
  simp only [List.set_cons_zero, List.set_cons_succ]
  refine ww_iload_n C0 dX5_again_5 rfl ?_
  refine ww_i2l C0 dX5_again_6 ?_
  refine ww_lconst (v := 0) C0 dX5_again_7 rfl ?_
  refine ww_lconst (v := 1) C0 dX5_again_8 rfl ?_
  refine ww_callSi C0 (c_X5_in0 l D cI cZ cQ 2 (by decide) (by decide)) kd_X5_in kw_X5_75 ks_X5_in ki_X5 hd_X5_in ⟨Nat.le_of_ble_eq_true rfl, Nat.le_of_ble_eq_true rfl, rfl, rfl⟩ (Nat.le_of_ble_eq_true rfl) dX5_again_9 rfl rfl ⟨Nat.zero_le _, Nat.zero_le _⟩ ?_
  refine ww_bif_ne (tgt := 17) C0 dX5_again_12 (by decide) (fun h12 => ?_) (fun h12 => ?_)
  · skip
    refine ww_aload_n C0 dX5_again_17 rfl ?_
    refine ww_get C0 (ci := 5) (C := RX5) (T := TX5) (N := 33) ku_X5 0 rfl rfl 19 (by decide) kw_X5_43 rfl dX5_again_18 ?_
    refine ww_iload_n C0 dX5_again_21 rfl ?_
    refine ww_zald_n (j := q) C0 12 1 rfl rfl rfl (by omega) (by decide) dX5_again_22 ?_
    refine ww_if_ne (tgt := 29) C0 dX5_again_23 (by decide) (fun h23 => ?_) (fun h23 => ?_)
    · skip
      exact absurd hz h23
    · skip
      refine ww_bipush (v := (-3)) C0 dX5_again_26 rfl ?_
      exact ww_iret C0 hr dX5_again_28 (by rfl) (by rfl)
  · skip
    exact absurd (isN_nI (by omega) hq) (by rw [h12]; decide)

set_option maxHeartbeats 4000000 in
set_option maxRecDepth 100000 in
theorem c_X5_again (l : Launch) (D : va_G) (cI cZ cQ : ClassId) {aM amt amc amw ams amv amr amx amp amq amb amk amz am0 am1 am2 am3 am4 amh amo : Nat} {tn nm na ac gn : Nat} {th vpl vrm vra x0 x1 x2 x3 : Int32} {sd : Int64} {fmt fmc fmw fms fmv fmp fmq fmr fmx fmb fmk fmz : Nat → Int32} {rest : va_W} {q : Nat} (hq : q < 2) (hz : ¬ fmz q = 0) : MI l D [(cI, .int), (cZ, .boolean), (cQ, .object "MulesRemember$State")] yX5_again cX5_again 3 .int ({ frames := 1, cells := 0, slots := 0, locals := 25 } : Room) [.ref aM, .int (nI q)] ((aM, .inr (5, [.int th, .ref amt, .int (nI tn), .int vpl, .int (nI nm), .ref amc, .int (nI na), .ref amw, .ref ams, .ref amv, .int vrm, .ref amr, .int vra, .ref amx, .ref amp, .ref amq, .ref amb, .int (nI ac), .ref amk, .ref amz, .int (nI gn), .ref am0, .ref am1, .ref am2, .ref am3, .ref am4, .long sd, .ref amh, .int x0, .int x1, .int x2, .int x3, .ref amo])) :: (amt, .inl (cI, 48, .inl (fmt))) :: (amc, .inl (cI, 5, .inl (fmc))) :: (amw, .inl (cI, 5, .inl (fmw))) :: (ams, .inl (cI, 5, .inl (fms))) :: (amv, .inl (cI, 5, .inl (fmv))) :: (amp, .inl (cI, 17, .inl (fmp))) :: (amq, .inl (cI, 17, .inl (fmq))) :: (amr, .inl (cI, 15, .inl (fmr))) :: (amx, .inl (cI, 15, .inl (fmx))) :: (amb, .inl (cI, 238, .inl (fmb))) :: (amk, .inl (cI, 34, .inl (fmk))) :: (amz, .inl (cZ, 2, .inl (fmz))) :: rest) (fmk (17 * q + 15)) ((aM, .inr (5, [.int 0, .ref amt, .int (nI tn), .int vpl, .int (nI nm), .ref amc, .int (nI na), .ref amw, .ref ams, .ref amv, .int vrm, .ref amr, .int vra, .ref amx, .ref amp, .ref amq, .ref amb, .int (nI 0), .ref amk, .ref amz, .int (nI gn), .ref am0, .ref am1, .ref am2, .ref am3, .ref am4, .long sd, .ref amh, .int x0, .int x1, .int x2, .int x3, .ref amo])) :: (amt, .inl (cI, 48, .inl (fmt))) :: (amc, .inl (cI, 5, .inl (fmc))) :: (amw, .inl (cI, 5, .inl (fmw))) :: (ams, .inl (cI, 5, .inl (fms))) :: (amv, .inl (cI, 5, .inl (fmv))) :: (amp, .inl (cI, 17, .inl ((fun j => fmk (17 * q + j))))) :: (amq, .inl (cI, 17, .inl (fmq))) :: (amr, .inl (cI, 15, .inl (fmr))) :: (amx, .inl (cI, 15, .inl (fmx))) :: (amb, .inl (cI, 238, .inl (fmb))) :: (amk, .inl (cI, 34, .inl (fmk))) :: (amz, .inl (cZ, 2, .inl (fmz))) :: rest) := by
  refine MI.of [.ref aM, .int (nI q), .null] (by decide) (Nat.le_of_ble_eq_true rfl) rfl ?_
  intro p e s m below meth c A C0 hr
  refine ww_aload_n C0 dX5_again_0 rfl ?_
  refine ww_iconst (v := (0)) C0 dX5_again_1 rfl ?_
  refine ww_put C0 (ci := 5) (C := RX5) (T := TX5) (N := 33) ku_X5 0 rfl rfl 0 (by decide) tyX5 tyX5_ok nmX5 kw_X5_68 rfl (ty := .int) (by decide +kernel) rfl rfl (Nat.le_of_ble_eq_true rfl) dX5_again_2 ?_
  simp only [List.set_cons_zero, List.set_cons_succ]
  refine ww_iload_n C0 dX5_again_5 rfl ?_
  refine ww_i2l C0 dX5_again_6 ?_
  refine ww_lconst (v := 0) C0 dX5_again_7 rfl ?_
  refine ww_lconst (v := 1) C0 dX5_again_8 rfl ?_
  refine ww_callSi C0 (c_X5_in0 l D cI cZ cQ 2 (by decide) (by decide)) kd_X5_in kw_X5_75 ks_X5_in ki_X5 hd_X5_in ⟨Nat.le_of_ble_eq_true rfl, Nat.le_of_ble_eq_true rfl, rfl, rfl⟩ (Nat.le_of_ble_eq_true rfl) dX5_again_9 rfl rfl ⟨Nat.zero_le _, Nat.zero_le _⟩ ?_
  refine ww_bif_ne (tgt := 17) C0 dX5_again_12 (by decide) (fun h12 => ?_) (fun h12 => ?_)
  · skip
    refine ww_aload_n C0 dX5_again_17 rfl ?_
    refine ww_get C0 (ci := 5) (C := RX5) (T := TX5) (N := 33) ku_X5 0 rfl rfl 19 (by decide) kw_X5_43 rfl dX5_again_18 ?_
    refine ww_iload_n C0 dX5_again_21 rfl ?_
    refine ww_zald_n (j := q) C0 12 1 rfl rfl rfl (by omega) (by decide) dX5_again_22 ?_
    refine ww_if_ne (tgt := 29) C0 dX5_again_23 (by decide) (fun h23 => ?_) (fun h23 => ?_)
    · skip
      refine ww_iconst (v := (0)) C0 dX5_again_29 rfl ?_
      refine ww_istore_n (i := 2) C0 dX5_again_30 rfl (Nat.le_of_ble_eq_true rfl) rfl ?_
      simp only [List.set_cons_zero, List.set_cons_succ]
      refine ww_back (ww_loop (pc := 31) 0 (17) (by omega) (fun j => [_, _, .int (nI j)]) (fun j => (aM, .inr (5, [.int 0, .ref amt, .int (nI tn), .int vpl, .int (nI nm), .ref amc, .int (nI na), .ref amw, .ref ams, .ref amv, .int vrm, .ref amr, .int vra, .ref amx, .ref amp, .ref amq, .ref amb, .int (nI ac), .ref amk, .ref amz, .int (nI gn), .ref am0, .ref am1, .ref am2, .ref am3, .ref am4, .long sd, .ref amh, .int x0, .int x1, .int x2, .int x3, .ref amo])) :: (amt, .inl (cI, 48, .inl (fmt))) :: (amc, .inl (cI, 5, .inl (fmc))) :: (amw, .inl (cI, 5, .inl (fmw))) :: (ams, .inl (cI, 5, .inl (fms))) :: (amv, .inl (cI, 5, .inl (fmv))) :: (amp, .inl (cI, 17, .inl (cpyF (fun j => fmk (17 * q + j)) fmp j))) :: (amq, .inl (cI, 17, .inl (fmq))) :: (amr, .inl (cI, 15, .inl (fmr))) :: (amx, .inl (cI, 15, .inl (fmx))) :: (amb, .inl (cI, 238, .inl (fmb))) :: (amk, .inl (cI, 34, .inl (fmk))) :: (amz, .inl (cZ, 2, .inl (fmz))) :: rest) ?_ ?_) ⟨Or.inr rfl, Or.inr rfl, Or.inr rfl, trivial⟩ (by (rw [cpyF_0]))
      · intro j hj0 hj ih
        refine ww_iload_n C0 dX5_again_31 rfl ?_
        refine ww_bipush (v := (17)) C0 dX5_again_32 rfl ?_
        refine ww_icmp_ge (tgt := 60) C0 dX5_again_34 (by decide) (fun h34 => ?_) (fun h34 => ?_)
        · skip
          replace h34 := (nI_leE (a := 17) (b := j) rfl rfl (by omega) (by omega)).mp h34
          exfalso; omega
        · skip
          replace h34 := (not_congr (nI_leE (a := 17) (b := j) rfl rfl (by omega) (by omega))).mp h34
          refine ww_aload_n C0 dX5_again_37 rfl ?_
          refine ww_get C0 (ci := 5) (C := RX5) (T := TX5) (N := 33) ku_X5 0 rfl rfl 14 (by decide) kw_X5_31 rfl dX5_again_38 ?_
          refine ww_iload_n C0 dX5_again_41 rfl ?_
          refine ww_aload_n C0 dX5_again_42 rfl ?_
          refine ww_get C0 (ci := 5) (C := RX5) (T := TX5) (N := 33) ku_X5 0 rfl rfl 18 (by decide) kw_X5_40 rfl dX5_again_43 ?_
          refine ww_bipush (v := (17)) C0 dX5_again_46 rfl ?_
          refine ww_iload_n C0 dX5_again_48 rfl ?_
          refine ww_imul C0 dX5_again_49 ?_
          refine ww_iload_n C0 dX5_again_50 rfl ?_
          refine ww_iadd C0 dX5_again_51 ?_
          refine ww_iald_n (j := (17 * q) + j) C0 11 0 rfl rfl (nI_addE (a := 17 * q) (b := j) (nI_mulE (a := 17) (b := q) rfl rfl) rfl) (by omega) (by decide) dX5_again_52 ?_
          refine ww_iast_n (j := j) C0 6 0 rfl rfl rfl (by omega) (by decide) dX5_again_53 ?_
          simp only [List.set_cons_zero, List.set_cons_succ]
          refine ww_iinc (d := 1) C0 dX5_again_54 rfl rfl rfl ?_
          simp only [List.set_cons_zero, List.set_cons_succ]
          refine ww_goto (tgt := 31) C0 dX5_again_57 (by decide) ?_
          exact ww_back ih ⟨Or.inr rfl, Or.inr rfl, Or.inr (congrArg Value.int (nI_addE (a := j) (b := 1) rfl rfl).symm), trivial⟩ (by (simp only [← cpyF_s]))
      · skip
        refine ww_iload_n C0 dX5_again_31 rfl ?_
        refine ww_bipush (v := (17)) C0 dX5_again_32 rfl ?_
        refine ww_icmp_ge (tgt := 60) C0 dX5_again_34 (by decide) (fun h34 => ?_) (fun h34 => ?_)
        · skip
          replace h34 := (nI_leE (a := 17) (b := 17) rfl rfl (by omega) (by omega)).mp h34
          refine ww_arr 6 (fun j => fmk (17 * q + j)) rfl (fun j hj => by simp [cpyF, hj]) ?_
          simp only [List.set_cons_zero, List.set_cons_succ]
          refine ww_aload_n C0 dX5_again_60 rfl ?_
          refine ww_iconst (v := (0)) C0 dX5_again_61 rfl ?_
          refine ww_put C0 (ci := 5) (C := RX5) (T := TX5) (N := 33) ku_X5 0 rfl rfl 17 (by decide) tyX5 tyX5_ok nmX5 kw_X5_114 rfl (ty := .int) (by decide +kernel) rfl rfl (Nat.le_of_ble_eq_true rfl) dX5_again_62 ?_
          simp only [List.set_cons_zero, List.set_cons_succ]
          refine ww_aload_n C0 dX5_again_65 rfl ?_
          refine ww_get C0 (ci := 5) (C := RX5) (T := TX5) (N := 33) ku_X5 0 rfl rfl 14 (by decide) kw_X5_31 rfl dX5_again_66 ?_
          refine ww_bipush (v := (15)) C0 dX5_again_69 rfl ?_
          refine ww_iald_n (j := 15) C0 6 0 rfl rfl rfl (by omega) (by decide) dX5_again_71 ?_
          exact ww_iret C0 hr dX5_again_72 (by rfl) (by rfl)
        · skip
          replace h34 := (not_congr (nI_leE (a := 17) (b := 17) rfl rfl (by omega) (by omega))).mp h34
          exfalso; omega
    · skip
      exact absurd h23 hz
  · skip
    exact absurd (isN_nI (by omega) hq) (by rw [h12]; decide)
