set_option maxHeartbeats 4000000 in
set_option maxRecDepth 100000 in
theorem law_0 {p : Program} {l : Launch} {e : Env} {s : State} {m : MethodId} {below : List Frame} {meth : Method} {c : Code} {Q : State → Prop} {D : va_G} {b L : Nat} {xs : Nat → Int32} {A : Ad} {S : St} {j : Nat} (C0 : CT p s m #[Value.ref b] meth c cL_law RL 4 (fun q => s.heap.size ≤ q)) (hX : va_X b L xs s s.heap) (hbl : b < s.heap.size) (hL : L ≤ 3072) (h : INV A S) (hj : 6 * j + 6 ≤ L) (ih : ∀ T : St, INV A T → WW p l e room_1 s m #[Value.ref b] below meth c Q D (fun q => s.heap.size ≤ q) 4 (TY3 A) 110 1019 1077 [.ref b, .ref A.aX, .ref A.aM, .int (nI (6 * j))] [] (XW A T (MW A T []))) : WW p l e room_1 s m #[Value.ref b] below meth c Q D (fun q => s.heap.size ≤ q) 4 (TY3 A) 110 1019 168 [.ref b, .ref A.aX, .ref A.aM, .int (nI (6 * j))] [] (XW A S (MW A S [])) := by
  obtain ⟨r, T, hT, cx, cm⟩ := p_write l D h (x := xs (6 * j + 1))
  refine ww_aload_n C0 dL_law_168 rfl ?_
  refine ww_arg C0 hX hbl (Nat.not_le.mpr hbl) hL 1 rfl (by omega) dL_law_169 dL_law_170 dL_law_171 dL_law_172 dL_law_173 ?_
  refine ww_callVi C0 (qc := (RX4, TX4, 14)) 0 4 (cx _) kd_X4_write kw_L_13 km_X4_write kl_X4_write ki_X4 hd_X4_write rfl rfl ⟨Nat.le_of_ble_eq_true rfl, Nat.le_of_ble_eq_true rfl, rfl, rfl⟩ (Nat.le_of_ble_eq_true rfl) dL_law_174 rfl rfl rfl ⟨Nat.le_of_ble_eq_true rfl, Nat.le_of_ble_eq_true rfl⟩ ?_
  refine ww_perm (XM_perm A T S []) ?_
  refine ww_aload_n C0 dL_law_177 rfl ?_
  refine ww_arg C0 hX hbl (Nat.not_le.mpr hbl) hL 1 rfl (by omega) dL_law_178 dL_law_179 dL_law_180 dL_law_181 dL_law_182 ?_
  refine ww_callVi C0 (qc := (RX5, TX5, 33)) 0 5 (cm _) kd_X5_write kw_L_17 km_X5_write kl_X5_write ki_X5 hd_X5_write rfl rfl ⟨Nat.le_of_ble_eq_true rfl, Nat.le_of_ble_eq_true rfl, rfl, rfl⟩ (Nat.le_of_ble_eq_true rfl) dL_law_183 rfl rfl rfl ⟨Nat.le_of_ble_eq_true rfl, Nat.le_of_ble_eq_true rfl⟩ ?_
  refine ww_perm (MX_perm A T T []) ?_
  exact ww_icmp_eq (tgt := 1077) C0 dL_law_186 (by decide) (fun _ => ih T hT) (fun z => absurd rfl z)
set_option maxHeartbeats 4000000 in
set_option maxRecDepth 100000 in
theorem law_1 {p : Program} {l : Launch} {e : Env} {s : State} {m : MethodId} {below : List Frame} {meth : Method} {c : Code} {Q : State → Prop} {D : va_G} {b L : Nat} {xs : Nat → Int32} {A : Ad} {S : St} {j : Nat} (C0 : CT p s m #[Value.ref b] meth c cL_law RL 4 (fun q => s.heap.size ≤ q)) (hX : va_X b L xs s s.heap) (hbl : b < s.heap.size) (hL : L ≤ 3072) (h : INV A S) (hj : 6 * j + 6 ≤ L) (ih : ∀ T : St, INV A T → WW p l e room_1 s m #[Value.ref b] below meth c Q D (fun q => s.heap.size ≤ q) 4 (TY3 A) 110 1019 1077 [.ref b, .ref A.aX, .ref A.aM, .int (nI (6 * j))] [] (XW A T (MW A T []))) : WW p l e room_1 s m #[Value.ref b] below meth c Q D (fun q => s.heap.size ≤ q) 4 (TY3 A) 110 1019 191 [.ref b, .ref A.aX, .ref A.aM, .int (nI (6 * j))] [] (XW A S (MW A S [])) := by
  obtain ⟨r, T, hT, cx, cm⟩ := p_wipe l D h 
  refine ww_aload_n C0 dL_law_191 rfl ?_
  refine ww_callVi C0 (qc := (RX4, TX4, 14)) 0 4 (cx _) kd_X4_wipe kw_L_18 km_X4_wipe kl_X4_wipe ki_X4 hd_X4_wipe rfl rfl ⟨Nat.le_of_ble_eq_true rfl, Nat.le_of_ble_eq_true rfl, rfl, rfl⟩ (Nat.le_of_ble_eq_true rfl) dL_law_192 rfl rfl rfl ⟨Nat.le_of_ble_eq_true rfl, Nat.le_of_ble_eq_true rfl⟩ ?_
  refine ww_perm (XM_perm A T S []) ?_
  refine ww_aload_n C0 dL_law_195 rfl ?_
  refine ww_callVi C0 (qc := (RX5, TX5, 33)) 0 5 (cm _) kd_X5_wipe kw_L_22 km_X5_wipe kl_X5_wipe ki_X5 hd_X5_wipe rfl rfl ⟨Nat.le_of_ble_eq_true rfl, Nat.le_of_ble_eq_true rfl, rfl, rfl⟩ (Nat.le_of_ble_eq_true rfl) dL_law_196 rfl rfl rfl ⟨Nat.le_of_ble_eq_true rfl, Nat.le_of_ble_eq_true rfl⟩ ?_
  refine ww_perm (MX_perm A T T []) ?_
  exact ww_icmp_eq (tgt := 1077) C0 dL_law_199 (by decide) (fun _ => ih T hT) (fun z => absurd rfl z)
set_option maxHeartbeats 4000000 in
set_option maxRecDepth 100000 in
theorem law_2 {p : Program} {l : Launch} {e : Env} {s : State} {m : MethodId} {below : List Frame} {meth : Method} {c : Code} {Q : State → Prop} {D : va_G} {b L : Nat} {xs : Nat → Int32} {A : Ad} {S : St} {j : Nat} (C0 : CT p s m #[Value.ref b] meth c cL_law RL 4 (fun q => s.heap.size ≤ q)) (hX : va_X b L xs s s.heap) (hbl : b < s.heap.size) (hL : L ≤ 3072) (h : INV A S) (hj : 6 * j + 6 ≤ L) (ih : ∀ T : St, INV A T → WW p l e room_1 s m #[Value.ref b] below meth c Q D (fun q => s.heap.size ≤ q) 4 (TY3 A) 110 1019 1077 [.ref b, .ref A.aX, .ref A.aM, .int (nI (6 * j))] [] (XW A T (MW A T []))) : WW p l e room_1 s m #[Value.ref b] below meth c Q D (fun q => s.heap.size ≤ q) 4 (TY3 A) 110 1019 204 [.ref b, .ref A.aX, .ref A.aM, .int (nI (6 * j))] [] (XW A S (MW A S [])) := by
  obtain ⟨r, T, hT, cx, cm⟩ := p_fault l D h 
  refine ww_aload_n C0 dL_law_204 rfl ?_
  refine ww_callVi C0 (qc := (RX4, TX4, 14)) 0 4 (cx _) kd_X4_fault kw_L_23 km_X4_fault kl_X4_fault ki_X4 hd_X4_fault rfl rfl ⟨Nat.le_of_ble_eq_true rfl, Nat.le_of_ble_eq_true rfl, rfl, rfl⟩ (Nat.le_of_ble_eq_true rfl) dL_law_205 rfl rfl rfl ⟨Nat.le_of_ble_eq_true rfl, Nat.le_of_ble_eq_true rfl⟩ ?_
  refine ww_perm (XM_perm A T S []) ?_
  refine ww_aload_n C0 dL_law_208 rfl ?_
  refine ww_callVi C0 (qc := (RX5, TX5, 33)) 0 5 (cm _) kd_X5_fault kw_L_26 km_X5_fault kl_X5_fault ki_X5 hd_X5_fault rfl rfl ⟨Nat.le_of_ble_eq_true rfl, Nat.le_of_ble_eq_true rfl, rfl, rfl⟩ (Nat.le_of_ble_eq_true rfl) dL_law_209 rfl rfl rfl ⟨Nat.le_of_ble_eq_true rfl, Nat.le_of_ble_eq_true rfl⟩ ?_
  refine ww_perm (MX_perm A T T []) ?_
  exact ww_icmp_eq (tgt := 1077) C0 dL_law_212 (by decide) (fun _ => ih T hT) (fun z => absurd rfl z)
set_option maxHeartbeats 4000000 in
set_option maxRecDepth 100000 in
theorem law_3 {p : Program} {l : Launch} {e : Env} {s : State} {m : MethodId} {below : List Frame} {meth : Method} {c : Code} {Q : State → Prop} {D : va_G} {b L : Nat} {xs : Nat → Int32} {A : Ad} {S : St} {j : Nat} (C0 : CT p s m #[Value.ref b] meth c cL_law RL 4 (fun q => s.heap.size ≤ q)) (hX : va_X b L xs s s.heap) (hbl : b < s.heap.size) (hL : L ≤ 3072) (h : INV A S) (hj : 6 * j + 6 ≤ L) (ih : ∀ T : St, INV A T → WW p l e room_1 s m #[Value.ref b] below meth c Q D (fun q => s.heap.size ≤ q) 4 (TY3 A) 110 1019 1077 [.ref b, .ref A.aX, .ref A.aM, .int (nI (6 * j))] [] (XW A T (MW A T []))) : WW p l e room_1 s m #[Value.ref b] below meth c Q D (fun q => s.heap.size ≤ q) 4 (TY3 A) 110 1019 217 [.ref b, .ref A.aX, .ref A.aM, .int (nI (6 * j))] [] (XW A S (MW A S [])) := by
  obtain ⟨r, T, hT, cx, cm⟩ := p_treaty l D h 
  refine ww_aload_n C0 dL_law_217 rfl ?_
  refine ww_callVi C0 (qc := (RX4, TX4, 14)) 0 4 (cx _) kd_X4_treaty kw_L_27 km_X4_treaty kl_X4_treaty ki_X4 hd_X4_treaty rfl rfl ⟨Nat.le_of_ble_eq_true rfl, Nat.le_of_ble_eq_true rfl, rfl, rfl⟩ (Nat.le_of_ble_eq_true rfl) dL_law_218 rfl rfl rfl ⟨Nat.le_of_ble_eq_true rfl, Nat.le_of_ble_eq_true rfl⟩ ?_
  refine ww_perm (XM_perm A T S []) ?_
  refine ww_aload_n C0 dL_law_221 rfl ?_
  refine ww_callVi C0 (qc := (RX5, TX5, 33)) 0 5 (cm _) kd_X5_treaty kw_L_30 km_X5_treaty kl_X5_treaty ki_X5 hd_X5_treaty rfl rfl ⟨Nat.le_of_ble_eq_true rfl, Nat.le_of_ble_eq_true rfl, rfl, rfl⟩ (Nat.le_of_ble_eq_true rfl) dL_law_222 rfl rfl rfl ⟨Nat.le_of_ble_eq_true rfl, Nat.le_of_ble_eq_true rfl⟩ ?_
  refine ww_perm (MX_perm A T T []) ?_
  exact ww_icmp_eq (tgt := 1077) C0 dL_law_225 (by decide) (fun _ => ih T hT) (fun z => absurd rfl z)
set_option maxHeartbeats 4000000 in
set_option maxRecDepth 100000 in
theorem law_4 {p : Program} {l : Launch} {e : Env} {s : State} {m : MethodId} {below : List Frame} {meth : Method} {c : Code} {Q : State → Prop} {D : va_G} {b L : Nat} {xs : Nat → Int32} {A : Ad} {S : St} {j : Nat} (C0 : CT p s m #[Value.ref b] meth c cL_law RL 4 (fun q => s.heap.size ≤ q)) (hX : va_X b L xs s s.heap) (hbl : b < s.heap.size) (hL : L ≤ 3072) (h : INV A S) (hj : 6 * j + 6 ≤ L) (ih : ∀ T : St, INV A T → WW p l e room_1 s m #[Value.ref b] below meth c Q D (fun q => s.heap.size ≤ q) 4 (TY3 A) 110 1019 1077 [.ref b, .ref A.aX, .ref A.aM, .int (nI (6 * j))] [] (XW A T (MW A T []))) : WW p l e room_1 s m #[Value.ref b] below meth c Q D (fun q => s.heap.size ≤ q) 4 (TY3 A) 110 1019 230 [.ref b, .ref A.aX, .ref A.aM, .int (nI (6 * j))] [] (XW A S (MW A S [])) := by
  obtain ⟨r, T, hT, cx, cm⟩ := p_about l D h (x := xs (6 * j + 1))
  refine ww_aload_n C0 dL_law_230 rfl ?_
  refine ww_arg C0 hX hbl (Nat.not_le.mpr hbl) hL 1 rfl (by omega) dL_law_231 dL_law_232 dL_law_233 dL_law_234 dL_law_235 ?_
  refine ww_callVi C0 (qc := (RX4, TX4, 14)) 0 4 (cx _) kd_X4_about kw_L_31 km_X4_about kl_X4_about ki_X4 hd_X4_about rfl rfl ⟨Nat.le_of_ble_eq_true rfl, Nat.le_of_ble_eq_true rfl, rfl, rfl⟩ (Nat.le_of_ble_eq_true rfl) dL_law_236 rfl rfl rfl ⟨Nat.le_of_ble_eq_true rfl, Nat.le_of_ble_eq_true rfl⟩ ?_
  refine ww_perm (XM_perm A T S []) ?_
  refine ww_aload_n C0 dL_law_239 rfl ?_
  refine ww_arg C0 hX hbl (Nat.not_le.mpr hbl) hL 1 rfl (by omega) dL_law_240 dL_law_241 dL_law_242 dL_law_243 dL_law_244 ?_
  refine ww_callVi C0 (qc := (RX5, TX5, 33)) 0 5 (cm _) kd_X5_about kw_L_34 km_X5_about kl_X5_about ki_X5 hd_X5_about rfl rfl ⟨Nat.le_of_ble_eq_true rfl, Nat.le_of_ble_eq_true rfl, rfl, rfl⟩ (Nat.le_of_ble_eq_true rfl) dL_law_245 rfl rfl rfl ⟨Nat.le_of_ble_eq_true rfl, Nat.le_of_ble_eq_true rfl⟩ ?_
  refine ww_perm (MX_perm A T T []) ?_
  exact ww_icmp_eq (tgt := 1077) C0 dL_law_248 (by decide) (fun _ => ih T hT) (fun z => absurd rfl z)
set_option maxHeartbeats 4000000 in
set_option maxRecDepth 100000 in
theorem law_5 {p : Program} {l : Launch} {e : Env} {s : State} {m : MethodId} {below : List Frame} {meth : Method} {c : Code} {Q : State → Prop} {D : va_G} {b L : Nat} {xs : Nat → Int32} {A : Ad} {S : St} {j : Nat} (C0 : CT p s m #[Value.ref b] meth c cL_law RL 4 (fun q => s.heap.size ≤ q)) (hX : va_X b L xs s s.heap) (hbl : b < s.heap.size) (hL : L ≤ 3072) (h : INV A S) (hj : 6 * j + 6 ≤ L) (ih : ∀ T : St, INV A T → WW p l e room_1 s m #[Value.ref b] below meth c Q D (fun q => s.heap.size ≤ q) 4 (TY3 A) 110 1019 1077 [.ref b, .ref A.aX, .ref A.aM, .int (nI (6 * j))] [] (XW A T (MW A T []))) : WW p l e room_1 s m #[Value.ref b] below meth c Q D (fun q => s.heap.size ≤ q) 4 (TY3 A) 110 1019 253 [.ref b, .ref A.aX, .ref A.aM, .int (nI (6 * j))] [] (XW A S (MW A S [])) := by
  obtain ⟨r, T, hT, cx, cm⟩ := p_article l D h (m := xs (6 * j + 1)) (x := xs (6 * j + 2))
  refine ww_aload_n C0 dL_law_253 rfl ?_
  refine ww_arg C0 hX hbl (Nat.not_le.mpr hbl) hL 1 rfl (by omega) dL_law_254 dL_law_255 dL_law_256 dL_law_257 dL_law_258 ?_
  refine ww_arg C0 hX hbl (Nat.not_le.mpr hbl) hL 2 rfl (by omega) dL_law_259 dL_law_260 dL_law_261 dL_law_262 dL_law_263 ?_
  refine ww_callVi C0 (qc := (RX4, TX4, 14)) 0 4 (cx _) kd_X4_article kw_L_35 km_X4_article kl_X4_article ki_X4 hd_X4_article rfl rfl ⟨Nat.le_of_ble_eq_true rfl, Nat.le_of_ble_eq_true rfl, rfl, rfl⟩ (Nat.le_of_ble_eq_true rfl) dL_law_264 rfl rfl rfl ⟨Nat.le_of_ble_eq_true rfl, Nat.le_of_ble_eq_true rfl⟩ ?_
  refine ww_perm (XM_perm A T S []) ?_
  refine ww_aload_n C0 dL_law_267 rfl ?_
  refine ww_arg C0 hX hbl (Nat.not_le.mpr hbl) hL 1 rfl (by omega) dL_law_268 dL_law_269 dL_law_270 dL_law_271 dL_law_272 ?_
  refine ww_arg C0 hX hbl (Nat.not_le.mpr hbl) hL 2 rfl (by omega) dL_law_273 dL_law_274 dL_law_275 dL_law_276 dL_law_277 ?_
  refine ww_callVi C0 (qc := (RX5, TX5, 33)) 0 5 (cm _) kd_X5_article kw_L_39 km_X5_article kl_X5_article ki_X5 hd_X5_article rfl rfl ⟨Nat.le_of_ble_eq_true rfl, Nat.le_of_ble_eq_true rfl, rfl, rfl⟩ (Nat.le_of_ble_eq_true rfl) dL_law_278 rfl rfl rfl ⟨Nat.le_of_ble_eq_true rfl, Nat.le_of_ble_eq_true rfl⟩ ?_
  refine ww_perm (MX_perm A T T []) ?_
  exact ww_icmp_eq (tgt := 1077) C0 dL_law_281 (by decide) (fun _ => ih T hT) (fun z => absurd rfl z)
set_option maxHeartbeats 4000000 in
set_option maxRecDepth 100000 in
theorem law_6 {p : Program} {l : Launch} {e : Env} {s : State} {m : MethodId} {below : List Frame} {meth : Method} {c : Code} {Q : State → Prop} {D : va_G} {b L : Nat} {xs : Nat → Int32} {A : Ad} {S : St} {j : Nat} (C0 : CT p s m #[Value.ref b] meth c cL_law RL 4 (fun q => s.heap.size ≤ q)) (hX : va_X b L xs s s.heap) (hbl : b < s.heap.size) (hL : L ≤ 3072) (h : INV A S) (hj : 6 * j + 6 ≤ L) (ih : ∀ T : St, INV A T → WW p l e room_1 s m #[Value.ref b] below meth c Q D (fun q => s.heap.size ≤ q) 4 (TY3 A) 110 1019 1077 [.ref b, .ref A.aX, .ref A.aM, .int (nI (6 * j))] [] (XW A T (MW A T []))) : WW p l e room_1 s m #[Value.ref b] below meth c Q D (fun q => s.heap.size ≤ q) 4 (TY3 A) 110 1019 286 [.ref b, .ref A.aX, .ref A.aM, .int (nI (6 * j))] [] (XW A S (MW A S [])) := by
  obtain ⟨r, T, hT, cx, cm⟩ := p_mule l D h (m := xs (6 * j + 1)) (x := xs (6 * j + 2))
  refine ww_aload_n C0 dL_law_286 rfl ?_
  refine ww_arg C0 hX hbl (Nat.not_le.mpr hbl) hL 1 rfl (by omega) dL_law_287 dL_law_288 dL_law_289 dL_law_290 dL_law_291 ?_
  refine ww_arg C0 hX hbl (Nat.not_le.mpr hbl) hL 2 rfl (by omega) dL_law_292 dL_law_293 dL_law_294 dL_law_295 dL_law_296 ?_
  refine ww_callVi C0 (qc := (RX4, TX4, 14)) 0 4 (cx _) kd_X4_mule kw_L_40 km_X4_mule kl_X4_mule ki_X4 hd_X4_mule rfl rfl ⟨Nat.le_of_ble_eq_true rfl, Nat.le_of_ble_eq_true rfl, rfl, rfl⟩ (Nat.le_of_ble_eq_true rfl) dL_law_297 rfl rfl rfl ⟨Nat.le_of_ble_eq_true rfl, Nat.le_of_ble_eq_true rfl⟩ ?_
  refine ww_perm (XM_perm A T S []) ?_
  refine ww_aload_n C0 dL_law_300 rfl ?_
  refine ww_arg C0 hX hbl (Nat.not_le.mpr hbl) hL 1 rfl (by omega) dL_law_301 dL_law_302 dL_law_303 dL_law_304 dL_law_305 ?_
  refine ww_arg C0 hX hbl (Nat.not_le.mpr hbl) hL 2 rfl (by omega) dL_law_306 dL_law_307 dL_law_308 dL_law_309 dL_law_310 ?_
  refine ww_callVi C0 (qc := (RX5, TX5, 33)) 0 5 (cm _) kd_X5_mule kw_L_43 km_X5_mule kl_X5_mule ki_X5 hd_X5_mule rfl rfl ⟨Nat.le_of_ble_eq_true rfl, Nat.le_of_ble_eq_true rfl, rfl, rfl⟩ (Nat.le_of_ble_eq_true rfl) dL_law_311 rfl rfl rfl ⟨Nat.le_of_ble_eq_true rfl, Nat.le_of_ble_eq_true rfl⟩ ?_
  refine ww_perm (MX_perm A T T []) ?_
  exact ww_icmp_eq (tgt := 1077) C0 dL_law_314 (by decide) (fun _ => ih T hT) (fun z => absurd rfl z)
set_option maxHeartbeats 4000000 in
set_option maxRecDepth 100000 in
theorem law_7 {p : Program} {l : Launch} {e : Env} {s : State} {m : MethodId} {below : List Frame} {meth : Method} {c : Code} {Q : State → Prop} {D : va_G} {b L : Nat} {xs : Nat → Int32} {A : Ad} {S : St} {j : Nat} (C0 : CT p s m #[Value.ref b] meth c cL_law RL 4 (fun q => s.heap.size ≤ q)) (hX : va_X b L xs s s.heap) (hbl : b < s.heap.size) (hL : L ≤ 3072) (h : INV A S) (hj : 6 * j + 6 ≤ L) (ih : ∀ T : St, INV A T → WW p l e room_1 s m #[Value.ref b] below meth c Q D (fun q => s.heap.size ≤ q) 4 (TY3 A) 110 1019 1077 [.ref b, .ref A.aX, .ref A.aM, .int (nI (6 * j))] [] (XW A T (MW A T []))) : WW p l e room_1 s m #[Value.ref b] below meth c Q D (fun q => s.heap.size ≤ q) 4 (TY3 A) 110 1019 319 [.ref b, .ref A.aX, .ref A.aM, .int (nI (6 * j))] [] (XW A S (MW A S [])) := by
  obtain ⟨r, T, hT, cx, cm⟩ := p_by l D h (m := xs (6 * j + 1)) (wa := xs (6 * j + 2))
  refine ww_aload_n C0 dL_law_319 rfl ?_
  refine ww_arg C0 hX hbl (Nat.not_le.mpr hbl) hL 1 rfl (by omega) dL_law_320 dL_law_321 dL_law_322 dL_law_323 dL_law_324 ?_
  refine ww_arg C0 hX hbl (Nat.not_le.mpr hbl) hL 2 rfl (by omega) dL_law_325 dL_law_326 dL_law_327 dL_law_328 dL_law_329 ?_
  refine ww_callVi C0 (qc := (RX4, TX4, 14)) 0 4 (cx _) kd_X4_by kw_L_44 km_X4_by kl_X4_by ki_X4 hd_X4_by rfl rfl ⟨Nat.le_of_ble_eq_true rfl, Nat.le_of_ble_eq_true rfl, rfl, rfl⟩ (Nat.le_of_ble_eq_true rfl) dL_law_330 rfl rfl rfl ⟨Nat.le_of_ble_eq_true rfl, Nat.le_of_ble_eq_true rfl⟩ ?_
  refine ww_perm (XM_perm A T S []) ?_
  refine ww_aload_n C0 dL_law_333 rfl ?_
  refine ww_arg C0 hX hbl (Nat.not_le.mpr hbl) hL 1 rfl (by omega) dL_law_334 dL_law_335 dL_law_336 dL_law_337 dL_law_338 ?_
  refine ww_arg C0 hX hbl (Nat.not_le.mpr hbl) hL 2 rfl (by omega) dL_law_339 dL_law_340 dL_law_341 dL_law_342 dL_law_343 ?_
  refine ww_callVi C0 (qc := (RX5, TX5, 33)) 0 5 (cm _) kd_X5_by kw_L_47 km_X5_by kl_X5_by ki_X5 hd_X5_by rfl rfl ⟨Nat.le_of_ble_eq_true rfl, Nat.le_of_ble_eq_true rfl, rfl, rfl⟩ (Nat.le_of_ble_eq_true rfl) dL_law_344 rfl rfl rfl ⟨Nat.le_of_ble_eq_true rfl, Nat.le_of_ble_eq_true rfl⟩ ?_
  refine ww_perm (MX_perm A T T []) ?_
  exact ww_icmp_eq (tgt := 1077) C0 dL_law_347 (by decide) (fun _ => ih T hT) (fun z => absurd rfl z)
set_option maxHeartbeats 4000000 in
set_option maxRecDepth 100000 in
theorem law_8 {p : Program} {l : Launch} {e : Env} {s : State} {m : MethodId} {below : List Frame} {meth : Method} {c : Code} {Q : State → Prop} {D : va_G} {b L : Nat} {xs : Nat → Int32} {A : Ad} {S : St} {j : Nat} (C0 : CT p s m #[Value.ref b] meth c cL_law RL 4 (fun q => s.heap.size ≤ q)) (hX : va_X b L xs s s.heap) (hbl : b < s.heap.size) (hL : L ≤ 3072) (h : INV A S) (hj : 6 * j + 6 ≤ L) (ih : ∀ T : St, INV A T → WW p l e room_1 s m #[Value.ref b] below meth c Q D (fun q => s.heap.size ≤ q) 4 (TY3 A) 110 1019 1077 [.ref b, .ref A.aX, .ref A.aM, .int (nI (6 * j))] [] (XW A T (MW A T []))) : WW p l e room_1 s m #[Value.ref b] below meth c Q D (fun q => s.heap.size ≤ q) 4 (TY3 A) 110 1019 352 [.ref b, .ref A.aX, .ref A.aM, .int (nI (6 * j))] [] (XW A S (MW A S [])) := by
  obtain ⟨r, T, hT, cx, cm⟩ := p_balks l D h (m := xs (6 * j + 1)) (wa := xs (6 * j + 2))
  refine ww_aload_n C0 dL_law_352 rfl ?_
  refine ww_arg C0 hX hbl (Nat.not_le.mpr hbl) hL 1 rfl (by omega) dL_law_353 dL_law_354 dL_law_355 dL_law_356 dL_law_357 ?_
  refine ww_arg C0 hX hbl (Nat.not_le.mpr hbl) hL 2 rfl (by omega) dL_law_358 dL_law_359 dL_law_360 dL_law_361 dL_law_362 ?_
  refine ww_callVi C0 (qc := (RX4, TX4, 14)) 0 4 (cx _) kd_X4_balks kw_L_48 km_X4_balks kl_X4_balks ki_X4 hd_X4_balks rfl rfl ⟨Nat.le_of_ble_eq_true rfl, Nat.le_of_ble_eq_true rfl, rfl, rfl⟩ (Nat.le_of_ble_eq_true rfl) dL_law_363 rfl rfl rfl ⟨Nat.le_of_ble_eq_true rfl, Nat.le_of_ble_eq_true rfl⟩ ?_
  refine ww_perm (XM_perm A T S []) ?_
  refine ww_aload_n C0 dL_law_366 rfl ?_
  refine ww_arg C0 hX hbl (Nat.not_le.mpr hbl) hL 1 rfl (by omega) dL_law_367 dL_law_368 dL_law_369 dL_law_370 dL_law_371 ?_
  refine ww_arg C0 hX hbl (Nat.not_le.mpr hbl) hL 2 rfl (by omega) dL_law_372 dL_law_373 dL_law_374 dL_law_375 dL_law_376 ?_
  refine ww_callVi C0 (qc := (RX5, TX5, 33)) 0 5 (cm _) kd_X5_balks kw_L_51 km_X5_balks kl_X5_balks ki_X5 hd_X5_balks rfl rfl ⟨Nat.le_of_ble_eq_true rfl, Nat.le_of_ble_eq_true rfl, rfl, rfl⟩ (Nat.le_of_ble_eq_true rfl) dL_law_377 rfl rfl rfl ⟨Nat.le_of_ble_eq_true rfl, Nat.le_of_ble_eq_true rfl⟩ ?_
  refine ww_perm (MX_perm A T T []) ?_
  exact ww_icmp_eq (tgt := 1077) C0 dL_law_380 (by decide) (fun _ => ih T hT) (fun z => absurd rfl z)
set_option maxHeartbeats 4000000 in
set_option maxRecDepth 100000 in
theorem law_9 {p : Program} {l : Launch} {e : Env} {s : State} {m : MethodId} {below : List Frame} {meth : Method} {c : Code} {Q : State → Prop} {D : va_G} {b L : Nat} {xs : Nat → Int32} {A : Ad} {S : St} {j : Nat} (C0 : CT p s m #[Value.ref b] meth c cL_law RL 4 (fun q => s.heap.size ≤ q)) (hX : va_X b L xs s s.heap) (hbl : b < s.heap.size) (hL : L ≤ 3072) (h : INV A S) (hj : 6 * j + 6 ≤ L) (ih : ∀ T : St, INV A T → WW p l e room_1 s m #[Value.ref b] below meth c Q D (fun q => s.heap.size ≤ q) 4 (TY3 A) 110 1019 1077 [.ref b, .ref A.aX, .ref A.aM, .int (nI (6 * j))] [] (XW A T (MW A T []))) : WW p l e room_1 s m #[Value.ref b] below meth c Q D (fun q => s.heap.size ≤ q) 4 (TY3 A) 110 1019 385 [.ref b, .ref A.aX, .ref A.aM, .int (nI (6 * j))] [] (XW A S (MW A S [])) := by
  obtain ⟨r, T, hT, cx, cm⟩ := p_step l D h (m := xs (6 * j + 1)) (wa := xs (6 * j + 2))
  refine ww_aload_n C0 dL_law_385 rfl ?_
  refine ww_arg C0 hX hbl (Nat.not_le.mpr hbl) hL 1 rfl (by omega) dL_law_386 dL_law_387 dL_law_388 dL_law_389 dL_law_390 ?_
  refine ww_arg C0 hX hbl (Nat.not_le.mpr hbl) hL 2 rfl (by omega) dL_law_391 dL_law_392 dL_law_393 dL_law_394 dL_law_395 ?_
  refine ww_callVi C0 (qc := (RX4, TX4, 14)) 0 4 (cx _) kd_X4_step kw_L_52 km_X4_step kl_X4_step ki_X4 hd_X4_step rfl rfl ⟨Nat.le_of_ble_eq_true rfl, Nat.le_of_ble_eq_true rfl, rfl, rfl⟩ (Nat.le_of_ble_eq_true rfl) dL_law_396 rfl rfl rfl ⟨Nat.le_of_ble_eq_true rfl, Nat.le_of_ble_eq_true rfl⟩ ?_
  refine ww_perm (XM_perm A T S []) ?_
  refine ww_aload_n C0 dL_law_399 rfl ?_
  refine ww_arg C0 hX hbl (Nat.not_le.mpr hbl) hL 1 rfl (by omega) dL_law_400 dL_law_401 dL_law_402 dL_law_403 dL_law_404 ?_
  refine ww_arg C0 hX hbl (Nat.not_le.mpr hbl) hL 2 rfl (by omega) dL_law_405 dL_law_406 dL_law_407 dL_law_408 dL_law_409 ?_
  refine ww_callVi C0 (qc := (RX5, TX5, 33)) 0 5 (cm _) kd_X5_step kw_L_55 km_X5_step kl_X5_step ki_X5 hd_X5_step rfl rfl ⟨Nat.le_of_ble_eq_true rfl, Nat.le_of_ble_eq_true rfl, rfl, rfl⟩ (Nat.le_of_ble_eq_true rfl) dL_law_410 rfl rfl rfl ⟨Nat.le_of_ble_eq_true rfl, Nat.le_of_ble_eq_true rfl⟩ ?_
  refine ww_perm (MX_perm A T T []) ?_
  exact ww_icmp_eq (tgt := 1077) C0 dL_law_413 (by decide) (fun _ => ih T hT) (fun z => absurd rfl z)
set_option maxHeartbeats 4000000 in
set_option maxRecDepth 100000 in
theorem law_10 {p : Program} {l : Launch} {e : Env} {s : State} {m : MethodId} {below : List Frame} {meth : Method} {c : Code} {Q : State → Prop} {D : va_G} {b L : Nat} {xs : Nat → Int32} {A : Ad} {S : St} {j : Nat} (C0 : CT p s m #[Value.ref b] meth c cL_law RL 4 (fun q => s.heap.size ≤ q)) (hX : va_X b L xs s s.heap) (hbl : b < s.heap.size) (hL : L ≤ 3072) (h : INV A S) (hj : 6 * j + 6 ≤ L) (ih : ∀ T : St, INV A T → WW p l e room_1 s m #[Value.ref b] below meth c Q D (fun q => s.heap.size ≤ q) 4 (TY3 A) 110 1019 1077 [.ref b, .ref A.aX, .ref A.aM, .int (nI (6 * j))] [] (XW A T (MW A T []))) : WW p l e room_1 s m #[Value.ref b] below meth c Q D (fun q => s.heap.size ≤ q) 4 (TY3 A) 110 1019 418 [.ref b, .ref A.aX, .ref A.aM, .int (nI (6 * j))] [] (XW A S (MW A S [])) := by
  obtain ⟨r, T, hT, cx, cm⟩ := p_pause l D h 
  refine ww_aload_n C0 dL_law_418 rfl ?_
  refine ww_callVi C0 (qc := (RX4, TX4, 14)) 0 4 (cx _) kd_X4_pause kw_L_56 km_X4_pause kl_X4_pause ki_X4 hd_X4_pause rfl rfl ⟨Nat.le_of_ble_eq_true rfl, Nat.le_of_ble_eq_true rfl, rfl, rfl⟩ (Nat.le_of_ble_eq_true rfl) dL_law_419 rfl rfl rfl ⟨Nat.le_of_ble_eq_true rfl, Nat.le_of_ble_eq_true rfl⟩ ?_
  refine ww_perm (XM_perm A T S []) ?_
  refine ww_aload_n C0 dL_law_422 rfl ?_
  refine ww_callVi C0 (qc := (RX5, TX5, 33)) 0 5 (cm _) kd_X5_pause kw_L_59 km_X5_pause kl_X5_pause ki_X5 hd_X5_pause rfl rfl ⟨Nat.le_of_ble_eq_true rfl, Nat.le_of_ble_eq_true rfl, rfl, rfl⟩ (Nat.le_of_ble_eq_true rfl) dL_law_423 rfl rfl rfl ⟨Nat.le_of_ble_eq_true rfl, Nat.le_of_ble_eq_true rfl⟩ ?_
  refine ww_perm (MX_perm A T T []) ?_
  exact ww_icmp_eq (tgt := 1077) C0 dL_law_426 (by decide) (fun _ => ih T hT) (fun z => absurd rfl z)
set_option maxHeartbeats 4000000 in
set_option maxRecDepth 100000 in
theorem law_11 {p : Program} {l : Launch} {e : Env} {s : State} {m : MethodId} {below : List Frame} {meth : Method} {c : Code} {Q : State → Prop} {D : va_G} {b L : Nat} {xs : Nat → Int32} {A : Ad} {S : St} {j : Nat} (C0 : CT p s m #[Value.ref b] meth c cL_law RL 4 (fun q => s.heap.size ≤ q)) (hX : va_X b L xs s s.heap) (hbl : b < s.heap.size) (hL : L ≤ 3072) (h : INV A S) (hj : 6 * j + 6 ≤ L) (ih : ∀ T : St, INV A T → WW p l e room_1 s m #[Value.ref b] below meth c Q D (fun q => s.heap.size ≤ q) 4 (TY3 A) 110 1019 1077 [.ref b, .ref A.aX, .ref A.aM, .int (nI (6 * j))] [] (XW A T (MW A T []))) : WW p l e room_1 s m #[Value.ref b] below meth c Q D (fun q => s.heap.size ≤ q) 4 (TY3 A) 110 1019 431 [.ref b, .ref A.aX, .ref A.aM, .int (nI (6 * j))] [] (XW A S (MW A S [])) := by
  obtain ⟨r, T, hT, cx, cm⟩ := p_show l D h (m0 := xs (6 * j + 1)) (m1 := xs (6 * j + 2)) (m2 := xs (6 * j + 3))
  refine ww_aload_n C0 dL_law_431 rfl ?_
  refine ww_arg C0 hX hbl (Nat.not_le.mpr hbl) hL 1 rfl (by omega) dL_law_432 dL_law_433 dL_law_434 dL_law_435 dL_law_436 ?_
  refine ww_arg C0 hX hbl (Nat.not_le.mpr hbl) hL 2 rfl (by omega) dL_law_437 dL_law_438 dL_law_439 dL_law_440 dL_law_441 ?_
  refine ww_arg C0 hX hbl (Nat.not_le.mpr hbl) hL 3 rfl (by omega) dL_law_442 dL_law_443 dL_law_444 dL_law_445 dL_law_446 ?_
  refine ww_callVi C0 (qc := (RX4, TX4, 14)) 0 4 (cx _) kd_X4_show kw_L_60 km_X4_show kl_X4_show ki_X4 hd_X4_show rfl rfl ⟨Nat.le_of_ble_eq_true rfl, Nat.le_of_ble_eq_true rfl, rfl, rfl⟩ (Nat.le_of_ble_eq_true rfl) dL_law_447 rfl rfl rfl ⟨Nat.le_of_ble_eq_true rfl, Nat.le_of_ble_eq_true rfl⟩ ?_
  refine ww_perm (XM_perm A T S []) ?_
  refine ww_aload_n C0 dL_law_450 rfl ?_
  refine ww_arg C0 hX hbl (Nat.not_le.mpr hbl) hL 1 rfl (by omega) dL_law_451 dL_law_452 dL_law_453 dL_law_454 dL_law_455 ?_
  refine ww_arg C0 hX hbl (Nat.not_le.mpr hbl) hL 2 rfl (by omega) dL_law_456 dL_law_457 dL_law_458 dL_law_459 dL_law_460 ?_
  refine ww_arg C0 hX hbl (Nat.not_le.mpr hbl) hL 3 rfl (by omega) dL_law_461 dL_law_462 dL_law_463 dL_law_464 dL_law_465 ?_
  refine ww_callVi C0 (qc := (RX5, TX5, 33)) 0 5 (cm _) kd_X5_show kw_L_64 km_X5_show kl_X5_show ki_X5 hd_X5_show rfl rfl ⟨Nat.le_of_ble_eq_true rfl, Nat.le_of_ble_eq_true rfl, rfl, rfl⟩ (Nat.le_of_ble_eq_true rfl) dL_law_466 rfl rfl rfl ⟨Nat.le_of_ble_eq_true rfl, Nat.le_of_ble_eq_true rfl⟩ ?_
  refine ww_perm (MX_perm A T T []) ?_
  exact ww_icmp_eq (tgt := 1077) C0 dL_law_469 (by decide) (fun _ => ih T hT) (fun z => absurd rfl z)
set_option maxHeartbeats 4000000 in
set_option maxRecDepth 100000 in
theorem law_12 {p : Program} {l : Launch} {e : Env} {s : State} {m : MethodId} {below : List Frame} {meth : Method} {c : Code} {Q : State → Prop} {D : va_G} {b L : Nat} {xs : Nat → Int32} {A : Ad} {S : St} {j : Nat} (C0 : CT p s m #[Value.ref b] meth c cL_law RL 4 (fun q => s.heap.size ≤ q)) (hX : va_X b L xs s s.heap) (hbl : b < s.heap.size) (hL : L ≤ 3072) (h : INV A S) (hj : 6 * j + 6 ≤ L) (ih : ∀ T : St, INV A T → WW p l e room_1 s m #[Value.ref b] below meth c Q D (fun q => s.heap.size ≤ q) 4 (TY3 A) 110 1019 1077 [.ref b, .ref A.aX, .ref A.aM, .int (nI (6 * j))] [] (XW A T (MW A T []))) : WW p l e room_1 s m #[Value.ref b] below meth c Q D (fun q => s.heap.size ≤ q) 4 (TY3 A) 110 1019 474 [.ref b, .ref A.aX, .ref A.aM, .int (nI (6 * j))] [] (XW A S (MW A S [])) := by
  obtain ⟨r, T, hT, cx, cm⟩ := p_sell l D h (m := xs (6 * j + 1))
  refine ww_aload_n C0 dL_law_474 rfl ?_
  refine ww_arg C0 hX hbl (Nat.not_le.mpr hbl) hL 1 rfl (by omega) dL_law_475 dL_law_476 dL_law_477 dL_law_478 dL_law_479 ?_
  refine ww_callVi C0 (qc := (RX4, TX4, 14)) 0 4 (cx _) kd_X4_sell kw_L_65 km_X4_sell kl_X4_sell ki_X4 hd_X4_sell rfl rfl ⟨Nat.le_of_ble_eq_true rfl, Nat.le_of_ble_eq_true rfl, rfl, rfl⟩ (Nat.le_of_ble_eq_true rfl) dL_law_480 rfl rfl rfl ⟨Nat.le_of_ble_eq_true rfl, Nat.le_of_ble_eq_true rfl⟩ ?_
  refine ww_perm (XM_perm A T S []) ?_
  refine ww_aload_n C0 dL_law_483 rfl ?_
  refine ww_arg C0 hX hbl (Nat.not_le.mpr hbl) hL 1 rfl (by omega) dL_law_484 dL_law_485 dL_law_486 dL_law_487 dL_law_488 ?_
  refine ww_callVi C0 (qc := (RX5, TX5, 33)) 0 5 (cm _) kd_X5_sell kw_L_68 km_X5_sell kl_X5_sell ki_X5 hd_X5_sell rfl rfl ⟨Nat.le_of_ble_eq_true rfl, Nat.le_of_ble_eq_true rfl, rfl, rfl⟩ (Nat.le_of_ble_eq_true rfl) dL_law_489 rfl rfl rfl ⟨Nat.le_of_ble_eq_true rfl, Nat.le_of_ble_eq_true rfl⟩ ?_
  refine ww_perm (MX_perm A T T []) ?_
  exact ww_icmp_eq (tgt := 1077) C0 dL_law_492 (by decide) (fun _ => ih T hT) (fun z => absurd rfl z)
set_option maxHeartbeats 4000000 in
set_option maxRecDepth 100000 in
theorem law_13 {p : Program} {l : Launch} {e : Env} {s : State} {m : MethodId} {below : List Frame} {meth : Method} {c : Code} {Q : State → Prop} {D : va_G} {b L : Nat} {xs : Nat → Int32} {A : Ad} {S : St} {j : Nat} (C0 : CT p s m #[Value.ref b] meth c cL_law RL 4 (fun q => s.heap.size ≤ q)) (hX : va_X b L xs s s.heap) (hbl : b < s.heap.size) (hL : L ≤ 3072) (h : INV A S) (hj : 6 * j + 6 ≤ L) (ih : ∀ T : St, INV A T → WW p l e room_1 s m #[Value.ref b] below meth c Q D (fun q => s.heap.size ≤ q) 4 (TY3 A) 110 1019 1077 [.ref b, .ref A.aX, .ref A.aM, .int (nI (6 * j))] [] (XW A T (MW A T []))) : WW p l e room_1 s m #[Value.ref b] below meth c Q D (fun q => s.heap.size ≤ q) 4 (TY3 A) 110 1019 497 [.ref b, .ref A.aX, .ref A.aM, .int (nI (6 * j))] [] (XW A S (MW A S [])) := by
  obtain ⟨r, T, hT, cx, cm⟩ := p_forget l D h (m := xs (6 * j + 1))
  refine ww_aload_n C0 dL_law_497 rfl ?_
  refine ww_arg C0 hX hbl (Nat.not_le.mpr hbl) hL 1 rfl (by omega) dL_law_498 dL_law_499 dL_law_500 dL_law_501 dL_law_502 ?_
  refine ww_callVi C0 (qc := (RX4, TX4, 14)) 0 4 (cx _) kd_X4_forget kw_L_69 km_X4_forget kl_X4_forget ki_X4 hd_X4_forget rfl rfl ⟨Nat.le_of_ble_eq_true rfl, Nat.le_of_ble_eq_true rfl, rfl, rfl⟩ (Nat.le_of_ble_eq_true rfl) dL_law_503 rfl rfl rfl ⟨Nat.le_of_ble_eq_true rfl, Nat.le_of_ble_eq_true rfl⟩ ?_
  refine ww_perm (XM_perm A T S []) ?_
  refine ww_aload_n C0 dL_law_506 rfl ?_
  refine ww_arg C0 hX hbl (Nat.not_le.mpr hbl) hL 1 rfl (by omega) dL_law_507 dL_law_508 dL_law_509 dL_law_510 dL_law_511 ?_
  refine ww_callVi C0 (qc := (RX5, TX5, 33)) 0 5 (cm _) kd_X5_forget kw_L_72 km_X5_forget kl_X5_forget ki_X5 hd_X5_forget rfl rfl ⟨Nat.le_of_ble_eq_true rfl, Nat.le_of_ble_eq_true rfl, rfl, rfl⟩ (Nat.le_of_ble_eq_true rfl) dL_law_512 rfl rfl rfl ⟨Nat.le_of_ble_eq_true rfl, Nat.le_of_ble_eq_true rfl⟩ ?_
  refine ww_perm (MX_perm A T T []) ?_
  exact ww_icmp_eq (tgt := 1077) C0 dL_law_515 (by decide) (fun _ => ih T hT) (fun z => absurd rfl z)
set_option maxHeartbeats 4000000 in
set_option maxRecDepth 100000 in
theorem law_14 {p : Program} {l : Launch} {e : Env} {s : State} {m : MethodId} {below : List Frame} {meth : Method} {c : Code} {Q : State → Prop} {D : va_G} {b L : Nat} {xs : Nat → Int32} {A : Ad} {S : St} {j : Nat} (C0 : CT p s m #[Value.ref b] meth c cL_law RL 4 (fun q => s.heap.size ≤ q)) (hX : va_X b L xs s s.heap) (hbl : b < s.heap.size) (hL : L ≤ 3072) (h : INV A S) (hj : 6 * j + 6 ≤ L) (ih : ∀ T : St, INV A T → WW p l e room_1 s m #[Value.ref b] below meth c Q D (fun q => s.heap.size ≤ q) 4 (TY3 A) 110 1019 1077 [.ref b, .ref A.aX, .ref A.aM, .int (nI (6 * j))] [] (XW A T (MW A T []))) : WW p l e room_1 s m #[Value.ref b] below meth c Q D (fun q => s.heap.size ≤ q) 4 (TY3 A) 110 1019 520 [.ref b, .ref A.aX, .ref A.aM, .int (nI (6 * j))] [] (XW A S (MW A S [])) := by
  obtain ⟨r, T, hT, cx, cm⟩ := p_undo l D h 
  refine ww_aload_n C0 dL_law_520 rfl ?_
  refine ww_callVi C0 (qc := (RX4, TX4, 14)) 0 4 (cx _) kd_X4_undo kw_L_73 km_X4_undo kl_X4_undo ki_X4 hd_X4_undo rfl rfl ⟨Nat.le_of_ble_eq_true rfl, Nat.le_of_ble_eq_true rfl, rfl, rfl⟩ (Nat.le_of_ble_eq_true rfl) dL_law_521 rfl rfl rfl ⟨Nat.le_of_ble_eq_true rfl, Nat.le_of_ble_eq_true rfl⟩ ?_
  refine ww_perm (XM_perm A T S []) ?_
  refine ww_aload_n C0 dL_law_524 rfl ?_
  refine ww_callVi C0 (qc := (RX5, TX5, 33)) 0 5 (cm _) kd_X5_undo kw_L_76 km_X5_undo kl_X5_undo ki_X5 hd_X5_undo rfl rfl ⟨Nat.le_of_ble_eq_true rfl, Nat.le_of_ble_eq_true rfl, rfl, rfl⟩ (Nat.le_of_ble_eq_true rfl) dL_law_525 rfl rfl rfl ⟨Nat.le_of_ble_eq_true rfl, Nat.le_of_ble_eq_true rfl⟩ ?_
  refine ww_perm (MX_perm A T T []) ?_
  exact ww_icmp_eq (tgt := 1077) C0 dL_law_528 (by decide) (fun _ => ih T hT) (fun z => absurd rfl z)
set_option maxHeartbeats 4000000 in
set_option maxRecDepth 100000 in
theorem law_15 {p : Program} {l : Launch} {e : Env} {s : State} {m : MethodId} {below : List Frame} {meth : Method} {c : Code} {Q : State → Prop} {D : va_G} {b L : Nat} {xs : Nat → Int32} {A : Ad} {S : St} {j : Nat} (C0 : CT p s m #[Value.ref b] meth c cL_law RL 4 (fun q => s.heap.size ≤ q)) (hX : va_X b L xs s s.heap) (hbl : b < s.heap.size) (hL : L ≤ 3072) (h : INV A S) (hj : 6 * j + 6 ≤ L) (ih : ∀ T : St, INV A T → WW p l e room_1 s m #[Value.ref b] below meth c Q D (fun q => s.heap.size ≤ q) 4 (TY3 A) 110 1019 1077 [.ref b, .ref A.aX, .ref A.aM, .int (nI (6 * j))] [] (XW A T (MW A T []))) : WW p l e room_1 s m #[Value.ref b] below meth c Q D (fun q => s.heap.size ≤ q) 4 (TY3 A) 110 1019 533 [.ref b, .ref A.aX, .ref A.aM, .int (nI (6 * j))] [] (XW A S (MW A S [])) := by
  obtain ⟨r, T, hT, cx, cm⟩ := p_way l D h (m := xs (6 * j + 1)) (s0 := xs (6 * j + 2)) (u := !decide (xs (6 * j + 3) = 0))
  refine ww_aload_n C0 dL_law_533 rfl ?_
  refine ww_arg C0 hX hbl (Nat.not_le.mpr hbl) hL 1 rfl (by omega) dL_law_534 dL_law_535 dL_law_536 dL_law_537 dL_law_538 ?_
  refine ww_arg C0 hX hbl (Nat.not_le.mpr hbl) hL 2 rfl (by omega) dL_law_539 dL_law_540 dL_law_541 dL_law_542 dL_law_543 ?_
  refine ww_arg C0 hX hbl (Nat.not_le.mpr hbl) hL 3 rfl (by omega) dL_law_544 dL_law_545 dL_law_546 dL_law_547 dL_law_548 ?_
  refine ww_flag C0 dL_law_549 dL_law_552 dL_law_553 dL_law_556 ?_
  refine ww_callVi C0 (qc := (RX4, TX4, 14)) 0 4 (cx _) kd_X4_way kw_L_77 km_X4_way kl_X4_way ki_X4 hd_X4_way rfl rfl ⟨Nat.le_of_ble_eq_true rfl, Nat.le_of_ble_eq_true rfl, rfl, rfl⟩ (Nat.le_of_ble_eq_true rfl) dL_law_557 rfl rfl rfl ⟨Nat.le_of_ble_eq_true rfl, Nat.le_of_ble_eq_true rfl⟩ ?_
  refine ww_perm (XM_perm A T S []) ?_
  refine ww_aload_n C0 dL_law_560 rfl ?_
  refine ww_arg C0 hX hbl (Nat.not_le.mpr hbl) hL 1 rfl (by omega) dL_law_561 dL_law_562 dL_law_563 dL_law_564 dL_law_565 ?_
  refine ww_arg C0 hX hbl (Nat.not_le.mpr hbl) hL 2 rfl (by omega) dL_law_566 dL_law_567 dL_law_568 dL_law_569 dL_law_570 ?_
  refine ww_arg C0 hX hbl (Nat.not_le.mpr hbl) hL 3 rfl (by omega) dL_law_571 dL_law_572 dL_law_573 dL_law_574 dL_law_575 ?_
  refine ww_flag C0 dL_law_576 dL_law_579 dL_law_580 dL_law_583 ?_
  refine ww_callVi C0 (qc := (RX5, TX5, 33)) 0 5 (cm _) kd_X5_way kw_L_81 km_X5_way kl_X5_way ki_X5 hd_X5_way rfl rfl ⟨Nat.le_of_ble_eq_true rfl, Nat.le_of_ble_eq_true rfl, rfl, rfl⟩ (Nat.le_of_ble_eq_true rfl) dL_law_584 rfl rfl rfl ⟨Nat.le_of_ble_eq_true rfl, Nat.le_of_ble_eq_true rfl⟩ ?_
  refine ww_perm (MX_perm A T T []) ?_
  exact ww_icmp_eq (tgt := 1077) C0 dL_law_587 (by decide) (fun _ => ih T hT) (fun z => absurd rfl z)
set_option maxHeartbeats 4000000 in
set_option maxRecDepth 100000 in
theorem law_16 {p : Program} {l : Launch} {e : Env} {s : State} {m : MethodId} {below : List Frame} {meth : Method} {c : Code} {Q : State → Prop} {D : va_G} {b L : Nat} {xs : Nat → Int32} {A : Ad} {S : St} {j : Nat} (C0 : CT p s m #[Value.ref b] meth c cL_law RL 4 (fun q => s.heap.size ≤ q)) (hX : va_X b L xs s s.heap) (hbl : b < s.heap.size) (hL : L ≤ 3072) (h : INV A S) (hj : 6 * j + 6 ≤ L) (ih : ∀ T : St, INV A T → WW p l e room_1 s m #[Value.ref b] below meth c Q D (fun q => s.heap.size ≤ q) 4 (TY3 A) 110 1019 1077 [.ref b, .ref A.aX, .ref A.aM, .int (nI (6 * j))] [] (XW A T (MW A T []))) : WW p l e room_1 s m #[Value.ref b] below meth c Q D (fun q => s.heap.size ≤ q) 4 (TY3 A) 110 1019 592 [.ref b, .ref A.aX, .ref A.aM, .int (nI (6 * j))] [] (XW A S (MW A S [])) := by
  obtain ⟨r, T, hT, cx, cm⟩ := p_enclaves l D h (m := xs (6 * j + 1))
  refine ww_aload_n C0 dL_law_592 rfl ?_
  refine ww_arg C0 hX hbl (Nat.not_le.mpr hbl) hL 1 rfl (by omega) dL_law_593 dL_law_594 dL_law_595 dL_law_596 dL_law_597 ?_
  refine ww_callVi C0 (qc := (RX4, TX4, 14)) 0 4 (cx _) kd_X4_enclaves kw_L_82 km_X4_enclaves kl_X4_enclaves ki_X4 hd_X4_enclaves rfl rfl ⟨Nat.le_of_ble_eq_true rfl, Nat.le_of_ble_eq_true rfl, rfl, rfl⟩ (Nat.le_of_ble_eq_true rfl) dL_law_598 rfl rfl rfl ⟨Nat.le_of_ble_eq_true rfl, Nat.le_of_ble_eq_true rfl⟩ ?_
  refine ww_perm (XM_perm A T S []) ?_
  refine ww_aload_n C0 dL_law_601 rfl ?_
  refine ww_arg C0 hX hbl (Nat.not_le.mpr hbl) hL 1 rfl (by omega) dL_law_602 dL_law_603 dL_law_604 dL_law_605 dL_law_606 ?_
  refine ww_callVi C0 (qc := (RX5, TX5, 33)) 0 5 (cm _) kd_X5_enclaves kw_L_85 km_X5_enclaves kl_X5_enclaves ki_X5 hd_X5_enclaves rfl rfl ⟨Nat.le_of_ble_eq_true rfl, Nat.le_of_ble_eq_true rfl, rfl, rfl⟩ (Nat.le_of_ble_eq_true rfl) dL_law_607 rfl rfl rfl ⟨Nat.le_of_ble_eq_true rfl, Nat.le_of_ble_eq_true rfl⟩ ?_
  refine ww_perm (MX_perm A T T []) ?_
  exact ww_icmp_eq (tgt := 1077) C0 dL_law_610 (by decide) (fun _ => ih T hT) (fun z => absurd rfl z)
set_option maxHeartbeats 4000000 in
set_option maxRecDepth 100000 in
theorem law_17 {p : Program} {l : Launch} {e : Env} {s : State} {m : MethodId} {below : List Frame} {meth : Method} {c : Code} {Q : State → Prop} {D : va_G} {b L : Nat} {xs : Nat → Int32} {A : Ad} {S : St} {j : Nat} (C0 : CT p s m #[Value.ref b] meth c cL_law RL 4 (fun q => s.heap.size ≤ q)) (hX : va_X b L xs s s.heap) (hbl : b < s.heap.size) (hL : L ≤ 3072) (h : INV A S) (hj : 6 * j + 6 ≤ L) (ih : ∀ T : St, INV A T → WW p l e room_1 s m #[Value.ref b] below meth c Q D (fun q => s.heap.size ≤ q) 4 (TY3 A) 110 1019 1077 [.ref b, .ref A.aX, .ref A.aM, .int (nI (6 * j))] [] (XW A T (MW A T []))) : WW p l e room_1 s m #[Value.ref b] below meth c Q D (fun q => s.heap.size ≤ q) 4 (TY3 A) 110 1019 615 [.ref b, .ref A.aX, .ref A.aM, .int (nI (6 * j))] [] (XW A S (MW A S [])) := by
  obtain ⟨r, T, hT, cx, cm⟩ := p_teach l D h (m := xs (6 * j + 1))
  refine ww_aload_n C0 dL_law_615 rfl ?_
  refine ww_arg C0 hX hbl (Nat.not_le.mpr hbl) hL 1 rfl (by omega) dL_law_616 dL_law_617 dL_law_618 dL_law_619 dL_law_620 ?_
  refine ww_callVi C0 (qc := (RX4, TX4, 14)) 0 4 (cx _) kd_X4_teach kw_L_86 km_X4_teach kl_X4_teach ki_X4 hd_X4_teach rfl rfl ⟨Nat.le_of_ble_eq_true rfl, Nat.le_of_ble_eq_true rfl, rfl, rfl⟩ (Nat.le_of_ble_eq_true rfl) dL_law_621 rfl rfl rfl ⟨Nat.le_of_ble_eq_true rfl, Nat.le_of_ble_eq_true rfl⟩ ?_
  refine ww_perm (XM_perm A T S []) ?_
  refine ww_aload_n C0 dL_law_624 rfl ?_
  refine ww_arg C0 hX hbl (Nat.not_le.mpr hbl) hL 1 rfl (by omega) dL_law_625 dL_law_626 dL_law_627 dL_law_628 dL_law_629 ?_
  refine ww_callVi C0 (qc := (RX5, TX5, 33)) 0 5 (cm _) kd_X5_teach kw_L_89 km_X5_teach kl_X5_teach ki_X5 hd_X5_teach rfl rfl ⟨Nat.le_of_ble_eq_true rfl, Nat.le_of_ble_eq_true rfl, rfl, rfl⟩ (Nat.le_of_ble_eq_true rfl) dL_law_630 rfl rfl rfl ⟨Nat.le_of_ble_eq_true rfl, Nat.le_of_ble_eq_true rfl⟩ ?_
  refine ww_perm (MX_perm A T T []) ?_
  exact ww_icmp_eq (tgt := 1077) C0 dL_law_633 (by decide) (fun _ => ih T hT) (fun z => absurd rfl z)
set_option maxHeartbeats 4000000 in
set_option maxRecDepth 100000 in
theorem law_18 {p : Program} {l : Launch} {e : Env} {s : State} {m : MethodId} {below : List Frame} {meth : Method} {c : Code} {Q : State → Prop} {D : va_G} {b L : Nat} {xs : Nat → Int32} {A : Ad} {S : St} {j : Nat} (C0 : CT p s m #[Value.ref b] meth c cL_law RL 4 (fun q => s.heap.size ≤ q)) (hX : va_X b L xs s s.heap) (hbl : b < s.heap.size) (hL : L ≤ 3072) (h : INV A S) (hj : 6 * j + 6 ≤ L) (ih : ∀ T : St, INV A T → WW p l e room_1 s m #[Value.ref b] below meth c Q D (fun q => s.heap.size ≤ q) 4 (TY3 A) 110 1019 1077 [.ref b, .ref A.aX, .ref A.aM, .int (nI (6 * j))] [] (XW A T (MW A T []))) : WW p l e room_1 s m #[Value.ref b] below meth c Q D (fun q => s.heap.size ≤ q) 4 (TY3 A) 110 1019 638 [.ref b, .ref A.aX, .ref A.aM, .int (nI (6 * j))] [] (XW A S (MW A S [])) := by
  obtain ⟨r, T, hT, cx, cm⟩ := p_differ l D h (m := xs (6 * j + 1)) (o := xs (6 * j + 2))
  refine ww_aload_n C0 dL_law_638 rfl ?_
  refine ww_arg C0 hX hbl (Nat.not_le.mpr hbl) hL 1 rfl (by omega) dL_law_639 dL_law_640 dL_law_641 dL_law_642 dL_law_643 ?_
  refine ww_arg C0 hX hbl (Nat.not_le.mpr hbl) hL 2 rfl (by omega) dL_law_644 dL_law_645 dL_law_646 dL_law_647 dL_law_648 ?_
  refine ww_callVi C0 (qc := (RX4, TX4, 14)) 0 4 (cx _) kd_X4_differ kw_L_90 km_X4_differ kl_X4_differ ki_X4 hd_X4_differ rfl rfl ⟨Nat.le_of_ble_eq_true rfl, Nat.le_of_ble_eq_true rfl, rfl, rfl⟩ (Nat.le_of_ble_eq_true rfl) dL_law_649 rfl rfl rfl ⟨Nat.le_of_ble_eq_true rfl, Nat.le_of_ble_eq_true rfl⟩ ?_
  refine ww_perm (XM_perm A T S []) ?_
  refine ww_aload_n C0 dL_law_652 rfl ?_
  refine ww_arg C0 hX hbl (Nat.not_le.mpr hbl) hL 1 rfl (by omega) dL_law_653 dL_law_654 dL_law_655 dL_law_656 dL_law_657 ?_
  refine ww_arg C0 hX hbl (Nat.not_le.mpr hbl) hL 2 rfl (by omega) dL_law_658 dL_law_659 dL_law_660 dL_law_661 dL_law_662 ?_
  refine ww_callVi C0 (qc := (RX5, TX5, 33)) 0 5 (cm _) kd_X5_differ kw_L_93 km_X5_differ kl_X5_differ ki_X5 hd_X5_differ rfl rfl ⟨Nat.le_of_ble_eq_true rfl, Nat.le_of_ble_eq_true rfl, rfl, rfl⟩ (Nat.le_of_ble_eq_true rfl) dL_law_663 rfl rfl rfl ⟨Nat.le_of_ble_eq_true rfl, Nat.le_of_ble_eq_true rfl⟩ ?_
  refine ww_perm (MX_perm A T T []) ?_
  exact ww_icmp_eq (tgt := 1077) C0 dL_law_666 (by decide) (fun _ => ih T hT) (fun z => absurd rfl z)
set_option maxHeartbeats 4000000 in
set_option maxRecDepth 100000 in
theorem law_19 {p : Program} {l : Launch} {e : Env} {s : State} {m : MethodId} {below : List Frame} {meth : Method} {c : Code} {Q : State → Prop} {D : va_G} {b L : Nat} {xs : Nat → Int32} {A : Ad} {S : St} {j : Nat} (C0 : CT p s m #[Value.ref b] meth c cL_law RL 4 (fun q => s.heap.size ≤ q)) (hX : va_X b L xs s s.heap) (hbl : b < s.heap.size) (hL : L ≤ 3072) (h : INV A S) (hj : 6 * j + 6 ≤ L) (ih : ∀ T : St, INV A T → WW p l e room_1 s m #[Value.ref b] below meth c Q D (fun q => s.heap.size ≤ q) 4 (TY3 A) 110 1019 1077 [.ref b, .ref A.aX, .ref A.aM, .int (nI (6 * j))] [] (XW A T (MW A T []))) : WW p l e room_1 s m #[Value.ref b] below meth c Q D (fun q => s.heap.size ≤ q) 4 (TY3 A) 110 1019 671 [.ref b, .ref A.aX, .ref A.aM, .int (nI (6 * j))] [] (XW A S (MW A S [])) := by
  obtain ⟨r, T, hT, cx, cm⟩ := p_judge l D h (n := xs (6 * j + 1)) (ro := xs (6 * j + 2))
  refine ww_aload_n C0 dL_law_671 rfl ?_
  refine ww_arg C0 hX hbl (Nat.not_le.mpr hbl) hL 1 rfl (by omega) dL_law_672 dL_law_673 dL_law_674 dL_law_675 dL_law_676 ?_
  refine ww_arg C0 hX hbl (Nat.not_le.mpr hbl) hL 2 rfl (by omega) dL_law_677 dL_law_678 dL_law_679 dL_law_680 dL_law_681 ?_
  refine ww_callVi C0 (qc := (RX4, TX4, 14)) 0 4 (cx _) kd_X4_judge kw_L_94 km_X4_judge kl_X4_judge ki_X4 hd_X4_judge rfl rfl ⟨Nat.le_of_ble_eq_true rfl, Nat.le_of_ble_eq_true rfl, rfl, rfl⟩ (Nat.le_of_ble_eq_true rfl) dL_law_682 rfl rfl rfl ⟨Nat.le_of_ble_eq_true rfl, Nat.le_of_ble_eq_true rfl⟩ ?_
  refine ww_perm (XM_perm A T S []) ?_
  refine ww_aload_n C0 dL_law_685 rfl ?_
  refine ww_arg C0 hX hbl (Nat.not_le.mpr hbl) hL 1 rfl (by omega) dL_law_686 dL_law_687 dL_law_688 dL_law_689 dL_law_690 ?_
  refine ww_arg C0 hX hbl (Nat.not_le.mpr hbl) hL 2 rfl (by omega) dL_law_691 dL_law_692 dL_law_693 dL_law_694 dL_law_695 ?_
  refine ww_callVi C0 (qc := (RX5, TX5, 33)) 0 5 (cm _) kd_X5_judge kw_L_97 km_X5_judge kl_X5_judge ki_X5 hd_X5_judge rfl rfl ⟨Nat.le_of_ble_eq_true rfl, Nat.le_of_ble_eq_true rfl, rfl, rfl⟩ (Nat.le_of_ble_eq_true rfl) dL_law_696 rfl rfl rfl ⟨Nat.le_of_ble_eq_true rfl, Nat.le_of_ble_eq_true rfl⟩ ?_
  refine ww_perm (MX_perm A T T []) ?_
  exact ww_icmp_eq (tgt := 1077) C0 dL_law_699 (by decide) (fun _ => ih T hT) (fun z => absurd rfl z)
set_option maxHeartbeats 4000000 in
set_option maxRecDepth 100000 in
theorem law_20 {p : Program} {l : Launch} {e : Env} {s : State} {m : MethodId} {below : List Frame} {meth : Method} {c : Code} {Q : State → Prop} {D : va_G} {b L : Nat} {xs : Nat → Int32} {A : Ad} {S : St} {j : Nat} (C0 : CT p s m #[Value.ref b] meth c cL_law RL 4 (fun q => s.heap.size ≤ q)) (hX : va_X b L xs s s.heap) (hbl : b < s.heap.size) (hL : L ≤ 3072) (h : INV A S) (hj : 6 * j + 6 ≤ L) (ih : ∀ T : St, INV A T → WW p l e room_1 s m #[Value.ref b] below meth c Q D (fun q => s.heap.size ≤ q) 4 (TY3 A) 110 1019 1077 [.ref b, .ref A.aX, .ref A.aM, .int (nI (6 * j))] [] (XW A T (MW A T []))) : WW p l e room_1 s m #[Value.ref b] below meth c Q D (fun q => s.heap.size ≤ q) 4 (TY3 A) 110 1019 704 [.ref b, .ref A.aX, .ref A.aM, .int (nI (6 * j))] [] (XW A S (MW A S [])) := by
  obtain ⟨r, T, hT, cx, cm⟩ := p_share l D h (m := xs (6 * j + 1)) (u := !decide (xs (6 * j + 2) = 0))
  refine ww_aload_n C0 dL_law_704 rfl ?_
  refine ww_arg C0 hX hbl (Nat.not_le.mpr hbl) hL 1 rfl (by omega) dL_law_705 dL_law_706 dL_law_707 dL_law_708 dL_law_709 ?_
  refine ww_arg C0 hX hbl (Nat.not_le.mpr hbl) hL 2 rfl (by omega) dL_law_710 dL_law_711 dL_law_712 dL_law_713 dL_law_714 ?_
  refine ww_flag C0 dL_law_715 dL_law_718 dL_law_719 dL_law_722 ?_
  refine ww_callVi C0 (qc := (RX4, TX4, 14)) 0 4 (cx _) kd_X4_share kw_L_98 km_X4_share kl_X4_share ki_X4 hd_X4_share rfl rfl ⟨Nat.le_of_ble_eq_true rfl, Nat.le_of_ble_eq_true rfl, rfl, rfl⟩ (Nat.le_of_ble_eq_true rfl) dL_law_723 rfl rfl rfl ⟨Nat.le_of_ble_eq_true rfl, Nat.le_of_ble_eq_true rfl⟩ ?_
  refine ww_perm (XM_perm A T S []) ?_
  refine ww_aload_n C0 dL_law_726 rfl ?_
  refine ww_arg C0 hX hbl (Nat.not_le.mpr hbl) hL 1 rfl (by omega) dL_law_727 dL_law_728 dL_law_729 dL_law_730 dL_law_731 ?_
  refine ww_arg C0 hX hbl (Nat.not_le.mpr hbl) hL 2 rfl (by omega) dL_law_732 dL_law_733 dL_law_734 dL_law_735 dL_law_736 ?_
  refine ww_flag C0 dL_law_737 dL_law_740 dL_law_741 dL_law_744 ?_
  refine ww_callVi C0 (qc := (RX5, TX5, 33)) 0 5 (cm _) kd_X5_share kw_L_102 km_X5_share kl_X5_share ki_X5 hd_X5_share rfl rfl ⟨Nat.le_of_ble_eq_true rfl, Nat.le_of_ble_eq_true rfl, rfl, rfl⟩ (Nat.le_of_ble_eq_true rfl) dL_law_745 rfl rfl rfl ⟨Nat.le_of_ble_eq_true rfl, Nat.le_of_ble_eq_true rfl⟩ ?_
  refine ww_perm (MX_perm A T T []) ?_
  exact ww_icmp_eq (tgt := 1077) C0 dL_law_748 (by decide) (fun _ => ih T hT) (fun z => absurd rfl z)
set_option maxHeartbeats 4000000 in
set_option maxRecDepth 100000 in
theorem law_21 {p : Program} {l : Launch} {e : Env} {s : State} {m : MethodId} {below : List Frame} {meth : Method} {c : Code} {Q : State → Prop} {D : va_G} {b L : Nat} {xs : Nat → Int32} {A : Ad} {S : St} {j : Nat} (C0 : CT p s m #[Value.ref b] meth c cL_law RL 4 (fun q => s.heap.size ≤ q)) (hX : va_X b L xs s s.heap) (hbl : b < s.heap.size) (hL : L ≤ 3072) (h : INV A S) (hj : 6 * j + 6 ≤ L) (ih : ∀ T : St, INV A T → WW p l e room_1 s m #[Value.ref b] below meth c Q D (fun q => s.heap.size ≤ q) 4 (TY3 A) 110 1019 1077 [.ref b, .ref A.aX, .ref A.aM, .int (nI (6 * j))] [] (XW A T (MW A T []))) : WW p l e room_1 s m #[Value.ref b] below meth c Q D (fun q => s.heap.size ≤ q) 4 (TY3 A) 110 1019 753 [.ref b, .ref A.aX, .ref A.aM, .int (nI (6 * j))] [] (XW A S (MW A S [])) := by
  obtain ⟨r, T, hT, cx, cm⟩ := p_see l D h (y0 := xs (6 * j + 1)) (y1 := xs (6 * j + 2)) (y2 := xs (6 * j + 3)) (y3 := xs (6 * j + 4)) (y4 := xs (6 * j + 5))
  refine ww_aload_n C0 dL_law_753 rfl ?_
  refine ww_arg C0 hX hbl (Nat.not_le.mpr hbl) hL 1 rfl (by omega) dL_law_754 dL_law_755 dL_law_756 dL_law_757 dL_law_758 ?_
  refine ww_arg C0 hX hbl (Nat.not_le.mpr hbl) hL 2 rfl (by omega) dL_law_759 dL_law_760 dL_law_761 dL_law_762 dL_law_763 ?_
  refine ww_arg C0 hX hbl (Nat.not_le.mpr hbl) hL 3 rfl (by omega) dL_law_764 dL_law_765 dL_law_766 dL_law_767 dL_law_768 ?_
  refine ww_arg C0 hX hbl (Nat.not_le.mpr hbl) hL 4 rfl (by omega) dL_law_769 dL_law_770 dL_law_771 dL_law_772 dL_law_773 ?_
  refine ww_arg C0 hX hbl (Nat.not_le.mpr hbl) hL 5 rfl (by omega) dL_law_774 dL_law_775 dL_law_776 dL_law_777 dL_law_778 ?_
  refine ww_callVi C0 (qc := (RX4, TX4, 14)) 0 4 (cx _) kd_X4_see kw_L_103 km_X4_see kl_X4_see ki_X4 hd_X4_see rfl rfl ⟨Nat.le_of_ble_eq_true rfl, Nat.le_of_ble_eq_true rfl, rfl, rfl⟩ (Nat.le_of_ble_eq_true rfl) dL_law_779 rfl rfl rfl ⟨Nat.le_of_ble_eq_true rfl, Nat.le_of_ble_eq_true rfl⟩ ?_
  refine ww_perm (XM_perm A T S []) ?_
  refine ww_aload_n C0 dL_law_782 rfl ?_
  refine ww_arg C0 hX hbl (Nat.not_le.mpr hbl) hL 1 rfl (by omega) dL_law_783 dL_law_784 dL_law_785 dL_law_786 dL_law_787 ?_
  refine ww_arg C0 hX hbl (Nat.not_le.mpr hbl) hL 2 rfl (by omega) dL_law_788 dL_law_789 dL_law_790 dL_law_791 dL_law_792 ?_
  refine ww_arg C0 hX hbl (Nat.not_le.mpr hbl) hL 3 rfl (by omega) dL_law_793 dL_law_794 dL_law_795 dL_law_796 dL_law_797 ?_
  refine ww_arg C0 hX hbl (Nat.not_le.mpr hbl) hL 4 rfl (by omega) dL_law_798 dL_law_799 dL_law_800 dL_law_801 dL_law_802 ?_
  refine ww_arg C0 hX hbl (Nat.not_le.mpr hbl) hL 5 rfl (by omega) dL_law_803 dL_law_804 dL_law_805 dL_law_806 dL_law_807 ?_
  refine ww_callVi C0 (qc := (RX5, TX5, 33)) 0 5 (cm _) kd_X5_see kw_L_107 km_X5_see kl_X5_see ki_X5 hd_X5_see rfl rfl ⟨Nat.le_of_ble_eq_true rfl, Nat.le_of_ble_eq_true rfl, rfl, rfl⟩ (Nat.le_of_ble_eq_true rfl) dL_law_808 rfl rfl rfl ⟨Nat.le_of_ble_eq_true rfl, Nat.le_of_ble_eq_true rfl⟩ ?_
  refine ww_perm (MX_perm A T T []) ?_
  exact ww_icmp_eq (tgt := 1077) C0 dL_law_811 (by decide) (fun _ => ih T hT) (fun z => absurd rfl z)
set_option maxHeartbeats 4000000 in
set_option maxRecDepth 100000 in
theorem law_22 {p : Program} {l : Launch} {e : Env} {s : State} {m : MethodId} {below : List Frame} {meth : Method} {c : Code} {Q : State → Prop} {D : va_G} {b L : Nat} {xs : Nat → Int32} {A : Ad} {S : St} {j : Nat} (C0 : CT p s m #[Value.ref b] meth c cL_law RL 4 (fun q => s.heap.size ≤ q)) (hX : va_X b L xs s s.heap) (hbl : b < s.heap.size) (hL : L ≤ 3072) (h : INV A S) (hj : 6 * j + 6 ≤ L) (ih : ∀ T : St, INV A T → WW p l e room_1 s m #[Value.ref b] below meth c Q D (fun q => s.heap.size ≤ q) 4 (TY3 A) 110 1019 1077 [.ref b, .ref A.aX, .ref A.aM, .int (nI (6 * j))] [] (XW A T (MW A T []))) : WW p l e room_1 s m #[Value.ref b] below meth c Q D (fun q => s.heap.size ≤ q) 4 (TY3 A) 110 1019 816 [.ref b, .ref A.aX, .ref A.aM, .int (nI (6 * j))] [] (XW A S (MW A S [])) := by
  obtain ⟨r, T, hT, cx, cm⟩ := p_unsee l D h 
  refine ww_aload_n C0 dL_law_816 rfl ?_
  refine ww_callVi C0 (qc := (RX4, TX4, 14)) 0 4 (cx _) kd_X4_unsee kw_L_108 km_X4_unsee kl_X4_unsee ki_X4 hd_X4_unsee rfl rfl ⟨Nat.le_of_ble_eq_true rfl, Nat.le_of_ble_eq_true rfl, rfl, rfl⟩ (Nat.le_of_ble_eq_true rfl) dL_law_817 rfl rfl rfl ⟨Nat.le_of_ble_eq_true rfl, Nat.le_of_ble_eq_true rfl⟩ ?_
  refine ww_perm (XM_perm A T S []) ?_
  refine ww_aload_n C0 dL_law_820 rfl ?_
  refine ww_callVi C0 (qc := (RX5, TX5, 33)) 0 5 (cm _) kd_X5_unsee kw_L_111 km_X5_unsee kl_X5_unsee ki_X5 hd_X5_unsee rfl rfl ⟨Nat.le_of_ble_eq_true rfl, Nat.le_of_ble_eq_true rfl, rfl, rfl⟩ (Nat.le_of_ble_eq_true rfl) dL_law_821 rfl rfl rfl ⟨Nat.le_of_ble_eq_true rfl, Nat.le_of_ble_eq_true rfl⟩ ?_
  refine ww_perm (MX_perm A T T []) ?_
  exact ww_icmp_eq (tgt := 1077) C0 dL_law_824 (by decide) (fun _ => ih T hT) (fun z => absurd rfl z)
set_option maxHeartbeats 4000000 in
set_option maxRecDepth 100000 in
theorem law_23 {p : Program} {l : Launch} {e : Env} {s : State} {m : MethodId} {below : List Frame} {meth : Method} {c : Code} {Q : State → Prop} {D : va_G} {b L : Nat} {xs : Nat → Int32} {A : Ad} {S : St} {j : Nat} (C0 : CT p s m #[Value.ref b] meth c cL_law RL 4 (fun q => s.heap.size ≤ q)) (hX : va_X b L xs s s.heap) (hbl : b < s.heap.size) (hL : L ≤ 3072) (h : INV A S) (hj : 6 * j + 6 ≤ L) (ih : ∀ T : St, INV A T → WW p l e room_1 s m #[Value.ref b] below meth c Q D (fun q => s.heap.size ≤ q) 4 (TY3 A) 110 1019 1077 [.ref b, .ref A.aX, .ref A.aM, .int (nI (6 * j))] [] (XW A T (MW A T []))) : WW p l e room_1 s m #[Value.ref b] below meth c Q D (fun q => s.heap.size ≤ q) 4 (TY3 A) 110 1019 829 [.ref b, .ref A.aX, .ref A.aM, .int (nI (6 * j))] [] (XW A S (MW A S [])) := by
  obtain ⟨r, T, hT, cx, cm⟩ := p_may l D h (s0 := xs (6 * j + 1)) (x := xs (6 * j + 2))
  refine ww_aload_n C0 dL_law_829 rfl ?_
  refine ww_arg C0 hX hbl (Nat.not_le.mpr hbl) hL 1 rfl (by omega) dL_law_830 dL_law_831 dL_law_832 dL_law_833 dL_law_834 ?_
  refine ww_arg C0 hX hbl (Nat.not_le.mpr hbl) hL 2 rfl (by omega) dL_law_835 dL_law_836 dL_law_837 dL_law_838 dL_law_839 ?_
  refine ww_callVi C0 (qc := (RX4, TX4, 14)) 0 4 (cx _) kd_X4_may kw_L_112 km_X4_may kl_X4_may ki_X4 hd_X4_may rfl rfl ⟨Nat.le_of_ble_eq_true rfl, Nat.le_of_ble_eq_true rfl, rfl, rfl⟩ (Nat.le_of_ble_eq_true rfl) dL_law_840 rfl rfl rfl ⟨Nat.le_of_ble_eq_true rfl, Nat.le_of_ble_eq_true rfl⟩ ?_
  refine ww_perm (XM_perm A T S []) ?_
  refine ww_aload_n C0 dL_law_843 rfl ?_
  refine ww_arg C0 hX hbl (Nat.not_le.mpr hbl) hL 1 rfl (by omega) dL_law_844 dL_law_845 dL_law_846 dL_law_847 dL_law_848 ?_
  refine ww_arg C0 hX hbl (Nat.not_le.mpr hbl) hL 2 rfl (by omega) dL_law_849 dL_law_850 dL_law_851 dL_law_852 dL_law_853 ?_
  refine ww_callVi C0 (qc := (RX5, TX5, 33)) 0 5 (cm _) kd_X5_may kw_L_115 km_X5_may kl_X5_may ki_X5 hd_X5_may rfl rfl ⟨Nat.le_of_ble_eq_true rfl, Nat.le_of_ble_eq_true rfl, rfl, rfl⟩ (Nat.le_of_ble_eq_true rfl) dL_law_854 rfl rfl rfl ⟨Nat.le_of_ble_eq_true rfl, Nat.le_of_ble_eq_true rfl⟩ ?_
  refine ww_perm (MX_perm A T T []) ?_
  exact ww_icmp_eq (tgt := 1077) C0 dL_law_857 (by decide) (fun _ => ih T hT) (fun z => absurd rfl z)
set_option maxHeartbeats 4000000 in
set_option maxRecDepth 100000 in
theorem law_24 {p : Program} {l : Launch} {e : Env} {s : State} {m : MethodId} {below : List Frame} {meth : Method} {c : Code} {Q : State → Prop} {D : va_G} {b L : Nat} {xs : Nat → Int32} {A : Ad} {S : St} {j : Nat} (C0 : CT p s m #[Value.ref b] meth c cL_law RL 4 (fun q => s.heap.size ≤ q)) (hX : va_X b L xs s s.heap) (hbl : b < s.heap.size) (hL : L ≤ 3072) (h : INV A S) (hj : 6 * j + 6 ≤ L) (ih : ∀ T : St, INV A T → WW p l e room_1 s m #[Value.ref b] below meth c Q D (fun q => s.heap.size ≤ q) 4 (TY3 A) 110 1019 1077 [.ref b, .ref A.aX, .ref A.aM, .int (nI (6 * j))] [] (XW A T (MW A T []))) : WW p l e room_1 s m #[Value.ref b] below meth c Q D (fun q => s.heap.size ≤ q) 4 (TY3 A) 110 1019 862 [.ref b, .ref A.aX, .ref A.aM, .int (nI (6 * j))] [] (XW A S (MW A S [])) := by
  obtain ⟨r, T, hT, cx, cm⟩ := p_rests l D h (x := xs (6 * j + 1))
  refine ww_aload_n C0 dL_law_862 rfl ?_
  refine ww_arg C0 hX hbl (Nat.not_le.mpr hbl) hL 1 rfl (by omega) dL_law_863 dL_law_864 dL_law_865 dL_law_866 dL_law_867 ?_
  refine ww_callVi C0 (qc := (RX4, TX4, 14)) 0 4 (cx _) kd_X4_rests kw_L_116 km_X4_rests kl_X4_rests ki_X4 hd_X4_rests rfl rfl ⟨Nat.le_of_ble_eq_true rfl, Nat.le_of_ble_eq_true rfl, rfl, rfl⟩ (Nat.le_of_ble_eq_true rfl) dL_law_868 rfl rfl rfl ⟨Nat.le_of_ble_eq_true rfl, Nat.le_of_ble_eq_true rfl⟩ ?_
  refine ww_perm (XM_perm A T S []) ?_
  refine ww_aload_n C0 dL_law_871 rfl ?_
  refine ww_arg C0 hX hbl (Nat.not_le.mpr hbl) hL 1 rfl (by omega) dL_law_872 dL_law_873 dL_law_874 dL_law_875 dL_law_876 ?_
  refine ww_callVi C0 (qc := (RX5, TX5, 33)) 0 5 (cm _) kd_X5_rests kw_L_119 km_X5_rests kl_X5_rests ki_X5 hd_X5_rests rfl rfl ⟨Nat.le_of_ble_eq_true rfl, Nat.le_of_ble_eq_true rfl, rfl, rfl⟩ (Nat.le_of_ble_eq_true rfl) dL_law_877 rfl rfl rfl ⟨Nat.le_of_ble_eq_true rfl, Nat.le_of_ble_eq_true rfl⟩ ?_
  refine ww_perm (MX_perm A T T []) ?_
  exact ww_icmp_eq (tgt := 1077) C0 dL_law_880 (by decide) (fun _ => ih T hT) (fun z => absurd rfl z)
set_option maxHeartbeats 4000000 in
set_option maxRecDepth 100000 in
theorem law_25 {p : Program} {l : Launch} {e : Env} {s : State} {m : MethodId} {below : List Frame} {meth : Method} {c : Code} {Q : State → Prop} {D : va_G} {b L : Nat} {xs : Nat → Int32} {A : Ad} {S : St} {j : Nat} (C0 : CT p s m #[Value.ref b] meth c cL_law RL 4 (fun q => s.heap.size ≤ q)) (hX : va_X b L xs s s.heap) (hbl : b < s.heap.size) (hL : L ≤ 3072) (h : INV A S) (hj : 6 * j + 6 ≤ L) (ih : ∀ T : St, INV A T → WW p l e room_1 s m #[Value.ref b] below meth c Q D (fun q => s.heap.size ≤ q) 4 (TY3 A) 110 1019 1077 [.ref b, .ref A.aX, .ref A.aM, .int (nI (6 * j))] [] (XW A T (MW A T []))) : WW p l e room_1 s m #[Value.ref b] below meth c Q D (fun q => s.heap.size ≤ q) 4 (TY3 A) 110 1019 885 [.ref b, .ref A.aX, .ref A.aM, .int (nI (6 * j))] [] (XW A S (MW A S [])) := by
  obtain ⟨r, T, hT, cx, cm⟩ := p_forgets l D h (wa := xs (6 * j + 1)) (m := xs (6 * j + 2)) (x0 := xs (6 * j + 3)) (u := !decide (xs (6 * j + 4) = 0))
  refine ww_aload_n C0 dL_law_885 rfl ?_
  refine ww_arg C0 hX hbl (Nat.not_le.mpr hbl) hL 1 rfl (by omega) dL_law_886 dL_law_887 dL_law_888 dL_law_889 dL_law_890 ?_
  refine ww_arg C0 hX hbl (Nat.not_le.mpr hbl) hL 2 rfl (by omega) dL_law_891 dL_law_892 dL_law_893 dL_law_894 dL_law_895 ?_
  refine ww_arg C0 hX hbl (Nat.not_le.mpr hbl) hL 3 rfl (by omega) dL_law_896 dL_law_897 dL_law_898 dL_law_899 dL_law_900 ?_
  refine ww_arg C0 hX hbl (Nat.not_le.mpr hbl) hL 4 rfl (by omega) dL_law_901 dL_law_902 dL_law_903 dL_law_904 dL_law_905 ?_
  refine ww_flag C0 dL_law_906 dL_law_909 dL_law_910 dL_law_913 ?_
  refine ww_callVi C0 (qc := (RX4, TX4, 14)) 0 4 (cx _) kd_X4_forgets kw_L_120 km_X4_forgets kl_X4_forgets ki_X4 hd_X4_forgets rfl rfl ⟨Nat.le_of_ble_eq_true rfl, Nat.le_of_ble_eq_true rfl, rfl, rfl⟩ (Nat.le_of_ble_eq_true rfl) dL_law_914 rfl rfl rfl ⟨Nat.le_of_ble_eq_true rfl, Nat.le_of_ble_eq_true rfl⟩ ?_
  refine ww_perm (XM_perm A T S []) ?_
  refine ww_aload_n C0 dL_law_917 rfl ?_
  refine ww_arg C0 hX hbl (Nat.not_le.mpr hbl) hL 1 rfl (by omega) dL_law_918 dL_law_919 dL_law_920 dL_law_921 dL_law_922 ?_
  refine ww_arg C0 hX hbl (Nat.not_le.mpr hbl) hL 2 rfl (by omega) dL_law_923 dL_law_924 dL_law_925 dL_law_926 dL_law_927 ?_
  refine ww_arg C0 hX hbl (Nat.not_le.mpr hbl) hL 3 rfl (by omega) dL_law_928 dL_law_929 dL_law_930 dL_law_931 dL_law_932 ?_
  refine ww_arg C0 hX hbl (Nat.not_le.mpr hbl) hL 4 rfl (by omega) dL_law_933 dL_law_934 dL_law_935 dL_law_936 dL_law_937 ?_
  refine ww_flag C0 dL_law_938 dL_law_941 dL_law_942 dL_law_945 ?_
  refine ww_callVi C0 (qc := (RX5, TX5, 33)) 0 5 (cm _) kd_X5_forgets kw_L_124 km_X5_forgets kl_X5_forgets ki_X5 hd_X5_forgets rfl rfl ⟨Nat.le_of_ble_eq_true rfl, Nat.le_of_ble_eq_true rfl, rfl, rfl⟩ (Nat.le_of_ble_eq_true rfl) dL_law_946 rfl rfl rfl ⟨Nat.le_of_ble_eq_true rfl, Nat.le_of_ble_eq_true rfl⟩ ?_
  refine ww_perm (MX_perm A T T []) ?_
  exact ww_icmp_eq (tgt := 1077) C0 dL_law_949 (by decide) (fun _ => ih T hT) (fun z => absurd rfl z)
set_option maxHeartbeats 4000000 in
set_option maxRecDepth 100000 in
theorem law_26 {p : Program} {l : Launch} {e : Env} {s : State} {m : MethodId} {below : List Frame} {meth : Method} {c : Code} {Q : State → Prop} {D : va_G} {b L : Nat} {xs : Nat → Int32} {A : Ad} {S : St} {j : Nat} (C0 : CT p s m #[Value.ref b] meth c cL_law RL 4 (fun q => s.heap.size ≤ q)) (hX : va_X b L xs s s.heap) (hbl : b < s.heap.size) (hL : L ≤ 3072) (h : INV A S) (hj : 6 * j + 6 ≤ L) (ih : ∀ T : St, INV A T → WW p l e room_1 s m #[Value.ref b] below meth c Q D (fun q => s.heap.size ≤ q) 4 (TY3 A) 110 1019 1077 [.ref b, .ref A.aX, .ref A.aM, .int (nI (6 * j))] [] (XW A T (MW A T []))) : WW p l e room_1 s m #[Value.ref b] below meth c Q D (fun q => s.heap.size ≤ q) 4 (TY3 A) 110 1019 954 [.ref b, .ref A.aX, .ref A.aM, .int (nI (6 * j))] [] (XW A S (MW A S [])) := by
  obtain ⟨r, T, hT, cx, cm⟩ := p_seed l D h (v := ((xs (6 * j + 1)).toInt64 <<< ((32 : Int32).toInt64 &&& 63)) ||| ((xs (6 * j + 2)).toInt64 &&& 4294967295))
  refine ww_aload_n C0 dL_law_954 rfl ?_
  refine ww_arg C0 hX hbl (Nat.not_le.mpr hbl) hL 1 rfl (by omega) dL_law_955 dL_law_956 dL_law_957 dL_law_958 dL_law_959 ?_
  refine ww_i2l C0 dL_law_960 ?_
  refine ww_bipush (v := 32) C0 dL_law_961 rfl ?_
  refine ww_lshl C0 dL_law_963 ?_
  refine ww_arg C0 hX hbl (Nat.not_le.mpr hbl) hL 2 rfl (by omega) dL_law_964 dL_law_965 dL_law_966 dL_law_967 dL_law_968 ?_
  refine ww_i2l C0 dL_law_969 ?_
  refine ww_ldc2 C0 kw_L_125 dL_law_970 ?_
  refine ww_land C0 dL_law_973 ?_
  refine ww_lor C0 dL_law_974 ?_
  refine ww_callVl C0 (qc := (RX4, TX4, 14)) 0 4 (cx _) kd_X4_seed kw_L_127 km_X4_seed kl_X4_seed ki_X4 hd_X4_seed rfl rfl ⟨Nat.le_of_ble_eq_true rfl, Nat.le_of_ble_eq_true rfl, rfl, rfl⟩ (Nat.le_of_ble_eq_true rfl) dL_law_975 rfl rfl rfl ⟨Nat.le_of_ble_eq_true rfl, Nat.le_of_ble_eq_true rfl⟩ ?_
  refine ww_perm (XM_perm A T S []) ?_
  refine ww_aload_n C0 dL_law_978 rfl ?_
  refine ww_arg C0 hX hbl (Nat.not_le.mpr hbl) hL 1 rfl (by omega) dL_law_979 dL_law_980 dL_law_981 dL_law_982 dL_law_983 ?_
  refine ww_i2l C0 dL_law_984 ?_
  refine ww_bipush (v := 32) C0 dL_law_985 rfl ?_
  refine ww_lshl C0 dL_law_987 ?_
  refine ww_arg C0 hX hbl (Nat.not_le.mpr hbl) hL 2 rfl (by omega) dL_law_988 dL_law_989 dL_law_990 dL_law_991 dL_law_992 ?_
  refine ww_i2l C0 dL_law_993 ?_
  refine ww_ldc2 C0 kw_L_125 dL_law_994 ?_
  refine ww_land C0 dL_law_997 ?_
  refine ww_lor C0 dL_law_998 ?_
  refine ww_callVl C0 (qc := (RX5, TX5, 33)) 0 5 (cm _) kd_X5_seed kw_L_131 km_X5_seed kl_X5_seed ki_X5 hd_X5_seed rfl rfl ⟨Nat.le_of_ble_eq_true rfl, Nat.le_of_ble_eq_true rfl, rfl, rfl⟩ (Nat.le_of_ble_eq_true rfl) dL_law_999 rfl rfl rfl ⟨Nat.le_of_ble_eq_true rfl, Nat.le_of_ble_eq_true rfl⟩ ?_
  refine ww_perm (MX_perm A T T []) ?_
  refine ww_lcmp C0 dL_law_1002 ?_
  exact ww_if_eq (tgt := 1077) C0 dL_law_1003 (by decide) (fun _ => ih T hT) (fun z => absurd (cmp_self _) z)
set_option maxHeartbeats 4000000 in
set_option maxRecDepth 100000 in
theorem law_27 {p : Program} {l : Launch} {e : Env} {s : State} {m : MethodId} {below : List Frame} {meth : Method} {c : Code} {Q : State → Prop} {D : va_G} {b L : Nat} {xs : Nat → Int32} {A : Ad} {S : St} {j : Nat} (C0 : CT p s m #[Value.ref b] meth c cL_law RL 4 (fun q => s.heap.size ≤ q)) (hX : va_X b L xs s s.heap) (hbl : b < s.heap.size) (hL : L ≤ 3072) (h : INV A S) (hj : 6 * j + 6 ≤ L) (ih : ∀ T : St, INV A T → WW p l e room_1 s m #[Value.ref b] below meth c Q D (fun q => s.heap.size ≤ q) 4 (TY3 A) 110 1019 1077 [.ref b, .ref A.aX, .ref A.aM, .int (nI (6 * j))] [] (XW A T (MW A T []))) : WW p l e room_1 s m #[Value.ref b] below meth c Q D (fun q => s.heap.size ≤ q) 4 (TY3 A) 110 1019 1008 [.ref b, .ref A.aX, .ref A.aM, .int (nI (6 * j))] [] (XW A S (MW A S [])) := by
  obtain ⟨r, T, hT, cx, cm⟩ := p_years l D h (n := xs (6 * j + 1))
  refine ww_aload_n C0 dL_law_1008 rfl ?_
  refine ww_arg C0 hX hbl (Nat.not_le.mpr hbl) hL 1 rfl (by omega) dL_law_1009 dL_law_1010 dL_law_1011 dL_law_1012 dL_law_1013 ?_
  refine ww_callVi C0 (qc := (RX4, TX4, 14)) 0 4 (cx _) kd_X4_years kw_L_132 km_X4_years kl_X4_years ki_X4 hd_X4_years rfl rfl ⟨Nat.le_of_ble_eq_true rfl, Nat.le_of_ble_eq_true rfl, rfl, rfl⟩ (Nat.le_of_ble_eq_true rfl) dL_law_1014 rfl rfl rfl ⟨Nat.le_of_ble_eq_true rfl, Nat.le_of_ble_eq_true rfl⟩ ?_
  refine ww_perm (XM_perm A T S []) ?_
  refine ww_aload_n C0 dL_law_1017 rfl ?_
  refine ww_arg C0 hX hbl (Nat.not_le.mpr hbl) hL 1 rfl (by omega) dL_law_1018 dL_law_1019 dL_law_1020 dL_law_1021 dL_law_1022 ?_
  refine ww_callVi C0 (qc := (RX5, TX5, 33)) 0 5 (cm _) kd_X5_years kw_L_135 km_X5_years kl_X5_years ki_X5 hd_X5_years rfl rfl ⟨Nat.le_of_ble_eq_true rfl, Nat.le_of_ble_eq_true rfl, rfl, rfl⟩ (Nat.le_of_ble_eq_true rfl) dL_law_1023 rfl rfl rfl ⟨Nat.le_of_ble_eq_true rfl, Nat.le_of_ble_eq_true rfl⟩ ?_
  refine ww_perm (MX_perm A T T []) ?_
  exact ww_icmp_eq (tgt := 1077) C0 dL_law_1026 (by decide) (fun _ => ih T hT) (fun z => absurd rfl z)
set_option maxHeartbeats 4000000 in
set_option maxRecDepth 100000 in
theorem law_28 {p : Program} {l : Launch} {e : Env} {s : State} {m : MethodId} {below : List Frame} {meth : Method} {c : Code} {Q : State → Prop} {D : va_G} {b L : Nat} {xs : Nat → Int32} {A : Ad} {S : St} {j : Nat} (C0 : CT p s m #[Value.ref b] meth c cL_law RL 4 (fun q => s.heap.size ≤ q)) (hX : va_X b L xs s s.heap) (hbl : b < s.heap.size) (hL : L ≤ 3072) (h : INV A S) (hj : 6 * j + 6 ≤ L) (ih : ∀ T : St, INV A T → WW p l e room_1 s m #[Value.ref b] below meth c Q D (fun q => s.heap.size ≤ q) 4 (TY3 A) 110 1019 1077 [.ref b, .ref A.aX, .ref A.aM, .int (nI (6 * j))] [] (XW A T (MW A T []))) : WW p l e room_1 s m #[Value.ref b] below meth c Q D (fun q => s.heap.size ≤ q) 4 (TY3 A) 110 1019 1031 [.ref b, .ref A.aX, .ref A.aM, .int (nI (6 * j))] [] (XW A S (MW A S [])) := by
  obtain ⟨r, T, hT, cx, cm⟩ := p_keep l D h (q := xs (6 * j + 1))
  refine ww_aload_n C0 dL_law_1031 rfl ?_
  refine ww_arg C0 hX hbl (Nat.not_le.mpr hbl) hL 1 rfl (by omega) dL_law_1032 dL_law_1033 dL_law_1034 dL_law_1035 dL_law_1036 ?_
  refine ww_callVi C0 (qc := (RX4, TX4, 14)) 0 4 (cx _) kd_X4_keep kw_L_136 km_X4_keep kl_X4_keep ki_X4 hd_X4_keep rfl rfl ⟨Nat.le_of_ble_eq_true rfl, Nat.le_of_ble_eq_true rfl, rfl, rfl⟩ (Nat.le_of_ble_eq_true rfl) dL_law_1037 rfl rfl rfl ⟨Nat.le_of_ble_eq_true rfl, Nat.le_of_ble_eq_true rfl⟩ ?_
  refine ww_perm (XM_perm A T S []) ?_
  refine ww_aload_n C0 dL_law_1040 rfl ?_
  refine ww_arg C0 hX hbl (Nat.not_le.mpr hbl) hL 1 rfl (by omega) dL_law_1041 dL_law_1042 dL_law_1043 dL_law_1044 dL_law_1045 ?_
  refine ww_callVi C0 (qc := (RX5, TX5, 33)) 0 5 (cm _) kd_X5_keep kw_L_139 km_X5_keep kl_X5_keep ki_X5 hd_X5_keep rfl rfl ⟨Nat.le_of_ble_eq_true rfl, Nat.le_of_ble_eq_true rfl, rfl, rfl⟩ (Nat.le_of_ble_eq_true rfl) dL_law_1046 rfl rfl rfl ⟨Nat.le_of_ble_eq_true rfl, Nat.le_of_ble_eq_true rfl⟩ ?_
  refine ww_perm (MX_perm A T T []) ?_
  exact ww_icmp_eq (tgt := 1077) C0 dL_law_1049 (by decide) (fun _ => ih T hT) (fun z => absurd rfl z)
set_option maxHeartbeats 4000000 in
set_option maxRecDepth 100000 in
theorem law_29 {p : Program} {l : Launch} {e : Env} {s : State} {m : MethodId} {below : List Frame} {meth : Method} {c : Code} {Q : State → Prop} {D : va_G} {b L : Nat} {xs : Nat → Int32} {A : Ad} {S : St} {j : Nat} (C0 : CT p s m #[Value.ref b] meth c cL_law RL 4 (fun q => s.heap.size ≤ q)) (hX : va_X b L xs s s.heap) (hbl : b < s.heap.size) (hL : L ≤ 3072) (h : INV A S) (hj : 6 * j + 6 ≤ L) (ih : ∀ T : St, INV A T → WW p l e room_1 s m #[Value.ref b] below meth c Q D (fun q => s.heap.size ≤ q) 4 (TY3 A) 110 1019 1077 [.ref b, .ref A.aX, .ref A.aM, .int (nI (6 * j))] [] (XW A T (MW A T []))) : WW p l e room_1 s m #[Value.ref b] below meth c Q D (fun q => s.heap.size ≤ q) 4 (TY3 A) 110 1019 1054 [.ref b, .ref A.aX, .ref A.aM, .int (nI (6 * j))] [] (XW A S (MW A S [])) := by
  obtain ⟨r, T, hT, cx, cm⟩ := p_again l D h (q := xs (6 * j + 1))
  refine ww_aload_n C0 dL_law_1054 rfl ?_
  refine ww_arg C0 hX hbl (Nat.not_le.mpr hbl) hL 1 rfl (by omega) dL_law_1055 dL_law_1056 dL_law_1057 dL_law_1058 dL_law_1059 ?_
  refine ww_callVi C0 (qc := (RX4, TX4, 14)) 0 4 (cx _) kd_X4_again kw_L_140 km_X4_again kl_X4_again ki_X4 hd_X4_again rfl rfl ⟨Nat.le_of_ble_eq_true rfl, Nat.le_of_ble_eq_true rfl, rfl, rfl⟩ (Nat.le_of_ble_eq_true rfl) dL_law_1060 rfl rfl rfl ⟨Nat.le_of_ble_eq_true rfl, Nat.le_of_ble_eq_true rfl⟩ ?_
  refine ww_perm (XM_perm A T S []) ?_
  refine ww_aload_n C0 dL_law_1063 rfl ?_
  refine ww_arg C0 hX hbl (Nat.not_le.mpr hbl) hL 1 rfl (by omega) dL_law_1064 dL_law_1065 dL_law_1066 dL_law_1067 dL_law_1068 ?_
  refine ww_callVi C0 (qc := (RX5, TX5, 33)) 0 5 (cm _) kd_X5_again kw_L_143 km_X5_again kl_X5_again ki_X5 hd_X5_again rfl rfl ⟨Nat.le_of_ble_eq_true rfl, Nat.le_of_ble_eq_true rfl, rfl, rfl⟩ (Nat.le_of_ble_eq_true rfl) dL_law_1069 rfl rfl rfl ⟨Nat.le_of_ble_eq_true rfl, Nat.le_of_ble_eq_true rfl⟩ ?_
  refine ww_perm (MX_perm A T T []) ?_
  exact ww_icmp_eq (tgt := 1077) C0 dL_law_1072 (by decide) (fun _ => ih T hT) (fun z => absurd rfl z)
