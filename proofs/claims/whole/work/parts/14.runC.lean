theorem lk_5_292 : px_Lk RX5 292 yX5_countRun cX5_countRun 2 none 1 := ⟨px_tb (by decide +kernel) (by decide +kernel), px_tb (by decide +kernel) (by decide +kernel), px_tb (by decide +kernel) (by decide +kernel), px_tb (by decide +kernel) (by decide +kernel), px_tb (by decide +kernel) (by decide +kernel), by decide +kernel, by decide⟩
theorem lk_5_106 : px_Lk RX5 106 yX0_length cX0_length 2 (some .int) 1 := ⟨px_tb (by decide +kernel) (by decide +kernel), px_tb (by decide +kernel) (by decide +kernel), px_tb (by decide +kernel) (by decide +kernel), px_tb (by decide +kernel) (by decide +kernel), px_tb (by decide +kernel) (by decide +kernel), by decide +kernel, by decide⟩
theorem lk_5_299 : px_Lk RX5 299 yX0_code cX0_code 3 (some .int) 2 := ⟨px_tb (by decide +kernel) (by decide +kernel), px_tb (by decide +kernel) (by decide +kernel), px_tb (by decide +kernel) (by decide +kernel), px_tb (by decide +kernel) (by decide +kernel), px_tb (by decide +kernel) (by decide +kernel), by decide +kernel, by decide⟩
theorem lk_5_303 : px_Lk RX5 303 yX0_a cX0_a 3 (some .int) 2 := ⟨px_tb (by decide +kernel) (by decide +kernel), px_tb (by decide +kernel) (by decide +kernel), px_tb (by decide +kernel) (by decide +kernel), px_tb (by decide +kernel) (by decide +kernel), px_tb (by decide +kernel) (by decide +kernel), by decide +kernel, by decide⟩
theorem lk_5_306 : px_Lk RX5 306 yX0_b cX0_b 3 (some .int) 2 := ⟨px_tb (by decide +kernel) (by decide +kernel), px_tb (by decide +kernel) (by decide +kernel), px_tb (by decide +kernel) (by decide +kernel), px_tb (by decide +kernel) (by decide +kernel), px_tb (by decide +kernel) (by decide +kernel), by decide +kernel, by decide⟩
theorem lk_5_313 : px_Lk RX5 313 yX5_postStep cX5_postStep 4 none 3 := ⟨px_tb (by decide +kernel) (by decide +kernel), px_tb (by decide +kernel) (by decide +kernel), px_tb (by decide +kernel) (by decide +kernel), px_tb (by decide +kernel) (by decide +kernel), px_tb (by decide +kernel) (by decide +kernel), by decide +kernel, by decide⟩
theorem lk_5_316 : px_Lk RX5 316 yX5_microStep cX5_microStep 3 none 2 := ⟨px_tb (by decide +kernel) (by decide +kernel), px_tb (by decide +kernel) (by decide +kernel), px_tb (by decide +kernel) (by decide +kernel), px_tb (by decide +kernel) (by decide +kernel), px_tb (by decide +kernel) (by decide +kernel), by decide +kernel, by decide⟩
theorem lk_5_319 : px_Lk RX5 319 yX5_timerStep cX5_timerStep 5 none 4 := ⟨px_tb (by decide +kernel) (by decide +kernel), px_tb (by decide +kernel) (by decide +kernel), px_tb (by decide +kernel) (by decide +kernel), px_tb (by decide +kernel) (by decide +kernel), px_tb (by decide +kernel) (by decide +kernel), by decide +kernel, by decide⟩
theorem lk_5_283 : px_Lk RX5 283 yX4_remove cX4_remove 3 none 1 := ⟨px_tb (by decide +kernel) (by decide +kernel), px_tb (by decide +kernel) (by decide +kernel), px_tb (by decide +kernel) (by decide +kernel), px_tb (by decide +kernel) (by decide +kernel), px_tb (by decide +kernel) (by decide +kernel), by decide +kernel, by decide⟩
theorem lk_5_351 : px_Lk RX5 351 yX5_mayCall cX5_mayCall 2 (some .boolean) 1 := ⟨px_tb (by decide +kernel) (by decide +kernel), px_tb (by decide +kernel) (by decide +kernel), px_tb (by decide +kernel) (by decide +kernel), px_tb (by decide +kernel) (by decide +kernel), px_tb (by decide +kernel) (by decide +kernel), by decide +kernel, by decide⟩
theorem lk_5_225 : px_Lk RX5 225 yX5_run cX5_run 6 none 3 := ⟨px_tb (by decide +kernel) (by decide +kernel), px_tb (by decide +kernel) (by decide +kernel), px_tb (by decide +kernel) (by decide +kernel), px_tb (by decide +kernel) (by decide +kernel), px_tb (by decide +kernel) (by decide +kernel), by decide +kernel, by decide⟩
def fC_callStep (rn : px_M → Int32 → Int32 → Int32 → Option px_M) (M : px_M) (p1 p2 p3 : Int32) : Option px_M := px_bq (fC_mayCall M p3) (fun r2 => (if r2 = 0 then px_bq (fC_fail M (-1 : Int32)) (fun M5 => some M5) else px_bq (rn M p1 p2 (p3 + (1 : Int32))) (fun M7 => some M7)))
set_option maxHeartbeats 4000000 in
set_option maxRecDepth 100000 in
theorem cC_callStep (l : Launch) (D : va_G) (cs : Nat → ClassId) (ad : Nat → Nat) {rn : px_M → Int32 → Int32 → Int32 → Option px_M} {k : Nat} (hk : 3 ≤ k) (hrn : ∀ (M : px_M) (a b c : Int32) (M' : px_M), rn M a b c = some M' → px_mV l D (tyC cs) (wC cs ad) yX5_run cX5_run 6 k [.ref (ad 0), .int a, .int b, .int c] M M') {M : px_M} {p1 p2 p3 : Int32} {M' : px_M} (hf : fC_callStep rn M p1 p2 p3 = some M') : px_mV l D (tyC cs) (wC cs ad) yX5_callStep cX5_callStep 4 (k + 1) [.ref (ad 0), .int p1, .int p2, .int p3] M M' := by
  refine px_ofV (by decide +kernel) (Nat.le_of_ble_eq_true rfl) ?_
  intro p e s m below meth c A ls X hr hlk hml w hl
  have hl : lv_has ls 4 [(0, .ref (ad 0)), (1, .int p1), (2, .int p2), (3, .int p3)] := hl
  unfold fC_callStep at hf
  refine lv_aload_n X.1 X.2.1 dX5_callStep_0 rfl (lv_at hl 0 rfl) ?_
  refine lv_iload_n X.1 X.2.1 dX5_callStep_1 rfl (lv_at hl 3 rfl) ?_
  obtain ⟨r2, e1, hf⟩ := px_bq_e hf
  refine px_cI (As := [.int p3]) (rest := []) X hml hl w (cC_mayCall l D cs ad e1) lk_5_351 (by omega) (rcC_0 X.2.2.2.2 w) rfl (Nat.le_of_ble_eq_true rfl) dX5_callStep_2 (fun H locs w => ?_)
  refine lv_if_eq (tgt := 20) X.1 X.2.1 dX5_callStep_5 (by decide) (fun c3 => ?_) (fun c3 => ?_)
  · have hf := px_ip c3 hf
    refine lv_aload_n X.1 X.2.1 dX5_callStep_20 rfl (lv_at hl 0 rfl) ?_
    refine lv_iconst (v := (-1 : Int32)) X.1 X.2.1 dX5_callStep_21 (by decide) ?_
    obtain ⟨M5, e4, hf⟩ := px_bq_e hf
    refine px_cV (As := [.int (-1 : Int32)]) (rest := []) X hml hl w (cC_fail l D cs ad e4) lk_5_323 (by omega) (rcC_0 X.2.2.2.2 w) rfl (Nat.le_of_ble_eq_true rfl) dX5_callStep_22 (fun H locs w => ?_)
    cases hf
    exact px_retV X hr hlk w dX5_callStep_25
  · have hf := px_in c3 hf
    refine lv_aload_n X.1 X.2.1 dX5_callStep_8 rfl (lv_at hl 0 rfl) ?_
    refine lv_iload_n X.1 X.2.1 dX5_callStep_9 rfl (lv_at hl 1 rfl) ?_
    refine lv_iload_n X.1 X.2.1 dX5_callStep_10 rfl (lv_at hl 2 rfl) ?_
    refine lv_iload_n X.1 X.2.1 dX5_callStep_11 rfl (lv_at hl 3 rfl) ?_
    refine lv_iconst (v := (1 : Int32)) X.1 X.2.1 dX5_callStep_12 (by decide) ?_
    refine lv_iadd X.1 X.2.1 dX5_callStep_13 ?_
    obtain ⟨M7, e6, hf⟩ := px_bq_e hf
    refine px_cV (As := [.int p1, .int p2, .int (p3 + (1 : Int32))]) (rest := []) X hml hl w (hrn _ _ _ _ _ e6) lk_5_225 (by omega) (rcC_0 X.2.2.2.2 w) rfl (Nat.le_of_ble_eq_true rfl) dX5_callStep_14 (fun H locs w => ?_)
    refine lv_goto (tgt := 25) X.1 X.2.1 dX5_callStep_17 (by decide) ?_
    cases hf
    exact px_retV X hr hlk w dX5_callStep_25
theorem lk_5_326 : px_Lk RX5 326 yX5_callStep cX5_callStep 4 none 3 := ⟨px_tb (by decide +kernel) (by decide +kernel), px_tb (by decide +kernel) (by decide +kernel), px_tb (by decide +kernel) (by decide +kernel), px_tb (by decide +kernel) (by decide +kernel), px_tb (by decide +kernel) (by decide +kernel), by decide +kernel, by decide⟩
def fC_tryStep (rn : px_M → Int32 → Int32 → Int32 → Option px_M) (M : px_M) (p1 p2 p3 p4 : Int32) : Option px_M := px_bq (fC_mayCall M p4) (fun r2 => (if r2 = 0 then px_bq (fC_fail M (-1 : Int32)) (fun M10 => some M10) else px_bq (rn M p1 p3 (p4 + (1 : Int32))) (fun M5 => (if (M5 0 15) = 0 then some M5 else px_bq (fC_callStep rn M5 p2 (M5 0 17) p4) (fun M8 => some M8)))))
set_option maxHeartbeats 4000000 in
set_option maxRecDepth 100000 in
theorem cC_tryStep (l : Launch) (D : va_G) (cs : Nat → ClassId) (ad : Nat → Nat) {rn : px_M → Int32 → Int32 → Int32 → Option px_M} {k : Nat} (hk : 3 ≤ k) (hrn : ∀ (M : px_M) (a b c : Int32) (M' : px_M), rn M a b c = some M' → px_mV l D (tyC cs) (wC cs ad) yX5_run cX5_run 6 k [.ref (ad 0), .int a, .int b, .int c] M M') {M : px_M} {p1 p2 p3 p4 : Int32} {M' : px_M} (hf : fC_tryStep rn M p1 p2 p3 p4 = some M') : px_mV l D (tyC cs) (wC cs ad) yX5_tryStep cX5_tryStep 5 (k + 2) [.ref (ad 0), .int p1, .int p2, .int p3, .int p4] M M' := by
  refine px_ofV (by decide +kernel) (Nat.le_of_ble_eq_true rfl) ?_
  intro p e s m below meth c A ls X hr hlk hml w hl
  have hl : lv_has ls 5 [(0, .ref (ad 0)), (1, .int p1), (2, .int p2), (3, .int p3), (4, .int p4)] := hl
  unfold fC_tryStep at hf
  refine lv_aload_n X.1 X.2.1 dX5_tryStep_0 rfl (lv_at hl 0 rfl) ?_
  refine lv_iload X.1 X.2.1 dX5_tryStep_1 (lv_at hl 4 rfl) ?_
  obtain ⟨r2, e1, hf⟩ := px_bq_e hf
  refine px_cI (As := [.int p4]) (rest := []) X hml hl w (cC_mayCall l D cs ad e1) lk_5_351 (by omega) (rcC_0 X.2.2.2.2 w) rfl (Nat.le_of_ble_eq_true rfl) dX5_tryStep_3 (fun H locs w => ?_)
  refine lv_if_ne (tgt := 15) X.1 X.2.1 dX5_tryStep_6 (by decide) (fun c3 => ?_) (fun c3 => ?_)
  · have hf := px_in c3 hf
    refine lv_aload_n X.1 X.2.1 dX5_tryStep_15 rfl (lv_at hl 0 rfl) ?_
    refine lv_iload_n X.1 X.2.1 dX5_tryStep_16 rfl (lv_at hl 1 rfl) ?_
    refine lv_iload_n X.1 X.2.1 dX5_tryStep_17 rfl (lv_at hl 3 rfl) ?_
    refine lv_iload X.1 X.2.1 dX5_tryStep_18 (lv_at hl 4 rfl) ?_
    refine lv_iconst (v := (1 : Int32)) X.1 X.2.1 dX5_tryStep_20 (by decide) ?_
    refine lv_iadd X.1 X.2.1 dX5_tryStep_21 ?_
    obtain ⟨M5, e4, hf⟩ := px_bq_e hf
    refine px_cV (As := [.int p1, .int p3, .int (p4 + (1 : Int32))]) (rest := []) X hml hl w (hrn _ _ _ _ _ e4) lk_5_225 (by omega) (rcC_0 X.2.2.2.2 w) rfl (Nat.le_of_ble_eq_true rfl) dX5_tryStep_22 (fun H locs w => ?_)
    refine lv_aload_n X.1 X.2.1 dX5_tryStep_25 rfl (lv_at hl 0 rfl) ?_
    refine gtC_0_15 X w dX5_tryStep_26 ?_
    refine lv_if_eq (tgt := 43) X.1 X.2.1 dX5_tryStep_29 (by decide) (fun c6 => ?_) (fun c6 => ?_)
    · have hf := px_ip c6 hf
      cases hf
      exact px_retV X hr hlk w dX5_tryStep_43
    · have hf := px_in c6 hf
      refine lv_aload_n X.1 X.2.1 dX5_tryStep_32 rfl (lv_at hl 0 rfl) ?_
      refine lv_iload_n X.1 X.2.1 dX5_tryStep_33 rfl (lv_at hl 2 rfl) ?_
      refine lv_aload_n X.1 X.2.1 dX5_tryStep_34 rfl (lv_at hl 0 rfl) ?_
      refine gtC_0_17 X w dX5_tryStep_35 ?_
      refine lv_iload X.1 X.2.1 dX5_tryStep_38 (lv_at hl 4 rfl) ?_
      obtain ⟨M8, e7, hf⟩ := px_bq_e hf
      refine px_cV (As := [.int p2, .int (M5 0 17), .int p4]) (rest := []) X hml hl w (cC_callStep l D cs ad hk hrn e7) lk_5_326 (by omega) (rcC_0 X.2.2.2.2 w) rfl (Nat.le_of_ble_eq_true rfl) dX5_tryStep_40 (fun H locs w => ?_)
      cases hf
      exact px_retV X hr hlk w dX5_tryStep_43
  · have hf := px_ip c3 hf
    refine lv_aload_n X.1 X.2.1 dX5_tryStep_9 rfl (lv_at hl 0 rfl) ?_
    refine lv_iconst (v := (-1 : Int32)) X.1 X.2.1 dX5_tryStep_10 (by decide) ?_
    obtain ⟨M10, e9, hf⟩ := px_bq_e hf
    refine px_cV (As := [.int (-1 : Int32)]) (rest := []) X hml hl w (cC_fail l D cs ad e9) lk_5_323 (by omega) (rcC_0 X.2.2.2.2 w) rfl (Nat.le_of_ble_eq_true rfl) dX5_tryStep_11 (fun H locs w => ?_)
    cases hf
    exact px_retV X hr hlk w dX5_tryStep_14
theorem lk_5_329 : px_Lk RX5 329 yX5_tryStep cX5_tryStep 5 none 4 := ⟨px_tb (by decide +kernel) (by decide +kernel), px_tb (by decide +kernel) (by decide +kernel), px_tb (by decide +kernel) (by decide +kernel), px_tb (by decide +kernel) (by decide +kernel), px_tb (by decide +kernel) (by decide +kernel), by decide +kernel, by decide⟩
theorem lk_5_332 : px_Lk RX5 332 yX5_answerStep cX5_answerStep 5 none 3 := ⟨px_tb (by decide +kernel) (by decide +kernel), px_tb (by decide +kernel) (by decide +kernel), px_tb (by decide +kernel) (by decide +kernel), px_tb (by decide +kernel) (by decide +kernel), px_tb (by decide +kernel) (by decide +kernel), by decide +kernel, by decide⟩
theorem lk_5_335 : px_Lk RX5 335 yX5_makeStep cX5_makeStep 2 none 1 := ⟨px_tb (by decide +kernel) (by decide +kernel), px_tb (by decide +kernel) (by decide +kernel), px_tb (by decide +kernel) (by decide +kernel), px_tb (by decide +kernel) (by decide +kernel), px_tb (by decide +kernel) (by decide +kernel), by decide +kernel, by decide⟩
theorem lk_5_338 : px_Lk RX5 338 yX5_thenStep cX5_thenStep 5 none 3 := ⟨px_tb (by decide +kernel) (by decide +kernel), px_tb (by decide +kernel) (by decide +kernel), px_tb (by decide +kernel) (by decide +kernel), px_tb (by decide +kernel) (by decide +kernel), px_tb (by decide +kernel) (by decide +kernel), by decide +kernel, by decide⟩
theorem lk_5_341 : px_Lk RX5 341 yX5_frameStep cX5_frameStep 2 none 1 := ⟨px_tb (by decide +kernel) (by decide +kernel), px_tb (by decide +kernel) (by decide +kernel), px_tb (by decide +kernel) (by decide +kernel), px_tb (by decide +kernel) (by decide +kernel), px_tb (by decide +kernel) (by decide +kernel), by decide +kernel, by decide⟩
def fC_doStep (rn : px_M → Int32 → Int32 → Int32 → Option px_M) (M : px_M) (p1 p2 p3 p4 p5 : Int32) : Option px_M := (if p1 = (0 : Int32) then (if p3 = (1 : Int32) then px_bq (fC_Journal_keep_28 M p4) (fun M6 => some M6) else px_bq (fC_Journal_keep_28 M p2) (fun M4 => some M4)) else (if p1 = (1 : Int32) then px_bq (fC_postStep M p3 p2 p4) (fun M9 => some M9) else (if p1 = (2 : Int32) then px_bq (fC_microStep M p2 p4) (fun M12 => some M12) else (if p1 = (3 : Int32) then px_bq (fC_timerStep M p2 p4 p3 (0 : Int32)) (fun M15 => some M15) else (if p1 = (4 : Int32) then px_bq (fC_timerStep M p2 p4 p3 (1 : Int32)) (fun M18 => some M18) else (if p1 = (5 : Int32) then px_bq (fC_Timers_remove M p2) (fun M21 => some M21) else (if p1 = (6 : Int32) then (if p3 = (1 : Int32) then px_bq (fC_fail M p4) (fun M27 => some M27) else px_bq (fC_fail M p2) (fun M25 => some M25)) else (if p1 = (7 : Int32) then px_bq (fC_callStep rn M p2 p4 p5) (fun M30 => some M30) else (if p1 = (8 : Int32) then px_bq (fC_tryStep rn M p2 p3 p4 p5) (fun M33 => some M33) else (if p1 = (9 : Int32) then px_bq (fC_answerStep M p2 p3 p4) (fun M36 => some M36) else (if p1 = (10 : Int32) then px_bq (fC_makeStep M p2) (fun M39 => some M39) else (if p1 = (11 : Int32) then px_ck p2 8 ((if p3 = (1 : Int32) then px_bq (fC_Promises_resolveOrReject M (M 6 p2.toNatClampNeg) (2 : Int32) p4) (fun M46 => some M46) else px_bq (fC_Promises_resolveOrReject M (M 6 p2.toNatClampNeg) (1 : Int32) p4) (fun M44 => some M44))) else (if p1 = (12 : Int32) then px_ck p2 8 (px_ck p3 8 (px_bq (fC_Promises_follow M (M 6 p2.toNatClampNeg) (M 6 p3.toNatClampNeg)) (fun M51 => some M51))) else (if p1 = (13 : Int32) then px_bq (fC_thenStep M p2 (p3 - p3 / (16 : Int32) * (16 : Int32)) (p3 / (16 : Int32))) (fun M54 => some M54) else (if p1 = (14 : Int32) then px_bq (fC_frameStep M p2) (fun M57 => some M57) else (if p1 = (15 : Int32) then px_ck p3 8 (px_ck p2 8 (px_bn (px_up M 6 p2.toNatClampNeg (M 6 p3.toNatClampNeg)) (fun M61 => some M61))) else some M))))))))))))))))
set_option maxHeartbeats 4000000 in
set_option maxRecDepth 100000 in
theorem cC_doStep (l : Launch) (D : va_G) (cs : Nat → ClassId) (ad : Nat → Nat) {rn : px_M → Int32 → Int32 → Int32 → Option px_M} {k : Nat} (hk : 3 ≤ k) (hrn : ∀ (M : px_M) (a b c : Int32) (M' : px_M), rn M a b c = some M' → px_mV l D (tyC cs) (wC cs ad) yX5_run cX5_run 6 k [.ref (ad 0), .int a, .int b, .int c] M M') {M : px_M} {p1 p2 p3 p4 p5 : Int32} {M' : px_M} (hf : fC_doStep rn M p1 p2 p3 p4 p5 = some M') : px_mV l D (tyC cs) (wC cs ad) yX5_doStep cX5_doStep 6 (k + 3) [.ref (ad 0), .int p1, .int p2, .int p3, .int p4, .int p5] M M' := by
  refine px_ofV (by decide +kernel) (Nat.le_of_ble_eq_true rfl) ?_
  intro p e s m below meth c A ls X hr hlk hml w hl
  have hl : lv_has ls 6 [(0, .ref (ad 0)), (1, .int p1), (2, .int p2), (3, .int p3), (4, .int p4), (5, .int p5)] := hl
  unfold fC_doStep at hf
  refine lv_iload_n X.1 X.2.1 dX5_doStep_0 rfl (lv_at hl 1 rfl) ?_
  by_cases c1 : p1 = (0 : Int32)
  · have hf := px_ip c1 hf
    refine lv_tableIn (tgt := 80) X.1 X.2.1 dX5_doStep_1 (by rw [c1]; decide) (by rw [c1]; decide) (by rw [c1]; rfl) (by decide) ?_
    refine lv_aload_n X.1 X.2.1 dX5_doStep_80 rfl (lv_at hl 0 rfl) ?_
    refine gtC_0_5 X w dX5_doStep_81 ?_
    refine lv_iload_n X.1 X.2.1 dX5_doStep_84 rfl (lv_at hl 3 rfl) ?_
    refine lv_iconst (v := (1 : Int32)) X.1 X.2.1 dX5_doStep_85 (by decide) ?_
    refine lv_icmp_ne (tgt := 94) X.1 X.2.1 dX5_doStep_86 (by decide) (fun c2 => ?_) (fun c2 => ?_)
    · have hf := px_in c2 hf
      refine lv_iload_n X.1 X.2.1 dX5_doStep_94 rfl (lv_at hl 2 rfl) ?_
      obtain ⟨M4, e3, hf⟩ := px_bq_e hf
      refine px_cV (As := [.int p2]) (rest := []) X hml hl w (cC_Journal_keep_28 l D cs ad e3) lk_5_289 (by omega) (rcC_28 X.2.2.2.2 w) rfl (Nat.le_of_ble_eq_true rfl) dX5_doStep_95 (fun H locs w => ?_)
      refine lv_goto (tgt := 308) X.1 X.2.1 dX5_doStep_98 (by decide) ?_
      cases hf
      exact px_retV X hr hlk w dX5_doStep_308
    · have hf := px_ip c2 hf
      refine lv_iload X.1 X.2.1 dX5_doStep_89 (lv_at hl 4 rfl) ?_
      refine lv_goto (tgt := 95) X.1 X.2.1 dX5_doStep_91 (by decide) ?_
      obtain ⟨M6, e5, hf⟩ := px_bq_e hf
      refine px_cV (As := [.int p4]) (rest := []) X hml hl w (cC_Journal_keep_28 l D cs ad e5) lk_5_289 (by omega) (rcC_28 X.2.2.2.2 w) rfl (Nat.le_of_ble_eq_true rfl) dX5_doStep_95 (fun H locs w => ?_)
      refine lv_goto (tgt := 308) X.1 X.2.1 dX5_doStep_98 (by decide) ?_
      cases hf
      exact px_retV X hr hlk w dX5_doStep_308
  · have hf := px_in c1 hf
    by_cases c7 : p1 = (1 : Int32)
    · have hf := px_ip c7 hf
      refine lv_tableIn (tgt := 101) X.1 X.2.1 dX5_doStep_1 (by rw [c7]; decide) (by rw [c7]; decide) (by rw [c7]; rfl) (by decide) ?_
      refine lv_aload_n X.1 X.2.1 dX5_doStep_101 rfl (lv_at hl 0 rfl) ?_
      refine lv_iload_n X.1 X.2.1 dX5_doStep_102 rfl (lv_at hl 3 rfl) ?_
      refine lv_iload_n X.1 X.2.1 dX5_doStep_103 rfl (lv_at hl 2 rfl) ?_
      refine lv_iload X.1 X.2.1 dX5_doStep_104 (lv_at hl 4 rfl) ?_
      obtain ⟨M9, e8, hf⟩ := px_bq_e hf
      refine px_cV (As := [.int p3, .int p2, .int p4]) (rest := []) X hml hl w (cC_postStep l D cs ad e8) lk_5_313 (by omega) (rcC_0 X.2.2.2.2 w) rfl (Nat.le_of_ble_eq_true rfl) dX5_doStep_106 (fun H locs w => ?_)
      refine lv_goto (tgt := 308) X.1 X.2.1 dX5_doStep_109 (by decide) ?_
      cases hf
      exact px_retV X hr hlk w dX5_doStep_308
    · have hf := px_in c7 hf
      by_cases c10 : p1 = (2 : Int32)
      · have hf := px_ip c10 hf
        refine lv_tableIn (tgt := 112) X.1 X.2.1 dX5_doStep_1 (by rw [c10]; decide) (by rw [c10]; decide) (by rw [c10]; rfl) (by decide) ?_
        refine lv_aload_n X.1 X.2.1 dX5_doStep_112 rfl (lv_at hl 0 rfl) ?_
        refine lv_iload_n X.1 X.2.1 dX5_doStep_113 rfl (lv_at hl 2 rfl) ?_
        refine lv_iload X.1 X.2.1 dX5_doStep_114 (lv_at hl 4 rfl) ?_
        obtain ⟨M12, e11, hf⟩ := px_bq_e hf
        refine px_cV (As := [.int p2, .int p4]) (rest := []) X hml hl w (cC_microStep l D cs ad e11) lk_5_316 (by omega) (rcC_0 X.2.2.2.2 w) rfl (Nat.le_of_ble_eq_true rfl) dX5_doStep_116 (fun H locs w => ?_)
        refine lv_goto (tgt := 308) X.1 X.2.1 dX5_doStep_119 (by decide) ?_
        cases hf
        exact px_retV X hr hlk w dX5_doStep_308
      · have hf := px_in c10 hf
        by_cases c13 : p1 = (3 : Int32)
        · have hf := px_ip c13 hf
          refine lv_tableIn (tgt := 122) X.1 X.2.1 dX5_doStep_1 (by rw [c13]; decide) (by rw [c13]; decide) (by rw [c13]; rfl) (by decide) ?_
          refine lv_aload_n X.1 X.2.1 dX5_doStep_122 rfl (lv_at hl 0 rfl) ?_
          refine lv_iload_n X.1 X.2.1 dX5_doStep_123 rfl (lv_at hl 2 rfl) ?_
          refine lv_iload X.1 X.2.1 dX5_doStep_124 (lv_at hl 4 rfl) ?_
          refine lv_iload_n X.1 X.2.1 dX5_doStep_126 rfl (lv_at hl 3 rfl) ?_
          refine lv_iconst (v := (0 : Int32)) X.1 X.2.1 dX5_doStep_127 (by decide) ?_
          obtain ⟨M15, e14, hf⟩ := px_bq_e hf
          refine px_cV (As := [.int p2, .int p4, .int p3, .int (0 : Int32)]) (rest := []) X hml hl w (cC_timerStep l D cs ad e14) lk_5_319 (by omega) (rcC_0 X.2.2.2.2 w) rfl (Nat.le_of_ble_eq_true rfl) dX5_doStep_128 (fun H locs w => ?_)
          refine lv_goto (tgt := 308) X.1 X.2.1 dX5_doStep_131 (by decide) ?_
          cases hf
          exact px_retV X hr hlk w dX5_doStep_308
        · have hf := px_in c13 hf
          by_cases c16 : p1 = (4 : Int32)
          · have hf := px_ip c16 hf
            refine lv_tableIn (tgt := 134) X.1 X.2.1 dX5_doStep_1 (by rw [c16]; decide) (by rw [c16]; decide) (by rw [c16]; rfl) (by decide) ?_
            refine lv_aload_n X.1 X.2.1 dX5_doStep_134 rfl (lv_at hl 0 rfl) ?_
            refine lv_iload_n X.1 X.2.1 dX5_doStep_135 rfl (lv_at hl 2 rfl) ?_
            refine lv_iload X.1 X.2.1 dX5_doStep_136 (lv_at hl 4 rfl) ?_
            refine lv_iload_n X.1 X.2.1 dX5_doStep_138 rfl (lv_at hl 3 rfl) ?_
            refine lv_iconst (v := (1 : Int32)) X.1 X.2.1 dX5_doStep_139 (by decide) ?_
            obtain ⟨M18, e17, hf⟩ := px_bq_e hf
            refine px_cV (As := [.int p2, .int p4, .int p3, .int (1 : Int32)]) (rest := []) X hml hl w (cC_timerStep l D cs ad e17) lk_5_319 (by omega) (rcC_0 X.2.2.2.2 w) rfl (Nat.le_of_ble_eq_true rfl) dX5_doStep_140 (fun H locs w => ?_)
            refine lv_goto (tgt := 308) X.1 X.2.1 dX5_doStep_143 (by decide) ?_
            cases hf
            exact px_retV X hr hlk w dX5_doStep_308
          · have hf := px_in c16 hf
            by_cases c19 : p1 = (5 : Int32)
            · have hf := px_ip c19 hf
              refine lv_tableIn (tgt := 146) X.1 X.2.1 dX5_doStep_1 (by rw [c19]; decide) (by rw [c19]; decide) (by rw [c19]; rfl) (by decide) ?_
              refine lv_aload_n X.1 X.2.1 dX5_doStep_146 rfl (lv_at hl 0 rfl) ?_
              refine gtC_0_8 X w dX5_doStep_147 ?_
              refine lv_iload_n X.1 X.2.1 dX5_doStep_150 rfl (lv_at hl 2 rfl) ?_
              obtain ⟨M21, e20, hf⟩ := px_bq_e hf
              refine px_cV (As := [.int p2]) (rest := []) X hml hl w (cC_Timers_remove l D cs ad e20) lk_5_283 (by omega) (rcC_43 X.2.2.2.2 w) rfl (Nat.le_of_ble_eq_true rfl) dX5_doStep_151 (fun H locs w => ?_)
              refine lv_goto (tgt := 308) X.1 X.2.1 dX5_doStep_154 (by decide) ?_
              cases hf
              exact px_retV X hr hlk w dX5_doStep_308
            · have hf := px_in c19 hf
              by_cases c22 : p1 = (6 : Int32)
              · have hf := px_ip c22 hf
                refine lv_tableIn (tgt := 157) X.1 X.2.1 dX5_doStep_1 (by rw [c22]; decide) (by rw [c22]; decide) (by rw [c22]; rfl) (by decide) ?_
                refine lv_aload_n X.1 X.2.1 dX5_doStep_157 rfl (lv_at hl 0 rfl) ?_
                refine lv_iload_n X.1 X.2.1 dX5_doStep_158 rfl (lv_at hl 3 rfl) ?_
                refine lv_iconst (v := (1 : Int32)) X.1 X.2.1 dX5_doStep_159 (by decide) ?_
                refine lv_icmp_ne (tgt := 168) X.1 X.2.1 dX5_doStep_160 (by decide) (fun c23 => ?_) (fun c23 => ?_)
                · have hf := px_in c23 hf
                  refine lv_iload_n X.1 X.2.1 dX5_doStep_168 rfl (lv_at hl 2 rfl) ?_
                  obtain ⟨M25, e24, hf⟩ := px_bq_e hf
                  refine px_cV (As := [.int p2]) (rest := []) X hml hl w (cC_fail l D cs ad e24) lk_5_323 (by omega) (rcC_0 X.2.2.2.2 w) rfl (Nat.le_of_ble_eq_true rfl) dX5_doStep_169 (fun H locs w => ?_)
                  refine lv_goto (tgt := 308) X.1 X.2.1 dX5_doStep_172 (by decide) ?_
                  cases hf
                  exact px_retV X hr hlk w dX5_doStep_308
                · have hf := px_ip c23 hf
                  refine lv_iload X.1 X.2.1 dX5_doStep_163 (lv_at hl 4 rfl) ?_
                  refine lv_goto (tgt := 169) X.1 X.2.1 dX5_doStep_165 (by decide) ?_
                  obtain ⟨M27, e26, hf⟩ := px_bq_e hf
                  refine px_cV (As := [.int p4]) (rest := []) X hml hl w (cC_fail l D cs ad e26) lk_5_323 (by omega) (rcC_0 X.2.2.2.2 w) rfl (Nat.le_of_ble_eq_true rfl) dX5_doStep_169 (fun H locs w => ?_)
                  refine lv_goto (tgt := 308) X.1 X.2.1 dX5_doStep_172 (by decide) ?_
                  cases hf
                  exact px_retV X hr hlk w dX5_doStep_308
              · have hf := px_in c22 hf
                by_cases c28 : p1 = (7 : Int32)
                · have hf := px_ip c28 hf
                  refine lv_tableIn (tgt := 175) X.1 X.2.1 dX5_doStep_1 (by rw [c28]; decide) (by rw [c28]; decide) (by rw [c28]; rfl) (by decide) ?_
                  refine lv_aload_n X.1 X.2.1 dX5_doStep_175 rfl (lv_at hl 0 rfl) ?_
                  refine lv_iload_n X.1 X.2.1 dX5_doStep_176 rfl (lv_at hl 2 rfl) ?_
                  refine lv_iload X.1 X.2.1 dX5_doStep_177 (lv_at hl 4 rfl) ?_
                  refine lv_iload X.1 X.2.1 dX5_doStep_179 (lv_at hl 5 rfl) ?_
                  obtain ⟨M30, e29, hf⟩ := px_bq_e hf
                  refine px_cV (As := [.int p2, .int p4, .int p5]) (rest := []) X hml hl w (cC_callStep l D cs ad hk hrn e29) lk_5_326 (by omega) (rcC_0 X.2.2.2.2 w) rfl (Nat.le_of_ble_eq_true rfl) dX5_doStep_181 (fun H locs w => ?_)
                  refine lv_goto (tgt := 308) X.1 X.2.1 dX5_doStep_184 (by decide) ?_
                  cases hf
                  exact px_retV X hr hlk w dX5_doStep_308
                · have hf := px_in c28 hf
                  by_cases c31 : p1 = (8 : Int32)
                  · have hf := px_ip c31 hf
                    refine lv_tableIn (tgt := 187) X.1 X.2.1 dX5_doStep_1 (by rw [c31]; decide) (by rw [c31]; decide) (by rw [c31]; rfl) (by decide) ?_
                    refine lv_aload_n X.1 X.2.1 dX5_doStep_187 rfl (lv_at hl 0 rfl) ?_
                    refine lv_iload_n X.1 X.2.1 dX5_doStep_188 rfl (lv_at hl 2 rfl) ?_
                    refine lv_iload_n X.1 X.2.1 dX5_doStep_189 rfl (lv_at hl 3 rfl) ?_
                    refine lv_iload X.1 X.2.1 dX5_doStep_190 (lv_at hl 4 rfl) ?_
                    refine lv_iload X.1 X.2.1 dX5_doStep_192 (lv_at hl 5 rfl) ?_
                    obtain ⟨M33, e32, hf⟩ := px_bq_e hf
                    refine px_cV (As := [.int p2, .int p3, .int p4, .int p5]) (rest := []) X hml hl w (cC_tryStep l D cs ad hk hrn e32) lk_5_329 (by omega) (rcC_0 X.2.2.2.2 w) rfl (Nat.le_of_ble_eq_true rfl) dX5_doStep_194 (fun H locs w => ?_)
                    refine lv_goto (tgt := 308) X.1 X.2.1 dX5_doStep_197 (by decide) ?_
                    cases hf
                    exact px_retV X hr hlk w dX5_doStep_308
                  · have hf := px_in c31 hf
                    by_cases c34 : p1 = (9 : Int32)
                    · have hf := px_ip c34 hf
                      refine lv_tableIn (tgt := 200) X.1 X.2.1 dX5_doStep_1 (by rw [c34]; decide) (by rw [c34]; decide) (by rw [c34]; rfl) (by decide) ?_
                      refine lv_aload_n X.1 X.2.1 dX5_doStep_200 rfl (lv_at hl 0 rfl) ?_
                      refine lv_iload_n X.1 X.2.1 dX5_doStep_201 rfl (lv_at hl 2 rfl) ?_
                      refine lv_iload_n X.1 X.2.1 dX5_doStep_202 rfl (lv_at hl 3 rfl) ?_
                      refine lv_iload X.1 X.2.1 dX5_doStep_203 (lv_at hl 4 rfl) ?_
                      obtain ⟨M36, e35, hf⟩ := px_bq_e hf
                      refine px_cV (As := [.int p2, .int p3, .int p4]) (rest := []) X hml hl w (cC_answerStep l D cs ad e35) lk_5_332 (by omega) (rcC_0 X.2.2.2.2 w) rfl (Nat.le_of_ble_eq_true rfl) dX5_doStep_205 (fun H locs w => ?_)
                      refine lv_goto (tgt := 308) X.1 X.2.1 dX5_doStep_208 (by decide) ?_
                      cases hf
                      exact px_retV X hr hlk w dX5_doStep_308
                    · have hf := px_in c34 hf
                      by_cases c37 : p1 = (10 : Int32)
                      · have hf := px_ip c37 hf
                        refine lv_tableIn (tgt := 211) X.1 X.2.1 dX5_doStep_1 (by rw [c37]; decide) (by rw [c37]; decide) (by rw [c37]; rfl) (by decide) ?_
                        refine lv_aload_n X.1 X.2.1 dX5_doStep_211 rfl (lv_at hl 0 rfl) ?_
                        refine lv_iload_n X.1 X.2.1 dX5_doStep_212 rfl (lv_at hl 2 rfl) ?_
                        obtain ⟨M39, e38, hf⟩ := px_bq_e hf
                        refine px_cV (As := [.int p2]) (rest := []) X hml hl w (cC_makeStep l D cs ad e38) lk_5_335 (by omega) (rcC_0 X.2.2.2.2 w) rfl (Nat.le_of_ble_eq_true rfl) dX5_doStep_213 (fun H locs w => ?_)
                        refine lv_goto (tgt := 308) X.1 X.2.1 dX5_doStep_216 (by decide) ?_
                        cases hf
                        exact px_retV X hr hlk w dX5_doStep_308
                      · have hf := px_in c37 hf
                        by_cases c40 : p1 = (11 : Int32)
                        · have hf := px_ip c40 hf
                          refine lv_tableIn (tgt := 219) X.1 X.2.1 dX5_doStep_1 (by rw [c40]; decide) (by rw [c40]; decide) (by rw [c40]; rfl) (by decide) ?_
                          refine lv_aload_n X.1 X.2.1 dX5_doStep_219 rfl (lv_at hl 0 rfl) ?_
                          refine gtC_0_7 X w dX5_doStep_220 ?_
                          refine lv_aload_n X.1 X.2.1 dX5_doStep_223 rfl (lv_at hl 0 rfl) ?_
                          refine gtC_0_1 X w dX5_doStep_224 ?_
                          refine lv_iload_n X.1 X.2.1 dX5_doStep_227 rfl (lv_at hl 2 rfl) ?_
                          obtain ⟨b41, hf⟩ := px_ck_e hf
                          refine ilC_6 X w b41 dX5_doStep_228 ?_
                          refine lv_iload_n X.1 X.2.1 dX5_doStep_229 rfl (lv_at hl 3 rfl) ?_
                          refine lv_iconst (v := (1 : Int32)) X.1 X.2.1 dX5_doStep_230 (by decide) ?_
                          refine lv_icmp_ne (tgt := 238) X.1 X.2.1 dX5_doStep_231 (by decide) (fun c42 => ?_) (fun c42 => ?_)
                          · have hf := px_in c42 hf
                            refine lv_iconst (v := (1 : Int32)) X.1 X.2.1 dX5_doStep_238 (by decide) ?_
                            refine lv_iload X.1 X.2.1 dX5_doStep_239 (lv_at hl 4 rfl) ?_
                            obtain ⟨M44, e43, hf⟩ := px_bq_e hf
                            refine px_cV (As := [.int (M 6 p2.toNatClampNeg), .int (1 : Int32), .int p4]) (rest := []) X hml hl w (cC_Promises_resolveOrReject l D cs ad e43) lk_5_255 (by omega) (rcC_32 X.2.2.2.2 w) rfl (Nat.le_of_ble_eq_true rfl) dX5_doStep_241 (fun H locs w => ?_)
                            refine lv_goto (tgt := 308) X.1 X.2.1 dX5_doStep_244 (by decide) ?_
                            cases hf
                            exact px_retV X hr hlk w dX5_doStep_308
                          · have hf := px_ip c42 hf
                            refine lv_iconst (v := (2 : Int32)) X.1 X.2.1 dX5_doStep_234 (by decide) ?_
                            refine lv_goto (tgt := 239) X.1 X.2.1 dX5_doStep_235 (by decide) ?_
                            refine lv_iload X.1 X.2.1 dX5_doStep_239 (lv_at hl 4 rfl) ?_
                            obtain ⟨M46, e45, hf⟩ := px_bq_e hf
                            refine px_cV (As := [.int (M 6 p2.toNatClampNeg), .int (2 : Int32), .int p4]) (rest := []) X hml hl w (cC_Promises_resolveOrReject l D cs ad e45) lk_5_255 (by omega) (rcC_32 X.2.2.2.2 w) rfl (Nat.le_of_ble_eq_true rfl) dX5_doStep_241 (fun H locs w => ?_)
                            refine lv_goto (tgt := 308) X.1 X.2.1 dX5_doStep_244 (by decide) ?_
                            cases hf
                            exact px_retV X hr hlk w dX5_doStep_308
                        · have hf := px_in c40 hf
                          by_cases c47 : p1 = (12 : Int32)
                          · have hf := px_ip c47 hf
                            refine lv_tableIn (tgt := 247) X.1 X.2.1 dX5_doStep_1 (by rw [c47]; decide) (by rw [c47]; decide) (by rw [c47]; rfl) (by decide) ?_
                            refine lv_aload_n X.1 X.2.1 dX5_doStep_247 rfl (lv_at hl 0 rfl) ?_
                            refine gtC_0_7 X w dX5_doStep_248 ?_
                            refine lv_aload_n X.1 X.2.1 dX5_doStep_251 rfl (lv_at hl 0 rfl) ?_
                            refine gtC_0_1 X w dX5_doStep_252 ?_
                            refine lv_iload_n X.1 X.2.1 dX5_doStep_255 rfl (lv_at hl 2 rfl) ?_
                            obtain ⟨b48, hf⟩ := px_ck_e hf
                            refine ilC_6 X w b48 dX5_doStep_256 ?_
                            refine lv_aload_n X.1 X.2.1 dX5_doStep_257 rfl (lv_at hl 0 rfl) ?_
                            refine gtC_0_1 X w dX5_doStep_258 ?_
                            refine lv_iload_n X.1 X.2.1 dX5_doStep_261 rfl (lv_at hl 3 rfl) ?_
                            obtain ⟨b49, hf⟩ := px_ck_e hf
                            refine ilC_6 X w b49 dX5_doStep_262 ?_
                            obtain ⟨M51, e50, hf⟩ := px_bq_e hf
                            refine px_cV (As := [.int (M 6 p2.toNatClampNeg), .int (M 6 p3.toNatClampNeg)]) (rest := []) X hml hl w (cC_Promises_follow l D cs ad e50) lk_5_258 (by omega) (rcC_32 X.2.2.2.2 w) rfl (Nat.le_of_ble_eq_true rfl) dX5_doStep_263 (fun H locs w => ?_)
                            refine lv_goto (tgt := 308) X.1 X.2.1 dX5_doStep_266 (by decide) ?_
                            cases hf
                            exact px_retV X hr hlk w dX5_doStep_308
                          · have hf := px_in c47 hf
                            by_cases c52 : p1 = (13 : Int32)
                            · have hf := px_ip c52 hf
                              refine lv_tableIn (tgt := 269) X.1 X.2.1 dX5_doStep_1 (by rw [c52]; decide) (by rw [c52]; decide) (by rw [c52]; rfl) (by decide) ?_
                              refine lv_aload_n X.1 X.2.1 dX5_doStep_269 rfl (lv_at hl 0 rfl) ?_
                              refine lv_iload_n X.1 X.2.1 dX5_doStep_270 rfl (lv_at hl 2 rfl) ?_
                              refine lv_iload_n X.1 X.2.1 dX5_doStep_271 rfl (lv_at hl 3 rfl) ?_
                              refine lv_bipush (v := (16 : Int32)) X.1 X.2.1 dX5_doStep_272 (by decide) ?_
                              refine lv_irem X.1 X.2.1 dX5_doStep_274 (by decide) ?_
                              refine lv_iload_n X.1 X.2.1 dX5_doStep_275 rfl (lv_at hl 3 rfl) ?_
                              refine lv_bipush (v := (16 : Int32)) X.1 X.2.1 dX5_doStep_276 (by decide) ?_
                              refine lv_idiv X.1 X.2.1 dX5_doStep_278 (by decide) ?_
                              obtain ⟨M54, e53, hf⟩ := px_bq_e hf
                              refine px_cV (As := [.int p2, .int (p3 - p3 / (16 : Int32) * (16 : Int32)), .int (p3 / (16 : Int32))]) (rest := []) X hml hl w (cC_thenStep l D cs ad e53) lk_5_338 (by omega) (rcC_0 X.2.2.2.2 w) rfl (Nat.le_of_ble_eq_true rfl) dX5_doStep_279 (fun H locs w => ?_)
                              refine lv_goto (tgt := 308) X.1 X.2.1 dX5_doStep_282 (by decide) ?_
                              cases hf
                              exact px_retV X hr hlk w dX5_doStep_308
                            · have hf := px_in c52 hf
                              by_cases c55 : p1 = (14 : Int32)
                              · have hf := px_ip c55 hf
                                refine lv_tableIn (tgt := 285) X.1 X.2.1 dX5_doStep_1 (by rw [c55]; decide) (by rw [c55]; decide) (by rw [c55]; rfl) (by decide) ?_
                                refine lv_aload_n X.1 X.2.1 dX5_doStep_285 rfl (lv_at hl 0 rfl) ?_
                                refine lv_iload_n X.1 X.2.1 dX5_doStep_286 rfl (lv_at hl 2 rfl) ?_
                                obtain ⟨M57, e56, hf⟩ := px_bq_e hf
                                refine px_cV (As := [.int p2]) (rest := []) X hml hl w (cC_frameStep l D cs ad e56) lk_5_341 (by omega) (rcC_0 X.2.2.2.2 w) rfl (Nat.le_of_ble_eq_true rfl) dX5_doStep_287 (fun H locs w => ?_)
                                refine lv_goto (tgt := 308) X.1 X.2.1 dX5_doStep_290 (by decide) ?_
                                cases hf
                                exact px_retV X hr hlk w dX5_doStep_308
                              · have hf := px_in c55 hf
                                by_cases c58 : p1 = (15 : Int32)
                                · have hf := px_ip c58 hf
                                  refine lv_tableIn (tgt := 293) X.1 X.2.1 dX5_doStep_1 (by rw [c58]; decide) (by rw [c58]; decide) (by rw [c58]; rfl) (by decide) ?_
                                  refine lv_aload_n X.1 X.2.1 dX5_doStep_293 rfl (lv_at hl 0 rfl) ?_
                                  refine gtC_0_1 X w dX5_doStep_294 ?_
                                  refine lv_iload_n X.1 X.2.1 dX5_doStep_297 rfl (lv_at hl 2 rfl) ?_
                                  refine lv_aload_n X.1 X.2.1 dX5_doStep_298 rfl (lv_at hl 0 rfl) ?_
                                  refine gtC_0_1 X w dX5_doStep_299 ?_
                                  refine lv_iload_n X.1 X.2.1 dX5_doStep_302 rfl (lv_at hl 3 rfl) ?_
                                  obtain ⟨b59, hf⟩ := px_ck_e hf
                                  refine ilC_6 X w b59 dX5_doStep_303 ?_
                                  obtain ⟨b60, hf⟩ := px_ck_e hf
                                  refine isC_6 X w b60 dX5_doStep_304 (fun H locs w => ?_)
                                  obtain ⟨M61, eM61, hf⟩ := px_bn_e hf
                                  rw [← eM61] at w
                                  refine lv_goto (tgt := 308) X.1 X.2.1 dX5_doStep_305 (by decide) ?_
                                  cases hf
                                  exact px_retV X hr hlk w dX5_doStep_308
                                · have hf := px_in c58 hf
                                  refine lv_tableOut (tgt := 308) X.1 X.2.1 dX5_doStep_1 (by have := px_ne (v := 0) (by decide) c1; have := px_ne (v := 1) (by decide) c7; have := px_ne (v := 2) (by decide) c10; have := px_ne (v := 3) (by decide) c13; have := px_ne (v := 4) (by decide) c16; have := px_ne (v := 5) (by decide) c19; have := px_ne (v := 6) (by decide) c22; have := px_ne (v := 7) (by decide) c28; have := px_ne (v := 8) (by decide) c31; have := px_ne (v := 9) (by decide) c34; have := px_ne (v := 10) (by decide) c37; have := px_ne (v := 11) (by decide) c40; have := px_ne (v := 12) (by decide) c47; have := px_ne (v := 13) (by decide) c52; have := px_ne (v := 14) (by decide) c55; have := px_ne (v := 15) (by decide) c58; omega) (by decide) ?_
                                  cases hf
                                  exact px_retV X hr hlk w dX5_doStep_308
theorem lk_5_309 : px_Lk RX5 309 yX5_doStep cX5_doStep 6 none 5 := ⟨px_tb (by decide +kernel) (by decide +kernel), px_tb (by decide +kernel) (by decide +kernel), px_tb (by decide +kernel) (by decide +kernel), px_tb (by decide +kernel) (by decide +kernel), px_tb (by decide +kernel) (by decide +kernel), by decide +kernel, by decide⟩
def gC_run_L29 (rn : px_M → Int32 → Int32 → Int32 → Option px_M) (rc29 : px_M → Int32 → Int32 → Int32 → Int32 → Int32 → Option px_M) (M : px_M) (y1 y2 y3 y4 y5 : Int32) : Option px_M := (if y4 ≤ y5 then some M else (if (M 0 15) = 0 then px_bq (fC_Functions_code M y1 y5) (fun r11 => px_bq (fC_Functions_a M y1 y5) (fun r13 => px_bq (fC_Functions_b M y1 y5) (fun r15 => px_bq (fC_doStep rn M r11 r13 r15 y2 y3) (fun M17 => rc29 M17 y1 y2 y3 y4 (y5 + (1 : Int32)))))) else some M))
set_option maxHeartbeats 4000000 in
set_option maxRecDepth 100000 in
theorem lC_run_L29 {l : Launch} {D : va_G} {cs : Nat → ClassId} {ad : Nat → Nat} {p : Program} {e : Env} {s : State} {m : MethodId} {args : Array Value} {below : List Frame} {meth : Method} {c : Code} {A : Nat → Prop} {rn : px_M → Int32 → Int32 → Int32 → Option px_M} {k : Nat} (hk : 3 ≤ k) (hrn : ∀ (M : px_M) (a b c : Int32) (M' : px_M), rn M a b c = some M' → px_mV l D (tyC cs) (wC cs ad) yX5_run cX5_run 6 k [.ref (ad 0), .int a, .int b, .int c] M M') (X : px_X D (tyC cs) p s m args c cX5_run yX5_run.cls) (hr : meth.sig.returnType = none) (hlk : meth.locks = false) (hml : c.maxLocals = 6) : ∀ (j : Nat) (M : px_M) (y1 y2 y3 y4 y5 : Int32) (z : px_M), px_fx5 (gC_run_L29 rn) j M y1 y2 y3 y4 y5 = some z → ∀ (H : Heap) (locs : List Loc) (ls : Array Slot), px_H D (wC cs ad) A s.heap M H locs → lv_has ls 6 [(0, .ref (ad 0)), (1, .int y1), (2, .int y2), (3, .int y3), (4, .int y4), (5, .int y5)] → W p l e (px_rm (k + 4)) s m args below meth c H locs 0 0 (px_QV D (tyC cs) (wC cs ad) below args s A z) (F0 m 29 ls []) := by
  refine px_fx5_i (P := fun M y1 y2 y3 y4 y5 (z : px_M) => ∀ (H : Heap) (locs : List Loc) (ls : Array Slot), px_H D (wC cs ad) A s.heap M H locs → lv_has ls 6 [(0, .ref (ad 0)), (1, .int y1), (2, .int y2), (3, .int y3), (4, .int y4), (5, .int y5)] → W p l e (px_rm (k + 4)) s m args below meth c H locs 0 0 (px_QV D (tyC cs) (wC cs ad) below args s A z) (F0 m 29 ls [])) ?_
  intro rc29 ih29 M y1 y2 y3 y4 y5 z hf H locs ls w hl
  unfold gC_run_L29 at hf
  refine lv_iload X.1 X.2.1 dX5_run_29 (lv_at hl 5 rfl) ?_
  refine lv_iload X.1 X.2.1 dX5_run_31 (lv_at hl 4 rfl) ?_
  refine lv_icmp_ge (tgt := 85) X.1 X.2.1 dX5_run_33 (by decide) (fun c8 => ?_) (fun c8 => ?_)
  · have hf := px_ip c8 hf
    cases hf
    exact px_retV X hr hlk w dX5_run_85
  · have hf := px_in c8 hf
    refine lv_aload_n X.1 X.2.1 dX5_run_36 rfl (lv_at hl 0 rfl) ?_
    refine gtC_0_15 X w dX5_run_37 ?_
    refine lv_if_ne (tgt := 85) X.1 X.2.1 dX5_run_40 (by decide) (fun c9 => ?_) (fun c9 => ?_)
    · have hf := px_in c9 hf
      cases hf
      exact px_retV X hr hlk w dX5_run_85
    · have hf := px_ip c9 hf
      refine lv_aload_n X.1 X.2.1 dX5_run_43 rfl (lv_at hl 0 rfl) ?_
      refine lv_aload_n X.1 X.2.1 dX5_run_44 rfl (lv_at hl 0 rfl) ?_
      refine gtC_0_0 X w dX5_run_45 ?_
      refine lv_iload_n X.1 X.2.1 dX5_run_48 rfl (lv_at hl 1 rfl) ?_
      refine lv_iload X.1 X.2.1 dX5_run_49 (lv_at hl 5 rfl) ?_
      obtain ⟨r11, e10, hf⟩ := px_bq_e hf
      refine px_cI (As := [.int y1, .int y5]) (rest := [.ref (ad 0)]) X hml hl w (cC_Functions_code l D cs ad e10) lk_5_299 (by omega) (rcC_1 X.2.2.2.2 w) rfl (Nat.le_of_ble_eq_true rfl) dX5_run_51 (fun H locs w => ?_)
      refine lv_aload_n X.1 X.2.1 dX5_run_54 rfl (lv_at hl 0 rfl) ?_
      refine gtC_0_0 X w dX5_run_55 ?_
      refine lv_iload_n X.1 X.2.1 dX5_run_58 rfl (lv_at hl 1 rfl) ?_
      refine lv_iload X.1 X.2.1 dX5_run_59 (lv_at hl 5 rfl) ?_
      obtain ⟨r13, e12, hf⟩ := px_bq_e hf
      refine px_cI (As := [.int y1, .int y5]) (rest := [.int r11, .ref (ad 0)]) X hml hl w (cC_Functions_a l D cs ad e12) lk_5_303 (by omega) (rcC_1 X.2.2.2.2 w) rfl (Nat.le_of_ble_eq_true rfl) dX5_run_61 (fun H locs w => ?_)
      refine lv_aload_n X.1 X.2.1 dX5_run_64 rfl (lv_at hl 0 rfl) ?_
      refine gtC_0_0 X w dX5_run_65 ?_
      refine lv_iload_n X.1 X.2.1 dX5_run_68 rfl (lv_at hl 1 rfl) ?_
      refine lv_iload X.1 X.2.1 dX5_run_69 (lv_at hl 5 rfl) ?_
      obtain ⟨r15, e14, hf⟩ := px_bq_e hf
      refine px_cI (As := [.int y1, .int y5]) (rest := [.int r13, .int r11, .ref (ad 0)]) X hml hl w (cC_Functions_b l D cs ad e14) lk_5_306 (by omega) (rcC_1 X.2.2.2.2 w) rfl (Nat.le_of_ble_eq_true rfl) dX5_run_71 (fun H locs w => ?_)
      refine lv_iload_n X.1 X.2.1 dX5_run_74 rfl (lv_at hl 2 rfl) ?_
      refine lv_iload_n X.1 X.2.1 dX5_run_75 rfl (lv_at hl 3 rfl) ?_
      obtain ⟨M17, e16, hf⟩ := px_bq_e hf
      refine px_cV (As := [.int r11, .int r13, .int r15, .int y2, .int y3]) (rest := []) X hml hl w (cC_doStep l D cs ad hk hrn e16) lk_5_309 (by omega) (rcC_0 X.2.2.2.2 w) rfl (Nat.le_of_ble_eq_true rfl) dX5_run_76 (fun H locs w => ?_)
      refine lv_iinc (v := (y5 + (1 : Int32))) (lv' := [(5, .int (y5 + (1 : Int32))), (0, .ref (ad 0)), (1, .int y1), (2, .int y2), (3, .int y3), (4, .int y4)]) X.1 X.2.1 dX5_run_79 hl (k := 5) rfl rfl (by decide) rfl (fun ls hl => ?_)
      refine lv_goto (tgt := 29) X.1 X.2.1 dX5_run_82 (by decide) ?_
      exact ih29 M17 y1 y2 y3 y4 (y5 + (1 : Int32)) _ hf _ _ ls w (lv_sub hl [1, 2, 3, 4, 5, 0] rfl)
def fC_runF (rn : px_M → Int32 → Int32 → Int32 → Option px_M) (M : px_M) (p1 p2 p3 : Int32) : Option px_M := px_bq (fC_countRun M p3) (fun M2 => px_bn (px_up M2 0 15 (0 : Int32)) (fun M3 => px_bq (fC_endWith M3 (0 : Int32) (0 : Int32)) (fun M5 => px_bq (fC_Functions_length M5 p1) (fun r7 => px_fx5 (gC_run_L29 rn) 7 M5 p1 p2 p3 r7 (0 : Int32)))))
set_option maxHeartbeats 4000000 in
set_option maxRecDepth 100000 in
theorem cC_runF (l : Launch) (D : va_G) (cs : Nat → ClassId) (ad : Nat → Nat) {rn : px_M → Int32 → Int32 → Int32 → Option px_M} {k : Nat} (hk : 3 ≤ k) (hrn : ∀ (M : px_M) (a b c : Int32) (M' : px_M), rn M a b c = some M' → px_mV l D (tyC cs) (wC cs ad) yX5_run cX5_run 6 k [.ref (ad 0), .int a, .int b, .int c] M M') {M : px_M} {p1 p2 p3 : Int32} {M' : px_M} (hf : fC_runF rn M p1 p2 p3 = some M') : px_mV l D (tyC cs) (wC cs ad) yX5_run cX5_run 6 (k + 4) [.ref (ad 0), .int p1, .int p2, .int p3] M M' := by
  refine px_ofV (by decide +kernel) (Nat.le_of_ble_eq_true rfl) ?_
  intro p e s m below meth c A ls X hr hlk hml w hl
  have hl : lv_has ls 6 [(0, .ref (ad 0)), (1, .int p1), (2, .int p2), (3, .int p3)] := hl
  unfold fC_runF at hf
  refine lv_aload_n X.1 X.2.1 dX5_run_0 rfl (lv_at hl 0 rfl) ?_
  refine lv_iload_n X.1 X.2.1 dX5_run_1 rfl (lv_at hl 3 rfl) ?_
  obtain ⟨M2, e1, hf⟩ := px_bq_e hf
  refine px_cV (As := [.int p3]) (rest := []) X hml hl w (cC_countRun l D cs ad e1) lk_5_292 (by omega) (rcC_0 X.2.2.2.2 w) rfl (Nat.le_of_ble_eq_true rfl) dX5_run_2 (fun H locs w => ?_)
  refine lv_aload_n X.1 X.2.1 dX5_run_5 rfl (lv_at hl 0 rfl) ?_
  refine lv_iconst (v := (0 : Int32)) X.1 X.2.1 dX5_run_6 (by decide) ?_
  refine ptC_0_15 X w rfl dX5_run_7 (fun H locs w => ?_)
  obtain ⟨M3, eM3, hf⟩ := px_bn_e hf
  rw [← eM3] at w
  refine lv_aload_n X.1 X.2.1 dX5_run_10 rfl (lv_at hl 0 rfl) ?_
  refine lv_iconst (v := (0 : Int32)) X.1 X.2.1 dX5_run_11 (by decide) ?_
  refine lv_iconst (v := (0 : Int32)) X.1 X.2.1 dX5_run_12 (by decide) ?_
  obtain ⟨M5, e4, hf⟩ := px_bq_e hf
  refine px_cV (As := [.int (0 : Int32), .int (0 : Int32)]) (rest := []) X hml hl w (cC_endWith l D cs ad e4) lk_5_295 (by omega) (rcC_0 X.2.2.2.2 w) rfl (Nat.le_of_ble_eq_true rfl) dX5_run_13 (fun H locs w => ?_)
  refine lv_aload_n X.1 X.2.1 dX5_run_16 rfl (lv_at hl 0 rfl) ?_
  refine gtC_0_0 X w dX5_run_17 ?_
  refine lv_iload_n X.1 X.2.1 dX5_run_20 rfl (lv_at hl 1 rfl) ?_
  obtain ⟨r7, e6, hf⟩ := px_bq_e hf
  refine px_cI (As := [.int p1]) (rest := []) X hml hl w (cC_Functions_length l D cs ad e6) lk_5_106 (by omega) (rcC_1 X.2.2.2.2 w) rfl (Nat.le_of_ble_eq_true rfl) dX5_run_21 (fun H locs w => ?_)
  refine lv_istore (lv' := [(4, .int r7), (0, .ref (ad 0)), (1, .int p1), (2, .int p2), (3, .int p3)]) X.1 X.2.1 dX5_run_24 hl (by decide) rfl (fun ls hl => ?_)
  refine lv_iconst (v := (0 : Int32)) X.1 X.2.1 dX5_run_26 (by decide) ?_
  refine lv_istore (lv' := [(5, .int (0 : Int32)), (4, .int r7), (0, .ref (ad 0)), (1, .int p1), (2, .int p2), (3, .int p3)]) X.1 X.2.1 dX5_run_27 hl (by decide) rfl (fun ls hl => ?_)
  exact lC_run_L29 hk hrn X hr hlk hml 7 M5 p1 p2 p3 r7 (0 : Int32) _ hf _ _ ls w (lv_sub hl [2, 3, 4, 5, 1, 0] rfl)
def fC_run (M : px_M) (p1 p2 p3 : Int32) : Option px_M := px_fx3 fC_runF 6 M p1 p2 p3
theorem cC_runN (l : Launch) (D : va_G) (cs : Nat → ClassId) (ad : Nat → Nat) : ∀ (j : Nat) (M : px_M) (a b c : Int32) (M' : px_M), px_fx3 fC_runF j M a b c = some M' → px_mV l D (tyC cs) (wC cs ad) yX5_run cX5_run 6 (3 + 4 * j) [.ref (ad 0), .int a, .int b, .int c] M M' := by
  intro j
  induction j with
  | zero => intro M a b c M' h; cases h
  | succ j ih => intro M a b c M' h; exact cC_runF l D cs ad (k := 3 + 4 * j) (by omega) ih h
theorem cC_run (l : Launch) (D : va_G) (cs : Nat → ClassId) (ad : Nat → Nat) {M : px_M} {p1 p2 p3 : Int32} {M' : px_M} (hf : fC_run M p1 p2 p3 = some M') : px_mV l D (tyC cs) (wC cs ad) yX5_run cX5_run 6 27 [.ref (ad 0), .int p1, .int p2, .int p3] M M' := cC_runN l D cs ad 6 M p1 p2 p3 M' hf
