theorem lk_5_243 : px_Lk RX5 243 yX3_sourceOf cX3_sourceOf 2 (some .int) 1 := ⟨px_tb (by decide +kernel) (by decide +kernel), px_tb (by decide +kernel) (by decide +kernel), px_tb (by decide +kernel) (by decide +kernel), px_tb (by decide +kernel) (by decide +kernel), px_tb (by decide +kernel) (by decide +kernel), by decide +kernel, by decide⟩
theorem lk_5_246 : px_Lk RX5 246 yX3_targetOf cX3_targetOf 2 (some .int) 1 := ⟨px_tb (by decide +kernel) (by decide +kernel), px_tb (by decide +kernel) (by decide +kernel), px_tb (by decide +kernel) (by decide +kernel), px_tb (by decide +kernel) (by decide +kernel), px_tb (by decide +kernel) (by decide +kernel), by decide +kernel, by decide⟩
theorem lk_5_180 : px_Lk RX5 180 yX3_stateOf cX3_stateOf 2 (some .int) 1 := ⟨px_tb (by decide +kernel) (by decide +kernel), px_tb (by decide +kernel) (by decide +kernel), px_tb (by decide +kernel) (by decide +kernel), px_tb (by decide +kernel) (by decide +kernel), px_tb (by decide +kernel) (by decide +kernel), by decide +kernel, by decide⟩
theorem lk_5_185 : px_Lk RX5 185 yX3_numberOf cX3_numberOf 2 (some .int) 1 := ⟨px_tb (by decide +kernel) (by decide +kernel), px_tb (by decide +kernel) (by decide +kernel), px_tb (by decide +kernel) (by decide +kernel), px_tb (by decide +kernel) (by decide +kernel), px_tb (by decide +kernel) (by decide +kernel), by decide +kernel, by decide⟩
theorem lk_5_252 : px_Lk RX5 252 yX5_settleWithResult cX5_settleWithResult 2 none 1 := ⟨px_tb (by decide +kernel) (by decide +kernel), px_tb (by decide +kernel) (by decide +kernel), px_tb (by decide +kernel) (by decide +kernel), px_tb (by decide +kernel) (by decide +kernel), px_tb (by decide +kernel) (by decide +kernel), by decide +kernel, by decide⟩
theorem lk_5_249 : px_Lk RX5 249 yX3_settle cX3_settle 5 none 3 := ⟨px_tb (by decide +kernel) (by decide +kernel), px_tb (by decide +kernel) (by decide +kernel), px_tb (by decide +kernel) (by decide +kernel), px_tb (by decide +kernel) (by decide +kernel), px_tb (by decide +kernel) (by decide +kernel), by decide +kernel, by decide⟩
def fC_doReaction (M : px_M) (p1 : Int32) : Option px_M := px_bq (fC_Promises_sourceOf M p1) (fun r2 => px_bq (fC_Promises_targetOf M p1) (fun r4 => px_bq (fC_Promises_stateOf M r2) (fun r6 => px_bq (fC_Promises_numberOf M r2) (fun r8 => px_bq (fC_Promises_functionOf M p1) (fun r10 => (if r10 = (16 : Int32) then px_bq (fC_Promises_settle M r4 r6 r8) (fun M22 => some M22) else px_bq (fC_isFunction M r10) (fun r13 => (if r13 = 0 then px_bq (fC_Promises_resolveOrReject M r4 r6 r8) (fun M16 => some M16) else px_bq (fC_run M r10 r8 (1 : Int32)) (fun M18 => px_bq (fC_settleWithResult M18 r4) (fun M20 => some M20))))))))))
set_option maxHeartbeats 4000000 in
set_option maxRecDepth 100000 in
theorem cC_doReaction (l : Launch) (D : va_G) (cs : Nat → ClassId) (ad : Nat → Nat) {M : px_M} {p1 : Int32} {M' : px_M} (hf : fC_doReaction M p1 = some M') : px_mV l D (tyC cs) (wC cs ad) yX5_doReaction cX5_doReaction 7 28 [.ref (ad 0), .int p1] M M' := by
  refine px_ofV (by decide +kernel) (Nat.le_of_ble_eq_true rfl) ?_
  intro p e s m below meth c A ls X hr hlk hml w hl
  have hl : lv_has ls 7 [(0, .ref (ad 0)), (1, .int p1)] := hl
  unfold fC_doReaction at hf
  refine lv_aload_n X.1 X.2.1 dX5_doReaction_0 rfl (lv_at hl 0 rfl) ?_
  refine gtC_0_7 X w dX5_doReaction_1 ?_
  refine lv_iload_n X.1 X.2.1 dX5_doReaction_4 rfl (lv_at hl 1 rfl) ?_
  obtain ⟨r2, e1, hf⟩ := px_bq_e hf
  refine px_cI (As := [.int p1]) (rest := []) X hml hl w (cC_Promises_sourceOf l D cs ad e1) lk_5_243 (by decide) (rcC_32 X.2.2.2.2 w) rfl (Nat.le_of_ble_eq_true rfl) dX5_doReaction_5 (fun H locs w => ?_)
  refine lv_istore_n (lv' := [(2, .int r2), (0, .ref (ad 0)), (1, .int p1)]) X.1 X.2.1 dX5_doReaction_8 rfl hl (by decide) rfl (fun ls hl => ?_)
  refine lv_aload_n X.1 X.2.1 dX5_doReaction_9 rfl (lv_at hl 1 rfl) ?_
  refine gtC_0_7 X w dX5_doReaction_10 ?_
  refine lv_iload_n X.1 X.2.1 dX5_doReaction_13 rfl (lv_at hl 2 rfl) ?_
  obtain ⟨r4, e3, hf⟩ := px_bq_e hf
  refine px_cI (As := [.int p1]) (rest := []) X hml hl w (cC_Promises_targetOf l D cs ad e3) lk_5_246 (by decide) (rcC_32 X.2.2.2.2 w) rfl (Nat.le_of_ble_eq_true rfl) dX5_doReaction_14 (fun H locs w => ?_)
  refine lv_istore_n (lv' := [(3, .int r4), (2, .int r2), (0, .ref (ad 0)), (1, .int p1)]) X.1 X.2.1 dX5_doReaction_17 rfl hl (by decide) rfl (fun ls hl => ?_)
  refine lv_aload_n X.1 X.2.1 dX5_doReaction_18 rfl (lv_at hl 2 rfl) ?_
  refine gtC_0_7 X w dX5_doReaction_19 ?_
  refine lv_iload_n X.1 X.2.1 dX5_doReaction_22 rfl (lv_at hl 1 rfl) ?_
  obtain ⟨r6, e5, hf⟩ := px_bq_e hf
  refine px_cI (As := [.int r2]) (rest := []) X hml hl w (cC_Promises_stateOf l D cs ad e5) lk_5_180 (by decide) (rcC_32 X.2.2.2.2 w) rfl (Nat.le_of_ble_eq_true rfl) dX5_doReaction_23 (fun H locs w => ?_)
  refine lv_istore (lv' := [(4, .int r6), (3, .int r4), (2, .int r2), (0, .ref (ad 0)), (1, .int p1)]) X.1 X.2.1 dX5_doReaction_26 hl (by decide) rfl (fun ls hl => ?_)
  refine lv_aload_n X.1 X.2.1 dX5_doReaction_28 rfl (lv_at hl 3 rfl) ?_
  refine gtC_0_7 X w dX5_doReaction_29 ?_
  refine lv_iload_n X.1 X.2.1 dX5_doReaction_32 rfl (lv_at hl 2 rfl) ?_
  obtain ⟨r8, e7, hf⟩ := px_bq_e hf
  refine px_cI (As := [.int r2]) (rest := []) X hml hl w (cC_Promises_numberOf l D cs ad e7) lk_5_185 (by decide) (rcC_32 X.2.2.2.2 w) rfl (Nat.le_of_ble_eq_true rfl) dX5_doReaction_33 (fun H locs w => ?_)
  refine lv_istore (lv' := [(5, .int r8), (4, .int r6), (3, .int r4), (2, .int r2), (0, .ref (ad 0)), (1, .int p1)]) X.1 X.2.1 dX5_doReaction_36 hl (by decide) rfl (fun ls hl => ?_)
  refine lv_aload_n X.1 X.2.1 dX5_doReaction_38 rfl (lv_at hl 4 rfl) ?_
  refine gtC_0_7 X w dX5_doReaction_39 ?_
  refine lv_iload_n X.1 X.2.1 dX5_doReaction_42 rfl (lv_at hl 5 rfl) ?_
  obtain ⟨r10, e9, hf⟩ := px_bq_e hf
  refine px_cI (As := [.int p1]) (rest := []) X hml hl w (cC_Promises_functionOf l D cs ad e9) lk_5_240 (by decide) (rcC_32 X.2.2.2.2 w) rfl (Nat.le_of_ble_eq_true rfl) dX5_doReaction_43 (fun H locs w => ?_)
  refine lv_istore (lv' := [(6, .int r10), (5, .int r8), (4, .int r6), (3, .int r4), (2, .int r2), (0, .ref (ad 0)), (1, .int p1)]) X.1 X.2.1 dX5_doReaction_46 hl (by decide) rfl (fun ls hl => ?_)
  refine lv_iload X.1 X.2.1 dX5_doReaction_48 (lv_at hl 0 rfl) ?_
  refine lv_bipush (v := (16 : Int32)) X.1 X.2.1 dX5_doReaction_50 (by decide) ?_
  refine lv_icmp_ne (tgt := 70) X.1 X.2.1 dX5_doReaction_52 (by decide) (fun c11 => ?_) (fun c11 => ?_)
  · have hf := px_in c11 hf
    refine lv_iload X.1 X.2.1 dX5_doReaction_70 (lv_at hl 0 rfl) ?_
    obtain ⟨r13, e12, hf⟩ := px_bq_e hf
    refine px_cS (As := [.int r10]) (rest := []) X hml hl w (cC_isFunction l D cs ad e12) lk_5_91 (by decide) rfl (Nat.le_of_ble_eq_true rfl) dX5_doReaction_72 (fun H locs w => ?_)
    refine lv_if_eq (tgt := 95) X.1 X.2.1 dX5_doReaction_75 (by decide) (fun c14 => ?_) (fun c14 => ?_)
    · have hf := px_ip c14 hf
      refine lv_aload_n X.1 X.2.1 dX5_doReaction_95 rfl (lv_at hl 5 rfl) ?_
      refine gtC_0_7 X w dX5_doReaction_96 ?_
      refine lv_iload_n X.1 X.2.1 dX5_doReaction_99 rfl (lv_at hl 3 rfl) ?_
      refine lv_iload X.1 X.2.1 dX5_doReaction_100 (lv_at hl 2 rfl) ?_
      refine lv_iload X.1 X.2.1 dX5_doReaction_102 (lv_at hl 1 rfl) ?_
      obtain ⟨M16, e15, hf⟩ := px_bq_e hf
      refine px_cV (As := [.int r4, .int r6, .int r8]) (rest := []) X hml hl w (cC_Promises_resolveOrReject l D cs ad e15) lk_5_255 (by decide) (rcC_32 X.2.2.2.2 w) rfl (Nat.le_of_ble_eq_true rfl) dX5_doReaction_104 (fun H locs w => ?_)
      cases hf
      exact px_retV X hr hlk w dX5_doReaction_107
    · have hf := px_in c14 hf
      refine lv_aload_n X.1 X.2.1 dX5_doReaction_78 rfl (lv_at hl 5 rfl) ?_
      refine lv_iload X.1 X.2.1 dX5_doReaction_79 (lv_at hl 0 rfl) ?_
      refine lv_iload X.1 X.2.1 dX5_doReaction_81 (lv_at hl 1 rfl) ?_
      refine lv_iconst (v := (1 : Int32)) X.1 X.2.1 dX5_doReaction_83 (by decide) ?_
      obtain ⟨M18, e17, hf⟩ := px_bq_e hf
      refine px_cV (As := [.int r10, .int r8, .int (1 : Int32)]) (rest := []) X hml hl w (cC_run l D cs ad e17) lk_5_225 (by decide) (rcC_0 X.2.2.2.2 w) rfl (Nat.le_of_ble_eq_true rfl) dX5_doReaction_84 (fun H locs w => ?_)
      refine lv_aload_n X.1 X.2.1 dX5_doReaction_87 rfl (lv_at hl 5 rfl) ?_
      refine lv_iload_n X.1 X.2.1 dX5_doReaction_88 rfl (lv_at hl 3 rfl) ?_
      obtain ⟨M20, e19, hf⟩ := px_bq_e hf
      refine px_cV (As := [.int r4]) (rest := []) X hml hl w (cC_settleWithResult l D cs ad e19) lk_5_252 (by decide) (rcC_0 X.2.2.2.2 w) rfl (Nat.le_of_ble_eq_true rfl) dX5_doReaction_89 (fun H locs w => ?_)
      refine lv_goto (tgt := 107) X.1 X.2.1 dX5_doReaction_92 (by decide) ?_
      cases hf
      exact px_retV X hr hlk w dX5_doReaction_107
  · have hf := px_ip c11 hf
    refine lv_aload_n X.1 X.2.1 dX5_doReaction_55 rfl (lv_at hl 5 rfl) ?_
    refine gtC_0_7 X w dX5_doReaction_56 ?_
    refine lv_iload_n X.1 X.2.1 dX5_doReaction_59 rfl (lv_at hl 3 rfl) ?_
    refine lv_iload X.1 X.2.1 dX5_doReaction_60 (lv_at hl 2 rfl) ?_
    refine lv_iload X.1 X.2.1 dX5_doReaction_62 (lv_at hl 1 rfl) ?_
    obtain ⟨M22, e21, hf⟩ := px_bq_e hf
    refine px_cV (As := [.int r4, .int r6, .int r8]) (rest := []) X hml hl w (cC_Promises_settle l D cs ad e21) lk_5_249 (by decide) (rcC_32 X.2.2.2.2 w) rfl (Nat.le_of_ble_eq_true rfl) dX5_doReaction_64 (fun H locs w => ?_)
    refine lv_goto (tgt := 107) X.1 X.2.1 dX5_doReaction_67 (by decide) ?_
    cases hf
    exact px_retV X hr hlk w dX5_doReaction_107
theorem lk_5_237 : px_Lk RX5 237 yX3_reportUnhandled cX3_reportUnhandled 3 none 0 := ⟨px_tb (by decide +kernel) (by decide +kernel), px_tb (by decide +kernel) (by decide +kernel), px_tb (by decide +kernel) (by decide +kernel), px_tb (by decide +kernel) (by decide +kernel), px_tb (by decide +kernel) (by decide +kernel), by decide +kernel, by decide⟩
theorem lk_5_219 : px_Lk RX5 219 yX2_number cX2_number 1 (some .int) 0 := ⟨px_tb (by decide +kernel) (by decide +kernel), px_tb (by decide +kernel) (by decide +kernel), px_tb (by decide +kernel) (by decide +kernel), px_tb (by decide +kernel) (by decide +kernel), px_tb (by decide +kernel) (by decide +kernel), by decide +kernel, by decide⟩
theorem lk_5_222 : px_Lk RX5 222 yX2_drop cX2_drop 1 none 0 := ⟨px_tb (by decide +kernel) (by decide +kernel), px_tb (by decide +kernel) (by decide +kernel), px_tb (by decide +kernel) (by decide +kernel), px_tb (by decide +kernel) (by decide +kernel), px_tb (by decide +kernel) (by decide +kernel), by decide +kernel, by decide⟩
theorem lk_5_231 : px_Lk RX5 231 yX5_doReaction cX5_doReaction 7 none 1 := ⟨px_tb (by decide +kernel) (by decide +kernel), px_tb (by decide +kernel) (by decide +kernel), px_tb (by decide +kernel) (by decide +kernel), px_tb (by decide +kernel) (by decide +kernel), px_tb (by decide +kernel) (by decide +kernel), by decide +kernel, by decide⟩
theorem lk_5_228 : px_Lk RX5 228 yX5_reportFailure cX5_reportFailure 1 none 0 := ⟨px_tb (by decide +kernel) (by decide +kernel), px_tb (by decide +kernel) (by decide +kernel), px_tb (by decide +kernel) (by decide +kernel), px_tb (by decide +kernel) (by decide +kernel), px_tb (by decide +kernel) (by decide +kernel), by decide +kernel, by decide⟩
theorem lk_5_210 : px_Lk RX5 210 yX5_microtaskBeginsRun cX5_microtaskBeginsRun 2 (some .boolean) 0 := ⟨px_tb (by decide +kernel) (by decide +kernel), px_tb (by decide +kernel) (by decide +kernel), px_tb (by decide +kernel) (by decide +kernel), px_tb (by decide +kernel) (by decide +kernel), px_tb (by decide +kernel) (by decide +kernel), by decide +kernel, by decide⟩
def gC_checkpoint_L2 (rc2 : px_M → Int32 → Option (Int32 × px_M)) (M : px_M) (y1 : Int32) : Option (Int32 × px_M) := (if (1000 : Int32) ≤ y1 then px_bq (fC_Promises_reportUnhandled M) (fun M3 => some ((1 : Int32), M3)) else px_bq (fC_Line_size_20 M) (fun r5 => (if r5 ≤ 0 then px_bq (fC_Promises_reportUnhandled M) (fun M8 => some ((1 : Int32), M8)) else (if (M 0 12) < (50 : Int32) then px_bq (fC_Line_kind_20 M) (fun r11 => px_bq (fC_Line_subject_20 M) (fun r13 => px_bq (fC_Line_number_20 M) (fun r15 => px_bq (fC_Line_drop_20 M) (fun M17 => (if r11 = 0 then px_bq (fC_run M17 r13 r15 (1 : Int32)) (fun M25 => px_bq (fC_reportFailure M25) (fun M27 => rc2 M27 (y1 + (1 : Int32)))) else (if r11 = (2 : Int32) then px_bq (fC_doReaction M17 r13) (fun M23 => rc2 M23 (y1 + (1 : Int32))) else px_bq (fC_Promises_react M17 r15 (16 : Int32) (16 : Int32) r13) (fun M21 => rc2 M21 (y1 + (1 : Int32))))))))) else px_bq (fC_microtaskBeginsRun M) (fun r29 => (if r29 = 0 then px_bq (fC_Line_kind_20 M) (fun r32 => px_bq (fC_Line_subject_20 M) (fun r34 => px_bq (fC_Line_number_20 M) (fun r36 => px_bq (fC_Line_drop_20 M) (fun M38 => (if r32 = 0 then px_bq (fC_run M38 r34 r36 (1 : Int32)) (fun M46 => px_bq (fC_reportFailure M46) (fun M48 => rc2 M48 (y1 + (1 : Int32)))) else (if r32 = (2 : Int32) then px_bq (fC_doReaction M38 r34) (fun M44 => rc2 M44 (y1 + (1 : Int32))) else px_bq (fC_Promises_react M38 r36 (16 : Int32) (16 : Int32) r34) (fun M42 => rc2 M42 (y1 + (1 : Int32))))))))) else some ((0 : Int32), M)))))))
set_option maxHeartbeats 4000000 in
set_option maxRecDepth 100000 in
theorem lC_checkpoint_L2 {l : Launch} {D : va_G} {cs : Nat → ClassId} {ad : Nat → Nat} {p : Program} {e : Env} {s : State} {m : MethodId} {args : Array Value} {below : List Frame} {meth : Method} {c : Code} {A : Nat → Prop} (X : px_X D (tyC cs) p s m args c cX5_checkpoint yX5_checkpoint.cls) (hr : meth.sig.returnType = (some .boolean)) (hlk : meth.locks = false) (hml : c.maxLocals = 5) : ∀ (j : Nat) (M : px_M) (y1 : Int32) (z : Int32 × px_M), px_fx1 gC_checkpoint_L2 j M y1 = some z → ∀ (H : Heap) (locs : List Loc) (ls : Array Slot), px_H D (wC cs ad) A s.heap M H locs → lv_has ls 5 [(0, .ref (ad 0)), (1, .int y1)] → W p l e (px_rm 29) s m args below meth c H locs 0 0 (px_QI D (tyC cs) (wC cs ad) below args s A z.1 z.2) (F0 m 2 ls []) := by
  refine px_fx1_i (P := fun M y1 (z : Int32 × px_M) => ∀ (H : Heap) (locs : List Loc) (ls : Array Slot), px_H D (wC cs ad) A s.heap M H locs → lv_has ls 5 [(0, .ref (ad 0)), (1, .int y1)] → W p l e (px_rm 29) s m args below meth c H locs 0 0 (px_QI D (tyC cs) (wC cs ad) below args s A z.1 z.2) (F0 m 2 ls [])) ?_
  intro rc2 ih2 M y1 z hf H locs ls w hl
  unfold gC_checkpoint_L2 at hf
  refine lv_iload_n X.1 X.2.1 dX5_checkpoint_2 rfl (lv_at hl 1 rfl) ?_
  refine lv_sipush (v := (1000 : Int32)) X.1 X.2.1 dX5_checkpoint_3 (by decide) ?_
  refine lv_icmp_ge (tgt := 121) X.1 X.2.1 dX5_checkpoint_6 (by decide) (fun c1 => ?_) (fun c1 => ?_)
  · have hf := px_ip c1 hf
    refine lv_aload_n X.1 X.2.1 dX5_checkpoint_121 rfl (lv_at hl 0 rfl) ?_
    refine gtC_0_7 X w dX5_checkpoint_122 ?_
    obtain ⟨M3, e2, hf⟩ := px_bq_e hf
    refine px_cV (As := []) (rest := []) X hml hl w (cC_Promises_reportUnhandled l D cs ad e2) lk_5_237 (by decide) (rcC_32 X.2.2.2.2 w) rfl (Nat.le_of_ble_eq_true rfl) dX5_checkpoint_125 (fun H locs w => ?_)
    refine lv_iconst (v := (1 : Int32)) X.1 X.2.1 dX5_checkpoint_128 (by decide) ?_
    cases hf
    exact px_retZ X hr hlk narrow_b1 w dX5_checkpoint_129
  · have hf := px_in c1 hf
    refine lv_aload_n X.1 X.2.1 dX5_checkpoint_9 rfl (lv_at hl 0 rfl) ?_
    refine gtC_0_3 X w dX5_checkpoint_10 ?_
    obtain ⟨r5, e4, hf⟩ := px_bq_e hf
    refine px_cI (As := []) (rest := []) X hml hl w (cC_Line_size_20 l D cs ad e4) lk_5_148 (by decide) (rcC_20 X.2.2.2.2 w) rfl (Nat.le_of_ble_eq_true rfl) dX5_checkpoint_13 (fun H locs w => ?_)
    refine lv_if_le (tgt := 121) X.1 X.2.1 dX5_checkpoint_16 (by decide) (fun c6 => ?_) (fun c6 => ?_)
    · have hf := px_ip c6 hf
      refine lv_aload_n X.1 X.2.1 dX5_checkpoint_121 rfl (lv_at hl 0 rfl) ?_
      refine gtC_0_7 X w dX5_checkpoint_122 ?_
      obtain ⟨M8, e7, hf⟩ := px_bq_e hf
      refine px_cV (As := []) (rest := []) X hml hl w (cC_Promises_reportUnhandled l D cs ad e7) lk_5_237 (by decide) (rcC_32 X.2.2.2.2 w) rfl (Nat.le_of_ble_eq_true rfl) dX5_checkpoint_125 (fun H locs w => ?_)
      refine lv_iconst (v := (1 : Int32)) X.1 X.2.1 dX5_checkpoint_128 (by decide) ?_
      cases hf
      exact px_retZ X hr hlk narrow_b1 w dX5_checkpoint_129
    · have hf := px_in c6 hf
      refine lv_aload_n X.1 X.2.1 dX5_checkpoint_19 rfl (lv_at hl 0 rfl) ?_
      refine gtC_0_12 X w dX5_checkpoint_20 ?_
      refine lv_bipush (v := (50 : Int32)) X.1 X.2.1 dX5_checkpoint_23 (by decide) ?_
      refine lv_icmp_lt (tgt := 37) X.1 X.2.1 dX5_checkpoint_25 (by decide) (fun c9 => ?_) (fun c9 => ?_)
      · have hf := px_ip c9 hf
        refine lv_aload_n X.1 X.2.1 dX5_checkpoint_37 rfl (lv_at hl 0 rfl) ?_
        refine gtC_0_3 X w dX5_checkpoint_38 ?_
        obtain ⟨r11, e10, hf⟩ := px_bq_e hf
        refine px_cI (As := []) (rest := []) X hml hl w (cC_Line_kind_20 l D cs ad e10) lk_5_213 (by decide) (rcC_20 X.2.2.2.2 w) rfl (Nat.le_of_ble_eq_true rfl) dX5_checkpoint_41 (fun H locs w => ?_)
        refine lv_istore_n (lv' := [(2, .int r11), (0, .ref (ad 0)), (1, .int y1)]) X.1 X.2.1 dX5_checkpoint_44 rfl hl (by decide) rfl (fun ls hl => ?_)
        refine lv_aload_n X.1 X.2.1 dX5_checkpoint_45 rfl (lv_at hl 1 rfl) ?_
        refine gtC_0_3 X w dX5_checkpoint_46 ?_
        obtain ⟨r13, e12, hf⟩ := px_bq_e hf
        refine px_cI (As := []) (rest := []) X hml hl w (cC_Line_subject_20 l D cs ad e12) lk_5_216 (by decide) (rcC_20 X.2.2.2.2 w) rfl (Nat.le_of_ble_eq_true rfl) dX5_checkpoint_49 (fun H locs w => ?_)
        refine lv_istore_n (lv' := [(3, .int r13), (2, .int r11), (0, .ref (ad 0)), (1, .int y1)]) X.1 X.2.1 dX5_checkpoint_52 rfl hl (by decide) rfl (fun ls hl => ?_)
        refine lv_aload_n X.1 X.2.1 dX5_checkpoint_53 rfl (lv_at hl 2 rfl) ?_
        refine gtC_0_3 X w dX5_checkpoint_54 ?_
        obtain ⟨r15, e14, hf⟩ := px_bq_e hf
        refine px_cI (As := []) (rest := []) X hml hl w (cC_Line_number_20 l D cs ad e14) lk_5_219 (by decide) (rcC_20 X.2.2.2.2 w) rfl (Nat.le_of_ble_eq_true rfl) dX5_checkpoint_57 (fun H locs w => ?_)
        refine lv_istore (lv' := [(4, .int r15), (3, .int r13), (2, .int r11), (0, .ref (ad 0)), (1, .int y1)]) X.1 X.2.1 dX5_checkpoint_60 hl (by decide) rfl (fun ls hl => ?_)
        refine lv_aload_n X.1 X.2.1 dX5_checkpoint_62 rfl (lv_at hl 3 rfl) ?_
        refine gtC_0_3 X w dX5_checkpoint_63 ?_
        obtain ⟨M17, e16, hf⟩ := px_bq_e hf
        refine px_cV (As := []) (rest := []) X hml hl w (cC_Line_drop_20 l D cs ad e16) lk_5_222 (by decide) (rcC_20 X.2.2.2.2 w) rfl (Nat.le_of_ble_eq_true rfl) dX5_checkpoint_66 (fun H locs w => ?_)
        refine lv_iload_n X.1 X.2.1 dX5_checkpoint_69 rfl (lv_at hl 2 rfl) ?_
        refine lv_if_ne (tgt := 88) X.1 X.2.1 dX5_checkpoint_70 (by decide) (fun c18 => ?_) (fun c18 => ?_)
        · have hf := px_in c18 hf
          refine lv_iload_n X.1 X.2.1 dX5_checkpoint_88 rfl (lv_at hl 2 rfl) ?_
          refine lv_iconst (v := (2 : Int32)) X.1 X.2.1 dX5_checkpoint_89 (by decide) ?_
          refine lv_icmp_ne (tgt := 101) X.1 X.2.1 dX5_checkpoint_90 (by decide) (fun c19 => ?_) (fun c19 => ?_)
          · have hf := px_in c19 hf
            refine lv_aload_n X.1 X.2.1 dX5_checkpoint_101 rfl (lv_at hl 3 rfl) ?_
            refine gtC_0_7 X w dX5_checkpoint_102 ?_
            refine lv_iload X.1 X.2.1 dX5_checkpoint_105 (lv_at hl 0 rfl) ?_
            refine lv_bipush (v := (16 : Int32)) X.1 X.2.1 dX5_checkpoint_107 (by decide) ?_
            refine lv_bipush (v := (16 : Int32)) X.1 X.2.1 dX5_checkpoint_109 (by decide) ?_
            refine lv_iload_n X.1 X.2.1 dX5_checkpoint_111 rfl (lv_at hl 1 rfl) ?_
            obtain ⟨M21, e20, hf⟩ := px_bq_e hf
            refine px_cV (As := [.int r15, .int (16 : Int32), .int (16 : Int32), .int r13]) (rest := []) X hml hl w (cC_Promises_react l D cs ad e20) lk_5_234 (by decide) (rcC_32 X.2.2.2.2 w) rfl (Nat.le_of_ble_eq_true rfl) dX5_checkpoint_112 (fun H locs w => ?_)
            refine lv_iinc (v := (y1 + (1 : Int32))) (lv' := [(1, .int (y1 + (1 : Int32))), (4, .int r15), (3, .int r13), (2, .int r11), (0, .ref (ad 0))]) X.1 X.2.1 dX5_checkpoint_115 hl (k := 4) rfl rfl (by decide) rfl (fun ls hl => ?_)
            refine lv_goto (tgt := 2) X.1 X.2.1 dX5_checkpoint_118 (by decide) ?_
            exact ih2 M21 (y1 + (1 : Int32)) _ hf _ _ ls w (lv_sub hl [4, 0] rfl)
          · have hf := px_ip c19 hf
            refine lv_aload_n X.1 X.2.1 dX5_checkpoint_93 rfl (lv_at hl 3 rfl) ?_
            refine lv_iload_n X.1 X.2.1 dX5_checkpoint_94 rfl (lv_at hl 1 rfl) ?_
            obtain ⟨M23, e22, hf⟩ := px_bq_e hf
            refine px_cV (As := [.int r13]) (rest := []) X hml hl w (cC_doReaction l D cs ad e22) lk_5_231 (by decide) (rcC_0 X.2.2.2.2 w) rfl (Nat.le_of_ble_eq_true rfl) dX5_checkpoint_95 (fun H locs w => ?_)
            refine lv_goto (tgt := 115) X.1 X.2.1 dX5_checkpoint_98 (by decide) ?_
            refine lv_iinc (v := (y1 + (1 : Int32))) (lv' := [(1, .int (y1 + (1 : Int32))), (4, .int r15), (3, .int r13), (2, .int r11), (0, .ref (ad 0))]) X.1 X.2.1 dX5_checkpoint_115 hl (k := 4) rfl rfl (by decide) rfl (fun ls hl => ?_)
            refine lv_goto (tgt := 2) X.1 X.2.1 dX5_checkpoint_118 (by decide) ?_
            exact ih2 M23 (y1 + (1 : Int32)) _ hf _ _ ls w (lv_sub hl [4, 0] rfl)
        · have hf := px_ip c18 hf
          refine lv_aload_n X.1 X.2.1 dX5_checkpoint_73 rfl (lv_at hl 3 rfl) ?_
          refine lv_iload_n X.1 X.2.1 dX5_checkpoint_74 rfl (lv_at hl 1 rfl) ?_
          refine lv_iload X.1 X.2.1 dX5_checkpoint_75 (lv_at hl 0 rfl) ?_
          refine lv_iconst (v := (1 : Int32)) X.1 X.2.1 dX5_checkpoint_77 (by decide) ?_
          obtain ⟨M25, e24, hf⟩ := px_bq_e hf
          refine px_cV (As := [.int r13, .int r15, .int (1 : Int32)]) (rest := []) X hml hl w (cC_run l D cs ad e24) lk_5_225 (by decide) (rcC_0 X.2.2.2.2 w) rfl (Nat.le_of_ble_eq_true rfl) dX5_checkpoint_78 (fun H locs w => ?_)
          refine lv_aload_n X.1 X.2.1 dX5_checkpoint_81 rfl (lv_at hl 3 rfl) ?_
          obtain ⟨M27, e26, hf⟩ := px_bq_e hf
          refine px_cV (As := []) (rest := []) X hml hl w (cC_reportFailure l D cs ad e26) lk_5_228 (by decide) (rcC_0 X.2.2.2.2 w) rfl (Nat.le_of_ble_eq_true rfl) dX5_checkpoint_82 (fun H locs w => ?_)
          refine lv_goto (tgt := 115) X.1 X.2.1 dX5_checkpoint_85 (by decide) ?_
          refine lv_iinc (v := (y1 + (1 : Int32))) (lv' := [(1, .int (y1 + (1 : Int32))), (4, .int r15), (3, .int r13), (2, .int r11), (0, .ref (ad 0))]) X.1 X.2.1 dX5_checkpoint_115 hl (k := 4) rfl rfl (by decide) rfl (fun ls hl => ?_)
          refine lv_goto (tgt := 2) X.1 X.2.1 dX5_checkpoint_118 (by decide) ?_
          exact ih2 M27 (y1 + (1 : Int32)) _ hf _ _ ls w (lv_sub hl [4, 0] rfl)
      · have hf := px_in c9 hf
        refine lv_aload_n X.1 X.2.1 dX5_checkpoint_28 rfl (lv_at hl 0 rfl) ?_
        obtain ⟨r29, e28, hf⟩ := px_bq_e hf
        refine px_cI (As := []) (rest := []) X hml hl w (cC_microtaskBeginsRun l D cs ad e28) lk_5_210 (by decide) (rcC_0 X.2.2.2.2 w) rfl (Nat.le_of_ble_eq_true rfl) dX5_checkpoint_29 (fun H locs w => ?_)
        refine lv_if_eq (tgt := 37) X.1 X.2.1 dX5_checkpoint_32 (by decide) (fun c30 => ?_) (fun c30 => ?_)
        · have hf := px_ip c30 hf
          refine lv_aload_n X.1 X.2.1 dX5_checkpoint_37 rfl (lv_at hl 0 rfl) ?_
          refine gtC_0_3 X w dX5_checkpoint_38 ?_
          obtain ⟨r32, e31, hf⟩ := px_bq_e hf
          refine px_cI (As := []) (rest := []) X hml hl w (cC_Line_kind_20 l D cs ad e31) lk_5_213 (by decide) (rcC_20 X.2.2.2.2 w) rfl (Nat.le_of_ble_eq_true rfl) dX5_checkpoint_41 (fun H locs w => ?_)
          refine lv_istore_n (lv' := [(2, .int r32), (0, .ref (ad 0)), (1, .int y1)]) X.1 X.2.1 dX5_checkpoint_44 rfl hl (by decide) rfl (fun ls hl => ?_)
          refine lv_aload_n X.1 X.2.1 dX5_checkpoint_45 rfl (lv_at hl 1 rfl) ?_
          refine gtC_0_3 X w dX5_checkpoint_46 ?_
          obtain ⟨r34, e33, hf⟩ := px_bq_e hf
          refine px_cI (As := []) (rest := []) X hml hl w (cC_Line_subject_20 l D cs ad e33) lk_5_216 (by decide) (rcC_20 X.2.2.2.2 w) rfl (Nat.le_of_ble_eq_true rfl) dX5_checkpoint_49 (fun H locs w => ?_)
          refine lv_istore_n (lv' := [(3, .int r34), (2, .int r32), (0, .ref (ad 0)), (1, .int y1)]) X.1 X.2.1 dX5_checkpoint_52 rfl hl (by decide) rfl (fun ls hl => ?_)
          refine lv_aload_n X.1 X.2.1 dX5_checkpoint_53 rfl (lv_at hl 2 rfl) ?_
          refine gtC_0_3 X w dX5_checkpoint_54 ?_
          obtain ⟨r36, e35, hf⟩ := px_bq_e hf
          refine px_cI (As := []) (rest := []) X hml hl w (cC_Line_number_20 l D cs ad e35) lk_5_219 (by decide) (rcC_20 X.2.2.2.2 w) rfl (Nat.le_of_ble_eq_true rfl) dX5_checkpoint_57 (fun H locs w => ?_)
          refine lv_istore (lv' := [(4, .int r36), (3, .int r34), (2, .int r32), (0, .ref (ad 0)), (1, .int y1)]) X.1 X.2.1 dX5_checkpoint_60 hl (by decide) rfl (fun ls hl => ?_)
          refine lv_aload_n X.1 X.2.1 dX5_checkpoint_62 rfl (lv_at hl 3 rfl) ?_
          refine gtC_0_3 X w dX5_checkpoint_63 ?_
          obtain ⟨M38, e37, hf⟩ := px_bq_e hf
          refine px_cV (As := []) (rest := []) X hml hl w (cC_Line_drop_20 l D cs ad e37) lk_5_222 (by decide) (rcC_20 X.2.2.2.2 w) rfl (Nat.le_of_ble_eq_true rfl) dX5_checkpoint_66 (fun H locs w => ?_)
          refine lv_iload_n X.1 X.2.1 dX5_checkpoint_69 rfl (lv_at hl 2 rfl) ?_
          refine lv_if_ne (tgt := 88) X.1 X.2.1 dX5_checkpoint_70 (by decide) (fun c39 => ?_) (fun c39 => ?_)
          · have hf := px_in c39 hf
            refine lv_iload_n X.1 X.2.1 dX5_checkpoint_88 rfl (lv_at hl 2 rfl) ?_
            refine lv_iconst (v := (2 : Int32)) X.1 X.2.1 dX5_checkpoint_89 (by decide) ?_
            refine lv_icmp_ne (tgt := 101) X.1 X.2.1 dX5_checkpoint_90 (by decide) (fun c40 => ?_) (fun c40 => ?_)
            · have hf := px_in c40 hf
              refine lv_aload_n X.1 X.2.1 dX5_checkpoint_101 rfl (lv_at hl 3 rfl) ?_
              refine gtC_0_7 X w dX5_checkpoint_102 ?_
              refine lv_iload X.1 X.2.1 dX5_checkpoint_105 (lv_at hl 0 rfl) ?_
              refine lv_bipush (v := (16 : Int32)) X.1 X.2.1 dX5_checkpoint_107 (by decide) ?_
              refine lv_bipush (v := (16 : Int32)) X.1 X.2.1 dX5_checkpoint_109 (by decide) ?_
              refine lv_iload_n X.1 X.2.1 dX5_checkpoint_111 rfl (lv_at hl 1 rfl) ?_
              obtain ⟨M42, e41, hf⟩ := px_bq_e hf
              refine px_cV (As := [.int r36, .int (16 : Int32), .int (16 : Int32), .int r34]) (rest := []) X hml hl w (cC_Promises_react l D cs ad e41) lk_5_234 (by decide) (rcC_32 X.2.2.2.2 w) rfl (Nat.le_of_ble_eq_true rfl) dX5_checkpoint_112 (fun H locs w => ?_)
              refine lv_iinc (v := (y1 + (1 : Int32))) (lv' := [(1, .int (y1 + (1 : Int32))), (4, .int r36), (3, .int r34), (2, .int r32), (0, .ref (ad 0))]) X.1 X.2.1 dX5_checkpoint_115 hl (k := 4) rfl rfl (by decide) rfl (fun ls hl => ?_)
              refine lv_goto (tgt := 2) X.1 X.2.1 dX5_checkpoint_118 (by decide) ?_
              exact ih2 M42 (y1 + (1 : Int32)) _ hf _ _ ls w (lv_sub hl [4, 0] rfl)
            · have hf := px_ip c40 hf
              refine lv_aload_n X.1 X.2.1 dX5_checkpoint_93 rfl (lv_at hl 3 rfl) ?_
              refine lv_iload_n X.1 X.2.1 dX5_checkpoint_94 rfl (lv_at hl 1 rfl) ?_
              obtain ⟨M44, e43, hf⟩ := px_bq_e hf
              refine px_cV (As := [.int r34]) (rest := []) X hml hl w (cC_doReaction l D cs ad e43) lk_5_231 (by decide) (rcC_0 X.2.2.2.2 w) rfl (Nat.le_of_ble_eq_true rfl) dX5_checkpoint_95 (fun H locs w => ?_)
              refine lv_goto (tgt := 115) X.1 X.2.1 dX5_checkpoint_98 (by decide) ?_
              refine lv_iinc (v := (y1 + (1 : Int32))) (lv' := [(1, .int (y1 + (1 : Int32))), (4, .int r36), (3, .int r34), (2, .int r32), (0, .ref (ad 0))]) X.1 X.2.1 dX5_checkpoint_115 hl (k := 4) rfl rfl (by decide) rfl (fun ls hl => ?_)
              refine lv_goto (tgt := 2) X.1 X.2.1 dX5_checkpoint_118 (by decide) ?_
              exact ih2 M44 (y1 + (1 : Int32)) _ hf _ _ ls w (lv_sub hl [4, 0] rfl)
          · have hf := px_ip c39 hf
            refine lv_aload_n X.1 X.2.1 dX5_checkpoint_73 rfl (lv_at hl 3 rfl) ?_
            refine lv_iload_n X.1 X.2.1 dX5_checkpoint_74 rfl (lv_at hl 1 rfl) ?_
            refine lv_iload X.1 X.2.1 dX5_checkpoint_75 (lv_at hl 0 rfl) ?_
            refine lv_iconst (v := (1 : Int32)) X.1 X.2.1 dX5_checkpoint_77 (by decide) ?_
            obtain ⟨M46, e45, hf⟩ := px_bq_e hf
            refine px_cV (As := [.int r34, .int r36, .int (1 : Int32)]) (rest := []) X hml hl w (cC_run l D cs ad e45) lk_5_225 (by decide) (rcC_0 X.2.2.2.2 w) rfl (Nat.le_of_ble_eq_true rfl) dX5_checkpoint_78 (fun H locs w => ?_)
            refine lv_aload_n X.1 X.2.1 dX5_checkpoint_81 rfl (lv_at hl 3 rfl) ?_
            obtain ⟨M48, e47, hf⟩ := px_bq_e hf
            refine px_cV (As := []) (rest := []) X hml hl w (cC_reportFailure l D cs ad e47) lk_5_228 (by decide) (rcC_0 X.2.2.2.2 w) rfl (Nat.le_of_ble_eq_true rfl) dX5_checkpoint_82 (fun H locs w => ?_)
            refine lv_goto (tgt := 115) X.1 X.2.1 dX5_checkpoint_85 (by decide) ?_
            refine lv_iinc (v := (y1 + (1 : Int32))) (lv' := [(1, .int (y1 + (1 : Int32))), (4, .int r36), (3, .int r34), (2, .int r32), (0, .ref (ad 0))]) X.1 X.2.1 dX5_checkpoint_115 hl (k := 4) rfl rfl (by decide) rfl (fun ls hl => ?_)
            refine lv_goto (tgt := 2) X.1 X.2.1 dX5_checkpoint_118 (by decide) ?_
            exact ih2 M48 (y1 + (1 : Int32)) _ hf _ _ ls w (lv_sub hl [4, 0] rfl)
        · have hf := px_in c30 hf
          refine lv_iconst (v := (0 : Int32)) X.1 X.2.1 dX5_checkpoint_35 (by decide) ?_
          cases hf
          exact px_retZ X hr hlk narrow_b0 w dX5_checkpoint_36
def fC_checkpoint (M : px_M) : Option (Int32 × px_M) := px_fx1 gC_checkpoint_L2 1001 M (0 : Int32)
set_option maxHeartbeats 4000000 in
set_option maxRecDepth 100000 in
theorem cC_checkpoint (l : Launch) (D : va_G) (cs : Nat → ClassId) (ad : Nat → Nat) {M : px_M} {r : Int32} {M' : px_M} (hf : fC_checkpoint M = some (r, M')) : px_mI l D (tyC cs) (wC cs ad) yX5_checkpoint cX5_checkpoint 5 (some .boolean) 29 [.ref (ad 0)] M r M' := by
  refine px_ofI (by decide +kernel) (Nat.le_of_ble_eq_true rfl) ?_
  intro p e s m below meth c A ls X hr hlk hml w hl
  have hl : lv_has ls 5 [(0, .ref (ad 0))] := hl
  unfold fC_checkpoint at hf
  refine lv_iconst (v := (0 : Int32)) X.1 X.2.1 dX5_checkpoint_0 (by decide) ?_
  refine lv_istore_n (lv' := [(1, .int (0 : Int32)), (0, .ref (ad 0))]) X.1 X.2.1 dX5_checkpoint_1 rfl hl (by decide) rfl (fun ls hl => ?_)
  exact lC_checkpoint_L2 X hr hlk hml 1001 M (0 : Int32) _ hf _ _ ls w (lv_sub hl [1, 0] rfl)
theorem lk_5_265 : px_Lk RX5 265 yX4_find cX4_find 3 (some .int) 1 := ⟨px_tb (by decide +kernel) (by decide +kernel), px_tb (by decide +kernel) (by decide +kernel), px_tb (by decide +kernel) (by decide +kernel), px_tb (by decide +kernel) (by decide +kernel), px_tb (by decide +kernel) (by decide +kernel), by decide +kernel, by decide⟩
theorem lk_5_271 : px_Lk RX5 271 yX4_functionAt cX4_functionAt 2 (some .int) 1 := ⟨px_tb (by decide +kernel) (by decide +kernel), px_tb (by decide +kernel) (by decide +kernel), px_tb (by decide +kernel) (by decide +kernel), px_tb (by decide +kernel) (by decide +kernel), px_tb (by decide +kernel) (by decide +kernel), by decide +kernel, by decide⟩
theorem lk_5_274 : px_Lk RX5 274 yX4_argumentAt cX4_argumentAt 2 (some .int) 1 := ⟨px_tb (by decide +kernel) (by decide +kernel), px_tb (by decide +kernel) (by decide +kernel), px_tb (by decide +kernel) (by decide +kernel), px_tb (by decide +kernel) (by decide +kernel), px_tb (by decide +kernel) (by decide +kernel), by decide +kernel, by decide⟩
theorem lk_5_277 : px_Lk RX5 277 yX4_levelAt cX4_levelAt 2 (some .int) 1 := ⟨px_tb (by decide +kernel) (by decide +kernel), px_tb (by decide +kernel) (by decide +kernel), px_tb (by decide +kernel) (by decide +kernel), px_tb (by decide +kernel) (by decide +kernel), px_tb (by decide +kernel) (by decide +kernel), by decide +kernel, by decide⟩
theorem lk_5_280 : px_Lk RX5 280 yX4_repeatsAt cX4_repeatsAt 2 (some .boolean) 1 := ⟨px_tb (by decide +kernel) (by decide +kernel), px_tb (by decide +kernel) (by decide +kernel), px_tb (by decide +kernel) (by decide +kernel), px_tb (by decide +kernel) (by decide +kernel), px_tb (by decide +kernel) (by decide +kernel), by decide +kernel, by decide⟩
theorem lk_5_286 : px_Lk RX5 286 yX4_restart cX4_restart 4 none 2 := ⟨px_tb (by decide +kernel) (by decide +kernel), px_tb (by decide +kernel) (by decide +kernel), px_tb (by decide +kernel) (by decide +kernel), px_tb (by decide +kernel) (by decide +kernel), px_tb (by decide +kernel) (by decide +kernel), by decide +kernel, by decide⟩
def fC_doTimer (M : px_M) (p1 : Int32) : Option px_M := px_bq (fC_Timers_find M p1) (fun r2 => (if r2 = (-1 : Int32) then some M else px_bq (fC_Timers_functionAt M r2) (fun r5 => px_bq (fC_Timers_argumentAt M r2) (fun r7 => px_bq (fC_Timers_levelAt M r2) (fun r9 => px_bn (px_up M 0 14 r9) (fun M10 => px_bq (fC_Timers_repeatsAt M10 r2) (fun r12 => (if r12 = 0 then px_bq (fC_Timers_remove M10 p1) (fun M22 => px_bq (fC_run M22 r5 r7 (1 : Int32)) (fun M24 => px_bq (fC_reportFailure M24) (fun M26 => px_bn (px_up M26 0 14 (0 : Int32)) (fun M27 => px_bq (fC_Timers_restart M27 p1 (M27 0 10)) (fun M29 => some M29))))) else px_bq (fC_run M10 r5 r7 (1 : Int32)) (fun M15 => px_bq (fC_reportFailure M15) (fun M17 => px_bn (px_up M17 0 14 (0 : Int32)) (fun M18 => px_bq (fC_Timers_restart M18 p1 (M18 0 10)) (fun M20 => some M20))))))))))))
set_option maxHeartbeats 4000000 in
set_option maxRecDepth 100000 in
theorem cC_doTimer (l : Launch) (D : va_G) (cs : Nat → ClassId) (ad : Nat → Nat) {M : px_M} {p1 : Int32} {M' : px_M} (hf : fC_doTimer M p1 = some M') : px_mV l D (tyC cs) (wC cs ad) yX5_doTimer cX5_doTimer 5 28 [.ref (ad 0), .int p1] M M' := by
  refine px_ofV (by decide +kernel) (Nat.le_of_ble_eq_true rfl) ?_
  intro p e s m below meth c A ls X hr hlk hml w hl
  have hl : lv_has ls 5 [(0, .ref (ad 0)), (1, .int p1)] := hl
  unfold fC_doTimer at hf
  refine lv_aload_n X.1 X.2.1 dX5_doTimer_0 rfl (lv_at hl 0 rfl) ?_
  refine gtC_0_8 X w dX5_doTimer_1 ?_
  refine lv_iload_n X.1 X.2.1 dX5_doTimer_4 rfl (lv_at hl 1 rfl) ?_
  obtain ⟨r2, e1, hf⟩ := px_bq_e hf
  refine px_cI (As := [.int p1]) (rest := []) X hml hl w (cC_Timers_find l D cs ad e1) lk_5_265 (by decide) (rcC_43 X.2.2.2.2 w) rfl (Nat.le_of_ble_eq_true rfl) dX5_doTimer_5 (fun H locs w => ?_)
  refine lv_istore_n (lv' := [(2, .int r2), (0, .ref (ad 0)), (1, .int p1)]) X.1 X.2.1 dX5_doTimer_8 rfl hl (by decide) rfl (fun ls hl => ?_)
  refine lv_iload_n X.1 X.2.1 dX5_doTimer_9 rfl (lv_at hl 0 rfl) ?_
  refine lv_iconst (v := (-1 : Int32)) X.1 X.2.1 dX5_doTimer_10 (by decide) ?_
  refine lv_icmp_ne (tgt := 15) X.1 X.2.1 dX5_doTimer_11 (by decide) (fun c3 => ?_) (fun c3 => ?_)
  · have hf := px_in c3 hf
    refine lv_aload_n X.1 X.2.1 dX5_doTimer_15 rfl (lv_at hl 1 rfl) ?_
    refine gtC_0_8 X w dX5_doTimer_16 ?_
    refine lv_iload_n X.1 X.2.1 dX5_doTimer_19 rfl (lv_at hl 0 rfl) ?_
    obtain ⟨r5, e4, hf⟩ := px_bq_e hf
    refine px_cI (As := [.int r2]) (rest := []) X hml hl w (cC_Timers_functionAt l D cs ad e4) lk_5_271 (by decide) (rcC_43 X.2.2.2.2 w) rfl (Nat.le_of_ble_eq_true rfl) dX5_doTimer_20 (fun H locs w => ?_)
    refine lv_istore_n (lv' := [(3, .int r5), (2, .int r2), (0, .ref (ad 0)), (1, .int p1)]) X.1 X.2.1 dX5_doTimer_23 rfl hl (by decide) rfl (fun ls hl => ?_)
    refine lv_aload_n X.1 X.2.1 dX5_doTimer_24 rfl (lv_at hl 2 rfl) ?_
    refine gtC_0_8 X w dX5_doTimer_25 ?_
    refine lv_iload_n X.1 X.2.1 dX5_doTimer_28 rfl (lv_at hl 1 rfl) ?_
    obtain ⟨r7, e6, hf⟩ := px_bq_e hf
    refine px_cI (As := [.int r2]) (rest := []) X hml hl w (cC_Timers_argumentAt l D cs ad e6) lk_5_274 (by decide) (rcC_43 X.2.2.2.2 w) rfl (Nat.le_of_ble_eq_true rfl) dX5_doTimer_29 (fun H locs w => ?_)
    refine lv_istore (lv' := [(4, .int r7), (3, .int r5), (2, .int r2), (0, .ref (ad 0)), (1, .int p1)]) X.1 X.2.1 dX5_doTimer_32 hl (by decide) rfl (fun ls hl => ?_)
    refine lv_aload_n X.1 X.2.1 dX5_doTimer_34 rfl (lv_at hl 3 rfl) ?_
    refine lv_aload_n X.1 X.2.1 dX5_doTimer_35 rfl (lv_at hl 3 rfl) ?_
    refine gtC_0_8 X w dX5_doTimer_36 ?_
    refine lv_iload_n X.1 X.2.1 dX5_doTimer_39 rfl (lv_at hl 2 rfl) ?_
    obtain ⟨r9, e8, hf⟩ := px_bq_e hf
    refine px_cI (As := [.int r2]) (rest := [.ref (ad 0)]) X hml hl w (cC_Timers_levelAt l D cs ad e8) lk_5_277 (by decide) (rcC_43 X.2.2.2.2 w) rfl (Nat.le_of_ble_eq_true rfl) dX5_doTimer_40 (fun H locs w => ?_)
    refine ptC_0_14 X w dX5_doTimer_43 (fun H locs w => ?_)
    obtain ⟨M10, eM10, hf⟩ := px_bn_e hf
    rw [← eM10] at w
    refine lv_aload_n X.1 X.2.1 dX5_doTimer_46 rfl (lv_at hl 3 rfl) ?_
    refine gtC_0_8 X w dX5_doTimer_47 ?_
    refine lv_iload_n X.1 X.2.1 dX5_doTimer_50 rfl (lv_at hl 2 rfl) ?_
    obtain ⟨r12, e11, hf⟩ := px_bq_e hf
    refine px_cI (As := [.int r2]) (rest := []) X hml hl w (cC_Timers_repeatsAt l D cs ad e11) lk_5_280 (by decide) (rcC_43 X.2.2.2.2 w) rfl (Nat.le_of_ble_eq_true rfl) dX5_doTimer_51 (fun H locs w => ?_)
    refine lv_if_ne (tgt := 65) X.1 X.2.1 dX5_doTimer_54 (by decide) (fun c13 => ?_) (fun c13 => ?_)
    · have hf := px_in c13 hf
      refine lv_aload_n X.1 X.2.1 dX5_doTimer_65 rfl (lv_at hl 3 rfl) ?_
      refine lv_iload_n X.1 X.2.1 dX5_doTimer_66 rfl (lv_at hl 1 rfl) ?_
      refine lv_iload X.1 X.2.1 dX5_doTimer_67 (lv_at hl 0 rfl) ?_
      refine lv_iconst (v := (1 : Int32)) X.1 X.2.1 dX5_doTimer_69 (by decide) ?_
      obtain ⟨M15, e14, hf⟩ := px_bq_e hf
      refine px_cV (As := [.int r5, .int r7, .int (1 : Int32)]) (rest := []) X hml hl w (cC_run l D cs ad e14) lk_5_225 (by decide) (rcC_0 X.2.2.2.2 w) rfl (Nat.le_of_ble_eq_true rfl) dX5_doTimer_70 (fun H locs w => ?_)
      refine lv_aload_n X.1 X.2.1 dX5_doTimer_73 rfl (lv_at hl 3 rfl) ?_
      obtain ⟨M17, e16, hf⟩ := px_bq_e hf
      refine px_cV (As := []) (rest := []) X hml hl w (cC_reportFailure l D cs ad e16) lk_5_228 (by decide) (rcC_0 X.2.2.2.2 w) rfl (Nat.le_of_ble_eq_true rfl) dX5_doTimer_74 (fun H locs w => ?_)
      refine lv_aload_n X.1 X.2.1 dX5_doTimer_77 rfl (lv_at hl 3 rfl) ?_
      refine lv_iconst (v := (0 : Int32)) X.1 X.2.1 dX5_doTimer_78 (by decide) ?_
      refine ptC_0_14 X w dX5_doTimer_79 (fun H locs w => ?_)
      obtain ⟨M18, eM18, hf⟩ := px_bn_e hf
      rw [← eM18] at w
      refine lv_aload_n X.1 X.2.1 dX5_doTimer_82 rfl (lv_at hl 3 rfl) ?_
      refine gtC_0_8 X w dX5_doTimer_83 ?_
      refine lv_iload_n X.1 X.2.1 dX5_doTimer_86 rfl (lv_at hl 4 rfl) ?_
      refine lv_aload_n X.1 X.2.1 dX5_doTimer_87 rfl (lv_at hl 3 rfl) ?_
      refine gtC_0_10 X w dX5_doTimer_88 ?_
      obtain ⟨M20, e19, hf⟩ := px_bq_e hf
      refine px_cV (As := [.int p1, .int (M18 0 10)]) (rest := []) X hml hl w (cC_Timers_restart l D cs ad e19) lk_5_286 (by decide) (rcC_43 X.2.2.2.2 w) rfl (Nat.le_of_ble_eq_true rfl) dX5_doTimer_91 (fun H locs w => ?_)
      cases hf
      exact px_retV X hr hlk w dX5_doTimer_94
    · have hf := px_ip c13 hf
      refine lv_aload_n X.1 X.2.1 dX5_doTimer_57 rfl (lv_at hl 3 rfl) ?_
      refine gtC_0_8 X w dX5_doTimer_58 ?_
      refine lv_iload_n X.1 X.2.1 dX5_doTimer_61 rfl (lv_at hl 4 rfl) ?_
      obtain ⟨M22, e21, hf⟩ := px_bq_e hf
      refine px_cV (As := [.int p1]) (rest := []) X hml hl w (cC_Timers_remove l D cs ad e21) lk_5_283 (by decide) (rcC_43 X.2.2.2.2 w) rfl (Nat.le_of_ble_eq_true rfl) dX5_doTimer_62 (fun H locs w => ?_)
      refine lv_aload_n X.1 X.2.1 dX5_doTimer_65 rfl (lv_at hl 3 rfl) ?_
      refine lv_iload_n X.1 X.2.1 dX5_doTimer_66 rfl (lv_at hl 1 rfl) ?_
      refine lv_iload X.1 X.2.1 dX5_doTimer_67 (lv_at hl 0 rfl) ?_
      refine lv_iconst (v := (1 : Int32)) X.1 X.2.1 dX5_doTimer_69 (by decide) ?_
      obtain ⟨M24, e23, hf⟩ := px_bq_e hf
      refine px_cV (As := [.int r5, .int r7, .int (1 : Int32)]) (rest := []) X hml hl w (cC_run l D cs ad e23) lk_5_225 (by decide) (rcC_0 X.2.2.2.2 w) rfl (Nat.le_of_ble_eq_true rfl) dX5_doTimer_70 (fun H locs w => ?_)
      refine lv_aload_n X.1 X.2.1 dX5_doTimer_73 rfl (lv_at hl 3 rfl) ?_
      obtain ⟨M26, e25, hf⟩ := px_bq_e hf
      refine px_cV (As := []) (rest := []) X hml hl w (cC_reportFailure l D cs ad e25) lk_5_228 (by decide) (rcC_0 X.2.2.2.2 w) rfl (Nat.le_of_ble_eq_true rfl) dX5_doTimer_74 (fun H locs w => ?_)
      refine lv_aload_n X.1 X.2.1 dX5_doTimer_77 rfl (lv_at hl 3 rfl) ?_
      refine lv_iconst (v := (0 : Int32)) X.1 X.2.1 dX5_doTimer_78 (by decide) ?_
      refine ptC_0_14 X w dX5_doTimer_79 (fun H locs w => ?_)
      obtain ⟨M27, eM27, hf⟩ := px_bn_e hf
      rw [← eM27] at w
      refine lv_aload_n X.1 X.2.1 dX5_doTimer_82 rfl (lv_at hl 3 rfl) ?_
      refine gtC_0_8 X w dX5_doTimer_83 ?_
      refine lv_iload_n X.1 X.2.1 dX5_doTimer_86 rfl (lv_at hl 4 rfl) ?_
      refine lv_aload_n X.1 X.2.1 dX5_doTimer_87 rfl (lv_at hl 3 rfl) ?_
      refine gtC_0_10 X w dX5_doTimer_88 ?_
      obtain ⟨M29, e28, hf⟩ := px_bq_e hf
      refine px_cV (As := [.int p1, .int (M27 0 10)]) (rest := []) X hml hl w (cC_Timers_restart l D cs ad e28) lk_5_286 (by decide) (rcC_43 X.2.2.2.2 w) rfl (Nat.le_of_ble_eq_true rfl) dX5_doTimer_91 (fun H locs w => ?_)
      cases hf
      exact px_retV X hr hlk w dX5_doTimer_94
  · have hf := px_ip c3 hf
    cases hf
    exact px_retV X hr hlk w dX5_doTimer_14
theorem lk_5_262 : px_Lk RX5 262 yX5_sourceOfNextTask cX5_sourceOfNextTask 2 (some .int) 0 := ⟨px_tb (by decide +kernel) (by decide +kernel), px_tb (by decide +kernel) (by decide +kernel), px_tb (by decide +kernel) (by decide +kernel), px_tb (by decide +kernel) (by decide +kernel), px_tb (by decide +kernel) (by decide +kernel), by decide +kernel, by decide⟩
theorem lk_5_268 : px_Lk RX5 268 yX5_doTimer cX5_doTimer 5 none 1 := ⟨px_tb (by decide +kernel) (by decide +kernel), px_tb (by decide +kernel) (by decide +kernel), px_tb (by decide +kernel) (by decide +kernel), px_tb (by decide +kernel) (by decide +kernel), px_tb (by decide +kernel) (by decide +kernel), by decide +kernel, by decide⟩
def fC_doTask (M : px_M) : Option (Int32 × px_M) := px_bq (fC_sourceOfNextTask M) (fun r2 => (if r2 = (-1 : Int32) then some ((1 : Int32), M) else (if r2 = 0 then px_bq (fC_Line_subject_8 M) (fun r6 => px_bq (fC_Line_number_8 M) (fun r8 => px_bq (fC_Line_kind_8 M) (fun r10 => (if r10 = (1 : Int32) then px_bq (fC_Timers_find M r6) (fun r20 => (if r20 = (-1 : Int32) then px_bq (fC_Line_drop_8 M) (fun M23 => px_bq (fC_doTimer M23 r6) (fun M25 => some ((1 : Int32), M25))) else (if (M 0 12) < (50 : Int32) then px_bq (fC_Line_drop_8 M) (fun M28 => px_bq (fC_doTimer M28 r6) (fun M30 => some ((1 : Int32), M30))) else some ((0 : Int32), M)))) else (if (M 0 12) < (50 : Int32) then px_bq (fC_Line_drop_8 M) (fun M14 => px_bq (fC_run M14 r6 r8 (1 : Int32)) (fun M16 => px_bq (fC_reportFailure M16) (fun M18 => some ((1 : Int32), M18)))) else some ((0 : Int32), M)))))) else (if r2 = 1 then px_bq (fC_Line_subject_12 M) (fun r33 => px_bq (fC_Line_number_12 M) (fun r35 => px_bq (fC_Line_kind_12 M) (fun r37 => (if r37 = (1 : Int32) then px_bq (fC_Timers_find M r33) (fun r47 => (if r47 = (-1 : Int32) then px_bq (fC_Line_drop_12 M) (fun M50 => px_bq (fC_doTimer M50 r33) (fun M52 => some ((1 : Int32), M52))) else (if (M 0 12) < (50 : Int32) then px_bq (fC_Line_drop_12 M) (fun M55 => px_bq (fC_doTimer M55 r33) (fun M57 => some ((1 : Int32), M57))) else some ((0 : Int32), M)))) else (if (M 0 12) < (50 : Int32) then px_bq (fC_Line_drop_12 M) (fun M41 => px_bq (fC_run M41 r33 r35 (1 : Int32)) (fun M43 => px_bq (fC_reportFailure M43) (fun M45 => some ((1 : Int32), M45)))) else some ((0 : Int32), M)))))) else (if r2 = 2 then px_bq (fC_Line_subject_16 M) (fun r60 => px_bq (fC_Line_number_16 M) (fun r62 => px_bq (fC_Line_kind_16 M) (fun r64 => (if r64 = (1 : Int32) then px_bq (fC_Timers_find M r60) (fun r74 => (if r74 = (-1 : Int32) then px_bq (fC_Line_drop_16 M) (fun M77 => px_bq (fC_doTimer M77 r60) (fun M79 => some ((1 : Int32), M79))) else (if (M 0 12) < (50 : Int32) then px_bq (fC_Line_drop_16 M) (fun M82 => px_bq (fC_doTimer M82 r60) (fun M84 => some ((1 : Int32), M84))) else some ((0 : Int32), M)))) else (if (M 0 12) < (50 : Int32) then px_bq (fC_Line_drop_16 M) (fun M68 => px_bq (fC_run M68 r60 r62 (1 : Int32)) (fun M70 => px_bq (fC_reportFailure M70) (fun M72 => some ((1 : Int32), M72)))) else some ((0 : Int32), M)))))) else none)))))
set_option maxHeartbeats 4000000 in
set_option maxRecDepth 100000 in
theorem cC_doTask (l : Launch) (D : va_G) (cs : Nat → ClassId) (ad : Nat → Nat) {M : px_M} {r : Int32} {M' : px_M} (hf : fC_doTask M = some (r, M')) : px_mI l D (tyC cs) (wC cs ad) yX5_doTask cX5_doTask 7 (some .boolean) 29 [.ref (ad 0)] M r M' := by
  refine px_ofI (by decide +kernel) (Nat.le_of_ble_eq_true rfl) ?_
  intro p e s m below meth c A ls X hr hlk hml w hl
  have hl : lv_has ls 7 [(0, .ref (ad 0))] := hl
  unfold fC_doTask at hf
  refine lv_aload_n X.1 X.2.1 dX5_doTask_0 rfl (lv_at hl 0 rfl) ?_
  obtain ⟨r2, e1, hf⟩ := px_bq_e hf
  refine px_cI (As := []) (rest := []) X hml hl w (cC_sourceOfNextTask l D cs ad e1) lk_5_262 (by decide) (rcC_0 X.2.2.2.2 w) rfl (Nat.le_of_ble_eq_true rfl) dX5_doTask_1 (fun H locs w => ?_)
  refine lv_istore_n (lv' := [(1, .int r2), (0, .ref (ad 0))]) X.1 X.2.1 dX5_doTask_4 rfl hl (by decide) rfl (fun ls hl => ?_)
  refine lv_iload_n X.1 X.2.1 dX5_doTask_5 rfl (lv_at hl 0 rfl) ?_
  refine lv_iconst (v := (-1 : Int32)) X.1 X.2.1 dX5_doTask_6 (by decide) ?_
  refine lv_icmp_ne (tgt := 12) X.1 X.2.1 dX5_doTask_7 (by decide) (fun c3 => ?_) (fun c3 => ?_)
  · have hf := px_in c3 hf
    refine lv_aload_n X.1 X.2.1 dX5_doTask_12 rfl (lv_at hl 1 rfl) ?_
    refine gtC_0_2 X w dX5_doTask_13 ?_
    refine lv_iload_n X.1 X.2.1 dX5_doTask_16 rfl (lv_at hl 0 rfl) ?_
    by_cases c4 : r2 = 0
    · have hf := px_ip c4 hf
      refine alC_7_0 X w c4 dX5_doTask_17 ?_
      refine lv_astore_n (lv' := [(2, .ref (ad 8)), (1, .int r2), (0, .ref (ad 0))]) X.1 X.2.1 dX5_doTask_18 rfl hl (by decide) rfl (fun ls hl => ?_)
      refine lv_aload_n X.1 X.2.1 dX5_doTask_19 rfl (lv_at hl 0 rfl) ?_
      obtain ⟨r6, e5, hf⟩ := px_bq_e hf
      refine px_cI (As := []) (rest := []) X hml hl w (cC_Line_subject_8 l D cs ad e5) lk_5_216 (by decide) (rcC_8 X.2.2.2.2 w) rfl (Nat.le_of_ble_eq_true rfl) dX5_doTask_20 (fun H locs w => ?_)
      refine lv_istore_n (lv' := [(3, .int r6), (2, .ref (ad 8)), (1, .int r2), (0, .ref (ad 0))]) X.1 X.2.1 dX5_doTask_23 rfl hl (by decide) rfl (fun ls hl => ?_)
      refine lv_aload_n X.1 X.2.1 dX5_doTask_24 rfl (lv_at hl 1 rfl) ?_
      obtain ⟨r8, e7, hf⟩ := px_bq_e hf
      refine px_cI (As := []) (rest := []) X hml hl w (cC_Line_number_8 l D cs ad e7) lk_5_219 (by decide) (rcC_8 X.2.2.2.2 w) rfl (Nat.le_of_ble_eq_true rfl) dX5_doTask_25 (fun H locs w => ?_)
      refine lv_istore (lv' := [(4, .int r8), (3, .int r6), (2, .ref (ad 8)), (1, .int r2), (0, .ref (ad 0))]) X.1 X.2.1 dX5_doTask_28 hl (by decide) rfl (fun ls hl => ?_)
      refine lv_aload_n X.1 X.2.1 dX5_doTask_30 rfl (lv_at hl 2 rfl) ?_
      obtain ⟨r10, e9, hf⟩ := px_bq_e hf
      refine px_cI (As := []) (rest := []) X hml hl w (cC_Line_kind_8 l D cs ad e9) lk_5_213 (by decide) (rcC_8 X.2.2.2.2 w) rfl (Nat.le_of_ble_eq_true rfl) dX5_doTask_31 (fun H locs w => ?_)
      refine lv_iconst (v := (1 : Int32)) X.1 X.2.1 dX5_doTask_34 (by decide) ?_
      refine lv_icmp_ne (tgt := 42) X.1 X.2.1 dX5_doTask_35 (by decide) (fun c11 => ?_) (fun c11 => ?_)
      · have hf := px_in c11 hf
        refine lv_iconst (v := (0 : Int32)) X.1 X.2.1 dX5_doTask_42 (by decide) ?_
        refine lv_istore (lv' := [(5, .int (0 : Int32)), (4, .int r8), (3, .int r6), (2, .ref (ad 8)), (1, .int r2), (0, .ref (ad 0))]) X.1 X.2.1 dX5_doTask_43 hl (by decide) rfl (fun ls hl => ?_)
        refine lv_iload X.1 X.2.1 dX5_doTask_45 (lv_at hl 0 rfl) ?_
        refine lv_if_eq (tgt := 62) X.1 X.2.1 dX5_doTask_47 (by decide) (fun _ => ?_) (fun c => absurd c (by decide))
        refine lv_iconst (v := (1 : Int32)) X.1 X.2.1 dX5_doTask_62 (by decide) ?_
        refine lv_goto (tgt := 67) X.1 X.2.1 dX5_doTask_63 (by decide) ?_
        refine lv_istore (lv' := [(6, .int (1 : Int32)), (5, .int (0 : Int32)), (4, .int r8), (3, .int r6), (2, .ref (ad 8)), (1, .int r2), (0, .ref (ad 0))]) X.1 X.2.1 dX5_doTask_67 hl (by decide) rfl (fun ls hl => ?_)
        refine lv_iload X.1 X.2.1 dX5_doTask_69 (lv_at hl 0 rfl) ?_
        refine lv_if_eq (tgt := 85) X.1 X.2.1 dX5_doTask_71 (by decide) (fun c => absurd c (by decide)) (fun _ => ?_)
        refine lv_aload_n X.1 X.2.1 dX5_doTask_74 rfl (lv_at hl 6 rfl) ?_
        refine gtC_0_12 X w dX5_doTask_75 ?_
        refine lv_bipush (v := (50 : Int32)) X.1 X.2.1 dX5_doTask_78 (by decide) ?_
        refine lv_icmp_lt (tgt := 85) X.1 X.2.1 dX5_doTask_80 (by decide) (fun c12 => ?_) (fun c12 => ?_)
        · have hf := px_ip c12 hf
          refine lv_aload_n X.1 X.2.1 dX5_doTask_85 rfl (lv_at hl 4 rfl) ?_
          obtain ⟨M14, e13, hf⟩ := px_bq_e hf
          refine px_cV (As := []) (rest := []) X hml hl w (cC_Line_drop_8 l D cs ad e13) lk_5_222 (by decide) (rcC_8 X.2.2.2.2 w) rfl (Nat.le_of_ble_eq_true rfl) dX5_doTask_86 (fun H locs w => ?_)
          refine lv_iload X.1 X.2.1 dX5_doTask_89 (lv_at hl 1 rfl) ?_
          refine lv_if_eq (tgt := 102) X.1 X.2.1 dX5_doTask_91 (by decide) (fun _ => ?_) (fun c => absurd c (by decide))
          refine lv_aload_n X.1 X.2.1 dX5_doTask_102 rfl (lv_at hl 6 rfl) ?_
          refine lv_iload_n X.1 X.2.1 dX5_doTask_103 rfl (lv_at hl 3 rfl) ?_
          refine lv_iload X.1 X.2.1 dX5_doTask_104 (lv_at hl 2 rfl) ?_
          refine lv_iconst (v := (1 : Int32)) X.1 X.2.1 dX5_doTask_106 (by decide) ?_
          obtain ⟨M16, e15, hf⟩ := px_bq_e hf
          refine px_cV (As := [.int r6, .int r8, .int (1 : Int32)]) (rest := []) X hml hl w (cC_run l D cs ad e15) lk_5_225 (by decide) (rcC_0 X.2.2.2.2 w) rfl (Nat.le_of_ble_eq_true rfl) dX5_doTask_107 (fun H locs w => ?_)
          refine lv_aload_n X.1 X.2.1 dX5_doTask_110 rfl (lv_at hl 6 rfl) ?_
          obtain ⟨M18, e17, hf⟩ := px_bq_e hf
          refine px_cV (As := []) (rest := []) X hml hl w (cC_reportFailure l D cs ad e17) lk_5_228 (by decide) (rcC_0 X.2.2.2.2 w) rfl (Nat.le_of_ble_eq_true rfl) dX5_doTask_111 (fun H locs w => ?_)
          refine lv_iconst (v := (1 : Int32)) X.1 X.2.1 dX5_doTask_114 (by decide) ?_
          cases hf
          exact px_retZ X hr hlk narrow_b1 w dX5_doTask_115
        · have hf := px_in c12 hf
          refine lv_iconst (v := (0 : Int32)) X.1 X.2.1 dX5_doTask_83 (by decide) ?_
          cases hf
          exact px_retZ X hr hlk narrow_b0 w dX5_doTask_84
      · have hf := px_ip c11 hf
        refine lv_iconst (v := (1 : Int32)) X.1 X.2.1 dX5_doTask_38 (by decide) ?_
        refine lv_goto (tgt := 43) X.1 X.2.1 dX5_doTask_39 (by decide) ?_
        refine lv_istore (lv' := [(5, .int (1 : Int32)), (4, .int r8), (3, .int r6), (2, .ref (ad 8)), (1, .int r2), (0, .ref (ad 0))]) X.1 X.2.1 dX5_doTask_43 hl (by decide) rfl (fun ls hl => ?_)
        refine lv_iload X.1 X.2.1 dX5_doTask_45 (lv_at hl 0 rfl) ?_
        refine lv_if_eq (tgt := 62) X.1 X.2.1 dX5_doTask_47 (by decide) (fun c => absurd c (by decide)) (fun _ => ?_)
        refine lv_aload_n X.1 X.2.1 dX5_doTask_50 rfl (lv_at hl 5 rfl) ?_
        refine gtC_0_8 X w dX5_doTask_51 ?_
        refine lv_iload_n X.1 X.2.1 dX5_doTask_54 rfl (lv_at hl 2 rfl) ?_
        obtain ⟨r20, e19, hf⟩ := px_bq_e hf
        refine px_cI (As := [.int r6]) (rest := []) X hml hl w (cC_Timers_find l D cs ad e19) lk_5_265 (by decide) (rcC_43 X.2.2.2.2 w) rfl (Nat.le_of_ble_eq_true rfl) dX5_doTask_55 (fun H locs w => ?_)
        refine lv_iconst (v := (-1 : Int32)) X.1 X.2.1 dX5_doTask_58 (by decide) ?_
        refine lv_icmp_eq (tgt := 66) X.1 X.2.1 dX5_doTask_59 (by decide) (fun c21 => ?_) (fun c21 => ?_)
        · have hf := px_ip c21 hf
          refine lv_iconst (v := (0 : Int32)) X.1 X.2.1 dX5_doTask_66 (by decide) ?_
          refine lv_istore (lv' := [(6, .int (0 : Int32)), (5, .int (1 : Int32)), (4, .int r8), (3, .int r6), (2, .ref (ad 8)), (1, .int r2), (0, .ref (ad 0))]) X.1 X.2.1 dX5_doTask_67 hl (by decide) rfl (fun ls hl => ?_)
          refine lv_iload X.1 X.2.1 dX5_doTask_69 (lv_at hl 0 rfl) ?_
          refine lv_if_eq (tgt := 85) X.1 X.2.1 dX5_doTask_71 (by decide) (fun _ => ?_) (fun c => absurd c (by decide))
          refine lv_aload_n X.1 X.2.1 dX5_doTask_85 rfl (lv_at hl 4 rfl) ?_
          obtain ⟨M23, e22, hf⟩ := px_bq_e hf
          refine px_cV (As := []) (rest := []) X hml hl w (cC_Line_drop_8 l D cs ad e22) lk_5_222 (by decide) (rcC_8 X.2.2.2.2 w) rfl (Nat.le_of_ble_eq_true rfl) dX5_doTask_86 (fun H locs w => ?_)
          refine lv_iload X.1 X.2.1 dX5_doTask_89 (lv_at hl 1 rfl) ?_
          refine lv_if_eq (tgt := 102) X.1 X.2.1 dX5_doTask_91 (by decide) (fun c => absurd c (by decide)) (fun _ => ?_)
          refine lv_aload_n X.1 X.2.1 dX5_doTask_94 rfl (lv_at hl 6 rfl) ?_
          refine lv_iload_n X.1 X.2.1 dX5_doTask_95 rfl (lv_at hl 3 rfl) ?_
          obtain ⟨M25, e24, hf⟩ := px_bq_e hf
          refine px_cV (As := [.int r6]) (rest := []) X hml hl w (cC_doTimer l D cs ad e24) lk_5_268 (by decide) (rcC_0 X.2.2.2.2 w) rfl (Nat.le_of_ble_eq_true rfl) dX5_doTask_96 (fun H locs w => ?_)
          refine lv_goto (tgt := 114) X.1 X.2.1 dX5_doTask_99 (by decide) ?_
          refine lv_iconst (v := (1 : Int32)) X.1 X.2.1 dX5_doTask_114 (by decide) ?_
          cases hf
          exact px_retZ X hr hlk narrow_b1 w dX5_doTask_115
        · have hf := px_in c21 hf
          refine lv_iconst (v := (1 : Int32)) X.1 X.2.1 dX5_doTask_62 (by decide) ?_
          refine lv_goto (tgt := 67) X.1 X.2.1 dX5_doTask_63 (by decide) ?_
          refine lv_istore (lv' := [(6, .int (1 : Int32)), (5, .int (1 : Int32)), (4, .int r8), (3, .int r6), (2, .ref (ad 8)), (1, .int r2), (0, .ref (ad 0))]) X.1 X.2.1 dX5_doTask_67 hl (by decide) rfl (fun ls hl => ?_)
          refine lv_iload X.1 X.2.1 dX5_doTask_69 (lv_at hl 0 rfl) ?_
          refine lv_if_eq (tgt := 85) X.1 X.2.1 dX5_doTask_71 (by decide) (fun c => absurd c (by decide)) (fun _ => ?_)
          refine lv_aload_n X.1 X.2.1 dX5_doTask_74 rfl (lv_at hl 6 rfl) ?_
          refine gtC_0_12 X w dX5_doTask_75 ?_
          refine lv_bipush (v := (50 : Int32)) X.1 X.2.1 dX5_doTask_78 (by decide) ?_
          refine lv_icmp_lt (tgt := 85) X.1 X.2.1 dX5_doTask_80 (by decide) (fun c26 => ?_) (fun c26 => ?_)
          · have hf := px_ip c26 hf
            refine lv_aload_n X.1 X.2.1 dX5_doTask_85 rfl (lv_at hl 4 rfl) ?_
            obtain ⟨M28, e27, hf⟩ := px_bq_e hf
            refine px_cV (As := []) (rest := []) X hml hl w (cC_Line_drop_8 l D cs ad e27) lk_5_222 (by decide) (rcC_8 X.2.2.2.2 w) rfl (Nat.le_of_ble_eq_true rfl) dX5_doTask_86 (fun H locs w => ?_)
            refine lv_iload X.1 X.2.1 dX5_doTask_89 (lv_at hl 1 rfl) ?_
            refine lv_if_eq (tgt := 102) X.1 X.2.1 dX5_doTask_91 (by decide) (fun c => absurd c (by decide)) (fun _ => ?_)
            refine lv_aload_n X.1 X.2.1 dX5_doTask_94 rfl (lv_at hl 6 rfl) ?_
            refine lv_iload_n X.1 X.2.1 dX5_doTask_95 rfl (lv_at hl 3 rfl) ?_
            obtain ⟨M30, e29, hf⟩ := px_bq_e hf
            refine px_cV (As := [.int r6]) (rest := []) X hml hl w (cC_doTimer l D cs ad e29) lk_5_268 (by decide) (rcC_0 X.2.2.2.2 w) rfl (Nat.le_of_ble_eq_true rfl) dX5_doTask_96 (fun H locs w => ?_)
            refine lv_goto (tgt := 114) X.1 X.2.1 dX5_doTask_99 (by decide) ?_
            refine lv_iconst (v := (1 : Int32)) X.1 X.2.1 dX5_doTask_114 (by decide) ?_
            cases hf
            exact px_retZ X hr hlk narrow_b1 w dX5_doTask_115
          · have hf := px_in c26 hf
            refine lv_iconst (v := (0 : Int32)) X.1 X.2.1 dX5_doTask_83 (by decide) ?_
            cases hf
            exact px_retZ X hr hlk narrow_b0 w dX5_doTask_84
    · have hf := px_in c4 hf
      by_cases c31 : r2 = 1
      · have hf := px_ip c31 hf
        refine alC_7_1 X w c31 dX5_doTask_17 ?_
        refine lv_astore_n (lv' := [(2, .ref (ad 12)), (1, .int r2), (0, .ref (ad 0))]) X.1 X.2.1 dX5_doTask_18 rfl hl (by decide) rfl (fun ls hl => ?_)
        refine lv_aload_n X.1 X.2.1 dX5_doTask_19 rfl (lv_at hl 0 rfl) ?_
        obtain ⟨r33, e32, hf⟩ := px_bq_e hf
        refine px_cI (As := []) (rest := []) X hml hl w (cC_Line_subject_12 l D cs ad e32) lk_5_216 (by decide) (rcC_12 X.2.2.2.2 w) rfl (Nat.le_of_ble_eq_true rfl) dX5_doTask_20 (fun H locs w => ?_)
        refine lv_istore_n (lv' := [(3, .int r33), (2, .ref (ad 12)), (1, .int r2), (0, .ref (ad 0))]) X.1 X.2.1 dX5_doTask_23 rfl hl (by decide) rfl (fun ls hl => ?_)
        refine lv_aload_n X.1 X.2.1 dX5_doTask_24 rfl (lv_at hl 1 rfl) ?_
        obtain ⟨r35, e34, hf⟩ := px_bq_e hf
        refine px_cI (As := []) (rest := []) X hml hl w (cC_Line_number_12 l D cs ad e34) lk_5_219 (by decide) (rcC_12 X.2.2.2.2 w) rfl (Nat.le_of_ble_eq_true rfl) dX5_doTask_25 (fun H locs w => ?_)
        refine lv_istore (lv' := [(4, .int r35), (3, .int r33), (2, .ref (ad 12)), (1, .int r2), (0, .ref (ad 0))]) X.1 X.2.1 dX5_doTask_28 hl (by decide) rfl (fun ls hl => ?_)
        refine lv_aload_n X.1 X.2.1 dX5_doTask_30 rfl (lv_at hl 2 rfl) ?_
        obtain ⟨r37, e36, hf⟩ := px_bq_e hf
        refine px_cI (As := []) (rest := []) X hml hl w (cC_Line_kind_12 l D cs ad e36) lk_5_213 (by decide) (rcC_12 X.2.2.2.2 w) rfl (Nat.le_of_ble_eq_true rfl) dX5_doTask_31 (fun H locs w => ?_)
        refine lv_iconst (v := (1 : Int32)) X.1 X.2.1 dX5_doTask_34 (by decide) ?_
        refine lv_icmp_ne (tgt := 42) X.1 X.2.1 dX5_doTask_35 (by decide) (fun c38 => ?_) (fun c38 => ?_)
        · have hf := px_in c38 hf
          refine lv_iconst (v := (0 : Int32)) X.1 X.2.1 dX5_doTask_42 (by decide) ?_
          refine lv_istore (lv' := [(5, .int (0 : Int32)), (4, .int r35), (3, .int r33), (2, .ref (ad 12)), (1, .int r2), (0, .ref (ad 0))]) X.1 X.2.1 dX5_doTask_43 hl (by decide) rfl (fun ls hl => ?_)
          refine lv_iload X.1 X.2.1 dX5_doTask_45 (lv_at hl 0 rfl) ?_
          refine lv_if_eq (tgt := 62) X.1 X.2.1 dX5_doTask_47 (by decide) (fun _ => ?_) (fun c => absurd c (by decide))
          refine lv_iconst (v := (1 : Int32)) X.1 X.2.1 dX5_doTask_62 (by decide) ?_
          refine lv_goto (tgt := 67) X.1 X.2.1 dX5_doTask_63 (by decide) ?_
          refine lv_istore (lv' := [(6, .int (1 : Int32)), (5, .int (0 : Int32)), (4, .int r35), (3, .int r33), (2, .ref (ad 12)), (1, .int r2), (0, .ref (ad 0))]) X.1 X.2.1 dX5_doTask_67 hl (by decide) rfl (fun ls hl => ?_)
          refine lv_iload X.1 X.2.1 dX5_doTask_69 (lv_at hl 0 rfl) ?_
          refine lv_if_eq (tgt := 85) X.1 X.2.1 dX5_doTask_71 (by decide) (fun c => absurd c (by decide)) (fun _ => ?_)
          refine lv_aload_n X.1 X.2.1 dX5_doTask_74 rfl (lv_at hl 6 rfl) ?_
          refine gtC_0_12 X w dX5_doTask_75 ?_
          refine lv_bipush (v := (50 : Int32)) X.1 X.2.1 dX5_doTask_78 (by decide) ?_
          refine lv_icmp_lt (tgt := 85) X.1 X.2.1 dX5_doTask_80 (by decide) (fun c39 => ?_) (fun c39 => ?_)
          · have hf := px_ip c39 hf
            refine lv_aload_n X.1 X.2.1 dX5_doTask_85 rfl (lv_at hl 4 rfl) ?_
            obtain ⟨M41, e40, hf⟩ := px_bq_e hf
            refine px_cV (As := []) (rest := []) X hml hl w (cC_Line_drop_12 l D cs ad e40) lk_5_222 (by decide) (rcC_12 X.2.2.2.2 w) rfl (Nat.le_of_ble_eq_true rfl) dX5_doTask_86 (fun H locs w => ?_)
            refine lv_iload X.1 X.2.1 dX5_doTask_89 (lv_at hl 1 rfl) ?_
            refine lv_if_eq (tgt := 102) X.1 X.2.1 dX5_doTask_91 (by decide) (fun _ => ?_) (fun c => absurd c (by decide))
            refine lv_aload_n X.1 X.2.1 dX5_doTask_102 rfl (lv_at hl 6 rfl) ?_
            refine lv_iload_n X.1 X.2.1 dX5_doTask_103 rfl (lv_at hl 3 rfl) ?_
            refine lv_iload X.1 X.2.1 dX5_doTask_104 (lv_at hl 2 rfl) ?_
            refine lv_iconst (v := (1 : Int32)) X.1 X.2.1 dX5_doTask_106 (by decide) ?_
            obtain ⟨M43, e42, hf⟩ := px_bq_e hf
            refine px_cV (As := [.int r33, .int r35, .int (1 : Int32)]) (rest := []) X hml hl w (cC_run l D cs ad e42) lk_5_225 (by decide) (rcC_0 X.2.2.2.2 w) rfl (Nat.le_of_ble_eq_true rfl) dX5_doTask_107 (fun H locs w => ?_)
            refine lv_aload_n X.1 X.2.1 dX5_doTask_110 rfl (lv_at hl 6 rfl) ?_
            obtain ⟨M45, e44, hf⟩ := px_bq_e hf
            refine px_cV (As := []) (rest := []) X hml hl w (cC_reportFailure l D cs ad e44) lk_5_228 (by decide) (rcC_0 X.2.2.2.2 w) rfl (Nat.le_of_ble_eq_true rfl) dX5_doTask_111 (fun H locs w => ?_)
            refine lv_iconst (v := (1 : Int32)) X.1 X.2.1 dX5_doTask_114 (by decide) ?_
            cases hf
            exact px_retZ X hr hlk narrow_b1 w dX5_doTask_115
          · have hf := px_in c39 hf
            refine lv_iconst (v := (0 : Int32)) X.1 X.2.1 dX5_doTask_83 (by decide) ?_
            cases hf
            exact px_retZ X hr hlk narrow_b0 w dX5_doTask_84
        · have hf := px_ip c38 hf
          refine lv_iconst (v := (1 : Int32)) X.1 X.2.1 dX5_doTask_38 (by decide) ?_
          refine lv_goto (tgt := 43) X.1 X.2.1 dX5_doTask_39 (by decide) ?_
          refine lv_istore (lv' := [(5, .int (1 : Int32)), (4, .int r35), (3, .int r33), (2, .ref (ad 12)), (1, .int r2), (0, .ref (ad 0))]) X.1 X.2.1 dX5_doTask_43 hl (by decide) rfl (fun ls hl => ?_)
          refine lv_iload X.1 X.2.1 dX5_doTask_45 (lv_at hl 0 rfl) ?_
          refine lv_if_eq (tgt := 62) X.1 X.2.1 dX5_doTask_47 (by decide) (fun c => absurd c (by decide)) (fun _ => ?_)
          refine lv_aload_n X.1 X.2.1 dX5_doTask_50 rfl (lv_at hl 5 rfl) ?_
          refine gtC_0_8 X w dX5_doTask_51 ?_
          refine lv_iload_n X.1 X.2.1 dX5_doTask_54 rfl (lv_at hl 2 rfl) ?_
          obtain ⟨r47, e46, hf⟩ := px_bq_e hf
          refine px_cI (As := [.int r33]) (rest := []) X hml hl w (cC_Timers_find l D cs ad e46) lk_5_265 (by decide) (rcC_43 X.2.2.2.2 w) rfl (Nat.le_of_ble_eq_true rfl) dX5_doTask_55 (fun H locs w => ?_)
          refine lv_iconst (v := (-1 : Int32)) X.1 X.2.1 dX5_doTask_58 (by decide) ?_
          refine lv_icmp_eq (tgt := 66) X.1 X.2.1 dX5_doTask_59 (by decide) (fun c48 => ?_) (fun c48 => ?_)
          · have hf := px_ip c48 hf
            refine lv_iconst (v := (0 : Int32)) X.1 X.2.1 dX5_doTask_66 (by decide) ?_
            refine lv_istore (lv' := [(6, .int (0 : Int32)), (5, .int (1 : Int32)), (4, .int r35), (3, .int r33), (2, .ref (ad 12)), (1, .int r2), (0, .ref (ad 0))]) X.1 X.2.1 dX5_doTask_67 hl (by decide) rfl (fun ls hl => ?_)
            refine lv_iload X.1 X.2.1 dX5_doTask_69 (lv_at hl 0 rfl) ?_
            refine lv_if_eq (tgt := 85) X.1 X.2.1 dX5_doTask_71 (by decide) (fun _ => ?_) (fun c => absurd c (by decide))
            refine lv_aload_n X.1 X.2.1 dX5_doTask_85 rfl (lv_at hl 4 rfl) ?_
            obtain ⟨M50, e49, hf⟩ := px_bq_e hf
            refine px_cV (As := []) (rest := []) X hml hl w (cC_Line_drop_12 l D cs ad e49) lk_5_222 (by decide) (rcC_12 X.2.2.2.2 w) rfl (Nat.le_of_ble_eq_true rfl) dX5_doTask_86 (fun H locs w => ?_)
            refine lv_iload X.1 X.2.1 dX5_doTask_89 (lv_at hl 1 rfl) ?_
            refine lv_if_eq (tgt := 102) X.1 X.2.1 dX5_doTask_91 (by decide) (fun c => absurd c (by decide)) (fun _ => ?_)
            refine lv_aload_n X.1 X.2.1 dX5_doTask_94 rfl (lv_at hl 6 rfl) ?_
            refine lv_iload_n X.1 X.2.1 dX5_doTask_95 rfl (lv_at hl 3 rfl) ?_
            obtain ⟨M52, e51, hf⟩ := px_bq_e hf
            refine px_cV (As := [.int r33]) (rest := []) X hml hl w (cC_doTimer l D cs ad e51) lk_5_268 (by decide) (rcC_0 X.2.2.2.2 w) rfl (Nat.le_of_ble_eq_true rfl) dX5_doTask_96 (fun H locs w => ?_)
            refine lv_goto (tgt := 114) X.1 X.2.1 dX5_doTask_99 (by decide) ?_
            refine lv_iconst (v := (1 : Int32)) X.1 X.2.1 dX5_doTask_114 (by decide) ?_
            cases hf
            exact px_retZ X hr hlk narrow_b1 w dX5_doTask_115
          · have hf := px_in c48 hf
            refine lv_iconst (v := (1 : Int32)) X.1 X.2.1 dX5_doTask_62 (by decide) ?_
            refine lv_goto (tgt := 67) X.1 X.2.1 dX5_doTask_63 (by decide) ?_
            refine lv_istore (lv' := [(6, .int (1 : Int32)), (5, .int (1 : Int32)), (4, .int r35), (3, .int r33), (2, .ref (ad 12)), (1, .int r2), (0, .ref (ad 0))]) X.1 X.2.1 dX5_doTask_67 hl (by decide) rfl (fun ls hl => ?_)
            refine lv_iload X.1 X.2.1 dX5_doTask_69 (lv_at hl 0 rfl) ?_
            refine lv_if_eq (tgt := 85) X.1 X.2.1 dX5_doTask_71 (by decide) (fun c => absurd c (by decide)) (fun _ => ?_)
            refine lv_aload_n X.1 X.2.1 dX5_doTask_74 rfl (lv_at hl 6 rfl) ?_
            refine gtC_0_12 X w dX5_doTask_75 ?_
            refine lv_bipush (v := (50 : Int32)) X.1 X.2.1 dX5_doTask_78 (by decide) ?_
            refine lv_icmp_lt (tgt := 85) X.1 X.2.1 dX5_doTask_80 (by decide) (fun c53 => ?_) (fun c53 => ?_)
            · have hf := px_ip c53 hf
              refine lv_aload_n X.1 X.2.1 dX5_doTask_85 rfl (lv_at hl 4 rfl) ?_
              obtain ⟨M55, e54, hf⟩ := px_bq_e hf
              refine px_cV (As := []) (rest := []) X hml hl w (cC_Line_drop_12 l D cs ad e54) lk_5_222 (by decide) (rcC_12 X.2.2.2.2 w) rfl (Nat.le_of_ble_eq_true rfl) dX5_doTask_86 (fun H locs w => ?_)
              refine lv_iload X.1 X.2.1 dX5_doTask_89 (lv_at hl 1 rfl) ?_
              refine lv_if_eq (tgt := 102) X.1 X.2.1 dX5_doTask_91 (by decide) (fun c => absurd c (by decide)) (fun _ => ?_)
              refine lv_aload_n X.1 X.2.1 dX5_doTask_94 rfl (lv_at hl 6 rfl) ?_
              refine lv_iload_n X.1 X.2.1 dX5_doTask_95 rfl (lv_at hl 3 rfl) ?_
              obtain ⟨M57, e56, hf⟩ := px_bq_e hf
              refine px_cV (As := [.int r33]) (rest := []) X hml hl w (cC_doTimer l D cs ad e56) lk_5_268 (by decide) (rcC_0 X.2.2.2.2 w) rfl (Nat.le_of_ble_eq_true rfl) dX5_doTask_96 (fun H locs w => ?_)
              refine lv_goto (tgt := 114) X.1 X.2.1 dX5_doTask_99 (by decide) ?_
              refine lv_iconst (v := (1 : Int32)) X.1 X.2.1 dX5_doTask_114 (by decide) ?_
              cases hf
              exact px_retZ X hr hlk narrow_b1 w dX5_doTask_115
            · have hf := px_in c53 hf
              refine lv_iconst (v := (0 : Int32)) X.1 X.2.1 dX5_doTask_83 (by decide) ?_
              cases hf
              exact px_retZ X hr hlk narrow_b0 w dX5_doTask_84
      · have hf := px_in c31 hf
        by_cases c58 : r2 = 2
        · have hf := px_ip c58 hf
          refine alC_7_2 X w c58 dX5_doTask_17 ?_
          refine lv_astore_n (lv' := [(2, .ref (ad 16)), (1, .int r2), (0, .ref (ad 0))]) X.1 X.2.1 dX5_doTask_18 rfl hl (by decide) rfl (fun ls hl => ?_)
          refine lv_aload_n X.1 X.2.1 dX5_doTask_19 rfl (lv_at hl 0 rfl) ?_
          obtain ⟨r60, e59, hf⟩ := px_bq_e hf
          refine px_cI (As := []) (rest := []) X hml hl w (cC_Line_subject_16 l D cs ad e59) lk_5_216 (by decide) (rcC_16 X.2.2.2.2 w) rfl (Nat.le_of_ble_eq_true rfl) dX5_doTask_20 (fun H locs w => ?_)
          refine lv_istore_n (lv' := [(3, .int r60), (2, .ref (ad 16)), (1, .int r2), (0, .ref (ad 0))]) X.1 X.2.1 dX5_doTask_23 rfl hl (by decide) rfl (fun ls hl => ?_)
          refine lv_aload_n X.1 X.2.1 dX5_doTask_24 rfl (lv_at hl 1 rfl) ?_
          obtain ⟨r62, e61, hf⟩ := px_bq_e hf
          refine px_cI (As := []) (rest := []) X hml hl w (cC_Line_number_16 l D cs ad e61) lk_5_219 (by decide) (rcC_16 X.2.2.2.2 w) rfl (Nat.le_of_ble_eq_true rfl) dX5_doTask_25 (fun H locs w => ?_)
          refine lv_istore (lv' := [(4, .int r62), (3, .int r60), (2, .ref (ad 16)), (1, .int r2), (0, .ref (ad 0))]) X.1 X.2.1 dX5_doTask_28 hl (by decide) rfl (fun ls hl => ?_)
          refine lv_aload_n X.1 X.2.1 dX5_doTask_30 rfl (lv_at hl 2 rfl) ?_
          obtain ⟨r64, e63, hf⟩ := px_bq_e hf
          refine px_cI (As := []) (rest := []) X hml hl w (cC_Line_kind_16 l D cs ad e63) lk_5_213 (by decide) (rcC_16 X.2.2.2.2 w) rfl (Nat.le_of_ble_eq_true rfl) dX5_doTask_31 (fun H locs w => ?_)
          refine lv_iconst (v := (1 : Int32)) X.1 X.2.1 dX5_doTask_34 (by decide) ?_
          refine lv_icmp_ne (tgt := 42) X.1 X.2.1 dX5_doTask_35 (by decide) (fun c65 => ?_) (fun c65 => ?_)
          · have hf := px_in c65 hf
            refine lv_iconst (v := (0 : Int32)) X.1 X.2.1 dX5_doTask_42 (by decide) ?_
            refine lv_istore (lv' := [(5, .int (0 : Int32)), (4, .int r62), (3, .int r60), (2, .ref (ad 16)), (1, .int r2), (0, .ref (ad 0))]) X.1 X.2.1 dX5_doTask_43 hl (by decide) rfl (fun ls hl => ?_)
            refine lv_iload X.1 X.2.1 dX5_doTask_45 (lv_at hl 0 rfl) ?_
            refine lv_if_eq (tgt := 62) X.1 X.2.1 dX5_doTask_47 (by decide) (fun _ => ?_) (fun c => absurd c (by decide))
            refine lv_iconst (v := (1 : Int32)) X.1 X.2.1 dX5_doTask_62 (by decide) ?_
            refine lv_goto (tgt := 67) X.1 X.2.1 dX5_doTask_63 (by decide) ?_
            refine lv_istore (lv' := [(6, .int (1 : Int32)), (5, .int (0 : Int32)), (4, .int r62), (3, .int r60), (2, .ref (ad 16)), (1, .int r2), (0, .ref (ad 0))]) X.1 X.2.1 dX5_doTask_67 hl (by decide) rfl (fun ls hl => ?_)
            refine lv_iload X.1 X.2.1 dX5_doTask_69 (lv_at hl 0 rfl) ?_
            refine lv_if_eq (tgt := 85) X.1 X.2.1 dX5_doTask_71 (by decide) (fun c => absurd c (by decide)) (fun _ => ?_)
            refine lv_aload_n X.1 X.2.1 dX5_doTask_74 rfl (lv_at hl 6 rfl) ?_
            refine gtC_0_12 X w dX5_doTask_75 ?_
            refine lv_bipush (v := (50 : Int32)) X.1 X.2.1 dX5_doTask_78 (by decide) ?_
            refine lv_icmp_lt (tgt := 85) X.1 X.2.1 dX5_doTask_80 (by decide) (fun c66 => ?_) (fun c66 => ?_)
            · have hf := px_ip c66 hf
              refine lv_aload_n X.1 X.2.1 dX5_doTask_85 rfl (lv_at hl 4 rfl) ?_
              obtain ⟨M68, e67, hf⟩ := px_bq_e hf
              refine px_cV (As := []) (rest := []) X hml hl w (cC_Line_drop_16 l D cs ad e67) lk_5_222 (by decide) (rcC_16 X.2.2.2.2 w) rfl (Nat.le_of_ble_eq_true rfl) dX5_doTask_86 (fun H locs w => ?_)
              refine lv_iload X.1 X.2.1 dX5_doTask_89 (lv_at hl 1 rfl) ?_
              refine lv_if_eq (tgt := 102) X.1 X.2.1 dX5_doTask_91 (by decide) (fun _ => ?_) (fun c => absurd c (by decide))
              refine lv_aload_n X.1 X.2.1 dX5_doTask_102 rfl (lv_at hl 6 rfl) ?_
              refine lv_iload_n X.1 X.2.1 dX5_doTask_103 rfl (lv_at hl 3 rfl) ?_
              refine lv_iload X.1 X.2.1 dX5_doTask_104 (lv_at hl 2 rfl) ?_
              refine lv_iconst (v := (1 : Int32)) X.1 X.2.1 dX5_doTask_106 (by decide) ?_
              obtain ⟨M70, e69, hf⟩ := px_bq_e hf
              refine px_cV (As := [.int r60, .int r62, .int (1 : Int32)]) (rest := []) X hml hl w (cC_run l D cs ad e69) lk_5_225 (by decide) (rcC_0 X.2.2.2.2 w) rfl (Nat.le_of_ble_eq_true rfl) dX5_doTask_107 (fun H locs w => ?_)
              refine lv_aload_n X.1 X.2.1 dX5_doTask_110 rfl (lv_at hl 6 rfl) ?_
              obtain ⟨M72, e71, hf⟩ := px_bq_e hf
              refine px_cV (As := []) (rest := []) X hml hl w (cC_reportFailure l D cs ad e71) lk_5_228 (by decide) (rcC_0 X.2.2.2.2 w) rfl (Nat.le_of_ble_eq_true rfl) dX5_doTask_111 (fun H locs w => ?_)
              refine lv_iconst (v := (1 : Int32)) X.1 X.2.1 dX5_doTask_114 (by decide) ?_
              cases hf
              exact px_retZ X hr hlk narrow_b1 w dX5_doTask_115
            · have hf := px_in c66 hf
              refine lv_iconst (v := (0 : Int32)) X.1 X.2.1 dX5_doTask_83 (by decide) ?_
              cases hf
              exact px_retZ X hr hlk narrow_b0 w dX5_doTask_84
          · have hf := px_ip c65 hf
            refine lv_iconst (v := (1 : Int32)) X.1 X.2.1 dX5_doTask_38 (by decide) ?_
            refine lv_goto (tgt := 43) X.1 X.2.1 dX5_doTask_39 (by decide) ?_
            refine lv_istore (lv' := [(5, .int (1 : Int32)), (4, .int r62), (3, .int r60), (2, .ref (ad 16)), (1, .int r2), (0, .ref (ad 0))]) X.1 X.2.1 dX5_doTask_43 hl (by decide) rfl (fun ls hl => ?_)
            refine lv_iload X.1 X.2.1 dX5_doTask_45 (lv_at hl 0 rfl) ?_
            refine lv_if_eq (tgt := 62) X.1 X.2.1 dX5_doTask_47 (by decide) (fun c => absurd c (by decide)) (fun _ => ?_)
            refine lv_aload_n X.1 X.2.1 dX5_doTask_50 rfl (lv_at hl 5 rfl) ?_
            refine gtC_0_8 X w dX5_doTask_51 ?_
            refine lv_iload_n X.1 X.2.1 dX5_doTask_54 rfl (lv_at hl 2 rfl) ?_
            obtain ⟨r74, e73, hf⟩ := px_bq_e hf
            refine px_cI (As := [.int r60]) (rest := []) X hml hl w (cC_Timers_find l D cs ad e73) lk_5_265 (by decide) (rcC_43 X.2.2.2.2 w) rfl (Nat.le_of_ble_eq_true rfl) dX5_doTask_55 (fun H locs w => ?_)
            refine lv_iconst (v := (-1 : Int32)) X.1 X.2.1 dX5_doTask_58 (by decide) ?_
            refine lv_icmp_eq (tgt := 66) X.1 X.2.1 dX5_doTask_59 (by decide) (fun c75 => ?_) (fun c75 => ?_)
            · have hf := px_ip c75 hf
              refine lv_iconst (v := (0 : Int32)) X.1 X.2.1 dX5_doTask_66 (by decide) ?_
              refine lv_istore (lv' := [(6, .int (0 : Int32)), (5, .int (1 : Int32)), (4, .int r62), (3, .int r60), (2, .ref (ad 16)), (1, .int r2), (0, .ref (ad 0))]) X.1 X.2.1 dX5_doTask_67 hl (by decide) rfl (fun ls hl => ?_)
              refine lv_iload X.1 X.2.1 dX5_doTask_69 (lv_at hl 0 rfl) ?_
              refine lv_if_eq (tgt := 85) X.1 X.2.1 dX5_doTask_71 (by decide) (fun _ => ?_) (fun c => absurd c (by decide))
              refine lv_aload_n X.1 X.2.1 dX5_doTask_85 rfl (lv_at hl 4 rfl) ?_
              obtain ⟨M77, e76, hf⟩ := px_bq_e hf
              refine px_cV (As := []) (rest := []) X hml hl w (cC_Line_drop_16 l D cs ad e76) lk_5_222 (by decide) (rcC_16 X.2.2.2.2 w) rfl (Nat.le_of_ble_eq_true rfl) dX5_doTask_86 (fun H locs w => ?_)
              refine lv_iload X.1 X.2.1 dX5_doTask_89 (lv_at hl 1 rfl) ?_
              refine lv_if_eq (tgt := 102) X.1 X.2.1 dX5_doTask_91 (by decide) (fun c => absurd c (by decide)) (fun _ => ?_)
              refine lv_aload_n X.1 X.2.1 dX5_doTask_94 rfl (lv_at hl 6 rfl) ?_
              refine lv_iload_n X.1 X.2.1 dX5_doTask_95 rfl (lv_at hl 3 rfl) ?_
              obtain ⟨M79, e78, hf⟩ := px_bq_e hf
              refine px_cV (As := [.int r60]) (rest := []) X hml hl w (cC_doTimer l D cs ad e78) lk_5_268 (by decide) (rcC_0 X.2.2.2.2 w) rfl (Nat.le_of_ble_eq_true rfl) dX5_doTask_96 (fun H locs w => ?_)
              refine lv_goto (tgt := 114) X.1 X.2.1 dX5_doTask_99 (by decide) ?_
              refine lv_iconst (v := (1 : Int32)) X.1 X.2.1 dX5_doTask_114 (by decide) ?_
              cases hf
              exact px_retZ X hr hlk narrow_b1 w dX5_doTask_115
            · have hf := px_in c75 hf
              refine lv_iconst (v := (1 : Int32)) X.1 X.2.1 dX5_doTask_62 (by decide) ?_
              refine lv_goto (tgt := 67) X.1 X.2.1 dX5_doTask_63 (by decide) ?_
              refine lv_istore (lv' := [(6, .int (1 : Int32)), (5, .int (1 : Int32)), (4, .int r62), (3, .int r60), (2, .ref (ad 16)), (1, .int r2), (0, .ref (ad 0))]) X.1 X.2.1 dX5_doTask_67 hl (by decide) rfl (fun ls hl => ?_)
              refine lv_iload X.1 X.2.1 dX5_doTask_69 (lv_at hl 0 rfl) ?_
              refine lv_if_eq (tgt := 85) X.1 X.2.1 dX5_doTask_71 (by decide) (fun c => absurd c (by decide)) (fun _ => ?_)
              refine lv_aload_n X.1 X.2.1 dX5_doTask_74 rfl (lv_at hl 6 rfl) ?_
              refine gtC_0_12 X w dX5_doTask_75 ?_
              refine lv_bipush (v := (50 : Int32)) X.1 X.2.1 dX5_doTask_78 (by decide) ?_
              refine lv_icmp_lt (tgt := 85) X.1 X.2.1 dX5_doTask_80 (by decide) (fun c80 => ?_) (fun c80 => ?_)
              · have hf := px_ip c80 hf
                refine lv_aload_n X.1 X.2.1 dX5_doTask_85 rfl (lv_at hl 4 rfl) ?_
                obtain ⟨M82, e81, hf⟩ := px_bq_e hf
                refine px_cV (As := []) (rest := []) X hml hl w (cC_Line_drop_16 l D cs ad e81) lk_5_222 (by decide) (rcC_16 X.2.2.2.2 w) rfl (Nat.le_of_ble_eq_true rfl) dX5_doTask_86 (fun H locs w => ?_)
                refine lv_iload X.1 X.2.1 dX5_doTask_89 (lv_at hl 1 rfl) ?_
                refine lv_if_eq (tgt := 102) X.1 X.2.1 dX5_doTask_91 (by decide) (fun c => absurd c (by decide)) (fun _ => ?_)
                refine lv_aload_n X.1 X.2.1 dX5_doTask_94 rfl (lv_at hl 6 rfl) ?_
                refine lv_iload_n X.1 X.2.1 dX5_doTask_95 rfl (lv_at hl 3 rfl) ?_
                obtain ⟨M84, e83, hf⟩ := px_bq_e hf
                refine px_cV (As := [.int r60]) (rest := []) X hml hl w (cC_doTimer l D cs ad e83) lk_5_268 (by decide) (rcC_0 X.2.2.2.2 w) rfl (Nat.le_of_ble_eq_true rfl) dX5_doTask_96 (fun H locs w => ?_)
                refine lv_goto (tgt := 114) X.1 X.2.1 dX5_doTask_99 (by decide) ?_
                refine lv_iconst (v := (1 : Int32)) X.1 X.2.1 dX5_doTask_114 (by decide) ?_
                cases hf
                exact px_retZ X hr hlk narrow_b1 w dX5_doTask_115
              · have hf := px_in c80 hf
                refine lv_iconst (v := (0 : Int32)) X.1 X.2.1 dX5_doTask_83 (by decide) ?_
                cases hf
                exact px_retZ X hr hlk narrow_b0 w dX5_doTask_84
        · have hf := px_in c58 hf
          cases hf
  · have hf := px_ip c3 hf
    refine lv_iconst (v := (1 : Int32)) X.1 X.2.1 dX5_doTask_10 (by decide) ?_
    cases hf
    exact px_retZ X hr hlk narrow_b1 w dX5_doTask_11
def fC_doFrame (M : px_M) (p1 : Int32) : Option (Int32 × px_M) := (if (M 0 12) < (50 : Int32) then px_bq (fC_Line_subject_24 M) (fun r3 => px_bq (fC_Line_drop_24 M) (fun M5 => px_bq (fC_run M5 r3 (M5 0 10) (1 : Int32)) (fun M7 => px_bq (fC_reportFailure M7) (fun M9 => (if p1 = 0 then some ((1 : Int32), M9) else px_bn (px_up M9 0 11 (0 : Int32)) (fun M11 => some ((1 : Int32), M11))))))) else some ((0 : Int32), M))
set_option maxHeartbeats 4000000 in
set_option maxRecDepth 100000 in
theorem cC_doFrame (l : Launch) (D : va_G) (cs : Nat → ClassId) (ad : Nat → Nat) {M : px_M} {p1 : Int32} {r : Int32} {M' : px_M} (hf : fC_doFrame M p1 = some (r, M')) : px_mI l D (tyC cs) (wC cs ad) yX5_doFrame cX5_doFrame 3 (some .boolean) 28 [.ref (ad 0), .int p1] M r M' := by
  refine px_ofI (by decide +kernel) (Nat.le_of_ble_eq_true rfl) ?_
  intro p e s m below meth c A ls X hr hlk hml w hl
  have hl : lv_has ls 3 [(0, .ref (ad 0)), (1, .int p1)] := hl
  unfold fC_doFrame at hf
  refine lv_aload_n X.1 X.2.1 dX5_doFrame_0 rfl (lv_at hl 0 rfl) ?_
  refine gtC_0_12 X w dX5_doFrame_1 ?_
  refine lv_bipush (v := (50 : Int32)) X.1 X.2.1 dX5_doFrame_4 (by decide) ?_
  refine lv_icmp_lt (tgt := 11) X.1 X.2.1 dX5_doFrame_6 (by decide) (fun c1 => ?_) (fun c1 => ?_)
  · have hf := px_ip c1 hf
    refine lv_aload_n X.1 X.2.1 dX5_doFrame_11 rfl (lv_at hl 0 rfl) ?_
    refine gtC_0_4 X w dX5_doFrame_12 ?_
    obtain ⟨r3, e2, hf⟩ := px_bq_e hf
    refine px_cI (As := []) (rest := []) X hml hl w (cC_Line_subject_24 l D cs ad e2) lk_5_216 (by decide) (rcC_24 X.2.2.2.2 w) rfl (Nat.le_of_ble_eq_true rfl) dX5_doFrame_15 (fun H locs w => ?_)
    refine lv_istore_n (lv' := [(2, .int r3), (0, .ref (ad 0)), (1, .int p1)]) X.1 X.2.1 dX5_doFrame_18 rfl hl (by decide) rfl (fun ls hl => ?_)
    refine lv_aload_n X.1 X.2.1 dX5_doFrame_19 rfl (lv_at hl 1 rfl) ?_
    refine gtC_0_4 X w dX5_doFrame_20 ?_
    obtain ⟨M5, e4, hf⟩ := px_bq_e hf
    refine px_cV (As := []) (rest := []) X hml hl w (cC_Line_drop_24 l D cs ad e4) lk_5_222 (by decide) (rcC_24 X.2.2.2.2 w) rfl (Nat.le_of_ble_eq_true rfl) dX5_doFrame_23 (fun H locs w => ?_)
    refine lv_aload_n X.1 X.2.1 dX5_doFrame_26 rfl (lv_at hl 1 rfl) ?_
    refine lv_iload_n X.1 X.2.1 dX5_doFrame_27 rfl (lv_at hl 0 rfl) ?_
    refine lv_aload_n X.1 X.2.1 dX5_doFrame_28 rfl (lv_at hl 1 rfl) ?_
    refine gtC_0_10 X w dX5_doFrame_29 ?_
    refine lv_iconst (v := (1 : Int32)) X.1 X.2.1 dX5_doFrame_32 (by decide) ?_
    obtain ⟨M7, e6, hf⟩ := px_bq_e hf
    refine px_cV (As := [.int r3, .int (M5 0 10), .int (1 : Int32)]) (rest := []) X hml hl w (cC_run l D cs ad e6) lk_5_225 (by decide) (rcC_0 X.2.2.2.2 w) rfl (Nat.le_of_ble_eq_true rfl) dX5_doFrame_33 (fun H locs w => ?_)
    refine lv_aload_n X.1 X.2.1 dX5_doFrame_36 rfl (lv_at hl 1 rfl) ?_
    obtain ⟨M9, e8, hf⟩ := px_bq_e hf
    refine px_cV (As := []) (rest := []) X hml hl w (cC_reportFailure l D cs ad e8) lk_5_228 (by decide) (rcC_0 X.2.2.2.2 w) rfl (Nat.le_of_ble_eq_true rfl) dX5_doFrame_37 (fun H locs w => ?_)
    refine lv_iload_n X.1 X.2.1 dX5_doFrame_40 rfl (lv_at hl 2 rfl) ?_
    refine lv_if_eq (tgt := 49) X.1 X.2.1 dX5_doFrame_41 (by decide) (fun c10 => ?_) (fun c10 => ?_)
    · have hf := px_ip c10 hf
      refine lv_iconst (v := (1 : Int32)) X.1 X.2.1 dX5_doFrame_49 (by decide) ?_
      cases hf
      exact px_retZ X hr hlk narrow_b1 w dX5_doFrame_50
    · have hf := px_in c10 hf
      refine lv_aload_n X.1 X.2.1 dX5_doFrame_44 rfl (lv_at hl 1 rfl) ?_
      refine lv_iconst (v := (0 : Int32)) X.1 X.2.1 dX5_doFrame_45 (by decide) ?_
      refine ptC_0_11 X w rfl dX5_doFrame_46 (fun H locs w => ?_)
      obtain ⟨M11, eM11, hf⟩ := px_bn_e hf
      rw [← eM11] at w
      refine lv_iconst (v := (1 : Int32)) X.1 X.2.1 dX5_doFrame_49 (by decide) ?_
      cases hf
      exact px_retZ X hr hlk narrow_b1 w dX5_doFrame_50
  · have hf := px_in c1 hf
    refine lv_iconst (v := (0 : Int32)) X.1 X.2.1 dX5_doFrame_9 (by decide) ?_
    cases hf
    exact px_retZ X hr hlk narrow_b0 w dX5_doFrame_10
theorem lk_5_141 : px_Lk RX5 141 yX5_checkpoint cX5_checkpoint 5 (some .boolean) 0 := ⟨px_tb (by decide +kernel) (by decide +kernel), px_tb (by decide +kernel) (by decide +kernel), px_tb (by decide +kernel) (by decide +kernel), px_tb (by decide +kernel) (by decide +kernel), px_tb (by decide +kernel) (by decide +kernel), by decide +kernel, by decide⟩
theorem lk_5_151 : px_Lk RX5 151 yX5_doFrame cX5_doFrame 3 (some .boolean) 1 := ⟨px_tb (by decide +kernel) (by decide +kernel), px_tb (by decide +kernel) (by decide +kernel), px_tb (by decide +kernel) (by decide +kernel), px_tb (by decide +kernel) (by decide +kernel), px_tb (by decide +kernel) (by decide +kernel), by decide +kernel, by decide⟩
theorem lk_5_145 : px_Lk RX5 145 yX5_doTask cX5_doTask 7 (some .boolean) 0 := ⟨px_tb (by decide +kernel) (by decide +kernel), px_tb (by decide +kernel) (by decide +kernel), px_tb (by decide +kernel) (by decide +kernel), px_tb (by decide +kernel) (by decide +kernel), px_tb (by decide +kernel) (by decide +kernel), by decide +kernel, by decide⟩
def gC_turn_L70 (rc70 : px_M → Int32 → Int32 → Option (Int32 × px_M)) (M : px_M) (y1 y3 : Int32) : Option (Int32 × px_M) := (if y1 = 0 then some ((M 0 12), M) else (if y3 ≤ 0 then some ((M 0 12), M) else (if y3 = (1 : Int32) then px_bo (fC_doFrame M (1 : Int32)) (fun r18 M19 => (if r18 = 0 then rc70 M19 (0 : Int32) (y3 + (-1 : Int32)) else px_bo (fC_checkpoint M19) (fun r22 M23 => (if r22 = 0 then rc70 M23 (0 : Int32) (y3 + (-1 : Int32)) else rc70 M23 (1 : Int32) (y3 + (-1 : Int32)))))) else px_bo (fC_doFrame M (0 : Int32)) (fun r10 M11 => (if r10 = 0 then rc70 M11 (0 : Int32) (y3 + (-1 : Int32)) else px_bo (fC_checkpoint M11) (fun r14 M15 => (if r14 = 0 then rc70 M15 (0 : Int32) (y3 + (-1 : Int32)) else rc70 M15 (1 : Int32) (y3 + (-1 : Int32)))))))))
set_option maxHeartbeats 4000000 in
set_option maxRecDepth 100000 in
theorem lC_turn_L70 {l : Launch} {D : va_G} {cs : Nat → ClassId} {ad : Nat → Nat} {p : Program} {e : Env} {s : State} {m : MethodId} {args : Array Value} {below : List Frame} {meth : Method} {c : Code} {A : Nat → Prop} (X : px_X D (tyC cs) p s m args c cX5_turn yX5_turn.cls) (hr : meth.sig.returnType = (some .int)) (hlk : meth.locks = false) (hml : c.maxLocals = 4) : ∀ (j : Nat) (M : px_M) (y1 y3 : Int32) (z : Int32 × px_M), px_fx2 gC_turn_L70 j M y1 y3 = some z → ∀ (H : Heap) (locs : List Loc) (ls : Array Slot), px_H D (wC cs ad) A s.heap M H locs → lv_has ls 4 [(0, .ref (ad 0)), (1, .int y1), (3, .int y3)] → W p l e (px_rm 30) s m args below meth c H locs 0 0 (px_QI D (tyC cs) (wC cs ad) below args s A z.1 z.2) (F0 m 70 ls []) := by
  refine px_fx2_i (P := fun M y1 y3 (z : Int32 × px_M) => ∀ (H : Heap) (locs : List Loc) (ls : Array Slot), px_H D (wC cs ad) A s.heap M H locs → lv_has ls 4 [(0, .ref (ad 0)), (1, .int y1), (3, .int y3)] → W p l e (px_rm 30) s m args below meth c H locs 0 0 (px_QI D (tyC cs) (wC cs ad) below args s A z.1 z.2) (F0 m 70 ls [])) ?_
  intro rc70 ih70 M y1 y3 z hf H locs ls w hl
  unfold gC_turn_L70 at hf
  refine lv_iload_n X.1 X.2.1 dX5_turn_70 rfl (lv_at hl 1 rfl) ?_
  refine lv_if_eq (tgt := 114) X.1 X.2.1 dX5_turn_71 (by decide) (fun c6 => ?_) (fun c6 => ?_)
  · have hf := px_ip c6 hf
    refine lv_aload_n X.1 X.2.1 dX5_turn_114 rfl (lv_at hl 0 rfl) ?_
    refine gtC_0_12 X w dX5_turn_115 ?_
    cases hf
    exact px_retI X hr hlk w dX5_turn_118
  · have hf := px_in c6 hf
    refine lv_iload_n X.1 X.2.1 dX5_turn_74 rfl (lv_at hl 2 rfl) ?_
    refine lv_if_le (tgt := 114) X.1 X.2.1 dX5_turn_75 (by decide) (fun c7 => ?_) (fun c7 => ?_)
    · have hf := px_ip c7 hf
      refine lv_aload_n X.1 X.2.1 dX5_turn_114 rfl (lv_at hl 0 rfl) ?_
      refine gtC_0_12 X w dX5_turn_115 ?_
      cases hf
      exact px_retI X hr hlk w dX5_turn_118
    · have hf := px_in c7 hf
      refine lv_aload_n X.1 X.2.1 dX5_turn_78 rfl (lv_at hl 0 rfl) ?_
      refine lv_iload_n X.1 X.2.1 dX5_turn_79 rfl (lv_at hl 2 rfl) ?_
      refine lv_iconst (v := (1 : Int32)) X.1 X.2.1 dX5_turn_80 (by decide) ?_
      refine lv_icmp_ne (tgt := 88) X.1 X.2.1 dX5_turn_81 (by decide) (fun c8 => ?_) (fun c8 => ?_)
      · have hf := px_in c8 hf
        refine lv_iconst (v := (0 : Int32)) X.1 X.2.1 dX5_turn_88 (by decide) ?_
        obtain ⟨r10, M11, e9, hf⟩ := px_bo_e hf
        refine px_cI (As := [.int (0 : Int32)]) (rest := []) X hml hl w (cC_doFrame l D cs ad e9) lk_5_151 (by decide) (rcC_0 X.2.2.2.2 w) rfl (Nat.le_of_ble_eq_true rfl) dX5_turn_89 (fun H locs w => ?_)
        refine lv_if_eq (tgt := 106) X.1 X.2.1 dX5_turn_92 (by decide) (fun c12 => ?_) (fun c12 => ?_)
        · have hf := px_ip c12 hf
          refine lv_iconst (v := (0 : Int32)) X.1 X.2.1 dX5_turn_106 (by decide) ?_
          refine lv_istore_n (lv' := [(1, .int (0 : Int32)), (0, .ref (ad 0)), (3, .int y3)]) X.1 X.2.1 dX5_turn_107 rfl hl (by decide) rfl (fun ls hl => ?_)
          refine lv_iinc (v := (y3 + (-1 : Int32))) (lv' := [(3, .int (y3 + (-1 : Int32))), (1, .int (0 : Int32)), (0, .ref (ad 0))]) X.1 X.2.1 dX5_turn_108 hl (k := 2) rfl rfl (by decide) rfl (fun ls hl => ?_)
          refine lv_goto (tgt := 70) X.1 X.2.1 dX5_turn_111 (by decide) ?_
          exact ih70 M11 (0 : Int32) (y3 + (-1 : Int32)) _ hf _ _ ls w (lv_sub hl [2, 1, 0] rfl)
        · have hf := px_in c12 hf
          refine lv_aload_n X.1 X.2.1 dX5_turn_95 rfl (lv_at hl 0 rfl) ?_
          obtain ⟨r14, M15, e13, hf⟩ := px_bo_e hf
          refine px_cI (As := []) (rest := []) X hml hl w (cC_checkpoint l D cs ad e13) lk_5_141 (by decide) (rcC_0 X.2.2.2.2 w) rfl (Nat.le_of_ble_eq_true rfl) dX5_turn_96 (fun H locs w => ?_)
          refine lv_if_eq (tgt := 106) X.1 X.2.1 dX5_turn_99 (by decide) (fun c16 => ?_) (fun c16 => ?_)
          · have hf := px_ip c16 hf
            refine lv_iconst (v := (0 : Int32)) X.1 X.2.1 dX5_turn_106 (by decide) ?_
            refine lv_istore_n (lv' := [(1, .int (0 : Int32)), (0, .ref (ad 0)), (3, .int y3)]) X.1 X.2.1 dX5_turn_107 rfl hl (by decide) rfl (fun ls hl => ?_)
            refine lv_iinc (v := (y3 + (-1 : Int32))) (lv' := [(3, .int (y3 + (-1 : Int32))), (1, .int (0 : Int32)), (0, .ref (ad 0))]) X.1 X.2.1 dX5_turn_108 hl (k := 2) rfl rfl (by decide) rfl (fun ls hl => ?_)
            refine lv_goto (tgt := 70) X.1 X.2.1 dX5_turn_111 (by decide) ?_
            exact ih70 M15 (0 : Int32) (y3 + (-1 : Int32)) _ hf _ _ ls w (lv_sub hl [2, 1, 0] rfl)
          · have hf := px_in c16 hf
            refine lv_iconst (v := (1 : Int32)) X.1 X.2.1 dX5_turn_102 (by decide) ?_
            refine lv_goto (tgt := 107) X.1 X.2.1 dX5_turn_103 (by decide) ?_
            refine lv_istore_n (lv' := [(1, .int (1 : Int32)), (0, .ref (ad 0)), (3, .int y3)]) X.1 X.2.1 dX5_turn_107 rfl hl (by decide) rfl (fun ls hl => ?_)
            refine lv_iinc (v := (y3 + (-1 : Int32))) (lv' := [(3, .int (y3 + (-1 : Int32))), (1, .int (1 : Int32)), (0, .ref (ad 0))]) X.1 X.2.1 dX5_turn_108 hl (k := 2) rfl rfl (by decide) rfl (fun ls hl => ?_)
            refine lv_goto (tgt := 70) X.1 X.2.1 dX5_turn_111 (by decide) ?_
            exact ih70 M15 (1 : Int32) (y3 + (-1 : Int32)) _ hf _ _ ls w (lv_sub hl [2, 1, 0] rfl)
      · have hf := px_ip c8 hf
        refine lv_iconst (v := (1 : Int32)) X.1 X.2.1 dX5_turn_84 (by decide) ?_
        refine lv_goto (tgt := 89) X.1 X.2.1 dX5_turn_85 (by decide) ?_
        obtain ⟨r18, M19, e17, hf⟩ := px_bo_e hf
        refine px_cI (As := [.int (1 : Int32)]) (rest := []) X hml hl w (cC_doFrame l D cs ad e17) lk_5_151 (by decide) (rcC_0 X.2.2.2.2 w) rfl (Nat.le_of_ble_eq_true rfl) dX5_turn_89 (fun H locs w => ?_)
        refine lv_if_eq (tgt := 106) X.1 X.2.1 dX5_turn_92 (by decide) (fun c20 => ?_) (fun c20 => ?_)
        · have hf := px_ip c20 hf
          refine lv_iconst (v := (0 : Int32)) X.1 X.2.1 dX5_turn_106 (by decide) ?_
          refine lv_istore_n (lv' := [(1, .int (0 : Int32)), (0, .ref (ad 0)), (3, .int y3)]) X.1 X.2.1 dX5_turn_107 rfl hl (by decide) rfl (fun ls hl => ?_)
          refine lv_iinc (v := (y3 + (-1 : Int32))) (lv' := [(3, .int (y3 + (-1 : Int32))), (1, .int (0 : Int32)), (0, .ref (ad 0))]) X.1 X.2.1 dX5_turn_108 hl (k := 2) rfl rfl (by decide) rfl (fun ls hl => ?_)
          refine lv_goto (tgt := 70) X.1 X.2.1 dX5_turn_111 (by decide) ?_
          exact ih70 M19 (0 : Int32) (y3 + (-1 : Int32)) _ hf _ _ ls w (lv_sub hl [2, 1, 0] rfl)
        · have hf := px_in c20 hf
          refine lv_aload_n X.1 X.2.1 dX5_turn_95 rfl (lv_at hl 0 rfl) ?_
          obtain ⟨r22, M23, e21, hf⟩ := px_bo_e hf
          refine px_cI (As := []) (rest := []) X hml hl w (cC_checkpoint l D cs ad e21) lk_5_141 (by decide) (rcC_0 X.2.2.2.2 w) rfl (Nat.le_of_ble_eq_true rfl) dX5_turn_96 (fun H locs w => ?_)
          refine lv_if_eq (tgt := 106) X.1 X.2.1 dX5_turn_99 (by decide) (fun c24 => ?_) (fun c24 => ?_)
          · have hf := px_ip c24 hf
            refine lv_iconst (v := (0 : Int32)) X.1 X.2.1 dX5_turn_106 (by decide) ?_
            refine lv_istore_n (lv' := [(1, .int (0 : Int32)), (0, .ref (ad 0)), (3, .int y3)]) X.1 X.2.1 dX5_turn_107 rfl hl (by decide) rfl (fun ls hl => ?_)
            refine lv_iinc (v := (y3 + (-1 : Int32))) (lv' := [(3, .int (y3 + (-1 : Int32))), (1, .int (0 : Int32)), (0, .ref (ad 0))]) X.1 X.2.1 dX5_turn_108 hl (k := 2) rfl rfl (by decide) rfl (fun ls hl => ?_)
            refine lv_goto (tgt := 70) X.1 X.2.1 dX5_turn_111 (by decide) ?_
            exact ih70 M23 (0 : Int32) (y3 + (-1 : Int32)) _ hf _ _ ls w (lv_sub hl [2, 1, 0] rfl)
          · have hf := px_in c24 hf
            refine lv_iconst (v := (1 : Int32)) X.1 X.2.1 dX5_turn_102 (by decide) ?_
            refine lv_goto (tgt := 107) X.1 X.2.1 dX5_turn_103 (by decide) ?_
            refine lv_istore_n (lv' := [(1, .int (1 : Int32)), (0, .ref (ad 0)), (3, .int y3)]) X.1 X.2.1 dX5_turn_107 rfl hl (by decide) rfl (fun ls hl => ?_)
            refine lv_iinc (v := (y3 + (-1 : Int32))) (lv' := [(3, .int (y3 + (-1 : Int32))), (1, .int (1 : Int32)), (0, .ref (ad 0))]) X.1 X.2.1 dX5_turn_108 hl (k := 2) rfl rfl (by decide) rfl (fun ls hl => ?_)
            refine lv_goto (tgt := 70) X.1 X.2.1 dX5_turn_111 (by decide) ?_
            exact ih70 M23 (1 : Int32) (y3 + (-1 : Int32)) _ hf _ _ ls w (lv_sub hl [2, 1, 0] rfl)
def fC_turn (M : px_M) : Option (Int32 × px_M) := px_bn (px_up M 0 12 (0 : Int32)) (fun M1 => px_bo (fC_checkpoint M1) (fun r3 M4 => (if r3 = 0 then px_fx2 gC_turn_L70 9 M4 (0 : Int32) (0 : Int32) else px_bo (fC_doTask M4) (fun r26 M27 => (if r26 = 0 then px_fx2 gC_turn_L70 9 M27 (0 : Int32) (0 : Int32) else px_bo (fC_checkpoint M27) (fun r30 M31 => (if r30 = 0 then px_fx2 gC_turn_L70 9 M31 (0 : Int32) (0 : Int32) else (if (M31 0 11) = 0 then px_bn (px_up M31 0 11 (0 : Int32)) (fun M34 => px_fx2 gC_turn_L70 9 M34 (1 : Int32) (0 : Int32)) else px_bq (fC_Line_size_24 M31) (fun r36 => (if r36 = 0 then px_bn (px_up M31 0 11 (0 : Int32)) (fun M38 => px_fx2 gC_turn_L70 9 M38 (1 : Int32) r36) else px_fx2 gC_turn_L70 9 M31 (1 : Int32) r36))))))))))
set_option maxHeartbeats 4000000 in
set_option maxRecDepth 100000 in
theorem cC_turn (l : Launch) (D : va_G) (cs : Nat → ClassId) (ad : Nat → Nat) {M : px_M} {r : Int32} {M' : px_M} (hf : fC_turn M = some (r, M')) : px_mI l D (tyC cs) (wC cs ad) yX5_turn cX5_turn 4 (some .int) 30 [.ref (ad 0)] M r M' := by
  refine px_ofI (by decide +kernel) (Nat.le_of_ble_eq_true rfl) ?_
  intro p e s m below meth c A ls X hr hlk hml w hl
  have hl : lv_has ls 4 [(0, .ref (ad 0))] := hl
  unfold fC_turn at hf
  refine lv_aload_n X.1 X.2.1 dX5_turn_0 rfl (lv_at hl 0 rfl) ?_
  refine lv_iconst (v := (0 : Int32)) X.1 X.2.1 dX5_turn_1 (by decide) ?_
  refine ptC_0_12 X w dX5_turn_2 (fun H locs w => ?_)
  obtain ⟨M1, eM1, hf⟩ := px_bn_e hf
  rw [← eM1] at w
  refine lv_aload_n X.1 X.2.1 dX5_turn_5 rfl (lv_at hl 0 rfl) ?_
  obtain ⟨r3, M4, e2, hf⟩ := px_bo_e hf
  refine px_cI (As := []) (rest := []) X hml hl w (cC_checkpoint l D cs ad e2) lk_5_141 (by decide) (rcC_0 X.2.2.2.2 w) rfl (Nat.le_of_ble_eq_true rfl) dX5_turn_6 (fun H locs w => ?_)
  refine lv_if_eq (tgt := 30) X.1 X.2.1 dX5_turn_9 (by decide) (fun c5 => ?_) (fun c5 => ?_)
  · have hf := px_ip c5 hf
    refine lv_iconst (v := (0 : Int32)) X.1 X.2.1 dX5_turn_30 (by decide) ?_
    refine lv_istore_n (lv' := [(1, .int (0 : Int32)), (0, .ref (ad 0))]) X.1 X.2.1 dX5_turn_31 rfl hl (by decide) rfl (fun ls hl => ?_)
    refine lv_iload_n X.1 X.2.1 dX5_turn_32 rfl (lv_at hl 0 rfl) ?_
    refine lv_if_eq (tgt := 53) X.1 X.2.1 dX5_turn_33 (by decide) (fun _ => ?_) (fun c => absurd c (by decide))
    refine lv_iconst (v := (0 : Int32)) X.1 X.2.1 dX5_turn_53 (by decide) ?_
    refine lv_istore_n (lv' := [(2, .int (0 : Int32)), (1, .int (0 : Int32)), (0, .ref (ad 0))]) X.1 X.2.1 dX5_turn_54 rfl hl (by decide) rfl (fun ls hl => ?_)
    refine lv_iload_n X.1 X.2.1 dX5_turn_55 rfl (lv_at hl 1 rfl) ?_
    refine lv_if_eq (tgt := 68) X.1 X.2.1 dX5_turn_56 (by decide) (fun _ => ?_) (fun c => absurd c (by decide))
    refine lv_iload_n X.1 X.2.1 dX5_turn_68 rfl (lv_at hl 0 rfl) ?_
    refine lv_istore_n (lv' := [(3, .int (0 : Int32)), (2, .int (0 : Int32)), (1, .int (0 : Int32)), (0, .ref (ad 0))]) X.1 X.2.1 dX5_turn_69 rfl hl (by decide) rfl (fun ls hl => ?_)
    exact lC_turn_L70 X hr hlk hml 9 M4 (0 : Int32) (0 : Int32) _ hf _ _ ls w (lv_sub hl [3, 2, 0] rfl)
  · have hf := px_in c5 hf
    refine lv_aload_n X.1 X.2.1 dX5_turn_12 rfl (lv_at hl 0 rfl) ?_
    obtain ⟨r26, M27, e25, hf⟩ := px_bo_e hf
    refine px_cI (As := []) (rest := []) X hml hl w (cC_doTask l D cs ad e25) lk_5_145 (by decide) (rcC_0 X.2.2.2.2 w) rfl (Nat.le_of_ble_eq_true rfl) dX5_turn_13 (fun H locs w => ?_)
    refine lv_if_eq (tgt := 30) X.1 X.2.1 dX5_turn_16 (by decide) (fun c28 => ?_) (fun c28 => ?_)
    · have hf := px_ip c28 hf
      refine lv_iconst (v := (0 : Int32)) X.1 X.2.1 dX5_turn_30 (by decide) ?_
      refine lv_istore_n (lv' := [(1, .int (0 : Int32)), (0, .ref (ad 0))]) X.1 X.2.1 dX5_turn_31 rfl hl (by decide) rfl (fun ls hl => ?_)
      refine lv_iload_n X.1 X.2.1 dX5_turn_32 rfl (lv_at hl 0 rfl) ?_
      refine lv_if_eq (tgt := 53) X.1 X.2.1 dX5_turn_33 (by decide) (fun _ => ?_) (fun c => absurd c (by decide))
      refine lv_iconst (v := (0 : Int32)) X.1 X.2.1 dX5_turn_53 (by decide) ?_
      refine lv_istore_n (lv' := [(2, .int (0 : Int32)), (1, .int (0 : Int32)), (0, .ref (ad 0))]) X.1 X.2.1 dX5_turn_54 rfl hl (by decide) rfl (fun ls hl => ?_)
      refine lv_iload_n X.1 X.2.1 dX5_turn_55 rfl (lv_at hl 1 rfl) ?_
      refine lv_if_eq (tgt := 68) X.1 X.2.1 dX5_turn_56 (by decide) (fun _ => ?_) (fun c => absurd c (by decide))
      refine lv_iload_n X.1 X.2.1 dX5_turn_68 rfl (lv_at hl 0 rfl) ?_
      refine lv_istore_n (lv' := [(3, .int (0 : Int32)), (2, .int (0 : Int32)), (1, .int (0 : Int32)), (0, .ref (ad 0))]) X.1 X.2.1 dX5_turn_69 rfl hl (by decide) rfl (fun ls hl => ?_)
      exact lC_turn_L70 X hr hlk hml 9 M27 (0 : Int32) (0 : Int32) _ hf _ _ ls w (lv_sub hl [3, 2, 0] rfl)
    · have hf := px_in c28 hf
      refine lv_aload_n X.1 X.2.1 dX5_turn_19 rfl (lv_at hl 0 rfl) ?_
      obtain ⟨r30, M31, e29, hf⟩ := px_bo_e hf
      refine px_cI (As := []) (rest := []) X hml hl w (cC_checkpoint l D cs ad e29) lk_5_141 (by decide) (rcC_0 X.2.2.2.2 w) rfl (Nat.le_of_ble_eq_true rfl) dX5_turn_20 (fun H locs w => ?_)
      refine lv_if_eq (tgt := 30) X.1 X.2.1 dX5_turn_23 (by decide) (fun c32 => ?_) (fun c32 => ?_)
      · have hf := px_ip c32 hf
        refine lv_iconst (v := (0 : Int32)) X.1 X.2.1 dX5_turn_30 (by decide) ?_
        refine lv_istore_n (lv' := [(1, .int (0 : Int32)), (0, .ref (ad 0))]) X.1 X.2.1 dX5_turn_31 rfl hl (by decide) rfl (fun ls hl => ?_)
        refine lv_iload_n X.1 X.2.1 dX5_turn_32 rfl (lv_at hl 0 rfl) ?_
        refine lv_if_eq (tgt := 53) X.1 X.2.1 dX5_turn_33 (by decide) (fun _ => ?_) (fun c => absurd c (by decide))
        refine lv_iconst (v := (0 : Int32)) X.1 X.2.1 dX5_turn_53 (by decide) ?_
        refine lv_istore_n (lv' := [(2, .int (0 : Int32)), (1, .int (0 : Int32)), (0, .ref (ad 0))]) X.1 X.2.1 dX5_turn_54 rfl hl (by decide) rfl (fun ls hl => ?_)
        refine lv_iload_n X.1 X.2.1 dX5_turn_55 rfl (lv_at hl 1 rfl) ?_
        refine lv_if_eq (tgt := 68) X.1 X.2.1 dX5_turn_56 (by decide) (fun _ => ?_) (fun c => absurd c (by decide))
        refine lv_iload_n X.1 X.2.1 dX5_turn_68 rfl (lv_at hl 0 rfl) ?_
        refine lv_istore_n (lv' := [(3, .int (0 : Int32)), (2, .int (0 : Int32)), (1, .int (0 : Int32)), (0, .ref (ad 0))]) X.1 X.2.1 dX5_turn_69 rfl hl (by decide) rfl (fun ls hl => ?_)
        exact lC_turn_L70 X hr hlk hml 9 M31 (0 : Int32) (0 : Int32) _ hf _ _ ls w (lv_sub hl [3, 2, 0] rfl)
      · have hf := px_in c32 hf
        refine lv_iconst (v := (1 : Int32)) X.1 X.2.1 dX5_turn_26 (by decide) ?_
        refine lv_goto (tgt := 31) X.1 X.2.1 dX5_turn_27 (by decide) ?_
        refine lv_istore_n (lv' := [(1, .int (1 : Int32)), (0, .ref (ad 0))]) X.1 X.2.1 dX5_turn_31 rfl hl (by decide) rfl (fun ls hl => ?_)
        refine lv_iload_n X.1 X.2.1 dX5_turn_32 rfl (lv_at hl 0 rfl) ?_
        refine lv_if_eq (tgt := 53) X.1 X.2.1 dX5_turn_33 (by decide) (fun c => absurd c (by decide)) (fun _ => ?_)
        refine lv_aload_n X.1 X.2.1 dX5_turn_36 rfl (lv_at hl 1 rfl) ?_
        refine gtC_0_11 X w dX5_turn_37 ?_
        refine lv_if_eq (tgt := 53) X.1 X.2.1 dX5_turn_40 (by decide) (fun c33 => ?_) (fun c33 => ?_)
        · have hf := px_ip c33 hf
          refine lv_iconst (v := (0 : Int32)) X.1 X.2.1 dX5_turn_53 (by decide) ?_
          refine lv_istore_n (lv' := [(2, .int (0 : Int32)), (1, .int (1 : Int32)), (0, .ref (ad 0))]) X.1 X.2.1 dX5_turn_54 rfl hl (by decide) rfl (fun ls hl => ?_)
          refine lv_iload_n X.1 X.2.1 dX5_turn_55 rfl (lv_at hl 1 rfl) ?_
          refine lv_if_eq (tgt := 68) X.1 X.2.1 dX5_turn_56 (by decide) (fun c => absurd c (by decide)) (fun _ => ?_)
          refine lv_iload_n X.1 X.2.1 dX5_turn_59 rfl (lv_at hl 0 rfl) ?_
          refine lv_if_ne (tgt := 68) X.1 X.2.1 dX5_turn_60 (by decide) (fun c => absurd c (by decide)) (fun _ => ?_)
          refine lv_aload_n X.1 X.2.1 dX5_turn_63 rfl (lv_at hl 2 rfl) ?_
          refine lv_iconst (v := (0 : Int32)) X.1 X.2.1 dX5_turn_64 (by decide) ?_
          refine ptC_0_11 X w rfl dX5_turn_65 (fun H locs w => ?_)
          obtain ⟨M34, eM34, hf⟩ := px_bn_e hf
          rw [← eM34] at w
          refine lv_iload_n X.1 X.2.1 dX5_turn_68 rfl (lv_at hl 0 rfl) ?_
          refine lv_istore_n (lv' := [(3, .int (0 : Int32)), (2, .int (0 : Int32)), (1, .int (1 : Int32)), (0, .ref (ad 0))]) X.1 X.2.1 dX5_turn_69 rfl hl (by decide) rfl (fun ls hl => ?_)
          exact lC_turn_L70 X hr hlk hml 9 M34 (1 : Int32) (0 : Int32) _ hf _ _ ls w (lv_sub hl [3, 2, 0] rfl)
        · have hf := px_in c33 hf
          refine lv_aload_n X.1 X.2.1 dX5_turn_43 rfl (lv_at hl 1 rfl) ?_
          refine gtC_0_4 X w dX5_turn_44 ?_
          obtain ⟨r36, e35, hf⟩ := px_bq_e hf
          refine px_cI (As := []) (rest := []) X hml hl w (cC_Line_size_24 l D cs ad e35) lk_5_148 (by decide) (rcC_24 X.2.2.2.2 w) rfl (Nat.le_of_ble_eq_true rfl) dX5_turn_47 (fun H locs w => ?_)
          refine lv_goto (tgt := 54) X.1 X.2.1 dX5_turn_50 (by decide) ?_
          refine lv_istore_n (lv' := [(2, .int r36), (1, .int (1 : Int32)), (0, .ref (ad 0))]) X.1 X.2.1 dX5_turn_54 rfl hl (by decide) rfl (fun ls hl => ?_)
          refine lv_iload_n X.1 X.2.1 dX5_turn_55 rfl (lv_at hl 1 rfl) ?_
          refine lv_if_eq (tgt := 68) X.1 X.2.1 dX5_turn_56 (by decide) (fun c => absurd c (by decide)) (fun _ => ?_)
          refine lv_iload_n X.1 X.2.1 dX5_turn_59 rfl (lv_at hl 0 rfl) ?_
          refine lv_if_ne (tgt := 68) X.1 X.2.1 dX5_turn_60 (by decide) (fun c37 => ?_) (fun c37 => ?_)
          · have hf := px_in c37 hf
            refine lv_iload_n X.1 X.2.1 dX5_turn_68 rfl (lv_at hl 0 rfl) ?_
            refine lv_istore_n (lv' := [(3, .int r36), (2, .int r36), (1, .int (1 : Int32)), (0, .ref (ad 0))]) X.1 X.2.1 dX5_turn_69 rfl hl (by decide) rfl (fun ls hl => ?_)
            exact lC_turn_L70 X hr hlk hml 9 M31 (1 : Int32) r36 _ hf _ _ ls w (lv_sub hl [3, 2, 0] rfl)
          · have hf := px_ip c37 hf
            refine lv_aload_n X.1 X.2.1 dX5_turn_63 rfl (lv_at hl 2 rfl) ?_
            refine lv_iconst (v := (0 : Int32)) X.1 X.2.1 dX5_turn_64 (by decide) ?_
            refine ptC_0_11 X w rfl dX5_turn_65 (fun H locs w => ?_)
            obtain ⟨M38, eM38, hf⟩ := px_bn_e hf
            rw [← eM38] at w
            refine lv_iload_n X.1 X.2.1 dX5_turn_68 rfl (lv_at hl 0 rfl) ?_
            refine lv_istore_n (lv' := [(3, .int r36), (2, .int r36), (1, .int (1 : Int32)), (0, .ref (ad 0))]) X.1 X.2.1 dX5_turn_69 rfl hl (by decide) rfl (fun ls hl => ?_)
            exact lC_turn_L70 X hr hlk hml 9 M38 (1 : Int32) r36 _ hf _ _ ls w (lv_sub hl [3, 2, 0] rfl)
theorem lk_5_201 : px_Lk RX5 201 yX4_dueOf cX4_dueOf 3 (some .int) 1 := ⟨px_tb (by decide +kernel) (by decide +kernel), px_tb (by decide +kernel) (by decide +kernel), px_tb (by decide +kernel) (by decide +kernel), px_tb (by decide +kernel) (by decide +kernel), px_tb (by decide +kernel) (by decide +kernel), by decide +kernel, by decide⟩
def fC_due (M : px_M) (p1 : Int32) : Option Int32 := px_bq (fC_Timers_dueOf M p1) (fun r2 => some r2)
set_option maxHeartbeats 4000000 in
set_option maxRecDepth 100000 in
theorem cC_due (l : Launch) (D : va_G) (cs : Nat → ClassId) (ad : Nat → Nat) {M : px_M} {p1 : Int32} {r : Int32} (hf : fC_due M p1 = some r) : px_mI l D (tyC cs) (wC cs ad) yX5_due cX5_due 2 (some .int) 2 [.ref (ad 0), .int p1] M r M := by
  refine px_ofI (by decide +kernel) (Nat.le_of_ble_eq_true rfl) ?_
  intro p e s m below meth c A ls X hr hlk hml w hl
  have hl : lv_has ls 2 [(0, .ref (ad 0)), (1, .int p1)] := hl
  unfold fC_due at hf
  refine lv_aload_n X.1 X.2.1 dX5_due_0 rfl (lv_at hl 0 rfl) ?_
  refine gtC_0_8 X w dX5_due_1 ?_
  refine lv_iload_n X.1 X.2.1 dX5_due_4 rfl (lv_at hl 1 rfl) ?_
  obtain ⟨r2, e1, hf⟩ := px_bq_e hf
  refine px_cI (As := [.int p1]) (rest := []) X hml hl w (cC_Timers_dueOf l D cs ad e1) lk_5_201 (by decide) (rcC_43 X.2.2.2.2 w) rfl (Nat.le_of_ble_eq_true rfl) dX5_due_5 (fun H locs w => ?_)
  cases hf
  exact px_retI X hr hlk w dX5_due_8
def fC_time (M : px_M) : Option Int32 := some (M 0 10)
set_option maxHeartbeats 4000000 in
set_option maxRecDepth 100000 in
theorem cC_time (l : Launch) (D : va_G) (cs : Nat → ClassId) (ad : Nat → Nat) {M : px_M} {r : Int32} (hf : fC_time M = some r) : px_mI l D (tyC cs) (wC cs ad) yX5_time cX5_time 1 (some .int) 0 [.ref (ad 0)] M r M := by
  refine px_ofI (by decide +kernel) (Nat.le_of_ble_eq_true rfl) ?_
  intro p e s m below meth c A ls X hr hlk hml w hl
  have hl : lv_has ls 1 [(0, .ref (ad 0))] := hl
  unfold fC_time at hf
  refine lv_aload_n X.1 X.2.1 dX5_time_0 rfl (lv_at hl 0 rfl) ?_
  refine gtC_0_10 X w dX5_time_1 ?_
  cases hf
  exact px_retI X hr hlk w dX5_time_4
