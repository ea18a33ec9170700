theorem lk_5_95 : px_Ls RX5 95 yX5_isKnown cX5_isKnown 3 (some .boolean) 3 := ⟨px_tb (by decide +kernel) (by decide +kernel), px_tb (by decide +kernel) (by decide +kernel), px_tb (by decide +kernel) (by decide +kernel), px_tb (by decide +kernel) (by decide +kernel), by decide +kernel, by decide⟩
theorem lk_5_115 : px_Lk RX5 115 yX0_add cX0_add 6 none 4 := ⟨px_tb (by decide +kernel) (by decide +kernel), px_tb (by decide +kernel) (by decide +kernel), px_tb (by decide +kernel) (by decide +kernel), px_tb (by decide +kernel) (by decide +kernel), px_tb (by decide +kernel) (by decide +kernel), by decide +kernel, by decide⟩
def fC_step (M : px_M) (p1 p2 p3 p4 : Int32) : Option px_Z := px_bq (fC_isFunction M p1) (fun r2 => (if r2 = 0 then some (.inr "java/lang/IllegalArgumentException") else px_bq (fC_isKnown M p2 p3 p4) (fun r5 => (if r5 = 0 then some (.inr "java/lang/IllegalArgumentException") else px_bq (fC_Functions_length M p1) (fun r8 => (if r8 < (6 : Int32) then px_bq (fC_Functions_add M p1 p2 p3 p4) (fun M11 => px_bq (fC_Functions_length M11 p1) (fun r13 => some (.inl (r13, M11)))) else some (.inr "java/lang/IllegalStateException")))))))
set_option maxHeartbeats 4000000 in
set_option maxRecDepth 100000 in
theorem cC_step (l : Launch) (hst : l.stackTraces = false) (D : va_G) (cs : Nat → ClassId) (ad : Nat → Nat) (sa : Nat → Nat) {M : px_M} {p1 p2 p3 p4 : Int32} {z : px_Z} (hf : fC_step M p1 p2 p3 p4 = some z) : px_mX l D (tyC cs) (wC cs ad) sa yX5_step cX5_step 5 (some .int) 6 [.ref (ad 0), .int p1, .int p2, .int p3, .int p4] M z := by
  refine px_ofX (by decide +kernel) (Nat.le_of_ble_eq_true rfl) ?_
  intro p e s m below meth c A ls X hr hlk hml hout w hE hl
  have hl : lv_has ls 5 [(0, .ref (ad 0)), (1, .int p1), (2, .int p2), (3, .int p3), (4, .int p4)] := hl
  unfold fC_step at hf
  refine lv_iload_n X.1 X.2.1 dX5_step_0 rfl (lv_at hl 1 rfl) ?_
  obtain ⟨r2, e1, hf⟩ := px_bq_e hf
  refine px_gS (As := [.int p1]) (rest := []) X hml hl w (cC_isFunction l D cs ad e1) lk_5_91 (Nat.le_of_ble_eq_true rfl) (Nat.le_of_ble_eq_true rfl) (Nat.zero_le _) (Nat.zero_le _) rfl (Nat.le_of_ble_eq_true rfl) dX5_step_1 (fun H locs w => ?_)
  refine lv_if_eq (tgt := 17) X.1 X.2.1 dX5_step_4 (by decide) (fun c3 => ?_) (fun c3 => ?_)
  · have hf := px_ip c3 hf
    cases hf
    exact px_thr hst X hml hl hlk hout w hE px_thI (is := 101) (text := "no such function, code or number") (by decide) (by decide) (by decide) dX5_step_17 dX5_step_20 dX5_step_21 dX5_step_23 dX5_step_26
  · have hf := px_in c3 hf
    refine lv_iload_n X.1 X.2.1 dX5_step_7 rfl (lv_at hl 2 rfl) ?_
    refine lv_iload_n X.1 X.2.1 dX5_step_8 rfl (lv_at hl 3 rfl) ?_
    refine lv_iload X.1 X.2.1 dX5_step_9 (lv_at hl 4 rfl) ?_
    obtain ⟨r5, e4, hf⟩ := px_bq_e hf
    refine px_gS (As := [.int p2, .int p3, .int p4]) (rest := []) X hml hl w (cC_isKnown l D cs ad e4) lk_5_95 (Nat.le_of_ble_eq_true rfl) (Nat.le_of_ble_eq_true rfl) (Nat.zero_le _) (Nat.zero_le _) rfl (Nat.le_of_ble_eq_true rfl) dX5_step_11 (fun H locs w => ?_)
    refine lv_if_ne (tgt := 27) X.1 X.2.1 dX5_step_14 (by decide) (fun c6 => ?_) (fun c6 => ?_)
    · have hf := px_in c6 hf
      refine lv_aload_n X.1 X.2.1 dX5_step_27 rfl (lv_at hl 0 rfl) ?_
      refine gtC_0_0 X w dX5_step_28 ?_
      refine lv_iload_n X.1 X.2.1 dX5_step_31 rfl (lv_at hl 1 rfl) ?_
      obtain ⟨r8, e7, hf⟩ := px_bq_e hf
      refine px_gI (As := [.int p1]) (rest := []) X hml hl w (cC_Functions_length l D cs ad e7) lk_5_106 (Nat.le_of_ble_eq_true rfl) (Nat.le_of_ble_eq_true rfl) (Nat.zero_le _) (Nat.zero_le _) (rcC_1 X.2.2.2.2 w) rfl (Nat.le_of_ble_eq_true rfl) dX5_step_32 (fun H locs w => ?_)
      refine lv_bipush (v := (6 : Int32)) X.1 X.2.1 dX5_step_35 (by decide) ?_
      refine lv_icmp_lt (tgt := 50) X.1 X.2.1 dX5_step_37 (by decide) (fun c9 => ?_) (fun c9 => ?_)
      · have hf := px_ip c9 hf
        refine lv_aload_n X.1 X.2.1 dX5_step_50 rfl (lv_at hl 0 rfl) ?_
        refine gtC_0_0 X w dX5_step_51 ?_
        refine lv_iload_n X.1 X.2.1 dX5_step_54 rfl (lv_at hl 1 rfl) ?_
        refine lv_iload_n X.1 X.2.1 dX5_step_55 rfl (lv_at hl 2 rfl) ?_
        refine lv_iload_n X.1 X.2.1 dX5_step_56 rfl (lv_at hl 3 rfl) ?_
        refine lv_iload X.1 X.2.1 dX5_step_57 (lv_at hl 4 rfl) ?_
        obtain ⟨M11, e10, hf⟩ := px_bq_e hf
        refine px_gV (As := [.int p1, .int p2, .int p3, .int p4]) (rest := []) X hml hl w (cC_Functions_add l D cs ad e10) lk_5_115 (Nat.le_of_ble_eq_true rfl) (Nat.le_of_ble_eq_true rfl) (Nat.zero_le _) (Nat.zero_le _) (rcC_1 X.2.2.2.2 w) rfl (Nat.le_of_ble_eq_true rfl) dX5_step_59 (fun H locs w => ?_)
        refine lv_aload_n X.1 X.2.1 dX5_step_62 rfl (lv_at hl 0 rfl) ?_
        refine gtC_0_0 X w dX5_step_63 ?_
        refine lv_iload_n X.1 X.2.1 dX5_step_66 rfl (lv_at hl 1 rfl) ?_
        obtain ⟨r13, e12, hf⟩ := px_bq_e hf
        refine px_gI (As := [.int p1]) (rest := []) X hml hl w (cC_Functions_length l D cs ad e12) lk_5_106 (Nat.le_of_ble_eq_true rfl) (Nat.le_of_ble_eq_true rfl) (Nat.zero_le _) (Nat.zero_le _) (rcC_1 X.2.2.2.2 w) rfl (Nat.le_of_ble_eq_true rfl) dX5_step_67 (fun H locs w => ?_)
        cases hf
        exact px_retX X hr hlk w dX5_step_70
      · have hf := px_in c9 hf
        cases hf
        exact px_thr hst X hml hl hlk hout w hE px_thS (is := 112) (text := "the function is full") (by decide) (by decide) (by decide) dX5_step_40 dX5_step_43 dX5_step_44 dX5_step_46 dX5_step_49
    · have hf := px_ip c6 hf
      cases hf
      exact px_thr hst X hml hl hlk hout w hE px_thI (is := 101) (text := "no such function, code or number") (by decide) (by decide) (by decide) dX5_step_17 dX5_step_20 dX5_step_21 dX5_step_23 dX5_step_26
theorem lk_5_121 : px_Lk RX5 121 yX0_empty cX0_empty 2 none 1 := ⟨px_tb (by decide +kernel) (by decide +kernel), px_tb (by decide +kernel) (by decide +kernel), px_tb (by decide +kernel) (by decide +kernel), px_tb (by decide +kernel) (by decide +kernel), px_tb (by decide +kernel) (by decide +kernel), by decide +kernel, by decide⟩
def fC_clear (M : px_M) (p1 : Int32) : Option px_Z := px_bq (fC_isFunction M p1) (fun r2 => (if r2 = 0 then some (.inr "java/lang/IllegalArgumentException") else px_bq (fC_Functions_empty M p1) (fun M5 => some (.inl ((0 : Int32), M5)))))
set_option maxHeartbeats 4000000 in
set_option maxRecDepth 100000 in
theorem cC_clear (l : Launch) (hst : l.stackTraces = false) (D : va_G) (cs : Nat → ClassId) (ad : Nat → Nat) (sa : Nat → Nat) {M : px_M} {p1 : Int32} {z : px_Z} (hf : fC_clear M p1 = some z) : px_mY l D (tyC cs) (wC cs ad) sa yX5_clear cX5_clear 2 6 [.ref (ad 0), .int p1] M z := by
  refine px_ofY (by decide +kernel) (Nat.le_of_ble_eq_true rfl) ?_
  intro p e s m below meth c A ls X hr hlk hml hout w hE hl
  have hl : lv_has ls 2 [(0, .ref (ad 0)), (1, .int p1)] := hl
  unfold fC_clear at hf
  refine lv_iload_n X.1 X.2.1 dX5_clear_0 rfl (lv_at hl 1 rfl) ?_
  obtain ⟨r2, e1, hf⟩ := px_bq_e hf
  refine px_gS (As := [.int p1]) (rest := []) X hml hl w (cC_isFunction l D cs ad e1) lk_5_91 (Nat.le_of_ble_eq_true rfl) (Nat.le_of_ble_eq_true rfl) (Nat.zero_le _) (Nat.zero_le _) rfl (Nat.le_of_ble_eq_true rfl) dX5_clear_1 (fun H locs w => ?_)
  refine lv_if_ne (tgt := 17) X.1 X.2.1 dX5_clear_4 (by decide) (fun c3 => ?_) (fun c3 => ?_)
  · have hf := px_in c3 hf
    refine lv_aload_n X.1 X.2.1 dX5_clear_17 rfl (lv_at hl 0 rfl) ?_
    refine gtC_0_0 X w dX5_clear_18 ?_
    refine lv_iload_n X.1 X.2.1 dX5_clear_21 rfl (lv_at hl 1 rfl) ?_
    obtain ⟨M5, e4, hf⟩ := px_bq_e hf
    refine px_gV (As := [.int p1]) (rest := []) X hml hl w (cC_Functions_empty l D cs ad e4) lk_5_121 (Nat.le_of_ble_eq_true rfl) (Nat.le_of_ble_eq_true rfl) (Nat.zero_le _) (Nat.zero_le _) (rcC_1 X.2.2.2.2 w) rfl (Nat.le_of_ble_eq_true rfl) dX5_clear_22 (fun H locs w => ?_)
    cases hf
    exact px_retY X hr hlk w dX5_clear_25
  · have hf := px_ip c3 hf
    cases hf
    exact px_thr hst X hml hl hlk hout w hE px_thI (is := 119) (text := "no such function") (by decide) (by decide) (by decide) dX5_clear_7 dX5_clear_10 dX5_clear_11 dX5_clear_13 dX5_clear_16
def fC_post (M : px_M) (p1 p2 p3 : Int32) : Option px_Z := px_bq (fC_isSource M p1) (fun r2 => (if r2 = 0 then some (.inr "java/lang/IllegalArgumentException") else px_bq (fC_isFunction M p2) (fun r5 => (if r5 = 0 then some (.inr "java/lang/IllegalArgumentException") else px_bq (fC_waitingTasks M) (fun r8 => (if r8 < (40 : Int32) then (if p1 = 0 then px_bq (fC_Line_put_8 M (0 : Int32) p2 p3) (fun M12 => px_bq (fC_waitingTasks M12) (fun r14 => some (.inl (r14, M12)))) else (if p1 = 1 then px_bq (fC_Line_put_12 M (0 : Int32) p2 p3) (fun M17 => px_bq (fC_waitingTasks M17) (fun r19 => some (.inl (r19, M17)))) else (if p1 = 2 then px_bq (fC_Line_put_16 M (0 : Int32) p2 p3) (fun M22 => px_bq (fC_waitingTasks M22) (fun r24 => some (.inl (r24, M22)))) else none))) else some (.inr "java/lang/IllegalStateException")))))))
set_option maxHeartbeats 4000000 in
set_option maxRecDepth 100000 in
theorem cC_post (l : Launch) (hst : l.stackTraces = false) (D : va_G) (cs : Nat → ClassId) (ad : Nat → Nat) (sa : Nat → Nat) {M : px_M} {p1 p2 p3 : Int32} {z : px_Z} (hf : fC_post M p1 p2 p3 = some z) : px_mX l D (tyC cs) (wC cs ad) sa yX5_post cX5_post 4 (some .int) 6 [.ref (ad 0), .int p1, .int p2, .int p3] M z := by
  refine px_ofX (by decide +kernel) (Nat.le_of_ble_eq_true rfl) ?_
  intro p e s m below meth c A ls X hr hlk hml hout w hE hl
  have hl : lv_has ls 4 [(0, .ref (ad 0)), (1, .int p1), (2, .int p2), (3, .int p3)] := hl
  unfold fC_post at hf
  refine lv_iload_n X.1 X.2.1 dX5_post_0 rfl (lv_at hl 1 rfl) ?_
  obtain ⟨r2, e1, hf⟩ := px_bq_e hf
  refine px_gS (As := [.int p1]) (rest := []) X hml hl w (cC_isSource l D cs ad e1) lk_5_124 (Nat.le_of_ble_eq_true rfl) (Nat.le_of_ble_eq_true rfl) (Nat.zero_le _) (Nat.zero_le _) rfl (Nat.le_of_ble_eq_true rfl) dX5_post_1 (fun H locs w => ?_)
  refine lv_if_eq (tgt := 14) X.1 X.2.1 dX5_post_4 (by decide) (fun c3 => ?_) (fun c3 => ?_)
  · have hf := px_ip c3 hf
    cases hf
    exact px_thr hst X hml hl hlk hout w hE px_thI (is := 127) (text := "no such source or function") (by decide) (by decide) (by decide) dX5_post_14 dX5_post_17 dX5_post_18 dX5_post_20 dX5_post_23
  · have hf := px_in c3 hf
    refine lv_iload_n X.1 X.2.1 dX5_post_7 rfl (lv_at hl 2 rfl) ?_
    obtain ⟨r5, e4, hf⟩ := px_bq_e hf
    refine px_gS (As := [.int p2]) (rest := []) X hml hl w (cC_isFunction l D cs ad e4) lk_5_91 (Nat.le_of_ble_eq_true rfl) (Nat.le_of_ble_eq_true rfl) (Nat.zero_le _) (Nat.zero_le _) rfl (Nat.le_of_ble_eq_true rfl) dX5_post_8 (fun H locs w => ?_)
    refine lv_if_ne (tgt := 24) X.1 X.2.1 dX5_post_11 (by decide) (fun c6 => ?_) (fun c6 => ?_)
    · have hf := px_in c6 hf
      refine lv_aload_n X.1 X.2.1 dX5_post_24 rfl (lv_at hl 0 rfl) ?_
      obtain ⟨r8, e7, hf⟩ := px_bq_e hf
      refine px_gI (As := []) (rest := []) X hml hl w (cC_waitingTasks l D cs ad e7) lk_5_129 (Nat.le_of_ble_eq_true rfl) (Nat.le_of_ble_eq_true rfl) (Nat.zero_le _) (Nat.zero_le _) (rcC_0 X.2.2.2.2 w) rfl (Nat.le_of_ble_eq_true rfl) dX5_post_25 (fun H locs w => ?_)
      refine lv_bipush (v := (40 : Int32)) X.1 X.2.1 dX5_post_28 (by decide) ?_
      refine lv_icmp_lt (tgt := 43) X.1 X.2.1 dX5_post_30 (by decide) (fun c9 => ?_) (fun c9 => ?_)
      · have hf := px_ip c9 hf
        refine lv_aload_n X.1 X.2.1 dX5_post_43 rfl (lv_at hl 0 rfl) ?_
        refine gtC_0_2 X w dX5_post_44 ?_
        refine lv_iload_n X.1 X.2.1 dX5_post_47 rfl (lv_at hl 1 rfl) ?_
        by_cases c10 : p1 = 0
        · have hf := px_ip c10 hf
          refine alC_7_0 X w c10 dX5_post_48 ?_
          refine lv_iconst (v := (0 : Int32)) X.1 X.2.1 dX5_post_49 (by decide) ?_
          refine lv_iload_n X.1 X.2.1 dX5_post_50 rfl (lv_at hl 2 rfl) ?_
          refine lv_iload_n X.1 X.2.1 dX5_post_51 rfl (lv_at hl 3 rfl) ?_
          obtain ⟨M12, e11, hf⟩ := px_bq_e hf
          refine px_gV (As := [.int (0 : Int32), .int p2, .int p3]) (rest := []) X hml hl w (cC_Line_put_8 l D cs ad e11) lk_5_135 (Nat.le_of_ble_eq_true rfl) (Nat.le_of_ble_eq_true rfl) (Nat.zero_le _) (Nat.zero_le _) (rcC_8 X.2.2.2.2 w) rfl (Nat.le_of_ble_eq_true rfl) dX5_post_52 (fun H locs w => ?_)
          refine lv_aload_n X.1 X.2.1 dX5_post_55 rfl (lv_at hl 0 rfl) ?_
          obtain ⟨r14, e13, hf⟩ := px_bq_e hf
          refine px_gI (As := []) (rest := []) X hml hl w (cC_waitingTasks l D cs ad e13) lk_5_129 (Nat.le_of_ble_eq_true rfl) (Nat.le_of_ble_eq_true rfl) (Nat.zero_le _) (Nat.zero_le _) (rcC_0 X.2.2.2.2 w) rfl (Nat.le_of_ble_eq_true rfl) dX5_post_56 (fun H locs w => ?_)
          cases hf
          exact px_retX X hr hlk w dX5_post_59
        · have hf := px_in c10 hf
          by_cases c15 : p1 = 1
          · have hf := px_ip c15 hf
            refine alC_7_1 X w c15 dX5_post_48 ?_
            refine lv_iconst (v := (0 : Int32)) X.1 X.2.1 dX5_post_49 (by decide) ?_
            refine lv_iload_n X.1 X.2.1 dX5_post_50 rfl (lv_at hl 2 rfl) ?_
            refine lv_iload_n X.1 X.2.1 dX5_post_51 rfl (lv_at hl 3 rfl) ?_
            obtain ⟨M17, e16, hf⟩ := px_bq_e hf
            refine px_gV (As := [.int (0 : Int32), .int p2, .int p3]) (rest := []) X hml hl w (cC_Line_put_12 l D cs ad e16) lk_5_135 (Nat.le_of_ble_eq_true rfl) (Nat.le_of_ble_eq_true rfl) (Nat.zero_le _) (Nat.zero_le _) (rcC_12 X.2.2.2.2 w) rfl (Nat.le_of_ble_eq_true rfl) dX5_post_52 (fun H locs w => ?_)
            refine lv_aload_n X.1 X.2.1 dX5_post_55 rfl (lv_at hl 0 rfl) ?_
            obtain ⟨r19, e18, hf⟩ := px_bq_e hf
            refine px_gI (As := []) (rest := []) X hml hl w (cC_waitingTasks l D cs ad e18) lk_5_129 (Nat.le_of_ble_eq_true rfl) (Nat.le_of_ble_eq_true rfl) (Nat.zero_le _) (Nat.zero_le _) (rcC_0 X.2.2.2.2 w) rfl (Nat.le_of_ble_eq_true rfl) dX5_post_56 (fun H locs w => ?_)
            cases hf
            exact px_retX X hr hlk w dX5_post_59
          · have hf := px_in c15 hf
            by_cases c20 : p1 = 2
            · have hf := px_ip c20 hf
              refine alC_7_2 X w c20 dX5_post_48 ?_
              refine lv_iconst (v := (0 : Int32)) X.1 X.2.1 dX5_post_49 (by decide) ?_
              refine lv_iload_n X.1 X.2.1 dX5_post_50 rfl (lv_at hl 2 rfl) ?_
              refine lv_iload_n X.1 X.2.1 dX5_post_51 rfl (lv_at hl 3 rfl) ?_
              obtain ⟨M22, e21, hf⟩ := px_bq_e hf
              refine px_gV (As := [.int (0 : Int32), .int p2, .int p3]) (rest := []) X hml hl w (cC_Line_put_16 l D cs ad e21) lk_5_135 (Nat.le_of_ble_eq_true rfl) (Nat.le_of_ble_eq_true rfl) (Nat.zero_le _) (Nat.zero_le _) (rcC_16 X.2.2.2.2 w) rfl (Nat.le_of_ble_eq_true rfl) dX5_post_52 (fun H locs w => ?_)
              refine lv_aload_n X.1 X.2.1 dX5_post_55 rfl (lv_at hl 0 rfl) ?_
              obtain ⟨r24, e23, hf⟩ := px_bq_e hf
              refine px_gI (As := []) (rest := []) X hml hl w (cC_waitingTasks l D cs ad e23) lk_5_129 (Nat.le_of_ble_eq_true rfl) (Nat.le_of_ble_eq_true rfl) (Nat.zero_le _) (Nat.zero_le _) (rcC_0 X.2.2.2.2 w) rfl (Nat.le_of_ble_eq_true rfl) dX5_post_56 (fun H locs w => ?_)
              cases hf
              exact px_retX X hr hlk w dX5_post_59
            · have hf := px_in c20 hf
              cases hf
      · have hf := px_in c9 hf
        cases hf
        exact px_thr hst X hml hl hlk hout w hE px_thS (is := 133) (text := "too many tasks wait") (by decide) (by decide) (by decide) dX5_post_33 dX5_post_36 dX5_post_37 dX5_post_39 dX5_post_42
    · have hf := px_ip c6 hf
      cases hf
      exact px_thr hst X hml hl hlk hout w hE px_thI (is := 127) (text := "no such source or function") (by decide) (by decide) (by decide) dX5_post_14 dX5_post_17 dX5_post_18 dX5_post_20 dX5_post_23
def fC_prefer (M : px_M) (p1 : Int32) : Option px_Z := px_bq (fC_isSource M p1) (fun r2 => (if r2 = 0 then some (.inr "java/lang/IllegalArgumentException") else px_bn (px_up M 0 9 p1) (fun M4 => some (.inl ((0 : Int32), M4)))))
set_option maxHeartbeats 4000000 in
set_option maxRecDepth 100000 in
theorem cC_prefer (l : Launch) (hst : l.stackTraces = false) (D : va_G) (cs : Nat → ClassId) (ad : Nat → Nat) (sa : Nat → Nat) {M : px_M} {p1 : Int32} {z : px_Z} (hf : fC_prefer M p1 = some z) : px_mY l D (tyC cs) (wC cs ad) sa yX5_prefer cX5_prefer 2 6 [.ref (ad 0), .int p1] M z := by
  refine px_ofY (by decide +kernel) (Nat.le_of_ble_eq_true rfl) ?_
  intro p e s m below meth c A ls X hr hlk hml hout w hE hl
  have hl : lv_has ls 2 [(0, .ref (ad 0)), (1, .int p1)] := hl
  unfold fC_prefer at hf
  refine lv_iload_n X.1 X.2.1 dX5_prefer_0 rfl (lv_at hl 1 rfl) ?_
  obtain ⟨r2, e1, hf⟩ := px_bq_e hf
  refine px_gS (As := [.int p1]) (rest := []) X hml hl w (cC_isSource l D cs ad e1) lk_5_124 (Nat.le_of_ble_eq_true rfl) (Nat.le_of_ble_eq_true rfl) (Nat.zero_le _) (Nat.zero_le _) rfl (Nat.le_of_ble_eq_true rfl) dX5_prefer_1 (fun H locs w => ?_)
  refine lv_if_ne (tgt := 17) X.1 X.2.1 dX5_prefer_4 (by decide) (fun c3 => ?_) (fun c3 => ?_)
  · have hf := px_in c3 hf
    refine lv_aload_n X.1 X.2.1 dX5_prefer_17 rfl (lv_at hl 0 rfl) ?_
    refine lv_iload_n X.1 X.2.1 dX5_prefer_18 rfl (lv_at hl 1 rfl) ?_
    refine ptC_0_9 X w dX5_prefer_19 (fun H locs w => ?_)
    obtain ⟨M4, eM4, hf⟩ := px_bn_e hf
    rw [← eM4] at w
    cases hf
    exact px_retY X hr hlk w dX5_prefer_22
  · have hf := px_ip c3 hf
    cases hf
    exact px_thr hst X hml hl hlk hout w hE px_thI (is := 139) (text := "no such source") (by decide) (by decide) (by decide) dX5_prefer_7 dX5_prefer_10 dX5_prefer_11 dX5_prefer_13 dX5_prefer_16
theorem lk_5_160 : px_Lk RX5 160 yX4_putTasks cX4_putTasks 5 none 2 := ⟨px_tb (by decide +kernel) (by decide +kernel), px_tb (by decide +kernel) (by decide +kernel), px_tb (by decide +kernel) (by decide +kernel), px_tb (by decide +kernel) (by decide +kernel), px_tb (by decide +kernel) (by decide +kernel), by decide +kernel, by decide⟩
def fC_advance (M : px_M) (p1 : Int32) : Option px_Z := px_bq (fC_isWithin M p1 (1 : Int32) (100 : Int32)) (fun r2 => (if r2 = 0 then some (.inr "java/lang/IllegalArgumentException") else px_bn ((M 0 10)) (fun x4 => px_bn (px_up M 0 10 ((M 0 10) + p1)) (fun M5 => (if ((M5 0 10) / (16 : Int32)) = (x4 / (16 : Int32)) then px_bq (fC_Timers_putTasks M5 (M5 0 10)) (fun M8 => some (.inl ((M8 0 10), M8))) else px_bn (px_up M5 0 11 (1 : Int32)) (fun M9 => px_bq (fC_Timers_putTasks M9 (M9 0 10)) (fun M11 => some (.inl ((M11 0 10), M11)))))))))
set_option maxHeartbeats 4000000 in
set_option maxRecDepth 100000 in
theorem cC_advance (l : Launch) (hst : l.stackTraces = false) (D : va_G) (cs : Nat → ClassId) (ad : Nat → Nat) (sa : Nat → Nat) {M : px_M} {p1 : Int32} {z : px_Z} (hf : fC_advance M p1 = some z) : px_mX l D (tyC cs) (wC cs ad) sa yX5_advance cX5_advance 3 (some .int) 6 [.ref (ad 0), .int p1] M z := by
  refine px_ofX (by decide +kernel) (Nat.le_of_ble_eq_true rfl) ?_
  intro p e s m below meth c A ls X hr hlk hml hout w hE hl
  have hl : lv_has ls 3 [(0, .ref (ad 0)), (1, .int p1)] := hl
  unfold fC_advance at hf
  refine lv_iload_n X.1 X.2.1 dX5_advance_0 rfl (lv_at hl 1 rfl) ?_
  refine lv_iconst (v := (1 : Int32)) X.1 X.2.1 dX5_advance_1 (by decide) ?_
  refine lv_bipush (v := (100 : Int32)) X.1 X.2.1 dX5_advance_2 (by decide) ?_
  obtain ⟨r2, e1, hf⟩ := px_bq_e hf
  refine px_gS (As := [.int p1, .int (1 : Int32), .int (100 : Int32)]) (rest := []) X hml hl w (cC_isWithin l D cs ad e1) lk_5_155 (Nat.le_of_ble_eq_true rfl) (Nat.le_of_ble_eq_true rfl) (Nat.zero_le _) (Nat.zero_le _) rfl (Nat.le_of_ble_eq_true rfl) dX5_advance_4 (fun H locs w => ?_)
  refine lv_if_ne (tgt := 20) X.1 X.2.1 dX5_advance_7 (by decide) (fun c3 => ?_) (fun c3 => ?_)
  · have hf := px_in c3 hf
    refine lv_aload_n X.1 X.2.1 dX5_advance_20 rfl (lv_at hl 0 rfl) ?_
    refine gtC_0_10 X w dX5_advance_21 ?_
    obtain ⟨x4, ex4, hf⟩ := px_bn_e hf
    rw [← ex4]
    refine lv_istore_n (lv' := [(2, .int x4), (0, .ref (ad 0)), (1, .int p1)]) X.1 X.2.1 dX5_advance_24 rfl hl (by decide) rfl (fun ls hl => ?_)
    refine lv_aload_n X.1 X.2.1 dX5_advance_25 rfl (lv_at hl 1 rfl) ?_
    refine lv_dup X.1 X.2.1 dX5_advance_26 rfl ?_
    refine gtC_0_10 X w dX5_advance_27 ?_
    refine lv_iload_n X.1 X.2.1 dX5_advance_30 rfl (lv_at hl 2 rfl) ?_
    refine lv_iadd X.1 X.2.1 dX5_advance_31 ?_
    refine ptC_0_10 X w dX5_advance_32 (fun H locs w => ?_)
    obtain ⟨M5, eM5, hf⟩ := px_bn_e hf
    rw [← eM5] at w
    refine lv_aload_n X.1 X.2.1 dX5_advance_35 rfl (lv_at hl 1 rfl) ?_
    refine gtC_0_10 X w dX5_advance_36 ?_
    refine lv_bipush (v := (16 : Int32)) X.1 X.2.1 dX5_advance_39 (by decide) ?_
    refine lv_idiv X.1 X.2.1 dX5_advance_41 (by decide) ?_
    refine lv_iload_n X.1 X.2.1 dX5_advance_42 rfl (lv_at hl 0 rfl) ?_
    refine lv_bipush (v := (16 : Int32)) X.1 X.2.1 dX5_advance_43 (by decide) ?_
    refine lv_idiv X.1 X.2.1 dX5_advance_45 (by decide) ?_
    refine lv_icmp_eq (tgt := 54) X.1 X.2.1 dX5_advance_46 (by decide) (fun c6 => ?_) (fun c6 => ?_)
    · have hf := px_ip c6 hf
      refine lv_aload_n X.1 X.2.1 dX5_advance_54 rfl (lv_at hl 1 rfl) ?_
      refine gtC_0_8 X w dX5_advance_55 ?_
      refine lv_aload_n X.1 X.2.1 dX5_advance_58 rfl (lv_at hl 1 rfl) ?_
      refine gtC_0_10 X w dX5_advance_59 ?_
      refine lv_aload_n X.1 X.2.1 dX5_advance_62 rfl (lv_at hl 1 rfl) ?_
      refine gtC_0_2 X w dX5_advance_63 ?_
      refine lv_iconst (v := (1 : Int32)) X.1 X.2.1 dX5_advance_66 (by decide) ?_
      refine alC_7_1 X w rfl dX5_advance_67 ?_
      obtain ⟨M8, e7, hf⟩ := px_bq_e hf
      refine px_gV (As := [.int (M5 0 10), .ref (ad 12)]) (rest := []) X hml hl w (cC_Timers_putTasks l D cs ad e7) lk_5_160 (Nat.le_of_ble_eq_true rfl) (Nat.le_of_ble_eq_true rfl) (Nat.zero_le _) (Nat.zero_le _) (rcC_43 X.2.2.2.2 w) rfl (Nat.le_of_ble_eq_true rfl) dX5_advance_68 (fun H locs w => ?_)
      refine lv_aload_n X.1 X.2.1 dX5_advance_71 rfl (lv_at hl 1 rfl) ?_
      refine gtC_0_10 X w dX5_advance_72 ?_
      cases hf
      exact px_retX X hr hlk w dX5_advance_75
    · have hf := px_in c6 hf
      refine lv_aload_n X.1 X.2.1 dX5_advance_49 rfl (lv_at hl 1 rfl) ?_
      refine lv_iconst (v := (1 : Int32)) X.1 X.2.1 dX5_advance_50 (by decide) ?_
      refine ptC_0_11 X w rfl dX5_advance_51 (fun H locs w => ?_)
      obtain ⟨M9, eM9, hf⟩ := px_bn_e hf
      rw [← eM9] at w
      refine lv_aload_n X.1 X.2.1 dX5_advance_54 rfl (lv_at hl 1 rfl) ?_
      refine gtC_0_8 X w dX5_advance_55 ?_
      refine lv_aload_n X.1 X.2.1 dX5_advance_58 rfl (lv_at hl 1 rfl) ?_
      refine gtC_0_10 X w dX5_advance_59 ?_
      refine lv_aload_n X.1 X.2.1 dX5_advance_62 rfl (lv_at hl 1 rfl) ?_
      refine gtC_0_2 X w dX5_advance_63 ?_
      refine lv_iconst (v := (1 : Int32)) X.1 X.2.1 dX5_advance_66 (by decide) ?_
      refine alC_7_1 X w rfl dX5_advance_67 ?_
      obtain ⟨M11, e10, hf⟩ := px_bq_e hf
      refine px_gV (As := [.int (M9 0 10), .ref (ad 12)]) (rest := []) X hml hl w (cC_Timers_putTasks l D cs ad e10) lk_5_160 (Nat.le_of_ble_eq_true rfl) (Nat.le_of_ble_eq_true rfl) (Nat.zero_le _) (Nat.zero_le _) (rcC_43 X.2.2.2.2 w) rfl (Nat.le_of_ble_eq_true rfl) dX5_advance_68 (fun H locs w => ?_)
      refine lv_aload_n X.1 X.2.1 dX5_advance_71 rfl (lv_at hl 1 rfl) ?_
      refine gtC_0_10 X w dX5_advance_72 ?_
      cases hf
      exact px_retX X hr hlk w dX5_advance_75
  · have hf := px_ip c3 hf
    cases hf
    exact px_thr hst X hml hl hlk hout w hE px_thI (is := 158) (text := "not a length of time to set the clock forward") (by decide) (by decide) (by decide) dX5_advance_10 dX5_advance_13 dX5_advance_14 dX5_advance_16 dX5_advance_19
def fC_register (M : px_M) (p1 : Int32) : Option px_Z := px_bq (fC_isRegister M p1) (fun r2 => (if r2 = 0 then some (.inr "java/lang/IndexOutOfBoundsException") else px_ck p1 8 (some (.inl ((M 6 p1.toNatClampNeg), M)))))
set_option maxHeartbeats 4000000 in
set_option maxRecDepth 100000 in
theorem cC_register (l : Launch) (hst : l.stackTraces = false) (D : va_G) (cs : Nat → ClassId) (ad : Nat → Nat) (sa : Nat → Nat) {M : px_M} {p1 : Int32} {z : px_Z} (hf : fC_register M p1 = some z) : px_mX l D (tyC cs) (wC cs ad) sa yX5_register cX5_register 2 (some .int) 6 [.ref (ad 0), .int p1] M z := by
  refine px_ofX (by decide +kernel) (Nat.le_of_ble_eq_true rfl) ?_
  intro p e s m below meth c A ls X hr hlk hml hout w hE hl
  have hl : lv_has ls 2 [(0, .ref (ad 0)), (1, .int p1)] := hl
  unfold fC_register at hf
  refine lv_iload_n X.1 X.2.1 dX5_register_0 rfl (lv_at hl 1 rfl) ?_
  obtain ⟨r2, e1, hf⟩ := px_bq_e hf
  refine px_gS (As := [.int p1]) (rest := []) X hml hl w (cC_isRegister l D cs ad e1) lk_5_164 (Nat.le_of_ble_eq_true rfl) (Nat.le_of_ble_eq_true rfl) (Nat.zero_le _) (Nat.zero_le _) rfl (Nat.le_of_ble_eq_true rfl) dX5_register_1 (fun H locs w => ?_)
  refine lv_if_ne (tgt := 17) X.1 X.2.1 dX5_register_4 (by decide) (fun c3 => ?_) (fun c3 => ?_)
  · have hf := px_in c3 hf
    refine lv_aload_n X.1 X.2.1 dX5_register_17 rfl (lv_at hl 0 rfl) ?_
    refine gtC_0_1 X w dX5_register_18 ?_
    refine lv_iload_n X.1 X.2.1 dX5_register_21 rfl (lv_at hl 1 rfl) ?_
    obtain ⟨b4, hf⟩ := px_ck_e hf
    refine ilC_6 X w b4 dX5_register_22 ?_
    cases hf
    exact px_retX X hr hlk w dX5_register_23
  · have hf := px_ip c3 hf
    cases hf
    exact px_thr hst X hml hl hlk hout w hE px_thB (is := 169) (text := "no such register") (by decide) (by decide) (by decide) dX5_register_7 dX5_register_10 dX5_register_11 dX5_register_13 dX5_register_16
theorem lk_5_172 : px_Lk RX5 172 yX3_has cX3_has 2 (some .boolean) 1 := ⟨px_tb (by decide +kernel) (by decide +kernel), px_tb (by decide +kernel) (by decide +kernel), px_tb (by decide +kernel) (by decide +kernel), px_tb (by decide +kernel) (by decide +kernel), px_tb (by decide +kernel) (by decide +kernel), by decide +kernel, by decide⟩
theorem lk_5_177 : px_Lk RX5 177 yX3_stateWithFlags cX3_stateWithFlags 2 (some .int) 1 := ⟨px_tb (by decide +kernel) (by decide +kernel), px_tb (by decide +kernel) (by decide +kernel), px_tb (by decide +kernel) (by decide +kernel), px_tb (by decide +kernel) (by decide +kernel), px_tb (by decide +kernel) (by decide +kernel), by decide +kernel, by decide⟩
def fC_state (M : px_M) (p1 : Int32) : Option px_Z := px_bq (fC_Promises_has M p1) (fun r2 => (if r2 = 0 then some (.inr "java/lang/IndexOutOfBoundsException") else px_bq (fC_Promises_stateWithFlags M p1) (fun r5 => some (.inl (r5, M)))))
set_option maxHeartbeats 4000000 in
set_option maxRecDepth 100000 in
theorem cC_state (l : Launch) (hst : l.stackTraces = false) (D : va_G) (cs : Nat → ClassId) (ad : Nat → Nat) (sa : Nat → Nat) {M : px_M} {p1 : Int32} {z : px_Z} (hf : fC_state M p1 = some z) : px_mX l D (tyC cs) (wC cs ad) sa yX5_state cX5_state 2 (some .int) 6 [.ref (ad 0), .int p1] M z := by
  refine px_ofX (by decide +kernel) (Nat.le_of_ble_eq_true rfl) ?_
  intro p e s m below meth c A ls X hr hlk hml hout w hE hl
  have hl : lv_has ls 2 [(0, .ref (ad 0)), (1, .int p1)] := hl
  unfold fC_state at hf
  refine lv_aload_n X.1 X.2.1 dX5_state_0 rfl (lv_at hl 0 rfl) ?_
  refine gtC_0_7 X w dX5_state_1 ?_
  refine lv_iload_n X.1 X.2.1 dX5_state_4 rfl (lv_at hl 1 rfl) ?_
  obtain ⟨r2, e1, hf⟩ := px_bq_e hf
  refine px_gI (As := [.int p1]) (rest := []) X hml hl w (cC_Promises_has l D cs ad e1) lk_5_172 (Nat.le_of_ble_eq_true rfl) (Nat.le_of_ble_eq_true rfl) (Nat.zero_le _) (Nat.zero_le _) (rcC_32 X.2.2.2.2 w) rfl (Nat.le_of_ble_eq_true rfl) dX5_state_5 (fun H locs w => ?_)
  refine lv_if_ne (tgt := 21) X.1 X.2.1 dX5_state_8 (by decide) (fun c3 => ?_) (fun c3 => ?_)
  · have hf := px_in c3 hf
    refine lv_aload_n X.1 X.2.1 dX5_state_21 rfl (lv_at hl 0 rfl) ?_
    refine gtC_0_7 X w dX5_state_22 ?_
    refine lv_iload_n X.1 X.2.1 dX5_state_25 rfl (lv_at hl 1 rfl) ?_
    obtain ⟨r5, e4, hf⟩ := px_bq_e hf
    refine px_gI (As := [.int p1]) (rest := []) X hml hl w (cC_Promises_stateWithFlags l D cs ad e4) lk_5_177 (Nat.le_of_ble_eq_true rfl) (Nat.le_of_ble_eq_true rfl) (Nat.zero_le _) (Nat.zero_le _) (rcC_32 X.2.2.2.2 w) rfl (Nat.le_of_ble_eq_true rfl) dX5_state_26 (fun H locs w => ?_)
    cases hf
    exact px_retX X hr hlk w dX5_state_29
  · have hf := px_ip c3 hf
    cases hf
    exact px_thr hst X hml hl hlk hout w hE px_thB (is := 175) (text := "no such promise") (by decide) (by decide) (by decide) dX5_state_11 dX5_state_14 dX5_state_15 dX5_state_17 dX5_state_20
def fC_value (M : px_M) (p1 : Int32) : Option px_Z := px_bq (fC_Promises_has M p1) (fun r2 => (if r2 = 0 then some (.inr "java/lang/IndexOutOfBoundsException") else px_bq (fC_Promises_stateOf M p1) (fun r5 => (if r5 = 0 then some (.inr "java/lang/IllegalStateException") else px_bq (fC_Promises_numberOf M p1) (fun r8 => some (.inl (r8, M)))))))
set_option maxHeartbeats 4000000 in
set_option maxRecDepth 100000 in
theorem cC_value (l : Launch) (hst : l.stackTraces = false) (D : va_G) (cs : Nat → ClassId) (ad : Nat → Nat) (sa : Nat → Nat) {M : px_M} {p1 : Int32} {z : px_Z} (hf : fC_value M p1 = some z) : px_mX l D (tyC cs) (wC cs ad) sa yX5_value cX5_value 2 (some .int) 6 [.ref (ad 0), .int p1] M z := by
  refine px_ofX (by decide +kernel) (Nat.le_of_ble_eq_true rfl) ?_
  intro p e s m below meth c A ls X hr hlk hml hout w hE hl
  have hl : lv_has ls 2 [(0, .ref (ad 0)), (1, .int p1)] := hl
  unfold fC_value at hf
  refine lv_aload_n X.1 X.2.1 dX5_value_0 rfl (lv_at hl 0 rfl) ?_
  refine gtC_0_7 X w dX5_value_1 ?_
  refine lv_iload_n X.1 X.2.1 dX5_value_4 rfl (lv_at hl 1 rfl) ?_
  obtain ⟨r2, e1, hf⟩ := px_bq_e hf
  refine px_gI (As := [.int p1]) (rest := []) X hml hl w (cC_Promises_has l D cs ad e1) lk_5_172 (Nat.le_of_ble_eq_true rfl) (Nat.le_of_ble_eq_true rfl) (Nat.zero_le _) (Nat.zero_le _) (rcC_32 X.2.2.2.2 w) rfl (Nat.le_of_ble_eq_true rfl) dX5_value_5 (fun H locs w => ?_)
  refine lv_if_ne (tgt := 21) X.1 X.2.1 dX5_value_8 (by decide) (fun c3 => ?_) (fun c3 => ?_)
  · have hf := px_in c3 hf
    refine lv_aload_n X.1 X.2.1 dX5_value_21 rfl (lv_at hl 0 rfl) ?_
    refine gtC_0_7 X w dX5_value_22 ?_
    refine lv_iload_n X.1 X.2.1 dX5_value_25 rfl (lv_at hl 1 rfl) ?_
    obtain ⟨r5, e4, hf⟩ := px_bq_e hf
    refine px_gI (As := [.int p1]) (rest := []) X hml hl w (cC_Promises_stateOf l D cs ad e4) lk_5_180 (Nat.le_of_ble_eq_true rfl) (Nat.le_of_ble_eq_true rfl) (Nat.zero_le _) (Nat.zero_le _) (rcC_32 X.2.2.2.2 w) rfl (Nat.le_of_ble_eq_true rfl) dX5_value_26 (fun H locs w => ?_)
    refine lv_if_ne (tgt := 42) X.1 X.2.1 dX5_value_29 (by decide) (fun c6 => ?_) (fun c6 => ?_)
    · have hf := px_in c6 hf
      refine lv_aload_n X.1 X.2.1 dX5_value_42 rfl (lv_at hl 0 rfl) ?_
      refine gtC_0_7 X w dX5_value_43 ?_
      refine lv_iload_n X.1 X.2.1 dX5_value_46 rfl (lv_at hl 1 rfl) ?_
      obtain ⟨r8, e7, hf⟩ := px_bq_e hf
      refine px_gI (As := [.int p1]) (rest := []) X hml hl w (cC_Promises_numberOf l D cs ad e7) lk_5_185 (Nat.le_of_ble_eq_true rfl) (Nat.le_of_ble_eq_true rfl) (Nat.zero_le _) (Nat.zero_le _) (rcC_32 X.2.2.2.2 w) rfl (Nat.le_of_ble_eq_true rfl) dX5_value_47 (fun H locs w => ?_)
      cases hf
      exact px_retX X hr hlk w dX5_value_50
    · have hf := px_ip c6 hf
      cases hf
      exact px_thr hst X hml hl hlk hout w hE px_thS (is := 183) (text := "the promise is pending") (by decide) (by decide) (by decide) dX5_value_32 dX5_value_35 dX5_value_36 dX5_value_38 dX5_value_41
  · have hf := px_ip c3 hf
    cases hf
    exact px_thr hst X hml hl hlk hout w hE px_thB (is := 175) (text := "no such promise") (by decide) (by decide) (by decide) dX5_value_11 dX5_value_14 dX5_value_15 dX5_value_17 dX5_value_20
theorem lk_5_188 : px_Lk RX5 188 yX3_size cX3_size 1 (some .int) 0 := ⟨px_tb (by decide +kernel) (by decide +kernel), px_tb (by decide +kernel) (by decide +kernel), px_tb (by decide +kernel) (by decide +kernel), px_tb (by decide +kernel) (by decide +kernel), px_tb (by decide +kernel) (by decide +kernel), by decide +kernel, by decide⟩
theorem lk_5_189 : px_Lk RX5 189 yX4_size cX4_size 1 (some .int) 0 := ⟨px_tb (by decide +kernel) (by decide +kernel), px_tb (by decide +kernel) (by decide +kernel), px_tb (by decide +kernel) (by decide +kernel), px_tb (by decide +kernel) (by decide +kernel), px_tb (by decide +kernel) (by decide +kernel), by decide +kernel, by decide⟩
theorem lk_5_190 : px_Lk RX5 190 yX1_size cX1_size 1 (some .int) 0 := ⟨px_tb (by decide +kernel) (by decide +kernel), px_tb (by decide +kernel) (by decide +kernel), px_tb (by decide +kernel) (by decide +kernel), px_tb (by decide +kernel) (by decide +kernel), px_tb (by decide +kernel) (by decide +kernel), by decide +kernel, by decide⟩
def fC_count (M : px_M) (p1 : Int32) : Option px_Z := (if p1 = (0 : Int32) then px_bq (fC_Promises_size M) (fun r3 => some (.inl (r3, M))) else (if p1 = (1 : Int32) then px_bq (fC_waitingTasks M) (fun r6 => some (.inl (r6, M))) else (if p1 = (2 : Int32) then px_bq (fC_Line_size_20 M) (fun r9 => some (.inl (r9, M))) else (if p1 = (3 : Int32) then px_bq (fC_Timers_size M) (fun r12 => some (.inl (r12, M))) else (if p1 = (4 : Int32) then px_bq (fC_Line_size_24 M) (fun r15 => some (.inl (r15, M))) else (if p1 = (5 : Int32) then px_bq (fC_Journal_size_28 M) (fun r18 => some (.inl (r18, M))) else (if p1 = (6 : Int32) then px_bq (fC_Journal_size_30 M) (fun r21 => some (.inl (r21, M))) else some (.inr "java/lang/IllegalArgumentException"))))))))
set_option maxHeartbeats 4000000 in
set_option maxRecDepth 100000 in
theorem cC_count (l : Launch) (hst : l.stackTraces = false) (D : va_G) (cs : Nat → ClassId) (ad : Nat → Nat) (sa : Nat → Nat) {M : px_M} {p1 : Int32} {z : px_Z} (hf : fC_count M p1 = some z) : px_mX l D (tyC cs) (wC cs ad) sa yX5_count cX5_count 2 (some .int) 6 [.ref (ad 0), .int p1] M z := by
  refine px_ofX (by decide +kernel) (Nat.le_of_ble_eq_true rfl) ?_
  intro p e s m below meth c A ls X hr hlk hml hout w hE hl
  have hl : lv_has ls 2 [(0, .ref (ad 0)), (1, .int p1)] := hl
  unfold fC_count at hf
  refine lv_iload_n X.1 X.2.1 dX5_count_0 rfl (lv_at hl 1 rfl) ?_
  by_cases c1 : p1 = (0 : Int32)
  · have hf := px_ip c1 hf
    refine lv_tableIn (tgt := 44) X.1 X.2.1 dX5_count_1 (by rw [c1]; decide) (by rw [c1]; decide) (by rw [c1]; rfl) (by decide) ?_
    refine lv_aload_n X.1 X.2.1 dX5_count_44 rfl (lv_at hl 0 rfl) ?_
    refine gtC_0_7 X w dX5_count_45 ?_
    obtain ⟨r3, e2, hf⟩ := px_bq_e hf
    refine px_gI (As := []) (rest := []) X hml hl w (cC_Promises_size l D cs ad e2) lk_5_188 (Nat.le_of_ble_eq_true rfl) (Nat.le_of_ble_eq_true rfl) (Nat.zero_le _) (Nat.zero_le _) (rcC_32 X.2.2.2.2 w) rfl (Nat.le_of_ble_eq_true rfl) dX5_count_48 (fun H locs w => ?_)
    cases hf
    exact px_retX X hr hlk w dX5_count_51
  · have hf := px_in c1 hf
    by_cases c4 : p1 = (1 : Int32)
    · have hf := px_ip c4 hf
      refine lv_tableIn (tgt := 52) X.1 X.2.1 dX5_count_1 (by rw [c4]; decide) (by rw [c4]; decide) (by rw [c4]; rfl) (by decide) ?_
      refine lv_aload_n X.1 X.2.1 dX5_count_52 rfl (lv_at hl 0 rfl) ?_
      obtain ⟨r6, e5, hf⟩ := px_bq_e hf
      refine px_gI (As := []) (rest := []) X hml hl w (cC_waitingTasks l D cs ad e5) lk_5_129 (Nat.le_of_ble_eq_true rfl) (Nat.le_of_ble_eq_true rfl) (Nat.zero_le _) (Nat.zero_le _) (rcC_0 X.2.2.2.2 w) rfl (Nat.le_of_ble_eq_true rfl) dX5_count_53 (fun H locs w => ?_)
      cases hf
      exact px_retX X hr hlk w dX5_count_56
    · have hf := px_in c4 hf
      by_cases c7 : p1 = (2 : Int32)
      · have hf := px_ip c7 hf
        refine lv_tableIn (tgt := 57) X.1 X.2.1 dX5_count_1 (by rw [c7]; decide) (by rw [c7]; decide) (by rw [c7]; rfl) (by decide) ?_
        refine lv_aload_n X.1 X.2.1 dX5_count_57 rfl (lv_at hl 0 rfl) ?_
        refine gtC_0_3 X w dX5_count_58 ?_
        obtain ⟨r9, e8, hf⟩ := px_bq_e hf
        refine px_gI (As := []) (rest := []) X hml hl w (cC_Line_size_20 l D cs ad e8) lk_5_148 (Nat.le_of_ble_eq_true rfl) (Nat.le_of_ble_eq_true rfl) (Nat.zero_le _) (Nat.zero_le _) (rcC_20 X.2.2.2.2 w) rfl (Nat.le_of_ble_eq_true rfl) dX5_count_61 (fun H locs w => ?_)
        cases hf
        exact px_retX X hr hlk w dX5_count_64
      · have hf := px_in c7 hf
        by_cases c10 : p1 = (3 : Int32)
        · have hf := px_ip c10 hf
          refine lv_tableIn (tgt := 65) X.1 X.2.1 dX5_count_1 (by rw [c10]; decide) (by rw [c10]; decide) (by rw [c10]; rfl) (by decide) ?_
          refine lv_aload_n X.1 X.2.1 dX5_count_65 rfl (lv_at hl 0 rfl) ?_
          refine gtC_0_8 X w dX5_count_66 ?_
          obtain ⟨r12, e11, hf⟩ := px_bq_e hf
          refine px_gI (As := []) (rest := []) X hml hl w (cC_Timers_size l D cs ad e11) lk_5_189 (Nat.le_of_ble_eq_true rfl) (Nat.le_of_ble_eq_true rfl) (Nat.zero_le _) (Nat.zero_le _) (rcC_43 X.2.2.2.2 w) rfl (Nat.le_of_ble_eq_true rfl) dX5_count_69 (fun H locs w => ?_)
          cases hf
          exact px_retX X hr hlk w dX5_count_72
        · have hf := px_in c10 hf
          by_cases c13 : p1 = (4 : Int32)
          · have hf := px_ip c13 hf
            refine lv_tableIn (tgt := 73) X.1 X.2.1 dX5_count_1 (by rw [c13]; decide) (by rw [c13]; decide) (by rw [c13]; rfl) (by decide) ?_
            refine lv_aload_n X.1 X.2.1 dX5_count_73 rfl (lv_at hl 0 rfl) ?_
            refine gtC_0_4 X w dX5_count_74 ?_
            obtain ⟨r15, e14, hf⟩ := px_bq_e hf
            refine px_gI (As := []) (rest := []) X hml hl w (cC_Line_size_24 l D cs ad e14) lk_5_148 (Nat.le_of_ble_eq_true rfl) (Nat.le_of_ble_eq_true rfl) (Nat.zero_le _) (Nat.zero_le _) (rcC_24 X.2.2.2.2 w) rfl (Nat.le_of_ble_eq_true rfl) dX5_count_77 (fun H locs w => ?_)
            cases hf
            exact px_retX X hr hlk w dX5_count_80
          · have hf := px_in c13 hf
            by_cases c16 : p1 = (5 : Int32)
            · have hf := px_ip c16 hf
              refine lv_tableIn (tgt := 81) X.1 X.2.1 dX5_count_1 (by rw [c16]; decide) (by rw [c16]; decide) (by rw [c16]; rfl) (by decide) ?_
              refine lv_aload_n X.1 X.2.1 dX5_count_81 rfl (lv_at hl 0 rfl) ?_
              refine gtC_0_5 X w dX5_count_82 ?_
              obtain ⟨r18, e17, hf⟩ := px_bq_e hf
              refine px_gI (As := []) (rest := []) X hml hl w (cC_Journal_size_28 l D cs ad e17) lk_5_190 (Nat.le_of_ble_eq_true rfl) (Nat.le_of_ble_eq_true rfl) (Nat.zero_le _) (Nat.zero_le _) (rcC_28 X.2.2.2.2 w) rfl (Nat.le_of_ble_eq_true rfl) dX5_count_85 (fun H locs w => ?_)
              cases hf
              exact px_retX X hr hlk w dX5_count_88
            · have hf := px_in c16 hf
              by_cases c19 : p1 = (6 : Int32)
              · have hf := px_ip c19 hf
                refine lv_tableIn (tgt := 89) X.1 X.2.1 dX5_count_1 (by rw [c19]; decide) (by rw [c19]; decide) (by rw [c19]; rfl) (by decide) ?_
                refine lv_aload_n X.1 X.2.1 dX5_count_89 rfl (lv_at hl 0 rfl) ?_
                refine gtC_0_6 X w dX5_count_90 ?_
                obtain ⟨r21, e20, hf⟩ := px_bq_e hf
                refine px_gI (As := []) (rest := []) X hml hl w (cC_Journal_size_30 l D cs ad e20) lk_5_190 (Nat.le_of_ble_eq_true rfl) (Nat.le_of_ble_eq_true rfl) (Nat.zero_le _) (Nat.zero_le _) (rcC_30 X.2.2.2.2 w) rfl (Nat.le_of_ble_eq_true rfl) dX5_count_93 (fun H locs w => ?_)
                cases hf
                exact px_retX X hr hlk w dX5_count_96
              · have hf := px_in c19 hf
                refine lv_tableOut (tgt := 97) X.1 X.2.1 dX5_count_1 (by have := px_ne (v := 0) (by decide) c1; have := px_ne (v := 1) (by decide) c4; have := px_ne (v := 2) (by decide) c7; have := px_ne (v := 3) (by decide) c10; have := px_ne (v := 4) (by decide) c13; have := px_ne (v := 5) (by decide) c16; have := px_ne (v := 6) (by decide) c19; omega) (by decide) ?_
                cases hf
                exact px_thr hst X hml hl hlk hout w hE px_thI (is := 191) (text := "nothing is counted under this number") (by decide) (by decide) (by decide) dX5_count_97 dX5_count_100 dX5_count_101 dX5_count_103 dX5_count_106
theorem lk_5_193 : px_Lk RX5 193 yX1_has cX1_has 2 (some .boolean) 1 := ⟨px_tb (by decide +kernel) (by decide +kernel), px_tb (by decide +kernel) (by decide +kernel), px_tb (by decide +kernel) (by decide +kernel), px_tb (by decide +kernel) (by decide +kernel), px_tb (by decide +kernel) (by decide +kernel), by decide +kernel, by decide⟩
theorem lk_5_196 : px_Lk RX5 196 yX1_at cX1_at 2 (some .int) 1 := ⟨px_tb (by decide +kernel) (by decide +kernel), px_tb (by decide +kernel) (by decide +kernel), px_tb (by decide +kernel) (by decide +kernel), px_tb (by decide +kernel) (by decide +kernel), px_tb (by decide +kernel) (by decide +kernel), by decide +kernel, by decide⟩
def fC_logged (M : px_M) (p1 : Int32) : Option px_Z := px_bq (fC_Journal_has_28 M p1) (fun r2 => (if r2 = 0 then some (.inr "java/lang/IndexOutOfBoundsException") else px_bq (fC_Journal_at_28 M p1) (fun r5 => some (.inl (r5, M)))))
set_option maxHeartbeats 4000000 in
set_option maxRecDepth 100000 in
theorem cC_logged (l : Launch) (hst : l.stackTraces = false) (D : va_G) (cs : Nat → ClassId) (ad : Nat → Nat) (sa : Nat → Nat) {M : px_M} {p1 : Int32} {z : px_Z} (hf : fC_logged M p1 = some z) : px_mX l D (tyC cs) (wC cs ad) sa yX5_logged cX5_logged 2 (some .int) 6 [.ref (ad 0), .int p1] M z := by
  refine px_ofX (by decide +kernel) (Nat.le_of_ble_eq_true rfl) ?_
  intro p e s m below meth c A ls X hr hlk hml hout w hE hl
  have hl : lv_has ls 2 [(0, .ref (ad 0)), (1, .int p1)] := hl
  unfold fC_logged at hf
  refine lv_aload_n X.1 X.2.1 dX5_logged_0 rfl (lv_at hl 0 rfl) ?_
  refine gtC_0_5 X w dX5_logged_1 ?_
  refine lv_iload_n X.1 X.2.1 dX5_logged_4 rfl (lv_at hl 1 rfl) ?_
  obtain ⟨r2, e1, hf⟩ := px_bq_e hf
  refine px_gI (As := [.int p1]) (rest := []) X hml hl w (cC_Journal_has_28 l D cs ad e1) lk_5_193 (Nat.le_of_ble_eq_true rfl) (Nat.le_of_ble_eq_true rfl) (Nat.zero_le _) (Nat.zero_le _) (rcC_28 X.2.2.2.2 w) rfl (Nat.le_of_ble_eq_true rfl) dX5_logged_5 (fun H locs w => ?_)
  refine lv_if_ne (tgt := 21) X.1 X.2.1 dX5_logged_8 (by decide) (fun c3 => ?_) (fun c3 => ?_)
  · have hf := px_in c3 hf
    refine lv_aload_n X.1 X.2.1 dX5_logged_21 rfl (lv_at hl 0 rfl) ?_
    refine gtC_0_5 X w dX5_logged_22 ?_
    refine lv_iload_n X.1 X.2.1 dX5_logged_25 rfl (lv_at hl 1 rfl) ?_
    obtain ⟨r5, e4, hf⟩ := px_bq_e hf
    refine px_gI (As := [.int p1]) (rest := []) X hml hl w (cC_Journal_at_28 l D cs ad e4) lk_5_196 (Nat.le_of_ble_eq_true rfl) (Nat.le_of_ble_eq_true rfl) (Nat.zero_le _) (Nat.zero_le _) (rcC_28 X.2.2.2.2 w) rfl (Nat.le_of_ble_eq_true rfl) dX5_logged_26 (fun H locs w => ?_)
    cases hf
    exact px_retX X hr hlk w dX5_logged_29
  · have hf := px_ip c3 hf
    cases hf
    exact px_thr hst X hml hl hlk hout w hE px_thB (is := 194) (text := "not logged") (by decide) (by decide) (by decide) dX5_logged_11 dX5_logged_14 dX5_logged_15 dX5_logged_17 dX5_logged_20
def fC_reported (M : px_M) (p1 : Int32) : Option px_Z := px_bq (fC_Journal_has_30 M p1) (fun r2 => (if r2 = 0 then some (.inr "java/lang/IndexOutOfBoundsException") else px_bq (fC_Journal_at_30 M p1) (fun r5 => some (.inl (r5, M)))))
set_option maxHeartbeats 4000000 in
set_option maxRecDepth 100000 in
theorem cC_reported (l : Launch) (hst : l.stackTraces = false) (D : va_G) (cs : Nat → ClassId) (ad : Nat → Nat) (sa : Nat → Nat) {M : px_M} {p1 : Int32} {z : px_Z} (hf : fC_reported M p1 = some z) : px_mX l D (tyC cs) (wC cs ad) sa yX5_reported cX5_reported 2 (some .int) 6 [.ref (ad 0), .int p1] M z := by
  refine px_ofX (by decide +kernel) (Nat.le_of_ble_eq_true rfl) ?_
  intro p e s m below meth c A ls X hr hlk hml hout w hE hl
  have hl : lv_has ls 2 [(0, .ref (ad 0)), (1, .int p1)] := hl
  unfold fC_reported at hf
  refine lv_aload_n X.1 X.2.1 dX5_reported_0 rfl (lv_at hl 0 rfl) ?_
  refine gtC_0_6 X w dX5_reported_1 ?_
  refine lv_iload_n X.1 X.2.1 dX5_reported_4 rfl (lv_at hl 1 rfl) ?_
  obtain ⟨r2, e1, hf⟩ := px_bq_e hf
  refine px_gI (As := [.int p1]) (rest := []) X hml hl w (cC_Journal_has_30 l D cs ad e1) lk_5_193 (Nat.le_of_ble_eq_true rfl) (Nat.le_of_ble_eq_true rfl) (Nat.zero_le _) (Nat.zero_le _) (rcC_30 X.2.2.2.2 w) rfl (Nat.le_of_ble_eq_true rfl) dX5_reported_5 (fun H locs w => ?_)
  refine lv_if_ne (tgt := 21) X.1 X.2.1 dX5_reported_8 (by decide) (fun c3 => ?_) (fun c3 => ?_)
  · have hf := px_in c3 hf
    refine lv_aload_n X.1 X.2.1 dX5_reported_21 rfl (lv_at hl 0 rfl) ?_
    refine gtC_0_6 X w dX5_reported_22 ?_
    refine lv_iload_n X.1 X.2.1 dX5_reported_25 rfl (lv_at hl 1 rfl) ?_
    obtain ⟨r5, e4, hf⟩ := px_bq_e hf
    refine px_gI (As := [.int p1]) (rest := []) X hml hl w (cC_Journal_at_30 l D cs ad e4) lk_5_196 (Nat.le_of_ble_eq_true rfl) (Nat.le_of_ble_eq_true rfl) (Nat.zero_le _) (Nat.zero_le _) (rcC_30 X.2.2.2.2 w) rfl (Nat.le_of_ble_eq_true rfl) dX5_reported_26 (fun H locs w => ?_)
    cases hf
    exact px_retX X hr hlk w dX5_reported_29
  · have hf := px_ip c3 hf
    cases hf
    exact px_thr hst X hml hl hlk hout w hE px_thB (is := 199) (text := "not reported") (by decide) (by decide) (by decide) dX5_reported_11 dX5_reported_14 dX5_reported_15 dX5_reported_17 dX5_reported_20
