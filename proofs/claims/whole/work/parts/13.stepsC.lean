def fC_isWithin (M : px_M) (p0 p1 p2 : Int32) : Option Int32 := (if p0 < p1 then some (0 : Int32) else (if p2 < p0 then some (0 : Int32) else some (1 : Int32)))
set_option maxHeartbeats 4000000 in
set_option maxRecDepth 100000 in
theorem cC_isWithin (l : Launch) (D : va_G) (cs : Nat → ClassId) (ad : Nat → Nat) {M : px_M} {p0 p1 p2 : Int32} {r : Int32} (hf : fC_isWithin M p0 p1 p2 = some r) : px_mI l D (tyC cs) (wC cs ad) yX5_isWithin cX5_isWithin 3 (some .boolean) 0 [.int p0, .int p1, .int p2] M r M := by
  refine px_ofI (by decide +kernel) (Nat.le_of_ble_eq_true rfl) ?_
  intro p e s m below meth c A ls X hr hlk hml w hl
  have hl : lv_has ls 3 [(0, .int p0), (1, .int p1), (2, .int p2)] := hl
  unfold fC_isWithin at hf
  refine lv_iload_n X.1 X.2.1 dX5_isWithin_0 rfl (lv_at hl 0 rfl) ?_
  refine lv_iload_n X.1 X.2.1 dX5_isWithin_1 rfl (lv_at hl 1 rfl) ?_
  refine lv_icmp_lt (tgt := 14) X.1 X.2.1 dX5_isWithin_2 (by decide) (fun c1 => ?_) (fun c1 => ?_)
  · have hf := px_ip c1 hf
    refine lv_iconst (v := (0 : Int32)) X.1 X.2.1 dX5_isWithin_14 (by decide) ?_
    cases hf
    exact px_retZ X hr hlk narrow_b0 w dX5_isWithin_15
  · have hf := px_in c1 hf
    refine lv_iload_n X.1 X.2.1 dX5_isWithin_5 rfl (lv_at hl 0 rfl) ?_
    refine lv_iload_n X.1 X.2.1 dX5_isWithin_6 rfl (lv_at hl 2 rfl) ?_
    refine lv_icmp_gt (tgt := 14) X.1 X.2.1 dX5_isWithin_7 (by decide) (fun c2 => ?_) (fun c2 => ?_)
    · have hf := px_ip c2 hf
      refine lv_iconst (v := (0 : Int32)) X.1 X.2.1 dX5_isWithin_14 (by decide) ?_
      cases hf
      exact px_retZ X hr hlk narrow_b0 w dX5_isWithin_15
    · have hf := px_in c2 hf
      refine lv_iconst (v := (1 : Int32)) X.1 X.2.1 dX5_isWithin_10 (by decide) ?_
      refine lv_goto (tgt := 15) X.1 X.2.1 dX5_isWithin_11 (by decide) ?_
      cases hf
      exact px_retZ X hr hlk narrow_b1 w dX5_isWithin_15
theorem lk_5_155 : px_Ls RX5 155 yX5_isWithin cX5_isWithin 3 (some .boolean) 3 := ⟨px_tb (by decide +kernel) (by decide +kernel), px_tb (by decide +kernel) (by decide +kernel), px_tb (by decide +kernel) (by decide +kernel), px_tb (by decide +kernel) (by decide +kernel), by decide +kernel, by decide⟩
def fC_isFunction (M : px_M) (p0 : Int32) : Option Int32 := px_bq (fC_isWithin M p0 (0 : Int32) (9 : Int32)) (fun r2 => px_cb r2 (some r2))
set_option maxHeartbeats 4000000 in
set_option maxRecDepth 100000 in
theorem cC_isFunction (l : Launch) (D : va_G) (cs : Nat → ClassId) (ad : Nat → Nat) {M : px_M} {p0 : Int32} {r : Int32} (hf : fC_isFunction M p0 = some r) : px_mI l D (tyC cs) (wC cs ad) yX5_isFunction cX5_isFunction 1 (some .boolean) 1 [.int p0] M r M := by
  refine px_ofI (by decide +kernel) (Nat.le_of_ble_eq_true rfl) ?_
  intro p e s m below meth c A ls X hr hlk hml w hl
  have hl : lv_has ls 1 [(0, .int p0)] := hl
  unfold fC_isFunction at hf
  refine lv_iload_n X.1 X.2.1 dX5_isFunction_0 rfl (lv_at hl 0 rfl) ?_
  refine lv_iconst (v := (0 : Int32)) X.1 X.2.1 dX5_isFunction_1 (by decide) ?_
  refine lv_bipush (v := (9 : Int32)) X.1 X.2.1 dX5_isFunction_2 (by decide) ?_
  obtain ⟨r2, e1, hf⟩ := px_bq_e hf
  refine px_cS (As := [.int p0, .int (0 : Int32), .int (9 : Int32)]) (rest := []) X hml hl w (cC_isWithin l D cs ad e1) lk_5_155 (by decide) rfl (Nat.le_of_ble_eq_true rfl) dX5_isFunction_4 (fun H locs w => ?_)
  obtain ⟨b3, hf⟩ := px_cb_e hf
  cases hf
  exact px_retZ X hr hlk b3 w dX5_isFunction_7
def fC_isRegister (M : px_M) (p0 : Int32) : Option Int32 := px_bq (fC_isWithin M p0 (0 : Int32) (7 : Int32)) (fun r2 => px_cb r2 (some r2))
set_option maxHeartbeats 4000000 in
set_option maxRecDepth 100000 in
theorem cC_isRegister (l : Launch) (D : va_G) (cs : Nat → ClassId) (ad : Nat → Nat) {M : px_M} {p0 : Int32} {r : Int32} (hf : fC_isRegister M p0 = some r) : px_mI l D (tyC cs) (wC cs ad) yX5_isRegister cX5_isRegister 1 (some .boolean) 1 [.int p0] M r M := by
  refine px_ofI (by decide +kernel) (Nat.le_of_ble_eq_true rfl) ?_
  intro p e s m below meth c A ls X hr hlk hml w hl
  have hl : lv_has ls 1 [(0, .int p0)] := hl
  unfold fC_isRegister at hf
  refine lv_iload_n X.1 X.2.1 dX5_isRegister_0 rfl (lv_at hl 0 rfl) ?_
  refine lv_iconst (v := (0 : Int32)) X.1 X.2.1 dX5_isRegister_1 (by decide) ?_
  refine lv_bipush (v := (7 : Int32)) X.1 X.2.1 dX5_isRegister_2 (by decide) ?_
  obtain ⟨r2, e1, hf⟩ := px_bq_e hf
  refine px_cS (As := [.int p0, .int (0 : Int32), .int (7 : Int32)]) (rest := []) X hml hl w (cC_isWithin l D cs ad e1) lk_5_155 (by decide) rfl (Nat.le_of_ble_eq_true rfl) dX5_isRegister_4 (fun H locs w => ?_)
  obtain ⟨b3, hf⟩ := px_cb_e hf
  cases hf
  exact px_retZ X hr hlk b3 w dX5_isRegister_7
def fC_isSource (M : px_M) (p0 : Int32) : Option Int32 := px_bq (fC_isWithin M p0 (0 : Int32) (2 : Int32)) (fun r2 => px_cb r2 (some r2))
set_option maxHeartbeats 4000000 in
set_option maxRecDepth 100000 in
theorem cC_isSource (l : Launch) (D : va_G) (cs : Nat → ClassId) (ad : Nat → Nat) {M : px_M} {p0 : Int32} {r : Int32} (hf : fC_isSource M p0 = some r) : px_mI l D (tyC cs) (wC cs ad) yX5_isSource cX5_isSource 1 (some .boolean) 1 [.int p0] M r M := by
  refine px_ofI (by decide +kernel) (Nat.le_of_ble_eq_true rfl) ?_
  intro p e s m below meth c A ls X hr hlk hml w hl
  have hl : lv_has ls 1 [(0, .int p0)] := hl
  unfold fC_isSource at hf
  refine lv_iload_n X.1 X.2.1 dX5_isSource_0 rfl (lv_at hl 0 rfl) ?_
  refine lv_iconst (v := (0 : Int32)) X.1 X.2.1 dX5_isSource_1 (by decide) ?_
  refine lv_iconst (v := (2 : Int32)) X.1 X.2.1 dX5_isSource_2 (by decide) ?_
  obtain ⟨r2, e1, hf⟩ := px_bq_e hf
  refine px_cS (As := [.int p0, .int (0 : Int32), .int (2 : Int32)]) (rest := []) X hml hl w (cC_isWithin l D cs ad e1) lk_5_155 (by decide) rfl (Nat.le_of_ble_eq_true rfl) dX5_isSource_3 (fun H locs w => ?_)
  obtain ⟨b3, hf⟩ := px_cb_e hf
  cases hf
  exact px_retZ X hr hlk b3 w dX5_isSource_6
def fC_isNumber (M : px_M) (p0 : Int32) : Option Int32 := px_bq (fC_isWithin M p0 (-999 : Int32) (999 : Int32)) (fun r2 => px_cb r2 (some r2))
set_option maxHeartbeats 4000000 in
set_option maxRecDepth 100000 in
theorem cC_isNumber (l : Launch) (D : va_G) (cs : Nat → ClassId) (ad : Nat → Nat) {M : px_M} {p0 : Int32} {r : Int32} (hf : fC_isNumber M p0 = some r) : px_mI l D (tyC cs) (wC cs ad) yX5_isNumber cX5_isNumber 1 (some .boolean) 1 [.int p0] M r M := by
  refine px_ofI (by decide +kernel) (Nat.le_of_ble_eq_true rfl) ?_
  intro p e s m below meth c A ls X hr hlk hml w hl
  have hl : lv_has ls 1 [(0, .int p0)] := hl
  unfold fC_isNumber at hf
  refine lv_iload_n X.1 X.2.1 dX5_isNumber_0 rfl (lv_at hl 0 rfl) ?_
  refine lv_sipush (v := (-999 : Int32)) X.1 X.2.1 dX5_isNumber_1 (by decide) ?_
  refine lv_sipush (v := (999 : Int32)) X.1 X.2.1 dX5_isNumber_4 (by decide) ?_
  obtain ⟨r2, e1, hf⟩ := px_bq_e hf
  refine px_cS (As := [.int p0, .int (-999 : Int32), .int (999 : Int32)]) (rest := []) X hml hl w (cC_isWithin l D cs ad e1) lk_5_155 (by decide) rfl (Nat.le_of_ble_eq_true rfl) dX5_isNumber_7 (fun H locs w => ?_)
  obtain ⟨b3, hf⟩ := px_cb_e hf
  cases hf
  exact px_retZ X hr hlk b3 w dX5_isNumber_10
def fC_isChoice (M : px_M) (p0 : Int32) : Option Int32 := px_bq (fC_isWithin M p0 (0 : Int32) (1 : Int32)) (fun r2 => px_cb r2 (some r2))
set_option maxHeartbeats 4000000 in
set_option maxRecDepth 100000 in
theorem cC_isChoice (l : Launch) (D : va_G) (cs : Nat → ClassId) (ad : Nat → Nat) {M : px_M} {p0 : Int32} {r : Int32} (hf : fC_isChoice M p0 = some r) : px_mI l D (tyC cs) (wC cs ad) yX5_isChoice cX5_isChoice 1 (some .boolean) 1 [.int p0] M r M := by
  refine px_ofI (by decide +kernel) (Nat.le_of_ble_eq_true rfl) ?_
  intro p e s m below meth c A ls X hr hlk hml w hl
  have hl : lv_has ls 1 [(0, .int p0)] := hl
  unfold fC_isChoice at hf
  refine lv_iload_n X.1 X.2.1 dX5_isChoice_0 rfl (lv_at hl 0 rfl) ?_
  refine lv_iconst (v := (0 : Int32)) X.1 X.2.1 dX5_isChoice_1 (by decide) ?_
  refine lv_iconst (v := (1 : Int32)) X.1 X.2.1 dX5_isChoice_2 (by decide) ?_
  obtain ⟨r2, e1, hf⟩ := px_bq_e hf
  refine px_cS (As := [.int p0, .int (0 : Int32), .int (1 : Int32)]) (rest := []) X hml hl w (cC_isWithin l D cs ad e1) lk_5_155 (by decide) rfl (Nat.le_of_ble_eq_true rfl) dX5_isChoice_3 (fun H locs w => ?_)
  obtain ⟨b3, hf⟩ := px_cb_e hf
  cases hf
  exact px_retZ X hr hlk b3 w dX5_isChoice_6
theorem lk_5_204 : px_Ls RX5 204 yX5_isNumber cX5_isNumber 1 (some .boolean) 1 := ⟨px_tb (by decide +kernel) (by decide +kernel), px_tb (by decide +kernel) (by decide +kernel), px_tb (by decide +kernel) (by decide +kernel), px_tb (by decide +kernel) (by decide +kernel), by decide +kernel, by decide⟩
theorem lk_5_207 : px_Ls RX5 207 yX5_isChoice cX5_isChoice 1 (some .boolean) 1 := ⟨px_tb (by decide +kernel) (by decide +kernel), px_tb (by decide +kernel) (by decide +kernel), px_tb (by decide +kernel) (by decide +kernel), px_tb (by decide +kernel) (by decide +kernel), by decide +kernel, by decide⟩
theorem lk_5_91 : px_Ls RX5 91 yX5_isFunction cX5_isFunction 1 (some .boolean) 1 := ⟨px_tb (by decide +kernel) (by decide +kernel), px_tb (by decide +kernel) (by decide +kernel), px_tb (by decide +kernel) (by decide +kernel), px_tb (by decide +kernel) (by decide +kernel), by decide +kernel, by decide⟩
theorem lk_5_124 : px_Ls RX5 124 yX5_isSource cX5_isSource 1 (some .boolean) 1 := ⟨px_tb (by decide +kernel) (by decide +kernel), px_tb (by decide +kernel) (by decide +kernel), px_tb (by decide +kernel) (by decide +kernel), px_tb (by decide +kernel) (by decide +kernel), by decide +kernel, by decide⟩
theorem lk_5_164 : px_Ls RX5 164 yX5_isRegister cX5_isRegister 1 (some .boolean) 1 := ⟨px_tb (by decide +kernel) (by decide +kernel), px_tb (by decide +kernel) (by decide +kernel), px_tb (by decide +kernel) (by decide +kernel), px_tb (by decide +kernel) (by decide +kernel), by decide +kernel, by decide⟩
def fC_isKnown (M : px_M) (p0 p1 p2 : Int32) : Option Int32 := (if p0 = (0 : Int32) then px_bq (fC_isNumber M p1) (fun r3 => (if r3 = 0 then some (0 : Int32) else px_bq (fC_isChoice M p2) (fun r6 => (if r6 = 0 then some (0 : Int32) else some (1 : Int32))))) else (if p0 = (1 : Int32) then px_bq (fC_isFunction M p1) (fun r10 => (if r10 = 0 then some (0 : Int32) else px_bq (fC_isSource M p2) (fun r13 => (if r13 = 0 then some (0 : Int32) else some (1 : Int32))))) else (if p0 = (2 : Int32) then px_bq (fC_isFunction M p1) (fun r17 => px_cb r17 (some r17)) else (if p0 = (3 : Int32) then px_bq (fC_isFunction M p1) (fun r21 => (if r21 = 0 then some (0 : Int32) else px_bq (fC_isWithin M p2 (0 : Int32) (200 : Int32)) (fun r24 => (if r24 = 0 then some (0 : Int32) else some (1 : Int32))))) else (if p0 = (4 : Int32) then px_bq (fC_isFunction M p1) (fun r28 => (if r28 = 0 then some (0 : Int32) else px_bq (fC_isWithin M p2 (0 : Int32) (200 : Int32)) (fun r31 => (if r31 = 0 then some (0 : Int32) else some (1 : Int32))))) else (if p0 = (5 : Int32) then px_bq (fC_isNumber M p1) (fun r35 => px_cb r35 (some r35)) else (if p0 = (6 : Int32) then px_bq (fC_isNumber M p1) (fun r39 => (if r39 = 0 then some (0 : Int32) else px_bq (fC_isChoice M p2) (fun r42 => (if r42 = 0 then some (0 : Int32) else some (1 : Int32))))) else (if p0 = (7 : Int32) then px_bq (fC_isFunction M p1) (fun r46 => px_cb r46 (some r46)) else (if p0 = (8 : Int32) then px_bq (fC_isFunction M p1) (fun r50 => (if r50 = 0 then some (0 : Int32) else px_bq (fC_isFunction M p2) (fun r53 => (if r53 = 0 then some (0 : Int32) else some (1 : Int32))))) else (if p0 = (9 : Int32) then (if p2 = (2 : Int32) then px_bq (fC_isRegister M p1) (fun r64 => px_cb r64 (some r64)) else px_bq (fC_isNumber M p1) (fun r58 => (if r58 = 0 then some (0 : Int32) else px_bq (fC_isChoice M p2) (fun r61 => (if r61 = 0 then some (0 : Int32) else some (1 : Int32)))))) else (if p0 = (10 : Int32) then px_bq (fC_isRegister M p1) (fun r68 => px_cb r68 (some r68)) else (if p0 = (11 : Int32) then px_bq (fC_isRegister M p1) (fun r72 => (if r72 = 0 then some (0 : Int32) else px_bq (fC_isChoice M p2) (fun r75 => (if r75 = 0 then some (0 : Int32) else some (1 : Int32))))) else (if p0 = (12 : Int32) then px_bq (fC_isRegister M p1) (fun r79 => (if r79 = 0 then some (0 : Int32) else px_bq (fC_isRegister M p2) (fun r82 => (if r82 = 0 then some (0 : Int32) else some (1 : Int32))))) else (if p0 = (13 : Int32) then px_bq (fC_isRegister M p1) (fun r86 => (if r86 = 0 then some (0 : Int32) else px_bq (fC_isWithin M p2 (0 : Int32) (255 : Int32)) (fun r89 => (if r89 = 0 then some (0 : Int32) else some (1 : Int32))))) else (if p0 = (14 : Int32) then px_bq (fC_isFunction M p1) (fun r93 => px_cb r93 (some r93)) else (if p0 = (15 : Int32) then px_bq (fC_isRegister M p1) (fun r97 => (if r97 = 0 then some (0 : Int32) else px_bq (fC_isRegister M p2) (fun r100 => (if r100 = 0 then some (0 : Int32) else some (1 : Int32))))) else some (0 : Int32)))))))))))))))))
set_option maxHeartbeats 4000000 in
set_option maxRecDepth 100000 in
theorem cC_isKnown (l : Launch) (D : va_G) (cs : Nat → ClassId) (ad : Nat → Nat) {M : px_M} {p0 p1 p2 : Int32} {r : Int32} (hf : fC_isKnown M p0 p1 p2 = some r) : px_mI l D (tyC cs) (wC cs ad) yX5_isKnown cX5_isKnown 3 (some .boolean) 2 [.int p0, .int p1, .int p2] M r M := by
  refine px_ofI (by decide +kernel) (Nat.le_of_ble_eq_true rfl) ?_
  intro p e s m below meth c A ls X hr hlk hml w hl
  have hl : lv_has ls 3 [(0, .int p0), (1, .int p1), (2, .int p2)] := hl
  unfold fC_isKnown at hf
  refine lv_iload_n X.1 X.2.1 dX5_isKnown_0 rfl (lv_at hl 0 rfl) ?_
  by_cases c1 : p0 = (0 : Int32)
  · have hf := px_ip c1 hf
    refine lv_tableIn (tgt := 80) X.1 X.2.1 dX5_isKnown_1 (by rw [c1]; decide) (by rw [c1]; decide) (by rw [c1]; rfl) (by decide) ?_
    refine lv_iload_n X.1 X.2.1 dX5_isKnown_80 rfl (lv_at hl 1 rfl) ?_
    obtain ⟨r3, e2, hf⟩ := px_bq_e hf
    refine px_cS (As := [.int p1]) (rest := []) X hml hl w (cC_isNumber l D cs ad e2) lk_5_204 (by decide) rfl (Nat.le_of_ble_eq_true rfl) dX5_isKnown_81 (fun H locs w => ?_)
    refine lv_if_eq (tgt := 98) X.1 X.2.1 dX5_isKnown_84 (by decide) (fun c4 => ?_) (fun c4 => ?_)
    · have hf := px_ip c4 hf
      refine lv_iconst (v := (0 : Int32)) X.1 X.2.1 dX5_isKnown_98 (by decide) ?_
      cases hf
      exact px_retZ X hr hlk narrow_b0 w dX5_isKnown_99
    · have hf := px_in c4 hf
      refine lv_iload_n X.1 X.2.1 dX5_isKnown_87 rfl (lv_at hl 2 rfl) ?_
      obtain ⟨r6, e5, hf⟩ := px_bq_e hf
      refine px_cS (As := [.int p2]) (rest := []) X hml hl w (cC_isChoice l D cs ad e5) lk_5_207 (by decide) rfl (Nat.le_of_ble_eq_true rfl) dX5_isKnown_88 (fun H locs w => ?_)
      refine lv_if_eq (tgt := 98) X.1 X.2.1 dX5_isKnown_91 (by decide) (fun c7 => ?_) (fun c7 => ?_)
      · have hf := px_ip c7 hf
        refine lv_iconst (v := (0 : Int32)) X.1 X.2.1 dX5_isKnown_98 (by decide) ?_
        cases hf
        exact px_retZ X hr hlk narrow_b0 w dX5_isKnown_99
      · have hf := px_in c7 hf
        refine lv_iconst (v := (1 : Int32)) X.1 X.2.1 dX5_isKnown_94 (by decide) ?_
        refine lv_goto (tgt := 99) X.1 X.2.1 dX5_isKnown_95 (by decide) ?_
        cases hf
        exact px_retZ X hr hlk narrow_b1 w dX5_isKnown_99
  · have hf := px_in c1 hf
    by_cases c8 : p0 = (1 : Int32)
    · have hf := px_ip c8 hf
      refine lv_tableIn (tgt := 100) X.1 X.2.1 dX5_isKnown_1 (by rw [c8]; decide) (by rw [c8]; decide) (by rw [c8]; rfl) (by decide) ?_
      refine lv_iload_n X.1 X.2.1 dX5_isKnown_100 rfl (lv_at hl 1 rfl) ?_
      obtain ⟨r10, e9, hf⟩ := px_bq_e hf
      refine px_cS (As := [.int p1]) (rest := []) X hml hl w (cC_isFunction l D cs ad e9) lk_5_91 (by decide) rfl (Nat.le_of_ble_eq_true rfl) dX5_isKnown_101 (fun H locs w => ?_)
      refine lv_if_eq (tgt := 118) X.1 X.2.1 dX5_isKnown_104 (by decide) (fun c11 => ?_) (fun c11 => ?_)
      · have hf := px_ip c11 hf
        refine lv_iconst (v := (0 : Int32)) X.1 X.2.1 dX5_isKnown_118 (by decide) ?_
        cases hf
        exact px_retZ X hr hlk narrow_b0 w dX5_isKnown_119
      · have hf := px_in c11 hf
        refine lv_iload_n X.1 X.2.1 dX5_isKnown_107 rfl (lv_at hl 2 rfl) ?_
        obtain ⟨r13, e12, hf⟩ := px_bq_e hf
        refine px_cS (As := [.int p2]) (rest := []) X hml hl w (cC_isSource l D cs ad e12) lk_5_124 (by decide) rfl (Nat.le_of_ble_eq_true rfl) dX5_isKnown_108 (fun H locs w => ?_)
        refine lv_if_eq (tgt := 118) X.1 X.2.1 dX5_isKnown_111 (by decide) (fun c14 => ?_) (fun c14 => ?_)
        · have hf := px_ip c14 hf
          refine lv_iconst (v := (0 : Int32)) X.1 X.2.1 dX5_isKnown_118 (by decide) ?_
          cases hf
          exact px_retZ X hr hlk narrow_b0 w dX5_isKnown_119
        · have hf := px_in c14 hf
          refine lv_iconst (v := (1 : Int32)) X.1 X.2.1 dX5_isKnown_114 (by decide) ?_
          refine lv_goto (tgt := 119) X.1 X.2.1 dX5_isKnown_115 (by decide) ?_
          cases hf
          exact px_retZ X hr hlk narrow_b1 w dX5_isKnown_119
    · have hf := px_in c8 hf
      by_cases c15 : p0 = (2 : Int32)
      · have hf := px_ip c15 hf
        refine lv_tableIn (tgt := 120) X.1 X.2.1 dX5_isKnown_1 (by rw [c15]; decide) (by rw [c15]; decide) (by rw [c15]; rfl) (by decide) ?_
        refine lv_iload_n X.1 X.2.1 dX5_isKnown_120 rfl (lv_at hl 1 rfl) ?_
        obtain ⟨r17, e16, hf⟩ := px_bq_e hf
        refine px_cS (As := [.int p1]) (rest := []) X hml hl w (cC_isFunction l D cs ad e16) lk_5_91 (by decide) rfl (Nat.le_of_ble_eq_true rfl) dX5_isKnown_121 (fun H locs w => ?_)
        obtain ⟨b18, hf⟩ := px_cb_e hf
        cases hf
        exact px_retZ X hr hlk b18 w dX5_isKnown_124
      · have hf := px_in c15 hf
        by_cases c19 : p0 = (3 : Int32)
        · have hf := px_ip c19 hf
          refine lv_tableIn (tgt := 125) X.1 X.2.1 dX5_isKnown_1 (by rw [c19]; decide) (by rw [c19]; decide) (by rw [c19]; rfl) (by decide) ?_
          refine lv_iload_n X.1 X.2.1 dX5_isKnown_125 rfl (lv_at hl 1 rfl) ?_
          obtain ⟨r21, e20, hf⟩ := px_bq_e hf
          refine px_cS (As := [.int p1]) (rest := []) X hml hl w (cC_isFunction l D cs ad e20) lk_5_91 (by decide) rfl (Nat.le_of_ble_eq_true rfl) dX5_isKnown_126 (fun H locs w => ?_)
          refine lv_if_eq (tgt := 147) X.1 X.2.1 dX5_isKnown_129 (by decide) (fun c22 => ?_) (fun c22 => ?_)
          · have hf := px_ip c22 hf
            refine lv_iconst (v := (0 : Int32)) X.1 X.2.1 dX5_isKnown_147 (by decide) ?_
            cases hf
            exact px_retZ X hr hlk narrow_b0 w dX5_isKnown_148
          · have hf := px_in c22 hf
            refine lv_iload_n X.1 X.2.1 dX5_isKnown_132 rfl (lv_at hl 2 rfl) ?_
            refine lv_iconst (v := (0 : Int32)) X.1 X.2.1 dX5_isKnown_133 (by decide) ?_
            refine lv_sipush (v := (200 : Int32)) X.1 X.2.1 dX5_isKnown_134 (by decide) ?_
            obtain ⟨r24, e23, hf⟩ := px_bq_e hf
            refine px_cS (As := [.int p2, .int (0 : Int32), .int (200 : Int32)]) (rest := []) X hml hl w (cC_isWithin l D cs ad e23) lk_5_155 (by decide) rfl (Nat.le_of_ble_eq_true rfl) dX5_isKnown_137 (fun H locs w => ?_)
            refine lv_if_eq (tgt := 147) X.1 X.2.1 dX5_isKnown_140 (by decide) (fun c25 => ?_) (fun c25 => ?_)
            · have hf := px_ip c25 hf
              refine lv_iconst (v := (0 : Int32)) X.1 X.2.1 dX5_isKnown_147 (by decide) ?_
              cases hf
              exact px_retZ X hr hlk narrow_b0 w dX5_isKnown_148
            · have hf := px_in c25 hf
              refine lv_iconst (v := (1 : Int32)) X.1 X.2.1 dX5_isKnown_143 (by decide) ?_
              refine lv_goto (tgt := 148) X.1 X.2.1 dX5_isKnown_144 (by decide) ?_
              cases hf
              exact px_retZ X hr hlk narrow_b1 w dX5_isKnown_148
        · have hf := px_in c19 hf
          by_cases c26 : p0 = (4 : Int32)
          · have hf := px_ip c26 hf
            refine lv_tableIn (tgt := 125) X.1 X.2.1 dX5_isKnown_1 (by rw [c26]; decide) (by rw [c26]; decide) (by rw [c26]; rfl) (by decide) ?_
            refine lv_iload_n X.1 X.2.1 dX5_isKnown_125 rfl (lv_at hl 1 rfl) ?_
            obtain ⟨r28, e27, hf⟩ := px_bq_e hf
            refine px_cS (As := [.int p1]) (rest := []) X hml hl w (cC_isFunction l D cs ad e27) lk_5_91 (by decide) rfl (Nat.le_of_ble_eq_true rfl) dX5_isKnown_126 (fun H locs w => ?_)
            refine lv_if_eq (tgt := 147) X.1 X.2.1 dX5_isKnown_129 (by decide) (fun c29 => ?_) (fun c29 => ?_)
            · have hf := px_ip c29 hf
              refine lv_iconst (v := (0 : Int32)) X.1 X.2.1 dX5_isKnown_147 (by decide) ?_
              cases hf
              exact px_retZ X hr hlk narrow_b0 w dX5_isKnown_148
            · have hf := px_in c29 hf
              refine lv_iload_n X.1 X.2.1 dX5_isKnown_132 rfl (lv_at hl 2 rfl) ?_
              refine lv_iconst (v := (0 : Int32)) X.1 X.2.1 dX5_isKnown_133 (by decide) ?_
              refine lv_sipush (v := (200 : Int32)) X.1 X.2.1 dX5_isKnown_134 (by decide) ?_
              obtain ⟨r31, e30, hf⟩ := px_bq_e hf
              refine px_cS (As := [.int p2, .int (0 : Int32), .int (200 : Int32)]) (rest := []) X hml hl w (cC_isWithin l D cs ad e30) lk_5_155 (by decide) rfl (Nat.le_of_ble_eq_true rfl) dX5_isKnown_137 (fun H locs w => ?_)
              refine lv_if_eq (tgt := 147) X.1 X.2.1 dX5_isKnown_140 (by decide) (fun c32 => ?_) (fun c32 => ?_)
              · have hf := px_ip c32 hf
                refine lv_iconst (v := (0 : Int32)) X.1 X.2.1 dX5_isKnown_147 (by decide) ?_
                cases hf
                exact px_retZ X hr hlk narrow_b0 w dX5_isKnown_148
              · have hf := px_in c32 hf
                refine lv_iconst (v := (1 : Int32)) X.1 X.2.1 dX5_isKnown_143 (by decide) ?_
                refine lv_goto (tgt := 148) X.1 X.2.1 dX5_isKnown_144 (by decide) ?_
                cases hf
                exact px_retZ X hr hlk narrow_b1 w dX5_isKnown_148
          · have hf := px_in c26 hf
            by_cases c33 : p0 = (5 : Int32)
            · have hf := px_ip c33 hf
              refine lv_tableIn (tgt := 149) X.1 X.2.1 dX5_isKnown_1 (by rw [c33]; decide) (by rw [c33]; decide) (by rw [c33]; rfl) (by decide) ?_
              refine lv_iload_n X.1 X.2.1 dX5_isKnown_149 rfl (lv_at hl 1 rfl) ?_
              obtain ⟨r35, e34, hf⟩ := px_bq_e hf
              refine px_cS (As := [.int p1]) (rest := []) X hml hl w (cC_isNumber l D cs ad e34) lk_5_204 (by decide) rfl (Nat.le_of_ble_eq_true rfl) dX5_isKnown_150 (fun H locs w => ?_)
              obtain ⟨b36, hf⟩ := px_cb_e hf
              cases hf
              exact px_retZ X hr hlk b36 w dX5_isKnown_153
            · have hf := px_in c33 hf
              by_cases c37 : p0 = (6 : Int32)
              · have hf := px_ip c37 hf
                refine lv_tableIn (tgt := 80) X.1 X.2.1 dX5_isKnown_1 (by rw [c37]; decide) (by rw [c37]; decide) (by rw [c37]; rfl) (by decide) ?_
                refine lv_iload_n X.1 X.2.1 dX5_isKnown_80 rfl (lv_at hl 1 rfl) ?_
                obtain ⟨r39, e38, hf⟩ := px_bq_e hf
                refine px_cS (As := [.int p1]) (rest := []) X hml hl w (cC_isNumber l D cs ad e38) lk_5_204 (by decide) rfl (Nat.le_of_ble_eq_true rfl) dX5_isKnown_81 (fun H locs w => ?_)
                refine lv_if_eq (tgt := 98) X.1 X.2.1 dX5_isKnown_84 (by decide) (fun c40 => ?_) (fun c40 => ?_)
                · have hf := px_ip c40 hf
                  refine lv_iconst (v := (0 : Int32)) X.1 X.2.1 dX5_isKnown_98 (by decide) ?_
                  cases hf
                  exact px_retZ X hr hlk narrow_b0 w dX5_isKnown_99
                · have hf := px_in c40 hf
                  refine lv_iload_n X.1 X.2.1 dX5_isKnown_87 rfl (lv_at hl 2 rfl) ?_
                  obtain ⟨r42, e41, hf⟩ := px_bq_e hf
                  refine px_cS (As := [.int p2]) (rest := []) X hml hl w (cC_isChoice l D cs ad e41) lk_5_207 (by decide) rfl (Nat.le_of_ble_eq_true rfl) dX5_isKnown_88 (fun H locs w => ?_)
                  refine lv_if_eq (tgt := 98) X.1 X.2.1 dX5_isKnown_91 (by decide) (fun c43 => ?_) (fun c43 => ?_)
                  · have hf := px_ip c43 hf
                    refine lv_iconst (v := (0 : Int32)) X.1 X.2.1 dX5_isKnown_98 (by decide) ?_
                    cases hf
                    exact px_retZ X hr hlk narrow_b0 w dX5_isKnown_99
                  · have hf := px_in c43 hf
                    refine lv_iconst (v := (1 : Int32)) X.1 X.2.1 dX5_isKnown_94 (by decide) ?_
                    refine lv_goto (tgt := 99) X.1 X.2.1 dX5_isKnown_95 (by decide) ?_
                    cases hf
                    exact px_retZ X hr hlk narrow_b1 w dX5_isKnown_99
              · have hf := px_in c37 hf
                by_cases c44 : p0 = (7 : Int32)
                · have hf := px_ip c44 hf
                  refine lv_tableIn (tgt := 120) X.1 X.2.1 dX5_isKnown_1 (by rw [c44]; decide) (by rw [c44]; decide) (by rw [c44]; rfl) (by decide) ?_
                  refine lv_iload_n X.1 X.2.1 dX5_isKnown_120 rfl (lv_at hl 1 rfl) ?_
                  obtain ⟨r46, e45, hf⟩ := px_bq_e hf
                  refine px_cS (As := [.int p1]) (rest := []) X hml hl w (cC_isFunction l D cs ad e45) lk_5_91 (by decide) rfl (Nat.le_of_ble_eq_true rfl) dX5_isKnown_121 (fun H locs w => ?_)
                  obtain ⟨b47, hf⟩ := px_cb_e hf
                  cases hf
                  exact px_retZ X hr hlk b47 w dX5_isKnown_124
                · have hf := px_in c44 hf
                  by_cases c48 : p0 = (8 : Int32)
                  · have hf := px_ip c48 hf
                    refine lv_tableIn (tgt := 154) X.1 X.2.1 dX5_isKnown_1 (by rw [c48]; decide) (by rw [c48]; decide) (by rw [c48]; rfl) (by decide) ?_
                    refine lv_iload_n X.1 X.2.1 dX5_isKnown_154 rfl (lv_at hl 1 rfl) ?_
                    obtain ⟨r50, e49, hf⟩ := px_bq_e hf
                    refine px_cS (As := [.int p1]) (rest := []) X hml hl w (cC_isFunction l D cs ad e49) lk_5_91 (by decide) rfl (Nat.le_of_ble_eq_true rfl) dX5_isKnown_155 (fun H locs w => ?_)
                    refine lv_if_eq (tgt := 172) X.1 X.2.1 dX5_isKnown_158 (by decide) (fun c51 => ?_) (fun c51 => ?_)
                    · have hf := px_ip c51 hf
                      refine lv_iconst (v := (0 : Int32)) X.1 X.2.1 dX5_isKnown_172 (by decide) ?_
                      cases hf
                      exact px_retZ X hr hlk narrow_b0 w dX5_isKnown_173
                    · have hf := px_in c51 hf
                      refine lv_iload_n X.1 X.2.1 dX5_isKnown_161 rfl (lv_at hl 2 rfl) ?_
                      obtain ⟨r53, e52, hf⟩ := px_bq_e hf
                      refine px_cS (As := [.int p2]) (rest := []) X hml hl w (cC_isFunction l D cs ad e52) lk_5_91 (by decide) rfl (Nat.le_of_ble_eq_true rfl) dX5_isKnown_162 (fun H locs w => ?_)
                      refine lv_if_eq (tgt := 172) X.1 X.2.1 dX5_isKnown_165 (by decide) (fun c54 => ?_) (fun c54 => ?_)
                      · have hf := px_ip c54 hf
                        refine lv_iconst (v := (0 : Int32)) X.1 X.2.1 dX5_isKnown_172 (by decide) ?_
                        cases hf
                        exact px_retZ X hr hlk narrow_b0 w dX5_isKnown_173
                      · have hf := px_in c54 hf
                        refine lv_iconst (v := (1 : Int32)) X.1 X.2.1 dX5_isKnown_168 (by decide) ?_
                        refine lv_goto (tgt := 173) X.1 X.2.1 dX5_isKnown_169 (by decide) ?_
                        cases hf
                        exact px_retZ X hr hlk narrow_b1 w dX5_isKnown_173
                  · have hf := px_in c48 hf
                    by_cases c55 : p0 = (9 : Int32)
                    · have hf := px_ip c55 hf
                      refine lv_tableIn (tgt := 174) X.1 X.2.1 dX5_isKnown_1 (by rw [c55]; decide) (by rw [c55]; decide) (by rw [c55]; rfl) (by decide) ?_
                      refine lv_iload_n X.1 X.2.1 dX5_isKnown_174 rfl (lv_at hl 2 rfl) ?_
                      refine lv_iconst (v := (2 : Int32)) X.1 X.2.1 dX5_isKnown_175 (by decide) ?_
                      refine lv_icmp_ne (tgt := 186) X.1 X.2.1 dX5_isKnown_176 (by decide) (fun c56 => ?_) (fun c56 => ?_)
                      · have hf := px_in c56 hf
                        refine lv_iload_n X.1 X.2.1 dX5_isKnown_186 rfl (lv_at hl 1 rfl) ?_
                        obtain ⟨r58, e57, hf⟩ := px_bq_e hf
                        refine px_cS (As := [.int p1]) (rest := []) X hml hl w (cC_isNumber l D cs ad e57) lk_5_204 (by decide) rfl (Nat.le_of_ble_eq_true rfl) dX5_isKnown_187 (fun H locs w => ?_)
                        refine lv_if_eq (tgt := 204) X.1 X.2.1 dX5_isKnown_190 (by decide) (fun c59 => ?_) (fun c59 => ?_)
                        · have hf := px_ip c59 hf
                          refine lv_iconst (v := (0 : Int32)) X.1 X.2.1 dX5_isKnown_204 (by decide) ?_
                          cases hf
                          exact px_retZ X hr hlk narrow_b0 w dX5_isKnown_205
                        · have hf := px_in c59 hf
                          refine lv_iload_n X.1 X.2.1 dX5_isKnown_193 rfl (lv_at hl 2 rfl) ?_
                          obtain ⟨r61, e60, hf⟩ := px_bq_e hf
                          refine px_cS (As := [.int p2]) (rest := []) X hml hl w (cC_isChoice l D cs ad e60) lk_5_207 (by decide) rfl (Nat.le_of_ble_eq_true rfl) dX5_isKnown_194 (fun H locs w => ?_)
                          refine lv_if_eq (tgt := 204) X.1 X.2.1 dX5_isKnown_197 (by decide) (fun c62 => ?_) (fun c62 => ?_)
                          · have hf := px_ip c62 hf
                            refine lv_iconst (v := (0 : Int32)) X.1 X.2.1 dX5_isKnown_204 (by decide) ?_
                            cases hf
                            exact px_retZ X hr hlk narrow_b0 w dX5_isKnown_205
                          · have hf := px_in c62 hf
                            refine lv_iconst (v := (1 : Int32)) X.1 X.2.1 dX5_isKnown_200 (by decide) ?_
                            refine lv_goto (tgt := 205) X.1 X.2.1 dX5_isKnown_201 (by decide) ?_
                            cases hf
                            exact px_retZ X hr hlk narrow_b1 w dX5_isKnown_205
                      · have hf := px_ip c56 hf
                        refine lv_iload_n X.1 X.2.1 dX5_isKnown_179 rfl (lv_at hl 1 rfl) ?_
                        obtain ⟨r64, e63, hf⟩ := px_bq_e hf
                        refine px_cS (As := [.int p1]) (rest := []) X hml hl w (cC_isRegister l D cs ad e63) lk_5_164 (by decide) rfl (Nat.le_of_ble_eq_true rfl) dX5_isKnown_180 (fun H locs w => ?_)
                        refine lv_goto (tgt := 205) X.1 X.2.1 dX5_isKnown_183 (by decide) ?_
                        obtain ⟨b65, hf⟩ := px_cb_e hf
                        cases hf
                        exact px_retZ X hr hlk b65 w dX5_isKnown_205
                    · have hf := px_in c55 hf
                      by_cases c66 : p0 = (10 : Int32)
                      · have hf := px_ip c66 hf
                        refine lv_tableIn (tgt := 206) X.1 X.2.1 dX5_isKnown_1 (by rw [c66]; decide) (by rw [c66]; decide) (by rw [c66]; rfl) (by decide) ?_
                        refine lv_iload_n X.1 X.2.1 dX5_isKnown_206 rfl (lv_at hl 1 rfl) ?_
                        obtain ⟨r68, e67, hf⟩ := px_bq_e hf
                        refine px_cS (As := [.int p1]) (rest := []) X hml hl w (cC_isRegister l D cs ad e67) lk_5_164 (by decide) rfl (Nat.le_of_ble_eq_true rfl) dX5_isKnown_207 (fun H locs w => ?_)
                        obtain ⟨b69, hf⟩ := px_cb_e hf
                        cases hf
                        exact px_retZ X hr hlk b69 w dX5_isKnown_210
                      · have hf := px_in c66 hf
                        by_cases c70 : p0 = (11 : Int32)
                        · have hf := px_ip c70 hf
                          refine lv_tableIn (tgt := 211) X.1 X.2.1 dX5_isKnown_1 (by rw [c70]; decide) (by rw [c70]; decide) (by rw [c70]; rfl) (by decide) ?_
                          refine lv_iload_n X.1 X.2.1 dX5_isKnown_211 rfl (lv_at hl 1 rfl) ?_
                          obtain ⟨r72, e71, hf⟩ := px_bq_e hf
                          refine px_cS (As := [.int p1]) (rest := []) X hml hl w (cC_isRegister l D cs ad e71) lk_5_164 (by decide) rfl (Nat.le_of_ble_eq_true rfl) dX5_isKnown_212 (fun H locs w => ?_)
                          refine lv_if_eq (tgt := 229) X.1 X.2.1 dX5_isKnown_215 (by decide) (fun c73 => ?_) (fun c73 => ?_)
                          · have hf := px_ip c73 hf
                            refine lv_iconst (v := (0 : Int32)) X.1 X.2.1 dX5_isKnown_229 (by decide) ?_
                            cases hf
                            exact px_retZ X hr hlk narrow_b0 w dX5_isKnown_230
                          · have hf := px_in c73 hf
                            refine lv_iload_n X.1 X.2.1 dX5_isKnown_218 rfl (lv_at hl 2 rfl) ?_
                            obtain ⟨r75, e74, hf⟩ := px_bq_e hf
                            refine px_cS (As := [.int p2]) (rest := []) X hml hl w (cC_isChoice l D cs ad e74) lk_5_207 (by decide) rfl (Nat.le_of_ble_eq_true rfl) dX5_isKnown_219 (fun H locs w => ?_)
                            refine lv_if_eq (tgt := 229) X.1 X.2.1 dX5_isKnown_222 (by decide) (fun c76 => ?_) (fun c76 => ?_)
                            · have hf := px_ip c76 hf
                              refine lv_iconst (v := (0 : Int32)) X.1 X.2.1 dX5_isKnown_229 (by decide) ?_
                              cases hf
                              exact px_retZ X hr hlk narrow_b0 w dX5_isKnown_230
                            · have hf := px_in c76 hf
                              refine lv_iconst (v := (1 : Int32)) X.1 X.2.1 dX5_isKnown_225 (by decide) ?_
                              refine lv_goto (tgt := 230) X.1 X.2.1 dX5_isKnown_226 (by decide) ?_
                              cases hf
                              exact px_retZ X hr hlk narrow_b1 w dX5_isKnown_230
                        · have hf := px_in c70 hf
                          by_cases c77 : p0 = (12 : Int32)
                          · have hf := px_ip c77 hf
                            refine lv_tableIn (tgt := 231) X.1 X.2.1 dX5_isKnown_1 (by rw [c77]; decide) (by rw [c77]; decide) (by rw [c77]; rfl) (by decide) ?_
                            refine lv_iload_n X.1 X.2.1 dX5_isKnown_231 rfl (lv_at hl 1 rfl) ?_
                            obtain ⟨r79, e78, hf⟩ := px_bq_e hf
                            refine px_cS (As := [.int p1]) (rest := []) X hml hl w (cC_isRegister l D cs ad e78) lk_5_164 (by decide) rfl (Nat.le_of_ble_eq_true rfl) dX5_isKnown_232 (fun H locs w => ?_)
                            refine lv_if_eq (tgt := 249) X.1 X.2.1 dX5_isKnown_235 (by decide) (fun c80 => ?_) (fun c80 => ?_)
                            · have hf := px_ip c80 hf
                              refine lv_iconst (v := (0 : Int32)) X.1 X.2.1 dX5_isKnown_249 (by decide) ?_
                              cases hf
                              exact px_retZ X hr hlk narrow_b0 w dX5_isKnown_250
                            · have hf := px_in c80 hf
                              refine lv_iload_n X.1 X.2.1 dX5_isKnown_238 rfl (lv_at hl 2 rfl) ?_
                              obtain ⟨r82, e81, hf⟩ := px_bq_e hf
                              refine px_cS (As := [.int p2]) (rest := []) X hml hl w (cC_isRegister l D cs ad e81) lk_5_164 (by decide) rfl (Nat.le_of_ble_eq_true rfl) dX5_isKnown_239 (fun H locs w => ?_)
                              refine lv_if_eq (tgt := 249) X.1 X.2.1 dX5_isKnown_242 (by decide) (fun c83 => ?_) (fun c83 => ?_)
                              · have hf := px_ip c83 hf
                                refine lv_iconst (v := (0 : Int32)) X.1 X.2.1 dX5_isKnown_249 (by decide) ?_
                                cases hf
                                exact px_retZ X hr hlk narrow_b0 w dX5_isKnown_250
                              · have hf := px_in c83 hf
                                refine lv_iconst (v := (1 : Int32)) X.1 X.2.1 dX5_isKnown_245 (by decide) ?_
                                refine lv_goto (tgt := 250) X.1 X.2.1 dX5_isKnown_246 (by decide) ?_
                                cases hf
                                exact px_retZ X hr hlk narrow_b1 w dX5_isKnown_250
                          · have hf := px_in c77 hf
                            by_cases c84 : p0 = (13 : Int32)
                            · have hf := px_ip c84 hf
                              refine lv_tableIn (tgt := 251) X.1 X.2.1 dX5_isKnown_1 (by rw [c84]; decide) (by rw [c84]; decide) (by rw [c84]; rfl) (by decide) ?_
                              refine lv_iload_n X.1 X.2.1 dX5_isKnown_251 rfl (lv_at hl 1 rfl) ?_
                              obtain ⟨r86, e85, hf⟩ := px_bq_e hf
                              refine px_cS (As := [.int p1]) (rest := []) X hml hl w (cC_isRegister l D cs ad e85) lk_5_164 (by decide) rfl (Nat.le_of_ble_eq_true rfl) dX5_isKnown_252 (fun H locs w => ?_)
                              refine lv_if_eq (tgt := 273) X.1 X.2.1 dX5_isKnown_255 (by decide) (fun c87 => ?_) (fun c87 => ?_)
                              · have hf := px_ip c87 hf
                                refine lv_iconst (v := (0 : Int32)) X.1 X.2.1 dX5_isKnown_273 (by decide) ?_
                                cases hf
                                exact px_retZ X hr hlk narrow_b0 w dX5_isKnown_274
                              · have hf := px_in c87 hf
                                refine lv_iload_n X.1 X.2.1 dX5_isKnown_258 rfl (lv_at hl 2 rfl) ?_
                                refine lv_iconst (v := (0 : Int32)) X.1 X.2.1 dX5_isKnown_259 (by decide) ?_
                                refine lv_sipush (v := (255 : Int32)) X.1 X.2.1 dX5_isKnown_260 (by decide) ?_
                                obtain ⟨r89, e88, hf⟩ := px_bq_e hf
                                refine px_cS (As := [.int p2, .int (0 : Int32), .int (255 : Int32)]) (rest := []) X hml hl w (cC_isWithin l D cs ad e88) lk_5_155 (by decide) rfl (Nat.le_of_ble_eq_true rfl) dX5_isKnown_263 (fun H locs w => ?_)
                                refine lv_if_eq (tgt := 273) X.1 X.2.1 dX5_isKnown_266 (by decide) (fun c90 => ?_) (fun c90 => ?_)
                                · have hf := px_ip c90 hf
                                  refine lv_iconst (v := (0 : Int32)) X.1 X.2.1 dX5_isKnown_273 (by decide) ?_
                                  cases hf
                                  exact px_retZ X hr hlk narrow_b0 w dX5_isKnown_274
                                · have hf := px_in c90 hf
                                  refine lv_iconst (v := (1 : Int32)) X.1 X.2.1 dX5_isKnown_269 (by decide) ?_
                                  refine lv_goto (tgt := 274) X.1 X.2.1 dX5_isKnown_270 (by decide) ?_
                                  cases hf
                                  exact px_retZ X hr hlk narrow_b1 w dX5_isKnown_274
                            · have hf := px_in c84 hf
                              by_cases c91 : p0 = (14 : Int32)
                              · have hf := px_ip c91 hf
                                refine lv_tableIn (tgt := 120) X.1 X.2.1 dX5_isKnown_1 (by rw [c91]; decide) (by rw [c91]; decide) (by rw [c91]; rfl) (by decide) ?_
                                refine lv_iload_n X.1 X.2.1 dX5_isKnown_120 rfl (lv_at hl 1 rfl) ?_
                                obtain ⟨r93, e92, hf⟩ := px_bq_e hf
                                refine px_cS (As := [.int p1]) (rest := []) X hml hl w (cC_isFunction l D cs ad e92) lk_5_91 (by decide) rfl (Nat.le_of_ble_eq_true rfl) dX5_isKnown_121 (fun H locs w => ?_)
                                obtain ⟨b94, hf⟩ := px_cb_e hf
                                cases hf
                                exact px_retZ X hr hlk b94 w dX5_isKnown_124
                              · have hf := px_in c91 hf
                                by_cases c95 : p0 = (15 : Int32)
                                · have hf := px_ip c95 hf
                                  refine lv_tableIn (tgt := 231) X.1 X.2.1 dX5_isKnown_1 (by rw [c95]; decide) (by rw [c95]; decide) (by rw [c95]; rfl) (by decide) ?_
                                  refine lv_iload_n X.1 X.2.1 dX5_isKnown_231 rfl (lv_at hl 1 rfl) ?_
                                  obtain ⟨r97, e96, hf⟩ := px_bq_e hf
                                  refine px_cS (As := [.int p1]) (rest := []) X hml hl w (cC_isRegister l D cs ad e96) lk_5_164 (by decide) rfl (Nat.le_of_ble_eq_true rfl) dX5_isKnown_232 (fun H locs w => ?_)
                                  refine lv_if_eq (tgt := 249) X.1 X.2.1 dX5_isKnown_235 (by decide) (fun c98 => ?_) (fun c98 => ?_)
                                  · have hf := px_ip c98 hf
                                    refine lv_iconst (v := (0 : Int32)) X.1 X.2.1 dX5_isKnown_249 (by decide) ?_
                                    cases hf
                                    exact px_retZ X hr hlk narrow_b0 w dX5_isKnown_250
                                  · have hf := px_in c98 hf
                                    refine lv_iload_n X.1 X.2.1 dX5_isKnown_238 rfl (lv_at hl 2 rfl) ?_
                                    obtain ⟨r100, e99, hf⟩ := px_bq_e hf
                                    refine px_cS (As := [.int p2]) (rest := []) X hml hl w (cC_isRegister l D cs ad e99) lk_5_164 (by decide) rfl (Nat.le_of_ble_eq_true rfl) dX5_isKnown_239 (fun H locs w => ?_)
                                    refine lv_if_eq (tgt := 249) X.1 X.2.1 dX5_isKnown_242 (by decide) (fun c101 => ?_) (fun c101 => ?_)
                                    · have hf := px_ip c101 hf
                                      refine lv_iconst (v := (0 : Int32)) X.1 X.2.1 dX5_isKnown_249 (by decide) ?_
                                      cases hf
                                      exact px_retZ X hr hlk narrow_b0 w dX5_isKnown_250
                                    · have hf := px_in c101 hf
                                      refine lv_iconst (v := (1 : Int32)) X.1 X.2.1 dX5_isKnown_245 (by decide) ?_
                                      refine lv_goto (tgt := 250) X.1 X.2.1 dX5_isKnown_246 (by decide) ?_
                                      cases hf
                                      exact px_retZ X hr hlk narrow_b1 w dX5_isKnown_250
                                · have hf := px_in c95 hf
                                  refine lv_tableOut (tgt := 275) X.1 X.2.1 dX5_isKnown_1 (by have := px_ne (v := 0) (by decide) c1; have := px_ne (v := 1) (by decide) c8; have := px_ne (v := 2) (by decide) c15; have := px_ne (v := 3) (by decide) c19; have := px_ne (v := 4) (by decide) c26; have := px_ne (v := 5) (by decide) c33; have := px_ne (v := 6) (by decide) c37; have := px_ne (v := 7) (by decide) c44; have := px_ne (v := 8) (by decide) c48; have := px_ne (v := 9) (by decide) c55; have := px_ne (v := 10) (by decide) c66; have := px_ne (v := 11) (by decide) c70; have := px_ne (v := 12) (by decide) c77; have := px_ne (v := 13) (by decide) c84; have := px_ne (v := 14) (by decide) c91; have := px_ne (v := 15) (by decide) c95; omega) (by decide) ?_
                                  refine lv_iconst (v := (0 : Int32)) X.1 X.2.1 dX5_isKnown_275 (by decide) ?_
                                  cases hf
                                  exact px_retZ X hr hlk narrow_b0 w dX5_isKnown_276
theorem lk_5_148 : px_Lk RX5 148 yX2_size cX2_size 1 (some .int) 0 := ⟨px_tb (by decide +kernel) (by decide +kernel), px_tb (by decide +kernel) (by decide +kernel), px_tb (by decide +kernel) (by decide +kernel), px_tb (by decide +kernel) (by decide +kernel), px_tb (by decide +kernel) (by decide +kernel), by decide +kernel, by decide⟩
def gC_waitingTasks_L4 (rc4 : px_M → Int32 → Int32 → Option Int32) (M : px_M) (y1 y2 : Int32) : Option Int32 := (if (3 : Int32) ≤ y2 then some y1 else (if y2 = 0 then px_bq (fC_Line_size_8 M) (fun r4 => px_bn ((y1 + r4)) (fun x5 => rc4 M x5 (y2 + (1 : Int32)))) else (if y2 = 1 then px_bq (fC_Line_size_12 M) (fun r8 => px_bn ((y1 + r8)) (fun x9 => rc4 M x9 (y2 + (1 : Int32)))) else (if y2 = 2 then px_bq (fC_Line_size_16 M) (fun r12 => px_bn ((y1 + r12)) (fun x13 => rc4 M x13 (y2 + (1 : Int32)))) else none))))
set_option maxHeartbeats 4000000 in
set_option maxRecDepth 100000 in
theorem lC_waitingTasks_L4 {l : Launch} {D : va_G} {cs : Nat → ClassId} {ad : Nat → Nat} {p : Program} {e : Env} {s : State} {m : MethodId} {args : Array Value} {below : List Frame} {meth : Method} {c : Code} {A : Nat → Prop} (X : px_X D (tyC cs) p s m args c cX5_waitingTasks yX5_waitingTasks.cls) (hr : meth.sig.returnType = (some .int)) (hlk : meth.locks = false) (hml : c.maxLocals = 3) : ∀ (j : Nat) (M : px_M) (y1 y2 : Int32) (z : Int32), px_fx2 gC_waitingTasks_L4 j M y1 y2 = some z → ∀ (H : Heap) (locs : List Loc) (ls : Array Slot), px_H D (wC cs ad) A s.heap M H locs → lv_has ls 3 [(0, .ref (ad 0)), (1, .int y1), (2, .int y2)] → W p l e (px_rm 1) s m args below meth c H locs 0 0 (px_QI D (tyC cs) (wC cs ad) below args s A z M) (F0 m 4 ls []) := by
  refine px_fx2_i (P := fun M y1 y2 (z : Int32) => ∀ (H : Heap) (locs : List Loc) (ls : Array Slot), px_H D (wC cs ad) A s.heap M H locs → lv_has ls 3 [(0, .ref (ad 0)), (1, .int y1), (2, .int y2)] → W p l e (px_rm 1) s m args below meth c H locs 0 0 (px_QI D (tyC cs) (wC cs ad) below args s A z M) (F0 m 4 ls [])) ?_
  intro rc4 ih4 M y1 y2 z hf H locs ls w hl
  unfold gC_waitingTasks_L4 at hf
  refine lv_iload_n X.1 X.2.1 dX5_waitingTasks_4 rfl (lv_at hl 2 rfl) ?_
  refine lv_iconst (v := (3 : Int32)) X.1 X.2.1 dX5_waitingTasks_5 (by decide) ?_
  refine lv_icmp_ge (tgt := 27) X.1 X.2.1 dX5_waitingTasks_6 (by decide) (fun c1 => ?_) (fun c1 => ?_)
  · have hf := px_ip c1 hf
    refine lv_iload_n X.1 X.2.1 dX5_waitingTasks_27 rfl (lv_at hl 1 rfl) ?_
    cases hf
    exact px_retI X hr hlk w dX5_waitingTasks_28
  · have hf := px_in c1 hf
    refine lv_iload_n X.1 X.2.1 dX5_waitingTasks_9 rfl (lv_at hl 1 rfl) ?_
    refine lv_aload_n X.1 X.2.1 dX5_waitingTasks_10 rfl (lv_at hl 0 rfl) ?_
    refine gtC_0_2 X w dX5_waitingTasks_11 ?_
    refine lv_iload_n X.1 X.2.1 dX5_waitingTasks_14 rfl (lv_at hl 2 rfl) ?_
    by_cases c2 : y2 = 0
    · have hf := px_ip c2 hf
      refine alC_7_0 X w c2 dX5_waitingTasks_15 ?_
      obtain ⟨r4, e3, hf⟩ := px_bq_e hf
      refine px_cI (As := []) (rest := [.int y1]) X hml hl w (cC_Line_size_8 l D cs ad e3) lk_5_148 (by decide) (rcC_8 X.2.2.2.2 w) rfl (Nat.le_of_ble_eq_true rfl) dX5_waitingTasks_16 (fun H locs w => ?_)
      refine lv_iadd X.1 X.2.1 dX5_waitingTasks_19 ?_
      obtain ⟨x5, ex5, hf⟩ := px_bn_e hf
      rw [← ex5]
      refine lv_istore_n (lv' := [(1, .int x5), (0, .ref (ad 0)), (2, .int y2)]) X.1 X.2.1 dX5_waitingTasks_20 rfl hl (by decide) rfl (fun ls hl => ?_)
      refine lv_iinc (v := (y2 + (1 : Int32))) (lv' := [(2, .int (y2 + (1 : Int32))), (1, .int x5), (0, .ref (ad 0))]) X.1 X.2.1 dX5_waitingTasks_21 hl (k := 2) rfl rfl (by decide) rfl (fun ls hl => ?_)
      refine lv_goto (tgt := 4) X.1 X.2.1 dX5_waitingTasks_24 (by decide) ?_
      exact ih4 M x5 (y2 + (1 : Int32)) _ hf _ _ ls w (lv_sub hl [2, 1, 0] rfl)
    · have hf := px_in c2 hf
      by_cases c6 : y2 = 1
      · have hf := px_ip c6 hf
        refine alC_7_1 X w c6 dX5_waitingTasks_15 ?_
        obtain ⟨r8, e7, hf⟩ := px_bq_e hf
        refine px_cI (As := []) (rest := [.int y1]) X hml hl w (cC_Line_size_12 l D cs ad e7) lk_5_148 (by decide) (rcC_12 X.2.2.2.2 w) rfl (Nat.le_of_ble_eq_true rfl) dX5_waitingTasks_16 (fun H locs w => ?_)
        refine lv_iadd X.1 X.2.1 dX5_waitingTasks_19 ?_
        obtain ⟨x9, ex9, hf⟩ := px_bn_e hf
        rw [← ex9]
        refine lv_istore_n (lv' := [(1, .int x9), (0, .ref (ad 0)), (2, .int y2)]) X.1 X.2.1 dX5_waitingTasks_20 rfl hl (by decide) rfl (fun ls hl => ?_)
        refine lv_iinc (v := (y2 + (1 : Int32))) (lv' := [(2, .int (y2 + (1 : Int32))), (1, .int x9), (0, .ref (ad 0))]) X.1 X.2.1 dX5_waitingTasks_21 hl (k := 2) rfl rfl (by decide) rfl (fun ls hl => ?_)
        refine lv_goto (tgt := 4) X.1 X.2.1 dX5_waitingTasks_24 (by decide) ?_
        exact ih4 M x9 (y2 + (1 : Int32)) _ hf _ _ ls w (lv_sub hl [2, 1, 0] rfl)
      · have hf := px_in c6 hf
        by_cases c10 : y2 = 2
        · have hf := px_ip c10 hf
          refine alC_7_2 X w c10 dX5_waitingTasks_15 ?_
          obtain ⟨r12, e11, hf⟩ := px_bq_e hf
          refine px_cI (As := []) (rest := [.int y1]) X hml hl w (cC_Line_size_16 l D cs ad e11) lk_5_148 (by decide) (rcC_16 X.2.2.2.2 w) rfl (Nat.le_of_ble_eq_true rfl) dX5_waitingTasks_16 (fun H locs w => ?_)
          refine lv_iadd X.1 X.2.1 dX5_waitingTasks_19 ?_
          obtain ⟨x13, ex13, hf⟩ := px_bn_e hf
          rw [← ex13]
          refine lv_istore_n (lv' := [(1, .int x13), (0, .ref (ad 0)), (2, .int y2)]) X.1 X.2.1 dX5_waitingTasks_20 rfl hl (by decide) rfl (fun ls hl => ?_)
          refine lv_iinc (v := (y2 + (1 : Int32))) (lv' := [(2, .int (y2 + (1 : Int32))), (1, .int x13), (0, .ref (ad 0))]) X.1 X.2.1 dX5_waitingTasks_21 hl (k := 2) rfl rfl (by decide) rfl (fun ls hl => ?_)
          refine lv_goto (tgt := 4) X.1 X.2.1 dX5_waitingTasks_24 (by decide) ?_
          exact ih4 M x13 (y2 + (1 : Int32)) _ hf _ _ ls w (lv_sub hl [2, 1, 0] rfl)
        · have hf := px_in c10 hf
          cases hf
def fC_waitingTasks (M : px_M) : Option Int32 := px_fx2 gC_waitingTasks_L4 4 M (0 : Int32) (0 : Int32)
set_option maxHeartbeats 4000000 in
set_option maxRecDepth 100000 in
theorem cC_waitingTasks (l : Launch) (D : va_G) (cs : Nat → ClassId) (ad : Nat → Nat) {M : px_M} {r : Int32} (hf : fC_waitingTasks M = some r) : px_mI l D (tyC cs) (wC cs ad) yX5_waitingTasks cX5_waitingTasks 3 (some .int) 1 [.ref (ad 0)] M r M := by
  refine px_ofI (by decide +kernel) (Nat.le_of_ble_eq_true rfl) ?_
  intro p e s m below meth c A ls X hr hlk hml w hl
  have hl : lv_has ls 3 [(0, .ref (ad 0))] := hl
  unfold fC_waitingTasks at hf
  refine lv_iconst (v := (0 : Int32)) X.1 X.2.1 dX5_waitingTasks_0 (by decide) ?_
  refine lv_istore_n (lv' := [(1, .int (0 : Int32)), (0, .ref (ad 0))]) X.1 X.2.1 dX5_waitingTasks_1 rfl hl (by decide) rfl (fun ls hl => ?_)
  refine lv_iconst (v := (0 : Int32)) X.1 X.2.1 dX5_waitingTasks_2 (by decide) ?_
  refine lv_istore_n (lv' := [(2, .int (0 : Int32)), (1, .int (0 : Int32)), (0, .ref (ad 0))]) X.1 X.2.1 dX5_waitingTasks_3 rfl hl (by decide) rfl (fun ls hl => ?_)
  exact lC_waitingTasks_L4 X hr hlk hml 4 M (0 : Int32) (0 : Int32) _ hf _ _ ls w (lv_sub hl [2, 1, 0] rfl)
theorem lk_5_213 : px_Lk RX5 213 yX2_kind cX2_kind 1 (some .int) 0 := ⟨px_tb (by decide +kernel) (by decide +kernel), px_tb (by decide +kernel) (by decide +kernel), px_tb (by decide +kernel) (by decide +kernel), px_tb (by decide +kernel) (by decide +kernel), px_tb (by decide +kernel) (by decide +kernel), by decide +kernel, by decide⟩
theorem lk_5_216 : px_Lk RX5 216 yX2_subject cX2_subject 1 (some .int) 0 := ⟨px_tb (by decide +kernel) (by decide +kernel), px_tb (by decide +kernel) (by decide +kernel), px_tb (by decide +kernel) (by decide +kernel), px_tb (by decide +kernel) (by decide +kernel), px_tb (by decide +kernel) (by decide +kernel), by decide +kernel, by decide⟩
theorem lk_5_240 : px_Lk RX5 240 yX3_functionOf cX3_functionOf 3 (some .int) 1 := ⟨px_tb (by decide +kernel) (by decide +kernel), px_tb (by decide +kernel) (by decide +kernel), px_tb (by decide +kernel) (by decide +kernel), px_tb (by decide +kernel) (by decide +kernel), px_tb (by decide +kernel) (by decide +kernel), by decide +kernel, by decide⟩
def fC_microtaskBeginsRun (M : px_M) : Option Int32 := px_bq (fC_Line_kind_20 M) (fun r2 => (if r2 = 0 then some (1 : Int32) else (if r2 = (2 : Int32) then px_bq (fC_Line_subject_20 M) (fun r6 => px_bq (fC_Promises_functionOf M r6) (fun r8 => px_bq (fC_isFunction M r8) (fun r10 => (if r10 = 0 then some (0 : Int32) else some (1 : Int32))))) else some (0 : Int32))))
set_option maxHeartbeats 4000000 in
set_option maxRecDepth 100000 in
theorem cC_microtaskBeginsRun (l : Launch) (D : va_G) (cs : Nat → ClassId) (ad : Nat → Nat) {M : px_M} {r : Int32} (hf : fC_microtaskBeginsRun M = some r) : px_mI l D (tyC cs) (wC cs ad) yX5_microtaskBeginsRun cX5_microtaskBeginsRun 2 (some .boolean) 2 [.ref (ad 0)] M r M := by
  refine px_ofI (by decide +kernel) (Nat.le_of_ble_eq_true rfl) ?_
  intro p e s m below meth c A ls X hr hlk hml w hl
  have hl : lv_has ls 2 [(0, .ref (ad 0))] := hl
  unfold fC_microtaskBeginsRun at hf
  refine lv_aload_n X.1 X.2.1 dX5_microtaskBeginsRun_0 rfl (lv_at hl 0 rfl) ?_
  refine gtC_0_3 X w dX5_microtaskBeginsRun_1 ?_
  obtain ⟨r2, e1, hf⟩ := px_bq_e hf
  refine px_cI (As := []) (rest := []) X hml hl w (cC_Line_kind_20 l D cs ad e1) lk_5_213 (by decide) (rcC_20 X.2.2.2.2 w) rfl (Nat.le_of_ble_eq_true rfl) dX5_microtaskBeginsRun_4 (fun H locs w => ?_)
  refine lv_istore_n (lv' := [(1, .int r2), (0, .ref (ad 0))]) X.1 X.2.1 dX5_microtaskBeginsRun_7 rfl hl (by decide) rfl (fun ls hl => ?_)
  refine lv_iload_n X.1 X.2.1 dX5_microtaskBeginsRun_8 rfl (lv_at hl 0 rfl) ?_
  refine lv_if_eq (tgt := 37) X.1 X.2.1 dX5_microtaskBeginsRun_9 (by decide) (fun c3 => ?_) (fun c3 => ?_)
  · have hf := px_ip c3 hf
    refine lv_iconst (v := (1 : Int32)) X.1 X.2.1 dX5_microtaskBeginsRun_37 (by decide) ?_
    refine lv_goto (tgt := 42) X.1 X.2.1 dX5_microtaskBeginsRun_38 (by decide) ?_
    cases hf
    exact px_retZ X hr hlk narrow_b1 w dX5_microtaskBeginsRun_42
  · have hf := px_in c3 hf
    refine lv_iload_n X.1 X.2.1 dX5_microtaskBeginsRun_12 rfl (lv_at hl 0 rfl) ?_
    refine lv_iconst (v := (2 : Int32)) X.1 X.2.1 dX5_microtaskBeginsRun_13 (by decide) ?_
    refine lv_icmp_ne (tgt := 41) X.1 X.2.1 dX5_microtaskBeginsRun_14 (by decide) (fun c4 => ?_) (fun c4 => ?_)
    · have hf := px_in c4 hf
      refine lv_iconst (v := (0 : Int32)) X.1 X.2.1 dX5_microtaskBeginsRun_41 (by decide) ?_
      cases hf
      exact px_retZ X hr hlk narrow_b0 w dX5_microtaskBeginsRun_42
    · have hf := px_ip c4 hf
      refine lv_aload_n X.1 X.2.1 dX5_microtaskBeginsRun_17 rfl (lv_at hl 1 rfl) ?_
      refine gtC_0_7 X w dX5_microtaskBeginsRun_18 ?_
      refine lv_aload_n X.1 X.2.1 dX5_microtaskBeginsRun_21 rfl (lv_at hl 1 rfl) ?_
      refine gtC_0_3 X w dX5_microtaskBeginsRun_22 ?_
      obtain ⟨r6, e5, hf⟩ := px_bq_e hf
      refine px_cI (As := []) (rest := [.ref (ad 32)]) X hml hl w (cC_Line_subject_20 l D cs ad e5) lk_5_216 (by decide) (rcC_20 X.2.2.2.2 w) rfl (Nat.le_of_ble_eq_true rfl) dX5_microtaskBeginsRun_25 (fun H locs w => ?_)
      obtain ⟨r8, e7, hf⟩ := px_bq_e hf
      refine px_cI (As := [.int r6]) (rest := []) X hml hl w (cC_Promises_functionOf l D cs ad e7) lk_5_240 (by decide) (rcC_32 X.2.2.2.2 w) rfl (Nat.le_of_ble_eq_true rfl) dX5_microtaskBeginsRun_28 (fun H locs w => ?_)
      obtain ⟨r10, e9, hf⟩ := px_bq_e hf
      refine px_cS (As := [.int r8]) (rest := []) X hml hl w (cC_isFunction l D cs ad e9) lk_5_91 (by decide) rfl (Nat.le_of_ble_eq_true rfl) dX5_microtaskBeginsRun_31 (fun H locs w => ?_)
      refine lv_if_eq (tgt := 41) X.1 X.2.1 dX5_microtaskBeginsRun_34 (by decide) (fun c11 => ?_) (fun c11 => ?_)
      · have hf := px_ip c11 hf
        refine lv_iconst (v := (0 : Int32)) X.1 X.2.1 dX5_microtaskBeginsRun_41 (by decide) ?_
        cases hf
        exact px_retZ X hr hlk narrow_b0 w dX5_microtaskBeginsRun_42
      · have hf := px_in c11 hf
        refine lv_iconst (v := (1 : Int32)) X.1 X.2.1 dX5_microtaskBeginsRun_37 (by decide) ?_
        refine lv_goto (tgt := 42) X.1 X.2.1 dX5_microtaskBeginsRun_38 (by decide) ?_
        cases hf
        exact px_retZ X hr hlk narrow_b1 w dX5_microtaskBeginsRun_42
theorem lk_5_255 : px_Lk RX5 255 yX3_resolveOrReject cX3_resolveOrReject 4 none 3 := ⟨px_tb (by decide +kernel) (by decide +kernel), px_tb (by decide +kernel) (by decide +kernel), px_tb (by decide +kernel) (by decide +kernel), px_tb (by decide +kernel) (by decide +kernel), px_tb (by decide +kernel) (by decide +kernel), by decide +kernel, by decide⟩
theorem lk_5_258 : px_Lk RX5 258 yX3_follow cX3_follow 3 none 2 := ⟨px_tb (by decide +kernel) (by decide +kernel), px_tb (by decide +kernel) (by decide +kernel), px_tb (by decide +kernel) (by decide +kernel), px_tb (by decide +kernel) (by decide +kernel), px_tb (by decide +kernel) (by decide +kernel), by decide +kernel, by decide⟩
def fC_settleWithResult (M : px_M) (p1 : Int32) : Option px_M := (if (M 0 15) = 0 then (if (M 0 16) = 0 then px_bq (fC_Promises_resolveOrReject M p1 (1 : Int32) (M 0 17)) (fun M4 => some M4) else px_bq (fC_Promises_follow M p1 (M 0 17)) (fun M6 => some M6)) else px_bq (fC_Promises_resolveOrReject M p1 (2 : Int32) (M 0 17)) (fun M8 => some M8))
set_option maxHeartbeats 4000000 in
set_option maxRecDepth 100000 in
theorem cC_settleWithResult (l : Launch) (D : va_G) (cs : Nat → ClassId) (ad : Nat → Nat) {M : px_M} {p1 : Int32} {M' : px_M} (hf : fC_settleWithResult M p1 = some M') : px_mV l D (tyC cs) (wC cs ad) yX5_settleWithResult cX5_settleWithResult 2 3 [.ref (ad 0), .int p1] M M' := by
  refine px_ofV (by decide +kernel) (Nat.le_of_ble_eq_true rfl) ?_
  intro p e s m below meth c A ls X hr hlk hml w hl
  have hl : lv_has ls 2 [(0, .ref (ad 0)), (1, .int p1)] := hl
  unfold fC_settleWithResult at hf
  refine lv_aload_n X.1 X.2.1 dX5_settleWithResult_0 rfl (lv_at hl 0 rfl) ?_
  refine gtC_0_15 X w dX5_settleWithResult_1 ?_
  refine lv_if_eq (tgt := 23) X.1 X.2.1 dX5_settleWithResult_4 (by decide) (fun c1 => ?_) (fun c1 => ?_)
  · have hf := px_ip c1 hf
    refine lv_aload_n X.1 X.2.1 dX5_settleWithResult_23 rfl (lv_at hl 0 rfl) ?_
    refine gtC_0_16 X w dX5_settleWithResult_24 ?_
    refine lv_if_eq (tgt := 45) X.1 X.2.1 dX5_settleWithResult_27 (by decide) (fun c2 => ?_) (fun c2 => ?_)
    · have hf := px_ip c2 hf
      refine lv_aload_n X.1 X.2.1 dX5_settleWithResult_45 rfl (lv_at hl 0 rfl) ?_
      refine gtC_0_7 X w dX5_settleWithResult_46 ?_
      refine lv_iload_n X.1 X.2.1 dX5_settleWithResult_49 rfl (lv_at hl 1 rfl) ?_
      refine lv_iconst (v := (1 : Int32)) X.1 X.2.1 dX5_settleWithResult_50 (by decide) ?_
      refine lv_aload_n X.1 X.2.1 dX5_settleWithResult_51 rfl (lv_at hl 0 rfl) ?_
      refine gtC_0_17 X w dX5_settleWithResult_52 ?_
      obtain ⟨M4, e3, hf⟩ := px_bq_e hf
      refine px_cV (As := [.int p1, .int (1 : Int32), .int (M 0 17)]) (rest := []) X hml hl w (cC_Promises_resolveOrReject l D cs ad e3) lk_5_255 (by decide) (rcC_32 X.2.2.2.2 w) rfl (Nat.le_of_ble_eq_true rfl) dX5_settleWithResult_55 (fun H locs w => ?_)
      cases hf
      exact px_retV X hr hlk w dX5_settleWithResult_58
    · have hf := px_in c2 hf
      refine lv_aload_n X.1 X.2.1 dX5_settleWithResult_30 rfl (lv_at hl 0 rfl) ?_
      refine gtC_0_7 X w dX5_settleWithResult_31 ?_
      refine lv_iload_n X.1 X.2.1 dX5_settleWithResult_34 rfl (lv_at hl 1 rfl) ?_
      refine lv_aload_n X.1 X.2.1 dX5_settleWithResult_35 rfl (lv_at hl 0 rfl) ?_
      refine gtC_0_17 X w dX5_settleWithResult_36 ?_
      obtain ⟨M6, e5, hf⟩ := px_bq_e hf
      refine px_cV (As := [.int p1, .int (M 0 17)]) (rest := []) X hml hl w (cC_Promises_follow l D cs ad e5) lk_5_258 (by decide) (rcC_32 X.2.2.2.2 w) rfl (Nat.le_of_ble_eq_true rfl) dX5_settleWithResult_39 (fun H locs w => ?_)
      refine lv_goto (tgt := 58) X.1 X.2.1 dX5_settleWithResult_42 (by decide) ?_
      cases hf
      exact px_retV X hr hlk w dX5_settleWithResult_58
  · have hf := px_in c1 hf
    refine lv_aload_n X.1 X.2.1 dX5_settleWithResult_7 rfl (lv_at hl 0 rfl) ?_
    refine gtC_0_7 X w dX5_settleWithResult_8 ?_
    refine lv_iload_n X.1 X.2.1 dX5_settleWithResult_11 rfl (lv_at hl 1 rfl) ?_
    refine lv_iconst (v := (2 : Int32)) X.1 X.2.1 dX5_settleWithResult_12 (by decide) ?_
    refine lv_aload_n X.1 X.2.1 dX5_settleWithResult_13 rfl (lv_at hl 0 rfl) ?_
    refine gtC_0_17 X w dX5_settleWithResult_14 ?_
    obtain ⟨M8, e7, hf⟩ := px_bq_e hf
    refine px_cV (As := [.int p1, .int (2 : Int32), .int (M 0 17)]) (rest := []) X hml hl w (cC_Promises_resolveOrReject l D cs ad e7) lk_5_255 (by decide) (rcC_32 X.2.2.2.2 w) rfl (Nat.le_of_ble_eq_true rfl) dX5_settleWithResult_17 (fun H locs w => ?_)
    refine lv_goto (tgt := 58) X.1 X.2.1 dX5_settleWithResult_20 (by decide) ?_
    cases hf
    exact px_retV X hr hlk w dX5_settleWithResult_58
def gC_sourceOfNextTask_L22 (rc22 : px_M → Int32 → Option Int32) (M : px_M) (y1 : Int32) : Option Int32 := (if (3 : Int32) ≤ y1 then some (-1 : Int32) else (if y1 = 0 then px_bq (fC_Line_size_8 M) (fun r8 => (if r8 ≤ 0 then rc22 M (y1 + (1 : Int32)) else some y1)) else (if y1 = 1 then px_bq (fC_Line_size_12 M) (fun r12 => (if r12 ≤ 0 then rc22 M (y1 + (1 : Int32)) else some y1)) else (if y1 = 2 then px_bq (fC_Line_size_16 M) (fun r16 => (if r16 ≤ 0 then rc22 M (y1 + (1 : Int32)) else some y1)) else none))))
set_option maxHeartbeats 4000000 in
set_option maxRecDepth 100000 in
theorem lC_sourceOfNextTask_L22 {l : Launch} {D : va_G} {cs : Nat → ClassId} {ad : Nat → Nat} {p : Program} {e : Env} {s : State} {m : MethodId} {args : Array Value} {below : List Frame} {meth : Method} {c : Code} {A : Nat → Prop} (X : px_X D (tyC cs) p s m args c cX5_sourceOfNextTask yX5_sourceOfNextTask.cls) (hr : meth.sig.returnType = (some .int)) (hlk : meth.locks = false) (hml : c.maxLocals = 2) : ∀ (j : Nat) (M : px_M) (y1 : Int32) (z : Int32), px_fx1 gC_sourceOfNextTask_L22 j M y1 = some z → ∀ (H : Heap) (locs : List Loc) (ls : Array Slot), px_H D (wC cs ad) A s.heap M H locs → lv_has ls 2 [(0, .ref (ad 0)), (1, .int y1)] → W p l e (px_rm 1) s m args below meth c H locs 0 0 (px_QI D (tyC cs) (wC cs ad) below args s A z M) (F0 m 22 ls []) := by
  refine px_fx1_i (P := fun M y1 (z : Int32) => ∀ (H : Heap) (locs : List Loc) (ls : Array Slot), px_H D (wC cs ad) A s.heap M H locs → lv_has ls 2 [(0, .ref (ad 0)), (1, .int y1)] → W p l e (px_rm 1) s m args below meth c H locs 0 0 (px_QI D (tyC cs) (wC cs ad) below args s A z M) (F0 m 22 ls [])) ?_
  intro rc22 ih22 M y1 z hf H locs ls w hl
  unfold gC_sourceOfNextTask_L22 at hf
  refine lv_iload_n X.1 X.2.1 dX5_sourceOfNextTask_22 rfl (lv_at hl 1 rfl) ?_
  refine lv_iconst (v := (3 : Int32)) X.1 X.2.1 dX5_sourceOfNextTask_23 (by decide) ?_
  refine lv_icmp_ge (tgt := 47) X.1 X.2.1 dX5_sourceOfNextTask_24 (by decide) (fun c5 => ?_) (fun c5 => ?_)
  · have hf := px_ip c5 hf
    refine lv_iconst (v := (-1 : Int32)) X.1 X.2.1 dX5_sourceOfNextTask_47 (by decide) ?_
    cases hf
    exact px_retI X hr hlk w dX5_sourceOfNextTask_48
  · have hf := px_in c5 hf
    refine lv_aload_n X.1 X.2.1 dX5_sourceOfNextTask_27 rfl (lv_at hl 0 rfl) ?_
    refine gtC_0_2 X w dX5_sourceOfNextTask_28 ?_
    refine lv_iload_n X.1 X.2.1 dX5_sourceOfNextTask_31 rfl (lv_at hl 1 rfl) ?_
    by_cases c6 : y1 = 0
    · have hf := px_ip c6 hf
      refine alC_7_0 X w c6 dX5_sourceOfNextTask_32 ?_
      obtain ⟨r8, e7, hf⟩ := px_bq_e hf
      refine px_cI (As := []) (rest := []) X hml hl w (cC_Line_size_8 l D cs ad e7) lk_5_148 (by decide) (rcC_8 X.2.2.2.2 w) rfl (Nat.le_of_ble_eq_true rfl) dX5_sourceOfNextTask_33 (fun H locs w => ?_)
      refine lv_if_le (tgt := 41) X.1 X.2.1 dX5_sourceOfNextTask_36 (by decide) (fun c9 => ?_) (fun c9 => ?_)
      · have hf := px_ip c9 hf
        refine lv_iinc (v := (y1 + (1 : Int32))) (lv' := [(1, .int (y1 + (1 : Int32))), (0, .ref (ad 0))]) X.1 X.2.1 dX5_sourceOfNextTask_41 hl (k := 1) rfl rfl (by decide) rfl (fun ls hl => ?_)
        refine lv_goto (tgt := 22) X.1 X.2.1 dX5_sourceOfNextTask_44 (by decide) ?_
        exact ih22 M (y1 + (1 : Int32)) _ hf _ _ ls w (lv_sub hl [1, 0] rfl)
      · have hf := px_in c9 hf
        refine lv_iload_n X.1 X.2.1 dX5_sourceOfNextTask_39 rfl (lv_at hl 1 rfl) ?_
        cases hf
        exact px_retI X hr hlk w dX5_sourceOfNextTask_40
    · have hf := px_in c6 hf
      by_cases c10 : y1 = 1
      · have hf := px_ip c10 hf
        refine alC_7_1 X w c10 dX5_sourceOfNextTask_32 ?_
        obtain ⟨r12, e11, hf⟩ := px_bq_e hf
        refine px_cI (As := []) (rest := []) X hml hl w (cC_Line_size_12 l D cs ad e11) lk_5_148 (by decide) (rcC_12 X.2.2.2.2 w) rfl (Nat.le_of_ble_eq_true rfl) dX5_sourceOfNextTask_33 (fun H locs w => ?_)
        refine lv_if_le (tgt := 41) X.1 X.2.1 dX5_sourceOfNextTask_36 (by decide) (fun c13 => ?_) (fun c13 => ?_)
        · have hf := px_ip c13 hf
          refine lv_iinc (v := (y1 + (1 : Int32))) (lv' := [(1, .int (y1 + (1 : Int32))), (0, .ref (ad 0))]) X.1 X.2.1 dX5_sourceOfNextTask_41 hl (k := 1) rfl rfl (by decide) rfl (fun ls hl => ?_)
          refine lv_goto (tgt := 22) X.1 X.2.1 dX5_sourceOfNextTask_44 (by decide) ?_
          exact ih22 M (y1 + (1 : Int32)) _ hf _ _ ls w (lv_sub hl [1, 0] rfl)
        · have hf := px_in c13 hf
          refine lv_iload_n X.1 X.2.1 dX5_sourceOfNextTask_39 rfl (lv_at hl 1 rfl) ?_
          cases hf
          exact px_retI X hr hlk w dX5_sourceOfNextTask_40
      · have hf := px_in c10 hf
        by_cases c14 : y1 = 2
        · have hf := px_ip c14 hf
          refine alC_7_2 X w c14 dX5_sourceOfNextTask_32 ?_
          obtain ⟨r16, e15, hf⟩ := px_bq_e hf
          refine px_cI (As := []) (rest := []) X hml hl w (cC_Line_size_16 l D cs ad e15) lk_5_148 (by decide) (rcC_16 X.2.2.2.2 w) rfl (Nat.le_of_ble_eq_true rfl) dX5_sourceOfNextTask_33 (fun H locs w => ?_)
          refine lv_if_le (tgt := 41) X.1 X.2.1 dX5_sourceOfNextTask_36 (by decide) (fun c17 => ?_) (fun c17 => ?_)
          · have hf := px_ip c17 hf
            refine lv_iinc (v := (y1 + (1 : Int32))) (lv' := [(1, .int (y1 + (1 : Int32))), (0, .ref (ad 0))]) X.1 X.2.1 dX5_sourceOfNextTask_41 hl (k := 1) rfl rfl (by decide) rfl (fun ls hl => ?_)
            refine lv_goto (tgt := 22) X.1 X.2.1 dX5_sourceOfNextTask_44 (by decide) ?_
            exact ih22 M (y1 + (1 : Int32)) _ hf _ _ ls w (lv_sub hl [1, 0] rfl)
          · have hf := px_in c17 hf
            refine lv_iload_n X.1 X.2.1 dX5_sourceOfNextTask_39 rfl (lv_at hl 1 rfl) ?_
            cases hf
            exact px_retI X hr hlk w dX5_sourceOfNextTask_40
        · have hf := px_in c14 hf
          cases hf
def fC_sourceOfNextTask (M : px_M) : Option Int32 := (if (M 0 9) = 0 then px_bq (fC_Line_size_8 M) (fun r3 => (if r3 ≤ 0 then px_fx1 gC_sourceOfNextTask_L22 4 M (0 : Int32) else some (M 0 9))) else (if (M 0 9) = 1 then px_bq (fC_Line_size_12 M) (fun r20 => (if r20 ≤ 0 then px_fx1 gC_sourceOfNextTask_L22 4 M (0 : Int32) else some (M 0 9))) else (if (M 0 9) = 2 then px_bq (fC_Line_size_16 M) (fun r24 => (if r24 ≤ 0 then px_fx1 gC_sourceOfNextTask_L22 4 M (0 : Int32) else some (M 0 9))) else none)))
set_option maxHeartbeats 4000000 in
set_option maxRecDepth 100000 in
theorem cC_sourceOfNextTask (l : Launch) (D : va_G) (cs : Nat → ClassId) (ad : Nat → Nat) {M : px_M} {r : Int32} (hf : fC_sourceOfNextTask M = some r) : px_mI l D (tyC cs) (wC cs ad) yX5_sourceOfNextTask cX5_sourceOfNextTask 2 (some .int) 1 [.ref (ad 0)] M r M := by
  refine px_ofI (by decide +kernel) (Nat.le_of_ble_eq_true rfl) ?_
  intro p e s m below meth c A ls X hr hlk hml w hl
  have hl : lv_has ls 2 [(0, .ref (ad 0))] := hl
  unfold fC_sourceOfNextTask at hf
  refine lv_aload_n X.1 X.2.1 dX5_sourceOfNextTask_0 rfl (lv_at hl 0 rfl) ?_
  refine gtC_0_2 X w dX5_sourceOfNextTask_1 ?_
  refine lv_aload_n X.1 X.2.1 dX5_sourceOfNextTask_4 rfl (lv_at hl 0 rfl) ?_
  refine gtC_0_9 X w dX5_sourceOfNextTask_5 ?_
  by_cases c1 : (M 0 9) = 0
  · have hf := px_ip c1 hf
    refine alC_7_0 X w c1 dX5_sourceOfNextTask_8 ?_
    obtain ⟨r3, e2, hf⟩ := px_bq_e hf
    refine px_cI (As := []) (rest := []) X hml hl w (cC_Line_size_8 l D cs ad e2) lk_5_148 (by decide) (rcC_8 X.2.2.2.2 w) rfl (Nat.le_of_ble_eq_true rfl) dX5_sourceOfNextTask_9 (fun H locs w => ?_)
    refine lv_if_le (tgt := 20) X.1 X.2.1 dX5_sourceOfNextTask_12 (by decide) (fun c4 => ?_) (fun c4 => ?_)
    · have hf := px_ip c4 hf
      refine lv_iconst (v := (0 : Int32)) X.1 X.2.1 dX5_sourceOfNextTask_20 (by decide) ?_
      refine lv_istore_n (lv' := [(1, .int (0 : Int32)), (0, .ref (ad 0))]) X.1 X.2.1 dX5_sourceOfNextTask_21 rfl hl (by decide) rfl (fun ls hl => ?_)
      exact lC_sourceOfNextTask_L22 X hr hlk hml 4 M (0 : Int32) _ hf _ _ ls w (lv_sub hl [1, 0] rfl)
    · have hf := px_in c4 hf
      refine lv_aload_n X.1 X.2.1 dX5_sourceOfNextTask_15 rfl (lv_at hl 0 rfl) ?_
      refine gtC_0_9 X w dX5_sourceOfNextTask_16 ?_
      cases hf
      exact px_retI X hr hlk w dX5_sourceOfNextTask_19
  · have hf := px_in c1 hf
    by_cases c18 : (M 0 9) = 1
    · have hf := px_ip c18 hf
      refine alC_7_1 X w c18 dX5_sourceOfNextTask_8 ?_
      obtain ⟨r20, e19, hf⟩ := px_bq_e hf
      refine px_cI (As := []) (rest := []) X hml hl w (cC_Line_size_12 l D cs ad e19) lk_5_148 (by decide) (rcC_12 X.2.2.2.2 w) rfl (Nat.le_of_ble_eq_true rfl) dX5_sourceOfNextTask_9 (fun H locs w => ?_)
      refine lv_if_le (tgt := 20) X.1 X.2.1 dX5_sourceOfNextTask_12 (by decide) (fun c21 => ?_) (fun c21 => ?_)
      · have hf := px_ip c21 hf
        refine lv_iconst (v := (0 : Int32)) X.1 X.2.1 dX5_sourceOfNextTask_20 (by decide) ?_
        refine lv_istore_n (lv' := [(1, .int (0 : Int32)), (0, .ref (ad 0))]) X.1 X.2.1 dX5_sourceOfNextTask_21 rfl hl (by decide) rfl (fun ls hl => ?_)
        exact lC_sourceOfNextTask_L22 X hr hlk hml 4 M (0 : Int32) _ hf _ _ ls w (lv_sub hl [1, 0] rfl)
      · have hf := px_in c21 hf
        refine lv_aload_n X.1 X.2.1 dX5_sourceOfNextTask_15 rfl (lv_at hl 0 rfl) ?_
        refine gtC_0_9 X w dX5_sourceOfNextTask_16 ?_
        cases hf
        exact px_retI X hr hlk w dX5_sourceOfNextTask_19
    · have hf := px_in c18 hf
      by_cases c22 : (M 0 9) = 2
      · have hf := px_ip c22 hf
        refine alC_7_2 X w c22 dX5_sourceOfNextTask_8 ?_
        obtain ⟨r24, e23, hf⟩ := px_bq_e hf
        refine px_cI (As := []) (rest := []) X hml hl w (cC_Line_size_16 l D cs ad e23) lk_5_148 (by decide) (rcC_16 X.2.2.2.2 w) rfl (Nat.le_of_ble_eq_true rfl) dX5_sourceOfNextTask_9 (fun H locs w => ?_)
        refine lv_if_le (tgt := 20) X.1 X.2.1 dX5_sourceOfNextTask_12 (by decide) (fun c25 => ?_) (fun c25 => ?_)
        · have hf := px_ip c25 hf
          refine lv_iconst (v := (0 : Int32)) X.1 X.2.1 dX5_sourceOfNextTask_20 (by decide) ?_
          refine lv_istore_n (lv' := [(1, .int (0 : Int32)), (0, .ref (ad 0))]) X.1 X.2.1 dX5_sourceOfNextTask_21 rfl hl (by decide) rfl (fun ls hl => ?_)
          exact lC_sourceOfNextTask_L22 X hr hlk hml 4 M (0 : Int32) _ hf _ _ ls w (lv_sub hl [1, 0] rfl)
        · have hf := px_in c25 hf
          refine lv_aload_n X.1 X.2.1 dX5_sourceOfNextTask_15 rfl (lv_at hl 0 rfl) ?_
          refine gtC_0_9 X w dX5_sourceOfNextTask_16 ?_
          cases hf
          exact px_retI X hr hlk w dX5_sourceOfNextTask_19
      · have hf := px_in c22 hf
        cases hf
theorem lk_5_289 : px_Lk RX5 289 yX1_keep cX1_keep 2 none 1 := ⟨px_tb (by decide +kernel) (by decide +kernel), px_tb (by decide +kernel) (by decide +kernel), px_tb (by decide +kernel) (by decide +kernel), px_tb (by decide +kernel) (by decide +kernel), px_tb (by decide +kernel) (by decide +kernel), by decide +kernel, by decide⟩
def fC_reportFailure (M : px_M) : Option px_M := (if (M 0 15) = 0 then some M else px_bq (fC_Journal_keep_30 M ((10000 : Int32) + (M 0 17))) (fun M3 => some M3))
set_option maxHeartbeats 4000000 in
set_option maxRecDepth 100000 in
theorem cC_reportFailure (l : Launch) (D : va_G) (cs : Nat → ClassId) (ad : Nat → Nat) {M : px_M} {M' : px_M} (hf : fC_reportFailure M = some M') : px_mV l D (tyC cs) (wC cs ad) yX5_reportFailure cX5_reportFailure 1 1 [.ref (ad 0)] M M' := by
  refine px_ofV (by decide +kernel) (Nat.le_of_ble_eq_true rfl) ?_
  intro p e s m below meth c A ls X hr hlk hml w hl
  have hl : lv_has ls 1 [(0, .ref (ad 0))] := hl
  unfold fC_reportFailure at hf
  refine lv_aload_n X.1 X.2.1 dX5_reportFailure_0 rfl (lv_at hl 0 rfl) ?_
  refine gtC_0_15 X w dX5_reportFailure_1 ?_
  refine lv_if_eq (tgt := 22) X.1 X.2.1 dX5_reportFailure_4 (by decide) (fun c1 => ?_) (fun c1 => ?_)
  · have hf := px_ip c1 hf
    cases hf
    exact px_retV X hr hlk w dX5_reportFailure_22
  · have hf := px_in c1 hf
    refine lv_aload_n X.1 X.2.1 dX5_reportFailure_7 rfl (lv_at hl 0 rfl) ?_
    refine gtC_0_6 X w dX5_reportFailure_8 ?_
    refine lv_sipush (v := (10000 : Int32)) X.1 X.2.1 dX5_reportFailure_11 (by decide) ?_
    refine lv_aload_n X.1 X.2.1 dX5_reportFailure_14 rfl (lv_at hl 0 rfl) ?_
    refine gtC_0_17 X w dX5_reportFailure_15 ?_
    refine lv_iadd X.1 X.2.1 dX5_reportFailure_18 ?_
    obtain ⟨M3, e2, hf⟩ := px_bq_e hf
    refine px_cV (As := [.int ((10000 : Int32) + (M 0 17))]) (rest := []) X hml hl w (cC_Journal_keep_30 l D cs ad e2) lk_5_289 (by decide) (rcC_30 X.2.2.2.2 w) rfl (Nat.le_of_ble_eq_true rfl) dX5_reportFailure_19 (fun H locs w => ?_)
    cases hf
    exact px_retV X hr hlk w dX5_reportFailure_22
def fC_fail (M : px_M) (p1 : Int32) : Option px_M := px_bn (px_up M 0 15 (1 : Int32)) (fun M1 => px_bn (px_up M1 0 17 p1) (fun M2 => some M2))
set_option maxHeartbeats 4000000 in
set_option maxRecDepth 100000 in
theorem cC_fail (l : Launch) (D : va_G) (cs : Nat → ClassId) (ad : Nat → Nat) {M : px_M} {p1 : Int32} {M' : px_M} (hf : fC_fail M p1 = some M') : px_mV l D (tyC cs) (wC cs ad) yX5_fail cX5_fail 2 0 [.ref (ad 0), .int p1] M M' := by
  refine px_ofV (by decide +kernel) (Nat.le_of_ble_eq_true rfl) ?_
  intro p e s m below meth c A ls X hr hlk hml w hl
  have hl : lv_has ls 2 [(0, .ref (ad 0)), (1, .int p1)] := hl
  unfold fC_fail at hf
  refine lv_aload_n X.1 X.2.1 dX5_fail_0 rfl (lv_at hl 0 rfl) ?_
  refine lv_iconst (v := (1 : Int32)) X.1 X.2.1 dX5_fail_1 (by decide) ?_
  refine ptC_0_15 X w rfl dX5_fail_2 (fun H locs w => ?_)
  obtain ⟨M1, eM1, hf⟩ := px_bn_e hf
  rw [← eM1] at w
  refine lv_aload_n X.1 X.2.1 dX5_fail_5 rfl (lv_at hl 0 rfl) ?_
  refine lv_iload_n X.1 X.2.1 dX5_fail_6 rfl (lv_at hl 1 rfl) ?_
  refine ptC_0_17 X w dX5_fail_7 (fun H locs w => ?_)
  obtain ⟨M2, eM2, hf⟩ := px_bn_e hf
  rw [← eM2] at w
  cases hf
  exact px_retV X hr hlk w dX5_fail_10
def fC_endWith (M : px_M) (p1 p2 : Int32) : Option px_M := px_cb p2 (px_bn (px_up M 0 16 p2) (fun M2 => px_bn (px_up M2 0 17 p1) (fun M3 => some M3)))
set_option maxHeartbeats 4000000 in
set_option maxRecDepth 100000 in
theorem cC_endWith (l : Launch) (D : va_G) (cs : Nat → ClassId) (ad : Nat → Nat) {M : px_M} {p1 p2 : Int32} {M' : px_M} (hf : fC_endWith M p1 p2 = some M') : px_mV l D (tyC cs) (wC cs ad) yX5_endWith cX5_endWith 3 0 [.ref (ad 0), .int p1, .int p2] M M' := by
  refine px_ofV (by decide +kernel) (Nat.le_of_ble_eq_true rfl) ?_
  intro p e s m below meth c A ls X hr hlk hml w hl
  have hl : lv_has ls 3 [(0, .ref (ad 0)), (1, .int p1), (2, .int p2)] := hl
  unfold fC_endWith at hf
  refine lv_aload_n X.1 X.2.1 dX5_endWith_0 rfl (lv_at hl 0 rfl) ?_
  refine lv_iload_n X.1 X.2.1 dX5_endWith_1 rfl (lv_at hl 2 rfl) ?_
  obtain ⟨b1, hf⟩ := px_cb_e hf
  refine ptC_0_16 X w b1 dX5_endWith_2 (fun H locs w => ?_)
  obtain ⟨M2, eM2, hf⟩ := px_bn_e hf
  rw [← eM2] at w
  refine lv_aload_n X.1 X.2.1 dX5_endWith_5 rfl (lv_at hl 0 rfl) ?_
  refine lv_iload_n X.1 X.2.1 dX5_endWith_6 rfl (lv_at hl 1 rfl) ?_
  refine ptC_0_17 X w dX5_endWith_7 (fun H locs w => ?_)
  obtain ⟨M3, eM3, hf⟩ := px_bn_e hf
  rw [← eM3] at w
  cases hf
  exact px_retV X hr hlk w dX5_endWith_10
def fC_countRun (M : px_M) (p1 : Int32) : Option px_M := (if p1 = (1 : Int32) then px_bn (px_up M 0 12 ((M 0 12) + (1 : Int32))) (fun M3 => px_bn (px_up M3 0 13 (0 : Int32)) (fun M4 => some M4)) else px_bn (px_up M 0 13 ((M 0 13) + (1 : Int32))) (fun M2 => some M2))
set_option maxHeartbeats 4000000 in
set_option maxRecDepth 100000 in
theorem cC_countRun (l : Launch) (D : va_G) (cs : Nat → ClassId) (ad : Nat → Nat) {M : px_M} {p1 : Int32} {M' : px_M} (hf : fC_countRun M p1 = some M') : px_mV l D (tyC cs) (wC cs ad) yX5_countRun cX5_countRun 2 0 [.ref (ad 0), .int p1] M M' := by
  refine px_ofV (by decide +kernel) (Nat.le_of_ble_eq_true rfl) ?_
  intro p e s m below meth c A ls X hr hlk hml w hl
  have hl : lv_has ls 2 [(0, .ref (ad 0)), (1, .int p1)] := hl
  unfold fC_countRun at hf
  refine lv_iload_n X.1 X.2.1 dX5_countRun_0 rfl (lv_at hl 1 rfl) ?_
  refine lv_iconst (v := (1 : Int32)) X.1 X.2.1 dX5_countRun_1 (by decide) ?_
  refine lv_icmp_ne (tgt := 23) X.1 X.2.1 dX5_countRun_2 (by decide) (fun c1 => ?_) (fun c1 => ?_)
  · have hf := px_in c1 hf
    refine lv_aload_n X.1 X.2.1 dX5_countRun_23 rfl (lv_at hl 0 rfl) ?_
    refine lv_dup X.1 X.2.1 dX5_countRun_24 rfl ?_
    refine gtC_0_13 X w dX5_countRun_25 ?_
    refine lv_iconst (v := (1 : Int32)) X.1 X.2.1 dX5_countRun_28 (by decide) ?_
    refine lv_iadd X.1 X.2.1 dX5_countRun_29 ?_
    refine ptC_0_13 X w dX5_countRun_30 (fun H locs w => ?_)
    obtain ⟨M2, eM2, hf⟩ := px_bn_e hf
    rw [← eM2] at w
    cases hf
    exact px_retV X hr hlk w dX5_countRun_33
  · have hf := px_ip c1 hf
    refine lv_aload_n X.1 X.2.1 dX5_countRun_5 rfl (lv_at hl 0 rfl) ?_
    refine lv_dup X.1 X.2.1 dX5_countRun_6 rfl ?_
    refine gtC_0_12 X w dX5_countRun_7 ?_
    refine lv_iconst (v := (1 : Int32)) X.1 X.2.1 dX5_countRun_10 (by decide) ?_
    refine lv_iadd X.1 X.2.1 dX5_countRun_11 ?_
    refine ptC_0_12 X w dX5_countRun_12 (fun H locs w => ?_)
    obtain ⟨M3, eM3, hf⟩ := px_bn_e hf
    rw [← eM3] at w
    refine lv_aload_n X.1 X.2.1 dX5_countRun_15 rfl (lv_at hl 0 rfl) ?_
    refine lv_iconst (v := (0 : Int32)) X.1 X.2.1 dX5_countRun_16 (by decide) ?_
    refine ptC_0_13 X w dX5_countRun_17 (fun H locs w => ?_)
    obtain ⟨M4, eM4, hf⟩ := px_bn_e hf
    rw [← eM4] at w
    refine lv_goto (tgt := 33) X.1 X.2.1 dX5_countRun_20 (by decide) ?_
    cases hf
    exact px_retV X hr hlk w dX5_countRun_33
theorem lk_5_129 : px_Lk RX5 129 yX5_waitingTasks cX5_waitingTasks 3 (some .int) 0 := ⟨px_tb (by decide +kernel) (by decide +kernel), px_tb (by decide +kernel) (by decide +kernel), px_tb (by decide +kernel) (by decide +kernel), px_tb (by decide +kernel) (by decide +kernel), px_tb (by decide +kernel) (by decide +kernel), by decide +kernel, by decide⟩
theorem lk_5_135 : px_Lk RX5 135 yX2_put cX2_put 5 none 3 := ⟨px_tb (by decide +kernel) (by decide +kernel), px_tb (by decide +kernel) (by decide +kernel), px_tb (by decide +kernel) (by decide +kernel), px_tb (by decide +kernel) (by decide +kernel), px_tb (by decide +kernel) (by decide +kernel), by decide +kernel, by decide⟩
theorem lk_5_323 : px_Lk RX5 323 yX5_fail cX5_fail 2 none 1 := ⟨px_tb (by decide +kernel) (by decide +kernel), px_tb (by decide +kernel) (by decide +kernel), px_tb (by decide +kernel) (by decide +kernel), px_tb (by decide +kernel) (by decide +kernel), px_tb (by decide +kernel) (by decide +kernel), by decide +kernel, by decide⟩
def fC_postStep (M : px_M) (p1 p2 p3 : Int32) : Option px_M := px_bq (fC_waitingTasks M) (fun r2 => (if r2 < (40 : Int32) then (if p1 = 0 then px_bq (fC_Line_put_8 M (0 : Int32) p2 p3) (fun M6 => some M6) else (if p1 = 1 then px_bq (fC_Line_put_12 M (0 : Int32) p2 p3) (fun M9 => some M9) else (if p1 = 2 then px_bq (fC_Line_put_16 M (0 : Int32) p2 p3) (fun M12 => some M12) else none))) else px_bq (fC_fail M (-2 : Int32)) (fun M14 => some M14)))
set_option maxHeartbeats 4000000 in
set_option maxRecDepth 100000 in
theorem cC_postStep (l : Launch) (D : va_G) (cs : Nat → ClassId) (ad : Nat → Nat) {M : px_M} {p1 p2 p3 : Int32} {M' : px_M} (hf : fC_postStep M p1 p2 p3 = some M') : px_mV l D (tyC cs) (wC cs ad) yX5_postStep cX5_postStep 4 2 [.ref (ad 0), .int p1, .int p2, .int p3] M M' := by
  refine px_ofV (by decide +kernel) (Nat.le_of_ble_eq_true rfl) ?_
  intro p e s m below meth c A ls X hr hlk hml w hl
  have hl : lv_has ls 4 [(0, .ref (ad 0)), (1, .int p1), (2, .int p2), (3, .int p3)] := hl
  unfold fC_postStep at hf
  refine lv_aload_n X.1 X.2.1 dX5_postStep_0 rfl (lv_at hl 0 rfl) ?_
  obtain ⟨r2, e1, hf⟩ := px_bq_e hf
  refine px_cI (As := []) (rest := []) X hml hl w (cC_waitingTasks l D cs ad e1) lk_5_129 (by decide) (rcC_0 X.2.2.2.2 w) rfl (Nat.le_of_ble_eq_true rfl) dX5_postStep_1 (fun H locs w => ?_)
  refine lv_bipush (v := (40 : Int32)) X.1 X.2.1 dX5_postStep_4 (by decide) ?_
  refine lv_icmp_lt (tgt := 18) X.1 X.2.1 dX5_postStep_6 (by decide) (fun c3 => ?_) (fun c3 => ?_)
  · have hf := px_ip c3 hf
    refine lv_aload_n X.1 X.2.1 dX5_postStep_18 rfl (lv_at hl 0 rfl) ?_
    refine gtC_0_2 X w dX5_postStep_19 ?_
    refine lv_iload_n X.1 X.2.1 dX5_postStep_22 rfl (lv_at hl 1 rfl) ?_
    by_cases c4 : p1 = 0
    · have hf := px_ip c4 hf
      refine alC_7_0 X w c4 dX5_postStep_23 ?_
      refine lv_iconst (v := (0 : Int32)) X.1 X.2.1 dX5_postStep_24 (by decide) ?_
      refine lv_iload_n X.1 X.2.1 dX5_postStep_25 rfl (lv_at hl 2 rfl) ?_
      refine lv_iload_n X.1 X.2.1 dX5_postStep_26 rfl (lv_at hl 3 rfl) ?_
      obtain ⟨M6, e5, hf⟩ := px_bq_e hf
      refine px_cV (As := [.int (0 : Int32), .int p2, .int p3]) (rest := []) X hml hl w (cC_Line_put_8 l D cs ad e5) lk_5_135 (by decide) (rcC_8 X.2.2.2.2 w) rfl (Nat.le_of_ble_eq_true rfl) dX5_postStep_27 (fun H locs w => ?_)
      cases hf
      exact px_retV X hr hlk w dX5_postStep_30
    · have hf := px_in c4 hf
      by_cases c7 : p1 = 1
      · have hf := px_ip c7 hf
        refine alC_7_1 X w c7 dX5_postStep_23 ?_
        refine lv_iconst (v := (0 : Int32)) X.1 X.2.1 dX5_postStep_24 (by decide) ?_
        refine lv_iload_n X.1 X.2.1 dX5_postStep_25 rfl (lv_at hl 2 rfl) ?_
        refine lv_iload_n X.1 X.2.1 dX5_postStep_26 rfl (lv_at hl 3 rfl) ?_
        obtain ⟨M9, e8, hf⟩ := px_bq_e hf
        refine px_cV (As := [.int (0 : Int32), .int p2, .int p3]) (rest := []) X hml hl w (cC_Line_put_12 l D cs ad e8) lk_5_135 (by decide) (rcC_12 X.2.2.2.2 w) rfl (Nat.le_of_ble_eq_true rfl) dX5_postStep_27 (fun H locs w => ?_)
        cases hf
        exact px_retV X hr hlk w dX5_postStep_30
      · have hf := px_in c7 hf
        by_cases c10 : p1 = 2
        · have hf := px_ip c10 hf
          refine alC_7_2 X w c10 dX5_postStep_23 ?_
          refine lv_iconst (v := (0 : Int32)) X.1 X.2.1 dX5_postStep_24 (by decide) ?_
          refine lv_iload_n X.1 X.2.1 dX5_postStep_25 rfl (lv_at hl 2 rfl) ?_
          refine lv_iload_n X.1 X.2.1 dX5_postStep_26 rfl (lv_at hl 3 rfl) ?_
          obtain ⟨M12, e11, hf⟩ := px_bq_e hf
          refine px_cV (As := [.int (0 : Int32), .int p2, .int p3]) (rest := []) X hml hl w (cC_Line_put_16 l D cs ad e11) lk_5_135 (by decide) (rcC_16 X.2.2.2.2 w) rfl (Nat.le_of_ble_eq_true rfl) dX5_postStep_27 (fun H locs w => ?_)
          cases hf
          exact px_retV X hr hlk w dX5_postStep_30
        · have hf := px_in c10 hf
          cases hf
  · have hf := px_in c3 hf
    refine lv_aload_n X.1 X.2.1 dX5_postStep_9 rfl (lv_at hl 0 rfl) ?_
    refine lv_bipush (v := (-2 : Int32)) X.1 X.2.1 dX5_postStep_10 (by decide) ?_
    obtain ⟨M14, e13, hf⟩ := px_bq_e hf
    refine px_cV (As := [.int (-2 : Int32)]) (rest := []) X hml hl w (cC_fail l D cs ad e13) lk_5_323 (by decide) (rcC_0 X.2.2.2.2 w) rfl (Nat.le_of_ble_eq_true rfl) dX5_postStep_12 (fun H locs w => ?_)
    refine lv_goto (tgt := 30) X.1 X.2.1 dX5_postStep_15 (by decide) ?_
    cases hf
    exact px_retV X hr hlk w dX5_postStep_30
def fC_microStep (M : px_M) (p1 p2 : Int32) : Option px_M := px_bq (fC_Line_size_20 M) (fun r2 => (if r2 < (60 : Int32) then px_bq (fC_Line_put_20 M (0 : Int32) p1 p2) (fun M5 => some M5) else px_bq (fC_fail M (-2 : Int32)) (fun M7 => some M7)))
set_option maxHeartbeats 4000000 in
set_option maxRecDepth 100000 in
theorem cC_microStep (l : Launch) (D : va_G) (cs : Nat → ClassId) (ad : Nat → Nat) {M : px_M} {p1 p2 : Int32} {M' : px_M} (hf : fC_microStep M p1 p2 = some M') : px_mV l D (tyC cs) (wC cs ad) yX5_microStep cX5_microStep 3 1 [.ref (ad 0), .int p1, .int p2] M M' := by
  refine px_ofV (by decide +kernel) (Nat.le_of_ble_eq_true rfl) ?_
  intro p e s m below meth c A ls X hr hlk hml w hl
  have hl : lv_has ls 3 [(0, .ref (ad 0)), (1, .int p1), (2, .int p2)] := hl
  unfold fC_microStep at hf
  refine lv_aload_n X.1 X.2.1 dX5_microStep_0 rfl (lv_at hl 0 rfl) ?_
  refine gtC_0_3 X w dX5_microStep_1 ?_
  obtain ⟨r2, e1, hf⟩ := px_bq_e hf
  refine px_cI (As := []) (rest := []) X hml hl w (cC_Line_size_20 l D cs ad e1) lk_5_148 (by decide) (rcC_20 X.2.2.2.2 w) rfl (Nat.le_of_ble_eq_true rfl) dX5_microStep_4 (fun H locs w => ?_)
  refine lv_bipush (v := (60 : Int32)) X.1 X.2.1 dX5_microStep_7 (by decide) ?_
  refine lv_icmp_lt (tgt := 21) X.1 X.2.1 dX5_microStep_9 (by decide) (fun c3 => ?_) (fun c3 => ?_)
  · have hf := px_ip c3 hf
    refine lv_aload_n X.1 X.2.1 dX5_microStep_21 rfl (lv_at hl 0 rfl) ?_
    refine gtC_0_3 X w dX5_microStep_22 ?_
    refine lv_iconst (v := (0 : Int32)) X.1 X.2.1 dX5_microStep_25 (by decide) ?_
    refine lv_iload_n X.1 X.2.1 dX5_microStep_26 rfl (lv_at hl 1 rfl) ?_
    refine lv_iload_n X.1 X.2.1 dX5_microStep_27 rfl (lv_at hl 2 rfl) ?_
    obtain ⟨M5, e4, hf⟩ := px_bq_e hf
    refine px_cV (As := [.int (0 : Int32), .int p1, .int p2]) (rest := []) X hml hl w (cC_Line_put_20 l D cs ad e4) lk_5_135 (by decide) (rcC_20 X.2.2.2.2 w) rfl (Nat.le_of_ble_eq_true rfl) dX5_microStep_28 (fun H locs w => ?_)
    cases hf
    exact px_retV X hr hlk w dX5_microStep_31
  · have hf := px_in c3 hf
    refine lv_aload_n X.1 X.2.1 dX5_microStep_12 rfl (lv_at hl 0 rfl) ?_
    refine lv_bipush (v := (-2 : Int32)) X.1 X.2.1 dX5_microStep_13 (by decide) ?_
    obtain ⟨M7, e6, hf⟩ := px_bq_e hf
    refine px_cV (As := [.int (-2 : Int32)]) (rest := []) X hml hl w (cC_fail l D cs ad e6) lk_5_323 (by decide) (rcC_0 X.2.2.2.2 w) rfl (Nat.le_of_ble_eq_true rfl) dX5_microStep_15 (fun H locs w => ?_)
    refine lv_goto (tgt := 31) X.1 X.2.1 dX5_microStep_18 (by decide) ?_
    cases hf
    exact px_retV X hr hlk w dX5_microStep_31
theorem lk_5_344 : px_Lk RX5 344 yX4_isFull cX4_isFull 1 (some .boolean) 0 := ⟨px_tb (by decide +kernel) (by decide +kernel), px_tb (by decide +kernel) (by decide +kernel), px_tb (by decide +kernel) (by decide +kernel), px_tb (by decide +kernel) (by decide +kernel), px_tb (by decide +kernel) (by decide +kernel), by decide +kernel, by decide⟩
theorem lk_5_347 : px_Lk RX5 347 yX4_make cX4_make 8 none 6 := ⟨px_tb (by decide +kernel) (by decide +kernel), px_tb (by decide +kernel) (by decide +kernel), px_tb (by decide +kernel) (by decide +kernel), px_tb (by decide +kernel) (by decide +kernel), px_tb (by decide +kernel) (by decide +kernel), by decide +kernel, by decide⟩
def fC_timerStep (M : px_M) (p1 p2 p3 p4 : Int32) : Option px_M := px_bq (fC_Timers_isFull M) (fun r2 => (if r2 = 0 then px_bq (fC_Timers_make M p1 p2 p3 p4 ((M 0 14) + (1 : Int32)) (M 0 10)) (fun M5 => some M5) else px_bq (fC_fail M (-2 : Int32)) (fun M7 => some M7)))
set_option maxHeartbeats 4000000 in
set_option maxRecDepth 100000 in
theorem cC_timerStep (l : Launch) (D : va_G) (cs : Nat → ClassId) (ad : Nat → Nat) {M : px_M} {p1 p2 p3 p4 : Int32} {M' : px_M} (hf : fC_timerStep M p1 p2 p3 p4 = some M') : px_mV l D (tyC cs) (wC cs ad) yX5_timerStep cX5_timerStep 5 2 [.ref (ad 0), .int p1, .int p2, .int p3, .int p4] M M' := by
  refine px_ofV (by decide +kernel) (Nat.le_of_ble_eq_true rfl) ?_
  intro p e s m below meth c A ls X hr hlk hml w hl
  have hl : lv_has ls 5 [(0, .ref (ad 0)), (1, .int p1), (2, .int p2), (3, .int p3), (4, .int p4)] := hl
  unfold fC_timerStep at hf
  refine lv_aload_n X.1 X.2.1 dX5_timerStep_0 rfl (lv_at hl 0 rfl) ?_
  refine gtC_0_8 X w dX5_timerStep_1 ?_
  obtain ⟨r2, e1, hf⟩ := px_bq_e hf
  refine px_cI (As := []) (rest := []) X hml hl w (cC_Timers_isFull l D cs ad e1) lk_5_344 (by decide) (rcC_43 X.2.2.2.2 w) rfl (Nat.le_of_ble_eq_true rfl) dX5_timerStep_4 (fun H locs w => ?_)
  refine lv_if_eq (tgt := 19) X.1 X.2.1 dX5_timerStep_7 (by decide) (fun c3 => ?_) (fun c3 => ?_)
  · have hf := px_ip c3 hf
    refine lv_aload_n X.1 X.2.1 dX5_timerStep_19 rfl (lv_at hl 0 rfl) ?_
    refine gtC_0_8 X w dX5_timerStep_20 ?_
    refine lv_iload_n X.1 X.2.1 dX5_timerStep_23 rfl (lv_at hl 1 rfl) ?_
    refine lv_iload_n X.1 X.2.1 dX5_timerStep_24 rfl (lv_at hl 2 rfl) ?_
    refine lv_iload_n X.1 X.2.1 dX5_timerStep_25 rfl (lv_at hl 3 rfl) ?_
    refine lv_iload X.1 X.2.1 dX5_timerStep_26 (lv_at hl 4 rfl) ?_
    refine lv_aload_n X.1 X.2.1 dX5_timerStep_28 rfl (lv_at hl 0 rfl) ?_
    refine gtC_0_14 X w dX5_timerStep_29 ?_
    refine lv_iconst (v := (1 : Int32)) X.1 X.2.1 dX5_timerStep_32 (by decide) ?_
    refine lv_iadd X.1 X.2.1 dX5_timerStep_33 ?_
    refine lv_aload_n X.1 X.2.1 dX5_timerStep_34 rfl (lv_at hl 0 rfl) ?_
    refine gtC_0_10 X w dX5_timerStep_35 ?_
    obtain ⟨M5, e4, hf⟩ := px_bq_e hf
    refine px_cV (As := [.int p1, .int p2, .int p3, .int p4, .int ((M 0 14) + (1 : Int32)), .int (M 0 10)]) (rest := []) X hml hl w (cC_Timers_make l D cs ad e4) lk_5_347 (by decide) (rcC_43 X.2.2.2.2 w) rfl (Nat.le_of_ble_eq_true rfl) dX5_timerStep_38 (fun H locs w => ?_)
    cases hf
    exact px_retV X hr hlk w dX5_timerStep_41
  · have hf := px_in c3 hf
    refine lv_aload_n X.1 X.2.1 dX5_timerStep_10 rfl (lv_at hl 0 rfl) ?_
    refine lv_bipush (v := (-2 : Int32)) X.1 X.2.1 dX5_timerStep_11 (by decide) ?_
    obtain ⟨M7, e6, hf⟩ := px_bq_e hf
    refine px_cV (As := [.int (-2 : Int32)]) (rest := []) X hml hl w (cC_fail l D cs ad e6) lk_5_323 (by decide) (rcC_0 X.2.2.2.2 w) rfl (Nat.le_of_ble_eq_true rfl) dX5_timerStep_13 (fun H locs w => ?_)
    refine lv_goto (tgt := 41) X.1 X.2.1 dX5_timerStep_16 (by decide) ?_
    cases hf
    exact px_retV X hr hlk w dX5_timerStep_41
def fC_frameStep (M : px_M) (p1 : Int32) : Option px_M := px_bq (fC_Line_size_24 M) (fun r2 => (if r2 < (8 : Int32) then px_bq (fC_Line_put_24 M (0 : Int32) p1 (0 : Int32)) (fun M5 => some M5) else px_bq (fC_fail M (-2 : Int32)) (fun M7 => some M7)))
set_option maxHeartbeats 4000000 in
set_option maxRecDepth 100000 in
theorem cC_frameStep (l : Launch) (D : va_G) (cs : Nat → ClassId) (ad : Nat → Nat) {M : px_M} {p1 : Int32} {M' : px_M} (hf : fC_frameStep M p1 = some M') : px_mV l D (tyC cs) (wC cs ad) yX5_frameStep cX5_frameStep 2 1 [.ref (ad 0), .int p1] M M' := by
  refine px_ofV (by decide +kernel) (Nat.le_of_ble_eq_true rfl) ?_
  intro p e s m below meth c A ls X hr hlk hml w hl
  have hl : lv_has ls 2 [(0, .ref (ad 0)), (1, .int p1)] := hl
  unfold fC_frameStep at hf
  refine lv_aload_n X.1 X.2.1 dX5_frameStep_0 rfl (lv_at hl 0 rfl) ?_
  refine gtC_0_4 X w dX5_frameStep_1 ?_
  obtain ⟨r2, e1, hf⟩ := px_bq_e hf
  refine px_cI (As := []) (rest := []) X hml hl w (cC_Line_size_24 l D cs ad e1) lk_5_148 (by decide) (rcC_24 X.2.2.2.2 w) rfl (Nat.le_of_ble_eq_true rfl) dX5_frameStep_4 (fun H locs w => ?_)
  refine lv_bipush (v := (8 : Int32)) X.1 X.2.1 dX5_frameStep_7 (by decide) ?_
  refine lv_icmp_lt (tgt := 21) X.1 X.2.1 dX5_frameStep_9 (by decide) (fun c3 => ?_) (fun c3 => ?_)
  · have hf := px_ip c3 hf
    refine lv_aload_n X.1 X.2.1 dX5_frameStep_21 rfl (lv_at hl 0 rfl) ?_
    refine gtC_0_4 X w dX5_frameStep_22 ?_
    refine lv_iconst (v := (0 : Int32)) X.1 X.2.1 dX5_frameStep_25 (by decide) ?_
    refine lv_iload_n X.1 X.2.1 dX5_frameStep_26 rfl (lv_at hl 1 rfl) ?_
    refine lv_iconst (v := (0 : Int32)) X.1 X.2.1 dX5_frameStep_27 (by decide) ?_
    obtain ⟨M5, e4, hf⟩ := px_bq_e hf
    refine px_cV (As := [.int (0 : Int32), .int p1, .int (0 : Int32)]) (rest := []) X hml hl w (cC_Line_put_24 l D cs ad e4) lk_5_135 (by decide) (rcC_24 X.2.2.2.2 w) rfl (Nat.le_of_ble_eq_true rfl) dX5_frameStep_28 (fun H locs w => ?_)
    cases hf
    exact px_retV X hr hlk w dX5_frameStep_31
  · have hf := px_in c3 hf
    refine lv_aload_n X.1 X.2.1 dX5_frameStep_12 rfl (lv_at hl 0 rfl) ?_
    refine lv_bipush (v := (-2 : Int32)) X.1 X.2.1 dX5_frameStep_13 (by decide) ?_
    obtain ⟨M7, e6, hf⟩ := px_bq_e hf
    refine px_cV (As := [.int (-2 : Int32)]) (rest := []) X hml hl w (cC_fail l D cs ad e6) lk_5_323 (by decide) (rcC_0 X.2.2.2.2 w) rfl (Nat.le_of_ble_eq_true rfl) dX5_frameStep_15 (fun H locs w => ?_)
    refine lv_goto (tgt := 31) X.1 X.2.1 dX5_frameStep_18 (by decide) ?_
    cases hf
    exact px_retV X hr hlk w dX5_frameStep_31
def fC_mayCall (M : px_M) (p1 : Int32) : Option Int32 := (if (6 : Int32) ≤ p1 then some (0 : Int32) else (if (30 : Int32) ≤ (M 0 13) then some (0 : Int32) else some (1 : Int32)))
set_option maxHeartbeats 4000000 in
set_option maxRecDepth 100000 in
theorem cC_mayCall (l : Launch) (D : va_G) (cs : Nat → ClassId) (ad : Nat → Nat) {M : px_M} {p1 : Int32} {r : Int32} (hf : fC_mayCall M p1 = some r) : px_mI l D (tyC cs) (wC cs ad) yX5_mayCall cX5_mayCall 2 (some .boolean) 0 [.ref (ad 0), .int p1] M r M := by
  refine px_ofI (by decide +kernel) (Nat.le_of_ble_eq_true rfl) ?_
  intro p e s m below meth c A ls X hr hlk hml w hl
  have hl : lv_has ls 2 [(0, .ref (ad 0)), (1, .int p1)] := hl
  unfold fC_mayCall at hf
  refine lv_iload_n X.1 X.2.1 dX5_mayCall_0 rfl (lv_at hl 1 rfl) ?_
  refine lv_bipush (v := (6 : Int32)) X.1 X.2.1 dX5_mayCall_1 (by decide) ?_
  refine lv_icmp_ge (tgt := 19) X.1 X.2.1 dX5_mayCall_3 (by decide) (fun c1 => ?_) (fun c1 => ?_)
  · have hf := px_ip c1 hf
    refine lv_iconst (v := (0 : Int32)) X.1 X.2.1 dX5_mayCall_19 (by decide) ?_
    cases hf
    exact px_retZ X hr hlk narrow_b0 w dX5_mayCall_20
  · have hf := px_in c1 hf
    refine lv_aload_n X.1 X.2.1 dX5_mayCall_6 rfl (lv_at hl 0 rfl) ?_
    refine gtC_0_13 X w dX5_mayCall_7 ?_
    refine lv_bipush (v := (30 : Int32)) X.1 X.2.1 dX5_mayCall_10 (by decide) ?_
    refine lv_icmp_ge (tgt := 19) X.1 X.2.1 dX5_mayCall_12 (by decide) (fun c2 => ?_) (fun c2 => ?_)
    · have hf := px_ip c2 hf
      refine lv_iconst (v := (0 : Int32)) X.1 X.2.1 dX5_mayCall_19 (by decide) ?_
      cases hf
      exact px_retZ X hr hlk narrow_b0 w dX5_mayCall_20
    · have hf := px_in c2 hf
      refine lv_iconst (v := (1 : Int32)) X.1 X.2.1 dX5_mayCall_15 (by decide) ?_
      refine lv_goto (tgt := 20) X.1 X.2.1 dX5_mayCall_16 (by decide) ?_
      cases hf
      exact px_retZ X hr hlk narrow_b1 w dX5_mayCall_20
theorem lk_5_295 : px_Lk RX5 295 yX5_endWith cX5_endWith 3 none 2 := ⟨px_tb (by decide +kernel) (by decide +kernel), px_tb (by decide +kernel) (by decide +kernel), px_tb (by decide +kernel) (by decide +kernel), px_tb (by decide +kernel) (by decide +kernel), px_tb (by decide +kernel) (by decide +kernel), by decide +kernel, by decide⟩
def fC_answerStep (M : px_M) (p1 p2 p3 : Int32) : Option px_M := (if p2 = (2 : Int32) then px_ck p1 8 ((if (M 6 p1.toNatClampNeg) = (-1 : Int32) then px_bq (fC_endWith M (0 : Int32) (0 : Int32)) (fun M10 => some M10) else px_ck p1 8 (px_bq (fC_endWith M (M 6 p1.toNatClampNeg) (1 : Int32)) (fun M13 => some M13)))) else (if p2 = (1 : Int32) then px_bq (fC_endWith M p3 (0 : Int32)) (fun M6 => some M6) else px_bq (fC_endWith M p1 (0 : Int32)) (fun M4 => some M4)))
set_option maxHeartbeats 4000000 in
set_option maxRecDepth 100000 in
theorem cC_answerStep (l : Launch) (D : va_G) (cs : Nat → ClassId) (ad : Nat → Nat) {M : px_M} {p1 p2 p3 : Int32} {M' : px_M} (hf : fC_answerStep M p1 p2 p3 = some M') : px_mV l D (tyC cs) (wC cs ad) yX5_answerStep cX5_answerStep 5 1 [.ref (ad 0), .int p1, .int p2, .int p3] M M' := by
  refine px_ofV (by decide +kernel) (Nat.le_of_ble_eq_true rfl) ?_
  intro p e s m below meth c A ls X hr hlk hml w hl
  have hl : lv_has ls 5 [(0, .ref (ad 0)), (1, .int p1), (2, .int p2), (3, .int p3)] := hl
  unfold fC_answerStep at hf
  refine lv_iload_n X.1 X.2.1 dX5_answerStep_0 rfl (lv_at hl 2 rfl) ?_
  refine lv_iconst (v := (2 : Int32)) X.1 X.2.1 dX5_answerStep_1 (by decide) ?_
  refine lv_icmp_ne (tgt := 46) X.1 X.2.1 dX5_answerStep_2 (by decide) (fun c1 => ?_) (fun c1 => ?_)
  · have hf := px_in c1 hf
    refine lv_aload_n X.1 X.2.1 dX5_answerStep_46 rfl (lv_at hl 0 rfl) ?_
    refine lv_iload_n X.1 X.2.1 dX5_answerStep_47 rfl (lv_at hl 2 rfl) ?_
    refine lv_iconst (v := (1 : Int32)) X.1 X.2.1 dX5_answerStep_48 (by decide) ?_
    refine lv_icmp_ne (tgt := 56) X.1 X.2.1 dX5_answerStep_49 (by decide) (fun c2 => ?_) (fun c2 => ?_)
    · have hf := px_in c2 hf
      refine lv_iload_n X.1 X.2.1 dX5_answerStep_56 rfl (lv_at hl 1 rfl) ?_
      refine lv_iconst (v := (0 : Int32)) X.1 X.2.1 dX5_answerStep_57 (by decide) ?_
      obtain ⟨M4, e3, hf⟩ := px_bq_e hf
      refine px_cV (As := [.int p1, .int (0 : Int32)]) (rest := []) X hml hl w (cC_endWith l D cs ad e3) lk_5_295 (by decide) (rcC_0 X.2.2.2.2 w) rfl (Nat.le_of_ble_eq_true rfl) dX5_answerStep_58 (fun H locs w => ?_)
      cases hf
      exact px_retV X hr hlk w dX5_answerStep_61
    · have hf := px_ip c2 hf
      refine lv_iload_n X.1 X.2.1 dX5_answerStep_52 rfl (lv_at hl 3 rfl) ?_
      refine lv_goto (tgt := 57) X.1 X.2.1 dX5_answerStep_53 (by decide) ?_
      refine lv_iconst (v := (0 : Int32)) X.1 X.2.1 dX5_answerStep_57 (by decide) ?_
      obtain ⟨M6, e5, hf⟩ := px_bq_e hf
      refine px_cV (As := [.int p3, .int (0 : Int32)]) (rest := []) X hml hl w (cC_endWith l D cs ad e5) lk_5_295 (by decide) (rcC_0 X.2.2.2.2 w) rfl (Nat.le_of_ble_eq_true rfl) dX5_answerStep_58 (fun H locs w => ?_)
      cases hf
      exact px_retV X hr hlk w dX5_answerStep_61
  · have hf := px_ip c1 hf
    refine lv_aload_n X.1 X.2.1 dX5_answerStep_5 rfl (lv_at hl 0 rfl) ?_
    refine gtC_0_1 X w dX5_answerStep_6 ?_
    refine lv_iload_n X.1 X.2.1 dX5_answerStep_9 rfl (lv_at hl 1 rfl) ?_
    obtain ⟨b7, hf⟩ := px_ck_e hf
    refine ilC_6 X w b7 dX5_answerStep_10 ?_
    refine lv_iconst (v := (-1 : Int32)) X.1 X.2.1 dX5_answerStep_11 (by decide) ?_
    refine lv_icmp_eq (tgt := 19) X.1 X.2.1 dX5_answerStep_12 (by decide) (fun c8 => ?_) (fun c8 => ?_)
    · have hf := px_ip c8 hf
      refine lv_iconst (v := (0 : Int32)) X.1 X.2.1 dX5_answerStep_19 (by decide) ?_
      refine lv_istore (lv' := [(4, .int (0 : Int32)), (0, .ref (ad 0)), (1, .int p1), (2, .int p2), (3, .int p3)]) X.1 X.2.1 dX5_answerStep_20 hl (by decide) rfl (fun ls hl => ?_)
      refine lv_aload_n X.1 X.2.1 dX5_answerStep_22 rfl (lv_at hl 1 rfl) ?_
      refine lv_iload X.1 X.2.1 dX5_answerStep_23 (lv_at hl 0 rfl) ?_
      refine lv_if_eq (tgt := 37) X.1 X.2.1 dX5_answerStep_25 (by decide) (fun _ => ?_) (fun c => absurd c (by decide))
      refine lv_iconst (v := (0 : Int32)) X.1 X.2.1 dX5_answerStep_37 (by decide) ?_
      refine lv_iload X.1 X.2.1 dX5_answerStep_38 (lv_at hl 0 rfl) ?_
      obtain ⟨M10, e9, hf⟩ := px_bq_e hf
      refine px_cV (As := [.int (0 : Int32), .int (0 : Int32)]) (rest := []) X hml hl w (cC_endWith l D cs ad e9) lk_5_295 (by decide) (rcC_0 X.2.2.2.2 w) rfl (Nat.le_of_ble_eq_true rfl) dX5_answerStep_40 (fun H locs w => ?_)
      refine lv_goto (tgt := 61) X.1 X.2.1 dX5_answerStep_43 (by decide) ?_
      cases hf
      exact px_retV X hr hlk w dX5_answerStep_61
    · have hf := px_in c8 hf
      refine lv_iconst (v := (1 : Int32)) X.1 X.2.1 dX5_answerStep_15 (by decide) ?_
      refine lv_goto (tgt := 20) X.1 X.2.1 dX5_answerStep_16 (by decide) ?_
      refine lv_istore (lv' := [(4, .int (1 : Int32)), (0, .ref (ad 0)), (1, .int p1), (2, .int p2), (3, .int p3)]) X.1 X.2.1 dX5_answerStep_20 hl (by decide) rfl (fun ls hl => ?_)
      refine lv_aload_n X.1 X.2.1 dX5_answerStep_22 rfl (lv_at hl 1 rfl) ?_
      refine lv_iload X.1 X.2.1 dX5_answerStep_23 (lv_at hl 0 rfl) ?_
      refine lv_if_eq (tgt := 37) X.1 X.2.1 dX5_answerStep_25 (by decide) (fun c => absurd c (by decide)) (fun _ => ?_)
      refine lv_aload_n X.1 X.2.1 dX5_answerStep_28 rfl (lv_at hl 1 rfl) ?_
      refine gtC_0_1 X w dX5_answerStep_29 ?_
      refine lv_iload_n X.1 X.2.1 dX5_answerStep_32 rfl (lv_at hl 2 rfl) ?_
      obtain ⟨b11, hf⟩ := px_ck_e hf
      refine ilC_6 X w b11 dX5_answerStep_33 ?_
      refine lv_goto (tgt := 38) X.1 X.2.1 dX5_answerStep_34 (by decide) ?_
      refine lv_iload X.1 X.2.1 dX5_answerStep_38 (lv_at hl 0 rfl) ?_
      obtain ⟨M13, e12, hf⟩ := px_bq_e hf
      refine px_cV (As := [.int (M 6 p1.toNatClampNeg), .int (1 : Int32)]) (rest := []) X hml hl w (cC_endWith l D cs ad e12) lk_5_295 (by decide) (rcC_0 X.2.2.2.2 w) rfl (Nat.le_of_ble_eq_true rfl) dX5_answerStep_40 (fun H locs w => ?_)
      refine lv_goto (tgt := 61) X.1 X.2.1 dX5_answerStep_43 (by decide) ?_
      cases hf
      exact px_retV X hr hlk w dX5_answerStep_61
theorem lk_5_354 : px_Lk RX5 354 yX3_isFull cX3_isFull 1 (some .boolean) 0 := ⟨px_tb (by decide +kernel) (by decide +kernel), px_tb (by decide +kernel) (by decide +kernel), px_tb (by decide +kernel) (by decide +kernel), px_tb (by decide +kernel) (by decide +kernel), px_tb (by decide +kernel) (by decide +kernel), by decide +kernel, by decide⟩
theorem lk_5_355 : px_Lk RX5 355 yX3_make cX3_make 1 (some .int) 0 := ⟨px_tb (by decide +kernel) (by decide +kernel), px_tb (by decide +kernel) (by decide +kernel), px_tb (by decide +kernel) (by decide +kernel), px_tb (by decide +kernel) (by decide +kernel), px_tb (by decide +kernel) (by decide +kernel), by decide +kernel, by decide⟩
def fC_makeStep (M : px_M) (p1 : Int32) : Option px_M := px_bq (fC_Promises_isFull M) (fun r2 => (if r2 = 0 then px_bo (fC_Promises_make M) (fun r5 M6 => px_ck p1 8 (px_bn (px_up M6 6 p1.toNatClampNeg r5) (fun M8 => some M8))) else px_bq (fC_fail M (-2 : Int32)) (fun M10 => some M10)))
set_option maxHeartbeats 4000000 in
set_option maxRecDepth 100000 in
theorem cC_makeStep (l : Launch) (D : va_G) (cs : Nat → ClassId) (ad : Nat → Nat) {M : px_M} {p1 : Int32} {M' : px_M} (hf : fC_makeStep M p1 = some M') : px_mV l D (tyC cs) (wC cs ad) yX5_makeStep cX5_makeStep 2 1 [.ref (ad 0), .int p1] M M' := by
  refine px_ofV (by decide +kernel) (Nat.le_of_ble_eq_true rfl) ?_
  intro p e s m below meth c A ls X hr hlk hml w hl
  have hl : lv_has ls 2 [(0, .ref (ad 0)), (1, .int p1)] := hl
  unfold fC_makeStep at hf
  refine lv_aload_n X.1 X.2.1 dX5_makeStep_0 rfl (lv_at hl 0 rfl) ?_
  refine gtC_0_7 X w dX5_makeStep_1 ?_
  obtain ⟨r2, e1, hf⟩ := px_bq_e hf
  refine px_cI (As := []) (rest := []) X hml hl w (cC_Promises_isFull l D cs ad e1) lk_5_354 (by decide) (rcC_32 X.2.2.2.2 w) rfl (Nat.le_of_ble_eq_true rfl) dX5_makeStep_4 (fun H locs w => ?_)
  refine lv_if_eq (tgt := 19) X.1 X.2.1 dX5_makeStep_7 (by decide) (fun c3 => ?_) (fun c3 => ?_)
  · have hf := px_ip c3 hf
    refine lv_aload_n X.1 X.2.1 dX5_makeStep_19 rfl (lv_at hl 0 rfl) ?_
    refine gtC_0_1 X w dX5_makeStep_20 ?_
    refine lv_iload_n X.1 X.2.1 dX5_makeStep_23 rfl (lv_at hl 1 rfl) ?_
    refine lv_aload_n X.1 X.2.1 dX5_makeStep_24 rfl (lv_at hl 0 rfl) ?_
    refine gtC_0_7 X w dX5_makeStep_25 ?_
    obtain ⟨r5, M6, e4, hf⟩ := px_bo_e hf
    refine px_cI (As := []) (rest := [.int p1, .ref (ad 6)]) X hml hl w (cC_Promises_make l D cs ad e4) lk_5_355 (by decide) (rcC_32 X.2.2.2.2 w) rfl (Nat.le_of_ble_eq_true rfl) dX5_makeStep_28 (fun H locs w => ?_)
    obtain ⟨b7, hf⟩ := px_ck_e hf
    refine isC_6 X w b7 dX5_makeStep_31 (fun H locs w => ?_)
    obtain ⟨M8, eM8, hf⟩ := px_bn_e hf
    rw [← eM8] at w
    cases hf
    exact px_retV X hr hlk w dX5_makeStep_32
  · have hf := px_in c3 hf
    refine lv_aload_n X.1 X.2.1 dX5_makeStep_10 rfl (lv_at hl 0 rfl) ?_
    refine lv_bipush (v := (-2 : Int32)) X.1 X.2.1 dX5_makeStep_11 (by decide) ?_
    obtain ⟨M10, e9, hf⟩ := px_bq_e hf
    refine px_cV (As := [.int (-2 : Int32)]) (rest := []) X hml hl w (cC_fail l D cs ad e9) lk_5_323 (by decide) (rcC_0 X.2.2.2.2 w) rfl (Nat.le_of_ble_eq_true rfl) dX5_makeStep_13 (fun H locs w => ?_)
    refine lv_goto (tgt := 32) X.1 X.2.1 dX5_makeStep_16 (by decide) ?_
    cases hf
    exact px_retV X hr hlk w dX5_makeStep_32
theorem lk_5_234 : px_Lk RX5 234 yX3_react cX3_react 5 none 4 := ⟨px_tb (by decide +kernel) (by decide +kernel), px_tb (by decide +kernel) (by decide +kernel), px_tb (by decide +kernel) (by decide +kernel), px_tb (by decide +kernel) (by decide +kernel), px_tb (by decide +kernel) (by decide +kernel), by decide +kernel, by decide⟩
def fC_thenStep (M : px_M) (p1 p2 p3 : Int32) : Option px_M := px_ck p1 8 ((if (M 6 p1.toNatClampNeg) = (-1 : Int32) then some M else px_bq (fC_Promises_isFull M) (fun r4 => (if r4 = 0 then px_bo (fC_Promises_make M) (fun r7 M8 => px_ck p1 8 (px_bq (fC_Promises_react M8 (M8 6 p1.toNatClampNeg) p2 p3 r7) (fun M11 => px_ck p1 8 (px_bn (px_up M11 6 p1.toNatClampNeg r7) (fun M13 => some M13))))) else px_bq (fC_fail M (-2 : Int32)) (fun M15 => some M15)))))
set_option maxHeartbeats 4000000 in
set_option maxRecDepth 100000 in
theorem cC_thenStep (l : Launch) (D : va_G) (cs : Nat → ClassId) (ad : Nat → Nat) {M : px_M} {p1 p2 p3 : Int32} {M' : px_M} (hf : fC_thenStep M p1 p2 p3 = some M') : px_mV l D (tyC cs) (wC cs ad) yX5_thenStep cX5_thenStep 5 2 [.ref (ad 0), .int p1, .int p2, .int p3] M M' := by
  refine px_ofV (by decide +kernel) (Nat.le_of_ble_eq_true rfl) ?_
  intro p e s m below meth c A ls X hr hlk hml w hl
  have hl : lv_has ls 5 [(0, .ref (ad 0)), (1, .int p1), (2, .int p2), (3, .int p3)] := hl
  unfold fC_thenStep at hf
  refine lv_aload_n X.1 X.2.1 dX5_thenStep_0 rfl (lv_at hl 0 rfl) ?_
  refine gtC_0_1 X w dX5_thenStep_1 ?_
  refine lv_iload_n X.1 X.2.1 dX5_thenStep_4 rfl (lv_at hl 1 rfl) ?_
  obtain ⟨b1, hf⟩ := px_ck_e hf
  refine ilC_6 X w b1 dX5_thenStep_5 ?_
  refine lv_iconst (v := (-1 : Int32)) X.1 X.2.1 dX5_thenStep_6 (by decide) ?_
  refine lv_icmp_ne (tgt := 11) X.1 X.2.1 dX5_thenStep_7 (by decide) (fun c2 => ?_) (fun c2 => ?_)
  · have hf := px_in c2 hf
    refine lv_aload_n X.1 X.2.1 dX5_thenStep_11 rfl (lv_at hl 0 rfl) ?_
    refine gtC_0_7 X w dX5_thenStep_12 ?_
    obtain ⟨r4, e3, hf⟩ := px_bq_e hf
    refine px_cI (As := []) (rest := []) X hml hl w (cC_Promises_isFull l D cs ad e3) lk_5_354 (by decide) (rcC_32 X.2.2.2.2 w) rfl (Nat.le_of_ble_eq_true rfl) dX5_thenStep_15 (fun H locs w => ?_)
    refine lv_if_eq (tgt := 28) X.1 X.2.1 dX5_thenStep_18 (by decide) (fun c5 => ?_) (fun c5 => ?_)
    · have hf := px_ip c5 hf
      refine lv_aload_n X.1 X.2.1 dX5_thenStep_28 rfl (lv_at hl 0 rfl) ?_
      refine gtC_0_7 X w dX5_thenStep_29 ?_
      obtain ⟨r7, M8, e6, hf⟩ := px_bo_e hf
      refine px_cI (As := []) (rest := []) X hml hl w (cC_Promises_make l D cs ad e6) lk_5_355 (by decide) (rcC_32 X.2.2.2.2 w) rfl (Nat.le_of_ble_eq_true rfl) dX5_thenStep_32 (fun H locs w => ?_)
      refine lv_istore (lv' := [(4, .int r7), (0, .ref (ad 0)), (1, .int p1), (2, .int p2), (3, .int p3)]) X.1 X.2.1 dX5_thenStep_35 hl (by decide) rfl (fun ls hl => ?_)
      refine lv_aload_n X.1 X.2.1 dX5_thenStep_37 rfl (lv_at hl 1 rfl) ?_
      refine gtC_0_7 X w dX5_thenStep_38 ?_
      refine lv_aload_n X.1 X.2.1 dX5_thenStep_41 rfl (lv_at hl 1 rfl) ?_
      refine gtC_0_1 X w dX5_thenStep_42 ?_
      refine lv_iload_n X.1 X.2.1 dX5_thenStep_45 rfl (lv_at hl 2 rfl) ?_
      obtain ⟨b9, hf⟩ := px_ck_e hf
      refine ilC_6 X w b9 dX5_thenStep_46 ?_
      refine lv_iload_n X.1 X.2.1 dX5_thenStep_47 rfl (lv_at hl 3 rfl) ?_
      refine lv_iload_n X.1 X.2.1 dX5_thenStep_48 rfl (lv_at hl 4 rfl) ?_
      refine lv_iload X.1 X.2.1 dX5_thenStep_49 (lv_at hl 0 rfl) ?_
      obtain ⟨M11, e10, hf⟩ := px_bq_e hf
      refine px_cV (As := [.int (M8 6 p1.toNatClampNeg), .int p2, .int p3, .int r7]) (rest := []) X hml hl w (cC_Promises_react l D cs ad e10) lk_5_234 (by decide) (rcC_32 X.2.2.2.2 w) rfl (Nat.le_of_ble_eq_true rfl) dX5_thenStep_51 (fun H locs w => ?_)
      refine lv_aload_n X.1 X.2.1 dX5_thenStep_54 rfl (lv_at hl 1 rfl) ?_
      refine gtC_0_1 X w dX5_thenStep_55 ?_
      refine lv_iload_n X.1 X.2.1 dX5_thenStep_58 rfl (lv_at hl 2 rfl) ?_
      refine lv_iload X.1 X.2.1 dX5_thenStep_59 (lv_at hl 0 rfl) ?_
      obtain ⟨b12, hf⟩ := px_ck_e hf
      refine isC_6 X w b12 dX5_thenStep_61 (fun H locs w => ?_)
      obtain ⟨M13, eM13, hf⟩ := px_bn_e hf
      rw [← eM13] at w
      cases hf
      exact px_retV X hr hlk w dX5_thenStep_62
    · have hf := px_in c5 hf
      refine lv_aload_n X.1 X.2.1 dX5_thenStep_21 rfl (lv_at hl 0 rfl) ?_
      refine lv_bipush (v := (-2 : Int32)) X.1 X.2.1 dX5_thenStep_22 (by decide) ?_
      obtain ⟨M15, e14, hf⟩ := px_bq_e hf
      refine px_cV (As := [.int (-2 : Int32)]) (rest := []) X hml hl w (cC_fail l D cs ad e14) lk_5_323 (by decide) (rcC_0 X.2.2.2.2 w) rfl (Nat.le_of_ble_eq_true rfl) dX5_thenStep_24 (fun H locs w => ?_)
      cases hf
      exact px_retV X hr hlk w dX5_thenStep_27
  · have hf := px_ip c2 hf
    cases hf
    exact px_retV X hr hlk w dX5_thenStep_10
