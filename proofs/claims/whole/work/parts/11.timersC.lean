def fC_Timers_size (M : px_M) : Option Int32 := some (M 43 9)
set_option maxHeartbeats 4000000 in
set_option maxRecDepth 100000 in
theorem cC_Timers_size (l : Launch) (D : va_G) (cs : Nat → ClassId) (ad : Nat → Nat) {M : px_M} {r : Int32} (hf : fC_Timers_size M = some r) : px_mI l D (tyC cs) (wC cs ad) yX4_size cX4_size 1 (some .int) 0 [.ref (ad 43)] M r M := by
  refine px_ofI (by decide +kernel) (Nat.le_of_ble_eq_true rfl) ?_
  intro p e s m below meth c A ls X hr hlk hml w hl
  have hl : lv_has ls 1 [(0, .ref (ad 43))] := hl
  unfold fC_Timers_size at hf
  refine lv_aload_n X.1 X.2.1 dX4_size_0 rfl (lv_at hl 0 rfl) ?_
  refine gtC_43_9 X w dX4_size_1 ?_
  cases hf
  exact px_retI X hr hlk w dX4_size_4
def fC_Timers_isFull (M : px_M) : Option Int32 := (if (M 43 9) < (12 : Int32) then some (0 : Int32) else some (1 : Int32))
set_option maxHeartbeats 4000000 in
set_option maxRecDepth 100000 in
theorem cC_Timers_isFull (l : Launch) (D : va_G) (cs : Nat → ClassId) (ad : Nat → Nat) {M : px_M} {r : Int32} (hf : fC_Timers_isFull M = some r) : px_mI l D (tyC cs) (wC cs ad) yX4_isFull cX4_isFull 1 (some .boolean) 0 [.ref (ad 43)] M r M := by
  refine px_ofI (by decide +kernel) (Nat.le_of_ble_eq_true rfl) ?_
  intro p e s m below meth c A ls X hr hlk hml w hl
  have hl : lv_has ls 1 [(0, .ref (ad 43))] := hl
  unfold fC_Timers_isFull at hf
  refine lv_aload_n X.1 X.2.1 dX4_isFull_0 rfl (lv_at hl 0 rfl) ?_
  refine gtC_43_9 X w dX4_isFull_1 ?_
  refine lv_bipush (v := (12 : Int32)) X.1 X.2.1 dX4_isFull_4 (by decide) ?_
  refine lv_icmp_lt (tgt := 13) X.1 X.2.1 dX4_isFull_6 (by decide) (fun c1 => ?_) (fun c1 => ?_)
  · have hf := px_ip c1 hf
    refine lv_iconst (v := (0 : Int32)) X.1 X.2.1 dX4_isFull_13 (by decide) ?_
    cases hf
    exact px_retZ X hr hlk narrow_b0 w dX4_isFull_14
  · have hf := px_in c1 hf
    refine lv_iconst (v := (1 : Int32)) X.1 X.2.1 dX4_isFull_9 (by decide) ?_
    refine lv_goto (tgt := 14) X.1 X.2.1 dX4_isFull_10 (by decide) ?_
    cases hf
    exact px_retZ X hr hlk narrow_b1 w dX4_isFull_14
def gC_Timers_find_L8 (rc8 : px_M → Int32 → Int32 → Option Int32) (M : px_M) (y1 y2 : Int32) : Option Int32 := (if (12 : Int32) ≤ y2 then some (-1 : Int32) else px_ck y2 12 ((if (M 44 y2.toNatClampNeg) = y1 then some y2 else rc8 M y1 (y2 + (1 : Int32)))))
set_option maxHeartbeats 4000000 in
set_option maxRecDepth 100000 in
theorem lC_Timers_find_L8 {l : Launch} {D : va_G} {cs : Nat → ClassId} {ad : Nat → Nat} {p : Program} {e : Env} {s : State} {m : MethodId} {args : Array Value} {below : List Frame} {meth : Method} {c : Code} {A : Nat → Prop} (X : px_X D (tyC cs) p s m args c cX4_find yX4_find.cls) (hr : meth.sig.returnType = (some .int)) (hlk : meth.locks = false) (hml : c.maxLocals = 3) : ∀ (j : Nat) (M : px_M) (y1 y2 : Int32) (z : Int32), px_fx2 gC_Timers_find_L8 j M y1 y2 = some z → ∀ (H : Heap) (locs : List Loc) (ls : Array Slot), px_H D (wC cs ad) A s.heap M H locs → lv_has ls 3 [(0, .ref (ad 43)), (1, .int y1), (2, .int y2)] → W p l e (px_rm 0) s m args below meth c H locs 0 0 (px_QI D (tyC cs) (wC cs ad) below args s A z M) (F0 m 8 ls []) := by
  refine px_fx2_i (P := fun M y1 y2 (z : Int32) => ∀ (H : Heap) (locs : List Loc) (ls : Array Slot), px_H D (wC cs ad) A s.heap M H locs → lv_has ls 3 [(0, .ref (ad 43)), (1, .int y1), (2, .int y2)] → W p l e (px_rm 0) s m args below meth c H locs 0 0 (px_QI D (tyC cs) (wC cs ad) below args s A z M) (F0 m 8 ls [])) ?_
  intro rc8 ih8 M y1 y2 z hf H locs ls w hl
  unfold gC_Timers_find_L8 at hf
  refine lv_iload_n X.1 X.2.1 dX4_find_8 rfl (lv_at hl 2 rfl) ?_
  refine lv_bipush (v := (12 : Int32)) X.1 X.2.1 dX4_find_9 (by decide) ?_
  refine lv_icmp_ge (tgt := 32) X.1 X.2.1 dX4_find_11 (by decide) (fun c2 => ?_) (fun c2 => ?_)
  · have hf := px_ip c2 hf
    refine lv_iconst (v := (-1 : Int32)) X.1 X.2.1 dX4_find_32 (by decide) ?_
    cases hf
    exact px_retI X hr hlk w dX4_find_33
  · have hf := px_in c2 hf
    refine lv_aload_n X.1 X.2.1 dX4_find_14 rfl (lv_at hl 0 rfl) ?_
    refine gtC_43_0 X w dX4_find_15 ?_
    refine lv_iload_n X.1 X.2.1 dX4_find_18 rfl (lv_at hl 2 rfl) ?_
    obtain ⟨b3, hf⟩ := px_ck_e hf
    refine ilC_44 X w b3 dX4_find_19 ?_
    refine lv_iload_n X.1 X.2.1 dX4_find_20 rfl (lv_at hl 1 rfl) ?_
    refine lv_icmp_ne (tgt := 26) X.1 X.2.1 dX4_find_21 (by decide) (fun c4 => ?_) (fun c4 => ?_)
    · have hf := px_in c4 hf
      refine lv_iinc (v := (y2 + (1 : Int32))) (lv' := [(2, .int (y2 + (1 : Int32))), (0, .ref (ad 43)), (1, .int y1)]) X.1 X.2.1 dX4_find_26 hl (k := 2) rfl rfl (by decide) rfl (fun ls hl => ?_)
      refine lv_goto (tgt := 8) X.1 X.2.1 dX4_find_29 (by decide) ?_
      exact ih8 M y1 (y2 + (1 : Int32)) _ hf _ _ ls w (lv_sub hl [1, 2, 0] rfl)
    · have hf := px_ip c4 hf
      refine lv_iload_n X.1 X.2.1 dX4_find_24 rfl (lv_at hl 2 rfl) ?_
      cases hf
      exact px_retI X hr hlk w dX4_find_25
def fC_Timers_find (M : px_M) (p1 : Int32) : Option Int32 := (if p1 = 0 then some (-1 : Int32) else px_fx2 gC_Timers_find_L8 13 M p1 (0 : Int32))
set_option maxHeartbeats 4000000 in
set_option maxRecDepth 100000 in
theorem cC_Timers_find (l : Launch) (D : va_G) (cs : Nat → ClassId) (ad : Nat → Nat) {M : px_M} {p1 : Int32} {r : Int32} (hf : fC_Timers_find M p1 = some r) : px_mI l D (tyC cs) (wC cs ad) yX4_find cX4_find 3 (some .int) 0 [.ref (ad 43), .int p1] M r M := by
  refine px_ofI (by decide +kernel) (Nat.le_of_ble_eq_true rfl) ?_
  intro p e s m below meth c A ls X hr hlk hml w hl
  have hl : lv_has ls 3 [(0, .ref (ad 43)), (1, .int p1)] := hl
  unfold fC_Timers_find at hf
  refine lv_iload_n X.1 X.2.1 dX4_find_0 rfl (lv_at hl 1 rfl) ?_
  refine lv_if_ne (tgt := 6) X.1 X.2.1 dX4_find_1 (by decide) (fun c1 => ?_) (fun c1 => ?_)
  · have hf := px_in c1 hf
    refine lv_iconst (v := (0 : Int32)) X.1 X.2.1 dX4_find_6 (by decide) ?_
    refine lv_istore_n (lv' := [(2, .int (0 : Int32)), (0, .ref (ad 43)), (1, .int p1)]) X.1 X.2.1 dX4_find_7 rfl hl (by decide) rfl (fun ls hl => ?_)
    exact lC_Timers_find_L8 X hr hlk hml 13 M p1 (0 : Int32) _ hf _ _ ls w (lv_sub hl [1, 2, 0] rfl)
  · have hf := px_ip c1 hf
    refine lv_iconst (v := (-1 : Int32)) X.1 X.2.1 dX4_find_4 (by decide) ?_
    cases hf
    exact px_retI X hr hlk w dX4_find_5
def fC_Timers_functionAt (M : px_M) (p1 : Int32) : Option Int32 := px_ck p1 12 (some (M 45 p1.toNatClampNeg))
set_option maxHeartbeats 4000000 in
set_option maxRecDepth 100000 in
theorem cC_Timers_functionAt (l : Launch) (D : va_G) (cs : Nat → ClassId) (ad : Nat → Nat) {M : px_M} {p1 : Int32} {r : Int32} (hf : fC_Timers_functionAt M p1 = some r) : px_mI l D (tyC cs) (wC cs ad) yX4_functionAt cX4_functionAt 2 (some .int) 0 [.ref (ad 43), .int p1] M r M := by
  refine px_ofI (by decide +kernel) (Nat.le_of_ble_eq_true rfl) ?_
  intro p e s m below meth c A ls X hr hlk hml w hl
  have hl : lv_has ls 2 [(0, .ref (ad 43)), (1, .int p1)] := hl
  unfold fC_Timers_functionAt at hf
  refine lv_aload_n X.1 X.2.1 dX4_functionAt_0 rfl (lv_at hl 0 rfl) ?_
  refine gtC_43_1 X w dX4_functionAt_1 ?_
  refine lv_iload_n X.1 X.2.1 dX4_functionAt_4 rfl (lv_at hl 1 rfl) ?_
  obtain ⟨b1, hf⟩ := px_ck_e hf
  refine ilC_45 X w b1 dX4_functionAt_5 ?_
  cases hf
  exact px_retI X hr hlk w dX4_functionAt_6
def fC_Timers_argumentAt (M : px_M) (p1 : Int32) : Option Int32 := px_ck p1 12 (some (M 46 p1.toNatClampNeg))
set_option maxHeartbeats 4000000 in
set_option maxRecDepth 100000 in
theorem cC_Timers_argumentAt (l : Launch) (D : va_G) (cs : Nat → ClassId) (ad : Nat → Nat) {M : px_M} {p1 : Int32} {r : Int32} (hf : fC_Timers_argumentAt M p1 = some r) : px_mI l D (tyC cs) (wC cs ad) yX4_argumentAt cX4_argumentAt 2 (some .int) 0 [.ref (ad 43), .int p1] M r M := by
  refine px_ofI (by decide +kernel) (Nat.le_of_ble_eq_true rfl) ?_
  intro p e s m below meth c A ls X hr hlk hml w hl
  have hl : lv_has ls 2 [(0, .ref (ad 43)), (1, .int p1)] := hl
  unfold fC_Timers_argumentAt at hf
  refine lv_aload_n X.1 X.2.1 dX4_argumentAt_0 rfl (lv_at hl 0 rfl) ?_
  refine gtC_43_2 X w dX4_argumentAt_1 ?_
  refine lv_iload_n X.1 X.2.1 dX4_argumentAt_4 rfl (lv_at hl 1 rfl) ?_
  obtain ⟨b1, hf⟩ := px_ck_e hf
  refine ilC_46 X w b1 dX4_argumentAt_5 ?_
  cases hf
  exact px_retI X hr hlk w dX4_argumentAt_6
def fC_Timers_levelAt (M : px_M) (p1 : Int32) : Option Int32 := px_ck p1 12 (some (M 48 p1.toNatClampNeg))
set_option maxHeartbeats 4000000 in
set_option maxRecDepth 100000 in
theorem cC_Timers_levelAt (l : Launch) (D : va_G) (cs : Nat → ClassId) (ad : Nat → Nat) {M : px_M} {p1 : Int32} {r : Int32} (hf : fC_Timers_levelAt M p1 = some r) : px_mI l D (tyC cs) (wC cs ad) yX4_levelAt cX4_levelAt 2 (some .int) 0 [.ref (ad 43), .int p1] M r M := by
  refine px_ofI (by decide +kernel) (Nat.le_of_ble_eq_true rfl) ?_
  intro p e s m below meth c A ls X hr hlk hml w hl
  have hl : lv_has ls 2 [(0, .ref (ad 43)), (1, .int p1)] := hl
  unfold fC_Timers_levelAt at hf
  refine lv_aload_n X.1 X.2.1 dX4_levelAt_0 rfl (lv_at hl 0 rfl) ?_
  refine gtC_43_4 X w dX4_levelAt_1 ?_
  refine lv_iload_n X.1 X.2.1 dX4_levelAt_4 rfl (lv_at hl 1 rfl) ?_
  obtain ⟨b1, hf⟩ := px_ck_e hf
  refine ilC_48 X w b1 dX4_levelAt_5 ?_
  cases hf
  exact px_retI X hr hlk w dX4_levelAt_6
def fC_Timers_repeatsAt (M : px_M) (p1 : Int32) : Option Int32 := px_ck p1 12 (px_cb (M 50 p1.toNatClampNeg) (some (M 50 p1.toNatClampNeg)))
set_option maxHeartbeats 4000000 in
set_option maxRecDepth 100000 in
theorem cC_Timers_repeatsAt (l : Launch) (D : va_G) (cs : Nat → ClassId) (ad : Nat → Nat) {M : px_M} {p1 : Int32} {r : Int32} (hf : fC_Timers_repeatsAt M p1 = some r) : px_mI l D (tyC cs) (wC cs ad) yX4_repeatsAt cX4_repeatsAt 2 (some .boolean) 0 [.ref (ad 43), .int p1] M r M := by
  refine px_ofI (by decide +kernel) (Nat.le_of_ble_eq_true rfl) ?_
  intro p e s m below meth c A ls X hr hlk hml w hl
  have hl : lv_has ls 2 [(0, .ref (ad 43)), (1, .int p1)] := hl
  unfold fC_Timers_repeatsAt at hf
  refine lv_aload_n X.1 X.2.1 dX4_repeatsAt_0 rfl (lv_at hl 0 rfl) ?_
  refine gtC_43_6 X w dX4_repeatsAt_1 ?_
  refine lv_iload_n X.1 X.2.1 dX4_repeatsAt_4 rfl (lv_at hl 1 rfl) ?_
  obtain ⟨b1, hf⟩ := px_ck_e hf
  refine ilC_50 X w b1 dX4_repeatsAt_5 ?_
  obtain ⟨b2, hf⟩ := px_cb_e hf
  cases hf
  exact px_retZ X hr hlk b2 w dX4_repeatsAt_6
theorem lk_4_44 : px_Lk RX4 44 yX4_find cX4_find 3 (some .int) 1 := ⟨px_tb (by decide +kernel) (by decide +kernel), px_tb (by decide +kernel) (by decide +kernel), px_tb (by decide +kernel) (by decide +kernel), px_tb (by decide +kernel) (by decide +kernel), px_tb (by decide +kernel) (by decide +kernel), by decide +kernel, by decide⟩
def fC_Timers_dueOf (M : px_M) (p1 : Int32) : Option Int32 := px_bq (fC_Timers_find M p1) (fun r2 => (if r2 = (-1 : Int32) then some (-1 : Int32) else px_ck r2 12 ((if (M 51 r2.toNatClampNeg) = 0 then px_ck r2 12 (some (M 49 r2.toNatClampNeg)) else some (-2 : Int32)))))
set_option maxHeartbeats 4000000 in
set_option maxRecDepth 100000 in
theorem cC_Timers_dueOf (l : Launch) (D : va_G) (cs : Nat → ClassId) (ad : Nat → Nat) {M : px_M} {p1 : Int32} {r : Int32} (hf : fC_Timers_dueOf M p1 = some r) : px_mI l D (tyC cs) (wC cs ad) yX4_dueOf cX4_dueOf 3 (some .int) 1 [.ref (ad 43), .int p1] M r M := by
  refine px_ofI (by decide +kernel) (Nat.le_of_ble_eq_true rfl) ?_
  intro p e s m below meth c A ls X hr hlk hml w hl
  have hl : lv_has ls 3 [(0, .ref (ad 43)), (1, .int p1)] := hl
  unfold fC_Timers_dueOf at hf
  refine lv_aload_n X.1 X.2.1 dX4_dueOf_0 rfl (lv_at hl 0 rfl) ?_
  refine lv_iload_n X.1 X.2.1 dX4_dueOf_1 rfl (lv_at hl 1 rfl) ?_
  obtain ⟨r2, e1, hf⟩ := px_bq_e hf
  refine px_cI (As := [.int p1]) (rest := []) X hml hl w (cC_Timers_find l D cs ad e1) lk_4_44 (by decide) (rcC_43 X.2.2.2.2 w) rfl (Nat.le_of_ble_eq_true rfl) dX4_dueOf_2 (fun H locs w => ?_)
  refine lv_istore_n (lv' := [(2, .int r2), (0, .ref (ad 43)), (1, .int p1)]) X.1 X.2.1 dX4_dueOf_5 rfl hl (by decide) rfl (fun ls hl => ?_)
  refine lv_iload_n X.1 X.2.1 dX4_dueOf_6 rfl (lv_at hl 0 rfl) ?_
  refine lv_iconst (v := (-1 : Int32)) X.1 X.2.1 dX4_dueOf_7 (by decide) ?_
  refine lv_icmp_ne (tgt := 13) X.1 X.2.1 dX4_dueOf_8 (by decide) (fun c3 => ?_) (fun c3 => ?_)
  · have hf := px_in c3 hf
    refine lv_aload_n X.1 X.2.1 dX4_dueOf_13 rfl (lv_at hl 1 rfl) ?_
    refine gtC_43_7 X w dX4_dueOf_14 ?_
    refine lv_iload_n X.1 X.2.1 dX4_dueOf_17 rfl (lv_at hl 0 rfl) ?_
    obtain ⟨b4, hf⟩ := px_ck_e hf
    refine ilC_51 X w b4 dX4_dueOf_18 ?_
    refine lv_if_eq (tgt := 27) X.1 X.2.1 dX4_dueOf_19 (by decide) (fun c5 => ?_) (fun c5 => ?_)
    · have hf := px_ip c5 hf
      refine lv_aload_n X.1 X.2.1 dX4_dueOf_27 rfl (lv_at hl 1 rfl) ?_
      refine gtC_43_5 X w dX4_dueOf_28 ?_
      refine lv_iload_n X.1 X.2.1 dX4_dueOf_31 rfl (lv_at hl 0 rfl) ?_
      obtain ⟨b6, hf⟩ := px_ck_e hf
      refine ilC_49 X w b6 dX4_dueOf_32 ?_
      cases hf
      exact px_retI X hr hlk w dX4_dueOf_33
    · have hf := px_in c5 hf
      refine lv_bipush (v := (-2 : Int32)) X.1 X.2.1 dX4_dueOf_22 (by decide) ?_
      refine lv_goto (tgt := 33) X.1 X.2.1 dX4_dueOf_24 (by decide) ?_
      cases hf
      exact px_retI X hr hlk w dX4_dueOf_33
  · have hf := px_ip c3 hf
    refine lv_iconst (v := (-1 : Int32)) X.1 X.2.1 dX4_dueOf_11 (by decide) ?_
    cases hf
    exact px_retI X hr hlk w dX4_dueOf_12
def fC_Timers_start (M : px_M) (p1 p2 p3 : Int32) : Option px_M := (if p2 ≤ (5 : Int32) then px_ck p1 12 (px_bn (px_up M 48 p1.toNatClampNeg p2) (fun M3 => px_ck p1 12 (px_bn (px_up M3 51 p1.toNatClampNeg (0 : Int32)) (fun M5 => px_ck p1 12 ((if (1 : Int32) ≤ (M5 47 p1.toNatClampNeg) then px_ck p1 12 (px_ck p1 12 (px_bn (px_up M5 49 p1.toNatClampNeg (p3 + (M5 47 p1.toNatClampNeg))) (fun M10 => some M10))) else px_ck p1 12 (px_bn (px_up M5 49 p1.toNatClampNeg (p3 + (1 : Int32))) (fun M12 => some M12)))))))) else px_ck p1 12 (px_bn (px_up M 48 p1.toNatClampNeg p2) (fun M14 => px_ck p1 12 (px_bn (px_up M14 51 p1.toNatClampNeg (0 : Int32)) (fun M16 => px_ck p1 12 ((if (4 : Int32) ≤ (M16 47 p1.toNatClampNeg) then px_ck p1 12 (px_ck p1 12 (px_bn (px_up M16 49 p1.toNatClampNeg (p3 + (M16 47 p1.toNatClampNeg))) (fun M21 => some M21))) else px_ck p1 12 (px_bn (px_up M16 49 p1.toNatClampNeg (p3 + (4 : Int32))) (fun M23 => some M23)))))))))
set_option maxHeartbeats 4000000 in
set_option maxRecDepth 100000 in
theorem cC_Timers_start (l : Launch) (D : va_G) (cs : Nat → ClassId) (ad : Nat → Nat) {M : px_M} {p1 p2 p3 : Int32} {M' : px_M} (hf : fC_Timers_start M p1 p2 p3 = some M') : px_mV l D (tyC cs) (wC cs ad) yX4_start cX4_start 5 0 [.ref (ad 43), .int p1, .int p2, .int p3] M M' := by
  refine px_ofV (by decide +kernel) (Nat.le_of_ble_eq_true rfl) ?_
  intro p e s m below meth c A ls X hr hlk hml w hl
  have hl : lv_has ls 5 [(0, .ref (ad 43)), (1, .int p1), (2, .int p2), (3, .int p3)] := hl
  unfold fC_Timers_start at hf
  refine lv_iload_n X.1 X.2.1 dX4_start_0 rfl (lv_at hl 2 rfl) ?_
  refine lv_iconst (v := (5 : Int32)) X.1 X.2.1 dX4_start_1 (by decide) ?_
  refine lv_icmp_le (tgt := 9) X.1 X.2.1 dX4_start_2 (by decide) (fun c1 => ?_) (fun c1 => ?_)
  · have hf := px_ip c1 hf
    refine lv_iconst (v := (1 : Int32)) X.1 X.2.1 dX4_start_9 (by decide) ?_
    refine lv_istore (lv' := [(4, .int (1 : Int32)), (0, .ref (ad 43)), (1, .int p1), (2, .int p2), (3, .int p3)]) X.1 X.2.1 dX4_start_10 hl (by decide) rfl (fun ls hl => ?_)
    refine lv_aload_n X.1 X.2.1 dX4_start_12 rfl (lv_at hl 1 rfl) ?_
    refine gtC_43_4 X w dX4_start_13 ?_
    refine lv_iload_n X.1 X.2.1 dX4_start_16 rfl (lv_at hl 2 rfl) ?_
    refine lv_iload_n X.1 X.2.1 dX4_start_17 rfl (lv_at hl 3 rfl) ?_
    obtain ⟨b2, hf⟩ := px_ck_e hf
    refine isC_48 X w b2 dX4_start_18 (fun H locs w => ?_)
    obtain ⟨M3, eM3, hf⟩ := px_bn_e hf
    rw [← eM3] at w
    refine lv_aload_n X.1 X.2.1 dX4_start_19 rfl (lv_at hl 1 rfl) ?_
    refine gtC_43_7 X w dX4_start_20 ?_
    refine lv_iload_n X.1 X.2.1 dX4_start_23 rfl (lv_at hl 2 rfl) ?_
    refine lv_iconst (v := (0 : Int32)) X.1 X.2.1 dX4_start_24 (by decide) ?_
    obtain ⟨b4, hf⟩ := px_ck_e hf
    refine isC_51 X w b4 rfl dX4_start_25 (fun H locs w => ?_)
    obtain ⟨M5, eM5, hf⟩ := px_bn_e hf
    rw [← eM5] at w
    refine lv_aload_n X.1 X.2.1 dX4_start_26 rfl (lv_at hl 1 rfl) ?_
    refine gtC_43_5 X w dX4_start_27 ?_
    refine lv_iload_n X.1 X.2.1 dX4_start_30 rfl (lv_at hl 2 rfl) ?_
    refine lv_iload_n X.1 X.2.1 dX4_start_31 rfl (lv_at hl 4 rfl) ?_
    refine lv_aload_n X.1 X.2.1 dX4_start_32 rfl (lv_at hl 1 rfl) ?_
    refine gtC_43_3 X w dX4_start_33 ?_
    refine lv_iload_n X.1 X.2.1 dX4_start_36 rfl (lv_at hl 2 rfl) ?_
    obtain ⟨b6, hf⟩ := px_ck_e hf
    refine ilC_47 X w b6 dX4_start_37 ?_
    refine lv_iload X.1 X.2.1 dX4_start_38 (lv_at hl 0 rfl) ?_
    refine lv_icmp_ge (tgt := 48) X.1 X.2.1 dX4_start_40 (by decide) (fun c7 => ?_) (fun c7 => ?_)
    · have hf := px_ip c7 hf
      refine lv_aload_n X.1 X.2.1 dX4_start_48 rfl (lv_at hl 1 rfl) ?_
      refine gtC_43_3 X w dX4_start_49 ?_
      refine lv_iload_n X.1 X.2.1 dX4_start_52 rfl (lv_at hl 2 rfl) ?_
      obtain ⟨b8, hf⟩ := px_ck_e hf
      refine ilC_47 X w b8 dX4_start_53 ?_
      refine lv_iadd X.1 X.2.1 dX4_start_54 ?_
      obtain ⟨b9, hf⟩ := px_ck_e hf
      refine isC_49 X w b9 dX4_start_55 (fun H locs w => ?_)
      obtain ⟨M10, eM10, hf⟩ := px_bn_e hf
      rw [← eM10] at w
      cases hf
      exact px_retV X hr hlk w dX4_start_56
    · have hf := px_in c7 hf
      refine lv_iload X.1 X.2.1 dX4_start_43 (lv_at hl 0 rfl) ?_
      refine lv_goto (tgt := 54) X.1 X.2.1 dX4_start_45 (by decide) ?_
      refine lv_iadd X.1 X.2.1 dX4_start_54 ?_
      obtain ⟨b11, hf⟩ := px_ck_e hf
      refine isC_49 X w b11 dX4_start_55 (fun H locs w => ?_)
      obtain ⟨M12, eM12, hf⟩ := px_bn_e hf
      rw [← eM12] at w
      cases hf
      exact px_retV X hr hlk w dX4_start_56
  · have hf := px_in c1 hf
    refine lv_iconst (v := (4 : Int32)) X.1 X.2.1 dX4_start_5 (by decide) ?_
    refine lv_goto (tgt := 10) X.1 X.2.1 dX4_start_6 (by decide) ?_
    refine lv_istore (lv' := [(4, .int (4 : Int32)), (0, .ref (ad 43)), (1, .int p1), (2, .int p2), (3, .int p3)]) X.1 X.2.1 dX4_start_10 hl (by decide) rfl (fun ls hl => ?_)
    refine lv_aload_n X.1 X.2.1 dX4_start_12 rfl (lv_at hl 1 rfl) ?_
    refine gtC_43_4 X w dX4_start_13 ?_
    refine lv_iload_n X.1 X.2.1 dX4_start_16 rfl (lv_at hl 2 rfl) ?_
    refine lv_iload_n X.1 X.2.1 dX4_start_17 rfl (lv_at hl 3 rfl) ?_
    obtain ⟨b13, hf⟩ := px_ck_e hf
    refine isC_48 X w b13 dX4_start_18 (fun H locs w => ?_)
    obtain ⟨M14, eM14, hf⟩ := px_bn_e hf
    rw [← eM14] at w
    refine lv_aload_n X.1 X.2.1 dX4_start_19 rfl (lv_at hl 1 rfl) ?_
    refine gtC_43_7 X w dX4_start_20 ?_
    refine lv_iload_n X.1 X.2.1 dX4_start_23 rfl (lv_at hl 2 rfl) ?_
    refine lv_iconst (v := (0 : Int32)) X.1 X.2.1 dX4_start_24 (by decide) ?_
    obtain ⟨b15, hf⟩ := px_ck_e hf
    refine isC_51 X w b15 rfl dX4_start_25 (fun H locs w => ?_)
    obtain ⟨M16, eM16, hf⟩ := px_bn_e hf
    rw [← eM16] at w
    refine lv_aload_n X.1 X.2.1 dX4_start_26 rfl (lv_at hl 1 rfl) ?_
    refine gtC_43_5 X w dX4_start_27 ?_
    refine lv_iload_n X.1 X.2.1 dX4_start_30 rfl (lv_at hl 2 rfl) ?_
    refine lv_iload_n X.1 X.2.1 dX4_start_31 rfl (lv_at hl 4 rfl) ?_
    refine lv_aload_n X.1 X.2.1 dX4_start_32 rfl (lv_at hl 1 rfl) ?_
    refine gtC_43_3 X w dX4_start_33 ?_
    refine lv_iload_n X.1 X.2.1 dX4_start_36 rfl (lv_at hl 2 rfl) ?_
    obtain ⟨b17, hf⟩ := px_ck_e hf
    refine ilC_47 X w b17 dX4_start_37 ?_
    refine lv_iload X.1 X.2.1 dX4_start_38 (lv_at hl 0 rfl) ?_
    refine lv_icmp_ge (tgt := 48) X.1 X.2.1 dX4_start_40 (by decide) (fun c18 => ?_) (fun c18 => ?_)
    · have hf := px_ip c18 hf
      refine lv_aload_n X.1 X.2.1 dX4_start_48 rfl (lv_at hl 1 rfl) ?_
      refine gtC_43_3 X w dX4_start_49 ?_
      refine lv_iload_n X.1 X.2.1 dX4_start_52 rfl (lv_at hl 2 rfl) ?_
      obtain ⟨b19, hf⟩ := px_ck_e hf
      refine ilC_47 X w b19 dX4_start_53 ?_
      refine lv_iadd X.1 X.2.1 dX4_start_54 ?_
      obtain ⟨b20, hf⟩ := px_ck_e hf
      refine isC_49 X w b20 dX4_start_55 (fun H locs w => ?_)
      obtain ⟨M21, eM21, hf⟩ := px_bn_e hf
      rw [← eM21] at w
      cases hf
      exact px_retV X hr hlk w dX4_start_56
    · have hf := px_in c18 hf
      refine lv_iload X.1 X.2.1 dX4_start_43 (lv_at hl 0 rfl) ?_
      refine lv_goto (tgt := 54) X.1 X.2.1 dX4_start_45 (by decide) ?_
      refine lv_iadd X.1 X.2.1 dX4_start_54 ?_
      obtain ⟨b22, hf⟩ := px_ck_e hf
      refine isC_49 X w b22 dX4_start_55 (fun H locs w => ?_)
      obtain ⟨M23, eM23, hf⟩ := px_bn_e hf
      rw [← eM23] at w
      cases hf
      exact px_retV X hr hlk w dX4_start_56
def gC_Timers_freePlace_L2 (rc2 : px_M → Int32 → Option Int32) (M : px_M) (y1 : Int32) : Option Int32 := (if (12 : Int32) ≤ y1 then some (-1 : Int32) else px_ck y1 12 ((if (M 44 y1.toNatClampNeg) = 0 then some y1 else rc2 M (y1 + (1 : Int32)))))
set_option maxHeartbeats 4000000 in
set_option maxRecDepth 100000 in
theorem lC_Timers_freePlace_L2 {l : Launch} {D : va_G} {cs : Nat → ClassId} {ad : Nat → Nat} {p : Program} {e : Env} {s : State} {m : MethodId} {args : Array Value} {below : List Frame} {meth : Method} {c : Code} {A : Nat → Prop} (X : px_X D (tyC cs) p s m args c cX4_freePlace yX4_freePlace.cls) (hr : meth.sig.returnType = (some .int)) (hlk : meth.locks = false) (hml : c.maxLocals = 2) : ∀ (j : Nat) (M : px_M) (y1 : Int32) (z : Int32), px_fx1 gC_Timers_freePlace_L2 j M y1 = some z → ∀ (H : Heap) (locs : List Loc) (ls : Array Slot), px_H D (wC cs ad) A s.heap M H locs → lv_has ls 2 [(0, .ref (ad 43)), (1, .int y1)] → W p l e (px_rm 0) s m args below meth c H locs 0 0 (px_QI D (tyC cs) (wC cs ad) below args s A z M) (F0 m 2 ls []) := by
  refine px_fx1_i (P := fun M y1 (z : Int32) => ∀ (H : Heap) (locs : List Loc) (ls : Array Slot), px_H D (wC cs ad) A s.heap M H locs → lv_has ls 2 [(0, .ref (ad 43)), (1, .int y1)] → W p l e (px_rm 0) s m args below meth c H locs 0 0 (px_QI D (tyC cs) (wC cs ad) below args s A z M) (F0 m 2 ls [])) ?_
  intro rc2 ih2 M y1 z hf H locs ls w hl
  unfold gC_Timers_freePlace_L2 at hf
  refine lv_iload_n X.1 X.2.1 dX4_freePlace_2 rfl (lv_at hl 1 rfl) ?_
  refine lv_bipush (v := (12 : Int32)) X.1 X.2.1 dX4_freePlace_3 (by decide) ?_
  refine lv_icmp_ge (tgt := 25) X.1 X.2.1 dX4_freePlace_5 (by decide) (fun c1 => ?_) (fun c1 => ?_)
  · have hf := px_ip c1 hf
    refine lv_iconst (v := (-1 : Int32)) X.1 X.2.1 dX4_freePlace_25 (by decide) ?_
    cases hf
    exact px_retI X hr hlk w dX4_freePlace_26
  · have hf := px_in c1 hf
    refine lv_aload_n X.1 X.2.1 dX4_freePlace_8 rfl (lv_at hl 0 rfl) ?_
    refine gtC_43_0 X w dX4_freePlace_9 ?_
    refine lv_iload_n X.1 X.2.1 dX4_freePlace_12 rfl (lv_at hl 1 rfl) ?_
    obtain ⟨b2, hf⟩ := px_ck_e hf
    refine ilC_44 X w b2 dX4_freePlace_13 ?_
    refine lv_if_ne (tgt := 19) X.1 X.2.1 dX4_freePlace_14 (by decide) (fun c3 => ?_) (fun c3 => ?_)
    · have hf := px_in c3 hf
      refine lv_iinc (v := (y1 + (1 : Int32))) (lv' := [(1, .int (y1 + (1 : Int32))), (0, .ref (ad 43))]) X.1 X.2.1 dX4_freePlace_19 hl (k := 1) rfl rfl (by decide) rfl (fun ls hl => ?_)
      refine lv_goto (tgt := 2) X.1 X.2.1 dX4_freePlace_22 (by decide) ?_
      exact ih2 M (y1 + (1 : Int32)) _ hf _ _ ls w (lv_sub hl [1, 0] rfl)
    · have hf := px_ip c3 hf
      refine lv_iload_n X.1 X.2.1 dX4_freePlace_17 rfl (lv_at hl 1 rfl) ?_
      cases hf
      exact px_retI X hr hlk w dX4_freePlace_18
def fC_Timers_freePlace (M : px_M) : Option Int32 := px_fx1 gC_Timers_freePlace_L2 13 M (0 : Int32)
set_option maxHeartbeats 4000000 in
set_option maxRecDepth 100000 in
theorem cC_Timers_freePlace (l : Launch) (D : va_G) (cs : Nat → ClassId) (ad : Nat → Nat) {M : px_M} {r : Int32} (hf : fC_Timers_freePlace M = some r) : px_mI l D (tyC cs) (wC cs ad) yX4_freePlace cX4_freePlace 2 (some .int) 0 [.ref (ad 43)] M r M := by
  refine px_ofI (by decide +kernel) (Nat.le_of_ble_eq_true rfl) ?_
  intro p e s m below meth c A ls X hr hlk hml w hl
  have hl : lv_has ls 2 [(0, .ref (ad 43))] := hl
  unfold fC_Timers_freePlace at hf
  refine lv_iconst (v := (0 : Int32)) X.1 X.2.1 dX4_freePlace_0 (by decide) ?_
  refine lv_istore_n (lv' := [(1, .int (0 : Int32)), (0, .ref (ad 43))]) X.1 X.2.1 dX4_freePlace_1 rfl hl (by decide) rfl (fun ls hl => ?_)
  exact lC_Timers_freePlace_L2 X hr hlk hml 13 M (0 : Int32) _ hf _ _ ls w (lv_sub hl [1, 0] rfl)
theorem lk_4_48 : px_Lk RX4 48 yX4_freePlace cX4_freePlace 2 (some .int) 0 := ⟨px_tb (by decide +kernel) (by decide +kernel), px_tb (by decide +kernel) (by decide +kernel), px_tb (by decide +kernel) (by decide +kernel), px_tb (by decide +kernel) (by decide +kernel), px_tb (by decide +kernel) (by decide +kernel), by decide +kernel, by decide⟩
theorem lk_4_52 : px_Lk RX4 52 yX4_start cX4_start 5 none 3 := ⟨px_tb (by decide +kernel) (by decide +kernel), px_tb (by decide +kernel) (by decide +kernel), px_tb (by decide +kernel) (by decide +kernel), px_tb (by decide +kernel) (by decide +kernel), px_tb (by decide +kernel) (by decide +kernel), by decide +kernel, by decide⟩
def fC_Timers_make (M : px_M) (p1 p2 p3 p4 p5 p6 : Int32) : Option px_M := px_bq (fC_Timers_freePlace M) (fun r2 => (if r2 = (-1 : Int32) then some M else px_bn (px_up M 43 8 ((M 43 8) + (1 : Int32))) (fun M4 => px_bn (px_up M4 43 9 ((M4 43 9) + (1 : Int32))) (fun M5 => px_ck r2 12 (px_bn (px_up M5 44 r2.toNatClampNeg (M5 43 8)) (fun M7 => px_ck r2 12 (px_bn (px_up M7 45 r2.toNatClampNeg p1) (fun M9 => px_ck r2 12 (px_bn (px_up M9 46 r2.toNatClampNeg p2) (fun M11 => px_ck r2 12 (px_bn (px_up M11 47 r2.toNatClampNeg p3) (fun M13 => px_ck r2 12 (px_cb p4 (px_bn (px_up M13 50 r2.toNatClampNeg p4) (fun M16 => px_bq (fC_Timers_start M16 r2 p5 p6) (fun M18 => some M18))))))))))))))))
set_option maxHeartbeats 4000000 in
set_option maxRecDepth 100000 in
theorem cC_Timers_make (l : Launch) (D : va_G) (cs : Nat → ClassId) (ad : Nat → Nat) {M : px_M} {p1 p2 p3 p4 p5 p6 : Int32} {M' : px_M} (hf : fC_Timers_make M p1 p2 p3 p4 p5 p6 = some M') : px_mV l D (tyC cs) (wC cs ad) yX4_make cX4_make 8 1 [.ref (ad 43), .int p1, .int p2, .int p3, .int p4, .int p5, .int p6] M M' := by
  refine px_ofV (by decide +kernel) (Nat.le_of_ble_eq_true rfl) ?_
  intro p e s m below meth c A ls X hr hlk hml w hl
  have hl : lv_has ls 8 [(0, .ref (ad 43)), (1, .int p1), (2, .int p2), (3, .int p3), (4, .int p4), (5, .int p5), (6, .int p6)] := hl
  unfold fC_Timers_make at hf
  refine lv_aload_n X.1 X.2.1 dX4_make_0 rfl (lv_at hl 0 rfl) ?_
  obtain ⟨r2, e1, hf⟩ := px_bq_e hf
  refine px_cI (As := []) (rest := []) X hml hl w (cC_Timers_freePlace l D cs ad e1) lk_4_48 (by decide) (rcC_43 X.2.2.2.2 w) rfl (Nat.le_of_ble_eq_true rfl) dX4_make_1 (fun H locs w => ?_)
  refine lv_istore (lv' := [(7, .int r2), (0, .ref (ad 43)), (1, .int p1), (2, .int p2), (3, .int p3), (4, .int p4), (5, .int p5), (6, .int p6)]) X.1 X.2.1 dX4_make_4 hl (by decide) rfl (fun ls hl => ?_)
  refine lv_iload X.1 X.2.1 dX4_make_6 (lv_at hl 0 rfl) ?_
  refine lv_iconst (v := (-1 : Int32)) X.1 X.2.1 dX4_make_8 (by decide) ?_
  refine lv_icmp_ne (tgt := 13) X.1 X.2.1 dX4_make_9 (by decide) (fun c3 => ?_) (fun c3 => ?_)
  · have hf := px_in c3 hf
    refine lv_aload_n X.1 X.2.1 dX4_make_13 rfl (lv_at hl 1 rfl) ?_
    refine lv_dup X.1 X.2.1 dX4_make_14 rfl ?_
    refine gtC_43_8 X w dX4_make_15 ?_
    refine lv_iconst (v := (1 : Int32)) X.1 X.2.1 dX4_make_18 (by decide) ?_
    refine lv_iadd X.1 X.2.1 dX4_make_19 ?_
    refine ptC_43_8 X w dX4_make_20 (fun H locs w => ?_)
    obtain ⟨M4, eM4, hf⟩ := px_bn_e hf
    rw [← eM4] at w
    refine lv_aload_n X.1 X.2.1 dX4_make_23 rfl (lv_at hl 1 rfl) ?_
    refine lv_dup X.1 X.2.1 dX4_make_24 rfl ?_
    refine gtC_43_9 X w dX4_make_25 ?_
    refine lv_iconst (v := (1 : Int32)) X.1 X.2.1 dX4_make_28 (by decide) ?_
    refine lv_iadd X.1 X.2.1 dX4_make_29 ?_
    refine ptC_43_9 X w dX4_make_30 (fun H locs w => ?_)
    obtain ⟨M5, eM5, hf⟩ := px_bn_e hf
    rw [← eM5] at w
    refine lv_aload_n X.1 X.2.1 dX4_make_33 rfl (lv_at hl 1 rfl) ?_
    refine gtC_43_0 X w dX4_make_34 ?_
    refine lv_iload X.1 X.2.1 dX4_make_37 (lv_at hl 0 rfl) ?_
    refine lv_aload_n X.1 X.2.1 dX4_make_39 rfl (lv_at hl 1 rfl) ?_
    refine gtC_43_8 X w dX4_make_40 ?_
    obtain ⟨b6, hf⟩ := px_ck_e hf
    refine isC_44 X w b6 dX4_make_43 (fun H locs w => ?_)
    obtain ⟨M7, eM7, hf⟩ := px_bn_e hf
    rw [← eM7] at w
    refine lv_aload_n X.1 X.2.1 dX4_make_44 rfl (lv_at hl 1 rfl) ?_
    refine gtC_43_1 X w dX4_make_45 ?_
    refine lv_iload X.1 X.2.1 dX4_make_48 (lv_at hl 0 rfl) ?_
    refine lv_iload_n X.1 X.2.1 dX4_make_50 rfl (lv_at hl 2 rfl) ?_
    obtain ⟨b8, hf⟩ := px_ck_e hf
    refine isC_45 X w b8 dX4_make_51 (fun H locs w => ?_)
    obtain ⟨M9, eM9, hf⟩ := px_bn_e hf
    rw [← eM9] at w
    refine lv_aload_n X.1 X.2.1 dX4_make_52 rfl (lv_at hl 1 rfl) ?_
    refine gtC_43_2 X w dX4_make_53 ?_
    refine lv_iload X.1 X.2.1 dX4_make_56 (lv_at hl 0 rfl) ?_
    refine lv_iload_n X.1 X.2.1 dX4_make_58 rfl (lv_at hl 3 rfl) ?_
    obtain ⟨b10, hf⟩ := px_ck_e hf
    refine isC_46 X w b10 dX4_make_59 (fun H locs w => ?_)
    obtain ⟨M11, eM11, hf⟩ := px_bn_e hf
    rw [← eM11] at w
    refine lv_aload_n X.1 X.2.1 dX4_make_60 rfl (lv_at hl 1 rfl) ?_
    refine gtC_43_3 X w dX4_make_61 ?_
    refine lv_iload X.1 X.2.1 dX4_make_64 (lv_at hl 0 rfl) ?_
    refine lv_iload_n X.1 X.2.1 dX4_make_66 rfl (lv_at hl 4 rfl) ?_
    obtain ⟨b12, hf⟩ := px_ck_e hf
    refine isC_47 X w b12 dX4_make_67 (fun H locs w => ?_)
    obtain ⟨M13, eM13, hf⟩ := px_bn_e hf
    rw [← eM13] at w
    refine lv_aload_n X.1 X.2.1 dX4_make_68 rfl (lv_at hl 1 rfl) ?_
    refine gtC_43_6 X w dX4_make_69 ?_
    refine lv_iload X.1 X.2.1 dX4_make_72 (lv_at hl 0 rfl) ?_
    refine lv_iload X.1 X.2.1 dX4_make_74 (lv_at hl 5 rfl) ?_
    obtain ⟨b14, hf⟩ := px_ck_e hf
    obtain ⟨b15, hf⟩ := px_cb_e hf
    refine isC_50 X w b14 b15 dX4_make_76 (fun H locs w => ?_)
    obtain ⟨M16, eM16, hf⟩ := px_bn_e hf
    rw [← eM16] at w
    refine lv_aload_n X.1 X.2.1 dX4_make_77 rfl (lv_at hl 1 rfl) ?_
    refine lv_iload X.1 X.2.1 dX4_make_78 (lv_at hl 0 rfl) ?_
    refine lv_iload X.1 X.2.1 dX4_make_80 (lv_at hl 6 rfl) ?_
    refine lv_iload X.1 X.2.1 dX4_make_82 (lv_at hl 7 rfl) ?_
    obtain ⟨M18, e17, hf⟩ := px_bq_e hf
    refine px_cV (As := [.int r2, .int p5, .int p6]) (rest := []) X hml hl w (cC_Timers_start l D cs ad e17) lk_4_52 (by decide) (rcC_43 X.2.2.2.2 w) rfl (Nat.le_of_ble_eq_true rfl) dX4_make_84 (fun H locs w => ?_)
    cases hf
    exact px_retV X hr hlk w dX4_make_87
  · have hf := px_ip c3 hf
    cases hf
    exact px_retV X hr hlk w dX4_make_12
def fC_Timers_remove (M : px_M) (p1 : Int32) : Option px_M := px_bq (fC_Timers_find M p1) (fun r2 => (if r2 = (-1 : Int32) then some M else px_ck r2 12 (px_bn (px_up M 44 r2.toNatClampNeg (0 : Int32)) (fun M5 => px_bn (px_up M5 43 9 ((M5 43 9) - (1 : Int32))) (fun M6 => some M6)))))
set_option maxHeartbeats 4000000 in
set_option maxRecDepth 100000 in
theorem cC_Timers_remove (l : Launch) (D : va_G) (cs : Nat → ClassId) (ad : Nat → Nat) {M : px_M} {p1 : Int32} {M' : px_M} (hf : fC_Timers_remove M p1 = some M') : px_mV l D (tyC cs) (wC cs ad) yX4_remove cX4_remove 3 1 [.ref (ad 43), .int p1] M M' := by
  refine px_ofV (by decide +kernel) (Nat.le_of_ble_eq_true rfl) ?_
  intro p e s m below meth c A ls X hr hlk hml w hl
  have hl : lv_has ls 3 [(0, .ref (ad 43)), (1, .int p1)] := hl
  unfold fC_Timers_remove at hf
  refine lv_aload_n X.1 X.2.1 dX4_remove_0 rfl (lv_at hl 0 rfl) ?_
  refine lv_iload_n X.1 X.2.1 dX4_remove_1 rfl (lv_at hl 1 rfl) ?_
  obtain ⟨r2, e1, hf⟩ := px_bq_e hf
  refine px_cI (As := [.int p1]) (rest := []) X hml hl w (cC_Timers_find l D cs ad e1) lk_4_44 (by decide) (rcC_43 X.2.2.2.2 w) rfl (Nat.le_of_ble_eq_true rfl) dX4_remove_2 (fun H locs w => ?_)
  refine lv_istore_n (lv' := [(2, .int r2), (0, .ref (ad 43)), (1, .int p1)]) X.1 X.2.1 dX4_remove_5 rfl hl (by decide) rfl (fun ls hl => ?_)
  refine lv_iload_n X.1 X.2.1 dX4_remove_6 rfl (lv_at hl 0 rfl) ?_
  refine lv_iconst (v := (-1 : Int32)) X.1 X.2.1 dX4_remove_7 (by decide) ?_
  refine lv_icmp_eq (tgt := 28) X.1 X.2.1 dX4_remove_8 (by decide) (fun c3 => ?_) (fun c3 => ?_)
  · have hf := px_ip c3 hf
    cases hf
    exact px_retV X hr hlk w dX4_remove_28
  · have hf := px_in c3 hf
    refine lv_aload_n X.1 X.2.1 dX4_remove_11 rfl (lv_at hl 1 rfl) ?_
    refine gtC_43_0 X w dX4_remove_12 ?_
    refine lv_iload_n X.1 X.2.1 dX4_remove_15 rfl (lv_at hl 0 rfl) ?_
    refine lv_iconst (v := (0 : Int32)) X.1 X.2.1 dX4_remove_16 (by decide) ?_
    obtain ⟨b4, hf⟩ := px_ck_e hf
    refine isC_44 X w b4 dX4_remove_17 (fun H locs w => ?_)
    obtain ⟨M5, eM5, hf⟩ := px_bn_e hf
    rw [← eM5] at w
    refine lv_aload_n X.1 X.2.1 dX4_remove_18 rfl (lv_at hl 1 rfl) ?_
    refine lv_dup X.1 X.2.1 dX4_remove_19 rfl ?_
    refine gtC_43_9 X w dX4_remove_20 ?_
    refine lv_iconst (v := (1 : Int32)) X.1 X.2.1 dX4_remove_23 (by decide) ?_
    refine lv_isub X.1 X.2.1 dX4_remove_24 ?_
    refine ptC_43_9 X w dX4_remove_25 (fun H locs w => ?_)
    obtain ⟨M6, eM6, hf⟩ := px_bn_e hf
    rw [← eM6] at w
    cases hf
    exact px_retV X hr hlk w dX4_remove_28
def fC_Timers_restart (M : px_M) (p1 p2 : Int32) : Option px_M := px_bq (fC_Timers_find M p1) (fun r2 => (if r2 = (-1 : Int32) then some M else px_ck r2 12 (px_bq (fC_Timers_start M r2 ((M 48 r2.toNatClampNeg) + (1 : Int32)) p2) (fun M6 => some M6))))
set_option maxHeartbeats 4000000 in
set_option maxRecDepth 100000 in
theorem cC_Timers_restart (l : Launch) (D : va_G) (cs : Nat → ClassId) (ad : Nat → Nat) {M : px_M} {p1 p2 : Int32} {M' : px_M} (hf : fC_Timers_restart M p1 p2 = some M') : px_mV l D (tyC cs) (wC cs ad) yX4_restart cX4_restart 4 1 [.ref (ad 43), .int p1, .int p2] M M' := by
  refine px_ofV (by decide +kernel) (Nat.le_of_ble_eq_true rfl) ?_
  intro p e s m below meth c A ls X hr hlk hml w hl
  have hl : lv_has ls 4 [(0, .ref (ad 43)), (1, .int p1), (2, .int p2)] := hl
  unfold fC_Timers_restart at hf
  refine lv_aload_n X.1 X.2.1 dX4_restart_0 rfl (lv_at hl 0 rfl) ?_
  refine lv_iload_n X.1 X.2.1 dX4_restart_1 rfl (lv_at hl 1 rfl) ?_
  obtain ⟨r2, e1, hf⟩ := px_bq_e hf
  refine px_cI (As := [.int p1]) (rest := []) X hml hl w (cC_Timers_find l D cs ad e1) lk_4_44 (by decide) (rcC_43 X.2.2.2.2 w) rfl (Nat.le_of_ble_eq_true rfl) dX4_restart_2 (fun H locs w => ?_)
  refine lv_istore_n (lv' := [(3, .int r2), (0, .ref (ad 43)), (1, .int p1), (2, .int p2)]) X.1 X.2.1 dX4_restart_5 rfl hl (by decide) rfl (fun ls hl => ?_)
  refine lv_iload_n X.1 X.2.1 dX4_restart_6 rfl (lv_at hl 0 rfl) ?_
  refine lv_iconst (v := (-1 : Int32)) X.1 X.2.1 dX4_restart_7 (by decide) ?_
  refine lv_icmp_eq (tgt := 25) X.1 X.2.1 dX4_restart_8 (by decide) (fun c3 => ?_) (fun c3 => ?_)
  · have hf := px_ip c3 hf
    cases hf
    exact px_retV X hr hlk w dX4_restart_25
  · have hf := px_in c3 hf
    refine lv_aload_n X.1 X.2.1 dX4_restart_11 rfl (lv_at hl 1 rfl) ?_
    refine lv_iload_n X.1 X.2.1 dX4_restart_12 rfl (lv_at hl 0 rfl) ?_
    refine lv_aload_n X.1 X.2.1 dX4_restart_13 rfl (lv_at hl 1 rfl) ?_
    refine gtC_43_4 X w dX4_restart_14 ?_
    refine lv_iload_n X.1 X.2.1 dX4_restart_17 rfl (lv_at hl 0 rfl) ?_
    obtain ⟨b4, hf⟩ := px_ck_e hf
    refine ilC_48 X w b4 dX4_restart_18 ?_
    refine lv_iconst (v := (1 : Int32)) X.1 X.2.1 dX4_restart_19 (by decide) ?_
    refine lv_iadd X.1 X.2.1 dX4_restart_20 ?_
    refine lv_iload_n X.1 X.2.1 dX4_restart_21 rfl (lv_at hl 3 rfl) ?_
    obtain ⟨M6, e5, hf⟩ := px_bq_e hf
    refine px_cV (As := [.int r2, .int ((M 48 r2.toNatClampNeg) + (1 : Int32)), .int p2]) (rest := []) X hml hl w (cC_Timers_start l D cs ad e5) lk_4_52 (by decide) (rcC_43 X.2.2.2.2 w) rfl (Nat.le_of_ble_eq_true rfl) dX4_restart_22 (fun H locs w => ?_)
    cases hf
    exact px_retV X hr hlk w dX4_restart_25
def fC_Timers_isBefore (M : px_M) (p1 p2 : Int32) : Option Int32 := px_ck p1 12 (px_ck p2 12 ((if (M 49 p1.toNatClampNeg) = (M 49 p2.toNatClampNeg) then px_ck p1 12 (px_ck p2 12 ((if (M 44 p2.toNatClampNeg) ≤ (M 44 p1.toNatClampNeg) then some (0 : Int32) else some (1 : Int32)))) else px_ck p1 12 (px_ck p2 12 ((if (M 49 p2.toNatClampNeg) ≤ (M 49 p1.toNatClampNeg) then some (0 : Int32) else some (1 : Int32)))))))
set_option maxHeartbeats 4000000 in
set_option maxRecDepth 100000 in
theorem cC_Timers_isBefore (l : Launch) (D : va_G) (cs : Nat → ClassId) (ad : Nat → Nat) {M : px_M} {p1 p2 : Int32} {r : Int32} (hf : fC_Timers_isBefore M p1 p2 = some r) : px_mI l D (tyC cs) (wC cs ad) yX4_isBefore cX4_isBefore 3 (some .boolean) 0 [.ref (ad 43), .int p1, .int p2] M r M := by
  refine px_ofI (by decide +kernel) (Nat.le_of_ble_eq_true rfl) ?_
  intro p e s m below meth c A ls X hr hlk hml w hl
  have hl : lv_has ls 3 [(0, .ref (ad 43)), (1, .int p1), (2, .int p2)] := hl
  unfold fC_Timers_isBefore at hf
  refine lv_aload_n X.1 X.2.1 dX4_isBefore_0 rfl (lv_at hl 0 rfl) ?_
  refine gtC_43_5 X w dX4_isBefore_1 ?_
  refine lv_iload_n X.1 X.2.1 dX4_isBefore_4 rfl (lv_at hl 1 rfl) ?_
  obtain ⟨b1, hf⟩ := px_ck_e hf
  refine ilC_49 X w b1 dX4_isBefore_5 ?_
  refine lv_aload_n X.1 X.2.1 dX4_isBefore_6 rfl (lv_at hl 0 rfl) ?_
  refine gtC_43_5 X w dX4_isBefore_7 ?_
  refine lv_iload_n X.1 X.2.1 dX4_isBefore_10 rfl (lv_at hl 2 rfl) ?_
  obtain ⟨b2, hf⟩ := px_ck_e hf
  refine ilC_49 X w b2 dX4_isBefore_11 ?_
  refine lv_icmp_eq (tgt := 36) X.1 X.2.1 dX4_isBefore_12 (by decide) (fun c3 => ?_) (fun c3 => ?_)
  · have hf := px_ip c3 hf
    refine lv_aload_n X.1 X.2.1 dX4_isBefore_36 rfl (lv_at hl 0 rfl) ?_
    refine gtC_43_0 X w dX4_isBefore_37 ?_
    refine lv_iload_n X.1 X.2.1 dX4_isBefore_40 rfl (lv_at hl 1 rfl) ?_
    obtain ⟨b4, hf⟩ := px_ck_e hf
    refine ilC_44 X w b4 dX4_isBefore_41 ?_
    refine lv_aload_n X.1 X.2.1 dX4_isBefore_42 rfl (lv_at hl 0 rfl) ?_
    refine gtC_43_0 X w dX4_isBefore_43 ?_
    refine lv_iload_n X.1 X.2.1 dX4_isBefore_46 rfl (lv_at hl 2 rfl) ?_
    obtain ⟨b5, hf⟩ := px_ck_e hf
    refine ilC_44 X w b5 dX4_isBefore_47 ?_
    refine lv_icmp_ge (tgt := 55) X.1 X.2.1 dX4_isBefore_48 (by decide) (fun c6 => ?_) (fun c6 => ?_)
    · have hf := px_ip c6 hf
      refine lv_iconst (v := (0 : Int32)) X.1 X.2.1 dX4_isBefore_55 (by decide) ?_
      cases hf
      exact px_retZ X hr hlk narrow_b0 w dX4_isBefore_56
    · have hf := px_in c6 hf
      refine lv_iconst (v := (1 : Int32)) X.1 X.2.1 dX4_isBefore_51 (by decide) ?_
      refine lv_goto (tgt := 56) X.1 X.2.1 dX4_isBefore_52 (by decide) ?_
      cases hf
      exact px_retZ X hr hlk narrow_b1 w dX4_isBefore_56
  · have hf := px_in c3 hf
    refine lv_aload_n X.1 X.2.1 dX4_isBefore_15 rfl (lv_at hl 0 rfl) ?_
    refine gtC_43_5 X w dX4_isBefore_16 ?_
    refine lv_iload_n X.1 X.2.1 dX4_isBefore_19 rfl (lv_at hl 1 rfl) ?_
    obtain ⟨b7, hf⟩ := px_ck_e hf
    refine ilC_49 X w b7 dX4_isBefore_20 ?_
    refine lv_aload_n X.1 X.2.1 dX4_isBefore_21 rfl (lv_at hl 0 rfl) ?_
    refine gtC_43_5 X w dX4_isBefore_22 ?_
    refine lv_iload_n X.1 X.2.1 dX4_isBefore_25 rfl (lv_at hl 2 rfl) ?_
    obtain ⟨b8, hf⟩ := px_ck_e hf
    refine ilC_49 X w b8 dX4_isBefore_26 ?_
    refine lv_icmp_ge (tgt := 34) X.1 X.2.1 dX4_isBefore_27 (by decide) (fun c9 => ?_) (fun c9 => ?_)
    · have hf := px_ip c9 hf
      refine lv_iconst (v := (0 : Int32)) X.1 X.2.1 dX4_isBefore_34 (by decide) ?_
      cases hf
      exact px_retZ X hr hlk narrow_b0 w dX4_isBefore_35
    · have hf := px_in c9 hf
      refine lv_iconst (v := (1 : Int32)) X.1 X.2.1 dX4_isBefore_30 (by decide) ?_
      refine lv_goto (tgt := 35) X.1 X.2.1 dX4_isBefore_31 (by decide) ?_
      cases hf
      exact px_retZ X hr hlk narrow_b1 w dX4_isBefore_35
theorem lk_4_64 : px_Lk RX4 64 yX4_isBefore cX4_isBefore 3 (some .boolean) 2 := ⟨px_tb (by decide +kernel) (by decide +kernel), px_tb (by decide +kernel) (by decide +kernel), px_tb (by decide +kernel) (by decide +kernel), px_tb (by decide +kernel) (by decide +kernel), px_tb (by decide +kernel) (by decide +kernel), by decide +kernel, by decide⟩
def gC_Timers_nextDue_L4 (rc4 : px_M → Int32 → Int32 → Int32 → Option Int32) (M : px_M) (y1 y2 y3 : Int32) : Option Int32 := (if (12 : Int32) ≤ y3 then some y2 else px_ck y3 12 ((if (M 44 y3.toNatClampNeg) = 0 then rc4 M y1 y2 (y3 + (1 : Int32)) else px_ck y3 12 ((if (M 51 y3.toNatClampNeg) = 0 then px_ck y3 12 ((if y1 < (M 49 y3.toNatClampNeg) then rc4 M y1 y2 (y3 + (1 : Int32)) else (if y2 = (-1 : Int32) then rc4 M y1 y3 (y3 + (1 : Int32)) else px_bq (fC_Timers_isBefore M y3 y2) (fun r10 => (if r10 = 0 then rc4 M y1 y2 (y3 + (1 : Int32)) else rc4 M y1 y3 (y3 + (1 : Int32))))))) else rc4 M y1 y2 (y3 + (1 : Int32)))))))
set_option maxHeartbeats 4000000 in
set_option maxRecDepth 100000 in
theorem lC_Timers_nextDue_L4 {l : Launch} {D : va_G} {cs : Nat → ClassId} {ad : Nat → Nat} {p : Program} {e : Env} {s : State} {m : MethodId} {args : Array Value} {below : List Frame} {meth : Method} {c : Code} {A : Nat → Prop} (X : px_X D (tyC cs) p s m args c cX4_nextDue yX4_nextDue.cls) (hr : meth.sig.returnType = (some .int)) (hlk : meth.locks = false) (hml : c.maxLocals = 5) : ∀ (j : Nat) (M : px_M) (y1 y2 y3 : Int32) (z : Int32), px_fx3 gC_Timers_nextDue_L4 j M y1 y2 y3 = some z → ∀ (H : Heap) (locs : List Loc) (ls : Array Slot), px_H D (wC cs ad) A s.heap M H locs → lv_has ls 5 [(0, .ref (ad 43)), (1, .int y1), (2, .int y2), (3, .int y3)] → W p l e (px_rm 1) s m args below meth c H locs 0 0 (px_QI D (tyC cs) (wC cs ad) below args s A z M) (F0 m 4 ls []) := by
  refine px_fx3_i (P := fun M y1 y2 y3 (z : Int32) => ∀ (H : Heap) (locs : List Loc) (ls : Array Slot), px_H D (wC cs ad) A s.heap M H locs → lv_has ls 5 [(0, .ref (ad 43)), (1, .int y1), (2, .int y2), (3, .int y3)] → W p l e (px_rm 1) s m args below meth c H locs 0 0 (px_QI D (tyC cs) (wC cs ad) below args s A z M) (F0 m 4 ls [])) ?_
  intro rc4 ih4 M y1 y2 y3 z hf H locs ls w hl
  unfold gC_Timers_nextDue_L4 at hf
  refine lv_iload_n X.1 X.2.1 dX4_nextDue_4 rfl (lv_at hl 3 rfl) ?_
  refine lv_bipush (v := (12 : Int32)) X.1 X.2.1 dX4_nextDue_5 (by decide) ?_
  refine lv_icmp_ge (tgt := 72) X.1 X.2.1 dX4_nextDue_7 (by decide) (fun c1 => ?_) (fun c1 => ?_)
  · have hf := px_ip c1 hf
    refine lv_iload_n X.1 X.2.1 dX4_nextDue_72 rfl (lv_at hl 2 rfl) ?_
    cases hf
    exact px_retI X hr hlk w dX4_nextDue_73
  · have hf := px_in c1 hf
    refine lv_aload_n X.1 X.2.1 dX4_nextDue_10 rfl (lv_at hl 0 rfl) ?_
    refine gtC_43_0 X w dX4_nextDue_11 ?_
    refine lv_iload_n X.1 X.2.1 dX4_nextDue_14 rfl (lv_at hl 3 rfl) ?_
    obtain ⟨b2, hf⟩ := px_ck_e hf
    refine ilC_44 X w b2 dX4_nextDue_15 ?_
    refine lv_if_eq (tgt := 42) X.1 X.2.1 dX4_nextDue_16 (by decide) (fun c3 => ?_) (fun c3 => ?_)
    · have hf := px_ip c3 hf
      refine lv_iconst (v := (0 : Int32)) X.1 X.2.1 dX4_nextDue_42 (by decide) ?_
      refine lv_istore (lv' := [(4, .int (0 : Int32)), (0, .ref (ad 43)), (1, .int y1), (2, .int y2), (3, .int y3)]) X.1 X.2.1 dX4_nextDue_43 hl (by decide) rfl (fun ls hl => ?_)
      refine lv_iload X.1 X.2.1 dX4_nextDue_45 (lv_at hl 0 rfl) ?_
      refine lv_if_eq (tgt := 66) X.1 X.2.1 dX4_nextDue_47 (by decide) (fun _ => ?_) (fun c => absurd c (by decide))
      refine lv_iinc (v := (y3 + (1 : Int32))) (lv' := [(3, .int (y3 + (1 : Int32))), (4, .int (0 : Int32)), (0, .ref (ad 43)), (1, .int y1), (2, .int y2)]) X.1 X.2.1 dX4_nextDue_66 hl (k := 4) rfl rfl (by decide) rfl (fun ls hl => ?_)
      refine lv_goto (tgt := 4) X.1 X.2.1 dX4_nextDue_69 (by decide) ?_
      exact ih4 M y1 y2 (y3 + (1 : Int32)) _ hf _ _ ls w (lv_sub hl [2, 3, 4, 0] rfl)
    · have hf := px_in c3 hf
      refine lv_aload_n X.1 X.2.1 dX4_nextDue_19 rfl (lv_at hl 0 rfl) ?_
      refine gtC_43_7 X w dX4_nextDue_20 ?_
      refine lv_iload_n X.1 X.2.1 dX4_nextDue_23 rfl (lv_at hl 3 rfl) ?_
      obtain ⟨b4, hf⟩ := px_ck_e hf
      refine ilC_51 X w b4 dX4_nextDue_24 ?_
      refine lv_if_ne (tgt := 42) X.1 X.2.1 dX4_nextDue_25 (by decide) (fun c5 => ?_) (fun c5 => ?_)
      · have hf := px_in c5 hf
        refine lv_iconst (v := (0 : Int32)) X.1 X.2.1 dX4_nextDue_42 (by decide) ?_
        refine lv_istore (lv' := [(4, .int (0 : Int32)), (0, .ref (ad 43)), (1, .int y1), (2, .int y2), (3, .int y3)]) X.1 X.2.1 dX4_nextDue_43 hl (by decide) rfl (fun ls hl => ?_)
        refine lv_iload X.1 X.2.1 dX4_nextDue_45 (lv_at hl 0 rfl) ?_
        refine lv_if_eq (tgt := 66) X.1 X.2.1 dX4_nextDue_47 (by decide) (fun _ => ?_) (fun c => absurd c (by decide))
        refine lv_iinc (v := (y3 + (1 : Int32))) (lv' := [(3, .int (y3 + (1 : Int32))), (4, .int (0 : Int32)), (0, .ref (ad 43)), (1, .int y1), (2, .int y2)]) X.1 X.2.1 dX4_nextDue_66 hl (k := 4) rfl rfl (by decide) rfl (fun ls hl => ?_)
        refine lv_goto (tgt := 4) X.1 X.2.1 dX4_nextDue_69 (by decide) ?_
        exact ih4 M y1 y2 (y3 + (1 : Int32)) _ hf _ _ ls w (lv_sub hl [2, 3, 4, 0] rfl)
      · have hf := px_ip c5 hf
        refine lv_aload_n X.1 X.2.1 dX4_nextDue_28 rfl (lv_at hl 0 rfl) ?_
        refine gtC_43_5 X w dX4_nextDue_29 ?_
        refine lv_iload_n X.1 X.2.1 dX4_nextDue_32 rfl (lv_at hl 3 rfl) ?_
        obtain ⟨b6, hf⟩ := px_ck_e hf
        refine ilC_49 X w b6 dX4_nextDue_33 ?_
        refine lv_iload_n X.1 X.2.1 dX4_nextDue_34 rfl (lv_at hl 1 rfl) ?_
        refine lv_icmp_gt (tgt := 42) X.1 X.2.1 dX4_nextDue_35 (by decide) (fun c7 => ?_) (fun c7 => ?_)
        · have hf := px_ip c7 hf
          refine lv_iconst (v := (0 : Int32)) X.1 X.2.1 dX4_nextDue_42 (by decide) ?_
          refine lv_istore (lv' := [(4, .int (0 : Int32)), (0, .ref (ad 43)), (1, .int y1), (2, .int y2), (3, .int y3)]) X.1 X.2.1 dX4_nextDue_43 hl (by decide) rfl (fun ls hl => ?_)
          refine lv_iload X.1 X.2.1 dX4_nextDue_45 (lv_at hl 0 rfl) ?_
          refine lv_if_eq (tgt := 66) X.1 X.2.1 dX4_nextDue_47 (by decide) (fun _ => ?_) (fun c => absurd c (by decide))
          refine lv_iinc (v := (y3 + (1 : Int32))) (lv' := [(3, .int (y3 + (1 : Int32))), (4, .int (0 : Int32)), (0, .ref (ad 43)), (1, .int y1), (2, .int y2)]) X.1 X.2.1 dX4_nextDue_66 hl (k := 4) rfl rfl (by decide) rfl (fun ls hl => ?_)
          refine lv_goto (tgt := 4) X.1 X.2.1 dX4_nextDue_69 (by decide) ?_
          exact ih4 M y1 y2 (y3 + (1 : Int32)) _ hf _ _ ls w (lv_sub hl [2, 3, 4, 0] rfl)
        · have hf := px_in c7 hf
          refine lv_iconst (v := (1 : Int32)) X.1 X.2.1 dX4_nextDue_38 (by decide) ?_
          refine lv_goto (tgt := 43) X.1 X.2.1 dX4_nextDue_39 (by decide) ?_
          refine lv_istore (lv' := [(4, .int (1 : Int32)), (0, .ref (ad 43)), (1, .int y1), (2, .int y2), (3, .int y3)]) X.1 X.2.1 dX4_nextDue_43 hl (by decide) rfl (fun ls hl => ?_)
          refine lv_iload X.1 X.2.1 dX4_nextDue_45 (lv_at hl 0 rfl) ?_
          refine lv_if_eq (tgt := 66) X.1 X.2.1 dX4_nextDue_47 (by decide) (fun c => absurd c (by decide)) (fun _ => ?_)
          refine lv_iload_n X.1 X.2.1 dX4_nextDue_50 rfl (lv_at hl 3 rfl) ?_
          refine lv_iconst (v := (-1 : Int32)) X.1 X.2.1 dX4_nextDue_51 (by decide) ?_
          refine lv_icmp_eq (tgt := 64) X.1 X.2.1 dX4_nextDue_52 (by decide) (fun c8 => ?_) (fun c8 => ?_)
          · have hf := px_ip c8 hf
            refine lv_iload_n X.1 X.2.1 dX4_nextDue_64 rfl (lv_at hl 4 rfl) ?_
            refine lv_istore_n (lv' := [(2, .int y3), (4, .int (1 : Int32)), (0, .ref (ad 43)), (1, .int y1), (3, .int y3)]) X.1 X.2.1 dX4_nextDue_65 rfl hl (by decide) rfl (fun ls hl => ?_)
            refine lv_iinc (v := (y3 + (1 : Int32))) (lv' := [(3, .int (y3 + (1 : Int32))), (2, .int y3), (4, .int (1 : Int32)), (0, .ref (ad 43)), (1, .int y1)]) X.1 X.2.1 dX4_nextDue_66 hl (k := 4) rfl rfl (by decide) rfl (fun ls hl => ?_)
            refine lv_goto (tgt := 4) X.1 X.2.1 dX4_nextDue_69 (by decide) ?_
            exact ih4 M y1 y3 (y3 + (1 : Int32)) _ hf _ _ ls w (lv_sub hl [3, 4, 1, 0] rfl)
          · have hf := px_in c8 hf
            refine lv_aload_n X.1 X.2.1 dX4_nextDue_55 rfl (lv_at hl 1 rfl) ?_
            refine lv_iload_n X.1 X.2.1 dX4_nextDue_56 rfl (lv_at hl 4 rfl) ?_
            refine lv_iload_n X.1 X.2.1 dX4_nextDue_57 rfl (lv_at hl 3 rfl) ?_
            obtain ⟨r10, e9, hf⟩ := px_bq_e hf
            refine px_cI (As := [.int y3, .int y2]) (rest := []) X hml hl w (cC_Timers_isBefore l D cs ad e9) lk_4_64 (by decide) (rcC_43 X.2.2.2.2 w) rfl (Nat.le_of_ble_eq_true rfl) dX4_nextDue_58 (fun H locs w => ?_)
            refine lv_if_eq (tgt := 66) X.1 X.2.1 dX4_nextDue_61 (by decide) (fun c11 => ?_) (fun c11 => ?_)
            · have hf := px_ip c11 hf
              refine lv_iinc (v := (y3 + (1 : Int32))) (lv' := [(3, .int (y3 + (1 : Int32))), (4, .int (1 : Int32)), (0, .ref (ad 43)), (1, .int y1), (2, .int y2)]) X.1 X.2.1 dX4_nextDue_66 hl (k := 4) rfl rfl (by decide) rfl (fun ls hl => ?_)
              refine lv_goto (tgt := 4) X.1 X.2.1 dX4_nextDue_69 (by decide) ?_
              exact ih4 M y1 y2 (y3 + (1 : Int32)) _ hf _ _ ls w (lv_sub hl [2, 3, 4, 0] rfl)
            · have hf := px_in c11 hf
              refine lv_iload_n X.1 X.2.1 dX4_nextDue_64 rfl (lv_at hl 4 rfl) ?_
              refine lv_istore_n (lv' := [(2, .int y3), (4, .int (1 : Int32)), (0, .ref (ad 43)), (1, .int y1), (3, .int y3)]) X.1 X.2.1 dX4_nextDue_65 rfl hl (by decide) rfl (fun ls hl => ?_)
              refine lv_iinc (v := (y3 + (1 : Int32))) (lv' := [(3, .int (y3 + (1 : Int32))), (2, .int y3), (4, .int (1 : Int32)), (0, .ref (ad 43)), (1, .int y1)]) X.1 X.2.1 dX4_nextDue_66 hl (k := 4) rfl rfl (by decide) rfl (fun ls hl => ?_)
              refine lv_goto (tgt := 4) X.1 X.2.1 dX4_nextDue_69 (by decide) ?_
              exact ih4 M y1 y3 (y3 + (1 : Int32)) _ hf _ _ ls w (lv_sub hl [3, 4, 1, 0] rfl)
def fC_Timers_nextDue (M : px_M) (p1 : Int32) : Option Int32 := px_fx3 gC_Timers_nextDue_L4 13 M p1 (-1 : Int32) (0 : Int32)
set_option maxHeartbeats 4000000 in
set_option maxRecDepth 100000 in
theorem cC_Timers_nextDue (l : Launch) (D : va_G) (cs : Nat → ClassId) (ad : Nat → Nat) {M : px_M} {p1 : Int32} {r : Int32} (hf : fC_Timers_nextDue M p1 = some r) : px_mI l D (tyC cs) (wC cs ad) yX4_nextDue cX4_nextDue 5 (some .int) 1 [.ref (ad 43), .int p1] M r M := by
  refine px_ofI (by decide +kernel) (Nat.le_of_ble_eq_true rfl) ?_
  intro p e s m below meth c A ls X hr hlk hml w hl
  have hl : lv_has ls 5 [(0, .ref (ad 43)), (1, .int p1)] := hl
  unfold fC_Timers_nextDue at hf
  refine lv_iconst (v := (-1 : Int32)) X.1 X.2.1 dX4_nextDue_0 (by decide) ?_
  refine lv_istore_n (lv' := [(2, .int (-1 : Int32)), (0, .ref (ad 43)), (1, .int p1)]) X.1 X.2.1 dX4_nextDue_1 rfl hl (by decide) rfl (fun ls hl => ?_)
  refine lv_iconst (v := (0 : Int32)) X.1 X.2.1 dX4_nextDue_2 (by decide) ?_
  refine lv_istore_n (lv' := [(3, .int (0 : Int32)), (2, .int (-1 : Int32)), (0, .ref (ad 43)), (1, .int p1)]) X.1 X.2.1 dX4_nextDue_3 rfl hl (by decide) rfl (fun ls hl => ?_)
  exact lC_Timers_nextDue_L4 X hr hlk hml 13 M p1 (-1 : Int32) (0 : Int32) _ hf _ _ ls w (lv_sub hl [2, 3, 1, 0] rfl)
theorem lk_4_56 : px_Lk RX4 56 yX4_nextDue cX4_nextDue 5 (some .int) 1 := ⟨px_tb (by decide +kernel) (by decide +kernel), px_tb (by decide +kernel) (by decide +kernel), px_tb (by decide +kernel) (by decide +kernel), px_tb (by decide +kernel) (by decide +kernel), px_tb (by decide +kernel) (by decide +kernel), by decide +kernel, by decide⟩
theorem lk_4_59 : px_Lk RX4 59 yX2_put cX2_put 5 none 3 := ⟨px_tb (by decide +kernel) (by decide +kernel), px_tb (by decide +kernel) (by decide +kernel), px_tb (by decide +kernel) (by decide +kernel), px_tb (by decide +kernel) (by decide +kernel), px_tb (by decide +kernel) (by decide +kernel), by decide +kernel, by decide⟩
def gC_Timers_putTasks_L2 (rc2 : px_M → Int32 → Int32 → Option px_M) (M : px_M) (y1 y3 : Int32) : Option px_M := (if (12 : Int32) ≤ y3 then some M else px_bq (fC_Timers_nextDue M y1) (fun r3 => (if r3 = (-1 : Int32) then some M else px_ck r3 12 (px_bn (px_up M 51 r3.toNatClampNeg (1 : Int32)) (fun M6 => px_ck r3 12 (px_bq (fC_Line_put_12 M6 (1 : Int32) (M6 44 r3.toNatClampNeg) (0 : Int32)) (fun M9 => rc2 M9 y1 (y3 + (1 : Int32)))))))))
set_option maxHeartbeats 4000000 in
set_option maxRecDepth 100000 in
theorem lC_Timers_putTasks_L2 {l : Launch} {D : va_G} {cs : Nat → ClassId} {ad : Nat → Nat} {p : Program} {e : Env} {s : State} {m : MethodId} {args : Array Value} {below : List Frame} {meth : Method} {c : Code} {A : Nat → Prop} (X : px_X D (tyC cs) p s m args c cX4_putTasks yX4_putTasks.cls) (hr : meth.sig.returnType = none) (hlk : meth.locks = false) (hml : c.maxLocals = 5) : ∀ (j : Nat) (M : px_M) (y1 y3 : Int32) (z : px_M), px_fx2 gC_Timers_putTasks_L2 j M y1 y3 = some z → ∀ (H : Heap) (locs : List Loc) (ls : Array Slot), px_H D (wC cs ad) A s.heap M H locs → lv_has ls 5 [(0, .ref (ad 43)), (2, .ref (ad 12)), (1, .int y1), (3, .int y3)] → W p l e (px_rm 2) s m args below meth c H locs 0 0 (px_QV D (tyC cs) (wC cs ad) below args s A z) (F0 m 2 ls []) := by
  refine px_fx2_i (P := fun M y1 y3 (z : px_M) => ∀ (H : Heap) (locs : List Loc) (ls : Array Slot), px_H D (wC cs ad) A s.heap M H locs → lv_has ls 5 [(0, .ref (ad 43)), (2, .ref (ad 12)), (1, .int y1), (3, .int y3)] → W p l e (px_rm 2) s m args below meth c H locs 0 0 (px_QV D (tyC cs) (wC cs ad) below args s A z) (F0 m 2 ls [])) ?_
  intro rc2 ih2 M y1 y3 z hf H locs ls w hl
  unfold gC_Timers_putTasks_L2 at hf
  refine lv_iload_n X.1 X.2.1 dX4_putTasks_2 rfl (lv_at hl 3 rfl) ?_
  refine lv_bipush (v := (12 : Int32)) X.1 X.2.1 dX4_putTasks_3 (by decide) ?_
  refine lv_icmp_ge (tgt := 49) X.1 X.2.1 dX4_putTasks_5 (by decide) (fun c1 => ?_) (fun c1 => ?_)
  · have hf := px_ip c1 hf
    cases hf
    exact px_retV X hr hlk w dX4_putTasks_49
  · have hf := px_in c1 hf
    refine lv_aload_n X.1 X.2.1 dX4_putTasks_8 rfl (lv_at hl 0 rfl) ?_
    refine lv_iload_n X.1 X.2.1 dX4_putTasks_9 rfl (lv_at hl 2 rfl) ?_
    obtain ⟨r3, e2, hf⟩ := px_bq_e hf
    refine px_cI (As := [.int y1]) (rest := []) X hml hl w (cC_Timers_nextDue l D cs ad e2) lk_4_56 (by decide) (rcC_43 X.2.2.2.2 w) rfl (Nat.le_of_ble_eq_true rfl) dX4_putTasks_10 (fun H locs w => ?_)
    refine lv_istore (lv' := [(4, .int r3), (0, .ref (ad 43)), (2, .ref (ad 12)), (1, .int y1), (3, .int y3)]) X.1 X.2.1 dX4_putTasks_13 hl (by decide) rfl (fun ls hl => ?_)
    refine lv_iload X.1 X.2.1 dX4_putTasks_15 (lv_at hl 0 rfl) ?_
    refine lv_iconst (v := (-1 : Int32)) X.1 X.2.1 dX4_putTasks_17 (by decide) ?_
    refine lv_icmp_ne (tgt := 22) X.1 X.2.1 dX4_putTasks_18 (by decide) (fun c4 => ?_) (fun c4 => ?_)
    · have hf := px_in c4 hf
      refine lv_aload_n X.1 X.2.1 dX4_putTasks_22 rfl (lv_at hl 1 rfl) ?_
      refine gtC_43_7 X w dX4_putTasks_23 ?_
      refine lv_iload X.1 X.2.1 dX4_putTasks_26 (lv_at hl 0 rfl) ?_
      refine lv_iconst (v := (1 : Int32)) X.1 X.2.1 dX4_putTasks_28 (by decide) ?_
      obtain ⟨b5, hf⟩ := px_ck_e hf
      refine isC_51 X w b5 rfl dX4_putTasks_29 (fun H locs w => ?_)
      obtain ⟨M6, eM6, hf⟩ := px_bn_e hf
      rw [← eM6] at w
      refine lv_aload_n X.1 X.2.1 dX4_putTasks_30 rfl (lv_at hl 2 rfl) ?_
      refine lv_iconst (v := (1 : Int32)) X.1 X.2.1 dX4_putTasks_31 (by decide) ?_
      refine lv_aload_n X.1 X.2.1 dX4_putTasks_32 rfl (lv_at hl 1 rfl) ?_
      refine gtC_43_0 X w dX4_putTasks_33 ?_
      refine lv_iload X.1 X.2.1 dX4_putTasks_36 (lv_at hl 0 rfl) ?_
      obtain ⟨b7, hf⟩ := px_ck_e hf
      refine ilC_44 X w b7 dX4_putTasks_38 ?_
      refine lv_iconst (v := (0 : Int32)) X.1 X.2.1 dX4_putTasks_39 (by decide) ?_
      obtain ⟨M9, e8, hf⟩ := px_bq_e hf
      refine px_cV (As := [.int (1 : Int32), .int (M6 44 r3.toNatClampNeg), .int (0 : Int32)]) (rest := []) X hml hl w (cC_Line_put_12 l D cs ad e8) lk_4_59 (by decide) (rcC_12 X.2.2.2.2 w) rfl (Nat.le_of_ble_eq_true rfl) dX4_putTasks_40 (fun H locs w => ?_)
      refine lv_iinc (v := (y3 + (1 : Int32))) (lv' := [(3, .int (y3 + (1 : Int32))), (4, .int r3), (0, .ref (ad 43)), (2, .ref (ad 12)), (1, .int y1)]) X.1 X.2.1 dX4_putTasks_43 hl (k := 4) rfl rfl (by decide) rfl (fun ls hl => ?_)
      refine lv_goto (tgt := 2) X.1 X.2.1 dX4_putTasks_46 (by decide) ?_
      exact ih2 M9 y1 (y3 + (1 : Int32)) _ hf _ _ ls w (lv_sub hl [2, 3, 4, 0] rfl)
    · have hf := px_ip c4 hf
      cases hf
      exact px_retV X hr hlk w dX4_putTasks_21
def fC_Timers_putTasks (M : px_M) (p1 : Int32) : Option px_M := px_fx2 gC_Timers_putTasks_L2 13 M p1 (0 : Int32)
set_option maxHeartbeats 4000000 in
set_option maxRecDepth 100000 in
theorem cC_Timers_putTasks (l : Launch) (D : va_G) (cs : Nat → ClassId) (ad : Nat → Nat) {M : px_M} {p1 : Int32} {M' : px_M} (hf : fC_Timers_putTasks M p1 = some M') : px_mV l D (tyC cs) (wC cs ad) yX4_putTasks cX4_putTasks 5 2 [.ref (ad 43), .int p1, .ref (ad 12)] M M' := by
  refine px_ofV (by decide +kernel) (Nat.le_of_ble_eq_true rfl) ?_
  intro p e s m below meth c A ls X hr hlk hml w hl
  have hl : lv_has ls 5 [(0, .ref (ad 43)), (1, .int p1), (2, .ref (ad 12))] := hl
  unfold fC_Timers_putTasks at hf
  refine lv_iconst (v := (0 : Int32)) X.1 X.2.1 dX4_putTasks_0 (by decide) ?_
  refine lv_istore_n (lv' := [(3, .int (0 : Int32)), (0, .ref (ad 43)), (1, .int p1), (2, .ref (ad 12))]) X.1 X.2.1 dX4_putTasks_1 rfl hl (by decide) rfl (fun ls hl => ?_)
  exact lC_Timers_putTasks_L2 X hr hlk hml 13 M p1 (0 : Int32) _ hf _ _ ls w (lv_sub hl [1, 3, 2, 0] rfl)
