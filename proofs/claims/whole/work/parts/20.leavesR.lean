def fR_M_thrown (M : px_M) : Option Int32 := some (M 0 0)
set_option maxHeartbeats 4000000 in
set_option maxRecDepth 100000 in
theorem cR_M_thrown (l : Launch) (D : va_G) (cs : Nat → ClassId) (ad : Nat → Nat) {M : px_M} {r : Int32} (hf : fR_M_thrown M = some r) : px_mI l D (tyR cs) (wR cs ad) yX6_thrown cX6_thrown 1 (some .int) 0 [.ref (ad 0)] M r M := by
  refine px_ofI (by decide +kernel) (Nat.le_of_ble_eq_true rfl) ?_
  intro p e s m below meth c A ls X hr hlk hml w hl
  have hl : lv_has ls 1 [(0, .ref (ad 0))] := hl
  unfold fR_M_thrown at hf
  refine lv_aload_n X.1 X.2.1 dX6_thrown_0 rfl (lv_at hl 0 rfl) ?_
  refine gtR_0_0 X w dX6_thrown_1 ?_
  cases hf
  exact px_retI X hr hlk w dX6_thrown_4
def fR_M_outside (M : px_M) (p1 p2 p3 : Int32) : Option Int32 := (if p1 < p2 then some (1 : Int32) else (if p1 ≤ p3 then some (0 : Int32) else some (1 : Int32)))
set_option maxHeartbeats 4000000 in
set_option maxRecDepth 100000 in
theorem cR_M_outside (l : Launch) (D : va_G) (cs : Nat → ClassId) (ad : Nat → Nat) {M : px_M} {p1 p2 p3 : Int32} {r : Int32} (hf : fR_M_outside M p1 p2 p3 = some r) : px_mI l D (tyR cs) (wR cs ad) yX6_outside cX6_outside 4 (some .boolean) 0 [.ref (ad 0), .int p1, .int p2, .int p3] M r M := by
  refine px_ofI (by decide +kernel) (Nat.le_of_ble_eq_true rfl) ?_
  intro p e s m below meth c A ls X hr hlk hml w hl
  have hl : lv_has ls 4 [(0, .ref (ad 0)), (1, .int p1), (2, .int p2), (3, .int p3)] := hl
  unfold fR_M_outside at hf
  refine lv_iload_n X.1 X.2.1 dX6_outside_0 rfl (lv_at hl 1 rfl) ?_
  refine lv_iload_n X.1 X.2.1 dX6_outside_1 rfl (lv_at hl 2 rfl) ?_
  refine lv_icmp_lt (tgt := 10) X.1 X.2.1 dX6_outside_2 (by decide) (fun c1 => ?_) (fun c1 => ?_)
  · have hf := px_ip c1 hf
    refine lv_iconst (v := (1 : Int32)) X.1 X.2.1 dX6_outside_10 (by decide) ?_
    refine lv_goto (tgt := 15) X.1 X.2.1 dX6_outside_11 (by decide) ?_
    cases hf
    exact px_retZ X hr hlk narrow_b1 w dX6_outside_15
  · have hf := px_in c1 hf
    refine lv_iload_n X.1 X.2.1 dX6_outside_5 rfl (lv_at hl 1 rfl) ?_
    refine lv_iload_n X.1 X.2.1 dX6_outside_6 rfl (lv_at hl 3 rfl) ?_
    refine lv_icmp_le (tgt := 14) X.1 X.2.1 dX6_outside_7 (by decide) (fun c2 => ?_) (fun c2 => ?_)
    · have hf := px_ip c2 hf
      refine lv_iconst (v := (0 : Int32)) X.1 X.2.1 dX6_outside_14 (by decide) ?_
      cases hf
      exact px_retZ X hr hlk narrow_b0 w dX6_outside_15
    · have hf := px_in c2 hf
      refine lv_iconst (v := (1 : Int32)) X.1 X.2.1 dX6_outside_10 (by decide) ?_
      refine lv_goto (tgt := 15) X.1 X.2.1 dX6_outside_11 (by decide) ?_
      cases hf
      exact px_retZ X hr hlk narrow_b1 w dX6_outside_15
def fR_M_addTask (M : px_M) (p1 p2 p3 p4 : Int32) : Option px_M := px_ck (M 0 25) 4096 (px_bn (px_up M 20 (M 0 25).toNatClampNeg p1) (fun M2 => px_ck (M2 0 25) 4096 (px_bn (px_up M2 21 (M2 0 25).toNatClampNeg p2) (fun M4 => px_ck (M4 0 25) 4096 (px_bn (px_up M4 22 (M4 0 25).toNatClampNeg p3) (fun M6 => px_ck (M6 0 25) 4096 (px_bn (px_up M6 23 (M6 0 25).toNatClampNeg p4) (fun M8 => px_bn (px_up M8 0 25 ((M8 0 25) + (1 : Int32))) (fun M9 => some M9)))))))))
set_option maxHeartbeats 4000000 in
set_option maxRecDepth 100000 in
theorem cR_M_addTask (l : Launch) (D : va_G) (cs : Nat → ClassId) (ad : Nat → Nat) {M : px_M} {p1 p2 p3 p4 : Int32} {M' : px_M} (hf : fR_M_addTask M p1 p2 p3 p4 = some M') : px_mV l D (tyR cs) (wR cs ad) yX6_addTask cX6_addTask 5 0 [.ref (ad 0), .int p1, .int p2, .int p3, .int p4] M M' := by
  refine px_ofV (by decide +kernel) (Nat.le_of_ble_eq_true rfl) ?_
  intro p e s m below meth c A ls X hr hlk hml w hl
  have hl : lv_has ls 5 [(0, .ref (ad 0)), (1, .int p1), (2, .int p2), (3, .int p3), (4, .int p4)] := hl
  unfold fR_M_addTask at hf
  refine lv_aload_n X.1 X.2.1 dX6_addTask_0 rfl (lv_at hl 0 rfl) ?_
  refine gtR_0_26 X w dX6_addTask_1 ?_
  refine lv_aload_n X.1 X.2.1 dX6_addTask_4 rfl (lv_at hl 0 rfl) ?_
  refine gtR_0_25 X w dX6_addTask_5 ?_
  refine lv_iload_n X.1 X.2.1 dX6_addTask_8 rfl (lv_at hl 1 rfl) ?_
  obtain ⟨b1, hf⟩ := px_ck_e hf
  refine isR_20 X w b1 dX6_addTask_9 (fun H locs w => ?_)
  obtain ⟨M2, eM2, hf⟩ := px_bn_e hf
  rw [← eM2] at w
  refine lv_aload_n X.1 X.2.1 dX6_addTask_10 rfl (lv_at hl 0 rfl) ?_
  refine gtR_0_27 X w dX6_addTask_11 ?_
  refine lv_aload_n X.1 X.2.1 dX6_addTask_14 rfl (lv_at hl 0 rfl) ?_
  refine gtR_0_25 X w dX6_addTask_15 ?_
  refine lv_iload_n X.1 X.2.1 dX6_addTask_18 rfl (lv_at hl 2 rfl) ?_
  obtain ⟨b3, hf⟩ := px_ck_e hf
  refine isR_21 X w b3 dX6_addTask_19 (fun H locs w => ?_)
  obtain ⟨M4, eM4, hf⟩ := px_bn_e hf
  rw [← eM4] at w
  refine lv_aload_n X.1 X.2.1 dX6_addTask_20 rfl (lv_at hl 0 rfl) ?_
  refine gtR_0_28 X w dX6_addTask_21 ?_
  refine lv_aload_n X.1 X.2.1 dX6_addTask_24 rfl (lv_at hl 0 rfl) ?_
  refine gtR_0_25 X w dX6_addTask_25 ?_
  refine lv_iload_n X.1 X.2.1 dX6_addTask_28 rfl (lv_at hl 3 rfl) ?_
  obtain ⟨b5, hf⟩ := px_ck_e hf
  refine isR_22 X w b5 dX6_addTask_29 (fun H locs w => ?_)
  obtain ⟨M6, eM6, hf⟩ := px_bn_e hf
  rw [← eM6] at w
  refine lv_aload_n X.1 X.2.1 dX6_addTask_30 rfl (lv_at hl 0 rfl) ?_
  refine gtR_0_29 X w dX6_addTask_31 ?_
  refine lv_aload_n X.1 X.2.1 dX6_addTask_34 rfl (lv_at hl 0 rfl) ?_
  refine gtR_0_25 X w dX6_addTask_35 ?_
  refine lv_iload X.1 X.2.1 dX6_addTask_38 (lv_at hl 4 rfl) ?_
  obtain ⟨b7, hf⟩ := px_ck_e hf
  refine isR_23 X w b7 dX6_addTask_40 (fun H locs w => ?_)
  obtain ⟨M8, eM8, hf⟩ := px_bn_e hf
  rw [← eM8] at w
  refine lv_aload_n X.1 X.2.1 dX6_addTask_41 rfl (lv_at hl 0 rfl) ?_
  refine lv_dup X.1 X.2.1 dX6_addTask_42 rfl ?_
  refine gtR_0_25 X w dX6_addTask_43 ?_
  refine lv_iconst (v := (1 : Int32)) X.1 X.2.1 dX6_addTask_46 (by decide) ?_
  refine lv_iadd X.1 X.2.1 dX6_addTask_47 ?_
  refine ptR_0_25 X w dX6_addTask_48 (fun H locs w => ?_)
  obtain ⟨M9, eM9, hf⟩ := px_bn_e hf
  rw [← eM9] at w
  cases hf
  exact px_retV X hr hlk w dX6_addTask_51
def fR_M_addMicro (M : px_M) (p1 p2 p3 : Int32) : Option px_M := px_bn ((((M 0 20) + (M 0 21)) - ((M 0 20) + (M 0 21)) / (512 : Int32) * (512 : Int32))) (fun x1 => px_ck x1 512 (px_bn (px_up M 17 x1.toNatClampNeg p1) (fun M3 => px_ck x1 512 (px_bn (px_up M3 18 x1.toNatClampNeg p2) (fun M5 => px_ck x1 512 (px_bn (px_up M5 19 x1.toNatClampNeg p3) (fun M7 => px_bn (px_up M7 0 21 ((M7 0 21) + (1 : Int32))) (fun M8 => some M8))))))))
set_option maxHeartbeats 4000000 in
set_option maxRecDepth 100000 in
theorem cR_M_addMicro (l : Launch) (D : va_G) (cs : Nat → ClassId) (ad : Nat → Nat) {M : px_M} {p1 p2 p3 : Int32} {M' : px_M} (hf : fR_M_addMicro M p1 p2 p3 = some M') : px_mV l D (tyR cs) (wR cs ad) yX6_addMicro cX6_addMicro 5 0 [.ref (ad 0), .int p1, .int p2, .int p3] M M' := by
  refine px_ofV (by decide +kernel) (Nat.le_of_ble_eq_true rfl) ?_
  intro p e s m below meth c A ls X hr hlk hml w hl
  have hl : lv_has ls 5 [(0, .ref (ad 0)), (1, .int p1), (2, .int p2), (3, .int p3)] := hl
  unfold fR_M_addMicro at hf
  refine lv_aload_n X.1 X.2.1 dX6_addMicro_0 rfl (lv_at hl 0 rfl) ?_
  refine gtR_0_20 X w dX6_addMicro_1 ?_
  refine lv_aload_n X.1 X.2.1 dX6_addMicro_4 rfl (lv_at hl 0 rfl) ?_
  refine gtR_0_21 X w dX6_addMicro_5 ?_
  refine lv_iadd X.1 X.2.1 dX6_addMicro_8 ?_
  refine lv_sipush (v := (512 : Int32)) X.1 X.2.1 dX6_addMicro_9 (by decide) ?_
  refine lv_irem X.1 X.2.1 dX6_addMicro_12 (by decide) ?_
  obtain ⟨x1, ex1, hf⟩ := px_bn_e hf
  rw [← ex1]
  refine lv_istore (lv' := [(4, .int x1), (0, .ref (ad 0)), (1, .int p1), (2, .int p2), (3, .int p3)]) X.1 X.2.1 dX6_addMicro_13 hl (by decide) rfl (fun ls hl => ?_)
  refine lv_aload_n X.1 X.2.1 dX6_addMicro_15 rfl (lv_at hl 1 rfl) ?_
  refine gtR_0_22 X w dX6_addMicro_16 ?_
  refine lv_iload X.1 X.2.1 dX6_addMicro_19 (lv_at hl 0 rfl) ?_
  refine lv_iload_n X.1 X.2.1 dX6_addMicro_21 rfl (lv_at hl 2 rfl) ?_
  obtain ⟨b2, hf⟩ := px_ck_e hf
  refine isR_17 X w b2 dX6_addMicro_22 (fun H locs w => ?_)
  obtain ⟨M3, eM3, hf⟩ := px_bn_e hf
  rw [← eM3] at w
  refine lv_aload_n X.1 X.2.1 dX6_addMicro_23 rfl (lv_at hl 1 rfl) ?_
  refine gtR_0_23 X w dX6_addMicro_24 ?_
  refine lv_iload X.1 X.2.1 dX6_addMicro_27 (lv_at hl 0 rfl) ?_
  refine lv_iload_n X.1 X.2.1 dX6_addMicro_29 rfl (lv_at hl 3 rfl) ?_
  obtain ⟨b4, hf⟩ := px_ck_e hf
  refine isR_18 X w b4 dX6_addMicro_30 (fun H locs w => ?_)
  obtain ⟨M5, eM5, hf⟩ := px_bn_e hf
  rw [← eM5] at w
  refine lv_aload_n X.1 X.2.1 dX6_addMicro_31 rfl (lv_at hl 1 rfl) ?_
  refine gtR_0_24 X w dX6_addMicro_32 ?_
  refine lv_iload X.1 X.2.1 dX6_addMicro_35 (lv_at hl 0 rfl) ?_
  refine lv_iload_n X.1 X.2.1 dX6_addMicro_37 rfl (lv_at hl 4 rfl) ?_
  obtain ⟨b6, hf⟩ := px_ck_e hf
  refine isR_19 X w b6 dX6_addMicro_38 (fun H locs w => ?_)
  obtain ⟨M7, eM7, hf⟩ := px_bn_e hf
  rw [← eM7] at w
  refine lv_aload_n X.1 X.2.1 dX6_addMicro_39 rfl (lv_at hl 1 rfl) ?_
  refine lv_dup X.1 X.2.1 dX6_addMicro_40 rfl ?_
  refine gtR_0_21 X w dX6_addMicro_41 ?_
  refine lv_iconst (v := (1 : Int32)) X.1 X.2.1 dX6_addMicro_44 (by decide) ?_
  refine lv_iadd X.1 X.2.1 dX6_addMicro_45 ?_
  refine ptR_0_21 X w dX6_addMicro_46 (fun H locs w => ?_)
  obtain ⟨M8, eM8, hf⟩ := px_bn_e hf
  rw [← eM8] at w
  cases hf
  exact px_retV X hr hlk w dX6_addMicro_49
def fR_M_tell (M : px_M) (p1 p2 : Int32) : Option px_M := (if (200 : Int32) ≤ (M 0 50) then some M else px_ck (M 0 50) 200 (px_bn (px_up M 35 (M 0 50).toNatClampNeg (p2 + ((10000 : Int32) * p1))) (fun M3 => px_bn (px_up M3 0 50 ((M3 0 50) + (1 : Int32))) (fun M4 => some M4))))
set_option maxHeartbeats 4000000 in
set_option maxRecDepth 100000 in
theorem cR_M_tell (l : Launch) (D : va_G) (cs : Nat → ClassId) (ad : Nat → Nat) {M : px_M} {p1 p2 : Int32} {M' : px_M} (hf : fR_M_tell M p1 p2 = some M') : px_mV l D (tyR cs) (wR cs ad) yX6_tell cX6_tell 3 0 [.ref (ad 0), .int p1, .int p2] M M' := by
  refine px_ofV (by decide +kernel) (Nat.le_of_ble_eq_true rfl) ?_
  intro p e s m below meth c A ls X hr hlk hml w hl
  have hl : lv_has ls 3 [(0, .ref (ad 0)), (1, .int p1), (2, .int p2)] := hl
  unfold fR_M_tell at hf
  refine lv_aload_n X.1 X.2.1 dX6_tell_0 rfl (lv_at hl 0 rfl) ?_
  refine gtR_0_50 X w dX6_tell_1 ?_
  refine lv_sipush (v := (200 : Int32)) X.1 X.2.1 dX6_tell_4 (by decide) ?_
  refine lv_icmp_ge (tgt := 36) X.1 X.2.1 dX6_tell_7 (by decide) (fun c1 => ?_) (fun c1 => ?_)
  · have hf := px_ip c1 hf
    cases hf
    exact px_retV X hr hlk w dX6_tell_36
  · have hf := px_in c1 hf
    refine lv_aload_n X.1 X.2.1 dX6_tell_10 rfl (lv_at hl 0 rfl) ?_
    refine gtR_0_51 X w dX6_tell_11 ?_
    refine lv_aload_n X.1 X.2.1 dX6_tell_14 rfl (lv_at hl 0 rfl) ?_
    refine gtR_0_50 X w dX6_tell_15 ?_
    refine lv_iload_n X.1 X.2.1 dX6_tell_18 rfl (lv_at hl 2 rfl) ?_
    refine lv_sipush (v := (10000 : Int32)) X.1 X.2.1 dX6_tell_19 (by decide) ?_
    refine lv_iload_n X.1 X.2.1 dX6_tell_22 rfl (lv_at hl 1 rfl) ?_
    refine lv_imul X.1 X.2.1 dX6_tell_23 ?_
    refine lv_iadd X.1 X.2.1 dX6_tell_24 ?_
    obtain ⟨b2, hf⟩ := px_ck_e hf
    refine isR_35 X w b2 dX6_tell_25 (fun H locs w => ?_)
    obtain ⟨M3, eM3, hf⟩ := px_bn_e hf
    rw [← eM3] at w
    refine lv_aload_n X.1 X.2.1 dX6_tell_26 rfl (lv_at hl 0 rfl) ?_
    refine lv_dup X.1 X.2.1 dX6_tell_27 rfl ?_
    refine gtR_0_50 X w dX6_tell_28 ?_
    refine lv_iconst (v := (1 : Int32)) X.1 X.2.1 dX6_tell_31 (by decide) ?_
    refine lv_iadd X.1 X.2.1 dX6_tell_32 ?_
    refine ptR_0_50 X w dX6_tell_33 (fun H locs w => ?_)
    obtain ⟨M4, eM4, hf⟩ := px_bn_e hf
    rw [← eM4] at w
    cases hf
    exact px_retV X hr hlk w dX6_tell_36
def fR_M_makePromise (M : px_M) : Option (Int32 × px_M) := px_bn ((M 0 6)) (fun x1 => px_bn (px_up M 0 6 ((M 0 6) + (1 : Int32))) (fun M2 => some (x1, M2)))
set_option maxHeartbeats 4000000 in
set_option maxRecDepth 100000 in
theorem cR_M_makePromise (l : Launch) (D : va_G) (cs : Nat → ClassId) (ad : Nat → Nat) {M : px_M} {r : Int32} {M' : px_M} (hf : fR_M_makePromise M = some (r, M')) : px_mI l D (tyR cs) (wR cs ad) yX6_makePromise cX6_makePromise 2 (some .int) 0 [.ref (ad 0)] M r M' := by
  refine px_ofI (by decide +kernel) (Nat.le_of_ble_eq_true rfl) ?_
  intro p e s m below meth c A ls X hr hlk hml w hl
  have hl : lv_has ls 2 [(0, .ref (ad 0))] := hl
  unfold fR_M_makePromise at hf
  refine lv_aload_n X.1 X.2.1 dX6_makePromise_0 rfl (lv_at hl 0 rfl) ?_
  refine gtR_0_6 X w dX6_makePromise_1 ?_
  obtain ⟨x1, ex1, hf⟩ := px_bn_e hf
  rw [← ex1]
  refine lv_istore_n (lv' := [(1, .int x1), (0, .ref (ad 0))]) X.1 X.2.1 dX6_makePromise_4 rfl hl (by decide) rfl (fun ls hl => ?_)
  refine lv_aload_n X.1 X.2.1 dX6_makePromise_5 rfl (lv_at hl 1 rfl) ?_
  refine lv_dup X.1 X.2.1 dX6_makePromise_6 rfl ?_
  refine gtR_0_6 X w dX6_makePromise_7 ?_
  refine lv_iconst (v := (1 : Int32)) X.1 X.2.1 dX6_makePromise_10 (by decide) ?_
  refine lv_iadd X.1 X.2.1 dX6_makePromise_11 ?_
  refine ptR_0_6 X w dX6_makePromise_12 (fun H locs w => ?_)
  obtain ⟨M2, eM2, hf⟩ := px_bn_e hf
  rw [← eM2] at w
  refine lv_iload_n X.1 X.2.1 dX6_makePromise_15 rfl (lv_at hl 0 rfl) ?_
  cases hf
  exact px_retI X hr hlk w dX6_makePromise_16
def gR_M_timerAt_L2 (rc2 : px_M → Int32 → Int32 → Option Int32) (M : px_M) (y1 y2 : Int32) : Option Int32 := (if (M 0 32) ≤ y2 then some (-1 : Int32) else px_ck y2 12 ((if (M 24 y2.toNatClampNeg) = y1 then some y2 else rc2 M y1 (y2 + (1 : Int32)))))
set_option maxHeartbeats 4000000 in
set_option maxRecDepth 100000 in
theorem lR_M_timerAt_L2 {l : Launch} {D : va_G} {cs : Nat → ClassId} {ad : Nat → Nat} {p : Program} {e : Env} {s : State} {m : MethodId} {args : Array Value} {below : List Frame} {meth : Method} {c : Code} {A : Nat → Prop} (X : px_X D (tyR cs) p s m args c cX6_timerAt yX6_timerAt.cls) (hr : meth.sig.returnType = (some .int)) (hlk : meth.locks = false) (hml : c.maxLocals = 3) : ∀ (j : Nat) (M : px_M) (y1 y2 : Int32) (z : Int32), px_fx2 gR_M_timerAt_L2 j M y1 y2 = some z → ∀ (H : Heap) (locs : List Loc) (ls : Array Slot), px_H D (wR cs ad) A s.heap M H locs → lv_has ls 3 [(0, .ref (ad 0)), (1, .int y1), (2, .int y2)] → W p l e (px_rm 0) s m args below meth c H locs 0 0 (px_QI D (tyR cs) (wR cs ad) below args s A z M) (F0 m 2 ls []) := by
  refine px_fx2_i (P := fun M y1 y2 (z : Int32) => ∀ (H : Heap) (locs : List Loc) (ls : Array Slot), px_H D (wR cs ad) A s.heap M H locs → lv_has ls 3 [(0, .ref (ad 0)), (1, .int y1), (2, .int y2)] → W p l e (px_rm 0) s m args below meth c H locs 0 0 (px_QI D (tyR cs) (wR cs ad) below args s A z M) (F0 m 2 ls [])) ?_
  intro rc2 ih2 M y1 y2 z hf H locs ls w hl
  unfold gR_M_timerAt_L2 at hf
  refine lv_iload_n X.1 X.2.1 dX6_timerAt_2 rfl (lv_at hl 2 rfl) ?_
  refine lv_aload_n X.1 X.2.1 dX6_timerAt_3 rfl (lv_at hl 0 rfl) ?_
  refine gtR_0_32 X w dX6_timerAt_4 ?_
  refine lv_icmp_ge (tgt := 28) X.1 X.2.1 dX6_timerAt_7 (by decide) (fun c1 => ?_) (fun c1 => ?_)
  · have hf := px_ip c1 hf
    refine lv_iconst (v := (-1 : Int32)) X.1 X.2.1 dX6_timerAt_28 (by decide) ?_
    cases hf
    exact px_retI X hr hlk w dX6_timerAt_29
  · have hf := px_in c1 hf
    refine lv_aload_n X.1 X.2.1 dX6_timerAt_10 rfl (lv_at hl 0 rfl) ?_
    refine gtR_0_34 X w dX6_timerAt_11 ?_
    refine lv_iload_n X.1 X.2.1 dX6_timerAt_14 rfl (lv_at hl 2 rfl) ?_
    obtain ⟨b2, hf⟩ := px_ck_e hf
    refine ilR_24 X w b2 dX6_timerAt_15 ?_
    refine lv_iload_n X.1 X.2.1 dX6_timerAt_16 rfl (lv_at hl 1 rfl) ?_
    refine lv_icmp_ne (tgt := 22) X.1 X.2.1 dX6_timerAt_17 (by decide) (fun c3 => ?_) (fun c3 => ?_)
    · have hf := px_in c3 hf
      refine lv_iinc (v := (y2 + (1 : Int32))) (lv' := [(2, .int (y2 + (1 : Int32))), (0, .ref (ad 0)), (1, .int y1)]) X.1 X.2.1 dX6_timerAt_22 hl (k := 2) rfl rfl (by decide) rfl (fun ls hl => ?_)
      refine lv_goto (tgt := 2) X.1 X.2.1 dX6_timerAt_25 (by decide) ?_
      exact ih2 M y1 (y2 + (1 : Int32)) _ hf _ _ ls w (lv_sub hl [1, 2, 0] rfl)
    · have hf := px_ip c3 hf
      refine lv_iload_n X.1 X.2.1 dX6_timerAt_20 rfl (lv_at hl 2 rfl) ?_
      cases hf
      exact px_retI X hr hlk w dX6_timerAt_21
def fR_M_timerAt (M : px_M) (p1 : Int32) : Option Int32 := px_fx2 gR_M_timerAt_L2 13 M p1 (0 : Int32)
set_option maxHeartbeats 4000000 in
set_option maxRecDepth 100000 in
theorem cR_M_timerAt (l : Launch) (D : va_G) (cs : Nat → ClassId) (ad : Nat → Nat) {M : px_M} {p1 : Int32} {r : Int32} (hf : fR_M_timerAt M p1 = some r) : px_mI l D (tyR cs) (wR cs ad) yX6_timerAt cX6_timerAt 3 (some .int) 0 [.ref (ad 0), .int p1] M r M := by
  refine px_ofI (by decide +kernel) (Nat.le_of_ble_eq_true rfl) ?_
  intro p e s m below meth c A ls X hr hlk hml w hl
  have hl : lv_has ls 3 [(0, .ref (ad 0)), (1, .int p1)] := hl
  unfold fR_M_timerAt at hf
  refine lv_iconst (v := (0 : Int32)) X.1 X.2.1 dX6_timerAt_0 (by decide) ?_
  refine lv_istore_n (lv' := [(2, .int (0 : Int32)), (0, .ref (ad 0)), (1, .int p1)]) X.1 X.2.1 dX6_timerAt_1 rfl hl (by decide) rfl (fun ls hl => ?_)
  exact lR_M_timerAt_L2 X hr hlk hml 13 M p1 (0 : Int32) _ hf _ _ ls w (lv_sub hl [1, 2, 0] rfl)
def gR_M_dropTimer_L12 (rc12 : px_M → Int32 → Option px_M) (M : px_M) (y2 : Int32) : Option px_M := (if (M 0 32) ≤ y2 then some M else px_ck (y2 + (1 : Int32)) 12 (px_ck y2 12 (px_bn (px_up M 24 y2.toNatClampNeg (M 24 (y2 + (1 : Int32)).toNatClampNeg)) (fun M5 => px_ck (y2 + (1 : Int32)) 12 (px_ck y2 12 (px_bn (px_up M5 25 y2.toNatClampNeg (M5 25 (y2 + (1 : Int32)).toNatClampNeg)) (fun M8 => px_ck (y2 + (1 : Int32)) 12 (px_ck y2 12 (px_bn (px_up M8 26 y2.toNatClampNeg (M8 26 (y2 + (1 : Int32)).toNatClampNeg)) (fun M11 => px_ck (y2 + (1 : Int32)) 12 (px_ck y2 12 (px_bn (px_up M11 27 y2.toNatClampNeg (M11 27 (y2 + (1 : Int32)).toNatClampNeg)) (fun M14 => px_ck (y2 + (1 : Int32)) 12 (px_ck y2 12 (px_bn (px_up M14 28 y2.toNatClampNeg (M14 28 (y2 + (1 : Int32)).toNatClampNeg)) (fun M17 => px_ck (y2 + (1 : Int32)) 12 (px_ck y2 12 (px_bn (px_up M17 29 y2.toNatClampNeg (M17 29 (y2 + (1 : Int32)).toNatClampNeg)) (fun M20 => px_ck (y2 + (1 : Int32)) 12 (px_ck y2 12 (px_cb (M20 30 (y2 + (1 : Int32)).toNatClampNeg) (px_bn (px_up M20 30 y2.toNatClampNeg (M20 30 (y2 + (1 : Int32)).toNatClampNeg)) (fun M24 => px_ck (y2 + (1 : Int32)) 12 (px_ck y2 12 (px_cb (M24 31 (y2 + (1 : Int32)).toNatClampNeg) (px_bn (px_up M24 31 y2.toNatClampNeg (M24 31 (y2 + (1 : Int32)).toNatClampNeg)) (fun M28 => rc12 M28 (y2 + (1 : Int32)))))))))))))))))))))))))))))
set_option maxHeartbeats 4000000 in
set_option maxRecDepth 100000 in
theorem lR_M_dropTimer_L12 {l : Launch} {D : va_G} {cs : Nat → ClassId} {ad : Nat → Nat} {p : Program} {e : Env} {s : State} {m : MethodId} {args : Array Value} {below : List Frame} {meth : Method} {c : Code} {A : Nat → Prop} (X : px_X D (tyR cs) p s m args c cX6_dropTimer yX6_dropTimer.cls) (hr : meth.sig.returnType = none) (hlk : meth.locks = false) (hml : c.maxLocals = 3) : ∀ (j : Nat) (M : px_M) (y2 : Int32) (z : px_M), px_fx1 gR_M_dropTimer_L12 j M y2 = some z → ∀ (H : Heap) (locs : List Loc) (ls : Array Slot), px_H D (wR cs ad) A s.heap M H locs → lv_has ls 3 [(0, .ref (ad 0)), (2, .int y2)] → W p l e (px_rm 0) s m args below meth c H locs 0 0 (px_QV D (tyR cs) (wR cs ad) below args s A z) (F0 m 12 ls []) := by
  refine px_fx1_i (P := fun M y2 (z : px_M) => ∀ (H : Heap) (locs : List Loc) (ls : Array Slot), px_H D (wR cs ad) A s.heap M H locs → lv_has ls 3 [(0, .ref (ad 0)), (2, .int y2)] → W p l e (px_rm 0) s m args below meth c H locs 0 0 (px_QV D (tyR cs) (wR cs ad) below args s A z) (F0 m 12 ls [])) ?_
  intro rc12 ih12 M y2 z hf H locs ls w hl
  unfold gR_M_dropTimer_L12 at hf
  refine lv_iload_n X.1 X.2.1 dX6_dropTimer_12 rfl (lv_at hl 1 rfl) ?_
  refine lv_aload_n X.1 X.2.1 dX6_dropTimer_13 rfl (lv_at hl 0 rfl) ?_
  refine gtR_0_32 X w dX6_dropTimer_14 ?_
  refine lv_icmp_ge (tgt := 138) X.1 X.2.1 dX6_dropTimer_17 (by decide) (fun c2 => ?_) (fun c2 => ?_)
  · have hf := px_ip c2 hf
    cases hf
    exact px_retV X hr hlk w dX6_dropTimer_138
  · have hf := px_in c2 hf
    refine lv_aload_n X.1 X.2.1 dX6_dropTimer_20 rfl (lv_at hl 0 rfl) ?_
    refine gtR_0_34 X w dX6_dropTimer_21 ?_
    refine lv_iload_n X.1 X.2.1 dX6_dropTimer_24 rfl (lv_at hl 1 rfl) ?_
    refine lv_aload_n X.1 X.2.1 dX6_dropTimer_25 rfl (lv_at hl 0 rfl) ?_
    refine gtR_0_34 X w dX6_dropTimer_26 ?_
    refine lv_iload_n X.1 X.2.1 dX6_dropTimer_29 rfl (lv_at hl 1 rfl) ?_
    refine lv_iconst (v := (1 : Int32)) X.1 X.2.1 dX6_dropTimer_30 (by decide) ?_
    refine lv_iadd X.1 X.2.1 dX6_dropTimer_31 ?_
    obtain ⟨b3, hf⟩ := px_ck_e hf
    refine ilR_24 X w b3 dX6_dropTimer_32 ?_
    obtain ⟨b4, hf⟩ := px_ck_e hf
    refine isR_24 X w b4 dX6_dropTimer_33 (fun H locs w => ?_)
    obtain ⟨M5, eM5, hf⟩ := px_bn_e hf
    rw [← eM5] at w
    refine lv_aload_n X.1 X.2.1 dX6_dropTimer_34 rfl (lv_at hl 0 rfl) ?_
    refine gtR_0_35 X w dX6_dropTimer_35 ?_
    refine lv_iload_n X.1 X.2.1 dX6_dropTimer_38 rfl (lv_at hl 1 rfl) ?_
    refine lv_aload_n X.1 X.2.1 dX6_dropTimer_39 rfl (lv_at hl 0 rfl) ?_
    refine gtR_0_35 X w dX6_dropTimer_40 ?_
    refine lv_iload_n X.1 X.2.1 dX6_dropTimer_43 rfl (lv_at hl 1 rfl) ?_
    refine lv_iconst (v := (1 : Int32)) X.1 X.2.1 dX6_dropTimer_44 (by decide) ?_
    refine lv_iadd X.1 X.2.1 dX6_dropTimer_45 ?_
    obtain ⟨b6, hf⟩ := px_ck_e hf
    refine ilR_25 X w b6 dX6_dropTimer_46 ?_
    obtain ⟨b7, hf⟩ := px_ck_e hf
    refine isR_25 X w b7 dX6_dropTimer_47 (fun H locs w => ?_)
    obtain ⟨M8, eM8, hf⟩ := px_bn_e hf
    rw [← eM8] at w
    refine lv_aload_n X.1 X.2.1 dX6_dropTimer_48 rfl (lv_at hl 0 rfl) ?_
    refine gtR_0_36 X w dX6_dropTimer_49 ?_
    refine lv_iload_n X.1 X.2.1 dX6_dropTimer_52 rfl (lv_at hl 1 rfl) ?_
    refine lv_aload_n X.1 X.2.1 dX6_dropTimer_53 rfl (lv_at hl 0 rfl) ?_
    refine gtR_0_36 X w dX6_dropTimer_54 ?_
    refine lv_iload_n X.1 X.2.1 dX6_dropTimer_57 rfl (lv_at hl 1 rfl) ?_
    refine lv_iconst (v := (1 : Int32)) X.1 X.2.1 dX6_dropTimer_58 (by decide) ?_
    refine lv_iadd X.1 X.2.1 dX6_dropTimer_59 ?_
    obtain ⟨b9, hf⟩ := px_ck_e hf
    refine ilR_26 X w b9 dX6_dropTimer_60 ?_
    obtain ⟨b10, hf⟩ := px_ck_e hf
    refine isR_26 X w b10 dX6_dropTimer_61 (fun H locs w => ?_)
    obtain ⟨M11, eM11, hf⟩ := px_bn_e hf
    rw [← eM11] at w
    refine lv_aload_n X.1 X.2.1 dX6_dropTimer_62 rfl (lv_at hl 0 rfl) ?_
    refine gtR_0_37 X w dX6_dropTimer_63 ?_
    refine lv_iload_n X.1 X.2.1 dX6_dropTimer_66 rfl (lv_at hl 1 rfl) ?_
    refine lv_aload_n X.1 X.2.1 dX6_dropTimer_67 rfl (lv_at hl 0 rfl) ?_
    refine gtR_0_37 X w dX6_dropTimer_68 ?_
    refine lv_iload_n X.1 X.2.1 dX6_dropTimer_71 rfl (lv_at hl 1 rfl) ?_
    refine lv_iconst (v := (1 : Int32)) X.1 X.2.1 dX6_dropTimer_72 (by decide) ?_
    refine lv_iadd X.1 X.2.1 dX6_dropTimer_73 ?_
    obtain ⟨b12, hf⟩ := px_ck_e hf
    refine ilR_27 X w b12 dX6_dropTimer_74 ?_
    obtain ⟨b13, hf⟩ := px_ck_e hf
    refine isR_27 X w b13 dX6_dropTimer_75 (fun H locs w => ?_)
    obtain ⟨M14, eM14, hf⟩ := px_bn_e hf
    rw [← eM14] at w
    refine lv_aload_n X.1 X.2.1 dX6_dropTimer_76 rfl (lv_at hl 0 rfl) ?_
    refine gtR_0_38 X w dX6_dropTimer_77 ?_
    refine lv_iload_n X.1 X.2.1 dX6_dropTimer_80 rfl (lv_at hl 1 rfl) ?_
    refine lv_aload_n X.1 X.2.1 dX6_dropTimer_81 rfl (lv_at hl 0 rfl) ?_
    refine gtR_0_38 X w dX6_dropTimer_82 ?_
    refine lv_iload_n X.1 X.2.1 dX6_dropTimer_85 rfl (lv_at hl 1 rfl) ?_
    refine lv_iconst (v := (1 : Int32)) X.1 X.2.1 dX6_dropTimer_86 (by decide) ?_
    refine lv_iadd X.1 X.2.1 dX6_dropTimer_87 ?_
    obtain ⟨b15, hf⟩ := px_ck_e hf
    refine ilR_28 X w b15 dX6_dropTimer_88 ?_
    obtain ⟨b16, hf⟩ := px_ck_e hf
    refine isR_28 X w b16 dX6_dropTimer_89 (fun H locs w => ?_)
    obtain ⟨M17, eM17, hf⟩ := px_bn_e hf
    rw [← eM17] at w
    refine lv_aload_n X.1 X.2.1 dX6_dropTimer_90 rfl (lv_at hl 0 rfl) ?_
    refine gtR_0_39 X w dX6_dropTimer_91 ?_
    refine lv_iload_n X.1 X.2.1 dX6_dropTimer_94 rfl (lv_at hl 1 rfl) ?_
    refine lv_aload_n X.1 X.2.1 dX6_dropTimer_95 rfl (lv_at hl 0 rfl) ?_
    refine gtR_0_39 X w dX6_dropTimer_96 ?_
    refine lv_iload_n X.1 X.2.1 dX6_dropTimer_99 rfl (lv_at hl 1 rfl) ?_
    refine lv_iconst (v := (1 : Int32)) X.1 X.2.1 dX6_dropTimer_100 (by decide) ?_
    refine lv_iadd X.1 X.2.1 dX6_dropTimer_101 ?_
    obtain ⟨b18, hf⟩ := px_ck_e hf
    refine ilR_29 X w b18 dX6_dropTimer_102 ?_
    obtain ⟨b19, hf⟩ := px_ck_e hf
    refine isR_29 X w b19 dX6_dropTimer_103 (fun H locs w => ?_)
    obtain ⟨M20, eM20, hf⟩ := px_bn_e hf
    rw [← eM20] at w
    refine lv_aload_n X.1 X.2.1 dX6_dropTimer_104 rfl (lv_at hl 0 rfl) ?_
    refine gtR_0_40 X w dX6_dropTimer_105 ?_
    refine lv_iload_n X.1 X.2.1 dX6_dropTimer_108 rfl (lv_at hl 1 rfl) ?_
    refine lv_aload_n X.1 X.2.1 dX6_dropTimer_109 rfl (lv_at hl 0 rfl) ?_
    refine gtR_0_40 X w dX6_dropTimer_110 ?_
    refine lv_iload_n X.1 X.2.1 dX6_dropTimer_113 rfl (lv_at hl 1 rfl) ?_
    refine lv_iconst (v := (1 : Int32)) X.1 X.2.1 dX6_dropTimer_114 (by decide) ?_
    refine lv_iadd X.1 X.2.1 dX6_dropTimer_115 ?_
    obtain ⟨b21, hf⟩ := px_ck_e hf
    refine ilR_30 X w b21 dX6_dropTimer_116 ?_
    obtain ⟨b22, hf⟩ := px_ck_e hf
    obtain ⟨b23, hf⟩ := px_cb_e hf
    refine isR_30 X w b22 b23 dX6_dropTimer_117 (fun H locs w => ?_)
    obtain ⟨M24, eM24, hf⟩ := px_bn_e hf
    rw [← eM24] at w
    refine lv_aload_n X.1 X.2.1 dX6_dropTimer_118 rfl (lv_at hl 0 rfl) ?_
    refine gtR_0_41 X w dX6_dropTimer_119 ?_
    refine lv_iload_n X.1 X.2.1 dX6_dropTimer_122 rfl (lv_at hl 1 rfl) ?_
    refine lv_aload_n X.1 X.2.1 dX6_dropTimer_123 rfl (lv_at hl 0 rfl) ?_
    refine gtR_0_41 X w dX6_dropTimer_124 ?_
    refine lv_iload_n X.1 X.2.1 dX6_dropTimer_127 rfl (lv_at hl 1 rfl) ?_
    refine lv_iconst (v := (1 : Int32)) X.1 X.2.1 dX6_dropTimer_128 (by decide) ?_
    refine lv_iadd X.1 X.2.1 dX6_dropTimer_129 ?_
    obtain ⟨b25, hf⟩ := px_ck_e hf
    refine ilR_31 X w b25 dX6_dropTimer_130 ?_
    obtain ⟨b26, hf⟩ := px_ck_e hf
    obtain ⟨b27, hf⟩ := px_cb_e hf
    refine isR_31 X w b26 b27 dX6_dropTimer_131 (fun H locs w => ?_)
    obtain ⟨M28, eM28, hf⟩ := px_bn_e hf
    rw [← eM28] at w
    refine lv_iinc (v := (y2 + (1 : Int32))) (lv' := [(2, .int (y2 + (1 : Int32))), (0, .ref (ad 0))]) X.1 X.2.1 dX6_dropTimer_132 hl (k := 1) rfl rfl (by decide) rfl (fun ls hl => ?_)
    refine lv_goto (tgt := 12) X.1 X.2.1 dX6_dropTimer_135 (by decide) ?_
    exact ih12 M28 (y2 + (1 : Int32)) _ hf _ _ ls w (lv_sub hl [1, 0] rfl)
def fR_M_dropTimer (M : px_M) (p1 : Int32) : Option px_M := px_bn (px_up M 0 32 ((M 0 32) - (1 : Int32))) (fun M1 => px_fx1 gR_M_dropTimer_L12 13 M1 p1)
set_option maxHeartbeats 4000000 in
set_option maxRecDepth 100000 in
theorem cR_M_dropTimer (l : Launch) (D : va_G) (cs : Nat → ClassId) (ad : Nat → Nat) {M : px_M} {p1 : Int32} {M' : px_M} (hf : fR_M_dropTimer M p1 = some M') : px_mV l D (tyR cs) (wR cs ad) yX6_dropTimer cX6_dropTimer 3 0 [.ref (ad 0), .int p1] M M' := by
  refine px_ofV (by decide +kernel) (Nat.le_of_ble_eq_true rfl) ?_
  intro p e s m below meth c A ls X hr hlk hml w hl
  have hl : lv_has ls 3 [(0, .ref (ad 0)), (1, .int p1)] := hl
  unfold fR_M_dropTimer at hf
  refine lv_aload_n X.1 X.2.1 dX6_dropTimer_0 rfl (lv_at hl 0 rfl) ?_
  refine lv_dup X.1 X.2.1 dX6_dropTimer_1 rfl ?_
  refine gtR_0_32 X w dX6_dropTimer_2 ?_
  refine lv_iconst (v := (1 : Int32)) X.1 X.2.1 dX6_dropTimer_5 (by decide) ?_
  refine lv_isub X.1 X.2.1 dX6_dropTimer_6 ?_
  refine ptR_0_32 X w dX6_dropTimer_7 (fun H locs w => ?_)
  obtain ⟨M1, eM1, hf⟩ := px_bn_e hf
  rw [← eM1] at w
  refine lv_iload_n X.1 X.2.1 dX6_dropTimer_10 rfl (lv_at hl 1 rfl) ?_
  refine lv_istore_n (lv' := [(2, .int p1), (0, .ref (ad 0)), (1, .int p1)]) X.1 X.2.1 dX6_dropTimer_11 rfl hl (by decide) rfl (fun ls hl => ?_)
  exact lR_M_dropTimer_L12 X hr hlk hml 13 M1 p1 _ hf _ _ ls w (lv_sub hl [1, 0] rfl)
def fR_M_dueOf (M : px_M) (p1 : Int32) : Option Int32 := px_ck p1 12 ((if (M 28 p1.toNatClampNeg) ≤ (5 : Int32) then px_ck p1 12 (px_bn ((M 27 p1.toNatClampNeg)) (fun x4 => (if x4 = 0 then some ((M 0 31) + (1 : Int32)) else some ((M 0 31) + x4)))) else px_ck p1 12 ((if (4 : Int32) ≤ (M 27 p1.toNatClampNeg) then px_ck p1 12 (px_bn ((M 27 p1.toNatClampNeg)) (fun x9 => (if x9 = 0 then some ((M 0 31) + (1 : Int32)) else some ((M 0 31) + x9)))) else some ((M 0 31) + (4 : Int32))))))
set_option maxHeartbeats 4000000 in
set_option maxRecDepth 100000 in
theorem cR_M_dueOf (l : Launch) (D : va_G) (cs : Nat → ClassId) (ad : Nat → Nat) {M : px_M} {p1 : Int32} {r : Int32} (hf : fR_M_dueOf M p1 = some r) : px_mI l D (tyR cs) (wR cs ad) yX6_dueOf cX6_dueOf 3 (some .int) 0 [.ref (ad 0), .int p1] M r M := by
  refine px_ofI (by decide +kernel) (Nat.le_of_ble_eq_true rfl) ?_
  intro p e s m below meth c A ls X hr hlk hml w hl
  have hl : lv_has ls 3 [(0, .ref (ad 0)), (1, .int p1)] := hl
  unfold fR_M_dueOf at hf
  refine lv_aload_n X.1 X.2.1 dX6_dueOf_0 rfl (lv_at hl 0 rfl) ?_
  refine gtR_0_38 X w dX6_dueOf_1 ?_
  refine lv_iload_n X.1 X.2.1 dX6_dueOf_4 rfl (lv_at hl 1 rfl) ?_
  obtain ⟨b1, hf⟩ := px_ck_e hf
  refine ilR_28 X w b1 dX6_dueOf_5 ?_
  refine lv_iconst (v := (5 : Int32)) X.1 X.2.1 dX6_dueOf_6 (by decide) ?_
  refine lv_icmp_le (tgt := 24) X.1 X.2.1 dX6_dueOf_7 (by decide) (fun c2 => ?_) (fun c2 => ?_)
  · have hf := px_ip c2 hf
    refine lv_aload_n X.1 X.2.1 dX6_dueOf_24 rfl (lv_at hl 0 rfl) ?_
    refine gtR_0_37 X w dX6_dueOf_25 ?_
    refine lv_iload_n X.1 X.2.1 dX6_dueOf_28 rfl (lv_at hl 1 rfl) ?_
    obtain ⟨b3, hf⟩ := px_ck_e hf
    refine ilR_27 X w b3 dX6_dueOf_29 ?_
    obtain ⟨x4, ex4, hf⟩ := px_bn_e hf
    rw [← ex4]
    refine lv_istore_n (lv' := [(2, .int x4), (0, .ref (ad 0)), (1, .int p1)]) X.1 X.2.1 dX6_dueOf_30 rfl hl (by decide) rfl (fun ls hl => ?_)
    refine lv_aload_n X.1 X.2.1 dX6_dueOf_31 rfl (lv_at hl 1 rfl) ?_
    refine gtR_0_31 X w dX6_dueOf_32 ?_
    refine lv_iload_n X.1 X.2.1 dX6_dueOf_35 rfl (lv_at hl 0 rfl) ?_
    refine lv_if_ne (tgt := 43) X.1 X.2.1 dX6_dueOf_36 (by decide) (fun c5 => ?_) (fun c5 => ?_)
    · have hf := px_in c5 hf
      refine lv_iload_n X.1 X.2.1 dX6_dueOf_43 rfl (lv_at hl 0 rfl) ?_
      refine lv_iadd X.1 X.2.1 dX6_dueOf_44 ?_
      cases hf
      exact px_retI X hr hlk w dX6_dueOf_45
    · have hf := px_ip c5 hf
      refine lv_iconst (v := (1 : Int32)) X.1 X.2.1 dX6_dueOf_39 (by decide) ?_
      refine lv_goto (tgt := 44) X.1 X.2.1 dX6_dueOf_40 (by decide) ?_
      refine lv_iadd X.1 X.2.1 dX6_dueOf_44 ?_
      cases hf
      exact px_retI X hr hlk w dX6_dueOf_45
  · have hf := px_in c2 hf
    refine lv_aload_n X.1 X.2.1 dX6_dueOf_10 rfl (lv_at hl 0 rfl) ?_
    refine gtR_0_37 X w dX6_dueOf_11 ?_
    refine lv_iload_n X.1 X.2.1 dX6_dueOf_14 rfl (lv_at hl 1 rfl) ?_
    obtain ⟨b6, hf⟩ := px_ck_e hf
    refine ilR_27 X w b6 dX6_dueOf_15 ?_
    refine lv_iconst (v := (4 : Int32)) X.1 X.2.1 dX6_dueOf_16 (by decide) ?_
    refine lv_icmp_ge (tgt := 24) X.1 X.2.1 dX6_dueOf_17 (by decide) (fun c7 => ?_) (fun c7 => ?_)
    · have hf := px_ip c7 hf
      refine lv_aload_n X.1 X.2.1 dX6_dueOf_24 rfl (lv_at hl 0 rfl) ?_
      refine gtR_0_37 X w dX6_dueOf_25 ?_
      refine lv_iload_n X.1 X.2.1 dX6_dueOf_28 rfl (lv_at hl 1 rfl) ?_
      obtain ⟨b8, hf⟩ := px_ck_e hf
      refine ilR_27 X w b8 dX6_dueOf_29 ?_
      obtain ⟨x9, ex9, hf⟩ := px_bn_e hf
      rw [← ex9]
      refine lv_istore_n (lv' := [(2, .int x9), (0, .ref (ad 0)), (1, .int p1)]) X.1 X.2.1 dX6_dueOf_30 rfl hl (by decide) rfl (fun ls hl => ?_)
      refine lv_aload_n X.1 X.2.1 dX6_dueOf_31 rfl (lv_at hl 1 rfl) ?_
      refine gtR_0_31 X w dX6_dueOf_32 ?_
      refine lv_iload_n X.1 X.2.1 dX6_dueOf_35 rfl (lv_at hl 0 rfl) ?_
      refine lv_if_ne (tgt := 43) X.1 X.2.1 dX6_dueOf_36 (by decide) (fun c10 => ?_) (fun c10 => ?_)
      · have hf := px_in c10 hf
        refine lv_iload_n X.1 X.2.1 dX6_dueOf_43 rfl (lv_at hl 0 rfl) ?_
        refine lv_iadd X.1 X.2.1 dX6_dueOf_44 ?_
        cases hf
        exact px_retI X hr hlk w dX6_dueOf_45
      · have hf := px_ip c10 hf
        refine lv_iconst (v := (1 : Int32)) X.1 X.2.1 dX6_dueOf_39 (by decide) ?_
        refine lv_goto (tgt := 44) X.1 X.2.1 dX6_dueOf_40 (by decide) ?_
        refine lv_iadd X.1 X.2.1 dX6_dueOf_44 ?_
        cases hf
        exact px_retI X hr hlk w dX6_dueOf_45
    · have hf := px_in c7 hf
      refine lv_iconst (v := (4 : Int32)) X.1 X.2.1 dX6_dueOf_20 (by decide) ?_
      refine lv_goto (tgt := 30) X.1 X.2.1 dX6_dueOf_21 (by decide) ?_
      refine lv_istore_n (lv' := [(2, .int (4 : Int32)), (0, .ref (ad 0)), (1, .int p1)]) X.1 X.2.1 dX6_dueOf_30 rfl hl (by decide) rfl (fun ls hl => ?_)
      refine lv_aload_n X.1 X.2.1 dX6_dueOf_31 rfl (lv_at hl 1 rfl) ?_
      refine gtR_0_31 X w dX6_dueOf_32 ?_
      refine lv_iload_n X.1 X.2.1 dX6_dueOf_35 rfl (lv_at hl 0 rfl) ?_
      refine lv_if_ne (tgt := 43) X.1 X.2.1 dX6_dueOf_36 (by decide) (fun _ => ?_) (fun c => absurd c (by decide))
      refine lv_iload_n X.1 X.2.1 dX6_dueOf_43 rfl (lv_at hl 0 rfl) ?_
      refine lv_iadd X.1 X.2.1 dX6_dueOf_44 ?_
      cases hf
      exact px_retI X hr hlk w dX6_dueOf_45
theorem lk_6_199 : px_Lk RX6 199 yX6_dueOf cX6_dueOf 3 (some .int) 1 := ⟨px_tb (by decide +kernel) (by decide +kernel), px_tb (by decide +kernel) (by decide +kernel), px_tb (by decide +kernel) (by decide +kernel), px_tb (by decide +kernel) (by decide +kernel), px_tb (by decide +kernel) (by decide +kernel), by decide +kernel, by decide⟩
def fR_M_addTimer (M : px_M) (p1 p2 p3 p4 : Int32) : Option px_M := px_bn (px_up M 0 33 ((M 0 33) + (1 : Int32))) (fun M1 => px_ck (M1 0 32) 12 (px_bn (px_up M1 24 (M1 0 32).toNatClampNeg (M1 0 33)) (fun M3 => px_ck (M3 0 32) 12 (px_bn (px_up M3 25 (M3 0 32).toNatClampNeg p1) (fun M5 => px_ck (M5 0 32) 12 (px_bn (px_up M5 26 (M5 0 32).toNatClampNeg p2) (fun M7 => px_ck (M7 0 32) 12 (px_bn (px_up M7 27 (M7 0 32).toNatClampNeg p3) (fun M9 => px_ck (M9 0 32) 12 (px_bn (px_up M9 28 (M9 0 32).toNatClampNeg (M9 0 60)) (fun M11 => px_ck (M11 0 32) 12 (px_cb p4 (px_bn (px_up M11 30 (M11 0 32).toNatClampNeg p4) (fun M14 => px_ck (M14 0 32) 12 (px_bn (px_up M14 31 (M14 0 32).toNatClampNeg (0 : Int32)) (fun M16 => px_bq (fR_M_dueOf M16 (M16 0 32)) (fun r18 => px_ck (M16 0 32) 12 (px_bn (px_up M16 29 (M16 0 32).toNatClampNeg r18) (fun M20 => px_bn (px_up M20 0 32 ((M20 0 32) + (1 : Int32))) (fun M21 => some M21))))))))))))))))))))
set_option maxHeartbeats 4000000 in
set_option maxRecDepth 100000 in
theorem cR_M_addTimer (l : Launch) (D : va_G) (cs : Nat → ClassId) (ad : Nat → Nat) {M : px_M} {p1 p2 p3 p4 : Int32} {M' : px_M} (hf : fR_M_addTimer M p1 p2 p3 p4 = some M') : px_mV l D (tyR cs) (wR cs ad) yX6_addTimer cX6_addTimer 5 1 [.ref (ad 0), .int p1, .int p2, .int p3, .int p4] M M' := by
  refine px_ofV (by decide +kernel) (Nat.le_of_ble_eq_true rfl) ?_
  intro p e s m below meth c A ls X hr hlk hml w hl
  have hl : lv_has ls 5 [(0, .ref (ad 0)), (1, .int p1), (2, .int p2), (3, .int p3), (4, .int p4)] := hl
  unfold fR_M_addTimer at hf
  refine lv_aload_n X.1 X.2.1 dX6_addTimer_0 rfl (lv_at hl 0 rfl) ?_
  refine lv_dup X.1 X.2.1 dX6_addTimer_1 rfl ?_
  refine gtR_0_33 X w dX6_addTimer_2 ?_
  refine lv_iconst (v := (1 : Int32)) X.1 X.2.1 dX6_addTimer_5 (by decide) ?_
  refine lv_iadd X.1 X.2.1 dX6_addTimer_6 ?_
  refine ptR_0_33 X w dX6_addTimer_7 (fun H locs w => ?_)
  obtain ⟨M1, eM1, hf⟩ := px_bn_e hf
  rw [← eM1] at w
  refine lv_aload_n X.1 X.2.1 dX6_addTimer_10 rfl (lv_at hl 0 rfl) ?_
  refine gtR_0_34 X w dX6_addTimer_11 ?_
  refine lv_aload_n X.1 X.2.1 dX6_addTimer_14 rfl (lv_at hl 0 rfl) ?_
  refine gtR_0_32 X w dX6_addTimer_15 ?_
  refine lv_aload_n X.1 X.2.1 dX6_addTimer_18 rfl (lv_at hl 0 rfl) ?_
  refine gtR_0_33 X w dX6_addTimer_19 ?_
  obtain ⟨b2, hf⟩ := px_ck_e hf
  refine isR_24 X w b2 dX6_addTimer_22 (fun H locs w => ?_)
  obtain ⟨M3, eM3, hf⟩ := px_bn_e hf
  rw [← eM3] at w
  refine lv_aload_n X.1 X.2.1 dX6_addTimer_23 rfl (lv_at hl 0 rfl) ?_
  refine gtR_0_35 X w dX6_addTimer_24 ?_
  refine lv_aload_n X.1 X.2.1 dX6_addTimer_27 rfl (lv_at hl 0 rfl) ?_
  refine gtR_0_32 X w dX6_addTimer_28 ?_
  refine lv_iload_n X.1 X.2.1 dX6_addTimer_31 rfl (lv_at hl 1 rfl) ?_
  obtain ⟨b4, hf⟩ := px_ck_e hf
  refine isR_25 X w b4 dX6_addTimer_32 (fun H locs w => ?_)
  obtain ⟨M5, eM5, hf⟩ := px_bn_e hf
  rw [← eM5] at w
  refine lv_aload_n X.1 X.2.1 dX6_addTimer_33 rfl (lv_at hl 0 rfl) ?_
  refine gtR_0_36 X w dX6_addTimer_34 ?_
  refine lv_aload_n X.1 X.2.1 dX6_addTimer_37 rfl (lv_at hl 0 rfl) ?_
  refine gtR_0_32 X w dX6_addTimer_38 ?_
  refine lv_iload_n X.1 X.2.1 dX6_addTimer_41 rfl (lv_at hl 2 rfl) ?_
  obtain ⟨b6, hf⟩ := px_ck_e hf
  refine isR_26 X w b6 dX6_addTimer_42 (fun H locs w => ?_)
  obtain ⟨M7, eM7, hf⟩ := px_bn_e hf
  rw [← eM7] at w
  refine lv_aload_n X.1 X.2.1 dX6_addTimer_43 rfl (lv_at hl 0 rfl) ?_
  refine gtR_0_37 X w dX6_addTimer_44 ?_
  refine lv_aload_n X.1 X.2.1 dX6_addTimer_47 rfl (lv_at hl 0 rfl) ?_
  refine gtR_0_32 X w dX6_addTimer_48 ?_
  refine lv_iload_n X.1 X.2.1 dX6_addTimer_51 rfl (lv_at hl 3 rfl) ?_
  obtain ⟨b8, hf⟩ := px_ck_e hf
  refine isR_27 X w b8 dX6_addTimer_52 (fun H locs w => ?_)
  obtain ⟨M9, eM9, hf⟩ := px_bn_e hf
  rw [← eM9] at w
  refine lv_aload_n X.1 X.2.1 dX6_addTimer_53 rfl (lv_at hl 0 rfl) ?_
  refine gtR_0_38 X w dX6_addTimer_54 ?_
  refine lv_aload_n X.1 X.2.1 dX6_addTimer_57 rfl (lv_at hl 0 rfl) ?_
  refine gtR_0_32 X w dX6_addTimer_58 ?_
  refine lv_aload_n X.1 X.2.1 dX6_addTimer_61 rfl (lv_at hl 0 rfl) ?_
  refine gtR_0_60 X w dX6_addTimer_62 ?_
  obtain ⟨b10, hf⟩ := px_ck_e hf
  refine isR_28 X w b10 dX6_addTimer_65 (fun H locs w => ?_)
  obtain ⟨M11, eM11, hf⟩ := px_bn_e hf
  rw [← eM11] at w
  refine lv_aload_n X.1 X.2.1 dX6_addTimer_66 rfl (lv_at hl 0 rfl) ?_
  refine gtR_0_40 X w dX6_addTimer_67 ?_
  refine lv_aload_n X.1 X.2.1 dX6_addTimer_70 rfl (lv_at hl 0 rfl) ?_
  refine gtR_0_32 X w dX6_addTimer_71 ?_
  refine lv_iload X.1 X.2.1 dX6_addTimer_74 (lv_at hl 4 rfl) ?_
  obtain ⟨b12, hf⟩ := px_ck_e hf
  obtain ⟨b13, hf⟩ := px_cb_e hf
  refine isR_30 X w b12 b13 dX6_addTimer_76 (fun H locs w => ?_)
  obtain ⟨M14, eM14, hf⟩ := px_bn_e hf
  rw [← eM14] at w
  refine lv_aload_n X.1 X.2.1 dX6_addTimer_77 rfl (lv_at hl 0 rfl) ?_
  refine gtR_0_41 X w dX6_addTimer_78 ?_
  refine lv_aload_n X.1 X.2.1 dX6_addTimer_81 rfl (lv_at hl 0 rfl) ?_
  refine gtR_0_32 X w dX6_addTimer_82 ?_
  refine lv_iconst (v := (0 : Int32)) X.1 X.2.1 dX6_addTimer_85 (by decide) ?_
  obtain ⟨b15, hf⟩ := px_ck_e hf
  refine isR_31 X w b15 rfl dX6_addTimer_86 (fun H locs w => ?_)
  obtain ⟨M16, eM16, hf⟩ := px_bn_e hf
  rw [← eM16] at w
  refine lv_aload_n X.1 X.2.1 dX6_addTimer_87 rfl (lv_at hl 0 rfl) ?_
  refine gtR_0_39 X w dX6_addTimer_88 ?_
  refine lv_aload_n X.1 X.2.1 dX6_addTimer_91 rfl (lv_at hl 0 rfl) ?_
  refine gtR_0_32 X w dX6_addTimer_92 ?_
  refine lv_aload_n X.1 X.2.1 dX6_addTimer_95 rfl (lv_at hl 0 rfl) ?_
  refine lv_aload_n X.1 X.2.1 dX6_addTimer_96 rfl (lv_at hl 0 rfl) ?_
  refine gtR_0_32 X w dX6_addTimer_97 ?_
  obtain ⟨r18, e17, hf⟩ := px_bq_e hf
  refine px_cI (As := [.int (M16 0 32)]) (rest := [.int (M16 0 32), .ref (ad 29)]) X hml hl w (cR_M_dueOf l D cs ad e17) lk_6_199 (by decide) (rcR_0 X.2.2.2.2 w) rfl (Nat.le_of_ble_eq_true rfl) dX6_addTimer_100 (fun H locs w => ?_)
  obtain ⟨b19, hf⟩ := px_ck_e hf
  refine isR_29 X w b19 dX6_addTimer_103 (fun H locs w => ?_)
  obtain ⟨M20, eM20, hf⟩ := px_bn_e hf
  rw [← eM20] at w
  refine lv_aload_n X.1 X.2.1 dX6_addTimer_104 rfl (lv_at hl 0 rfl) ?_
  refine lv_dup X.1 X.2.1 dX6_addTimer_105 rfl ?_
  refine gtR_0_32 X w dX6_addTimer_106 ?_
  refine lv_iconst (v := (1 : Int32)) X.1 X.2.1 dX6_addTimer_109 (by decide) ?_
  refine lv_iadd X.1 X.2.1 dX6_addTimer_110 ?_
  refine ptR_0_32 X w dX6_addTimer_111 (fun H locs w => ?_)
  obtain ⟨M21, eM21, hf⟩ := px_bn_e hf
  rw [← eM21] at w
  cases hf
  exact px_retV X hr hlk w dX6_addTimer_114
def fR_M_fail (M : px_M) (p1 : Int32) : Option px_M := px_bn (px_up M 0 63 (1 : Int32)) (fun M1 => px_bn (px_up M1 0 64 p1) (fun M2 => some M2))
set_option maxHeartbeats 4000000 in
set_option maxRecDepth 100000 in
theorem cR_M_fail (l : Launch) (D : va_G) (cs : Nat → ClassId) (ad : Nat → Nat) {M : px_M} {p1 : Int32} {M' : px_M} (hf : fR_M_fail M p1 = some M') : px_mV l D (tyR cs) (wR cs ad) yX6_fail cX6_fail 2 0 [.ref (ad 0), .int p1] M M' := by
  refine px_ofV (by decide +kernel) (Nat.le_of_ble_eq_true rfl) ?_
  intro p e s m below meth c A ls X hr hlk hml w hl
  have hl : lv_has ls 2 [(0, .ref (ad 0)), (1, .int p1)] := hl
  unfold fR_M_fail at hf
  refine lv_aload_n X.1 X.2.1 dX6_fail_0 rfl (lv_at hl 0 rfl) ?_
  refine lv_iconst (v := (1 : Int32)) X.1 X.2.1 dX6_fail_1 (by decide) ?_
  refine ptR_0_63 X w rfl dX6_fail_2 (fun H locs w => ?_)
  obtain ⟨M1, eM1, hf⟩ := px_bn_e hf
  rw [← eM1] at w
  refine lv_aload_n X.1 X.2.1 dX6_fail_5 rfl (lv_at hl 0 rfl) ?_
  refine lv_iload_n X.1 X.2.1 dX6_fail_6 rfl (lv_at hl 1 rfl) ?_
  refine ptR_0_64 X w dX6_fail_7 (fun H locs w => ?_)
  obtain ⟨M2, eM2, hf⟩ := px_bn_e hf
  rw [← eM2] at w
  cases hf
  exact px_retV X hr hlk w dX6_fail_10
def fR_M_begin (M : px_M) (p1 p2 p3 p4 : Int32) : Option px_M := px_ck (M 0 52) 8 (px_bn (px_up M 36 (M 0 52).toNatClampNeg p1) (fun M2 => px_ck (M2 0 52) 8 (px_bn (px_up M2 37 (M2 0 52).toNatClampNeg p2) (fun M4 => px_ck (M4 0 52) 8 (px_bn (px_up M4 38 (M4 0 52).toNatClampNeg (0 : Int32)) (fun M6 => px_ck (M6 0 52) 8 (px_bn (px_up M6 39 (M6 0 52).toNatClampNeg (0 : Int32)) (fun M8 => px_ck (M8 0 52) 8 (px_bn (px_up M8 40 (M8 0 52).toNatClampNeg (0 : Int32)) (fun M10 => px_ck (M10 0 52) 8 (px_bn (px_up M10 41 (M10 0 52).toNatClampNeg p3) (fun M12 => px_ck (M12 0 52) 8 (px_bn (px_up M12 42 (M12 0 52).toNatClampNeg p4) (fun M14 => px_bn (px_up M14 0 52 ((M14 0 52) + (1 : Int32))) (fun M15 => some M15)))))))))))))))
set_option maxHeartbeats 4000000 in
set_option maxRecDepth 100000 in
theorem cR_M_begin (l : Launch) (D : va_G) (cs : Nat → ClassId) (ad : Nat → Nat) {M : px_M} {p1 p2 p3 p4 : Int32} {M' : px_M} (hf : fR_M_begin M p1 p2 p3 p4 = some M') : px_mV l D (tyR cs) (wR cs ad) yX6_begin cX6_begin 5 0 [.ref (ad 0), .int p1, .int p2, .int p3, .int p4] M M' := by
  refine px_ofV (by decide +kernel) (Nat.le_of_ble_eq_true rfl) ?_
  intro p e s m below meth c A ls X hr hlk hml w hl
  have hl : lv_has ls 5 [(0, .ref (ad 0)), (1, .int p1), (2, .int p2), (3, .int p3), (4, .int p4)] := hl
  unfold fR_M_begin at hf
  refine lv_aload_n X.1 X.2.1 dX6_begin_0 rfl (lv_at hl 0 rfl) ?_
  refine gtR_0_53 X w dX6_begin_1 ?_
  refine lv_aload_n X.1 X.2.1 dX6_begin_4 rfl (lv_at hl 0 rfl) ?_
  refine gtR_0_52 X w dX6_begin_5 ?_
  refine lv_iload_n X.1 X.2.1 dX6_begin_8 rfl (lv_at hl 1 rfl) ?_
  obtain ⟨b1, hf⟩ := px_ck_e hf
  refine isR_36 X w b1 dX6_begin_9 (fun H locs w => ?_)
  obtain ⟨M2, eM2, hf⟩ := px_bn_e hf
  rw [← eM2] at w
  refine lv_aload_n X.1 X.2.1 dX6_begin_10 rfl (lv_at hl 0 rfl) ?_
  refine gtR_0_54 X w dX6_begin_11 ?_
  refine lv_aload_n X.1 X.2.1 dX6_begin_14 rfl (lv_at hl 0 rfl) ?_
  refine gtR_0_52 X w dX6_begin_15 ?_
  refine lv_iload_n X.1 X.2.1 dX6_begin_18 rfl (lv_at hl 2 rfl) ?_
  obtain ⟨b3, hf⟩ := px_ck_e hf
  refine isR_37 X w b3 dX6_begin_19 (fun H locs w => ?_)
  obtain ⟨M4, eM4, hf⟩ := px_bn_e hf
  rw [← eM4] at w
  refine lv_aload_n X.1 X.2.1 dX6_begin_20 rfl (lv_at hl 0 rfl) ?_
  refine gtR_0_55 X w dX6_begin_21 ?_
  refine lv_aload_n X.1 X.2.1 dX6_begin_24 rfl (lv_at hl 0 rfl) ?_
  refine gtR_0_52 X w dX6_begin_25 ?_
  refine lv_iconst (v := (0 : Int32)) X.1 X.2.1 dX6_begin_28 (by decide) ?_
  obtain ⟨b5, hf⟩ := px_ck_e hf
  refine isR_38 X w b5 dX6_begin_29 (fun H locs w => ?_)
  obtain ⟨M6, eM6, hf⟩ := px_bn_e hf
  rw [← eM6] at w
  refine lv_aload_n X.1 X.2.1 dX6_begin_30 rfl (lv_at hl 0 rfl) ?_
  refine gtR_0_56 X w dX6_begin_31 ?_
  refine lv_aload_n X.1 X.2.1 dX6_begin_34 rfl (lv_at hl 0 rfl) ?_
  refine gtR_0_52 X w dX6_begin_35 ?_
  refine lv_iconst (v := (0 : Int32)) X.1 X.2.1 dX6_begin_38 (by decide) ?_
  obtain ⟨b7, hf⟩ := px_ck_e hf
  refine isR_39 X w b7 rfl dX6_begin_39 (fun H locs w => ?_)
  obtain ⟨M8, eM8, hf⟩ := px_bn_e hf
  rw [← eM8] at w
  refine lv_aload_n X.1 X.2.1 dX6_begin_40 rfl (lv_at hl 0 rfl) ?_
  refine gtR_0_57 X w dX6_begin_41 ?_
  refine lv_aload_n X.1 X.2.1 dX6_begin_44 rfl (lv_at hl 0 rfl) ?_
  refine gtR_0_52 X w dX6_begin_45 ?_
  refine lv_iconst (v := (0 : Int32)) X.1 X.2.1 dX6_begin_48 (by decide) ?_
  obtain ⟨b9, hf⟩ := px_ck_e hf
  refine isR_40 X w b9 dX6_begin_49 (fun H locs w => ?_)
  obtain ⟨M10, eM10, hf⟩ := px_bn_e hf
  rw [← eM10] at w
  refine lv_aload_n X.1 X.2.1 dX6_begin_50 rfl (lv_at hl 0 rfl) ?_
  refine gtR_0_58 X w dX6_begin_51 ?_
  refine lv_aload_n X.1 X.2.1 dX6_begin_54 rfl (lv_at hl 0 rfl) ?_
  refine gtR_0_52 X w dX6_begin_55 ?_
  refine lv_iload_n X.1 X.2.1 dX6_begin_58 rfl (lv_at hl 3 rfl) ?_
  obtain ⟨b11, hf⟩ := px_ck_e hf
  refine isR_41 X w b11 dX6_begin_59 (fun H locs w => ?_)
  obtain ⟨M12, eM12, hf⟩ := px_bn_e hf
  rw [← eM12] at w
  refine lv_aload_n X.1 X.2.1 dX6_begin_60 rfl (lv_at hl 0 rfl) ?_
  refine gtR_0_59 X w dX6_begin_61 ?_
  refine lv_aload_n X.1 X.2.1 dX6_begin_64 rfl (lv_at hl 0 rfl) ?_
  refine gtR_0_52 X w dX6_begin_65 ?_
  refine lv_iload X.1 X.2.1 dX6_begin_68 (lv_at hl 4 rfl) ?_
  obtain ⟨b13, hf⟩ := px_ck_e hf
  refine isR_42 X w b13 dX6_begin_70 (fun H locs w => ?_)
  obtain ⟨M14, eM14, hf⟩ := px_bn_e hf
  rw [← eM14] at w
  refine lv_aload_n X.1 X.2.1 dX6_begin_71 rfl (lv_at hl 0 rfl) ?_
  refine lv_dup X.1 X.2.1 dX6_begin_72 rfl ?_
  refine gtR_0_52 X w dX6_begin_73 ?_
  refine lv_iconst (v := (1 : Int32)) X.1 X.2.1 dX6_begin_76 (by decide) ?_
  refine lv_iadd X.1 X.2.1 dX6_begin_77 ?_
  refine ptR_0_52 X w dX6_begin_78 (fun H locs w => ?_)
  obtain ⟨M15, eM15, hf⟩ := px_bn_e hf
  rw [← eM15] at w
  cases hf
  exact px_retV X hr hlk w dX6_begin_81
theorem lk_6_219 : px_Lk RX6 219 yX6_fail cX6_fail 2 none 1 := ⟨px_tb (by decide +kernel) (by decide +kernel), px_tb (by decide +kernel) (by decide +kernel), px_tb (by decide +kernel) (by decide +kernel), px_tb (by decide +kernel) (by decide +kernel), px_tb (by decide +kernel) (by decide +kernel), by decide +kernel, by decide⟩
theorem lk_6_223 : px_Lk RX6 223 yX6_begin cX6_begin 5 none 4 := ⟨px_tb (by decide +kernel) (by decide +kernel), px_tb (by decide +kernel) (by decide +kernel), px_tb (by decide +kernel) (by decide +kernel), px_tb (by decide +kernel) (by decide +kernel), px_tb (by decide +kernel) (by decide +kernel), by decide +kernel, by decide⟩
def fR_M_nest (M : px_M) (p1 p2 p3 : Int32) : Option px_M := (if (M 0 52) = (6 : Int32) then px_bq (fR_M_fail M (-1 : Int32)) (fun M3 => some M3) else (if (M 0 61) = (30 : Int32) then px_bq (fR_M_fail M (-1 : Int32)) (fun M10 => some M10) else px_bn (px_up M 0 61 ((M 0 61) + (1 : Int32))) (fun M5 => px_ck ((M5 0 52) - (1 : Int32)) 8 (px_bq (fR_M_begin M5 p1 (M5 37 ((M5 0 52) - (1 : Int32)).toNatClampNeg) p2 p3) (fun M8 => some M8)))))
set_option maxHeartbeats 4000000 in
set_option maxRecDepth 100000 in
theorem cR_M_nest (l : Launch) (D : va_G) (cs : Nat → ClassId) (ad : Nat → Nat) {M : px_M} {p1 p2 p3 : Int32} {M' : px_M} (hf : fR_M_nest M p1 p2 p3 = some M') : px_mV l D (tyR cs) (wR cs ad) yX6_nest cX6_nest 4 1 [.ref (ad 0), .int p1, .int p2, .int p3] M M' := by
  refine px_ofV (by decide +kernel) (Nat.le_of_ble_eq_true rfl) ?_
  intro p e s m below meth c A ls X hr hlk hml w hl
  have hl : lv_has ls 4 [(0, .ref (ad 0)), (1, .int p1), (2, .int p2), (3, .int p3)] := hl
  unfold fR_M_nest at hf
  refine lv_aload_n X.1 X.2.1 dX6_nest_0 rfl (lv_at hl 0 rfl) ?_
  refine gtR_0_52 X w dX6_nest_1 ?_
  refine lv_bipush (v := (6 : Int32)) X.1 X.2.1 dX6_nest_4 (by decide) ?_
  refine lv_icmp_eq (tgt := 18) X.1 X.2.1 dX6_nest_6 (by decide) (fun c1 => ?_) (fun c1 => ?_)
  · have hf := px_ip c1 hf
    refine lv_aload_n X.1 X.2.1 dX6_nest_18 rfl (lv_at hl 0 rfl) ?_
    refine lv_iconst (v := (-1 : Int32)) X.1 X.2.1 dX6_nest_19 (by decide) ?_
    obtain ⟨M3, e2, hf⟩ := px_bq_e hf
    refine px_cV (As := [.int (-1 : Int32)]) (rest := []) X hml hl w (cR_M_fail l D cs ad e2) lk_6_219 (by decide) (rcR_0 X.2.2.2.2 w) rfl (Nat.le_of_ble_eq_true rfl) dX6_nest_20 (fun H locs w => ?_)
    cases hf
    exact px_retV X hr hlk w dX6_nest_23
  · have hf := px_in c1 hf
    refine lv_aload_n X.1 X.2.1 dX6_nest_9 rfl (lv_at hl 0 rfl) ?_
    refine gtR_0_61 X w dX6_nest_10 ?_
    refine lv_bipush (v := (30 : Int32)) X.1 X.2.1 dX6_nest_13 (by decide) ?_
    refine lv_icmp_ne (tgt := 24) X.1 X.2.1 dX6_nest_15 (by decide) (fun c4 => ?_) (fun c4 => ?_)
    · have hf := px_in c4 hf
      refine lv_aload_n X.1 X.2.1 dX6_nest_24 rfl (lv_at hl 0 rfl) ?_
      refine lv_dup X.1 X.2.1 dX6_nest_25 rfl ?_
      refine gtR_0_61 X w dX6_nest_26 ?_
      refine lv_iconst (v := (1 : Int32)) X.1 X.2.1 dX6_nest_29 (by decide) ?_
      refine lv_iadd X.1 X.2.1 dX6_nest_30 ?_
      refine ptR_0_61 X w dX6_nest_31 (fun H locs w => ?_)
      obtain ⟨M5, eM5, hf⟩ := px_bn_e hf
      rw [← eM5] at w
      refine lv_aload_n X.1 X.2.1 dX6_nest_34 rfl (lv_at hl 0 rfl) ?_
      refine lv_iload_n X.1 X.2.1 dX6_nest_35 rfl (lv_at hl 1 rfl) ?_
      refine lv_aload_n X.1 X.2.1 dX6_nest_36 rfl (lv_at hl 0 rfl) ?_
      refine gtR_0_54 X w dX6_nest_37 ?_
      refine lv_aload_n X.1 X.2.1 dX6_nest_40 rfl (lv_at hl 0 rfl) ?_
      refine gtR_0_52 X w dX6_nest_41 ?_
      refine lv_iconst (v := (1 : Int32)) X.1 X.2.1 dX6_nest_44 (by decide) ?_
      refine lv_isub X.1 X.2.1 dX6_nest_45 ?_
      obtain ⟨b6, hf⟩ := px_ck_e hf
      refine ilR_37 X w b6 dX6_nest_46 ?_
      refine lv_iload_n X.1 X.2.1 dX6_nest_47 rfl (lv_at hl 2 rfl) ?_
      refine lv_iload_n X.1 X.2.1 dX6_nest_48 rfl (lv_at hl 3 rfl) ?_
      obtain ⟨M8, e7, hf⟩ := px_bq_e hf
      refine px_cV (As := [.int p1, .int (M5 37 ((M5 0 52) - (1 : Int32)).toNatClampNeg), .int p2, .int p3]) (rest := []) X hml hl w (cR_M_begin l D cs ad e7) lk_6_223 (by decide) (rcR_0 X.2.2.2.2 w) rfl (Nat.le_of_ble_eq_true rfl) dX6_nest_49 (fun H locs w => ?_)
      cases hf
      exact px_retV X hr hlk w dX6_nest_52
    · have hf := px_ip c4 hf
      refine lv_aload_n X.1 X.2.1 dX6_nest_18 rfl (lv_at hl 0 rfl) ?_
      refine lv_iconst (v := (-1 : Int32)) X.1 X.2.1 dX6_nest_19 (by decide) ?_
      obtain ⟨M10, e9, hf⟩ := px_bq_e hf
      refine px_cV (As := [.int (-1 : Int32)]) (rest := []) X hml hl w (cR_M_fail l D cs ad e9) lk_6_219 (by decide) (rcR_0 X.2.2.2.2 w) rfl (Nat.le_of_ble_eq_true rfl) dX6_nest_20 (fun H locs w => ?_)
      cases hf
      exact px_retV X hr hlk w dX6_nest_23
def fR_M_answer (M : px_M) (p1 p2 p3 : Int32) : Option px_M := px_bn (((M 0 52) - (1 : Int32))) (fun x1 => (if p2 = (2 : Int32) then (if p2 = (2 : Int32) then px_ck p1 8 ((if (M 5 p1.toNatClampNeg) ≤ 0 then px_ck x1 8 (px_bn (px_up M 39 x1.toNatClampNeg (0 : Int32)) (fun M33 => (if p2 = (2 : Int32) then px_ck x1 8 (px_bn (px_up M33 40 x1.toNatClampNeg (0 : Int32)) (fun M41 => some M41)) else (if p2 = (1 : Int32) then px_ck x1 8 (px_bn (px_up M33 40 x1.toNatClampNeg p3) (fun M39 => some M39)) else px_ck x1 8 (px_bn (px_up M33 40 x1.toNatClampNeg p1) (fun M37 => some M37)))))) else px_ck x1 8 (px_bn (px_up M 39 x1.toNatClampNeg (1 : Int32)) (fun M43 => px_ck p1 8 (px_ck x1 8 (px_bn (px_up M43 40 x1.toNatClampNeg ((M43 5 p1.toNatClampNeg) - (1 : Int32))) (fun M46 => some M46))))))) else (if (M 5 (0 : Int32).toNatClampNeg) ≤ 0 then px_ck x1 8 (px_bn (px_up M 39 x1.toNatClampNeg (0 : Int32)) (fun M16 => (if p2 = (2 : Int32) then px_ck x1 8 (px_bn (px_up M16 40 x1.toNatClampNeg (0 : Int32)) (fun M24 => some M24)) else (if p2 = (1 : Int32) then px_ck x1 8 (px_bn (px_up M16 40 x1.toNatClampNeg p3) (fun M22 => some M22)) else px_ck x1 8 (px_bn (px_up M16 40 x1.toNatClampNeg p1) (fun M20 => some M20)))))) else px_ck x1 8 (px_bn (px_up M 39 x1.toNatClampNeg (1 : Int32)) (fun M26 => px_ck p1 8 (px_ck x1 8 (px_bn (px_up M26 40 x1.toNatClampNeg ((M26 5 p1.toNatClampNeg) - (1 : Int32))) (fun M29 => some M29))))))) else px_ck x1 8 (px_bn (px_up M 39 x1.toNatClampNeg (0 : Int32)) (fun M4 => (if p2 = (2 : Int32) then px_ck x1 8 (px_bn (px_up M4 40 x1.toNatClampNeg (0 : Int32)) (fun M12 => some M12)) else (if p2 = (1 : Int32) then px_ck x1 8 (px_bn (px_up M4 40 x1.toNatClampNeg p3) (fun M10 => some M10)) else px_ck x1 8 (px_bn (px_up M4 40 x1.toNatClampNeg p1) (fun M8 => some M8))))))))
set_option maxHeartbeats 4000000 in
set_option maxRecDepth 100000 in
theorem cR_M_answer (l : Launch) (D : va_G) (cs : Nat → ClassId) (ad : Nat → Nat) {M : px_M} {p1 p2 p3 : Int32} {M' : px_M} (hf : fR_M_answer M p1 p2 p3 = some M') : px_mV l D (tyR cs) (wR cs ad) yX6_answer cX6_answer 6 0 [.ref (ad 0), .int p1, .int p2, .int p3] M M' := by
  refine px_ofV (by decide +kernel) (Nat.le_of_ble_eq_true rfl) ?_
  intro p e s m below meth c A ls X hr hlk hml w hl
  have hl : lv_has ls 6 [(0, .ref (ad 0)), (1, .int p1), (2, .int p2), (3, .int p3)] := hl
  unfold fR_M_answer at hf
  refine lv_aload_n X.1 X.2.1 dX6_answer_0 rfl (lv_at hl 0 rfl) ?_
  refine gtR_0_52 X w dX6_answer_1 ?_
  refine lv_iconst (v := (1 : Int32)) X.1 X.2.1 dX6_answer_4 (by decide) ?_
  refine lv_isub X.1 X.2.1 dX6_answer_5 ?_
  obtain ⟨x1, ex1, hf⟩ := px_bn_e hf
  rw [← ex1]
  refine lv_istore (lv' := [(4, .int x1), (0, .ref (ad 0)), (1, .int p1), (2, .int p2), (3, .int p3)]) X.1 X.2.1 dX6_answer_6 hl (by decide) rfl (fun ls hl => ?_)
  refine lv_iload_n X.1 X.2.1 dX6_answer_8 rfl (lv_at hl 3 rfl) ?_
  refine lv_iconst (v := (2 : Int32)) X.1 X.2.1 dX6_answer_9 (by decide) ?_
  refine lv_icmp_ne (tgt := 35) X.1 X.2.1 dX6_answer_10 (by decide) (fun c2 => ?_) (fun c2 => ?_)
  · have hf := px_in c2 hf
    refine lv_iconst (v := (0 : Int32)) X.1 X.2.1 dX6_answer_35 (by decide) ?_
    refine lv_istore (lv' := [(5, .int (0 : Int32)), (4, .int x1), (0, .ref (ad 0)), (1, .int p1), (2, .int p2), (3, .int p3)]) X.1 X.2.1 dX6_answer_36 hl (by decide) rfl (fun ls hl => ?_)
    refine lv_aload_n X.1 X.2.1 dX6_answer_38 rfl (lv_at hl 2 rfl) ?_
    refine gtR_0_56 X w dX6_answer_39 ?_
    refine lv_iload X.1 X.2.1 dX6_answer_42 (lv_at hl 1 rfl) ?_
    refine lv_iload X.1 X.2.1 dX6_answer_44 (lv_at hl 0 rfl) ?_
    obtain ⟨b3, hf⟩ := px_ck_e hf
    refine isR_39 X w b3 rfl dX6_answer_46 (fun H locs w => ?_)
    obtain ⟨M4, eM4, hf⟩ := px_bn_e hf
    rw [← eM4] at w
    refine lv_aload_n X.1 X.2.1 dX6_answer_47 rfl (lv_at hl 2 rfl) ?_
    refine gtR_0_57 X w dX6_answer_48 ?_
    refine lv_iload X.1 X.2.1 dX6_answer_51 (lv_at hl 1 rfl) ?_
    refine lv_iload X.1 X.2.1 dX6_answer_53 (lv_at hl 0 rfl) ?_
    refine lv_if_eq (tgt := 69) X.1 X.2.1 dX6_answer_55 (by decide) (fun _ => ?_) (fun c => absurd c (by decide))
    refine lv_iload_n X.1 X.2.1 dX6_answer_69 rfl (lv_at hl 4 rfl) ?_
    refine lv_iconst (v := (2 : Int32)) X.1 X.2.1 dX6_answer_70 (by decide) ?_
    refine lv_icmp_ne (tgt := 78) X.1 X.2.1 dX6_answer_71 (by decide) (fun c5 => ?_) (fun c5 => ?_)
    · have hf := px_in c5 hf
      refine lv_iload_n X.1 X.2.1 dX6_answer_78 rfl (lv_at hl 4 rfl) ?_
      refine lv_iconst (v := (1 : Int32)) X.1 X.2.1 dX6_answer_79 (by decide) ?_
      refine lv_icmp_ne (tgt := 87) X.1 X.2.1 dX6_answer_80 (by decide) (fun c6 => ?_) (fun c6 => ?_)
      · have hf := px_in c6 hf
        refine lv_iload_n X.1 X.2.1 dX6_answer_87 rfl (lv_at hl 3 rfl) ?_
        obtain ⟨b7, hf⟩ := px_ck_e hf
        refine isR_40 X w b7 dX6_answer_88 (fun H locs w => ?_)
        obtain ⟨M8, eM8, hf⟩ := px_bn_e hf
        rw [← eM8] at w
        cases hf
        exact px_retV X hr hlk w dX6_answer_89
      · have hf := px_ip c6 hf
        refine lv_iload_n X.1 X.2.1 dX6_answer_83 rfl (lv_at hl 5 rfl) ?_
        refine lv_goto (tgt := 88) X.1 X.2.1 dX6_answer_84 (by decide) ?_
        obtain ⟨b9, hf⟩ := px_ck_e hf
        refine isR_40 X w b9 dX6_answer_88 (fun H locs w => ?_)
        obtain ⟨M10, eM10, hf⟩ := px_bn_e hf
        rw [← eM10] at w
        cases hf
        exact px_retV X hr hlk w dX6_answer_89
    · have hf := px_ip c5 hf
      refine lv_iconst (v := (0 : Int32)) X.1 X.2.1 dX6_answer_74 (by decide) ?_
      refine lv_goto (tgt := 88) X.1 X.2.1 dX6_answer_75 (by decide) ?_
      obtain ⟨b11, hf⟩ := px_ck_e hf
      refine isR_40 X w b11 dX6_answer_88 (fun H locs w => ?_)
      obtain ⟨M12, eM12, hf⟩ := px_bn_e hf
      rw [← eM12] at w
      cases hf
      exact px_retV X hr hlk w dX6_answer_89
  · have hf := px_ip c2 hf
    refine lv_aload_n X.1 X.2.1 dX6_answer_13 rfl (lv_at hl 1 rfl) ?_
    refine gtR_0_5 X w dX6_answer_14 ?_
    refine lv_iload_n X.1 X.2.1 dX6_answer_17 rfl (lv_at hl 3 rfl) ?_
    refine lv_iconst (v := (2 : Int32)) X.1 X.2.1 dX6_answer_18 (by decide) ?_
    refine lv_icmp_ne (tgt := 26) X.1 X.2.1 dX6_answer_19 (by decide) (fun c13 => ?_) (fun c13 => ?_)
    · have hf := px_in c13 hf
      refine lv_iconst (v := (0 : Int32)) X.1 X.2.1 dX6_answer_26 (by decide) ?_
      refine ilR_5 X w (by unfold vp_in; decide) dX6_answer_27 ?_
      refine lv_if_le (tgt := 35) X.1 X.2.1 dX6_answer_28 (by decide) (fun c14 => ?_) (fun c14 => ?_)
      · have hf := px_ip c14 hf
        refine lv_iconst (v := (0 : Int32)) X.1 X.2.1 dX6_answer_35 (by decide) ?_
        refine lv_istore (lv' := [(5, .int (0 : Int32)), (4, .int x1), (0, .ref (ad 0)), (1, .int p1), (2, .int p2), (3, .int p3)]) X.1 X.2.1 dX6_answer_36 hl (by decide) rfl (fun ls hl => ?_)
        refine lv_aload_n X.1 X.2.1 dX6_answer_38 rfl (lv_at hl 2 rfl) ?_
        refine gtR_0_56 X w dX6_answer_39 ?_
        refine lv_iload X.1 X.2.1 dX6_answer_42 (lv_at hl 1 rfl) ?_
        refine lv_iload X.1 X.2.1 dX6_answer_44 (lv_at hl 0 rfl) ?_
        obtain ⟨b15, hf⟩ := px_ck_e hf
        refine isR_39 X w b15 rfl dX6_answer_46 (fun H locs w => ?_)
        obtain ⟨M16, eM16, hf⟩ := px_bn_e hf
        rw [← eM16] at w
        refine lv_aload_n X.1 X.2.1 dX6_answer_47 rfl (lv_at hl 2 rfl) ?_
        refine gtR_0_57 X w dX6_answer_48 ?_
        refine lv_iload X.1 X.2.1 dX6_answer_51 (lv_at hl 1 rfl) ?_
        refine lv_iload X.1 X.2.1 dX6_answer_53 (lv_at hl 0 rfl) ?_
        refine lv_if_eq (tgt := 69) X.1 X.2.1 dX6_answer_55 (by decide) (fun _ => ?_) (fun c => absurd c (by decide))
        refine lv_iload_n X.1 X.2.1 dX6_answer_69 rfl (lv_at hl 4 rfl) ?_
        refine lv_iconst (v := (2 : Int32)) X.1 X.2.1 dX6_answer_70 (by decide) ?_
        refine lv_icmp_ne (tgt := 78) X.1 X.2.1 dX6_answer_71 (by decide) (fun c17 => ?_) (fun c17 => ?_)
        · have hf := px_in c17 hf
          refine lv_iload_n X.1 X.2.1 dX6_answer_78 rfl (lv_at hl 4 rfl) ?_
          refine lv_iconst (v := (1 : Int32)) X.1 X.2.1 dX6_answer_79 (by decide) ?_
          refine lv_icmp_ne (tgt := 87) X.1 X.2.1 dX6_answer_80 (by decide) (fun c18 => ?_) (fun c18 => ?_)
          · have hf := px_in c18 hf
            refine lv_iload_n X.1 X.2.1 dX6_answer_87 rfl (lv_at hl 3 rfl) ?_
            obtain ⟨b19, hf⟩ := px_ck_e hf
            refine isR_40 X w b19 dX6_answer_88 (fun H locs w => ?_)
            obtain ⟨M20, eM20, hf⟩ := px_bn_e hf
            rw [← eM20] at w
            cases hf
            exact px_retV X hr hlk w dX6_answer_89
          · have hf := px_ip c18 hf
            refine lv_iload_n X.1 X.2.1 dX6_answer_83 rfl (lv_at hl 5 rfl) ?_
            refine lv_goto (tgt := 88) X.1 X.2.1 dX6_answer_84 (by decide) ?_
            obtain ⟨b21, hf⟩ := px_ck_e hf
            refine isR_40 X w b21 dX6_answer_88 (fun H locs w => ?_)
            obtain ⟨M22, eM22, hf⟩ := px_bn_e hf
            rw [← eM22] at w
            cases hf
            exact px_retV X hr hlk w dX6_answer_89
        · have hf := px_ip c17 hf
          refine lv_iconst (v := (0 : Int32)) X.1 X.2.1 dX6_answer_74 (by decide) ?_
          refine lv_goto (tgt := 88) X.1 X.2.1 dX6_answer_75 (by decide) ?_
          obtain ⟨b23, hf⟩ := px_ck_e hf
          refine isR_40 X w b23 dX6_answer_88 (fun H locs w => ?_)
          obtain ⟨M24, eM24, hf⟩ := px_bn_e hf
          rw [← eM24] at w
          cases hf
          exact px_retV X hr hlk w dX6_answer_89
      · have hf := px_in c14 hf
        refine lv_iconst (v := (1 : Int32)) X.1 X.2.1 dX6_answer_31 (by decide) ?_
        refine lv_goto (tgt := 36) X.1 X.2.1 dX6_answer_32 (by decide) ?_
        refine lv_istore (lv' := [(5, .int (1 : Int32)), (4, .int x1), (0, .ref (ad 0)), (1, .int p1), (2, .int p2), (3, .int p3)]) X.1 X.2.1 dX6_answer_36 hl (by decide) rfl (fun ls hl => ?_)
        refine lv_aload_n X.1 X.2.1 dX6_answer_38 rfl (lv_at hl 2 rfl) ?_
        refine gtR_0_56 X w dX6_answer_39 ?_
        refine lv_iload X.1 X.2.1 dX6_answer_42 (lv_at hl 1 rfl) ?_
        refine lv_iload X.1 X.2.1 dX6_answer_44 (lv_at hl 0 rfl) ?_
        obtain ⟨b25, hf⟩ := px_ck_e hf
        refine isR_39 X w b25 rfl dX6_answer_46 (fun H locs w => ?_)
        obtain ⟨M26, eM26, hf⟩ := px_bn_e hf
        rw [← eM26] at w
        refine lv_aload_n X.1 X.2.1 dX6_answer_47 rfl (lv_at hl 2 rfl) ?_
        refine gtR_0_57 X w dX6_answer_48 ?_
        refine lv_iload X.1 X.2.1 dX6_answer_51 (lv_at hl 1 rfl) ?_
        refine lv_iload X.1 X.2.1 dX6_answer_53 (lv_at hl 0 rfl) ?_
        refine lv_if_eq (tgt := 69) X.1 X.2.1 dX6_answer_55 (by decide) (fun c => absurd c (by decide)) (fun _ => ?_)
        refine lv_aload_n X.1 X.2.1 dX6_answer_58 rfl (lv_at hl 2 rfl) ?_
        refine gtR_0_5 X w dX6_answer_59 ?_
        refine lv_iload_n X.1 X.2.1 dX6_answer_62 rfl (lv_at hl 3 rfl) ?_
        obtain ⟨b27, hf⟩ := px_ck_e hf
        refine ilR_5 X w b27 dX6_answer_63 ?_
        refine lv_iconst (v := (1 : Int32)) X.1 X.2.1 dX6_answer_64 (by decide) ?_
        refine lv_isub X.1 X.2.1 dX6_answer_65 ?_
        refine lv_goto (tgt := 88) X.1 X.2.1 dX6_answer_66 (by decide) ?_
        obtain ⟨b28, hf⟩ := px_ck_e hf
        refine isR_40 X w b28 dX6_answer_88 (fun H locs w => ?_)
        obtain ⟨M29, eM29, hf⟩ := px_bn_e hf
        rw [← eM29] at w
        cases hf
        exact px_retV X hr hlk w dX6_answer_89
    · have hf := px_ip c13 hf
      refine lv_iload_n X.1 X.2.1 dX6_answer_22 rfl (lv_at hl 2 rfl) ?_
      refine lv_goto (tgt := 27) X.1 X.2.1 dX6_answer_23 (by decide) ?_
      obtain ⟨b30, hf⟩ := px_ck_e hf
      refine ilR_5 X w b30 dX6_answer_27 ?_
      refine lv_if_le (tgt := 35) X.1 X.2.1 dX6_answer_28 (by decide) (fun c31 => ?_) (fun c31 => ?_)
      · have hf := px_ip c31 hf
        refine lv_iconst (v := (0 : Int32)) X.1 X.2.1 dX6_answer_35 (by decide) ?_
        refine lv_istore (lv' := [(5, .int (0 : Int32)), (4, .int x1), (0, .ref (ad 0)), (1, .int p1), (2, .int p2), (3, .int p3)]) X.1 X.2.1 dX6_answer_36 hl (by decide) rfl (fun ls hl => ?_)
        refine lv_aload_n X.1 X.2.1 dX6_answer_38 rfl (lv_at hl 2 rfl) ?_
        refine gtR_0_56 X w dX6_answer_39 ?_
        refine lv_iload X.1 X.2.1 dX6_answer_42 (lv_at hl 1 rfl) ?_
        refine lv_iload X.1 X.2.1 dX6_answer_44 (lv_at hl 0 rfl) ?_
        obtain ⟨b32, hf⟩ := px_ck_e hf
        refine isR_39 X w b32 rfl dX6_answer_46 (fun H locs w => ?_)
        obtain ⟨M33, eM33, hf⟩ := px_bn_e hf
        rw [← eM33] at w
        refine lv_aload_n X.1 X.2.1 dX6_answer_47 rfl (lv_at hl 2 rfl) ?_
        refine gtR_0_57 X w dX6_answer_48 ?_
        refine lv_iload X.1 X.2.1 dX6_answer_51 (lv_at hl 1 rfl) ?_
        refine lv_iload X.1 X.2.1 dX6_answer_53 (lv_at hl 0 rfl) ?_
        refine lv_if_eq (tgt := 69) X.1 X.2.1 dX6_answer_55 (by decide) (fun _ => ?_) (fun c => absurd c (by decide))
        refine lv_iload_n X.1 X.2.1 dX6_answer_69 rfl (lv_at hl 4 rfl) ?_
        refine lv_iconst (v := (2 : Int32)) X.1 X.2.1 dX6_answer_70 (by decide) ?_
        refine lv_icmp_ne (tgt := 78) X.1 X.2.1 dX6_answer_71 (by decide) (fun c34 => ?_) (fun c34 => ?_)
        · have hf := px_in c34 hf
          refine lv_iload_n X.1 X.2.1 dX6_answer_78 rfl (lv_at hl 4 rfl) ?_
          refine lv_iconst (v := (1 : Int32)) X.1 X.2.1 dX6_answer_79 (by decide) ?_
          refine lv_icmp_ne (tgt := 87) X.1 X.2.1 dX6_answer_80 (by decide) (fun c35 => ?_) (fun c35 => ?_)
          · have hf := px_in c35 hf
            refine lv_iload_n X.1 X.2.1 dX6_answer_87 rfl (lv_at hl 3 rfl) ?_
            obtain ⟨b36, hf⟩ := px_ck_e hf
            refine isR_40 X w b36 dX6_answer_88 (fun H locs w => ?_)
            obtain ⟨M37, eM37, hf⟩ := px_bn_e hf
            rw [← eM37] at w
            cases hf
            exact px_retV X hr hlk w dX6_answer_89
          · have hf := px_ip c35 hf
            refine lv_iload_n X.1 X.2.1 dX6_answer_83 rfl (lv_at hl 5 rfl) ?_
            refine lv_goto (tgt := 88) X.1 X.2.1 dX6_answer_84 (by decide) ?_
            obtain ⟨b38, hf⟩ := px_ck_e hf
            refine isR_40 X w b38 dX6_answer_88 (fun H locs w => ?_)
            obtain ⟨M39, eM39, hf⟩ := px_bn_e hf
            rw [← eM39] at w
            cases hf
            exact px_retV X hr hlk w dX6_answer_89
        · have hf := px_ip c34 hf
          refine lv_iconst (v := (0 : Int32)) X.1 X.2.1 dX6_answer_74 (by decide) ?_
          refine lv_goto (tgt := 88) X.1 X.2.1 dX6_answer_75 (by decide) ?_
          obtain ⟨b40, hf⟩ := px_ck_e hf
          refine isR_40 X w b40 dX6_answer_88 (fun H locs w => ?_)
          obtain ⟨M41, eM41, hf⟩ := px_bn_e hf
          rw [← eM41] at w
          cases hf
          exact px_retV X hr hlk w dX6_answer_89
      · have hf := px_in c31 hf
        refine lv_iconst (v := (1 : Int32)) X.1 X.2.1 dX6_answer_31 (by decide) ?_
        refine lv_goto (tgt := 36) X.1 X.2.1 dX6_answer_32 (by decide) ?_
        refine lv_istore (lv' := [(5, .int (1 : Int32)), (4, .int x1), (0, .ref (ad 0)), (1, .int p1), (2, .int p2), (3, .int p3)]) X.1 X.2.1 dX6_answer_36 hl (by decide) rfl (fun ls hl => ?_)
        refine lv_aload_n X.1 X.2.1 dX6_answer_38 rfl (lv_at hl 2 rfl) ?_
        refine gtR_0_56 X w dX6_answer_39 ?_
        refine lv_iload X.1 X.2.1 dX6_answer_42 (lv_at hl 1 rfl) ?_
        refine lv_iload X.1 X.2.1 dX6_answer_44 (lv_at hl 0 rfl) ?_
        obtain ⟨b42, hf⟩ := px_ck_e hf
        refine isR_39 X w b42 rfl dX6_answer_46 (fun H locs w => ?_)
        obtain ⟨M43, eM43, hf⟩ := px_bn_e hf
        rw [← eM43] at w
        refine lv_aload_n X.1 X.2.1 dX6_answer_47 rfl (lv_at hl 2 rfl) ?_
        refine gtR_0_57 X w dX6_answer_48 ?_
        refine lv_iload X.1 X.2.1 dX6_answer_51 (lv_at hl 1 rfl) ?_
        refine lv_iload X.1 X.2.1 dX6_answer_53 (lv_at hl 0 rfl) ?_
        refine lv_if_eq (tgt := 69) X.1 X.2.1 dX6_answer_55 (by decide) (fun c => absurd c (by decide)) (fun _ => ?_)
        refine lv_aload_n X.1 X.2.1 dX6_answer_58 rfl (lv_at hl 2 rfl) ?_
        refine gtR_0_5 X w dX6_answer_59 ?_
        refine lv_iload_n X.1 X.2.1 dX6_answer_62 rfl (lv_at hl 3 rfl) ?_
        obtain ⟨b44, hf⟩ := px_ck_e hf
        refine ilR_5 X w b44 dX6_answer_63 ?_
        refine lv_iconst (v := (1 : Int32)) X.1 X.2.1 dX6_answer_64 (by decide) ?_
        refine lv_isub X.1 X.2.1 dX6_answer_65 ?_
        refine lv_goto (tgt := 88) X.1 X.2.1 dX6_answer_66 (by decide) ?_
        obtain ⟨b45, hf⟩ := px_ck_e hf
        refine isR_40 X w b45 dX6_answer_88 (fun H locs w => ?_)
        obtain ⟨M46, eM46, hf⟩ := px_bn_e hf
        rw [← eM46] at w
        cases hf
        exact px_retV X hr hlk w dX6_answer_89
def fR_M_functionOf (M : px_M) (p1 : Int32) : Option Int32 := px_ck p1 100 ((if (M 13 p1.toNatClampNeg) = (-2 : Int32) then some (-1 : Int32) else px_ck p1 100 (px_ck (M 12 p1.toNatClampNeg) 40 ((if (M 6 (M 12 p1.toNatClampNeg).toNatClampNeg) = (1 : Int32) then px_ck p1 100 (some (M 13 p1.toNatClampNeg)) else px_ck p1 100 (some (M 14 p1.toNatClampNeg)))))))
set_option maxHeartbeats 4000000 in
set_option maxRecDepth 100000 in
theorem cR_M_functionOf (l : Launch) (D : va_G) (cs : Nat → ClassId) (ad : Nat → Nat) {M : px_M} {p1 : Int32} {r : Int32} (hf : fR_M_functionOf M p1 = some r) : px_mI l D (tyR cs) (wR cs ad) yX6_functionOf cX6_functionOf 2 (some .int) 0 [.ref (ad 0), .int p1] M r M := by
  refine px_ofI (by decide +kernel) (Nat.le_of_ble_eq_true rfl) ?_
  intro p e s m below meth c A ls X hr hlk hml w hl
  have hl : lv_has ls 2 [(0, .ref (ad 0)), (1, .int p1)] := hl
  unfold fR_M_functionOf at hf
  refine lv_aload_n X.1 X.2.1 dX6_functionOf_0 rfl (lv_at hl 0 rfl) ?_
  refine gtR_0_16 X w dX6_functionOf_1 ?_
  refine lv_iload_n X.1 X.2.1 dX6_functionOf_4 rfl (lv_at hl 1 rfl) ?_
  obtain ⟨b1, hf⟩ := px_ck_e hf
  refine ilR_13 X w b1 dX6_functionOf_5 ?_
  refine lv_bipush (v := (-2 : Int32)) X.1 X.2.1 dX6_functionOf_6 (by decide) ?_
  refine lv_icmp_ne (tgt := 15) X.1 X.2.1 dX6_functionOf_8 (by decide) (fun c2 => ?_) (fun c2 => ?_)
  · have hf := px_in c2 hf
    refine lv_aload_n X.1 X.2.1 dX6_functionOf_15 rfl (lv_at hl 0 rfl) ?_
    refine gtR_0_7 X w dX6_functionOf_16 ?_
    refine lv_aload_n X.1 X.2.1 dX6_functionOf_19 rfl (lv_at hl 0 rfl) ?_
    refine gtR_0_15 X w dX6_functionOf_20 ?_
    refine lv_iload_n X.1 X.2.1 dX6_functionOf_23 rfl (lv_at hl 1 rfl) ?_
    obtain ⟨b3, hf⟩ := px_ck_e hf
    refine ilR_12 X w b3 dX6_functionOf_24 ?_
    obtain ⟨b4, hf⟩ := px_ck_e hf
    refine ilR_6 X w b4 dX6_functionOf_25 ?_
    refine lv_iconst (v := (1 : Int32)) X.1 X.2.1 dX6_functionOf_26 (by decide) ?_
    refine lv_icmp_ne (tgt := 39) X.1 X.2.1 dX6_functionOf_27 (by decide) (fun c5 => ?_) (fun c5 => ?_)
    · have hf := px_in c5 hf
      refine lv_aload_n X.1 X.2.1 dX6_functionOf_39 rfl (lv_at hl 0 rfl) ?_
      refine gtR_0_17 X w dX6_functionOf_40 ?_
      refine lv_iload_n X.1 X.2.1 dX6_functionOf_43 rfl (lv_at hl 1 rfl) ?_
      obtain ⟨b6, hf⟩ := px_ck_e hf
      refine ilR_14 X w b6 dX6_functionOf_44 ?_
      cases hf
      exact px_retI X hr hlk w dX6_functionOf_45
    · have hf := px_ip c5 hf
      refine lv_aload_n X.1 X.2.1 dX6_functionOf_30 rfl (lv_at hl 0 rfl) ?_
      refine gtR_0_16 X w dX6_functionOf_31 ?_
      refine lv_iload_n X.1 X.2.1 dX6_functionOf_34 rfl (lv_at hl 1 rfl) ?_
      obtain ⟨b7, hf⟩ := px_ck_e hf
      refine ilR_13 X w b7 dX6_functionOf_35 ?_
      refine lv_goto (tgt := 45) X.1 X.2.1 dX6_functionOf_36 (by decide) ?_
      cases hf
      exact px_retI X hr hlk w dX6_functionOf_45
  · have hf := px_ip c2 hf
    refine lv_iconst (v := (-1 : Int32)) X.1 X.2.1 dX6_functionOf_11 (by decide) ?_
    refine lv_goto (tgt := 45) X.1 X.2.1 dX6_functionOf_12 (by decide) ?_
    cases hf
    exact px_retI X hr hlk w dX6_functionOf_45
theorem lk_6_176 : px_Lk RX6 176 yX6_addMicro cX6_addMicro 5 none 3 := ⟨px_tb (by decide +kernel) (by decide +kernel), px_tb (by decide +kernel) (by decide +kernel), px_tb (by decide +kernel) (by decide +kernel), px_tb (by decide +kernel) (by decide +kernel), px_tb (by decide +kernel) (by decide +kernel), by decide +kernel, by decide⟩
def gR_M_settle_L51 (rc51 : px_M → Int32 → Int32 → Option px_M) (M : px_M) (y1 y4 : Int32) : Option px_M := (if (M 0 14) ≤ y4 then some M else px_ck y4 100 ((if (M 12 y4.toNatClampNeg) = y1 then px_ck y4 100 ((if (M 16 y4.toNatClampNeg) = 0 then rc51 M y1 (y4 + (1 : Int32)) else px_ck y4 100 (px_bn (px_up M 16 y4.toNatClampNeg (0 : Int32)) (fun M12 => px_bq (fR_M_addMicro M12 (1 : Int32) y4 (0 : Int32)) (fun M14 => rc51 M14 y1 (y4 + (1 : Int32))))))) else rc51 M y1 (y4 + (1 : Int32)))))
set_option maxHeartbeats 4000000 in
set_option maxRecDepth 100000 in
theorem lR_M_settle_L51 {l : Launch} {D : va_G} {cs : Nat → ClassId} {ad : Nat → Nat} {p : Program} {e : Env} {s : State} {m : MethodId} {args : Array Value} {below : List Frame} {meth : Method} {c : Code} {A : Nat → Prop} (X : px_X D (tyR cs) p s m args c cX6_settle yX6_settle.cls) (hr : meth.sig.returnType = none) (hlk : meth.locks = false) (hml : c.maxLocals = 5) : ∀ (j : Nat) (M : px_M) (y1 y4 : Int32) (z : px_M), px_fx2 gR_M_settle_L51 j M y1 y4 = some z → ∀ (H : Heap) (locs : List Loc) (ls : Array Slot), px_H D (wR cs ad) A s.heap M H locs → lv_has ls 5 [(0, .ref (ad 0)), (1, .int y1), (4, .int y4)] → W p l e (px_rm 1) s m args below meth c H locs 0 0 (px_QV D (tyR cs) (wR cs ad) below args s A z) (F0 m 51 ls []) := by
  refine px_fx2_i (P := fun M y1 y4 (z : px_M) => ∀ (H : Heap) (locs : List Loc) (ls : Array Slot), px_H D (wR cs ad) A s.heap M H locs → lv_has ls 5 [(0, .ref (ad 0)), (1, .int y1), (4, .int y4)] → W p l e (px_rm 1) s m args below meth c H locs 0 0 (px_QV D (tyR cs) (wR cs ad) below args s A z) (F0 m 51 ls [])) ?_
  intro rc51 ih51 M y1 y4 z hf H locs ls w hl
  unfold gR_M_settle_L51 at hf
  refine lv_iload X.1 X.2.1 dX6_settle_51 (lv_at hl 2 rfl) ?_
  refine lv_aload_n X.1 X.2.1 dX6_settle_53 rfl (lv_at hl 0 rfl) ?_
  refine gtR_0_14 X w dX6_settle_54 ?_
  refine lv_icmp_ge (tgt := 103) X.1 X.2.1 dX6_settle_57 (by decide) (fun c6 => ?_) (fun c6 => ?_)
  · have hf := px_ip c6 hf
    cases hf
    exact px_retV X hr hlk w dX6_settle_103
  · have hf := px_in c6 hf
    refine lv_aload_n X.1 X.2.1 dX6_settle_60 rfl (lv_at hl 0 rfl) ?_
    refine gtR_0_15 X w dX6_settle_61 ?_
    refine lv_iload X.1 X.2.1 dX6_settle_64 (lv_at hl 2 rfl) ?_
    obtain ⟨b7, hf⟩ := px_ck_e hf
    refine ilR_12 X w b7 dX6_settle_66 ?_
    refine lv_iload_n X.1 X.2.1 dX6_settle_67 rfl (lv_at hl 1 rfl) ?_
    refine lv_icmp_ne (tgt := 97) X.1 X.2.1 dX6_settle_68 (by decide) (fun c8 => ?_) (fun c8 => ?_)
    · have hf := px_in c8 hf
      refine lv_iinc (v := (y4 + (1 : Int32))) (lv' := [(4, .int (y4 + (1 : Int32))), (0, .ref (ad 0)), (1, .int y1)]) X.1 X.2.1 dX6_settle_97 hl (k := 2) rfl rfl (by decide) rfl (fun ls hl => ?_)
      refine lv_goto (tgt := 51) X.1 X.2.1 dX6_settle_100 (by decide) ?_
      exact ih51 M y1 (y4 + (1 : Int32)) _ hf _ _ ls w (lv_sub hl [1, 2, 0] rfl)
    · have hf := px_ip c8 hf
      refine lv_aload_n X.1 X.2.1 dX6_settle_71 rfl (lv_at hl 0 rfl) ?_
      refine gtR_0_19 X w dX6_settle_72 ?_
      refine lv_iload X.1 X.2.1 dX6_settle_75 (lv_at hl 2 rfl) ?_
      obtain ⟨b9, hf⟩ := px_ck_e hf
      refine ilR_16 X w b9 dX6_settle_77 ?_
      refine lv_if_eq (tgt := 97) X.1 X.2.1 dX6_settle_78 (by decide) (fun c10 => ?_) (fun c10 => ?_)
      · have hf := px_ip c10 hf
        refine lv_iinc (v := (y4 + (1 : Int32))) (lv' := [(4, .int (y4 + (1 : Int32))), (0, .ref (ad 0)), (1, .int y1)]) X.1 X.2.1 dX6_settle_97 hl (k := 2) rfl rfl (by decide) rfl (fun ls hl => ?_)
        refine lv_goto (tgt := 51) X.1 X.2.1 dX6_settle_100 (by decide) ?_
        exact ih51 M y1 (y4 + (1 : Int32)) _ hf _ _ ls w (lv_sub hl [1, 2, 0] rfl)
      · have hf := px_in c10 hf
        refine lv_aload_n X.1 X.2.1 dX6_settle_81 rfl (lv_at hl 0 rfl) ?_
        refine gtR_0_19 X w dX6_settle_82 ?_
        refine lv_iload X.1 X.2.1 dX6_settle_85 (lv_at hl 2 rfl) ?_
        refine lv_iconst (v := (0 : Int32)) X.1 X.2.1 dX6_settle_87 (by decide) ?_
        obtain ⟨b11, hf⟩ := px_ck_e hf
        refine isR_16 X w b11 rfl dX6_settle_88 (fun H locs w => ?_)
        obtain ⟨M12, eM12, hf⟩ := px_bn_e hf
        rw [← eM12] at w
        refine lv_aload_n X.1 X.2.1 dX6_settle_89 rfl (lv_at hl 0 rfl) ?_
        refine lv_iconst (v := (1 : Int32)) X.1 X.2.1 dX6_settle_90 (by decide) ?_
        refine lv_iload X.1 X.2.1 dX6_settle_91 (lv_at hl 2 rfl) ?_
        refine lv_iconst (v := (0 : Int32)) X.1 X.2.1 dX6_settle_93 (by decide) ?_
        obtain ⟨M14, e13, hf⟩ := px_bq_e hf
        refine px_cV (As := [.int (1 : Int32), .int y4, .int (0 : Int32)]) (rest := []) X hml hl w (cR_M_addMicro l D cs ad e13) lk_6_176 (by decide) (rcR_0 X.2.2.2.2 w) rfl (Nat.le_of_ble_eq_true rfl) dX6_settle_94 (fun H locs w => ?_)
        refine lv_iinc (v := (y4 + (1 : Int32))) (lv' := [(4, .int (y4 + (1 : Int32))), (0, .ref (ad 0)), (1, .int y1)]) X.1 X.2.1 dX6_settle_97 hl (k := 2) rfl rfl (by decide) rfl (fun ls hl => ?_)
        refine lv_goto (tgt := 51) X.1 X.2.1 dX6_settle_100 (by decide) ?_
        exact ih51 M14 y1 (y4 + (1 : Int32)) _ hf _ _ ls w (lv_sub hl [1, 2, 0] rfl)
def fR_M_settle (M : px_M) (p1 p2 p3 : Int32) : Option px_M := px_ck p1 40 (px_bn (px_up M 6 p1.toNatClampNeg p2) (fun M2 => px_ck p1 40 (px_bn (px_up M2 7 p1.toNatClampNeg p3) (fun M4 => (if p2 = (2 : Int32) then px_ck p1 40 ((if (M4 9 p1.toNatClampNeg) = 0 then px_ck (M4 0 12) 40 (px_bn (px_up M4 11 (M4 0 12).toNatClampNeg p1) (fun M18 => px_bn (px_up M18 0 12 ((M18 0 12) + (1 : Int32))) (fun M19 => px_fx2 gR_M_settle_L51 101 M19 p1 (0 : Int32)))) else px_fx2 gR_M_settle_L51 101 M4 p1 (0 : Int32))) else px_fx2 gR_M_settle_L51 101 M4 p1 (0 : Int32))))))
set_option maxHeartbeats 4000000 in
set_option maxRecDepth 100000 in
theorem cR_M_settle (l : Launch) (D : va_G) (cs : Nat → ClassId) (ad : Nat → Nat) {M : px_M} {p1 p2 p3 : Int32} {M' : px_M} (hf : fR_M_settle M p1 p2 p3 = some M') : px_mV l D (tyR cs) (wR cs ad) yX6_settle cX6_settle 5 1 [.ref (ad 0), .int p1, .int p2, .int p3] M M' := by
  refine px_ofV (by decide +kernel) (Nat.le_of_ble_eq_true rfl) ?_
  intro p e s m below meth c A ls X hr hlk hml w hl
  have hl : lv_has ls 5 [(0, .ref (ad 0)), (1, .int p1), (2, .int p2), (3, .int p3)] := hl
  unfold fR_M_settle at hf
  refine lv_aload_n X.1 X.2.1 dX6_settle_0 rfl (lv_at hl 0 rfl) ?_
  refine gtR_0_7 X w dX6_settle_1 ?_
  refine lv_iload_n X.1 X.2.1 dX6_settle_4 rfl (lv_at hl 1 rfl) ?_
  refine lv_iload_n X.1 X.2.1 dX6_settle_5 rfl (lv_at hl 2 rfl) ?_
  obtain ⟨b1, hf⟩ := px_ck_e hf
  refine isR_6 X w b1 dX6_settle_6 (fun H locs w => ?_)
  obtain ⟨M2, eM2, hf⟩ := px_bn_e hf
  rw [← eM2] at w
  refine lv_aload_n X.1 X.2.1 dX6_settle_7 rfl (lv_at hl 0 rfl) ?_
  refine gtR_0_8 X w dX6_settle_8 ?_
  refine lv_iload_n X.1 X.2.1 dX6_settle_11 rfl (lv_at hl 1 rfl) ?_
  refine lv_iload_n X.1 X.2.1 dX6_settle_12 rfl (lv_at hl 3 rfl) ?_
  obtain ⟨b3, hf⟩ := px_ck_e hf
  refine isR_7 X w b3 dX6_settle_13 (fun H locs w => ?_)
  obtain ⟨M4, eM4, hf⟩ := px_bn_e hf
  rw [← eM4] at w
  refine lv_iload_n X.1 X.2.1 dX6_settle_14 rfl (lv_at hl 2 rfl) ?_
  refine lv_iconst (v := (2 : Int32)) X.1 X.2.1 dX6_settle_15 (by decide) ?_
  refine lv_icmp_ne (tgt := 48) X.1 X.2.1 dX6_settle_16 (by decide) (fun c5 => ?_) (fun c5 => ?_)
  · have hf := px_in c5 hf
    refine lv_iconst (v := (0 : Int32)) X.1 X.2.1 dX6_settle_48 (by decide) ?_
    refine lv_istore (lv' := [(4, .int (0 : Int32)), (0, .ref (ad 0)), (1, .int p1), (2, .int p2), (3, .int p3)]) X.1 X.2.1 dX6_settle_49 hl (by decide) rfl (fun ls hl => ?_)
    exact lR_M_settle_L51 X hr hlk hml 101 M4 p1 (0 : Int32) _ hf _ _ ls w (lv_sub hl [1, 2, 0] rfl)
  · have hf := px_ip c5 hf
    refine lv_aload_n X.1 X.2.1 dX6_settle_19 rfl (lv_at hl 0 rfl) ?_
    refine gtR_0_10 X w dX6_settle_20 ?_
    refine lv_iload_n X.1 X.2.1 dX6_settle_23 rfl (lv_at hl 1 rfl) ?_
    obtain ⟨b15, hf⟩ := px_ck_e hf
    refine ilR_9 X w b15 dX6_settle_24 ?_
    refine lv_if_ne (tgt := 48) X.1 X.2.1 dX6_settle_25 (by decide) (fun c16 => ?_) (fun c16 => ?_)
    · have hf := px_in c16 hf
      refine lv_iconst (v := (0 : Int32)) X.1 X.2.1 dX6_settle_48 (by decide) ?_
      refine lv_istore (lv' := [(4, .int (0 : Int32)), (0, .ref (ad 0)), (1, .int p1), (2, .int p2), (3, .int p3)]) X.1 X.2.1 dX6_settle_49 hl (by decide) rfl (fun ls hl => ?_)
      exact lR_M_settle_L51 X hr hlk hml 101 M4 p1 (0 : Int32) _ hf _ _ ls w (lv_sub hl [1, 2, 0] rfl)
    · have hf := px_ip c16 hf
      refine lv_aload_n X.1 X.2.1 dX6_settle_28 rfl (lv_at hl 0 rfl) ?_
      refine gtR_0_13 X w dX6_settle_29 ?_
      refine lv_aload_n X.1 X.2.1 dX6_settle_32 rfl (lv_at hl 0 rfl) ?_
      refine gtR_0_12 X w dX6_settle_33 ?_
      refine lv_iload_n X.1 X.2.1 dX6_settle_36 rfl (lv_at hl 1 rfl) ?_
      obtain ⟨b17, hf⟩ := px_ck_e hf
      refine isR_11 X w b17 dX6_settle_37 (fun H locs w => ?_)
      obtain ⟨M18, eM18, hf⟩ := px_bn_e hf
      rw [← eM18] at w
      refine lv_aload_n X.1 X.2.1 dX6_settle_38 rfl (lv_at hl 0 rfl) ?_
      refine lv_dup X.1 X.2.1 dX6_settle_39 rfl ?_
      refine gtR_0_12 X w dX6_settle_40 ?_
      refine lv_iconst (v := (1 : Int32)) X.1 X.2.1 dX6_settle_43 (by decide) ?_
      refine lv_iadd X.1 X.2.1 dX6_settle_44 ?_
      refine ptR_0_12 X w dX6_settle_45 (fun H locs w => ?_)
      obtain ⟨M19, eM19, hf⟩ := px_bn_e hf
      rw [← eM19] at w
      refine lv_iconst (v := (0 : Int32)) X.1 X.2.1 dX6_settle_48 (by decide) ?_
      refine lv_istore (lv' := [(4, .int (0 : Int32)), (0, .ref (ad 0)), (1, .int p1), (2, .int p2), (3, .int p3)]) X.1 X.2.1 dX6_settle_49 hl (by decide) rfl (fun ls hl => ?_)
      exact lR_M_settle_L51 X hr hlk hml 101 M19 p1 (0 : Int32) _ hf _ _ ls w (lv_sub hl [1, 2, 0] rfl)
theorem lk_6_180 : px_Lk RX6 180 yX6_settle cX6_settle 5 none 3 := ⟨px_tb (by decide +kernel) (by decide +kernel), px_tb (by decide +kernel) (by decide +kernel), px_tb (by decide +kernel) (by decide +kernel), px_tb (by decide +kernel) (by decide +kernel), px_tb (by decide +kernel) (by decide +kernel), by decide +kernel, by decide⟩
def fR_M_reject (M : px_M) (p1 p2 : Int32) : Option px_M := px_ck p1 40 ((if (M 8 p1.toNatClampNeg) = 0 then px_ck p1 40 (px_bn (px_up M 8 p1.toNatClampNeg (1 : Int32)) (fun M4 => px_bq (fR_M_settle M4 p1 (2 : Int32) p2) (fun M6 => some M6))) else some M))
set_option maxHeartbeats 4000000 in
set_option maxRecDepth 100000 in
theorem cR_M_reject (l : Launch) (D : va_G) (cs : Nat → ClassId) (ad : Nat → Nat) {M : px_M} {p1 p2 : Int32} {M' : px_M} (hf : fR_M_reject M p1 p2 = some M') : px_mV l D (tyR cs) (wR cs ad) yX6_reject cX6_reject 3 2 [.ref (ad 0), .int p1, .int p2] M M' := by
  refine px_ofV (by decide +kernel) (Nat.le_of_ble_eq_true rfl) ?_
  intro p e s m below meth c A ls X hr hlk hml w hl
  have hl : lv_has ls 3 [(0, .ref (ad 0)), (1, .int p1), (2, .int p2)] := hl
  unfold fR_M_reject at hf
  refine lv_aload_n X.1 X.2.1 dX6_reject_0 rfl (lv_at hl 0 rfl) ?_
  refine gtR_0_9 X w dX6_reject_1 ?_
  refine lv_iload_n X.1 X.2.1 dX6_reject_4 rfl (lv_at hl 1 rfl) ?_
  obtain ⟨b1, hf⟩ := px_ck_e hf
  refine ilR_8 X w b1 dX6_reject_5 ?_
  refine lv_if_ne (tgt := 23) X.1 X.2.1 dX6_reject_6 (by decide) (fun c2 => ?_) (fun c2 => ?_)
  · have hf := px_in c2 hf
    cases hf
    exact px_retV X hr hlk w dX6_reject_23
  · have hf := px_ip c2 hf
    refine lv_aload_n X.1 X.2.1 dX6_reject_9 rfl (lv_at hl 0 rfl) ?_
    refine gtR_0_9 X w dX6_reject_10 ?_
    refine lv_iload_n X.1 X.2.1 dX6_reject_13 rfl (lv_at hl 1 rfl) ?_
    refine lv_iconst (v := (1 : Int32)) X.1 X.2.1 dX6_reject_14 (by decide) ?_
    obtain ⟨b3, hf⟩ := px_ck_e hf
    refine isR_8 X w b3 rfl dX6_reject_15 (fun H locs w => ?_)
    obtain ⟨M4, eM4, hf⟩ := px_bn_e hf
    rw [← eM4] at w
    refine lv_aload_n X.1 X.2.1 dX6_reject_16 rfl (lv_at hl 0 rfl) ?_
    refine lv_iload_n X.1 X.2.1 dX6_reject_17 rfl (lv_at hl 1 rfl) ?_
    refine lv_iconst (v := (2 : Int32)) X.1 X.2.1 dX6_reject_18 (by decide) ?_
    refine lv_iload_n X.1 X.2.1 dX6_reject_19 rfl (lv_at hl 2 rfl) ?_
    obtain ⟨M6, e5, hf⟩ := px_bq_e hf
    refine px_cV (As := [.int p1, .int (2 : Int32), .int p2]) (rest := []) X hml hl w (cR_M_settle l D cs ad e5) lk_6_180 (by decide) (rcR_0 X.2.2.2.2 w) rfl (Nat.le_of_ble_eq_true rfl) dX6_reject_20 (fun H locs w => ?_)
    cases hf
    exact px_retV X hr hlk w dX6_reject_23
def fR_M_resolve (M : px_M) (p1 p2 p3 : Int32) : Option px_M := px_ck p1 40 ((if (M 8 p1.toNatClampNeg) = 0 then px_ck p1 40 (px_bn (px_up M 8 p1.toNatClampNeg (1 : Int32)) (fun M4 => (if p2 = 0 then px_bq (fR_M_settle M4 p1 (1 : Int32) p3) (fun M12 => some M12) else (if p3 = p1 then px_bq (fR_M_settle M4 p1 (2 : Int32) (-3 : Int32)) (fun M10 => some M10) else px_bq (fR_M_addMicro M4 (2 : Int32) p1 p3) (fun M8 => some M8))))) else some M))
set_option maxHeartbeats 4000000 in
set_option maxRecDepth 100000 in
theorem cR_M_resolve (l : Launch) (D : va_G) (cs : Nat → ClassId) (ad : Nat → Nat) {M : px_M} {p1 p2 p3 : Int32} {M' : px_M} (hf : fR_M_resolve M p1 p2 p3 = some M') : px_mV l D (tyR cs) (wR cs ad) yX6_resolve cX6_resolve 4 2 [.ref (ad 0), .int p1, .int p2, .int p3] M M' := by
  refine px_ofV (by decide +kernel) (Nat.le_of_ble_eq_true rfl) ?_
  intro p e s m below meth c A ls X hr hlk hml w hl
  have hl : lv_has ls 4 [(0, .ref (ad 0)), (1, .int p1), (2, .int p2), (3, .int p3)] := hl
  unfold fR_M_resolve at hf
  refine lv_aload_n X.1 X.2.1 dX6_resolve_0 rfl (lv_at hl 0 rfl) ?_
  refine gtR_0_9 X w dX6_resolve_1 ?_
  refine lv_iload_n X.1 X.2.1 dX6_resolve_4 rfl (lv_at hl 1 rfl) ?_
  obtain ⟨b1, hf⟩ := px_ck_e hf
  refine ilR_8 X w b1 dX6_resolve_5 ?_
  refine lv_if_eq (tgt := 10) X.1 X.2.1 dX6_resolve_6 (by decide) (fun c2 => ?_) (fun c2 => ?_)
  · have hf := px_ip c2 hf
    refine lv_aload_n X.1 X.2.1 dX6_resolve_10 rfl (lv_at hl 0 rfl) ?_
    refine gtR_0_9 X w dX6_resolve_11 ?_
    refine lv_iload_n X.1 X.2.1 dX6_resolve_14 rfl (lv_at hl 1 rfl) ?_
    refine lv_iconst (v := (1 : Int32)) X.1 X.2.1 dX6_resolve_15 (by decide) ?_
    obtain ⟨b3, hf⟩ := px_ck_e hf
    refine isR_8 X w b3 rfl dX6_resolve_16 (fun H locs w => ?_)
    obtain ⟨M4, eM4, hf⟩ := px_bn_e hf
    rw [← eM4] at w
    refine lv_iload_n X.1 X.2.1 dX6_resolve_17 rfl (lv_at hl 2 rfl) ?_
    refine lv_if_ne (tgt := 31) X.1 X.2.1 dX6_resolve_18 (by decide) (fun c5 => ?_) (fun c5 => ?_)
    · have hf := px_in c5 hf
      refine lv_iload_n X.1 X.2.1 dX6_resolve_31 rfl (lv_at hl 3 rfl) ?_
      refine lv_iload_n X.1 X.2.1 dX6_resolve_32 rfl (lv_at hl 1 rfl) ?_
      refine lv_icmp_ne (tgt := 47) X.1 X.2.1 dX6_resolve_33 (by decide) (fun c6 => ?_) (fun c6 => ?_)
      · have hf := px_in c6 hf
        refine lv_aload_n X.1 X.2.1 dX6_resolve_47 rfl (lv_at hl 0 rfl) ?_
        refine lv_iconst (v := (2 : Int32)) X.1 X.2.1 dX6_resolve_48 (by decide) ?_
        refine lv_iload_n X.1 X.2.1 dX6_resolve_49 rfl (lv_at hl 1 rfl) ?_
        refine lv_iload_n X.1 X.2.1 dX6_resolve_50 rfl (lv_at hl 3 rfl) ?_
        obtain ⟨M8, e7, hf⟩ := px_bq_e hf
        refine px_cV (As := [.int (2 : Int32), .int p1, .int p3]) (rest := []) X hml hl w (cR_M_addMicro l D cs ad e7) lk_6_176 (by decide) (rcR_0 X.2.2.2.2 w) rfl (Nat.le_of_ble_eq_true rfl) dX6_resolve_51 (fun H locs w => ?_)
        cases hf
        exact px_retV X hr hlk w dX6_resolve_54
      · have hf := px_ip c6 hf
        refine lv_aload_n X.1 X.2.1 dX6_resolve_36 rfl (lv_at hl 0 rfl) ?_
        refine lv_iload_n X.1 X.2.1 dX6_resolve_37 rfl (lv_at hl 1 rfl) ?_
        refine lv_iconst (v := (2 : Int32)) X.1 X.2.1 dX6_resolve_38 (by decide) ?_
        refine lv_bipush (v := (-3 : Int32)) X.1 X.2.1 dX6_resolve_39 (by decide) ?_
        obtain ⟨M10, e9, hf⟩ := px_bq_e hf
        refine px_cV (As := [.int p1, .int (2 : Int32), .int (-3 : Int32)]) (rest := []) X hml hl w (cR_M_settle l D cs ad e9) lk_6_180 (by decide) (rcR_0 X.2.2.2.2 w) rfl (Nat.le_of_ble_eq_true rfl) dX6_resolve_41 (fun H locs w => ?_)
        refine lv_goto (tgt := 54) X.1 X.2.1 dX6_resolve_44 (by decide) ?_
        cases hf
        exact px_retV X hr hlk w dX6_resolve_54
    · have hf := px_ip c5 hf
      refine lv_aload_n X.1 X.2.1 dX6_resolve_21 rfl (lv_at hl 0 rfl) ?_
      refine lv_iload_n X.1 X.2.1 dX6_resolve_22 rfl (lv_at hl 1 rfl) ?_
      refine lv_iconst (v := (1 : Int32)) X.1 X.2.1 dX6_resolve_23 (by decide) ?_
      refine lv_iload_n X.1 X.2.1 dX6_resolve_24 rfl (lv_at hl 3 rfl) ?_
      obtain ⟨M12, e11, hf⟩ := px_bq_e hf
      refine px_cV (As := [.int p1, .int (1 : Int32), .int p3]) (rest := []) X hml hl w (cR_M_settle l D cs ad e11) lk_6_180 (by decide) (rcR_0 X.2.2.2.2 w) rfl (Nat.le_of_ble_eq_true rfl) dX6_resolve_25 (fun H locs w => ?_)
      refine lv_goto (tgt := 54) X.1 X.2.1 dX6_resolve_28 (by decide) ?_
      cases hf
      exact px_retV X hr hlk w dX6_resolve_54
  · have hf := px_in c2 hf
    cases hf
    exact px_retV X hr hlk w dX6_resolve_9
theorem lk_6_183 : px_Lk RX6 183 yX6_tell cX6_tell 3 none 2 := ⟨px_tb (by decide +kernel) (by decide +kernel), px_tb (by decide +kernel) (by decide +kernel), px_tb (by decide +kernel) (by decide +kernel), px_tb (by decide +kernel) (by decide +kernel), px_tb (by decide +kernel) (by decide +kernel), by decide +kernel, by decide⟩
def fR_M_react (M : px_M) (p1 p2 p3 p4 : Int32) : Option px_M := px_ck p1 40 ((if (M 10 p1.toNatClampNeg) = 0 then px_ck p1 40 (px_bn (px_up M 9 p1.toNatClampNeg (1 : Int32)) (fun M4 => px_bn ((M4 0 14)) (fun x5 => px_bn (px_up M4 0 14 ((M4 0 14) + (1 : Int32))) (fun M6 => px_ck x5 100 (px_bn (px_up M6 12 x5.toNatClampNeg p1) (fun M8 => px_ck x5 100 (px_bn (px_up M8 13 x5.toNatClampNeg p2) (fun M10 => px_ck x5 100 (px_bn (px_up M10 14 x5.toNatClampNeg p3) (fun M12 => px_ck x5 100 (px_bn (px_up M12 15 x5.toNatClampNeg p4) (fun M14 => px_ck p1 40 ((if (M14 6 p1.toNatClampNeg) = 0 then px_ck x5 100 (px_bn (px_up M14 16 x5.toNatClampNeg (1 : Int32)) (fun M24 => px_ck x5 100 ((if (M24 16 x5.toNatClampNeg) = 0 then px_bq (fR_M_addMicro M24 (1 : Int32) x5 (0 : Int32)) (fun M28 => some M28) else some M24)))) else px_ck x5 100 (px_bn (px_up M14 16 x5.toNatClampNeg (0 : Int32)) (fun M18 => px_ck x5 100 ((if (M18 16 x5.toNatClampNeg) = 0 then px_bq (fR_M_addMicro M18 (1 : Int32) x5 (0 : Int32)) (fun M22 => some M22) else some M18)))))))))))))))))) else px_ck p1 40 ((if (M 9 p1.toNatClampNeg) = 0 then px_bq (fR_M_tell M (3 : Int32) p1) (fun M58 => px_ck p1 40 (px_bn (px_up M58 9 p1.toNatClampNeg (1 : Int32)) (fun M60 => px_bn ((M60 0 14)) (fun x61 => px_bn (px_up M60 0 14 ((M60 0 14) + (1 : Int32))) (fun M62 => px_ck x61 100 (px_bn (px_up M62 12 x61.toNatClampNeg p1) (fun M64 => px_ck x61 100 (px_bn (px_up M64 13 x61.toNatClampNeg p2) (fun M66 => px_ck x61 100 (px_bn (px_up M66 14 x61.toNatClampNeg p3) (fun M68 => px_ck x61 100 (px_bn (px_up M68 15 x61.toNatClampNeg p4) (fun M70 => px_ck p1 40 ((if (M70 6 p1.toNatClampNeg) = 0 then px_ck x61 100 (px_bn (px_up M70 16 x61.toNatClampNeg (1 : Int32)) (fun M80 => px_ck x61 100 ((if (M80 16 x61.toNatClampNeg) = 0 then px_bq (fR_M_addMicro M80 (1 : Int32) x61 (0 : Int32)) (fun M84 => some M84) else some M80)))) else px_ck x61 100 (px_bn (px_up M70 16 x61.toNatClampNeg (0 : Int32)) (fun M74 => px_ck x61 100 ((if (M74 16 x61.toNatClampNeg) = 0 then px_bq (fR_M_addMicro M74 (1 : Int32) x61 (0 : Int32)) (fun M78 => some M78) else some M74))))))))))))))))))) else px_ck p1 40 (px_bn (px_up M 9 p1.toNatClampNeg (1 : Int32)) (fun M32 => px_bn ((M32 0 14)) (fun x33 => px_bn (px_up M32 0 14 ((M32 0 14) + (1 : Int32))) (fun M34 => px_ck x33 100 (px_bn (px_up M34 12 x33.toNatClampNeg p1) (fun M36 => px_ck x33 100 (px_bn (px_up M36 13 x33.toNatClampNeg p2) (fun M38 => px_ck x33 100 (px_bn (px_up M38 14 x33.toNatClampNeg p3) (fun M40 => px_ck x33 100 (px_bn (px_up M40 15 x33.toNatClampNeg p4) (fun M42 => px_ck p1 40 ((if (M42 6 p1.toNatClampNeg) = 0 then px_ck x33 100 (px_bn (px_up M42 16 x33.toNatClampNeg (1 : Int32)) (fun M52 => px_ck x33 100 ((if (M52 16 x33.toNatClampNeg) = 0 then px_bq (fR_M_addMicro M52 (1 : Int32) x33 (0 : Int32)) (fun M56 => some M56) else some M52)))) else px_ck x33 100 (px_bn (px_up M42 16 x33.toNatClampNeg (0 : Int32)) (fun M46 => px_ck x33 100 ((if (M46 16 x33.toNatClampNeg) = 0 then px_bq (fR_M_addMicro M46 (1 : Int32) x33 (0 : Int32)) (fun M50 => some M50) else some M46))))))))))))))))))))))
set_option maxHeartbeats 4000000 in
set_option maxRecDepth 100000 in
theorem cR_M_react (l : Launch) (D : va_G) (cs : Nat → ClassId) (ad : Nat → Nat) {M : px_M} {p1 p2 p3 p4 : Int32} {M' : px_M} (hf : fR_M_react M p1 p2 p3 p4 = some M') : px_mV l D (tyR cs) (wR cs ad) yX6_react cX6_react 6 1 [.ref (ad 0), .int p1, .int p2, .int p3, .int p4] M M' := by
  refine px_ofV (by decide +kernel) (Nat.le_of_ble_eq_true rfl) ?_
  intro p e s m below meth c A ls X hr hlk hml w hl
  have hl : lv_has ls 6 [(0, .ref (ad 0)), (1, .int p1), (2, .int p2), (3, .int p3), (4, .int p4)] := hl
  unfold fR_M_react at hf
  refine lv_aload_n X.1 X.2.1 dX6_react_0 rfl (lv_at hl 0 rfl) ?_
  refine gtR_0_11 X w dX6_react_1 ?_
  refine lv_iload_n X.1 X.2.1 dX6_react_4 rfl (lv_at hl 1 rfl) ?_
  obtain ⟨b1, hf⟩ := px_ck_e hf
  refine ilR_10 X w b1 dX6_react_5 ?_
  refine lv_if_eq (tgt := 24) X.1 X.2.1 dX6_react_6 (by decide) (fun c2 => ?_) (fun c2 => ?_)
  · have hf := px_ip c2 hf
    refine lv_aload_n X.1 X.2.1 dX6_react_24 rfl (lv_at hl 0 rfl) ?_
    refine gtR_0_10 X w dX6_react_25 ?_
    refine lv_iload_n X.1 X.2.1 dX6_react_28 rfl (lv_at hl 1 rfl) ?_
    refine lv_iconst (v := (1 : Int32)) X.1 X.2.1 dX6_react_29 (by decide) ?_
    obtain ⟨b3, hf⟩ := px_ck_e hf
    refine isR_9 X w b3 rfl dX6_react_30 (fun H locs w => ?_)
    obtain ⟨M4, eM4, hf⟩ := px_bn_e hf
    rw [← eM4] at w
    refine lv_aload_n X.1 X.2.1 dX6_react_31 rfl (lv_at hl 0 rfl) ?_
    refine gtR_0_14 X w dX6_react_32 ?_
    obtain ⟨x5, ex5, hf⟩ := px_bn_e hf
    rw [← ex5]
    refine lv_istore (lv' := [(5, .int x5), (0, .ref (ad 0)), (1, .int p1), (2, .int p2), (3, .int p3), (4, .int p4)]) X.1 X.2.1 dX6_react_35 hl (by decide) rfl (fun ls hl => ?_)
    refine lv_aload_n X.1 X.2.1 dX6_react_37 rfl (lv_at hl 1 rfl) ?_
    refine lv_dup X.1 X.2.1 dX6_react_38 rfl ?_
    refine gtR_0_14 X w dX6_react_39 ?_
    refine lv_iconst (v := (1 : Int32)) X.1 X.2.1 dX6_react_42 (by decide) ?_
    refine lv_iadd X.1 X.2.1 dX6_react_43 ?_
    refine ptR_0_14 X w dX6_react_44 (fun H locs w => ?_)
    obtain ⟨M6, eM6, hf⟩ := px_bn_e hf
    rw [← eM6] at w
    refine lv_aload_n X.1 X.2.1 dX6_react_47 rfl (lv_at hl 1 rfl) ?_
    refine gtR_0_15 X w dX6_react_48 ?_
    refine lv_iload X.1 X.2.1 dX6_react_51 (lv_at hl 0 rfl) ?_
    refine lv_iload_n X.1 X.2.1 dX6_react_53 rfl (lv_at hl 2 rfl) ?_
    obtain ⟨b7, hf⟩ := px_ck_e hf
    refine isR_12 X w b7 dX6_react_54 (fun H locs w => ?_)
    obtain ⟨M8, eM8, hf⟩ := px_bn_e hf
    rw [← eM8] at w
    refine lv_aload_n X.1 X.2.1 dX6_react_55 rfl (lv_at hl 1 rfl) ?_
    refine gtR_0_16 X w dX6_react_56 ?_
    refine lv_iload X.1 X.2.1 dX6_react_59 (lv_at hl 0 rfl) ?_
    refine lv_iload_n X.1 X.2.1 dX6_react_61 rfl (lv_at hl 3 rfl) ?_
    obtain ⟨b9, hf⟩ := px_ck_e hf
    refine isR_13 X w b9 dX6_react_62 (fun H locs w => ?_)
    obtain ⟨M10, eM10, hf⟩ := px_bn_e hf
    rw [← eM10] at w
    refine lv_aload_n X.1 X.2.1 dX6_react_63 rfl (lv_at hl 1 rfl) ?_
    refine gtR_0_17 X w dX6_react_64 ?_
    refine lv_iload X.1 X.2.1 dX6_react_67 (lv_at hl 0 rfl) ?_
    refine lv_iload_n X.1 X.2.1 dX6_react_69 rfl (lv_at hl 4 rfl) ?_
    obtain ⟨b11, hf⟩ := px_ck_e hf
    refine isR_14 X w b11 dX6_react_70 (fun H locs w => ?_)
    obtain ⟨M12, eM12, hf⟩ := px_bn_e hf
    rw [← eM12] at w
    refine lv_aload_n X.1 X.2.1 dX6_react_71 rfl (lv_at hl 1 rfl) ?_
    refine gtR_0_18 X w dX6_react_72 ?_
    refine lv_iload X.1 X.2.1 dX6_react_75 (lv_at hl 0 rfl) ?_
    refine lv_iload X.1 X.2.1 dX6_react_77 (lv_at hl 5 rfl) ?_
    obtain ⟨b13, hf⟩ := px_ck_e hf
    refine isR_15 X w b13 dX6_react_79 (fun H locs w => ?_)
    obtain ⟨M14, eM14, hf⟩ := px_bn_e hf
    rw [← eM14] at w
    refine lv_aload_n X.1 X.2.1 dX6_react_80 rfl (lv_at hl 1 rfl) ?_
    refine gtR_0_19 X w dX6_react_81 ?_
    refine lv_iload X.1 X.2.1 dX6_react_84 (lv_at hl 0 rfl) ?_
    refine lv_aload_n X.1 X.2.1 dX6_react_86 rfl (lv_at hl 1 rfl) ?_
    refine gtR_0_7 X w dX6_react_87 ?_
    refine lv_iload_n X.1 X.2.1 dX6_react_90 rfl (lv_at hl 2 rfl) ?_
    obtain ⟨b15, hf⟩ := px_ck_e hf
    refine ilR_6 X w b15 dX6_react_91 ?_
    refine lv_if_ne (tgt := 99) X.1 X.2.1 dX6_react_92 (by decide) (fun c16 => ?_) (fun c16 => ?_)
    · have hf := px_in c16 hf
      refine lv_iconst (v := (0 : Int32)) X.1 X.2.1 dX6_react_99 (by decide) ?_
      obtain ⟨b17, hf⟩ := px_ck_e hf
      refine isR_16 X w b17 rfl dX6_react_100 (fun H locs w => ?_)
      obtain ⟨M18, eM18, hf⟩ := px_bn_e hf
      rw [← eM18] at w
      refine lv_aload_n X.1 X.2.1 dX6_react_101 rfl (lv_at hl 1 rfl) ?_
      refine gtR_0_19 X w dX6_react_102 ?_
      refine lv_iload X.1 X.2.1 dX6_react_105 (lv_at hl 0 rfl) ?_
      obtain ⟨b19, hf⟩ := px_ck_e hf
      refine ilR_16 X w b19 dX6_react_107 ?_
      refine lv_if_ne (tgt := 119) X.1 X.2.1 dX6_react_108 (by decide) (fun c20 => ?_) (fun c20 => ?_)
      · have hf := px_in c20 hf
        cases hf
        exact px_retV X hr hlk w dX6_react_119
      · have hf := px_ip c20 hf
        refine lv_aload_n X.1 X.2.1 dX6_react_111 rfl (lv_at hl 1 rfl) ?_
        refine lv_iconst (v := (1 : Int32)) X.1 X.2.1 dX6_react_112 (by decide) ?_
        refine lv_iload X.1 X.2.1 dX6_react_113 (lv_at hl 0 rfl) ?_
        refine lv_iconst (v := (0 : Int32)) X.1 X.2.1 dX6_react_115 (by decide) ?_
        obtain ⟨M22, e21, hf⟩ := px_bq_e hf
        refine px_cV (As := [.int (1 : Int32), .int x5, .int (0 : Int32)]) (rest := []) X hml hl w (cR_M_addMicro l D cs ad e21) lk_6_176 (by decide) (rcR_0 X.2.2.2.2 w) rfl (Nat.le_of_ble_eq_true rfl) dX6_react_116 (fun H locs w => ?_)
        cases hf
        exact px_retV X hr hlk w dX6_react_119
    · have hf := px_ip c16 hf
      refine lv_iconst (v := (1 : Int32)) X.1 X.2.1 dX6_react_95 (by decide) ?_
      refine lv_goto (tgt := 100) X.1 X.2.1 dX6_react_96 (by decide) ?_
      obtain ⟨b23, hf⟩ := px_ck_e hf
      refine isR_16 X w b23 rfl dX6_react_100 (fun H locs w => ?_)
      obtain ⟨M24, eM24, hf⟩ := px_bn_e hf
      rw [← eM24] at w
      refine lv_aload_n X.1 X.2.1 dX6_react_101 rfl (lv_at hl 1 rfl) ?_
      refine gtR_0_19 X w dX6_react_102 ?_
      refine lv_iload X.1 X.2.1 dX6_react_105 (lv_at hl 0 rfl) ?_
      obtain ⟨b25, hf⟩ := px_ck_e hf
      refine ilR_16 X w b25 dX6_react_107 ?_
      refine lv_if_ne (tgt := 119) X.1 X.2.1 dX6_react_108 (by decide) (fun c26 => ?_) (fun c26 => ?_)
      · have hf := px_in c26 hf
        cases hf
        exact px_retV X hr hlk w dX6_react_119
      · have hf := px_ip c26 hf
        refine lv_aload_n X.1 X.2.1 dX6_react_111 rfl (lv_at hl 1 rfl) ?_
        refine lv_iconst (v := (1 : Int32)) X.1 X.2.1 dX6_react_112 (by decide) ?_
        refine lv_iload X.1 X.2.1 dX6_react_113 (lv_at hl 0 rfl) ?_
        refine lv_iconst (v := (0 : Int32)) X.1 X.2.1 dX6_react_115 (by decide) ?_
        obtain ⟨M28, e27, hf⟩ := px_bq_e hf
        refine px_cV (As := [.int (1 : Int32), .int x5, .int (0 : Int32)]) (rest := []) X hml hl w (cR_M_addMicro l D cs ad e27) lk_6_176 (by decide) (rcR_0 X.2.2.2.2 w) rfl (Nat.le_of_ble_eq_true rfl) dX6_react_116 (fun H locs w => ?_)
        cases hf
        exact px_retV X hr hlk w dX6_react_119
  · have hf := px_in c2 hf
    refine lv_aload_n X.1 X.2.1 dX6_react_9 rfl (lv_at hl 0 rfl) ?_
    refine gtR_0_10 X w dX6_react_10 ?_
    refine lv_iload_n X.1 X.2.1 dX6_react_13 rfl (lv_at hl 1 rfl) ?_
    obtain ⟨b29, hf⟩ := px_ck_e hf
    refine ilR_9 X w b29 dX6_react_14 ?_
    refine lv_if_ne (tgt := 24) X.1 X.2.1 dX6_react_15 (by decide) (fun c30 => ?_) (fun c30 => ?_)
    · have hf := px_in c30 hf
      refine lv_aload_n X.1 X.2.1 dX6_react_24 rfl (lv_at hl 0 rfl) ?_
      refine gtR_0_10 X w dX6_react_25 ?_
      refine lv_iload_n X.1 X.2.1 dX6_react_28 rfl (lv_at hl 1 rfl) ?_
      refine lv_iconst (v := (1 : Int32)) X.1 X.2.1 dX6_react_29 (by decide) ?_
      obtain ⟨b31, hf⟩ := px_ck_e hf
      refine isR_9 X w b31 rfl dX6_react_30 (fun H locs w => ?_)
      obtain ⟨M32, eM32, hf⟩ := px_bn_e hf
      rw [← eM32] at w
      refine lv_aload_n X.1 X.2.1 dX6_react_31 rfl (lv_at hl 0 rfl) ?_
      refine gtR_0_14 X w dX6_react_32 ?_
      obtain ⟨x33, ex33, hf⟩ := px_bn_e hf
      rw [← ex33]
      refine lv_istore (lv' := [(5, .int x33), (0, .ref (ad 0)), (1, .int p1), (2, .int p2), (3, .int p3), (4, .int p4)]) X.1 X.2.1 dX6_react_35 hl (by decide) rfl (fun ls hl => ?_)
      refine lv_aload_n X.1 X.2.1 dX6_react_37 rfl (lv_at hl 1 rfl) ?_
      refine lv_dup X.1 X.2.1 dX6_react_38 rfl ?_
      refine gtR_0_14 X w dX6_react_39 ?_
      refine lv_iconst (v := (1 : Int32)) X.1 X.2.1 dX6_react_42 (by decide) ?_
      refine lv_iadd X.1 X.2.1 dX6_react_43 ?_
      refine ptR_0_14 X w dX6_react_44 (fun H locs w => ?_)
      obtain ⟨M34, eM34, hf⟩ := px_bn_e hf
      rw [← eM34] at w
      refine lv_aload_n X.1 X.2.1 dX6_react_47 rfl (lv_at hl 1 rfl) ?_
      refine gtR_0_15 X w dX6_react_48 ?_
      refine lv_iload X.1 X.2.1 dX6_react_51 (lv_at hl 0 rfl) ?_
      refine lv_iload_n X.1 X.2.1 dX6_react_53 rfl (lv_at hl 2 rfl) ?_
      obtain ⟨b35, hf⟩ := px_ck_e hf
      refine isR_12 X w b35 dX6_react_54 (fun H locs w => ?_)
      obtain ⟨M36, eM36, hf⟩ := px_bn_e hf
      rw [← eM36] at w
      refine lv_aload_n X.1 X.2.1 dX6_react_55 rfl (lv_at hl 1 rfl) ?_
      refine gtR_0_16 X w dX6_react_56 ?_
      refine lv_iload X.1 X.2.1 dX6_react_59 (lv_at hl 0 rfl) ?_
      refine lv_iload_n X.1 X.2.1 dX6_react_61 rfl (lv_at hl 3 rfl) ?_
      obtain ⟨b37, hf⟩ := px_ck_e hf
      refine isR_13 X w b37 dX6_react_62 (fun H locs w => ?_)
      obtain ⟨M38, eM38, hf⟩ := px_bn_e hf
      rw [← eM38] at w
      refine lv_aload_n X.1 X.2.1 dX6_react_63 rfl (lv_at hl 1 rfl) ?_
      refine gtR_0_17 X w dX6_react_64 ?_
      refine lv_iload X.1 X.2.1 dX6_react_67 (lv_at hl 0 rfl) ?_
      refine lv_iload_n X.1 X.2.1 dX6_react_69 rfl (lv_at hl 4 rfl) ?_
      obtain ⟨b39, hf⟩ := px_ck_e hf
      refine isR_14 X w b39 dX6_react_70 (fun H locs w => ?_)
      obtain ⟨M40, eM40, hf⟩ := px_bn_e hf
      rw [← eM40] at w
      refine lv_aload_n X.1 X.2.1 dX6_react_71 rfl (lv_at hl 1 rfl) ?_
      refine gtR_0_18 X w dX6_react_72 ?_
      refine lv_iload X.1 X.2.1 dX6_react_75 (lv_at hl 0 rfl) ?_
      refine lv_iload X.1 X.2.1 dX6_react_77 (lv_at hl 5 rfl) ?_
      obtain ⟨b41, hf⟩ := px_ck_e hf
      refine isR_15 X w b41 dX6_react_79 (fun H locs w => ?_)
      obtain ⟨M42, eM42, hf⟩ := px_bn_e hf
      rw [← eM42] at w
      refine lv_aload_n X.1 X.2.1 dX6_react_80 rfl (lv_at hl 1 rfl) ?_
      refine gtR_0_19 X w dX6_react_81 ?_
      refine lv_iload X.1 X.2.1 dX6_react_84 (lv_at hl 0 rfl) ?_
      refine lv_aload_n X.1 X.2.1 dX6_react_86 rfl (lv_at hl 1 rfl) ?_
      refine gtR_0_7 X w dX6_react_87 ?_
      refine lv_iload_n X.1 X.2.1 dX6_react_90 rfl (lv_at hl 2 rfl) ?_
      obtain ⟨b43, hf⟩ := px_ck_e hf
      refine ilR_6 X w b43 dX6_react_91 ?_
      refine lv_if_ne (tgt := 99) X.1 X.2.1 dX6_react_92 (by decide) (fun c44 => ?_) (fun c44 => ?_)
      · have hf := px_in c44 hf
        refine lv_iconst (v := (0 : Int32)) X.1 X.2.1 dX6_react_99 (by decide) ?_
        obtain ⟨b45, hf⟩ := px_ck_e hf
        refine isR_16 X w b45 rfl dX6_react_100 (fun H locs w => ?_)
        obtain ⟨M46, eM46, hf⟩ := px_bn_e hf
        rw [← eM46] at w
        refine lv_aload_n X.1 X.2.1 dX6_react_101 rfl (lv_at hl 1 rfl) ?_
        refine gtR_0_19 X w dX6_react_102 ?_
        refine lv_iload X.1 X.2.1 dX6_react_105 (lv_at hl 0 rfl) ?_
        obtain ⟨b47, hf⟩ := px_ck_e hf
        refine ilR_16 X w b47 dX6_react_107 ?_
        refine lv_if_ne (tgt := 119) X.1 X.2.1 dX6_react_108 (by decide) (fun c48 => ?_) (fun c48 => ?_)
        · have hf := px_in c48 hf
          cases hf
          exact px_retV X hr hlk w dX6_react_119
        · have hf := px_ip c48 hf
          refine lv_aload_n X.1 X.2.1 dX6_react_111 rfl (lv_at hl 1 rfl) ?_
          refine lv_iconst (v := (1 : Int32)) X.1 X.2.1 dX6_react_112 (by decide) ?_
          refine lv_iload X.1 X.2.1 dX6_react_113 (lv_at hl 0 rfl) ?_
          refine lv_iconst (v := (0 : Int32)) X.1 X.2.1 dX6_react_115 (by decide) ?_
          obtain ⟨M50, e49, hf⟩ := px_bq_e hf
          refine px_cV (As := [.int (1 : Int32), .int x33, .int (0 : Int32)]) (rest := []) X hml hl w (cR_M_addMicro l D cs ad e49) lk_6_176 (by decide) (rcR_0 X.2.2.2.2 w) rfl (Nat.le_of_ble_eq_true rfl) dX6_react_116 (fun H locs w => ?_)
          cases hf
          exact px_retV X hr hlk w dX6_react_119
      · have hf := px_ip c44 hf
        refine lv_iconst (v := (1 : Int32)) X.1 X.2.1 dX6_react_95 (by decide) ?_
        refine lv_goto (tgt := 100) X.1 X.2.1 dX6_react_96 (by decide) ?_
        obtain ⟨b51, hf⟩ := px_ck_e hf
        refine isR_16 X w b51 rfl dX6_react_100 (fun H locs w => ?_)
        obtain ⟨M52, eM52, hf⟩ := px_bn_e hf
        rw [← eM52] at w
        refine lv_aload_n X.1 X.2.1 dX6_react_101 rfl (lv_at hl 1 rfl) ?_
        refine gtR_0_19 X w dX6_react_102 ?_
        refine lv_iload X.1 X.2.1 dX6_react_105 (lv_at hl 0 rfl) ?_
        obtain ⟨b53, hf⟩ := px_ck_e hf
        refine ilR_16 X w b53 dX6_react_107 ?_
        refine lv_if_ne (tgt := 119) X.1 X.2.1 dX6_react_108 (by decide) (fun c54 => ?_) (fun c54 => ?_)
        · have hf := px_in c54 hf
          cases hf
          exact px_retV X hr hlk w dX6_react_119
        · have hf := px_ip c54 hf
          refine lv_aload_n X.1 X.2.1 dX6_react_111 rfl (lv_at hl 1 rfl) ?_
          refine lv_iconst (v := (1 : Int32)) X.1 X.2.1 dX6_react_112 (by decide) ?_
          refine lv_iload X.1 X.2.1 dX6_react_113 (lv_at hl 0 rfl) ?_
          refine lv_iconst (v := (0 : Int32)) X.1 X.2.1 dX6_react_115 (by decide) ?_
          obtain ⟨M56, e55, hf⟩ := px_bq_e hf
          refine px_cV (As := [.int (1 : Int32), .int x33, .int (0 : Int32)]) (rest := []) X hml hl w (cR_M_addMicro l D cs ad e55) lk_6_176 (by decide) (rcR_0 X.2.2.2.2 w) rfl (Nat.le_of_ble_eq_true rfl) dX6_react_116 (fun H locs w => ?_)
          cases hf
          exact px_retV X hr hlk w dX6_react_119
    · have hf := px_ip c30 hf
      refine lv_aload_n X.1 X.2.1 dX6_react_18 rfl (lv_at hl 0 rfl) ?_
      refine lv_iconst (v := (3 : Int32)) X.1 X.2.1 dX6_react_19 (by decide) ?_
      refine lv_iload_n X.1 X.2.1 dX6_react_20 rfl (lv_at hl 1 rfl) ?_
      obtain ⟨M58, e57, hf⟩ := px_bq_e hf
      refine px_cV (As := [.int (3 : Int32), .int p1]) (rest := []) X hml hl w (cR_M_tell l D cs ad e57) lk_6_183 (by decide) (rcR_0 X.2.2.2.2 w) rfl (Nat.le_of_ble_eq_true rfl) dX6_react_21 (fun H locs w => ?_)
      refine lv_aload_n X.1 X.2.1 dX6_react_24 rfl (lv_at hl 0 rfl) ?_
      refine gtR_0_10 X w dX6_react_25 ?_
      refine lv_iload_n X.1 X.2.1 dX6_react_28 rfl (lv_at hl 1 rfl) ?_
      refine lv_iconst (v := (1 : Int32)) X.1 X.2.1 dX6_react_29 (by decide) ?_
      obtain ⟨b59, hf⟩ := px_ck_e hf
      refine isR_9 X w b59 rfl dX6_react_30 (fun H locs w => ?_)
      obtain ⟨M60, eM60, hf⟩ := px_bn_e hf
      rw [← eM60] at w
      refine lv_aload_n X.1 X.2.1 dX6_react_31 rfl (lv_at hl 0 rfl) ?_
      refine gtR_0_14 X w dX6_react_32 ?_
      obtain ⟨x61, ex61, hf⟩ := px_bn_e hf
      rw [← ex61]
      refine lv_istore (lv' := [(5, .int x61), (0, .ref (ad 0)), (1, .int p1), (2, .int p2), (3, .int p3), (4, .int p4)]) X.1 X.2.1 dX6_react_35 hl (by decide) rfl (fun ls hl => ?_)
      refine lv_aload_n X.1 X.2.1 dX6_react_37 rfl (lv_at hl 1 rfl) ?_
      refine lv_dup X.1 X.2.1 dX6_react_38 rfl ?_
      refine gtR_0_14 X w dX6_react_39 ?_
      refine lv_iconst (v := (1 : Int32)) X.1 X.2.1 dX6_react_42 (by decide) ?_
      refine lv_iadd X.1 X.2.1 dX6_react_43 ?_
      refine ptR_0_14 X w dX6_react_44 (fun H locs w => ?_)
      obtain ⟨M62, eM62, hf⟩ := px_bn_e hf
      rw [← eM62] at w
      refine lv_aload_n X.1 X.2.1 dX6_react_47 rfl (lv_at hl 1 rfl) ?_
      refine gtR_0_15 X w dX6_react_48 ?_
      refine lv_iload X.1 X.2.1 dX6_react_51 (lv_at hl 0 rfl) ?_
      refine lv_iload_n X.1 X.2.1 dX6_react_53 rfl (lv_at hl 2 rfl) ?_
      obtain ⟨b63, hf⟩ := px_ck_e hf
      refine isR_12 X w b63 dX6_react_54 (fun H locs w => ?_)
      obtain ⟨M64, eM64, hf⟩ := px_bn_e hf
      rw [← eM64] at w
      refine lv_aload_n X.1 X.2.1 dX6_react_55 rfl (lv_at hl 1 rfl) ?_
      refine gtR_0_16 X w dX6_react_56 ?_
      refine lv_iload X.1 X.2.1 dX6_react_59 (lv_at hl 0 rfl) ?_
      refine lv_iload_n X.1 X.2.1 dX6_react_61 rfl (lv_at hl 3 rfl) ?_
      obtain ⟨b65, hf⟩ := px_ck_e hf
      refine isR_13 X w b65 dX6_react_62 (fun H locs w => ?_)
      obtain ⟨M66, eM66, hf⟩ := px_bn_e hf
      rw [← eM66] at w
      refine lv_aload_n X.1 X.2.1 dX6_react_63 rfl (lv_at hl 1 rfl) ?_
      refine gtR_0_17 X w dX6_react_64 ?_
      refine lv_iload X.1 X.2.1 dX6_react_67 (lv_at hl 0 rfl) ?_
      refine lv_iload_n X.1 X.2.1 dX6_react_69 rfl (lv_at hl 4 rfl) ?_
      obtain ⟨b67, hf⟩ := px_ck_e hf
      refine isR_14 X w b67 dX6_react_70 (fun H locs w => ?_)
      obtain ⟨M68, eM68, hf⟩ := px_bn_e hf
      rw [← eM68] at w
      refine lv_aload_n X.1 X.2.1 dX6_react_71 rfl (lv_at hl 1 rfl) ?_
      refine gtR_0_18 X w dX6_react_72 ?_
      refine lv_iload X.1 X.2.1 dX6_react_75 (lv_at hl 0 rfl) ?_
      refine lv_iload X.1 X.2.1 dX6_react_77 (lv_at hl 5 rfl) ?_
      obtain ⟨b69, hf⟩ := px_ck_e hf
      refine isR_15 X w b69 dX6_react_79 (fun H locs w => ?_)
      obtain ⟨M70, eM70, hf⟩ := px_bn_e hf
      rw [← eM70] at w
      refine lv_aload_n X.1 X.2.1 dX6_react_80 rfl (lv_at hl 1 rfl) ?_
      refine gtR_0_19 X w dX6_react_81 ?_
      refine lv_iload X.1 X.2.1 dX6_react_84 (lv_at hl 0 rfl) ?_
      refine lv_aload_n X.1 X.2.1 dX6_react_86 rfl (lv_at hl 1 rfl) ?_
      refine gtR_0_7 X w dX6_react_87 ?_
      refine lv_iload_n X.1 X.2.1 dX6_react_90 rfl (lv_at hl 2 rfl) ?_
      obtain ⟨b71, hf⟩ := px_ck_e hf
      refine ilR_6 X w b71 dX6_react_91 ?_
      refine lv_if_ne (tgt := 99) X.1 X.2.1 dX6_react_92 (by decide) (fun c72 => ?_) (fun c72 => ?_)
      · have hf := px_in c72 hf
        refine lv_iconst (v := (0 : Int32)) X.1 X.2.1 dX6_react_99 (by decide) ?_
        obtain ⟨b73, hf⟩ := px_ck_e hf
        refine isR_16 X w b73 rfl dX6_react_100 (fun H locs w => ?_)
        obtain ⟨M74, eM74, hf⟩ := px_bn_e hf
        rw [← eM74] at w
        refine lv_aload_n X.1 X.2.1 dX6_react_101 rfl (lv_at hl 1 rfl) ?_
        refine gtR_0_19 X w dX6_react_102 ?_
        refine lv_iload X.1 X.2.1 dX6_react_105 (lv_at hl 0 rfl) ?_
        obtain ⟨b75, hf⟩ := px_ck_e hf
        refine ilR_16 X w b75 dX6_react_107 ?_
        refine lv_if_ne (tgt := 119) X.1 X.2.1 dX6_react_108 (by decide) (fun c76 => ?_) (fun c76 => ?_)
        · have hf := px_in c76 hf
          cases hf
          exact px_retV X hr hlk w dX6_react_119
        · have hf := px_ip c76 hf
          refine lv_aload_n X.1 X.2.1 dX6_react_111 rfl (lv_at hl 1 rfl) ?_
          refine lv_iconst (v := (1 : Int32)) X.1 X.2.1 dX6_react_112 (by decide) ?_
          refine lv_iload X.1 X.2.1 dX6_react_113 (lv_at hl 0 rfl) ?_
          refine lv_iconst (v := (0 : Int32)) X.1 X.2.1 dX6_react_115 (by decide) ?_
          obtain ⟨M78, e77, hf⟩ := px_bq_e hf
          refine px_cV (As := [.int (1 : Int32), .int x61, .int (0 : Int32)]) (rest := []) X hml hl w (cR_M_addMicro l D cs ad e77) lk_6_176 (by decide) (rcR_0 X.2.2.2.2 w) rfl (Nat.le_of_ble_eq_true rfl) dX6_react_116 (fun H locs w => ?_)
          cases hf
          exact px_retV X hr hlk w dX6_react_119
      · have hf := px_ip c72 hf
        refine lv_iconst (v := (1 : Int32)) X.1 X.2.1 dX6_react_95 (by decide) ?_
        refine lv_goto (tgt := 100) X.1 X.2.1 dX6_react_96 (by decide) ?_
        obtain ⟨b79, hf⟩ := px_ck_e hf
        refine isR_16 X w b79 rfl dX6_react_100 (fun H locs w => ?_)
        obtain ⟨M80, eM80, hf⟩ := px_bn_e hf
        rw [← eM80] at w
        refine lv_aload_n X.1 X.2.1 dX6_react_101 rfl (lv_at hl 1 rfl) ?_
        refine gtR_0_19 X w dX6_react_102 ?_
        refine lv_iload X.1 X.2.1 dX6_react_105 (lv_at hl 0 rfl) ?_
        obtain ⟨b81, hf⟩ := px_ck_e hf
        refine ilR_16 X w b81 dX6_react_107 ?_
        refine lv_if_ne (tgt := 119) X.1 X.2.1 dX6_react_108 (by decide) (fun c82 => ?_) (fun c82 => ?_)
        · have hf := px_in c82 hf
          cases hf
          exact px_retV X hr hlk w dX6_react_119
        · have hf := px_ip c82 hf
          refine lv_aload_n X.1 X.2.1 dX6_react_111 rfl (lv_at hl 1 rfl) ?_
          refine lv_iconst (v := (1 : Int32)) X.1 X.2.1 dX6_react_112 (by decide) ?_
          refine lv_iload X.1 X.2.1 dX6_react_113 (lv_at hl 0 rfl) ?_
          refine lv_iconst (v := (0 : Int32)) X.1 X.2.1 dX6_react_115 (by decide) ?_
          obtain ⟨M84, e83, hf⟩ := px_bq_e hf
          refine px_cV (As := [.int (1 : Int32), .int x61, .int (0 : Int32)]) (rest := []) X hml hl w (cR_M_addMicro l D cs ad e83) lk_6_176 (by decide) (rcR_0 X.2.2.2.2 w) rfl (Nat.le_of_ble_eq_true rfl) dX6_react_116 (fun H locs w => ?_)
          cases hf
          exact px_retV X hr hlk w dX6_react_119
theorem lk_6_226 : px_Lk RX6 226 yX6_makePromise cX6_makePromise 2 (some .int) 0 := ⟨px_tb (by decide +kernel) (by decide +kernel), px_tb (by decide +kernel) (by decide +kernel), px_tb (by decide +kernel) (by decide +kernel), px_tb (by decide +kernel) (by decide +kernel), px_tb (by decide +kernel) (by decide +kernel), by decide +kernel, by decide⟩
theorem lk_6_230 : px_Lk RX6 230 yX6_react cX6_react 6 none 4 := ⟨px_tb (by decide +kernel) (by decide +kernel), px_tb (by decide +kernel) (by decide +kernel), px_tb (by decide +kernel) (by decide +kernel), px_tb (by decide +kernel) (by decide +kernel), px_tb (by decide +kernel) (by decide +kernel), by decide +kernel, by decide⟩
def fR_M_then (M : px_M) (p1 p2 : Int32) : Option px_M := px_ck p1 8 ((if (M 5 p1.toNatClampNeg) = 0 then some M else (if (M 0 6) = (40 : Int32) then px_bq (fR_M_fail M (-2 : Int32)) (fun M29 => some M29) else px_ck p1 8 (px_bn (((M 5 p1.toNatClampNeg) - (1 : Int32))) (fun x5 => px_bo (fR_M_makePromise M) (fun r7 M8 => (if (p2 - p2 / (16 : Int32) * (16 : Int32)) ≤ (9 : Int32) then (if (p2 / (16 : Int32)) ≤ (9 : Int32) then px_bq (fR_M_react M8 x5 (p2 - p2 / (16 : Int32) * (16 : Int32)) (p2 / (16 : Int32)) r7) (fun M12 => px_ck p1 8 (px_bn (px_up M12 5 p1.toNatClampNeg (r7 + (1 : Int32))) (fun M14 => some M14))) else px_bq (fR_M_react M8 x5 (p2 - p2 / (16 : Int32) * (16 : Int32)) (-1 : Int32) r7) (fun M16 => px_ck p1 8 (px_bn (px_up M16 5 p1.toNatClampNeg (r7 + (1 : Int32))) (fun M18 => some M18)))) else (if (p2 / (16 : Int32)) ≤ (9 : Int32) then px_bq (fR_M_react M8 x5 (-1 : Int32) (p2 / (16 : Int32)) r7) (fun M21 => px_ck p1 8 (px_bn (px_up M21 5 p1.toNatClampNeg (r7 + (1 : Int32))) (fun M23 => some M23))) else px_bq (fR_M_react M8 x5 (-1 : Int32) (-1 : Int32) r7) (fun M25 => px_ck p1 8 (px_bn (px_up M25 5 p1.toNatClampNeg (r7 + (1 : Int32))) (fun M27 => some M27)))))))))))
set_option maxHeartbeats 4000000 in
set_option maxRecDepth 100000 in
theorem cR_M_then (l : Launch) (D : va_G) (cs : Nat → ClassId) (ad : Nat → Nat) {M : px_M} {p1 p2 : Int32} {M' : px_M} (hf : fR_M_then M p1 p2 = some M') : px_mV l D (tyR cs) (wR cs ad) yX6_then cX6_then 5 2 [.ref (ad 0), .int p1, .int p2] M M' := by
  refine px_ofV (by decide +kernel) (Nat.le_of_ble_eq_true rfl) ?_
  intro p e s m below meth c A ls X hr hlk hml w hl
  have hl : lv_has ls 5 [(0, .ref (ad 0)), (1, .int p1), (2, .int p2)] := hl
  unfold fR_M_then at hf
  refine lv_aload_n X.1 X.2.1 dX6_then_0 rfl (lv_at hl 0 rfl) ?_
  refine gtR_0_5 X w dX6_then_1 ?_
  refine lv_iload_n X.1 X.2.1 dX6_then_4 rfl (lv_at hl 1 rfl) ?_
  obtain ⟨b1, hf⟩ := px_ck_e hf
  refine ilR_5 X w b1 dX6_then_5 ?_
  refine lv_if_ne (tgt := 10) X.1 X.2.1 dX6_then_6 (by decide) (fun c2 => ?_) (fun c2 => ?_)
  · have hf := px_in c2 hf
    refine lv_aload_n X.1 X.2.1 dX6_then_10 rfl (lv_at hl 0 rfl) ?_
    refine gtR_0_6 X w dX6_then_11 ?_
    refine lv_bipush (v := (40 : Int32)) X.1 X.2.1 dX6_then_14 (by decide) ?_
    refine lv_icmp_ne (tgt := 26) X.1 X.2.1 dX6_then_16 (by decide) (fun c3 => ?_) (fun c3 => ?_)
    · have hf := px_in c3 hf
      refine lv_aload_n X.1 X.2.1 dX6_then_26 rfl (lv_at hl 0 rfl) ?_
      refine gtR_0_5 X w dX6_then_27 ?_
      refine lv_iload_n X.1 X.2.1 dX6_then_30 rfl (lv_at hl 1 rfl) ?_
      obtain ⟨b4, hf⟩ := px_ck_e hf
      refine ilR_5 X w b4 dX6_then_31 ?_
      refine lv_iconst (v := (1 : Int32)) X.1 X.2.1 dX6_then_32 (by decide) ?_
      refine lv_isub X.1 X.2.1 dX6_then_33 ?_
      obtain ⟨x5, ex5, hf⟩ := px_bn_e hf
      rw [← ex5]
      refine lv_istore_n (lv' := [(3, .int x5), (0, .ref (ad 0)), (1, .int p1), (2, .int p2)]) X.1 X.2.1 dX6_then_34 rfl hl (by decide) rfl (fun ls hl => ?_)
      refine lv_aload_n X.1 X.2.1 dX6_then_35 rfl (lv_at hl 1 rfl) ?_
      obtain ⟨r7, M8, e6, hf⟩ := px_bo_e hf
      refine px_cI (As := []) (rest := []) X hml hl w (cR_M_makePromise l D cs ad e6) lk_6_226 (by decide) (rcR_0 X.2.2.2.2 w) rfl (Nat.le_of_ble_eq_true rfl) dX6_then_36 (fun H locs w => ?_)
      refine lv_istore (lv' := [(4, .int r7), (3, .int x5), (0, .ref (ad 0)), (1, .int p1), (2, .int p2)]) X.1 X.2.1 dX6_then_39 hl (by decide) rfl (fun ls hl => ?_)
      refine lv_aload_n X.1 X.2.1 dX6_then_41 rfl (lv_at hl 2 rfl) ?_
      refine lv_iload_n X.1 X.2.1 dX6_then_42 rfl (lv_at hl 1 rfl) ?_
      refine lv_iload_n X.1 X.2.1 dX6_then_43 rfl (lv_at hl 4 rfl) ?_
      refine lv_bipush (v := (16 : Int32)) X.1 X.2.1 dX6_then_44 (by decide) ?_
      refine lv_irem X.1 X.2.1 dX6_then_46 (by decide) ?_
      refine lv_bipush (v := (9 : Int32)) X.1 X.2.1 dX6_then_47 (by decide) ?_
      refine lv_icmp_le (tgt := 56) X.1 X.2.1 dX6_then_49 (by decide) (fun c9 => ?_) (fun c9 => ?_)
      · have hf := px_ip c9 hf
        refine lv_iload_n X.1 X.2.1 dX6_then_56 rfl (lv_at hl 4 rfl) ?_
        refine lv_bipush (v := (16 : Int32)) X.1 X.2.1 dX6_then_57 (by decide) ?_
        refine lv_irem X.1 X.2.1 dX6_then_59 (by decide) ?_
        refine lv_iload_n X.1 X.2.1 dX6_then_60 rfl (lv_at hl 4 rfl) ?_
        refine lv_bipush (v := (16 : Int32)) X.1 X.2.1 dX6_then_61 (by decide) ?_
        refine lv_idiv X.1 X.2.1 dX6_then_63 (by decide) ?_
        refine lv_bipush (v := (9 : Int32)) X.1 X.2.1 dX6_then_64 (by decide) ?_
        refine lv_icmp_le (tgt := 73) X.1 X.2.1 dX6_then_66 (by decide) (fun c10 => ?_) (fun c10 => ?_)
        · have hf := px_ip c10 hf
          refine lv_iload_n X.1 X.2.1 dX6_then_73 rfl (lv_at hl 4 rfl) ?_
          refine lv_bipush (v := (16 : Int32)) X.1 X.2.1 dX6_then_74 (by decide) ?_
          refine lv_idiv X.1 X.2.1 dX6_then_76 (by decide) ?_
          refine lv_iload X.1 X.2.1 dX6_then_77 (lv_at hl 0 rfl) ?_
          obtain ⟨M12, e11, hf⟩ := px_bq_e hf
          refine px_cV (As := [.int x5, .int (p2 - p2 / (16 : Int32) * (16 : Int32)), .int (p2 / (16 : Int32)), .int r7]) (rest := []) X hml hl w (cR_M_react l D cs ad e11) lk_6_230 (by decide) (rcR_0 X.2.2.2.2 w) rfl (Nat.le_of_ble_eq_true rfl) dX6_then_79 (fun H locs w => ?_)
          refine lv_aload_n X.1 X.2.1 dX6_then_82 rfl (lv_at hl 2 rfl) ?_
          refine gtR_0_5 X w dX6_then_83 ?_
          refine lv_iload_n X.1 X.2.1 dX6_then_86 rfl (lv_at hl 3 rfl) ?_
          refine lv_iload X.1 X.2.1 dX6_then_87 (lv_at hl 0 rfl) ?_
          refine lv_iconst (v := (1 : Int32)) X.1 X.2.1 dX6_then_89 (by decide) ?_
          refine lv_iadd X.1 X.2.1 dX6_then_90 ?_
          obtain ⟨b13, hf⟩ := px_ck_e hf
          refine isR_5 X w b13 dX6_then_91 (fun H locs w => ?_)
          obtain ⟨M14, eM14, hf⟩ := px_bn_e hf
          rw [← eM14] at w
          cases hf
          exact px_retV X hr hlk w dX6_then_92
        · have hf := px_in c10 hf
          refine lv_iconst (v := (-1 : Int32)) X.1 X.2.1 dX6_then_69 (by decide) ?_
          refine lv_goto (tgt := 77) X.1 X.2.1 dX6_then_70 (by decide) ?_
          refine lv_iload X.1 X.2.1 dX6_then_77 (lv_at hl 0 rfl) ?_
          obtain ⟨M16, e15, hf⟩ := px_bq_e hf
          refine px_cV (As := [.int x5, .int (p2 - p2 / (16 : Int32) * (16 : Int32)), .int (-1 : Int32), .int r7]) (rest := []) X hml hl w (cR_M_react l D cs ad e15) lk_6_230 (by decide) (rcR_0 X.2.2.2.2 w) rfl (Nat.le_of_ble_eq_true rfl) dX6_then_79 (fun H locs w => ?_)
          refine lv_aload_n X.1 X.2.1 dX6_then_82 rfl (lv_at hl 2 rfl) ?_
          refine gtR_0_5 X w dX6_then_83 ?_
          refine lv_iload_n X.1 X.2.1 dX6_then_86 rfl (lv_at hl 3 rfl) ?_
          refine lv_iload X.1 X.2.1 dX6_then_87 (lv_at hl 0 rfl) ?_
          refine lv_iconst (v := (1 : Int32)) X.1 X.2.1 dX6_then_89 (by decide) ?_
          refine lv_iadd X.1 X.2.1 dX6_then_90 ?_
          obtain ⟨b17, hf⟩ := px_ck_e hf
          refine isR_5 X w b17 dX6_then_91 (fun H locs w => ?_)
          obtain ⟨M18, eM18, hf⟩ := px_bn_e hf
          rw [← eM18] at w
          cases hf
          exact px_retV X hr hlk w dX6_then_92
      · have hf := px_in c9 hf
        refine lv_iconst (v := (-1 : Int32)) X.1 X.2.1 dX6_then_52 (by decide) ?_
        refine lv_goto (tgt := 60) X.1 X.2.1 dX6_then_53 (by decide) ?_
        refine lv_iload_n X.1 X.2.1 dX6_then_60 rfl (lv_at hl 4 rfl) ?_
        refine lv_bipush (v := (16 : Int32)) X.1 X.2.1 dX6_then_61 (by decide) ?_
        refine lv_idiv X.1 X.2.1 dX6_then_63 (by decide) ?_
        refine lv_bipush (v := (9 : Int32)) X.1 X.2.1 dX6_then_64 (by decide) ?_
        refine lv_icmp_le (tgt := 73) X.1 X.2.1 dX6_then_66 (by decide) (fun c19 => ?_) (fun c19 => ?_)
        · have hf := px_ip c19 hf
          refine lv_iload_n X.1 X.2.1 dX6_then_73 rfl (lv_at hl 4 rfl) ?_
          refine lv_bipush (v := (16 : Int32)) X.1 X.2.1 dX6_then_74 (by decide) ?_
          refine lv_idiv X.1 X.2.1 dX6_then_76 (by decide) ?_
          refine lv_iload X.1 X.2.1 dX6_then_77 (lv_at hl 0 rfl) ?_
          obtain ⟨M21, e20, hf⟩ := px_bq_e hf
          refine px_cV (As := [.int x5, .int (-1 : Int32), .int (p2 / (16 : Int32)), .int r7]) (rest := []) X hml hl w (cR_M_react l D cs ad e20) lk_6_230 (by decide) (rcR_0 X.2.2.2.2 w) rfl (Nat.le_of_ble_eq_true rfl) dX6_then_79 (fun H locs w => ?_)
          refine lv_aload_n X.1 X.2.1 dX6_then_82 rfl (lv_at hl 2 rfl) ?_
          refine gtR_0_5 X w dX6_then_83 ?_
          refine lv_iload_n X.1 X.2.1 dX6_then_86 rfl (lv_at hl 3 rfl) ?_
          refine lv_iload X.1 X.2.1 dX6_then_87 (lv_at hl 0 rfl) ?_
          refine lv_iconst (v := (1 : Int32)) X.1 X.2.1 dX6_then_89 (by decide) ?_
          refine lv_iadd X.1 X.2.1 dX6_then_90 ?_
          obtain ⟨b22, hf⟩ := px_ck_e hf
          refine isR_5 X w b22 dX6_then_91 (fun H locs w => ?_)
          obtain ⟨M23, eM23, hf⟩ := px_bn_e hf
          rw [← eM23] at w
          cases hf
          exact px_retV X hr hlk w dX6_then_92
        · have hf := px_in c19 hf
          refine lv_iconst (v := (-1 : Int32)) X.1 X.2.1 dX6_then_69 (by decide) ?_
          refine lv_goto (tgt := 77) X.1 X.2.1 dX6_then_70 (by decide) ?_
          refine lv_iload X.1 X.2.1 dX6_then_77 (lv_at hl 0 rfl) ?_
          obtain ⟨M25, e24, hf⟩ := px_bq_e hf
          refine px_cV (As := [.int x5, .int (-1 : Int32), .int (-1 : Int32), .int r7]) (rest := []) X hml hl w (cR_M_react l D cs ad e24) lk_6_230 (by decide) (rcR_0 X.2.2.2.2 w) rfl (Nat.le_of_ble_eq_true rfl) dX6_then_79 (fun H locs w => ?_)
          refine lv_aload_n X.1 X.2.1 dX6_then_82 rfl (lv_at hl 2 rfl) ?_
          refine gtR_0_5 X w dX6_then_83 ?_
          refine lv_iload_n X.1 X.2.1 dX6_then_86 rfl (lv_at hl 3 rfl) ?_
          refine lv_iload X.1 X.2.1 dX6_then_87 (lv_at hl 0 rfl) ?_
          refine lv_iconst (v := (1 : Int32)) X.1 X.2.1 dX6_then_89 (by decide) ?_
          refine lv_iadd X.1 X.2.1 dX6_then_90 ?_
          obtain ⟨b26, hf⟩ := px_ck_e hf
          refine isR_5 X w b26 dX6_then_91 (fun H locs w => ?_)
          obtain ⟨M27, eM27, hf⟩ := px_bn_e hf
          rw [← eM27] at w
          cases hf
          exact px_retV X hr hlk w dX6_then_92
    · have hf := px_ip c3 hf
      refine lv_aload_n X.1 X.2.1 dX6_then_19 rfl (lv_at hl 0 rfl) ?_
      refine lv_bipush (v := (-2 : Int32)) X.1 X.2.1 dX6_then_20 (by decide) ?_
      obtain ⟨M29, e28, hf⟩ := px_bq_e hf
      refine px_cV (As := [.int (-2 : Int32)]) (rest := []) X hml hl w (cR_M_fail l D cs ad e28) lk_6_219 (by decide) (rcR_0 X.2.2.2.2 w) rfl (Nat.le_of_ble_eq_true rfl) dX6_then_22 (fun H locs w => ?_)
      cases hf
      exact px_retV X hr hlk w dX6_then_25
  · have hf := px_ip c2 hf
    cases hf
    exact px_retV X hr hlk w dX6_then_9
theorem lk_6_239 : px_Lk RX6 239 yX6_addTimer cX6_addTimer 5 none 4 := ⟨px_tb (by decide +kernel) (by decide +kernel), px_tb (by decide +kernel) (by decide +kernel), px_tb (by decide +kernel) (by decide +kernel), px_tb (by decide +kernel) (by decide +kernel), px_tb (by decide +kernel) (by decide +kernel), by decide +kernel, by decide⟩
theorem lk_6_160 : px_Lk RX6 160 yX6_addTask cX6_addTask 5 none 4 := ⟨px_tb (by decide +kernel) (by decide +kernel), px_tb (by decide +kernel) (by decide +kernel), px_tb (by decide +kernel) (by decide +kernel), px_tb (by decide +kernel) (by decide +kernel), px_tb (by decide +kernel) (by decide +kernel), by decide +kernel, by decide⟩
def fR_M_place (M : px_M) (p1 p2 p3 p4 : Int32) : Option px_M := (if p1 = (1 : Int32) then (if (M 0 25) < (40 : Int32) then (if p1 = (1 : Int32) then px_bq (fR_M_addTask M p3 p2 p4 (0 : Int32)) (fun M73 => some M73) else (if p1 = (2 : Int32) then px_bq (fR_M_addMicro M (0 : Int32) p2 p4) (fun M71 => some M71) else (if p1 = (14 : Int32) then px_ck (M 0 43) 24 (px_bn (px_up M 32 (M 0 43).toNatClampNeg p2) (fun M68 => px_bn (px_up M68 0 43 ((M68 0 43) + (1 : Int32))) (fun M69 => some M69))) else (if p1 = (4 : Int32) then px_bq (fR_M_addTimer M p2 p4 p3 (1 : Int32)) (fun M66 => some M66) else px_bq (fR_M_addTimer M p2 p4 p3 (0 : Int32)) (fun M64 => some M64))))) else px_bq (fR_M_fail M (-2 : Int32)) (fun M75 => some M75)) else (if p1 = (2 : Int32) then (if (M 0 21) < (60 : Int32) then (if p1 = (1 : Int32) then px_bq (fR_M_addTask M p3 p2 p4 (0 : Int32)) (fun M55 => some M55) else (if p1 = (2 : Int32) then px_bq (fR_M_addMicro M (0 : Int32) p2 p4) (fun M53 => some M53) else (if p1 = (14 : Int32) then px_ck (M 0 43) 24 (px_bn (px_up M 32 (M 0 43).toNatClampNeg p2) (fun M50 => px_bn (px_up M50 0 43 ((M50 0 43) + (1 : Int32))) (fun M51 => some M51))) else (if p1 = (4 : Int32) then px_bq (fR_M_addTimer M p2 p4 p3 (1 : Int32)) (fun M48 => some M48) else px_bq (fR_M_addTimer M p2 p4 p3 (0 : Int32)) (fun M46 => some M46))))) else px_bq (fR_M_fail M (-2 : Int32)) (fun M57 => some M57)) else (if p1 = (14 : Int32) then (if ((M 0 43) + (M 0 46)) < (8 : Int32) then (if p1 = (1 : Int32) then px_bq (fR_M_addTask M p3 p2 p4 (0 : Int32)) (fun M37 => some M37) else (if p1 = (2 : Int32) then px_bq (fR_M_addMicro M (0 : Int32) p2 p4) (fun M35 => some M35) else (if p1 = (14 : Int32) then px_ck (M 0 43) 24 (px_bn (px_up M 32 (M 0 43).toNatClampNeg p2) (fun M32 => px_bn (px_up M32 0 43 ((M32 0 43) + (1 : Int32))) (fun M33 => some M33))) else (if p1 = (4 : Int32) then px_bq (fR_M_addTimer M p2 p4 p3 (1 : Int32)) (fun M30 => some M30) else px_bq (fR_M_addTimer M p2 p4 p3 (0 : Int32)) (fun M28 => some M28))))) else px_bq (fR_M_fail M (-2 : Int32)) (fun M39 => some M39)) else (if (M 0 32) = (12 : Int32) then px_bq (fR_M_fail M (-2 : Int32)) (fun M21 => some M21) else (if p1 = (1 : Int32) then px_bq (fR_M_addTask M p3 p2 p4 (0 : Int32)) (fun M19 => some M19) else (if p1 = (2 : Int32) then px_bq (fR_M_addMicro M (0 : Int32) p2 p4) (fun M17 => some M17) else (if p1 = (14 : Int32) then px_ck (M 0 43) 24 (px_bn (px_up M 32 (M 0 43).toNatClampNeg p2) (fun M14 => px_bn (px_up M14 0 43 ((M14 0 43) + (1 : Int32))) (fun M15 => some M15))) else (if p1 = (4 : Int32) then px_bq (fR_M_addTimer M p2 p4 p3 (1 : Int32)) (fun M12 => some M12) else px_bq (fR_M_addTimer M p2 p4 p3 (0 : Int32)) (fun M10 => some M10)))))))))
set_option maxHeartbeats 4000000 in
set_option maxRecDepth 100000 in
theorem cR_M_place (l : Launch) (D : va_G) (cs : Nat → ClassId) (ad : Nat → Nat) {M : px_M} {p1 p2 p3 p4 : Int32} {M' : px_M} (hf : fR_M_place M p1 p2 p3 p4 = some M') : px_mV l D (tyR cs) (wR cs ad) yX6_place cX6_place 6 2 [.ref (ad 0), .int p1, .int p2, .int p3, .int p4] M M' := by
  refine px_ofV (by decide +kernel) (Nat.le_of_ble_eq_true rfl) ?_
  intro p e s m below meth c A ls X hr hlk hml w hl
  have hl : lv_has ls 6 [(0, .ref (ad 0)), (1, .int p1), (2, .int p2), (3, .int p3), (4, .int p4)] := hl
  unfold fR_M_place at hf
  refine lv_iload_n X.1 X.2.1 dX6_place_0 rfl (lv_at hl 1 rfl) ?_
  refine lv_iconst (v := (1 : Int32)) X.1 X.2.1 dX6_place_1 (by decide) ?_
  refine lv_icmp_ne (tgt := 22) X.1 X.2.1 dX6_place_2 (by decide) (fun c1 => ?_) (fun c1 => ?_)
  · have hf := px_in c1 hf
    refine lv_iload_n X.1 X.2.1 dX6_place_22 rfl (lv_at hl 1 rfl) ?_
    refine lv_iconst (v := (2 : Int32)) X.1 X.2.1 dX6_place_23 (by decide) ?_
    refine lv_icmp_ne (tgt := 44) X.1 X.2.1 dX6_place_24 (by decide) (fun c2 => ?_) (fun c2 => ?_)
    · have hf := px_in c2 hf
      refine lv_iload_n X.1 X.2.1 dX6_place_44 rfl (lv_at hl 1 rfl) ?_
      refine lv_bipush (v := (14 : Int32)) X.1 X.2.1 dX6_place_45 (by decide) ?_
      refine lv_icmp_ne (tgt := 72) X.1 X.2.1 dX6_place_47 (by decide) (fun c3 => ?_) (fun c3 => ?_)
      · have hf := px_in c3 hf
        refine lv_aload_n X.1 X.2.1 dX6_place_72 rfl (lv_at hl 0 rfl) ?_
        refine gtR_0_32 X w dX6_place_73 ?_
        refine lv_bipush (v := (12 : Int32)) X.1 X.2.1 dX6_place_76 (by decide) ?_
        refine lv_icmp_ne (tgt := 85) X.1 X.2.1 dX6_place_78 (by decide) (fun c4 => ?_) (fun c4 => ?_)
        · have hf := px_in c4 hf
          refine lv_iconst (v := (0 : Int32)) X.1 X.2.1 dX6_place_85 (by decide) ?_
          refine lv_istore (lv' := [(5, .int (0 : Int32)), (0, .ref (ad 0)), (1, .int p1), (2, .int p2), (3, .int p3), (4, .int p4)]) X.1 X.2.1 dX6_place_86 hl (by decide) rfl (fun ls hl => ?_)
          refine lv_iload X.1 X.2.1 dX6_place_88 (lv_at hl 0 rfl) ?_
          refine lv_if_eq (tgt := 102) X.1 X.2.1 dX6_place_90 (by decide) (fun _ => ?_) (fun c => absurd c (by decide))
          refine lv_iload_n X.1 X.2.1 dX6_place_102 rfl (lv_at hl 2 rfl) ?_
          refine lv_iconst (v := (1 : Int32)) X.1 X.2.1 dX6_place_103 (by decide) ?_
          refine lv_icmp_ne (tgt := 119) X.1 X.2.1 dX6_place_104 (by decide) (fun c5 => ?_) (fun c5 => ?_)
          · have hf := px_in c5 hf
            refine lv_iload_n X.1 X.2.1 dX6_place_119 rfl (lv_at hl 2 rfl) ?_
            refine lv_iconst (v := (2 : Int32)) X.1 X.2.1 dX6_place_120 (by decide) ?_
            refine lv_icmp_ne (tgt := 135) X.1 X.2.1 dX6_place_121 (by decide) (fun c6 => ?_) (fun c6 => ?_)
            · have hf := px_in c6 hf
              refine lv_iload_n X.1 X.2.1 dX6_place_135 rfl (lv_at hl 2 rfl) ?_
              refine lv_bipush (v := (14 : Int32)) X.1 X.2.1 dX6_place_136 (by decide) ?_
              refine lv_icmp_ne (tgt := 164) X.1 X.2.1 dX6_place_138 (by decide) (fun c7 => ?_) (fun c7 => ?_)
              · have hf := px_in c7 hf
                refine lv_aload_n X.1 X.2.1 dX6_place_164 rfl (lv_at hl 1 rfl) ?_
                refine lv_iload_n X.1 X.2.1 dX6_place_165 rfl (lv_at hl 3 rfl) ?_
                refine lv_iload X.1 X.2.1 dX6_place_166 (lv_at hl 5 rfl) ?_
                refine lv_iload_n X.1 X.2.1 dX6_place_168 rfl (lv_at hl 4 rfl) ?_
                refine lv_iload_n X.1 X.2.1 dX6_place_169 rfl (lv_at hl 2 rfl) ?_
                refine lv_iconst (v := (4 : Int32)) X.1 X.2.1 dX6_place_170 (by decide) ?_
                refine lv_icmp_ne (tgt := 178) X.1 X.2.1 dX6_place_171 (by decide) (fun c8 => ?_) (fun c8 => ?_)
                · have hf := px_in c8 hf
                  refine lv_iconst (v := (0 : Int32)) X.1 X.2.1 dX6_place_178 (by decide) ?_
                  obtain ⟨M10, e9, hf⟩ := px_bq_e hf
                  refine px_cV (As := [.int p2, .int p4, .int p3, .int (0 : Int32)]) (rest := []) X hml hl w (cR_M_addTimer l D cs ad e9) lk_6_239 (by decide) (rcR_0 X.2.2.2.2 w) rfl (Nat.le_of_ble_eq_true rfl) dX6_place_179 (fun H locs w => ?_)
                  cases hf
                  exact px_retV X hr hlk w dX6_place_182
                · have hf := px_ip c8 hf
                  refine lv_iconst (v := (1 : Int32)) X.1 X.2.1 dX6_place_174 (by decide) ?_
                  refine lv_goto (tgt := 179) X.1 X.2.1 dX6_place_175 (by decide) ?_
                  obtain ⟨M12, e11, hf⟩ := px_bq_e hf
                  refine px_cV (As := [.int p2, .int p4, .int p3, .int (1 : Int32)]) (rest := []) X hml hl w (cR_M_addTimer l D cs ad e11) lk_6_239 (by decide) (rcR_0 X.2.2.2.2 w) rfl (Nat.le_of_ble_eq_true rfl) dX6_place_179 (fun H locs w => ?_)
                  cases hf
                  exact px_retV X hr hlk w dX6_place_182
              · have hf := px_ip c7 hf
                refine lv_aload_n X.1 X.2.1 dX6_place_141 rfl (lv_at hl 1 rfl) ?_
                refine gtR_0_44 X w dX6_place_142 ?_
                refine lv_aload_n X.1 X.2.1 dX6_place_145 rfl (lv_at hl 1 rfl) ?_
                refine gtR_0_43 X w dX6_place_146 ?_
                refine lv_iload_n X.1 X.2.1 dX6_place_149 rfl (lv_at hl 3 rfl) ?_
                obtain ⟨b13, hf⟩ := px_ck_e hf
                refine isR_32 X w b13 dX6_place_150 (fun H locs w => ?_)
                obtain ⟨M14, eM14, hf⟩ := px_bn_e hf
                rw [← eM14] at w
                refine lv_aload_n X.1 X.2.1 dX6_place_151 rfl (lv_at hl 1 rfl) ?_
                refine lv_dup X.1 X.2.1 dX6_place_152 rfl ?_
                refine gtR_0_43 X w dX6_place_153 ?_
                refine lv_iconst (v := (1 : Int32)) X.1 X.2.1 dX6_place_156 (by decide) ?_
                refine lv_iadd X.1 X.2.1 dX6_place_157 ?_
                refine ptR_0_43 X w dX6_place_158 (fun H locs w => ?_)
                obtain ⟨M15, eM15, hf⟩ := px_bn_e hf
                rw [← eM15] at w
                refine lv_goto (tgt := 182) X.1 X.2.1 dX6_place_161 (by decide) ?_
                cases hf
                exact px_retV X hr hlk w dX6_place_182
            · have hf := px_ip c6 hf
              refine lv_aload_n X.1 X.2.1 dX6_place_124 rfl (lv_at hl 1 rfl) ?_
              refine lv_iconst (v := (0 : Int32)) X.1 X.2.1 dX6_place_125 (by decide) ?_
              refine lv_iload_n X.1 X.2.1 dX6_place_126 rfl (lv_at hl 3 rfl) ?_
              refine lv_iload X.1 X.2.1 dX6_place_127 (lv_at hl 5 rfl) ?_
              obtain ⟨M17, e16, hf⟩ := px_bq_e hf
              refine px_cV (As := [.int (0 : Int32), .int p2, .int p4]) (rest := []) X hml hl w (cR_M_addMicro l D cs ad e16) lk_6_176 (by decide) (rcR_0 X.2.2.2.2 w) rfl (Nat.le_of_ble_eq_true rfl) dX6_place_129 (fun H locs w => ?_)
              refine lv_goto (tgt := 182) X.1 X.2.1 dX6_place_132 (by decide) ?_
              cases hf
              exact px_retV X hr hlk w dX6_place_182
          · have hf := px_ip c5 hf
            refine lv_aload_n X.1 X.2.1 dX6_place_107 rfl (lv_at hl 1 rfl) ?_
            refine lv_iload_n X.1 X.2.1 dX6_place_108 rfl (lv_at hl 4 rfl) ?_
            refine lv_iload_n X.1 X.2.1 dX6_place_109 rfl (lv_at hl 3 rfl) ?_
            refine lv_iload X.1 X.2.1 dX6_place_110 (lv_at hl 5 rfl) ?_
            refine lv_iconst (v := (0 : Int32)) X.1 X.2.1 dX6_place_112 (by decide) ?_
            obtain ⟨M19, e18, hf⟩ := px_bq_e hf
            refine px_cV (As := [.int p3, .int p2, .int p4, .int (0 : Int32)]) (rest := []) X hml hl w (cR_M_addTask l D cs ad e18) lk_6_160 (by decide) (rcR_0 X.2.2.2.2 w) rfl (Nat.le_of_ble_eq_true rfl) dX6_place_113 (fun H locs w => ?_)
            refine lv_goto (tgt := 182) X.1 X.2.1 dX6_place_116 (by decide) ?_
            cases hf
            exact px_retV X hr hlk w dX6_place_182
        · have hf := px_ip c4 hf
          refine lv_iconst (v := (1 : Int32)) X.1 X.2.1 dX6_place_81 (by decide) ?_
          refine lv_goto (tgt := 86) X.1 X.2.1 dX6_place_82 (by decide) ?_
          refine lv_istore (lv' := [(5, .int (1 : Int32)), (0, .ref (ad 0)), (1, .int p1), (2, .int p2), (3, .int p3), (4, .int p4)]) X.1 X.2.1 dX6_place_86 hl (by decide) rfl (fun ls hl => ?_)
          refine lv_iload X.1 X.2.1 dX6_place_88 (lv_at hl 0 rfl) ?_
          refine lv_if_eq (tgt := 102) X.1 X.2.1 dX6_place_90 (by decide) (fun c => absurd c (by decide)) (fun _ => ?_)
          refine lv_aload_n X.1 X.2.1 dX6_place_93 rfl (lv_at hl 1 rfl) ?_
          refine lv_bipush (v := (-2 : Int32)) X.1 X.2.1 dX6_place_94 (by decide) ?_
          obtain ⟨M21, e20, hf⟩ := px_bq_e hf
          refine px_cV (As := [.int (-2 : Int32)]) (rest := []) X hml hl w (cR_M_fail l D cs ad e20) lk_6_219 (by decide) (rcR_0 X.2.2.2.2 w) rfl (Nat.le_of_ble_eq_true rfl) dX6_place_96 (fun H locs w => ?_)
          refine lv_goto (tgt := 182) X.1 X.2.1 dX6_place_99 (by decide) ?_
          cases hf
          exact px_retV X hr hlk w dX6_place_182
      · have hf := px_ip c3 hf
        refine lv_aload_n X.1 X.2.1 dX6_place_50 rfl (lv_at hl 0 rfl) ?_
        refine gtR_0_43 X w dX6_place_51 ?_
        refine lv_aload_n X.1 X.2.1 dX6_place_54 rfl (lv_at hl 0 rfl) ?_
        refine gtR_0_46 X w dX6_place_55 ?_
        refine lv_iadd X.1 X.2.1 dX6_place_58 ?_
        refine lv_bipush (v := (8 : Int32)) X.1 X.2.1 dX6_place_59 (by decide) ?_
        refine lv_icmp_lt (tgt := 68) X.1 X.2.1 dX6_place_61 (by decide) (fun c22 => ?_) (fun c22 => ?_)
        · have hf := px_ip c22 hf
          refine lv_iconst (v := (0 : Int32)) X.1 X.2.1 dX6_place_68 (by decide) ?_
          refine lv_goto (tgt := 86) X.1 X.2.1 dX6_place_69 (by decide) ?_
          refine lv_istore (lv' := [(5, .int (0 : Int32)), (0, .ref (ad 0)), (1, .int p1), (2, .int p2), (3, .int p3), (4, .int p4)]) X.1 X.2.1 dX6_place_86 hl (by decide) rfl (fun ls hl => ?_)
          refine lv_iload X.1 X.2.1 dX6_place_88 (lv_at hl 0 rfl) ?_
          refine lv_if_eq (tgt := 102) X.1 X.2.1 dX6_place_90 (by decide) (fun _ => ?_) (fun c => absurd c (by decide))
          refine lv_iload_n X.1 X.2.1 dX6_place_102 rfl (lv_at hl 2 rfl) ?_
          refine lv_iconst (v := (1 : Int32)) X.1 X.2.1 dX6_place_103 (by decide) ?_
          refine lv_icmp_ne (tgt := 119) X.1 X.2.1 dX6_place_104 (by decide) (fun c23 => ?_) (fun c23 => ?_)
          · have hf := px_in c23 hf
            refine lv_iload_n X.1 X.2.1 dX6_place_119 rfl (lv_at hl 2 rfl) ?_
            refine lv_iconst (v := (2 : Int32)) X.1 X.2.1 dX6_place_120 (by decide) ?_
            refine lv_icmp_ne (tgt := 135) X.1 X.2.1 dX6_place_121 (by decide) (fun c24 => ?_) (fun c24 => ?_)
            · have hf := px_in c24 hf
              refine lv_iload_n X.1 X.2.1 dX6_place_135 rfl (lv_at hl 2 rfl) ?_
              refine lv_bipush (v := (14 : Int32)) X.1 X.2.1 dX6_place_136 (by decide) ?_
              refine lv_icmp_ne (tgt := 164) X.1 X.2.1 dX6_place_138 (by decide) (fun c25 => ?_) (fun c25 => ?_)
              · have hf := px_in c25 hf
                refine lv_aload_n X.1 X.2.1 dX6_place_164 rfl (lv_at hl 1 rfl) ?_
                refine lv_iload_n X.1 X.2.1 dX6_place_165 rfl (lv_at hl 3 rfl) ?_
                refine lv_iload X.1 X.2.1 dX6_place_166 (lv_at hl 5 rfl) ?_
                refine lv_iload_n X.1 X.2.1 dX6_place_168 rfl (lv_at hl 4 rfl) ?_
                refine lv_iload_n X.1 X.2.1 dX6_place_169 rfl (lv_at hl 2 rfl) ?_
                refine lv_iconst (v := (4 : Int32)) X.1 X.2.1 dX6_place_170 (by decide) ?_
                refine lv_icmp_ne (tgt := 178) X.1 X.2.1 dX6_place_171 (by decide) (fun c26 => ?_) (fun c26 => ?_)
                · have hf := px_in c26 hf
                  refine lv_iconst (v := (0 : Int32)) X.1 X.2.1 dX6_place_178 (by decide) ?_
                  obtain ⟨M28, e27, hf⟩ := px_bq_e hf
                  refine px_cV (As := [.int p2, .int p4, .int p3, .int (0 : Int32)]) (rest := []) X hml hl w (cR_M_addTimer l D cs ad e27) lk_6_239 (by decide) (rcR_0 X.2.2.2.2 w) rfl (Nat.le_of_ble_eq_true rfl) dX6_place_179 (fun H locs w => ?_)
                  cases hf
                  exact px_retV X hr hlk w dX6_place_182
                · have hf := px_ip c26 hf
                  refine lv_iconst (v := (1 : Int32)) X.1 X.2.1 dX6_place_174 (by decide) ?_
                  refine lv_goto (tgt := 179) X.1 X.2.1 dX6_place_175 (by decide) ?_
                  obtain ⟨M30, e29, hf⟩ := px_bq_e hf
                  refine px_cV (As := [.int p2, .int p4, .int p3, .int (1 : Int32)]) (rest := []) X hml hl w (cR_M_addTimer l D cs ad e29) lk_6_239 (by decide) (rcR_0 X.2.2.2.2 w) rfl (Nat.le_of_ble_eq_true rfl) dX6_place_179 (fun H locs w => ?_)
                  cases hf
                  exact px_retV X hr hlk w dX6_place_182
              · have hf := px_ip c25 hf
                refine lv_aload_n X.1 X.2.1 dX6_place_141 rfl (lv_at hl 1 rfl) ?_
                refine gtR_0_44 X w dX6_place_142 ?_
                refine lv_aload_n X.1 X.2.1 dX6_place_145 rfl (lv_at hl 1 rfl) ?_
                refine gtR_0_43 X w dX6_place_146 ?_
                refine lv_iload_n X.1 X.2.1 dX6_place_149 rfl (lv_at hl 3 rfl) ?_
                obtain ⟨b31, hf⟩ := px_ck_e hf
                refine isR_32 X w b31 dX6_place_150 (fun H locs w => ?_)
                obtain ⟨M32, eM32, hf⟩ := px_bn_e hf
                rw [← eM32] at w
                refine lv_aload_n X.1 X.2.1 dX6_place_151 rfl (lv_at hl 1 rfl) ?_
                refine lv_dup X.1 X.2.1 dX6_place_152 rfl ?_
                refine gtR_0_43 X w dX6_place_153 ?_
                refine lv_iconst (v := (1 : Int32)) X.1 X.2.1 dX6_place_156 (by decide) ?_
                refine lv_iadd X.1 X.2.1 dX6_place_157 ?_
                refine ptR_0_43 X w dX6_place_158 (fun H locs w => ?_)
                obtain ⟨M33, eM33, hf⟩ := px_bn_e hf
                rw [← eM33] at w
                refine lv_goto (tgt := 182) X.1 X.2.1 dX6_place_161 (by decide) ?_
                cases hf
                exact px_retV X hr hlk w dX6_place_182
            · have hf := px_ip c24 hf
              refine lv_aload_n X.1 X.2.1 dX6_place_124 rfl (lv_at hl 1 rfl) ?_
              refine lv_iconst (v := (0 : Int32)) X.1 X.2.1 dX6_place_125 (by decide) ?_
              refine lv_iload_n X.1 X.2.1 dX6_place_126 rfl (lv_at hl 3 rfl) ?_
              refine lv_iload X.1 X.2.1 dX6_place_127 (lv_at hl 5 rfl) ?_
              obtain ⟨M35, e34, hf⟩ := px_bq_e hf
              refine px_cV (As := [.int (0 : Int32), .int p2, .int p4]) (rest := []) X hml hl w (cR_M_addMicro l D cs ad e34) lk_6_176 (by decide) (rcR_0 X.2.2.2.2 w) rfl (Nat.le_of_ble_eq_true rfl) dX6_place_129 (fun H locs w => ?_)
              refine lv_goto (tgt := 182) X.1 X.2.1 dX6_place_132 (by decide) ?_
              cases hf
              exact px_retV X hr hlk w dX6_place_182
          · have hf := px_ip c23 hf
            refine lv_aload_n X.1 X.2.1 dX6_place_107 rfl (lv_at hl 1 rfl) ?_
            refine lv_iload_n X.1 X.2.1 dX6_place_108 rfl (lv_at hl 4 rfl) ?_
            refine lv_iload_n X.1 X.2.1 dX6_place_109 rfl (lv_at hl 3 rfl) ?_
            refine lv_iload X.1 X.2.1 dX6_place_110 (lv_at hl 5 rfl) ?_
            refine lv_iconst (v := (0 : Int32)) X.1 X.2.1 dX6_place_112 (by decide) ?_
            obtain ⟨M37, e36, hf⟩ := px_bq_e hf
            refine px_cV (As := [.int p3, .int p2, .int p4, .int (0 : Int32)]) (rest := []) X hml hl w (cR_M_addTask l D cs ad e36) lk_6_160 (by decide) (rcR_0 X.2.2.2.2 w) rfl (Nat.le_of_ble_eq_true rfl) dX6_place_113 (fun H locs w => ?_)
            refine lv_goto (tgt := 182) X.1 X.2.1 dX6_place_116 (by decide) ?_
            cases hf
            exact px_retV X hr hlk w dX6_place_182
        · have hf := px_in c22 hf
          refine lv_iconst (v := (1 : Int32)) X.1 X.2.1 dX6_place_64 (by decide) ?_
          refine lv_goto (tgt := 86) X.1 X.2.1 dX6_place_65 (by decide) ?_
          refine lv_istore (lv' := [(5, .int (1 : Int32)), (0, .ref (ad 0)), (1, .int p1), (2, .int p2), (3, .int p3), (4, .int p4)]) X.1 X.2.1 dX6_place_86 hl (by decide) rfl (fun ls hl => ?_)
          refine lv_iload X.1 X.2.1 dX6_place_88 (lv_at hl 0 rfl) ?_
          refine lv_if_eq (tgt := 102) X.1 X.2.1 dX6_place_90 (by decide) (fun c => absurd c (by decide)) (fun _ => ?_)
          refine lv_aload_n X.1 X.2.1 dX6_place_93 rfl (lv_at hl 1 rfl) ?_
          refine lv_bipush (v := (-2 : Int32)) X.1 X.2.1 dX6_place_94 (by decide) ?_
          obtain ⟨M39, e38, hf⟩ := px_bq_e hf
          refine px_cV (As := [.int (-2 : Int32)]) (rest := []) X hml hl w (cR_M_fail l D cs ad e38) lk_6_219 (by decide) (rcR_0 X.2.2.2.2 w) rfl (Nat.le_of_ble_eq_true rfl) dX6_place_96 (fun H locs w => ?_)
          refine lv_goto (tgt := 182) X.1 X.2.1 dX6_place_99 (by decide) ?_
          cases hf
          exact px_retV X hr hlk w dX6_place_182
    · have hf := px_ip c2 hf
      refine lv_aload_n X.1 X.2.1 dX6_place_27 rfl (lv_at hl 0 rfl) ?_
      refine gtR_0_21 X w dX6_place_28 ?_
      refine lv_bipush (v := (60 : Int32)) X.1 X.2.1 dX6_place_31 (by decide) ?_
      refine lv_icmp_lt (tgt := 40) X.1 X.2.1 dX6_place_33 (by decide) (fun c40 => ?_) (fun c40 => ?_)
      · have hf := px_ip c40 hf
        refine lv_iconst (v := (0 : Int32)) X.1 X.2.1 dX6_place_40 (by decide) ?_
        refine lv_goto (tgt := 86) X.1 X.2.1 dX6_place_41 (by decide) ?_
        refine lv_istore (lv' := [(5, .int (0 : Int32)), (0, .ref (ad 0)), (1, .int p1), (2, .int p2), (3, .int p3), (4, .int p4)]) X.1 X.2.1 dX6_place_86 hl (by decide) rfl (fun ls hl => ?_)
        refine lv_iload X.1 X.2.1 dX6_place_88 (lv_at hl 0 rfl) ?_
        refine lv_if_eq (tgt := 102) X.1 X.2.1 dX6_place_90 (by decide) (fun _ => ?_) (fun c => absurd c (by decide))
        refine lv_iload_n X.1 X.2.1 dX6_place_102 rfl (lv_at hl 2 rfl) ?_
        refine lv_iconst (v := (1 : Int32)) X.1 X.2.1 dX6_place_103 (by decide) ?_
        refine lv_icmp_ne (tgt := 119) X.1 X.2.1 dX6_place_104 (by decide) (fun c41 => ?_) (fun c41 => ?_)
        · have hf := px_in c41 hf
          refine lv_iload_n X.1 X.2.1 dX6_place_119 rfl (lv_at hl 2 rfl) ?_
          refine lv_iconst (v := (2 : Int32)) X.1 X.2.1 dX6_place_120 (by decide) ?_
          refine lv_icmp_ne (tgt := 135) X.1 X.2.1 dX6_place_121 (by decide) (fun c42 => ?_) (fun c42 => ?_)
          · have hf := px_in c42 hf
            refine lv_iload_n X.1 X.2.1 dX6_place_135 rfl (lv_at hl 2 rfl) ?_
            refine lv_bipush (v := (14 : Int32)) X.1 X.2.1 dX6_place_136 (by decide) ?_
            refine lv_icmp_ne (tgt := 164) X.1 X.2.1 dX6_place_138 (by decide) (fun c43 => ?_) (fun c43 => ?_)
            · have hf := px_in c43 hf
              refine lv_aload_n X.1 X.2.1 dX6_place_164 rfl (lv_at hl 1 rfl) ?_
              refine lv_iload_n X.1 X.2.1 dX6_place_165 rfl (lv_at hl 3 rfl) ?_
              refine lv_iload X.1 X.2.1 dX6_place_166 (lv_at hl 5 rfl) ?_
              refine lv_iload_n X.1 X.2.1 dX6_place_168 rfl (lv_at hl 4 rfl) ?_
              refine lv_iload_n X.1 X.2.1 dX6_place_169 rfl (lv_at hl 2 rfl) ?_
              refine lv_iconst (v := (4 : Int32)) X.1 X.2.1 dX6_place_170 (by decide) ?_
              refine lv_icmp_ne (tgt := 178) X.1 X.2.1 dX6_place_171 (by decide) (fun c44 => ?_) (fun c44 => ?_)
              · have hf := px_in c44 hf
                refine lv_iconst (v := (0 : Int32)) X.1 X.2.1 dX6_place_178 (by decide) ?_
                obtain ⟨M46, e45, hf⟩ := px_bq_e hf
                refine px_cV (As := [.int p2, .int p4, .int p3, .int (0 : Int32)]) (rest := []) X hml hl w (cR_M_addTimer l D cs ad e45) lk_6_239 (by decide) (rcR_0 X.2.2.2.2 w) rfl (Nat.le_of_ble_eq_true rfl) dX6_place_179 (fun H locs w => ?_)
                cases hf
                exact px_retV X hr hlk w dX6_place_182
              · have hf := px_ip c44 hf
                refine lv_iconst (v := (1 : Int32)) X.1 X.2.1 dX6_place_174 (by decide) ?_
                refine lv_goto (tgt := 179) X.1 X.2.1 dX6_place_175 (by decide) ?_
                obtain ⟨M48, e47, hf⟩ := px_bq_e hf
                refine px_cV (As := [.int p2, .int p4, .int p3, .int (1 : Int32)]) (rest := []) X hml hl w (cR_M_addTimer l D cs ad e47) lk_6_239 (by decide) (rcR_0 X.2.2.2.2 w) rfl (Nat.le_of_ble_eq_true rfl) dX6_place_179 (fun H locs w => ?_)
                cases hf
                exact px_retV X hr hlk w dX6_place_182
            · have hf := px_ip c43 hf
              refine lv_aload_n X.1 X.2.1 dX6_place_141 rfl (lv_at hl 1 rfl) ?_
              refine gtR_0_44 X w dX6_place_142 ?_
              refine lv_aload_n X.1 X.2.1 dX6_place_145 rfl (lv_at hl 1 rfl) ?_
              refine gtR_0_43 X w dX6_place_146 ?_
              refine lv_iload_n X.1 X.2.1 dX6_place_149 rfl (lv_at hl 3 rfl) ?_
              obtain ⟨b49, hf⟩ := px_ck_e hf
              refine isR_32 X w b49 dX6_place_150 (fun H locs w => ?_)
              obtain ⟨M50, eM50, hf⟩ := px_bn_e hf
              rw [← eM50] at w
              refine lv_aload_n X.1 X.2.1 dX6_place_151 rfl (lv_at hl 1 rfl) ?_
              refine lv_dup X.1 X.2.1 dX6_place_152 rfl ?_
              refine gtR_0_43 X w dX6_place_153 ?_
              refine lv_iconst (v := (1 : Int32)) X.1 X.2.1 dX6_place_156 (by decide) ?_
              refine lv_iadd X.1 X.2.1 dX6_place_157 ?_
              refine ptR_0_43 X w dX6_place_158 (fun H locs w => ?_)
              obtain ⟨M51, eM51, hf⟩ := px_bn_e hf
              rw [← eM51] at w
              refine lv_goto (tgt := 182) X.1 X.2.1 dX6_place_161 (by decide) ?_
              cases hf
              exact px_retV X hr hlk w dX6_place_182
          · have hf := px_ip c42 hf
            refine lv_aload_n X.1 X.2.1 dX6_place_124 rfl (lv_at hl 1 rfl) ?_
            refine lv_iconst (v := (0 : Int32)) X.1 X.2.1 dX6_place_125 (by decide) ?_
            refine lv_iload_n X.1 X.2.1 dX6_place_126 rfl (lv_at hl 3 rfl) ?_
            refine lv_iload X.1 X.2.1 dX6_place_127 (lv_at hl 5 rfl) ?_
            obtain ⟨M53, e52, hf⟩ := px_bq_e hf
            refine px_cV (As := [.int (0 : Int32), .int p2, .int p4]) (rest := []) X hml hl w (cR_M_addMicro l D cs ad e52) lk_6_176 (by decide) (rcR_0 X.2.2.2.2 w) rfl (Nat.le_of_ble_eq_true rfl) dX6_place_129 (fun H locs w => ?_)
            refine lv_goto (tgt := 182) X.1 X.2.1 dX6_place_132 (by decide) ?_
            cases hf
            exact px_retV X hr hlk w dX6_place_182
        · have hf := px_ip c41 hf
          refine lv_aload_n X.1 X.2.1 dX6_place_107 rfl (lv_at hl 1 rfl) ?_
          refine lv_iload_n X.1 X.2.1 dX6_place_108 rfl (lv_at hl 4 rfl) ?_
          refine lv_iload_n X.1 X.2.1 dX6_place_109 rfl (lv_at hl 3 rfl) ?_
          refine lv_iload X.1 X.2.1 dX6_place_110 (lv_at hl 5 rfl) ?_
          refine lv_iconst (v := (0 : Int32)) X.1 X.2.1 dX6_place_112 (by decide) ?_
          obtain ⟨M55, e54, hf⟩ := px_bq_e hf
          refine px_cV (As := [.int p3, .int p2, .int p4, .int (0 : Int32)]) (rest := []) X hml hl w (cR_M_addTask l D cs ad e54) lk_6_160 (by decide) (rcR_0 X.2.2.2.2 w) rfl (Nat.le_of_ble_eq_true rfl) dX6_place_113 (fun H locs w => ?_)
          refine lv_goto (tgt := 182) X.1 X.2.1 dX6_place_116 (by decide) ?_
          cases hf
          exact px_retV X hr hlk w dX6_place_182
      · have hf := px_in c40 hf
        refine lv_iconst (v := (1 : Int32)) X.1 X.2.1 dX6_place_36 (by decide) ?_
        refine lv_goto (tgt := 86) X.1 X.2.1 dX6_place_37 (by decide) ?_
        refine lv_istore (lv' := [(5, .int (1 : Int32)), (0, .ref (ad 0)), (1, .int p1), (2, .int p2), (3, .int p3), (4, .int p4)]) X.1 X.2.1 dX6_place_86 hl (by decide) rfl (fun ls hl => ?_)
        refine lv_iload X.1 X.2.1 dX6_place_88 (lv_at hl 0 rfl) ?_
        refine lv_if_eq (tgt := 102) X.1 X.2.1 dX6_place_90 (by decide) (fun c => absurd c (by decide)) (fun _ => ?_)
        refine lv_aload_n X.1 X.2.1 dX6_place_93 rfl (lv_at hl 1 rfl) ?_
        refine lv_bipush (v := (-2 : Int32)) X.1 X.2.1 dX6_place_94 (by decide) ?_
        obtain ⟨M57, e56, hf⟩ := px_bq_e hf
        refine px_cV (As := [.int (-2 : Int32)]) (rest := []) X hml hl w (cR_M_fail l D cs ad e56) lk_6_219 (by decide) (rcR_0 X.2.2.2.2 w) rfl (Nat.le_of_ble_eq_true rfl) dX6_place_96 (fun H locs w => ?_)
        refine lv_goto (tgt := 182) X.1 X.2.1 dX6_place_99 (by decide) ?_
        cases hf
        exact px_retV X hr hlk w dX6_place_182
  · have hf := px_ip c1 hf
    refine lv_aload_n X.1 X.2.1 dX6_place_5 rfl (lv_at hl 0 rfl) ?_
    refine gtR_0_25 X w dX6_place_6 ?_
    refine lv_bipush (v := (40 : Int32)) X.1 X.2.1 dX6_place_9 (by decide) ?_
    refine lv_icmp_lt (tgt := 18) X.1 X.2.1 dX6_place_11 (by decide) (fun c58 => ?_) (fun c58 => ?_)
    · have hf := px_ip c58 hf
      refine lv_iconst (v := (0 : Int32)) X.1 X.2.1 dX6_place_18 (by decide) ?_
      refine lv_goto (tgt := 86) X.1 X.2.1 dX6_place_19 (by decide) ?_
      refine lv_istore (lv' := [(5, .int (0 : Int32)), (0, .ref (ad 0)), (1, .int p1), (2, .int p2), (3, .int p3), (4, .int p4)]) X.1 X.2.1 dX6_place_86 hl (by decide) rfl (fun ls hl => ?_)
      refine lv_iload X.1 X.2.1 dX6_place_88 (lv_at hl 0 rfl) ?_
      refine lv_if_eq (tgt := 102) X.1 X.2.1 dX6_place_90 (by decide) (fun _ => ?_) (fun c => absurd c (by decide))
      refine lv_iload_n X.1 X.2.1 dX6_place_102 rfl (lv_at hl 2 rfl) ?_
      refine lv_iconst (v := (1 : Int32)) X.1 X.2.1 dX6_place_103 (by decide) ?_
      refine lv_icmp_ne (tgt := 119) X.1 X.2.1 dX6_place_104 (by decide) (fun c59 => ?_) (fun c59 => ?_)
      · have hf := px_in c59 hf
        refine lv_iload_n X.1 X.2.1 dX6_place_119 rfl (lv_at hl 2 rfl) ?_
        refine lv_iconst (v := (2 : Int32)) X.1 X.2.1 dX6_place_120 (by decide) ?_
        refine lv_icmp_ne (tgt := 135) X.1 X.2.1 dX6_place_121 (by decide) (fun c60 => ?_) (fun c60 => ?_)
        · have hf := px_in c60 hf
          refine lv_iload_n X.1 X.2.1 dX6_place_135 rfl (lv_at hl 2 rfl) ?_
          refine lv_bipush (v := (14 : Int32)) X.1 X.2.1 dX6_place_136 (by decide) ?_
          refine lv_icmp_ne (tgt := 164) X.1 X.2.1 dX6_place_138 (by decide) (fun c61 => ?_) (fun c61 => ?_)
          · have hf := px_in c61 hf
            refine lv_aload_n X.1 X.2.1 dX6_place_164 rfl (lv_at hl 1 rfl) ?_
            refine lv_iload_n X.1 X.2.1 dX6_place_165 rfl (lv_at hl 3 rfl) ?_
            refine lv_iload X.1 X.2.1 dX6_place_166 (lv_at hl 5 rfl) ?_
            refine lv_iload_n X.1 X.2.1 dX6_place_168 rfl (lv_at hl 4 rfl) ?_
            refine lv_iload_n X.1 X.2.1 dX6_place_169 rfl (lv_at hl 2 rfl) ?_
            refine lv_iconst (v := (4 : Int32)) X.1 X.2.1 dX6_place_170 (by decide) ?_
            refine lv_icmp_ne (tgt := 178) X.1 X.2.1 dX6_place_171 (by decide) (fun c62 => ?_) (fun c62 => ?_)
            · have hf := px_in c62 hf
              refine lv_iconst (v := (0 : Int32)) X.1 X.2.1 dX6_place_178 (by decide) ?_
              obtain ⟨M64, e63, hf⟩ := px_bq_e hf
              refine px_cV (As := [.int p2, .int p4, .int p3, .int (0 : Int32)]) (rest := []) X hml hl w (cR_M_addTimer l D cs ad e63) lk_6_239 (by decide) (rcR_0 X.2.2.2.2 w) rfl (Nat.le_of_ble_eq_true rfl) dX6_place_179 (fun H locs w => ?_)
              cases hf
              exact px_retV X hr hlk w dX6_place_182
            · have hf := px_ip c62 hf
              refine lv_iconst (v := (1 : Int32)) X.1 X.2.1 dX6_place_174 (by decide) ?_
              refine lv_goto (tgt := 179) X.1 X.2.1 dX6_place_175 (by decide) ?_
              obtain ⟨M66, e65, hf⟩ := px_bq_e hf
              refine px_cV (As := [.int p2, .int p4, .int p3, .int (1 : Int32)]) (rest := []) X hml hl w (cR_M_addTimer l D cs ad e65) lk_6_239 (by decide) (rcR_0 X.2.2.2.2 w) rfl (Nat.le_of_ble_eq_true rfl) dX6_place_179 (fun H locs w => ?_)
              cases hf
              exact px_retV X hr hlk w dX6_place_182
          · have hf := px_ip c61 hf
            refine lv_aload_n X.1 X.2.1 dX6_place_141 rfl (lv_at hl 1 rfl) ?_
            refine gtR_0_44 X w dX6_place_142 ?_
            refine lv_aload_n X.1 X.2.1 dX6_place_145 rfl (lv_at hl 1 rfl) ?_
            refine gtR_0_43 X w dX6_place_146 ?_
            refine lv_iload_n X.1 X.2.1 dX6_place_149 rfl (lv_at hl 3 rfl) ?_
            obtain ⟨b67, hf⟩ := px_ck_e hf
            refine isR_32 X w b67 dX6_place_150 (fun H locs w => ?_)
            obtain ⟨M68, eM68, hf⟩ := px_bn_e hf
            rw [← eM68] at w
            refine lv_aload_n X.1 X.2.1 dX6_place_151 rfl (lv_at hl 1 rfl) ?_
            refine lv_dup X.1 X.2.1 dX6_place_152 rfl ?_
            refine gtR_0_43 X w dX6_place_153 ?_
            refine lv_iconst (v := (1 : Int32)) X.1 X.2.1 dX6_place_156 (by decide) ?_
            refine lv_iadd X.1 X.2.1 dX6_place_157 ?_
            refine ptR_0_43 X w dX6_place_158 (fun H locs w => ?_)
            obtain ⟨M69, eM69, hf⟩ := px_bn_e hf
            rw [← eM69] at w
            refine lv_goto (tgt := 182) X.1 X.2.1 dX6_place_161 (by decide) ?_
            cases hf
            exact px_retV X hr hlk w dX6_place_182
        · have hf := px_ip c60 hf
          refine lv_aload_n X.1 X.2.1 dX6_place_124 rfl (lv_at hl 1 rfl) ?_
          refine lv_iconst (v := (0 : Int32)) X.1 X.2.1 dX6_place_125 (by decide) ?_
          refine lv_iload_n X.1 X.2.1 dX6_place_126 rfl (lv_at hl 3 rfl) ?_
          refine lv_iload X.1 X.2.1 dX6_place_127 (lv_at hl 5 rfl) ?_
          obtain ⟨M71, e70, hf⟩ := px_bq_e hf
          refine px_cV (As := [.int (0 : Int32), .int p2, .int p4]) (rest := []) X hml hl w (cR_M_addMicro l D cs ad e70) lk_6_176 (by decide) (rcR_0 X.2.2.2.2 w) rfl (Nat.le_of_ble_eq_true rfl) dX6_place_129 (fun H locs w => ?_)
          refine lv_goto (tgt := 182) X.1 X.2.1 dX6_place_132 (by decide) ?_
          cases hf
          exact px_retV X hr hlk w dX6_place_182
      · have hf := px_ip c59 hf
        refine lv_aload_n X.1 X.2.1 dX6_place_107 rfl (lv_at hl 1 rfl) ?_
        refine lv_iload_n X.1 X.2.1 dX6_place_108 rfl (lv_at hl 4 rfl) ?_
        refine lv_iload_n X.1 X.2.1 dX6_place_109 rfl (lv_at hl 3 rfl) ?_
        refine lv_iload X.1 X.2.1 dX6_place_110 (lv_at hl 5 rfl) ?_
        refine lv_iconst (v := (0 : Int32)) X.1 X.2.1 dX6_place_112 (by decide) ?_
        obtain ⟨M73, e72, hf⟩ := px_bq_e hf
        refine px_cV (As := [.int p3, .int p2, .int p4, .int (0 : Int32)]) (rest := []) X hml hl w (cR_M_addTask l D cs ad e72) lk_6_160 (by decide) (rcR_0 X.2.2.2.2 w) rfl (Nat.le_of_ble_eq_true rfl) dX6_place_113 (fun H locs w => ?_)
        refine lv_goto (tgt := 182) X.1 X.2.1 dX6_place_116 (by decide) ?_
        cases hf
        exact px_retV X hr hlk w dX6_place_182
    · have hf := px_in c58 hf
      refine lv_iconst (v := (1 : Int32)) X.1 X.2.1 dX6_place_14 (by decide) ?_
      refine lv_goto (tgt := 86) X.1 X.2.1 dX6_place_15 (by decide) ?_
      refine lv_istore (lv' := [(5, .int (1 : Int32)), (0, .ref (ad 0)), (1, .int p1), (2, .int p2), (3, .int p3), (4, .int p4)]) X.1 X.2.1 dX6_place_86 hl (by decide) rfl (fun ls hl => ?_)
      refine lv_iload X.1 X.2.1 dX6_place_88 (lv_at hl 0 rfl) ?_
      refine lv_if_eq (tgt := 102) X.1 X.2.1 dX6_place_90 (by decide) (fun c => absurd c (by decide)) (fun _ => ?_)
      refine lv_aload_n X.1 X.2.1 dX6_place_93 rfl (lv_at hl 1 rfl) ?_
      refine lv_bipush (v := (-2 : Int32)) X.1 X.2.1 dX6_place_94 (by decide) ?_
      obtain ⟨M75, e74, hf⟩ := px_bq_e hf
      refine px_cV (As := [.int (-2 : Int32)]) (rest := []) X hml hl w (cR_M_fail l D cs ad e74) lk_6_219 (by decide) (rcR_0 X.2.2.2.2 w) rfl (Nat.le_of_ble_eq_true rfl) dX6_place_96 (fun H locs w => ?_)
      refine lv_goto (tgt := 182) X.1 X.2.1 dX6_place_99 (by decide) ?_
      cases hf
      exact px_retV X hr hlk w dX6_place_182
theorem lk_6_246 : px_Lk RX6 246 yX6_resolve cX6_resolve 4 none 3 := ⟨px_tb (by decide +kernel) (by decide +kernel), px_tb (by decide +kernel) (by decide +kernel), px_tb (by decide +kernel) (by decide +kernel), px_tb (by decide +kernel) (by decide +kernel), px_tb (by decide +kernel) (by decide +kernel), by decide +kernel, by decide⟩
theorem lk_6_243 : px_Lk RX6 243 yX6_reject cX6_reject 3 none 2 := ⟨px_tb (by decide +kernel) (by decide +kernel), px_tb (by decide +kernel) (by decide +kernel), px_tb (by decide +kernel) (by decide +kernel), px_tb (by decide +kernel) (by decide +kernel), px_tb (by decide +kernel) (by decide +kernel), by decide +kernel, by decide⟩
theorem lk_6_250 : px_Lk RX6 250 yX6_then cX6_then 5 none 2 := ⟨px_tb (by decide +kernel) (by decide +kernel), px_tb (by decide +kernel) (by decide +kernel), px_tb (by decide +kernel) (by decide +kernel), px_tb (by decide +kernel) (by decide +kernel), px_tb (by decide +kernel) (by decide +kernel), by decide +kernel, by decide⟩
def fR_M_promiseStep (M : px_M) (p1 p2 p3 p4 : Int32) : Option px_M := px_ck p2 8 (px_bn (((M 5 p2.toNatClampNeg) - (1 : Int32))) (fun x2 => (if p1 = (10 : Int32) then (if (M 0 6) = (40 : Int32) then px_bq (fR_M_fail M (-2 : Int32)) (fun M11 => some M11) else px_bo (fR_M_makePromise M) (fun r6 M7 => px_ck p2 8 (px_bn (px_up M7 5 p2.toNatClampNeg (r6 + (1 : Int32))) (fun M9 => some M9)))) else (if p1 = (11 : Int32) then (if x2 < 0 then (if x2 < 0 then some M else px_bq (fR_M_resolve M x2 (0 : Int32) p4) (fun M16 => some M16)) else (if p3 = (1 : Int32) then px_bq (fR_M_reject M x2 p4) (fun M22 => some M22) else (if x2 < 0 then some M else px_bq (fR_M_resolve M x2 (0 : Int32) p4) (fun M20 => some M20)))) else (if p1 = (12 : Int32) then (if x2 < 0 then some M else px_ck p3 8 ((if (M 5 p3.toNatClampNeg) ≤ 0 then some M else px_ck p3 8 (px_bq (fR_M_resolve M x2 (1 : Int32) ((M 5 p3.toNatClampNeg) - (1 : Int32))) (fun M29 => some M29))))) else (if p1 = (13 : Int32) then px_bq (fR_M_then M p2 p3) (fun M32 => some M32) else px_ck p3 8 (px_ck p2 8 (px_bn (px_up M 5 p2.toNatClampNeg (M 5 p3.toNatClampNeg)) (fun M35 => some M35)))))))))
set_option maxHeartbeats 4000000 in
set_option maxRecDepth 100000 in
theorem cR_M_promiseStep (l : Launch) (D : va_G) (cs : Nat → ClassId) (ad : Nat → Nat) {M : px_M} {p1 p2 p3 p4 : Int32} {M' : px_M} (hf : fR_M_promiseStep M p1 p2 p3 p4 = some M') : px_mV l D (tyR cs) (wR cs ad) yX6_promiseStep cX6_promiseStep 6 3 [.ref (ad 0), .int p1, .int p2, .int p3, .int p4] M M' := by
  refine px_ofV (by decide +kernel) (Nat.le_of_ble_eq_true rfl) ?_
  intro p e s m below meth c A ls X hr hlk hml w hl
  have hl : lv_has ls 6 [(0, .ref (ad 0)), (1, .int p1), (2, .int p2), (3, .int p3), (4, .int p4)] := hl
  unfold fR_M_promiseStep at hf
  refine lv_aload_n X.1 X.2.1 dX6_promiseStep_0 rfl (lv_at hl 0 rfl) ?_
  refine gtR_0_5 X w dX6_promiseStep_1 ?_
  refine lv_iload_n X.1 X.2.1 dX6_promiseStep_4 rfl (lv_at hl 2 rfl) ?_
  obtain ⟨b1, hf⟩ := px_ck_e hf
  refine ilR_5 X w b1 dX6_promiseStep_5 ?_
  refine lv_iconst (v := (1 : Int32)) X.1 X.2.1 dX6_promiseStep_6 (by decide) ?_
  refine lv_isub X.1 X.2.1 dX6_promiseStep_7 ?_
  obtain ⟨x2, ex2, hf⟩ := px_bn_e hf
  rw [← ex2]
  refine lv_istore (lv' := [(5, .int x2), (0, .ref (ad 0)), (1, .int p1), (2, .int p2), (3, .int p3), (4, .int p4)]) X.1 X.2.1 dX6_promiseStep_8 hl (by decide) rfl (fun ls hl => ?_)
  refine lv_iload_n X.1 X.2.1 dX6_promiseStep_10 rfl (lv_at hl 2 rfl) ?_
  by_cases c3 : p1 = (10 : Int32)
  · have hf := px_ip c3 hf
    refine lv_tableIn (tgt := 40) X.1 X.2.1 dX6_promiseStep_11 (by rw [c3]; decide) (by rw [c3]; decide) (by rw [c3]; rfl) (by decide) ?_
    refine lv_aload_n X.1 X.2.1 dX6_promiseStep_40 rfl (lv_at hl 1 rfl) ?_
    refine gtR_0_6 X w dX6_promiseStep_41 ?_
    refine lv_bipush (v := (40 : Int32)) X.1 X.2.1 dX6_promiseStep_44 (by decide) ?_
    refine lv_icmp_ne (tgt := 58) X.1 X.2.1 dX6_promiseStep_46 (by decide) (fun c4 => ?_) (fun c4 => ?_)
    · have hf := px_in c4 hf
      refine lv_aload_n X.1 X.2.1 dX6_promiseStep_58 rfl (lv_at hl 1 rfl) ?_
      refine gtR_0_5 X w dX6_promiseStep_59 ?_
      refine lv_iload_n X.1 X.2.1 dX6_promiseStep_62 rfl (lv_at hl 3 rfl) ?_
      refine lv_aload_n X.1 X.2.1 dX6_promiseStep_63 rfl (lv_at hl 1 rfl) ?_
      obtain ⟨r6, M7, e5, hf⟩ := px_bo_e hf
      refine px_cI (As := []) (rest := [.int p2, .ref (ad 5)]) X hml hl w (cR_M_makePromise l D cs ad e5) lk_6_226 (by decide) (rcR_0 X.2.2.2.2 w) rfl (Nat.le_of_ble_eq_true rfl) dX6_promiseStep_64 (fun H locs w => ?_)
      refine lv_iconst (v := (1 : Int32)) X.1 X.2.1 dX6_promiseStep_67 (by decide) ?_
      refine lv_iadd X.1 X.2.1 dX6_promiseStep_68 ?_
      obtain ⟨b8, hf⟩ := px_ck_e hf
      refine isR_5 X w b8 dX6_promiseStep_69 (fun H locs w => ?_)
      obtain ⟨M9, eM9, hf⟩ := px_bn_e hf
      rw [← eM9] at w
      refine lv_goto (tgt := 164) X.1 X.2.1 dX6_promiseStep_70 (by decide) ?_
      cases hf
      exact px_retV X hr hlk w dX6_promiseStep_164
    · have hf := px_ip c4 hf
      refine lv_aload_n X.1 X.2.1 dX6_promiseStep_49 rfl (lv_at hl 1 rfl) ?_
      refine lv_bipush (v := (-2 : Int32)) X.1 X.2.1 dX6_promiseStep_50 (by decide) ?_
      obtain ⟨M11, e10, hf⟩ := px_bq_e hf
      refine px_cV (As := [.int (-2 : Int32)]) (rest := []) X hml hl w (cR_M_fail l D cs ad e10) lk_6_219 (by decide) (rcR_0 X.2.2.2.2 w) rfl (Nat.le_of_ble_eq_true rfl) dX6_promiseStep_52 (fun H locs w => ?_)
      refine lv_goto (tgt := 164) X.1 X.2.1 dX6_promiseStep_55 (by decide) ?_
      cases hf
      exact px_retV X hr hlk w dX6_promiseStep_164
  · have hf := px_in c3 hf
    by_cases c12 : p1 = (11 : Int32)
    · have hf := px_ip c12 hf
      refine lv_tableIn (tgt := 73) X.1 X.2.1 dX6_promiseStep_11 (by rw [c12]; decide) (by rw [c12]; decide) (by rw [c12]; rfl) (by decide) ?_
      refine lv_iload X.1 X.2.1 dX6_promiseStep_73 (lv_at hl 0 rfl) ?_
      refine lv_if_lt (tgt := 94) X.1 X.2.1 dX6_promiseStep_75 (by decide) (fun c13 => ?_) (fun c13 => ?_)
      · have hf := px_ip c13 hf
        refine lv_iload X.1 X.2.1 dX6_promiseStep_94 (lv_at hl 0 rfl) ?_
        refine lv_if_lt (tgt := 164) X.1 X.2.1 dX6_promiseStep_96 (by decide) (fun c14 => ?_) (fun c14 => ?_)
        · have hf := px_ip c14 hf
          cases hf
          exact px_retV X hr hlk w dX6_promiseStep_164
        · have hf := px_in c14 hf
          refine lv_aload_n X.1 X.2.1 dX6_promiseStep_99 rfl (lv_at hl 1 rfl) ?_
          refine lv_iload X.1 X.2.1 dX6_promiseStep_100 (lv_at hl 0 rfl) ?_
          refine lv_iconst (v := (0 : Int32)) X.1 X.2.1 dX6_promiseStep_102 (by decide) ?_
          refine lv_iload X.1 X.2.1 dX6_promiseStep_103 (lv_at hl 5 rfl) ?_
          obtain ⟨M16, e15, hf⟩ := px_bq_e hf
          refine px_cV (As := [.int x2, .int (0 : Int32), .int p4]) (rest := []) X hml hl w (cR_M_resolve l D cs ad e15) lk_6_246 (by decide) (rcR_0 X.2.2.2.2 w) rfl (Nat.le_of_ble_eq_true rfl) dX6_promiseStep_105 (fun H locs w => ?_)
          refine lv_goto (tgt := 164) X.1 X.2.1 dX6_promiseStep_108 (by decide) ?_
          cases hf
          exact px_retV X hr hlk w dX6_promiseStep_164
      · have hf := px_in c13 hf
        refine lv_iload_n X.1 X.2.1 dX6_promiseStep_78 rfl (lv_at hl 4 rfl) ?_
        refine lv_iconst (v := (1 : Int32)) X.1 X.2.1 dX6_promiseStep_79 (by decide) ?_
        refine lv_icmp_ne (tgt := 94) X.1 X.2.1 dX6_promiseStep_80 (by decide) (fun c17 => ?_) (fun c17 => ?_)
        · have hf := px_in c17 hf
          refine lv_iload X.1 X.2.1 dX6_promiseStep_94 (lv_at hl 0 rfl) ?_
          refine lv_if_lt (tgt := 164) X.1 X.2.1 dX6_promiseStep_96 (by decide) (fun c18 => ?_) (fun c18 => ?_)
          · have hf := px_ip c18 hf
            cases hf
            exact px_retV X hr hlk w dX6_promiseStep_164
          · have hf := px_in c18 hf
            refine lv_aload_n X.1 X.2.1 dX6_promiseStep_99 rfl (lv_at hl 1 rfl) ?_
            refine lv_iload X.1 X.2.1 dX6_promiseStep_100 (lv_at hl 0 rfl) ?_
            refine lv_iconst (v := (0 : Int32)) X.1 X.2.1 dX6_promiseStep_102 (by decide) ?_
            refine lv_iload X.1 X.2.1 dX6_promiseStep_103 (lv_at hl 5 rfl) ?_
            obtain ⟨M20, e19, hf⟩ := px_bq_e hf
            refine px_cV (As := [.int x2, .int (0 : Int32), .int p4]) (rest := []) X hml hl w (cR_M_resolve l D cs ad e19) lk_6_246 (by decide) (rcR_0 X.2.2.2.2 w) rfl (Nat.le_of_ble_eq_true rfl) dX6_promiseStep_105 (fun H locs w => ?_)
            refine lv_goto (tgt := 164) X.1 X.2.1 dX6_promiseStep_108 (by decide) ?_
            cases hf
            exact px_retV X hr hlk w dX6_promiseStep_164
        · have hf := px_ip c17 hf
          refine lv_aload_n X.1 X.2.1 dX6_promiseStep_83 rfl (lv_at hl 1 rfl) ?_
          refine lv_iload X.1 X.2.1 dX6_promiseStep_84 (lv_at hl 0 rfl) ?_
          refine lv_iload X.1 X.2.1 dX6_promiseStep_86 (lv_at hl 5 rfl) ?_
          obtain ⟨M22, e21, hf⟩ := px_bq_e hf
          refine px_cV (As := [.int x2, .int p4]) (rest := []) X hml hl w (cR_M_reject l D cs ad e21) lk_6_243 (by decide) (rcR_0 X.2.2.2.2 w) rfl (Nat.le_of_ble_eq_true rfl) dX6_promiseStep_88 (fun H locs w => ?_)
          refine lv_goto (tgt := 164) X.1 X.2.1 dX6_promiseStep_91 (by decide) ?_
          cases hf
          exact px_retV X hr hlk w dX6_promiseStep_164
    · have hf := px_in c12 hf
      by_cases c23 : p1 = (12 : Int32)
      · have hf := px_ip c23 hf
        refine lv_tableIn (tgt := 111) X.1 X.2.1 dX6_promiseStep_11 (by rw [c23]; decide) (by rw [c23]; decide) (by rw [c23]; rfl) (by decide) ?_
        refine lv_iload X.1 X.2.1 dX6_promiseStep_111 (lv_at hl 0 rfl) ?_
        refine lv_if_lt (tgt := 164) X.1 X.2.1 dX6_promiseStep_113 (by decide) (fun c24 => ?_) (fun c24 => ?_)
        · have hf := px_ip c24 hf
          cases hf
          exact px_retV X hr hlk w dX6_promiseStep_164
        · have hf := px_in c24 hf
          refine lv_aload_n X.1 X.2.1 dX6_promiseStep_116 rfl (lv_at hl 1 rfl) ?_
          refine gtR_0_5 X w dX6_promiseStep_117 ?_
          refine lv_iload_n X.1 X.2.1 dX6_promiseStep_120 rfl (lv_at hl 4 rfl) ?_
          obtain ⟨b25, hf⟩ := px_ck_e hf
          refine ilR_5 X w b25 dX6_promiseStep_121 ?_
          refine lv_if_le (tgt := 164) X.1 X.2.1 dX6_promiseStep_122 (by decide) (fun c26 => ?_) (fun c26 => ?_)
          · have hf := px_ip c26 hf
            cases hf
            exact px_retV X hr hlk w dX6_promiseStep_164
          · have hf := px_in c26 hf
            refine lv_aload_n X.1 X.2.1 dX6_promiseStep_125 rfl (lv_at hl 1 rfl) ?_
            refine lv_iload X.1 X.2.1 dX6_promiseStep_126 (lv_at hl 0 rfl) ?_
            refine lv_iconst (v := (1 : Int32)) X.1 X.2.1 dX6_promiseStep_128 (by decide) ?_
            refine lv_aload_n X.1 X.2.1 dX6_promiseStep_129 rfl (lv_at hl 1 rfl) ?_
            refine gtR_0_5 X w dX6_promiseStep_130 ?_
            refine lv_iload_n X.1 X.2.1 dX6_promiseStep_133 rfl (lv_at hl 4 rfl) ?_
            obtain ⟨b27, hf⟩ := px_ck_e hf
            refine ilR_5 X w b27 dX6_promiseStep_134 ?_
            refine lv_iconst (v := (1 : Int32)) X.1 X.2.1 dX6_promiseStep_135 (by decide) ?_
            refine lv_isub X.1 X.2.1 dX6_promiseStep_136 ?_
            obtain ⟨M29, e28, hf⟩ := px_bq_e hf
            refine px_cV (As := [.int x2, .int (1 : Int32), .int ((M 5 p3.toNatClampNeg) - (1 : Int32))]) (rest := []) X hml hl w (cR_M_resolve l D cs ad e28) lk_6_246 (by decide) (rcR_0 X.2.2.2.2 w) rfl (Nat.le_of_ble_eq_true rfl) dX6_promiseStep_137 (fun H locs w => ?_)
            refine lv_goto (tgt := 164) X.1 X.2.1 dX6_promiseStep_140 (by decide) ?_
            cases hf
            exact px_retV X hr hlk w dX6_promiseStep_164
      · have hf := px_in c23 hf
        by_cases c30 : p1 = (13 : Int32)
        · have hf := px_ip c30 hf
          refine lv_tableIn (tgt := 143) X.1 X.2.1 dX6_promiseStep_11 (by rw [c30]; decide) (by rw [c30]; decide) (by rw [c30]; rfl) (by decide) ?_
          refine lv_aload_n X.1 X.2.1 dX6_promiseStep_143 rfl (lv_at hl 1 rfl) ?_
          refine lv_iload_n X.1 X.2.1 dX6_promiseStep_144 rfl (lv_at hl 3 rfl) ?_
          refine lv_iload_n X.1 X.2.1 dX6_promiseStep_145 rfl (lv_at hl 4 rfl) ?_
          obtain ⟨M32, e31, hf⟩ := px_bq_e hf
          refine px_cV (As := [.int p2, .int p3]) (rest := []) X hml hl w (cR_M_then l D cs ad e31) lk_6_250 (by decide) (rcR_0 X.2.2.2.2 w) rfl (Nat.le_of_ble_eq_true rfl) dX6_promiseStep_146 (fun H locs w => ?_)
          refine lv_goto (tgt := 164) X.1 X.2.1 dX6_promiseStep_149 (by decide) ?_
          cases hf
          exact px_retV X hr hlk w dX6_promiseStep_164
        · have hf := px_in c30 hf
          refine lv_tableOut (tgt := 152) X.1 X.2.1 dX6_promiseStep_11 (by have := px_ne (v := 10) (by decide) c3; have := px_ne (v := 11) (by decide) c12; have := px_ne (v := 12) (by decide) c23; have := px_ne (v := 13) (by decide) c30; omega) (by decide) ?_
          refine lv_aload_n X.1 X.2.1 dX6_promiseStep_152 rfl (lv_at hl 1 rfl) ?_
          refine gtR_0_5 X w dX6_promiseStep_153 ?_
          refine lv_iload_n X.1 X.2.1 dX6_promiseStep_156 rfl (lv_at hl 3 rfl) ?_
          refine lv_aload_n X.1 X.2.1 dX6_promiseStep_157 rfl (lv_at hl 1 rfl) ?_
          refine gtR_0_5 X w dX6_promiseStep_158 ?_
          refine lv_iload_n X.1 X.2.1 dX6_promiseStep_161 rfl (lv_at hl 4 rfl) ?_
          obtain ⟨b33, hf⟩ := px_ck_e hf
          refine ilR_5 X w b33 dX6_promiseStep_162 ?_
          obtain ⟨b34, hf⟩ := px_ck_e hf
          refine isR_5 X w b34 dX6_promiseStep_163 (fun H locs w => ?_)
          obtain ⟨M35, eM35, hf⟩ := px_bn_e hf
          rw [← eM35] at w
          cases hf
          exact px_retV X hr hlk w dX6_promiseStep_164
theorem lk_6_141 : px_Lk RX6 141 yX6_outside cX6_outside 4 (some .boolean) 3 := ⟨px_tb (by decide +kernel) (by decide +kernel), px_tb (by decide +kernel) (by decide +kernel), px_tb (by decide +kernel) (by decide +kernel), px_tb (by decide +kernel) (by decide +kernel), px_tb (by decide +kernel) (by decide +kernel), by decide +kernel, by decide⟩
def gR_M_fits_K74 (M : px_M) (y1 y3 y4 y5 y6 y7 : Int32) : Option Int32 := (if y1 = (0 : Int32) then (if y6 = 0 then some (0 : Int32) else (if y7 = 0 then some (0 : Int32) else some (1 : Int32))) else (if y1 = (1 : Int32) then (if y4 = 0 then some (0 : Int32) else px_bq (fR_M_outside M y3 (0 : Int32) (2 : Int32)) (fun r19 => (if r19 = 0 then some (1 : Int32) else some (0 : Int32)))) else (if y1 = (2 : Int32) then px_cb y4 (some y4) else (if y1 = (3 : Int32) then (if y4 = 0 then some (0 : Int32) else px_bq (fR_M_outside M y3 (0 : Int32) (200 : Int32)) (fun r26 => (if r26 = 0 then some (1 : Int32) else some (0 : Int32)))) else (if y1 = (4 : Int32) then (if y4 = 0 then some (0 : Int32) else px_bq (fR_M_outside M y3 (0 : Int32) (200 : Int32)) (fun r31 => (if r31 = 0 then some (1 : Int32) else some (0 : Int32)))) else (if y1 = (5 : Int32) then px_cb y6 (some y6) else (if y1 = (6 : Int32) then (if y6 = 0 then some (0 : Int32) else (if y7 = 0 then some (0 : Int32) else some (1 : Int32))) else (if y1 = (7 : Int32) then px_cb y4 (some y4) else (if y1 = (8 : Int32) then (if y4 = 0 then some (0 : Int32) else px_bq (fR_M_outside M y3 (0 : Int32) (9 : Int32)) (fun r43 => (if r43 = 0 then some (1 : Int32) else some (0 : Int32)))) else (if y1 = (9 : Int32) then px_bq (fR_M_outside M y3 (0 : Int32) (2 : Int32)) (fun r47 => (if r47 = 0 then (if y3 = (2 : Int32) then (if y5 = 0 then some (0 : Int32) else some (1 : Int32)) else (if y6 = 0 then some (0 : Int32) else some (1 : Int32))) else some (0 : Int32))) else (if y1 = (10 : Int32) then px_cb y5 (some y5) else (if y1 = (11 : Int32) then (if y5 = 0 then some (0 : Int32) else (if y7 = 0 then some (0 : Int32) else some (1 : Int32))) else (if y1 = (12 : Int32) then (if y5 = 0 then some (0 : Int32) else px_bq (fR_M_outside M y3 (0 : Int32) (7 : Int32)) (fun r60 => (if r60 = 0 then some (1 : Int32) else some (0 : Int32)))) else (if y1 = (13 : Int32) then (if y5 = 0 then some (0 : Int32) else px_bq (fR_M_outside M y3 (0 : Int32) (255 : Int32)) (fun r65 => (if r65 = 0 then some (1 : Int32) else some (0 : Int32)))) else (if y1 = (14 : Int32) then px_cb y4 (some y4) else (if y5 = 0 then some (0 : Int32) else px_bq (fR_M_outside M y3 (0 : Int32) (7 : Int32)) (fun r71 => (if r71 = 0 then some (1 : Int32) else some (0 : Int32)))))))))))))))))))
set_option maxHeartbeats 4000000 in
set_option maxRecDepth 100000 in
theorem lR_M_fits_K74 {l : Launch} {D : va_G} {cs : Nat → ClassId} {ad : Nat → Nat} {p : Program} {e : Env} {s : State} {m : MethodId} {args : Array Value} {below : List Frame} {meth : Method} {c : Code} {A : Nat → Prop} (X : px_X D (tyR cs) p s m args c cX6_fits yX6_fits.cls) (hr : meth.sig.returnType = (some .boolean)) (hlk : meth.locks = false) (hml : c.maxLocals = 8) : ∀ (M : px_M) (y1 y3 y4 y5 y6 y7 : Int32) (z : Int32), gR_M_fits_K74 M y1 y3 y4 y5 y6 y7 = some z → ∀ (H : Heap) (locs : List Loc) (ls : Array Slot), px_H D (wR cs ad) A s.heap M H locs → lv_has ls 8 [(0, .ref (ad 0)), (1, .int y1), (3, .int y3), (4, .int y4), (5, .int y5), (6, .int y6), (7, .int y7)] → W p l e (px_rm 1) s m args below meth c H locs 0 0 (px_QI D (tyR cs) (wR cs ad) below args s A z M) (F0 m 74 ls []) := by
  intro M y1 y3 y4 y5 y6 y7 z hf H locs ls w hl
  unfold gR_M_fits_K74 at hf
  refine lv_iload_n X.1 X.2.1 dX6_fits_74 rfl (lv_at hl 1 rfl) ?_
  by_cases c13 : y1 = (0 : Int32)
  · have hf := px_ip c13 hf
    refine lv_tableIn (tgt := 148) X.1 X.2.1 dX6_fits_75 (by rw [c13]; decide) (by rw [c13]; decide) (by rw [c13]; rfl) (by decide) ?_
    refine lv_iload X.1 X.2.1 dX6_fits_148 (lv_at hl 5 rfl) ?_
    refine lv_if_eq (tgt := 162) X.1 X.2.1 dX6_fits_150 (by decide) (fun c14 => ?_) (fun c14 => ?_)
    · have hf := px_ip c14 hf
      refine lv_iconst (v := (0 : Int32)) X.1 X.2.1 dX6_fits_162 (by decide) ?_
      cases hf
      exact px_retZ X hr hlk narrow_b0 w dX6_fits_163
    · have hf := px_in c14 hf
      refine lv_iload X.1 X.2.1 dX6_fits_153 (lv_at hl 6 rfl) ?_
      refine lv_if_eq (tgt := 162) X.1 X.2.1 dX6_fits_155 (by decide) (fun c15 => ?_) (fun c15 => ?_)
      · have hf := px_ip c15 hf
        refine lv_iconst (v := (0 : Int32)) X.1 X.2.1 dX6_fits_162 (by decide) ?_
        cases hf
        exact px_retZ X hr hlk narrow_b0 w dX6_fits_163
      · have hf := px_in c15 hf
        refine lv_iconst (v := (1 : Int32)) X.1 X.2.1 dX6_fits_158 (by decide) ?_
        refine lv_goto (tgt := 163) X.1 X.2.1 dX6_fits_159 (by decide) ?_
        cases hf
        exact px_retZ X hr hlk narrow_b1 w dX6_fits_163
  · have hf := px_in c13 hf
    by_cases c16 : y1 = (1 : Int32)
    · have hf := px_ip c16 hf
      refine lv_tableIn (tgt := 164) X.1 X.2.1 dX6_fits_75 (by rw [c16]; decide) (by rw [c16]; decide) (by rw [c16]; rfl) (by decide) ?_
      refine lv_iload X.1 X.2.1 dX6_fits_164 (lv_at hl 3 rfl) ?_
      refine lv_if_eq (tgt := 183) X.1 X.2.1 dX6_fits_166 (by decide) (fun c17 => ?_) (fun c17 => ?_)
      · have hf := px_ip c17 hf
        refine lv_iconst (v := (0 : Int32)) X.1 X.2.1 dX6_fits_183 (by decide) ?_
        cases hf
        exact px_retZ X hr hlk narrow_b0 w dX6_fits_184
      · have hf := px_in c17 hf
        refine lv_aload_n X.1 X.2.1 dX6_fits_169 rfl (lv_at hl 0 rfl) ?_
        refine lv_iload_n X.1 X.2.1 dX6_fits_170 rfl (lv_at hl 2 rfl) ?_
        refine lv_iconst (v := (0 : Int32)) X.1 X.2.1 dX6_fits_171 (by decide) ?_
        refine lv_iconst (v := (2 : Int32)) X.1 X.2.1 dX6_fits_172 (by decide) ?_
        obtain ⟨r19, e18, hf⟩ := px_bq_e hf
        refine px_cI (As := [.int y3, .int (0 : Int32), .int (2 : Int32)]) (rest := []) X hml hl w (cR_M_outside l D cs ad e18) lk_6_141 (by decide) (rcR_0 X.2.2.2.2 w) rfl (Nat.le_of_ble_eq_true rfl) dX6_fits_173 (fun H locs w => ?_)
        refine lv_if_ne (tgt := 183) X.1 X.2.1 dX6_fits_176 (by decide) (fun c20 => ?_) (fun c20 => ?_)
        · have hf := px_in c20 hf
          refine lv_iconst (v := (0 : Int32)) X.1 X.2.1 dX6_fits_183 (by decide) ?_
          cases hf
          exact px_retZ X hr hlk narrow_b0 w dX6_fits_184
        · have hf := px_ip c20 hf
          refine lv_iconst (v := (1 : Int32)) X.1 X.2.1 dX6_fits_179 (by decide) ?_
          refine lv_goto (tgt := 184) X.1 X.2.1 dX6_fits_180 (by decide) ?_
          cases hf
          exact px_retZ X hr hlk narrow_b1 w dX6_fits_184
    · have hf := px_in c16 hf
      by_cases c21 : y1 = (2 : Int32)
      · have hf := px_ip c21 hf
        refine lv_tableIn (tgt := 185) X.1 X.2.1 dX6_fits_75 (by rw [c21]; decide) (by rw [c21]; decide) (by rw [c21]; rfl) (by decide) ?_
        refine lv_iload X.1 X.2.1 dX6_fits_185 (lv_at hl 3 rfl) ?_
        obtain ⟨b22, hf⟩ := px_cb_e hf
        cases hf
        exact px_retZ X hr hlk b22 w dX6_fits_187
      · have hf := px_in c21 hf
        by_cases c23 : y1 = (3 : Int32)
        · have hf := px_ip c23 hf
          refine lv_tableIn (tgt := 188) X.1 X.2.1 dX6_fits_75 (by rw [c23]; decide) (by rw [c23]; decide) (by rw [c23]; rfl) (by decide) ?_
          refine lv_iload X.1 X.2.1 dX6_fits_188 (lv_at hl 3 rfl) ?_
          refine lv_if_eq (tgt := 209) X.1 X.2.1 dX6_fits_190 (by decide) (fun c24 => ?_) (fun c24 => ?_)
          · have hf := px_ip c24 hf
            refine lv_iconst (v := (0 : Int32)) X.1 X.2.1 dX6_fits_209 (by decide) ?_
            cases hf
            exact px_retZ X hr hlk narrow_b0 w dX6_fits_210
          · have hf := px_in c24 hf
            refine lv_aload_n X.1 X.2.1 dX6_fits_193 rfl (lv_at hl 0 rfl) ?_
            refine lv_iload_n X.1 X.2.1 dX6_fits_194 rfl (lv_at hl 2 rfl) ?_
            refine lv_iconst (v := (0 : Int32)) X.1 X.2.1 dX6_fits_195 (by decide) ?_
            refine lv_sipush (v := (200 : Int32)) X.1 X.2.1 dX6_fits_196 (by decide) ?_
            obtain ⟨r26, e25, hf⟩ := px_bq_e hf
            refine px_cI (As := [.int y3, .int (0 : Int32), .int (200 : Int32)]) (rest := []) X hml hl w (cR_M_outside l D cs ad e25) lk_6_141 (by decide) (rcR_0 X.2.2.2.2 w) rfl (Nat.le_of_ble_eq_true rfl) dX6_fits_199 (fun H locs w => ?_)
            refine lv_if_ne (tgt := 209) X.1 X.2.1 dX6_fits_202 (by decide) (fun c27 => ?_) (fun c27 => ?_)
            · have hf := px_in c27 hf
              refine lv_iconst (v := (0 : Int32)) X.1 X.2.1 dX6_fits_209 (by decide) ?_
              cases hf
              exact px_retZ X hr hlk narrow_b0 w dX6_fits_210
            · have hf := px_ip c27 hf
              refine lv_iconst (v := (1 : Int32)) X.1 X.2.1 dX6_fits_205 (by decide) ?_
              refine lv_goto (tgt := 210) X.1 X.2.1 dX6_fits_206 (by decide) ?_
              cases hf
              exact px_retZ X hr hlk narrow_b1 w dX6_fits_210
        · have hf := px_in c23 hf
          by_cases c28 : y1 = (4 : Int32)
          · have hf := px_ip c28 hf
            refine lv_tableIn (tgt := 188) X.1 X.2.1 dX6_fits_75 (by rw [c28]; decide) (by rw [c28]; decide) (by rw [c28]; rfl) (by decide) ?_
            refine lv_iload X.1 X.2.1 dX6_fits_188 (lv_at hl 3 rfl) ?_
            refine lv_if_eq (tgt := 209) X.1 X.2.1 dX6_fits_190 (by decide) (fun c29 => ?_) (fun c29 => ?_)
            · have hf := px_ip c29 hf
              refine lv_iconst (v := (0 : Int32)) X.1 X.2.1 dX6_fits_209 (by decide) ?_
              cases hf
              exact px_retZ X hr hlk narrow_b0 w dX6_fits_210
            · have hf := px_in c29 hf
              refine lv_aload_n X.1 X.2.1 dX6_fits_193 rfl (lv_at hl 0 rfl) ?_
              refine lv_iload_n X.1 X.2.1 dX6_fits_194 rfl (lv_at hl 2 rfl) ?_
              refine lv_iconst (v := (0 : Int32)) X.1 X.2.1 dX6_fits_195 (by decide) ?_
              refine lv_sipush (v := (200 : Int32)) X.1 X.2.1 dX6_fits_196 (by decide) ?_
              obtain ⟨r31, e30, hf⟩ := px_bq_e hf
              refine px_cI (As := [.int y3, .int (0 : Int32), .int (200 : Int32)]) (rest := []) X hml hl w (cR_M_outside l D cs ad e30) lk_6_141 (by decide) (rcR_0 X.2.2.2.2 w) rfl (Nat.le_of_ble_eq_true rfl) dX6_fits_199 (fun H locs w => ?_)
              refine lv_if_ne (tgt := 209) X.1 X.2.1 dX6_fits_202 (by decide) (fun c32 => ?_) (fun c32 => ?_)
              · have hf := px_in c32 hf
                refine lv_iconst (v := (0 : Int32)) X.1 X.2.1 dX6_fits_209 (by decide) ?_
                cases hf
                exact px_retZ X hr hlk narrow_b0 w dX6_fits_210
              · have hf := px_ip c32 hf
                refine lv_iconst (v := (1 : Int32)) X.1 X.2.1 dX6_fits_205 (by decide) ?_
                refine lv_goto (tgt := 210) X.1 X.2.1 dX6_fits_206 (by decide) ?_
                cases hf
                exact px_retZ X hr hlk narrow_b1 w dX6_fits_210
          · have hf := px_in c28 hf
            by_cases c33 : y1 = (5 : Int32)
            · have hf := px_ip c33 hf
              refine lv_tableIn (tgt := 211) X.1 X.2.1 dX6_fits_75 (by rw [c33]; decide) (by rw [c33]; decide) (by rw [c33]; rfl) (by decide) ?_
              refine lv_iload X.1 X.2.1 dX6_fits_211 (lv_at hl 5 rfl) ?_
              obtain ⟨b34, hf⟩ := px_cb_e hf
              cases hf
              exact px_retZ X hr hlk b34 w dX6_fits_213
            · have hf := px_in c33 hf
              by_cases c35 : y1 = (6 : Int32)
              · have hf := px_ip c35 hf
                refine lv_tableIn (tgt := 148) X.1 X.2.1 dX6_fits_75 (by rw [c35]; decide) (by rw [c35]; decide) (by rw [c35]; rfl) (by decide) ?_
                refine lv_iload X.1 X.2.1 dX6_fits_148 (lv_at hl 5 rfl) ?_
                refine lv_if_eq (tgt := 162) X.1 X.2.1 dX6_fits_150 (by decide) (fun c36 => ?_) (fun c36 => ?_)
                · have hf := px_ip c36 hf
                  refine lv_iconst (v := (0 : Int32)) X.1 X.2.1 dX6_fits_162 (by decide) ?_
                  cases hf
                  exact px_retZ X hr hlk narrow_b0 w dX6_fits_163
                · have hf := px_in c36 hf
                  refine lv_iload X.1 X.2.1 dX6_fits_153 (lv_at hl 6 rfl) ?_
                  refine lv_if_eq (tgt := 162) X.1 X.2.1 dX6_fits_155 (by decide) (fun c37 => ?_) (fun c37 => ?_)
                  · have hf := px_ip c37 hf
                    refine lv_iconst (v := (0 : Int32)) X.1 X.2.1 dX6_fits_162 (by decide) ?_
                    cases hf
                    exact px_retZ X hr hlk narrow_b0 w dX6_fits_163
                  · have hf := px_in c37 hf
                    refine lv_iconst (v := (1 : Int32)) X.1 X.2.1 dX6_fits_158 (by decide) ?_
                    refine lv_goto (tgt := 163) X.1 X.2.1 dX6_fits_159 (by decide) ?_
                    cases hf
                    exact px_retZ X hr hlk narrow_b1 w dX6_fits_163
              · have hf := px_in c35 hf
                by_cases c38 : y1 = (7 : Int32)
                · have hf := px_ip c38 hf
                  refine lv_tableIn (tgt := 185) X.1 X.2.1 dX6_fits_75 (by rw [c38]; decide) (by rw [c38]; decide) (by rw [c38]; rfl) (by decide) ?_
                  refine lv_iload X.1 X.2.1 dX6_fits_185 (lv_at hl 3 rfl) ?_
                  obtain ⟨b39, hf⟩ := px_cb_e hf
                  cases hf
                  exact px_retZ X hr hlk b39 w dX6_fits_187
                · have hf := px_in c38 hf
                  by_cases c40 : y1 = (8 : Int32)
                  · have hf := px_ip c40 hf
                    refine lv_tableIn (tgt := 214) X.1 X.2.1 dX6_fits_75 (by rw [c40]; decide) (by rw [c40]; decide) (by rw [c40]; rfl) (by decide) ?_
                    refine lv_iload X.1 X.2.1 dX6_fits_214 (lv_at hl 3 rfl) ?_
                    refine lv_if_eq (tgt := 234) X.1 X.2.1 dX6_fits_216 (by decide) (fun c41 => ?_) (fun c41 => ?_)
                    · have hf := px_ip c41 hf
                      refine lv_iconst (v := (0 : Int32)) X.1 X.2.1 dX6_fits_234 (by decide) ?_
                      cases hf
                      exact px_retZ X hr hlk narrow_b0 w dX6_fits_235
                    · have hf := px_in c41 hf
                      refine lv_aload_n X.1 X.2.1 dX6_fits_219 rfl (lv_at hl 0 rfl) ?_
                      refine lv_iload_n X.1 X.2.1 dX6_fits_220 rfl (lv_at hl 2 rfl) ?_
                      refine lv_iconst (v := (0 : Int32)) X.1 X.2.1 dX6_fits_221 (by decide) ?_
                      refine lv_bipush (v := (9 : Int32)) X.1 X.2.1 dX6_fits_222 (by decide) ?_
                      obtain ⟨r43, e42, hf⟩ := px_bq_e hf
                      refine px_cI (As := [.int y3, .int (0 : Int32), .int (9 : Int32)]) (rest := []) X hml hl w (cR_M_outside l D cs ad e42) lk_6_141 (by decide) (rcR_0 X.2.2.2.2 w) rfl (Nat.le_of_ble_eq_true rfl) dX6_fits_224 (fun H locs w => ?_)
                      refine lv_if_ne (tgt := 234) X.1 X.2.1 dX6_fits_227 (by decide) (fun c44 => ?_) (fun c44 => ?_)
                      · have hf := px_in c44 hf
                        refine lv_iconst (v := (0 : Int32)) X.1 X.2.1 dX6_fits_234 (by decide) ?_
                        cases hf
                        exact px_retZ X hr hlk narrow_b0 w dX6_fits_235
                      · have hf := px_ip c44 hf
                        refine lv_iconst (v := (1 : Int32)) X.1 X.2.1 dX6_fits_230 (by decide) ?_
                        refine lv_goto (tgt := 235) X.1 X.2.1 dX6_fits_231 (by decide) ?_
                        cases hf
                        exact px_retZ X hr hlk narrow_b1 w dX6_fits_235
                  · have hf := px_in c40 hf
                    by_cases c45 : y1 = (9 : Int32)
                    · have hf := px_ip c45 hf
                      refine lv_tableIn (tgt := 236) X.1 X.2.1 dX6_fits_75 (by rw [c45]; decide) (by rw [c45]; decide) (by rw [c45]; rfl) (by decide) ?_
                      refine lv_aload_n X.1 X.2.1 dX6_fits_236 rfl (lv_at hl 0 rfl) ?_
                      refine lv_iload_n X.1 X.2.1 dX6_fits_237 rfl (lv_at hl 2 rfl) ?_
                      refine lv_iconst (v := (0 : Int32)) X.1 X.2.1 dX6_fits_238 (by decide) ?_
                      refine lv_iconst (v := (2 : Int32)) X.1 X.2.1 dX6_fits_239 (by decide) ?_
                      obtain ⟨r47, e46, hf⟩ := px_bq_e hf
                      refine px_cI (As := [.int y3, .int (0 : Int32), .int (2 : Int32)]) (rest := []) X hml hl w (cR_M_outside l D cs ad e46) lk_6_141 (by decide) (rcR_0 X.2.2.2.2 w) rfl (Nat.le_of_ble_eq_true rfl) dX6_fits_240 (fun H locs w => ?_)
                      refine lv_if_ne (tgt := 268) X.1 X.2.1 dX6_fits_243 (by decide) (fun c48 => ?_) (fun c48 => ?_)
                      · have hf := px_in c48 hf
                        refine lv_iconst (v := (0 : Int32)) X.1 X.2.1 dX6_fits_268 (by decide) ?_
                        cases hf
                        exact px_retZ X hr hlk narrow_b0 w dX6_fits_269
                      · have hf := px_ip c48 hf
                        refine lv_iload_n X.1 X.2.1 dX6_fits_246 rfl (lv_at hl 2 rfl) ?_
                        refine lv_iconst (v := (2 : Int32)) X.1 X.2.1 dX6_fits_247 (by decide) ?_
                        refine lv_icmp_ne (tgt := 259) X.1 X.2.1 dX6_fits_248 (by decide) (fun c49 => ?_) (fun c49 => ?_)
                        · have hf := px_in c49 hf
                          refine lv_iload X.1 X.2.1 dX6_fits_259 (lv_at hl 5 rfl) ?_
                          refine lv_if_eq (tgt := 268) X.1 X.2.1 dX6_fits_261 (by decide) (fun c50 => ?_) (fun c50 => ?_)
                          · have hf := px_ip c50 hf
                            refine lv_iconst (v := (0 : Int32)) X.1 X.2.1 dX6_fits_268 (by decide) ?_
                            cases hf
                            exact px_retZ X hr hlk narrow_b0 w dX6_fits_269
                          · have hf := px_in c50 hf
                            refine lv_iconst (v := (1 : Int32)) X.1 X.2.1 dX6_fits_264 (by decide) ?_
                            refine lv_goto (tgt := 269) X.1 X.2.1 dX6_fits_265 (by decide) ?_
                            cases hf
                            exact px_retZ X hr hlk narrow_b1 w dX6_fits_269
                        · have hf := px_ip c49 hf
                          refine lv_iload X.1 X.2.1 dX6_fits_251 (lv_at hl 4 rfl) ?_
                          refine lv_if_eq (tgt := 268) X.1 X.2.1 dX6_fits_253 (by decide) (fun c51 => ?_) (fun c51 => ?_)
                          · have hf := px_ip c51 hf
                            refine lv_iconst (v := (0 : Int32)) X.1 X.2.1 dX6_fits_268 (by decide) ?_
                            cases hf
                            exact px_retZ X hr hlk narrow_b0 w dX6_fits_269
                          · have hf := px_in c51 hf
                            refine lv_goto (tgt := 264) X.1 X.2.1 dX6_fits_256 (by decide) ?_
                            refine lv_iconst (v := (1 : Int32)) X.1 X.2.1 dX6_fits_264 (by decide) ?_
                            refine lv_goto (tgt := 269) X.1 X.2.1 dX6_fits_265 (by decide) ?_
                            cases hf
                            exact px_retZ X hr hlk narrow_b1 w dX6_fits_269
                    · have hf := px_in c45 hf
                      by_cases c52 : y1 = (10 : Int32)
                      · have hf := px_ip c52 hf
                        refine lv_tableIn (tgt := 270) X.1 X.2.1 dX6_fits_75 (by rw [c52]; decide) (by rw [c52]; decide) (by rw [c52]; rfl) (by decide) ?_
                        refine lv_iload X.1 X.2.1 dX6_fits_270 (lv_at hl 4 rfl) ?_
                        obtain ⟨b53, hf⟩ := px_cb_e hf
                        cases hf
                        exact px_retZ X hr hlk b53 w dX6_fits_272
                      · have hf := px_in c52 hf
                        by_cases c54 : y1 = (11 : Int32)
                        · have hf := px_ip c54 hf
                          refine lv_tableIn (tgt := 273) X.1 X.2.1 dX6_fits_75 (by rw [c54]; decide) (by rw [c54]; decide) (by rw [c54]; rfl) (by decide) ?_
                          refine lv_iload X.1 X.2.1 dX6_fits_273 (lv_at hl 4 rfl) ?_
                          refine lv_if_eq (tgt := 287) X.1 X.2.1 dX6_fits_275 (by decide) (fun c55 => ?_) (fun c55 => ?_)
                          · have hf := px_ip c55 hf
                            refine lv_iconst (v := (0 : Int32)) X.1 X.2.1 dX6_fits_287 (by decide) ?_
                            cases hf
                            exact px_retZ X hr hlk narrow_b0 w dX6_fits_288
                          · have hf := px_in c55 hf
                            refine lv_iload X.1 X.2.1 dX6_fits_278 (lv_at hl 6 rfl) ?_
                            refine lv_if_eq (tgt := 287) X.1 X.2.1 dX6_fits_280 (by decide) (fun c56 => ?_) (fun c56 => ?_)
                            · have hf := px_ip c56 hf
                              refine lv_iconst (v := (0 : Int32)) X.1 X.2.1 dX6_fits_287 (by decide) ?_
                              cases hf
                              exact px_retZ X hr hlk narrow_b0 w dX6_fits_288
                            · have hf := px_in c56 hf
                              refine lv_iconst (v := (1 : Int32)) X.1 X.2.1 dX6_fits_283 (by decide) ?_
                              refine lv_goto (tgt := 288) X.1 X.2.1 dX6_fits_284 (by decide) ?_
                              cases hf
                              exact px_retZ X hr hlk narrow_b1 w dX6_fits_288
                        · have hf := px_in c54 hf
                          by_cases c57 : y1 = (12 : Int32)
                          · have hf := px_ip c57 hf
                            refine lv_tableIn (tgt := 312) X.1 X.2.1 dX6_fits_75 (by rw [c57]; decide) (by rw [c57]; decide) (by rw [c57]; rfl) (by decide) ?_
                            refine lv_iload X.1 X.2.1 dX6_fits_312 (lv_at hl 4 rfl) ?_
                            refine lv_if_eq (tgt := 332) X.1 X.2.1 dX6_fits_314 (by decide) (fun c58 => ?_) (fun c58 => ?_)
                            · have hf := px_ip c58 hf
                              refine lv_iconst (v := (0 : Int32)) X.1 X.2.1 dX6_fits_332 (by decide) ?_
                              cases hf
                              exact px_retZ X hr hlk narrow_b0 w dX6_fits_333
                            · have hf := px_in c58 hf
                              refine lv_aload_n X.1 X.2.1 dX6_fits_317 rfl (lv_at hl 0 rfl) ?_
                              refine lv_iload_n X.1 X.2.1 dX6_fits_318 rfl (lv_at hl 2 rfl) ?_
                              refine lv_iconst (v := (0 : Int32)) X.1 X.2.1 dX6_fits_319 (by decide) ?_
                              refine lv_bipush (v := (7 : Int32)) X.1 X.2.1 dX6_fits_320 (by decide) ?_
                              obtain ⟨r60, e59, hf⟩ := px_bq_e hf
                              refine px_cI (As := [.int y3, .int (0 : Int32), .int (7 : Int32)]) (rest := []) X hml hl w (cR_M_outside l D cs ad e59) lk_6_141 (by decide) (rcR_0 X.2.2.2.2 w) rfl (Nat.le_of_ble_eq_true rfl) dX6_fits_322 (fun H locs w => ?_)
                              refine lv_if_ne (tgt := 332) X.1 X.2.1 dX6_fits_325 (by decide) (fun c61 => ?_) (fun c61 => ?_)
                              · have hf := px_in c61 hf
                                refine lv_iconst (v := (0 : Int32)) X.1 X.2.1 dX6_fits_332 (by decide) ?_
                                cases hf
                                exact px_retZ X hr hlk narrow_b0 w dX6_fits_333
                              · have hf := px_ip c61 hf
                                refine lv_iconst (v := (1 : Int32)) X.1 X.2.1 dX6_fits_328 (by decide) ?_
                                refine lv_goto (tgt := 333) X.1 X.2.1 dX6_fits_329 (by decide) ?_
                                cases hf
                                exact px_retZ X hr hlk narrow_b1 w dX6_fits_333
                          · have hf := px_in c57 hf
                            by_cases c62 : y1 = (13 : Int32)
                            · have hf := px_ip c62 hf
                              refine lv_tableIn (tgt := 289) X.1 X.2.1 dX6_fits_75 (by rw [c62]; decide) (by rw [c62]; decide) (by rw [c62]; rfl) (by decide) ?_
                              refine lv_iload X.1 X.2.1 dX6_fits_289 (lv_at hl 4 rfl) ?_
                              refine lv_if_eq (tgt := 310) X.1 X.2.1 dX6_fits_291 (by decide) (fun c63 => ?_) (fun c63 => ?_)
                              · have hf := px_ip c63 hf
                                refine lv_iconst (v := (0 : Int32)) X.1 X.2.1 dX6_fits_310 (by decide) ?_
                                cases hf
                                exact px_retZ X hr hlk narrow_b0 w dX6_fits_311
                              · have hf := px_in c63 hf
                                refine lv_aload_n X.1 X.2.1 dX6_fits_294 rfl (lv_at hl 0 rfl) ?_
                                refine lv_iload_n X.1 X.2.1 dX6_fits_295 rfl (lv_at hl 2 rfl) ?_
                                refine lv_iconst (v := (0 : Int32)) X.1 X.2.1 dX6_fits_296 (by decide) ?_
                                refine lv_sipush (v := (255 : Int32)) X.1 X.2.1 dX6_fits_297 (by decide) ?_
                                obtain ⟨r65, e64, hf⟩ := px_bq_e hf
                                refine px_cI (As := [.int y3, .int (0 : Int32), .int (255 : Int32)]) (rest := []) X hml hl w (cR_M_outside l D cs ad e64) lk_6_141 (by decide) (rcR_0 X.2.2.2.2 w) rfl (Nat.le_of_ble_eq_true rfl) dX6_fits_300 (fun H locs w => ?_)
                                refine lv_if_ne (tgt := 310) X.1 X.2.1 dX6_fits_303 (by decide) (fun c66 => ?_) (fun c66 => ?_)
                                · have hf := px_in c66 hf
                                  refine lv_iconst (v := (0 : Int32)) X.1 X.2.1 dX6_fits_310 (by decide) ?_
                                  cases hf
                                  exact px_retZ X hr hlk narrow_b0 w dX6_fits_311
                                · have hf := px_ip c66 hf
                                  refine lv_iconst (v := (1 : Int32)) X.1 X.2.1 dX6_fits_306 (by decide) ?_
                                  refine lv_goto (tgt := 311) X.1 X.2.1 dX6_fits_307 (by decide) ?_
                                  cases hf
                                  exact px_retZ X hr hlk narrow_b1 w dX6_fits_311
                            · have hf := px_in c62 hf
                              by_cases c67 : y1 = (14 : Int32)
                              · have hf := px_ip c67 hf
                                refine lv_tableIn (tgt := 185) X.1 X.2.1 dX6_fits_75 (by rw [c67]; decide) (by rw [c67]; decide) (by rw [c67]; rfl) (by decide) ?_
                                refine lv_iload X.1 X.2.1 dX6_fits_185 (lv_at hl 3 rfl) ?_
                                obtain ⟨b68, hf⟩ := px_cb_e hf
                                cases hf
                                exact px_retZ X hr hlk b68 w dX6_fits_187
                              · have hf := px_in c67 hf
                                refine lv_tableOut (tgt := 312) X.1 X.2.1 dX6_fits_75 (by have := px_ne (v := 0) (by decide) c13; have := px_ne (v := 1) (by decide) c16; have := px_ne (v := 2) (by decide) c21; have := px_ne (v := 3) (by decide) c23; have := px_ne (v := 4) (by decide) c28; have := px_ne (v := 5) (by decide) c33; have := px_ne (v := 6) (by decide) c35; have := px_ne (v := 7) (by decide) c38; have := px_ne (v := 8) (by decide) c40; have := px_ne (v := 9) (by decide) c45; have := px_ne (v := 10) (by decide) c52; have := px_ne (v := 11) (by decide) c54; have := px_ne (v := 12) (by decide) c57; have := px_ne (v := 13) (by decide) c62; have := px_ne (v := 14) (by decide) c67; omega) (by decide) ?_
                                refine lv_iload X.1 X.2.1 dX6_fits_312 (lv_at hl 4 rfl) ?_
                                refine lv_if_eq (tgt := 332) X.1 X.2.1 dX6_fits_314 (by decide) (fun c69 => ?_) (fun c69 => ?_)
                                · have hf := px_ip c69 hf
                                  refine lv_iconst (v := (0 : Int32)) X.1 X.2.1 dX6_fits_332 (by decide) ?_
                                  cases hf
                                  exact px_retZ X hr hlk narrow_b0 w dX6_fits_333
                                · have hf := px_in c69 hf
                                  refine lv_aload_n X.1 X.2.1 dX6_fits_317 rfl (lv_at hl 0 rfl) ?_
                                  refine lv_iload_n X.1 X.2.1 dX6_fits_318 rfl (lv_at hl 2 rfl) ?_
                                  refine lv_iconst (v := (0 : Int32)) X.1 X.2.1 dX6_fits_319 (by decide) ?_
                                  refine lv_bipush (v := (7 : Int32)) X.1 X.2.1 dX6_fits_320 (by decide) ?_
                                  obtain ⟨r71, e70, hf⟩ := px_bq_e hf
                                  refine px_cI (As := [.int y3, .int (0 : Int32), .int (7 : Int32)]) (rest := []) X hml hl w (cR_M_outside l D cs ad e70) lk_6_141 (by decide) (rcR_0 X.2.2.2.2 w) rfl (Nat.le_of_ble_eq_true rfl) dX6_fits_322 (fun H locs w => ?_)
                                  refine lv_if_ne (tgt := 332) X.1 X.2.1 dX6_fits_325 (by decide) (fun c72 => ?_) (fun c72 => ?_)
                                  · have hf := px_in c72 hf
                                    refine lv_iconst (v := (0 : Int32)) X.1 X.2.1 dX6_fits_332 (by decide) ?_
                                    cases hf
                                    exact px_retZ X hr hlk narrow_b0 w dX6_fits_333
                                  · have hf := px_ip c72 hf
                                    refine lv_iconst (v := (1 : Int32)) X.1 X.2.1 dX6_fits_328 (by decide) ?_
                                    refine lv_goto (tgt := 333) X.1 X.2.1 dX6_fits_329 (by decide) ?_
                                    cases hf
                                    exact px_retZ X hr hlk narrow_b1 w dX6_fits_333
def fR_M_fits (M : px_M) (p1 p2 p3 : Int32) : Option Int32 := px_bq (fR_M_outside M p2 (0 : Int32) (9 : Int32)) (fun r2 => (if r2 = 0 then px_bq (fR_M_outside M p2 (0 : Int32) (7 : Int32)) (fun r86 => (if r86 = 0 then px_bq (fR_M_outside M p2 (-999 : Int32) (999 : Int32)) (fun r98 => (if r98 = 0 then px_bq (fR_M_outside M p3 (0 : Int32) (1 : Int32)) (fun r104 => (if r104 = 0 then gR_M_fits_K74 M p1 p3 (1 : Int32) (1 : Int32) (1 : Int32) (1 : Int32) else gR_M_fits_K74 M p1 p3 (1 : Int32) (1 : Int32) (1 : Int32) (0 : Int32))) else px_bq (fR_M_outside M p3 (0 : Int32) (1 : Int32)) (fun r101 => (if r101 = 0 then gR_M_fits_K74 M p1 p3 (1 : Int32) (1 : Int32) (0 : Int32) (1 : Int32) else gR_M_fits_K74 M p1 p3 (1 : Int32) (1 : Int32) (0 : Int32) (0 : Int32))))) else px_bq (fR_M_outside M p2 (-999 : Int32) (999 : Int32)) (fun r89 => (if r89 = 0 then px_bq (fR_M_outside M p3 (0 : Int32) (1 : Int32)) (fun r95 => (if r95 = 0 then gR_M_fits_K74 M p1 p3 (1 : Int32) (0 : Int32) (1 : Int32) (1 : Int32) else gR_M_fits_K74 M p1 p3 (1 : Int32) (0 : Int32) (1 : Int32) (0 : Int32))) else px_bq (fR_M_outside M p3 (0 : Int32) (1 : Int32)) (fun r92 => (if r92 = 0 then gR_M_fits_K74 M p1 p3 (1 : Int32) (0 : Int32) (0 : Int32) (1 : Int32) else gR_M_fits_K74 M p1 p3 (1 : Int32) (0 : Int32) (0 : Int32) (0 : Int32))))))) else px_bq (fR_M_outside M p2 (0 : Int32) (7 : Int32)) (fun r5 => (if r5 = 0 then px_bq (fR_M_outside M p2 (-999 : Int32) (999 : Int32)) (fun r77 => (if r77 = 0 then px_bq (fR_M_outside M p3 (0 : Int32) (1 : Int32)) (fun r83 => (if r83 = 0 then gR_M_fits_K74 M p1 p3 (0 : Int32) (1 : Int32) (1 : Int32) (1 : Int32) else gR_M_fits_K74 M p1 p3 (0 : Int32) (1 : Int32) (1 : Int32) (0 : Int32))) else px_bq (fR_M_outside M p3 (0 : Int32) (1 : Int32)) (fun r80 => (if r80 = 0 then gR_M_fits_K74 M p1 p3 (0 : Int32) (1 : Int32) (0 : Int32) (1 : Int32) else gR_M_fits_K74 M p1 p3 (0 : Int32) (1 : Int32) (0 : Int32) (0 : Int32))))) else px_bq (fR_M_outside M p2 (-999 : Int32) (999 : Int32)) (fun r8 => (if r8 = 0 then px_bq (fR_M_outside M p3 (0 : Int32) (1 : Int32)) (fun r74 => (if r74 = 0 then gR_M_fits_K74 M p1 p3 (0 : Int32) (0 : Int32) (1 : Int32) (1 : Int32) else gR_M_fits_K74 M p1 p3 (0 : Int32) (0 : Int32) (1 : Int32) (0 : Int32))) else px_bq (fR_M_outside M p3 (0 : Int32) (1 : Int32)) (fun r11 => (if r11 = 0 then gR_M_fits_K74 M p1 p3 (0 : Int32) (0 : Int32) (0 : Int32) (1 : Int32) else gR_M_fits_K74 M p1 p3 (0 : Int32) (0 : Int32) (0 : Int32) (0 : Int32)))))))))
set_option maxHeartbeats 4000000 in
set_option maxRecDepth 100000 in
theorem cR_M_fits (l : Launch) (D : va_G) (cs : Nat → ClassId) (ad : Nat → Nat) {M : px_M} {p1 p2 p3 : Int32} {r : Int32} (hf : fR_M_fits M p1 p2 p3 = some r) : px_mI l D (tyR cs) (wR cs ad) yX6_fits cX6_fits 8 (some .boolean) 1 [.ref (ad 0), .int p1, .int p2, .int p3] M r M := by
  refine px_ofI (by decide +kernel) (Nat.le_of_ble_eq_true rfl) ?_
  intro p e s m below meth c A ls X hr hlk hml w hl
  have hl : lv_has ls 8 [(0, .ref (ad 0)), (1, .int p1), (2, .int p2), (3, .int p3)] := hl
  unfold fR_M_fits at hf
  refine lv_aload_n X.1 X.2.1 dX6_fits_0 rfl (lv_at hl 0 rfl) ?_
  refine lv_iload_n X.1 X.2.1 dX6_fits_1 rfl (lv_at hl 2 rfl) ?_
  refine lv_iconst (v := (0 : Int32)) X.1 X.2.1 dX6_fits_2 (by decide) ?_
  refine lv_bipush (v := (9 : Int32)) X.1 X.2.1 dX6_fits_3 (by decide) ?_
  obtain ⟨r2, e1, hf⟩ := px_bq_e hf
  refine px_cI (As := [.int p2, .int (0 : Int32), .int (9 : Int32)]) (rest := []) X hml hl w (cR_M_outside l D cs ad e1) lk_6_141 (by decide) (rcR_0 X.2.2.2.2 w) rfl (Nat.le_of_ble_eq_true rfl) dX6_fits_5 (fun H locs w => ?_)
  refine lv_if_ne (tgt := 15) X.1 X.2.1 dX6_fits_8 (by decide) (fun c3 => ?_) (fun c3 => ?_)
  · have hf := px_in c3 hf
    refine lv_iconst (v := (0 : Int32)) X.1 X.2.1 dX6_fits_15 (by decide) ?_
    refine lv_istore (lv' := [(4, .int (0 : Int32)), (0, .ref (ad 0)), (1, .int p1), (2, .int p2), (3, .int p3)]) X.1 X.2.1 dX6_fits_16 hl (by decide) rfl (fun ls hl => ?_)
    refine lv_aload_n X.1 X.2.1 dX6_fits_18 rfl (lv_at hl 1 rfl) ?_
    refine lv_iload_n X.1 X.2.1 dX6_fits_19 rfl (lv_at hl 3 rfl) ?_
    refine lv_iconst (v := (0 : Int32)) X.1 X.2.1 dX6_fits_20 (by decide) ?_
    refine lv_bipush (v := (7 : Int32)) X.1 X.2.1 dX6_fits_21 (by decide) ?_
    obtain ⟨r5, e4, hf⟩ := px_bq_e hf
    refine px_cI (As := [.int p2, .int (0 : Int32), .int (7 : Int32)]) (rest := []) X hml hl w (cR_M_outside l D cs ad e4) lk_6_141 (by decide) (rcR_0 X.2.2.2.2 w) rfl (Nat.le_of_ble_eq_true rfl) dX6_fits_23 (fun H locs w => ?_)
    refine lv_if_ne (tgt := 33) X.1 X.2.1 dX6_fits_26 (by decide) (fun c6 => ?_) (fun c6 => ?_)
    · have hf := px_in c6 hf
      refine lv_iconst (v := (0 : Int32)) X.1 X.2.1 dX6_fits_33 (by decide) ?_
      refine lv_istore (lv' := [(5, .int (0 : Int32)), (4, .int (0 : Int32)), (0, .ref (ad 0)), (1, .int p1), (2, .int p2), (3, .int p3)]) X.1 X.2.1 dX6_fits_34 hl (by decide) rfl (fun ls hl => ?_)
      refine lv_aload_n X.1 X.2.1 dX6_fits_36 rfl (lv_at hl 2 rfl) ?_
      refine lv_iload_n X.1 X.2.1 dX6_fits_37 rfl (lv_at hl 4 rfl) ?_
      refine lv_sipush (v := (-999 : Int32)) X.1 X.2.1 dX6_fits_38 (by decide) ?_
      refine lv_sipush (v := (999 : Int32)) X.1 X.2.1 dX6_fits_41 (by decide) ?_
      obtain ⟨r8, e7, hf⟩ := px_bq_e hf
      refine px_cI (As := [.int p2, .int (-999 : Int32), .int (999 : Int32)]) (rest := []) X hml hl w (cR_M_outside l D cs ad e7) lk_6_141 (by decide) (rcR_0 X.2.2.2.2 w) rfl (Nat.le_of_ble_eq_true rfl) dX6_fits_44 (fun H locs w => ?_)
      refine lv_if_ne (tgt := 54) X.1 X.2.1 dX6_fits_47 (by decide) (fun c9 => ?_) (fun c9 => ?_)
      · have hf := px_in c9 hf
        refine lv_iconst (v := (0 : Int32)) X.1 X.2.1 dX6_fits_54 (by decide) ?_
        refine lv_istore (lv' := [(6, .int (0 : Int32)), (5, .int (0 : Int32)), (4, .int (0 : Int32)), (0, .ref (ad 0)), (1, .int p1), (2, .int p2), (3, .int p3)]) X.1 X.2.1 dX6_fits_55 hl (by decide) rfl (fun ls hl => ?_)
        refine lv_aload_n X.1 X.2.1 dX6_fits_57 rfl (lv_at hl 3 rfl) ?_
        refine lv_iload_n X.1 X.2.1 dX6_fits_58 rfl (lv_at hl 6 rfl) ?_
        refine lv_iconst (v := (0 : Int32)) X.1 X.2.1 dX6_fits_59 (by decide) ?_
        refine lv_iconst (v := (1 : Int32)) X.1 X.2.1 dX6_fits_60 (by decide) ?_
        obtain ⟨r11, e10, hf⟩ := px_bq_e hf
        refine px_cI (As := [.int p3, .int (0 : Int32), .int (1 : Int32)]) (rest := []) X hml hl w (cR_M_outside l D cs ad e10) lk_6_141 (by decide) (rcR_0 X.2.2.2.2 w) rfl (Nat.le_of_ble_eq_true rfl) dX6_fits_61 (fun H locs w => ?_)
        refine lv_if_ne (tgt := 71) X.1 X.2.1 dX6_fits_64 (by decide) (fun c12 => ?_) (fun c12 => ?_)
        · have hf := px_in c12 hf
          refine lv_iconst (v := (0 : Int32)) X.1 X.2.1 dX6_fits_71 (by decide) ?_
          refine lv_istore (lv' := [(7, .int (0 : Int32)), (6, .int (0 : Int32)), (5, .int (0 : Int32)), (4, .int (0 : Int32)), (0, .ref (ad 0)), (1, .int p1), (2, .int p2), (3, .int p3)]) X.1 X.2.1 dX6_fits_72 hl (by decide) rfl (fun ls hl => ?_)
          exact lR_M_fits_K74 X hr hlk hml M p1 p3 (0 : Int32) (0 : Int32) (0 : Int32) (0 : Int32) _ hf _ _ ls w (lv_sub hl [4, 5, 7, 3, 2, 1, 0] rfl)
        · have hf := px_ip c12 hf
          refine lv_iconst (v := (1 : Int32)) X.1 X.2.1 dX6_fits_67 (by decide) ?_
          refine lv_goto (tgt := 72) X.1 X.2.1 dX6_fits_68 (by decide) ?_
          refine lv_istore (lv' := [(7, .int (1 : Int32)), (6, .int (0 : Int32)), (5, .int (0 : Int32)), (4, .int (0 : Int32)), (0, .ref (ad 0)), (1, .int p1), (2, .int p2), (3, .int p3)]) X.1 X.2.1 dX6_fits_72 hl (by decide) rfl (fun ls hl => ?_)
          exact lR_M_fits_K74 X hr hlk hml M p1 p3 (0 : Int32) (0 : Int32) (0 : Int32) (1 : Int32) _ hf _ _ ls w (lv_sub hl [4, 5, 7, 3, 2, 1, 0] rfl)
      · have hf := px_ip c9 hf
        refine lv_iconst (v := (1 : Int32)) X.1 X.2.1 dX6_fits_50 (by decide) ?_
        refine lv_goto (tgt := 55) X.1 X.2.1 dX6_fits_51 (by decide) ?_
        refine lv_istore (lv' := [(6, .int (1 : Int32)), (5, .int (0 : Int32)), (4, .int (0 : Int32)), (0, .ref (ad 0)), (1, .int p1), (2, .int p2), (3, .int p3)]) X.1 X.2.1 dX6_fits_55 hl (by decide) rfl (fun ls hl => ?_)
        refine lv_aload_n X.1 X.2.1 dX6_fits_57 rfl (lv_at hl 3 rfl) ?_
        refine lv_iload_n X.1 X.2.1 dX6_fits_58 rfl (lv_at hl 6 rfl) ?_
        refine lv_iconst (v := (0 : Int32)) X.1 X.2.1 dX6_fits_59 (by decide) ?_
        refine lv_iconst (v := (1 : Int32)) X.1 X.2.1 dX6_fits_60 (by decide) ?_
        obtain ⟨r74, e73, hf⟩ := px_bq_e hf
        refine px_cI (As := [.int p3, .int (0 : Int32), .int (1 : Int32)]) (rest := []) X hml hl w (cR_M_outside l D cs ad e73) lk_6_141 (by decide) (rcR_0 X.2.2.2.2 w) rfl (Nat.le_of_ble_eq_true rfl) dX6_fits_61 (fun H locs w => ?_)
        refine lv_if_ne (tgt := 71) X.1 X.2.1 dX6_fits_64 (by decide) (fun c75 => ?_) (fun c75 => ?_)
        · have hf := px_in c75 hf
          refine lv_iconst (v := (0 : Int32)) X.1 X.2.1 dX6_fits_71 (by decide) ?_
          refine lv_istore (lv' := [(7, .int (0 : Int32)), (6, .int (1 : Int32)), (5, .int (0 : Int32)), (4, .int (0 : Int32)), (0, .ref (ad 0)), (1, .int p1), (2, .int p2), (3, .int p3)]) X.1 X.2.1 dX6_fits_72 hl (by decide) rfl (fun ls hl => ?_)
          exact lR_M_fits_K74 X hr hlk hml M p1 p3 (0 : Int32) (0 : Int32) (1 : Int32) (0 : Int32) _ hf _ _ ls w (lv_sub hl [4, 5, 7, 3, 2, 1, 0] rfl)
        · have hf := px_ip c75 hf
          refine lv_iconst (v := (1 : Int32)) X.1 X.2.1 dX6_fits_67 (by decide) ?_
          refine lv_goto (tgt := 72) X.1 X.2.1 dX6_fits_68 (by decide) ?_
          refine lv_istore (lv' := [(7, .int (1 : Int32)), (6, .int (1 : Int32)), (5, .int (0 : Int32)), (4, .int (0 : Int32)), (0, .ref (ad 0)), (1, .int p1), (2, .int p2), (3, .int p3)]) X.1 X.2.1 dX6_fits_72 hl (by decide) rfl (fun ls hl => ?_)
          exact lR_M_fits_K74 X hr hlk hml M p1 p3 (0 : Int32) (0 : Int32) (1 : Int32) (1 : Int32) _ hf _ _ ls w (lv_sub hl [4, 5, 7, 3, 2, 1, 0] rfl)
    · have hf := px_ip c6 hf
      refine lv_iconst (v := (1 : Int32)) X.1 X.2.1 dX6_fits_29 (by decide) ?_
      refine lv_goto (tgt := 34) X.1 X.2.1 dX6_fits_30 (by decide) ?_
      refine lv_istore (lv' := [(5, .int (1 : Int32)), (4, .int (0 : Int32)), (0, .ref (ad 0)), (1, .int p1), (2, .int p2), (3, .int p3)]) X.1 X.2.1 dX6_fits_34 hl (by decide) rfl (fun ls hl => ?_)
      refine lv_aload_n X.1 X.2.1 dX6_fits_36 rfl (lv_at hl 2 rfl) ?_
      refine lv_iload_n X.1 X.2.1 dX6_fits_37 rfl (lv_at hl 4 rfl) ?_
      refine lv_sipush (v := (-999 : Int32)) X.1 X.2.1 dX6_fits_38 (by decide) ?_
      refine lv_sipush (v := (999 : Int32)) X.1 X.2.1 dX6_fits_41 (by decide) ?_
      obtain ⟨r77, e76, hf⟩ := px_bq_e hf
      refine px_cI (As := [.int p2, .int (-999 : Int32), .int (999 : Int32)]) (rest := []) X hml hl w (cR_M_outside l D cs ad e76) lk_6_141 (by decide) (rcR_0 X.2.2.2.2 w) rfl (Nat.le_of_ble_eq_true rfl) dX6_fits_44 (fun H locs w => ?_)
      refine lv_if_ne (tgt := 54) X.1 X.2.1 dX6_fits_47 (by decide) (fun c78 => ?_) (fun c78 => ?_)
      · have hf := px_in c78 hf
        refine lv_iconst (v := (0 : Int32)) X.1 X.2.1 dX6_fits_54 (by decide) ?_
        refine lv_istore (lv' := [(6, .int (0 : Int32)), (5, .int (1 : Int32)), (4, .int (0 : Int32)), (0, .ref (ad 0)), (1, .int p1), (2, .int p2), (3, .int p3)]) X.1 X.2.1 dX6_fits_55 hl (by decide) rfl (fun ls hl => ?_)
        refine lv_aload_n X.1 X.2.1 dX6_fits_57 rfl (lv_at hl 3 rfl) ?_
        refine lv_iload_n X.1 X.2.1 dX6_fits_58 rfl (lv_at hl 6 rfl) ?_
        refine lv_iconst (v := (0 : Int32)) X.1 X.2.1 dX6_fits_59 (by decide) ?_
        refine lv_iconst (v := (1 : Int32)) X.1 X.2.1 dX6_fits_60 (by decide) ?_
        obtain ⟨r80, e79, hf⟩ := px_bq_e hf
        refine px_cI (As := [.int p3, .int (0 : Int32), .int (1 : Int32)]) (rest := []) X hml hl w (cR_M_outside l D cs ad e79) lk_6_141 (by decide) (rcR_0 X.2.2.2.2 w) rfl (Nat.le_of_ble_eq_true rfl) dX6_fits_61 (fun H locs w => ?_)
        refine lv_if_ne (tgt := 71) X.1 X.2.1 dX6_fits_64 (by decide) (fun c81 => ?_) (fun c81 => ?_)
        · have hf := px_in c81 hf
          refine lv_iconst (v := (0 : Int32)) X.1 X.2.1 dX6_fits_71 (by decide) ?_
          refine lv_istore (lv' := [(7, .int (0 : Int32)), (6, .int (0 : Int32)), (5, .int (1 : Int32)), (4, .int (0 : Int32)), (0, .ref (ad 0)), (1, .int p1), (2, .int p2), (3, .int p3)]) X.1 X.2.1 dX6_fits_72 hl (by decide) rfl (fun ls hl => ?_)
          exact lR_M_fits_K74 X hr hlk hml M p1 p3 (0 : Int32) (1 : Int32) (0 : Int32) (0 : Int32) _ hf _ _ ls w (lv_sub hl [4, 5, 7, 3, 2, 1, 0] rfl)
        · have hf := px_ip c81 hf
          refine lv_iconst (v := (1 : Int32)) X.1 X.2.1 dX6_fits_67 (by decide) ?_
          refine lv_goto (tgt := 72) X.1 X.2.1 dX6_fits_68 (by decide) ?_
          refine lv_istore (lv' := [(7, .int (1 : Int32)), (6, .int (0 : Int32)), (5, .int (1 : Int32)), (4, .int (0 : Int32)), (0, .ref (ad 0)), (1, .int p1), (2, .int p2), (3, .int p3)]) X.1 X.2.1 dX6_fits_72 hl (by decide) rfl (fun ls hl => ?_)
          exact lR_M_fits_K74 X hr hlk hml M p1 p3 (0 : Int32) (1 : Int32) (0 : Int32) (1 : Int32) _ hf _ _ ls w (lv_sub hl [4, 5, 7, 3, 2, 1, 0] rfl)
      · have hf := px_ip c78 hf
        refine lv_iconst (v := (1 : Int32)) X.1 X.2.1 dX6_fits_50 (by decide) ?_
        refine lv_goto (tgt := 55) X.1 X.2.1 dX6_fits_51 (by decide) ?_
        refine lv_istore (lv' := [(6, .int (1 : Int32)), (5, .int (1 : Int32)), (4, .int (0 : Int32)), (0, .ref (ad 0)), (1, .int p1), (2, .int p2), (3, .int p3)]) X.1 X.2.1 dX6_fits_55 hl (by decide) rfl (fun ls hl => ?_)
        refine lv_aload_n X.1 X.2.1 dX6_fits_57 rfl (lv_at hl 3 rfl) ?_
        refine lv_iload_n X.1 X.2.1 dX6_fits_58 rfl (lv_at hl 6 rfl) ?_
        refine lv_iconst (v := (0 : Int32)) X.1 X.2.1 dX6_fits_59 (by decide) ?_
        refine lv_iconst (v := (1 : Int32)) X.1 X.2.1 dX6_fits_60 (by decide) ?_
        obtain ⟨r83, e82, hf⟩ := px_bq_e hf
        refine px_cI (As := [.int p3, .int (0 : Int32), .int (1 : Int32)]) (rest := []) X hml hl w (cR_M_outside l D cs ad e82) lk_6_141 (by decide) (rcR_0 X.2.2.2.2 w) rfl (Nat.le_of_ble_eq_true rfl) dX6_fits_61 (fun H locs w => ?_)
        refine lv_if_ne (tgt := 71) X.1 X.2.1 dX6_fits_64 (by decide) (fun c84 => ?_) (fun c84 => ?_)
        · have hf := px_in c84 hf
          refine lv_iconst (v := (0 : Int32)) X.1 X.2.1 dX6_fits_71 (by decide) ?_
          refine lv_istore (lv' := [(7, .int (0 : Int32)), (6, .int (1 : Int32)), (5, .int (1 : Int32)), (4, .int (0 : Int32)), (0, .ref (ad 0)), (1, .int p1), (2, .int p2), (3, .int p3)]) X.1 X.2.1 dX6_fits_72 hl (by decide) rfl (fun ls hl => ?_)
          exact lR_M_fits_K74 X hr hlk hml M p1 p3 (0 : Int32) (1 : Int32) (1 : Int32) (0 : Int32) _ hf _ _ ls w (lv_sub hl [4, 5, 7, 3, 2, 1, 0] rfl)
        · have hf := px_ip c84 hf
          refine lv_iconst (v := (1 : Int32)) X.1 X.2.1 dX6_fits_67 (by decide) ?_
          refine lv_goto (tgt := 72) X.1 X.2.1 dX6_fits_68 (by decide) ?_
          refine lv_istore (lv' := [(7, .int (1 : Int32)), (6, .int (1 : Int32)), (5, .int (1 : Int32)), (4, .int (0 : Int32)), (0, .ref (ad 0)), (1, .int p1), (2, .int p2), (3, .int p3)]) X.1 X.2.1 dX6_fits_72 hl (by decide) rfl (fun ls hl => ?_)
          exact lR_M_fits_K74 X hr hlk hml M p1 p3 (0 : Int32) (1 : Int32) (1 : Int32) (1 : Int32) _ hf _ _ ls w (lv_sub hl [4, 5, 7, 3, 2, 1, 0] rfl)
  · have hf := px_ip c3 hf
    refine lv_iconst (v := (1 : Int32)) X.1 X.2.1 dX6_fits_11 (by decide) ?_
    refine lv_goto (tgt := 16) X.1 X.2.1 dX6_fits_12 (by decide) ?_
    refine lv_istore (lv' := [(4, .int (1 : Int32)), (0, .ref (ad 0)), (1, .int p1), (2, .int p2), (3, .int p3)]) X.1 X.2.1 dX6_fits_16 hl (by decide) rfl (fun ls hl => ?_)
    refine lv_aload_n X.1 X.2.1 dX6_fits_18 rfl (lv_at hl 1 rfl) ?_
    refine lv_iload_n X.1 X.2.1 dX6_fits_19 rfl (lv_at hl 3 rfl) ?_
    refine lv_iconst (v := (0 : Int32)) X.1 X.2.1 dX6_fits_20 (by decide) ?_
    refine lv_bipush (v := (7 : Int32)) X.1 X.2.1 dX6_fits_21 (by decide) ?_
    obtain ⟨r86, e85, hf⟩ := px_bq_e hf
    refine px_cI (As := [.int p2, .int (0 : Int32), .int (7 : Int32)]) (rest := []) X hml hl w (cR_M_outside l D cs ad e85) lk_6_141 (by decide) (rcR_0 X.2.2.2.2 w) rfl (Nat.le_of_ble_eq_true rfl) dX6_fits_23 (fun H locs w => ?_)
    refine lv_if_ne (tgt := 33) X.1 X.2.1 dX6_fits_26 (by decide) (fun c87 => ?_) (fun c87 => ?_)
    · have hf := px_in c87 hf
      refine lv_iconst (v := (0 : Int32)) X.1 X.2.1 dX6_fits_33 (by decide) ?_
      refine lv_istore (lv' := [(5, .int (0 : Int32)), (4, .int (1 : Int32)), (0, .ref (ad 0)), (1, .int p1), (2, .int p2), (3, .int p3)]) X.1 X.2.1 dX6_fits_34 hl (by decide) rfl (fun ls hl => ?_)
      refine lv_aload_n X.1 X.2.1 dX6_fits_36 rfl (lv_at hl 2 rfl) ?_
      refine lv_iload_n X.1 X.2.1 dX6_fits_37 rfl (lv_at hl 4 rfl) ?_
      refine lv_sipush (v := (-999 : Int32)) X.1 X.2.1 dX6_fits_38 (by decide) ?_
      refine lv_sipush (v := (999 : Int32)) X.1 X.2.1 dX6_fits_41 (by decide) ?_
      obtain ⟨r89, e88, hf⟩ := px_bq_e hf
      refine px_cI (As := [.int p2, .int (-999 : Int32), .int (999 : Int32)]) (rest := []) X hml hl w (cR_M_outside l D cs ad e88) lk_6_141 (by decide) (rcR_0 X.2.2.2.2 w) rfl (Nat.le_of_ble_eq_true rfl) dX6_fits_44 (fun H locs w => ?_)
      refine lv_if_ne (tgt := 54) X.1 X.2.1 dX6_fits_47 (by decide) (fun c90 => ?_) (fun c90 => ?_)
      · have hf := px_in c90 hf
        refine lv_iconst (v := (0 : Int32)) X.1 X.2.1 dX6_fits_54 (by decide) ?_
        refine lv_istore (lv' := [(6, .int (0 : Int32)), (5, .int (0 : Int32)), (4, .int (1 : Int32)), (0, .ref (ad 0)), (1, .int p1), (2, .int p2), (3, .int p3)]) X.1 X.2.1 dX6_fits_55 hl (by decide) rfl (fun ls hl => ?_)
        refine lv_aload_n X.1 X.2.1 dX6_fits_57 rfl (lv_at hl 3 rfl) ?_
        refine lv_iload_n X.1 X.2.1 dX6_fits_58 rfl (lv_at hl 6 rfl) ?_
        refine lv_iconst (v := (0 : Int32)) X.1 X.2.1 dX6_fits_59 (by decide) ?_
        refine lv_iconst (v := (1 : Int32)) X.1 X.2.1 dX6_fits_60 (by decide) ?_
        obtain ⟨r92, e91, hf⟩ := px_bq_e hf
        refine px_cI (As := [.int p3, .int (0 : Int32), .int (1 : Int32)]) (rest := []) X hml hl w (cR_M_outside l D cs ad e91) lk_6_141 (by decide) (rcR_0 X.2.2.2.2 w) rfl (Nat.le_of_ble_eq_true rfl) dX6_fits_61 (fun H locs w => ?_)
        refine lv_if_ne (tgt := 71) X.1 X.2.1 dX6_fits_64 (by decide) (fun c93 => ?_) (fun c93 => ?_)
        · have hf := px_in c93 hf
          refine lv_iconst (v := (0 : Int32)) X.1 X.2.1 dX6_fits_71 (by decide) ?_
          refine lv_istore (lv' := [(7, .int (0 : Int32)), (6, .int (0 : Int32)), (5, .int (0 : Int32)), (4, .int (1 : Int32)), (0, .ref (ad 0)), (1, .int p1), (2, .int p2), (3, .int p3)]) X.1 X.2.1 dX6_fits_72 hl (by decide) rfl (fun ls hl => ?_)
          exact lR_M_fits_K74 X hr hlk hml M p1 p3 (1 : Int32) (0 : Int32) (0 : Int32) (0 : Int32) _ hf _ _ ls w (lv_sub hl [4, 5, 7, 3, 2, 1, 0] rfl)
        · have hf := px_ip c93 hf
          refine lv_iconst (v := (1 : Int32)) X.1 X.2.1 dX6_fits_67 (by decide) ?_
          refine lv_goto (tgt := 72) X.1 X.2.1 dX6_fits_68 (by decide) ?_
          refine lv_istore (lv' := [(7, .int (1 : Int32)), (6, .int (0 : Int32)), (5, .int (0 : Int32)), (4, .int (1 : Int32)), (0, .ref (ad 0)), (1, .int p1), (2, .int p2), (3, .int p3)]) X.1 X.2.1 dX6_fits_72 hl (by decide) rfl (fun ls hl => ?_)
          exact lR_M_fits_K74 X hr hlk hml M p1 p3 (1 : Int32) (0 : Int32) (0 : Int32) (1 : Int32) _ hf _ _ ls w (lv_sub hl [4, 5, 7, 3, 2, 1, 0] rfl)
      · have hf := px_ip c90 hf
        refine lv_iconst (v := (1 : Int32)) X.1 X.2.1 dX6_fits_50 (by decide) ?_
        refine lv_goto (tgt := 55) X.1 X.2.1 dX6_fits_51 (by decide) ?_
        refine lv_istore (lv' := [(6, .int (1 : Int32)), (5, .int (0 : Int32)), (4, .int (1 : Int32)), (0, .ref (ad 0)), (1, .int p1), (2, .int p2), (3, .int p3)]) X.1 X.2.1 dX6_fits_55 hl (by decide) rfl (fun ls hl => ?_)
        refine lv_aload_n X.1 X.2.1 dX6_fits_57 rfl (lv_at hl 3 rfl) ?_
        refine lv_iload_n X.1 X.2.1 dX6_fits_58 rfl (lv_at hl 6 rfl) ?_
        refine lv_iconst (v := (0 : Int32)) X.1 X.2.1 dX6_fits_59 (by decide) ?_
        refine lv_iconst (v := (1 : Int32)) X.1 X.2.1 dX6_fits_60 (by decide) ?_
        obtain ⟨r95, e94, hf⟩ := px_bq_e hf
        refine px_cI (As := [.int p3, .int (0 : Int32), .int (1 : Int32)]) (rest := []) X hml hl w (cR_M_outside l D cs ad e94) lk_6_141 (by decide) (rcR_0 X.2.2.2.2 w) rfl (Nat.le_of_ble_eq_true rfl) dX6_fits_61 (fun H locs w => ?_)
        refine lv_if_ne (tgt := 71) X.1 X.2.1 dX6_fits_64 (by decide) (fun c96 => ?_) (fun c96 => ?_)
        · have hf := px_in c96 hf
          refine lv_iconst (v := (0 : Int32)) X.1 X.2.1 dX6_fits_71 (by decide) ?_
          refine lv_istore (lv' := [(7, .int (0 : Int32)), (6, .int (1 : Int32)), (5, .int (0 : Int32)), (4, .int (1 : Int32)), (0, .ref (ad 0)), (1, .int p1), (2, .int p2), (3, .int p3)]) X.1 X.2.1 dX6_fits_72 hl (by decide) rfl (fun ls hl => ?_)
          exact lR_M_fits_K74 X hr hlk hml M p1 p3 (1 : Int32) (0 : Int32) (1 : Int32) (0 : Int32) _ hf _ _ ls w (lv_sub hl [4, 5, 7, 3, 2, 1, 0] rfl)
        · have hf := px_ip c96 hf
          refine lv_iconst (v := (1 : Int32)) X.1 X.2.1 dX6_fits_67 (by decide) ?_
          refine lv_goto (tgt := 72) X.1 X.2.1 dX6_fits_68 (by decide) ?_
          refine lv_istore (lv' := [(7, .int (1 : Int32)), (6, .int (1 : Int32)), (5, .int (0 : Int32)), (4, .int (1 : Int32)), (0, .ref (ad 0)), (1, .int p1), (2, .int p2), (3, .int p3)]) X.1 X.2.1 dX6_fits_72 hl (by decide) rfl (fun ls hl => ?_)
          exact lR_M_fits_K74 X hr hlk hml M p1 p3 (1 : Int32) (0 : Int32) (1 : Int32) (1 : Int32) _ hf _ _ ls w (lv_sub hl [4, 5, 7, 3, 2, 1, 0] rfl)
    · have hf := px_ip c87 hf
      refine lv_iconst (v := (1 : Int32)) X.1 X.2.1 dX6_fits_29 (by decide) ?_
      refine lv_goto (tgt := 34) X.1 X.2.1 dX6_fits_30 (by decide) ?_
      refine lv_istore (lv' := [(5, .int (1 : Int32)), (4, .int (1 : Int32)), (0, .ref (ad 0)), (1, .int p1), (2, .int p2), (3, .int p3)]) X.1 X.2.1 dX6_fits_34 hl (by decide) rfl (fun ls hl => ?_)
      refine lv_aload_n X.1 X.2.1 dX6_fits_36 rfl (lv_at hl 2 rfl) ?_
      refine lv_iload_n X.1 X.2.1 dX6_fits_37 rfl (lv_at hl 4 rfl) ?_
      refine lv_sipush (v := (-999 : Int32)) X.1 X.2.1 dX6_fits_38 (by decide) ?_
      refine lv_sipush (v := (999 : Int32)) X.1 X.2.1 dX6_fits_41 (by decide) ?_
      obtain ⟨r98, e97, hf⟩ := px_bq_e hf
      refine px_cI (As := [.int p2, .int (-999 : Int32), .int (999 : Int32)]) (rest := []) X hml hl w (cR_M_outside l D cs ad e97) lk_6_141 (by decide) (rcR_0 X.2.2.2.2 w) rfl (Nat.le_of_ble_eq_true rfl) dX6_fits_44 (fun H locs w => ?_)
      refine lv_if_ne (tgt := 54) X.1 X.2.1 dX6_fits_47 (by decide) (fun c99 => ?_) (fun c99 => ?_)
      · have hf := px_in c99 hf
        refine lv_iconst (v := (0 : Int32)) X.1 X.2.1 dX6_fits_54 (by decide) ?_
        refine lv_istore (lv' := [(6, .int (0 : Int32)), (5, .int (1 : Int32)), (4, .int (1 : Int32)), (0, .ref (ad 0)), (1, .int p1), (2, .int p2), (3, .int p3)]) X.1 X.2.1 dX6_fits_55 hl (by decide) rfl (fun ls hl => ?_)
        refine lv_aload_n X.1 X.2.1 dX6_fits_57 rfl (lv_at hl 3 rfl) ?_
        refine lv_iload_n X.1 X.2.1 dX6_fits_58 rfl (lv_at hl 6 rfl) ?_
        refine lv_iconst (v := (0 : Int32)) X.1 X.2.1 dX6_fits_59 (by decide) ?_
        refine lv_iconst (v := (1 : Int32)) X.1 X.2.1 dX6_fits_60 (by decide) ?_
        obtain ⟨r101, e100, hf⟩ := px_bq_e hf
        refine px_cI (As := [.int p3, .int (0 : Int32), .int (1 : Int32)]) (rest := []) X hml hl w (cR_M_outside l D cs ad e100) lk_6_141 (by decide) (rcR_0 X.2.2.2.2 w) rfl (Nat.le_of_ble_eq_true rfl) dX6_fits_61 (fun H locs w => ?_)
        refine lv_if_ne (tgt := 71) X.1 X.2.1 dX6_fits_64 (by decide) (fun c102 => ?_) (fun c102 => ?_)
        · have hf := px_in c102 hf
          refine lv_iconst (v := (0 : Int32)) X.1 X.2.1 dX6_fits_71 (by decide) ?_
          refine lv_istore (lv' := [(7, .int (0 : Int32)), (6, .int (0 : Int32)), (5, .int (1 : Int32)), (4, .int (1 : Int32)), (0, .ref (ad 0)), (1, .int p1), (2, .int p2), (3, .int p3)]) X.1 X.2.1 dX6_fits_72 hl (by decide) rfl (fun ls hl => ?_)
          exact lR_M_fits_K74 X hr hlk hml M p1 p3 (1 : Int32) (1 : Int32) (0 : Int32) (0 : Int32) _ hf _ _ ls w (lv_sub hl [4, 5, 7, 3, 2, 1, 0] rfl)
        · have hf := px_ip c102 hf
          refine lv_iconst (v := (1 : Int32)) X.1 X.2.1 dX6_fits_67 (by decide) ?_
          refine lv_goto (tgt := 72) X.1 X.2.1 dX6_fits_68 (by decide) ?_
          refine lv_istore (lv' := [(7, .int (1 : Int32)), (6, .int (0 : Int32)), (5, .int (1 : Int32)), (4, .int (1 : Int32)), (0, .ref (ad 0)), (1, .int p1), (2, .int p2), (3, .int p3)]) X.1 X.2.1 dX6_fits_72 hl (by decide) rfl (fun ls hl => ?_)
          exact lR_M_fits_K74 X hr hlk hml M p1 p3 (1 : Int32) (1 : Int32) (0 : Int32) (1 : Int32) _ hf _ _ ls w (lv_sub hl [4, 5, 7, 3, 2, 1, 0] rfl)
      · have hf := px_ip c99 hf
        refine lv_iconst (v := (1 : Int32)) X.1 X.2.1 dX6_fits_50 (by decide) ?_
        refine lv_goto (tgt := 55) X.1 X.2.1 dX6_fits_51 (by decide) ?_
        refine lv_istore (lv' := [(6, .int (1 : Int32)), (5, .int (1 : Int32)), (4, .int (1 : Int32)), (0, .ref (ad 0)), (1, .int p1), (2, .int p2), (3, .int p3)]) X.1 X.2.1 dX6_fits_55 hl (by decide) rfl (fun ls hl => ?_)
        refine lv_aload_n X.1 X.2.1 dX6_fits_57 rfl (lv_at hl 3 rfl) ?_
        refine lv_iload_n X.1 X.2.1 dX6_fits_58 rfl (lv_at hl 6 rfl) ?_
        refine lv_iconst (v := (0 : Int32)) X.1 X.2.1 dX6_fits_59 (by decide) ?_
        refine lv_iconst (v := (1 : Int32)) X.1 X.2.1 dX6_fits_60 (by decide) ?_
        obtain ⟨r104, e103, hf⟩ := px_bq_e hf
        refine px_cI (As := [.int p3, .int (0 : Int32), .int (1 : Int32)]) (rest := []) X hml hl w (cR_M_outside l D cs ad e103) lk_6_141 (by decide) (rcR_0 X.2.2.2.2 w) rfl (Nat.le_of_ble_eq_true rfl) dX6_fits_61 (fun H locs w => ?_)
        refine lv_if_ne (tgt := 71) X.1 X.2.1 dX6_fits_64 (by decide) (fun c105 => ?_) (fun c105 => ?_)
        · have hf := px_in c105 hf
          refine lv_iconst (v := (0 : Int32)) X.1 X.2.1 dX6_fits_71 (by decide) ?_
          refine lv_istore (lv' := [(7, .int (0 : Int32)), (6, .int (1 : Int32)), (5, .int (1 : Int32)), (4, .int (1 : Int32)), (0, .ref (ad 0)), (1, .int p1), (2, .int p2), (3, .int p3)]) X.1 X.2.1 dX6_fits_72 hl (by decide) rfl (fun ls hl => ?_)
          exact lR_M_fits_K74 X hr hlk hml M p1 p3 (1 : Int32) (1 : Int32) (1 : Int32) (0 : Int32) _ hf _ _ ls w (lv_sub hl [4, 5, 7, 3, 2, 1, 0] rfl)
        · have hf := px_ip c105 hf
          refine lv_iconst (v := (1 : Int32)) X.1 X.2.1 dX6_fits_67 (by decide) ?_
          refine lv_goto (tgt := 72) X.1 X.2.1 dX6_fits_68 (by decide) ?_
          refine lv_istore (lv' := [(7, .int (1 : Int32)), (6, .int (1 : Int32)), (5, .int (1 : Int32)), (4, .int (1 : Int32)), (0, .ref (ad 0)), (1, .int p1), (2, .int p2), (3, .int p3)]) X.1 X.2.1 dX6_fits_72 hl (by decide) rfl (fun ls hl => ?_)
          exact lR_M_fits_K74 X hr hlk hml M p1 p3 (1 : Int32) (1 : Int32) (1 : Int32) (1 : Int32) _ hf _ _ ls w (lv_sub hl [4, 5, 7, 3, 2, 1, 0] rfl)
theorem lk_6_145 : px_Lk RX6 145 yX6_fits cX6_fits 8 (some .boolean) 3 := ⟨px_tb (by decide +kernel) (by decide +kernel), px_tb (by decide +kernel) (by decide +kernel), px_tb (by decide +kernel) (by decide +kernel), px_tb (by decide +kernel) (by decide +kernel), px_tb (by decide +kernel) (by decide +kernel), by decide +kernel, by decide⟩
def fR_M_step (M : px_M) (p1 p2 p3 p4 : Int32) : Option (Int32 × px_M) := px_bq (fR_M_outside M p1 (0 : Int32) (9 : Int32)) (fun r2 => (if r2 = 0 then px_bq (fR_M_outside M p2 (0 : Int32) (15 : Int32)) (fun r37 => (if r37 = 0 then px_bq (fR_M_fits M p2 p3 p4) (fun r72 => (if r72 = 0 then px_bn (px_up M 0 0 (1 : Int32)) (fun M106 => (if (M106 0 0) = 0 then px_ck p1 10 ((if (M106 1 p1.toNatClampNeg) = (6 : Int32) then px_bn (px_up M106 0 0 (2 : Int32)) (fun M124 => (if (M124 0 0) = 0 then px_ck p1 10 (px_bn ((((6 : Int32) * p1) + (M124 1 p1.toNatClampNeg))) (fun x127 => px_ck x127 60 (px_bn (px_up M124 2 x127.toNatClampNeg p2) (fun M129 => px_ck x127 60 (px_bn (px_up M129 3 x127.toNatClampNeg p3) (fun M131 => px_ck x127 60 (px_bn (px_up M131 4 x127.toNatClampNeg p4) (fun M133 => px_ck p1 10 (px_ck p1 10 (px_bn (px_up M133 1 p1.toNatClampNeg ((M133 1 p1.toNatClampNeg) + (1 : Int32))) (fun M136 => px_ck p1 10 (some ((M136 1 p1.toNatClampNeg), M136))))))))))))) else some ((0 : Int32), M124))) else px_bn (px_up M106 0 0 (0 : Int32)) (fun M110 => (if (M110 0 0) = 0 then px_ck p1 10 (px_bn ((((6 : Int32) * p1) + (M110 1 p1.toNatClampNeg))) (fun x113 => px_ck x113 60 (px_bn (px_up M110 2 x113.toNatClampNeg p2) (fun M115 => px_ck x113 60 (px_bn (px_up M115 3 x113.toNatClampNeg p3) (fun M117 => px_ck x113 60 (px_bn (px_up M117 4 x113.toNatClampNeg p4) (fun M119 => px_ck p1 10 (px_ck p1 10 (px_bn (px_up M119 1 p1.toNatClampNeg ((M119 1 p1.toNatClampNeg) + (1 : Int32))) (fun M122 => px_ck p1 10 (some ((M122 1 p1.toNatClampNeg), M122))))))))))))) else some ((0 : Int32), M110))))) else some ((0 : Int32), M106))) else px_bn (px_up M 0 0 (0 : Int32)) (fun M74 => (if (M74 0 0) = 0 then px_ck p1 10 ((if (M74 1 p1.toNatClampNeg) = (6 : Int32) then px_bn (px_up M74 0 0 (2 : Int32)) (fun M92 => (if (M92 0 0) = 0 then px_ck p1 10 (px_bn ((((6 : Int32) * p1) + (M92 1 p1.toNatClampNeg))) (fun x95 => px_ck x95 60 (px_bn (px_up M92 2 x95.toNatClampNeg p2) (fun M97 => px_ck x95 60 (px_bn (px_up M97 3 x95.toNatClampNeg p3) (fun M99 => px_ck x95 60 (px_bn (px_up M99 4 x95.toNatClampNeg p4) (fun M101 => px_ck p1 10 (px_ck p1 10 (px_bn (px_up M101 1 p1.toNatClampNeg ((M101 1 p1.toNatClampNeg) + (1 : Int32))) (fun M104 => px_ck p1 10 (some ((M104 1 p1.toNatClampNeg), M104))))))))))))) else some ((0 : Int32), M92))) else px_bn (px_up M74 0 0 (0 : Int32)) (fun M78 => (if (M78 0 0) = 0 then px_ck p1 10 (px_bn ((((6 : Int32) * p1) + (M78 1 p1.toNatClampNeg))) (fun x81 => px_ck x81 60 (px_bn (px_up M78 2 x81.toNatClampNeg p2) (fun M83 => px_ck x81 60 (px_bn (px_up M83 3 x81.toNatClampNeg p3) (fun M85 => px_ck x81 60 (px_bn (px_up M85 4 x81.toNatClampNeg p4) (fun M87 => px_ck p1 10 (px_ck p1 10 (px_bn (px_up M87 1 p1.toNatClampNeg ((M87 1 p1.toNatClampNeg) + (1 : Int32))) (fun M90 => px_ck p1 10 (some ((M90 1 p1.toNatClampNeg), M90))))))))))))) else some ((0 : Int32), M78))))) else some ((0 : Int32), M74))))) else px_bn (px_up M 0 0 (1 : Int32)) (fun M39 => (if (M39 0 0) = 0 then px_ck p1 10 ((if (M39 1 p1.toNatClampNeg) = (6 : Int32) then px_bn (px_up M39 0 0 (2 : Int32)) (fun M57 => (if (M57 0 0) = 0 then px_ck p1 10 (px_bn ((((6 : Int32) * p1) + (M57 1 p1.toNatClampNeg))) (fun x60 => px_ck x60 60 (px_bn (px_up M57 2 x60.toNatClampNeg p2) (fun M62 => px_ck x60 60 (px_bn (px_up M62 3 x60.toNatClampNeg p3) (fun M64 => px_ck x60 60 (px_bn (px_up M64 4 x60.toNatClampNeg p4) (fun M66 => px_ck p1 10 (px_ck p1 10 (px_bn (px_up M66 1 p1.toNatClampNeg ((M66 1 p1.toNatClampNeg) + (1 : Int32))) (fun M69 => px_ck p1 10 (some ((M69 1 p1.toNatClampNeg), M69))))))))))))) else some ((0 : Int32), M57))) else px_bn (px_up M39 0 0 (0 : Int32)) (fun M43 => (if (M43 0 0) = 0 then px_ck p1 10 (px_bn ((((6 : Int32) * p1) + (M43 1 p1.toNatClampNeg))) (fun x46 => px_ck x46 60 (px_bn (px_up M43 2 x46.toNatClampNeg p2) (fun M48 => px_ck x46 60 (px_bn (px_up M48 3 x46.toNatClampNeg p3) (fun M50 => px_ck x46 60 (px_bn (px_up M50 4 x46.toNatClampNeg p4) (fun M52 => px_ck p1 10 (px_ck p1 10 (px_bn (px_up M52 1 p1.toNatClampNeg ((M52 1 p1.toNatClampNeg) + (1 : Int32))) (fun M55 => px_ck p1 10 (some ((M55 1 p1.toNatClampNeg), M55))))))))))))) else some ((0 : Int32), M43))))) else some ((0 : Int32), M39))))) else px_bn (px_up M 0 0 (1 : Int32)) (fun M4 => (if (M4 0 0) = 0 then px_ck p1 10 ((if (M4 1 p1.toNatClampNeg) = (6 : Int32) then px_bn (px_up M4 0 0 (2 : Int32)) (fun M22 => (if (M22 0 0) = 0 then px_ck p1 10 (px_bn ((((6 : Int32) * p1) + (M22 1 p1.toNatClampNeg))) (fun x25 => px_ck x25 60 (px_bn (px_up M22 2 x25.toNatClampNeg p2) (fun M27 => px_ck x25 60 (px_bn (px_up M27 3 x25.toNatClampNeg p3) (fun M29 => px_ck x25 60 (px_bn (px_up M29 4 x25.toNatClampNeg p4) (fun M31 => px_ck p1 10 (px_ck p1 10 (px_bn (px_up M31 1 p1.toNatClampNeg ((M31 1 p1.toNatClampNeg) + (1 : Int32))) (fun M34 => px_ck p1 10 (some ((M34 1 p1.toNatClampNeg), M34))))))))))))) else some ((0 : Int32), M22))) else px_bn (px_up M4 0 0 (0 : Int32)) (fun M8 => (if (M8 0 0) = 0 then px_ck p1 10 (px_bn ((((6 : Int32) * p1) + (M8 1 p1.toNatClampNeg))) (fun x11 => px_ck x11 60 (px_bn (px_up M8 2 x11.toNatClampNeg p2) (fun M13 => px_ck x11 60 (px_bn (px_up M13 3 x11.toNatClampNeg p3) (fun M15 => px_ck x11 60 (px_bn (px_up M15 4 x11.toNatClampNeg p4) (fun M17 => px_ck p1 10 (px_ck p1 10 (px_bn (px_up M17 1 p1.toNatClampNeg ((M17 1 p1.toNatClampNeg) + (1 : Int32))) (fun M20 => px_ck p1 10 (some ((M20 1 p1.toNatClampNeg), M20))))))))))))) else some ((0 : Int32), M8))))) else some ((0 : Int32), M4)))))
set_option maxHeartbeats 4000000 in
set_option maxRecDepth 100000 in
theorem cR_M_step (l : Launch) (D : va_G) (cs : Nat → ClassId) (ad : Nat → Nat) {M : px_M} {p1 p2 p3 p4 : Int32} {r : Int32} {M' : px_M} (hf : fR_M_step M p1 p2 p3 p4 = some (r, M')) : px_mI l D (tyR cs) (wR cs ad) yX6_step cX6_step 6 (some .int) 2 [.ref (ad 0), .int p1, .int p2, .int p3, .int p4] M r M' := by
  refine px_ofI (by decide +kernel) (Nat.le_of_ble_eq_true rfl) ?_
  intro p e s m below meth c A ls X hr hlk hml w hl
  have hl : lv_has ls 6 [(0, .ref (ad 0)), (1, .int p1), (2, .int p2), (3, .int p3), (4, .int p4)] := hl
  unfold fR_M_step at hf
  refine lv_aload_n X.1 X.2.1 dX6_step_0 rfl (lv_at hl 0 rfl) ?_
  refine lv_aload_n X.1 X.2.1 dX6_step_1 rfl (lv_at hl 0 rfl) ?_
  refine lv_iload_n X.1 X.2.1 dX6_step_2 rfl (lv_at hl 1 rfl) ?_
  refine lv_iconst (v := (0 : Int32)) X.1 X.2.1 dX6_step_3 (by decide) ?_
  refine lv_bipush (v := (9 : Int32)) X.1 X.2.1 dX6_step_4 (by decide) ?_
  obtain ⟨r2, e1, hf⟩ := px_bq_e hf
  refine px_cI (As := [.int p1, .int (0 : Int32), .int (9 : Int32)]) (rest := [.ref (ad 0)]) X hml hl w (cR_M_outside l D cs ad e1) lk_6_141 (by decide) (rcR_0 X.2.2.2.2 w) rfl (Nat.le_of_ble_eq_true rfl) dX6_step_6 (fun H locs w => ?_)
  refine lv_if_ne (tgt := 34) X.1 X.2.1 dX6_step_9 (by decide) (fun c3 => ?_) (fun c3 => ?_)
  · have hf := px_in c3 hf
    refine lv_iconst (v := (1 : Int32)) X.1 X.2.1 dX6_step_34 (by decide) ?_
    refine lv_goto (tgt := 39) X.1 X.2.1 dX6_step_35 (by decide) ?_
    refine ptR_0_0 X w dX6_step_39 (fun H locs w => ?_)
    obtain ⟨M4, eM4, hf⟩ := px_bn_e hf
    rw [← eM4] at w
    refine lv_aload_n X.1 X.2.1 dX6_step_42 rfl (lv_at hl 0 rfl) ?_
    refine gtR_0_0 X w dX6_step_43 ?_
    refine lv_if_eq (tgt := 51) X.1 X.2.1 dX6_step_46 (by decide) (fun c5 => ?_) (fun c5 => ?_)
    · have hf := px_ip c5 hf
      refine lv_aload_n X.1 X.2.1 dX6_step_51 rfl (lv_at hl 0 rfl) ?_
      refine lv_aload_n X.1 X.2.1 dX6_step_52 rfl (lv_at hl 0 rfl) ?_
      refine gtR_0_1 X w dX6_step_53 ?_
      refine lv_iload_n X.1 X.2.1 dX6_step_56 rfl (lv_at hl 1 rfl) ?_
      obtain ⟨b6, hf⟩ := px_ck_e hf
      refine ilR_1 X w b6 dX6_step_57 ?_
      refine lv_bipush (v := (6 : Int32)) X.1 X.2.1 dX6_step_58 (by decide) ?_
      refine lv_icmp_ne (tgt := 67) X.1 X.2.1 dX6_step_60 (by decide) (fun c7 => ?_) (fun c7 => ?_)
      · have hf := px_in c7 hf
        refine lv_iconst (v := (0 : Int32)) X.1 X.2.1 dX6_step_67 (by decide) ?_
        refine ptR_0_0 X w dX6_step_68 (fun H locs w => ?_)
        obtain ⟨M8, eM8, hf⟩ := px_bn_e hf
        rw [← eM8] at w
        refine lv_aload_n X.1 X.2.1 dX6_step_71 rfl (lv_at hl 0 rfl) ?_
        refine gtR_0_0 X w dX6_step_72 ?_
        refine lv_if_eq (tgt := 80) X.1 X.2.1 dX6_step_75 (by decide) (fun c9 => ?_) (fun c9 => ?_)
        · have hf := px_ip c9 hf
          refine lv_bipush (v := (6 : Int32)) X.1 X.2.1 dX6_step_80 (by decide) ?_
          refine lv_iload_n X.1 X.2.1 dX6_step_82 rfl (lv_at hl 1 rfl) ?_
          refine lv_imul X.1 X.2.1 dX6_step_83 ?_
          refine lv_aload_n X.1 X.2.1 dX6_step_84 rfl (lv_at hl 0 rfl) ?_
          refine gtR_0_1 X w dX6_step_85 ?_
          refine lv_iload_n X.1 X.2.1 dX6_step_88 rfl (lv_at hl 1 rfl) ?_
          obtain ⟨b10, hf⟩ := px_ck_e hf
          refine ilR_1 X w b10 dX6_step_89 ?_
          refine lv_iadd X.1 X.2.1 dX6_step_90 ?_
          obtain ⟨x11, ex11, hf⟩ := px_bn_e hf
          rw [← ex11]
          refine lv_istore (lv' := [(5, .int x11), (0, .ref (ad 0)), (1, .int p1), (2, .int p2), (3, .int p3), (4, .int p4)]) X.1 X.2.1 dX6_step_91 hl (by decide) rfl (fun ls hl => ?_)
          refine lv_aload_n X.1 X.2.1 dX6_step_93 rfl (lv_at hl 1 rfl) ?_
          refine gtR_0_2 X w dX6_step_94 ?_
          refine lv_iload X.1 X.2.1 dX6_step_97 (lv_at hl 0 rfl) ?_
          refine lv_iload_n X.1 X.2.1 dX6_step_99 rfl (lv_at hl 3 rfl) ?_
          obtain ⟨b12, hf⟩ := px_ck_e hf
          refine isR_2 X w b12 dX6_step_100 (fun H locs w => ?_)
          obtain ⟨M13, eM13, hf⟩ := px_bn_e hf
          rw [← eM13] at w
          refine lv_aload_n X.1 X.2.1 dX6_step_101 rfl (lv_at hl 1 rfl) ?_
          refine gtR_0_3 X w dX6_step_102 ?_
          refine lv_iload X.1 X.2.1 dX6_step_105 (lv_at hl 0 rfl) ?_
          refine lv_iload_n X.1 X.2.1 dX6_step_107 rfl (lv_at hl 4 rfl) ?_
          obtain ⟨b14, hf⟩ := px_ck_e hf
          refine isR_3 X w b14 dX6_step_108 (fun H locs w => ?_)
          obtain ⟨M15, eM15, hf⟩ := px_bn_e hf
          rw [← eM15] at w
          refine lv_aload_n X.1 X.2.1 dX6_step_109 rfl (lv_at hl 1 rfl) ?_
          refine gtR_0_4 X w dX6_step_110 ?_
          refine lv_iload X.1 X.2.1 dX6_step_113 (lv_at hl 0 rfl) ?_
          refine lv_iload X.1 X.2.1 dX6_step_115 (lv_at hl 5 rfl) ?_
          obtain ⟨b16, hf⟩ := px_ck_e hf
          refine isR_4 X w b16 dX6_step_117 (fun H locs w => ?_)
          obtain ⟨M17, eM17, hf⟩ := px_bn_e hf
          rw [← eM17] at w
          refine lv_aload_n X.1 X.2.1 dX6_step_118 rfl (lv_at hl 1 rfl) ?_
          refine gtR_0_1 X w dX6_step_119 ?_
          refine lv_iload_n X.1 X.2.1 dX6_step_122 rfl (lv_at hl 2 rfl) ?_
          refine lv_dup2_11 X.1 X.2.1 dX6_step_123 rfl rfl ?_
          obtain ⟨b18, hf⟩ := px_ck_e hf
          refine ilR_1 X w b18 dX6_step_124 ?_
          refine lv_iconst (v := (1 : Int32)) X.1 X.2.1 dX6_step_125 (by decide) ?_
          refine lv_iadd X.1 X.2.1 dX6_step_126 ?_
          obtain ⟨b19, hf⟩ := px_ck_e hf
          refine isR_1 X w b19 dX6_step_127 (fun H locs w => ?_)
          obtain ⟨M20, eM20, hf⟩ := px_bn_e hf
          rw [← eM20] at w
          refine lv_aload_n X.1 X.2.1 dX6_step_128 rfl (lv_at hl 1 rfl) ?_
          refine gtR_0_1 X w dX6_step_129 ?_
          refine lv_iload_n X.1 X.2.1 dX6_step_132 rfl (lv_at hl 2 rfl) ?_
          obtain ⟨b21, hf⟩ := px_ck_e hf
          refine ilR_1 X w b21 dX6_step_133 ?_
          cases hf
          exact px_retI X hr hlk w dX6_step_134
        · have hf := px_in c9 hf
          refine lv_iconst (v := (0 : Int32)) X.1 X.2.1 dX6_step_78 (by decide) ?_
          cases hf
          exact px_retI X hr hlk w dX6_step_79
      · have hf := px_ip c7 hf
        refine lv_iconst (v := (2 : Int32)) X.1 X.2.1 dX6_step_63 (by decide) ?_
        refine lv_goto (tgt := 68) X.1 X.2.1 dX6_step_64 (by decide) ?_
        refine ptR_0_0 X w dX6_step_68 (fun H locs w => ?_)
        obtain ⟨M22, eM22, hf⟩ := px_bn_e hf
        rw [← eM22] at w
        refine lv_aload_n X.1 X.2.1 dX6_step_71 rfl (lv_at hl 0 rfl) ?_
        refine gtR_0_0 X w dX6_step_72 ?_
        refine lv_if_eq (tgt := 80) X.1 X.2.1 dX6_step_75 (by decide) (fun c23 => ?_) (fun c23 => ?_)
        · have hf := px_ip c23 hf
          refine lv_bipush (v := (6 : Int32)) X.1 X.2.1 dX6_step_80 (by decide) ?_
          refine lv_iload_n X.1 X.2.1 dX6_step_82 rfl (lv_at hl 1 rfl) ?_
          refine lv_imul X.1 X.2.1 dX6_step_83 ?_
          refine lv_aload_n X.1 X.2.1 dX6_step_84 rfl (lv_at hl 0 rfl) ?_
          refine gtR_0_1 X w dX6_step_85 ?_
          refine lv_iload_n X.1 X.2.1 dX6_step_88 rfl (lv_at hl 1 rfl) ?_
          obtain ⟨b24, hf⟩ := px_ck_e hf
          refine ilR_1 X w b24 dX6_step_89 ?_
          refine lv_iadd X.1 X.2.1 dX6_step_90 ?_
          obtain ⟨x25, ex25, hf⟩ := px_bn_e hf
          rw [← ex25]
          refine lv_istore (lv' := [(5, .int x25), (0, .ref (ad 0)), (1, .int p1), (2, .int p2), (3, .int p3), (4, .int p4)]) X.1 X.2.1 dX6_step_91 hl (by decide) rfl (fun ls hl => ?_)
          refine lv_aload_n X.1 X.2.1 dX6_step_93 rfl (lv_at hl 1 rfl) ?_
          refine gtR_0_2 X w dX6_step_94 ?_
          refine lv_iload X.1 X.2.1 dX6_step_97 (lv_at hl 0 rfl) ?_
          refine lv_iload_n X.1 X.2.1 dX6_step_99 rfl (lv_at hl 3 rfl) ?_
          obtain ⟨b26, hf⟩ := px_ck_e hf
          refine isR_2 X w b26 dX6_step_100 (fun H locs w => ?_)
          obtain ⟨M27, eM27, hf⟩ := px_bn_e hf
          rw [← eM27] at w
          refine lv_aload_n X.1 X.2.1 dX6_step_101 rfl (lv_at hl 1 rfl) ?_
          refine gtR_0_3 X w dX6_step_102 ?_
          refine lv_iload X.1 X.2.1 dX6_step_105 (lv_at hl 0 rfl) ?_
          refine lv_iload_n X.1 X.2.1 dX6_step_107 rfl (lv_at hl 4 rfl) ?_
          obtain ⟨b28, hf⟩ := px_ck_e hf
          refine isR_3 X w b28 dX6_step_108 (fun H locs w => ?_)
          obtain ⟨M29, eM29, hf⟩ := px_bn_e hf
          rw [← eM29] at w
          refine lv_aload_n X.1 X.2.1 dX6_step_109 rfl (lv_at hl 1 rfl) ?_
          refine gtR_0_4 X w dX6_step_110 ?_
          refine lv_iload X.1 X.2.1 dX6_step_113 (lv_at hl 0 rfl) ?_
          refine lv_iload X.1 X.2.1 dX6_step_115 (lv_at hl 5 rfl) ?_
          obtain ⟨b30, hf⟩ := px_ck_e hf
          refine isR_4 X w b30 dX6_step_117 (fun H locs w => ?_)
          obtain ⟨M31, eM31, hf⟩ := px_bn_e hf
          rw [← eM31] at w
          refine lv_aload_n X.1 X.2.1 dX6_step_118 rfl (lv_at hl 1 rfl) ?_
          refine gtR_0_1 X w dX6_step_119 ?_
          refine lv_iload_n X.1 X.2.1 dX6_step_122 rfl (lv_at hl 2 rfl) ?_
          refine lv_dup2_11 X.1 X.2.1 dX6_step_123 rfl rfl ?_
          obtain ⟨b32, hf⟩ := px_ck_e hf
          refine ilR_1 X w b32 dX6_step_124 ?_
          refine lv_iconst (v := (1 : Int32)) X.1 X.2.1 dX6_step_125 (by decide) ?_
          refine lv_iadd X.1 X.2.1 dX6_step_126 ?_
          obtain ⟨b33, hf⟩ := px_ck_e hf
          refine isR_1 X w b33 dX6_step_127 (fun H locs w => ?_)
          obtain ⟨M34, eM34, hf⟩ := px_bn_e hf
          rw [← eM34] at w
          refine lv_aload_n X.1 X.2.1 dX6_step_128 rfl (lv_at hl 1 rfl) ?_
          refine gtR_0_1 X w dX6_step_129 ?_
          refine lv_iload_n X.1 X.2.1 dX6_step_132 rfl (lv_at hl 2 rfl) ?_
          obtain ⟨b35, hf⟩ := px_ck_e hf
          refine ilR_1 X w b35 dX6_step_133 ?_
          cases hf
          exact px_retI X hr hlk w dX6_step_134
        · have hf := px_in c23 hf
          refine lv_iconst (v := (0 : Int32)) X.1 X.2.1 dX6_step_78 (by decide) ?_
          cases hf
          exact px_retI X hr hlk w dX6_step_79
    · have hf := px_in c5 hf
      refine lv_iconst (v := (0 : Int32)) X.1 X.2.1 dX6_step_49 (by decide) ?_
      cases hf
      exact px_retI X hr hlk w dX6_step_50
  · have hf := px_ip c3 hf
    refine lv_aload_n X.1 X.2.1 dX6_step_12 rfl (lv_at hl 0 rfl) ?_
    refine lv_iload_n X.1 X.2.1 dX6_step_13 rfl (lv_at hl 2 rfl) ?_
    refine lv_iconst (v := (0 : Int32)) X.1 X.2.1 dX6_step_14 (by decide) ?_
    refine lv_bipush (v := (15 : Int32)) X.1 X.2.1 dX6_step_15 (by decide) ?_
    obtain ⟨r37, e36, hf⟩ := px_bq_e hf
    refine px_cI (As := [.int p2, .int (0 : Int32), .int (15 : Int32)]) (rest := [.ref (ad 0)]) X hml hl w (cR_M_outside l D cs ad e36) lk_6_141 (by decide) (rcR_0 X.2.2.2.2 w) rfl (Nat.le_of_ble_eq_true rfl) dX6_step_17 (fun H locs w => ?_)
    refine lv_if_ne (tgt := 34) X.1 X.2.1 dX6_step_20 (by decide) (fun c38 => ?_) (fun c38 => ?_)
    · have hf := px_in c38 hf
      refine lv_iconst (v := (1 : Int32)) X.1 X.2.1 dX6_step_34 (by decide) ?_
      refine lv_goto (tgt := 39) X.1 X.2.1 dX6_step_35 (by decide) ?_
      refine ptR_0_0 X w dX6_step_39 (fun H locs w => ?_)
      obtain ⟨M39, eM39, hf⟩ := px_bn_e hf
      rw [← eM39] at w
      refine lv_aload_n X.1 X.2.1 dX6_step_42 rfl (lv_at hl 0 rfl) ?_
      refine gtR_0_0 X w dX6_step_43 ?_
      refine lv_if_eq (tgt := 51) X.1 X.2.1 dX6_step_46 (by decide) (fun c40 => ?_) (fun c40 => ?_)
      · have hf := px_ip c40 hf
        refine lv_aload_n X.1 X.2.1 dX6_step_51 rfl (lv_at hl 0 rfl) ?_
        refine lv_aload_n X.1 X.2.1 dX6_step_52 rfl (lv_at hl 0 rfl) ?_
        refine gtR_0_1 X w dX6_step_53 ?_
        refine lv_iload_n X.1 X.2.1 dX6_step_56 rfl (lv_at hl 1 rfl) ?_
        obtain ⟨b41, hf⟩ := px_ck_e hf
        refine ilR_1 X w b41 dX6_step_57 ?_
        refine lv_bipush (v := (6 : Int32)) X.1 X.2.1 dX6_step_58 (by decide) ?_
        refine lv_icmp_ne (tgt := 67) X.1 X.2.1 dX6_step_60 (by decide) (fun c42 => ?_) (fun c42 => ?_)
        · have hf := px_in c42 hf
          refine lv_iconst (v := (0 : Int32)) X.1 X.2.1 dX6_step_67 (by decide) ?_
          refine ptR_0_0 X w dX6_step_68 (fun H locs w => ?_)
          obtain ⟨M43, eM43, hf⟩ := px_bn_e hf
          rw [← eM43] at w
          refine lv_aload_n X.1 X.2.1 dX6_step_71 rfl (lv_at hl 0 rfl) ?_
          refine gtR_0_0 X w dX6_step_72 ?_
          refine lv_if_eq (tgt := 80) X.1 X.2.1 dX6_step_75 (by decide) (fun c44 => ?_) (fun c44 => ?_)
          · have hf := px_ip c44 hf
            refine lv_bipush (v := (6 : Int32)) X.1 X.2.1 dX6_step_80 (by decide) ?_
            refine lv_iload_n X.1 X.2.1 dX6_step_82 rfl (lv_at hl 1 rfl) ?_
            refine lv_imul X.1 X.2.1 dX6_step_83 ?_
            refine lv_aload_n X.1 X.2.1 dX6_step_84 rfl (lv_at hl 0 rfl) ?_
            refine gtR_0_1 X w dX6_step_85 ?_
            refine lv_iload_n X.1 X.2.1 dX6_step_88 rfl (lv_at hl 1 rfl) ?_
            obtain ⟨b45, hf⟩ := px_ck_e hf
            refine ilR_1 X w b45 dX6_step_89 ?_
            refine lv_iadd X.1 X.2.1 dX6_step_90 ?_
            obtain ⟨x46, ex46, hf⟩ := px_bn_e hf
            rw [← ex46]
            refine lv_istore (lv' := [(5, .int x46), (0, .ref (ad 0)), (1, .int p1), (2, .int p2), (3, .int p3), (4, .int p4)]) X.1 X.2.1 dX6_step_91 hl (by decide) rfl (fun ls hl => ?_)
            refine lv_aload_n X.1 X.2.1 dX6_step_93 rfl (lv_at hl 1 rfl) ?_
            refine gtR_0_2 X w dX6_step_94 ?_
            refine lv_iload X.1 X.2.1 dX6_step_97 (lv_at hl 0 rfl) ?_
            refine lv_iload_n X.1 X.2.1 dX6_step_99 rfl (lv_at hl 3 rfl) ?_
            obtain ⟨b47, hf⟩ := px_ck_e hf
            refine isR_2 X w b47 dX6_step_100 (fun H locs w => ?_)
            obtain ⟨M48, eM48, hf⟩ := px_bn_e hf
            rw [← eM48] at w
            refine lv_aload_n X.1 X.2.1 dX6_step_101 rfl (lv_at hl 1 rfl) ?_
            refine gtR_0_3 X w dX6_step_102 ?_
            refine lv_iload X.1 X.2.1 dX6_step_105 (lv_at hl 0 rfl) ?_
            refine lv_iload_n X.1 X.2.1 dX6_step_107 rfl (lv_at hl 4 rfl) ?_
            obtain ⟨b49, hf⟩ := px_ck_e hf
            refine isR_3 X w b49 dX6_step_108 (fun H locs w => ?_)
            obtain ⟨M50, eM50, hf⟩ := px_bn_e hf
            rw [← eM50] at w
            refine lv_aload_n X.1 X.2.1 dX6_step_109 rfl (lv_at hl 1 rfl) ?_
            refine gtR_0_4 X w dX6_step_110 ?_
            refine lv_iload X.1 X.2.1 dX6_step_113 (lv_at hl 0 rfl) ?_
            refine lv_iload X.1 X.2.1 dX6_step_115 (lv_at hl 5 rfl) ?_
            obtain ⟨b51, hf⟩ := px_ck_e hf
            refine isR_4 X w b51 dX6_step_117 (fun H locs w => ?_)
            obtain ⟨M52, eM52, hf⟩ := px_bn_e hf
            rw [← eM52] at w
            refine lv_aload_n X.1 X.2.1 dX6_step_118 rfl (lv_at hl 1 rfl) ?_
            refine gtR_0_1 X w dX6_step_119 ?_
            refine lv_iload_n X.1 X.2.1 dX6_step_122 rfl (lv_at hl 2 rfl) ?_
            refine lv_dup2_11 X.1 X.2.1 dX6_step_123 rfl rfl ?_
            obtain ⟨b53, hf⟩ := px_ck_e hf
            refine ilR_1 X w b53 dX6_step_124 ?_
            refine lv_iconst (v := (1 : Int32)) X.1 X.2.1 dX6_step_125 (by decide) ?_
            refine lv_iadd X.1 X.2.1 dX6_step_126 ?_
            obtain ⟨b54, hf⟩ := px_ck_e hf
            refine isR_1 X w b54 dX6_step_127 (fun H locs w => ?_)
            obtain ⟨M55, eM55, hf⟩ := px_bn_e hf
            rw [← eM55] at w
            refine lv_aload_n X.1 X.2.1 dX6_step_128 rfl (lv_at hl 1 rfl) ?_
            refine gtR_0_1 X w dX6_step_129 ?_
            refine lv_iload_n X.1 X.2.1 dX6_step_132 rfl (lv_at hl 2 rfl) ?_
            obtain ⟨b56, hf⟩ := px_ck_e hf
            refine ilR_1 X w b56 dX6_step_133 ?_
            cases hf
            exact px_retI X hr hlk w dX6_step_134
          · have hf := px_in c44 hf
            refine lv_iconst (v := (0 : Int32)) X.1 X.2.1 dX6_step_78 (by decide) ?_
            cases hf
            exact px_retI X hr hlk w dX6_step_79
        · have hf := px_ip c42 hf
          refine lv_iconst (v := (2 : Int32)) X.1 X.2.1 dX6_step_63 (by decide) ?_
          refine lv_goto (tgt := 68) X.1 X.2.1 dX6_step_64 (by decide) ?_
          refine ptR_0_0 X w dX6_step_68 (fun H locs w => ?_)
          obtain ⟨M57, eM57, hf⟩ := px_bn_e hf
          rw [← eM57] at w
          refine lv_aload_n X.1 X.2.1 dX6_step_71 rfl (lv_at hl 0 rfl) ?_
          refine gtR_0_0 X w dX6_step_72 ?_
          refine lv_if_eq (tgt := 80) X.1 X.2.1 dX6_step_75 (by decide) (fun c58 => ?_) (fun c58 => ?_)
          · have hf := px_ip c58 hf
            refine lv_bipush (v := (6 : Int32)) X.1 X.2.1 dX6_step_80 (by decide) ?_
            refine lv_iload_n X.1 X.2.1 dX6_step_82 rfl (lv_at hl 1 rfl) ?_
            refine lv_imul X.1 X.2.1 dX6_step_83 ?_
            refine lv_aload_n X.1 X.2.1 dX6_step_84 rfl (lv_at hl 0 rfl) ?_
            refine gtR_0_1 X w dX6_step_85 ?_
            refine lv_iload_n X.1 X.2.1 dX6_step_88 rfl (lv_at hl 1 rfl) ?_
            obtain ⟨b59, hf⟩ := px_ck_e hf
            refine ilR_1 X w b59 dX6_step_89 ?_
            refine lv_iadd X.1 X.2.1 dX6_step_90 ?_
            obtain ⟨x60, ex60, hf⟩ := px_bn_e hf
            rw [← ex60]
            refine lv_istore (lv' := [(5, .int x60), (0, .ref (ad 0)), (1, .int p1), (2, .int p2), (3, .int p3), (4, .int p4)]) X.1 X.2.1 dX6_step_91 hl (by decide) rfl (fun ls hl => ?_)
            refine lv_aload_n X.1 X.2.1 dX6_step_93 rfl (lv_at hl 1 rfl) ?_
            refine gtR_0_2 X w dX6_step_94 ?_
            refine lv_iload X.1 X.2.1 dX6_step_97 (lv_at hl 0 rfl) ?_
            refine lv_iload_n X.1 X.2.1 dX6_step_99 rfl (lv_at hl 3 rfl) ?_
            obtain ⟨b61, hf⟩ := px_ck_e hf
            refine isR_2 X w b61 dX6_step_100 (fun H locs w => ?_)
            obtain ⟨M62, eM62, hf⟩ := px_bn_e hf
            rw [← eM62] at w
            refine lv_aload_n X.1 X.2.1 dX6_step_101 rfl (lv_at hl 1 rfl) ?_
            refine gtR_0_3 X w dX6_step_102 ?_
            refine lv_iload X.1 X.2.1 dX6_step_105 (lv_at hl 0 rfl) ?_
            refine lv_iload_n X.1 X.2.1 dX6_step_107 rfl (lv_at hl 4 rfl) ?_
            obtain ⟨b63, hf⟩ := px_ck_e hf
            refine isR_3 X w b63 dX6_step_108 (fun H locs w => ?_)
            obtain ⟨M64, eM64, hf⟩ := px_bn_e hf
            rw [← eM64] at w
            refine lv_aload_n X.1 X.2.1 dX6_step_109 rfl (lv_at hl 1 rfl) ?_
            refine gtR_0_4 X w dX6_step_110 ?_
            refine lv_iload X.1 X.2.1 dX6_step_113 (lv_at hl 0 rfl) ?_
            refine lv_iload X.1 X.2.1 dX6_step_115 (lv_at hl 5 rfl) ?_
            obtain ⟨b65, hf⟩ := px_ck_e hf
            refine isR_4 X w b65 dX6_step_117 (fun H locs w => ?_)
            obtain ⟨M66, eM66, hf⟩ := px_bn_e hf
            rw [← eM66] at w
            refine lv_aload_n X.1 X.2.1 dX6_step_118 rfl (lv_at hl 1 rfl) ?_
            refine gtR_0_1 X w dX6_step_119 ?_
            refine lv_iload_n X.1 X.2.1 dX6_step_122 rfl (lv_at hl 2 rfl) ?_
            refine lv_dup2_11 X.1 X.2.1 dX6_step_123 rfl rfl ?_
            obtain ⟨b67, hf⟩ := px_ck_e hf
            refine ilR_1 X w b67 dX6_step_124 ?_
            refine lv_iconst (v := (1 : Int32)) X.1 X.2.1 dX6_step_125 (by decide) ?_
            refine lv_iadd X.1 X.2.1 dX6_step_126 ?_
            obtain ⟨b68, hf⟩ := px_ck_e hf
            refine isR_1 X w b68 dX6_step_127 (fun H locs w => ?_)
            obtain ⟨M69, eM69, hf⟩ := px_bn_e hf
            rw [← eM69] at w
            refine lv_aload_n X.1 X.2.1 dX6_step_128 rfl (lv_at hl 1 rfl) ?_
            refine gtR_0_1 X w dX6_step_129 ?_
            refine lv_iload_n X.1 X.2.1 dX6_step_132 rfl (lv_at hl 2 rfl) ?_
            obtain ⟨b70, hf⟩ := px_ck_e hf
            refine ilR_1 X w b70 dX6_step_133 ?_
            cases hf
            exact px_retI X hr hlk w dX6_step_134
          · have hf := px_in c58 hf
            refine lv_iconst (v := (0 : Int32)) X.1 X.2.1 dX6_step_78 (by decide) ?_
            cases hf
            exact px_retI X hr hlk w dX6_step_79
      · have hf := px_in c40 hf
        refine lv_iconst (v := (0 : Int32)) X.1 X.2.1 dX6_step_49 (by decide) ?_
        cases hf
        exact px_retI X hr hlk w dX6_step_50
    · have hf := px_ip c38 hf
      refine lv_aload_n X.1 X.2.1 dX6_step_23 rfl (lv_at hl 0 rfl) ?_
      refine lv_iload_n X.1 X.2.1 dX6_step_24 rfl (lv_at hl 2 rfl) ?_
      refine lv_iload_n X.1 X.2.1 dX6_step_25 rfl (lv_at hl 3 rfl) ?_
      refine lv_iload X.1 X.2.1 dX6_step_26 (lv_at hl 4 rfl) ?_
      obtain ⟨r72, e71, hf⟩ := px_bq_e hf
      refine px_cI (As := [.int p2, .int p3, .int p4]) (rest := [.ref (ad 0)]) X hml hl w (cR_M_fits l D cs ad e71) lk_6_145 (by decide) (rcR_0 X.2.2.2.2 w) rfl (Nat.le_of_ble_eq_true rfl) dX6_step_28 (fun H locs w => ?_)
      refine lv_if_ne (tgt := 38) X.1 X.2.1 dX6_step_31 (by decide) (fun c73 => ?_) (fun c73 => ?_)
      · have hf := px_in c73 hf
        refine lv_iconst (v := (0 : Int32)) X.1 X.2.1 dX6_step_38 (by decide) ?_
        refine ptR_0_0 X w dX6_step_39 (fun H locs w => ?_)
        obtain ⟨M74, eM74, hf⟩ := px_bn_e hf
        rw [← eM74] at w
        refine lv_aload_n X.1 X.2.1 dX6_step_42 rfl (lv_at hl 0 rfl) ?_
        refine gtR_0_0 X w dX6_step_43 ?_
        refine lv_if_eq (tgt := 51) X.1 X.2.1 dX6_step_46 (by decide) (fun c75 => ?_) (fun c75 => ?_)
        · have hf := px_ip c75 hf
          refine lv_aload_n X.1 X.2.1 dX6_step_51 rfl (lv_at hl 0 rfl) ?_
          refine lv_aload_n X.1 X.2.1 dX6_step_52 rfl (lv_at hl 0 rfl) ?_
          refine gtR_0_1 X w dX6_step_53 ?_
          refine lv_iload_n X.1 X.2.1 dX6_step_56 rfl (lv_at hl 1 rfl) ?_
          obtain ⟨b76, hf⟩ := px_ck_e hf
          refine ilR_1 X w b76 dX6_step_57 ?_
          refine lv_bipush (v := (6 : Int32)) X.1 X.2.1 dX6_step_58 (by decide) ?_
          refine lv_icmp_ne (tgt := 67) X.1 X.2.1 dX6_step_60 (by decide) (fun c77 => ?_) (fun c77 => ?_)
          · have hf := px_in c77 hf
            refine lv_iconst (v := (0 : Int32)) X.1 X.2.1 dX6_step_67 (by decide) ?_
            refine ptR_0_0 X w dX6_step_68 (fun H locs w => ?_)
            obtain ⟨M78, eM78, hf⟩ := px_bn_e hf
            rw [← eM78] at w
            refine lv_aload_n X.1 X.2.1 dX6_step_71 rfl (lv_at hl 0 rfl) ?_
            refine gtR_0_0 X w dX6_step_72 ?_
            refine lv_if_eq (tgt := 80) X.1 X.2.1 dX6_step_75 (by decide) (fun c79 => ?_) (fun c79 => ?_)
            · have hf := px_ip c79 hf
              refine lv_bipush (v := (6 : Int32)) X.1 X.2.1 dX6_step_80 (by decide) ?_
              refine lv_iload_n X.1 X.2.1 dX6_step_82 rfl (lv_at hl 1 rfl) ?_
              refine lv_imul X.1 X.2.1 dX6_step_83 ?_
              refine lv_aload_n X.1 X.2.1 dX6_step_84 rfl (lv_at hl 0 rfl) ?_
              refine gtR_0_1 X w dX6_step_85 ?_
              refine lv_iload_n X.1 X.2.1 dX6_step_88 rfl (lv_at hl 1 rfl) ?_
              obtain ⟨b80, hf⟩ := px_ck_e hf
              refine ilR_1 X w b80 dX6_step_89 ?_
              refine lv_iadd X.1 X.2.1 dX6_step_90 ?_
              obtain ⟨x81, ex81, hf⟩ := px_bn_e hf
              rw [← ex81]
              refine lv_istore (lv' := [(5, .int x81), (0, .ref (ad 0)), (1, .int p1), (2, .int p2), (3, .int p3), (4, .int p4)]) X.1 X.2.1 dX6_step_91 hl (by decide) rfl (fun ls hl => ?_)
              refine lv_aload_n X.1 X.2.1 dX6_step_93 rfl (lv_at hl 1 rfl) ?_
              refine gtR_0_2 X w dX6_step_94 ?_
              refine lv_iload X.1 X.2.1 dX6_step_97 (lv_at hl 0 rfl) ?_
              refine lv_iload_n X.1 X.2.1 dX6_step_99 rfl (lv_at hl 3 rfl) ?_
              obtain ⟨b82, hf⟩ := px_ck_e hf
              refine isR_2 X w b82 dX6_step_100 (fun H locs w => ?_)
              obtain ⟨M83, eM83, hf⟩ := px_bn_e hf
              rw [← eM83] at w
              refine lv_aload_n X.1 X.2.1 dX6_step_101 rfl (lv_at hl 1 rfl) ?_
              refine gtR_0_3 X w dX6_step_102 ?_
              refine lv_iload X.1 X.2.1 dX6_step_105 (lv_at hl 0 rfl) ?_
              refine lv_iload_n X.1 X.2.1 dX6_step_107 rfl (lv_at hl 4 rfl) ?_
              obtain ⟨b84, hf⟩ := px_ck_e hf
              refine isR_3 X w b84 dX6_step_108 (fun H locs w => ?_)
              obtain ⟨M85, eM85, hf⟩ := px_bn_e hf
              rw [← eM85] at w
              refine lv_aload_n X.1 X.2.1 dX6_step_109 rfl (lv_at hl 1 rfl) ?_
              refine gtR_0_4 X w dX6_step_110 ?_
              refine lv_iload X.1 X.2.1 dX6_step_113 (lv_at hl 0 rfl) ?_
              refine lv_iload X.1 X.2.1 dX6_step_115 (lv_at hl 5 rfl) ?_
              obtain ⟨b86, hf⟩ := px_ck_e hf
              refine isR_4 X w b86 dX6_step_117 (fun H locs w => ?_)
              obtain ⟨M87, eM87, hf⟩ := px_bn_e hf
              rw [← eM87] at w
              refine lv_aload_n X.1 X.2.1 dX6_step_118 rfl (lv_at hl 1 rfl) ?_
              refine gtR_0_1 X w dX6_step_119 ?_
              refine lv_iload_n X.1 X.2.1 dX6_step_122 rfl (lv_at hl 2 rfl) ?_
              refine lv_dup2_11 X.1 X.2.1 dX6_step_123 rfl rfl ?_
              obtain ⟨b88, hf⟩ := px_ck_e hf
              refine ilR_1 X w b88 dX6_step_124 ?_
              refine lv_iconst (v := (1 : Int32)) X.1 X.2.1 dX6_step_125 (by decide) ?_
              refine lv_iadd X.1 X.2.1 dX6_step_126 ?_
              obtain ⟨b89, hf⟩ := px_ck_e hf
              refine isR_1 X w b89 dX6_step_127 (fun H locs w => ?_)
              obtain ⟨M90, eM90, hf⟩ := px_bn_e hf
              rw [← eM90] at w
              refine lv_aload_n X.1 X.2.1 dX6_step_128 rfl (lv_at hl 1 rfl) ?_
              refine gtR_0_1 X w dX6_step_129 ?_
              refine lv_iload_n X.1 X.2.1 dX6_step_132 rfl (lv_at hl 2 rfl) ?_
              obtain ⟨b91, hf⟩ := px_ck_e hf
              refine ilR_1 X w b91 dX6_step_133 ?_
              cases hf
              exact px_retI X hr hlk w dX6_step_134
            · have hf := px_in c79 hf
              refine lv_iconst (v := (0 : Int32)) X.1 X.2.1 dX6_step_78 (by decide) ?_
              cases hf
              exact px_retI X hr hlk w dX6_step_79
          · have hf := px_ip c77 hf
            refine lv_iconst (v := (2 : Int32)) X.1 X.2.1 dX6_step_63 (by decide) ?_
            refine lv_goto (tgt := 68) X.1 X.2.1 dX6_step_64 (by decide) ?_
            refine ptR_0_0 X w dX6_step_68 (fun H locs w => ?_)
            obtain ⟨M92, eM92, hf⟩ := px_bn_e hf
            rw [← eM92] at w
            refine lv_aload_n X.1 X.2.1 dX6_step_71 rfl (lv_at hl 0 rfl) ?_
            refine gtR_0_0 X w dX6_step_72 ?_
            refine lv_if_eq (tgt := 80) X.1 X.2.1 dX6_step_75 (by decide) (fun c93 => ?_) (fun c93 => ?_)
            · have hf := px_ip c93 hf
              refine lv_bipush (v := (6 : Int32)) X.1 X.2.1 dX6_step_80 (by decide) ?_
              refine lv_iload_n X.1 X.2.1 dX6_step_82 rfl (lv_at hl 1 rfl) ?_
              refine lv_imul X.1 X.2.1 dX6_step_83 ?_
              refine lv_aload_n X.1 X.2.1 dX6_step_84 rfl (lv_at hl 0 rfl) ?_
              refine gtR_0_1 X w dX6_step_85 ?_
              refine lv_iload_n X.1 X.2.1 dX6_step_88 rfl (lv_at hl 1 rfl) ?_
              obtain ⟨b94, hf⟩ := px_ck_e hf
              refine ilR_1 X w b94 dX6_step_89 ?_
              refine lv_iadd X.1 X.2.1 dX6_step_90 ?_
              obtain ⟨x95, ex95, hf⟩ := px_bn_e hf
              rw [← ex95]
              refine lv_istore (lv' := [(5, .int x95), (0, .ref (ad 0)), (1, .int p1), (2, .int p2), (3, .int p3), (4, .int p4)]) X.1 X.2.1 dX6_step_91 hl (by decide) rfl (fun ls hl => ?_)
              refine lv_aload_n X.1 X.2.1 dX6_step_93 rfl (lv_at hl 1 rfl) ?_
              refine gtR_0_2 X w dX6_step_94 ?_
              refine lv_iload X.1 X.2.1 dX6_step_97 (lv_at hl 0 rfl) ?_
              refine lv_iload_n X.1 X.2.1 dX6_step_99 rfl (lv_at hl 3 rfl) ?_
              obtain ⟨b96, hf⟩ := px_ck_e hf
              refine isR_2 X w b96 dX6_step_100 (fun H locs w => ?_)
              obtain ⟨M97, eM97, hf⟩ := px_bn_e hf
              rw [← eM97] at w
              refine lv_aload_n X.1 X.2.1 dX6_step_101 rfl (lv_at hl 1 rfl) ?_
              refine gtR_0_3 X w dX6_step_102 ?_
              refine lv_iload X.1 X.2.1 dX6_step_105 (lv_at hl 0 rfl) ?_
              refine lv_iload_n X.1 X.2.1 dX6_step_107 rfl (lv_at hl 4 rfl) ?_
              obtain ⟨b98, hf⟩ := px_ck_e hf
              refine isR_3 X w b98 dX6_step_108 (fun H locs w => ?_)
              obtain ⟨M99, eM99, hf⟩ := px_bn_e hf
              rw [← eM99] at w
              refine lv_aload_n X.1 X.2.1 dX6_step_109 rfl (lv_at hl 1 rfl) ?_
              refine gtR_0_4 X w dX6_step_110 ?_
              refine lv_iload X.1 X.2.1 dX6_step_113 (lv_at hl 0 rfl) ?_
              refine lv_iload X.1 X.2.1 dX6_step_115 (lv_at hl 5 rfl) ?_
              obtain ⟨b100, hf⟩ := px_ck_e hf
              refine isR_4 X w b100 dX6_step_117 (fun H locs w => ?_)
              obtain ⟨M101, eM101, hf⟩ := px_bn_e hf
              rw [← eM101] at w
              refine lv_aload_n X.1 X.2.1 dX6_step_118 rfl (lv_at hl 1 rfl) ?_
              refine gtR_0_1 X w dX6_step_119 ?_
              refine lv_iload_n X.1 X.2.1 dX6_step_122 rfl (lv_at hl 2 rfl) ?_
              refine lv_dup2_11 X.1 X.2.1 dX6_step_123 rfl rfl ?_
              obtain ⟨b102, hf⟩ := px_ck_e hf
              refine ilR_1 X w b102 dX6_step_124 ?_
              refine lv_iconst (v := (1 : Int32)) X.1 X.2.1 dX6_step_125 (by decide) ?_
              refine lv_iadd X.1 X.2.1 dX6_step_126 ?_
              obtain ⟨b103, hf⟩ := px_ck_e hf
              refine isR_1 X w b103 dX6_step_127 (fun H locs w => ?_)
              obtain ⟨M104, eM104, hf⟩ := px_bn_e hf
              rw [← eM104] at w
              refine lv_aload_n X.1 X.2.1 dX6_step_128 rfl (lv_at hl 1 rfl) ?_
              refine gtR_0_1 X w dX6_step_129 ?_
              refine lv_iload_n X.1 X.2.1 dX6_step_132 rfl (lv_at hl 2 rfl) ?_
              obtain ⟨b105, hf⟩ := px_ck_e hf
              refine ilR_1 X w b105 dX6_step_133 ?_
              cases hf
              exact px_retI X hr hlk w dX6_step_134
            · have hf := px_in c93 hf
              refine lv_iconst (v := (0 : Int32)) X.1 X.2.1 dX6_step_78 (by decide) ?_
              cases hf
              exact px_retI X hr hlk w dX6_step_79
        · have hf := px_in c75 hf
          refine lv_iconst (v := (0 : Int32)) X.1 X.2.1 dX6_step_49 (by decide) ?_
          cases hf
          exact px_retI X hr hlk w dX6_step_50
      · have hf := px_ip c73 hf
        refine lv_iconst (v := (1 : Int32)) X.1 X.2.1 dX6_step_34 (by decide) ?_
        refine lv_goto (tgt := 39) X.1 X.2.1 dX6_step_35 (by decide) ?_
        refine ptR_0_0 X w dX6_step_39 (fun H locs w => ?_)
        obtain ⟨M106, eM106, hf⟩ := px_bn_e hf
        rw [← eM106] at w
        refine lv_aload_n X.1 X.2.1 dX6_step_42 rfl (lv_at hl 0 rfl) ?_
        refine gtR_0_0 X w dX6_step_43 ?_
        refine lv_if_eq (tgt := 51) X.1 X.2.1 dX6_step_46 (by decide) (fun c107 => ?_) (fun c107 => ?_)
        · have hf := px_ip c107 hf
          refine lv_aload_n X.1 X.2.1 dX6_step_51 rfl (lv_at hl 0 rfl) ?_
          refine lv_aload_n X.1 X.2.1 dX6_step_52 rfl (lv_at hl 0 rfl) ?_
          refine gtR_0_1 X w dX6_step_53 ?_
          refine lv_iload_n X.1 X.2.1 dX6_step_56 rfl (lv_at hl 1 rfl) ?_
          obtain ⟨b108, hf⟩ := px_ck_e hf
          refine ilR_1 X w b108 dX6_step_57 ?_
          refine lv_bipush (v := (6 : Int32)) X.1 X.2.1 dX6_step_58 (by decide) ?_
          refine lv_icmp_ne (tgt := 67) X.1 X.2.1 dX6_step_60 (by decide) (fun c109 => ?_) (fun c109 => ?_)
          · have hf := px_in c109 hf
            refine lv_iconst (v := (0 : Int32)) X.1 X.2.1 dX6_step_67 (by decide) ?_
            refine ptR_0_0 X w dX6_step_68 (fun H locs w => ?_)
            obtain ⟨M110, eM110, hf⟩ := px_bn_e hf
            rw [← eM110] at w
            refine lv_aload_n X.1 X.2.1 dX6_step_71 rfl (lv_at hl 0 rfl) ?_
            refine gtR_0_0 X w dX6_step_72 ?_
            refine lv_if_eq (tgt := 80) X.1 X.2.1 dX6_step_75 (by decide) (fun c111 => ?_) (fun c111 => ?_)
            · have hf := px_ip c111 hf
              refine lv_bipush (v := (6 : Int32)) X.1 X.2.1 dX6_step_80 (by decide) ?_
              refine lv_iload_n X.1 X.2.1 dX6_step_82 rfl (lv_at hl 1 rfl) ?_
              refine lv_imul X.1 X.2.1 dX6_step_83 ?_
              refine lv_aload_n X.1 X.2.1 dX6_step_84 rfl (lv_at hl 0 rfl) ?_
              refine gtR_0_1 X w dX6_step_85 ?_
              refine lv_iload_n X.1 X.2.1 dX6_step_88 rfl (lv_at hl 1 rfl) ?_
              obtain ⟨b112, hf⟩ := px_ck_e hf
              refine ilR_1 X w b112 dX6_step_89 ?_
              refine lv_iadd X.1 X.2.1 dX6_step_90 ?_
              obtain ⟨x113, ex113, hf⟩ := px_bn_e hf
              rw [← ex113]
              refine lv_istore (lv' := [(5, .int x113), (0, .ref (ad 0)), (1, .int p1), (2, .int p2), (3, .int p3), (4, .int p4)]) X.1 X.2.1 dX6_step_91 hl (by decide) rfl (fun ls hl => ?_)
              refine lv_aload_n X.1 X.2.1 dX6_step_93 rfl (lv_at hl 1 rfl) ?_
              refine gtR_0_2 X w dX6_step_94 ?_
              refine lv_iload X.1 X.2.1 dX6_step_97 (lv_at hl 0 rfl) ?_
              refine lv_iload_n X.1 X.2.1 dX6_step_99 rfl (lv_at hl 3 rfl) ?_
              obtain ⟨b114, hf⟩ := px_ck_e hf
              refine isR_2 X w b114 dX6_step_100 (fun H locs w => ?_)
              obtain ⟨M115, eM115, hf⟩ := px_bn_e hf
              rw [← eM115] at w
              refine lv_aload_n X.1 X.2.1 dX6_step_101 rfl (lv_at hl 1 rfl) ?_
              refine gtR_0_3 X w dX6_step_102 ?_
              refine lv_iload X.1 X.2.1 dX6_step_105 (lv_at hl 0 rfl) ?_
              refine lv_iload_n X.1 X.2.1 dX6_step_107 rfl (lv_at hl 4 rfl) ?_
              obtain ⟨b116, hf⟩ := px_ck_e hf
              refine isR_3 X w b116 dX6_step_108 (fun H locs w => ?_)
              obtain ⟨M117, eM117, hf⟩ := px_bn_e hf
              rw [← eM117] at w
              refine lv_aload_n X.1 X.2.1 dX6_step_109 rfl (lv_at hl 1 rfl) ?_
              refine gtR_0_4 X w dX6_step_110 ?_
              refine lv_iload X.1 X.2.1 dX6_step_113 (lv_at hl 0 rfl) ?_
              refine lv_iload X.1 X.2.1 dX6_step_115 (lv_at hl 5 rfl) ?_
              obtain ⟨b118, hf⟩ := px_ck_e hf
              refine isR_4 X w b118 dX6_step_117 (fun H locs w => ?_)
              obtain ⟨M119, eM119, hf⟩ := px_bn_e hf
              rw [← eM119] at w
              refine lv_aload_n X.1 X.2.1 dX6_step_118 rfl (lv_at hl 1 rfl) ?_
              refine gtR_0_1 X w dX6_step_119 ?_
              refine lv_iload_n X.1 X.2.1 dX6_step_122 rfl (lv_at hl 2 rfl) ?_
              refine lv_dup2_11 X.1 X.2.1 dX6_step_123 rfl rfl ?_
              obtain ⟨b120, hf⟩ := px_ck_e hf
              refine ilR_1 X w b120 dX6_step_124 ?_
              refine lv_iconst (v := (1 : Int32)) X.1 X.2.1 dX6_step_125 (by decide) ?_
              refine lv_iadd X.1 X.2.1 dX6_step_126 ?_
              obtain ⟨b121, hf⟩ := px_ck_e hf
              refine isR_1 X w b121 dX6_step_127 (fun H locs w => ?_)
              obtain ⟨M122, eM122, hf⟩ := px_bn_e hf
              rw [← eM122] at w
              refine lv_aload_n X.1 X.2.1 dX6_step_128 rfl (lv_at hl 1 rfl) ?_
              refine gtR_0_1 X w dX6_step_129 ?_
              refine lv_iload_n X.1 X.2.1 dX6_step_132 rfl (lv_at hl 2 rfl) ?_
              obtain ⟨b123, hf⟩ := px_ck_e hf
              refine ilR_1 X w b123 dX6_step_133 ?_
              cases hf
              exact px_retI X hr hlk w dX6_step_134
            · have hf := px_in c111 hf
              refine lv_iconst (v := (0 : Int32)) X.1 X.2.1 dX6_step_78 (by decide) ?_
              cases hf
              exact px_retI X hr hlk w dX6_step_79
          · have hf := px_ip c109 hf
            refine lv_iconst (v := (2 : Int32)) X.1 X.2.1 dX6_step_63 (by decide) ?_
            refine lv_goto (tgt := 68) X.1 X.2.1 dX6_step_64 (by decide) ?_
            refine ptR_0_0 X w dX6_step_68 (fun H locs w => ?_)
            obtain ⟨M124, eM124, hf⟩ := px_bn_e hf
            rw [← eM124] at w
            refine lv_aload_n X.1 X.2.1 dX6_step_71 rfl (lv_at hl 0 rfl) ?_
            refine gtR_0_0 X w dX6_step_72 ?_
            refine lv_if_eq (tgt := 80) X.1 X.2.1 dX6_step_75 (by decide) (fun c125 => ?_) (fun c125 => ?_)
            · have hf := px_ip c125 hf
              refine lv_bipush (v := (6 : Int32)) X.1 X.2.1 dX6_step_80 (by decide) ?_
              refine lv_iload_n X.1 X.2.1 dX6_step_82 rfl (lv_at hl 1 rfl) ?_
              refine lv_imul X.1 X.2.1 dX6_step_83 ?_
              refine lv_aload_n X.1 X.2.1 dX6_step_84 rfl (lv_at hl 0 rfl) ?_
              refine gtR_0_1 X w dX6_step_85 ?_
              refine lv_iload_n X.1 X.2.1 dX6_step_88 rfl (lv_at hl 1 rfl) ?_
              obtain ⟨b126, hf⟩ := px_ck_e hf
              refine ilR_1 X w b126 dX6_step_89 ?_
              refine lv_iadd X.1 X.2.1 dX6_step_90 ?_
              obtain ⟨x127, ex127, hf⟩ := px_bn_e hf
              rw [← ex127]
              refine lv_istore (lv' := [(5, .int x127), (0, .ref (ad 0)), (1, .int p1), (2, .int p2), (3, .int p3), (4, .int p4)]) X.1 X.2.1 dX6_step_91 hl (by decide) rfl (fun ls hl => ?_)
              refine lv_aload_n X.1 X.2.1 dX6_step_93 rfl (lv_at hl 1 rfl) ?_
              refine gtR_0_2 X w dX6_step_94 ?_
              refine lv_iload X.1 X.2.1 dX6_step_97 (lv_at hl 0 rfl) ?_
              refine lv_iload_n X.1 X.2.1 dX6_step_99 rfl (lv_at hl 3 rfl) ?_
              obtain ⟨b128, hf⟩ := px_ck_e hf
              refine isR_2 X w b128 dX6_step_100 (fun H locs w => ?_)
              obtain ⟨M129, eM129, hf⟩ := px_bn_e hf
              rw [← eM129] at w
              refine lv_aload_n X.1 X.2.1 dX6_step_101 rfl (lv_at hl 1 rfl) ?_
              refine gtR_0_3 X w dX6_step_102 ?_
              refine lv_iload X.1 X.2.1 dX6_step_105 (lv_at hl 0 rfl) ?_
              refine lv_iload_n X.1 X.2.1 dX6_step_107 rfl (lv_at hl 4 rfl) ?_
              obtain ⟨b130, hf⟩ := px_ck_e hf
              refine isR_3 X w b130 dX6_step_108 (fun H locs w => ?_)
              obtain ⟨M131, eM131, hf⟩ := px_bn_e hf
              rw [← eM131] at w
              refine lv_aload_n X.1 X.2.1 dX6_step_109 rfl (lv_at hl 1 rfl) ?_
              refine gtR_0_4 X w dX6_step_110 ?_
              refine lv_iload X.1 X.2.1 dX6_step_113 (lv_at hl 0 rfl) ?_
              refine lv_iload X.1 X.2.1 dX6_step_115 (lv_at hl 5 rfl) ?_
              obtain ⟨b132, hf⟩ := px_ck_e hf
              refine isR_4 X w b132 dX6_step_117 (fun H locs w => ?_)
              obtain ⟨M133, eM133, hf⟩ := px_bn_e hf
              rw [← eM133] at w
              refine lv_aload_n X.1 X.2.1 dX6_step_118 rfl (lv_at hl 1 rfl) ?_
              refine gtR_0_1 X w dX6_step_119 ?_
              refine lv_iload_n X.1 X.2.1 dX6_step_122 rfl (lv_at hl 2 rfl) ?_
              refine lv_dup2_11 X.1 X.2.1 dX6_step_123 rfl rfl ?_
              obtain ⟨b134, hf⟩ := px_ck_e hf
              refine ilR_1 X w b134 dX6_step_124 ?_
              refine lv_iconst (v := (1 : Int32)) X.1 X.2.1 dX6_step_125 (by decide) ?_
              refine lv_iadd X.1 X.2.1 dX6_step_126 ?_
              obtain ⟨b135, hf⟩ := px_ck_e hf
              refine isR_1 X w b135 dX6_step_127 (fun H locs w => ?_)
              obtain ⟨M136, eM136, hf⟩ := px_bn_e hf
              rw [← eM136] at w
              refine lv_aload_n X.1 X.2.1 dX6_step_128 rfl (lv_at hl 1 rfl) ?_
              refine gtR_0_1 X w dX6_step_129 ?_
              refine lv_iload_n X.1 X.2.1 dX6_step_132 rfl (lv_at hl 2 rfl) ?_
              obtain ⟨b137, hf⟩ := px_ck_e hf
              refine ilR_1 X w b137 dX6_step_133 ?_
              cases hf
              exact px_retI X hr hlk w dX6_step_134
            · have hf := px_in c125 hf
              refine lv_iconst (v := (0 : Int32)) X.1 X.2.1 dX6_step_78 (by decide) ?_
              cases hf
              exact px_retI X hr hlk w dX6_step_79
        · have hf := px_in c107 hf
          refine lv_iconst (v := (0 : Int32)) X.1 X.2.1 dX6_step_49 (by decide) ?_
          cases hf
          exact px_retI X hr hlk w dX6_step_50
def fR_M_clear (M : px_M) (p1 : Int32) : Option px_M := px_bq (fR_M_outside M p1 (0 : Int32) (9 : Int32)) (fun r2 => (if r2 = 0 then px_bn (px_up M 0 0 (0 : Int32)) (fun M4 => (if (M4 0 0) = 0 then px_ck p1 10 (px_bn (px_up M4 1 p1.toNatClampNeg (0 : Int32)) (fun M7 => some M7)) else some M4)) else px_bn (px_up M 0 0 (1 : Int32)) (fun M8 => (if (M8 0 0) = 0 then px_ck p1 10 (px_bn (px_up M8 1 p1.toNatClampNeg (0 : Int32)) (fun M11 => some M11)) else some M8))))
set_option maxHeartbeats 4000000 in
set_option maxRecDepth 100000 in
theorem cR_M_clear (l : Launch) (D : va_G) (cs : Nat → ClassId) (ad : Nat → Nat) {M : px_M} {p1 : Int32} {M' : px_M} (hf : fR_M_clear M p1 = some M') : px_mV l D (tyR cs) (wR cs ad) yX6_clear cX6_clear 2 1 [.ref (ad 0), .int p1] M M' := by
  refine px_ofV (by decide +kernel) (Nat.le_of_ble_eq_true rfl) ?_
  intro p e s m below meth c A ls X hr hlk hml w hl
  have hl : lv_has ls 2 [(0, .ref (ad 0)), (1, .int p1)] := hl
  unfold fR_M_clear at hf
  refine lv_aload_n X.1 X.2.1 dX6_clear_0 rfl (lv_at hl 0 rfl) ?_
  refine lv_aload_n X.1 X.2.1 dX6_clear_1 rfl (lv_at hl 0 rfl) ?_
  refine lv_iload_n X.1 X.2.1 dX6_clear_2 rfl (lv_at hl 1 rfl) ?_
  refine lv_iconst (v := (0 : Int32)) X.1 X.2.1 dX6_clear_3 (by decide) ?_
  refine lv_bipush (v := (9 : Int32)) X.1 X.2.1 dX6_clear_4 (by decide) ?_
  obtain ⟨r2, e1, hf⟩ := px_bq_e hf
  refine px_cI (As := [.int p1, .int (0 : Int32), .int (9 : Int32)]) (rest := [.ref (ad 0)]) X hml hl w (cR_M_outside l D cs ad e1) lk_6_141 (by decide) (rcR_0 X.2.2.2.2 w) rfl (Nat.le_of_ble_eq_true rfl) dX6_clear_6 (fun H locs w => ?_)
  refine lv_if_eq (tgt := 16) X.1 X.2.1 dX6_clear_9 (by decide) (fun c3 => ?_) (fun c3 => ?_)
  · have hf := px_ip c3 hf
    refine lv_iconst (v := (0 : Int32)) X.1 X.2.1 dX6_clear_16 (by decide) ?_
    refine ptR_0_0 X w dX6_clear_17 (fun H locs w => ?_)
    obtain ⟨M4, eM4, hf⟩ := px_bn_e hf
    rw [← eM4] at w
    refine lv_aload_n X.1 X.2.1 dX6_clear_20 rfl (lv_at hl 0 rfl) ?_
    refine gtR_0_0 X w dX6_clear_21 ?_
    refine lv_if_ne (tgt := 34) X.1 X.2.1 dX6_clear_24 (by decide) (fun c5 => ?_) (fun c5 => ?_)
    · have hf := px_in c5 hf
      cases hf
      exact px_retV X hr hlk w dX6_clear_34
    · have hf := px_ip c5 hf
      refine lv_aload_n X.1 X.2.1 dX6_clear_27 rfl (lv_at hl 0 rfl) ?_
      refine gtR_0_1 X w dX6_clear_28 ?_
      refine lv_iload_n X.1 X.2.1 dX6_clear_31 rfl (lv_at hl 1 rfl) ?_
      refine lv_iconst (v := (0 : Int32)) X.1 X.2.1 dX6_clear_32 (by decide) ?_
      obtain ⟨b6, hf⟩ := px_ck_e hf
      refine isR_1 X w b6 dX6_clear_33 (fun H locs w => ?_)
      obtain ⟨M7, eM7, hf⟩ := px_bn_e hf
      rw [← eM7] at w
      cases hf
      exact px_retV X hr hlk w dX6_clear_34
  · have hf := px_in c3 hf
    refine lv_iconst (v := (1 : Int32)) X.1 X.2.1 dX6_clear_12 (by decide) ?_
    refine lv_goto (tgt := 17) X.1 X.2.1 dX6_clear_13 (by decide) ?_
    refine ptR_0_0 X w dX6_clear_17 (fun H locs w => ?_)
    obtain ⟨M8, eM8, hf⟩ := px_bn_e hf
    rw [← eM8] at w
    refine lv_aload_n X.1 X.2.1 dX6_clear_20 rfl (lv_at hl 0 rfl) ?_
    refine gtR_0_0 X w dX6_clear_21 ?_
    refine lv_if_ne (tgt := 34) X.1 X.2.1 dX6_clear_24 (by decide) (fun c9 => ?_) (fun c9 => ?_)
    · have hf := px_in c9 hf
      cases hf
      exact px_retV X hr hlk w dX6_clear_34
    · have hf := px_ip c9 hf
      refine lv_aload_n X.1 X.2.1 dX6_clear_27 rfl (lv_at hl 0 rfl) ?_
      refine gtR_0_1 X w dX6_clear_28 ?_
      refine lv_iload_n X.1 X.2.1 dX6_clear_31 rfl (lv_at hl 1 rfl) ?_
      refine lv_iconst (v := (0 : Int32)) X.1 X.2.1 dX6_clear_32 (by decide) ?_
      obtain ⟨b10, hf⟩ := px_ck_e hf
      refine isR_1 X w b10 dX6_clear_33 (fun H locs w => ?_)
      obtain ⟨M11, eM11, hf⟩ := px_bn_e hf
      rw [← eM11] at w
      cases hf
      exact px_retV X hr hlk w dX6_clear_34
def fR_M_post (M : px_M) (p1 p2 p3 : Int32) : Option (Int32 × px_M) := px_bq (fR_M_outside M p1 (0 : Int32) (2 : Int32)) (fun r2 => (if r2 = 0 then px_bq (fR_M_outside M p2 (0 : Int32) (9 : Int32)) (fun r9 => (if r9 = 0 then (if (M 0 25) < (40 : Int32) then px_bn (px_up M 0 0 (0 : Int32)) (fun M12 => (if (M12 0 0) = 0 then px_bq (fR_M_addTask M12 p1 p2 p3 (0 : Int32)) (fun M15 => some ((M15 0 25), M15)) else some ((0 : Int32), M12))) else px_bn (px_up M 0 0 (2 : Int32)) (fun M16 => (if (M16 0 0) = 0 then px_bq (fR_M_addTask M16 p1 p2 p3 (0 : Int32)) (fun M19 => some ((M19 0 25), M19)) else some ((0 : Int32), M16)))) else px_bn (px_up M 0 0 (1 : Int32)) (fun M20 => (if (M20 0 0) = 0 then px_bq (fR_M_addTask M20 p1 p2 p3 (0 : Int32)) (fun M23 => some ((M23 0 25), M23)) else some ((0 : Int32), M20))))) else px_bn (px_up M 0 0 (1 : Int32)) (fun M4 => (if (M4 0 0) = 0 then px_bq (fR_M_addTask M4 p1 p2 p3 (0 : Int32)) (fun M7 => some ((M7 0 25), M7)) else some ((0 : Int32), M4)))))
set_option maxHeartbeats 4000000 in
set_option maxRecDepth 100000 in
theorem cR_M_post (l : Launch) (D : va_G) (cs : Nat → ClassId) (ad : Nat → Nat) {M : px_M} {p1 p2 p3 : Int32} {r : Int32} {M' : px_M} (hf : fR_M_post M p1 p2 p3 = some (r, M')) : px_mI l D (tyR cs) (wR cs ad) yX6_post cX6_post 4 (some .int) 1 [.ref (ad 0), .int p1, .int p2, .int p3] M r M' := by
  refine px_ofI (by decide +kernel) (Nat.le_of_ble_eq_true rfl) ?_
  intro p e s m below meth c A ls X hr hlk hml w hl
  have hl : lv_has ls 4 [(0, .ref (ad 0)), (1, .int p1), (2, .int p2), (3, .int p3)] := hl
  unfold fR_M_post at hf
  refine lv_aload_n X.1 X.2.1 dX6_post_0 rfl (lv_at hl 0 rfl) ?_
  refine lv_aload_n X.1 X.2.1 dX6_post_1 rfl (lv_at hl 0 rfl) ?_
  refine lv_iload_n X.1 X.2.1 dX6_post_2 rfl (lv_at hl 1 rfl) ?_
  refine lv_iconst (v := (0 : Int32)) X.1 X.2.1 dX6_post_3 (by decide) ?_
  refine lv_iconst (v := (2 : Int32)) X.1 X.2.1 dX6_post_4 (by decide) ?_
  obtain ⟨r2, e1, hf⟩ := px_bq_e hf
  refine px_cI (As := [.int p1, .int (0 : Int32), .int (2 : Int32)]) (rest := [.ref (ad 0)]) X hml hl w (cR_M_outside l D cs ad e1) lk_6_141 (by decide) (rcR_0 X.2.2.2.2 w) rfl (Nat.le_of_ble_eq_true rfl) dX6_post_5 (fun H locs w => ?_)
  refine lv_if_ne (tgt := 22) X.1 X.2.1 dX6_post_8 (by decide) (fun c3 => ?_) (fun c3 => ?_)
  · have hf := px_in c3 hf
    refine lv_iconst (v := (1 : Int32)) X.1 X.2.1 dX6_post_22 (by decide) ?_
    refine lv_goto (tgt := 40) X.1 X.2.1 dX6_post_23 (by decide) ?_
    refine ptR_0_0 X w dX6_post_40 (fun H locs w => ?_)
    obtain ⟨M4, eM4, hf⟩ := px_bn_e hf
    rw [← eM4] at w
    refine lv_aload_n X.1 X.2.1 dX6_post_43 rfl (lv_at hl 0 rfl) ?_
    refine gtR_0_0 X w dX6_post_44 ?_
    refine lv_if_eq (tgt := 52) X.1 X.2.1 dX6_post_47 (by decide) (fun c5 => ?_) (fun c5 => ?_)
    · have hf := px_ip c5 hf
      refine lv_aload_n X.1 X.2.1 dX6_post_52 rfl (lv_at hl 0 rfl) ?_
      refine lv_iload_n X.1 X.2.1 dX6_post_53 rfl (lv_at hl 1 rfl) ?_
      refine lv_iload_n X.1 X.2.1 dX6_post_54 rfl (lv_at hl 2 rfl) ?_
      refine lv_iload_n X.1 X.2.1 dX6_post_55 rfl (lv_at hl 3 rfl) ?_
      refine lv_iconst (v := (0 : Int32)) X.1 X.2.1 dX6_post_56 (by decide) ?_
      obtain ⟨M7, e6, hf⟩ := px_bq_e hf
      refine px_cV (As := [.int p1, .int p2, .int p3, .int (0 : Int32)]) (rest := []) X hml hl w (cR_M_addTask l D cs ad e6) lk_6_160 (by decide) (rcR_0 X.2.2.2.2 w) rfl (Nat.le_of_ble_eq_true rfl) dX6_post_57 (fun H locs w => ?_)
      refine lv_aload_n X.1 X.2.1 dX6_post_60 rfl (lv_at hl 0 rfl) ?_
      refine gtR_0_25 X w dX6_post_61 ?_
      cases hf
      exact px_retI X hr hlk w dX6_post_64
    · have hf := px_in c5 hf
      refine lv_iconst (v := (0 : Int32)) X.1 X.2.1 dX6_post_50 (by decide) ?_
      cases hf
      exact px_retI X hr hlk w dX6_post_51
  · have hf := px_ip c3 hf
    refine lv_aload_n X.1 X.2.1 dX6_post_11 rfl (lv_at hl 0 rfl) ?_
    refine lv_iload_n X.1 X.2.1 dX6_post_12 rfl (lv_at hl 2 rfl) ?_
    refine lv_iconst (v := (0 : Int32)) X.1 X.2.1 dX6_post_13 (by decide) ?_
    refine lv_bipush (v := (9 : Int32)) X.1 X.2.1 dX6_post_14 (by decide) ?_
    obtain ⟨r9, e8, hf⟩ := px_bq_e hf
    refine px_cI (As := [.int p2, .int (0 : Int32), .int (9 : Int32)]) (rest := [.ref (ad 0)]) X hml hl w (cR_M_outside l D cs ad e8) lk_6_141 (by decide) (rcR_0 X.2.2.2.2 w) rfl (Nat.le_of_ble_eq_true rfl) dX6_post_16 (fun H locs w => ?_)
    refine lv_if_eq (tgt := 26) X.1 X.2.1 dX6_post_19 (by decide) (fun c10 => ?_) (fun c10 => ?_)
    · have hf := px_ip c10 hf
      refine lv_aload_n X.1 X.2.1 dX6_post_26 rfl (lv_at hl 0 rfl) ?_
      refine gtR_0_25 X w dX6_post_27 ?_
      refine lv_bipush (v := (40 : Int32)) X.1 X.2.1 dX6_post_30 (by decide) ?_
      refine lv_icmp_lt (tgt := 39) X.1 X.2.1 dX6_post_32 (by decide) (fun c11 => ?_) (fun c11 => ?_)
      · have hf := px_ip c11 hf
        refine lv_iconst (v := (0 : Int32)) X.1 X.2.1 dX6_post_39 (by decide) ?_
        refine ptR_0_0 X w dX6_post_40 (fun H locs w => ?_)
        obtain ⟨M12, eM12, hf⟩ := px_bn_e hf
        rw [← eM12] at w
        refine lv_aload_n X.1 X.2.1 dX6_post_43 rfl (lv_at hl 0 rfl) ?_
        refine gtR_0_0 X w dX6_post_44 ?_
        refine lv_if_eq (tgt := 52) X.1 X.2.1 dX6_post_47 (by decide) (fun c13 => ?_) (fun c13 => ?_)
        · have hf := px_ip c13 hf
          refine lv_aload_n X.1 X.2.1 dX6_post_52 rfl (lv_at hl 0 rfl) ?_
          refine lv_iload_n X.1 X.2.1 dX6_post_53 rfl (lv_at hl 1 rfl) ?_
          refine lv_iload_n X.1 X.2.1 dX6_post_54 rfl (lv_at hl 2 rfl) ?_
          refine lv_iload_n X.1 X.2.1 dX6_post_55 rfl (lv_at hl 3 rfl) ?_
          refine lv_iconst (v := (0 : Int32)) X.1 X.2.1 dX6_post_56 (by decide) ?_
          obtain ⟨M15, e14, hf⟩ := px_bq_e hf
          refine px_cV (As := [.int p1, .int p2, .int p3, .int (0 : Int32)]) (rest := []) X hml hl w (cR_M_addTask l D cs ad e14) lk_6_160 (by decide) (rcR_0 X.2.2.2.2 w) rfl (Nat.le_of_ble_eq_true rfl) dX6_post_57 (fun H locs w => ?_)
          refine lv_aload_n X.1 X.2.1 dX6_post_60 rfl (lv_at hl 0 rfl) ?_
          refine gtR_0_25 X w dX6_post_61 ?_
          cases hf
          exact px_retI X hr hlk w dX6_post_64
        · have hf := px_in c13 hf
          refine lv_iconst (v := (0 : Int32)) X.1 X.2.1 dX6_post_50 (by decide) ?_
          cases hf
          exact px_retI X hr hlk w dX6_post_51
      · have hf := px_in c11 hf
        refine lv_iconst (v := (2 : Int32)) X.1 X.2.1 dX6_post_35 (by decide) ?_
        refine lv_goto (tgt := 40) X.1 X.2.1 dX6_post_36 (by decide) ?_
        refine ptR_0_0 X w dX6_post_40 (fun H locs w => ?_)
        obtain ⟨M16, eM16, hf⟩ := px_bn_e hf
        rw [← eM16] at w
        refine lv_aload_n X.1 X.2.1 dX6_post_43 rfl (lv_at hl 0 rfl) ?_
        refine gtR_0_0 X w dX6_post_44 ?_
        refine lv_if_eq (tgt := 52) X.1 X.2.1 dX6_post_47 (by decide) (fun c17 => ?_) (fun c17 => ?_)
        · have hf := px_ip c17 hf
          refine lv_aload_n X.1 X.2.1 dX6_post_52 rfl (lv_at hl 0 rfl) ?_
          refine lv_iload_n X.1 X.2.1 dX6_post_53 rfl (lv_at hl 1 rfl) ?_
          refine lv_iload_n X.1 X.2.1 dX6_post_54 rfl (lv_at hl 2 rfl) ?_
          refine lv_iload_n X.1 X.2.1 dX6_post_55 rfl (lv_at hl 3 rfl) ?_
          refine lv_iconst (v := (0 : Int32)) X.1 X.2.1 dX6_post_56 (by decide) ?_
          obtain ⟨M19, e18, hf⟩ := px_bq_e hf
          refine px_cV (As := [.int p1, .int p2, .int p3, .int (0 : Int32)]) (rest := []) X hml hl w (cR_M_addTask l D cs ad e18) lk_6_160 (by decide) (rcR_0 X.2.2.2.2 w) rfl (Nat.le_of_ble_eq_true rfl) dX6_post_57 (fun H locs w => ?_)
          refine lv_aload_n X.1 X.2.1 dX6_post_60 rfl (lv_at hl 0 rfl) ?_
          refine gtR_0_25 X w dX6_post_61 ?_
          cases hf
          exact px_retI X hr hlk w dX6_post_64
        · have hf := px_in c17 hf
          refine lv_iconst (v := (0 : Int32)) X.1 X.2.1 dX6_post_50 (by decide) ?_
          cases hf
          exact px_retI X hr hlk w dX6_post_51
    · have hf := px_in c10 hf
      refine lv_iconst (v := (1 : Int32)) X.1 X.2.1 dX6_post_22 (by decide) ?_
      refine lv_goto (tgt := 40) X.1 X.2.1 dX6_post_23 (by decide) ?_
      refine ptR_0_0 X w dX6_post_40 (fun H locs w => ?_)
      obtain ⟨M20, eM20, hf⟩ := px_bn_e hf
      rw [← eM20] at w
      refine lv_aload_n X.1 X.2.1 dX6_post_43 rfl (lv_at hl 0 rfl) ?_
      refine gtR_0_0 X w dX6_post_44 ?_
      refine lv_if_eq (tgt := 52) X.1 X.2.1 dX6_post_47 (by decide) (fun c21 => ?_) (fun c21 => ?_)
      · have hf := px_ip c21 hf
        refine lv_aload_n X.1 X.2.1 dX6_post_52 rfl (lv_at hl 0 rfl) ?_
        refine lv_iload_n X.1 X.2.1 dX6_post_53 rfl (lv_at hl 1 rfl) ?_
        refine lv_iload_n X.1 X.2.1 dX6_post_54 rfl (lv_at hl 2 rfl) ?_
        refine lv_iload_n X.1 X.2.1 dX6_post_55 rfl (lv_at hl 3 rfl) ?_
        refine lv_iconst (v := (0 : Int32)) X.1 X.2.1 dX6_post_56 (by decide) ?_
        obtain ⟨M23, e22, hf⟩ := px_bq_e hf
        refine px_cV (As := [.int p1, .int p2, .int p3, .int (0 : Int32)]) (rest := []) X hml hl w (cR_M_addTask l D cs ad e22) lk_6_160 (by decide) (rcR_0 X.2.2.2.2 w) rfl (Nat.le_of_ble_eq_true rfl) dX6_post_57 (fun H locs w => ?_)
        refine lv_aload_n X.1 X.2.1 dX6_post_60 rfl (lv_at hl 0 rfl) ?_
        refine gtR_0_25 X w dX6_post_61 ?_
        cases hf
        exact px_retI X hr hlk w dX6_post_64
      · have hf := px_in c21 hf
        refine lv_iconst (v := (0 : Int32)) X.1 X.2.1 dX6_post_50 (by decide) ?_
        cases hf
        exact px_retI X hr hlk w dX6_post_51
def fR_M_prefer (M : px_M) (p1 : Int32) : Option px_M := px_bq (fR_M_outside M p1 (0 : Int32) (2 : Int32)) (fun r2 => (if r2 = 0 then px_bn (px_up M 0 0 (0 : Int32)) (fun M4 => (if (M4 0 0) = 0 then px_bn (px_up M4 0 30 p1) (fun M7 => some M7) else px_bn (px_up M4 0 30 (M4 0 30)) (fun M6 => some M6))) else px_bn (px_up M 0 0 (1 : Int32)) (fun M8 => (if (M8 0 0) = 0 then px_bn (px_up M8 0 30 p1) (fun M11 => some M11) else px_bn (px_up M8 0 30 (M8 0 30)) (fun M10 => some M10)))))
set_option maxHeartbeats 4000000 in
set_option maxRecDepth 100000 in
theorem cR_M_prefer (l : Launch) (D : va_G) (cs : Nat → ClassId) (ad : Nat → Nat) {M : px_M} {p1 : Int32} {M' : px_M} (hf : fR_M_prefer M p1 = some M') : px_mV l D (tyR cs) (wR cs ad) yX6_prefer cX6_prefer 2 1 [.ref (ad 0), .int p1] M M' := by
  refine px_ofV (by decide +kernel) (Nat.le_of_ble_eq_true rfl) ?_
  intro p e s m below meth c A ls X hr hlk hml w hl
  have hl : lv_has ls 2 [(0, .ref (ad 0)), (1, .int p1)] := hl
  unfold fR_M_prefer at hf
  refine lv_aload_n X.1 X.2.1 dX6_prefer_0 rfl (lv_at hl 0 rfl) ?_
  refine lv_aload_n X.1 X.2.1 dX6_prefer_1 rfl (lv_at hl 0 rfl) ?_
  refine lv_iload_n X.1 X.2.1 dX6_prefer_2 rfl (lv_at hl 1 rfl) ?_
  refine lv_iconst (v := (0 : Int32)) X.1 X.2.1 dX6_prefer_3 (by decide) ?_
  refine lv_iconst (v := (2 : Int32)) X.1 X.2.1 dX6_prefer_4 (by decide) ?_
  obtain ⟨r2, e1, hf⟩ := px_bq_e hf
  refine px_cI (As := [.int p1, .int (0 : Int32), .int (2 : Int32)]) (rest := [.ref (ad 0)]) X hml hl w (cR_M_outside l D cs ad e1) lk_6_141 (by decide) (rcR_0 X.2.2.2.2 w) rfl (Nat.le_of_ble_eq_true rfl) dX6_prefer_5 (fun H locs w => ?_)
  refine lv_if_eq (tgt := 15) X.1 X.2.1 dX6_prefer_8 (by decide) (fun c3 => ?_) (fun c3 => ?_)
  · have hf := px_ip c3 hf
    refine lv_iconst (v := (0 : Int32)) X.1 X.2.1 dX6_prefer_15 (by decide) ?_
    refine ptR_0_0 X w dX6_prefer_16 (fun H locs w => ?_)
    obtain ⟨M4, eM4, hf⟩ := px_bn_e hf
    rw [← eM4] at w
    refine lv_aload_n X.1 X.2.1 dX6_prefer_19 rfl (lv_at hl 0 rfl) ?_
    refine lv_aload_n X.1 X.2.1 dX6_prefer_20 rfl (lv_at hl 0 rfl) ?_
    refine gtR_0_0 X w dX6_prefer_21 ?_
    refine lv_if_ne (tgt := 31) X.1 X.2.1 dX6_prefer_24 (by decide) (fun c5 => ?_) (fun c5 => ?_)
    · have hf := px_in c5 hf
      refine lv_aload_n X.1 X.2.1 dX6_prefer_31 rfl (lv_at hl 0 rfl) ?_
      refine gtR_0_30 X w dX6_prefer_32 ?_
      refine ptR_0_30 X w dX6_prefer_35 (fun H locs w => ?_)
      obtain ⟨M6, eM6, hf⟩ := px_bn_e hf
      rw [← eM6] at w
      cases hf
      exact px_retV X hr hlk w dX6_prefer_38
    · have hf := px_ip c5 hf
      refine lv_iload_n X.1 X.2.1 dX6_prefer_27 rfl (lv_at hl 1 rfl) ?_
      refine lv_goto (tgt := 35) X.1 X.2.1 dX6_prefer_28 (by decide) ?_
      refine ptR_0_30 X w dX6_prefer_35 (fun H locs w => ?_)
      obtain ⟨M7, eM7, hf⟩ := px_bn_e hf
      rw [← eM7] at w
      cases hf
      exact px_retV X hr hlk w dX6_prefer_38
  · have hf := px_in c3 hf
    refine lv_iconst (v := (1 : Int32)) X.1 X.2.1 dX6_prefer_11 (by decide) ?_
    refine lv_goto (tgt := 16) X.1 X.2.1 dX6_prefer_12 (by decide) ?_
    refine ptR_0_0 X w dX6_prefer_16 (fun H locs w => ?_)
    obtain ⟨M8, eM8, hf⟩ := px_bn_e hf
    rw [← eM8] at w
    refine lv_aload_n X.1 X.2.1 dX6_prefer_19 rfl (lv_at hl 0 rfl) ?_
    refine lv_aload_n X.1 X.2.1 dX6_prefer_20 rfl (lv_at hl 0 rfl) ?_
    refine gtR_0_0 X w dX6_prefer_21 ?_
    refine lv_if_ne (tgt := 31) X.1 X.2.1 dX6_prefer_24 (by decide) (fun c9 => ?_) (fun c9 => ?_)
    · have hf := px_in c9 hf
      refine lv_aload_n X.1 X.2.1 dX6_prefer_31 rfl (lv_at hl 0 rfl) ?_
      refine gtR_0_30 X w dX6_prefer_32 ?_
      refine ptR_0_30 X w dX6_prefer_35 (fun H locs w => ?_)
      obtain ⟨M10, eM10, hf⟩ := px_bn_e hf
      rw [← eM10] at w
      cases hf
      exact px_retV X hr hlk w dX6_prefer_38
    · have hf := px_ip c9 hf
      refine lv_iload_n X.1 X.2.1 dX6_prefer_27 rfl (lv_at hl 1 rfl) ?_
      refine lv_goto (tgt := 35) X.1 X.2.1 dX6_prefer_28 (by decide) ?_
      refine ptR_0_30 X w dX6_prefer_35 (fun H locs w => ?_)
      obtain ⟨M11, eM11, hf⟩ := px_bn_e hf
      rw [← eM11] at w
      cases hf
      exact px_retV X hr hlk w dX6_prefer_38
def gR_M_advance_L85 (rc76 : px_M → Int32 → Option (Int32 × px_M)) (rc85 : px_M → Int32 → Int32 → Option (Int32 × px_M)) (M : px_M) (y3 y4 : Int32) : Option (Int32 × px_M) := (if (M 0 32) ≤ y4 then (if y3 < 0 then rc76 M (0 : Int32) else px_ck y3 12 (px_bn (px_up M 31 y3.toNatClampNeg (1 : Int32)) (fun M13 => px_ck y3 12 (px_ck y3 12 (px_ck y3 12 (px_bq (fR_M_addTask M13 (1 : Int32) (M13 25 y3.toNatClampNeg) (M13 26 y3.toNatClampNeg) (M13 24 y3.toNatClampNeg)) (fun M18 => rc76 M18 (1 : Int32)))))))) else px_ck y4 12 ((if (M 31 y4.toNatClampNeg) = 0 then px_ck y4 12 ((if (M 0 31) < (M 29 y4.toNatClampNeg) then rc85 M y3 (y4 + (1 : Int32)) else (if y3 < 0 then rc85 M y4 (y4 + (1 : Int32)) else px_ck y4 12 (px_ck y3 12 ((if (M 29 y3.toNatClampNeg) ≤ (M 29 y4.toNatClampNeg) then rc85 M y3 (y4 + (1 : Int32)) else rc85 M y4 (y4 + (1 : Int32)))))))) else rc85 M y3 (y4 + (1 : Int32)))))
set_option maxHeartbeats 4000000 in
set_option maxRecDepth 100000 in
theorem lR_M_advance_L85 {l : Launch} {D : va_G} {cs : Nat → ClassId} {ad : Nat → Nat} {p : Program} {e : Env} {s : State} {m : MethodId} {args : Array Value} {below : List Frame} {meth : Method} {c : Code} {A : Nat → Prop} {rc76 : px_M → Int32 → Option (Int32 × px_M)} (X : px_X D (tyR cs) p s m args c cX6_advance yX6_advance.cls) (hr : meth.sig.returnType = (some .int)) (hlk : meth.locks = false) (hml : c.maxLocals = 5) (ih76 : ∀ (M : px_M) (y2 : Int32) (z : Int32 × px_M), rc76 M y2 = some z → ∀ (H : Heap) (locs : List Loc) (ls : Array Slot), px_H D (wR cs ad) A s.heap M H locs → lv_has ls 5 [(0, .ref (ad 0)), (2, .int y2)] → W p l e (px_rm 1) s m args below meth c H locs 0 0 (px_QI D (tyR cs) (wR cs ad) below args s A z.1 z.2) (F0 m 76 ls [])) : ∀ (j : Nat) (M : px_M) (y3 y4 : Int32) (z : Int32 × px_M), px_fx2 (gR_M_advance_L85 rc76) j M y3 y4 = some z → ∀ (H : Heap) (locs : List Loc) (ls : Array Slot), px_H D (wR cs ad) A s.heap M H locs → lv_has ls 5 [(0, .ref (ad 0)), (3, .int y3), (4, .int y4)] → W p l e (px_rm 1) s m args below meth c H locs 0 0 (px_QI D (tyR cs) (wR cs ad) below args s A z.1 z.2) (F0 m 85 ls []) := by
  refine px_fx2_i (P := fun M y3 y4 (z : Int32 × px_M) => ∀ (H : Heap) (locs : List Loc) (ls : Array Slot), px_H D (wR cs ad) A s.heap M H locs → lv_has ls 5 [(0, .ref (ad 0)), (3, .int y3), (4, .int y4)] → W p l e (px_rm 1) s m args below meth c H locs 0 0 (px_QI D (tyR cs) (wR cs ad) below args s A z.1 z.2) (F0 m 85 ls [])) ?_
  intro rc85 ih85 M y3 y4 z hf H locs ls w hl
  unfold gR_M_advance_L85 at hf
  refine lv_iload X.1 X.2.1 dX6_advance_85 (lv_at hl 2 rfl) ?_
  refine lv_aload_n X.1 X.2.1 dX6_advance_87 rfl (lv_at hl 0 rfl) ?_
  refine gtR_0_32 X w dX6_advance_88 ?_
  refine lv_icmp_ge (tgt := 147) X.1 X.2.1 dX6_advance_91 (by decide) (fun c10 => ?_) (fun c10 => ?_)
  · have hf := px_ip c10 hf
    refine lv_iload_n X.1 X.2.1 dX6_advance_147 rfl (lv_at hl 1 rfl) ?_
    refine lv_if_lt (tgt := 155) X.1 X.2.1 dX6_advance_148 (by decide) (fun c11 => ?_) (fun c11 => ?_)
    · have hf := px_ip c11 hf
      refine lv_iconst (v := (0 : Int32)) X.1 X.2.1 dX6_advance_155 (by decide) ?_
      refine lv_istore_n (lv' := [(2, .int (0 : Int32)), (0, .ref (ad 0)), (3, .int y3), (4, .int y4)]) X.1 X.2.1 dX6_advance_156 rfl hl (by decide) rfl (fun ls hl => ?_)
      refine lv_iload_n X.1 X.2.1 dX6_advance_157 rfl (lv_at hl 0 rfl) ?_
      refine lv_if_eq (tgt := 191) X.1 X.2.1 dX6_advance_158 (by decide) (fun _ => ?_) (fun c => absurd c (by decide))
      refine lv_goto (tgt := 76) X.1 X.2.1 dX6_advance_191 (by decide) ?_
      exact ih76 M (0 : Int32) _ hf _ _ ls w (lv_sub hl [1, 0] rfl)
    · have hf := px_in c11 hf
      refine lv_iconst (v := (1 : Int32)) X.1 X.2.1 dX6_advance_151 (by decide) ?_
      refine lv_goto (tgt := 156) X.1 X.2.1 dX6_advance_152 (by decide) ?_
      refine lv_istore_n (lv' := [(2, .int (1 : Int32)), (0, .ref (ad 0)), (3, .int y3), (4, .int y4)]) X.1 X.2.1 dX6_advance_156 rfl hl (by decide) rfl (fun ls hl => ?_)
      refine lv_iload_n X.1 X.2.1 dX6_advance_157 rfl (lv_at hl 0 rfl) ?_
      refine lv_if_eq (tgt := 191) X.1 X.2.1 dX6_advance_158 (by decide) (fun c => absurd c (by decide)) (fun _ => ?_)
      refine lv_aload_n X.1 X.2.1 dX6_advance_161 rfl (lv_at hl 1 rfl) ?_
      refine gtR_0_41 X w dX6_advance_162 ?_
      refine lv_iload_n X.1 X.2.1 dX6_advance_165 rfl (lv_at hl 2 rfl) ?_
      refine lv_iconst (v := (1 : Int32)) X.1 X.2.1 dX6_advance_166 (by decide) ?_
      obtain ⟨b12, hf⟩ := px_ck_e hf
      refine isR_31 X w b12 rfl dX6_advance_167 (fun H locs w => ?_)
      obtain ⟨M13, eM13, hf⟩ := px_bn_e hf
      rw [← eM13] at w
      refine lv_aload_n X.1 X.2.1 dX6_advance_168 rfl (lv_at hl 1 rfl) ?_
      refine lv_iconst (v := (1 : Int32)) X.1 X.2.1 dX6_advance_169 (by decide) ?_
      refine lv_aload_n X.1 X.2.1 dX6_advance_170 rfl (lv_at hl 1 rfl) ?_
      refine gtR_0_35 X w dX6_advance_171 ?_
      refine lv_iload_n X.1 X.2.1 dX6_advance_174 rfl (lv_at hl 2 rfl) ?_
      obtain ⟨b14, hf⟩ := px_ck_e hf
      refine ilR_25 X w b14 dX6_advance_175 ?_
      refine lv_aload_n X.1 X.2.1 dX6_advance_176 rfl (lv_at hl 1 rfl) ?_
      refine gtR_0_36 X w dX6_advance_177 ?_
      refine lv_iload_n X.1 X.2.1 dX6_advance_180 rfl (lv_at hl 2 rfl) ?_
      obtain ⟨b15, hf⟩ := px_ck_e hf
      refine ilR_26 X w b15 dX6_advance_181 ?_
      refine lv_aload_n X.1 X.2.1 dX6_advance_182 rfl (lv_at hl 1 rfl) ?_
      refine gtR_0_34 X w dX6_advance_183 ?_
      refine lv_iload_n X.1 X.2.1 dX6_advance_186 rfl (lv_at hl 2 rfl) ?_
      obtain ⟨b16, hf⟩ := px_ck_e hf
      refine ilR_24 X w b16 dX6_advance_187 ?_
      obtain ⟨M18, e17, hf⟩ := px_bq_e hf
      refine px_cV (As := [.int (1 : Int32), .int (M13 25 y3.toNatClampNeg), .int (M13 26 y3.toNatClampNeg), .int (M13 24 y3.toNatClampNeg)]) (rest := []) X hml hl w (cR_M_addTask l D cs ad e17) lk_6_160 (by decide) (rcR_0 X.2.2.2.2 w) rfl (Nat.le_of_ble_eq_true rfl) dX6_advance_188 (fun H locs w => ?_)
      refine lv_goto (tgt := 76) X.1 X.2.1 dX6_advance_191 (by decide) ?_
      exact ih76 M18 (1 : Int32) _ hf _ _ ls w (lv_sub hl [1, 0] rfl)
  · have hf := px_in c10 hf
    refine lv_aload_n X.1 X.2.1 dX6_advance_94 rfl (lv_at hl 0 rfl) ?_
    refine gtR_0_41 X w dX6_advance_95 ?_
    refine lv_iload X.1 X.2.1 dX6_advance_98 (lv_at hl 2 rfl) ?_
    obtain ⟨b19, hf⟩ := px_ck_e hf
    refine ilR_31 X w b19 dX6_advance_100 ?_
    refine lv_if_ne (tgt := 141) X.1 X.2.1 dX6_advance_101 (by decide) (fun c20 => ?_) (fun c20 => ?_)
    · have hf := px_in c20 hf
      refine lv_iinc (v := (y4 + (1 : Int32))) (lv' := [(4, .int (y4 + (1 : Int32))), (0, .ref (ad 0)), (3, .int y3)]) X.1 X.2.1 dX6_advance_141 hl (k := 2) rfl rfl (by decide) rfl (fun ls hl => ?_)
      refine lv_goto (tgt := 85) X.1 X.2.1 dX6_advance_144 (by decide) ?_
      exact ih85 M y3 (y4 + (1 : Int32)) _ hf _ _ ls w (lv_sub hl [1, 2, 0] rfl)
    · have hf := px_ip c20 hf
      refine lv_aload_n X.1 X.2.1 dX6_advance_104 rfl (lv_at hl 0 rfl) ?_
      refine gtR_0_39 X w dX6_advance_105 ?_
      refine lv_iload X.1 X.2.1 dX6_advance_108 (lv_at hl 2 rfl) ?_
      obtain ⟨b21, hf⟩ := px_ck_e hf
      refine ilR_29 X w b21 dX6_advance_110 ?_
      refine lv_aload_n X.1 X.2.1 dX6_advance_111 rfl (lv_at hl 0 rfl) ?_
      refine gtR_0_31 X w dX6_advance_112 ?_
      refine lv_icmp_gt (tgt := 141) X.1 X.2.1 dX6_advance_115 (by decide) (fun c22 => ?_) (fun c22 => ?_)
      · have hf := px_ip c22 hf
        refine lv_iinc (v := (y4 + (1 : Int32))) (lv' := [(4, .int (y4 + (1 : Int32))), (0, .ref (ad 0)), (3, .int y3)]) X.1 X.2.1 dX6_advance_141 hl (k := 2) rfl rfl (by decide) rfl (fun ls hl => ?_)
        refine lv_goto (tgt := 85) X.1 X.2.1 dX6_advance_144 (by decide) ?_
        exact ih85 M y3 (y4 + (1 : Int32)) _ hf _ _ ls w (lv_sub hl [1, 2, 0] rfl)
      · have hf := px_in c22 hf
        refine lv_iload_n X.1 X.2.1 dX6_advance_118 rfl (lv_at hl 1 rfl) ?_
        refine lv_if_lt (tgt := 138) X.1 X.2.1 dX6_advance_119 (by decide) (fun c23 => ?_) (fun c23 => ?_)
        · have hf := px_ip c23 hf
          refine lv_iload X.1 X.2.1 dX6_advance_138 (lv_at hl 2 rfl) ?_
          refine lv_istore_n (lv' := [(3, .int y4), (0, .ref (ad 0)), (4, .int y4)]) X.1 X.2.1 dX6_advance_140 rfl hl (by decide) rfl (fun ls hl => ?_)
          refine lv_iinc (v := (y4 + (1 : Int32))) (lv' := [(4, .int (y4 + (1 : Int32))), (3, .int y4), (0, .ref (ad 0))]) X.1 X.2.1 dX6_advance_141 hl (k := 2) rfl rfl (by decide) rfl (fun ls hl => ?_)
          refine lv_goto (tgt := 85) X.1 X.2.1 dX6_advance_144 (by decide) ?_
          exact ih85 M y4 (y4 + (1 : Int32)) _ hf _ _ ls w (lv_sub hl [2, 1, 0] rfl)
        · have hf := px_in c23 hf
          refine lv_aload_n X.1 X.2.1 dX6_advance_122 rfl (lv_at hl 0 rfl) ?_
          refine gtR_0_39 X w dX6_advance_123 ?_
          refine lv_iload X.1 X.2.1 dX6_advance_126 (lv_at hl 2 rfl) ?_
          obtain ⟨b24, hf⟩ := px_ck_e hf
          refine ilR_29 X w b24 dX6_advance_128 ?_
          refine lv_aload_n X.1 X.2.1 dX6_advance_129 rfl (lv_at hl 0 rfl) ?_
          refine gtR_0_39 X w dX6_advance_130 ?_
          refine lv_iload_n X.1 X.2.1 dX6_advance_133 rfl (lv_at hl 1 rfl) ?_
          obtain ⟨b25, hf⟩ := px_ck_e hf
          refine ilR_29 X w b25 dX6_advance_134 ?_
          refine lv_icmp_ge (tgt := 141) X.1 X.2.1 dX6_advance_135 (by decide) (fun c26 => ?_) (fun c26 => ?_)
          · have hf := px_ip c26 hf
            refine lv_iinc (v := (y4 + (1 : Int32))) (lv' := [(4, .int (y4 + (1 : Int32))), (0, .ref (ad 0)), (3, .int y3)]) X.1 X.2.1 dX6_advance_141 hl (k := 2) rfl rfl (by decide) rfl (fun ls hl => ?_)
            refine lv_goto (tgt := 85) X.1 X.2.1 dX6_advance_144 (by decide) ?_
            exact ih85 M y3 (y4 + (1 : Int32)) _ hf _ _ ls w (lv_sub hl [1, 2, 0] rfl)
          · have hf := px_in c26 hf
            refine lv_iload X.1 X.2.1 dX6_advance_138 (lv_at hl 2 rfl) ?_
            refine lv_istore_n (lv' := [(3, .int y4), (0, .ref (ad 0)), (4, .int y4)]) X.1 X.2.1 dX6_advance_140 rfl hl (by decide) rfl (fun ls hl => ?_)
            refine lv_iinc (v := (y4 + (1 : Int32))) (lv' := [(4, .int (y4 + (1 : Int32))), (3, .int y4), (0, .ref (ad 0))]) X.1 X.2.1 dX6_advance_141 hl (k := 2) rfl rfl (by decide) rfl (fun ls hl => ?_)
            refine lv_goto (tgt := 85) X.1 X.2.1 dX6_advance_144 (by decide) ?_
            exact ih85 M y4 (y4 + (1 : Int32)) _ hf _ _ ls w (lv_sub hl [2, 1, 0] rfl)
def gR_M_advance_L76 (rc76 : px_M → Int32 → Option (Int32 × px_M)) (M : px_M) (y2 : Int32) : Option (Int32 × px_M) := (if y2 = 0 then some ((M 0 31), M) else px_fx2 (gR_M_advance_L85 rc76) 14 M (-1 : Int32) (0 : Int32))
set_option maxHeartbeats 4000000 in
set_option maxRecDepth 100000 in
theorem lR_M_advance_L76 {l : Launch} {D : va_G} {cs : Nat → ClassId} {ad : Nat → Nat} {p : Program} {e : Env} {s : State} {m : MethodId} {args : Array Value} {below : List Frame} {meth : Method} {c : Code} {A : Nat → Prop} (X : px_X D (tyR cs) p s m args c cX6_advance yX6_advance.cls) (hr : meth.sig.returnType = (some .int)) (hlk : meth.locks = false) (hml : c.maxLocals = 5) : ∀ (j : Nat) (M : px_M) (y2 : Int32) (z : Int32 × px_M), px_fx1 gR_M_advance_L76 j M y2 = some z → ∀ (H : Heap) (locs : List Loc) (ls : Array Slot), px_H D (wR cs ad) A s.heap M H locs → lv_has ls 5 [(0, .ref (ad 0)), (2, .int y2)] → W p l e (px_rm 1) s m args below meth c H locs 0 0 (px_QI D (tyR cs) (wR cs ad) below args s A z.1 z.2) (F0 m 76 ls []) := by
  refine px_fx1_i (P := fun M y2 (z : Int32 × px_M) => ∀ (H : Heap) (locs : List Loc) (ls : Array Slot), px_H D (wR cs ad) A s.heap M H locs → lv_has ls 5 [(0, .ref (ad 0)), (2, .int y2)] → W p l e (px_rm 1) s m args below meth c H locs 0 0 (px_QI D (tyR cs) (wR cs ad) below args s A z.1 z.2) (F0 m 76 ls [])) ?_
  intro rc76 ih76 M y2 z hf H locs ls w hl
  unfold gR_M_advance_L76 at hf
  refine lv_iload_n X.1 X.2.1 dX6_advance_76 rfl (lv_at hl 1 rfl) ?_
  refine lv_if_eq (tgt := 194) X.1 X.2.1 dX6_advance_77 (by decide) (fun c9 => ?_) (fun c9 => ?_)
  · have hf := px_ip c9 hf
    refine lv_aload_n X.1 X.2.1 dX6_advance_194 rfl (lv_at hl 0 rfl) ?_
    refine gtR_0_31 X w dX6_advance_195 ?_
    cases hf
    exact px_retI X hr hlk w dX6_advance_198
  · have hf := px_in c9 hf
    refine lv_iconst (v := (-1 : Int32)) X.1 X.2.1 dX6_advance_80 (by decide) ?_
    refine lv_istore_n (lv' := [(3, .int (-1 : Int32)), (0, .ref (ad 0)), (2, .int y2)]) X.1 X.2.1 dX6_advance_81 rfl hl (by decide) rfl (fun ls hl => ?_)
    refine lv_iconst (v := (0 : Int32)) X.1 X.2.1 dX6_advance_82 (by decide) ?_
    refine lv_istore (lv' := [(4, .int (0 : Int32)), (3, .int (-1 : Int32)), (0, .ref (ad 0)), (2, .int y2)]) X.1 X.2.1 dX6_advance_83 hl (by decide) rfl (fun ls hl => ?_)
    exact lR_M_advance_L85 X hr hlk hml ih76 14 M (-1 : Int32) (0 : Int32) _ hf _ _ ls w (lv_sub hl [2, 1, 0] rfl)
def fR_M_advance (M : px_M) (p1 : Int32) : Option (Int32 × px_M) := px_bq (fR_M_outside M p1 (1 : Int32) (100 : Int32)) (fun r2 => (if r2 = 0 then px_bn (px_up M 0 0 (0 : Int32)) (fun M4 => (if (M4 0 0) = 0 then (if (M4 0 42) = 0 then (if (((M4 0 31) + p1) / (16 : Int32)) ≤ ((M4 0 31) / (16 : Int32)) then px_bn (px_up M4 0 42 (0 : Int32)) (fun M28 => px_bn (px_up M28 0 31 ((M28 0 31) + p1)) (fun M29 => px_fx1 gR_M_advance_L76 14 M29 (1 : Int32))) else px_bn (px_up M4 0 42 (1 : Int32)) (fun M30 => px_bn (px_up M30 0 31 ((M30 0 31) + p1)) (fun M31 => px_fx1 gR_M_advance_L76 14 M31 (1 : Int32)))) else px_bn (px_up M4 0 42 (1 : Int32)) (fun M7 => px_bn (px_up M7 0 31 ((M7 0 31) + p1)) (fun M8 => px_fx1 gR_M_advance_L76 14 M8 (1 : Int32)))) else some ((0 : Int32), M4))) else px_bn (px_up M 0 0 (1 : Int32)) (fun M32 => (if (M32 0 0) = 0 then (if (M32 0 42) = 0 then (if (((M32 0 31) + p1) / (16 : Int32)) ≤ ((M32 0 31) / (16 : Int32)) then px_bn (px_up M32 0 42 (0 : Int32)) (fun M38 => px_bn (px_up M38 0 31 ((M38 0 31) + p1)) (fun M39 => px_fx1 gR_M_advance_L76 14 M39 (1 : Int32))) else px_bn (px_up M32 0 42 (1 : Int32)) (fun M40 => px_bn (px_up M40 0 31 ((M40 0 31) + p1)) (fun M41 => px_fx1 gR_M_advance_L76 14 M41 (1 : Int32)))) else px_bn (px_up M32 0 42 (1 : Int32)) (fun M35 => px_bn (px_up M35 0 31 ((M35 0 31) + p1)) (fun M36 => px_fx1 gR_M_advance_L76 14 M36 (1 : Int32)))) else some ((0 : Int32), M32)))))
set_option maxHeartbeats 4000000 in
set_option maxRecDepth 100000 in
theorem cR_M_advance (l : Launch) (D : va_G) (cs : Nat → ClassId) (ad : Nat → Nat) {M : px_M} {p1 : Int32} {r : Int32} {M' : px_M} (hf : fR_M_advance M p1 = some (r, M')) : px_mI l D (tyR cs) (wR cs ad) yX6_advance cX6_advance 5 (some .int) 1 [.ref (ad 0), .int p1] M r M' := by
  refine px_ofI (by decide +kernel) (Nat.le_of_ble_eq_true rfl) ?_
  intro p e s m below meth c A ls X hr hlk hml w hl
  have hl : lv_has ls 5 [(0, .ref (ad 0)), (1, .int p1)] := hl
  unfold fR_M_advance at hf
  refine lv_aload_n X.1 X.2.1 dX6_advance_0 rfl (lv_at hl 0 rfl) ?_
  refine lv_aload_n X.1 X.2.1 dX6_advance_1 rfl (lv_at hl 0 rfl) ?_
  refine lv_iload_n X.1 X.2.1 dX6_advance_2 rfl (lv_at hl 1 rfl) ?_
  refine lv_iconst (v := (1 : Int32)) X.1 X.2.1 dX6_advance_3 (by decide) ?_
  refine lv_bipush (v := (100 : Int32)) X.1 X.2.1 dX6_advance_4 (by decide) ?_
  obtain ⟨r2, e1, hf⟩ := px_bq_e hf
  refine px_cI (As := [.int p1, .int (1 : Int32), .int (100 : Int32)]) (rest := [.ref (ad 0)]) X hml hl w (cR_M_outside l D cs ad e1) lk_6_141 (by decide) (rcR_0 X.2.2.2.2 w) rfl (Nat.le_of_ble_eq_true rfl) dX6_advance_6 (fun H locs w => ?_)
  refine lv_if_eq (tgt := 16) X.1 X.2.1 dX6_advance_9 (by decide) (fun c3 => ?_) (fun c3 => ?_)
  · have hf := px_ip c3 hf
    refine lv_iconst (v := (0 : Int32)) X.1 X.2.1 dX6_advance_16 (by decide) ?_
    refine ptR_0_0 X w dX6_advance_17 (fun H locs w => ?_)
    obtain ⟨M4, eM4, hf⟩ := px_bn_e hf
    rw [← eM4] at w
    refine lv_aload_n X.1 X.2.1 dX6_advance_20 rfl (lv_at hl 0 rfl) ?_
    refine gtR_0_0 X w dX6_advance_21 ?_
    refine lv_if_eq (tgt := 29) X.1 X.2.1 dX6_advance_24 (by decide) (fun c5 => ?_) (fun c5 => ?_)
    · have hf := px_ip c5 hf
      refine lv_aload_n X.1 X.2.1 dX6_advance_29 rfl (lv_at hl 0 rfl) ?_
      refine lv_aload_n X.1 X.2.1 dX6_advance_30 rfl (lv_at hl 0 rfl) ?_
      refine gtR_0_42 X w dX6_advance_31 ?_
      refine lv_if_ne (tgt := 56) X.1 X.2.1 dX6_advance_34 (by decide) (fun c6 => ?_) (fun c6 => ?_)
      · have hf := px_in c6 hf
        refine lv_iconst (v := (1 : Int32)) X.1 X.2.1 dX6_advance_56 (by decide) ?_
        refine lv_goto (tgt := 61) X.1 X.2.1 dX6_advance_57 (by decide) ?_
        refine ptR_0_42 X w rfl dX6_advance_61 (fun H locs w => ?_)
        obtain ⟨M7, eM7, hf⟩ := px_bn_e hf
        rw [← eM7] at w
        refine lv_aload_n X.1 X.2.1 dX6_advance_64 rfl (lv_at hl 0 rfl) ?_
        refine lv_aload_n X.1 X.2.1 dX6_advance_65 rfl (lv_at hl 0 rfl) ?_
        refine gtR_0_31 X w dX6_advance_66 ?_
        refine lv_iload_n X.1 X.2.1 dX6_advance_69 rfl (lv_at hl 1 rfl) ?_
        refine lv_iadd X.1 X.2.1 dX6_advance_70 ?_
        refine ptR_0_31 X w dX6_advance_71 (fun H locs w => ?_)
        obtain ⟨M8, eM8, hf⟩ := px_bn_e hf
        rw [← eM8] at w
        refine lv_iconst (v := (1 : Int32)) X.1 X.2.1 dX6_advance_74 (by decide) ?_
        refine lv_istore_n (lv' := [(2, .int (1 : Int32)), (0, .ref (ad 0)), (1, .int p1)]) X.1 X.2.1 dX6_advance_75 rfl hl (by decide) rfl (fun ls hl => ?_)
        exact lR_M_advance_L76 X hr hlk hml 14 M8 (1 : Int32) _ hf _ _ ls w (lv_sub hl [1, 0] rfl)
      · have hf := px_ip c6 hf
        refine lv_aload_n X.1 X.2.1 dX6_advance_37 rfl (lv_at hl 0 rfl) ?_
        refine gtR_0_31 X w dX6_advance_38 ?_
        refine lv_iload_n X.1 X.2.1 dX6_advance_41 rfl (lv_at hl 1 rfl) ?_
        refine lv_iadd X.1 X.2.1 dX6_advance_42 ?_
        refine lv_bipush (v := (16 : Int32)) X.1 X.2.1 dX6_advance_43 (by decide) ?_
        refine lv_idiv X.1 X.2.1 dX6_advance_45 (by decide) ?_
        refine lv_aload_n X.1 X.2.1 dX6_advance_46 rfl (lv_at hl 0 rfl) ?_
        refine gtR_0_31 X w dX6_advance_47 ?_
        refine lv_bipush (v := (16 : Int32)) X.1 X.2.1 dX6_advance_50 (by decide) ?_
        refine lv_idiv X.1 X.2.1 dX6_advance_52 (by decide) ?_
        refine lv_icmp_le (tgt := 60) X.1 X.2.1 dX6_advance_53 (by decide) (fun c27 => ?_) (fun c27 => ?_)
        · have hf := px_ip c27 hf
          refine lv_iconst (v := (0 : Int32)) X.1 X.2.1 dX6_advance_60 (by decide) ?_
          refine ptR_0_42 X w rfl dX6_advance_61 (fun H locs w => ?_)
          obtain ⟨M28, eM28, hf⟩ := px_bn_e hf
          rw [← eM28] at w
          refine lv_aload_n X.1 X.2.1 dX6_advance_64 rfl (lv_at hl 0 rfl) ?_
          refine lv_aload_n X.1 X.2.1 dX6_advance_65 rfl (lv_at hl 0 rfl) ?_
          refine gtR_0_31 X w dX6_advance_66 ?_
          refine lv_iload_n X.1 X.2.1 dX6_advance_69 rfl (lv_at hl 1 rfl) ?_
          refine lv_iadd X.1 X.2.1 dX6_advance_70 ?_
          refine ptR_0_31 X w dX6_advance_71 (fun H locs w => ?_)
          obtain ⟨M29, eM29, hf⟩ := px_bn_e hf
          rw [← eM29] at w
          refine lv_iconst (v := (1 : Int32)) X.1 X.2.1 dX6_advance_74 (by decide) ?_
          refine lv_istore_n (lv' := [(2, .int (1 : Int32)), (0, .ref (ad 0)), (1, .int p1)]) X.1 X.2.1 dX6_advance_75 rfl hl (by decide) rfl (fun ls hl => ?_)
          exact lR_M_advance_L76 X hr hlk hml 14 M29 (1 : Int32) _ hf _ _ ls w (lv_sub hl [1, 0] rfl)
        · have hf := px_in c27 hf
          refine lv_iconst (v := (1 : Int32)) X.1 X.2.1 dX6_advance_56 (by decide) ?_
          refine lv_goto (tgt := 61) X.1 X.2.1 dX6_advance_57 (by decide) ?_
          refine ptR_0_42 X w rfl dX6_advance_61 (fun H locs w => ?_)
          obtain ⟨M30, eM30, hf⟩ := px_bn_e hf
          rw [← eM30] at w
          refine lv_aload_n X.1 X.2.1 dX6_advance_64 rfl (lv_at hl 0 rfl) ?_
          refine lv_aload_n X.1 X.2.1 dX6_advance_65 rfl (lv_at hl 0 rfl) ?_
          refine gtR_0_31 X w dX6_advance_66 ?_
          refine lv_iload_n X.1 X.2.1 dX6_advance_69 rfl (lv_at hl 1 rfl) ?_
          refine lv_iadd X.1 X.2.1 dX6_advance_70 ?_
          refine ptR_0_31 X w dX6_advance_71 (fun H locs w => ?_)
          obtain ⟨M31, eM31, hf⟩ := px_bn_e hf
          rw [← eM31] at w
          refine lv_iconst (v := (1 : Int32)) X.1 X.2.1 dX6_advance_74 (by decide) ?_
          refine lv_istore_n (lv' := [(2, .int (1 : Int32)), (0, .ref (ad 0)), (1, .int p1)]) X.1 X.2.1 dX6_advance_75 rfl hl (by decide) rfl (fun ls hl => ?_)
          exact lR_M_advance_L76 X hr hlk hml 14 M31 (1 : Int32) _ hf _ _ ls w (lv_sub hl [1, 0] rfl)
    · have hf := px_in c5 hf
      refine lv_iconst (v := (0 : Int32)) X.1 X.2.1 dX6_advance_27 (by decide) ?_
      cases hf
      exact px_retI X hr hlk w dX6_advance_28
  · have hf := px_in c3 hf
    refine lv_iconst (v := (1 : Int32)) X.1 X.2.1 dX6_advance_12 (by decide) ?_
    refine lv_goto (tgt := 17) X.1 X.2.1 dX6_advance_13 (by decide) ?_
    refine ptR_0_0 X w dX6_advance_17 (fun H locs w => ?_)
    obtain ⟨M32, eM32, hf⟩ := px_bn_e hf
    rw [← eM32] at w
    refine lv_aload_n X.1 X.2.1 dX6_advance_20 rfl (lv_at hl 0 rfl) ?_
    refine gtR_0_0 X w dX6_advance_21 ?_
    refine lv_if_eq (tgt := 29) X.1 X.2.1 dX6_advance_24 (by decide) (fun c33 => ?_) (fun c33 => ?_)
    · have hf := px_ip c33 hf
      refine lv_aload_n X.1 X.2.1 dX6_advance_29 rfl (lv_at hl 0 rfl) ?_
      refine lv_aload_n X.1 X.2.1 dX6_advance_30 rfl (lv_at hl 0 rfl) ?_
      refine gtR_0_42 X w dX6_advance_31 ?_
      refine lv_if_ne (tgt := 56) X.1 X.2.1 dX6_advance_34 (by decide) (fun c34 => ?_) (fun c34 => ?_)
      · have hf := px_in c34 hf
        refine lv_iconst (v := (1 : Int32)) X.1 X.2.1 dX6_advance_56 (by decide) ?_
        refine lv_goto (tgt := 61) X.1 X.2.1 dX6_advance_57 (by decide) ?_
        refine ptR_0_42 X w rfl dX6_advance_61 (fun H locs w => ?_)
        obtain ⟨M35, eM35, hf⟩ := px_bn_e hf
        rw [← eM35] at w
        refine lv_aload_n X.1 X.2.1 dX6_advance_64 rfl (lv_at hl 0 rfl) ?_
        refine lv_aload_n X.1 X.2.1 dX6_advance_65 rfl (lv_at hl 0 rfl) ?_
        refine gtR_0_31 X w dX6_advance_66 ?_
        refine lv_iload_n X.1 X.2.1 dX6_advance_69 rfl (lv_at hl 1 rfl) ?_
        refine lv_iadd X.1 X.2.1 dX6_advance_70 ?_
        refine ptR_0_31 X w dX6_advance_71 (fun H locs w => ?_)
        obtain ⟨M36, eM36, hf⟩ := px_bn_e hf
        rw [← eM36] at w
        refine lv_iconst (v := (1 : Int32)) X.1 X.2.1 dX6_advance_74 (by decide) ?_
        refine lv_istore_n (lv' := [(2, .int (1 : Int32)), (0, .ref (ad 0)), (1, .int p1)]) X.1 X.2.1 dX6_advance_75 rfl hl (by decide) rfl (fun ls hl => ?_)
        exact lR_M_advance_L76 X hr hlk hml 14 M36 (1 : Int32) _ hf _ _ ls w (lv_sub hl [1, 0] rfl)
      · have hf := px_ip c34 hf
        refine lv_aload_n X.1 X.2.1 dX6_advance_37 rfl (lv_at hl 0 rfl) ?_
        refine gtR_0_31 X w dX6_advance_38 ?_
        refine lv_iload_n X.1 X.2.1 dX6_advance_41 rfl (lv_at hl 1 rfl) ?_
        refine lv_iadd X.1 X.2.1 dX6_advance_42 ?_
        refine lv_bipush (v := (16 : Int32)) X.1 X.2.1 dX6_advance_43 (by decide) ?_
        refine lv_idiv X.1 X.2.1 dX6_advance_45 (by decide) ?_
        refine lv_aload_n X.1 X.2.1 dX6_advance_46 rfl (lv_at hl 0 rfl) ?_
        refine gtR_0_31 X w dX6_advance_47 ?_
        refine lv_bipush (v := (16 : Int32)) X.1 X.2.1 dX6_advance_50 (by decide) ?_
        refine lv_idiv X.1 X.2.1 dX6_advance_52 (by decide) ?_
        refine lv_icmp_le (tgt := 60) X.1 X.2.1 dX6_advance_53 (by decide) (fun c37 => ?_) (fun c37 => ?_)
        · have hf := px_ip c37 hf
          refine lv_iconst (v := (0 : Int32)) X.1 X.2.1 dX6_advance_60 (by decide) ?_
          refine ptR_0_42 X w rfl dX6_advance_61 (fun H locs w => ?_)
          obtain ⟨M38, eM38, hf⟩ := px_bn_e hf
          rw [← eM38] at w
          refine lv_aload_n X.1 X.2.1 dX6_advance_64 rfl (lv_at hl 0 rfl) ?_
          refine lv_aload_n X.1 X.2.1 dX6_advance_65 rfl (lv_at hl 0 rfl) ?_
          refine gtR_0_31 X w dX6_advance_66 ?_
          refine lv_iload_n X.1 X.2.1 dX6_advance_69 rfl (lv_at hl 1 rfl) ?_
          refine lv_iadd X.1 X.2.1 dX6_advance_70 ?_
          refine ptR_0_31 X w dX6_advance_71 (fun H locs w => ?_)
          obtain ⟨M39, eM39, hf⟩ := px_bn_e hf
          rw [← eM39] at w
          refine lv_iconst (v := (1 : Int32)) X.1 X.2.1 dX6_advance_74 (by decide) ?_
          refine lv_istore_n (lv' := [(2, .int (1 : Int32)), (0, .ref (ad 0)), (1, .int p1)]) X.1 X.2.1 dX6_advance_75 rfl hl (by decide) rfl (fun ls hl => ?_)
          exact lR_M_advance_L76 X hr hlk hml 14 M39 (1 : Int32) _ hf _ _ ls w (lv_sub hl [1, 0] rfl)
        · have hf := px_in c37 hf
          refine lv_iconst (v := (1 : Int32)) X.1 X.2.1 dX6_advance_56 (by decide) ?_
          refine lv_goto (tgt := 61) X.1 X.2.1 dX6_advance_57 (by decide) ?_
          refine ptR_0_42 X w rfl dX6_advance_61 (fun H locs w => ?_)
          obtain ⟨M40, eM40, hf⟩ := px_bn_e hf
          rw [← eM40] at w
          refine lv_aload_n X.1 X.2.1 dX6_advance_64 rfl (lv_at hl 0 rfl) ?_
          refine lv_aload_n X.1 X.2.1 dX6_advance_65 rfl (lv_at hl 0 rfl) ?_
          refine gtR_0_31 X w dX6_advance_66 ?_
          refine lv_iload_n X.1 X.2.1 dX6_advance_69 rfl (lv_at hl 1 rfl) ?_
          refine lv_iadd X.1 X.2.1 dX6_advance_70 ?_
          refine ptR_0_31 X w dX6_advance_71 (fun H locs w => ?_)
          obtain ⟨M41, eM41, hf⟩ := px_bn_e hf
          rw [← eM41] at w
          refine lv_iconst (v := (1 : Int32)) X.1 X.2.1 dX6_advance_74 (by decide) ?_
          refine lv_istore_n (lv' := [(2, .int (1 : Int32)), (0, .ref (ad 0)), (1, .int p1)]) X.1 X.2.1 dX6_advance_75 rfl hl (by decide) rfl (fun ls hl => ?_)
          exact lR_M_advance_L76 X hr hlk hml 14 M41 (1 : Int32) _ hf _ _ ls w (lv_sub hl [1, 0] rfl)
    · have hf := px_in c33 hf
      refine lv_iconst (v := (0 : Int32)) X.1 X.2.1 dX6_advance_27 (by decide) ?_
      cases hf
      exact px_retI X hr hlk w dX6_advance_28
def fR_M_register (M : px_M) (p1 : Int32) : Option (Int32 × px_M) := px_bq (fR_M_outside M p1 (0 : Int32) (7 : Int32)) (fun r2 => (if r2 = 0 then px_bn (px_up M 0 0 (0 : Int32)) (fun M4 => (if (M4 0 0) = 0 then px_ck p1 8 (some (((M4 5 p1.toNatClampNeg) - (1 : Int32)), M4)) else some ((0 : Int32), M4))) else px_bn (px_up M 0 0 (1 : Int32)) (fun M7 => (if (M7 0 0) = 0 then px_ck p1 8 (some (((M7 5 p1.toNatClampNeg) - (1 : Int32)), M7)) else some ((0 : Int32), M7)))))
set_option maxHeartbeats 4000000 in
set_option maxRecDepth 100000 in
theorem cR_M_register (l : Launch) (D : va_G) (cs : Nat → ClassId) (ad : Nat → Nat) {M : px_M} {p1 : Int32} {r : Int32} {M' : px_M} (hf : fR_M_register M p1 = some (r, M')) : px_mI l D (tyR cs) (wR cs ad) yX6_register cX6_register 2 (some .int) 1 [.ref (ad 0), .int p1] M r M' := by
  refine px_ofI (by decide +kernel) (Nat.le_of_ble_eq_true rfl) ?_
  intro p e s m below meth c A ls X hr hlk hml w hl
  have hl : lv_has ls 2 [(0, .ref (ad 0)), (1, .int p1)] := hl
  unfold fR_M_register at hf
  refine lv_aload_n X.1 X.2.1 dX6_register_0 rfl (lv_at hl 0 rfl) ?_
  refine lv_aload_n X.1 X.2.1 dX6_register_1 rfl (lv_at hl 0 rfl) ?_
  refine lv_iload_n X.1 X.2.1 dX6_register_2 rfl (lv_at hl 1 rfl) ?_
  refine lv_iconst (v := (0 : Int32)) X.1 X.2.1 dX6_register_3 (by decide) ?_
  refine lv_bipush (v := (7 : Int32)) X.1 X.2.1 dX6_register_4 (by decide) ?_
  obtain ⟨r2, e1, hf⟩ := px_bq_e hf
  refine px_cI (As := [.int p1, .int (0 : Int32), .int (7 : Int32)]) (rest := [.ref (ad 0)]) X hml hl w (cR_M_outside l D cs ad e1) lk_6_141 (by decide) (rcR_0 X.2.2.2.2 w) rfl (Nat.le_of_ble_eq_true rfl) dX6_register_6 (fun H locs w => ?_)
  refine lv_if_eq (tgt := 16) X.1 X.2.1 dX6_register_9 (by decide) (fun c3 => ?_) (fun c3 => ?_)
  · have hf := px_ip c3 hf
    refine lv_iconst (v := (0 : Int32)) X.1 X.2.1 dX6_register_16 (by decide) ?_
    refine ptR_0_0 X w dX6_register_17 (fun H locs w => ?_)
    obtain ⟨M4, eM4, hf⟩ := px_bn_e hf
    rw [← eM4] at w
    refine lv_aload_n X.1 X.2.1 dX6_register_20 rfl (lv_at hl 0 rfl) ?_
    refine gtR_0_0 X w dX6_register_21 ?_
    refine lv_if_ne (tgt := 38) X.1 X.2.1 dX6_register_24 (by decide) (fun c5 => ?_) (fun c5 => ?_)
    · have hf := px_in c5 hf
      refine lv_iconst (v := (0 : Int32)) X.1 X.2.1 dX6_register_38 (by decide) ?_
      cases hf
      exact px_retI X hr hlk w dX6_register_39
    · have hf := px_ip c5 hf
      refine lv_aload_n X.1 X.2.1 dX6_register_27 rfl (lv_at hl 0 rfl) ?_
      refine gtR_0_5 X w dX6_register_28 ?_
      refine lv_iload_n X.1 X.2.1 dX6_register_31 rfl (lv_at hl 1 rfl) ?_
      obtain ⟨b6, hf⟩ := px_ck_e hf
      refine ilR_5 X w b6 dX6_register_32 ?_
      refine lv_iconst (v := (1 : Int32)) X.1 X.2.1 dX6_register_33 (by decide) ?_
      refine lv_isub X.1 X.2.1 dX6_register_34 ?_
      refine lv_goto (tgt := 39) X.1 X.2.1 dX6_register_35 (by decide) ?_
      cases hf
      exact px_retI X hr hlk w dX6_register_39
  · have hf := px_in c3 hf
    refine lv_iconst (v := (1 : Int32)) X.1 X.2.1 dX6_register_12 (by decide) ?_
    refine lv_goto (tgt := 17) X.1 X.2.1 dX6_register_13 (by decide) ?_
    refine ptR_0_0 X w dX6_register_17 (fun H locs w => ?_)
    obtain ⟨M7, eM7, hf⟩ := px_bn_e hf
    rw [← eM7] at w
    refine lv_aload_n X.1 X.2.1 dX6_register_20 rfl (lv_at hl 0 rfl) ?_
    refine gtR_0_0 X w dX6_register_21 ?_
    refine lv_if_ne (tgt := 38) X.1 X.2.1 dX6_register_24 (by decide) (fun c8 => ?_) (fun c8 => ?_)
    · have hf := px_in c8 hf
      refine lv_iconst (v := (0 : Int32)) X.1 X.2.1 dX6_register_38 (by decide) ?_
      cases hf
      exact px_retI X hr hlk w dX6_register_39
    · have hf := px_ip c8 hf
      refine lv_aload_n X.1 X.2.1 dX6_register_27 rfl (lv_at hl 0 rfl) ?_
      refine gtR_0_5 X w dX6_register_28 ?_
      refine lv_iload_n X.1 X.2.1 dX6_register_31 rfl (lv_at hl 1 rfl) ?_
      obtain ⟨b9, hf⟩ := px_ck_e hf
      refine ilR_5 X w b9 dX6_register_32 ?_
      refine lv_iconst (v := (1 : Int32)) X.1 X.2.1 dX6_register_33 (by decide) ?_
      refine lv_isub X.1 X.2.1 dX6_register_34 ?_
      refine lv_goto (tgt := 39) X.1 X.2.1 dX6_register_35 (by decide) ?_
      cases hf
      exact px_retI X hr hlk w dX6_register_39
def fR_M_state (M : px_M) (p1 : Int32) : Option (Int32 × px_M) := (if p1 < 0 then px_bn (px_up M 0 0 (1 : Int32)) (fun M2 => (if (M2 0 0) = 0 then px_ck p1 40 (px_ck p1 40 ((if (M2 8 p1.toNatClampNeg) = 0 then px_ck p1 40 ((if (M2 9 p1.toNatClampNeg) = 0 then some ((((M2 6 p1.toNatClampNeg) + (0 : Int32)) + (0 : Int32)), M2) else some ((((M2 6 p1.toNatClampNeg) + (0 : Int32)) + (8 : Int32)), M2))) else px_ck p1 40 ((if (M2 9 p1.toNatClampNeg) = 0 then some ((((M2 6 p1.toNatClampNeg) + (4 : Int32)) + (0 : Int32)), M2) else some ((((M2 6 p1.toNatClampNeg) + (4 : Int32)) + (8 : Int32)), M2)))))) else some ((0 : Int32), M2))) else (if p1 < (M 0 6) then px_bn (px_up M 0 0 (0 : Int32)) (fun M12 => (if (M12 0 0) = 0 then px_ck p1 40 (px_ck p1 40 ((if (M12 8 p1.toNatClampNeg) = 0 then px_ck p1 40 ((if (M12 9 p1.toNatClampNeg) = 0 then some ((((M12 6 p1.toNatClampNeg) + (0 : Int32)) + (0 : Int32)), M12) else some ((((M12 6 p1.toNatClampNeg) + (0 : Int32)) + (8 : Int32)), M12))) else px_ck p1 40 ((if (M12 9 p1.toNatClampNeg) = 0 then some ((((M12 6 p1.toNatClampNeg) + (4 : Int32)) + (0 : Int32)), M12) else some ((((M12 6 p1.toNatClampNeg) + (4 : Int32)) + (8 : Int32)), M12)))))) else some ((0 : Int32), M12))) else px_bn (px_up M 0 0 (1 : Int32)) (fun M21 => (if (M21 0 0) = 0 then px_ck p1 40 (px_ck p1 40 ((if (M21 8 p1.toNatClampNeg) = 0 then px_ck p1 40 ((if (M21 9 p1.toNatClampNeg) = 0 then some ((((M21 6 p1.toNatClampNeg) + (0 : Int32)) + (0 : Int32)), M21) else some ((((M21 6 p1.toNatClampNeg) + (0 : Int32)) + (8 : Int32)), M21))) else px_ck p1 40 ((if (M21 9 p1.toNatClampNeg) = 0 then some ((((M21 6 p1.toNatClampNeg) + (4 : Int32)) + (0 : Int32)), M21) else some ((((M21 6 p1.toNatClampNeg) + (4 : Int32)) + (8 : Int32)), M21)))))) else some ((0 : Int32), M21)))))
set_option maxHeartbeats 4000000 in
set_option maxRecDepth 100000 in
theorem cR_M_state (l : Launch) (D : va_G) (cs : Nat → ClassId) (ad : Nat → Nat) {M : px_M} {p1 : Int32} {r : Int32} {M' : px_M} (hf : fR_M_state M p1 = some (r, M')) : px_mI l D (tyR cs) (wR cs ad) yX6_state cX6_state 2 (some .int) 0 [.ref (ad 0), .int p1] M r M' := by
  refine px_ofI (by decide +kernel) (Nat.le_of_ble_eq_true rfl) ?_
  intro p e s m below meth c A ls X hr hlk hml w hl
  have hl : lv_has ls 2 [(0, .ref (ad 0)), (1, .int p1)] := hl
  unfold fR_M_state at hf
  refine lv_aload_n X.1 X.2.1 dX6_state_0 rfl (lv_at hl 0 rfl) ?_
  refine lv_iload_n X.1 X.2.1 dX6_state_1 rfl (lv_at hl 1 rfl) ?_
  refine lv_if_lt (tgt := 13) X.1 X.2.1 dX6_state_2 (by decide) (fun c1 => ?_) (fun c1 => ?_)
  · have hf := px_ip c1 hf
    refine lv_iconst (v := (1 : Int32)) X.1 X.2.1 dX6_state_13 (by decide) ?_
    refine lv_goto (tgt := 18) X.1 X.2.1 dX6_state_14 (by decide) ?_
    refine ptR_0_0 X w dX6_state_18 (fun H locs w => ?_)
    obtain ⟨M2, eM2, hf⟩ := px_bn_e hf
    rw [← eM2] at w
    refine lv_aload_n X.1 X.2.1 dX6_state_21 rfl (lv_at hl 0 rfl) ?_
    refine gtR_0_0 X w dX6_state_22 ?_
    refine lv_if_ne (tgt := 68) X.1 X.2.1 dX6_state_25 (by decide) (fun c3 => ?_) (fun c3 => ?_)
    · have hf := px_in c3 hf
      refine lv_iconst (v := (0 : Int32)) X.1 X.2.1 dX6_state_68 (by decide) ?_
      cases hf
      exact px_retI X hr hlk w dX6_state_69
    · have hf := px_ip c3 hf
      refine lv_aload_n X.1 X.2.1 dX6_state_28 rfl (lv_at hl 0 rfl) ?_
      refine gtR_0_7 X w dX6_state_29 ?_
      refine lv_iload_n X.1 X.2.1 dX6_state_32 rfl (lv_at hl 1 rfl) ?_
      obtain ⟨b4, hf⟩ := px_ck_e hf
      refine ilR_6 X w b4 dX6_state_33 ?_
      refine lv_aload_n X.1 X.2.1 dX6_state_34 rfl (lv_at hl 0 rfl) ?_
      refine gtR_0_9 X w dX6_state_35 ?_
      refine lv_iload_n X.1 X.2.1 dX6_state_38 rfl (lv_at hl 1 rfl) ?_
      obtain ⟨b5, hf⟩ := px_ck_e hf
      refine ilR_8 X w b5 dX6_state_39 ?_
      refine lv_if_eq (tgt := 47) X.1 X.2.1 dX6_state_40 (by decide) (fun c6 => ?_) (fun c6 => ?_)
      · have hf := px_ip c6 hf
        refine lv_iconst (v := (0 : Int32)) X.1 X.2.1 dX6_state_47 (by decide) ?_
        refine lv_iadd X.1 X.2.1 dX6_state_48 ?_
        refine lv_aload_n X.1 X.2.1 dX6_state_49 rfl (lv_at hl 0 rfl) ?_
        refine gtR_0_10 X w dX6_state_50 ?_
        refine lv_iload_n X.1 X.2.1 dX6_state_53 rfl (lv_at hl 1 rfl) ?_
        obtain ⟨b7, hf⟩ := px_ck_e hf
        refine ilR_9 X w b7 dX6_state_54 ?_
        refine lv_if_eq (tgt := 63) X.1 X.2.1 dX6_state_55 (by decide) (fun c8 => ?_) (fun c8 => ?_)
        · have hf := px_ip c8 hf
          refine lv_iconst (v := (0 : Int32)) X.1 X.2.1 dX6_state_63 (by decide) ?_
          refine lv_iadd X.1 X.2.1 dX6_state_64 ?_
          refine lv_goto (tgt := 69) X.1 X.2.1 dX6_state_65 (by decide) ?_
          cases hf
          exact px_retI X hr hlk w dX6_state_69
        · have hf := px_in c8 hf
          refine lv_bipush (v := (8 : Int32)) X.1 X.2.1 dX6_state_58 (by decide) ?_
          refine lv_goto (tgt := 64) X.1 X.2.1 dX6_state_60 (by decide) ?_
          refine lv_iadd X.1 X.2.1 dX6_state_64 ?_
          refine lv_goto (tgt := 69) X.1 X.2.1 dX6_state_65 (by decide) ?_
          cases hf
          exact px_retI X hr hlk w dX6_state_69
      · have hf := px_in c6 hf
        refine lv_iconst (v := (4 : Int32)) X.1 X.2.1 dX6_state_43 (by decide) ?_
        refine lv_goto (tgt := 48) X.1 X.2.1 dX6_state_44 (by decide) ?_
        refine lv_iadd X.1 X.2.1 dX6_state_48 ?_
        refine lv_aload_n X.1 X.2.1 dX6_state_49 rfl (lv_at hl 0 rfl) ?_
        refine gtR_0_10 X w dX6_state_50 ?_
        refine lv_iload_n X.1 X.2.1 dX6_state_53 rfl (lv_at hl 1 rfl) ?_
        obtain ⟨b9, hf⟩ := px_ck_e hf
        refine ilR_9 X w b9 dX6_state_54 ?_
        refine lv_if_eq (tgt := 63) X.1 X.2.1 dX6_state_55 (by decide) (fun c10 => ?_) (fun c10 => ?_)
        · have hf := px_ip c10 hf
          refine lv_iconst (v := (0 : Int32)) X.1 X.2.1 dX6_state_63 (by decide) ?_
          refine lv_iadd X.1 X.2.1 dX6_state_64 ?_
          refine lv_goto (tgt := 69) X.1 X.2.1 dX6_state_65 (by decide) ?_
          cases hf
          exact px_retI X hr hlk w dX6_state_69
        · have hf := px_in c10 hf
          refine lv_bipush (v := (8 : Int32)) X.1 X.2.1 dX6_state_58 (by decide) ?_
          refine lv_goto (tgt := 64) X.1 X.2.1 dX6_state_60 (by decide) ?_
          refine lv_iadd X.1 X.2.1 dX6_state_64 ?_
          refine lv_goto (tgt := 69) X.1 X.2.1 dX6_state_65 (by decide) ?_
          cases hf
          exact px_retI X hr hlk w dX6_state_69
  · have hf := px_in c1 hf
    refine lv_iload_n X.1 X.2.1 dX6_state_5 rfl (lv_at hl 1 rfl) ?_
    refine lv_aload_n X.1 X.2.1 dX6_state_6 rfl (lv_at hl 0 rfl) ?_
    refine gtR_0_6 X w dX6_state_7 ?_
    refine lv_icmp_lt (tgt := 17) X.1 X.2.1 dX6_state_10 (by decide) (fun c11 => ?_) (fun c11 => ?_)
    · have hf := px_ip c11 hf
      refine lv_iconst (v := (0 : Int32)) X.1 X.2.1 dX6_state_17 (by decide) ?_
      refine ptR_0_0 X w dX6_state_18 (fun H locs w => ?_)
      obtain ⟨M12, eM12, hf⟩ := px_bn_e hf
      rw [← eM12] at w
      refine lv_aload_n X.1 X.2.1 dX6_state_21 rfl (lv_at hl 0 rfl) ?_
      refine gtR_0_0 X w dX6_state_22 ?_
      refine lv_if_ne (tgt := 68) X.1 X.2.1 dX6_state_25 (by decide) (fun c13 => ?_) (fun c13 => ?_)
      · have hf := px_in c13 hf
        refine lv_iconst (v := (0 : Int32)) X.1 X.2.1 dX6_state_68 (by decide) ?_
        cases hf
        exact px_retI X hr hlk w dX6_state_69
      · have hf := px_ip c13 hf
        refine lv_aload_n X.1 X.2.1 dX6_state_28 rfl (lv_at hl 0 rfl) ?_
        refine gtR_0_7 X w dX6_state_29 ?_
        refine lv_iload_n X.1 X.2.1 dX6_state_32 rfl (lv_at hl 1 rfl) ?_
        obtain ⟨b14, hf⟩ := px_ck_e hf
        refine ilR_6 X w b14 dX6_state_33 ?_
        refine lv_aload_n X.1 X.2.1 dX6_state_34 rfl (lv_at hl 0 rfl) ?_
        refine gtR_0_9 X w dX6_state_35 ?_
        refine lv_iload_n X.1 X.2.1 dX6_state_38 rfl (lv_at hl 1 rfl) ?_
        obtain ⟨b15, hf⟩ := px_ck_e hf
        refine ilR_8 X w b15 dX6_state_39 ?_
        refine lv_if_eq (tgt := 47) X.1 X.2.1 dX6_state_40 (by decide) (fun c16 => ?_) (fun c16 => ?_)
        · have hf := px_ip c16 hf
          refine lv_iconst (v := (0 : Int32)) X.1 X.2.1 dX6_state_47 (by decide) ?_
          refine lv_iadd X.1 X.2.1 dX6_state_48 ?_
          refine lv_aload_n X.1 X.2.1 dX6_state_49 rfl (lv_at hl 0 rfl) ?_
          refine gtR_0_10 X w dX6_state_50 ?_
          refine lv_iload_n X.1 X.2.1 dX6_state_53 rfl (lv_at hl 1 rfl) ?_
          obtain ⟨b17, hf⟩ := px_ck_e hf
          refine ilR_9 X w b17 dX6_state_54 ?_
          refine lv_if_eq (tgt := 63) X.1 X.2.1 dX6_state_55 (by decide) (fun c18 => ?_) (fun c18 => ?_)
          · have hf := px_ip c18 hf
            refine lv_iconst (v := (0 : Int32)) X.1 X.2.1 dX6_state_63 (by decide) ?_
            refine lv_iadd X.1 X.2.1 dX6_state_64 ?_
            refine lv_goto (tgt := 69) X.1 X.2.1 dX6_state_65 (by decide) ?_
            cases hf
            exact px_retI X hr hlk w dX6_state_69
          · have hf := px_in c18 hf
            refine lv_bipush (v := (8 : Int32)) X.1 X.2.1 dX6_state_58 (by decide) ?_
            refine lv_goto (tgt := 64) X.1 X.2.1 dX6_state_60 (by decide) ?_
            refine lv_iadd X.1 X.2.1 dX6_state_64 ?_
            refine lv_goto (tgt := 69) X.1 X.2.1 dX6_state_65 (by decide) ?_
            cases hf
            exact px_retI X hr hlk w dX6_state_69
        · have hf := px_in c16 hf
          refine lv_iconst (v := (4 : Int32)) X.1 X.2.1 dX6_state_43 (by decide) ?_
          refine lv_goto (tgt := 48) X.1 X.2.1 dX6_state_44 (by decide) ?_
          refine lv_iadd X.1 X.2.1 dX6_state_48 ?_
          refine lv_aload_n X.1 X.2.1 dX6_state_49 rfl (lv_at hl 0 rfl) ?_
          refine gtR_0_10 X w dX6_state_50 ?_
          refine lv_iload_n X.1 X.2.1 dX6_state_53 rfl (lv_at hl 1 rfl) ?_
          obtain ⟨b19, hf⟩ := px_ck_e hf
          refine ilR_9 X w b19 dX6_state_54 ?_
          refine lv_if_eq (tgt := 63) X.1 X.2.1 dX6_state_55 (by decide) (fun c20 => ?_) (fun c20 => ?_)
          · have hf := px_ip c20 hf
            refine lv_iconst (v := (0 : Int32)) X.1 X.2.1 dX6_state_63 (by decide) ?_
            refine lv_iadd X.1 X.2.1 dX6_state_64 ?_
            refine lv_goto (tgt := 69) X.1 X.2.1 dX6_state_65 (by decide) ?_
            cases hf
            exact px_retI X hr hlk w dX6_state_69
          · have hf := px_in c20 hf
            refine lv_bipush (v := (8 : Int32)) X.1 X.2.1 dX6_state_58 (by decide) ?_
            refine lv_goto (tgt := 64) X.1 X.2.1 dX6_state_60 (by decide) ?_
            refine lv_iadd X.1 X.2.1 dX6_state_64 ?_
            refine lv_goto (tgt := 69) X.1 X.2.1 dX6_state_65 (by decide) ?_
            cases hf
            exact px_retI X hr hlk w dX6_state_69
    · have hf := px_in c11 hf
      refine lv_iconst (v := (1 : Int32)) X.1 X.2.1 dX6_state_13 (by decide) ?_
      refine lv_goto (tgt := 18) X.1 X.2.1 dX6_state_14 (by decide) ?_
      refine ptR_0_0 X w dX6_state_18 (fun H locs w => ?_)
      obtain ⟨M21, eM21, hf⟩ := px_bn_e hf
      rw [← eM21] at w
      refine lv_aload_n X.1 X.2.1 dX6_state_21 rfl (lv_at hl 0 rfl) ?_
      refine gtR_0_0 X w dX6_state_22 ?_
      refine lv_if_ne (tgt := 68) X.1 X.2.1 dX6_state_25 (by decide) (fun c22 => ?_) (fun c22 => ?_)
      · have hf := px_in c22 hf
        refine lv_iconst (v := (0 : Int32)) X.1 X.2.1 dX6_state_68 (by decide) ?_
        cases hf
        exact px_retI X hr hlk w dX6_state_69
      · have hf := px_ip c22 hf
        refine lv_aload_n X.1 X.2.1 dX6_state_28 rfl (lv_at hl 0 rfl) ?_
        refine gtR_0_7 X w dX6_state_29 ?_
        refine lv_iload_n X.1 X.2.1 dX6_state_32 rfl (lv_at hl 1 rfl) ?_
        obtain ⟨b23, hf⟩ := px_ck_e hf
        refine ilR_6 X w b23 dX6_state_33 ?_
        refine lv_aload_n X.1 X.2.1 dX6_state_34 rfl (lv_at hl 0 rfl) ?_
        refine gtR_0_9 X w dX6_state_35 ?_
        refine lv_iload_n X.1 X.2.1 dX6_state_38 rfl (lv_at hl 1 rfl) ?_
        obtain ⟨b24, hf⟩ := px_ck_e hf
        refine ilR_8 X w b24 dX6_state_39 ?_
        refine lv_if_eq (tgt := 47) X.1 X.2.1 dX6_state_40 (by decide) (fun c25 => ?_) (fun c25 => ?_)
        · have hf := px_ip c25 hf
          refine lv_iconst (v := (0 : Int32)) X.1 X.2.1 dX6_state_47 (by decide) ?_
          refine lv_iadd X.1 X.2.1 dX6_state_48 ?_
          refine lv_aload_n X.1 X.2.1 dX6_state_49 rfl (lv_at hl 0 rfl) ?_
          refine gtR_0_10 X w dX6_state_50 ?_
          refine lv_iload_n X.1 X.2.1 dX6_state_53 rfl (lv_at hl 1 rfl) ?_
          obtain ⟨b26, hf⟩ := px_ck_e hf
          refine ilR_9 X w b26 dX6_state_54 ?_
          refine lv_if_eq (tgt := 63) X.1 X.2.1 dX6_state_55 (by decide) (fun c27 => ?_) (fun c27 => ?_)
          · have hf := px_ip c27 hf
            refine lv_iconst (v := (0 : Int32)) X.1 X.2.1 dX6_state_63 (by decide) ?_
            refine lv_iadd X.1 X.2.1 dX6_state_64 ?_
            refine lv_goto (tgt := 69) X.1 X.2.1 dX6_state_65 (by decide) ?_
            cases hf
            exact px_retI X hr hlk w dX6_state_69
          · have hf := px_in c27 hf
            refine lv_bipush (v := (8 : Int32)) X.1 X.2.1 dX6_state_58 (by decide) ?_
            refine lv_goto (tgt := 64) X.1 X.2.1 dX6_state_60 (by decide) ?_
            refine lv_iadd X.1 X.2.1 dX6_state_64 ?_
            refine lv_goto (tgt := 69) X.1 X.2.1 dX6_state_65 (by decide) ?_
            cases hf
            exact px_retI X hr hlk w dX6_state_69
        · have hf := px_in c25 hf
          refine lv_iconst (v := (4 : Int32)) X.1 X.2.1 dX6_state_43 (by decide) ?_
          refine lv_goto (tgt := 48) X.1 X.2.1 dX6_state_44 (by decide) ?_
          refine lv_iadd X.1 X.2.1 dX6_state_48 ?_
          refine lv_aload_n X.1 X.2.1 dX6_state_49 rfl (lv_at hl 0 rfl) ?_
          refine gtR_0_10 X w dX6_state_50 ?_
          refine lv_iload_n X.1 X.2.1 dX6_state_53 rfl (lv_at hl 1 rfl) ?_
          obtain ⟨b28, hf⟩ := px_ck_e hf
          refine ilR_9 X w b28 dX6_state_54 ?_
          refine lv_if_eq (tgt := 63) X.1 X.2.1 dX6_state_55 (by decide) (fun c29 => ?_) (fun c29 => ?_)
          · have hf := px_ip c29 hf
            refine lv_iconst (v := (0 : Int32)) X.1 X.2.1 dX6_state_63 (by decide) ?_
            refine lv_iadd X.1 X.2.1 dX6_state_64 ?_
            refine lv_goto (tgt := 69) X.1 X.2.1 dX6_state_65 (by decide) ?_
            cases hf
            exact px_retI X hr hlk w dX6_state_69
          · have hf := px_in c29 hf
            refine lv_bipush (v := (8 : Int32)) X.1 X.2.1 dX6_state_58 (by decide) ?_
            refine lv_goto (tgt := 64) X.1 X.2.1 dX6_state_60 (by decide) ?_
            refine lv_iadd X.1 X.2.1 dX6_state_64 ?_
            refine lv_goto (tgt := 69) X.1 X.2.1 dX6_state_65 (by decide) ?_
            cases hf
            exact px_retI X hr hlk w dX6_state_69
def fR_M_value (M : px_M) (p1 : Int32) : Option (Int32 × px_M) := (if p1 < 0 then px_bn (px_up M 0 0 (1 : Int32)) (fun M2 => (if (M2 0 0) = 0 then px_ck p1 40 ((if (M2 6 p1.toNatClampNeg) = 0 then px_bn (px_up M2 0 0 (2 : Int32)) (fun M9 => (if (M9 0 0) = 0 then px_ck p1 40 (some ((M9 7 p1.toNatClampNeg), M9)) else some ((0 : Int32), M9))) else px_bn (px_up M2 0 0 (0 : Int32)) (fun M6 => (if (M6 0 0) = 0 then px_ck p1 40 (some ((M6 7 p1.toNatClampNeg), M6)) else some ((0 : Int32), M6))))) else some ((0 : Int32), M2))) else (if p1 < (M 0 6) then px_bn (px_up M 0 0 (0 : Int32)) (fun M13 => (if (M13 0 0) = 0 then px_ck p1 40 ((if (M13 6 p1.toNatClampNeg) = 0 then px_bn (px_up M13 0 0 (2 : Int32)) (fun M20 => (if (M20 0 0) = 0 then px_ck p1 40 (some ((M20 7 p1.toNatClampNeg), M20)) else some ((0 : Int32), M20))) else px_bn (px_up M13 0 0 (0 : Int32)) (fun M17 => (if (M17 0 0) = 0 then px_ck p1 40 (some ((M17 7 p1.toNatClampNeg), M17)) else some ((0 : Int32), M17))))) else some ((0 : Int32), M13))) else px_bn (px_up M 0 0 (1 : Int32)) (fun M23 => (if (M23 0 0) = 0 then px_ck p1 40 ((if (M23 6 p1.toNatClampNeg) = 0 then px_bn (px_up M23 0 0 (2 : Int32)) (fun M30 => (if (M30 0 0) = 0 then px_ck p1 40 (some ((M30 7 p1.toNatClampNeg), M30)) else some ((0 : Int32), M30))) else px_bn (px_up M23 0 0 (0 : Int32)) (fun M27 => (if (M27 0 0) = 0 then px_ck p1 40 (some ((M27 7 p1.toNatClampNeg), M27)) else some ((0 : Int32), M27))))) else some ((0 : Int32), M23)))))
set_option maxHeartbeats 4000000 in
set_option maxRecDepth 100000 in
theorem cR_M_value (l : Launch) (D : va_G) (cs : Nat → ClassId) (ad : Nat → Nat) {M : px_M} {p1 : Int32} {r : Int32} {M' : px_M} (hf : fR_M_value M p1 = some (r, M')) : px_mI l D (tyR cs) (wR cs ad) yX6_value cX6_value 2 (some .int) 0 [.ref (ad 0), .int p1] M r M' := by
  refine px_ofI (by decide +kernel) (Nat.le_of_ble_eq_true rfl) ?_
  intro p e s m below meth c A ls X hr hlk hml w hl
  have hl : lv_has ls 2 [(0, .ref (ad 0)), (1, .int p1)] := hl
  unfold fR_M_value at hf
  refine lv_aload_n X.1 X.2.1 dX6_value_0 rfl (lv_at hl 0 rfl) ?_
  refine lv_iload_n X.1 X.2.1 dX6_value_1 rfl (lv_at hl 1 rfl) ?_
  refine lv_if_lt (tgt := 13) X.1 X.2.1 dX6_value_2 (by decide) (fun c1 => ?_) (fun c1 => ?_)
  · have hf := px_ip c1 hf
    refine lv_iconst (v := (1 : Int32)) X.1 X.2.1 dX6_value_13 (by decide) ?_
    refine lv_goto (tgt := 18) X.1 X.2.1 dX6_value_14 (by decide) ?_
    refine ptR_0_0 X w dX6_value_18 (fun H locs w => ?_)
    obtain ⟨M2, eM2, hf⟩ := px_bn_e hf
    rw [← eM2] at w
    refine lv_aload_n X.1 X.2.1 dX6_value_21 rfl (lv_at hl 0 rfl) ?_
    refine gtR_0_0 X w dX6_value_22 ?_
    refine lv_if_eq (tgt := 30) X.1 X.2.1 dX6_value_25 (by decide) (fun c3 => ?_) (fun c3 => ?_)
    · have hf := px_ip c3 hf
      refine lv_aload_n X.1 X.2.1 dX6_value_30 rfl (lv_at hl 0 rfl) ?_
      refine lv_aload_n X.1 X.2.1 dX6_value_31 rfl (lv_at hl 0 rfl) ?_
      refine gtR_0_7 X w dX6_value_32 ?_
      refine lv_iload_n X.1 X.2.1 dX6_value_35 rfl (lv_at hl 1 rfl) ?_
      obtain ⟨b4, hf⟩ := px_ck_e hf
      refine ilR_6 X w b4 dX6_value_36 ?_
      refine lv_if_ne (tgt := 44) X.1 X.2.1 dX6_value_37 (by decide) (fun c5 => ?_) (fun c5 => ?_)
      · have hf := px_in c5 hf
        refine lv_iconst (v := (0 : Int32)) X.1 X.2.1 dX6_value_44 (by decide) ?_
        refine ptR_0_0 X w dX6_value_45 (fun H locs w => ?_)
        obtain ⟨M6, eM6, hf⟩ := px_bn_e hf
        rw [← eM6] at w
        refine lv_aload_n X.1 X.2.1 dX6_value_48 rfl (lv_at hl 0 rfl) ?_
        refine gtR_0_0 X w dX6_value_49 ?_
        refine lv_if_ne (tgt := 64) X.1 X.2.1 dX6_value_52 (by decide) (fun c7 => ?_) (fun c7 => ?_)
        · have hf := px_in c7 hf
          refine lv_iconst (v := (0 : Int32)) X.1 X.2.1 dX6_value_64 (by decide) ?_
          cases hf
          exact px_retI X hr hlk w dX6_value_65
        · have hf := px_ip c7 hf
          refine lv_aload_n X.1 X.2.1 dX6_value_55 rfl (lv_at hl 0 rfl) ?_
          refine gtR_0_8 X w dX6_value_56 ?_
          refine lv_iload_n X.1 X.2.1 dX6_value_59 rfl (lv_at hl 1 rfl) ?_
          obtain ⟨b8, hf⟩ := px_ck_e hf
          refine ilR_7 X w b8 dX6_value_60 ?_
          refine lv_goto (tgt := 65) X.1 X.2.1 dX6_value_61 (by decide) ?_
          cases hf
          exact px_retI X hr hlk w dX6_value_65
      · have hf := px_ip c5 hf
        refine lv_iconst (v := (2 : Int32)) X.1 X.2.1 dX6_value_40 (by decide) ?_
        refine lv_goto (tgt := 45) X.1 X.2.1 dX6_value_41 (by decide) ?_
        refine ptR_0_0 X w dX6_value_45 (fun H locs w => ?_)
        obtain ⟨M9, eM9, hf⟩ := px_bn_e hf
        rw [← eM9] at w
        refine lv_aload_n X.1 X.2.1 dX6_value_48 rfl (lv_at hl 0 rfl) ?_
        refine gtR_0_0 X w dX6_value_49 ?_
        refine lv_if_ne (tgt := 64) X.1 X.2.1 dX6_value_52 (by decide) (fun c10 => ?_) (fun c10 => ?_)
        · have hf := px_in c10 hf
          refine lv_iconst (v := (0 : Int32)) X.1 X.2.1 dX6_value_64 (by decide) ?_
          cases hf
          exact px_retI X hr hlk w dX6_value_65
        · have hf := px_ip c10 hf
          refine lv_aload_n X.1 X.2.1 dX6_value_55 rfl (lv_at hl 0 rfl) ?_
          refine gtR_0_8 X w dX6_value_56 ?_
          refine lv_iload_n X.1 X.2.1 dX6_value_59 rfl (lv_at hl 1 rfl) ?_
          obtain ⟨b11, hf⟩ := px_ck_e hf
          refine ilR_7 X w b11 dX6_value_60 ?_
          refine lv_goto (tgt := 65) X.1 X.2.1 dX6_value_61 (by decide) ?_
          cases hf
          exact px_retI X hr hlk w dX6_value_65
    · have hf := px_in c3 hf
      refine lv_iconst (v := (0 : Int32)) X.1 X.2.1 dX6_value_28 (by decide) ?_
      cases hf
      exact px_retI X hr hlk w dX6_value_29
  · have hf := px_in c1 hf
    refine lv_iload_n X.1 X.2.1 dX6_value_5 rfl (lv_at hl 1 rfl) ?_
    refine lv_aload_n X.1 X.2.1 dX6_value_6 rfl (lv_at hl 0 rfl) ?_
    refine gtR_0_6 X w dX6_value_7 ?_
    refine lv_icmp_lt (tgt := 17) X.1 X.2.1 dX6_value_10 (by decide) (fun c12 => ?_) (fun c12 => ?_)
    · have hf := px_ip c12 hf
      refine lv_iconst (v := (0 : Int32)) X.1 X.2.1 dX6_value_17 (by decide) ?_
      refine ptR_0_0 X w dX6_value_18 (fun H locs w => ?_)
      obtain ⟨M13, eM13, hf⟩ := px_bn_e hf
      rw [← eM13] at w
      refine lv_aload_n X.1 X.2.1 dX6_value_21 rfl (lv_at hl 0 rfl) ?_
      refine gtR_0_0 X w dX6_value_22 ?_
      refine lv_if_eq (tgt := 30) X.1 X.2.1 dX6_value_25 (by decide) (fun c14 => ?_) (fun c14 => ?_)
      · have hf := px_ip c14 hf
        refine lv_aload_n X.1 X.2.1 dX6_value_30 rfl (lv_at hl 0 rfl) ?_
        refine lv_aload_n X.1 X.2.1 dX6_value_31 rfl (lv_at hl 0 rfl) ?_
        refine gtR_0_7 X w dX6_value_32 ?_
        refine lv_iload_n X.1 X.2.1 dX6_value_35 rfl (lv_at hl 1 rfl) ?_
        obtain ⟨b15, hf⟩ := px_ck_e hf
        refine ilR_6 X w b15 dX6_value_36 ?_
        refine lv_if_ne (tgt := 44) X.1 X.2.1 dX6_value_37 (by decide) (fun c16 => ?_) (fun c16 => ?_)
        · have hf := px_in c16 hf
          refine lv_iconst (v := (0 : Int32)) X.1 X.2.1 dX6_value_44 (by decide) ?_
          refine ptR_0_0 X w dX6_value_45 (fun H locs w => ?_)
          obtain ⟨M17, eM17, hf⟩ := px_bn_e hf
          rw [← eM17] at w
          refine lv_aload_n X.1 X.2.1 dX6_value_48 rfl (lv_at hl 0 rfl) ?_
          refine gtR_0_0 X w dX6_value_49 ?_
          refine lv_if_ne (tgt := 64) X.1 X.2.1 dX6_value_52 (by decide) (fun c18 => ?_) (fun c18 => ?_)
          · have hf := px_in c18 hf
            refine lv_iconst (v := (0 : Int32)) X.1 X.2.1 dX6_value_64 (by decide) ?_
            cases hf
            exact px_retI X hr hlk w dX6_value_65
          · have hf := px_ip c18 hf
            refine lv_aload_n X.1 X.2.1 dX6_value_55 rfl (lv_at hl 0 rfl) ?_
            refine gtR_0_8 X w dX6_value_56 ?_
            refine lv_iload_n X.1 X.2.1 dX6_value_59 rfl (lv_at hl 1 rfl) ?_
            obtain ⟨b19, hf⟩ := px_ck_e hf
            refine ilR_7 X w b19 dX6_value_60 ?_
            refine lv_goto (tgt := 65) X.1 X.2.1 dX6_value_61 (by decide) ?_
            cases hf
            exact px_retI X hr hlk w dX6_value_65
        · have hf := px_ip c16 hf
          refine lv_iconst (v := (2 : Int32)) X.1 X.2.1 dX6_value_40 (by decide) ?_
          refine lv_goto (tgt := 45) X.1 X.2.1 dX6_value_41 (by decide) ?_
          refine ptR_0_0 X w dX6_value_45 (fun H locs w => ?_)
          obtain ⟨M20, eM20, hf⟩ := px_bn_e hf
          rw [← eM20] at w
          refine lv_aload_n X.1 X.2.1 dX6_value_48 rfl (lv_at hl 0 rfl) ?_
          refine gtR_0_0 X w dX6_value_49 ?_
          refine lv_if_ne (tgt := 64) X.1 X.2.1 dX6_value_52 (by decide) (fun c21 => ?_) (fun c21 => ?_)
          · have hf := px_in c21 hf
            refine lv_iconst (v := (0 : Int32)) X.1 X.2.1 dX6_value_64 (by decide) ?_
            cases hf
            exact px_retI X hr hlk w dX6_value_65
          · have hf := px_ip c21 hf
            refine lv_aload_n X.1 X.2.1 dX6_value_55 rfl (lv_at hl 0 rfl) ?_
            refine gtR_0_8 X w dX6_value_56 ?_
            refine lv_iload_n X.1 X.2.1 dX6_value_59 rfl (lv_at hl 1 rfl) ?_
            obtain ⟨b22, hf⟩ := px_ck_e hf
            refine ilR_7 X w b22 dX6_value_60 ?_
            refine lv_goto (tgt := 65) X.1 X.2.1 dX6_value_61 (by decide) ?_
            cases hf
            exact px_retI X hr hlk w dX6_value_65
      · have hf := px_in c14 hf
        refine lv_iconst (v := (0 : Int32)) X.1 X.2.1 dX6_value_28 (by decide) ?_
        cases hf
        exact px_retI X hr hlk w dX6_value_29
    · have hf := px_in c12 hf
      refine lv_iconst (v := (1 : Int32)) X.1 X.2.1 dX6_value_13 (by decide) ?_
      refine lv_goto (tgt := 18) X.1 X.2.1 dX6_value_14 (by decide) ?_
      refine ptR_0_0 X w dX6_value_18 (fun H locs w => ?_)
      obtain ⟨M23, eM23, hf⟩ := px_bn_e hf
      rw [← eM23] at w
      refine lv_aload_n X.1 X.2.1 dX6_value_21 rfl (lv_at hl 0 rfl) ?_
      refine gtR_0_0 X w dX6_value_22 ?_
      refine lv_if_eq (tgt := 30) X.1 X.2.1 dX6_value_25 (by decide) (fun c24 => ?_) (fun c24 => ?_)
      · have hf := px_ip c24 hf
        refine lv_aload_n X.1 X.2.1 dX6_value_30 rfl (lv_at hl 0 rfl) ?_
        refine lv_aload_n X.1 X.2.1 dX6_value_31 rfl (lv_at hl 0 rfl) ?_
        refine gtR_0_7 X w dX6_value_32 ?_
        refine lv_iload_n X.1 X.2.1 dX6_value_35 rfl (lv_at hl 1 rfl) ?_
        obtain ⟨b25, hf⟩ := px_ck_e hf
        refine ilR_6 X w b25 dX6_value_36 ?_
        refine lv_if_ne (tgt := 44) X.1 X.2.1 dX6_value_37 (by decide) (fun c26 => ?_) (fun c26 => ?_)
        · have hf := px_in c26 hf
          refine lv_iconst (v := (0 : Int32)) X.1 X.2.1 dX6_value_44 (by decide) ?_
          refine ptR_0_0 X w dX6_value_45 (fun H locs w => ?_)
          obtain ⟨M27, eM27, hf⟩ := px_bn_e hf
          rw [← eM27] at w
          refine lv_aload_n X.1 X.2.1 dX6_value_48 rfl (lv_at hl 0 rfl) ?_
          refine gtR_0_0 X w dX6_value_49 ?_
          refine lv_if_ne (tgt := 64) X.1 X.2.1 dX6_value_52 (by decide) (fun c28 => ?_) (fun c28 => ?_)
          · have hf := px_in c28 hf
            refine lv_iconst (v := (0 : Int32)) X.1 X.2.1 dX6_value_64 (by decide) ?_
            cases hf
            exact px_retI X hr hlk w dX6_value_65
          · have hf := px_ip c28 hf
            refine lv_aload_n X.1 X.2.1 dX6_value_55 rfl (lv_at hl 0 rfl) ?_
            refine gtR_0_8 X w dX6_value_56 ?_
            refine lv_iload_n X.1 X.2.1 dX6_value_59 rfl (lv_at hl 1 rfl) ?_
            obtain ⟨b29, hf⟩ := px_ck_e hf
            refine ilR_7 X w b29 dX6_value_60 ?_
            refine lv_goto (tgt := 65) X.1 X.2.1 dX6_value_61 (by decide) ?_
            cases hf
            exact px_retI X hr hlk w dX6_value_65
        · have hf := px_ip c26 hf
          refine lv_iconst (v := (2 : Int32)) X.1 X.2.1 dX6_value_40 (by decide) ?_
          refine lv_goto (tgt := 45) X.1 X.2.1 dX6_value_41 (by decide) ?_
          refine ptR_0_0 X w dX6_value_45 (fun H locs w => ?_)
          obtain ⟨M30, eM30, hf⟩ := px_bn_e hf
          rw [← eM30] at w
          refine lv_aload_n X.1 X.2.1 dX6_value_48 rfl (lv_at hl 0 rfl) ?_
          refine gtR_0_0 X w dX6_value_49 ?_
          refine lv_if_ne (tgt := 64) X.1 X.2.1 dX6_value_52 (by decide) (fun c31 => ?_) (fun c31 => ?_)
          · have hf := px_in c31 hf
            refine lv_iconst (v := (0 : Int32)) X.1 X.2.1 dX6_value_64 (by decide) ?_
            cases hf
            exact px_retI X hr hlk w dX6_value_65
          · have hf := px_ip c31 hf
            refine lv_aload_n X.1 X.2.1 dX6_value_55 rfl (lv_at hl 0 rfl) ?_
            refine gtR_0_8 X w dX6_value_56 ?_
            refine lv_iload_n X.1 X.2.1 dX6_value_59 rfl (lv_at hl 1 rfl) ?_
            obtain ⟨b32, hf⟩ := px_ck_e hf
            refine ilR_7 X w b32 dX6_value_60 ?_
            refine lv_goto (tgt := 65) X.1 X.2.1 dX6_value_61 (by decide) ?_
            cases hf
            exact px_retI X hr hlk w dX6_value_65
      · have hf := px_in c24 hf
        refine lv_iconst (v := (0 : Int32)) X.1 X.2.1 dX6_value_28 (by decide) ?_
        cases hf
        exact px_retI X hr hlk w dX6_value_29
def fR_M_count (M : px_M) (p1 : Int32) : Option (Int32 × px_M) := px_bq (fR_M_outside M p1 (0 : Int32) (6 : Int32)) (fun r2 => (if r2 = 0 then px_bn (px_up M 0 0 (0 : Int32)) (fun M4 => (if p1 = (0 : Int32) then some ((M4 0 6), M4) else (if p1 = (1 : Int32) then some ((M4 0 25), M4) else (if p1 = (2 : Int32) then some ((M4 0 21), M4) else (if p1 = (3 : Int32) then some ((M4 0 32), M4) else (if p1 = (4 : Int32) then some ((M4 0 43), M4) else (if p1 = (5 : Int32) then some ((M4 0 48), M4) else (if p1 = (6 : Int32) then some ((M4 0 50), M4) else some ((0 : Int32), M4))))))))) else px_bn (px_up M 0 0 (1 : Int32)) (fun M12 => (if p1 = (0 : Int32) then some ((M12 0 6), M12) else (if p1 = (1 : Int32) then some ((M12 0 25), M12) else (if p1 = (2 : Int32) then some ((M12 0 21), M12) else (if p1 = (3 : Int32) then some ((M12 0 32), M12) else (if p1 = (4 : Int32) then some ((M12 0 43), M12) else (if p1 = (5 : Int32) then some ((M12 0 48), M12) else (if p1 = (6 : Int32) then some ((M12 0 50), M12) else some ((0 : Int32), M12)))))))))))
set_option maxHeartbeats 4000000 in
set_option maxRecDepth 100000 in
theorem cR_M_count (l : Launch) (D : va_G) (cs : Nat → ClassId) (ad : Nat → Nat) {M : px_M} {p1 : Int32} {r : Int32} {M' : px_M} (hf : fR_M_count M p1 = some (r, M')) : px_mI l D (tyR cs) (wR cs ad) yX6_count cX6_count 2 (some .int) 1 [.ref (ad 0), .int p1] M r M' := by
  refine px_ofI (by decide +kernel) (Nat.le_of_ble_eq_true rfl) ?_
  intro p e s m below meth c A ls X hr hlk hml w hl
  have hl : lv_has ls 2 [(0, .ref (ad 0)), (1, .int p1)] := hl
  unfold fR_M_count at hf
  refine lv_aload_n X.1 X.2.1 dX6_count_0 rfl (lv_at hl 0 rfl) ?_
  refine lv_aload_n X.1 X.2.1 dX6_count_1 rfl (lv_at hl 0 rfl) ?_
  refine lv_iload_n X.1 X.2.1 dX6_count_2 rfl (lv_at hl 1 rfl) ?_
  refine lv_iconst (v := (0 : Int32)) X.1 X.2.1 dX6_count_3 (by decide) ?_
  refine lv_bipush (v := (6 : Int32)) X.1 X.2.1 dX6_count_4 (by decide) ?_
  obtain ⟨r2, e1, hf⟩ := px_bq_e hf
  refine px_cI (As := [.int p1, .int (0 : Int32), .int (6 : Int32)]) (rest := [.ref (ad 0)]) X hml hl w (cR_M_outside l D cs ad e1) lk_6_141 (by decide) (rcR_0 X.2.2.2.2 w) rfl (Nat.le_of_ble_eq_true rfl) dX6_count_6 (fun H locs w => ?_)
  refine lv_if_eq (tgt := 16) X.1 X.2.1 dX6_count_9 (by decide) (fun c3 => ?_) (fun c3 => ?_)
  · have hf := px_ip c3 hf
    refine lv_iconst (v := (0 : Int32)) X.1 X.2.1 dX6_count_16 (by decide) ?_
    refine ptR_0_0 X w dX6_count_17 (fun H locs w => ?_)
    obtain ⟨M4, eM4, hf⟩ := px_bn_e hf
    rw [← eM4] at w
    refine lv_iload_n X.1 X.2.1 dX6_count_20 rfl (lv_at hl 1 rfl) ?_
    by_cases c5 : p1 = (0 : Int32)
    · have hf := px_ip c5 hf
      refine lv_tableIn (tgt := 64) X.1 X.2.1 dX6_count_21 (by rw [c5]; decide) (by rw [c5]; decide) (by rw [c5]; rfl) (by decide) ?_
      refine lv_aload_n X.1 X.2.1 dX6_count_64 rfl (lv_at hl 0 rfl) ?_
      refine gtR_0_6 X w dX6_count_65 ?_
      cases hf
      exact px_retI X hr hlk w dX6_count_68
    · have hf := px_in c5 hf
      by_cases c6 : p1 = (1 : Int32)
      · have hf := px_ip c6 hf
        refine lv_tableIn (tgt := 69) X.1 X.2.1 dX6_count_21 (by rw [c6]; decide) (by rw [c6]; decide) (by rw [c6]; rfl) (by decide) ?_
        refine lv_aload_n X.1 X.2.1 dX6_count_69 rfl (lv_at hl 0 rfl) ?_
        refine gtR_0_25 X w dX6_count_70 ?_
        cases hf
        exact px_retI X hr hlk w dX6_count_73
      · have hf := px_in c6 hf
        by_cases c7 : p1 = (2 : Int32)
        · have hf := px_ip c7 hf
          refine lv_tableIn (tgt := 74) X.1 X.2.1 dX6_count_21 (by rw [c7]; decide) (by rw [c7]; decide) (by rw [c7]; rfl) (by decide) ?_
          refine lv_aload_n X.1 X.2.1 dX6_count_74 rfl (lv_at hl 0 rfl) ?_
          refine gtR_0_21 X w dX6_count_75 ?_
          cases hf
          exact px_retI X hr hlk w dX6_count_78
        · have hf := px_in c7 hf
          by_cases c8 : p1 = (3 : Int32)
          · have hf := px_ip c8 hf
            refine lv_tableIn (tgt := 79) X.1 X.2.1 dX6_count_21 (by rw [c8]; decide) (by rw [c8]; decide) (by rw [c8]; rfl) (by decide) ?_
            refine lv_aload_n X.1 X.2.1 dX6_count_79 rfl (lv_at hl 0 rfl) ?_
            refine gtR_0_32 X w dX6_count_80 ?_
            cases hf
            exact px_retI X hr hlk w dX6_count_83
          · have hf := px_in c8 hf
            by_cases c9 : p1 = (4 : Int32)
            · have hf := px_ip c9 hf
              refine lv_tableIn (tgt := 84) X.1 X.2.1 dX6_count_21 (by rw [c9]; decide) (by rw [c9]; decide) (by rw [c9]; rfl) (by decide) ?_
              refine lv_aload_n X.1 X.2.1 dX6_count_84 rfl (lv_at hl 0 rfl) ?_
              refine gtR_0_43 X w dX6_count_85 ?_
              cases hf
              exact px_retI X hr hlk w dX6_count_88
            · have hf := px_in c9 hf
              by_cases c10 : p1 = (5 : Int32)
              · have hf := px_ip c10 hf
                refine lv_tableIn (tgt := 89) X.1 X.2.1 dX6_count_21 (by rw [c10]; decide) (by rw [c10]; decide) (by rw [c10]; rfl) (by decide) ?_
                refine lv_aload_n X.1 X.2.1 dX6_count_89 rfl (lv_at hl 0 rfl) ?_
                refine gtR_0_48 X w dX6_count_90 ?_
                cases hf
                exact px_retI X hr hlk w dX6_count_93
              · have hf := px_in c10 hf
                by_cases c11 : p1 = (6 : Int32)
                · have hf := px_ip c11 hf
                  refine lv_tableIn (tgt := 94) X.1 X.2.1 dX6_count_21 (by rw [c11]; decide) (by rw [c11]; decide) (by rw [c11]; rfl) (by decide) ?_
                  refine lv_aload_n X.1 X.2.1 dX6_count_94 rfl (lv_at hl 0 rfl) ?_
                  refine gtR_0_50 X w dX6_count_95 ?_
                  cases hf
                  exact px_retI X hr hlk w dX6_count_98
                · have hf := px_in c11 hf
                  refine lv_tableOut (tgt := 99) X.1 X.2.1 dX6_count_21 (by have := px_ne (v := 0) (by decide) c5; have := px_ne (v := 1) (by decide) c6; have := px_ne (v := 2) (by decide) c7; have := px_ne (v := 3) (by decide) c8; have := px_ne (v := 4) (by decide) c9; have := px_ne (v := 5) (by decide) c10; have := px_ne (v := 6) (by decide) c11; omega) (by decide) ?_
                  refine lv_iconst (v := (0 : Int32)) X.1 X.2.1 dX6_count_99 (by decide) ?_
                  cases hf
                  exact px_retI X hr hlk w dX6_count_100
  · have hf := px_in c3 hf
    refine lv_iconst (v := (1 : Int32)) X.1 X.2.1 dX6_count_12 (by decide) ?_
    refine lv_goto (tgt := 17) X.1 X.2.1 dX6_count_13 (by decide) ?_
    refine ptR_0_0 X w dX6_count_17 (fun H locs w => ?_)
    obtain ⟨M12, eM12, hf⟩ := px_bn_e hf
    rw [← eM12] at w
    refine lv_iload_n X.1 X.2.1 dX6_count_20 rfl (lv_at hl 1 rfl) ?_
    by_cases c13 : p1 = (0 : Int32)
    · have hf := px_ip c13 hf
      refine lv_tableIn (tgt := 64) X.1 X.2.1 dX6_count_21 (by rw [c13]; decide) (by rw [c13]; decide) (by rw [c13]; rfl) (by decide) ?_
      refine lv_aload_n X.1 X.2.1 dX6_count_64 rfl (lv_at hl 0 rfl) ?_
      refine gtR_0_6 X w dX6_count_65 ?_
      cases hf
      exact px_retI X hr hlk w dX6_count_68
    · have hf := px_in c13 hf
      by_cases c14 : p1 = (1 : Int32)
      · have hf := px_ip c14 hf
        refine lv_tableIn (tgt := 69) X.1 X.2.1 dX6_count_21 (by rw [c14]; decide) (by rw [c14]; decide) (by rw [c14]; rfl) (by decide) ?_
        refine lv_aload_n X.1 X.2.1 dX6_count_69 rfl (lv_at hl 0 rfl) ?_
        refine gtR_0_25 X w dX6_count_70 ?_
        cases hf
        exact px_retI X hr hlk w dX6_count_73
      · have hf := px_in c14 hf
        by_cases c15 : p1 = (2 : Int32)
        · have hf := px_ip c15 hf
          refine lv_tableIn (tgt := 74) X.1 X.2.1 dX6_count_21 (by rw [c15]; decide) (by rw [c15]; decide) (by rw [c15]; rfl) (by decide) ?_
          refine lv_aload_n X.1 X.2.1 dX6_count_74 rfl (lv_at hl 0 rfl) ?_
          refine gtR_0_21 X w dX6_count_75 ?_
          cases hf
          exact px_retI X hr hlk w dX6_count_78
        · have hf := px_in c15 hf
          by_cases c16 : p1 = (3 : Int32)
          · have hf := px_ip c16 hf
            refine lv_tableIn (tgt := 79) X.1 X.2.1 dX6_count_21 (by rw [c16]; decide) (by rw [c16]; decide) (by rw [c16]; rfl) (by decide) ?_
            refine lv_aload_n X.1 X.2.1 dX6_count_79 rfl (lv_at hl 0 rfl) ?_
            refine gtR_0_32 X w dX6_count_80 ?_
            cases hf
            exact px_retI X hr hlk w dX6_count_83
          · have hf := px_in c16 hf
            by_cases c17 : p1 = (4 : Int32)
            · have hf := px_ip c17 hf
              refine lv_tableIn (tgt := 84) X.1 X.2.1 dX6_count_21 (by rw [c17]; decide) (by rw [c17]; decide) (by rw [c17]; rfl) (by decide) ?_
              refine lv_aload_n X.1 X.2.1 dX6_count_84 rfl (lv_at hl 0 rfl) ?_
              refine gtR_0_43 X w dX6_count_85 ?_
              cases hf
              exact px_retI X hr hlk w dX6_count_88
            · have hf := px_in c17 hf
              by_cases c18 : p1 = (5 : Int32)
              · have hf := px_ip c18 hf
                refine lv_tableIn (tgt := 89) X.1 X.2.1 dX6_count_21 (by rw [c18]; decide) (by rw [c18]; decide) (by rw [c18]; rfl) (by decide) ?_
                refine lv_aload_n X.1 X.2.1 dX6_count_89 rfl (lv_at hl 0 rfl) ?_
                refine gtR_0_48 X w dX6_count_90 ?_
                cases hf
                exact px_retI X hr hlk w dX6_count_93
              · have hf := px_in c18 hf
                by_cases c19 : p1 = (6 : Int32)
                · have hf := px_ip c19 hf
                  refine lv_tableIn (tgt := 94) X.1 X.2.1 dX6_count_21 (by rw [c19]; decide) (by rw [c19]; decide) (by rw [c19]; rfl) (by decide) ?_
                  refine lv_aload_n X.1 X.2.1 dX6_count_94 rfl (lv_at hl 0 rfl) ?_
                  refine gtR_0_50 X w dX6_count_95 ?_
                  cases hf
                  exact px_retI X hr hlk w dX6_count_98
                · have hf := px_in c19 hf
                  refine lv_tableOut (tgt := 99) X.1 X.2.1 dX6_count_21 (by have := px_ne (v := 0) (by decide) c13; have := px_ne (v := 1) (by decide) c14; have := px_ne (v := 2) (by decide) c15; have := px_ne (v := 3) (by decide) c16; have := px_ne (v := 4) (by decide) c17; have := px_ne (v := 5) (by decide) c18; have := px_ne (v := 6) (by decide) c19; omega) (by decide) ?_
                  refine lv_iconst (v := (0 : Int32)) X.1 X.2.1 dX6_count_99 (by decide) ?_
                  cases hf
                  exact px_retI X hr hlk w dX6_count_100
def fR_M_logged (M : px_M) (p1 : Int32) : Option (Int32 × px_M) := (if p1 < 0 then px_bn (px_up M 0 0 (1 : Int32)) (fun M2 => (if (M2 0 0) = 0 then px_ck p1 200 (some ((M2 34 p1.toNatClampNeg), M2)) else some ((0 : Int32), M2))) else (if p1 < (M 0 48) then px_bn (px_up M 0 0 (0 : Int32)) (fun M6 => (if (M6 0 0) = 0 then px_ck p1 200 (some ((M6 34 p1.toNatClampNeg), M6)) else some ((0 : Int32), M6))) else px_bn (px_up M 0 0 (1 : Int32)) (fun M9 => (if (M9 0 0) = 0 then px_ck p1 200 (some ((M9 34 p1.toNatClampNeg), M9)) else some ((0 : Int32), M9)))))
set_option maxHeartbeats 4000000 in
set_option maxRecDepth 100000 in
theorem cR_M_logged (l : Launch) (D : va_G) (cs : Nat → ClassId) (ad : Nat → Nat) {M : px_M} {p1 : Int32} {r : Int32} {M' : px_M} (hf : fR_M_logged M p1 = some (r, M')) : px_mI l D (tyR cs) (wR cs ad) yX6_logged cX6_logged 2 (some .int) 0 [.ref (ad 0), .int p1] M r M' := by
  refine px_ofI (by decide +kernel) (Nat.le_of_ble_eq_true rfl) ?_
  intro p e s m below meth c A ls X hr hlk hml w hl
  have hl : lv_has ls 2 [(0, .ref (ad 0)), (1, .int p1)] := hl
  unfold fR_M_logged at hf
  refine lv_aload_n X.1 X.2.1 dX6_logged_0 rfl (lv_at hl 0 rfl) ?_
  refine lv_iload_n X.1 X.2.1 dX6_logged_1 rfl (lv_at hl 1 rfl) ?_
  refine lv_if_lt (tgt := 13) X.1 X.2.1 dX6_logged_2 (by decide) (fun c1 => ?_) (fun c1 => ?_)
  · have hf := px_ip c1 hf
    refine lv_iconst (v := (1 : Int32)) X.1 X.2.1 dX6_logged_13 (by decide) ?_
    refine lv_goto (tgt := 18) X.1 X.2.1 dX6_logged_14 (by decide) ?_
    refine ptR_0_0 X w dX6_logged_18 (fun H locs w => ?_)
    obtain ⟨M2, eM2, hf⟩ := px_bn_e hf
    rw [← eM2] at w
    refine lv_aload_n X.1 X.2.1 dX6_logged_21 rfl (lv_at hl 0 rfl) ?_
    refine gtR_0_0 X w dX6_logged_22 ?_
    refine lv_if_ne (tgt := 37) X.1 X.2.1 dX6_logged_25 (by decide) (fun c3 => ?_) (fun c3 => ?_)
    · have hf := px_in c3 hf
      refine lv_iconst (v := (0 : Int32)) X.1 X.2.1 dX6_logged_37 (by decide) ?_
      cases hf
      exact px_retI X hr hlk w dX6_logged_38
    · have hf := px_ip c3 hf
      refine lv_aload_n X.1 X.2.1 dX6_logged_28 rfl (lv_at hl 0 rfl) ?_
      refine gtR_0_49 X w dX6_logged_29 ?_
      refine lv_iload_n X.1 X.2.1 dX6_logged_32 rfl (lv_at hl 1 rfl) ?_
      obtain ⟨b4, hf⟩ := px_ck_e hf
      refine ilR_34 X w b4 dX6_logged_33 ?_
      refine lv_goto (tgt := 38) X.1 X.2.1 dX6_logged_34 (by decide) ?_
      cases hf
      exact px_retI X hr hlk w dX6_logged_38
  · have hf := px_in c1 hf
    refine lv_iload_n X.1 X.2.1 dX6_logged_5 rfl (lv_at hl 1 rfl) ?_
    refine lv_aload_n X.1 X.2.1 dX6_logged_6 rfl (lv_at hl 0 rfl) ?_
    refine gtR_0_48 X w dX6_logged_7 ?_
    refine lv_icmp_lt (tgt := 17) X.1 X.2.1 dX6_logged_10 (by decide) (fun c5 => ?_) (fun c5 => ?_)
    · have hf := px_ip c5 hf
      refine lv_iconst (v := (0 : Int32)) X.1 X.2.1 dX6_logged_17 (by decide) ?_
      refine ptR_0_0 X w dX6_logged_18 (fun H locs w => ?_)
      obtain ⟨M6, eM6, hf⟩ := px_bn_e hf
      rw [← eM6] at w
      refine lv_aload_n X.1 X.2.1 dX6_logged_21 rfl (lv_at hl 0 rfl) ?_
      refine gtR_0_0 X w dX6_logged_22 ?_
      refine lv_if_ne (tgt := 37) X.1 X.2.1 dX6_logged_25 (by decide) (fun c7 => ?_) (fun c7 => ?_)
      · have hf := px_in c7 hf
        refine lv_iconst (v := (0 : Int32)) X.1 X.2.1 dX6_logged_37 (by decide) ?_
        cases hf
        exact px_retI X hr hlk w dX6_logged_38
      · have hf := px_ip c7 hf
        refine lv_aload_n X.1 X.2.1 dX6_logged_28 rfl (lv_at hl 0 rfl) ?_
        refine gtR_0_49 X w dX6_logged_29 ?_
        refine lv_iload_n X.1 X.2.1 dX6_logged_32 rfl (lv_at hl 1 rfl) ?_
        obtain ⟨b8, hf⟩ := px_ck_e hf
        refine ilR_34 X w b8 dX6_logged_33 ?_
        refine lv_goto (tgt := 38) X.1 X.2.1 dX6_logged_34 (by decide) ?_
        cases hf
        exact px_retI X hr hlk w dX6_logged_38
    · have hf := px_in c5 hf
      refine lv_iconst (v := (1 : Int32)) X.1 X.2.1 dX6_logged_13 (by decide) ?_
      refine lv_goto (tgt := 18) X.1 X.2.1 dX6_logged_14 (by decide) ?_
      refine ptR_0_0 X w dX6_logged_18 (fun H locs w => ?_)
      obtain ⟨M9, eM9, hf⟩ := px_bn_e hf
      rw [← eM9] at w
      refine lv_aload_n X.1 X.2.1 dX6_logged_21 rfl (lv_at hl 0 rfl) ?_
      refine gtR_0_0 X w dX6_logged_22 ?_
      refine lv_if_ne (tgt := 37) X.1 X.2.1 dX6_logged_25 (by decide) (fun c10 => ?_) (fun c10 => ?_)
      · have hf := px_in c10 hf
        refine lv_iconst (v := (0 : Int32)) X.1 X.2.1 dX6_logged_37 (by decide) ?_
        cases hf
        exact px_retI X hr hlk w dX6_logged_38
      · have hf := px_ip c10 hf
        refine lv_aload_n X.1 X.2.1 dX6_logged_28 rfl (lv_at hl 0 rfl) ?_
        refine gtR_0_49 X w dX6_logged_29 ?_
        refine lv_iload_n X.1 X.2.1 dX6_logged_32 rfl (lv_at hl 1 rfl) ?_
        obtain ⟨b11, hf⟩ := px_ck_e hf
        refine ilR_34 X w b11 dX6_logged_33 ?_
        refine lv_goto (tgt := 38) X.1 X.2.1 dX6_logged_34 (by decide) ?_
        cases hf
        exact px_retI X hr hlk w dX6_logged_38
def fR_M_reported (M : px_M) (p1 : Int32) : Option (Int32 × px_M) := (if p1 < 0 then px_bn (px_up M 0 0 (1 : Int32)) (fun M2 => (if (M2 0 0) = 0 then px_ck p1 200 (some ((M2 35 p1.toNatClampNeg), M2)) else some ((0 : Int32), M2))) else (if p1 < (M 0 50) then px_bn (px_up M 0 0 (0 : Int32)) (fun M6 => (if (M6 0 0) = 0 then px_ck p1 200 (some ((M6 35 p1.toNatClampNeg), M6)) else some ((0 : Int32), M6))) else px_bn (px_up M 0 0 (1 : Int32)) (fun M9 => (if (M9 0 0) = 0 then px_ck p1 200 (some ((M9 35 p1.toNatClampNeg), M9)) else some ((0 : Int32), M9)))))
set_option maxHeartbeats 4000000 in
set_option maxRecDepth 100000 in
theorem cR_M_reported (l : Launch) (D : va_G) (cs : Nat → ClassId) (ad : Nat → Nat) {M : px_M} {p1 : Int32} {r : Int32} {M' : px_M} (hf : fR_M_reported M p1 = some (r, M')) : px_mI l D (tyR cs) (wR cs ad) yX6_reported cX6_reported 2 (some .int) 0 [.ref (ad 0), .int p1] M r M' := by
  refine px_ofI (by decide +kernel) (Nat.le_of_ble_eq_true rfl) ?_
  intro p e s m below meth c A ls X hr hlk hml w hl
  have hl : lv_has ls 2 [(0, .ref (ad 0)), (1, .int p1)] := hl
  unfold fR_M_reported at hf
  refine lv_aload_n X.1 X.2.1 dX6_reported_0 rfl (lv_at hl 0 rfl) ?_
  refine lv_iload_n X.1 X.2.1 dX6_reported_1 rfl (lv_at hl 1 rfl) ?_
  refine lv_if_lt (tgt := 13) X.1 X.2.1 dX6_reported_2 (by decide) (fun c1 => ?_) (fun c1 => ?_)
  · have hf := px_ip c1 hf
    refine lv_iconst (v := (1 : Int32)) X.1 X.2.1 dX6_reported_13 (by decide) ?_
    refine lv_goto (tgt := 18) X.1 X.2.1 dX6_reported_14 (by decide) ?_
    refine ptR_0_0 X w dX6_reported_18 (fun H locs w => ?_)
    obtain ⟨M2, eM2, hf⟩ := px_bn_e hf
    rw [← eM2] at w
    refine lv_aload_n X.1 X.2.1 dX6_reported_21 rfl (lv_at hl 0 rfl) ?_
    refine gtR_0_0 X w dX6_reported_22 ?_
    refine lv_if_ne (tgt := 37) X.1 X.2.1 dX6_reported_25 (by decide) (fun c3 => ?_) (fun c3 => ?_)
    · have hf := px_in c3 hf
      refine lv_iconst (v := (0 : Int32)) X.1 X.2.1 dX6_reported_37 (by decide) ?_
      cases hf
      exact px_retI X hr hlk w dX6_reported_38
    · have hf := px_ip c3 hf
      refine lv_aload_n X.1 X.2.1 dX6_reported_28 rfl (lv_at hl 0 rfl) ?_
      refine gtR_0_51 X w dX6_reported_29 ?_
      refine lv_iload_n X.1 X.2.1 dX6_reported_32 rfl (lv_at hl 1 rfl) ?_
      obtain ⟨b4, hf⟩ := px_ck_e hf
      refine ilR_35 X w b4 dX6_reported_33 ?_
      refine lv_goto (tgt := 38) X.1 X.2.1 dX6_reported_34 (by decide) ?_
      cases hf
      exact px_retI X hr hlk w dX6_reported_38
  · have hf := px_in c1 hf
    refine lv_iload_n X.1 X.2.1 dX6_reported_5 rfl (lv_at hl 1 rfl) ?_
    refine lv_aload_n X.1 X.2.1 dX6_reported_6 rfl (lv_at hl 0 rfl) ?_
    refine gtR_0_50 X w dX6_reported_7 ?_
    refine lv_icmp_lt (tgt := 17) X.1 X.2.1 dX6_reported_10 (by decide) (fun c5 => ?_) (fun c5 => ?_)
    · have hf := px_ip c5 hf
      refine lv_iconst (v := (0 : Int32)) X.1 X.2.1 dX6_reported_17 (by decide) ?_
      refine ptR_0_0 X w dX6_reported_18 (fun H locs w => ?_)
      obtain ⟨M6, eM6, hf⟩ := px_bn_e hf
      rw [← eM6] at w
      refine lv_aload_n X.1 X.2.1 dX6_reported_21 rfl (lv_at hl 0 rfl) ?_
      refine gtR_0_0 X w dX6_reported_22 ?_
      refine lv_if_ne (tgt := 37) X.1 X.2.1 dX6_reported_25 (by decide) (fun c7 => ?_) (fun c7 => ?_)
      · have hf := px_in c7 hf
        refine lv_iconst (v := (0 : Int32)) X.1 X.2.1 dX6_reported_37 (by decide) ?_
        cases hf
        exact px_retI X hr hlk w dX6_reported_38
      · have hf := px_ip c7 hf
        refine lv_aload_n X.1 X.2.1 dX6_reported_28 rfl (lv_at hl 0 rfl) ?_
        refine gtR_0_51 X w dX6_reported_29 ?_
        refine lv_iload_n X.1 X.2.1 dX6_reported_32 rfl (lv_at hl 1 rfl) ?_
        obtain ⟨b8, hf⟩ := px_ck_e hf
        refine ilR_35 X w b8 dX6_reported_33 ?_
        refine lv_goto (tgt := 38) X.1 X.2.1 dX6_reported_34 (by decide) ?_
        cases hf
        exact px_retI X hr hlk w dX6_reported_38
    · have hf := px_in c5 hf
      refine lv_iconst (v := (1 : Int32)) X.1 X.2.1 dX6_reported_13 (by decide) ?_
      refine lv_goto (tgt := 18) X.1 X.2.1 dX6_reported_14 (by decide) ?_
      refine ptR_0_0 X w dX6_reported_18 (fun H locs w => ?_)
      obtain ⟨M9, eM9, hf⟩ := px_bn_e hf
      rw [← eM9] at w
      refine lv_aload_n X.1 X.2.1 dX6_reported_21 rfl (lv_at hl 0 rfl) ?_
      refine gtR_0_0 X w dX6_reported_22 ?_
      refine lv_if_ne (tgt := 37) X.1 X.2.1 dX6_reported_25 (by decide) (fun c10 => ?_) (fun c10 => ?_)
      · have hf := px_in c10 hf
        refine lv_iconst (v := (0 : Int32)) X.1 X.2.1 dX6_reported_37 (by decide) ?_
        cases hf
        exact px_retI X hr hlk w dX6_reported_38
      · have hf := px_ip c10 hf
        refine lv_aload_n X.1 X.2.1 dX6_reported_28 rfl (lv_at hl 0 rfl) ?_
        refine gtR_0_51 X w dX6_reported_29 ?_
        refine lv_iload_n X.1 X.2.1 dX6_reported_32 rfl (lv_at hl 1 rfl) ?_
        obtain ⟨b11, hf⟩ := px_ck_e hf
        refine ilR_35 X w b11 dX6_reported_33 ?_
        refine lv_goto (tgt := 38) X.1 X.2.1 dX6_reported_34 (by decide) ?_
        cases hf
        exact px_retI X hr hlk w dX6_reported_38
theorem lk_6_256 : px_Lk RX6 256 yX6_timerAt cX6_timerAt 3 (some .int) 1 := ⟨px_tb (by decide +kernel) (by decide +kernel), px_tb (by decide +kernel) (by decide +kernel), px_tb (by decide +kernel) (by decide +kernel), px_tb (by decide +kernel) (by decide +kernel), px_tb (by decide +kernel) (by decide +kernel), by decide +kernel, by decide⟩
def fR_M_due (M : px_M) (p1 : Int32) : Option (Int32 × px_M) := px_bn (px_up M 0 0 (0 : Int32)) (fun M1 => px_bq (fR_M_timerAt M1 p1) (fun r3 => (if 0 ≤ r3 then px_ck r3 12 ((if (M1 31 r3.toNatClampNeg) = 0 then px_ck r3 12 (some ((M1 29 r3.toNatClampNeg), M1)) else some ((-2 : Int32), M1))) else some ((-1 : Int32), M1))))
set_option maxHeartbeats 4000000 in
set_option maxRecDepth 100000 in
theorem cR_M_due (l : Launch) (D : va_G) (cs : Nat → ClassId) (ad : Nat → Nat) {M : px_M} {p1 : Int32} {r : Int32} {M' : px_M} (hf : fR_M_due M p1 = some (r, M')) : px_mI l D (tyR cs) (wR cs ad) yX6_due cX6_due 3 (some .int) 1 [.ref (ad 0), .int p1] M r M' := by
  refine px_ofI (by decide +kernel) (Nat.le_of_ble_eq_true rfl) ?_
  intro p e s m below meth c A ls X hr hlk hml w hl
  have hl : lv_has ls 3 [(0, .ref (ad 0)), (1, .int p1)] := hl
  unfold fR_M_due at hf
  refine lv_aload_n X.1 X.2.1 dX6_due_0 rfl (lv_at hl 0 rfl) ?_
  refine lv_iconst (v := (0 : Int32)) X.1 X.2.1 dX6_due_1 (by decide) ?_
  refine ptR_0_0 X w dX6_due_2 (fun H locs w => ?_)
  obtain ⟨M1, eM1, hf⟩ := px_bn_e hf
  rw [← eM1] at w
  refine lv_aload_n X.1 X.2.1 dX6_due_5 rfl (lv_at hl 0 rfl) ?_
  refine lv_iload_n X.1 X.2.1 dX6_due_6 rfl (lv_at hl 1 rfl) ?_
  obtain ⟨r3, e2, hf⟩ := px_bq_e hf
  refine px_cI (As := [.int p1]) (rest := []) X hml hl w (cR_M_timerAt l D cs ad e2) lk_6_256 (by decide) (rcR_0 X.2.2.2.2 w) rfl (Nat.le_of_ble_eq_true rfl) dX6_due_7 (fun H locs w => ?_)
  refine lv_istore_n (lv' := [(2, .int r3), (0, .ref (ad 0)), (1, .int p1)]) X.1 X.2.1 dX6_due_10 rfl hl (by decide) rfl (fun ls hl => ?_)
  refine lv_iload_n X.1 X.2.1 dX6_due_11 rfl (lv_at hl 0 rfl) ?_
  refine lv_if_ge (tgt := 19) X.1 X.2.1 dX6_due_12 (by decide) (fun c4 => ?_) (fun c4 => ?_)
  · have hf := px_ip c4 hf
    refine lv_aload_n X.1 X.2.1 dX6_due_19 rfl (lv_at hl 1 rfl) ?_
    refine gtR_0_41 X w dX6_due_20 ?_
    refine lv_iload_n X.1 X.2.1 dX6_due_23 rfl (lv_at hl 0 rfl) ?_
    obtain ⟨b5, hf⟩ := px_ck_e hf
    refine ilR_31 X w b5 dX6_due_24 ?_
    refine lv_if_eq (tgt := 33) X.1 X.2.1 dX6_due_25 (by decide) (fun c6 => ?_) (fun c6 => ?_)
    · have hf := px_ip c6 hf
      refine lv_aload_n X.1 X.2.1 dX6_due_33 rfl (lv_at hl 1 rfl) ?_
      refine gtR_0_39 X w dX6_due_34 ?_
      refine lv_iload_n X.1 X.2.1 dX6_due_37 rfl (lv_at hl 0 rfl) ?_
      obtain ⟨b7, hf⟩ := px_ck_e hf
      refine ilR_29 X w b7 dX6_due_38 ?_
      cases hf
      exact px_retI X hr hlk w dX6_due_39
    · have hf := px_in c6 hf
      refine lv_bipush (v := (-2 : Int32)) X.1 X.2.1 dX6_due_28 (by decide) ?_
      refine lv_goto (tgt := 39) X.1 X.2.1 dX6_due_30 (by decide) ?_
      cases hf
      exact px_retI X hr hlk w dX6_due_39
  · have hf := px_in c4 hf
    refine lv_iconst (v := (-1 : Int32)) X.1 X.2.1 dX6_due_15 (by decide) ?_
    refine lv_goto (tgt := 39) X.1 X.2.1 dX6_due_16 (by decide) ?_
    cases hf
    exact px_retI X hr hlk w dX6_due_39
def fR_M_time (M : px_M) : Option (Int32 × px_M) := px_bn (px_up M 0 0 (0 : Int32)) (fun M1 => some ((M1 0 31), M1))
set_option maxHeartbeats 4000000 in
set_option maxRecDepth 100000 in
theorem cR_M_time (l : Launch) (D : va_G) (cs : Nat → ClassId) (ad : Nat → Nat) {M : px_M} {r : Int32} {M' : px_M} (hf : fR_M_time M = some (r, M')) : px_mI l D (tyR cs) (wR cs ad) yX6_time cX6_time 1 (some .int) 0 [.ref (ad 0)] M r M' := by
  refine px_ofI (by decide +kernel) (Nat.le_of_ble_eq_true rfl) ?_
  intro p e s m below meth c A ls X hr hlk hml w hl
  have hl : lv_has ls 1 [(0, .ref (ad 0))] := hl
  unfold fR_M_time at hf
  refine lv_aload_n X.1 X.2.1 dX6_time_0 rfl (lv_at hl 0 rfl) ?_
  refine lv_iconst (v := (0 : Int32)) X.1 X.2.1 dX6_time_1 (by decide) ?_
  refine ptR_0_0 X w dX6_time_2 (fun H locs w => ?_)
  obtain ⟨M1, eM1, hf⟩ := px_bn_e hf
  rw [← eM1] at w
  refine lv_aload_n X.1 X.2.1 dX6_time_5 rfl (lv_at hl 0 rfl) ?_
  refine gtR_0_31 X w dX6_time_6 ?_
  cases hf
  exact px_retI X hr hlk w dX6_time_9
