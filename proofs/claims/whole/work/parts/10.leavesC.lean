def fC_Functions_length (M : px_M) (p1 : Int32) : Option Int32 := px_ck p1 10 (some (M 2 p1.toNatClampNeg))
set_option maxHeartbeats 4000000 in
set_option maxRecDepth 100000 in
theorem cC_Functions_length (l : Launch) (D : va_G) (cs : Nat → ClassId) (ad : Nat → Nat) {M : px_M} {p1 : Int32} {r : Int32} (hf : fC_Functions_length M p1 = some r) : px_mI l D (tyC cs) (wC cs ad) yX0_length cX0_length 2 (some .int) 0 [.ref (ad 1), .int p1] M r M := by
  refine px_ofI (by decide +kernel) (Nat.le_of_ble_eq_true rfl) ?_
  intro p e s m below meth c A ls X hr hlk hml w hl
  have hl : lv_has ls 2 [(0, .ref (ad 1)), (1, .int p1)] := hl
  unfold fC_Functions_length at hf
  refine lv_aload_n X.1 X.2.1 dX0_length_0 rfl (lv_at hl 0 rfl) ?_
  refine gtC_1_0 X w dX0_length_1 ?_
  refine lv_iload_n X.1 X.2.1 dX0_length_4 rfl (lv_at hl 1 rfl) ?_
  obtain ⟨b1, hf⟩ := px_ck_e hf
  refine ilC_2 X w b1 dX0_length_5 ?_
  cases hf
  exact px_retI X hr hlk w dX0_length_6
def fC_Functions_code (M : px_M) (p1 p2 : Int32) : Option Int32 := px_ck ((p1 * (6 : Int32)) + p2) 60 (some (M 3 ((p1 * (6 : Int32)) + p2).toNatClampNeg))
set_option maxHeartbeats 4000000 in
set_option maxRecDepth 100000 in
theorem cC_Functions_code (l : Launch) (D : va_G) (cs : Nat → ClassId) (ad : Nat → Nat) {M : px_M} {p1 p2 : Int32} {r : Int32} (hf : fC_Functions_code M p1 p2 = some r) : px_mI l D (tyC cs) (wC cs ad) yX0_code cX0_code 3 (some .int) 0 [.ref (ad 1), .int p1, .int p2] M r M := by
  refine px_ofI (by decide +kernel) (Nat.le_of_ble_eq_true rfl) ?_
  intro p e s m below meth c A ls X hr hlk hml w hl
  have hl : lv_has ls 3 [(0, .ref (ad 1)), (1, .int p1), (2, .int p2)] := hl
  unfold fC_Functions_code at hf
  refine lv_aload_n X.1 X.2.1 dX0_code_0 rfl (lv_at hl 0 rfl) ?_
  refine gtC_1_1 X w dX0_code_1 ?_
  refine lv_iload_n X.1 X.2.1 dX0_code_4 rfl (lv_at hl 1 rfl) ?_
  refine lv_bipush (v := (6 : Int32)) X.1 X.2.1 dX0_code_5 (by decide) ?_
  refine lv_imul X.1 X.2.1 dX0_code_7 ?_
  refine lv_iload_n X.1 X.2.1 dX0_code_8 rfl (lv_at hl 2 rfl) ?_
  refine lv_iadd X.1 X.2.1 dX0_code_9 ?_
  obtain ⟨b1, hf⟩ := px_ck_e hf
  refine ilC_3 X w b1 dX0_code_10 ?_
  cases hf
  exact px_retI X hr hlk w dX0_code_11
def fC_Functions_a (M : px_M) (p1 p2 : Int32) : Option Int32 := px_ck ((p1 * (6 : Int32)) + p2) 60 (some (M 4 ((p1 * (6 : Int32)) + p2).toNatClampNeg))
set_option maxHeartbeats 4000000 in
set_option maxRecDepth 100000 in
theorem cC_Functions_a (l : Launch) (D : va_G) (cs : Nat → ClassId) (ad : Nat → Nat) {M : px_M} {p1 p2 : Int32} {r : Int32} (hf : fC_Functions_a M p1 p2 = some r) : px_mI l D (tyC cs) (wC cs ad) yX0_a cX0_a 3 (some .int) 0 [.ref (ad 1), .int p1, .int p2] M r M := by
  refine px_ofI (by decide +kernel) (Nat.le_of_ble_eq_true rfl) ?_
  intro p e s m below meth c A ls X hr hlk hml w hl
  have hl : lv_has ls 3 [(0, .ref (ad 1)), (1, .int p1), (2, .int p2)] := hl
  unfold fC_Functions_a at hf
  refine lv_aload_n X.1 X.2.1 dX0_a_0 rfl (lv_at hl 0 rfl) ?_
  refine gtC_1_2 X w dX0_a_1 ?_
  refine lv_iload_n X.1 X.2.1 dX0_a_4 rfl (lv_at hl 1 rfl) ?_
  refine lv_bipush (v := (6 : Int32)) X.1 X.2.1 dX0_a_5 (by decide) ?_
  refine lv_imul X.1 X.2.1 dX0_a_7 ?_
  refine lv_iload_n X.1 X.2.1 dX0_a_8 rfl (lv_at hl 2 rfl) ?_
  refine lv_iadd X.1 X.2.1 dX0_a_9 ?_
  obtain ⟨b1, hf⟩ := px_ck_e hf
  refine ilC_4 X w b1 dX0_a_10 ?_
  cases hf
  exact px_retI X hr hlk w dX0_a_11
def fC_Functions_b (M : px_M) (p1 p2 : Int32) : Option Int32 := px_ck ((p1 * (6 : Int32)) + p2) 60 (some (M 5 ((p1 * (6 : Int32)) + p2).toNatClampNeg))
set_option maxHeartbeats 4000000 in
set_option maxRecDepth 100000 in
theorem cC_Functions_b (l : Launch) (D : va_G) (cs : Nat → ClassId) (ad : Nat → Nat) {M : px_M} {p1 p2 : Int32} {r : Int32} (hf : fC_Functions_b M p1 p2 = some r) : px_mI l D (tyC cs) (wC cs ad) yX0_b cX0_b 3 (some .int) 0 [.ref (ad 1), .int p1, .int p2] M r M := by
  refine px_ofI (by decide +kernel) (Nat.le_of_ble_eq_true rfl) ?_
  intro p e s m below meth c A ls X hr hlk hml w hl
  have hl : lv_has ls 3 [(0, .ref (ad 1)), (1, .int p1), (2, .int p2)] := hl
  unfold fC_Functions_b at hf
  refine lv_aload_n X.1 X.2.1 dX0_b_0 rfl (lv_at hl 0 rfl) ?_
  refine gtC_1_3 X w dX0_b_1 ?_
  refine lv_iload_n X.1 X.2.1 dX0_b_4 rfl (lv_at hl 1 rfl) ?_
  refine lv_bipush (v := (6 : Int32)) X.1 X.2.1 dX0_b_5 (by decide) ?_
  refine lv_imul X.1 X.2.1 dX0_b_7 ?_
  refine lv_iload_n X.1 X.2.1 dX0_b_8 rfl (lv_at hl 2 rfl) ?_
  refine lv_iadd X.1 X.2.1 dX0_b_9 ?_
  obtain ⟨b1, hf⟩ := px_ck_e hf
  refine ilC_5 X w b1 dX0_b_10 ?_
  cases hf
  exact px_retI X hr hlk w dX0_b_11
def fC_Functions_empty (M : px_M) (p1 : Int32) : Option px_M := px_ck p1 10 (px_bn (px_up M 2 p1.toNatClampNeg (0 : Int32)) (fun M2 => some M2))
set_option maxHeartbeats 4000000 in
set_option maxRecDepth 100000 in
theorem cC_Functions_empty (l : Launch) (D : va_G) (cs : Nat → ClassId) (ad : Nat → Nat) {M : px_M} {p1 : Int32} {M' : px_M} (hf : fC_Functions_empty M p1 = some M') : px_mV l D (tyC cs) (wC cs ad) yX0_empty cX0_empty 2 0 [.ref (ad 1), .int p1] M M' := by
  refine px_ofV (by decide +kernel) (Nat.le_of_ble_eq_true rfl) ?_
  intro p e s m below meth c A ls X hr hlk hml w hl
  have hl : lv_has ls 2 [(0, .ref (ad 1)), (1, .int p1)] := hl
  unfold fC_Functions_empty at hf
  refine lv_aload_n X.1 X.2.1 dX0_empty_0 rfl (lv_at hl 0 rfl) ?_
  refine gtC_1_0 X w dX0_empty_1 ?_
  refine lv_iload_n X.1 X.2.1 dX0_empty_4 rfl (lv_at hl 1 rfl) ?_
  refine lv_iconst (v := (0 : Int32)) X.1 X.2.1 dX0_empty_5 (by decide) ?_
  obtain ⟨b1, hf⟩ := px_ck_e hf
  refine isC_2 X w b1 dX0_empty_6 (fun H locs w => ?_)
  obtain ⟨M2, eM2, hf⟩ := px_bn_e hf
  rw [← eM2] at w
  cases hf
  exact px_retV X hr hlk w dX0_empty_7
def fC_Functions_add (M : px_M) (p1 p2 p3 p4 : Int32) : Option px_M := px_ck p1 10 ((if (M 2 p1.toNatClampNeg) < (6 : Int32) then px_ck p1 10 (px_bn (((p1 * (6 : Int32)) + (M 2 p1.toNatClampNeg))) (fun x4 => px_ck x4 60 (px_bn (px_up M 3 x4.toNatClampNeg p2) (fun M6 => px_ck x4 60 (px_bn (px_up M6 4 x4.toNatClampNeg p3) (fun M8 => px_ck x4 60 (px_bn (px_up M8 5 x4.toNatClampNeg p4) (fun M10 => px_ck p1 10 (px_ck p1 10 (px_bn (px_up M10 2 p1.toNatClampNeg ((M10 2 p1.toNatClampNeg) + (1 : Int32))) (fun M13 => some M13))))))))))) else some M))
set_option maxHeartbeats 4000000 in
set_option maxRecDepth 100000 in
theorem cC_Functions_add (l : Launch) (D : va_G) (cs : Nat → ClassId) (ad : Nat → Nat) {M : px_M} {p1 p2 p3 p4 : Int32} {M' : px_M} (hf : fC_Functions_add M p1 p2 p3 p4 = some M') : px_mV l D (tyC cs) (wC cs ad) yX0_add cX0_add 6 0 [.ref (ad 1), .int p1, .int p2, .int p3, .int p4] M M' := by
  refine px_ofV (by decide +kernel) (Nat.le_of_ble_eq_true rfl) ?_
  intro p e s m below meth c A ls X hr hlk hml w hl
  have hl : lv_has ls 6 [(0, .ref (ad 1)), (1, .int p1), (2, .int p2), (3, .int p3), (4, .int p4)] := hl
  unfold fC_Functions_add at hf
  refine lv_aload_n X.1 X.2.1 dX0_add_0 rfl (lv_at hl 0 rfl) ?_
  refine gtC_1_0 X w dX0_add_1 ?_
  refine lv_iload_n X.1 X.2.1 dX0_add_4 rfl (lv_at hl 1 rfl) ?_
  obtain ⟨b1, hf⟩ := px_ck_e hf
  refine ilC_2 X w b1 dX0_add_5 ?_
  refine lv_bipush (v := (6 : Int32)) X.1 X.2.1 dX0_add_6 (by decide) ?_
  refine lv_icmp_lt (tgt := 12) X.1 X.2.1 dX0_add_8 (by decide) (fun c2 => ?_) (fun c2 => ?_)
  · have hf := px_ip c2 hf
    refine lv_iload_n X.1 X.2.1 dX0_add_12 rfl (lv_at hl 1 rfl) ?_
    refine lv_bipush (v := (6 : Int32)) X.1 X.2.1 dX0_add_13 (by decide) ?_
    refine lv_imul X.1 X.2.1 dX0_add_15 ?_
    refine lv_aload_n X.1 X.2.1 dX0_add_16 rfl (lv_at hl 0 rfl) ?_
    refine gtC_1_0 X w dX0_add_17 ?_
    refine lv_iload_n X.1 X.2.1 dX0_add_20 rfl (lv_at hl 1 rfl) ?_
    obtain ⟨b3, hf⟩ := px_ck_e hf
    refine ilC_2 X w b3 dX0_add_21 ?_
    refine lv_iadd X.1 X.2.1 dX0_add_22 ?_
    obtain ⟨x4, ex4, hf⟩ := px_bn_e hf
    rw [← ex4]
    refine lv_istore (lv' := [(5, .int x4), (0, .ref (ad 1)), (1, .int p1), (2, .int p2), (3, .int p3), (4, .int p4)]) X.1 X.2.1 dX0_add_23 hl (by decide) rfl (fun ls hl => ?_)
    refine lv_aload_n X.1 X.2.1 dX0_add_25 rfl (lv_at hl 1 rfl) ?_
    refine gtC_1_1 X w dX0_add_26 ?_
    refine lv_iload X.1 X.2.1 dX0_add_29 (lv_at hl 0 rfl) ?_
    refine lv_iload_n X.1 X.2.1 dX0_add_31 rfl (lv_at hl 3 rfl) ?_
    obtain ⟨b5, hf⟩ := px_ck_e hf
    refine isC_3 X w b5 dX0_add_32 (fun H locs w => ?_)
    obtain ⟨M6, eM6, hf⟩ := px_bn_e hf
    rw [← eM6] at w
    refine lv_aload_n X.1 X.2.1 dX0_add_33 rfl (lv_at hl 1 rfl) ?_
    refine gtC_1_2 X w dX0_add_34 ?_
    refine lv_iload X.1 X.2.1 dX0_add_37 (lv_at hl 0 rfl) ?_
    refine lv_iload_n X.1 X.2.1 dX0_add_39 rfl (lv_at hl 4 rfl) ?_
    obtain ⟨b7, hf⟩ := px_ck_e hf
    refine isC_4 X w b7 dX0_add_40 (fun H locs w => ?_)
    obtain ⟨M8, eM8, hf⟩ := px_bn_e hf
    rw [← eM8] at w
    refine lv_aload_n X.1 X.2.1 dX0_add_41 rfl (lv_at hl 1 rfl) ?_
    refine gtC_1_3 X w dX0_add_42 ?_
    refine lv_iload X.1 X.2.1 dX0_add_45 (lv_at hl 0 rfl) ?_
    refine lv_iload X.1 X.2.1 dX0_add_47 (lv_at hl 5 rfl) ?_
    obtain ⟨b9, hf⟩ := px_ck_e hf
    refine isC_5 X w b9 dX0_add_49 (fun H locs w => ?_)
    obtain ⟨M10, eM10, hf⟩ := px_bn_e hf
    rw [← eM10] at w
    refine lv_aload_n X.1 X.2.1 dX0_add_50 rfl (lv_at hl 1 rfl) ?_
    refine gtC_1_0 X w dX0_add_51 ?_
    refine lv_iload_n X.1 X.2.1 dX0_add_54 rfl (lv_at hl 2 rfl) ?_
    refine lv_dup2_11 X.1 X.2.1 dX0_add_55 rfl rfl ?_
    obtain ⟨b11, hf⟩ := px_ck_e hf
    refine ilC_2 X w b11 dX0_add_56 ?_
    refine lv_iconst (v := (1 : Int32)) X.1 X.2.1 dX0_add_57 (by decide) ?_
    refine lv_iadd X.1 X.2.1 dX0_add_58 ?_
    obtain ⟨b12, hf⟩ := px_ck_e hf
    refine isC_2 X w b12 dX0_add_59 (fun H locs w => ?_)
    obtain ⟨M13, eM13, hf⟩ := px_bn_e hf
    rw [← eM13] at w
    cases hf
    exact px_retV X hr hlk w dX0_add_60
  · have hf := px_in c2 hf
    cases hf
    exact px_retV X hr hlk w dX0_add_11
def fC_Journal_size_28 (M : px_M) : Option Int32 := some (M 28 1)
set_option maxHeartbeats 4000000 in
set_option maxRecDepth 100000 in
theorem cC_Journal_size_28 (l : Launch) (D : va_G) (cs : Nat → ClassId) (ad : Nat → Nat) {M : px_M} {r : Int32} (hf : fC_Journal_size_28 M = some r) : px_mI l D (tyC cs) (wC cs ad) yX1_size cX1_size 1 (some .int) 0 [.ref (ad 28)] M r M := by
  refine px_ofI (by decide +kernel) (Nat.le_of_ble_eq_true rfl) ?_
  intro p e s m below meth c A ls X hr hlk hml w hl
  have hl : lv_has ls 1 [(0, .ref (ad 28))] := hl
  unfold fC_Journal_size_28 at hf
  refine lv_aload_n X.1 X.2.1 dX1_size_0 rfl (lv_at hl 0 rfl) ?_
  refine gtC_28_1 X w dX1_size_1 ?_
  cases hf
  exact px_retI X hr hlk w dX1_size_4
def fC_Journal_has_28 (M : px_M) (p1 : Int32) : Option Int32 := (if p1 < 0 then some (0 : Int32) else (if (M 28 1) ≤ p1 then some (0 : Int32) else some (1 : Int32)))
set_option maxHeartbeats 4000000 in
set_option maxRecDepth 100000 in
theorem cC_Journal_has_28 (l : Launch) (D : va_G) (cs : Nat → ClassId) (ad : Nat → Nat) {M : px_M} {p1 : Int32} {r : Int32} (hf : fC_Journal_has_28 M p1 = some r) : px_mI l D (tyC cs) (wC cs ad) yX1_has cX1_has 2 (some .boolean) 0 [.ref (ad 28), .int p1] M r M := by
  refine px_ofI (by decide +kernel) (Nat.le_of_ble_eq_true rfl) ?_
  intro p e s m below meth c A ls X hr hlk hml w hl
  have hl : lv_has ls 2 [(0, .ref (ad 28)), (1, .int p1)] := hl
  unfold fC_Journal_has_28 at hf
  refine lv_iload_n X.1 X.2.1 dX1_has_0 rfl (lv_at hl 1 rfl) ?_
  refine lv_if_lt (tgt := 16) X.1 X.2.1 dX1_has_1 (by decide) (fun c1 => ?_) (fun c1 => ?_)
  · have hf := px_ip c1 hf
    refine lv_iconst (v := (0 : Int32)) X.1 X.2.1 dX1_has_16 (by decide) ?_
    cases hf
    exact px_retZ X hr hlk narrow_b0 w dX1_has_17
  · have hf := px_in c1 hf
    refine lv_iload_n X.1 X.2.1 dX1_has_4 rfl (lv_at hl 1 rfl) ?_
    refine lv_aload_n X.1 X.2.1 dX1_has_5 rfl (lv_at hl 0 rfl) ?_
    refine gtC_28_1 X w dX1_has_6 ?_
    refine lv_icmp_ge (tgt := 16) X.1 X.2.1 dX1_has_9 (by decide) (fun c2 => ?_) (fun c2 => ?_)
    · have hf := px_ip c2 hf
      refine lv_iconst (v := (0 : Int32)) X.1 X.2.1 dX1_has_16 (by decide) ?_
      cases hf
      exact px_retZ X hr hlk narrow_b0 w dX1_has_17
    · have hf := px_in c2 hf
      refine lv_iconst (v := (1 : Int32)) X.1 X.2.1 dX1_has_12 (by decide) ?_
      refine lv_goto (tgt := 17) X.1 X.2.1 dX1_has_13 (by decide) ?_
      cases hf
      exact px_retZ X hr hlk narrow_b1 w dX1_has_17
def fC_Journal_at_28 (M : px_M) (p1 : Int32) : Option Int32 := px_ck p1 200 (some (M 29 p1.toNatClampNeg))
set_option maxHeartbeats 4000000 in
set_option maxRecDepth 100000 in
theorem cC_Journal_at_28 (l : Launch) (D : va_G) (cs : Nat → ClassId) (ad : Nat → Nat) {M : px_M} {p1 : Int32} {r : Int32} (hf : fC_Journal_at_28 M p1 = some r) : px_mI l D (tyC cs) (wC cs ad) yX1_at cX1_at 2 (some .int) 0 [.ref (ad 28), .int p1] M r M := by
  refine px_ofI (by decide +kernel) (Nat.le_of_ble_eq_true rfl) ?_
  intro p e s m below meth c A ls X hr hlk hml w hl
  have hl : lv_has ls 2 [(0, .ref (ad 28)), (1, .int p1)] := hl
  unfold fC_Journal_at_28 at hf
  refine lv_aload_n X.1 X.2.1 dX1_at_0 rfl (lv_at hl 0 rfl) ?_
  refine gtC_28_0 X w dX1_at_1 ?_
  refine lv_iload_n X.1 X.2.1 dX1_at_4 rfl (lv_at hl 1 rfl) ?_
  obtain ⟨b1, hf⟩ := px_ck_e hf
  refine ilC_29 X w b1 dX1_at_5 ?_
  cases hf
  exact px_retI X hr hlk w dX1_at_6
def fC_Journal_keep_28 (M : px_M) (p1 : Int32) : Option px_M := (if (200 : Int32) ≤ (M 28 1) then some M else px_ck (M 28 1) 200 (px_bn (px_up M 29 (M 28 1).toNatClampNeg p1) (fun M3 => px_bn (px_up M3 28 1 ((M3 28 1) + (1 : Int32))) (fun M4 => some M4))))
set_option maxHeartbeats 4000000 in
set_option maxRecDepth 100000 in
theorem cC_Journal_keep_28 (l : Launch) (D : va_G) (cs : Nat → ClassId) (ad : Nat → Nat) {M : px_M} {p1 : Int32} {M' : px_M} (hf : fC_Journal_keep_28 M p1 = some M') : px_mV l D (tyC cs) (wC cs ad) yX1_keep cX1_keep 2 0 [.ref (ad 28), .int p1] M M' := by
  refine px_ofV (by decide +kernel) (Nat.le_of_ble_eq_true rfl) ?_
  intro p e s m below meth c A ls X hr hlk hml w hl
  have hl : lv_has ls 2 [(0, .ref (ad 28)), (1, .int p1)] := hl
  unfold fC_Journal_keep_28 at hf
  refine lv_aload_n X.1 X.2.1 dX1_keep_0 rfl (lv_at hl 0 rfl) ?_
  refine gtC_28_1 X w dX1_keep_1 ?_
  refine lv_sipush (v := (200 : Int32)) X.1 X.2.1 dX1_keep_4 (by decide) ?_
  refine lv_icmp_ge (tgt := 30) X.1 X.2.1 dX1_keep_7 (by decide) (fun c1 => ?_) (fun c1 => ?_)
  · have hf := px_ip c1 hf
    cases hf
    exact px_retV X hr hlk w dX1_keep_30
  · have hf := px_in c1 hf
    refine lv_aload_n X.1 X.2.1 dX1_keep_10 rfl (lv_at hl 0 rfl) ?_
    refine gtC_28_0 X w dX1_keep_11 ?_
    refine lv_aload_n X.1 X.2.1 dX1_keep_14 rfl (lv_at hl 0 rfl) ?_
    refine gtC_28_1 X w dX1_keep_15 ?_
    refine lv_iload_n X.1 X.2.1 dX1_keep_18 rfl (lv_at hl 1 rfl) ?_
    obtain ⟨b2, hf⟩ := px_ck_e hf
    refine isC_29 X w b2 dX1_keep_19 (fun H locs w => ?_)
    obtain ⟨M3, eM3, hf⟩ := px_bn_e hf
    rw [← eM3] at w
    refine lv_aload_n X.1 X.2.1 dX1_keep_20 rfl (lv_at hl 0 rfl) ?_
    refine lv_dup X.1 X.2.1 dX1_keep_21 rfl ?_
    refine gtC_28_1 X w dX1_keep_22 ?_
    refine lv_iconst (v := (1 : Int32)) X.1 X.2.1 dX1_keep_25 (by decide) ?_
    refine lv_iadd X.1 X.2.1 dX1_keep_26 ?_
    refine ptC_28_1 X w dX1_keep_27 (fun H locs w => ?_)
    obtain ⟨M4, eM4, hf⟩ := px_bn_e hf
    rw [← eM4] at w
    cases hf
    exact px_retV X hr hlk w dX1_keep_30
def fC_Journal_size_30 (M : px_M) : Option Int32 := some (M 30 1)
set_option maxHeartbeats 4000000 in
set_option maxRecDepth 100000 in
theorem cC_Journal_size_30 (l : Launch) (D : va_G) (cs : Nat → ClassId) (ad : Nat → Nat) {M : px_M} {r : Int32} (hf : fC_Journal_size_30 M = some r) : px_mI l D (tyC cs) (wC cs ad) yX1_size cX1_size 1 (some .int) 0 [.ref (ad 30)] M r M := by
  refine px_ofI (by decide +kernel) (Nat.le_of_ble_eq_true rfl) ?_
  intro p e s m below meth c A ls X hr hlk hml w hl
  have hl : lv_has ls 1 [(0, .ref (ad 30))] := hl
  unfold fC_Journal_size_30 at hf
  refine lv_aload_n X.1 X.2.1 dX1_size_0 rfl (lv_at hl 0 rfl) ?_
  refine gtC_30_1 X w dX1_size_1 ?_
  cases hf
  exact px_retI X hr hlk w dX1_size_4
def fC_Journal_has_30 (M : px_M) (p1 : Int32) : Option Int32 := (if p1 < 0 then some (0 : Int32) else (if (M 30 1) ≤ p1 then some (0 : Int32) else some (1 : Int32)))
set_option maxHeartbeats 4000000 in
set_option maxRecDepth 100000 in
theorem cC_Journal_has_30 (l : Launch) (D : va_G) (cs : Nat → ClassId) (ad : Nat → Nat) {M : px_M} {p1 : Int32} {r : Int32} (hf : fC_Journal_has_30 M p1 = some r) : px_mI l D (tyC cs) (wC cs ad) yX1_has cX1_has 2 (some .boolean) 0 [.ref (ad 30), .int p1] M r M := by
  refine px_ofI (by decide +kernel) (Nat.le_of_ble_eq_true rfl) ?_
  intro p e s m below meth c A ls X hr hlk hml w hl
  have hl : lv_has ls 2 [(0, .ref (ad 30)), (1, .int p1)] := hl
  unfold fC_Journal_has_30 at hf
  refine lv_iload_n X.1 X.2.1 dX1_has_0 rfl (lv_at hl 1 rfl) ?_
  refine lv_if_lt (tgt := 16) X.1 X.2.1 dX1_has_1 (by decide) (fun c1 => ?_) (fun c1 => ?_)
  · have hf := px_ip c1 hf
    refine lv_iconst (v := (0 : Int32)) X.1 X.2.1 dX1_has_16 (by decide) ?_
    cases hf
    exact px_retZ X hr hlk narrow_b0 w dX1_has_17
  · have hf := px_in c1 hf
    refine lv_iload_n X.1 X.2.1 dX1_has_4 rfl (lv_at hl 1 rfl) ?_
    refine lv_aload_n X.1 X.2.1 dX1_has_5 rfl (lv_at hl 0 rfl) ?_
    refine gtC_30_1 X w dX1_has_6 ?_
    refine lv_icmp_ge (tgt := 16) X.1 X.2.1 dX1_has_9 (by decide) (fun c2 => ?_) (fun c2 => ?_)
    · have hf := px_ip c2 hf
      refine lv_iconst (v := (0 : Int32)) X.1 X.2.1 dX1_has_16 (by decide) ?_
      cases hf
      exact px_retZ X hr hlk narrow_b0 w dX1_has_17
    · have hf := px_in c2 hf
      refine lv_iconst (v := (1 : Int32)) X.1 X.2.1 dX1_has_12 (by decide) ?_
      refine lv_goto (tgt := 17) X.1 X.2.1 dX1_has_13 (by decide) ?_
      cases hf
      exact px_retZ X hr hlk narrow_b1 w dX1_has_17
def fC_Journal_at_30 (M : px_M) (p1 : Int32) : Option Int32 := px_ck p1 200 (some (M 31 p1.toNatClampNeg))
set_option maxHeartbeats 4000000 in
set_option maxRecDepth 100000 in
theorem cC_Journal_at_30 (l : Launch) (D : va_G) (cs : Nat → ClassId) (ad : Nat → Nat) {M : px_M} {p1 : Int32} {r : Int32} (hf : fC_Journal_at_30 M p1 = some r) : px_mI l D (tyC cs) (wC cs ad) yX1_at cX1_at 2 (some .int) 0 [.ref (ad 30), .int p1] M r M := by
  refine px_ofI (by decide +kernel) (Nat.le_of_ble_eq_true rfl) ?_
  intro p e s m below meth c A ls X hr hlk hml w hl
  have hl : lv_has ls 2 [(0, .ref (ad 30)), (1, .int p1)] := hl
  unfold fC_Journal_at_30 at hf
  refine lv_aload_n X.1 X.2.1 dX1_at_0 rfl (lv_at hl 0 rfl) ?_
  refine gtC_30_0 X w dX1_at_1 ?_
  refine lv_iload_n X.1 X.2.1 dX1_at_4 rfl (lv_at hl 1 rfl) ?_
  obtain ⟨b1, hf⟩ := px_ck_e hf
  refine ilC_31 X w b1 dX1_at_5 ?_
  cases hf
  exact px_retI X hr hlk w dX1_at_6
def fC_Journal_keep_30 (M : px_M) (p1 : Int32) : Option px_M := (if (200 : Int32) ≤ (M 30 1) then some M else px_ck (M 30 1) 200 (px_bn (px_up M 31 (M 30 1).toNatClampNeg p1) (fun M3 => px_bn (px_up M3 30 1 ((M3 30 1) + (1 : Int32))) (fun M4 => some M4))))
set_option maxHeartbeats 4000000 in
set_option maxRecDepth 100000 in
theorem cC_Journal_keep_30 (l : Launch) (D : va_G) (cs : Nat → ClassId) (ad : Nat → Nat) {M : px_M} {p1 : Int32} {M' : px_M} (hf : fC_Journal_keep_30 M p1 = some M') : px_mV l D (tyC cs) (wC cs ad) yX1_keep cX1_keep 2 0 [.ref (ad 30), .int p1] M M' := by
  refine px_ofV (by decide +kernel) (Nat.le_of_ble_eq_true rfl) ?_
  intro p e s m below meth c A ls X hr hlk hml w hl
  have hl : lv_has ls 2 [(0, .ref (ad 30)), (1, .int p1)] := hl
  unfold fC_Journal_keep_30 at hf
  refine lv_aload_n X.1 X.2.1 dX1_keep_0 rfl (lv_at hl 0 rfl) ?_
  refine gtC_30_1 X w dX1_keep_1 ?_
  refine lv_sipush (v := (200 : Int32)) X.1 X.2.1 dX1_keep_4 (by decide) ?_
  refine lv_icmp_ge (tgt := 30) X.1 X.2.1 dX1_keep_7 (by decide) (fun c1 => ?_) (fun c1 => ?_)
  · have hf := px_ip c1 hf
    cases hf
    exact px_retV X hr hlk w dX1_keep_30
  · have hf := px_in c1 hf
    refine lv_aload_n X.1 X.2.1 dX1_keep_10 rfl (lv_at hl 0 rfl) ?_
    refine gtC_30_0 X w dX1_keep_11 ?_
    refine lv_aload_n X.1 X.2.1 dX1_keep_14 rfl (lv_at hl 0 rfl) ?_
    refine gtC_30_1 X w dX1_keep_15 ?_
    refine lv_iload_n X.1 X.2.1 dX1_keep_18 rfl (lv_at hl 1 rfl) ?_
    obtain ⟨b2, hf⟩ := px_ck_e hf
    refine isC_31 X w b2 dX1_keep_19 (fun H locs w => ?_)
    obtain ⟨M3, eM3, hf⟩ := px_bn_e hf
    rw [← eM3] at w
    refine lv_aload_n X.1 X.2.1 dX1_keep_20 rfl (lv_at hl 0 rfl) ?_
    refine lv_dup X.1 X.2.1 dX1_keep_21 rfl ?_
    refine gtC_30_1 X w dX1_keep_22 ?_
    refine lv_iconst (v := (1 : Int32)) X.1 X.2.1 dX1_keep_25 (by decide) ?_
    refine lv_iadd X.1 X.2.1 dX1_keep_26 ?_
    refine ptC_30_1 X w dX1_keep_27 (fun H locs w => ?_)
    obtain ⟨M4, eM4, hf⟩ := px_bn_e hf
    rw [← eM4] at w
    cases hf
    exact px_retV X hr hlk w dX1_keep_30
def fC_Line_size_8 (M : px_M) : Option Int32 := some (M 8 5)
set_option maxHeartbeats 4000000 in
set_option maxRecDepth 100000 in
theorem cC_Line_size_8 (l : Launch) (D : va_G) (cs : Nat → ClassId) (ad : Nat → Nat) {M : px_M} {r : Int32} (hf : fC_Line_size_8 M = some r) : px_mI l D (tyC cs) (wC cs ad) yX2_size cX2_size 1 (some .int) 0 [.ref (ad 8)] M r M := by
  refine px_ofI (by decide +kernel) (Nat.le_of_ble_eq_true rfl) ?_
  intro p e s m below meth c A ls X hr hlk hml w hl
  have hl : lv_has ls 1 [(0, .ref (ad 8))] := hl
  unfold fC_Line_size_8 at hf
  refine lv_aload_n X.1 X.2.1 dX2_size_0 rfl (lv_at hl 0 rfl) ?_
  refine gtC_8_5 X w dX2_size_1 ?_
  cases hf
  exact px_retI X hr hlk w dX2_size_4
def fC_Line_kind_8 (M : px_M) : Option Int32 := px_ck (M 8 4) 40 (some (M 9 (M 8 4).toNatClampNeg))
set_option maxHeartbeats 4000000 in
set_option maxRecDepth 100000 in
theorem cC_Line_kind_8 (l : Launch) (D : va_G) (cs : Nat → ClassId) (ad : Nat → Nat) {M : px_M} {r : Int32} (hf : fC_Line_kind_8 M = some r) : px_mI l D (tyC cs) (wC cs ad) yX2_kind cX2_kind 1 (some .int) 0 [.ref (ad 8)] M r M := by
  refine px_ofI (by decide +kernel) (Nat.le_of_ble_eq_true rfl) ?_
  intro p e s m below meth c A ls X hr hlk hml w hl
  have hl : lv_has ls 1 [(0, .ref (ad 8))] := hl
  unfold fC_Line_kind_8 at hf
  refine lv_aload_n X.1 X.2.1 dX2_kind_0 rfl (lv_at hl 0 rfl) ?_
  refine gtC_8_1 X w dX2_kind_1 ?_
  refine lv_aload_n X.1 X.2.1 dX2_kind_4 rfl (lv_at hl 0 rfl) ?_
  refine gtC_8_4 X w dX2_kind_5 ?_
  obtain ⟨b1, hf⟩ := px_ck_e hf
  refine ilC_9 X w b1 dX2_kind_8 ?_
  cases hf
  exact px_retI X hr hlk w dX2_kind_9
def fC_Line_subject_8 (M : px_M) : Option Int32 := px_ck (M 8 4) 40 (some (M 10 (M 8 4).toNatClampNeg))
set_option maxHeartbeats 4000000 in
set_option maxRecDepth 100000 in
theorem cC_Line_subject_8 (l : Launch) (D : va_G) (cs : Nat → ClassId) (ad : Nat → Nat) {M : px_M} {r : Int32} (hf : fC_Line_subject_8 M = some r) : px_mI l D (tyC cs) (wC cs ad) yX2_subject cX2_subject 1 (some .int) 0 [.ref (ad 8)] M r M := by
  refine px_ofI (by decide +kernel) (Nat.le_of_ble_eq_true rfl) ?_
  intro p e s m below meth c A ls X hr hlk hml w hl
  have hl : lv_has ls 1 [(0, .ref (ad 8))] := hl
  unfold fC_Line_subject_8 at hf
  refine lv_aload_n X.1 X.2.1 dX2_subject_0 rfl (lv_at hl 0 rfl) ?_
  refine gtC_8_2 X w dX2_subject_1 ?_
  refine lv_aload_n X.1 X.2.1 dX2_subject_4 rfl (lv_at hl 0 rfl) ?_
  refine gtC_8_4 X w dX2_subject_5 ?_
  obtain ⟨b1, hf⟩ := px_ck_e hf
  refine ilC_10 X w b1 dX2_subject_8 ?_
  cases hf
  exact px_retI X hr hlk w dX2_subject_9
def fC_Line_number_8 (M : px_M) : Option Int32 := px_ck (M 8 4) 40 (some (M 11 (M 8 4).toNatClampNeg))
set_option maxHeartbeats 4000000 in
set_option maxRecDepth 100000 in
theorem cC_Line_number_8 (l : Launch) (D : va_G) (cs : Nat → ClassId) (ad : Nat → Nat) {M : px_M} {r : Int32} (hf : fC_Line_number_8 M = some r) : px_mI l D (tyC cs) (wC cs ad) yX2_number cX2_number 1 (some .int) 0 [.ref (ad 8)] M r M := by
  refine px_ofI (by decide +kernel) (Nat.le_of_ble_eq_true rfl) ?_
  intro p e s m below meth c A ls X hr hlk hml w hl
  have hl : lv_has ls 1 [(0, .ref (ad 8))] := hl
  unfold fC_Line_number_8 at hf
  refine lv_aload_n X.1 X.2.1 dX2_number_0 rfl (lv_at hl 0 rfl) ?_
  refine gtC_8_3 X w dX2_number_1 ?_
  refine lv_aload_n X.1 X.2.1 dX2_number_4 rfl (lv_at hl 0 rfl) ?_
  refine gtC_8_4 X w dX2_number_5 ?_
  obtain ⟨b1, hf⟩ := px_ck_e hf
  refine ilC_11 X w b1 dX2_number_8 ?_
  cases hf
  exact px_retI X hr hlk w dX2_number_9
def fC_Line_put_8 (M : px_M) (p1 p2 p3 : Int32) : Option px_M := (if (M 8 5) < (M 8 0) then (if (M 8 0) ≤ ((M 8 4) + (M 8 5)) then px_bn ((((M 8 4) + (M 8 5)) - (M 8 0))) (fun x3 => px_ck x3 40 (px_bn (px_up M 9 x3.toNatClampNeg p1) (fun M5 => px_ck x3 40 (px_bn (px_up M5 10 x3.toNatClampNeg p2) (fun M7 => px_ck x3 40 (px_bn (px_up M7 11 x3.toNatClampNeg p3) (fun M9 => px_bn (px_up M9 8 5 ((M9 8 5) + (1 : Int32))) (fun M10 => some M10)))))))) else px_bn (((M 8 4) + (M 8 5))) (fun x11 => px_ck x11 40 (px_bn (px_up M 9 x11.toNatClampNeg p1) (fun M13 => px_ck x11 40 (px_bn (px_up M13 10 x11.toNatClampNeg p2) (fun M15 => px_ck x11 40 (px_bn (px_up M15 11 x11.toNatClampNeg p3) (fun M17 => px_bn (px_up M17 8 5 ((M17 8 5) + (1 : Int32))) (fun M18 => some M18))))))))) else some M)
set_option maxHeartbeats 4000000 in
set_option maxRecDepth 100000 in
theorem cC_Line_put_8 (l : Launch) (D : va_G) (cs : Nat → ClassId) (ad : Nat → Nat) {M : px_M} {p1 p2 p3 : Int32} {M' : px_M} (hf : fC_Line_put_8 M p1 p2 p3 = some M') : px_mV l D (tyC cs) (wC cs ad) yX2_put cX2_put 5 0 [.ref (ad 8), .int p1, .int p2, .int p3] M M' := by
  refine px_ofV (by decide +kernel) (Nat.le_of_ble_eq_true rfl) ?_
  intro p e s m below meth c A ls X hr hlk hml w hl
  have hl : lv_has ls 5 [(0, .ref (ad 8)), (1, .int p1), (2, .int p2), (3, .int p3)] := hl
  unfold fC_Line_put_8 at hf
  refine lv_aload_n X.1 X.2.1 dX2_put_0 rfl (lv_at hl 0 rfl) ?_
  refine gtC_8_5 X w dX2_put_1 ?_
  refine lv_aload_n X.1 X.2.1 dX2_put_4 rfl (lv_at hl 0 rfl) ?_
  refine gtC_8_0 X w dX2_put_5 ?_
  refine lv_icmp_lt (tgt := 12) X.1 X.2.1 dX2_put_8 (by decide) (fun c1 => ?_) (fun c1 => ?_)
  · have hf := px_ip c1 hf
    refine lv_aload_n X.1 X.2.1 dX2_put_12 rfl (lv_at hl 0 rfl) ?_
    refine gtC_8_4 X w dX2_put_13 ?_
    refine lv_aload_n X.1 X.2.1 dX2_put_16 rfl (lv_at hl 0 rfl) ?_
    refine gtC_8_5 X w dX2_put_17 ?_
    refine lv_iadd X.1 X.2.1 dX2_put_20 ?_
    refine lv_aload_n X.1 X.2.1 dX2_put_21 rfl (lv_at hl 0 rfl) ?_
    refine gtC_8_0 X w dX2_put_22 ?_
    refine lv_icmp_ge (tgt := 40) X.1 X.2.1 dX2_put_25 (by decide) (fun c2 => ?_) (fun c2 => ?_)
    · have hf := px_ip c2 hf
      refine lv_aload_n X.1 X.2.1 dX2_put_40 rfl (lv_at hl 0 rfl) ?_
      refine gtC_8_4 X w dX2_put_41 ?_
      refine lv_aload_n X.1 X.2.1 dX2_put_44 rfl (lv_at hl 0 rfl) ?_
      refine gtC_8_5 X w dX2_put_45 ?_
      refine lv_iadd X.1 X.2.1 dX2_put_48 ?_
      refine lv_aload_n X.1 X.2.1 dX2_put_49 rfl (lv_at hl 0 rfl) ?_
      refine gtC_8_0 X w dX2_put_50 ?_
      refine lv_isub X.1 X.2.1 dX2_put_53 ?_
      obtain ⟨x3, ex3, hf⟩ := px_bn_e hf
      rw [← ex3]
      refine lv_istore (lv' := [(4, .int x3), (0, .ref (ad 8)), (1, .int p1), (2, .int p2), (3, .int p3)]) X.1 X.2.1 dX2_put_54 hl (by decide) rfl (fun ls hl => ?_)
      refine lv_aload_n X.1 X.2.1 dX2_put_56 rfl (lv_at hl 1 rfl) ?_
      refine gtC_8_1 X w dX2_put_57 ?_
      refine lv_iload X.1 X.2.1 dX2_put_60 (lv_at hl 0 rfl) ?_
      refine lv_iload_n X.1 X.2.1 dX2_put_62 rfl (lv_at hl 2 rfl) ?_
      obtain ⟨b4, hf⟩ := px_ck_e hf
      refine isC_9 X w b4 dX2_put_63 (fun H locs w => ?_)
      obtain ⟨M5, eM5, hf⟩ := px_bn_e hf
      rw [← eM5] at w
      refine lv_aload_n X.1 X.2.1 dX2_put_64 rfl (lv_at hl 1 rfl) ?_
      refine gtC_8_2 X w dX2_put_65 ?_
      refine lv_iload X.1 X.2.1 dX2_put_68 (lv_at hl 0 rfl) ?_
      refine lv_iload_n X.1 X.2.1 dX2_put_70 rfl (lv_at hl 3 rfl) ?_
      obtain ⟨b6, hf⟩ := px_ck_e hf
      refine isC_10 X w b6 dX2_put_71 (fun H locs w => ?_)
      obtain ⟨M7, eM7, hf⟩ := px_bn_e hf
      rw [← eM7] at w
      refine lv_aload_n X.1 X.2.1 dX2_put_72 rfl (lv_at hl 1 rfl) ?_
      refine gtC_8_3 X w dX2_put_73 ?_
      refine lv_iload X.1 X.2.1 dX2_put_76 (lv_at hl 0 rfl) ?_
      refine lv_iload_n X.1 X.2.1 dX2_put_78 rfl (lv_at hl 4 rfl) ?_
      obtain ⟨b8, hf⟩ := px_ck_e hf
      refine isC_11 X w b8 dX2_put_79 (fun H locs w => ?_)
      obtain ⟨M9, eM9, hf⟩ := px_bn_e hf
      rw [← eM9] at w
      refine lv_aload_n X.1 X.2.1 dX2_put_80 rfl (lv_at hl 1 rfl) ?_
      refine lv_dup X.1 X.2.1 dX2_put_81 rfl ?_
      refine gtC_8_5 X w dX2_put_82 ?_
      refine lv_iconst (v := (1 : Int32)) X.1 X.2.1 dX2_put_85 (by decide) ?_
      refine lv_iadd X.1 X.2.1 dX2_put_86 ?_
      refine ptC_8_5 X w dX2_put_87 (fun H locs w => ?_)
      obtain ⟨M10, eM10, hf⟩ := px_bn_e hf
      rw [← eM10] at w
      cases hf
      exact px_retV X hr hlk w dX2_put_90
    · have hf := px_in c2 hf
      refine lv_aload_n X.1 X.2.1 dX2_put_28 rfl (lv_at hl 0 rfl) ?_
      refine gtC_8_4 X w dX2_put_29 ?_
      refine lv_aload_n X.1 X.2.1 dX2_put_32 rfl (lv_at hl 0 rfl) ?_
      refine gtC_8_5 X w dX2_put_33 ?_
      refine lv_iadd X.1 X.2.1 dX2_put_36 ?_
      refine lv_goto (tgt := 54) X.1 X.2.1 dX2_put_37 (by decide) ?_
      obtain ⟨x11, ex11, hf⟩ := px_bn_e hf
      rw [← ex11]
      refine lv_istore (lv' := [(4, .int x11), (0, .ref (ad 8)), (1, .int p1), (2, .int p2), (3, .int p3)]) X.1 X.2.1 dX2_put_54 hl (by decide) rfl (fun ls hl => ?_)
      refine lv_aload_n X.1 X.2.1 dX2_put_56 rfl (lv_at hl 1 rfl) ?_
      refine gtC_8_1 X w dX2_put_57 ?_
      refine lv_iload X.1 X.2.1 dX2_put_60 (lv_at hl 0 rfl) ?_
      refine lv_iload_n X.1 X.2.1 dX2_put_62 rfl (lv_at hl 2 rfl) ?_
      obtain ⟨b12, hf⟩ := px_ck_e hf
      refine isC_9 X w b12 dX2_put_63 (fun H locs w => ?_)
      obtain ⟨M13, eM13, hf⟩ := px_bn_e hf
      rw [← eM13] at w
      refine lv_aload_n X.1 X.2.1 dX2_put_64 rfl (lv_at hl 1 rfl) ?_
      refine gtC_8_2 X w dX2_put_65 ?_
      refine lv_iload X.1 X.2.1 dX2_put_68 (lv_at hl 0 rfl) ?_
      refine lv_iload_n X.1 X.2.1 dX2_put_70 rfl (lv_at hl 3 rfl) ?_
      obtain ⟨b14, hf⟩ := px_ck_e hf
      refine isC_10 X w b14 dX2_put_71 (fun H locs w => ?_)
      obtain ⟨M15, eM15, hf⟩ := px_bn_e hf
      rw [← eM15] at w
      refine lv_aload_n X.1 X.2.1 dX2_put_72 rfl (lv_at hl 1 rfl) ?_
      refine gtC_8_3 X w dX2_put_73 ?_
      refine lv_iload X.1 X.2.1 dX2_put_76 (lv_at hl 0 rfl) ?_
      refine lv_iload_n X.1 X.2.1 dX2_put_78 rfl (lv_at hl 4 rfl) ?_
      obtain ⟨b16, hf⟩ := px_ck_e hf
      refine isC_11 X w b16 dX2_put_79 (fun H locs w => ?_)
      obtain ⟨M17, eM17, hf⟩ := px_bn_e hf
      rw [← eM17] at w
      refine lv_aload_n X.1 X.2.1 dX2_put_80 rfl (lv_at hl 1 rfl) ?_
      refine lv_dup X.1 X.2.1 dX2_put_81 rfl ?_
      refine gtC_8_5 X w dX2_put_82 ?_
      refine lv_iconst (v := (1 : Int32)) X.1 X.2.1 dX2_put_85 (by decide) ?_
      refine lv_iadd X.1 X.2.1 dX2_put_86 ?_
      refine ptC_8_5 X w dX2_put_87 (fun H locs w => ?_)
      obtain ⟨M18, eM18, hf⟩ := px_bn_e hf
      rw [← eM18] at w
      cases hf
      exact px_retV X hr hlk w dX2_put_90
  · have hf := px_in c1 hf
    cases hf
    exact px_retV X hr hlk w dX2_put_11
def fC_Line_drop_8 (M : px_M) : Option px_M := (if (M 8 5) ≤ 0 then some M else (if (M 8 0) ≤ ((M 8 4) + (1 : Int32)) then px_bn (px_up M 8 4 (0 : Int32)) (fun M3 => px_bn (px_up M3 8 5 ((M3 8 5) - (1 : Int32))) (fun M4 => some M4)) else px_bn (px_up M 8 4 ((M 8 4) + (1 : Int32))) (fun M5 => px_bn (px_up M5 8 5 ((M5 8 5) - (1 : Int32))) (fun M6 => some M6))))
set_option maxHeartbeats 4000000 in
set_option maxRecDepth 100000 in
theorem cC_Line_drop_8 (l : Launch) (D : va_G) (cs : Nat → ClassId) (ad : Nat → Nat) {M : px_M} {M' : px_M} (hf : fC_Line_drop_8 M = some M') : px_mV l D (tyC cs) (wC cs ad) yX2_drop cX2_drop 1 0 [.ref (ad 8)] M M' := by
  refine px_ofV (by decide +kernel) (Nat.le_of_ble_eq_true rfl) ?_
  intro p e s m below meth c A ls X hr hlk hml w hl
  have hl : lv_has ls 1 [(0, .ref (ad 8))] := hl
  unfold fC_Line_drop_8 at hf
  refine lv_aload_n X.1 X.2.1 dX2_drop_0 rfl (lv_at hl 0 rfl) ?_
  refine gtC_8_5 X w dX2_drop_1 ?_
  refine lv_if_le (tgt := 44) X.1 X.2.1 dX2_drop_4 (by decide) (fun c1 => ?_) (fun c1 => ?_)
  · have hf := px_ip c1 hf
    cases hf
    exact px_retV X hr hlk w dX2_drop_44
  · have hf := px_in c1 hf
    refine lv_aload_n X.1 X.2.1 dX2_drop_7 rfl (lv_at hl 0 rfl) ?_
    refine lv_aload_n X.1 X.2.1 dX2_drop_8 rfl (lv_at hl 0 rfl) ?_
    refine gtC_8_4 X w dX2_drop_9 ?_
    refine lv_iconst (v := (1 : Int32)) X.1 X.2.1 dX2_drop_12 (by decide) ?_
    refine lv_iadd X.1 X.2.1 dX2_drop_13 ?_
    refine lv_aload_n X.1 X.2.1 dX2_drop_14 rfl (lv_at hl 0 rfl) ?_
    refine gtC_8_0 X w dX2_drop_15 ?_
    refine lv_icmp_ge (tgt := 30) X.1 X.2.1 dX2_drop_18 (by decide) (fun c2 => ?_) (fun c2 => ?_)
    · have hf := px_ip c2 hf
      refine lv_iconst (v := (0 : Int32)) X.1 X.2.1 dX2_drop_30 (by decide) ?_
      refine ptC_8_4 X w dX2_drop_31 (fun H locs w => ?_)
      obtain ⟨M3, eM3, hf⟩ := px_bn_e hf
      rw [← eM3] at w
      refine lv_aload_n X.1 X.2.1 dX2_drop_34 rfl (lv_at hl 0 rfl) ?_
      refine lv_dup X.1 X.2.1 dX2_drop_35 rfl ?_
      refine gtC_8_5 X w dX2_drop_36 ?_
      refine lv_iconst (v := (1 : Int32)) X.1 X.2.1 dX2_drop_39 (by decide) ?_
      refine lv_isub X.1 X.2.1 dX2_drop_40 ?_
      refine ptC_8_5 X w dX2_drop_41 (fun H locs w => ?_)
      obtain ⟨M4, eM4, hf⟩ := px_bn_e hf
      rw [← eM4] at w
      cases hf
      exact px_retV X hr hlk w dX2_drop_44
    · have hf := px_in c2 hf
      refine lv_aload_n X.1 X.2.1 dX2_drop_21 rfl (lv_at hl 0 rfl) ?_
      refine gtC_8_4 X w dX2_drop_22 ?_
      refine lv_iconst (v := (1 : Int32)) X.1 X.2.1 dX2_drop_25 (by decide) ?_
      refine lv_iadd X.1 X.2.1 dX2_drop_26 ?_
      refine lv_goto (tgt := 31) X.1 X.2.1 dX2_drop_27 (by decide) ?_
      refine ptC_8_4 X w dX2_drop_31 (fun H locs w => ?_)
      obtain ⟨M5, eM5, hf⟩ := px_bn_e hf
      rw [← eM5] at w
      refine lv_aload_n X.1 X.2.1 dX2_drop_34 rfl (lv_at hl 0 rfl) ?_
      refine lv_dup X.1 X.2.1 dX2_drop_35 rfl ?_
      refine gtC_8_5 X w dX2_drop_36 ?_
      refine lv_iconst (v := (1 : Int32)) X.1 X.2.1 dX2_drop_39 (by decide) ?_
      refine lv_isub X.1 X.2.1 dX2_drop_40 ?_
      refine ptC_8_5 X w dX2_drop_41 (fun H locs w => ?_)
      obtain ⟨M6, eM6, hf⟩ := px_bn_e hf
      rw [← eM6] at w
      cases hf
      exact px_retV X hr hlk w dX2_drop_44
def fC_Line_size_12 (M : px_M) : Option Int32 := some (M 12 5)
set_option maxHeartbeats 4000000 in
set_option maxRecDepth 100000 in
theorem cC_Line_size_12 (l : Launch) (D : va_G) (cs : Nat → ClassId) (ad : Nat → Nat) {M : px_M} {r : Int32} (hf : fC_Line_size_12 M = some r) : px_mI l D (tyC cs) (wC cs ad) yX2_size cX2_size 1 (some .int) 0 [.ref (ad 12)] M r M := by
  refine px_ofI (by decide +kernel) (Nat.le_of_ble_eq_true rfl) ?_
  intro p e s m below meth c A ls X hr hlk hml w hl
  have hl : lv_has ls 1 [(0, .ref (ad 12))] := hl
  unfold fC_Line_size_12 at hf
  refine lv_aload_n X.1 X.2.1 dX2_size_0 rfl (lv_at hl 0 rfl) ?_
  refine gtC_12_5 X w dX2_size_1 ?_
  cases hf
  exact px_retI X hr hlk w dX2_size_4
def fC_Line_kind_12 (M : px_M) : Option Int32 := px_ck (M 12 4) 1051 (some (M 13 (M 12 4).toNatClampNeg))
set_option maxHeartbeats 4000000 in
set_option maxRecDepth 100000 in
theorem cC_Line_kind_12 (l : Launch) (D : va_G) (cs : Nat → ClassId) (ad : Nat → Nat) {M : px_M} {r : Int32} (hf : fC_Line_kind_12 M = some r) : px_mI l D (tyC cs) (wC cs ad) yX2_kind cX2_kind 1 (some .int) 0 [.ref (ad 12)] M r M := by
  refine px_ofI (by decide +kernel) (Nat.le_of_ble_eq_true rfl) ?_
  intro p e s m below meth c A ls X hr hlk hml w hl
  have hl : lv_has ls 1 [(0, .ref (ad 12))] := hl
  unfold fC_Line_kind_12 at hf
  refine lv_aload_n X.1 X.2.1 dX2_kind_0 rfl (lv_at hl 0 rfl) ?_
  refine gtC_12_1 X w dX2_kind_1 ?_
  refine lv_aload_n X.1 X.2.1 dX2_kind_4 rfl (lv_at hl 0 rfl) ?_
  refine gtC_12_4 X w dX2_kind_5 ?_
  obtain ⟨b1, hf⟩ := px_ck_e hf
  refine ilC_13 X w b1 dX2_kind_8 ?_
  cases hf
  exact px_retI X hr hlk w dX2_kind_9
def fC_Line_subject_12 (M : px_M) : Option Int32 := px_ck (M 12 4) 1051 (some (M 14 (M 12 4).toNatClampNeg))
set_option maxHeartbeats 4000000 in
set_option maxRecDepth 100000 in
theorem cC_Line_subject_12 (l : Launch) (D : va_G) (cs : Nat → ClassId) (ad : Nat → Nat) {M : px_M} {r : Int32} (hf : fC_Line_subject_12 M = some r) : px_mI l D (tyC cs) (wC cs ad) yX2_subject cX2_subject 1 (some .int) 0 [.ref (ad 12)] M r M := by
  refine px_ofI (by decide +kernel) (Nat.le_of_ble_eq_true rfl) ?_
  intro p e s m below meth c A ls X hr hlk hml w hl
  have hl : lv_has ls 1 [(0, .ref (ad 12))] := hl
  unfold fC_Line_subject_12 at hf
  refine lv_aload_n X.1 X.2.1 dX2_subject_0 rfl (lv_at hl 0 rfl) ?_
  refine gtC_12_2 X w dX2_subject_1 ?_
  refine lv_aload_n X.1 X.2.1 dX2_subject_4 rfl (lv_at hl 0 rfl) ?_
  refine gtC_12_4 X w dX2_subject_5 ?_
  obtain ⟨b1, hf⟩ := px_ck_e hf
  refine ilC_14 X w b1 dX2_subject_8 ?_
  cases hf
  exact px_retI X hr hlk w dX2_subject_9
def fC_Line_number_12 (M : px_M) : Option Int32 := px_ck (M 12 4) 1051 (some (M 15 (M 12 4).toNatClampNeg))
set_option maxHeartbeats 4000000 in
set_option maxRecDepth 100000 in
theorem cC_Line_number_12 (l : Launch) (D : va_G) (cs : Nat → ClassId) (ad : Nat → Nat) {M : px_M} {r : Int32} (hf : fC_Line_number_12 M = some r) : px_mI l D (tyC cs) (wC cs ad) yX2_number cX2_number 1 (some .int) 0 [.ref (ad 12)] M r M := by
  refine px_ofI (by decide +kernel) (Nat.le_of_ble_eq_true rfl) ?_
  intro p e s m below meth c A ls X hr hlk hml w hl
  have hl : lv_has ls 1 [(0, .ref (ad 12))] := hl
  unfold fC_Line_number_12 at hf
  refine lv_aload_n X.1 X.2.1 dX2_number_0 rfl (lv_at hl 0 rfl) ?_
  refine gtC_12_3 X w dX2_number_1 ?_
  refine lv_aload_n X.1 X.2.1 dX2_number_4 rfl (lv_at hl 0 rfl) ?_
  refine gtC_12_4 X w dX2_number_5 ?_
  obtain ⟨b1, hf⟩ := px_ck_e hf
  refine ilC_15 X w b1 dX2_number_8 ?_
  cases hf
  exact px_retI X hr hlk w dX2_number_9
def fC_Line_put_12 (M : px_M) (p1 p2 p3 : Int32) : Option px_M := (if (M 12 5) < (M 12 0) then (if (M 12 0) ≤ ((M 12 4) + (M 12 5)) then px_bn ((((M 12 4) + (M 12 5)) - (M 12 0))) (fun x3 => px_ck x3 1051 (px_bn (px_up M 13 x3.toNatClampNeg p1) (fun M5 => px_ck x3 1051 (px_bn (px_up M5 14 x3.toNatClampNeg p2) (fun M7 => px_ck x3 1051 (px_bn (px_up M7 15 x3.toNatClampNeg p3) (fun M9 => px_bn (px_up M9 12 5 ((M9 12 5) + (1 : Int32))) (fun M10 => some M10)))))))) else px_bn (((M 12 4) + (M 12 5))) (fun x11 => px_ck x11 1051 (px_bn (px_up M 13 x11.toNatClampNeg p1) (fun M13 => px_ck x11 1051 (px_bn (px_up M13 14 x11.toNatClampNeg p2) (fun M15 => px_ck x11 1051 (px_bn (px_up M15 15 x11.toNatClampNeg p3) (fun M17 => px_bn (px_up M17 12 5 ((M17 12 5) + (1 : Int32))) (fun M18 => some M18))))))))) else some M)
set_option maxHeartbeats 4000000 in
set_option maxRecDepth 100000 in
theorem cC_Line_put_12 (l : Launch) (D : va_G) (cs : Nat → ClassId) (ad : Nat → Nat) {M : px_M} {p1 p2 p3 : Int32} {M' : px_M} (hf : fC_Line_put_12 M p1 p2 p3 = some M') : px_mV l D (tyC cs) (wC cs ad) yX2_put cX2_put 5 0 [.ref (ad 12), .int p1, .int p2, .int p3] M M' := by
  refine px_ofV (by decide +kernel) (Nat.le_of_ble_eq_true rfl) ?_
  intro p e s m below meth c A ls X hr hlk hml w hl
  have hl : lv_has ls 5 [(0, .ref (ad 12)), (1, .int p1), (2, .int p2), (3, .int p3)] := hl
  unfold fC_Line_put_12 at hf
  refine lv_aload_n X.1 X.2.1 dX2_put_0 rfl (lv_at hl 0 rfl) ?_
  refine gtC_12_5 X w dX2_put_1 ?_
  refine lv_aload_n X.1 X.2.1 dX2_put_4 rfl (lv_at hl 0 rfl) ?_
  refine gtC_12_0 X w dX2_put_5 ?_
  refine lv_icmp_lt (tgt := 12) X.1 X.2.1 dX2_put_8 (by decide) (fun c1 => ?_) (fun c1 => ?_)
  · have hf := px_ip c1 hf
    refine lv_aload_n X.1 X.2.1 dX2_put_12 rfl (lv_at hl 0 rfl) ?_
    refine gtC_12_4 X w dX2_put_13 ?_
    refine lv_aload_n X.1 X.2.1 dX2_put_16 rfl (lv_at hl 0 rfl) ?_
    refine gtC_12_5 X w dX2_put_17 ?_
    refine lv_iadd X.1 X.2.1 dX2_put_20 ?_
    refine lv_aload_n X.1 X.2.1 dX2_put_21 rfl (lv_at hl 0 rfl) ?_
    refine gtC_12_0 X w dX2_put_22 ?_
    refine lv_icmp_ge (tgt := 40) X.1 X.2.1 dX2_put_25 (by decide) (fun c2 => ?_) (fun c2 => ?_)
    · have hf := px_ip c2 hf
      refine lv_aload_n X.1 X.2.1 dX2_put_40 rfl (lv_at hl 0 rfl) ?_
      refine gtC_12_4 X w dX2_put_41 ?_
      refine lv_aload_n X.1 X.2.1 dX2_put_44 rfl (lv_at hl 0 rfl) ?_
      refine gtC_12_5 X w dX2_put_45 ?_
      refine lv_iadd X.1 X.2.1 dX2_put_48 ?_
      refine lv_aload_n X.1 X.2.1 dX2_put_49 rfl (lv_at hl 0 rfl) ?_
      refine gtC_12_0 X w dX2_put_50 ?_
      refine lv_isub X.1 X.2.1 dX2_put_53 ?_
      obtain ⟨x3, ex3, hf⟩ := px_bn_e hf
      rw [← ex3]
      refine lv_istore (lv' := [(4, .int x3), (0, .ref (ad 12)), (1, .int p1), (2, .int p2), (3, .int p3)]) X.1 X.2.1 dX2_put_54 hl (by decide) rfl (fun ls hl => ?_)
      refine lv_aload_n X.1 X.2.1 dX2_put_56 rfl (lv_at hl 1 rfl) ?_
      refine gtC_12_1 X w dX2_put_57 ?_
      refine lv_iload X.1 X.2.1 dX2_put_60 (lv_at hl 0 rfl) ?_
      refine lv_iload_n X.1 X.2.1 dX2_put_62 rfl (lv_at hl 2 rfl) ?_
      obtain ⟨b4, hf⟩ := px_ck_e hf
      refine isC_13 X w b4 dX2_put_63 (fun H locs w => ?_)
      obtain ⟨M5, eM5, hf⟩ := px_bn_e hf
      rw [← eM5] at w
      refine lv_aload_n X.1 X.2.1 dX2_put_64 rfl (lv_at hl 1 rfl) ?_
      refine gtC_12_2 X w dX2_put_65 ?_
      refine lv_iload X.1 X.2.1 dX2_put_68 (lv_at hl 0 rfl) ?_
      refine lv_iload_n X.1 X.2.1 dX2_put_70 rfl (lv_at hl 3 rfl) ?_
      obtain ⟨b6, hf⟩ := px_ck_e hf
      refine isC_14 X w b6 dX2_put_71 (fun H locs w => ?_)
      obtain ⟨M7, eM7, hf⟩ := px_bn_e hf
      rw [← eM7] at w
      refine lv_aload_n X.1 X.2.1 dX2_put_72 rfl (lv_at hl 1 rfl) ?_
      refine gtC_12_3 X w dX2_put_73 ?_
      refine lv_iload X.1 X.2.1 dX2_put_76 (lv_at hl 0 rfl) ?_
      refine lv_iload_n X.1 X.2.1 dX2_put_78 rfl (lv_at hl 4 rfl) ?_
      obtain ⟨b8, hf⟩ := px_ck_e hf
      refine isC_15 X w b8 dX2_put_79 (fun H locs w => ?_)
      obtain ⟨M9, eM9, hf⟩ := px_bn_e hf
      rw [← eM9] at w
      refine lv_aload_n X.1 X.2.1 dX2_put_80 rfl (lv_at hl 1 rfl) ?_
      refine lv_dup X.1 X.2.1 dX2_put_81 rfl ?_
      refine gtC_12_5 X w dX2_put_82 ?_
      refine lv_iconst (v := (1 : Int32)) X.1 X.2.1 dX2_put_85 (by decide) ?_
      refine lv_iadd X.1 X.2.1 dX2_put_86 ?_
      refine ptC_12_5 X w dX2_put_87 (fun H locs w => ?_)
      obtain ⟨M10, eM10, hf⟩ := px_bn_e hf
      rw [← eM10] at w
      cases hf
      exact px_retV X hr hlk w dX2_put_90
    · have hf := px_in c2 hf
      refine lv_aload_n X.1 X.2.1 dX2_put_28 rfl (lv_at hl 0 rfl) ?_
      refine gtC_12_4 X w dX2_put_29 ?_
      refine lv_aload_n X.1 X.2.1 dX2_put_32 rfl (lv_at hl 0 rfl) ?_
      refine gtC_12_5 X w dX2_put_33 ?_
      refine lv_iadd X.1 X.2.1 dX2_put_36 ?_
      refine lv_goto (tgt := 54) X.1 X.2.1 dX2_put_37 (by decide) ?_
      obtain ⟨x11, ex11, hf⟩ := px_bn_e hf
      rw [← ex11]
      refine lv_istore (lv' := [(4, .int x11), (0, .ref (ad 12)), (1, .int p1), (2, .int p2), (3, .int p3)]) X.1 X.2.1 dX2_put_54 hl (by decide) rfl (fun ls hl => ?_)
      refine lv_aload_n X.1 X.2.1 dX2_put_56 rfl (lv_at hl 1 rfl) ?_
      refine gtC_12_1 X w dX2_put_57 ?_
      refine lv_iload X.1 X.2.1 dX2_put_60 (lv_at hl 0 rfl) ?_
      refine lv_iload_n X.1 X.2.1 dX2_put_62 rfl (lv_at hl 2 rfl) ?_
      obtain ⟨b12, hf⟩ := px_ck_e hf
      refine isC_13 X w b12 dX2_put_63 (fun H locs w => ?_)
      obtain ⟨M13, eM13, hf⟩ := px_bn_e hf
      rw [← eM13] at w
      refine lv_aload_n X.1 X.2.1 dX2_put_64 rfl (lv_at hl 1 rfl) ?_
      refine gtC_12_2 X w dX2_put_65 ?_
      refine lv_iload X.1 X.2.1 dX2_put_68 (lv_at hl 0 rfl) ?_
      refine lv_iload_n X.1 X.2.1 dX2_put_70 rfl (lv_at hl 3 rfl) ?_
      obtain ⟨b14, hf⟩ := px_ck_e hf
      refine isC_14 X w b14 dX2_put_71 (fun H locs w => ?_)
      obtain ⟨M15, eM15, hf⟩ := px_bn_e hf
      rw [← eM15] at w
      refine lv_aload_n X.1 X.2.1 dX2_put_72 rfl (lv_at hl 1 rfl) ?_
      refine gtC_12_3 X w dX2_put_73 ?_
      refine lv_iload X.1 X.2.1 dX2_put_76 (lv_at hl 0 rfl) ?_
      refine lv_iload_n X.1 X.2.1 dX2_put_78 rfl (lv_at hl 4 rfl) ?_
      obtain ⟨b16, hf⟩ := px_ck_e hf
      refine isC_15 X w b16 dX2_put_79 (fun H locs w => ?_)
      obtain ⟨M17, eM17, hf⟩ := px_bn_e hf
      rw [← eM17] at w
      refine lv_aload_n X.1 X.2.1 dX2_put_80 rfl (lv_at hl 1 rfl) ?_
      refine lv_dup X.1 X.2.1 dX2_put_81 rfl ?_
      refine gtC_12_5 X w dX2_put_82 ?_
      refine lv_iconst (v := (1 : Int32)) X.1 X.2.1 dX2_put_85 (by decide) ?_
      refine lv_iadd X.1 X.2.1 dX2_put_86 ?_
      refine ptC_12_5 X w dX2_put_87 (fun H locs w => ?_)
      obtain ⟨M18, eM18, hf⟩ := px_bn_e hf
      rw [← eM18] at w
      cases hf
      exact px_retV X hr hlk w dX2_put_90
  · have hf := px_in c1 hf
    cases hf
    exact px_retV X hr hlk w dX2_put_11
def fC_Line_drop_12 (M : px_M) : Option px_M := (if (M 12 5) ≤ 0 then some M else (if (M 12 0) ≤ ((M 12 4) + (1 : Int32)) then px_bn (px_up M 12 4 (0 : Int32)) (fun M3 => px_bn (px_up M3 12 5 ((M3 12 5) - (1 : Int32))) (fun M4 => some M4)) else px_bn (px_up M 12 4 ((M 12 4) + (1 : Int32))) (fun M5 => px_bn (px_up M5 12 5 ((M5 12 5) - (1 : Int32))) (fun M6 => some M6))))
set_option maxHeartbeats 4000000 in
set_option maxRecDepth 100000 in
theorem cC_Line_drop_12 (l : Launch) (D : va_G) (cs : Nat → ClassId) (ad : Nat → Nat) {M : px_M} {M' : px_M} (hf : fC_Line_drop_12 M = some M') : px_mV l D (tyC cs) (wC cs ad) yX2_drop cX2_drop 1 0 [.ref (ad 12)] M M' := by
  refine px_ofV (by decide +kernel) (Nat.le_of_ble_eq_true rfl) ?_
  intro p e s m below meth c A ls X hr hlk hml w hl
  have hl : lv_has ls 1 [(0, .ref (ad 12))] := hl
  unfold fC_Line_drop_12 at hf
  refine lv_aload_n X.1 X.2.1 dX2_drop_0 rfl (lv_at hl 0 rfl) ?_
  refine gtC_12_5 X w dX2_drop_1 ?_
  refine lv_if_le (tgt := 44) X.1 X.2.1 dX2_drop_4 (by decide) (fun c1 => ?_) (fun c1 => ?_)
  · have hf := px_ip c1 hf
    cases hf
    exact px_retV X hr hlk w dX2_drop_44
  · have hf := px_in c1 hf
    refine lv_aload_n X.1 X.2.1 dX2_drop_7 rfl (lv_at hl 0 rfl) ?_
    refine lv_aload_n X.1 X.2.1 dX2_drop_8 rfl (lv_at hl 0 rfl) ?_
    refine gtC_12_4 X w dX2_drop_9 ?_
    refine lv_iconst (v := (1 : Int32)) X.1 X.2.1 dX2_drop_12 (by decide) ?_
    refine lv_iadd X.1 X.2.1 dX2_drop_13 ?_
    refine lv_aload_n X.1 X.2.1 dX2_drop_14 rfl (lv_at hl 0 rfl) ?_
    refine gtC_12_0 X w dX2_drop_15 ?_
    refine lv_icmp_ge (tgt := 30) X.1 X.2.1 dX2_drop_18 (by decide) (fun c2 => ?_) (fun c2 => ?_)
    · have hf := px_ip c2 hf
      refine lv_iconst (v := (0 : Int32)) X.1 X.2.1 dX2_drop_30 (by decide) ?_
      refine ptC_12_4 X w dX2_drop_31 (fun H locs w => ?_)
      obtain ⟨M3, eM3, hf⟩ := px_bn_e hf
      rw [← eM3] at w
      refine lv_aload_n X.1 X.2.1 dX2_drop_34 rfl (lv_at hl 0 rfl) ?_
      refine lv_dup X.1 X.2.1 dX2_drop_35 rfl ?_
      refine gtC_12_5 X w dX2_drop_36 ?_
      refine lv_iconst (v := (1 : Int32)) X.1 X.2.1 dX2_drop_39 (by decide) ?_
      refine lv_isub X.1 X.2.1 dX2_drop_40 ?_
      refine ptC_12_5 X w dX2_drop_41 (fun H locs w => ?_)
      obtain ⟨M4, eM4, hf⟩ := px_bn_e hf
      rw [← eM4] at w
      cases hf
      exact px_retV X hr hlk w dX2_drop_44
    · have hf := px_in c2 hf
      refine lv_aload_n X.1 X.2.1 dX2_drop_21 rfl (lv_at hl 0 rfl) ?_
      refine gtC_12_4 X w dX2_drop_22 ?_
      refine lv_iconst (v := (1 : Int32)) X.1 X.2.1 dX2_drop_25 (by decide) ?_
      refine lv_iadd X.1 X.2.1 dX2_drop_26 ?_
      refine lv_goto (tgt := 31) X.1 X.2.1 dX2_drop_27 (by decide) ?_
      refine ptC_12_4 X w dX2_drop_31 (fun H locs w => ?_)
      obtain ⟨M5, eM5, hf⟩ := px_bn_e hf
      rw [← eM5] at w
      refine lv_aload_n X.1 X.2.1 dX2_drop_34 rfl (lv_at hl 0 rfl) ?_
      refine lv_dup X.1 X.2.1 dX2_drop_35 rfl ?_
      refine gtC_12_5 X w dX2_drop_36 ?_
      refine lv_iconst (v := (1 : Int32)) X.1 X.2.1 dX2_drop_39 (by decide) ?_
      refine lv_isub X.1 X.2.1 dX2_drop_40 ?_
      refine ptC_12_5 X w dX2_drop_41 (fun H locs w => ?_)
      obtain ⟨M6, eM6, hf⟩ := px_bn_e hf
      rw [← eM6] at w
      cases hf
      exact px_retV X hr hlk w dX2_drop_44
def fC_Line_size_16 (M : px_M) : Option Int32 := some (M 16 5)
set_option maxHeartbeats 4000000 in
set_option maxRecDepth 100000 in
theorem cC_Line_size_16 (l : Launch) (D : va_G) (cs : Nat → ClassId) (ad : Nat → Nat) {M : px_M} {r : Int32} (hf : fC_Line_size_16 M = some r) : px_mI l D (tyC cs) (wC cs ad) yX2_size cX2_size 1 (some .int) 0 [.ref (ad 16)] M r M := by
  refine px_ofI (by decide +kernel) (Nat.le_of_ble_eq_true rfl) ?_
  intro p e s m below meth c A ls X hr hlk hml w hl
  have hl : lv_has ls 1 [(0, .ref (ad 16))] := hl
  unfold fC_Line_size_16 at hf
  refine lv_aload_n X.1 X.2.1 dX2_size_0 rfl (lv_at hl 0 rfl) ?_
  refine gtC_16_5 X w dX2_size_1 ?_
  cases hf
  exact px_retI X hr hlk w dX2_size_4
def fC_Line_kind_16 (M : px_M) : Option Int32 := px_ck (M 16 4) 40 (some (M 17 (M 16 4).toNatClampNeg))
set_option maxHeartbeats 4000000 in
set_option maxRecDepth 100000 in
theorem cC_Line_kind_16 (l : Launch) (D : va_G) (cs : Nat → ClassId) (ad : Nat → Nat) {M : px_M} {r : Int32} (hf : fC_Line_kind_16 M = some r) : px_mI l D (tyC cs) (wC cs ad) yX2_kind cX2_kind 1 (some .int) 0 [.ref (ad 16)] M r M := by
  refine px_ofI (by decide +kernel) (Nat.le_of_ble_eq_true rfl) ?_
  intro p e s m below meth c A ls X hr hlk hml w hl
  have hl : lv_has ls 1 [(0, .ref (ad 16))] := hl
  unfold fC_Line_kind_16 at hf
  refine lv_aload_n X.1 X.2.1 dX2_kind_0 rfl (lv_at hl 0 rfl) ?_
  refine gtC_16_1 X w dX2_kind_1 ?_
  refine lv_aload_n X.1 X.2.1 dX2_kind_4 rfl (lv_at hl 0 rfl) ?_
  refine gtC_16_4 X w dX2_kind_5 ?_
  obtain ⟨b1, hf⟩ := px_ck_e hf
  refine ilC_17 X w b1 dX2_kind_8 ?_
  cases hf
  exact px_retI X hr hlk w dX2_kind_9
def fC_Line_subject_16 (M : px_M) : Option Int32 := px_ck (M 16 4) 40 (some (M 18 (M 16 4).toNatClampNeg))
set_option maxHeartbeats 4000000 in
set_option maxRecDepth 100000 in
theorem cC_Line_subject_16 (l : Launch) (D : va_G) (cs : Nat → ClassId) (ad : Nat → Nat) {M : px_M} {r : Int32} (hf : fC_Line_subject_16 M = some r) : px_mI l D (tyC cs) (wC cs ad) yX2_subject cX2_subject 1 (some .int) 0 [.ref (ad 16)] M r M := by
  refine px_ofI (by decide +kernel) (Nat.le_of_ble_eq_true rfl) ?_
  intro p e s m below meth c A ls X hr hlk hml w hl
  have hl : lv_has ls 1 [(0, .ref (ad 16))] := hl
  unfold fC_Line_subject_16 at hf
  refine lv_aload_n X.1 X.2.1 dX2_subject_0 rfl (lv_at hl 0 rfl) ?_
  refine gtC_16_2 X w dX2_subject_1 ?_
  refine lv_aload_n X.1 X.2.1 dX2_subject_4 rfl (lv_at hl 0 rfl) ?_
  refine gtC_16_4 X w dX2_subject_5 ?_
  obtain ⟨b1, hf⟩ := px_ck_e hf
  refine ilC_18 X w b1 dX2_subject_8 ?_
  cases hf
  exact px_retI X hr hlk w dX2_subject_9
def fC_Line_number_16 (M : px_M) : Option Int32 := px_ck (M 16 4) 40 (some (M 19 (M 16 4).toNatClampNeg))
set_option maxHeartbeats 4000000 in
set_option maxRecDepth 100000 in
theorem cC_Line_number_16 (l : Launch) (D : va_G) (cs : Nat → ClassId) (ad : Nat → Nat) {M : px_M} {r : Int32} (hf : fC_Line_number_16 M = some r) : px_mI l D (tyC cs) (wC cs ad) yX2_number cX2_number 1 (some .int) 0 [.ref (ad 16)] M r M := by
  refine px_ofI (by decide +kernel) (Nat.le_of_ble_eq_true rfl) ?_
  intro p e s m below meth c A ls X hr hlk hml w hl
  have hl : lv_has ls 1 [(0, .ref (ad 16))] := hl
  unfold fC_Line_number_16 at hf
  refine lv_aload_n X.1 X.2.1 dX2_number_0 rfl (lv_at hl 0 rfl) ?_
  refine gtC_16_3 X w dX2_number_1 ?_
  refine lv_aload_n X.1 X.2.1 dX2_number_4 rfl (lv_at hl 0 rfl) ?_
  refine gtC_16_4 X w dX2_number_5 ?_
  obtain ⟨b1, hf⟩ := px_ck_e hf
  refine ilC_19 X w b1 dX2_number_8 ?_
  cases hf
  exact px_retI X hr hlk w dX2_number_9
def fC_Line_put_16 (M : px_M) (p1 p2 p3 : Int32) : Option px_M := (if (M 16 5) < (M 16 0) then (if (M 16 0) ≤ ((M 16 4) + (M 16 5)) then px_bn ((((M 16 4) + (M 16 5)) - (M 16 0))) (fun x3 => px_ck x3 40 (px_bn (px_up M 17 x3.toNatClampNeg p1) (fun M5 => px_ck x3 40 (px_bn (px_up M5 18 x3.toNatClampNeg p2) (fun M7 => px_ck x3 40 (px_bn (px_up M7 19 x3.toNatClampNeg p3) (fun M9 => px_bn (px_up M9 16 5 ((M9 16 5) + (1 : Int32))) (fun M10 => some M10)))))))) else px_bn (((M 16 4) + (M 16 5))) (fun x11 => px_ck x11 40 (px_bn (px_up M 17 x11.toNatClampNeg p1) (fun M13 => px_ck x11 40 (px_bn (px_up M13 18 x11.toNatClampNeg p2) (fun M15 => px_ck x11 40 (px_bn (px_up M15 19 x11.toNatClampNeg p3) (fun M17 => px_bn (px_up M17 16 5 ((M17 16 5) + (1 : Int32))) (fun M18 => some M18))))))))) else some M)
set_option maxHeartbeats 4000000 in
set_option maxRecDepth 100000 in
theorem cC_Line_put_16 (l : Launch) (D : va_G) (cs : Nat → ClassId) (ad : Nat → Nat) {M : px_M} {p1 p2 p3 : Int32} {M' : px_M} (hf : fC_Line_put_16 M p1 p2 p3 = some M') : px_mV l D (tyC cs) (wC cs ad) yX2_put cX2_put 5 0 [.ref (ad 16), .int p1, .int p2, .int p3] M M' := by
  refine px_ofV (by decide +kernel) (Nat.le_of_ble_eq_true rfl) ?_
  intro p e s m below meth c A ls X hr hlk hml w hl
  have hl : lv_has ls 5 [(0, .ref (ad 16)), (1, .int p1), (2, .int p2), (3, .int p3)] := hl
  unfold fC_Line_put_16 at hf
  refine lv_aload_n X.1 X.2.1 dX2_put_0 rfl (lv_at hl 0 rfl) ?_
  refine gtC_16_5 X w dX2_put_1 ?_
  refine lv_aload_n X.1 X.2.1 dX2_put_4 rfl (lv_at hl 0 rfl) ?_
  refine gtC_16_0 X w dX2_put_5 ?_
  refine lv_icmp_lt (tgt := 12) X.1 X.2.1 dX2_put_8 (by decide) (fun c1 => ?_) (fun c1 => ?_)
  · have hf := px_ip c1 hf
    refine lv_aload_n X.1 X.2.1 dX2_put_12 rfl (lv_at hl 0 rfl) ?_
    refine gtC_16_4 X w dX2_put_13 ?_
    refine lv_aload_n X.1 X.2.1 dX2_put_16 rfl (lv_at hl 0 rfl) ?_
    refine gtC_16_5 X w dX2_put_17 ?_
    refine lv_iadd X.1 X.2.1 dX2_put_20 ?_
    refine lv_aload_n X.1 X.2.1 dX2_put_21 rfl (lv_at hl 0 rfl) ?_
    refine gtC_16_0 X w dX2_put_22 ?_
    refine lv_icmp_ge (tgt := 40) X.1 X.2.1 dX2_put_25 (by decide) (fun c2 => ?_) (fun c2 => ?_)
    · have hf := px_ip c2 hf
      refine lv_aload_n X.1 X.2.1 dX2_put_40 rfl (lv_at hl 0 rfl) ?_
      refine gtC_16_4 X w dX2_put_41 ?_
      refine lv_aload_n X.1 X.2.1 dX2_put_44 rfl (lv_at hl 0 rfl) ?_
      refine gtC_16_5 X w dX2_put_45 ?_
      refine lv_iadd X.1 X.2.1 dX2_put_48 ?_
      refine lv_aload_n X.1 X.2.1 dX2_put_49 rfl (lv_at hl 0 rfl) ?_
      refine gtC_16_0 X w dX2_put_50 ?_
      refine lv_isub X.1 X.2.1 dX2_put_53 ?_
      obtain ⟨x3, ex3, hf⟩ := px_bn_e hf
      rw [← ex3]
      refine lv_istore (lv' := [(4, .int x3), (0, .ref (ad 16)), (1, .int p1), (2, .int p2), (3, .int p3)]) X.1 X.2.1 dX2_put_54 hl (by decide) rfl (fun ls hl => ?_)
      refine lv_aload_n X.1 X.2.1 dX2_put_56 rfl (lv_at hl 1 rfl) ?_
      refine gtC_16_1 X w dX2_put_57 ?_
      refine lv_iload X.1 X.2.1 dX2_put_60 (lv_at hl 0 rfl) ?_
      refine lv_iload_n X.1 X.2.1 dX2_put_62 rfl (lv_at hl 2 rfl) ?_
      obtain ⟨b4, hf⟩ := px_ck_e hf
      refine isC_17 X w b4 dX2_put_63 (fun H locs w => ?_)
      obtain ⟨M5, eM5, hf⟩ := px_bn_e hf
      rw [← eM5] at w
      refine lv_aload_n X.1 X.2.1 dX2_put_64 rfl (lv_at hl 1 rfl) ?_
      refine gtC_16_2 X w dX2_put_65 ?_
      refine lv_iload X.1 X.2.1 dX2_put_68 (lv_at hl 0 rfl) ?_
      refine lv_iload_n X.1 X.2.1 dX2_put_70 rfl (lv_at hl 3 rfl) ?_
      obtain ⟨b6, hf⟩ := px_ck_e hf
      refine isC_18 X w b6 dX2_put_71 (fun H locs w => ?_)
      obtain ⟨M7, eM7, hf⟩ := px_bn_e hf
      rw [← eM7] at w
      refine lv_aload_n X.1 X.2.1 dX2_put_72 rfl (lv_at hl 1 rfl) ?_
      refine gtC_16_3 X w dX2_put_73 ?_
      refine lv_iload X.1 X.2.1 dX2_put_76 (lv_at hl 0 rfl) ?_
      refine lv_iload_n X.1 X.2.1 dX2_put_78 rfl (lv_at hl 4 rfl) ?_
      obtain ⟨b8, hf⟩ := px_ck_e hf
      refine isC_19 X w b8 dX2_put_79 (fun H locs w => ?_)
      obtain ⟨M9, eM9, hf⟩ := px_bn_e hf
      rw [← eM9] at w
      refine lv_aload_n X.1 X.2.1 dX2_put_80 rfl (lv_at hl 1 rfl) ?_
      refine lv_dup X.1 X.2.1 dX2_put_81 rfl ?_
      refine gtC_16_5 X w dX2_put_82 ?_
      refine lv_iconst (v := (1 : Int32)) X.1 X.2.1 dX2_put_85 (by decide) ?_
      refine lv_iadd X.1 X.2.1 dX2_put_86 ?_
      refine ptC_16_5 X w dX2_put_87 (fun H locs w => ?_)
      obtain ⟨M10, eM10, hf⟩ := px_bn_e hf
      rw [← eM10] at w
      cases hf
      exact px_retV X hr hlk w dX2_put_90
    · have hf := px_in c2 hf
      refine lv_aload_n X.1 X.2.1 dX2_put_28 rfl (lv_at hl 0 rfl) ?_
      refine gtC_16_4 X w dX2_put_29 ?_
      refine lv_aload_n X.1 X.2.1 dX2_put_32 rfl (lv_at hl 0 rfl) ?_
      refine gtC_16_5 X w dX2_put_33 ?_
      refine lv_iadd X.1 X.2.1 dX2_put_36 ?_
      refine lv_goto (tgt := 54) X.1 X.2.1 dX2_put_37 (by decide) ?_
      obtain ⟨x11, ex11, hf⟩ := px_bn_e hf
      rw [← ex11]
      refine lv_istore (lv' := [(4, .int x11), (0, .ref (ad 16)), (1, .int p1), (2, .int p2), (3, .int p3)]) X.1 X.2.1 dX2_put_54 hl (by decide) rfl (fun ls hl => ?_)
      refine lv_aload_n X.1 X.2.1 dX2_put_56 rfl (lv_at hl 1 rfl) ?_
      refine gtC_16_1 X w dX2_put_57 ?_
      refine lv_iload X.1 X.2.1 dX2_put_60 (lv_at hl 0 rfl) ?_
      refine lv_iload_n X.1 X.2.1 dX2_put_62 rfl (lv_at hl 2 rfl) ?_
      obtain ⟨b12, hf⟩ := px_ck_e hf
      refine isC_17 X w b12 dX2_put_63 (fun H locs w => ?_)
      obtain ⟨M13, eM13, hf⟩ := px_bn_e hf
      rw [← eM13] at w
      refine lv_aload_n X.1 X.2.1 dX2_put_64 rfl (lv_at hl 1 rfl) ?_
      refine gtC_16_2 X w dX2_put_65 ?_
      refine lv_iload X.1 X.2.1 dX2_put_68 (lv_at hl 0 rfl) ?_
      refine lv_iload_n X.1 X.2.1 dX2_put_70 rfl (lv_at hl 3 rfl) ?_
      obtain ⟨b14, hf⟩ := px_ck_e hf
      refine isC_18 X w b14 dX2_put_71 (fun H locs w => ?_)
      obtain ⟨M15, eM15, hf⟩ := px_bn_e hf
      rw [← eM15] at w
      refine lv_aload_n X.1 X.2.1 dX2_put_72 rfl (lv_at hl 1 rfl) ?_
      refine gtC_16_3 X w dX2_put_73 ?_
      refine lv_iload X.1 X.2.1 dX2_put_76 (lv_at hl 0 rfl) ?_
      refine lv_iload_n X.1 X.2.1 dX2_put_78 rfl (lv_at hl 4 rfl) ?_
      obtain ⟨b16, hf⟩ := px_ck_e hf
      refine isC_19 X w b16 dX2_put_79 (fun H locs w => ?_)
      obtain ⟨M17, eM17, hf⟩ := px_bn_e hf
      rw [← eM17] at w
      refine lv_aload_n X.1 X.2.1 dX2_put_80 rfl (lv_at hl 1 rfl) ?_
      refine lv_dup X.1 X.2.1 dX2_put_81 rfl ?_
      refine gtC_16_5 X w dX2_put_82 ?_
      refine lv_iconst (v := (1 : Int32)) X.1 X.2.1 dX2_put_85 (by decide) ?_
      refine lv_iadd X.1 X.2.1 dX2_put_86 ?_
      refine ptC_16_5 X w dX2_put_87 (fun H locs w => ?_)
      obtain ⟨M18, eM18, hf⟩ := px_bn_e hf
      rw [← eM18] at w
      cases hf
      exact px_retV X hr hlk w dX2_put_90
  · have hf := px_in c1 hf
    cases hf
    exact px_retV X hr hlk w dX2_put_11
def fC_Line_drop_16 (M : px_M) : Option px_M := (if (M 16 5) ≤ 0 then some M else (if (M 16 0) ≤ ((M 16 4) + (1 : Int32)) then px_bn (px_up M 16 4 (0 : Int32)) (fun M3 => px_bn (px_up M3 16 5 ((M3 16 5) - (1 : Int32))) (fun M4 => some M4)) else px_bn (px_up M 16 4 ((M 16 4) + (1 : Int32))) (fun M5 => px_bn (px_up M5 16 5 ((M5 16 5) - (1 : Int32))) (fun M6 => some M6))))
set_option maxHeartbeats 4000000 in
set_option maxRecDepth 100000 in
theorem cC_Line_drop_16 (l : Launch) (D : va_G) (cs : Nat → ClassId) (ad : Nat → Nat) {M : px_M} {M' : px_M} (hf : fC_Line_drop_16 M = some M') : px_mV l D (tyC cs) (wC cs ad) yX2_drop cX2_drop 1 0 [.ref (ad 16)] M M' := by
  refine px_ofV (by decide +kernel) (Nat.le_of_ble_eq_true rfl) ?_
  intro p e s m below meth c A ls X hr hlk hml w hl
  have hl : lv_has ls 1 [(0, .ref (ad 16))] := hl
  unfold fC_Line_drop_16 at hf
  refine lv_aload_n X.1 X.2.1 dX2_drop_0 rfl (lv_at hl 0 rfl) ?_
  refine gtC_16_5 X w dX2_drop_1 ?_
  refine lv_if_le (tgt := 44) X.1 X.2.1 dX2_drop_4 (by decide) (fun c1 => ?_) (fun c1 => ?_)
  · have hf := px_ip c1 hf
    cases hf
    exact px_retV X hr hlk w dX2_drop_44
  · have hf := px_in c1 hf
    refine lv_aload_n X.1 X.2.1 dX2_drop_7 rfl (lv_at hl 0 rfl) ?_
    refine lv_aload_n X.1 X.2.1 dX2_drop_8 rfl (lv_at hl 0 rfl) ?_
    refine gtC_16_4 X w dX2_drop_9 ?_
    refine lv_iconst (v := (1 : Int32)) X.1 X.2.1 dX2_drop_12 (by decide) ?_
    refine lv_iadd X.1 X.2.1 dX2_drop_13 ?_
    refine lv_aload_n X.1 X.2.1 dX2_drop_14 rfl (lv_at hl 0 rfl) ?_
    refine gtC_16_0 X w dX2_drop_15 ?_
    refine lv_icmp_ge (tgt := 30) X.1 X.2.1 dX2_drop_18 (by decide) (fun c2 => ?_) (fun c2 => ?_)
    · have hf := px_ip c2 hf
      refine lv_iconst (v := (0 : Int32)) X.1 X.2.1 dX2_drop_30 (by decide) ?_
      refine ptC_16_4 X w dX2_drop_31 (fun H locs w => ?_)
      obtain ⟨M3, eM3, hf⟩ := px_bn_e hf
      rw [← eM3] at w
      refine lv_aload_n X.1 X.2.1 dX2_drop_34 rfl (lv_at hl 0 rfl) ?_
      refine lv_dup X.1 X.2.1 dX2_drop_35 rfl ?_
      refine gtC_16_5 X w dX2_drop_36 ?_
      refine lv_iconst (v := (1 : Int32)) X.1 X.2.1 dX2_drop_39 (by decide) ?_
      refine lv_isub X.1 X.2.1 dX2_drop_40 ?_
      refine ptC_16_5 X w dX2_drop_41 (fun H locs w => ?_)
      obtain ⟨M4, eM4, hf⟩ := px_bn_e hf
      rw [← eM4] at w
      cases hf
      exact px_retV X hr hlk w dX2_drop_44
    · have hf := px_in c2 hf
      refine lv_aload_n X.1 X.2.1 dX2_drop_21 rfl (lv_at hl 0 rfl) ?_
      refine gtC_16_4 X w dX2_drop_22 ?_
      refine lv_iconst (v := (1 : Int32)) X.1 X.2.1 dX2_drop_25 (by decide) ?_
      refine lv_iadd X.1 X.2.1 dX2_drop_26 ?_
      refine lv_goto (tgt := 31) X.1 X.2.1 dX2_drop_27 (by decide) ?_
      refine ptC_16_4 X w dX2_drop_31 (fun H locs w => ?_)
      obtain ⟨M5, eM5, hf⟩ := px_bn_e hf
      rw [← eM5] at w
      refine lv_aload_n X.1 X.2.1 dX2_drop_34 rfl (lv_at hl 0 rfl) ?_
      refine lv_dup X.1 X.2.1 dX2_drop_35 rfl ?_
      refine gtC_16_5 X w dX2_drop_36 ?_
      refine lv_iconst (v := (1 : Int32)) X.1 X.2.1 dX2_drop_39 (by decide) ?_
      refine lv_isub X.1 X.2.1 dX2_drop_40 ?_
      refine ptC_16_5 X w dX2_drop_41 (fun H locs w => ?_)
      obtain ⟨M6, eM6, hf⟩ := px_bn_e hf
      rw [← eM6] at w
      cases hf
      exact px_retV X hr hlk w dX2_drop_44
def fC_Line_size_20 (M : px_M) : Option Int32 := some (M 20 5)
set_option maxHeartbeats 4000000 in
set_option maxRecDepth 100000 in
theorem cC_Line_size_20 (l : Launch) (D : va_G) (cs : Nat → ClassId) (ad : Nat → Nat) {M : px_M} {r : Int32} (hf : fC_Line_size_20 M = some r) : px_mI l D (tyC cs) (wC cs ad) yX2_size cX2_size 1 (some .int) 0 [.ref (ad 20)] M r M := by
  refine px_ofI (by decide +kernel) (Nat.le_of_ble_eq_true rfl) ?_
  intro p e s m below meth c A ls X hr hlk hml w hl
  have hl : lv_has ls 1 [(0, .ref (ad 20))] := hl
  unfold fC_Line_size_20 at hf
  refine lv_aload_n X.1 X.2.1 dX2_size_0 rfl (lv_at hl 0 rfl) ?_
  refine gtC_20_5 X w dX2_size_1 ?_
  cases hf
  exact px_retI X hr hlk w dX2_size_4
def fC_Line_kind_20 (M : px_M) : Option Int32 := px_ck (M 20 4) 180 (some (M 21 (M 20 4).toNatClampNeg))
set_option maxHeartbeats 4000000 in
set_option maxRecDepth 100000 in
theorem cC_Line_kind_20 (l : Launch) (D : va_G) (cs : Nat → ClassId) (ad : Nat → Nat) {M : px_M} {r : Int32} (hf : fC_Line_kind_20 M = some r) : px_mI l D (tyC cs) (wC cs ad) yX2_kind cX2_kind 1 (some .int) 0 [.ref (ad 20)] M r M := by
  refine px_ofI (by decide +kernel) (Nat.le_of_ble_eq_true rfl) ?_
  intro p e s m below meth c A ls X hr hlk hml w hl
  have hl : lv_has ls 1 [(0, .ref (ad 20))] := hl
  unfold fC_Line_kind_20 at hf
  refine lv_aload_n X.1 X.2.1 dX2_kind_0 rfl (lv_at hl 0 rfl) ?_
  refine gtC_20_1 X w dX2_kind_1 ?_
  refine lv_aload_n X.1 X.2.1 dX2_kind_4 rfl (lv_at hl 0 rfl) ?_
  refine gtC_20_4 X w dX2_kind_5 ?_
  obtain ⟨b1, hf⟩ := px_ck_e hf
  refine ilC_21 X w b1 dX2_kind_8 ?_
  cases hf
  exact px_retI X hr hlk w dX2_kind_9
def fC_Line_subject_20 (M : px_M) : Option Int32 := px_ck (M 20 4) 180 (some (M 22 (M 20 4).toNatClampNeg))
set_option maxHeartbeats 4000000 in
set_option maxRecDepth 100000 in
theorem cC_Line_subject_20 (l : Launch) (D : va_G) (cs : Nat → ClassId) (ad : Nat → Nat) {M : px_M} {r : Int32} (hf : fC_Line_subject_20 M = some r) : px_mI l D (tyC cs) (wC cs ad) yX2_subject cX2_subject 1 (some .int) 0 [.ref (ad 20)] M r M := by
  refine px_ofI (by decide +kernel) (Nat.le_of_ble_eq_true rfl) ?_
  intro p e s m below meth c A ls X hr hlk hml w hl
  have hl : lv_has ls 1 [(0, .ref (ad 20))] := hl
  unfold fC_Line_subject_20 at hf
  refine lv_aload_n X.1 X.2.1 dX2_subject_0 rfl (lv_at hl 0 rfl) ?_
  refine gtC_20_2 X w dX2_subject_1 ?_
  refine lv_aload_n X.1 X.2.1 dX2_subject_4 rfl (lv_at hl 0 rfl) ?_
  refine gtC_20_4 X w dX2_subject_5 ?_
  obtain ⟨b1, hf⟩ := px_ck_e hf
  refine ilC_22 X w b1 dX2_subject_8 ?_
  cases hf
  exact px_retI X hr hlk w dX2_subject_9
def fC_Line_number_20 (M : px_M) : Option Int32 := px_ck (M 20 4) 180 (some (M 23 (M 20 4).toNatClampNeg))
set_option maxHeartbeats 4000000 in
set_option maxRecDepth 100000 in
theorem cC_Line_number_20 (l : Launch) (D : va_G) (cs : Nat → ClassId) (ad : Nat → Nat) {M : px_M} {r : Int32} (hf : fC_Line_number_20 M = some r) : px_mI l D (tyC cs) (wC cs ad) yX2_number cX2_number 1 (some .int) 0 [.ref (ad 20)] M r M := by
  refine px_ofI (by decide +kernel) (Nat.le_of_ble_eq_true rfl) ?_
  intro p e s m below meth c A ls X hr hlk hml w hl
  have hl : lv_has ls 1 [(0, .ref (ad 20))] := hl
  unfold fC_Line_number_20 at hf
  refine lv_aload_n X.1 X.2.1 dX2_number_0 rfl (lv_at hl 0 rfl) ?_
  refine gtC_20_3 X w dX2_number_1 ?_
  refine lv_aload_n X.1 X.2.1 dX2_number_4 rfl (lv_at hl 0 rfl) ?_
  refine gtC_20_4 X w dX2_number_5 ?_
  obtain ⟨b1, hf⟩ := px_ck_e hf
  refine ilC_23 X w b1 dX2_number_8 ?_
  cases hf
  exact px_retI X hr hlk w dX2_number_9
def fC_Line_put_20 (M : px_M) (p1 p2 p3 : Int32) : Option px_M := (if (M 20 5) < (M 20 0) then (if (M 20 0) ≤ ((M 20 4) + (M 20 5)) then px_bn ((((M 20 4) + (M 20 5)) - (M 20 0))) (fun x3 => px_ck x3 180 (px_bn (px_up M 21 x3.toNatClampNeg p1) (fun M5 => px_ck x3 180 (px_bn (px_up M5 22 x3.toNatClampNeg p2) (fun M7 => px_ck x3 180 (px_bn (px_up M7 23 x3.toNatClampNeg p3) (fun M9 => px_bn (px_up M9 20 5 ((M9 20 5) + (1 : Int32))) (fun M10 => some M10)))))))) else px_bn (((M 20 4) + (M 20 5))) (fun x11 => px_ck x11 180 (px_bn (px_up M 21 x11.toNatClampNeg p1) (fun M13 => px_ck x11 180 (px_bn (px_up M13 22 x11.toNatClampNeg p2) (fun M15 => px_ck x11 180 (px_bn (px_up M15 23 x11.toNatClampNeg p3) (fun M17 => px_bn (px_up M17 20 5 ((M17 20 5) + (1 : Int32))) (fun M18 => some M18))))))))) else some M)
set_option maxHeartbeats 4000000 in
set_option maxRecDepth 100000 in
theorem cC_Line_put_20 (l : Launch) (D : va_G) (cs : Nat → ClassId) (ad : Nat → Nat) {M : px_M} {p1 p2 p3 : Int32} {M' : px_M} (hf : fC_Line_put_20 M p1 p2 p3 = some M') : px_mV l D (tyC cs) (wC cs ad) yX2_put cX2_put 5 0 [.ref (ad 20), .int p1, .int p2, .int p3] M M' := by
  refine px_ofV (by decide +kernel) (Nat.le_of_ble_eq_true rfl) ?_
  intro p e s m below meth c A ls X hr hlk hml w hl
  have hl : lv_has ls 5 [(0, .ref (ad 20)), (1, .int p1), (2, .int p2), (3, .int p3)] := hl
  unfold fC_Line_put_20 at hf
  refine lv_aload_n X.1 X.2.1 dX2_put_0 rfl (lv_at hl 0 rfl) ?_
  refine gtC_20_5 X w dX2_put_1 ?_
  refine lv_aload_n X.1 X.2.1 dX2_put_4 rfl (lv_at hl 0 rfl) ?_
  refine gtC_20_0 X w dX2_put_5 ?_
  refine lv_icmp_lt (tgt := 12) X.1 X.2.1 dX2_put_8 (by decide) (fun c1 => ?_) (fun c1 => ?_)
  · have hf := px_ip c1 hf
    refine lv_aload_n X.1 X.2.1 dX2_put_12 rfl (lv_at hl 0 rfl) ?_
    refine gtC_20_4 X w dX2_put_13 ?_
    refine lv_aload_n X.1 X.2.1 dX2_put_16 rfl (lv_at hl 0 rfl) ?_
    refine gtC_20_5 X w dX2_put_17 ?_
    refine lv_iadd X.1 X.2.1 dX2_put_20 ?_
    refine lv_aload_n X.1 X.2.1 dX2_put_21 rfl (lv_at hl 0 rfl) ?_
    refine gtC_20_0 X w dX2_put_22 ?_
    refine lv_icmp_ge (tgt := 40) X.1 X.2.1 dX2_put_25 (by decide) (fun c2 => ?_) (fun c2 => ?_)
    · have hf := px_ip c2 hf
      refine lv_aload_n X.1 X.2.1 dX2_put_40 rfl (lv_at hl 0 rfl) ?_
      refine gtC_20_4 X w dX2_put_41 ?_
      refine lv_aload_n X.1 X.2.1 dX2_put_44 rfl (lv_at hl 0 rfl) ?_
      refine gtC_20_5 X w dX2_put_45 ?_
      refine lv_iadd X.1 X.2.1 dX2_put_48 ?_
      refine lv_aload_n X.1 X.2.1 dX2_put_49 rfl (lv_at hl 0 rfl) ?_
      refine gtC_20_0 X w dX2_put_50 ?_
      refine lv_isub X.1 X.2.1 dX2_put_53 ?_
      obtain ⟨x3, ex3, hf⟩ := px_bn_e hf
      rw [← ex3]
      refine lv_istore (lv' := [(4, .int x3), (0, .ref (ad 20)), (1, .int p1), (2, .int p2), (3, .int p3)]) X.1 X.2.1 dX2_put_54 hl (by decide) rfl (fun ls hl => ?_)
      refine lv_aload_n X.1 X.2.1 dX2_put_56 rfl (lv_at hl 1 rfl) ?_
      refine gtC_20_1 X w dX2_put_57 ?_
      refine lv_iload X.1 X.2.1 dX2_put_60 (lv_at hl 0 rfl) ?_
      refine lv_iload_n X.1 X.2.1 dX2_put_62 rfl (lv_at hl 2 rfl) ?_
      obtain ⟨b4, hf⟩ := px_ck_e hf
      refine isC_21 X w b4 dX2_put_63 (fun H locs w => ?_)
      obtain ⟨M5, eM5, hf⟩ := px_bn_e hf
      rw [← eM5] at w
      refine lv_aload_n X.1 X.2.1 dX2_put_64 rfl (lv_at hl 1 rfl) ?_
      refine gtC_20_2 X w dX2_put_65 ?_
      refine lv_iload X.1 X.2.1 dX2_put_68 (lv_at hl 0 rfl) ?_
      refine lv_iload_n X.1 X.2.1 dX2_put_70 rfl (lv_at hl 3 rfl) ?_
      obtain ⟨b6, hf⟩ := px_ck_e hf
      refine isC_22 X w b6 dX2_put_71 (fun H locs w => ?_)
      obtain ⟨M7, eM7, hf⟩ := px_bn_e hf
      rw [← eM7] at w
      refine lv_aload_n X.1 X.2.1 dX2_put_72 rfl (lv_at hl 1 rfl) ?_
      refine gtC_20_3 X w dX2_put_73 ?_
      refine lv_iload X.1 X.2.1 dX2_put_76 (lv_at hl 0 rfl) ?_
      refine lv_iload_n X.1 X.2.1 dX2_put_78 rfl (lv_at hl 4 rfl) ?_
      obtain ⟨b8, hf⟩ := px_ck_e hf
      refine isC_23 X w b8 dX2_put_79 (fun H locs w => ?_)
      obtain ⟨M9, eM9, hf⟩ := px_bn_e hf
      rw [← eM9] at w
      refine lv_aload_n X.1 X.2.1 dX2_put_80 rfl (lv_at hl 1 rfl) ?_
      refine lv_dup X.1 X.2.1 dX2_put_81 rfl ?_
      refine gtC_20_5 X w dX2_put_82 ?_
      refine lv_iconst (v := (1 : Int32)) X.1 X.2.1 dX2_put_85 (by decide) ?_
      refine lv_iadd X.1 X.2.1 dX2_put_86 ?_
      refine ptC_20_5 X w dX2_put_87 (fun H locs w => ?_)
      obtain ⟨M10, eM10, hf⟩ := px_bn_e hf
      rw [← eM10] at w
      cases hf
      exact px_retV X hr hlk w dX2_put_90
    · have hf := px_in c2 hf
      refine lv_aload_n X.1 X.2.1 dX2_put_28 rfl (lv_at hl 0 rfl) ?_
      refine gtC_20_4 X w dX2_put_29 ?_
      refine lv_aload_n X.1 X.2.1 dX2_put_32 rfl (lv_at hl 0 rfl) ?_
      refine gtC_20_5 X w dX2_put_33 ?_
      refine lv_iadd X.1 X.2.1 dX2_put_36 ?_
      refine lv_goto (tgt := 54) X.1 X.2.1 dX2_put_37 (by decide) ?_
      obtain ⟨x11, ex11, hf⟩ := px_bn_e hf
      rw [← ex11]
      refine lv_istore (lv' := [(4, .int x11), (0, .ref (ad 20)), (1, .int p1), (2, .int p2), (3, .int p3)]) X.1 X.2.1 dX2_put_54 hl (by decide) rfl (fun ls hl => ?_)
      refine lv_aload_n X.1 X.2.1 dX2_put_56 rfl (lv_at hl 1 rfl) ?_
      refine gtC_20_1 X w dX2_put_57 ?_
      refine lv_iload X.1 X.2.1 dX2_put_60 (lv_at hl 0 rfl) ?_
      refine lv_iload_n X.1 X.2.1 dX2_put_62 rfl (lv_at hl 2 rfl) ?_
      obtain ⟨b12, hf⟩ := px_ck_e hf
      refine isC_21 X w b12 dX2_put_63 (fun H locs w => ?_)
      obtain ⟨M13, eM13, hf⟩ := px_bn_e hf
      rw [← eM13] at w
      refine lv_aload_n X.1 X.2.1 dX2_put_64 rfl (lv_at hl 1 rfl) ?_
      refine gtC_20_2 X w dX2_put_65 ?_
      refine lv_iload X.1 X.2.1 dX2_put_68 (lv_at hl 0 rfl) ?_
      refine lv_iload_n X.1 X.2.1 dX2_put_70 rfl (lv_at hl 3 rfl) ?_
      obtain ⟨b14, hf⟩ := px_ck_e hf
      refine isC_22 X w b14 dX2_put_71 (fun H locs w => ?_)
      obtain ⟨M15, eM15, hf⟩ := px_bn_e hf
      rw [← eM15] at w
      refine lv_aload_n X.1 X.2.1 dX2_put_72 rfl (lv_at hl 1 rfl) ?_
      refine gtC_20_3 X w dX2_put_73 ?_
      refine lv_iload X.1 X.2.1 dX2_put_76 (lv_at hl 0 rfl) ?_
      refine lv_iload_n X.1 X.2.1 dX2_put_78 rfl (lv_at hl 4 rfl) ?_
      obtain ⟨b16, hf⟩ := px_ck_e hf
      refine isC_23 X w b16 dX2_put_79 (fun H locs w => ?_)
      obtain ⟨M17, eM17, hf⟩ := px_bn_e hf
      rw [← eM17] at w
      refine lv_aload_n X.1 X.2.1 dX2_put_80 rfl (lv_at hl 1 rfl) ?_
      refine lv_dup X.1 X.2.1 dX2_put_81 rfl ?_
      refine gtC_20_5 X w dX2_put_82 ?_
      refine lv_iconst (v := (1 : Int32)) X.1 X.2.1 dX2_put_85 (by decide) ?_
      refine lv_iadd X.1 X.2.1 dX2_put_86 ?_
      refine ptC_20_5 X w dX2_put_87 (fun H locs w => ?_)
      obtain ⟨M18, eM18, hf⟩ := px_bn_e hf
      rw [← eM18] at w
      cases hf
      exact px_retV X hr hlk w dX2_put_90
  · have hf := px_in c1 hf
    cases hf
    exact px_retV X hr hlk w dX2_put_11
def fC_Line_drop_20 (M : px_M) : Option px_M := (if (M 20 5) ≤ 0 then some M else (if (M 20 0) ≤ ((M 20 4) + (1 : Int32)) then px_bn (px_up M 20 4 (0 : Int32)) (fun M3 => px_bn (px_up M3 20 5 ((M3 20 5) - (1 : Int32))) (fun M4 => some M4)) else px_bn (px_up M 20 4 ((M 20 4) + (1 : Int32))) (fun M5 => px_bn (px_up M5 20 5 ((M5 20 5) - (1 : Int32))) (fun M6 => some M6))))
set_option maxHeartbeats 4000000 in
set_option maxRecDepth 100000 in
theorem cC_Line_drop_20 (l : Launch) (D : va_G) (cs : Nat → ClassId) (ad : Nat → Nat) {M : px_M} {M' : px_M} (hf : fC_Line_drop_20 M = some M') : px_mV l D (tyC cs) (wC cs ad) yX2_drop cX2_drop 1 0 [.ref (ad 20)] M M' := by
  refine px_ofV (by decide +kernel) (Nat.le_of_ble_eq_true rfl) ?_
  intro p e s m below meth c A ls X hr hlk hml w hl
  have hl : lv_has ls 1 [(0, .ref (ad 20))] := hl
  unfold fC_Line_drop_20 at hf
  refine lv_aload_n X.1 X.2.1 dX2_drop_0 rfl (lv_at hl 0 rfl) ?_
  refine gtC_20_5 X w dX2_drop_1 ?_
  refine lv_if_le (tgt := 44) X.1 X.2.1 dX2_drop_4 (by decide) (fun c1 => ?_) (fun c1 => ?_)
  · have hf := px_ip c1 hf
    cases hf
    exact px_retV X hr hlk w dX2_drop_44
  · have hf := px_in c1 hf
    refine lv_aload_n X.1 X.2.1 dX2_drop_7 rfl (lv_at hl 0 rfl) ?_
    refine lv_aload_n X.1 X.2.1 dX2_drop_8 rfl (lv_at hl 0 rfl) ?_
    refine gtC_20_4 X w dX2_drop_9 ?_
    refine lv_iconst (v := (1 : Int32)) X.1 X.2.1 dX2_drop_12 (by decide) ?_
    refine lv_iadd X.1 X.2.1 dX2_drop_13 ?_
    refine lv_aload_n X.1 X.2.1 dX2_drop_14 rfl (lv_at hl 0 rfl) ?_
    refine gtC_20_0 X w dX2_drop_15 ?_
    refine lv_icmp_ge (tgt := 30) X.1 X.2.1 dX2_drop_18 (by decide) (fun c2 => ?_) (fun c2 => ?_)
    · have hf := px_ip c2 hf
      refine lv_iconst (v := (0 : Int32)) X.1 X.2.1 dX2_drop_30 (by decide) ?_
      refine ptC_20_4 X w dX2_drop_31 (fun H locs w => ?_)
      obtain ⟨M3, eM3, hf⟩ := px_bn_e hf
      rw [← eM3] at w
      refine lv_aload_n X.1 X.2.1 dX2_drop_34 rfl (lv_at hl 0 rfl) ?_
      refine lv_dup X.1 X.2.1 dX2_drop_35 rfl ?_
      refine gtC_20_5 X w dX2_drop_36 ?_
      refine lv_iconst (v := (1 : Int32)) X.1 X.2.1 dX2_drop_39 (by decide) ?_
      refine lv_isub X.1 X.2.1 dX2_drop_40 ?_
      refine ptC_20_5 X w dX2_drop_41 (fun H locs w => ?_)
      obtain ⟨M4, eM4, hf⟩ := px_bn_e hf
      rw [← eM4] at w
      cases hf
      exact px_retV X hr hlk w dX2_drop_44
    · have hf := px_in c2 hf
      refine lv_aload_n X.1 X.2.1 dX2_drop_21 rfl (lv_at hl 0 rfl) ?_
      refine gtC_20_4 X w dX2_drop_22 ?_
      refine lv_iconst (v := (1 : Int32)) X.1 X.2.1 dX2_drop_25 (by decide) ?_
      refine lv_iadd X.1 X.2.1 dX2_drop_26 ?_
      refine lv_goto (tgt := 31) X.1 X.2.1 dX2_drop_27 (by decide) ?_
      refine ptC_20_4 X w dX2_drop_31 (fun H locs w => ?_)
      obtain ⟨M5, eM5, hf⟩ := px_bn_e hf
      rw [← eM5] at w
      refine lv_aload_n X.1 X.2.1 dX2_drop_34 rfl (lv_at hl 0 rfl) ?_
      refine lv_dup X.1 X.2.1 dX2_drop_35 rfl ?_
      refine gtC_20_5 X w dX2_drop_36 ?_
      refine lv_iconst (v := (1 : Int32)) X.1 X.2.1 dX2_drop_39 (by decide) ?_
      refine lv_isub X.1 X.2.1 dX2_drop_40 ?_
      refine ptC_20_5 X w dX2_drop_41 (fun H locs w => ?_)
      obtain ⟨M6, eM6, hf⟩ := px_bn_e hf
      rw [← eM6] at w
      cases hf
      exact px_retV X hr hlk w dX2_drop_44
def fC_Line_size_24 (M : px_M) : Option Int32 := some (M 24 5)
set_option maxHeartbeats 4000000 in
set_option maxRecDepth 100000 in
theorem cC_Line_size_24 (l : Launch) (D : va_G) (cs : Nat → ClassId) (ad : Nat → Nat) {M : px_M} {r : Int32} (hf : fC_Line_size_24 M = some r) : px_mI l D (tyC cs) (wC cs ad) yX2_size cX2_size 1 (some .int) 0 [.ref (ad 24)] M r M := by
  refine px_ofI (by decide +kernel) (Nat.le_of_ble_eq_true rfl) ?_
  intro p e s m below meth c A ls X hr hlk hml w hl
  have hl : lv_has ls 1 [(0, .ref (ad 24))] := hl
  unfold fC_Line_size_24 at hf
  refine lv_aload_n X.1 X.2.1 dX2_size_0 rfl (lv_at hl 0 rfl) ?_
  refine gtC_24_5 X w dX2_size_1 ?_
  cases hf
  exact px_retI X hr hlk w dX2_size_4
def fC_Line_kind_24 (M : px_M) : Option Int32 := px_ck (M 24 4) 8 (some (M 25 (M 24 4).toNatClampNeg))
set_option maxHeartbeats 4000000 in
set_option maxRecDepth 100000 in
theorem cC_Line_kind_24 (l : Launch) (D : va_G) (cs : Nat → ClassId) (ad : Nat → Nat) {M : px_M} {r : Int32} (hf : fC_Line_kind_24 M = some r) : px_mI l D (tyC cs) (wC cs ad) yX2_kind cX2_kind 1 (some .int) 0 [.ref (ad 24)] M r M := by
  refine px_ofI (by decide +kernel) (Nat.le_of_ble_eq_true rfl) ?_
  intro p e s m below meth c A ls X hr hlk hml w hl
  have hl : lv_has ls 1 [(0, .ref (ad 24))] := hl
  unfold fC_Line_kind_24 at hf
  refine lv_aload_n X.1 X.2.1 dX2_kind_0 rfl (lv_at hl 0 rfl) ?_
  refine gtC_24_1 X w dX2_kind_1 ?_
  refine lv_aload_n X.1 X.2.1 dX2_kind_4 rfl (lv_at hl 0 rfl) ?_
  refine gtC_24_4 X w dX2_kind_5 ?_
  obtain ⟨b1, hf⟩ := px_ck_e hf
  refine ilC_25 X w b1 dX2_kind_8 ?_
  cases hf
  exact px_retI X hr hlk w dX2_kind_9
def fC_Line_subject_24 (M : px_M) : Option Int32 := px_ck (M 24 4) 8 (some (M 26 (M 24 4).toNatClampNeg))
set_option maxHeartbeats 4000000 in
set_option maxRecDepth 100000 in
theorem cC_Line_subject_24 (l : Launch) (D : va_G) (cs : Nat → ClassId) (ad : Nat → Nat) {M : px_M} {r : Int32} (hf : fC_Line_subject_24 M = some r) : px_mI l D (tyC cs) (wC cs ad) yX2_subject cX2_subject 1 (some .int) 0 [.ref (ad 24)] M r M := by
  refine px_ofI (by decide +kernel) (Nat.le_of_ble_eq_true rfl) ?_
  intro p e s m below meth c A ls X hr hlk hml w hl
  have hl : lv_has ls 1 [(0, .ref (ad 24))] := hl
  unfold fC_Line_subject_24 at hf
  refine lv_aload_n X.1 X.2.1 dX2_subject_0 rfl (lv_at hl 0 rfl) ?_
  refine gtC_24_2 X w dX2_subject_1 ?_
  refine lv_aload_n X.1 X.2.1 dX2_subject_4 rfl (lv_at hl 0 rfl) ?_
  refine gtC_24_4 X w dX2_subject_5 ?_
  obtain ⟨b1, hf⟩ := px_ck_e hf
  refine ilC_26 X w b1 dX2_subject_8 ?_
  cases hf
  exact px_retI X hr hlk w dX2_subject_9
def fC_Line_number_24 (M : px_M) : Option Int32 := px_ck (M 24 4) 8 (some (M 27 (M 24 4).toNatClampNeg))
set_option maxHeartbeats 4000000 in
set_option maxRecDepth 100000 in
theorem cC_Line_number_24 (l : Launch) (D : va_G) (cs : Nat → ClassId) (ad : Nat → Nat) {M : px_M} {r : Int32} (hf : fC_Line_number_24 M = some r) : px_mI l D (tyC cs) (wC cs ad) yX2_number cX2_number 1 (some .int) 0 [.ref (ad 24)] M r M := by
  refine px_ofI (by decide +kernel) (Nat.le_of_ble_eq_true rfl) ?_
  intro p e s m below meth c A ls X hr hlk hml w hl
  have hl : lv_has ls 1 [(0, .ref (ad 24))] := hl
  unfold fC_Line_number_24 at hf
  refine lv_aload_n X.1 X.2.1 dX2_number_0 rfl (lv_at hl 0 rfl) ?_
  refine gtC_24_3 X w dX2_number_1 ?_
  refine lv_aload_n X.1 X.2.1 dX2_number_4 rfl (lv_at hl 0 rfl) ?_
  refine gtC_24_4 X w dX2_number_5 ?_
  obtain ⟨b1, hf⟩ := px_ck_e hf
  refine ilC_27 X w b1 dX2_number_8 ?_
  cases hf
  exact px_retI X hr hlk w dX2_number_9
def fC_Line_put_24 (M : px_M) (p1 p2 p3 : Int32) : Option px_M := (if (M 24 5) < (M 24 0) then (if (M 24 0) ≤ ((M 24 4) + (M 24 5)) then px_bn ((((M 24 4) + (M 24 5)) - (M 24 0))) (fun x3 => px_ck x3 8 (px_bn (px_up M 25 x3.toNatClampNeg p1) (fun M5 => px_ck x3 8 (px_bn (px_up M5 26 x3.toNatClampNeg p2) (fun M7 => px_ck x3 8 (px_bn (px_up M7 27 x3.toNatClampNeg p3) (fun M9 => px_bn (px_up M9 24 5 ((M9 24 5) + (1 : Int32))) (fun M10 => some M10)))))))) else px_bn (((M 24 4) + (M 24 5))) (fun x11 => px_ck x11 8 (px_bn (px_up M 25 x11.toNatClampNeg p1) (fun M13 => px_ck x11 8 (px_bn (px_up M13 26 x11.toNatClampNeg p2) (fun M15 => px_ck x11 8 (px_bn (px_up M15 27 x11.toNatClampNeg p3) (fun M17 => px_bn (px_up M17 24 5 ((M17 24 5) + (1 : Int32))) (fun M18 => some M18))))))))) else some M)
set_option maxHeartbeats 4000000 in
set_option maxRecDepth 100000 in
theorem cC_Line_put_24 (l : Launch) (D : va_G) (cs : Nat → ClassId) (ad : Nat → Nat) {M : px_M} {p1 p2 p3 : Int32} {M' : px_M} (hf : fC_Line_put_24 M p1 p2 p3 = some M') : px_mV l D (tyC cs) (wC cs ad) yX2_put cX2_put 5 0 [.ref (ad 24), .int p1, .int p2, .int p3] M M' := by
  refine px_ofV (by decide +kernel) (Nat.le_of_ble_eq_true rfl) ?_
  intro p e s m below meth c A ls X hr hlk hml w hl
  have hl : lv_has ls 5 [(0, .ref (ad 24)), (1, .int p1), (2, .int p2), (3, .int p3)] := hl
  unfold fC_Line_put_24 at hf
  refine lv_aload_n X.1 X.2.1 dX2_put_0 rfl (lv_at hl 0 rfl) ?_
  refine gtC_24_5 X w dX2_put_1 ?_
  refine lv_aload_n X.1 X.2.1 dX2_put_4 rfl (lv_at hl 0 rfl) ?_
  refine gtC_24_0 X w dX2_put_5 ?_
  refine lv_icmp_lt (tgt := 12) X.1 X.2.1 dX2_put_8 (by decide) (fun c1 => ?_) (fun c1 => ?_)
  · have hf := px_ip c1 hf
    refine lv_aload_n X.1 X.2.1 dX2_put_12 rfl (lv_at hl 0 rfl) ?_
    refine gtC_24_4 X w dX2_put_13 ?_
    refine lv_aload_n X.1 X.2.1 dX2_put_16 rfl (lv_at hl 0 rfl) ?_
    refine gtC_24_5 X w dX2_put_17 ?_
    refine lv_iadd X.1 X.2.1 dX2_put_20 ?_
    refine lv_aload_n X.1 X.2.1 dX2_put_21 rfl (lv_at hl 0 rfl) ?_
    refine gtC_24_0 X w dX2_put_22 ?_
    refine lv_icmp_ge (tgt := 40) X.1 X.2.1 dX2_put_25 (by decide) (fun c2 => ?_) (fun c2 => ?_)
    · have hf := px_ip c2 hf
      refine lv_aload_n X.1 X.2.1 dX2_put_40 rfl (lv_at hl 0 rfl) ?_
      refine gtC_24_4 X w dX2_put_41 ?_
      refine lv_aload_n X.1 X.2.1 dX2_put_44 rfl (lv_at hl 0 rfl) ?_
      refine gtC_24_5 X w dX2_put_45 ?_
      refine lv_iadd X.1 X.2.1 dX2_put_48 ?_
      refine lv_aload_n X.1 X.2.1 dX2_put_49 rfl (lv_at hl 0 rfl) ?_
      refine gtC_24_0 X w dX2_put_50 ?_
      refine lv_isub X.1 X.2.1 dX2_put_53 ?_
      obtain ⟨x3, ex3, hf⟩ := px_bn_e hf
      rw [← ex3]
      refine lv_istore (lv' := [(4, .int x3), (0, .ref (ad 24)), (1, .int p1), (2, .int p2), (3, .int p3)]) X.1 X.2.1 dX2_put_54 hl (by decide) rfl (fun ls hl => ?_)
      refine lv_aload_n X.1 X.2.1 dX2_put_56 rfl (lv_at hl 1 rfl) ?_
      refine gtC_24_1 X w dX2_put_57 ?_
      refine lv_iload X.1 X.2.1 dX2_put_60 (lv_at hl 0 rfl) ?_
      refine lv_iload_n X.1 X.2.1 dX2_put_62 rfl (lv_at hl 2 rfl) ?_
      obtain ⟨b4, hf⟩ := px_ck_e hf
      refine isC_25 X w b4 dX2_put_63 (fun H locs w => ?_)
      obtain ⟨M5, eM5, hf⟩ := px_bn_e hf
      rw [← eM5] at w
      refine lv_aload_n X.1 X.2.1 dX2_put_64 rfl (lv_at hl 1 rfl) ?_
      refine gtC_24_2 X w dX2_put_65 ?_
      refine lv_iload X.1 X.2.1 dX2_put_68 (lv_at hl 0 rfl) ?_
      refine lv_iload_n X.1 X.2.1 dX2_put_70 rfl (lv_at hl 3 rfl) ?_
      obtain ⟨b6, hf⟩ := px_ck_e hf
      refine isC_26 X w b6 dX2_put_71 (fun H locs w => ?_)
      obtain ⟨M7, eM7, hf⟩ := px_bn_e hf
      rw [← eM7] at w
      refine lv_aload_n X.1 X.2.1 dX2_put_72 rfl (lv_at hl 1 rfl) ?_
      refine gtC_24_3 X w dX2_put_73 ?_
      refine lv_iload X.1 X.2.1 dX2_put_76 (lv_at hl 0 rfl) ?_
      refine lv_iload_n X.1 X.2.1 dX2_put_78 rfl (lv_at hl 4 rfl) ?_
      obtain ⟨b8, hf⟩ := px_ck_e hf
      refine isC_27 X w b8 dX2_put_79 (fun H locs w => ?_)
      obtain ⟨M9, eM9, hf⟩ := px_bn_e hf
      rw [← eM9] at w
      refine lv_aload_n X.1 X.2.1 dX2_put_80 rfl (lv_at hl 1 rfl) ?_
      refine lv_dup X.1 X.2.1 dX2_put_81 rfl ?_
      refine gtC_24_5 X w dX2_put_82 ?_
      refine lv_iconst (v := (1 : Int32)) X.1 X.2.1 dX2_put_85 (by decide) ?_
      refine lv_iadd X.1 X.2.1 dX2_put_86 ?_
      refine ptC_24_5 X w dX2_put_87 (fun H locs w => ?_)
      obtain ⟨M10, eM10, hf⟩ := px_bn_e hf
      rw [← eM10] at w
      cases hf
      exact px_retV X hr hlk w dX2_put_90
    · have hf := px_in c2 hf
      refine lv_aload_n X.1 X.2.1 dX2_put_28 rfl (lv_at hl 0 rfl) ?_
      refine gtC_24_4 X w dX2_put_29 ?_
      refine lv_aload_n X.1 X.2.1 dX2_put_32 rfl (lv_at hl 0 rfl) ?_
      refine gtC_24_5 X w dX2_put_33 ?_
      refine lv_iadd X.1 X.2.1 dX2_put_36 ?_
      refine lv_goto (tgt := 54) X.1 X.2.1 dX2_put_37 (by decide) ?_
      obtain ⟨x11, ex11, hf⟩ := px_bn_e hf
      rw [← ex11]
      refine lv_istore (lv' := [(4, .int x11), (0, .ref (ad 24)), (1, .int p1), (2, .int p2), (3, .int p3)]) X.1 X.2.1 dX2_put_54 hl (by decide) rfl (fun ls hl => ?_)
      refine lv_aload_n X.1 X.2.1 dX2_put_56 rfl (lv_at hl 1 rfl) ?_
      refine gtC_24_1 X w dX2_put_57 ?_
      refine lv_iload X.1 X.2.1 dX2_put_60 (lv_at hl 0 rfl) ?_
      refine lv_iload_n X.1 X.2.1 dX2_put_62 rfl (lv_at hl 2 rfl) ?_
      obtain ⟨b12, hf⟩ := px_ck_e hf
      refine isC_25 X w b12 dX2_put_63 (fun H locs w => ?_)
      obtain ⟨M13, eM13, hf⟩ := px_bn_e hf
      rw [← eM13] at w
      refine lv_aload_n X.1 X.2.1 dX2_put_64 rfl (lv_at hl 1 rfl) ?_
      refine gtC_24_2 X w dX2_put_65 ?_
      refine lv_iload X.1 X.2.1 dX2_put_68 (lv_at hl 0 rfl) ?_
      refine lv_iload_n X.1 X.2.1 dX2_put_70 rfl (lv_at hl 3 rfl) ?_
      obtain ⟨b14, hf⟩ := px_ck_e hf
      refine isC_26 X w b14 dX2_put_71 (fun H locs w => ?_)
      obtain ⟨M15, eM15, hf⟩ := px_bn_e hf
      rw [← eM15] at w
      refine lv_aload_n X.1 X.2.1 dX2_put_72 rfl (lv_at hl 1 rfl) ?_
      refine gtC_24_3 X w dX2_put_73 ?_
      refine lv_iload X.1 X.2.1 dX2_put_76 (lv_at hl 0 rfl) ?_
      refine lv_iload_n X.1 X.2.1 dX2_put_78 rfl (lv_at hl 4 rfl) ?_
      obtain ⟨b16, hf⟩ := px_ck_e hf
      refine isC_27 X w b16 dX2_put_79 (fun H locs w => ?_)
      obtain ⟨M17, eM17, hf⟩ := px_bn_e hf
      rw [← eM17] at w
      refine lv_aload_n X.1 X.2.1 dX2_put_80 rfl (lv_at hl 1 rfl) ?_
      refine lv_dup X.1 X.2.1 dX2_put_81 rfl ?_
      refine gtC_24_5 X w dX2_put_82 ?_
      refine lv_iconst (v := (1 : Int32)) X.1 X.2.1 dX2_put_85 (by decide) ?_
      refine lv_iadd X.1 X.2.1 dX2_put_86 ?_
      refine ptC_24_5 X w dX2_put_87 (fun H locs w => ?_)
      obtain ⟨M18, eM18, hf⟩ := px_bn_e hf
      rw [← eM18] at w
      cases hf
      exact px_retV X hr hlk w dX2_put_90
  · have hf := px_in c1 hf
    cases hf
    exact px_retV X hr hlk w dX2_put_11
def fC_Line_drop_24 (M : px_M) : Option px_M := (if (M 24 5) ≤ 0 then some M else (if (M 24 0) ≤ ((M 24 4) + (1 : Int32)) then px_bn (px_up M 24 4 (0 : Int32)) (fun M3 => px_bn (px_up M3 24 5 ((M3 24 5) - (1 : Int32))) (fun M4 => some M4)) else px_bn (px_up M 24 4 ((M 24 4) + (1 : Int32))) (fun M5 => px_bn (px_up M5 24 5 ((M5 24 5) - (1 : Int32))) (fun M6 => some M6))))
set_option maxHeartbeats 4000000 in
set_option maxRecDepth 100000 in
theorem cC_Line_drop_24 (l : Launch) (D : va_G) (cs : Nat → ClassId) (ad : Nat → Nat) {M : px_M} {M' : px_M} (hf : fC_Line_drop_24 M = some M') : px_mV l D (tyC cs) (wC cs ad) yX2_drop cX2_drop 1 0 [.ref (ad 24)] M M' := by
  refine px_ofV (by decide +kernel) (Nat.le_of_ble_eq_true rfl) ?_
  intro p e s m below meth c A ls X hr hlk hml w hl
  have hl : lv_has ls 1 [(0, .ref (ad 24))] := hl
  unfold fC_Line_drop_24 at hf
  refine lv_aload_n X.1 X.2.1 dX2_drop_0 rfl (lv_at hl 0 rfl) ?_
  refine gtC_24_5 X w dX2_drop_1 ?_
  refine lv_if_le (tgt := 44) X.1 X.2.1 dX2_drop_4 (by decide) (fun c1 => ?_) (fun c1 => ?_)
  · have hf := px_ip c1 hf
    cases hf
    exact px_retV X hr hlk w dX2_drop_44
  · have hf := px_in c1 hf
    refine lv_aload_n X.1 X.2.1 dX2_drop_7 rfl (lv_at hl 0 rfl) ?_
    refine lv_aload_n X.1 X.2.1 dX2_drop_8 rfl (lv_at hl 0 rfl) ?_
    refine gtC_24_4 X w dX2_drop_9 ?_
    refine lv_iconst (v := (1 : Int32)) X.1 X.2.1 dX2_drop_12 (by decide) ?_
    refine lv_iadd X.1 X.2.1 dX2_drop_13 ?_
    refine lv_aload_n X.1 X.2.1 dX2_drop_14 rfl (lv_at hl 0 rfl) ?_
    refine gtC_24_0 X w dX2_drop_15 ?_
    refine lv_icmp_ge (tgt := 30) X.1 X.2.1 dX2_drop_18 (by decide) (fun c2 => ?_) (fun c2 => ?_)
    · have hf := px_ip c2 hf
      refine lv_iconst (v := (0 : Int32)) X.1 X.2.1 dX2_drop_30 (by decide) ?_
      refine ptC_24_4 X w dX2_drop_31 (fun H locs w => ?_)
      obtain ⟨M3, eM3, hf⟩ := px_bn_e hf
      rw [← eM3] at w
      refine lv_aload_n X.1 X.2.1 dX2_drop_34 rfl (lv_at hl 0 rfl) ?_
      refine lv_dup X.1 X.2.1 dX2_drop_35 rfl ?_
      refine gtC_24_5 X w dX2_drop_36 ?_
      refine lv_iconst (v := (1 : Int32)) X.1 X.2.1 dX2_drop_39 (by decide) ?_
      refine lv_isub X.1 X.2.1 dX2_drop_40 ?_
      refine ptC_24_5 X w dX2_drop_41 (fun H locs w => ?_)
      obtain ⟨M4, eM4, hf⟩ := px_bn_e hf
      rw [← eM4] at w
      cases hf
      exact px_retV X hr hlk w dX2_drop_44
    · have hf := px_in c2 hf
      refine lv_aload_n X.1 X.2.1 dX2_drop_21 rfl (lv_at hl 0 rfl) ?_
      refine gtC_24_4 X w dX2_drop_22 ?_
      refine lv_iconst (v := (1 : Int32)) X.1 X.2.1 dX2_drop_25 (by decide) ?_
      refine lv_iadd X.1 X.2.1 dX2_drop_26 ?_
      refine lv_goto (tgt := 31) X.1 X.2.1 dX2_drop_27 (by decide) ?_
      refine ptC_24_4 X w dX2_drop_31 (fun H locs w => ?_)
      obtain ⟨M5, eM5, hf⟩ := px_bn_e hf
      rw [← eM5] at w
      refine lv_aload_n X.1 X.2.1 dX2_drop_34 rfl (lv_at hl 0 rfl) ?_
      refine lv_dup X.1 X.2.1 dX2_drop_35 rfl ?_
      refine gtC_24_5 X w dX2_drop_36 ?_
      refine lv_iconst (v := (1 : Int32)) X.1 X.2.1 dX2_drop_39 (by decide) ?_
      refine lv_isub X.1 X.2.1 dX2_drop_40 ?_
      refine ptC_24_5 X w dX2_drop_41 (fun H locs w => ?_)
      obtain ⟨M6, eM6, hf⟩ := px_bn_e hf
      rw [← eM6] at w
      cases hf
      exact px_retV X hr hlk w dX2_drop_44
