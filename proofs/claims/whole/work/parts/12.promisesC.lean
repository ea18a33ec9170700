def fC_Promises_size (M : px_M) : Option Int32 := some (M 32 7)
set_option maxHeartbeats 4000000 in
set_option maxRecDepth 100000 in
theorem cC_Promises_size (l : Launch) (D : va_G) (cs : Nat → ClassId) (ad : Nat → Nat) {M : px_M} {r : Int32} (hf : fC_Promises_size M = some r) : px_mI l D (tyC cs) (wC cs ad) yX3_size cX3_size 1 (some .int) 0 [.ref (ad 32)] M r M := by
  refine px_ofI (by decide +kernel) (Nat.le_of_ble_eq_true rfl) ?_
  intro p e s m below meth c A ls X hr hlk hml w hl
  have hl : lv_has ls 1 [(0, .ref (ad 32))] := hl
  unfold fC_Promises_size at hf
  refine lv_aload_n X.1 X.2.1 dX3_size_0 rfl (lv_at hl 0 rfl) ?_
  refine gtC_32_7 X w dX3_size_1 ?_
  cases hf
  exact px_retI X hr hlk w dX3_size_4
def fC_Promises_has (M : px_M) (p1 : Int32) : Option Int32 := (if p1 < 0 then some (0 : Int32) else (if (M 32 7) ≤ p1 then some (0 : Int32) else some (1 : Int32)))
set_option maxHeartbeats 4000000 in
set_option maxRecDepth 100000 in
theorem cC_Promises_has (l : Launch) (D : va_G) (cs : Nat → ClassId) (ad : Nat → Nat) {M : px_M} {p1 : Int32} {r : Int32} (hf : fC_Promises_has M p1 = some r) : px_mI l D (tyC cs) (wC cs ad) yX3_has cX3_has 2 (some .boolean) 0 [.ref (ad 32), .int p1] M r M := by
  refine px_ofI (by decide +kernel) (Nat.le_of_ble_eq_true rfl) ?_
  intro p e s m below meth c A ls X hr hlk hml w hl
  have hl : lv_has ls 2 [(0, .ref (ad 32)), (1, .int p1)] := hl
  unfold fC_Promises_has at hf
  refine lv_iload_n X.1 X.2.1 dX3_has_0 rfl (lv_at hl 1 rfl) ?_
  refine lv_if_lt (tgt := 16) X.1 X.2.1 dX3_has_1 (by decide) (fun c1 => ?_) (fun c1 => ?_)
  · have hf := px_ip c1 hf
    refine lv_iconst (v := (0 : Int32)) X.1 X.2.1 dX3_has_16 (by decide) ?_
    cases hf
    exact px_retZ X hr hlk narrow_b0 w dX3_has_17
  · have hf := px_in c1 hf
    refine lv_iload_n X.1 X.2.1 dX3_has_4 rfl (lv_at hl 1 rfl) ?_
    refine lv_aload_n X.1 X.2.1 dX3_has_5 rfl (lv_at hl 0 rfl) ?_
    refine gtC_32_7 X w dX3_has_6 ?_
    refine lv_icmp_ge (tgt := 16) X.1 X.2.1 dX3_has_9 (by decide) (fun c2 => ?_) (fun c2 => ?_)
    · have hf := px_ip c2 hf
      refine lv_iconst (v := (0 : Int32)) X.1 X.2.1 dX3_has_16 (by decide) ?_
      cases hf
      exact px_retZ X hr hlk narrow_b0 w dX3_has_17
    · have hf := px_in c2 hf
      refine lv_iconst (v := (1 : Int32)) X.1 X.2.1 dX3_has_12 (by decide) ?_
      refine lv_goto (tgt := 17) X.1 X.2.1 dX3_has_13 (by decide) ?_
      cases hf
      exact px_retZ X hr hlk narrow_b1 w dX3_has_17
def fC_Promises_isFull (M : px_M) : Option Int32 := (if (M 32 7) < (40 : Int32) then some (0 : Int32) else some (1 : Int32))
set_option maxHeartbeats 4000000 in
set_option maxRecDepth 100000 in
theorem cC_Promises_isFull (l : Launch) (D : va_G) (cs : Nat → ClassId) (ad : Nat → Nat) {M : px_M} {r : Int32} (hf : fC_Promises_isFull M = some r) : px_mI l D (tyC cs) (wC cs ad) yX3_isFull cX3_isFull 1 (some .boolean) 0 [.ref (ad 32)] M r M := by
  refine px_ofI (by decide +kernel) (Nat.le_of_ble_eq_true rfl) ?_
  intro p e s m below meth c A ls X hr hlk hml w hl
  have hl : lv_has ls 1 [(0, .ref (ad 32))] := hl
  unfold fC_Promises_isFull at hf
  refine lv_aload_n X.1 X.2.1 dX3_isFull_0 rfl (lv_at hl 0 rfl) ?_
  refine gtC_32_7 X w dX3_isFull_1 ?_
  refine lv_bipush (v := (40 : Int32)) X.1 X.2.1 dX3_isFull_4 (by decide) ?_
  refine lv_icmp_lt (tgt := 13) X.1 X.2.1 dX3_isFull_6 (by decide) (fun c1 => ?_) (fun c1 => ?_)
  · have hf := px_ip c1 hf
    refine lv_iconst (v := (0 : Int32)) X.1 X.2.1 dX3_isFull_13 (by decide) ?_
    cases hf
    exact px_retZ X hr hlk narrow_b0 w dX3_isFull_14
  · have hf := px_in c1 hf
    refine lv_iconst (v := (1 : Int32)) X.1 X.2.1 dX3_isFull_9 (by decide) ?_
    refine lv_goto (tgt := 14) X.1 X.2.1 dX3_isFull_10 (by decide) ?_
    cases hf
    exact px_retZ X hr hlk narrow_b1 w dX3_isFull_14
def fC_Promises_stateOf (M : px_M) (p1 : Int32) : Option Int32 := px_ck p1 40 (some (M 33 p1.toNatClampNeg))
set_option maxHeartbeats 4000000 in
set_option maxRecDepth 100000 in
theorem cC_Promises_stateOf (l : Launch) (D : va_G) (cs : Nat → ClassId) (ad : Nat → Nat) {M : px_M} {p1 : Int32} {r : Int32} (hf : fC_Promises_stateOf M p1 = some r) : px_mI l D (tyC cs) (wC cs ad) yX3_stateOf cX3_stateOf 2 (some .int) 0 [.ref (ad 32), .int p1] M r M := by
  refine px_ofI (by decide +kernel) (Nat.le_of_ble_eq_true rfl) ?_
  intro p e s m below meth c A ls X hr hlk hml w hl
  have hl : lv_has ls 2 [(0, .ref (ad 32)), (1, .int p1)] := hl
  unfold fC_Promises_stateOf at hf
  refine lv_aload_n X.1 X.2.1 dX3_stateOf_0 rfl (lv_at hl 0 rfl) ?_
  refine gtC_32_2 X w dX3_stateOf_1 ?_
  refine lv_iload_n X.1 X.2.1 dX3_stateOf_4 rfl (lv_at hl 1 rfl) ?_
  obtain ⟨b1, hf⟩ := px_ck_e hf
  refine ilC_33 X w b1 dX3_stateOf_5 ?_
  cases hf
  exact px_retI X hr hlk w dX3_stateOf_6
def fC_Promises_numberOf (M : px_M) (p1 : Int32) : Option Int32 := px_ck p1 40 (some (M 34 p1.toNatClampNeg))
set_option maxHeartbeats 4000000 in
set_option maxRecDepth 100000 in
theorem cC_Promises_numberOf (l : Launch) (D : va_G) (cs : Nat → ClassId) (ad : Nat → Nat) {M : px_M} {p1 : Int32} {r : Int32} (hf : fC_Promises_numberOf M p1 = some r) : px_mI l D (tyC cs) (wC cs ad) yX3_numberOf cX3_numberOf 2 (some .int) 0 [.ref (ad 32), .int p1] M r M := by
  refine px_ofI (by decide +kernel) (Nat.le_of_ble_eq_true rfl) ?_
  intro p e s m below meth c A ls X hr hlk hml w hl
  have hl : lv_has ls 2 [(0, .ref (ad 32)), (1, .int p1)] := hl
  unfold fC_Promises_numberOf at hf
  refine lv_aload_n X.1 X.2.1 dX3_numberOf_0 rfl (lv_at hl 0 rfl) ?_
  refine gtC_32_3 X w dX3_numberOf_1 ?_
  refine lv_iload_n X.1 X.2.1 dX3_numberOf_4 rfl (lv_at hl 1 rfl) ?_
  obtain ⟨b1, hf⟩ := px_ck_e hf
  refine ilC_34 X w b1 dX3_numberOf_5 ?_
  cases hf
  exact px_retI X hr hlk w dX3_numberOf_6
def fC_Promises_stateWithFlags (M : px_M) (p1 : Int32) : Option Int32 := px_ck p1 40 (px_ck p1 40 ((if (M 35 p1.toNatClampNeg) = 0 then px_ck p1 40 ((if (M 36 p1.toNatClampNeg) = 0 then some (((M 33 p1.toNatClampNeg) + (0 : Int32)) + (0 : Int32)) else some (((M 33 p1.toNatClampNeg) + (0 : Int32)) + (8 : Int32)))) else px_ck p1 40 ((if (M 36 p1.toNatClampNeg) = 0 then some (((M 33 p1.toNatClampNeg) + (4 : Int32)) + (0 : Int32)) else some (((M 33 p1.toNatClampNeg) + (4 : Int32)) + (8 : Int32)))))))
set_option maxHeartbeats 4000000 in
set_option maxRecDepth 100000 in
theorem cC_Promises_stateWithFlags (l : Launch) (D : va_G) (cs : Nat → ClassId) (ad : Nat → Nat) {M : px_M} {p1 : Int32} {r : Int32} (hf : fC_Promises_stateWithFlags M p1 = some r) : px_mI l D (tyC cs) (wC cs ad) yX3_stateWithFlags cX3_stateWithFlags 2 (some .int) 0 [.ref (ad 32), .int p1] M r M := by
  refine px_ofI (by decide +kernel) (Nat.le_of_ble_eq_true rfl) ?_
  intro p e s m below meth c A ls X hr hlk hml w hl
  have hl : lv_has ls 2 [(0, .ref (ad 32)), (1, .int p1)] := hl
  unfold fC_Promises_stateWithFlags at hf
  refine lv_aload_n X.1 X.2.1 dX3_stateWithFlags_0 rfl (lv_at hl 0 rfl) ?_
  refine gtC_32_2 X w dX3_stateWithFlags_1 ?_
  refine lv_iload_n X.1 X.2.1 dX3_stateWithFlags_4 rfl (lv_at hl 1 rfl) ?_
  obtain ⟨b1, hf⟩ := px_ck_e hf
  refine ilC_33 X w b1 dX3_stateWithFlags_5 ?_
  refine lv_aload_n X.1 X.2.1 dX3_stateWithFlags_6 rfl (lv_at hl 0 rfl) ?_
  refine gtC_32_4 X w dX3_stateWithFlags_7 ?_
  refine lv_iload_n X.1 X.2.1 dX3_stateWithFlags_10 rfl (lv_at hl 1 rfl) ?_
  obtain ⟨b2, hf⟩ := px_ck_e hf
  refine ilC_35 X w b2 dX3_stateWithFlags_11 ?_
  refine lv_if_eq (tgt := 19) X.1 X.2.1 dX3_stateWithFlags_12 (by decide) (fun c3 => ?_) (fun c3 => ?_)
  · have hf := px_ip c3 hf
    refine lv_iconst (v := (0 : Int32)) X.1 X.2.1 dX3_stateWithFlags_19 (by decide) ?_
    refine lv_iadd X.1 X.2.1 dX3_stateWithFlags_20 ?_
    refine lv_aload_n X.1 X.2.1 dX3_stateWithFlags_21 rfl (lv_at hl 0 rfl) ?_
    refine gtC_32_5 X w dX3_stateWithFlags_22 ?_
    refine lv_iload_n X.1 X.2.1 dX3_stateWithFlags_25 rfl (lv_at hl 1 rfl) ?_
    obtain ⟨b4, hf⟩ := px_ck_e hf
    refine ilC_36 X w b4 dX3_stateWithFlags_26 ?_
    refine lv_if_eq (tgt := 35) X.1 X.2.1 dX3_stateWithFlags_27 (by decide) (fun c5 => ?_) (fun c5 => ?_)
    · have hf := px_ip c5 hf
      refine lv_iconst (v := (0 : Int32)) X.1 X.2.1 dX3_stateWithFlags_35 (by decide) ?_
      refine lv_iadd X.1 X.2.1 dX3_stateWithFlags_36 ?_
      cases hf
      exact px_retI X hr hlk w dX3_stateWithFlags_37
    · have hf := px_in c5 hf
      refine lv_bipush (v := (8 : Int32)) X.1 X.2.1 dX3_stateWithFlags_30 (by decide) ?_
      refine lv_goto (tgt := 36) X.1 X.2.1 dX3_stateWithFlags_32 (by decide) ?_
      refine lv_iadd X.1 X.2.1 dX3_stateWithFlags_36 ?_
      cases hf
      exact px_retI X hr hlk w dX3_stateWithFlags_37
  · have hf := px_in c3 hf
    refine lv_iconst (v := (4 : Int32)) X.1 X.2.1 dX3_stateWithFlags_15 (by decide) ?_
    refine lv_goto (tgt := 20) X.1 X.2.1 dX3_stateWithFlags_16 (by decide) ?_
    refine lv_iadd X.1 X.2.1 dX3_stateWithFlags_20 ?_
    refine lv_aload_n X.1 X.2.1 dX3_stateWithFlags_21 rfl (lv_at hl 0 rfl) ?_
    refine gtC_32_5 X w dX3_stateWithFlags_22 ?_
    refine lv_iload_n X.1 X.2.1 dX3_stateWithFlags_25 rfl (lv_at hl 1 rfl) ?_
    obtain ⟨b6, hf⟩ := px_ck_e hf
    refine ilC_36 X w b6 dX3_stateWithFlags_26 ?_
    refine lv_if_eq (tgt := 35) X.1 X.2.1 dX3_stateWithFlags_27 (by decide) (fun c7 => ?_) (fun c7 => ?_)
    · have hf := px_ip c7 hf
      refine lv_iconst (v := (0 : Int32)) X.1 X.2.1 dX3_stateWithFlags_35 (by decide) ?_
      refine lv_iadd X.1 X.2.1 dX3_stateWithFlags_36 ?_
      cases hf
      exact px_retI X hr hlk w dX3_stateWithFlags_37
    · have hf := px_in c7 hf
      refine lv_bipush (v := (8 : Int32)) X.1 X.2.1 dX3_stateWithFlags_30 (by decide) ?_
      refine lv_goto (tgt := 36) X.1 X.2.1 dX3_stateWithFlags_32 (by decide) ?_
      refine lv_iadd X.1 X.2.1 dX3_stateWithFlags_36 ?_
      cases hf
      exact px_retI X hr hlk w dX3_stateWithFlags_37
def fC_Promises_sourceOf (M : px_M) (p1 : Int32) : Option Int32 := px_ck p1 80 (some (M 39 p1.toNatClampNeg))
set_option maxHeartbeats 4000000 in
set_option maxRecDepth 100000 in
theorem cC_Promises_sourceOf (l : Launch) (D : va_G) (cs : Nat → ClassId) (ad : Nat → Nat) {M : px_M} {p1 : Int32} {r : Int32} (hf : fC_Promises_sourceOf M p1 = some r) : px_mI l D (tyC cs) (wC cs ad) yX3_sourceOf cX3_sourceOf 2 (some .int) 0 [.ref (ad 32), .int p1] M r M := by
  refine px_ofI (by decide +kernel) (Nat.le_of_ble_eq_true rfl) ?_
  intro p e s m below meth c A ls X hr hlk hml w hl
  have hl : lv_has ls 2 [(0, .ref (ad 32)), (1, .int p1)] := hl
  unfold fC_Promises_sourceOf at hf
  refine lv_aload_n X.1 X.2.1 dX3_sourceOf_0 rfl (lv_at hl 0 rfl) ?_
  refine gtC_32_10 X w dX3_sourceOf_1 ?_
  refine lv_iload_n X.1 X.2.1 dX3_sourceOf_4 rfl (lv_at hl 1 rfl) ?_
  obtain ⟨b1, hf⟩ := px_ck_e hf
  refine ilC_39 X w b1 dX3_sourceOf_5 ?_
  cases hf
  exact px_retI X hr hlk w dX3_sourceOf_6
def fC_Promises_targetOf (M : px_M) (p1 : Int32) : Option Int32 := px_ck p1 80 (some (M 40 p1.toNatClampNeg))
set_option maxHeartbeats 4000000 in
set_option maxRecDepth 100000 in
theorem cC_Promises_targetOf (l : Launch) (D : va_G) (cs : Nat → ClassId) (ad : Nat → Nat) {M : px_M} {p1 : Int32} {r : Int32} (hf : fC_Promises_targetOf M p1 = some r) : px_mI l D (tyC cs) (wC cs ad) yX3_targetOf cX3_targetOf 2 (some .int) 0 [.ref (ad 32), .int p1] M r M := by
  refine px_ofI (by decide +kernel) (Nat.le_of_ble_eq_true rfl) ?_
  intro p e s m below meth c A ls X hr hlk hml w hl
  have hl : lv_has ls 2 [(0, .ref (ad 32)), (1, .int p1)] := hl
  unfold fC_Promises_targetOf at hf
  refine lv_aload_n X.1 X.2.1 dX3_targetOf_0 rfl (lv_at hl 0 rfl) ?_
  refine gtC_32_11 X w dX3_targetOf_1 ?_
  refine lv_iload_n X.1 X.2.1 dX3_targetOf_4 rfl (lv_at hl 1 rfl) ?_
  obtain ⟨b1, hf⟩ := px_ck_e hf
  refine ilC_40 X w b1 dX3_targetOf_5 ?_
  cases hf
  exact px_retI X hr hlk w dX3_targetOf_6
def fC_Promises_functionOf (M : px_M) (p1 : Int32) : Option Int32 := px_ck p1 80 (px_ck (M 39 p1.toNatClampNeg) 40 ((if (M 33 (M 39 p1.toNatClampNeg).toNatClampNeg) = (1 : Int32) then px_ck p1 80 (some (M 41 p1.toNatClampNeg)) else px_ck p1 80 (some (M 42 p1.toNatClampNeg)))))
set_option maxHeartbeats 4000000 in
set_option maxRecDepth 100000 in
theorem cC_Promises_functionOf (l : Launch) (D : va_G) (cs : Nat → ClassId) (ad : Nat → Nat) {M : px_M} {p1 : Int32} {r : Int32} (hf : fC_Promises_functionOf M p1 = some r) : px_mI l D (tyC cs) (wC cs ad) yX3_functionOf cX3_functionOf 3 (some .int) 0 [.ref (ad 32), .int p1] M r M := by
  refine px_ofI (by decide +kernel) (Nat.le_of_ble_eq_true rfl) ?_
  intro p e s m below meth c A ls X hr hlk hml w hl
  have hl : lv_has ls 3 [(0, .ref (ad 32)), (1, .int p1)] := hl
  unfold fC_Promises_functionOf at hf
  refine lv_aload_n X.1 X.2.1 dX3_functionOf_0 rfl (lv_at hl 0 rfl) ?_
  refine gtC_32_2 X w dX3_functionOf_1 ?_
  refine lv_aload_n X.1 X.2.1 dX3_functionOf_4 rfl (lv_at hl 0 rfl) ?_
  refine gtC_32_10 X w dX3_functionOf_5 ?_
  refine lv_iload_n X.1 X.2.1 dX3_functionOf_8 rfl (lv_at hl 1 rfl) ?_
  obtain ⟨b1, hf⟩ := px_ck_e hf
  refine ilC_39 X w b1 dX3_functionOf_9 ?_
  obtain ⟨b2, hf⟩ := px_ck_e hf
  refine ilC_33 X w b2 dX3_functionOf_10 ?_
  refine lv_iconst (v := (1 : Int32)) X.1 X.2.1 dX3_functionOf_11 (by decide) ?_
  refine lv_icmp_ne (tgt := 19) X.1 X.2.1 dX3_functionOf_12 (by decide) (fun c3 => ?_) (fun c3 => ?_)
  · have hf := px_in c3 hf
    refine lv_iconst (v := (0 : Int32)) X.1 X.2.1 dX3_functionOf_19 (by decide) ?_
    refine lv_istore_n (lv' := [(2, .int (0 : Int32)), (0, .ref (ad 32)), (1, .int p1)]) X.1 X.2.1 dX3_functionOf_20 rfl hl (by decide) rfl (fun ls hl => ?_)
    refine lv_iload_n X.1 X.2.1 dX3_functionOf_21 rfl (lv_at hl 0 rfl) ?_
    refine lv_if_eq (tgt := 34) X.1 X.2.1 dX3_functionOf_22 (by decide) (fun _ => ?_) (fun c => absurd c (by decide))
    refine lv_aload_n X.1 X.2.1 dX3_functionOf_34 rfl (lv_at hl 1 rfl) ?_
    refine gtC_32_13 X w dX3_functionOf_35 ?_
    refine lv_iload_n X.1 X.2.1 dX3_functionOf_38 rfl (lv_at hl 2 rfl) ?_
    obtain ⟨b4, hf⟩ := px_ck_e hf
    refine ilC_42 X w b4 dX3_functionOf_39 ?_
    cases hf
    exact px_retI X hr hlk w dX3_functionOf_40
  · have hf := px_ip c3 hf
    refine lv_iconst (v := (1 : Int32)) X.1 X.2.1 dX3_functionOf_15 (by decide) ?_
    refine lv_goto (tgt := 20) X.1 X.2.1 dX3_functionOf_16 (by decide) ?_
    refine lv_istore_n (lv' := [(2, .int (1 : Int32)), (0, .ref (ad 32)), (1, .int p1)]) X.1 X.2.1 dX3_functionOf_20 rfl hl (by decide) rfl (fun ls hl => ?_)
    refine lv_iload_n X.1 X.2.1 dX3_functionOf_21 rfl (lv_at hl 0 rfl) ?_
    refine lv_if_eq (tgt := 34) X.1 X.2.1 dX3_functionOf_22 (by decide) (fun c => absurd c (by decide)) (fun _ => ?_)
    refine lv_aload_n X.1 X.2.1 dX3_functionOf_25 rfl (lv_at hl 1 rfl) ?_
    refine gtC_32_12 X w dX3_functionOf_26 ?_
    refine lv_iload_n X.1 X.2.1 dX3_functionOf_29 rfl (lv_at hl 2 rfl) ?_
    obtain ⟨b5, hf⟩ := px_ck_e hf
    refine ilC_41 X w b5 dX3_functionOf_30 ?_
    refine lv_goto (tgt := 40) X.1 X.2.1 dX3_functionOf_31 (by decide) ?_
    cases hf
    exact px_retI X hr hlk w dX3_functionOf_40
def fC_Promises_make (M : px_M) : Option (Int32 × px_M) := (if (M 32 7) < (40 : Int32) then px_bn (px_up M 32 7 ((M 32 7) + (1 : Int32))) (fun M2 => some (((M2 32 7) - (1 : Int32)), M2)) else some ((-1 : Int32), M))
set_option maxHeartbeats 4000000 in
set_option maxRecDepth 100000 in
theorem cC_Promises_make (l : Launch) (D : va_G) (cs : Nat → ClassId) (ad : Nat → Nat) {M : px_M} {r : Int32} {M' : px_M} (hf : fC_Promises_make M = some (r, M')) : px_mI l D (tyC cs) (wC cs ad) yX3_make cX3_make 1 (some .int) 0 [.ref (ad 32)] M r M' := by
  refine px_ofI (by decide +kernel) (Nat.le_of_ble_eq_true rfl) ?_
  intro p e s m below meth c A ls X hr hlk hml w hl
  have hl : lv_has ls 1 [(0, .ref (ad 32))] := hl
  unfold fC_Promises_make at hf
  refine lv_aload_n X.1 X.2.1 dX3_make_0 rfl (lv_at hl 0 rfl) ?_
  refine gtC_32_7 X w dX3_make_1 ?_
  refine lv_bipush (v := (40 : Int32)) X.1 X.2.1 dX3_make_4 (by decide) ?_
  refine lv_icmp_lt (tgt := 11) X.1 X.2.1 dX3_make_6 (by decide) (fun c1 => ?_) (fun c1 => ?_)
  · have hf := px_ip c1 hf
    refine lv_aload_n X.1 X.2.1 dX3_make_11 rfl (lv_at hl 0 rfl) ?_
    refine lv_dup X.1 X.2.1 dX3_make_12 rfl ?_
    refine gtC_32_7 X w dX3_make_13 ?_
    refine lv_iconst (v := (1 : Int32)) X.1 X.2.1 dX3_make_16 (by decide) ?_
    refine lv_iadd X.1 X.2.1 dX3_make_17 ?_
    refine ptC_32_7 X w dX3_make_18 (fun H locs w => ?_)
    obtain ⟨M2, eM2, hf⟩ := px_bn_e hf
    rw [← eM2] at w
    refine lv_aload_n X.1 X.2.1 dX3_make_21 rfl (lv_at hl 0 rfl) ?_
    refine gtC_32_7 X w dX3_make_22 ?_
    refine lv_iconst (v := (1 : Int32)) X.1 X.2.1 dX3_make_25 (by decide) ?_
    refine lv_isub X.1 X.2.1 dX3_make_26 ?_
    cases hf
    exact px_retI X hr hlk w dX3_make_27
  · have hf := px_in c1 hf
    refine lv_iconst (v := (-1 : Int32)) X.1 X.2.1 dX3_make_9 (by decide) ?_
    cases hf
    exact px_retI X hr hlk w dX3_make_10
theorem lk_3_69 : px_Lk RX3 69 yX2_put cX2_put 5 none 3 := ⟨px_tb (by decide +kernel) (by decide +kernel), px_tb (by decide +kernel) (by decide +kernel), px_tb (by decide +kernel) (by decide +kernel), px_tb (by decide +kernel) (by decide +kernel), px_tb (by decide +kernel) (by decide +kernel), by decide +kernel, by decide⟩
def gC_Promises_settle_L17 (rc17 : px_M → Int32 → Int32 → Int32 → Option px_M) (M : px_M) (y1 y2 y4 : Int32) : Option px_M := (if (M 32 14) ≤ y4 then (if y2 = (2 : Int32) then px_ck y1 40 ((if (M 36 y1.toNatClampNeg) = 0 then (if (40 : Int32) ≤ (M 32 9) then some M else px_ck (M 32 9) 40 (px_bn (px_up M 38 (M 32 9).toNatClampNeg y1) (fun M11 => px_bn (px_up M11 32 9 ((M11 32 9) + (1 : Int32))) (fun M12 => some M12)))) else some M)) else some M) else px_ck y4 80 ((if (M 39 y4.toNatClampNeg) = y1 then px_bq (fC_Line_put_20 M (2 : Int32) y4 (0 : Int32)) (fun M16 => rc17 M16 y1 y2 (y4 + (1 : Int32))) else rc17 M y1 y2 (y4 + (1 : Int32)))))
set_option maxHeartbeats 4000000 in
set_option maxRecDepth 100000 in
theorem lC_Promises_settle_L17 {l : Launch} {D : va_G} {cs : Nat → ClassId} {ad : Nat → Nat} {p : Program} {e : Env} {s : State} {m : MethodId} {args : Array Value} {below : List Frame} {meth : Method} {c : Code} {A : Nat → Prop} (X : px_X D (tyC cs) p s m args c cX3_settle yX3_settle.cls) (hr : meth.sig.returnType = none) (hlk : meth.locks = false) (hml : c.maxLocals = 5) : ∀ (j : Nat) (M : px_M) (y1 y2 y4 : Int32) (z : px_M), px_fx3 gC_Promises_settle_L17 j M y1 y2 y4 = some z → ∀ (H : Heap) (locs : List Loc) (ls : Array Slot), px_H D (wC cs ad) A s.heap M H locs → lv_has ls 5 [(0, .ref (ad 32)), (1, .int y1), (2, .int y2), (4, .int y4)] → W p l e (px_rm 1) s m args below meth c H locs 0 0 (px_QV D (tyC cs) (wC cs ad) below args s A z) (F0 m 17 ls []) := by
  refine px_fx3_i (P := fun M y1 y2 y4 (z : px_M) => ∀ (H : Heap) (locs : List Loc) (ls : Array Slot), px_H D (wC cs ad) A s.heap M H locs → lv_has ls 5 [(0, .ref (ad 32)), (1, .int y1), (2, .int y2), (4, .int y4)] → W p l e (px_rm 1) s m args below meth c H locs 0 0 (px_QV D (tyC cs) (wC cs ad) below args s A z) (F0 m 17 ls [])) ?_
  intro rc17 ih17 M y1 y2 y4 z hf H locs ls w hl
  unfold gC_Promises_settle_L17 at hf
  refine lv_iload X.1 X.2.1 dX3_settle_17 (lv_at hl 3 rfl) ?_
  refine lv_aload_n X.1 X.2.1 dX3_settle_19 rfl (lv_at hl 0 rfl) ?_
  refine gtC_32_14 X w dX3_settle_20 ?_
  refine lv_icmp_ge (tgt := 54) X.1 X.2.1 dX3_settle_23 (by decide) (fun c5 => ?_) (fun c5 => ?_)
  · have hf := px_ip c5 hf
    refine lv_iload_n X.1 X.2.1 dX3_settle_54 rfl (lv_at hl 2 rfl) ?_
    refine lv_iconst (v := (2 : Int32)) X.1 X.2.1 dX3_settle_55 (by decide) ?_
    refine lv_icmp_ne (tgt := 97) X.1 X.2.1 dX3_settle_56 (by decide) (fun c6 => ?_) (fun c6 => ?_)
    · have hf := px_in c6 hf
      cases hf
      exact px_retV X hr hlk w dX3_settle_97
    · have hf := px_ip c6 hf
      refine lv_aload_n X.1 X.2.1 dX3_settle_59 rfl (lv_at hl 0 rfl) ?_
      refine gtC_32_5 X w dX3_settle_60 ?_
      refine lv_iload_n X.1 X.2.1 dX3_settle_63 rfl (lv_at hl 1 rfl) ?_
      obtain ⟨b7, hf⟩ := px_ck_e hf
      refine ilC_36 X w b7 dX3_settle_64 ?_
      refine lv_if_ne (tgt := 97) X.1 X.2.1 dX3_settle_65 (by decide) (fun c8 => ?_) (fun c8 => ?_)
      · have hf := px_in c8 hf
        cases hf
        exact px_retV X hr hlk w dX3_settle_97
      · have hf := px_ip c8 hf
        refine lv_aload_n X.1 X.2.1 dX3_settle_68 rfl (lv_at hl 0 rfl) ?_
        refine gtC_32_9 X w dX3_settle_69 ?_
        refine lv_bipush (v := (40 : Int32)) X.1 X.2.1 dX3_settle_72 (by decide) ?_
        refine lv_icmp_ge (tgt := 97) X.1 X.2.1 dX3_settle_74 (by decide) (fun c9 => ?_) (fun c9 => ?_)
        · have hf := px_ip c9 hf
          cases hf
          exact px_retV X hr hlk w dX3_settle_97
        · have hf := px_in c9 hf
          refine lv_aload_n X.1 X.2.1 dX3_settle_77 rfl (lv_at hl 0 rfl) ?_
          refine gtC_32_8 X w dX3_settle_78 ?_
          refine lv_aload_n X.1 X.2.1 dX3_settle_81 rfl (lv_at hl 0 rfl) ?_
          refine gtC_32_9 X w dX3_settle_82 ?_
          refine lv_iload_n X.1 X.2.1 dX3_settle_85 rfl (lv_at hl 1 rfl) ?_
          obtain ⟨b10, hf⟩ := px_ck_e hf
          refine isC_38 X w b10 dX3_settle_86 (fun H locs w => ?_)
          obtain ⟨M11, eM11, hf⟩ := px_bn_e hf
          rw [← eM11] at w
          refine lv_aload_n X.1 X.2.1 dX3_settle_87 rfl (lv_at hl 0 rfl) ?_
          refine lv_dup X.1 X.2.1 dX3_settle_88 rfl ?_
          refine gtC_32_9 X w dX3_settle_89 ?_
          refine lv_iconst (v := (1 : Int32)) X.1 X.2.1 dX3_settle_92 (by decide) ?_
          refine lv_iadd X.1 X.2.1 dX3_settle_93 ?_
          refine ptC_32_9 X w dX3_settle_94 (fun H locs w => ?_)
          obtain ⟨M12, eM12, hf⟩ := px_bn_e hf
          rw [← eM12] at w
          cases hf
          exact px_retV X hr hlk w dX3_settle_97
  · have hf := px_in c5 hf
    refine lv_aload_n X.1 X.2.1 dX3_settle_26 rfl (lv_at hl 0 rfl) ?_
    refine gtC_32_10 X w dX3_settle_27 ?_
    refine lv_iload X.1 X.2.1 dX3_settle_30 (lv_at hl 3 rfl) ?_
    obtain ⟨b13, hf⟩ := px_ck_e hf
    refine ilC_39 X w b13 dX3_settle_32 ?_
    refine lv_iload_n X.1 X.2.1 dX3_settle_33 rfl (lv_at hl 1 rfl) ?_
    refine lv_icmp_ne (tgt := 48) X.1 X.2.1 dX3_settle_34 (by decide) (fun c14 => ?_) (fun c14 => ?_)
    · have hf := px_in c14 hf
      refine lv_iinc (v := (y4 + (1 : Int32))) (lv' := [(4, .int (y4 + (1 : Int32))), (0, .ref (ad 32)), (1, .int y1), (2, .int y2)]) X.1 X.2.1 dX3_settle_48 hl (k := 3) rfl rfl (by decide) rfl (fun ls hl => ?_)
      refine lv_goto (tgt := 17) X.1 X.2.1 dX3_settle_51 (by decide) ?_
      exact ih17 M y1 y2 (y4 + (1 : Int32)) _ hf _ _ ls w (lv_sub hl [1, 2, 3, 0] rfl)
    · have hf := px_ip c14 hf
      refine lv_aload_n X.1 X.2.1 dX3_settle_37 rfl (lv_at hl 0 rfl) ?_
      refine gtC_32_0 X w dX3_settle_38 ?_
      refine lv_iconst (v := (2 : Int32)) X.1 X.2.1 dX3_settle_41 (by decide) ?_
      refine lv_iload X.1 X.2.1 dX3_settle_42 (lv_at hl 3 rfl) ?_
      refine lv_iconst (v := (0 : Int32)) X.1 X.2.1 dX3_settle_44 (by decide) ?_
      obtain ⟨M16, e15, hf⟩ := px_bq_e hf
      refine px_cV (As := [.int (2 : Int32), .int y4, .int (0 : Int32)]) (rest := []) X hml hl w (cC_Line_put_20 l D cs ad e15) lk_3_69 (by decide) (rcC_20 X.2.2.2.2 w) rfl (Nat.le_of_ble_eq_true rfl) dX3_settle_45 (fun H locs w => ?_)
      refine lv_iinc (v := (y4 + (1 : Int32))) (lv' := [(4, .int (y4 + (1 : Int32))), (0, .ref (ad 32)), (1, .int y1), (2, .int y2)]) X.1 X.2.1 dX3_settle_48 hl (k := 3) rfl rfl (by decide) rfl (fun ls hl => ?_)
      refine lv_goto (tgt := 17) X.1 X.2.1 dX3_settle_51 (by decide) ?_
      exact ih17 M16 y1 y2 (y4 + (1 : Int32)) _ hf _ _ ls w (lv_sub hl [1, 2, 3, 0] rfl)
def fC_Promises_settle (M : px_M) (p1 p2 p3 : Int32) : Option px_M := px_ck p1 40 (px_bn (px_up M 33 p1.toNatClampNeg p2) (fun M2 => px_ck p1 40 (px_bn (px_up M2 34 p1.toNatClampNeg p3) (fun M4 => px_fx3 gC_Promises_settle_L17 81 M4 p1 p2 (0 : Int32)))))
set_option maxHeartbeats 4000000 in
set_option maxRecDepth 100000 in
theorem cC_Promises_settle (l : Launch) (D : va_G) (cs : Nat → ClassId) (ad : Nat → Nat) {M : px_M} {p1 p2 p3 : Int32} {M' : px_M} (hf : fC_Promises_settle M p1 p2 p3 = some M') : px_mV l D (tyC cs) (wC cs ad) yX3_settle cX3_settle 5 1 [.ref (ad 32), .int p1, .int p2, .int p3] M M' := by
  refine px_ofV (by decide +kernel) (Nat.le_of_ble_eq_true rfl) ?_
  intro p e s m below meth c A ls X hr hlk hml w hl
  have hl : lv_has ls 5 [(0, .ref (ad 32)), (1, .int p1), (2, .int p2), (3, .int p3)] := hl
  unfold fC_Promises_settle at hf
  refine lv_aload_n X.1 X.2.1 dX3_settle_0 rfl (lv_at hl 0 rfl) ?_
  refine gtC_32_2 X w dX3_settle_1 ?_
  refine lv_iload_n X.1 X.2.1 dX3_settle_4 rfl (lv_at hl 1 rfl) ?_
  refine lv_iload_n X.1 X.2.1 dX3_settle_5 rfl (lv_at hl 2 rfl) ?_
  obtain ⟨b1, hf⟩ := px_ck_e hf
  refine isC_33 X w b1 dX3_settle_6 (fun H locs w => ?_)
  obtain ⟨M2, eM2, hf⟩ := px_bn_e hf
  rw [← eM2] at w
  refine lv_aload_n X.1 X.2.1 dX3_settle_7 rfl (lv_at hl 0 rfl) ?_
  refine gtC_32_3 X w dX3_settle_8 ?_
  refine lv_iload_n X.1 X.2.1 dX3_settle_11 rfl (lv_at hl 1 rfl) ?_
  refine lv_iload_n X.1 X.2.1 dX3_settle_12 rfl (lv_at hl 3 rfl) ?_
  obtain ⟨b3, hf⟩ := px_ck_e hf
  refine isC_34 X w b3 dX3_settle_13 (fun H locs w => ?_)
  obtain ⟨M4, eM4, hf⟩ := px_bn_e hf
  rw [← eM4] at w
  refine lv_iconst (v := (0 : Int32)) X.1 X.2.1 dX3_settle_14 (by decide) ?_
  refine lv_istore (lv' := [(4, .int (0 : Int32)), (0, .ref (ad 32)), (1, .int p1), (2, .int p2), (3, .int p3)]) X.1 X.2.1 dX3_settle_15 hl (by decide) rfl (fun ls hl => ?_)
  exact lC_Promises_settle_L17 X hr hlk hml 81 M4 p1 p2 (0 : Int32) _ hf _ _ ls w (lv_sub hl [1, 2, 3, 0] rfl)
theorem lk_3_61 : px_Lk RX3 61 yX3_has cX3_has 2 (some .boolean) 1 := ⟨px_tb (by decide +kernel) (by decide +kernel), px_tb (by decide +kernel) (by decide +kernel), px_tb (by decide +kernel) (by decide +kernel), px_tb (by decide +kernel) (by decide +kernel), px_tb (by decide +kernel) (by decide +kernel), by decide +kernel, by decide⟩
theorem lk_3_65 : px_Lk RX3 65 yX3_settle cX3_settle 5 none 3 := ⟨px_tb (by decide +kernel) (by decide +kernel), px_tb (by decide +kernel) (by decide +kernel), px_tb (by decide +kernel) (by decide +kernel), px_tb (by decide +kernel) (by decide +kernel), px_tb (by decide +kernel) (by decide +kernel), by decide +kernel, by decide⟩
def fC_Promises_resolveOrReject (M : px_M) (p1 p2 p3 : Int32) : Option px_M := px_bq (fC_Promises_has M p1) (fun r2 => (if r2 = 0 then some M else px_ck p1 40 ((if (M 35 p1.toNatClampNeg) = 0 then px_ck p1 40 (px_bn (px_up M 35 p1.toNatClampNeg (1 : Int32)) (fun M7 => px_bq (fC_Promises_settle M7 p1 p2 p3) (fun M9 => some M9))) else some M))))
set_option maxHeartbeats 4000000 in
set_option maxRecDepth 100000 in
theorem cC_Promises_resolveOrReject (l : Launch) (D : va_G) (cs : Nat → ClassId) (ad : Nat → Nat) {M : px_M} {p1 p2 p3 : Int32} {M' : px_M} (hf : fC_Promises_resolveOrReject M p1 p2 p3 = some M') : px_mV l D (tyC cs) (wC cs ad) yX3_resolveOrReject cX3_resolveOrReject 4 2 [.ref (ad 32), .int p1, .int p2, .int p3] M M' := by
  refine px_ofV (by decide +kernel) (Nat.le_of_ble_eq_true rfl) ?_
  intro p e s m below meth c A ls X hr hlk hml w hl
  have hl : lv_has ls 4 [(0, .ref (ad 32)), (1, .int p1), (2, .int p2), (3, .int p3)] := hl
  unfold fC_Promises_resolveOrReject at hf
  refine lv_aload_n X.1 X.2.1 dX3_resolveOrReject_0 rfl (lv_at hl 0 rfl) ?_
  refine lv_iload_n X.1 X.2.1 dX3_resolveOrReject_1 rfl (lv_at hl 1 rfl) ?_
  obtain ⟨r2, e1, hf⟩ := px_bq_e hf
  refine px_cI (As := [.int p1]) (rest := []) X hml hl w (cC_Promises_has l D cs ad e1) lk_3_61 (by decide) (rcC_32 X.2.2.2.2 w) rfl (Nat.le_of_ble_eq_true rfl) dX3_resolveOrReject_2 (fun H locs w => ?_)
  refine lv_if_eq (tgt := 31) X.1 X.2.1 dX3_resolveOrReject_5 (by decide) (fun c3 => ?_) (fun c3 => ?_)
  · have hf := px_ip c3 hf
    cases hf
    exact px_retV X hr hlk w dX3_resolveOrReject_31
  · have hf := px_in c3 hf
    refine lv_aload_n X.1 X.2.1 dX3_resolveOrReject_8 rfl (lv_at hl 0 rfl) ?_
    refine gtC_32_4 X w dX3_resolveOrReject_9 ?_
    refine lv_iload_n X.1 X.2.1 dX3_resolveOrReject_12 rfl (lv_at hl 1 rfl) ?_
    obtain ⟨b4, hf⟩ := px_ck_e hf
    refine ilC_35 X w b4 dX3_resolveOrReject_13 ?_
    refine lv_if_ne (tgt := 31) X.1 X.2.1 dX3_resolveOrReject_14 (by decide) (fun c5 => ?_) (fun c5 => ?_)
    · have hf := px_in c5 hf
      cases hf
      exact px_retV X hr hlk w dX3_resolveOrReject_31
    · have hf := px_ip c5 hf
      refine lv_aload_n X.1 X.2.1 dX3_resolveOrReject_17 rfl (lv_at hl 0 rfl) ?_
      refine gtC_32_4 X w dX3_resolveOrReject_18 ?_
      refine lv_iload_n X.1 X.2.1 dX3_resolveOrReject_21 rfl (lv_at hl 1 rfl) ?_
      refine lv_iconst (v := (1 : Int32)) X.1 X.2.1 dX3_resolveOrReject_22 (by decide) ?_
      obtain ⟨b6, hf⟩ := px_ck_e hf
      refine isC_35 X w b6 rfl dX3_resolveOrReject_23 (fun H locs w => ?_)
      obtain ⟨M7, eM7, hf⟩ := px_bn_e hf
      rw [← eM7] at w
      refine lv_aload_n X.1 X.2.1 dX3_resolveOrReject_24 rfl (lv_at hl 0 rfl) ?_
      refine lv_iload_n X.1 X.2.1 dX3_resolveOrReject_25 rfl (lv_at hl 1 rfl) ?_
      refine lv_iload_n X.1 X.2.1 dX3_resolveOrReject_26 rfl (lv_at hl 2 rfl) ?_
      refine lv_iload_n X.1 X.2.1 dX3_resolveOrReject_27 rfl (lv_at hl 3 rfl) ?_
      obtain ⟨M9, e8, hf⟩ := px_bq_e hf
      refine px_cV (As := [.int p1, .int p2, .int p3]) (rest := []) X hml hl w (cC_Promises_settle l D cs ad e8) lk_3_65 (by decide) (rcC_32 X.2.2.2.2 w) rfl (Nat.le_of_ble_eq_true rfl) dX3_resolveOrReject_28 (fun H locs w => ?_)
      cases hf
      exact px_retV X hr hlk w dX3_resolveOrReject_31
def fC_Promises_follow (M : px_M) (p1 p2 : Int32) : Option px_M := px_bq (fC_Promises_has M p1) (fun r2 => (if r2 = 0 then some M else px_bq (fC_Promises_has M p2) (fun r5 => (if r5 = 0 then some M else px_ck p1 40 ((if (M 35 p1.toNatClampNeg) = 0 then px_ck p1 40 (px_bn (px_up M 35 p1.toNatClampNeg (1 : Int32)) (fun M10 => (if p1 = p2 then px_bq (fC_Promises_settle M10 p1 (2 : Int32) (-3 : Int32)) (fun M15 => some M15) else px_bq (fC_Line_put_20 M10 (3 : Int32) p1 p2) (fun M13 => some M13)))) else some M))))))
set_option maxHeartbeats 4000000 in
set_option maxRecDepth 100000 in
theorem cC_Promises_follow (l : Launch) (D : va_G) (cs : Nat → ClassId) (ad : Nat → Nat) {M : px_M} {p1 p2 : Int32} {M' : px_M} (hf : fC_Promises_follow M p1 p2 = some M') : px_mV l D (tyC cs) (wC cs ad) yX3_follow cX3_follow 3 2 [.ref (ad 32), .int p1, .int p2] M M' := by
  refine px_ofV (by decide +kernel) (Nat.le_of_ble_eq_true rfl) ?_
  intro p e s m below meth c A ls X hr hlk hml w hl
  have hl : lv_has ls 3 [(0, .ref (ad 32)), (1, .int p1), (2, .int p2)] := hl
  unfold fC_Promises_follow at hf
  refine lv_aload_n X.1 X.2.1 dX3_follow_0 rfl (lv_at hl 0 rfl) ?_
  refine lv_iload_n X.1 X.2.1 dX3_follow_1 rfl (lv_at hl 1 rfl) ?_
  obtain ⟨r2, e1, hf⟩ := px_bq_e hf
  refine px_cI (As := [.int p1]) (rest := []) X hml hl w (cC_Promises_has l D cs ad e1) lk_3_61 (by decide) (rcC_32 X.2.2.2.2 w) rfl (Nat.le_of_ble_eq_true rfl) dX3_follow_2 (fun H locs w => ?_)
  refine lv_if_eq (tgt := 25) X.1 X.2.1 dX3_follow_5 (by decide) (fun c3 => ?_) (fun c3 => ?_)
  · have hf := px_ip c3 hf
    cases hf
    exact px_retV X hr hlk w dX3_follow_25
  · have hf := px_in c3 hf
    refine lv_aload_n X.1 X.2.1 dX3_follow_8 rfl (lv_at hl 0 rfl) ?_
    refine lv_iload_n X.1 X.2.1 dX3_follow_9 rfl (lv_at hl 2 rfl) ?_
    obtain ⟨r5, e4, hf⟩ := px_bq_e hf
    refine px_cI (As := [.int p2]) (rest := []) X hml hl w (cC_Promises_has l D cs ad e4) lk_3_61 (by decide) (rcC_32 X.2.2.2.2 w) rfl (Nat.le_of_ble_eq_true rfl) dX3_follow_10 (fun H locs w => ?_)
    refine lv_if_eq (tgt := 25) X.1 X.2.1 dX3_follow_13 (by decide) (fun c6 => ?_) (fun c6 => ?_)
    · have hf := px_ip c6 hf
      cases hf
      exact px_retV X hr hlk w dX3_follow_25
    · have hf := px_in c6 hf
      refine lv_aload_n X.1 X.2.1 dX3_follow_16 rfl (lv_at hl 0 rfl) ?_
      refine gtC_32_4 X w dX3_follow_17 ?_
      refine lv_iload_n X.1 X.2.1 dX3_follow_20 rfl (lv_at hl 1 rfl) ?_
      obtain ⟨b7, hf⟩ := px_ck_e hf
      refine ilC_35 X w b7 dX3_follow_21 ?_
      refine lv_if_eq (tgt := 26) X.1 X.2.1 dX3_follow_22 (by decide) (fun c8 => ?_) (fun c8 => ?_)
      · have hf := px_ip c8 hf
        refine lv_aload_n X.1 X.2.1 dX3_follow_26 rfl (lv_at hl 0 rfl) ?_
        refine gtC_32_4 X w dX3_follow_27 ?_
        refine lv_iload_n X.1 X.2.1 dX3_follow_30 rfl (lv_at hl 1 rfl) ?_
        refine lv_iconst (v := (1 : Int32)) X.1 X.2.1 dX3_follow_31 (by decide) ?_
        obtain ⟨b9, hf⟩ := px_ck_e hf
        refine isC_35 X w b9 rfl dX3_follow_32 (fun H locs w => ?_)
        obtain ⟨M10, eM10, hf⟩ := px_bn_e hf
        rw [← eM10] at w
        refine lv_iload_n X.1 X.2.1 dX3_follow_33 rfl (lv_at hl 1 rfl) ?_
        refine lv_iload_n X.1 X.2.1 dX3_follow_34 rfl (lv_at hl 2 rfl) ?_
        refine lv_icmp_ne (tgt := 49) X.1 X.2.1 dX3_follow_35 (by decide) (fun c11 => ?_) (fun c11 => ?_)
        · have hf := px_in c11 hf
          refine lv_aload_n X.1 X.2.1 dX3_follow_49 rfl (lv_at hl 0 rfl) ?_
          refine gtC_32_0 X w dX3_follow_50 ?_
          refine lv_iconst (v := (3 : Int32)) X.1 X.2.1 dX3_follow_53 (by decide) ?_
          refine lv_iload_n X.1 X.2.1 dX3_follow_54 rfl (lv_at hl 1 rfl) ?_
          refine lv_iload_n X.1 X.2.1 dX3_follow_55 rfl (lv_at hl 2 rfl) ?_
          obtain ⟨M13, e12, hf⟩ := px_bq_e hf
          refine px_cV (As := [.int (3 : Int32), .int p1, .int p2]) (rest := []) X hml hl w (cC_Line_put_20 l D cs ad e12) lk_3_69 (by decide) (rcC_20 X.2.2.2.2 w) rfl (Nat.le_of_ble_eq_true rfl) dX3_follow_56 (fun H locs w => ?_)
          cases hf
          exact px_retV X hr hlk w dX3_follow_59
        · have hf := px_ip c11 hf
          refine lv_aload_n X.1 X.2.1 dX3_follow_38 rfl (lv_at hl 0 rfl) ?_
          refine lv_iload_n X.1 X.2.1 dX3_follow_39 rfl (lv_at hl 1 rfl) ?_
          refine lv_iconst (v := (2 : Int32)) X.1 X.2.1 dX3_follow_40 (by decide) ?_
          refine lv_bipush (v := (-3 : Int32)) X.1 X.2.1 dX3_follow_41 (by decide) ?_
          obtain ⟨M15, e14, hf⟩ := px_bq_e hf
          refine px_cV (As := [.int p1, .int (2 : Int32), .int (-3 : Int32)]) (rest := []) X hml hl w (cC_Promises_settle l D cs ad e14) lk_3_65 (by decide) (rcC_32 X.2.2.2.2 w) rfl (Nat.le_of_ble_eq_true rfl) dX3_follow_43 (fun H locs w => ?_)
          refine lv_goto (tgt := 59) X.1 X.2.1 dX3_follow_46 (by decide) ?_
          cases hf
          exact px_retV X hr hlk w dX3_follow_59
      · have hf := px_in c8 hf
        cases hf
        exact px_retV X hr hlk w dX3_follow_25
theorem lk_3_74 : px_Lk RX3 74 yX1_keep cX1_keep 2 none 1 := ⟨px_tb (by decide +kernel) (by decide +kernel), px_tb (by decide +kernel) (by decide +kernel), px_tb (by decide +kernel) (by decide +kernel), px_tb (by decide +kernel) (by decide +kernel), px_tb (by decide +kernel) (by decide +kernel), by decide +kernel, by decide⟩
def fC_Promises_react (M : px_M) (p1 p2 p3 p4 : Int32) : Option px_M := px_bq (fC_Promises_has M p1) (fun r2 => (if r2 = 0 then some M else (if (M 32 14) < (80 : Int32) then px_ck p1 40 ((if (M 37 p1.toNatClampNeg) = 0 then px_ck p1 40 (px_bn (px_up M 36 p1.toNatClampNeg (1 : Int32)) (fun M8 => px_ck (M8 32 14) 80 (px_bn (px_up M8 39 (M8 32 14).toNatClampNeg p1) (fun M10 => px_ck (M10 32 14) 80 (px_bn (px_up M10 40 (M10 32 14).toNatClampNeg p4) (fun M12 => px_ck (M12 32 14) 80 (px_bn (px_up M12 41 (M12 32 14).toNatClampNeg p2) (fun M14 => px_ck (M14 32 14) 80 (px_bn (px_up M14 42 (M14 32 14).toNatClampNeg p3) (fun M16 => px_ck p1 40 ((if (M16 33 p1.toNatClampNeg) = 0 then px_bn (px_up M16 32 14 ((M16 32 14) + (1 : Int32))) (fun M19 => some M19) else px_bq (fC_Line_put_20 M16 (2 : Int32) (M16 32 14) (0 : Int32)) (fun M21 => px_bn (px_up M21 32 14 ((M21 32 14) + (1 : Int32))) (fun M22 => some M22)))))))))))))) else px_ck p1 40 ((if (M 36 p1.toNatClampNeg) = 0 then px_bq (fC_Journal_keep_30 M ((30000 : Int32) + p1)) (fun M42 => px_ck p1 40 (px_bn (px_up M42 36 p1.toNatClampNeg (1 : Int32)) (fun M44 => px_ck (M44 32 14) 80 (px_bn (px_up M44 39 (M44 32 14).toNatClampNeg p1) (fun M46 => px_ck (M46 32 14) 80 (px_bn (px_up M46 40 (M46 32 14).toNatClampNeg p4) (fun M48 => px_ck (M48 32 14) 80 (px_bn (px_up M48 41 (M48 32 14).toNatClampNeg p2) (fun M50 => px_ck (M50 32 14) 80 (px_bn (px_up M50 42 (M50 32 14).toNatClampNeg p3) (fun M52 => px_ck p1 40 ((if (M52 33 p1.toNatClampNeg) = 0 then px_bn (px_up M52 32 14 ((M52 32 14) + (1 : Int32))) (fun M55 => some M55) else px_bq (fC_Line_put_20 M52 (2 : Int32) (M52 32 14) (0 : Int32)) (fun M57 => px_bn (px_up M57 32 14 ((M57 32 14) + (1 : Int32))) (fun M58 => some M58))))))))))))))) else px_ck p1 40 (px_bn (px_up M 36 p1.toNatClampNeg (1 : Int32)) (fun M26 => px_ck (M26 32 14) 80 (px_bn (px_up M26 39 (M26 32 14).toNatClampNeg p1) (fun M28 => px_ck (M28 32 14) 80 (px_bn (px_up M28 40 (M28 32 14).toNatClampNeg p4) (fun M30 => px_ck (M30 32 14) 80 (px_bn (px_up M30 41 (M30 32 14).toNatClampNeg p2) (fun M32 => px_ck (M32 32 14) 80 (px_bn (px_up M32 42 (M32 32 14).toNatClampNeg p3) (fun M34 => px_ck p1 40 ((if (M34 33 p1.toNatClampNeg) = 0 then px_bn (px_up M34 32 14 ((M34 32 14) + (1 : Int32))) (fun M37 => some M37) else px_bq (fC_Line_put_20 M34 (2 : Int32) (M34 32 14) (0 : Int32)) (fun M39 => px_bn (px_up M39 32 14 ((M39 32 14) + (1 : Int32))) (fun M40 => some M40)))))))))))))))))) else some M)))
set_option maxHeartbeats 4000000 in
set_option maxRecDepth 100000 in
theorem cC_Promises_react (l : Launch) (D : va_G) (cs : Nat → ClassId) (ad : Nat → Nat) {M : px_M} {p1 p2 p3 p4 : Int32} {M' : px_M} (hf : fC_Promises_react M p1 p2 p3 p4 = some M') : px_mV l D (tyC cs) (wC cs ad) yX3_react cX3_react 5 1 [.ref (ad 32), .int p1, .int p2, .int p3, .int p4] M M' := by
  refine px_ofV (by decide +kernel) (Nat.le_of_ble_eq_true rfl) ?_
  intro p e s m below meth c A ls X hr hlk hml w hl
  have hl : lv_has ls 5 [(0, .ref (ad 32)), (1, .int p1), (2, .int p2), (3, .int p3), (4, .int p4)] := hl
  unfold fC_Promises_react at hf
  refine lv_aload_n X.1 X.2.1 dX3_react_0 rfl (lv_at hl 0 rfl) ?_
  refine lv_iload_n X.1 X.2.1 dX3_react_1 rfl (lv_at hl 1 rfl) ?_
  obtain ⟨r2, e1, hf⟩ := px_bq_e hf
  refine px_cI (As := [.int p1]) (rest := []) X hml hl w (cC_Promises_has l D cs ad e1) lk_3_61 (by decide) (rcC_32 X.2.2.2.2 w) rfl (Nat.le_of_ble_eq_true rfl) dX3_react_2 (fun H locs w => ?_)
  refine lv_if_eq (tgt := 17) X.1 X.2.1 dX3_react_5 (by decide) (fun c3 => ?_) (fun c3 => ?_)
  · have hf := px_ip c3 hf
    cases hf
    exact px_retV X hr hlk w dX3_react_17
  · have hf := px_in c3 hf
    refine lv_aload_n X.1 X.2.1 dX3_react_8 rfl (lv_at hl 0 rfl) ?_
    refine gtC_32_14 X w dX3_react_9 ?_
    refine lv_bipush (v := (80 : Int32)) X.1 X.2.1 dX3_react_12 (by decide) ?_
    refine lv_icmp_lt (tgt := 18) X.1 X.2.1 dX3_react_14 (by decide) (fun c4 => ?_) (fun c4 => ?_)
    · have hf := px_ip c4 hf
      refine lv_aload_n X.1 X.2.1 dX3_react_18 rfl (lv_at hl 0 rfl) ?_
      refine gtC_32_6 X w dX3_react_19 ?_
      refine lv_iload_n X.1 X.2.1 dX3_react_22 rfl (lv_at hl 1 rfl) ?_
      obtain ⟨b5, hf⟩ := px_ck_e hf
      refine ilC_37 X w b5 dX3_react_23 ?_
      refine lv_if_eq (tgt := 48) X.1 X.2.1 dX3_react_24 (by decide) (fun c6 => ?_) (fun c6 => ?_)
      · have hf := px_ip c6 hf
        refine lv_aload_n X.1 X.2.1 dX3_react_48 rfl (lv_at hl 0 rfl) ?_
        refine gtC_32_5 X w dX3_react_49 ?_
        refine lv_iload_n X.1 X.2.1 dX3_react_52 rfl (lv_at hl 1 rfl) ?_
        refine lv_iconst (v := (1 : Int32)) X.1 X.2.1 dX3_react_53 (by decide) ?_
        obtain ⟨b7, hf⟩ := px_ck_e hf
        refine isC_36 X w b7 rfl dX3_react_54 (fun H locs w => ?_)
        obtain ⟨M8, eM8, hf⟩ := px_bn_e hf
        rw [← eM8] at w
        refine lv_aload_n X.1 X.2.1 dX3_react_55 rfl (lv_at hl 0 rfl) ?_
        refine gtC_32_10 X w dX3_react_56 ?_
        refine lv_aload_n X.1 X.2.1 dX3_react_59 rfl (lv_at hl 0 rfl) ?_
        refine gtC_32_14 X w dX3_react_60 ?_
        refine lv_iload_n X.1 X.2.1 dX3_react_63 rfl (lv_at hl 1 rfl) ?_
        obtain ⟨b9, hf⟩ := px_ck_e hf
        refine isC_39 X w b9 dX3_react_64 (fun H locs w => ?_)
        obtain ⟨M10, eM10, hf⟩ := px_bn_e hf
        rw [← eM10] at w
        refine lv_aload_n X.1 X.2.1 dX3_react_65 rfl (lv_at hl 0 rfl) ?_
        refine gtC_32_11 X w dX3_react_66 ?_
        refine lv_aload_n X.1 X.2.1 dX3_react_69 rfl (lv_at hl 0 rfl) ?_
        refine gtC_32_14 X w dX3_react_70 ?_
        refine lv_iload X.1 X.2.1 dX3_react_73 (lv_at hl 4 rfl) ?_
        obtain ⟨b11, hf⟩ := px_ck_e hf
        refine isC_40 X w b11 dX3_react_75 (fun H locs w => ?_)
        obtain ⟨M12, eM12, hf⟩ := px_bn_e hf
        rw [← eM12] at w
        refine lv_aload_n X.1 X.2.1 dX3_react_76 rfl (lv_at hl 0 rfl) ?_
        refine gtC_32_12 X w dX3_react_77 ?_
        refine lv_aload_n X.1 X.2.1 dX3_react_80 rfl (lv_at hl 0 rfl) ?_
        refine gtC_32_14 X w dX3_react_81 ?_
        refine lv_iload_n X.1 X.2.1 dX3_react_84 rfl (lv_at hl 2 rfl) ?_
        obtain ⟨b13, hf⟩ := px_ck_e hf
        refine isC_41 X w b13 dX3_react_85 (fun H locs w => ?_)
        obtain ⟨M14, eM14, hf⟩ := px_bn_e hf
        rw [← eM14] at w
        refine lv_aload_n X.1 X.2.1 dX3_react_86 rfl (lv_at hl 0 rfl) ?_
        refine gtC_32_13 X w dX3_react_87 ?_
        refine lv_aload_n X.1 X.2.1 dX3_react_90 rfl (lv_at hl 0 rfl) ?_
        refine gtC_32_14 X w dX3_react_91 ?_
        refine lv_iload_n X.1 X.2.1 dX3_react_94 rfl (lv_at hl 3 rfl) ?_
        obtain ⟨b15, hf⟩ := px_ck_e hf
        refine isC_42 X w b15 dX3_react_95 (fun H locs w => ?_)
        obtain ⟨M16, eM16, hf⟩ := px_bn_e hf
        rw [← eM16] at w
        refine lv_aload_n X.1 X.2.1 dX3_react_96 rfl (lv_at hl 0 rfl) ?_
        refine gtC_32_2 X w dX3_react_97 ?_
        refine lv_iload_n X.1 X.2.1 dX3_react_100 rfl (lv_at hl 1 rfl) ?_
        obtain ⟨b17, hf⟩ := px_ck_e hf
        refine ilC_33 X w b17 dX3_react_101 ?_
        refine lv_if_eq (tgt := 118) X.1 X.2.1 dX3_react_102 (by decide) (fun c18 => ?_) (fun c18 => ?_)
        · have hf := px_ip c18 hf
          refine lv_aload_n X.1 X.2.1 dX3_react_118 rfl (lv_at hl 0 rfl) ?_
          refine lv_dup X.1 X.2.1 dX3_react_119 rfl ?_
          refine gtC_32_14 X w dX3_react_120 ?_
          refine lv_iconst (v := (1 : Int32)) X.1 X.2.1 dX3_react_123 (by decide) ?_
          refine lv_iadd X.1 X.2.1 dX3_react_124 ?_
          refine ptC_32_14 X w dX3_react_125 (fun H locs w => ?_)
          obtain ⟨M19, eM19, hf⟩ := px_bn_e hf
          rw [← eM19] at w
          cases hf
          exact px_retV X hr hlk w dX3_react_128
        · have hf := px_in c18 hf
          refine lv_aload_n X.1 X.2.1 dX3_react_105 rfl (lv_at hl 0 rfl) ?_
          refine gtC_32_0 X w dX3_react_106 ?_
          refine lv_iconst (v := (2 : Int32)) X.1 X.2.1 dX3_react_109 (by decide) ?_
          refine lv_aload_n X.1 X.2.1 dX3_react_110 rfl (lv_at hl 0 rfl) ?_
          refine gtC_32_14 X w dX3_react_111 ?_
          refine lv_iconst (v := (0 : Int32)) X.1 X.2.1 dX3_react_114 (by decide) ?_
          obtain ⟨M21, e20, hf⟩ := px_bq_e hf
          refine px_cV (As := [.int (2 : Int32), .int (M16 32 14), .int (0 : Int32)]) (rest := []) X hml hl w (cC_Line_put_20 l D cs ad e20) lk_3_69 (by decide) (rcC_20 X.2.2.2.2 w) rfl (Nat.le_of_ble_eq_true rfl) dX3_react_115 (fun H locs w => ?_)
          refine lv_aload_n X.1 X.2.1 dX3_react_118 rfl (lv_at hl 0 rfl) ?_
          refine lv_dup X.1 X.2.1 dX3_react_119 rfl ?_
          refine gtC_32_14 X w dX3_react_120 ?_
          refine lv_iconst (v := (1 : Int32)) X.1 X.2.1 dX3_react_123 (by decide) ?_
          refine lv_iadd X.1 X.2.1 dX3_react_124 ?_
          refine ptC_32_14 X w dX3_react_125 (fun H locs w => ?_)
          obtain ⟨M22, eM22, hf⟩ := px_bn_e hf
          rw [← eM22] at w
          cases hf
          exact px_retV X hr hlk w dX3_react_128
      · have hf := px_in c6 hf
        refine lv_aload_n X.1 X.2.1 dX3_react_27 rfl (lv_at hl 0 rfl) ?_
        refine gtC_32_5 X w dX3_react_28 ?_
        refine lv_iload_n X.1 X.2.1 dX3_react_31 rfl (lv_at hl 1 rfl) ?_
        obtain ⟨b23, hf⟩ := px_ck_e hf
        refine ilC_36 X w b23 dX3_react_32 ?_
        refine lv_if_ne (tgt := 48) X.1 X.2.1 dX3_react_33 (by decide) (fun c24 => ?_) (fun c24 => ?_)
        · have hf := px_in c24 hf
          refine lv_aload_n X.1 X.2.1 dX3_react_48 rfl (lv_at hl 0 rfl) ?_
          refine gtC_32_5 X w dX3_react_49 ?_
          refine lv_iload_n X.1 X.2.1 dX3_react_52 rfl (lv_at hl 1 rfl) ?_
          refine lv_iconst (v := (1 : Int32)) X.1 X.2.1 dX3_react_53 (by decide) ?_
          obtain ⟨b25, hf⟩ := px_ck_e hf
          refine isC_36 X w b25 rfl dX3_react_54 (fun H locs w => ?_)
          obtain ⟨M26, eM26, hf⟩ := px_bn_e hf
          rw [← eM26] at w
          refine lv_aload_n X.1 X.2.1 dX3_react_55 rfl (lv_at hl 0 rfl) ?_
          refine gtC_32_10 X w dX3_react_56 ?_
          refine lv_aload_n X.1 X.2.1 dX3_react_59 rfl (lv_at hl 0 rfl) ?_
          refine gtC_32_14 X w dX3_react_60 ?_
          refine lv_iload_n X.1 X.2.1 dX3_react_63 rfl (lv_at hl 1 rfl) ?_
          obtain ⟨b27, hf⟩ := px_ck_e hf
          refine isC_39 X w b27 dX3_react_64 (fun H locs w => ?_)
          obtain ⟨M28, eM28, hf⟩ := px_bn_e hf
          rw [← eM28] at w
          refine lv_aload_n X.1 X.2.1 dX3_react_65 rfl (lv_at hl 0 rfl) ?_
          refine gtC_32_11 X w dX3_react_66 ?_
          refine lv_aload_n X.1 X.2.1 dX3_react_69 rfl (lv_at hl 0 rfl) ?_
          refine gtC_32_14 X w dX3_react_70 ?_
          refine lv_iload X.1 X.2.1 dX3_react_73 (lv_at hl 4 rfl) ?_
          obtain ⟨b29, hf⟩ := px_ck_e hf
          refine isC_40 X w b29 dX3_react_75 (fun H locs w => ?_)
          obtain ⟨M30, eM30, hf⟩ := px_bn_e hf
          rw [← eM30] at w
          refine lv_aload_n X.1 X.2.1 dX3_react_76 rfl (lv_at hl 0 rfl) ?_
          refine gtC_32_12 X w dX3_react_77 ?_
          refine lv_aload_n X.1 X.2.1 dX3_react_80 rfl (lv_at hl 0 rfl) ?_
          refine gtC_32_14 X w dX3_react_81 ?_
          refine lv_iload_n X.1 X.2.1 dX3_react_84 rfl (lv_at hl 2 rfl) ?_
          obtain ⟨b31, hf⟩ := px_ck_e hf
          refine isC_41 X w b31 dX3_react_85 (fun H locs w => ?_)
          obtain ⟨M32, eM32, hf⟩ := px_bn_e hf
          rw [← eM32] at w
          refine lv_aload_n X.1 X.2.1 dX3_react_86 rfl (lv_at hl 0 rfl) ?_
          refine gtC_32_13 X w dX3_react_87 ?_
          refine lv_aload_n X.1 X.2.1 dX3_react_90 rfl (lv_at hl 0 rfl) ?_
          refine gtC_32_14 X w dX3_react_91 ?_
          refine lv_iload_n X.1 X.2.1 dX3_react_94 rfl (lv_at hl 3 rfl) ?_
          obtain ⟨b33, hf⟩ := px_ck_e hf
          refine isC_42 X w b33 dX3_react_95 (fun H locs w => ?_)
          obtain ⟨M34, eM34, hf⟩ := px_bn_e hf
          rw [← eM34] at w
          refine lv_aload_n X.1 X.2.1 dX3_react_96 rfl (lv_at hl 0 rfl) ?_
          refine gtC_32_2 X w dX3_react_97 ?_
          refine lv_iload_n X.1 X.2.1 dX3_react_100 rfl (lv_at hl 1 rfl) ?_
          obtain ⟨b35, hf⟩ := px_ck_e hf
          refine ilC_33 X w b35 dX3_react_101 ?_
          refine lv_if_eq (tgt := 118) X.1 X.2.1 dX3_react_102 (by decide) (fun c36 => ?_) (fun c36 => ?_)
          · have hf := px_ip c36 hf
            refine lv_aload_n X.1 X.2.1 dX3_react_118 rfl (lv_at hl 0 rfl) ?_
            refine lv_dup X.1 X.2.1 dX3_react_119 rfl ?_
            refine gtC_32_14 X w dX3_react_120 ?_
            refine lv_iconst (v := (1 : Int32)) X.1 X.2.1 dX3_react_123 (by decide) ?_
            refine lv_iadd X.1 X.2.1 dX3_react_124 ?_
            refine ptC_32_14 X w dX3_react_125 (fun H locs w => ?_)
            obtain ⟨M37, eM37, hf⟩ := px_bn_e hf
            rw [← eM37] at w
            cases hf
            exact px_retV X hr hlk w dX3_react_128
          · have hf := px_in c36 hf
            refine lv_aload_n X.1 X.2.1 dX3_react_105 rfl (lv_at hl 0 rfl) ?_
            refine gtC_32_0 X w dX3_react_106 ?_
            refine lv_iconst (v := (2 : Int32)) X.1 X.2.1 dX3_react_109 (by decide) ?_
            refine lv_aload_n X.1 X.2.1 dX3_react_110 rfl (lv_at hl 0 rfl) ?_
            refine gtC_32_14 X w dX3_react_111 ?_
            refine lv_iconst (v := (0 : Int32)) X.1 X.2.1 dX3_react_114 (by decide) ?_
            obtain ⟨M39, e38, hf⟩ := px_bq_e hf
            refine px_cV (As := [.int (2 : Int32), .int (M34 32 14), .int (0 : Int32)]) (rest := []) X hml hl w (cC_Line_put_20 l D cs ad e38) lk_3_69 (by decide) (rcC_20 X.2.2.2.2 w) rfl (Nat.le_of_ble_eq_true rfl) dX3_react_115 (fun H locs w => ?_)
            refine lv_aload_n X.1 X.2.1 dX3_react_118 rfl (lv_at hl 0 rfl) ?_
            refine lv_dup X.1 X.2.1 dX3_react_119 rfl ?_
            refine gtC_32_14 X w dX3_react_120 ?_
            refine lv_iconst (v := (1 : Int32)) X.1 X.2.1 dX3_react_123 (by decide) ?_
            refine lv_iadd X.1 X.2.1 dX3_react_124 ?_
            refine ptC_32_14 X w dX3_react_125 (fun H locs w => ?_)
            obtain ⟨M40, eM40, hf⟩ := px_bn_e hf
            rw [← eM40] at w
            cases hf
            exact px_retV X hr hlk w dX3_react_128
        · have hf := px_ip c24 hf
          refine lv_aload_n X.1 X.2.1 dX3_react_36 rfl (lv_at hl 0 rfl) ?_
          refine gtC_32_1 X w dX3_react_37 ?_
          refine lv_sipush (v := (30000 : Int32)) X.1 X.2.1 dX3_react_40 (by decide) ?_
          refine lv_iload_n X.1 X.2.1 dX3_react_43 rfl (lv_at hl 1 rfl) ?_
          refine lv_iadd X.1 X.2.1 dX3_react_44 ?_
          obtain ⟨M42, e41, hf⟩ := px_bq_e hf
          refine px_cV (As := [.int ((30000 : Int32) + p1)]) (rest := []) X hml hl w (cC_Journal_keep_30 l D cs ad e41) lk_3_74 (by decide) (rcC_30 X.2.2.2.2 w) rfl (Nat.le_of_ble_eq_true rfl) dX3_react_45 (fun H locs w => ?_)
          refine lv_aload_n X.1 X.2.1 dX3_react_48 rfl (lv_at hl 0 rfl) ?_
          refine gtC_32_5 X w dX3_react_49 ?_
          refine lv_iload_n X.1 X.2.1 dX3_react_52 rfl (lv_at hl 1 rfl) ?_
          refine lv_iconst (v := (1 : Int32)) X.1 X.2.1 dX3_react_53 (by decide) ?_
          obtain ⟨b43, hf⟩ := px_ck_e hf
          refine isC_36 X w b43 rfl dX3_react_54 (fun H locs w => ?_)
          obtain ⟨M44, eM44, hf⟩ := px_bn_e hf
          rw [← eM44] at w
          refine lv_aload_n X.1 X.2.1 dX3_react_55 rfl (lv_at hl 0 rfl) ?_
          refine gtC_32_10 X w dX3_react_56 ?_
          refine lv_aload_n X.1 X.2.1 dX3_react_59 rfl (lv_at hl 0 rfl) ?_
          refine gtC_32_14 X w dX3_react_60 ?_
          refine lv_iload_n X.1 X.2.1 dX3_react_63 rfl (lv_at hl 1 rfl) ?_
          obtain ⟨b45, hf⟩ := px_ck_e hf
          refine isC_39 X w b45 dX3_react_64 (fun H locs w => ?_)
          obtain ⟨M46, eM46, hf⟩ := px_bn_e hf
          rw [← eM46] at w
          refine lv_aload_n X.1 X.2.1 dX3_react_65 rfl (lv_at hl 0 rfl) ?_
          refine gtC_32_11 X w dX3_react_66 ?_
          refine lv_aload_n X.1 X.2.1 dX3_react_69 rfl (lv_at hl 0 rfl) ?_
          refine gtC_32_14 X w dX3_react_70 ?_
          refine lv_iload X.1 X.2.1 dX3_react_73 (lv_at hl 4 rfl) ?_
          obtain ⟨b47, hf⟩ := px_ck_e hf
          refine isC_40 X w b47 dX3_react_75 (fun H locs w => ?_)
          obtain ⟨M48, eM48, hf⟩ := px_bn_e hf
          rw [← eM48] at w
          refine lv_aload_n X.1 X.2.1 dX3_react_76 rfl (lv_at hl 0 rfl) ?_
          refine gtC_32_12 X w dX3_react_77 ?_
          refine lv_aload_n X.1 X.2.1 dX3_react_80 rfl (lv_at hl 0 rfl) ?_
          refine gtC_32_14 X w dX3_react_81 ?_
          refine lv_iload_n X.1 X.2.1 dX3_react_84 rfl (lv_at hl 2 rfl) ?_
          obtain ⟨b49, hf⟩ := px_ck_e hf
          refine isC_41 X w b49 dX3_react_85 (fun H locs w => ?_)
          obtain ⟨M50, eM50, hf⟩ := px_bn_e hf
          rw [← eM50] at w
          refine lv_aload_n X.1 X.2.1 dX3_react_86 rfl (lv_at hl 0 rfl) ?_
          refine gtC_32_13 X w dX3_react_87 ?_
          refine lv_aload_n X.1 X.2.1 dX3_react_90 rfl (lv_at hl 0 rfl) ?_
          refine gtC_32_14 X w dX3_react_91 ?_
          refine lv_iload_n X.1 X.2.1 dX3_react_94 rfl (lv_at hl 3 rfl) ?_
          obtain ⟨b51, hf⟩ := px_ck_e hf
          refine isC_42 X w b51 dX3_react_95 (fun H locs w => ?_)
          obtain ⟨M52, eM52, hf⟩ := px_bn_e hf
          rw [← eM52] at w
          refine lv_aload_n X.1 X.2.1 dX3_react_96 rfl (lv_at hl 0 rfl) ?_
          refine gtC_32_2 X w dX3_react_97 ?_
          refine lv_iload_n X.1 X.2.1 dX3_react_100 rfl (lv_at hl 1 rfl) ?_
          obtain ⟨b53, hf⟩ := px_ck_e hf
          refine ilC_33 X w b53 dX3_react_101 ?_
          refine lv_if_eq (tgt := 118) X.1 X.2.1 dX3_react_102 (by decide) (fun c54 => ?_) (fun c54 => ?_)
          · have hf := px_ip c54 hf
            refine lv_aload_n X.1 X.2.1 dX3_react_118 rfl (lv_at hl 0 rfl) ?_
            refine lv_dup X.1 X.2.1 dX3_react_119 rfl ?_
            refine gtC_32_14 X w dX3_react_120 ?_
            refine lv_iconst (v := (1 : Int32)) X.1 X.2.1 dX3_react_123 (by decide) ?_
            refine lv_iadd X.1 X.2.1 dX3_react_124 ?_
            refine ptC_32_14 X w dX3_react_125 (fun H locs w => ?_)
            obtain ⟨M55, eM55, hf⟩ := px_bn_e hf
            rw [← eM55] at w
            cases hf
            exact px_retV X hr hlk w dX3_react_128
          · have hf := px_in c54 hf
            refine lv_aload_n X.1 X.2.1 dX3_react_105 rfl (lv_at hl 0 rfl) ?_
            refine gtC_32_0 X w dX3_react_106 ?_
            refine lv_iconst (v := (2 : Int32)) X.1 X.2.1 dX3_react_109 (by decide) ?_
            refine lv_aload_n X.1 X.2.1 dX3_react_110 rfl (lv_at hl 0 rfl) ?_
            refine gtC_32_14 X w dX3_react_111 ?_
            refine lv_iconst (v := (0 : Int32)) X.1 X.2.1 dX3_react_114 (by decide) ?_
            obtain ⟨M57, e56, hf⟩ := px_bq_e hf
            refine px_cV (As := [.int (2 : Int32), .int (M52 32 14), .int (0 : Int32)]) (rest := []) X hml hl w (cC_Line_put_20 l D cs ad e56) lk_3_69 (by decide) (rcC_20 X.2.2.2.2 w) rfl (Nat.le_of_ble_eq_true rfl) dX3_react_115 (fun H locs w => ?_)
            refine lv_aload_n X.1 X.2.1 dX3_react_118 rfl (lv_at hl 0 rfl) ?_
            refine lv_dup X.1 X.2.1 dX3_react_119 rfl ?_
            refine gtC_32_14 X w dX3_react_120 ?_
            refine lv_iconst (v := (1 : Int32)) X.1 X.2.1 dX3_react_123 (by decide) ?_
            refine lv_iadd X.1 X.2.1 dX3_react_124 ?_
            refine ptC_32_14 X w dX3_react_125 (fun H locs w => ?_)
            obtain ⟨M58, eM58, hf⟩ := px_bn_e hf
            rw [← eM58] at w
            cases hf
            exact px_retV X hr hlk w dX3_react_128
    · have hf := px_in c4 hf
      cases hf
      exact px_retV X hr hlk w dX3_react_17
def gC_Promises_reportUnhandled_L2 (rc2 : px_M → Int32 → Option px_M) (M : px_M) (y1 : Int32) : Option px_M := (if (M 32 9) ≤ y1 then px_bn (px_up M 32 9 (0 : Int32)) (fun M2 => some M2) else px_ck y1 40 (px_bn ((M 38 y1.toNatClampNeg)) (fun x4 => px_ck x4 40 ((if (M 36 x4.toNatClampNeg) = 0 then px_ck x4 40 (px_bn (px_up M 37 x4.toNatClampNeg (1 : Int32)) (fun M8 => px_bq (fC_Journal_keep_30 M8 ((20000 : Int32) + x4)) (fun M10 => rc2 M10 (y1 + (1 : Int32))))) else rc2 M (y1 + (1 : Int32)))))))
set_option maxHeartbeats 4000000 in
set_option maxRecDepth 100000 in
theorem lC_Promises_reportUnhandled_L2 {l : Launch} {D : va_G} {cs : Nat → ClassId} {ad : Nat → Nat} {p : Program} {e : Env} {s : State} {m : MethodId} {args : Array Value} {below : List Frame} {meth : Method} {c : Code} {A : Nat → Prop} (X : px_X D (tyC cs) p s m args c cX3_reportUnhandled yX3_reportUnhandled.cls) (hr : meth.sig.returnType = none) (hlk : meth.locks = false) (hml : c.maxLocals = 3) : ∀ (j : Nat) (M : px_M) (y1 : Int32) (z : px_M), px_fx1 gC_Promises_reportUnhandled_L2 j M y1 = some z → ∀ (H : Heap) (locs : List Loc) (ls : Array Slot), px_H D (wC cs ad) A s.heap M H locs → lv_has ls 3 [(0, .ref (ad 32)), (1, .int y1)] → W p l e (px_rm 1) s m args below meth c H locs 0 0 (px_QV D (tyC cs) (wC cs ad) below args s A z) (F0 m 2 ls []) := by
  refine px_fx1_i (P := fun M y1 (z : px_M) => ∀ (H : Heap) (locs : List Loc) (ls : Array Slot), px_H D (wC cs ad) A s.heap M H locs → lv_has ls 3 [(0, .ref (ad 32)), (1, .int y1)] → W p l e (px_rm 1) s m args below meth c H locs 0 0 (px_QV D (tyC cs) (wC cs ad) below args s A z) (F0 m 2 ls [])) ?_
  intro rc2 ih2 M y1 z hf H locs ls w hl
  unfold gC_Promises_reportUnhandled_L2 at hf
  refine lv_iload_n X.1 X.2.1 dX3_reportUnhandled_2 rfl (lv_at hl 1 rfl) ?_
  refine lv_aload_n X.1 X.2.1 dX3_reportUnhandled_3 rfl (lv_at hl 0 rfl) ?_
  refine gtC_32_9 X w dX3_reportUnhandled_4 ?_
  refine lv_icmp_ge (tgt := 51) X.1 X.2.1 dX3_reportUnhandled_7 (by decide) (fun c1 => ?_) (fun c1 => ?_)
  · have hf := px_ip c1 hf
    refine lv_aload_n X.1 X.2.1 dX3_reportUnhandled_51 rfl (lv_at hl 0 rfl) ?_
    refine lv_iconst (v := (0 : Int32)) X.1 X.2.1 dX3_reportUnhandled_52 (by decide) ?_
    refine ptC_32_9 X w dX3_reportUnhandled_53 (fun H locs w => ?_)
    obtain ⟨M2, eM2, hf⟩ := px_bn_e hf
    rw [← eM2] at w
    cases hf
    exact px_retV X hr hlk w dX3_reportUnhandled_56
  · have hf := px_in c1 hf
    refine lv_aload_n X.1 X.2.1 dX3_reportUnhandled_10 rfl (lv_at hl 0 rfl) ?_
    refine gtC_32_8 X w dX3_reportUnhandled_11 ?_
    refine lv_iload_n X.1 X.2.1 dX3_reportUnhandled_14 rfl (lv_at hl 1 rfl) ?_
    obtain ⟨b3, hf⟩ := px_ck_e hf
    refine ilC_38 X w b3 dX3_reportUnhandled_15 ?_
    obtain ⟨x4, ex4, hf⟩ := px_bn_e hf
    rw [← ex4]
    refine lv_istore_n (lv' := [(2, .int x4), (0, .ref (ad 32)), (1, .int y1)]) X.1 X.2.1 dX3_reportUnhandled_16 rfl hl (by decide) rfl (fun ls hl => ?_)
    refine lv_aload_n X.1 X.2.1 dX3_reportUnhandled_17 rfl (lv_at hl 1 rfl) ?_
    refine gtC_32_5 X w dX3_reportUnhandled_18 ?_
    refine lv_iload_n X.1 X.2.1 dX3_reportUnhandled_21 rfl (lv_at hl 0 rfl) ?_
    obtain ⟨b5, hf⟩ := px_ck_e hf
    refine ilC_36 X w b5 dX3_reportUnhandled_22 ?_
    refine lv_if_ne (tgt := 45) X.1 X.2.1 dX3_reportUnhandled_23 (by decide) (fun c6 => ?_) (fun c6 => ?_)
    · have hf := px_in c6 hf
      refine lv_iinc (v := (y1 + (1 : Int32))) (lv' := [(1, .int (y1 + (1 : Int32))), (2, .int x4), (0, .ref (ad 32))]) X.1 X.2.1 dX3_reportUnhandled_45 hl (k := 2) rfl rfl (by decide) rfl (fun ls hl => ?_)
      refine lv_goto (tgt := 2) X.1 X.2.1 dX3_reportUnhandled_48 (by decide) ?_
      exact ih2 M (y1 + (1 : Int32)) _ hf _ _ ls w (lv_sub hl [2, 0] rfl)
    · have hf := px_ip c6 hf
      refine lv_aload_n X.1 X.2.1 dX3_reportUnhandled_26 rfl (lv_at hl 1 rfl) ?_
      refine gtC_32_6 X w dX3_reportUnhandled_27 ?_
      refine lv_iload_n X.1 X.2.1 dX3_reportUnhandled_30 rfl (lv_at hl 0 rfl) ?_
      refine lv_iconst (v := (1 : Int32)) X.1 X.2.1 dX3_reportUnhandled_31 (by decide) ?_
      obtain ⟨b7, hf⟩ := px_ck_e hf
      refine isC_37 X w b7 rfl dX3_reportUnhandled_32 (fun H locs w => ?_)
      obtain ⟨M8, eM8, hf⟩ := px_bn_e hf
      rw [← eM8] at w
      refine lv_aload_n X.1 X.2.1 dX3_reportUnhandled_33 rfl (lv_at hl 1 rfl) ?_
      refine gtC_32_1 X w dX3_reportUnhandled_34 ?_
      refine lv_sipush (v := (20000 : Int32)) X.1 X.2.1 dX3_reportUnhandled_37 (by decide) ?_
      refine lv_iload_n X.1 X.2.1 dX3_reportUnhandled_40 rfl (lv_at hl 0 rfl) ?_
      refine lv_iadd X.1 X.2.1 dX3_reportUnhandled_41 ?_
      obtain ⟨M10, e9, hf⟩ := px_bq_e hf
      refine px_cV (As := [.int ((20000 : Int32) + x4)]) (rest := []) X hml hl w (cC_Journal_keep_30 l D cs ad e9) lk_3_74 (by decide) (rcC_30 X.2.2.2.2 w) rfl (Nat.le_of_ble_eq_true rfl) dX3_reportUnhandled_42 (fun H locs w => ?_)
      refine lv_iinc (v := (y1 + (1 : Int32))) (lv' := [(1, .int (y1 + (1 : Int32))), (2, .int x4), (0, .ref (ad 32))]) X.1 X.2.1 dX3_reportUnhandled_45 hl (k := 2) rfl rfl (by decide) rfl (fun ls hl => ?_)
      refine lv_goto (tgt := 2) X.1 X.2.1 dX3_reportUnhandled_48 (by decide) ?_
      exact ih2 M10 (y1 + (1 : Int32)) _ hf _ _ ls w (lv_sub hl [2, 0] rfl)
def fC_Promises_reportUnhandled (M : px_M) : Option px_M := px_fx1 gC_Promises_reportUnhandled_L2 41 M (0 : Int32)
set_option maxHeartbeats 4000000 in
set_option maxRecDepth 100000 in
theorem cC_Promises_reportUnhandled (l : Launch) (D : va_G) (cs : Nat → ClassId) (ad : Nat → Nat) {M : px_M} {M' : px_M} (hf : fC_Promises_reportUnhandled M = some M') : px_mV l D (tyC cs) (wC cs ad) yX3_reportUnhandled cX3_reportUnhandled 3 1 [.ref (ad 32)] M M' := by
  refine px_ofV (by decide +kernel) (Nat.le_of_ble_eq_true rfl) ?_
  intro p e s m below meth c A ls X hr hlk hml w hl
  have hl : lv_has ls 3 [(0, .ref (ad 32))] := hl
  unfold fC_Promises_reportUnhandled at hf
  refine lv_iconst (v := (0 : Int32)) X.1 X.2.1 dX3_reportUnhandled_0 (by decide) ?_
  refine lv_istore_n (lv' := [(1, .int (0 : Int32)), (0, .ref (ad 32))]) X.1 X.2.1 dX3_reportUnhandled_1 rfl hl (by decide) rfl (fun ls hl => ?_)
  exact lC_Promises_reportUnhandled_L2 X hr hlk hml 41 M (0 : Int32) _ hf _ _ ls w (lv_sub hl [1, 0] rfl)
