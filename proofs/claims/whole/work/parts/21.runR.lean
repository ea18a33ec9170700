def gR_M_takenUp_L0 (rc0 : px_M → Option (Int32 × px_M)) (M : px_M) : Option (Int32 × px_M) := (if (M 0 52) ≤ 0 then some ((0 : Int32), M) else px_bn (px_up M 0 52 ((M 0 52) - (1 : Int32))) (fun M2 => (if (M2 0 52) ≤ 0 then rc0 M2 else px_ck (M2 0 52) 8 ((if (M2 41 (M2 0 52).toNatClampNeg) = (2 : Int32) then (if (30 : Int32) ≤ (M2 0 61) then px_bn (px_up M2 0 64 (-1 : Int32)) (fun M7 => rc0 M7) else px_bn (px_up M2 0 61 ((M2 0 61) + (1 : Int32))) (fun M8 => px_bn (px_up M8 0 63 (0 : Int32)) (fun M9 => px_ck (M9 0 52) 8 (px_bq (fR_M_begin M9 (M9 42 (M9 0 52).toNatClampNeg) (M9 0 64) (3 : Int32) (0 : Int32)) (fun M12 => some ((1 : Int32), M12)))))) else rc0 M2)))))
set_option maxHeartbeats 4000000 in
set_option maxRecDepth 100000 in
theorem lR_M_takenUp_L0 {l : Launch} {D : va_G} {cs : Nat → ClassId} {ad : Nat → Nat} {p : Program} {e : Env} {s : State} {m : MethodId} {args : Array Value} {below : List Frame} {meth : Method} {c : Code} {A : Nat → Prop} (X : px_X D (tyR cs) p s m args c cX6_takenUp yX6_takenUp.cls) (hr : meth.sig.returnType = (some .boolean)) (hlk : meth.locks = false) (hml : c.maxLocals = 1) : ∀ (j : Nat) (M : px_M) (z : Int32 × px_M), px_fx0 gR_M_takenUp_L0 j M = some z → ∀ (H : Heap) (locs : List Loc) (ls : Array Slot), px_H D (wR cs ad) A s.heap M H locs → lv_has ls 1 [(0, .ref (ad 0))] → W p l e (px_rm 1) s m args below meth c H locs 0 0 (px_QI D (tyR cs) (wR cs ad) below args s A z.1 z.2) (F0 m 0 ls []) := by
  refine px_fx0_i (P := fun M (z : Int32 × px_M) => ∀ (H : Heap) (locs : List Loc) (ls : Array Slot), px_H D (wR cs ad) A s.heap M H locs → lv_has ls 1 [(0, .ref (ad 0))] → W p l e (px_rm 1) s m args below meth c H locs 0 0 (px_QI D (tyR cs) (wR cs ad) below args s A z.1 z.2) (F0 m 0 ls [])) ?_
  intro rc0 ih0 M z hf H locs ls w hl
  unfold gR_M_takenUp_L0 at hf
  refine lv_aload_n X.1 X.2.1 dX6_takenUp_0 rfl (lv_at hl 0 rfl) ?_
  refine gtR_0_52 X w dX6_takenUp_1 ?_
  refine lv_if_le (tgt := 90) X.1 X.2.1 dX6_takenUp_4 (by decide) (fun c1 => ?_) (fun c1 => ?_)
  · have hf := px_ip c1 hf
    refine lv_iconst (v := (0 : Int32)) X.1 X.2.1 dX6_takenUp_90 (by decide) ?_
    cases hf
    exact px_retZ X hr hlk narrow_b0 w dX6_takenUp_91
  · have hf := px_in c1 hf
    refine lv_aload_n X.1 X.2.1 dX6_takenUp_7 rfl (lv_at hl 0 rfl) ?_
    refine lv_dup X.1 X.2.1 dX6_takenUp_8 rfl ?_
    refine gtR_0_52 X w dX6_takenUp_9 ?_
    refine lv_iconst (v := (1 : Int32)) X.1 X.2.1 dX6_takenUp_12 (by decide) ?_
    refine lv_isub X.1 X.2.1 dX6_takenUp_13 ?_
    refine ptR_0_52 X w dX6_takenUp_14 (fun H locs w => ?_)
    obtain ⟨M2, eM2, hf⟩ := px_bn_e hf
    rw [← eM2] at w
    refine lv_aload_n X.1 X.2.1 dX6_takenUp_17 rfl (lv_at hl 0 rfl) ?_
    refine gtR_0_52 X w dX6_takenUp_18 ?_
    refine lv_if_le (tgt := 0) X.1 X.2.1 dX6_takenUp_21 (by decide) (fun c3 => ?_) (fun c3 => ?_)
    · have hf := px_ip c3 hf
      exact ih0 M2 _ hf _ _ ls w (lv_sub hl [0] rfl)
    · have hf := px_in c3 hf
      refine lv_aload_n X.1 X.2.1 dX6_takenUp_24 rfl (lv_at hl 0 rfl) ?_
      refine gtR_0_58 X w dX6_takenUp_25 ?_
      refine lv_aload_n X.1 X.2.1 dX6_takenUp_28 rfl (lv_at hl 0 rfl) ?_
      refine gtR_0_52 X w dX6_takenUp_29 ?_
      obtain ⟨b4, hf⟩ := px_ck_e hf
      refine ilR_41 X w b4 dX6_takenUp_32 ?_
      refine lv_iconst (v := (2 : Int32)) X.1 X.2.1 dX6_takenUp_33 (by decide) ?_
      refine lv_icmp_ne (tgt := 0) X.1 X.2.1 dX6_takenUp_34 (by decide) (fun c5 => ?_) (fun c5 => ?_)
      · have hf := px_in c5 hf
        exact ih0 M2 _ hf _ _ ls w (lv_sub hl [0] rfl)
      · have hf := px_ip c5 hf
        refine lv_aload_n X.1 X.2.1 dX6_takenUp_37 rfl (lv_at hl 0 rfl) ?_
        refine gtR_0_61 X w dX6_takenUp_38 ?_
        refine lv_bipush (v := (30 : Int32)) X.1 X.2.1 dX6_takenUp_41 (by decide) ?_
        refine lv_icmp_ge (tgt := 82) X.1 X.2.1 dX6_takenUp_43 (by decide) (fun c6 => ?_) (fun c6 => ?_)
        · have hf := px_ip c6 hf
          refine lv_aload_n X.1 X.2.1 dX6_takenUp_82 rfl (lv_at hl 0 rfl) ?_
          refine lv_iconst (v := (-1 : Int32)) X.1 X.2.1 dX6_takenUp_83 (by decide) ?_
          refine ptR_0_64 X w dX6_takenUp_84 (fun H locs w => ?_)
          obtain ⟨M7, eM7, hf⟩ := px_bn_e hf
          rw [← eM7] at w
          refine lv_goto (tgt := 0) X.1 X.2.1 dX6_takenUp_87 (by decide) ?_
          exact ih0 M7 _ hf _ _ ls w (lv_sub hl [0] rfl)
        · have hf := px_in c6 hf
          refine lv_aload_n X.1 X.2.1 dX6_takenUp_46 rfl (lv_at hl 0 rfl) ?_
          refine lv_dup X.1 X.2.1 dX6_takenUp_47 rfl ?_
          refine gtR_0_61 X w dX6_takenUp_48 ?_
          refine lv_iconst (v := (1 : Int32)) X.1 X.2.1 dX6_takenUp_51 (by decide) ?_
          refine lv_iadd X.1 X.2.1 dX6_takenUp_52 ?_
          refine ptR_0_61 X w dX6_takenUp_53 (fun H locs w => ?_)
          obtain ⟨M8, eM8, hf⟩ := px_bn_e hf
          rw [← eM8] at w
          refine lv_aload_n X.1 X.2.1 dX6_takenUp_56 rfl (lv_at hl 0 rfl) ?_
          refine lv_iconst (v := (0 : Int32)) X.1 X.2.1 dX6_takenUp_57 (by decide) ?_
          refine ptR_0_63 X w rfl dX6_takenUp_58 (fun H locs w => ?_)
          obtain ⟨M9, eM9, hf⟩ := px_bn_e hf
          rw [← eM9] at w
          refine lv_aload_n X.1 X.2.1 dX6_takenUp_61 rfl (lv_at hl 0 rfl) ?_
          refine lv_aload_n X.1 X.2.1 dX6_takenUp_62 rfl (lv_at hl 0 rfl) ?_
          refine gtR_0_59 X w dX6_takenUp_63 ?_
          refine lv_aload_n X.1 X.2.1 dX6_takenUp_66 rfl (lv_at hl 0 rfl) ?_
          refine gtR_0_52 X w dX6_takenUp_67 ?_
          obtain ⟨b10, hf⟩ := px_ck_e hf
          refine ilR_42 X w b10 dX6_takenUp_70 ?_
          refine lv_aload_n X.1 X.2.1 dX6_takenUp_71 rfl (lv_at hl 0 rfl) ?_
          refine gtR_0_64 X w dX6_takenUp_72 ?_
          refine lv_iconst (v := (3 : Int32)) X.1 X.2.1 dX6_takenUp_75 (by decide) ?_
          refine lv_iconst (v := (0 : Int32)) X.1 X.2.1 dX6_takenUp_76 (by decide) ?_
          obtain ⟨M12, e11, hf⟩ := px_bq_e hf
          refine px_cV (As := [.int (M9 42 (M9 0 52).toNatClampNeg), .int (M9 0 64), .int (3 : Int32), .int (0 : Int32)]) (rest := []) X hml hl w (cR_M_begin l D cs ad e11) lk_6_223 (by decide) (rcR_0 X.2.2.2.2 w) rfl (Nat.le_of_ble_eq_true rfl) dX6_takenUp_77 (fun H locs w => ?_)
          refine lv_iconst (v := (1 : Int32)) X.1 X.2.1 dX6_takenUp_80 (by decide) ?_
          cases hf
          exact px_retZ X hr hlk narrow_b1 w dX6_takenUp_81
def fR_M_takenUp (M : px_M) : Option (Int32 × px_M) := px_fx0 gR_M_takenUp_L0 8 M
set_option maxHeartbeats 4000000 in
set_option maxRecDepth 100000 in
theorem cR_M_takenUp (l : Launch) (D : va_G) (cs : Nat → ClassId) (ad : Nat → Nat) {M : px_M} {r : Int32} {M' : px_M} (hf : fR_M_takenUp M = some (r, M')) : px_mI l D (tyR cs) (wR cs ad) yX6_takenUp cX6_takenUp 1 (some .boolean) 1 [.ref (ad 0)] M r M' := by
  refine px_ofI (by decide +kernel) (Nat.le_of_ble_eq_true rfl) ?_
  intro p e s m below meth c A ls X hr hlk hml w hl
  have hl : lv_has ls 1 [(0, .ref (ad 0))] := hl
  unfold fR_M_takenUp at hf
  exact lR_M_takenUp_L0 X hr hlk hml 8 M _ hf _ _ ls w (lv_sub hl [0] rfl)
theorem lk_6_268 : px_Lk RX6 268 yX6_place cX6_place 6 none 4 := ⟨px_tb (by decide +kernel) (by decide +kernel), px_tb (by decide +kernel) (by decide +kernel), px_tb (by decide +kernel) (by decide +kernel), px_tb (by decide +kernel) (by decide +kernel), px_tb (by decide +kernel) (by decide +kernel), by decide +kernel, by decide⟩
theorem lk_6_259 : px_Lk RX6 259 yX6_dropTimer cX6_dropTimer 3 none 1 := ⟨px_tb (by decide +kernel) (by decide +kernel), px_tb (by decide +kernel) (by decide +kernel), px_tb (by decide +kernel) (by decide +kernel), px_tb (by decide +kernel) (by decide +kernel), px_tb (by decide +kernel) (by decide +kernel), by decide +kernel, by decide⟩
theorem lk_6_262 : px_Lk RX6 262 yX6_nest cX6_nest 4 none 3 := ⟨px_tb (by decide +kernel) (by decide +kernel), px_tb (by decide +kernel) (by decide +kernel), px_tb (by decide +kernel) (by decide +kernel), px_tb (by decide +kernel) (by decide +kernel), px_tb (by decide +kernel) (by decide +kernel), by decide +kernel, by decide⟩
theorem lk_6_265 : px_Lk RX6 265 yX6_answer cX6_answer 6 none 3 := ⟨px_tb (by decide +kernel) (by decide +kernel), px_tb (by decide +kernel) (by decide +kernel), px_tb (by decide +kernel) (by decide +kernel), px_tb (by decide +kernel) (by decide +kernel), px_tb (by decide +kernel) (by decide +kernel), by decide +kernel, by decide⟩
theorem lk_6_271 : px_Lk RX6 271 yX6_promiseStep cX6_promiseStep 6 none 4 := ⟨px_tb (by decide +kernel) (by decide +kernel), px_tb (by decide +kernel) (by decide +kernel), px_tb (by decide +kernel) (by decide +kernel), px_tb (by decide +kernel) (by decide +kernel), px_tb (by decide +kernel) (by decide +kernel), by decide +kernel, by decide⟩
def fR_M_doStep (M : px_M) (p1 : Int32) : Option px_M := px_ck p1 60 (px_bn ((M 2 p1.toNatClampNeg)) (fun x2 => px_ck p1 60 (px_bn ((M 3 p1.toNatClampNeg)) (fun x4 => px_ck p1 60 (px_bn ((M 4 p1.toNatClampNeg)) (fun x6 => px_ck ((M 0 52) - (1 : Int32)) 8 (px_bn ((M 37 ((M 0 52) - (1 : Int32)).toNatClampNeg)) (fun x8 => (if x2 = (0 : Int32) then (if (200 : Int32) ≤ (M 0 48) then some M else (if x6 = (1 : Int32) then px_ck (M 0 48) 200 (px_bn (px_up M 34 (M 0 48).toNatClampNeg x8) (fun M16 => px_bn (px_up M16 0 48 ((M16 0 48) + (1 : Int32))) (fun M17 => some M17))) else px_ck (M 0 48) 200 (px_bn (px_up M 34 (M 0 48).toNatClampNeg x4) (fun M13 => px_bn (px_up M13 0 48 ((M13 0 48) + (1 : Int32))) (fun M14 => some M14))))) else (if x2 = (1 : Int32) then px_bq (fR_M_place M x2 x4 x6 x8) (fun M20 => some M20) else (if x2 = (2 : Int32) then px_bq (fR_M_place M x2 x4 x6 x8) (fun M23 => some M23) else (if x2 = (3 : Int32) then px_bq (fR_M_place M x2 x4 x6 x8) (fun M26 => some M26) else (if x2 = (4 : Int32) then px_bq (fR_M_place M x2 x4 x6 x8) (fun M29 => some M29) else (if x2 = (5 : Int32) then px_bq (fR_M_timerAt M x4) (fun r32 => (if r32 < 0 then some M else px_bq (fR_M_dropTimer M r32) (fun M35 => some M35))) else (if x2 = (6 : Int32) then (if x6 = (1 : Int32) then px_bq (fR_M_fail M x8) (fun M41 => some M41) else px_bq (fR_M_fail M x4) (fun M39 => some M39)) else (if x2 = (7 : Int32) then px_bq (fR_M_nest M x4 (1 : Int32) (0 : Int32)) (fun M44 => some M44) else (if x2 = (8 : Int32) then px_bq (fR_M_nest M x4 (2 : Int32) x6) (fun M47 => some M47) else (if x2 = (9 : Int32) then px_bq (fR_M_answer M x4 x6 x8) (fun M50 => some M50) else (if x2 = (10 : Int32) then px_bq (fR_M_promiseStep M x2 x4 x6 x8) (fun M53 => some M53) else (if x2 = (11 : Int32) then px_bq (fR_M_promiseStep M x2 x4 x6 x8) (fun M56 => some M56) else (if x2 = (12 : Int32) then px_bq (fR_M_promiseStep M x2 x4 x6 x8) (fun M59 => some M59) else (if x2 = (13 : Int32) then px_bq (fR_M_promiseStep M x2 x4 x6 x8) (fun M62 => some M62) else (if x2 = (14 : Int32) then px_bq (fR_M_place M x2 x4 x6 x8) (fun M65 => some M65) else px_bq (fR_M_promiseStep M x2 x4 x6 x8) (fun M67 => some M67))))))))))))))))))))))))
set_option maxHeartbeats 4000000 in
set_option maxRecDepth 100000 in
theorem cR_M_doStep (l : Launch) (D : va_G) (cs : Nat → ClassId) (ad : Nat → Nat) {M : px_M} {p1 : Int32} {M' : px_M} (hf : fR_M_doStep M p1 = some M') : px_mV l D (tyR cs) (wR cs ad) yX6_doStep cX6_doStep 7 4 [.ref (ad 0), .int p1] M M' := by
  refine px_ofV (by decide +kernel) (Nat.le_of_ble_eq_true rfl) ?_
  intro p e s m below meth c A ls X hr hlk hml w hl
  have hl : lv_has ls 7 [(0, .ref (ad 0)), (1, .int p1)] := hl
  unfold fR_M_doStep at hf
  refine lv_aload_n X.1 X.2.1 dX6_doStep_0 rfl (lv_at hl 0 rfl) ?_
  refine gtR_0_2 X w dX6_doStep_1 ?_
  refine lv_iload_n X.1 X.2.1 dX6_doStep_4 rfl (lv_at hl 1 rfl) ?_
  obtain ⟨b1, hf⟩ := px_ck_e hf
  refine ilR_2 X w b1 dX6_doStep_5 ?_
  obtain ⟨x2, ex2, hf⟩ := px_bn_e hf
  rw [← ex2]
  refine lv_istore_n (lv' := [(2, .int x2), (0, .ref (ad 0)), (1, .int p1)]) X.1 X.2.1 dX6_doStep_6 rfl hl (by decide) rfl (fun ls hl => ?_)
  refine lv_aload_n X.1 X.2.1 dX6_doStep_7 rfl (lv_at hl 1 rfl) ?_
  refine gtR_0_3 X w dX6_doStep_8 ?_
  refine lv_iload_n X.1 X.2.1 dX6_doStep_11 rfl (lv_at hl 2 rfl) ?_
  obtain ⟨b3, hf⟩ := px_ck_e hf
  refine ilR_3 X w b3 dX6_doStep_12 ?_
  obtain ⟨x4, ex4, hf⟩ := px_bn_e hf
  rw [← ex4]
  refine lv_istore_n (lv' := [(3, .int x4), (2, .int x2), (0, .ref (ad 0)), (1, .int p1)]) X.1 X.2.1 dX6_doStep_13 rfl hl (by decide) rfl (fun ls hl => ?_)
  refine lv_aload_n X.1 X.2.1 dX6_doStep_14 rfl (lv_at hl 2 rfl) ?_
  refine gtR_0_4 X w dX6_doStep_15 ?_
  refine lv_iload_n X.1 X.2.1 dX6_doStep_18 rfl (lv_at hl 3 rfl) ?_
  obtain ⟨b5, hf⟩ := px_ck_e hf
  refine ilR_4 X w b5 dX6_doStep_19 ?_
  obtain ⟨x6, ex6, hf⟩ := px_bn_e hf
  rw [← ex6]
  refine lv_istore (lv' := [(4, .int x6), (3, .int x4), (2, .int x2), (0, .ref (ad 0)), (1, .int p1)]) X.1 X.2.1 dX6_doStep_20 hl (by decide) rfl (fun ls hl => ?_)
  refine lv_aload_n X.1 X.2.1 dX6_doStep_22 rfl (lv_at hl 3 rfl) ?_
  refine gtR_0_54 X w dX6_doStep_23 ?_
  refine lv_aload_n X.1 X.2.1 dX6_doStep_26 rfl (lv_at hl 3 rfl) ?_
  refine gtR_0_52 X w dX6_doStep_27 ?_
  refine lv_iconst (v := (1 : Int32)) X.1 X.2.1 dX6_doStep_30 (by decide) ?_
  refine lv_isub X.1 X.2.1 dX6_doStep_31 ?_
  obtain ⟨b7, hf⟩ := px_ck_e hf
  refine ilR_37 X w b7 dX6_doStep_32 ?_
  obtain ⟨x8, ex8, hf⟩ := px_bn_e hf
  rw [← ex8]
  refine lv_istore (lv' := [(5, .int x8), (4, .int x6), (3, .int x4), (2, .int x2), (0, .ref (ad 0)), (1, .int p1)]) X.1 X.2.1 dX6_doStep_33 hl (by decide) rfl (fun ls hl => ?_)
  refine lv_iload_n X.1 X.2.1 dX6_doStep_35 rfl (lv_at hl 3 rfl) ?_
  by_cases c9 : x2 = (0 : Int32)
  · have hf := px_ip c9 hf
    refine lv_tableIn (tgt := 112) X.1 X.2.1 dX6_doStep_36 (by rw [c9]; decide) (by rw [c9]; decide) (by rw [c9]; rfl) (by decide) ?_
    refine lv_aload_n X.1 X.2.1 dX6_doStep_112 rfl (lv_at hl 4 rfl) ?_
    refine gtR_0_48 X w dX6_doStep_113 ?_
    refine lv_sipush (v := (200 : Int32)) X.1 X.2.1 dX6_doStep_116 (by decide) ?_
    refine lv_icmp_ge (tgt := 252) X.1 X.2.1 dX6_doStep_119 (by decide) (fun c10 => ?_) (fun c10 => ?_)
    · have hf := px_ip c10 hf
      cases hf
      exact px_retV X hr hlk w dX6_doStep_252
    · have hf := px_in c10 hf
      refine lv_aload_n X.1 X.2.1 dX6_doStep_122 rfl (lv_at hl 4 rfl) ?_
      refine gtR_0_49 X w dX6_doStep_123 ?_
      refine lv_aload_n X.1 X.2.1 dX6_doStep_126 rfl (lv_at hl 4 rfl) ?_
      refine gtR_0_48 X w dX6_doStep_127 ?_
      refine lv_iload X.1 X.2.1 dX6_doStep_130 (lv_at hl 1 rfl) ?_
      refine lv_iconst (v := (1 : Int32)) X.1 X.2.1 dX6_doStep_132 (by decide) ?_
      refine lv_icmp_ne (tgt := 141) X.1 X.2.1 dX6_doStep_133 (by decide) (fun c11 => ?_) (fun c11 => ?_)
      · have hf := px_in c11 hf
        refine lv_iload_n X.1 X.2.1 dX6_doStep_141 rfl (lv_at hl 2 rfl) ?_
        obtain ⟨b12, hf⟩ := px_ck_e hf
        refine isR_34 X w b12 dX6_doStep_142 (fun H locs w => ?_)
        obtain ⟨M13, eM13, hf⟩ := px_bn_e hf
        rw [← eM13] at w
        refine lv_aload_n X.1 X.2.1 dX6_doStep_143 rfl (lv_at hl 4 rfl) ?_
        refine lv_dup X.1 X.2.1 dX6_doStep_144 rfl ?_
        refine gtR_0_48 X w dX6_doStep_145 ?_
        refine lv_iconst (v := (1 : Int32)) X.1 X.2.1 dX6_doStep_148 (by decide) ?_
        refine lv_iadd X.1 X.2.1 dX6_doStep_149 ?_
        refine ptR_0_48 X w dX6_doStep_150 (fun H locs w => ?_)
        obtain ⟨M14, eM14, hf⟩ := px_bn_e hf
        rw [← eM14] at w
        refine lv_goto (tgt := 252) X.1 X.2.1 dX6_doStep_153 (by decide) ?_
        cases hf
        exact px_retV X hr hlk w dX6_doStep_252
      · have hf := px_ip c11 hf
        refine lv_iload X.1 X.2.1 dX6_doStep_136 (lv_at hl 0 rfl) ?_
        refine lv_goto (tgt := 142) X.1 X.2.1 dX6_doStep_138 (by decide) ?_
        obtain ⟨b15, hf⟩ := px_ck_e hf
        refine isR_34 X w b15 dX6_doStep_142 (fun H locs w => ?_)
        obtain ⟨M16, eM16, hf⟩ := px_bn_e hf
        rw [← eM16] at w
        refine lv_aload_n X.1 X.2.1 dX6_doStep_143 rfl (lv_at hl 4 rfl) ?_
        refine lv_dup X.1 X.2.1 dX6_doStep_144 rfl ?_
        refine gtR_0_48 X w dX6_doStep_145 ?_
        refine lv_iconst (v := (1 : Int32)) X.1 X.2.1 dX6_doStep_148 (by decide) ?_
        refine lv_iadd X.1 X.2.1 dX6_doStep_149 ?_
        refine ptR_0_48 X w dX6_doStep_150 (fun H locs w => ?_)
        obtain ⟨M17, eM17, hf⟩ := px_bn_e hf
        rw [← eM17] at w
        refine lv_goto (tgt := 252) X.1 X.2.1 dX6_doStep_153 (by decide) ?_
        cases hf
        exact px_retV X hr hlk w dX6_doStep_252
  · have hf := px_in c9 hf
    by_cases c18 : x2 = (1 : Int32)
    · have hf := px_ip c18 hf
      refine lv_tableIn (tgt := 229) X.1 X.2.1 dX6_doStep_36 (by rw [c18]; decide) (by rw [c18]; decide) (by rw [c18]; rfl) (by decide) ?_
      refine lv_aload_n X.1 X.2.1 dX6_doStep_229 rfl (lv_at hl 4 rfl) ?_
      refine lv_iload_n X.1 X.2.1 dX6_doStep_230 rfl (lv_at hl 3 rfl) ?_
      refine lv_iload_n X.1 X.2.1 dX6_doStep_231 rfl (lv_at hl 2 rfl) ?_
      refine lv_iload X.1 X.2.1 dX6_doStep_232 (lv_at hl 1 rfl) ?_
      refine lv_iload X.1 X.2.1 dX6_doStep_234 (lv_at hl 0 rfl) ?_
      obtain ⟨M20, e19, hf⟩ := px_bq_e hf
      refine px_cV (As := [.int x2, .int x4, .int x6, .int x8]) (rest := []) X hml hl w (cR_M_place l D cs ad e19) lk_6_268 (by decide) (rcR_0 X.2.2.2.2 w) rfl (Nat.le_of_ble_eq_true rfl) dX6_doStep_236 (fun H locs w => ?_)
      refine lv_goto (tgt := 252) X.1 X.2.1 dX6_doStep_239 (by decide) ?_
      cases hf
      exact px_retV X hr hlk w dX6_doStep_252
    · have hf := px_in c18 hf
      by_cases c21 : x2 = (2 : Int32)
      · have hf := px_ip c21 hf
        refine lv_tableIn (tgt := 229) X.1 X.2.1 dX6_doStep_36 (by rw [c21]; decide) (by rw [c21]; decide) (by rw [c21]; rfl) (by decide) ?_
        refine lv_aload_n X.1 X.2.1 dX6_doStep_229 rfl (lv_at hl 4 rfl) ?_
        refine lv_iload_n X.1 X.2.1 dX6_doStep_230 rfl (lv_at hl 3 rfl) ?_
        refine lv_iload_n X.1 X.2.1 dX6_doStep_231 rfl (lv_at hl 2 rfl) ?_
        refine lv_iload X.1 X.2.1 dX6_doStep_232 (lv_at hl 1 rfl) ?_
        refine lv_iload X.1 X.2.1 dX6_doStep_234 (lv_at hl 0 rfl) ?_
        obtain ⟨M23, e22, hf⟩ := px_bq_e hf
        refine px_cV (As := [.int x2, .int x4, .int x6, .int x8]) (rest := []) X hml hl w (cR_M_place l D cs ad e22) lk_6_268 (by decide) (rcR_0 X.2.2.2.2 w) rfl (Nat.le_of_ble_eq_true rfl) dX6_doStep_236 (fun H locs w => ?_)
        refine lv_goto (tgt := 252) X.1 X.2.1 dX6_doStep_239 (by decide) ?_
        cases hf
        exact px_retV X hr hlk w dX6_doStep_252
      · have hf := px_in c21 hf
        by_cases c24 : x2 = (3 : Int32)
        · have hf := px_ip c24 hf
          refine lv_tableIn (tgt := 229) X.1 X.2.1 dX6_doStep_36 (by rw [c24]; decide) (by rw [c24]; decide) (by rw [c24]; rfl) (by decide) ?_
          refine lv_aload_n X.1 X.2.1 dX6_doStep_229 rfl (lv_at hl 4 rfl) ?_
          refine lv_iload_n X.1 X.2.1 dX6_doStep_230 rfl (lv_at hl 3 rfl) ?_
          refine lv_iload_n X.1 X.2.1 dX6_doStep_231 rfl (lv_at hl 2 rfl) ?_
          refine lv_iload X.1 X.2.1 dX6_doStep_232 (lv_at hl 1 rfl) ?_
          refine lv_iload X.1 X.2.1 dX6_doStep_234 (lv_at hl 0 rfl) ?_
          obtain ⟨M26, e25, hf⟩ := px_bq_e hf
          refine px_cV (As := [.int x2, .int x4, .int x6, .int x8]) (rest := []) X hml hl w (cR_M_place l D cs ad e25) lk_6_268 (by decide) (rcR_0 X.2.2.2.2 w) rfl (Nat.le_of_ble_eq_true rfl) dX6_doStep_236 (fun H locs w => ?_)
          refine lv_goto (tgt := 252) X.1 X.2.1 dX6_doStep_239 (by decide) ?_
          cases hf
          exact px_retV X hr hlk w dX6_doStep_252
        · have hf := px_in c24 hf
          by_cases c27 : x2 = (4 : Int32)
          · have hf := px_ip c27 hf
            refine lv_tableIn (tgt := 229) X.1 X.2.1 dX6_doStep_36 (by rw [c27]; decide) (by rw [c27]; decide) (by rw [c27]; rfl) (by decide) ?_
            refine lv_aload_n X.1 X.2.1 dX6_doStep_229 rfl (lv_at hl 4 rfl) ?_
            refine lv_iload_n X.1 X.2.1 dX6_doStep_230 rfl (lv_at hl 3 rfl) ?_
            refine lv_iload_n X.1 X.2.1 dX6_doStep_231 rfl (lv_at hl 2 rfl) ?_
            refine lv_iload X.1 X.2.1 dX6_doStep_232 (lv_at hl 1 rfl) ?_
            refine lv_iload X.1 X.2.1 dX6_doStep_234 (lv_at hl 0 rfl) ?_
            obtain ⟨M29, e28, hf⟩ := px_bq_e hf
            refine px_cV (As := [.int x2, .int x4, .int x6, .int x8]) (rest := []) X hml hl w (cR_M_place l D cs ad e28) lk_6_268 (by decide) (rcR_0 X.2.2.2.2 w) rfl (Nat.le_of_ble_eq_true rfl) dX6_doStep_236 (fun H locs w => ?_)
            refine lv_goto (tgt := 252) X.1 X.2.1 dX6_doStep_239 (by decide) ?_
            cases hf
            exact px_retV X hr hlk w dX6_doStep_252
          · have hf := px_in c27 hf
            by_cases c30 : x2 = (5 : Int32)
            · have hf := px_ip c30 hf
              refine lv_tableIn (tgt := 156) X.1 X.2.1 dX6_doStep_36 (by rw [c30]; decide) (by rw [c30]; decide) (by rw [c30]; rfl) (by decide) ?_
              refine lv_aload_n X.1 X.2.1 dX6_doStep_156 rfl (lv_at hl 4 rfl) ?_
              refine lv_iload_n X.1 X.2.1 dX6_doStep_157 rfl (lv_at hl 2 rfl) ?_
              obtain ⟨r32, e31, hf⟩ := px_bq_e hf
              refine px_cI (As := [.int x4]) (rest := []) X hml hl w (cR_M_timerAt l D cs ad e31) lk_6_256 (by decide) (rcR_0 X.2.2.2.2 w) rfl (Nat.le_of_ble_eq_true rfl) dX6_doStep_158 (fun H locs w => ?_)
              refine lv_istore (lv' := [(6, .int r32), (5, .int x8), (4, .int x6), (3, .int x4), (2, .int x2), (0, .ref (ad 0)), (1, .int p1)]) X.1 X.2.1 dX6_doStep_161 hl (by decide) rfl (fun ls hl => ?_)
              refine lv_iload X.1 X.2.1 dX6_doStep_163 (lv_at hl 0 rfl) ?_
              refine lv_if_lt (tgt := 252) X.1 X.2.1 dX6_doStep_165 (by decide) (fun c33 => ?_) (fun c33 => ?_)
              · have hf := px_ip c33 hf
                cases hf
                exact px_retV X hr hlk w dX6_doStep_252
              · have hf := px_in c33 hf
                refine lv_aload_n X.1 X.2.1 dX6_doStep_168 rfl (lv_at hl 5 rfl) ?_
                refine lv_iload X.1 X.2.1 dX6_doStep_169 (lv_at hl 0 rfl) ?_
                obtain ⟨M35, e34, hf⟩ := px_bq_e hf
                refine px_cV (As := [.int r32]) (rest := []) X hml hl w (cR_M_dropTimer l D cs ad e34) lk_6_259 (by decide) (rcR_0 X.2.2.2.2 w) rfl (Nat.le_of_ble_eq_true rfl) dX6_doStep_171 (fun H locs w => ?_)
                refine lv_goto (tgt := 252) X.1 X.2.1 dX6_doStep_174 (by decide) ?_
                cases hf
                exact px_retV X hr hlk w dX6_doStep_252
            · have hf := px_in c30 hf
              by_cases c36 : x2 = (6 : Int32)
              · have hf := px_ip c36 hf
                refine lv_tableIn (tgt := 177) X.1 X.2.1 dX6_doStep_36 (by rw [c36]; decide) (by rw [c36]; decide) (by rw [c36]; rfl) (by decide) ?_
                refine lv_aload_n X.1 X.2.1 dX6_doStep_177 rfl (lv_at hl 4 rfl) ?_
                refine lv_iload X.1 X.2.1 dX6_doStep_178 (lv_at hl 1 rfl) ?_
                refine lv_iconst (v := (1 : Int32)) X.1 X.2.1 dX6_doStep_180 (by decide) ?_
                refine lv_icmp_ne (tgt := 189) X.1 X.2.1 dX6_doStep_181 (by decide) (fun c37 => ?_) (fun c37 => ?_)
                · have hf := px_in c37 hf
                  refine lv_iload_n X.1 X.2.1 dX6_doStep_189 rfl (lv_at hl 2 rfl) ?_
                  obtain ⟨M39, e38, hf⟩ := px_bq_e hf
                  refine px_cV (As := [.int x4]) (rest := []) X hml hl w (cR_M_fail l D cs ad e38) lk_6_219 (by decide) (rcR_0 X.2.2.2.2 w) rfl (Nat.le_of_ble_eq_true rfl) dX6_doStep_190 (fun H locs w => ?_)
                  refine lv_goto (tgt := 252) X.1 X.2.1 dX6_doStep_193 (by decide) ?_
                  cases hf
                  exact px_retV X hr hlk w dX6_doStep_252
                · have hf := px_ip c37 hf
                  refine lv_iload X.1 X.2.1 dX6_doStep_184 (lv_at hl 0 rfl) ?_
                  refine lv_goto (tgt := 190) X.1 X.2.1 dX6_doStep_186 (by decide) ?_
                  obtain ⟨M41, e40, hf⟩ := px_bq_e hf
                  refine px_cV (As := [.int x8]) (rest := []) X hml hl w (cR_M_fail l D cs ad e40) lk_6_219 (by decide) (rcR_0 X.2.2.2.2 w) rfl (Nat.le_of_ble_eq_true rfl) dX6_doStep_190 (fun H locs w => ?_)
                  refine lv_goto (tgt := 252) X.1 X.2.1 dX6_doStep_193 (by decide) ?_
                  cases hf
                  exact px_retV X hr hlk w dX6_doStep_252
              · have hf := px_in c36 hf
                by_cases c42 : x2 = (7 : Int32)
                · have hf := px_ip c42 hf
                  refine lv_tableIn (tgt := 196) X.1 X.2.1 dX6_doStep_36 (by rw [c42]; decide) (by rw [c42]; decide) (by rw [c42]; rfl) (by decide) ?_
                  refine lv_aload_n X.1 X.2.1 dX6_doStep_196 rfl (lv_at hl 4 rfl) ?_
                  refine lv_iload_n X.1 X.2.1 dX6_doStep_197 rfl (lv_at hl 2 rfl) ?_
                  refine lv_iconst (v := (1 : Int32)) X.1 X.2.1 dX6_doStep_198 (by decide) ?_
                  refine lv_iconst (v := (0 : Int32)) X.1 X.2.1 dX6_doStep_199 (by decide) ?_
                  obtain ⟨M44, e43, hf⟩ := px_bq_e hf
                  refine px_cV (As := [.int x4, .int (1 : Int32), .int (0 : Int32)]) (rest := []) X hml hl w (cR_M_nest l D cs ad e43) lk_6_262 (by decide) (rcR_0 X.2.2.2.2 w) rfl (Nat.le_of_ble_eq_true rfl) dX6_doStep_200 (fun H locs w => ?_)
                  refine lv_goto (tgt := 252) X.1 X.2.1 dX6_doStep_203 (by decide) ?_
                  cases hf
                  exact px_retV X hr hlk w dX6_doStep_252
                · have hf := px_in c42 hf
                  by_cases c45 : x2 = (8 : Int32)
                  · have hf := px_ip c45 hf
                    refine lv_tableIn (tgt := 206) X.1 X.2.1 dX6_doStep_36 (by rw [c45]; decide) (by rw [c45]; decide) (by rw [c45]; rfl) (by decide) ?_
                    refine lv_aload_n X.1 X.2.1 dX6_doStep_206 rfl (lv_at hl 4 rfl) ?_
                    refine lv_iload_n X.1 X.2.1 dX6_doStep_207 rfl (lv_at hl 2 rfl) ?_
                    refine lv_iconst (v := (2 : Int32)) X.1 X.2.1 dX6_doStep_208 (by decide) ?_
                    refine lv_iload X.1 X.2.1 dX6_doStep_209 (lv_at hl 1 rfl) ?_
                    obtain ⟨M47, e46, hf⟩ := px_bq_e hf
                    refine px_cV (As := [.int x4, .int (2 : Int32), .int x6]) (rest := []) X hml hl w (cR_M_nest l D cs ad e46) lk_6_262 (by decide) (rcR_0 X.2.2.2.2 w) rfl (Nat.le_of_ble_eq_true rfl) dX6_doStep_211 (fun H locs w => ?_)
                    refine lv_goto (tgt := 252) X.1 X.2.1 dX6_doStep_214 (by decide) ?_
                    cases hf
                    exact px_retV X hr hlk w dX6_doStep_252
                  · have hf := px_in c45 hf
                    by_cases c48 : x2 = (9 : Int32)
                    · have hf := px_ip c48 hf
                      refine lv_tableIn (tgt := 217) X.1 X.2.1 dX6_doStep_36 (by rw [c48]; decide) (by rw [c48]; decide) (by rw [c48]; rfl) (by decide) ?_
                      refine lv_aload_n X.1 X.2.1 dX6_doStep_217 rfl (lv_at hl 4 rfl) ?_
                      refine lv_iload_n X.1 X.2.1 dX6_doStep_218 rfl (lv_at hl 2 rfl) ?_
                      refine lv_iload X.1 X.2.1 dX6_doStep_219 (lv_at hl 1 rfl) ?_
                      refine lv_iload X.1 X.2.1 dX6_doStep_221 (lv_at hl 0 rfl) ?_
                      obtain ⟨M50, e49, hf⟩ := px_bq_e hf
                      refine px_cV (As := [.int x4, .int x6, .int x8]) (rest := []) X hml hl w (cR_M_answer l D cs ad e49) lk_6_265 (by decide) (rcR_0 X.2.2.2.2 w) rfl (Nat.le_of_ble_eq_true rfl) dX6_doStep_223 (fun H locs w => ?_)
                      refine lv_goto (tgt := 252) X.1 X.2.1 dX6_doStep_226 (by decide) ?_
                      cases hf
                      exact px_retV X hr hlk w dX6_doStep_252
                    · have hf := px_in c48 hf
                      by_cases c51 : x2 = (10 : Int32)
                      · have hf := px_ip c51 hf
                        refine lv_tableIn (tgt := 242) X.1 X.2.1 dX6_doStep_36 (by rw [c51]; decide) (by rw [c51]; decide) (by rw [c51]; rfl) (by decide) ?_
                        refine lv_aload_n X.1 X.2.1 dX6_doStep_242 rfl (lv_at hl 4 rfl) ?_
                        refine lv_iload_n X.1 X.2.1 dX6_doStep_243 rfl (lv_at hl 3 rfl) ?_
                        refine lv_iload_n X.1 X.2.1 dX6_doStep_244 rfl (lv_at hl 2 rfl) ?_
                        refine lv_iload X.1 X.2.1 dX6_doStep_245 (lv_at hl 1 rfl) ?_
                        refine lv_iload X.1 X.2.1 dX6_doStep_247 (lv_at hl 0 rfl) ?_
                        obtain ⟨M53, e52, hf⟩ := px_bq_e hf
                        refine px_cV (As := [.int x2, .int x4, .int x6, .int x8]) (rest := []) X hml hl w (cR_M_promiseStep l D cs ad e52) lk_6_271 (by decide) (rcR_0 X.2.2.2.2 w) rfl (Nat.le_of_ble_eq_true rfl) dX6_doStep_249 (fun H locs w => ?_)
                        cases hf
                        exact px_retV X hr hlk w dX6_doStep_252
                      · have hf := px_in c51 hf
                        by_cases c54 : x2 = (11 : Int32)
                        · have hf := px_ip c54 hf
                          refine lv_tableIn (tgt := 242) X.1 X.2.1 dX6_doStep_36 (by rw [c54]; decide) (by rw [c54]; decide) (by rw [c54]; rfl) (by decide) ?_
                          refine lv_aload_n X.1 X.2.1 dX6_doStep_242 rfl (lv_at hl 4 rfl) ?_
                          refine lv_iload_n X.1 X.2.1 dX6_doStep_243 rfl (lv_at hl 3 rfl) ?_
                          refine lv_iload_n X.1 X.2.1 dX6_doStep_244 rfl (lv_at hl 2 rfl) ?_
                          refine lv_iload X.1 X.2.1 dX6_doStep_245 (lv_at hl 1 rfl) ?_
                          refine lv_iload X.1 X.2.1 dX6_doStep_247 (lv_at hl 0 rfl) ?_
                          obtain ⟨M56, e55, hf⟩ := px_bq_e hf
                          refine px_cV (As := [.int x2, .int x4, .int x6, .int x8]) (rest := []) X hml hl w (cR_M_promiseStep l D cs ad e55) lk_6_271 (by decide) (rcR_0 X.2.2.2.2 w) rfl (Nat.le_of_ble_eq_true rfl) dX6_doStep_249 (fun H locs w => ?_)
                          cases hf
                          exact px_retV X hr hlk w dX6_doStep_252
                        · have hf := px_in c54 hf
                          by_cases c57 : x2 = (12 : Int32)
                          · have hf := px_ip c57 hf
                            refine lv_tableIn (tgt := 242) X.1 X.2.1 dX6_doStep_36 (by rw [c57]; decide) (by rw [c57]; decide) (by rw [c57]; rfl) (by decide) ?_
                            refine lv_aload_n X.1 X.2.1 dX6_doStep_242 rfl (lv_at hl 4 rfl) ?_
                            refine lv_iload_n X.1 X.2.1 dX6_doStep_243 rfl (lv_at hl 3 rfl) ?_
                            refine lv_iload_n X.1 X.2.1 dX6_doStep_244 rfl (lv_at hl 2 rfl) ?_
                            refine lv_iload X.1 X.2.1 dX6_doStep_245 (lv_at hl 1 rfl) ?_
                            refine lv_iload X.1 X.2.1 dX6_doStep_247 (lv_at hl 0 rfl) ?_
                            obtain ⟨M59, e58, hf⟩ := px_bq_e hf
                            refine px_cV (As := [.int x2, .int x4, .int x6, .int x8]) (rest := []) X hml hl w (cR_M_promiseStep l D cs ad e58) lk_6_271 (by decide) (rcR_0 X.2.2.2.2 w) rfl (Nat.le_of_ble_eq_true rfl) dX6_doStep_249 (fun H locs w => ?_)
                            cases hf
                            exact px_retV X hr hlk w dX6_doStep_252
                          · have hf := px_in c57 hf
                            by_cases c60 : x2 = (13 : Int32)
                            · have hf := px_ip c60 hf
                              refine lv_tableIn (tgt := 242) X.1 X.2.1 dX6_doStep_36 (by rw [c60]; decide) (by rw [c60]; decide) (by rw [c60]; rfl) (by decide) ?_
                              refine lv_aload_n X.1 X.2.1 dX6_doStep_242 rfl (lv_at hl 4 rfl) ?_
                              refine lv_iload_n X.1 X.2.1 dX6_doStep_243 rfl (lv_at hl 3 rfl) ?_
                              refine lv_iload_n X.1 X.2.1 dX6_doStep_244 rfl (lv_at hl 2 rfl) ?_
                              refine lv_iload X.1 X.2.1 dX6_doStep_245 (lv_at hl 1 rfl) ?_
                              refine lv_iload X.1 X.2.1 dX6_doStep_247 (lv_at hl 0 rfl) ?_
                              obtain ⟨M62, e61, hf⟩ := px_bq_e hf
                              refine px_cV (As := [.int x2, .int x4, .int x6, .int x8]) (rest := []) X hml hl w (cR_M_promiseStep l D cs ad e61) lk_6_271 (by decide) (rcR_0 X.2.2.2.2 w) rfl (Nat.le_of_ble_eq_true rfl) dX6_doStep_249 (fun H locs w => ?_)
                              cases hf
                              exact px_retV X hr hlk w dX6_doStep_252
                            · have hf := px_in c60 hf
                              by_cases c63 : x2 = (14 : Int32)
                              · have hf := px_ip c63 hf
                                refine lv_tableIn (tgt := 229) X.1 X.2.1 dX6_doStep_36 (by rw [c63]; decide) (by rw [c63]; decide) (by rw [c63]; rfl) (by decide) ?_
                                refine lv_aload_n X.1 X.2.1 dX6_doStep_229 rfl (lv_at hl 4 rfl) ?_
                                refine lv_iload_n X.1 X.2.1 dX6_doStep_230 rfl (lv_at hl 3 rfl) ?_
                                refine lv_iload_n X.1 X.2.1 dX6_doStep_231 rfl (lv_at hl 2 rfl) ?_
                                refine lv_iload X.1 X.2.1 dX6_doStep_232 (lv_at hl 1 rfl) ?_
                                refine lv_iload X.1 X.2.1 dX6_doStep_234 (lv_at hl 0 rfl) ?_
                                obtain ⟨M65, e64, hf⟩ := px_bq_e hf
                                refine px_cV (As := [.int x2, .int x4, .int x6, .int x8]) (rest := []) X hml hl w (cR_M_place l D cs ad e64) lk_6_268 (by decide) (rcR_0 X.2.2.2.2 w) rfl (Nat.le_of_ble_eq_true rfl) dX6_doStep_236 (fun H locs w => ?_)
                                refine lv_goto (tgt := 252) X.1 X.2.1 dX6_doStep_239 (by decide) ?_
                                cases hf
                                exact px_retV X hr hlk w dX6_doStep_252
                              · have hf := px_in c63 hf
                                refine lv_tableOut (tgt := 242) X.1 X.2.1 dX6_doStep_36 (by have := px_ne (v := 0) (by decide) c9; have := px_ne (v := 1) (by decide) c18; have := px_ne (v := 2) (by decide) c21; have := px_ne (v := 3) (by decide) c24; have := px_ne (v := 4) (by decide) c27; have := px_ne (v := 5) (by decide) c30; have := px_ne (v := 6) (by decide) c36; have := px_ne (v := 7) (by decide) c42; have := px_ne (v := 8) (by decide) c45; have := px_ne (v := 9) (by decide) c48; have := px_ne (v := 10) (by decide) c51; have := px_ne (v := 11) (by decide) c54; have := px_ne (v := 12) (by decide) c57; have := px_ne (v := 13) (by decide) c60; have := px_ne (v := 14) (by decide) c63; omega) (by decide) ?_
                                refine lv_aload_n X.1 X.2.1 dX6_doStep_242 rfl (lv_at hl 4 rfl) ?_
                                refine lv_iload_n X.1 X.2.1 dX6_doStep_243 rfl (lv_at hl 3 rfl) ?_
                                refine lv_iload_n X.1 X.2.1 dX6_doStep_244 rfl (lv_at hl 2 rfl) ?_
                                refine lv_iload X.1 X.2.1 dX6_doStep_245 (lv_at hl 1 rfl) ?_
                                refine lv_iload X.1 X.2.1 dX6_doStep_247 (lv_at hl 0 rfl) ?_
                                obtain ⟨M67, e66, hf⟩ := px_bq_e hf
                                refine px_cV (As := [.int x2, .int x4, .int x6, .int x8]) (rest := []) X hml hl w (cR_M_promiseStep l D cs ad e66) lk_6_271 (by decide) (rcR_0 X.2.2.2.2 w) rfl (Nat.le_of_ble_eq_true rfl) dX6_doStep_249 (fun H locs w => ?_)
                                cases hf
                                exact px_retV X hr hlk w dX6_doStep_252
theorem lk_6_283 : px_Lk RX6 283 yX6_doStep cX6_doStep 7 none 1 := ⟨px_tb (by decide +kernel) (by decide +kernel), px_tb (by decide +kernel) (by decide +kernel), px_tb (by decide +kernel) (by decide +kernel), px_tb (by decide +kernel) (by decide +kernel), px_tb (by decide +kernel) (by decide +kernel), by decide +kernel, by decide⟩
theorem lk_6_286 : px_Lk RX6 286 yX6_takenUp cX6_takenUp 1 (some .boolean) 0 := ⟨px_tb (by decide +kernel) (by decide +kernel), px_tb (by decide +kernel) (by decide +kernel), px_tb (by decide +kernel) (by decide +kernel), px_tb (by decide +kernel) (by decide +kernel), px_tb (by decide +kernel) (by decide +kernel), by decide +kernel, by decide⟩
def gR_M_run_L33 (rc33 : px_M → Option (Int32 × px_M)) (M : px_M) : Option (Int32 × px_M) := (if (M 0 52) ≤ 0 then some ((1 : Int32), M) else px_bn (((M 0 52) - (1 : Int32))) (fun x8 => px_ck x8 8 (px_ck x8 8 (px_ck (M 36 x8.toNatClampNeg) 10 ((if (M 38 x8.toNatClampNeg) = (M 1 (M 36 x8.toNatClampNeg).toNatClampNeg) then px_ck x8 8 (px_cb (M 39 x8.toNatClampNeg) (px_bn (px_up M 0 65 (M 39 x8.toNatClampNeg)) (fun M27 => px_ck x8 8 (px_bn (px_up M27 0 66 (M27 40 x8.toNatClampNeg)) (fun M29 => px_bn (px_up M29 0 52 ((M29 0 52) - (1 : Int32))) (fun M30 => (if (M30 0 52) ≤ 0 then rc33 M30 else px_ck ((M30 0 52) - (1 : Int32)) 8 (px_cb (M30 0 65) (px_bn (px_up M30 39 ((M30 0 52) - (1 : Int32)).toNatClampNeg (M30 0 65)) (fun M34 => px_ck ((M34 0 52) - (1 : Int32)) 8 (px_bn (px_up M34 40 ((M34 0 52) - (1 : Int32)).toNatClampNeg (M34 0 66)) (fun M36 => rc33 M36)))))))))))) else px_ck x8 8 (px_ck x8 8 (px_bn (px_up M 38 x8.toNatClampNeg ((M 38 x8.toNatClampNeg) + (1 : Int32))) (fun M15 => px_ck x8 8 (px_ck x8 8 (px_bq (fR_M_doStep M15 ((((6 : Int32) * (M15 36 x8.toNatClampNeg)) + (M15 38 x8.toNatClampNeg)) - (1 : Int32))) (fun M19 => (if (M19 0 63) = 0 then rc33 M19 else px_bo (fR_M_takenUp M19) (fun r22 M23 => (if r22 = 0 then some ((0 : Int32), M23) else rc33 M23)))))))))))))))
set_option maxHeartbeats 4000000 in
set_option maxRecDepth 100000 in
theorem lR_M_run_L33 {l : Launch} {D : va_G} {cs : Nat → ClassId} {ad : Nat → Nat} {p : Program} {e : Env} {s : State} {m : MethodId} {args : Array Value} {below : List Frame} {meth : Method} {c : Code} {A : Nat → Prop} (X : px_X D (tyR cs) p s m args c cX6_run yX6_run.cls) (hr : meth.sig.returnType = (some .boolean)) (hlk : meth.locks = false) (hml : c.maxLocals = 4) : ∀ (j : Nat) (M : px_M) (z : Int32 × px_M), px_fx0 gR_M_run_L33 j M = some z → ∀ (H : Heap) (locs : List Loc) (ls : Array Slot), px_H D (wR cs ad) A s.heap M H locs → lv_has ls 4 [(0, .ref (ad 0))] → W p l e (px_rm 5) s m args below meth c H locs 0 0 (px_QI D (tyR cs) (wR cs ad) below args s A z.1 z.2) (F0 m 33 ls []) := by
  refine px_fx0_i (P := fun M (z : Int32 × px_M) => ∀ (H : Heap) (locs : List Loc) (ls : Array Slot), px_H D (wR cs ad) A s.heap M H locs → lv_has ls 4 [(0, .ref (ad 0))] → W p l e (px_rm 5) s m args below meth c H locs 0 0 (px_QI D (tyR cs) (wR cs ad) below args s A z.1 z.2) (F0 m 33 ls [])) ?_
  intro rc33 ih33 M z hf H locs ls w hl
  unfold gR_M_run_L33 at hf
  refine lv_aload_n X.1 X.2.1 dX6_run_33 rfl (lv_at hl 0 rfl) ?_
  refine gtR_0_52 X w dX6_run_34 ?_
  refine lv_if_le (tgt := 188) X.1 X.2.1 dX6_run_37 (by decide) (fun c7 => ?_) (fun c7 => ?_)
  · have hf := px_ip c7 hf
    refine lv_iconst (v := (1 : Int32)) X.1 X.2.1 dX6_run_188 (by decide) ?_
    cases hf
    exact px_retZ X hr hlk narrow_b1 w dX6_run_189
  · have hf := px_in c7 hf
    refine lv_aload_n X.1 X.2.1 dX6_run_40 rfl (lv_at hl 0 rfl) ?_
    refine gtR_0_52 X w dX6_run_41 ?_
    refine lv_iconst (v := (1 : Int32)) X.1 X.2.1 dX6_run_44 (by decide) ?_
    refine lv_isub X.1 X.2.1 dX6_run_45 ?_
    obtain ⟨x8, ex8, hf⟩ := px_bn_e hf
    rw [← ex8]
    refine lv_istore_n (lv' := [(3, .int x8), (0, .ref (ad 0))]) X.1 X.2.1 dX6_run_46 rfl hl (by decide) rfl (fun ls hl => ?_)
    refine lv_aload_n X.1 X.2.1 dX6_run_47 rfl (lv_at hl 1 rfl) ?_
    refine gtR_0_55 X w dX6_run_48 ?_
    refine lv_iload_n X.1 X.2.1 dX6_run_51 rfl (lv_at hl 0 rfl) ?_
    obtain ⟨b9, hf⟩ := px_ck_e hf
    refine ilR_38 X w b9 dX6_run_52 ?_
    refine lv_aload_n X.1 X.2.1 dX6_run_53 rfl (lv_at hl 1 rfl) ?_
    refine gtR_0_1 X w dX6_run_54 ?_
    refine lv_aload_n X.1 X.2.1 dX6_run_57 rfl (lv_at hl 1 rfl) ?_
    refine gtR_0_53 X w dX6_run_58 ?_
    refine lv_iload_n X.1 X.2.1 dX6_run_61 rfl (lv_at hl 0 rfl) ?_
    obtain ⟨b10, hf⟩ := px_ck_e hf
    refine ilR_36 X w b10 dX6_run_62 ?_
    obtain ⟨b11, hf⟩ := px_ck_e hf
    refine ilR_1 X w b11 dX6_run_63 ?_
    refine lv_icmp_ne (tgt := 137) X.1 X.2.1 dX6_run_64 (by decide) (fun c12 => ?_) (fun c12 => ?_)
    · have hf := px_in c12 hf
      refine lv_aload_n X.1 X.2.1 dX6_run_137 rfl (lv_at hl 1 rfl) ?_
      refine gtR_0_55 X w dX6_run_138 ?_
      refine lv_iload_n X.1 X.2.1 dX6_run_141 rfl (lv_at hl 0 rfl) ?_
      refine lv_dup2_11 X.1 X.2.1 dX6_run_142 rfl rfl ?_
      obtain ⟨b13, hf⟩ := px_ck_e hf
      refine ilR_38 X w b13 dX6_run_143 ?_
      refine lv_iconst (v := (1 : Int32)) X.1 X.2.1 dX6_run_144 (by decide) ?_
      refine lv_iadd X.1 X.2.1 dX6_run_145 ?_
      obtain ⟨b14, hf⟩ := px_ck_e hf
      refine isR_38 X w b14 dX6_run_146 (fun H locs w => ?_)
      obtain ⟨M15, eM15, hf⟩ := px_bn_e hf
      rw [← eM15] at w
      refine lv_aload_n X.1 X.2.1 dX6_run_147 rfl (lv_at hl 1 rfl) ?_
      refine lv_bipush (v := (6 : Int32)) X.1 X.2.1 dX6_run_148 (by decide) ?_
      refine lv_aload_n X.1 X.2.1 dX6_run_150 rfl (lv_at hl 1 rfl) ?_
      refine gtR_0_53 X w dX6_run_151 ?_
      refine lv_iload_n X.1 X.2.1 dX6_run_154 rfl (lv_at hl 0 rfl) ?_
      obtain ⟨b16, hf⟩ := px_ck_e hf
      refine ilR_36 X w b16 dX6_run_155 ?_
      refine lv_imul X.1 X.2.1 dX6_run_156 ?_
      refine lv_aload_n X.1 X.2.1 dX6_run_157 rfl (lv_at hl 1 rfl) ?_
      refine gtR_0_55 X w dX6_run_158 ?_
      refine lv_iload_n X.1 X.2.1 dX6_run_161 rfl (lv_at hl 0 rfl) ?_
      obtain ⟨b17, hf⟩ := px_ck_e hf
      refine ilR_38 X w b17 dX6_run_162 ?_
      refine lv_iadd X.1 X.2.1 dX6_run_163 ?_
      refine lv_iconst (v := (1 : Int32)) X.1 X.2.1 dX6_run_164 (by decide) ?_
      refine lv_isub X.1 X.2.1 dX6_run_165 ?_
      obtain ⟨M19, e18, hf⟩ := px_bq_e hf
      refine px_cV (As := [.int ((((6 : Int32) * (M15 36 x8.toNatClampNeg)) + (M15 38 x8.toNatClampNeg)) - (1 : Int32))]) (rest := []) X hml hl w (cR_M_doStep l D cs ad e18) lk_6_283 (by decide) (rcR_0 X.2.2.2.2 w) rfl (Nat.le_of_ble_eq_true rfl) dX6_run_166 (fun H locs w => ?_)
      refine lv_aload_n X.1 X.2.1 dX6_run_169 rfl (lv_at hl 1 rfl) ?_
      refine gtR_0_63 X w dX6_run_170 ?_
      refine lv_if_eq (tgt := 185) X.1 X.2.1 dX6_run_173 (by decide) (fun c20 => ?_) (fun c20 => ?_)
      · have hf := px_ip c20 hf
        refine lv_goto (tgt := 33) X.1 X.2.1 dX6_run_185 (by decide) ?_
        exact ih33 M19 _ hf _ _ ls w (lv_sub hl [1] rfl)
      · have hf := px_in c20 hf
        refine lv_aload_n X.1 X.2.1 dX6_run_176 rfl (lv_at hl 1 rfl) ?_
        obtain ⟨r22, M23, e21, hf⟩ := px_bo_e hf
        refine px_cI (As := []) (rest := []) X hml hl w (cR_M_takenUp l D cs ad e21) lk_6_286 (by decide) (rcR_0 X.2.2.2.2 w) rfl (Nat.le_of_ble_eq_true rfl) dX6_run_177 (fun H locs w => ?_)
        refine lv_if_ne (tgt := 185) X.1 X.2.1 dX6_run_180 (by decide) (fun c24 => ?_) (fun c24 => ?_)
        · have hf := px_in c24 hf
          refine lv_goto (tgt := 33) X.1 X.2.1 dX6_run_185 (by decide) ?_
          exact ih33 M23 _ hf _ _ ls w (lv_sub hl [1] rfl)
        · have hf := px_ip c24 hf
          refine lv_iconst (v := (0 : Int32)) X.1 X.2.1 dX6_run_183 (by decide) ?_
          cases hf
          exact px_retZ X hr hlk narrow_b0 w dX6_run_184
    · have hf := px_ip c12 hf
      refine lv_aload_n X.1 X.2.1 dX6_run_67 rfl (lv_at hl 1 rfl) ?_
      refine lv_aload_n X.1 X.2.1 dX6_run_68 rfl (lv_at hl 1 rfl) ?_
      refine gtR_0_56 X w dX6_run_69 ?_
      refine lv_iload_n X.1 X.2.1 dX6_run_72 rfl (lv_at hl 0 rfl) ?_
      obtain ⟨b25, hf⟩ := px_ck_e hf
      refine ilR_39 X w b25 dX6_run_73 ?_
      obtain ⟨b26, hf⟩ := px_cb_e hf
      refine ptR_0_65 X w b26 dX6_run_74 (fun H locs w => ?_)
      obtain ⟨M27, eM27, hf⟩ := px_bn_e hf
      rw [← eM27] at w
      refine lv_aload_n X.1 X.2.1 dX6_run_77 rfl (lv_at hl 1 rfl) ?_
      refine lv_aload_n X.1 X.2.1 dX6_run_78 rfl (lv_at hl 1 rfl) ?_
      refine gtR_0_57 X w dX6_run_79 ?_
      refine lv_iload_n X.1 X.2.1 dX6_run_82 rfl (lv_at hl 0 rfl) ?_
      obtain ⟨b28, hf⟩ := px_ck_e hf
      refine ilR_40 X w b28 dX6_run_83 ?_
      refine ptR_0_66 X w dX6_run_84 (fun H locs w => ?_)
      obtain ⟨M29, eM29, hf⟩ := px_bn_e hf
      rw [← eM29] at w
      refine lv_aload_n X.1 X.2.1 dX6_run_87 rfl (lv_at hl 1 rfl) ?_
      refine lv_dup X.1 X.2.1 dX6_run_88 rfl ?_
      refine gtR_0_52 X w dX6_run_89 ?_
      refine lv_iconst (v := (1 : Int32)) X.1 X.2.1 dX6_run_92 (by decide) ?_
      refine lv_isub X.1 X.2.1 dX6_run_93 ?_
      refine ptR_0_52 X w dX6_run_94 (fun H locs w => ?_)
      obtain ⟨M30, eM30, hf⟩ := px_bn_e hf
      rw [← eM30] at w
      refine lv_aload_n X.1 X.2.1 dX6_run_97 rfl (lv_at hl 1 rfl) ?_
      refine gtR_0_52 X w dX6_run_98 ?_
      refine lv_if_le (tgt := 185) X.1 X.2.1 dX6_run_101 (by decide) (fun c31 => ?_) (fun c31 => ?_)
      · have hf := px_ip c31 hf
        refine lv_goto (tgt := 33) X.1 X.2.1 dX6_run_185 (by decide) ?_
        exact ih33 M30 _ hf _ _ ls w (lv_sub hl [1] rfl)
      · have hf := px_in c31 hf
        refine lv_aload_n X.1 X.2.1 dX6_run_104 rfl (lv_at hl 1 rfl) ?_
        refine gtR_0_56 X w dX6_run_105 ?_
        refine lv_aload_n X.1 X.2.1 dX6_run_108 rfl (lv_at hl 1 rfl) ?_
        refine gtR_0_52 X w dX6_run_109 ?_
        refine lv_iconst (v := (1 : Int32)) X.1 X.2.1 dX6_run_112 (by decide) ?_
        refine lv_isub X.1 X.2.1 dX6_run_113 ?_
        refine lv_aload_n X.1 X.2.1 dX6_run_114 rfl (lv_at hl 1 rfl) ?_
        refine gtR_0_65 X w dX6_run_115 ?_
        obtain ⟨b32, hf⟩ := px_ck_e hf
        obtain ⟨b33, hf⟩ := px_cb_e hf
        refine isR_39 X w b32 b33 dX6_run_118 (fun H locs w => ?_)
        obtain ⟨M34, eM34, hf⟩ := px_bn_e hf
        rw [← eM34] at w
        refine lv_aload_n X.1 X.2.1 dX6_run_119 rfl (lv_at hl 1 rfl) ?_
        refine gtR_0_57 X w dX6_run_120 ?_
        refine lv_aload_n X.1 X.2.1 dX6_run_123 rfl (lv_at hl 1 rfl) ?_
        refine gtR_0_52 X w dX6_run_124 ?_
        refine lv_iconst (v := (1 : Int32)) X.1 X.2.1 dX6_run_127 (by decide) ?_
        refine lv_isub X.1 X.2.1 dX6_run_128 ?_
        refine lv_aload_n X.1 X.2.1 dX6_run_129 rfl (lv_at hl 1 rfl) ?_
        refine gtR_0_66 X w dX6_run_130 ?_
        obtain ⟨b35, hf⟩ := px_ck_e hf
        refine isR_40 X w b35 dX6_run_133 (fun H locs w => ?_)
        obtain ⟨M36, eM36, hf⟩ := px_bn_e hf
        rw [← eM36] at w
        refine lv_goto (tgt := 185) X.1 X.2.1 dX6_run_134 (by decide) ?_
        refine lv_goto (tgt := 33) X.1 X.2.1 dX6_run_185 (by decide) ?_
        exact ih33 M36 _ hf _ _ ls w (lv_sub hl [1] rfl)
def fR_M_run (M : px_M) (p1 p2 : Int32) : Option (Int32 × px_M) := px_bn (px_up M 0 62 ((M 0 62) + (1 : Int32))) (fun M1 => px_bn (px_up M1 0 61 (0 : Int32)) (fun M2 => px_bn (px_up M2 0 52 (0 : Int32)) (fun M3 => px_bn (px_up M3 0 63 (0 : Int32)) (fun M4 => px_bq (fR_M_begin M4 p1 p2 (0 : Int32) (0 : Int32)) (fun M6 => px_fx0 gR_M_run_L33 2000 M6)))))
set_option maxHeartbeats 4000000 in
set_option maxRecDepth 100000 in
theorem cR_M_run (l : Launch) (D : va_G) (cs : Nat → ClassId) (ad : Nat → Nat) {M : px_M} {p1 p2 : Int32} {r : Int32} {M' : px_M} (hf : fR_M_run M p1 p2 = some (r, M')) : px_mI l D (tyR cs) (wR cs ad) yX6_run cX6_run 4 (some .boolean) 5 [.ref (ad 0), .int p1, .int p2] M r M' := by
  refine px_ofI (by decide +kernel) (Nat.le_of_ble_eq_true rfl) ?_
  intro p e s m below meth c A ls X hr hlk hml w hl
  have hl : lv_has ls 4 [(0, .ref (ad 0)), (1, .int p1), (2, .int p2)] := hl
  unfold fR_M_run at hf
  refine lv_aload_n X.1 X.2.1 dX6_run_0 rfl (lv_at hl 0 rfl) ?_
  refine lv_dup X.1 X.2.1 dX6_run_1 rfl ?_
  refine gtR_0_62 X w dX6_run_2 ?_
  refine lv_iconst (v := (1 : Int32)) X.1 X.2.1 dX6_run_5 (by decide) ?_
  refine lv_iadd X.1 X.2.1 dX6_run_6 ?_
  refine ptR_0_62 X w dX6_run_7 (fun H locs w => ?_)
  obtain ⟨M1, eM1, hf⟩ := px_bn_e hf
  rw [← eM1] at w
  refine lv_aload_n X.1 X.2.1 dX6_run_10 rfl (lv_at hl 0 rfl) ?_
  refine lv_iconst (v := (0 : Int32)) X.1 X.2.1 dX6_run_11 (by decide) ?_
  refine ptR_0_61 X w dX6_run_12 (fun H locs w => ?_)
  obtain ⟨M2, eM2, hf⟩ := px_bn_e hf
  rw [← eM2] at w
  refine lv_aload_n X.1 X.2.1 dX6_run_15 rfl (lv_at hl 0 rfl) ?_
  refine lv_iconst (v := (0 : Int32)) X.1 X.2.1 dX6_run_16 (by decide) ?_
  refine ptR_0_52 X w dX6_run_17 (fun H locs w => ?_)
  obtain ⟨M3, eM3, hf⟩ := px_bn_e hf
  rw [← eM3] at w
  refine lv_aload_n X.1 X.2.1 dX6_run_20 rfl (lv_at hl 0 rfl) ?_
  refine lv_iconst (v := (0 : Int32)) X.1 X.2.1 dX6_run_21 (by decide) ?_
  refine ptR_0_63 X w rfl dX6_run_22 (fun H locs w => ?_)
  obtain ⟨M4, eM4, hf⟩ := px_bn_e hf
  rw [← eM4] at w
  refine lv_aload_n X.1 X.2.1 dX6_run_25 rfl (lv_at hl 0 rfl) ?_
  refine lv_iload_n X.1 X.2.1 dX6_run_26 rfl (lv_at hl 1 rfl) ?_
  refine lv_iload_n X.1 X.2.1 dX6_run_27 rfl (lv_at hl 2 rfl) ?_
  refine lv_iconst (v := (0 : Int32)) X.1 X.2.1 dX6_run_28 (by decide) ?_
  refine lv_iconst (v := (0 : Int32)) X.1 X.2.1 dX6_run_29 (by decide) ?_
  obtain ⟨M6, e5, hf⟩ := px_bq_e hf
  refine px_cV (As := [.int p1, .int p2, .int (0 : Int32), .int (0 : Int32)]) (rest := []) X hml hl w (cR_M_begin l D cs ad e5) lk_6_223 (by decide) (rcR_0 X.2.2.2.2 w) rfl (Nat.le_of_ble_eq_true rfl) dX6_run_30 (fun H locs w => ?_)
  exact lR_M_run_L33 X hr hlk hml 2000 M6 _ hf _ _ ls w (lv_sub hl [0] rfl)
theorem lk_6_290 : px_Lk RX6 290 yX6_run cX6_run 4 (some .boolean) 2 := ⟨px_tb (by decide +kernel) (by decide +kernel), px_tb (by decide +kernel) (by decide +kernel), px_tb (by decide +kernel) (by decide +kernel), px_tb (by decide +kernel) (by decide +kernel), px_tb (by decide +kernel) (by decide +kernel), by decide +kernel, by decide⟩
def fR_M_runAndTell (M : px_M) (p1 p2 : Int32) : Option px_M := px_bo (fR_M_run M p1 p2) (fun r2 M3 => (if r2 = 0 then px_bq (fR_M_tell M3 (1 : Int32) (M3 0 64)) (fun M6 => some M6) else some M3))
set_option maxHeartbeats 4000000 in
set_option maxRecDepth 100000 in
theorem cR_M_runAndTell (l : Launch) (D : va_G) (cs : Nat → ClassId) (ad : Nat → Nat) {M : px_M} {p1 p2 : Int32} {M' : px_M} (hf : fR_M_runAndTell M p1 p2 = some M') : px_mV l D (tyR cs) (wR cs ad) yX6_runAndTell cX6_runAndTell 3 6 [.ref (ad 0), .int p1, .int p2] M M' := by
  refine px_ofV (by decide +kernel) (Nat.le_of_ble_eq_true rfl) ?_
  intro p e s m below meth c A ls X hr hlk hml w hl
  have hl : lv_has ls 3 [(0, .ref (ad 0)), (1, .int p1), (2, .int p2)] := hl
  unfold fR_M_runAndTell at hf
  refine lv_aload_n X.1 X.2.1 dX6_runAndTell_0 rfl (lv_at hl 0 rfl) ?_
  refine lv_iload_n X.1 X.2.1 dX6_runAndTell_1 rfl (lv_at hl 1 rfl) ?_
  refine lv_iload_n X.1 X.2.1 dX6_runAndTell_2 rfl (lv_at hl 2 rfl) ?_
  obtain ⟨r2, M3, e1, hf⟩ := px_bo_e hf
  refine px_cI (As := [.int p1, .int p2]) (rest := []) X hml hl w (cR_M_run l D cs ad e1) lk_6_290 (by decide) (rcR_0 X.2.2.2.2 w) rfl (Nat.le_of_ble_eq_true rfl) dX6_runAndTell_3 (fun H locs w => ?_)
  refine lv_if_ne (tgt := 18) X.1 X.2.1 dX6_runAndTell_6 (by decide) (fun c4 => ?_) (fun c4 => ?_)
  · have hf := px_in c4 hf
    cases hf
    exact px_retV X hr hlk w dX6_runAndTell_18
  · have hf := px_ip c4 hf
    refine lv_aload_n X.1 X.2.1 dX6_runAndTell_9 rfl (lv_at hl 0 rfl) ?_
    refine lv_iconst (v := (1 : Int32)) X.1 X.2.1 dX6_runAndTell_10 (by decide) ?_
    refine lv_aload_n X.1 X.2.1 dX6_runAndTell_11 rfl (lv_at hl 0 rfl) ?_
    refine gtR_0_64 X w dX6_runAndTell_12 ?_
    obtain ⟨M6, e5, hf⟩ := px_bq_e hf
    refine px_cV (As := [.int (1 : Int32), .int (M3 0 64)]) (rest := []) X hml hl w (cR_M_tell l D cs ad e5) lk_6_183 (by decide) (rcR_0 X.2.2.2.2 w) rfl (Nat.le_of_ble_eq_true rfl) dX6_runAndTell_15 (fun H locs w => ?_)
    cases hf
    exact px_retV X hr hlk w dX6_runAndTell_18
theorem lk_6_294 : px_Lk RX6 294 yX6_functionOf cX6_functionOf 2 (some .int) 1 := ⟨px_tb (by decide +kernel) (by decide +kernel), px_tb (by decide +kernel) (by decide +kernel), px_tb (by decide +kernel) (by decide +kernel), px_tb (by decide +kernel) (by decide +kernel), px_tb (by decide +kernel) (by decide +kernel), by decide +kernel, by decide⟩
def fR_M_doReaction (M : px_M) (p1 : Int32) : Option px_M := px_ck p1 100 (px_bn ((M 12 p1.toNatClampNeg)) (fun x2 => px_bq (fR_M_functionOf M p1) (fun r4 => px_ck p1 100 (px_bn ((M 15 p1.toNatClampNeg)) (fun x6 => px_ck p1 100 ((if (M 13 p1.toNatClampNeg) = (-2 : Int32) then px_ck x2 40 (px_ck x2 40 (px_bq (fR_M_settle M x6 (M 6 x2.toNatClampNeg) (M 7 x2.toNatClampNeg)) (fun M30 => some M30))) else (if 0 ≤ r4 then px_ck x2 40 (px_bo (fR_M_run M r4 (M 7 x2.toNatClampNeg)) (fun r12 M13 => (if r12 = 0 then px_bq (fR_M_reject M13 x6 (M13 0 64)) (fun M16 => some M16) else px_bq (fR_M_resolve M13 x6 (M13 0 65) (M13 0 66)) (fun M18 => some M18)))) else px_ck x2 40 ((if (M 6 x2.toNatClampNeg) = (1 : Int32) then px_ck x2 40 (px_bq (fR_M_resolve M x6 (0 : Int32) (M 7 x2.toNatClampNeg)) (fun M26 => some M26)) else px_ck x2 40 (px_bq (fR_M_reject M x6 (M 7 x2.toNatClampNeg)) (fun M23 => some M23))))))))))))
set_option maxHeartbeats 4000000 in
set_option maxRecDepth 100000 in
theorem cR_M_doReaction (l : Launch) (D : va_G) (cs : Nat → ClassId) (ad : Nat → Nat) {M : px_M} {p1 : Int32} {M' : px_M} (hf : fR_M_doReaction M p1 = some M') : px_mV l D (tyR cs) (wR cs ad) yX6_doReaction cX6_doReaction 5 6 [.ref (ad 0), .int p1] M M' := by
  refine px_ofV (by decide +kernel) (Nat.le_of_ble_eq_true rfl) ?_
  intro p e s m below meth c A ls X hr hlk hml w hl
  have hl : lv_has ls 5 [(0, .ref (ad 0)), (1, .int p1)] := hl
  unfold fR_M_doReaction at hf
  refine lv_aload_n X.1 X.2.1 dX6_doReaction_0 rfl (lv_at hl 0 rfl) ?_
  refine gtR_0_15 X w dX6_doReaction_1 ?_
  refine lv_iload_n X.1 X.2.1 dX6_doReaction_4 rfl (lv_at hl 1 rfl) ?_
  obtain ⟨b1, hf⟩ := px_ck_e hf
  refine ilR_12 X w b1 dX6_doReaction_5 ?_
  obtain ⟨x2, ex2, hf⟩ := px_bn_e hf
  rw [← ex2]
  refine lv_istore_n (lv' := [(2, .int x2), (0, .ref (ad 0)), (1, .int p1)]) X.1 X.2.1 dX6_doReaction_6 rfl hl (by decide) rfl (fun ls hl => ?_)
  refine lv_aload_n X.1 X.2.1 dX6_doReaction_7 rfl (lv_at hl 1 rfl) ?_
  refine lv_iload_n X.1 X.2.1 dX6_doReaction_8 rfl (lv_at hl 2 rfl) ?_
  obtain ⟨r4, e3, hf⟩ := px_bq_e hf
  refine px_cI (As := [.int p1]) (rest := []) X hml hl w (cR_M_functionOf l D cs ad e3) lk_6_294 (by decide) (rcR_0 X.2.2.2.2 w) rfl (Nat.le_of_ble_eq_true rfl) dX6_doReaction_9 (fun H locs w => ?_)
  refine lv_istore_n (lv' := [(3, .int r4), (2, .int x2), (0, .ref (ad 0)), (1, .int p1)]) X.1 X.2.1 dX6_doReaction_12 rfl hl (by decide) rfl (fun ls hl => ?_)
  refine lv_aload_n X.1 X.2.1 dX6_doReaction_13 rfl (lv_at hl 2 rfl) ?_
  refine gtR_0_18 X w dX6_doReaction_14 ?_
  refine lv_iload_n X.1 X.2.1 dX6_doReaction_17 rfl (lv_at hl 3 rfl) ?_
  obtain ⟨b5, hf⟩ := px_ck_e hf
  refine ilR_15 X w b5 dX6_doReaction_18 ?_
  obtain ⟨x6, ex6, hf⟩ := px_bn_e hf
  rw [← ex6]
  refine lv_istore (lv' := [(4, .int x6), (3, .int r4), (2, .int x2), (0, .ref (ad 0)), (1, .int p1)]) X.1 X.2.1 dX6_doReaction_19 hl (by decide) rfl (fun ls hl => ?_)
  refine lv_aload_n X.1 X.2.1 dX6_doReaction_21 rfl (lv_at hl 3 rfl) ?_
  refine gtR_0_16 X w dX6_doReaction_22 ?_
  refine lv_iload_n X.1 X.2.1 dX6_doReaction_25 rfl (lv_at hl 4 rfl) ?_
  obtain ⟨b7, hf⟩ := px_ck_e hf
  refine ilR_13 X w b7 dX6_doReaction_26 ?_
  refine lv_bipush (v := (-2 : Int32)) X.1 X.2.1 dX6_doReaction_27 (by decide) ?_
  refine lv_icmp_ne (tgt := 53) X.1 X.2.1 dX6_doReaction_29 (by decide) (fun c8 => ?_) (fun c8 => ?_)
  · have hf := px_in c8 hf
    refine lv_iload_n X.1 X.2.1 dX6_doReaction_53 rfl (lv_at hl 1 rfl) ?_
    refine lv_if_ge (tgt := 98) X.1 X.2.1 dX6_doReaction_54 (by decide) (fun c9 => ?_) (fun c9 => ?_)
    · have hf := px_ip c9 hf
      refine lv_aload_n X.1 X.2.1 dX6_doReaction_98 rfl (lv_at hl 3 rfl) ?_
      refine lv_iload_n X.1 X.2.1 dX6_doReaction_99 rfl (lv_at hl 1 rfl) ?_
      refine lv_aload_n X.1 X.2.1 dX6_doReaction_100 rfl (lv_at hl 3 rfl) ?_
      refine gtR_0_8 X w dX6_doReaction_101 ?_
      refine lv_iload_n X.1 X.2.1 dX6_doReaction_104 rfl (lv_at hl 2 rfl) ?_
      obtain ⟨b10, hf⟩ := px_ck_e hf
      refine ilR_7 X w b10 dX6_doReaction_105 ?_
      obtain ⟨r12, M13, e11, hf⟩ := px_bo_e hf
      refine px_cI (As := [.int r4, .int (M 7 x2.toNatClampNeg)]) (rest := []) X hml hl w (cR_M_run l D cs ad e11) lk_6_290 (by decide) (rcR_0 X.2.2.2.2 w) rfl (Nat.le_of_ble_eq_true rfl) dX6_doReaction_106 (fun H locs w => ?_)
      refine lv_if_eq (tgt := 129) X.1 X.2.1 dX6_doReaction_109 (by decide) (fun c14 => ?_) (fun c14 => ?_)
      · have hf := px_ip c14 hf
        refine lv_aload_n X.1 X.2.1 dX6_doReaction_129 rfl (lv_at hl 3 rfl) ?_
        refine lv_iload X.1 X.2.1 dX6_doReaction_130 (lv_at hl 0 rfl) ?_
        refine lv_aload_n X.1 X.2.1 dX6_doReaction_132 rfl (lv_at hl 3 rfl) ?_
        refine gtR_0_64 X w dX6_doReaction_133 ?_
        obtain ⟨M16, e15, hf⟩ := px_bq_e hf
        refine px_cV (As := [.int x6, .int (M13 0 64)]) (rest := []) X hml hl w (cR_M_reject l D cs ad e15) lk_6_243 (by decide) (rcR_0 X.2.2.2.2 w) rfl (Nat.le_of_ble_eq_true rfl) dX6_doReaction_136 (fun H locs w => ?_)
        cases hf
        exact px_retV X hr hlk w dX6_doReaction_139
      · have hf := px_in c14 hf
        refine lv_aload_n X.1 X.2.1 dX6_doReaction_112 rfl (lv_at hl 3 rfl) ?_
        refine lv_iload X.1 X.2.1 dX6_doReaction_113 (lv_at hl 0 rfl) ?_
        refine lv_aload_n X.1 X.2.1 dX6_doReaction_115 rfl (lv_at hl 3 rfl) ?_
        refine gtR_0_65 X w dX6_doReaction_116 ?_
        refine lv_aload_n X.1 X.2.1 dX6_doReaction_119 rfl (lv_at hl 3 rfl) ?_
        refine gtR_0_66 X w dX6_doReaction_120 ?_
        obtain ⟨M18, e17, hf⟩ := px_bq_e hf
        refine px_cV (As := [.int x6, .int (M13 0 65), .int (M13 0 66)]) (rest := []) X hml hl w (cR_M_resolve l D cs ad e17) lk_6_246 (by decide) (rcR_0 X.2.2.2.2 w) rfl (Nat.le_of_ble_eq_true rfl) dX6_doReaction_123 (fun H locs w => ?_)
        refine lv_goto (tgt := 139) X.1 X.2.1 dX6_doReaction_126 (by decide) ?_
        cases hf
        exact px_retV X hr hlk w dX6_doReaction_139
    · have hf := px_in c9 hf
      refine lv_aload_n X.1 X.2.1 dX6_doReaction_57 rfl (lv_at hl 3 rfl) ?_
      refine gtR_0_7 X w dX6_doReaction_58 ?_
      refine lv_iload_n X.1 X.2.1 dX6_doReaction_61 rfl (lv_at hl 2 rfl) ?_
      obtain ⟨b19, hf⟩ := px_ck_e hf
      refine ilR_6 X w b19 dX6_doReaction_62 ?_
      refine lv_iconst (v := (1 : Int32)) X.1 X.2.1 dX6_doReaction_63 (by decide) ?_
      refine lv_icmp_ne (tgt := 83) X.1 X.2.1 dX6_doReaction_64 (by decide) (fun c20 => ?_) (fun c20 => ?_)
      · have hf := px_in c20 hf
        refine lv_aload_n X.1 X.2.1 dX6_doReaction_83 rfl (lv_at hl 3 rfl) ?_
        refine lv_iload X.1 X.2.1 dX6_doReaction_84 (lv_at hl 0 rfl) ?_
        refine lv_aload_n X.1 X.2.1 dX6_doReaction_86 rfl (lv_at hl 3 rfl) ?_
        refine gtR_0_8 X w dX6_doReaction_87 ?_
        refine lv_iload_n X.1 X.2.1 dX6_doReaction_90 rfl (lv_at hl 2 rfl) ?_
        obtain ⟨b21, hf⟩ := px_ck_e hf
        refine ilR_7 X w b21 dX6_doReaction_91 ?_
        obtain ⟨M23, e22, hf⟩ := px_bq_e hf
        refine px_cV (As := [.int x6, .int (M 7 x2.toNatClampNeg)]) (rest := []) X hml hl w (cR_M_reject l D cs ad e22) lk_6_243 (by decide) (rcR_0 X.2.2.2.2 w) rfl (Nat.le_of_ble_eq_true rfl) dX6_doReaction_92 (fun H locs w => ?_)
        refine lv_goto (tgt := 139) X.1 X.2.1 dX6_doReaction_95 (by decide) ?_
        cases hf
        exact px_retV X hr hlk w dX6_doReaction_139
      · have hf := px_ip c20 hf
        refine lv_aload_n X.1 X.2.1 dX6_doReaction_67 rfl (lv_at hl 3 rfl) ?_
        refine lv_iload X.1 X.2.1 dX6_doReaction_68 (lv_at hl 0 rfl) ?_
        refine lv_iconst (v := (0 : Int32)) X.1 X.2.1 dX6_doReaction_70 (by decide) ?_
        refine lv_aload_n X.1 X.2.1 dX6_doReaction_71 rfl (lv_at hl 3 rfl) ?_
        refine gtR_0_8 X w dX6_doReaction_72 ?_
        refine lv_iload_n X.1 X.2.1 dX6_doReaction_75 rfl (lv_at hl 2 rfl) ?_
        obtain ⟨b24, hf⟩ := px_ck_e hf
        refine ilR_7 X w b24 dX6_doReaction_76 ?_
        obtain ⟨M26, e25, hf⟩ := px_bq_e hf
        refine px_cV (As := [.int x6, .int (0 : Int32), .int (M 7 x2.toNatClampNeg)]) (rest := []) X hml hl w (cR_M_resolve l D cs ad e25) lk_6_246 (by decide) (rcR_0 X.2.2.2.2 w) rfl (Nat.le_of_ble_eq_true rfl) dX6_doReaction_77 (fun H locs w => ?_)
        refine lv_goto (tgt := 139) X.1 X.2.1 dX6_doReaction_80 (by decide) ?_
        cases hf
        exact px_retV X hr hlk w dX6_doReaction_139
  · have hf := px_ip c8 hf
    refine lv_aload_n X.1 X.2.1 dX6_doReaction_32 rfl (lv_at hl 3 rfl) ?_
    refine lv_iload X.1 X.2.1 dX6_doReaction_33 (lv_at hl 0 rfl) ?_
    refine lv_aload_n X.1 X.2.1 dX6_doReaction_35 rfl (lv_at hl 3 rfl) ?_
    refine gtR_0_7 X w dX6_doReaction_36 ?_
    refine lv_iload_n X.1 X.2.1 dX6_doReaction_39 rfl (lv_at hl 2 rfl) ?_
    obtain ⟨b27, hf⟩ := px_ck_e hf
    refine ilR_6 X w b27 dX6_doReaction_40 ?_
    refine lv_aload_n X.1 X.2.1 dX6_doReaction_41 rfl (lv_at hl 3 rfl) ?_
    refine gtR_0_8 X w dX6_doReaction_42 ?_
    refine lv_iload_n X.1 X.2.1 dX6_doReaction_45 rfl (lv_at hl 2 rfl) ?_
    obtain ⟨b28, hf⟩ := px_ck_e hf
    refine ilR_7 X w b28 dX6_doReaction_46 ?_
    obtain ⟨M30, e29, hf⟩ := px_bq_e hf
    refine px_cV (As := [.int x6, .int (M 6 x2.toNatClampNeg), .int (M 7 x2.toNatClampNeg)]) (rest := []) X hml hl w (cR_M_settle l D cs ad e29) lk_6_180 (by decide) (rcR_0 X.2.2.2.2 w) rfl (Nat.le_of_ble_eq_true rfl) dX6_doReaction_47 (fun H locs w => ?_)
    refine lv_goto (tgt := 139) X.1 X.2.1 dX6_doReaction_50 (by decide) ?_
    cases hf
    exact px_retV X hr hlk w dX6_doReaction_139
def gR_M_nextTask_L9 (rc9 : px_M → Int32 → Int32 → Option Int32) (M : px_M) (y1 y2 : Int32) : Option Int32 := (if y2 < 0 then some y1 else px_ck y2 4096 (px_bn ((M 20 y2.toNatClampNeg)) (fun x4 => (if y1 < 0 then rc9 M y2 (y2 + (-1 : Int32)) else (if x4 = (M 0 30) then rc9 M y2 (y2 + (-1 : Int32)) else px_ck y1 4096 ((if (M 20 y1.toNatClampNeg) = (M 0 30) then rc9 M y1 (y2 + (-1 : Int32)) else px_ck y1 4096 ((if (M 20 y1.toNatClampNeg) < x4 then rc9 M y1 (y2 + (-1 : Int32)) else rc9 M y2 (y2 + (-1 : Int32)))))))))))
set_option maxHeartbeats 4000000 in
set_option maxRecDepth 100000 in
theorem lR_M_nextTask_L9 {l : Launch} {D : va_G} {cs : Nat → ClassId} {ad : Nat → Nat} {p : Program} {e : Env} {s : State} {m : MethodId} {args : Array Value} {below : List Frame} {meth : Method} {c : Code} {A : Nat → Prop} (X : px_X D (tyR cs) p s m args c cX6_nextTask yX6_nextTask.cls) (hr : meth.sig.returnType = (some .int)) (hlk : meth.locks = false) (hml : c.maxLocals = 5) : ∀ (j : Nat) (M : px_M) (y1 y2 : Int32) (z : Int32), px_fx2 gR_M_nextTask_L9 j M y1 y2 = some z → ∀ (H : Heap) (locs : List Loc) (ls : Array Slot), px_H D (wR cs ad) A s.heap M H locs → lv_has ls 5 [(0, .ref (ad 0)), (1, .int y1), (2, .int y2)] → W p l e (px_rm 0) s m args below meth c H locs 0 0 (px_QI D (tyR cs) (wR cs ad) below args s A z M) (F0 m 9 ls []) := by
  refine px_fx2_i (P := fun M y1 y2 (z : Int32) => ∀ (H : Heap) (locs : List Loc) (ls : Array Slot), px_H D (wR cs ad) A s.heap M H locs → lv_has ls 5 [(0, .ref (ad 0)), (1, .int y1), (2, .int y2)] → W p l e (px_rm 0) s m args below meth c H locs 0 0 (px_QI D (tyR cs) (wR cs ad) below args s A z M) (F0 m 9 ls [])) ?_
  intro rc9 ih9 M y1 y2 z hf H locs ls w hl
  unfold gR_M_nextTask_L9 at hf
  refine lv_iload_n X.1 X.2.1 dX6_nextTask_9 rfl (lv_at hl 2 rfl) ?_
  refine lv_if_lt (tgt := 79) X.1 X.2.1 dX6_nextTask_10 (by decide) (fun c2 => ?_) (fun c2 => ?_)
  · have hf := px_ip c2 hf
    refine lv_iload_n X.1 X.2.1 dX6_nextTask_79 rfl (lv_at hl 1 rfl) ?_
    cases hf
    exact px_retI X hr hlk w dX6_nextTask_80
  · have hf := px_in c2 hf
    refine lv_aload_n X.1 X.2.1 dX6_nextTask_13 rfl (lv_at hl 0 rfl) ?_
    refine gtR_0_26 X w dX6_nextTask_14 ?_
    refine lv_iload_n X.1 X.2.1 dX6_nextTask_17 rfl (lv_at hl 2 rfl) ?_
    obtain ⟨b3, hf⟩ := px_ck_e hf
    refine ilR_20 X w b3 dX6_nextTask_18 ?_
    obtain ⟨x4, ex4, hf⟩ := px_bn_e hf
    rw [← ex4]
    refine lv_istore_n (lv' := [(3, .int x4), (0, .ref (ad 0)), (1, .int y1), (2, .int y2)]) X.1 X.2.1 dX6_nextTask_19 rfl hl (by decide) rfl (fun ls hl => ?_)
    refine lv_iload_n X.1 X.2.1 dX6_nextTask_20 rfl (lv_at hl 2 rfl) ?_
    refine lv_if_lt (tgt := 55) X.1 X.2.1 dX6_nextTask_21 (by decide) (fun c5 => ?_) (fun c5 => ?_)
    · have hf := px_ip c5 hf
      refine lv_iconst (v := (1 : Int32)) X.1 X.2.1 dX6_nextTask_55 (by decide) ?_
      refine lv_goto (tgt := 60) X.1 X.2.1 dX6_nextTask_56 (by decide) ?_
      refine lv_istore (lv' := [(4, .int (1 : Int32)), (3, .int x4), (0, .ref (ad 0)), (1, .int y1), (2, .int y2)]) X.1 X.2.1 dX6_nextTask_60 hl (by decide) rfl (fun ls hl => ?_)
      refine lv_iload X.1 X.2.1 dX6_nextTask_62 (lv_at hl 0 rfl) ?_
      refine lv_if_eq (tgt := 71) X.1 X.2.1 dX6_nextTask_64 (by decide) (fun c => absurd c (by decide)) (fun _ => ?_)
      refine lv_iload_n X.1 X.2.1 dX6_nextTask_67 rfl (lv_at hl 4 rfl) ?_
      refine lv_goto (tgt := 72) X.1 X.2.1 dX6_nextTask_68 (by decide) ?_
      refine lv_istore_n (lv' := [(1, .int y2), (4, .int (1 : Int32)), (3, .int x4), (0, .ref (ad 0)), (2, .int y2)]) X.1 X.2.1 dX6_nextTask_72 rfl hl (by decide) rfl (fun ls hl => ?_)
      refine lv_iinc (v := (y2 + (-1 : Int32))) (lv' := [(2, .int (y2 + (-1 : Int32))), (1, .int y2), (4, .int (1 : Int32)), (3, .int x4), (0, .ref (ad 0))]) X.1 X.2.1 dX6_nextTask_73 hl (k := 4) rfl rfl (by decide) rfl (fun ls hl => ?_)
      refine lv_goto (tgt := 9) X.1 X.2.1 dX6_nextTask_76 (by decide) ?_
      exact ih9 M y2 (y2 + (-1 : Int32)) _ hf _ _ ls w (lv_sub hl [4, 1, 0] rfl)
    · have hf := px_in c5 hf
      refine lv_iload_n X.1 X.2.1 dX6_nextTask_24 rfl (lv_at hl 0 rfl) ?_
      refine lv_aload_n X.1 X.2.1 dX6_nextTask_25 rfl (lv_at hl 1 rfl) ?_
      refine gtR_0_30 X w dX6_nextTask_26 ?_
      refine lv_icmp_eq (tgt := 55) X.1 X.2.1 dX6_nextTask_29 (by decide) (fun c6 => ?_) (fun c6 => ?_)
      · have hf := px_ip c6 hf
        refine lv_iconst (v := (1 : Int32)) X.1 X.2.1 dX6_nextTask_55 (by decide) ?_
        refine lv_goto (tgt := 60) X.1 X.2.1 dX6_nextTask_56 (by decide) ?_
        refine lv_istore (lv' := [(4, .int (1 : Int32)), (3, .int x4), (0, .ref (ad 0)), (1, .int y1), (2, .int y2)]) X.1 X.2.1 dX6_nextTask_60 hl (by decide) rfl (fun ls hl => ?_)
        refine lv_iload X.1 X.2.1 dX6_nextTask_62 (lv_at hl 0 rfl) ?_
        refine lv_if_eq (tgt := 71) X.1 X.2.1 dX6_nextTask_64 (by decide) (fun c => absurd c (by decide)) (fun _ => ?_)
        refine lv_iload_n X.1 X.2.1 dX6_nextTask_67 rfl (lv_at hl 4 rfl) ?_
        refine lv_goto (tgt := 72) X.1 X.2.1 dX6_nextTask_68 (by decide) ?_
        refine lv_istore_n (lv' := [(1, .int y2), (4, .int (1 : Int32)), (3, .int x4), (0, .ref (ad 0)), (2, .int y2)]) X.1 X.2.1 dX6_nextTask_72 rfl hl (by decide) rfl (fun ls hl => ?_)
        refine lv_iinc (v := (y2 + (-1 : Int32))) (lv' := [(2, .int (y2 + (-1 : Int32))), (1, .int y2), (4, .int (1 : Int32)), (3, .int x4), (0, .ref (ad 0))]) X.1 X.2.1 dX6_nextTask_73 hl (k := 4) rfl rfl (by decide) rfl (fun ls hl => ?_)
        refine lv_goto (tgt := 9) X.1 X.2.1 dX6_nextTask_76 (by decide) ?_
        exact ih9 M y2 (y2 + (-1 : Int32)) _ hf _ _ ls w (lv_sub hl [4, 1, 0] rfl)
      · have hf := px_in c6 hf
        refine lv_aload_n X.1 X.2.1 dX6_nextTask_32 rfl (lv_at hl 1 rfl) ?_
        refine gtR_0_26 X w dX6_nextTask_33 ?_
        refine lv_iload_n X.1 X.2.1 dX6_nextTask_36 rfl (lv_at hl 2 rfl) ?_
        obtain ⟨b7, hf⟩ := px_ck_e hf
        refine ilR_20 X w b7 dX6_nextTask_37 ?_
        refine lv_aload_n X.1 X.2.1 dX6_nextTask_38 rfl (lv_at hl 1 rfl) ?_
        refine gtR_0_30 X w dX6_nextTask_39 ?_
        refine lv_icmp_eq (tgt := 59) X.1 X.2.1 dX6_nextTask_42 (by decide) (fun c8 => ?_) (fun c8 => ?_)
        · have hf := px_ip c8 hf
          refine lv_iconst (v := (0 : Int32)) X.1 X.2.1 dX6_nextTask_59 (by decide) ?_
          refine lv_istore (lv' := [(4, .int (0 : Int32)), (3, .int x4), (0, .ref (ad 0)), (1, .int y1), (2, .int y2)]) X.1 X.2.1 dX6_nextTask_60 hl (by decide) rfl (fun ls hl => ?_)
          refine lv_iload X.1 X.2.1 dX6_nextTask_62 (lv_at hl 0 rfl) ?_
          refine lv_if_eq (tgt := 71) X.1 X.2.1 dX6_nextTask_64 (by decide) (fun _ => ?_) (fun c => absurd c (by decide))
          refine lv_iload_n X.1 X.2.1 dX6_nextTask_71 rfl (lv_at hl 3 rfl) ?_
          refine lv_istore_n (lv' := [(1, .int y1), (4, .int (0 : Int32)), (3, .int x4), (0, .ref (ad 0)), (2, .int y2)]) X.1 X.2.1 dX6_nextTask_72 rfl hl (by decide) rfl (fun ls hl => ?_)
          refine lv_iinc (v := (y2 + (-1 : Int32))) (lv' := [(2, .int (y2 + (-1 : Int32))), (1, .int y1), (4, .int (0 : Int32)), (3, .int x4), (0, .ref (ad 0))]) X.1 X.2.1 dX6_nextTask_73 hl (k := 4) rfl rfl (by decide) rfl (fun ls hl => ?_)
          refine lv_goto (tgt := 9) X.1 X.2.1 dX6_nextTask_76 (by decide) ?_
          exact ih9 M y1 (y2 + (-1 : Int32)) _ hf _ _ ls w (lv_sub hl [4, 1, 0] rfl)
        · have hf := px_in c8 hf
          refine lv_iload_n X.1 X.2.1 dX6_nextTask_45 rfl (lv_at hl 0 rfl) ?_
          refine lv_aload_n X.1 X.2.1 dX6_nextTask_46 rfl (lv_at hl 1 rfl) ?_
          refine gtR_0_26 X w dX6_nextTask_47 ?_
          refine lv_iload_n X.1 X.2.1 dX6_nextTask_50 rfl (lv_at hl 2 rfl) ?_
          obtain ⟨b9, hf⟩ := px_ck_e hf
          refine ilR_20 X w b9 dX6_nextTask_51 ?_
          refine lv_icmp_gt (tgt := 59) X.1 X.2.1 dX6_nextTask_52 (by decide) (fun c10 => ?_) (fun c10 => ?_)
          · have hf := px_ip c10 hf
            refine lv_iconst (v := (0 : Int32)) X.1 X.2.1 dX6_nextTask_59 (by decide) ?_
            refine lv_istore (lv' := [(4, .int (0 : Int32)), (3, .int x4), (0, .ref (ad 0)), (1, .int y1), (2, .int y2)]) X.1 X.2.1 dX6_nextTask_60 hl (by decide) rfl (fun ls hl => ?_)
            refine lv_iload X.1 X.2.1 dX6_nextTask_62 (lv_at hl 0 rfl) ?_
            refine lv_if_eq (tgt := 71) X.1 X.2.1 dX6_nextTask_64 (by decide) (fun _ => ?_) (fun c => absurd c (by decide))
            refine lv_iload_n X.1 X.2.1 dX6_nextTask_71 rfl (lv_at hl 3 rfl) ?_
            refine lv_istore_n (lv' := [(1, .int y1), (4, .int (0 : Int32)), (3, .int x4), (0, .ref (ad 0)), (2, .int y2)]) X.1 X.2.1 dX6_nextTask_72 rfl hl (by decide) rfl (fun ls hl => ?_)
            refine lv_iinc (v := (y2 + (-1 : Int32))) (lv' := [(2, .int (y2 + (-1 : Int32))), (1, .int y1), (4, .int (0 : Int32)), (3, .int x4), (0, .ref (ad 0))]) X.1 X.2.1 dX6_nextTask_73 hl (k := 4) rfl rfl (by decide) rfl (fun ls hl => ?_)
            refine lv_goto (tgt := 9) X.1 X.2.1 dX6_nextTask_76 (by decide) ?_
            exact ih9 M y1 (y2 + (-1 : Int32)) _ hf _ _ ls w (lv_sub hl [4, 1, 0] rfl)
          · have hf := px_in c10 hf
            refine lv_iconst (v := (1 : Int32)) X.1 X.2.1 dX6_nextTask_55 (by decide) ?_
            refine lv_goto (tgt := 60) X.1 X.2.1 dX6_nextTask_56 (by decide) ?_
            refine lv_istore (lv' := [(4, .int (1 : Int32)), (3, .int x4), (0, .ref (ad 0)), (1, .int y1), (2, .int y2)]) X.1 X.2.1 dX6_nextTask_60 hl (by decide) rfl (fun ls hl => ?_)
            refine lv_iload X.1 X.2.1 dX6_nextTask_62 (lv_at hl 0 rfl) ?_
            refine lv_if_eq (tgt := 71) X.1 X.2.1 dX6_nextTask_64 (by decide) (fun c => absurd c (by decide)) (fun _ => ?_)
            refine lv_iload_n X.1 X.2.1 dX6_nextTask_67 rfl (lv_at hl 4 rfl) ?_
            refine lv_goto (tgt := 72) X.1 X.2.1 dX6_nextTask_68 (by decide) ?_
            refine lv_istore_n (lv' := [(1, .int y2), (4, .int (1 : Int32)), (3, .int x4), (0, .ref (ad 0)), (2, .int y2)]) X.1 X.2.1 dX6_nextTask_72 rfl hl (by decide) rfl (fun ls hl => ?_)
            refine lv_iinc (v := (y2 + (-1 : Int32))) (lv' := [(2, .int (y2 + (-1 : Int32))), (1, .int y2), (4, .int (1 : Int32)), (3, .int x4), (0, .ref (ad 0))]) X.1 X.2.1 dX6_nextTask_73 hl (k := 4) rfl rfl (by decide) rfl (fun ls hl => ?_)
            refine lv_goto (tgt := 9) X.1 X.2.1 dX6_nextTask_76 (by decide) ?_
            exact ih9 M y2 (y2 + (-1 : Int32)) _ hf _ _ ls w (lv_sub hl [4, 1, 0] rfl)
def fR_M_nextTask (M : px_M) : Option Int32 := px_bn (((M 0 25) - (1 : Int32))) (fun x1 => px_fx2 gR_M_nextTask_L9 4097 M (-1 : Int32) x1)
set_option maxHeartbeats 4000000 in
set_option maxRecDepth 100000 in
theorem cR_M_nextTask (l : Launch) (D : va_G) (cs : Nat → ClassId) (ad : Nat → Nat) {M : px_M} {r : Int32} (hf : fR_M_nextTask M = some r) : px_mI l D (tyR cs) (wR cs ad) yX6_nextTask cX6_nextTask 5 (some .int) 0 [.ref (ad 0)] M r M := by
  refine px_ofI (by decide +kernel) (Nat.le_of_ble_eq_true rfl) ?_
  intro p e s m below meth c A ls X hr hlk hml w hl
  have hl : lv_has ls 5 [(0, .ref (ad 0))] := hl
  unfold fR_M_nextTask at hf
  refine lv_iconst (v := (-1 : Int32)) X.1 X.2.1 dX6_nextTask_0 (by decide) ?_
  refine lv_istore_n (lv' := [(1, .int (-1 : Int32)), (0, .ref (ad 0))]) X.1 X.2.1 dX6_nextTask_1 rfl hl (by decide) rfl (fun ls hl => ?_)
  refine lv_aload_n X.1 X.2.1 dX6_nextTask_2 rfl (lv_at hl 1 rfl) ?_
  refine gtR_0_25 X w dX6_nextTask_3 ?_
  refine lv_iconst (v := (1 : Int32)) X.1 X.2.1 dX6_nextTask_6 (by decide) ?_
  refine lv_isub X.1 X.2.1 dX6_nextTask_7 ?_
  obtain ⟨x1, ex1, hf⟩ := px_bn_e hf
  rw [← ex1]
  refine lv_istore_n (lv' := [(2, .int x1), (1, .int (-1 : Int32)), (0, .ref (ad 0))]) X.1 X.2.1 dX6_nextTask_8 rfl hl (by decide) rfl (fun ls hl => ?_)
  exact lR_M_nextTask_L9 X hr hlk hml 4097 M (-1 : Int32) x1 _ hf _ _ ls w (lv_sub hl [2, 1, 0] rfl)
def gR_M_dropTask_L12 (rc12 : px_M → Int32 → Option px_M) (M : px_M) (y2 : Int32) : Option px_M := (if (M 0 25) ≤ y2 then some M else px_ck (y2 + (1 : Int32)) 4096 (px_ck y2 4096 (px_bn (px_up M 20 y2.toNatClampNeg (M 20 (y2 + (1 : Int32)).toNatClampNeg)) (fun M5 => px_ck (y2 + (1 : Int32)) 4096 (px_ck y2 4096 (px_bn (px_up M5 21 y2.toNatClampNeg (M5 21 (y2 + (1 : Int32)).toNatClampNeg)) (fun M8 => px_ck (y2 + (1 : Int32)) 4096 (px_ck y2 4096 (px_bn (px_up M8 22 y2.toNatClampNeg (M8 22 (y2 + (1 : Int32)).toNatClampNeg)) (fun M11 => px_ck (y2 + (1 : Int32)) 4096 (px_ck y2 4096 (px_bn (px_up M11 23 y2.toNatClampNeg (M11 23 (y2 + (1 : Int32)).toNatClampNeg)) (fun M14 => rc12 M14 (y2 + (1 : Int32)))))))))))))))
set_option maxHeartbeats 4000000 in
set_option maxRecDepth 100000 in
theorem lR_M_dropTask_L12 {l : Launch} {D : va_G} {cs : Nat → ClassId} {ad : Nat → Nat} {p : Program} {e : Env} {s : State} {m : MethodId} {args : Array Value} {below : List Frame} {meth : Method} {c : Code} {A : Nat → Prop} (X : px_X D (tyR cs) p s m args c cX6_dropTask yX6_dropTask.cls) (hr : meth.sig.returnType = none) (hlk : meth.locks = false) (hml : c.maxLocals = 3) : ∀ (j : Nat) (M : px_M) (y2 : Int32) (z : px_M), px_fx1 gR_M_dropTask_L12 j M y2 = some z → ∀ (H : Heap) (locs : List Loc) (ls : Array Slot), px_H D (wR cs ad) A s.heap M H locs → lv_has ls 3 [(0, .ref (ad 0)), (2, .int y2)] → W p l e (px_rm 0) s m args below meth c H locs 0 0 (px_QV D (tyR cs) (wR cs ad) below args s A z) (F0 m 12 ls []) := by
  refine px_fx1_i (P := fun M y2 (z : px_M) => ∀ (H : Heap) (locs : List Loc) (ls : Array Slot), px_H D (wR cs ad) A s.heap M H locs → lv_has ls 3 [(0, .ref (ad 0)), (2, .int y2)] → W p l e (px_rm 0) s m args below meth c H locs 0 0 (px_QV D (tyR cs) (wR cs ad) below args s A z) (F0 m 12 ls [])) ?_
  intro rc12 ih12 M y2 z hf H locs ls w hl
  unfold gR_M_dropTask_L12 at hf
  refine lv_iload_n X.1 X.2.1 dX6_dropTask_12 rfl (lv_at hl 1 rfl) ?_
  refine lv_aload_n X.1 X.2.1 dX6_dropTask_13 rfl (lv_at hl 0 rfl) ?_
  refine gtR_0_25 X w dX6_dropTask_14 ?_
  refine lv_icmp_ge (tgt := 82) X.1 X.2.1 dX6_dropTask_17 (by decide) (fun c2 => ?_) (fun c2 => ?_)
  · have hf := px_ip c2 hf
    cases hf
    exact px_retV X hr hlk w dX6_dropTask_82
  · have hf := px_in c2 hf
    refine lv_aload_n X.1 X.2.1 dX6_dropTask_20 rfl (lv_at hl 0 rfl) ?_
    refine gtR_0_26 X w dX6_dropTask_21 ?_
    refine lv_iload_n X.1 X.2.1 dX6_dropTask_24 rfl (lv_at hl 1 rfl) ?_
    refine lv_aload_n X.1 X.2.1 dX6_dropTask_25 rfl (lv_at hl 0 rfl) ?_
    refine gtR_0_26 X w dX6_dropTask_26 ?_
    refine lv_iload_n X.1 X.2.1 dX6_dropTask_29 rfl (lv_at hl 1 rfl) ?_
    refine lv_iconst (v := (1 : Int32)) X.1 X.2.1 dX6_dropTask_30 (by decide) ?_
    refine lv_iadd X.1 X.2.1 dX6_dropTask_31 ?_
    obtain ⟨b3, hf⟩ := px_ck_e hf
    refine ilR_20 X w b3 dX6_dropTask_32 ?_
    obtain ⟨b4, hf⟩ := px_ck_e hf
    refine isR_20 X w b4 dX6_dropTask_33 (fun H locs w => ?_)
    obtain ⟨M5, eM5, hf⟩ := px_bn_e hf
    rw [← eM5] at w
    refine lv_aload_n X.1 X.2.1 dX6_dropTask_34 rfl (lv_at hl 0 rfl) ?_
    refine gtR_0_27 X w dX6_dropTask_35 ?_
    refine lv_iload_n X.1 X.2.1 dX6_dropTask_38 rfl (lv_at hl 1 rfl) ?_
    refine lv_aload_n X.1 X.2.1 dX6_dropTask_39 rfl (lv_at hl 0 rfl) ?_
    refine gtR_0_27 X w dX6_dropTask_40 ?_
    refine lv_iload_n X.1 X.2.1 dX6_dropTask_43 rfl (lv_at hl 1 rfl) ?_
    refine lv_iconst (v := (1 : Int32)) X.1 X.2.1 dX6_dropTask_44 (by decide) ?_
    refine lv_iadd X.1 X.2.1 dX6_dropTask_45 ?_
    obtain ⟨b6, hf⟩ := px_ck_e hf
    refine ilR_21 X w b6 dX6_dropTask_46 ?_
    obtain ⟨b7, hf⟩ := px_ck_e hf
    refine isR_21 X w b7 dX6_dropTask_47 (fun H locs w => ?_)
    obtain ⟨M8, eM8, hf⟩ := px_bn_e hf
    rw [← eM8] at w
    refine lv_aload_n X.1 X.2.1 dX6_dropTask_48 rfl (lv_at hl 0 rfl) ?_
    refine gtR_0_28 X w dX6_dropTask_49 ?_
    refine lv_iload_n X.1 X.2.1 dX6_dropTask_52 rfl (lv_at hl 1 rfl) ?_
    refine lv_aload_n X.1 X.2.1 dX6_dropTask_53 rfl (lv_at hl 0 rfl) ?_
    refine gtR_0_28 X w dX6_dropTask_54 ?_
    refine lv_iload_n X.1 X.2.1 dX6_dropTask_57 rfl (lv_at hl 1 rfl) ?_
    refine lv_iconst (v := (1 : Int32)) X.1 X.2.1 dX6_dropTask_58 (by decide) ?_
    refine lv_iadd X.1 X.2.1 dX6_dropTask_59 ?_
    obtain ⟨b9, hf⟩ := px_ck_e hf
    refine ilR_22 X w b9 dX6_dropTask_60 ?_
    obtain ⟨b10, hf⟩ := px_ck_e hf
    refine isR_22 X w b10 dX6_dropTask_61 (fun H locs w => ?_)
    obtain ⟨M11, eM11, hf⟩ := px_bn_e hf
    rw [← eM11] at w
    refine lv_aload_n X.1 X.2.1 dX6_dropTask_62 rfl (lv_at hl 0 rfl) ?_
    refine gtR_0_29 X w dX6_dropTask_63 ?_
    refine lv_iload_n X.1 X.2.1 dX6_dropTask_66 rfl (lv_at hl 1 rfl) ?_
    refine lv_aload_n X.1 X.2.1 dX6_dropTask_67 rfl (lv_at hl 0 rfl) ?_
    refine gtR_0_29 X w dX6_dropTask_68 ?_
    refine lv_iload_n X.1 X.2.1 dX6_dropTask_71 rfl (lv_at hl 1 rfl) ?_
    refine lv_iconst (v := (1 : Int32)) X.1 X.2.1 dX6_dropTask_72 (by decide) ?_
    refine lv_iadd X.1 X.2.1 dX6_dropTask_73 ?_
    obtain ⟨b12, hf⟩ := px_ck_e hf
    refine ilR_23 X w b12 dX6_dropTask_74 ?_
    obtain ⟨b13, hf⟩ := px_ck_e hf
    refine isR_23 X w b13 dX6_dropTask_75 (fun H locs w => ?_)
    obtain ⟨M14, eM14, hf⟩ := px_bn_e hf
    rw [← eM14] at w
    refine lv_iinc (v := (y2 + (1 : Int32))) (lv' := [(2, .int (y2 + (1 : Int32))), (0, .ref (ad 0))]) X.1 X.2.1 dX6_dropTask_76 hl (k := 1) rfl rfl (by decide) rfl (fun ls hl => ?_)
    refine lv_goto (tgt := 12) X.1 X.2.1 dX6_dropTask_79 (by decide) ?_
    exact ih12 M14 (y2 + (1 : Int32)) _ hf _ _ ls w (lv_sub hl [1, 0] rfl)
def fR_M_dropTask (M : px_M) (p1 : Int32) : Option px_M := px_bn (px_up M 0 25 ((M 0 25) - (1 : Int32))) (fun M1 => px_fx1 gR_M_dropTask_L12 4097 M1 p1)
set_option maxHeartbeats 4000000 in
set_option maxRecDepth 100000 in
theorem cR_M_dropTask (l : Launch) (D : va_G) (cs : Nat → ClassId) (ad : Nat → Nat) {M : px_M} {p1 : Int32} {M' : px_M} (hf : fR_M_dropTask M p1 = some M') : px_mV l D (tyR cs) (wR cs ad) yX6_dropTask cX6_dropTask 3 0 [.ref (ad 0), .int p1] M M' := by
  refine px_ofV (by decide +kernel) (Nat.le_of_ble_eq_true rfl) ?_
  intro p e s m below meth c A ls X hr hlk hml w hl
  have hl : lv_has ls 3 [(0, .ref (ad 0)), (1, .int p1)] := hl
  unfold fR_M_dropTask at hf
  refine lv_aload_n X.1 X.2.1 dX6_dropTask_0 rfl (lv_at hl 0 rfl) ?_
  refine lv_dup X.1 X.2.1 dX6_dropTask_1 rfl ?_
  refine gtR_0_25 X w dX6_dropTask_2 ?_
  refine lv_iconst (v := (1 : Int32)) X.1 X.2.1 dX6_dropTask_5 (by decide) ?_
  refine lv_isub X.1 X.2.1 dX6_dropTask_6 ?_
  refine ptR_0_25 X w dX6_dropTask_7 (fun H locs w => ?_)
  obtain ⟨M1, eM1, hf⟩ := px_bn_e hf
  rw [← eM1] at w
  refine lv_iload_n X.1 X.2.1 dX6_dropTask_10 rfl (lv_at hl 1 rfl) ?_
  refine lv_istore_n (lv' := [(2, .int p1), (0, .ref (ad 0)), (1, .int p1)]) X.1 X.2.1 dX6_dropTask_11 rfl hl (by decide) rfl (fun ls hl => ?_)
  exact lR_M_dropTask_L12 X hr hlk hml 4097 M1 p1 _ hf _ _ ls w (lv_sub hl [1, 0] rfl)
def gR_M_giveBack_L40 (rc40 : px_M → Int32 → Int32 → Int32 → Option px_M) (M : px_M) (y1 y2 y3 : Int32) : Option px_M := (if y2 ≤ y3 then px_bn (px_up M 0 43 ((M 0 43) + y2)) (fun M5 => px_bn (px_up M5 0 46 (0 : Int32)) (fun M6 => some M6)) else px_ck (y1 + y3) 24 (px_ck y3 24 (px_bn (px_up M 32 y3.toNatClampNeg (M 33 (y1 + y3).toNatClampNeg)) (fun M9 => rc40 M9 y1 y2 (y3 + (1 : Int32))))))
set_option maxHeartbeats 4000000 in
set_option maxRecDepth 100000 in
theorem lR_M_giveBack_L40 {l : Launch} {D : va_G} {cs : Nat → ClassId} {ad : Nat → Nat} {p : Program} {e : Env} {s : State} {m : MethodId} {args : Array Value} {below : List Frame} {meth : Method} {c : Code} {A : Nat → Prop} (X : px_X D (tyR cs) p s m args c cX6_giveBack yX6_giveBack.cls) (hr : meth.sig.returnType = none) (hlk : meth.locks = false) (hml : c.maxLocals = 4) : ∀ (j : Nat) (M : px_M) (y1 y2 y3 : Int32) (z : px_M), px_fx3 gR_M_giveBack_L40 j M y1 y2 y3 = some z → ∀ (H : Heap) (locs : List Loc) (ls : Array Slot), px_H D (wR cs ad) A s.heap M H locs → lv_has ls 4 [(0, .ref (ad 0)), (1, .int y1), (2, .int y2), (3, .int y3)] → W p l e (px_rm 0) s m args below meth c H locs 0 0 (px_QV D (tyR cs) (wR cs ad) below args s A z) (F0 m 40 ls []) := by
  refine px_fx3_i (P := fun M y1 y2 y3 (z : px_M) => ∀ (H : Heap) (locs : List Loc) (ls : Array Slot), px_H D (wR cs ad) A s.heap M H locs → lv_has ls 4 [(0, .ref (ad 0)), (1, .int y1), (2, .int y2), (3, .int y3)] → W p l e (px_rm 0) s m args below meth c H locs 0 0 (px_QV D (tyR cs) (wR cs ad) below args s A z) (F0 m 40 ls [])) ?_
  intro rc40 ih40 M y1 y2 y3 z hf H locs ls w hl
  unfold gR_M_giveBack_L40 at hf
  refine lv_iload_n X.1 X.2.1 dX6_giveBack_40 rfl (lv_at hl 3 rfl) ?_
  refine lv_iload_n X.1 X.2.1 dX6_giveBack_41 rfl (lv_at hl 2 rfl) ?_
  refine lv_icmp_ge (tgt := 65) X.1 X.2.1 dX6_giveBack_42 (by decide) (fun c4 => ?_) (fun c4 => ?_)
  · have hf := px_ip c4 hf
    refine lv_aload_n X.1 X.2.1 dX6_giveBack_65 rfl (lv_at hl 0 rfl) ?_
    refine lv_aload_n X.1 X.2.1 dX6_giveBack_66 rfl (lv_at hl 0 rfl) ?_
    refine gtR_0_43 X w dX6_giveBack_67 ?_
    refine lv_iload_n X.1 X.2.1 dX6_giveBack_70 rfl (lv_at hl 2 rfl) ?_
    refine lv_iadd X.1 X.2.1 dX6_giveBack_71 ?_
    refine ptR_0_43 X w dX6_giveBack_72 (fun H locs w => ?_)
    obtain ⟨M5, eM5, hf⟩ := px_bn_e hf
    rw [← eM5] at w
    refine lv_aload_n X.1 X.2.1 dX6_giveBack_75 rfl (lv_at hl 0 rfl) ?_
    refine lv_iconst (v := (0 : Int32)) X.1 X.2.1 dX6_giveBack_76 (by decide) ?_
    refine ptR_0_46 X w dX6_giveBack_77 (fun H locs w => ?_)
    obtain ⟨M6, eM6, hf⟩ := px_bn_e hf
    rw [← eM6] at w
    cases hf
    exact px_retV X hr hlk w dX6_giveBack_80
  · have hf := px_in c4 hf
    refine lv_aload_n X.1 X.2.1 dX6_giveBack_45 rfl (lv_at hl 0 rfl) ?_
    refine gtR_0_44 X w dX6_giveBack_46 ?_
    refine lv_iload_n X.1 X.2.1 dX6_giveBack_49 rfl (lv_at hl 3 rfl) ?_
    refine lv_aload_n X.1 X.2.1 dX6_giveBack_50 rfl (lv_at hl 0 rfl) ?_
    refine gtR_0_47 X w dX6_giveBack_51 ?_
    refine lv_iload_n X.1 X.2.1 dX6_giveBack_54 rfl (lv_at hl 1 rfl) ?_
    refine lv_iload_n X.1 X.2.1 dX6_giveBack_55 rfl (lv_at hl 3 rfl) ?_
    refine lv_iadd X.1 X.2.1 dX6_giveBack_56 ?_
    obtain ⟨b7, hf⟩ := px_ck_e hf
    refine ilR_33 X w b7 dX6_giveBack_57 ?_
    obtain ⟨b8, hf⟩ := px_ck_e hf
    refine isR_32 X w b8 dX6_giveBack_58 (fun H locs w => ?_)
    obtain ⟨M9, eM9, hf⟩ := px_bn_e hf
    rw [← eM9] at w
    refine lv_iinc (v := (y3 + (1 : Int32))) (lv' := [(3, .int (y3 + (1 : Int32))), (0, .ref (ad 0)), (1, .int y1), (2, .int y2)]) X.1 X.2.1 dX6_giveBack_59 hl (k := 3) rfl rfl (by decide) rfl (fun ls hl => ?_)
    refine lv_goto (tgt := 40) X.1 X.2.1 dX6_giveBack_62 (by decide) ?_
    exact ih40 M9 y1 y2 (y3 + (1 : Int32)) _ hf _ _ ls w (lv_sub hl [1, 2, 3, 0] rfl)
def gR_M_giveBack_L14 (rc14 : px_M → Int32 → Int32 → Int32 → Option px_M) (M : px_M) (y1 y2 y3 : Int32) : Option px_M := (if y3 < 0 then px_fx3 gR_M_giveBack_L40 25 M y1 y2 (0 : Int32) else px_ck y3 24 (px_ck (y3 + y2) 24 (px_bn (px_up M 32 (y3 + y2).toNatClampNeg (M 32 y3.toNatClampNeg)) (fun M12 => rc14 M12 y1 y2 (y3 + (-1 : Int32))))))
set_option maxHeartbeats 4000000 in
set_option maxRecDepth 100000 in
theorem lR_M_giveBack_L14 {l : Launch} {D : va_G} {cs : Nat → ClassId} {ad : Nat → Nat} {p : Program} {e : Env} {s : State} {m : MethodId} {args : Array Value} {below : List Frame} {meth : Method} {c : Code} {A : Nat → Prop} (X : px_X D (tyR cs) p s m args c cX6_giveBack yX6_giveBack.cls) (hr : meth.sig.returnType = none) (hlk : meth.locks = false) (hml : c.maxLocals = 4) : ∀ (j : Nat) (M : px_M) (y1 y2 y3 : Int32) (z : px_M), px_fx3 gR_M_giveBack_L14 j M y1 y2 y3 = some z → ∀ (H : Heap) (locs : List Loc) (ls : Array Slot), px_H D (wR cs ad) A s.heap M H locs → lv_has ls 4 [(0, .ref (ad 0)), (1, .int y1), (2, .int y2), (3, .int y3)] → W p l e (px_rm 0) s m args below meth c H locs 0 0 (px_QV D (tyR cs) (wR cs ad) below args s A z) (F0 m 14 ls []) := by
  refine px_fx3_i (P := fun M y1 y2 y3 (z : px_M) => ∀ (H : Heap) (locs : List Loc) (ls : Array Slot), px_H D (wR cs ad) A s.heap M H locs → lv_has ls 4 [(0, .ref (ad 0)), (1, .int y1), (2, .int y2), (3, .int y3)] → W p l e (px_rm 0) s m args below meth c H locs 0 0 (px_QV D (tyR cs) (wR cs ad) below args s A z) (F0 m 14 ls [])) ?_
  intro rc14 ih14 M y1 y2 y3 z hf H locs ls w hl
  unfold gR_M_giveBack_L14 at hf
  refine lv_iload_n X.1 X.2.1 dX6_giveBack_14 rfl (lv_at hl 3 rfl) ?_
  refine lv_if_lt (tgt := 38) X.1 X.2.1 dX6_giveBack_15 (by decide) (fun c3 => ?_) (fun c3 => ?_)
  · have hf := px_ip c3 hf
    refine lv_iconst (v := (0 : Int32)) X.1 X.2.1 dX6_giveBack_38 (by decide) ?_
    refine lv_istore_n (lv' := [(3, .int (0 : Int32)), (0, .ref (ad 0)), (1, .int y1), (2, .int y2)]) X.1 X.2.1 dX6_giveBack_39 rfl hl (by decide) rfl (fun ls hl => ?_)
    exact lR_M_giveBack_L40 X hr hlk hml 25 M y1 y2 (0 : Int32) _ hf _ _ ls w (lv_sub hl [1, 2, 3, 0] rfl)
  · have hf := px_in c3 hf
    refine lv_aload_n X.1 X.2.1 dX6_giveBack_18 rfl (lv_at hl 0 rfl) ?_
    refine gtR_0_44 X w dX6_giveBack_19 ?_
    refine lv_iload_n X.1 X.2.1 dX6_giveBack_22 rfl (lv_at hl 3 rfl) ?_
    refine lv_iload_n X.1 X.2.1 dX6_giveBack_23 rfl (lv_at hl 2 rfl) ?_
    refine lv_iadd X.1 X.2.1 dX6_giveBack_24 ?_
    refine lv_aload_n X.1 X.2.1 dX6_giveBack_25 rfl (lv_at hl 0 rfl) ?_
    refine gtR_0_44 X w dX6_giveBack_26 ?_
    refine lv_iload_n X.1 X.2.1 dX6_giveBack_29 rfl (lv_at hl 3 rfl) ?_
    obtain ⟨b10, hf⟩ := px_ck_e hf
    refine ilR_32 X w b10 dX6_giveBack_30 ?_
    obtain ⟨b11, hf⟩ := px_ck_e hf
    refine isR_32 X w b11 dX6_giveBack_31 (fun H locs w => ?_)
    obtain ⟨M12, eM12, hf⟩ := px_bn_e hf
    rw [← eM12] at w
    refine lv_iinc (v := (y3 + (-1 : Int32))) (lv' := [(3, .int (y3 + (-1 : Int32))), (0, .ref (ad 0)), (1, .int y1), (2, .int y2)]) X.1 X.2.1 dX6_giveBack_32 hl (k := 3) rfl rfl (by decide) rfl (fun ls hl => ?_)
    refine lv_goto (tgt := 14) X.1 X.2.1 dX6_giveBack_35 (by decide) ?_
    exact ih14 M12 y1 y2 (y3 + (-1 : Int32)) _ hf _ _ ls w (lv_sub hl [1, 2, 3, 0] rfl)
def fR_M_giveBack (M : px_M) (p1 : Int32) : Option px_M := px_bn (((M 0 45) - p1)) (fun x1 => px_bn (((M 0 43) - (1 : Int32))) (fun x2 => px_fx3 gR_M_giveBack_L14 25 M p1 x1 x2))
set_option maxHeartbeats 4000000 in
set_option maxRecDepth 100000 in
theorem cR_M_giveBack (l : Launch) (D : va_G) (cs : Nat → ClassId) (ad : Nat → Nat) {M : px_M} {p1 : Int32} {M' : px_M} (hf : fR_M_giveBack M p1 = some M') : px_mV l D (tyR cs) (wR cs ad) yX6_giveBack cX6_giveBack 4 0 [.ref (ad 0), .int p1] M M' := by
  refine px_ofV (by decide +kernel) (Nat.le_of_ble_eq_true rfl) ?_
  intro p e s m below meth c A ls X hr hlk hml w hl
  have hl : lv_has ls 4 [(0, .ref (ad 0)), (1, .int p1)] := hl
  unfold fR_M_giveBack at hf
  refine lv_aload_n X.1 X.2.1 dX6_giveBack_0 rfl (lv_at hl 0 rfl) ?_
  refine gtR_0_45 X w dX6_giveBack_1 ?_
  refine lv_iload_n X.1 X.2.1 dX6_giveBack_4 rfl (lv_at hl 1 rfl) ?_
  refine lv_isub X.1 X.2.1 dX6_giveBack_5 ?_
  obtain ⟨x1, ex1, hf⟩ := px_bn_e hf
  rw [← ex1]
  refine lv_istore_n (lv' := [(2, .int x1), (0, .ref (ad 0)), (1, .int p1)]) X.1 X.2.1 dX6_giveBack_6 rfl hl (by decide) rfl (fun ls hl => ?_)
  refine lv_aload_n X.1 X.2.1 dX6_giveBack_7 rfl (lv_at hl 1 rfl) ?_
  refine gtR_0_43 X w dX6_giveBack_8 ?_
  refine lv_iconst (v := (1 : Int32)) X.1 X.2.1 dX6_giveBack_11 (by decide) ?_
  refine lv_isub X.1 X.2.1 dX6_giveBack_12 ?_
  obtain ⟨x2, ex2, hf⟩ := px_bn_e hf
  rw [← ex2]
  refine lv_istore_n (lv' := [(3, .int x2), (2, .int x1), (0, .ref (ad 0)), (1, .int p1)]) X.1 X.2.1 dX6_giveBack_13 rfl hl (by decide) rfl (fun ls hl => ?_)
  exact lR_M_giveBack_L14 X hr hlk hml 25 M p1 x1 x2 _ hf _ _ ls w (lv_sub hl [2, 3, 1, 0] rfl)
theorem lk_6_297 : px_Lk RX6 297 yX6_runAndTell cX6_runAndTell 3 none 2 := ⟨px_tb (by decide +kernel) (by decide +kernel), px_tb (by decide +kernel) (by decide +kernel), px_tb (by decide +kernel) (by decide +kernel), px_tb (by decide +kernel) (by decide +kernel), px_tb (by decide +kernel) (by decide +kernel), by decide +kernel, by decide⟩
def fR_M_doTimer (M : px_M) (p1 : Int32) : Option px_M := px_bq (fR_M_timerAt M p1) (fun r2 => px_ck r2 12 (px_bn ((M 25 r2.toNatClampNeg)) (fun x4 => px_ck r2 12 (px_bn ((M 26 r2.toNatClampNeg)) (fun x6 => px_ck r2 12 (px_bn (px_up M 0 60 ((M 28 r2.toNatClampNeg) + (1 : Int32))) (fun M8 => px_ck r2 12 ((if (M8 30 r2.toNatClampNeg) = 0 then px_bq (fR_M_dropTimer M8 r2) (fun M27 => px_bq (fR_M_runAndTell M27 x4 x6) (fun M29 => px_bn (px_up M29 0 60 (1 : Int32)) (fun M30 => px_bq (fR_M_timerAt M30 p1) (fun r32 => (if r32 < 0 then some M30 else px_ck r32 12 (px_ck r32 12 (px_bn (px_up M30 28 r32.toNatClampNeg ((M30 28 r32.toNatClampNeg) + (1 : Int32))) (fun M36 => px_ck r32 12 (px_bn (px_up M36 31 r32.toNatClampNeg (0 : Int32)) (fun M38 => px_bq (fR_M_dueOf M38 r32) (fun r40 => px_ck r32 12 (px_bn (px_up M38 29 r32.toNatClampNeg r40) (fun M42 => some M42))))))))))))) else px_bq (fR_M_runAndTell M8 x4 x6) (fun M12 => px_bn (px_up M12 0 60 (1 : Int32)) (fun M13 => px_bq (fR_M_timerAt M13 p1) (fun r15 => (if r15 < 0 then some M13 else px_ck r15 12 (px_ck r15 12 (px_bn (px_up M13 28 r15.toNatClampNeg ((M13 28 r15.toNatClampNeg) + (1 : Int32))) (fun M19 => px_ck r15 12 (px_bn (px_up M19 31 r15.toNatClampNeg (0 : Int32)) (fun M21 => px_bq (fR_M_dueOf M21 r15) (fun r23 => px_ck r15 12 (px_bn (px_up M21 29 r15.toNatClampNeg r23) (fun M25 => some M25)))))))))))))))))))))
set_option maxHeartbeats 4000000 in
set_option maxRecDepth 100000 in
theorem cR_M_doTimer (l : Launch) (D : va_G) (cs : Nat → ClassId) (ad : Nat → Nat) {M : px_M} {p1 : Int32} {M' : px_M} (hf : fR_M_doTimer M p1 = some M') : px_mV l D (tyR cs) (wR cs ad) yX6_doTimer cX6_doTimer 5 7 [.ref (ad 0), .int p1] M M' := by
  refine px_ofV (by decide +kernel) (Nat.le_of_ble_eq_true rfl) ?_
  intro p e s m below meth c A ls X hr hlk hml w hl
  have hl : lv_has ls 5 [(0, .ref (ad 0)), (1, .int p1)] := hl
  unfold fR_M_doTimer at hf
  refine lv_aload_n X.1 X.2.1 dX6_doTimer_0 rfl (lv_at hl 0 rfl) ?_
  refine lv_iload_n X.1 X.2.1 dX6_doTimer_1 rfl (lv_at hl 1 rfl) ?_
  obtain ⟨r2, e1, hf⟩ := px_bq_e hf
  refine px_cI (As := [.int p1]) (rest := []) X hml hl w (cR_M_timerAt l D cs ad e1) lk_6_256 (by decide) (rcR_0 X.2.2.2.2 w) rfl (Nat.le_of_ble_eq_true rfl) dX6_doTimer_2 (fun H locs w => ?_)
  refine lv_istore_n (lv' := [(2, .int r2), (0, .ref (ad 0)), (1, .int p1)]) X.1 X.2.1 dX6_doTimer_5 rfl hl (by decide) rfl (fun ls hl => ?_)
  refine lv_aload_n X.1 X.2.1 dX6_doTimer_6 rfl (lv_at hl 1 rfl) ?_
  refine gtR_0_35 X w dX6_doTimer_7 ?_
  refine lv_iload_n X.1 X.2.1 dX6_doTimer_10 rfl (lv_at hl 0 rfl) ?_
  obtain ⟨b3, hf⟩ := px_ck_e hf
  refine ilR_25 X w b3 dX6_doTimer_11 ?_
  obtain ⟨x4, ex4, hf⟩ := px_bn_e hf
  rw [← ex4]
  refine lv_istore_n (lv' := [(3, .int x4), (2, .int r2), (0, .ref (ad 0)), (1, .int p1)]) X.1 X.2.1 dX6_doTimer_12 rfl hl (by decide) rfl (fun ls hl => ?_)
  refine lv_aload_n X.1 X.2.1 dX6_doTimer_13 rfl (lv_at hl 2 rfl) ?_
  refine gtR_0_36 X w dX6_doTimer_14 ?_
  refine lv_iload_n X.1 X.2.1 dX6_doTimer_17 rfl (lv_at hl 1 rfl) ?_
  obtain ⟨b5, hf⟩ := px_ck_e hf
  refine ilR_26 X w b5 dX6_doTimer_18 ?_
  obtain ⟨x6, ex6, hf⟩ := px_bn_e hf
  rw [← ex6]
  refine lv_istore (lv' := [(4, .int x6), (3, .int x4), (2, .int r2), (0, .ref (ad 0)), (1, .int p1)]) X.1 X.2.1 dX6_doTimer_19 hl (by decide) rfl (fun ls hl => ?_)
  refine lv_aload_n X.1 X.2.1 dX6_doTimer_21 rfl (lv_at hl 3 rfl) ?_
  refine lv_aload_n X.1 X.2.1 dX6_doTimer_22 rfl (lv_at hl 3 rfl) ?_
  refine gtR_0_38 X w dX6_doTimer_23 ?_
  refine lv_iload_n X.1 X.2.1 dX6_doTimer_26 rfl (lv_at hl 2 rfl) ?_
  obtain ⟨b7, hf⟩ := px_ck_e hf
  refine ilR_28 X w b7 dX6_doTimer_27 ?_
  refine lv_iconst (v := (1 : Int32)) X.1 X.2.1 dX6_doTimer_28 (by decide) ?_
  refine lv_iadd X.1 X.2.1 dX6_doTimer_29 ?_
  refine ptR_0_60 X w dX6_doTimer_30 (fun H locs w => ?_)
  obtain ⟨M8, eM8, hf⟩ := px_bn_e hf
  rw [← eM8] at w
  refine lv_aload_n X.1 X.2.1 dX6_doTimer_33 rfl (lv_at hl 3 rfl) ?_
  refine gtR_0_40 X w dX6_doTimer_34 ?_
  refine lv_iload_n X.1 X.2.1 dX6_doTimer_37 rfl (lv_at hl 2 rfl) ?_
  obtain ⟨b9, hf⟩ := px_ck_e hf
  refine ilR_30 X w b9 dX6_doTimer_38 ?_
  refine lv_if_ne (tgt := 47) X.1 X.2.1 dX6_doTimer_39 (by decide) (fun c10 => ?_) (fun c10 => ?_)
  · have hf := px_in c10 hf
    refine lv_aload_n X.1 X.2.1 dX6_doTimer_47 rfl (lv_at hl 3 rfl) ?_
    refine lv_iload_n X.1 X.2.1 dX6_doTimer_48 rfl (lv_at hl 1 rfl) ?_
    refine lv_iload X.1 X.2.1 dX6_doTimer_49 (lv_at hl 0 rfl) ?_
    obtain ⟨M12, e11, hf⟩ := px_bq_e hf
    refine px_cV (As := [.int x4, .int x6]) (rest := []) X hml hl w (cR_M_runAndTell l D cs ad e11) lk_6_297 (by decide) (rcR_0 X.2.2.2.2 w) rfl (Nat.le_of_ble_eq_true rfl) dX6_doTimer_51 (fun H locs w => ?_)
    refine lv_aload_n X.1 X.2.1 dX6_doTimer_54 rfl (lv_at hl 3 rfl) ?_
    refine lv_iconst (v := (1 : Int32)) X.1 X.2.1 dX6_doTimer_55 (by decide) ?_
    refine ptR_0_60 X w dX6_doTimer_56 (fun H locs w => ?_)
    obtain ⟨M13, eM13, hf⟩ := px_bn_e hf
    rw [← eM13] at w
    refine lv_aload_n X.1 X.2.1 dX6_doTimer_59 rfl (lv_at hl 3 rfl) ?_
    refine lv_iload_n X.1 X.2.1 dX6_doTimer_60 rfl (lv_at hl 4 rfl) ?_
    obtain ⟨r15, e14, hf⟩ := px_bq_e hf
    refine px_cI (As := [.int p1]) (rest := []) X hml hl w (cR_M_timerAt l D cs ad e14) lk_6_256 (by decide) (rcR_0 X.2.2.2.2 w) rfl (Nat.le_of_ble_eq_true rfl) dX6_doTimer_61 (fun H locs w => ?_)
    refine lv_istore_n (lv' := [(2, .int r15), (4, .int x6), (3, .int x4), (0, .ref (ad 0)), (1, .int p1)]) X.1 X.2.1 dX6_doTimer_64 rfl hl (by decide) rfl (fun ls hl => ?_)
    refine lv_iload_n X.1 X.2.1 dX6_doTimer_65 rfl (lv_at hl 0 rfl) ?_
    refine lv_if_lt (tgt := 97) X.1 X.2.1 dX6_doTimer_66 (by decide) (fun c16 => ?_) (fun c16 => ?_)
    · have hf := px_ip c16 hf
      cases hf
      exact px_retV X hr hlk w dX6_doTimer_97
    · have hf := px_in c16 hf
      refine lv_aload_n X.1 X.2.1 dX6_doTimer_69 rfl (lv_at hl 3 rfl) ?_
      refine gtR_0_38 X w dX6_doTimer_70 ?_
      refine lv_iload_n X.1 X.2.1 dX6_doTimer_73 rfl (lv_at hl 0 rfl) ?_
      refine lv_dup2_11 X.1 X.2.1 dX6_doTimer_74 rfl rfl ?_
      obtain ⟨b17, hf⟩ := px_ck_e hf
      refine ilR_28 X w b17 dX6_doTimer_75 ?_
      refine lv_iconst (v := (1 : Int32)) X.1 X.2.1 dX6_doTimer_76 (by decide) ?_
      refine lv_iadd X.1 X.2.1 dX6_doTimer_77 ?_
      obtain ⟨b18, hf⟩ := px_ck_e hf
      refine isR_28 X w b18 dX6_doTimer_78 (fun H locs w => ?_)
      obtain ⟨M19, eM19, hf⟩ := px_bn_e hf
      rw [← eM19] at w
      refine lv_aload_n X.1 X.2.1 dX6_doTimer_79 rfl (lv_at hl 3 rfl) ?_
      refine gtR_0_41 X w dX6_doTimer_80 ?_
      refine lv_iload_n X.1 X.2.1 dX6_doTimer_83 rfl (lv_at hl 0 rfl) ?_
      refine lv_iconst (v := (0 : Int32)) X.1 X.2.1 dX6_doTimer_84 (by decide) ?_
      obtain ⟨b20, hf⟩ := px_ck_e hf
      refine isR_31 X w b20 rfl dX6_doTimer_85 (fun H locs w => ?_)
      obtain ⟨M21, eM21, hf⟩ := px_bn_e hf
      rw [← eM21] at w
      refine lv_aload_n X.1 X.2.1 dX6_doTimer_86 rfl (lv_at hl 3 rfl) ?_
      refine gtR_0_39 X w dX6_doTimer_87 ?_
      refine lv_iload_n X.1 X.2.1 dX6_doTimer_90 rfl (lv_at hl 0 rfl) ?_
      refine lv_aload_n X.1 X.2.1 dX6_doTimer_91 rfl (lv_at hl 3 rfl) ?_
      refine lv_iload_n X.1 X.2.1 dX6_doTimer_92 rfl (lv_at hl 0 rfl) ?_
      obtain ⟨r23, e22, hf⟩ := px_bq_e hf
      refine px_cI (As := [.int r15]) (rest := [.int r15, .ref (ad 29)]) X hml hl w (cR_M_dueOf l D cs ad e22) lk_6_199 (by decide) (rcR_0 X.2.2.2.2 w) rfl (Nat.le_of_ble_eq_true rfl) dX6_doTimer_93 (fun H locs w => ?_)
      obtain ⟨b24, hf⟩ := px_ck_e hf
      refine isR_29 X w b24 dX6_doTimer_96 (fun H locs w => ?_)
      obtain ⟨M25, eM25, hf⟩ := px_bn_e hf
      rw [← eM25] at w
      cases hf
      exact px_retV X hr hlk w dX6_doTimer_97
  · have hf := px_ip c10 hf
    refine lv_aload_n X.1 X.2.1 dX6_doTimer_42 rfl (lv_at hl 3 rfl) ?_
    refine lv_iload_n X.1 X.2.1 dX6_doTimer_43 rfl (lv_at hl 2 rfl) ?_
    obtain ⟨M27, e26, hf⟩ := px_bq_e hf
    refine px_cV (As := [.int r2]) (rest := []) X hml hl w (cR_M_dropTimer l D cs ad e26) lk_6_259 (by decide) (rcR_0 X.2.2.2.2 w) rfl (Nat.le_of_ble_eq_true rfl) dX6_doTimer_44 (fun H locs w => ?_)
    refine lv_aload_n X.1 X.2.1 dX6_doTimer_47 rfl (lv_at hl 3 rfl) ?_
    refine lv_iload_n X.1 X.2.1 dX6_doTimer_48 rfl (lv_at hl 1 rfl) ?_
    refine lv_iload X.1 X.2.1 dX6_doTimer_49 (lv_at hl 0 rfl) ?_
    obtain ⟨M29, e28, hf⟩ := px_bq_e hf
    refine px_cV (As := [.int x4, .int x6]) (rest := []) X hml hl w (cR_M_runAndTell l D cs ad e28) lk_6_297 (by decide) (rcR_0 X.2.2.2.2 w) rfl (Nat.le_of_ble_eq_true rfl) dX6_doTimer_51 (fun H locs w => ?_)
    refine lv_aload_n X.1 X.2.1 dX6_doTimer_54 rfl (lv_at hl 3 rfl) ?_
    refine lv_iconst (v := (1 : Int32)) X.1 X.2.1 dX6_doTimer_55 (by decide) ?_
    refine ptR_0_60 X w dX6_doTimer_56 (fun H locs w => ?_)
    obtain ⟨M30, eM30, hf⟩ := px_bn_e hf
    rw [← eM30] at w
    refine lv_aload_n X.1 X.2.1 dX6_doTimer_59 rfl (lv_at hl 3 rfl) ?_
    refine lv_iload_n X.1 X.2.1 dX6_doTimer_60 rfl (lv_at hl 4 rfl) ?_
    obtain ⟨r32, e31, hf⟩ := px_bq_e hf
    refine px_cI (As := [.int p1]) (rest := []) X hml hl w (cR_M_timerAt l D cs ad e31) lk_6_256 (by decide) (rcR_0 X.2.2.2.2 w) rfl (Nat.le_of_ble_eq_true rfl) dX6_doTimer_61 (fun H locs w => ?_)
    refine lv_istore_n (lv' := [(2, .int r32), (4, .int x6), (3, .int x4), (0, .ref (ad 0)), (1, .int p1)]) X.1 X.2.1 dX6_doTimer_64 rfl hl (by decide) rfl (fun ls hl => ?_)
    refine lv_iload_n X.1 X.2.1 dX6_doTimer_65 rfl (lv_at hl 0 rfl) ?_
    refine lv_if_lt (tgt := 97) X.1 X.2.1 dX6_doTimer_66 (by decide) (fun c33 => ?_) (fun c33 => ?_)
    · have hf := px_ip c33 hf
      cases hf
      exact px_retV X hr hlk w dX6_doTimer_97
    · have hf := px_in c33 hf
      refine lv_aload_n X.1 X.2.1 dX6_doTimer_69 rfl (lv_at hl 3 rfl) ?_
      refine gtR_0_38 X w dX6_doTimer_70 ?_
      refine lv_iload_n X.1 X.2.1 dX6_doTimer_73 rfl (lv_at hl 0 rfl) ?_
      refine lv_dup2_11 X.1 X.2.1 dX6_doTimer_74 rfl rfl ?_
      obtain ⟨b34, hf⟩ := px_ck_e hf
      refine ilR_28 X w b34 dX6_doTimer_75 ?_
      refine lv_iconst (v := (1 : Int32)) X.1 X.2.1 dX6_doTimer_76 (by decide) ?_
      refine lv_iadd X.1 X.2.1 dX6_doTimer_77 ?_
      obtain ⟨b35, hf⟩ := px_ck_e hf
      refine isR_28 X w b35 dX6_doTimer_78 (fun H locs w => ?_)
      obtain ⟨M36, eM36, hf⟩ := px_bn_e hf
      rw [← eM36] at w
      refine lv_aload_n X.1 X.2.1 dX6_doTimer_79 rfl (lv_at hl 3 rfl) ?_
      refine gtR_0_41 X w dX6_doTimer_80 ?_
      refine lv_iload_n X.1 X.2.1 dX6_doTimer_83 rfl (lv_at hl 0 rfl) ?_
      refine lv_iconst (v := (0 : Int32)) X.1 X.2.1 dX6_doTimer_84 (by decide) ?_
      obtain ⟨b37, hf⟩ := px_ck_e hf
      refine isR_31 X w b37 rfl dX6_doTimer_85 (fun H locs w => ?_)
      obtain ⟨M38, eM38, hf⟩ := px_bn_e hf
      rw [← eM38] at w
      refine lv_aload_n X.1 X.2.1 dX6_doTimer_86 rfl (lv_at hl 3 rfl) ?_
      refine gtR_0_39 X w dX6_doTimer_87 ?_
      refine lv_iload_n X.1 X.2.1 dX6_doTimer_90 rfl (lv_at hl 0 rfl) ?_
      refine lv_aload_n X.1 X.2.1 dX6_doTimer_91 rfl (lv_at hl 3 rfl) ?_
      refine lv_iload_n X.1 X.2.1 dX6_doTimer_92 rfl (lv_at hl 0 rfl) ?_
      obtain ⟨r40, e39, hf⟩ := px_bq_e hf
      refine px_cI (As := [.int r32]) (rest := [.int r32, .ref (ad 29)]) X hml hl w (cR_M_dueOf l D cs ad e39) lk_6_199 (by decide) (rcR_0 X.2.2.2.2 w) rfl (Nat.le_of_ble_eq_true rfl) dX6_doTimer_93 (fun H locs w => ?_)
      obtain ⟨b41, hf⟩ := px_ck_e hf
      refine isR_29 X w b41 dX6_doTimer_96 (fun H locs w => ?_)
      obtain ⟨M42, eM42, hf⟩ := px_bn_e hf
      rw [← eM42] at w
      cases hf
      exact px_retV X hr hlk w dX6_doTimer_97
theorem lk_6_300 : px_Lk RX6 300 yX6_doReaction cX6_doReaction 5 none 1 := ⟨px_tb (by decide +kernel) (by decide +kernel), px_tb (by decide +kernel) (by decide +kernel), px_tb (by decide +kernel) (by decide +kernel), px_tb (by decide +kernel) (by decide +kernel), px_tb (by decide +kernel) (by decide +kernel), by decide +kernel, by decide⟩
def gR_M_checkpoint_L130 (rc130 : px_M → Int32 → Option (Int32 × px_M)) (M : px_M) (y1 : Int32) : Option (Int32 × px_M) := (if (M 0 12) ≤ y1 then px_bn (px_up M 0 12 (0 : Int32)) (fun M3 => some ((1 : Int32), M3)) else px_ck y1 40 (px_ck (M 11 y1.toNatClampNeg) 40 ((if (M 9 (M 11 y1.toNatClampNeg).toNatClampNeg) = 0 then px_ck y1 40 (px_ck (M 11 y1.toNatClampNeg) 40 (px_bn (px_up M 10 (M 11 y1.toNatClampNeg).toNatClampNeg (1 : Int32)) (fun M9 => px_ck y1 40 (px_bq (fR_M_tell M9 (2 : Int32) (M9 11 y1.toNatClampNeg)) (fun M12 => rc130 M12 (y1 + (1 : Int32))))))) else rc130 M (y1 + (1 : Int32))))))
set_option maxHeartbeats 4000000 in
set_option maxRecDepth 100000 in
theorem lR_M_checkpoint_L130 {l : Launch} {D : va_G} {cs : Nat → ClassId} {ad : Nat → Nat} {p : Program} {e : Env} {s : State} {m : MethodId} {args : Array Value} {below : List Frame} {meth : Method} {c : Code} {A : Nat → Prop} (X : px_X D (tyR cs) p s m args c cX6_checkpoint yX6_checkpoint.cls) (hr : meth.sig.returnType = (some .boolean)) (hlk : meth.locks = false) (hml : c.maxLocals = 4) : ∀ (j : Nat) (M : px_M) (y1 : Int32) (z : Int32 × px_M), px_fx1 gR_M_checkpoint_L130 j M y1 = some z → ∀ (H : Heap) (locs : List Loc) (ls : Array Slot), px_H D (wR cs ad) A s.heap M H locs → lv_has ls 4 [(0, .ref (ad 0)), (1, .int y1)] → W p l e (px_rm 7) s m args below meth c H locs 0 0 (px_QI D (tyR cs) (wR cs ad) below args s A z.1 z.2) (F0 m 130 ls []) := by
  refine px_fx1_i (P := fun M y1 (z : Int32 × px_M) => ∀ (H : Heap) (locs : List Loc) (ls : Array Slot), px_H D (wR cs ad) A s.heap M H locs → lv_has ls 4 [(0, .ref (ad 0)), (1, .int y1)] → W p l e (px_rm 7) s m args below meth c H locs 0 0 (px_QI D (tyR cs) (wR cs ad) below args s A z.1 z.2) (F0 m 130 ls [])) ?_
  intro rc130 ih130 M y1 z hf H locs ls w hl
  unfold gR_M_checkpoint_L130 at hf
  refine lv_iload_n X.1 X.2.1 dX6_checkpoint_130 rfl (lv_at hl 1 rfl) ?_
  refine lv_aload_n X.1 X.2.1 dX6_checkpoint_131 rfl (lv_at hl 0 rfl) ?_
  refine gtR_0_12 X w dX6_checkpoint_132 ?_
  refine lv_icmp_ge (tgt := 181) X.1 X.2.1 dX6_checkpoint_135 (by decide) (fun c2 => ?_) (fun c2 => ?_)
  · have hf := px_ip c2 hf
    refine lv_aload_n X.1 X.2.1 dX6_checkpoint_181 rfl (lv_at hl 0 rfl) ?_
    refine lv_iconst (v := (0 : Int32)) X.1 X.2.1 dX6_checkpoint_182 (by decide) ?_
    refine ptR_0_12 X w dX6_checkpoint_183 (fun H locs w => ?_)
    obtain ⟨M3, eM3, hf⟩ := px_bn_e hf
    rw [← eM3] at w
    refine lv_iconst (v := (1 : Int32)) X.1 X.2.1 dX6_checkpoint_186 (by decide) ?_
    cases hf
    exact px_retZ X hr hlk narrow_b1 w dX6_checkpoint_187
  · have hf := px_in c2 hf
    refine lv_aload_n X.1 X.2.1 dX6_checkpoint_138 rfl (lv_at hl 0 rfl) ?_
    refine gtR_0_10 X w dX6_checkpoint_139 ?_
    refine lv_aload_n X.1 X.2.1 dX6_checkpoint_142 rfl (lv_at hl 0 rfl) ?_
    refine gtR_0_13 X w dX6_checkpoint_143 ?_
    refine lv_iload_n X.1 X.2.1 dX6_checkpoint_146 rfl (lv_at hl 1 rfl) ?_
    obtain ⟨b4, hf⟩ := px_ck_e hf
    refine ilR_11 X w b4 dX6_checkpoint_147 ?_
    obtain ⟨b5, hf⟩ := px_ck_e hf
    refine ilR_9 X w b5 dX6_checkpoint_148 ?_
    refine lv_if_ne (tgt := 175) X.1 X.2.1 dX6_checkpoint_149 (by decide) (fun c6 => ?_) (fun c6 => ?_)
    · have hf := px_in c6 hf
      refine lv_iinc (v := (y1 + (1 : Int32))) (lv' := [(1, .int (y1 + (1 : Int32))), (0, .ref (ad 0))]) X.1 X.2.1 dX6_checkpoint_175 hl (k := 1) rfl rfl (by decide) rfl (fun ls hl => ?_)
      refine lv_goto (tgt := 130) X.1 X.2.1 dX6_checkpoint_178 (by decide) ?_
      exact ih130 M (y1 + (1 : Int32)) _ hf _ _ ls w (lv_sub hl [1, 0] rfl)
    · have hf := px_ip c6 hf
      refine lv_aload_n X.1 X.2.1 dX6_checkpoint_152 rfl (lv_at hl 0 rfl) ?_
      refine gtR_0_11 X w dX6_checkpoint_153 ?_
      refine lv_aload_n X.1 X.2.1 dX6_checkpoint_156 rfl (lv_at hl 0 rfl) ?_
      refine gtR_0_13 X w dX6_checkpoint_157 ?_
      refine lv_iload_n X.1 X.2.1 dX6_checkpoint_160 rfl (lv_at hl 1 rfl) ?_
      obtain ⟨b7, hf⟩ := px_ck_e hf
      refine ilR_11 X w b7 dX6_checkpoint_161 ?_
      refine lv_iconst (v := (1 : Int32)) X.1 X.2.1 dX6_checkpoint_162 (by decide) ?_
      obtain ⟨b8, hf⟩ := px_ck_e hf
      refine isR_10 X w b8 rfl dX6_checkpoint_163 (fun H locs w => ?_)
      obtain ⟨M9, eM9, hf⟩ := px_bn_e hf
      rw [← eM9] at w
      refine lv_aload_n X.1 X.2.1 dX6_checkpoint_164 rfl (lv_at hl 0 rfl) ?_
      refine lv_iconst (v := (2 : Int32)) X.1 X.2.1 dX6_checkpoint_165 (by decide) ?_
      refine lv_aload_n X.1 X.2.1 dX6_checkpoint_166 rfl (lv_at hl 0 rfl) ?_
      refine gtR_0_13 X w dX6_checkpoint_167 ?_
      refine lv_iload_n X.1 X.2.1 dX6_checkpoint_170 rfl (lv_at hl 1 rfl) ?_
      obtain ⟨b10, hf⟩ := px_ck_e hf
      refine ilR_11 X w b10 dX6_checkpoint_171 ?_
      obtain ⟨M12, e11, hf⟩ := px_bq_e hf
      refine px_cV (As := [.int (2 : Int32), .int (M9 11 y1.toNatClampNeg)]) (rest := []) X hml hl w (cR_M_tell l D cs ad e11) lk_6_183 (by decide) (rcR_0 X.2.2.2.2 w) rfl (Nat.le_of_ble_eq_true rfl) dX6_checkpoint_172 (fun H locs w => ?_)
      refine lv_iinc (v := (y1 + (1 : Int32))) (lv' := [(1, .int (y1 + (1 : Int32))), (0, .ref (ad 0))]) X.1 X.2.1 dX6_checkpoint_175 hl (k := 1) rfl rfl (by decide) rfl (fun ls hl => ?_)
      refine lv_goto (tgt := 130) X.1 X.2.1 dX6_checkpoint_178 (by decide) ?_
      exact ih130 M12 (y1 + (1 : Int32)) _ hf _ _ ls w (lv_sub hl [1, 0] rfl)
def gR_M_checkpoint_L0 (rc0 : px_M → Option (Int32 × px_M)) (M : px_M) : Option (Int32 × px_M) := (if (M 0 21) ≤ 0 then px_fx1 gR_M_checkpoint_L130 1001 M (0 : Int32) else px_ck (M 0 20) 512 (px_bn ((M 17 (M 0 20).toNatClampNeg)) (fun x14 => px_ck (M 0 20) 512 (px_bn ((M 18 (M 0 20).toNatClampNeg)) (fun x16 => px_ck (M 0 20) 512 (px_bn ((M 19 (M 0 20).toNatClampNeg)) (fun x18 => (if (M 0 62) = (50 : Int32) then (if x14 = 0 then some ((0 : Int32), M) else (if x14 = (1 : Int32) then px_bq (fR_M_functionOf M x16) (fun r43 => (if r43 < 0 then px_bn (px_up M 0 20 (((M 0 20) + (1 : Int32)) - ((M 0 20) + (1 : Int32)) / (512 : Int32) * (512 : Int32))) (fun M45 => px_bn (px_up M45 0 21 ((M45 0 21) - (1 : Int32))) (fun M46 => (if x14 = 0 then px_bq (fR_M_runAndTell M46 x16 x18) (fun M54 => rc0 M54) else (if x14 = (1 : Int32) then px_bq (fR_M_doReaction M46 x16) (fun M52 => rc0 M52) else px_bq (fR_M_react M46 x18 (-2 : Int32) (-2 : Int32) x16) (fun M50 => rc0 M50))))) else some ((0 : Int32), M))) else px_bn (px_up M 0 20 (((M 0 20) + (1 : Int32)) - ((M 0 20) + (1 : Int32)) / (512 : Int32) * (512 : Int32))) (fun M32 => px_bn (px_up M32 0 21 ((M32 0 21) - (1 : Int32))) (fun M33 => (if x14 = 0 then px_bq (fR_M_runAndTell M33 x16 x18) (fun M41 => rc0 M41) else (if x14 = (1 : Int32) then px_bq (fR_M_doReaction M33 x16) (fun M39 => rc0 M39) else px_bq (fR_M_react M33 x18 (-2 : Int32) (-2 : Int32) x16) (fun M37 => rc0 M37))))))) else px_bn (px_up M 0 20 (((M 0 20) + (1 : Int32)) - ((M 0 20) + (1 : Int32)) / (512 : Int32) * (512 : Int32))) (fun M20 => px_bn (px_up M20 0 21 ((M20 0 21) - (1 : Int32))) (fun M21 => (if x14 = 0 then px_bq (fR_M_runAndTell M21 x16 x18) (fun M29 => rc0 M29) else (if x14 = (1 : Int32) then px_bq (fR_M_doReaction M21 x16) (fun M27 => rc0 M27) else px_bq (fR_M_react M21 x18 (-2 : Int32) (-2 : Int32) x16) (fun M25 => rc0 M25)))))))))))))
set_option maxHeartbeats 4000000 in
set_option maxRecDepth 100000 in
theorem lR_M_checkpoint_L0 {l : Launch} {D : va_G} {cs : Nat → ClassId} {ad : Nat → Nat} {p : Program} {e : Env} {s : State} {m : MethodId} {args : Array Value} {below : List Frame} {meth : Method} {c : Code} {A : Nat → Prop} (X : px_X D (tyR cs) p s m args c cX6_checkpoint yX6_checkpoint.cls) (hr : meth.sig.returnType = (some .boolean)) (hlk : meth.locks = false) (hml : c.maxLocals = 4) : ∀ (j : Nat) (M : px_M) (z : Int32 × px_M), px_fx0 gR_M_checkpoint_L0 j M = some z → ∀ (H : Heap) (locs : List Loc) (ls : Array Slot), px_H D (wR cs ad) A s.heap M H locs → lv_has ls 4 [(0, .ref (ad 0))] → W p l e (px_rm 7) s m args below meth c H locs 0 0 (px_QI D (tyR cs) (wR cs ad) below args s A z.1 z.2) (F0 m 0 ls []) := by
  refine px_fx0_i (P := fun M (z : Int32 × px_M) => ∀ (H : Heap) (locs : List Loc) (ls : Array Slot), px_H D (wR cs ad) A s.heap M H locs → lv_has ls 4 [(0, .ref (ad 0))] → W p l e (px_rm 7) s m args below meth c H locs 0 0 (px_QI D (tyR cs) (wR cs ad) below args s A z.1 z.2) (F0 m 0 ls [])) ?_
  intro rc0 ih0 M z hf H locs ls w hl
  unfold gR_M_checkpoint_L0 at hf
  refine lv_aload_n X.1 X.2.1 dX6_checkpoint_0 rfl (lv_at hl 0 rfl) ?_
  refine gtR_0_21 X w dX6_checkpoint_1 ?_
  refine lv_if_le (tgt := 128) X.1 X.2.1 dX6_checkpoint_4 (by decide) (fun c1 => ?_) (fun c1 => ?_)
  · have hf := px_ip c1 hf
    refine lv_iconst (v := (0 : Int32)) X.1 X.2.1 dX6_checkpoint_128 (by decide) ?_
    refine lv_istore_n (lv' := [(1, .int (0 : Int32)), (0, .ref (ad 0))]) X.1 X.2.1 dX6_checkpoint_129 rfl hl (by decide) rfl (fun ls hl => ?_)
    exact lR_M_checkpoint_L130 X hr hlk hml 1001 M (0 : Int32) _ hf _ _ ls w (lv_sub hl [1, 0] rfl)
  · have hf := px_in c1 hf
    refine lv_aload_n X.1 X.2.1 dX6_checkpoint_7 rfl (lv_at hl 0 rfl) ?_
    refine gtR_0_22 X w dX6_checkpoint_8 ?_
    refine lv_aload_n X.1 X.2.1 dX6_checkpoint_11 rfl (lv_at hl 0 rfl) ?_
    refine gtR_0_20 X w dX6_checkpoint_12 ?_
    obtain ⟨b13, hf⟩ := px_ck_e hf
    refine ilR_17 X w b13 dX6_checkpoint_15 ?_
    obtain ⟨x14, ex14, hf⟩ := px_bn_e hf
    rw [← ex14]
    refine lv_istore_n (lv' := [(1, .int x14), (0, .ref (ad 0))]) X.1 X.2.1 dX6_checkpoint_16 rfl hl (by decide) rfl (fun ls hl => ?_)
    refine lv_aload_n X.1 X.2.1 dX6_checkpoint_17 rfl (lv_at hl 1 rfl) ?_
    refine gtR_0_23 X w dX6_checkpoint_18 ?_
    refine lv_aload_n X.1 X.2.1 dX6_checkpoint_21 rfl (lv_at hl 1 rfl) ?_
    refine gtR_0_20 X w dX6_checkpoint_22 ?_
    obtain ⟨b15, hf⟩ := px_ck_e hf
    refine ilR_18 X w b15 dX6_checkpoint_25 ?_
    obtain ⟨x16, ex16, hf⟩ := px_bn_e hf
    rw [← ex16]
    refine lv_istore_n (lv' := [(2, .int x16), (1, .int x14), (0, .ref (ad 0))]) X.1 X.2.1 dX6_checkpoint_26 rfl hl (by decide) rfl (fun ls hl => ?_)
    refine lv_aload_n X.1 X.2.1 dX6_checkpoint_27 rfl (lv_at hl 2 rfl) ?_
    refine gtR_0_24 X w dX6_checkpoint_28 ?_
    refine lv_aload_n X.1 X.2.1 dX6_checkpoint_31 rfl (lv_at hl 2 rfl) ?_
    refine gtR_0_20 X w dX6_checkpoint_32 ?_
    obtain ⟨b17, hf⟩ := px_ck_e hf
    refine ilR_19 X w b17 dX6_checkpoint_35 ?_
    obtain ⟨x18, ex18, hf⟩ := px_bn_e hf
    rw [← ex18]
    refine lv_istore_n (lv' := [(3, .int x18), (2, .int x16), (1, .int x14), (0, .ref (ad 0))]) X.1 X.2.1 dX6_checkpoint_36 rfl hl (by decide) rfl (fun ls hl => ?_)
    refine lv_aload_n X.1 X.2.1 dX6_checkpoint_37 rfl (lv_at hl 3 rfl) ?_
    refine gtR_0_62 X w dX6_checkpoint_38 ?_
    refine lv_bipush (v := (50 : Int32)) X.1 X.2.1 dX6_checkpoint_41 (by decide) ?_
    refine lv_icmp_ne (tgt := 65) X.1 X.2.1 dX6_checkpoint_43 (by decide) (fun c19 => ?_) (fun c19 => ?_)
    · have hf := px_in c19 hf
      refine lv_aload_n X.1 X.2.1 dX6_checkpoint_65 rfl (lv_at hl 3 rfl) ?_
      refine lv_aload_n X.1 X.2.1 dX6_checkpoint_66 rfl (lv_at hl 3 rfl) ?_
      refine gtR_0_20 X w dX6_checkpoint_67 ?_
      refine lv_iconst (v := (1 : Int32)) X.1 X.2.1 dX6_checkpoint_70 (by decide) ?_
      refine lv_iadd X.1 X.2.1 dX6_checkpoint_71 ?_
      refine lv_sipush (v := (512 : Int32)) X.1 X.2.1 dX6_checkpoint_72 (by decide) ?_
      refine lv_irem X.1 X.2.1 dX6_checkpoint_75 (by decide) ?_
      refine ptR_0_20 X w dX6_checkpoint_76 (fun H locs w => ?_)
      obtain ⟨M20, eM20, hf⟩ := px_bn_e hf
      rw [← eM20] at w
      refine lv_aload_n X.1 X.2.1 dX6_checkpoint_79 rfl (lv_at hl 3 rfl) ?_
      refine lv_dup X.1 X.2.1 dX6_checkpoint_80 rfl ?_
      refine gtR_0_21 X w dX6_checkpoint_81 ?_
      refine lv_iconst (v := (1 : Int32)) X.1 X.2.1 dX6_checkpoint_84 (by decide) ?_
      refine lv_isub X.1 X.2.1 dX6_checkpoint_85 ?_
      refine ptR_0_21 X w dX6_checkpoint_86 (fun H locs w => ?_)
      obtain ⟨M21, eM21, hf⟩ := px_bn_e hf
      rw [← eM21] at w
      refine lv_iload_n X.1 X.2.1 dX6_checkpoint_89 rfl (lv_at hl 2 rfl) ?_
      refine lv_if_ne (tgt := 102) X.1 X.2.1 dX6_checkpoint_90 (by decide) (fun c22 => ?_) (fun c22 => ?_)
      · have hf := px_in c22 hf
        refine lv_iload_n X.1 X.2.1 dX6_checkpoint_102 rfl (lv_at hl 2 rfl) ?_
        refine lv_iconst (v := (1 : Int32)) X.1 X.2.1 dX6_checkpoint_103 (by decide) ?_
        refine lv_icmp_ne (tgt := 115) X.1 X.2.1 dX6_checkpoint_104 (by decide) (fun c23 => ?_) (fun c23 => ?_)
        · have hf := px_in c23 hf
          refine lv_aload_n X.1 X.2.1 dX6_checkpoint_115 rfl (lv_at hl 3 rfl) ?_
          refine lv_iload_n X.1 X.2.1 dX6_checkpoint_116 rfl (lv_at hl 0 rfl) ?_
          refine lv_bipush (v := (-2 : Int32)) X.1 X.2.1 dX6_checkpoint_117 (by decide) ?_
          refine lv_bipush (v := (-2 : Int32)) X.1 X.2.1 dX6_checkpoint_119 (by decide) ?_
          refine lv_iload_n X.1 X.2.1 dX6_checkpoint_121 rfl (lv_at hl 1 rfl) ?_
          obtain ⟨M25, e24, hf⟩ := px_bq_e hf
          refine px_cV (As := [.int x18, .int (-2 : Int32), .int (-2 : Int32), .int x16]) (rest := []) X hml hl w (cR_M_react l D cs ad e24) lk_6_230 (by decide) (rcR_0 X.2.2.2.2 w) rfl (Nat.le_of_ble_eq_true rfl) dX6_checkpoint_122 (fun H locs w => ?_)
          refine lv_goto (tgt := 0) X.1 X.2.1 dX6_checkpoint_125 (by decide) ?_
          exact ih0 M25 _ hf _ _ ls w (lv_sub hl [3] rfl)
        · have hf := px_ip c23 hf
          refine lv_aload_n X.1 X.2.1 dX6_checkpoint_107 rfl (lv_at hl 3 rfl) ?_
          refine lv_iload_n X.1 X.2.1 dX6_checkpoint_108 rfl (lv_at hl 1 rfl) ?_
          obtain ⟨M27, e26, hf⟩ := px_bq_e hf
          refine px_cV (As := [.int x16]) (rest := []) X hml hl w (cR_M_doReaction l D cs ad e26) lk_6_300 (by decide) (rcR_0 X.2.2.2.2 w) rfl (Nat.le_of_ble_eq_true rfl) dX6_checkpoint_109 (fun H locs w => ?_)
          refine lv_goto (tgt := 125) X.1 X.2.1 dX6_checkpoint_112 (by decide) ?_
          refine lv_goto (tgt := 0) X.1 X.2.1 dX6_checkpoint_125 (by decide) ?_
          exact ih0 M27 _ hf _ _ ls w (lv_sub hl [3] rfl)
      · have hf := px_ip c22 hf
        refine lv_aload_n X.1 X.2.1 dX6_checkpoint_93 rfl (lv_at hl 3 rfl) ?_
        refine lv_iload_n X.1 X.2.1 dX6_checkpoint_94 rfl (lv_at hl 1 rfl) ?_
        refine lv_iload_n X.1 X.2.1 dX6_checkpoint_95 rfl (lv_at hl 0 rfl) ?_
        obtain ⟨M29, e28, hf⟩ := px_bq_e hf
        refine px_cV (As := [.int x16, .int x18]) (rest := []) X hml hl w (cR_M_runAndTell l D cs ad e28) lk_6_297 (by decide) (rcR_0 X.2.2.2.2 w) rfl (Nat.le_of_ble_eq_true rfl) dX6_checkpoint_96 (fun H locs w => ?_)
        refine lv_goto (tgt := 125) X.1 X.2.1 dX6_checkpoint_99 (by decide) ?_
        refine lv_goto (tgt := 0) X.1 X.2.1 dX6_checkpoint_125 (by decide) ?_
        exact ih0 M29 _ hf _ _ ls w (lv_sub hl [3] rfl)
    · have hf := px_ip c19 hf
      refine lv_iload_n X.1 X.2.1 dX6_checkpoint_46 rfl (lv_at hl 2 rfl) ?_
      refine lv_if_eq (tgt := 63) X.1 X.2.1 dX6_checkpoint_47 (by decide) (fun c30 => ?_) (fun c30 => ?_)
      · have hf := px_ip c30 hf
        refine lv_iconst (v := (0 : Int32)) X.1 X.2.1 dX6_checkpoint_63 (by decide) ?_
        cases hf
        exact px_retZ X hr hlk narrow_b0 w dX6_checkpoint_64
      · have hf := px_in c30 hf
        refine lv_iload_n X.1 X.2.1 dX6_checkpoint_50 rfl (lv_at hl 2 rfl) ?_
        refine lv_iconst (v := (1 : Int32)) X.1 X.2.1 dX6_checkpoint_51 (by decide) ?_
        refine lv_icmp_ne (tgt := 65) X.1 X.2.1 dX6_checkpoint_52 (by decide) (fun c31 => ?_) (fun c31 => ?_)
        · have hf := px_in c31 hf
          refine lv_aload_n X.1 X.2.1 dX6_checkpoint_65 rfl (lv_at hl 3 rfl) ?_
          refine lv_aload_n X.1 X.2.1 dX6_checkpoint_66 rfl (lv_at hl 3 rfl) ?_
          refine gtR_0_20 X w dX6_checkpoint_67 ?_
          refine lv_iconst (v := (1 : Int32)) X.1 X.2.1 dX6_checkpoint_70 (by decide) ?_
          refine lv_iadd X.1 X.2.1 dX6_checkpoint_71 ?_
          refine lv_sipush (v := (512 : Int32)) X.1 X.2.1 dX6_checkpoint_72 (by decide) ?_
          refine lv_irem X.1 X.2.1 dX6_checkpoint_75 (by decide) ?_
          refine ptR_0_20 X w dX6_checkpoint_76 (fun H locs w => ?_)
          obtain ⟨M32, eM32, hf⟩ := px_bn_e hf
          rw [← eM32] at w
          refine lv_aload_n X.1 X.2.1 dX6_checkpoint_79 rfl (lv_at hl 3 rfl) ?_
          refine lv_dup X.1 X.2.1 dX6_checkpoint_80 rfl ?_
          refine gtR_0_21 X w dX6_checkpoint_81 ?_
          refine lv_iconst (v := (1 : Int32)) X.1 X.2.1 dX6_checkpoint_84 (by decide) ?_
          refine lv_isub X.1 X.2.1 dX6_checkpoint_85 ?_
          refine ptR_0_21 X w dX6_checkpoint_86 (fun H locs w => ?_)
          obtain ⟨M33, eM33, hf⟩ := px_bn_e hf
          rw [← eM33] at w
          refine lv_iload_n X.1 X.2.1 dX6_checkpoint_89 rfl (lv_at hl 2 rfl) ?_
          refine lv_if_ne (tgt := 102) X.1 X.2.1 dX6_checkpoint_90 (by decide) (fun c34 => ?_) (fun c34 => ?_)
          · have hf := px_in c34 hf
            refine lv_iload_n X.1 X.2.1 dX6_checkpoint_102 rfl (lv_at hl 2 rfl) ?_
            refine lv_iconst (v := (1 : Int32)) X.1 X.2.1 dX6_checkpoint_103 (by decide) ?_
            refine lv_icmp_ne (tgt := 115) X.1 X.2.1 dX6_checkpoint_104 (by decide) (fun c35 => ?_) (fun c35 => ?_)
            · have hf := px_in c35 hf
              refine lv_aload_n X.1 X.2.1 dX6_checkpoint_115 rfl (lv_at hl 3 rfl) ?_
              refine lv_iload_n X.1 X.2.1 dX6_checkpoint_116 rfl (lv_at hl 0 rfl) ?_
              refine lv_bipush (v := (-2 : Int32)) X.1 X.2.1 dX6_checkpoint_117 (by decide) ?_
              refine lv_bipush (v := (-2 : Int32)) X.1 X.2.1 dX6_checkpoint_119 (by decide) ?_
              refine lv_iload_n X.1 X.2.1 dX6_checkpoint_121 rfl (lv_at hl 1 rfl) ?_
              obtain ⟨M37, e36, hf⟩ := px_bq_e hf
              refine px_cV (As := [.int x18, .int (-2 : Int32), .int (-2 : Int32), .int x16]) (rest := []) X hml hl w (cR_M_react l D cs ad e36) lk_6_230 (by decide) (rcR_0 X.2.2.2.2 w) rfl (Nat.le_of_ble_eq_true rfl) dX6_checkpoint_122 (fun H locs w => ?_)
              refine lv_goto (tgt := 0) X.1 X.2.1 dX6_checkpoint_125 (by decide) ?_
              exact ih0 M37 _ hf _ _ ls w (lv_sub hl [3] rfl)
            · have hf := px_ip c35 hf
              refine lv_aload_n X.1 X.2.1 dX6_checkpoint_107 rfl (lv_at hl 3 rfl) ?_
              refine lv_iload_n X.1 X.2.1 dX6_checkpoint_108 rfl (lv_at hl 1 rfl) ?_
              obtain ⟨M39, e38, hf⟩ := px_bq_e hf
              refine px_cV (As := [.int x16]) (rest := []) X hml hl w (cR_M_doReaction l D cs ad e38) lk_6_300 (by decide) (rcR_0 X.2.2.2.2 w) rfl (Nat.le_of_ble_eq_true rfl) dX6_checkpoint_109 (fun H locs w => ?_)
              refine lv_goto (tgt := 125) X.1 X.2.1 dX6_checkpoint_112 (by decide) ?_
              refine lv_goto (tgt := 0) X.1 X.2.1 dX6_checkpoint_125 (by decide) ?_
              exact ih0 M39 _ hf _ _ ls w (lv_sub hl [3] rfl)
          · have hf := px_ip c34 hf
            refine lv_aload_n X.1 X.2.1 dX6_checkpoint_93 rfl (lv_at hl 3 rfl) ?_
            refine lv_iload_n X.1 X.2.1 dX6_checkpoint_94 rfl (lv_at hl 1 rfl) ?_
            refine lv_iload_n X.1 X.2.1 dX6_checkpoint_95 rfl (lv_at hl 0 rfl) ?_
            obtain ⟨M41, e40, hf⟩ := px_bq_e hf
            refine px_cV (As := [.int x16, .int x18]) (rest := []) X hml hl w (cR_M_runAndTell l D cs ad e40) lk_6_297 (by decide) (rcR_0 X.2.2.2.2 w) rfl (Nat.le_of_ble_eq_true rfl) dX6_checkpoint_96 (fun H locs w => ?_)
            refine lv_goto (tgt := 125) X.1 X.2.1 dX6_checkpoint_99 (by decide) ?_
            refine lv_goto (tgt := 0) X.1 X.2.1 dX6_checkpoint_125 (by decide) ?_
            exact ih0 M41 _ hf _ _ ls w (lv_sub hl [3] rfl)
        · have hf := px_ip c31 hf
          refine lv_aload_n X.1 X.2.1 dX6_checkpoint_55 rfl (lv_at hl 3 rfl) ?_
          refine lv_iload_n X.1 X.2.1 dX6_checkpoint_56 rfl (lv_at hl 1 rfl) ?_
          obtain ⟨r43, e42, hf⟩ := px_bq_e hf
          refine px_cI (As := [.int x16]) (rest := []) X hml hl w (cR_M_functionOf l D cs ad e42) lk_6_294 (by decide) (rcR_0 X.2.2.2.2 w) rfl (Nat.le_of_ble_eq_true rfl) dX6_checkpoint_57 (fun H locs w => ?_)
          refine lv_if_lt (tgt := 65) X.1 X.2.1 dX6_checkpoint_60 (by decide) (fun c44 => ?_) (fun c44 => ?_)
          · have hf := px_ip c44 hf
            refine lv_aload_n X.1 X.2.1 dX6_checkpoint_65 rfl (lv_at hl 3 rfl) ?_
            refine lv_aload_n X.1 X.2.1 dX6_checkpoint_66 rfl (lv_at hl 3 rfl) ?_
            refine gtR_0_20 X w dX6_checkpoint_67 ?_
            refine lv_iconst (v := (1 : Int32)) X.1 X.2.1 dX6_checkpoint_70 (by decide) ?_
            refine lv_iadd X.1 X.2.1 dX6_checkpoint_71 ?_
            refine lv_sipush (v := (512 : Int32)) X.1 X.2.1 dX6_checkpoint_72 (by decide) ?_
            refine lv_irem X.1 X.2.1 dX6_checkpoint_75 (by decide) ?_
            refine ptR_0_20 X w dX6_checkpoint_76 (fun H locs w => ?_)
            obtain ⟨M45, eM45, hf⟩ := px_bn_e hf
            rw [← eM45] at w
            refine lv_aload_n X.1 X.2.1 dX6_checkpoint_79 rfl (lv_at hl 3 rfl) ?_
            refine lv_dup X.1 X.2.1 dX6_checkpoint_80 rfl ?_
            refine gtR_0_21 X w dX6_checkpoint_81 ?_
            refine lv_iconst (v := (1 : Int32)) X.1 X.2.1 dX6_checkpoint_84 (by decide) ?_
            refine lv_isub X.1 X.2.1 dX6_checkpoint_85 ?_
            refine ptR_0_21 X w dX6_checkpoint_86 (fun H locs w => ?_)
            obtain ⟨M46, eM46, hf⟩ := px_bn_e hf
            rw [← eM46] at w
            refine lv_iload_n X.1 X.2.1 dX6_checkpoint_89 rfl (lv_at hl 2 rfl) ?_
            refine lv_if_ne (tgt := 102) X.1 X.2.1 dX6_checkpoint_90 (by decide) (fun c47 => ?_) (fun c47 => ?_)
            · have hf := px_in c47 hf
              refine lv_iload_n X.1 X.2.1 dX6_checkpoint_102 rfl (lv_at hl 2 rfl) ?_
              refine lv_iconst (v := (1 : Int32)) X.1 X.2.1 dX6_checkpoint_103 (by decide) ?_
              refine lv_icmp_ne (tgt := 115) X.1 X.2.1 dX6_checkpoint_104 (by decide) (fun c48 => ?_) (fun c48 => ?_)
              · have hf := px_in c48 hf
                refine lv_aload_n X.1 X.2.1 dX6_checkpoint_115 rfl (lv_at hl 3 rfl) ?_
                refine lv_iload_n X.1 X.2.1 dX6_checkpoint_116 rfl (lv_at hl 0 rfl) ?_
                refine lv_bipush (v := (-2 : Int32)) X.1 X.2.1 dX6_checkpoint_117 (by decide) ?_
                refine lv_bipush (v := (-2 : Int32)) X.1 X.2.1 dX6_checkpoint_119 (by decide) ?_
                refine lv_iload_n X.1 X.2.1 dX6_checkpoint_121 rfl (lv_at hl 1 rfl) ?_
                obtain ⟨M50, e49, hf⟩ := px_bq_e hf
                refine px_cV (As := [.int x18, .int (-2 : Int32), .int (-2 : Int32), .int x16]) (rest := []) X hml hl w (cR_M_react l D cs ad e49) lk_6_230 (by decide) (rcR_0 X.2.2.2.2 w) rfl (Nat.le_of_ble_eq_true rfl) dX6_checkpoint_122 (fun H locs w => ?_)
                refine lv_goto (tgt := 0) X.1 X.2.1 dX6_checkpoint_125 (by decide) ?_
                exact ih0 M50 _ hf _ _ ls w (lv_sub hl [3] rfl)
              · have hf := px_ip c48 hf
                refine lv_aload_n X.1 X.2.1 dX6_checkpoint_107 rfl (lv_at hl 3 rfl) ?_
                refine lv_iload_n X.1 X.2.1 dX6_checkpoint_108 rfl (lv_at hl 1 rfl) ?_
                obtain ⟨M52, e51, hf⟩ := px_bq_e hf
                refine px_cV (As := [.int x16]) (rest := []) X hml hl w (cR_M_doReaction l D cs ad e51) lk_6_300 (by decide) (rcR_0 X.2.2.2.2 w) rfl (Nat.le_of_ble_eq_true rfl) dX6_checkpoint_109 (fun H locs w => ?_)
                refine lv_goto (tgt := 125) X.1 X.2.1 dX6_checkpoint_112 (by decide) ?_
                refine lv_goto (tgt := 0) X.1 X.2.1 dX6_checkpoint_125 (by decide) ?_
                exact ih0 M52 _ hf _ _ ls w (lv_sub hl [3] rfl)
            · have hf := px_ip c47 hf
              refine lv_aload_n X.1 X.2.1 dX6_checkpoint_93 rfl (lv_at hl 3 rfl) ?_
              refine lv_iload_n X.1 X.2.1 dX6_checkpoint_94 rfl (lv_at hl 1 rfl) ?_
              refine lv_iload_n X.1 X.2.1 dX6_checkpoint_95 rfl (lv_at hl 0 rfl) ?_
              obtain ⟨M54, e53, hf⟩ := px_bq_e hf
              refine px_cV (As := [.int x16, .int x18]) (rest := []) X hml hl w (cR_M_runAndTell l D cs ad e53) lk_6_297 (by decide) (rcR_0 X.2.2.2.2 w) rfl (Nat.le_of_ble_eq_true rfl) dX6_checkpoint_96 (fun H locs w => ?_)
              refine lv_goto (tgt := 125) X.1 X.2.1 dX6_checkpoint_99 (by decide) ?_
              refine lv_goto (tgt := 0) X.1 X.2.1 dX6_checkpoint_125 (by decide) ?_
              exact ih0 M54 _ hf _ _ ls w (lv_sub hl [3] rfl)
          · have hf := px_in c44 hf
            refine lv_iconst (v := (0 : Int32)) X.1 X.2.1 dX6_checkpoint_63 (by decide) ?_
            cases hf
            exact px_retZ X hr hlk narrow_b0 w dX6_checkpoint_64
def fR_M_checkpoint (M : px_M) : Option (Int32 × px_M) := px_fx0 gR_M_checkpoint_L0 1001 M
set_option maxHeartbeats 4000000 in
set_option maxRecDepth 100000 in
theorem cR_M_checkpoint (l : Launch) (D : va_G) (cs : Nat → ClassId) (ad : Nat → Nat) {M : px_M} {r : Int32} {M' : px_M} (hf : fR_M_checkpoint M = some (r, M')) : px_mI l D (tyR cs) (wR cs ad) yX6_checkpoint cX6_checkpoint 4 (some .boolean) 7 [.ref (ad 0)] M r M' := by
  refine px_ofI (by decide +kernel) (Nat.le_of_ble_eq_true rfl) ?_
  intro p e s m below meth c A ls X hr hlk hml w hl
  have hl : lv_has ls 4 [(0, .ref (ad 0))] := hl
  unfold fR_M_checkpoint at hf
  exact lR_M_checkpoint_L0 X hr hlk hml 1001 M _ hf _ _ ls w (lv_sub hl [0] rfl)
theorem lk_6_303 : px_Lk RX6 303 yX6_nextTask cX6_nextTask 5 (some .int) 0 := ⟨px_tb (by decide +kernel) (by decide +kernel), px_tb (by decide +kernel) (by decide +kernel), px_tb (by decide +kernel) (by decide +kernel), px_tb (by decide +kernel) (by decide +kernel), px_tb (by decide +kernel) (by decide +kernel), by decide +kernel, by decide⟩
theorem lk_6_306 : px_Lk RX6 306 yX6_dropTask cX6_dropTask 3 none 1 := ⟨px_tb (by decide +kernel) (by decide +kernel), px_tb (by decide +kernel) (by decide +kernel), px_tb (by decide +kernel) (by decide +kernel), px_tb (by decide +kernel) (by decide +kernel), px_tb (by decide +kernel) (by decide +kernel), by decide +kernel, by decide⟩
theorem lk_6_309 : px_Lk RX6 309 yX6_doTimer cX6_doTimer 5 none 1 := ⟨px_tb (by decide +kernel) (by decide +kernel), px_tb (by decide +kernel) (by decide +kernel), px_tb (by decide +kernel) (by decide +kernel), px_tb (by decide +kernel) (by decide +kernel), px_tb (by decide +kernel) (by decide +kernel), by decide +kernel, by decide⟩
theorem lk_6_312 : px_Lk RX6 312 yX6_checkpoint cX6_checkpoint 4 (some .boolean) 0 := ⟨px_tb (by decide +kernel) (by decide +kernel), px_tb (by decide +kernel) (by decide +kernel), px_tb (by decide +kernel) (by decide +kernel), px_tb (by decide +kernel) (by decide +kernel), px_tb (by decide +kernel) (by decide +kernel), by decide +kernel, by decide⟩
def fR_M_doTask (M : px_M) : Option (Int32 × px_M) := px_bq (fR_M_nextTask M) (fun r2 => px_ck r2 4096 (px_bn ((M 23 r2.toNatClampNeg)) (fun x4 => (if x4 ≤ 0 then (if (M 0 62) = (50 : Int32) then some ((0 : Int32), M) else px_ck r2 4096 (px_bn ((M 21 r2.toNatClampNeg)) (fun x8 => px_ck r2 4096 (px_bn ((M 22 r2.toNatClampNeg)) (fun x10 => px_bq (fR_M_dropTask M r2) (fun M12 => (if x4 = 0 then px_bq (fR_M_runAndTell M12 x8 x10) (fun M21 => px_bo (fR_M_checkpoint M21) (fun r23 M24 => px_cb r23 (some (r23, M24)))) else px_bq (fR_M_doTimer M12 x4) (fun M15 => px_bo (fR_M_checkpoint M15) (fun r17 M18 => px_cb r17 (some (r17, M18))))))))))) else px_bq (fR_M_timerAt M x4) (fun r27 => (if 0 ≤ r27 then (if (M 0 62) = (50 : Int32) then some ((0 : Int32), M) else px_ck r2 4096 (px_bn ((M 21 r2.toNatClampNeg)) (fun x31 => px_ck r2 4096 (px_bn ((M 22 r2.toNatClampNeg)) (fun x33 => px_bq (fR_M_dropTask M r2) (fun M35 => (if x4 = 0 then px_bq (fR_M_runAndTell M35 x31 x33) (fun M44 => px_bo (fR_M_checkpoint M44) (fun r46 M47 => px_cb r46 (some (r46, M47)))) else px_bq (fR_M_doTimer M35 x4) (fun M38 => px_bo (fR_M_checkpoint M38) (fun r40 M41 => px_cb r40 (some (r40, M41))))))))))) else (if (M 0 62) = (50 : Int32) then px_ck r2 4096 (px_bn ((M 21 r2.toNatClampNeg)) (fun x68 => px_ck r2 4096 (px_bn ((M 22 r2.toNatClampNeg)) (fun x70 => px_bq (fR_M_dropTask M r2) (fun M72 => (if x4 = 0 then px_bq (fR_M_runAndTell M72 x68 x70) (fun M79 => px_bo (fR_M_checkpoint M79) (fun r81 M82 => px_cb r81 (some (r81, M82)))) else px_bo (fR_M_checkpoint M72) (fun r75 M76 => px_cb r75 (some (r75, M76))))))))) else px_ck r2 4096 (px_bn ((M 21 r2.toNatClampNeg)) (fun x51 => px_ck r2 4096 (px_bn ((M 22 r2.toNatClampNeg)) (fun x53 => px_bq (fR_M_dropTask M r2) (fun M55 => (if x4 = 0 then px_bq (fR_M_runAndTell M55 x51 x53) (fun M62 => px_bo (fR_M_checkpoint M62) (fun r64 M65 => px_cb r64 (some (r64, M65)))) else px_bo (fR_M_checkpoint M55) (fun r58 M59 => px_cb r58 (some (r58, M59))))))))))))))))
set_option maxHeartbeats 4000000 in
set_option maxRecDepth 100000 in
theorem cR_M_doTask (l : Launch) (D : va_G) (cs : Nat → ClassId) (ad : Nat → Nat) {M : px_M} {r : Int32} {M' : px_M} (hf : fR_M_doTask M = some (r, M')) : px_mI l D (tyR cs) (wR cs ad) yX6_doTask cX6_doTask 6 (some .boolean) 8 [.ref (ad 0)] M r M' := by
  refine px_ofI (by decide +kernel) (Nat.le_of_ble_eq_true rfl) ?_
  intro p e s m below meth c A ls X hr hlk hml w hl
  have hl : lv_has ls 6 [(0, .ref (ad 0))] := hl
  unfold fR_M_doTask at hf
  refine lv_aload_n X.1 X.2.1 dX6_doTask_0 rfl (lv_at hl 0 rfl) ?_
  obtain ⟨r2, e1, hf⟩ := px_bq_e hf
  refine px_cI (As := []) (rest := []) X hml hl w (cR_M_nextTask l D cs ad e1) lk_6_303 (by decide) (rcR_0 X.2.2.2.2 w) rfl (Nat.le_of_ble_eq_true rfl) dX6_doTask_1 (fun H locs w => ?_)
  refine lv_istore_n (lv' := [(1, .int r2), (0, .ref (ad 0))]) X.1 X.2.1 dX6_doTask_4 rfl hl (by decide) rfl (fun ls hl => ?_)
  refine lv_aload_n X.1 X.2.1 dX6_doTask_5 rfl (lv_at hl 1 rfl) ?_
  refine gtR_0_29 X w dX6_doTask_6 ?_
  refine lv_iload_n X.1 X.2.1 dX6_doTask_9 rfl (lv_at hl 0 rfl) ?_
  obtain ⟨b3, hf⟩ := px_ck_e hf
  refine ilR_23 X w b3 dX6_doTask_10 ?_
  obtain ⟨x4, ex4, hf⟩ := px_bn_e hf
  rw [← ex4]
  refine lv_istore_n (lv' := [(2, .int x4), (1, .int r2), (0, .ref (ad 0))]) X.1 X.2.1 dX6_doTask_11 rfl hl (by decide) rfl (fun ls hl => ?_)
  refine lv_iload_n X.1 X.2.1 dX6_doTask_12 rfl (lv_at hl 0 rfl) ?_
  refine lv_if_le (tgt := 28) X.1 X.2.1 dX6_doTask_13 (by decide) (fun c5 => ?_) (fun c5 => ?_)
  · have hf := px_ip c5 hf
    refine lv_iconst (v := (0 : Int32)) X.1 X.2.1 dX6_doTask_28 (by decide) ?_
    refine lv_istore_n (lv' := [(3, .int (0 : Int32)), (2, .int x4), (1, .int r2), (0, .ref (ad 0))]) X.1 X.2.1 dX6_doTask_29 rfl hl (by decide) rfl (fun ls hl => ?_)
    refine lv_aload_n X.1 X.2.1 dX6_doTask_30 rfl (lv_at hl 3 rfl) ?_
    refine gtR_0_62 X w dX6_doTask_31 ?_
    refine lv_bipush (v := (50 : Int32)) X.1 X.2.1 dX6_doTask_34 (by decide) ?_
    refine lv_icmp_ne (tgt := 45) X.1 X.2.1 dX6_doTask_36 (by decide) (fun c6 => ?_) (fun c6 => ?_)
    · have hf := px_in c6 hf
      refine lv_aload_n X.1 X.2.1 dX6_doTask_45 rfl (lv_at hl 3 rfl) ?_
      refine gtR_0_27 X w dX6_doTask_46 ?_
      refine lv_iload_n X.1 X.2.1 dX6_doTask_49 rfl (lv_at hl 2 rfl) ?_
      obtain ⟨b7, hf⟩ := px_ck_e hf
      refine ilR_21 X w b7 dX6_doTask_50 ?_
      obtain ⟨x8, ex8, hf⟩ := px_bn_e hf
      rw [← ex8]
      refine lv_istore (lv' := [(4, .int x8), (3, .int (0 : Int32)), (2, .int x4), (1, .int r2), (0, .ref (ad 0))]) X.1 X.2.1 dX6_doTask_51 hl (by decide) rfl (fun ls hl => ?_)
      refine lv_aload_n X.1 X.2.1 dX6_doTask_53 rfl (lv_at hl 4 rfl) ?_
      refine gtR_0_28 X w dX6_doTask_54 ?_
      refine lv_iload_n X.1 X.2.1 dX6_doTask_57 rfl (lv_at hl 3 rfl) ?_
      obtain ⟨b9, hf⟩ := px_ck_e hf
      refine ilR_22 X w b9 dX6_doTask_58 ?_
      obtain ⟨x10, ex10, hf⟩ := px_bn_e hf
      rw [← ex10]
      refine lv_istore (lv' := [(5, .int x10), (4, .int x8), (3, .int (0 : Int32)), (2, .int x4), (1, .int r2), (0, .ref (ad 0))]) X.1 X.2.1 dX6_doTask_59 hl (by decide) rfl (fun ls hl => ?_)
      refine lv_aload_n X.1 X.2.1 dX6_doTask_61 rfl (lv_at hl 5 rfl) ?_
      refine lv_iload_n X.1 X.2.1 dX6_doTask_62 rfl (lv_at hl 4 rfl) ?_
      obtain ⟨M12, e11, hf⟩ := px_bq_e hf
      refine px_cV (As := [.int r2]) (rest := []) X hml hl w (cR_M_dropTask l D cs ad e11) lk_6_306 (by decide) (rcR_0 X.2.2.2.2 w) rfl (Nat.le_of_ble_eq_true rfl) dX6_doTask_63 (fun H locs w => ?_)
      refine lv_iload_n X.1 X.2.1 dX6_doTask_66 rfl (lv_at hl 3 rfl) ?_
      refine lv_if_ne (tgt := 81) X.1 X.2.1 dX6_doTask_67 (by decide) (fun c13 => ?_) (fun c13 => ?_)
      · have hf := px_in c13 hf
        refine lv_iload_n X.1 X.2.1 dX6_doTask_81 rfl (lv_at hl 2 rfl) ?_
        refine lv_if_ne (tgt := 90) X.1 X.2.1 dX6_doTask_82 (by decide) (fun c => absurd c (by decide)) (fun _ => ?_)
        refine lv_aload_n X.1 X.2.1 dX6_doTask_85 rfl (lv_at hl 5 rfl) ?_
        refine lv_iload_n X.1 X.2.1 dX6_doTask_86 rfl (lv_at hl 3 rfl) ?_
        obtain ⟨M15, e14, hf⟩ := px_bq_e hf
        refine px_cV (As := [.int x4]) (rest := []) X hml hl w (cR_M_doTimer l D cs ad e14) lk_6_309 (by decide) (rcR_0 X.2.2.2.2 w) rfl (Nat.le_of_ble_eq_true rfl) dX6_doTask_87 (fun H locs w => ?_)
        refine lv_aload_n X.1 X.2.1 dX6_doTask_90 rfl (lv_at hl 5 rfl) ?_
        obtain ⟨r17, M18, e16, hf⟩ := px_bo_e hf
        refine px_cI (As := []) (rest := []) X hml hl w (cR_M_checkpoint l D cs ad e16) lk_6_312 (by decide) (rcR_0 X.2.2.2.2 w) rfl (Nat.le_of_ble_eq_true rfl) dX6_doTask_91 (fun H locs w => ?_)
        obtain ⟨b19, hf⟩ := px_cb_e hf
        cases hf
        exact px_retZ X hr hlk b19 w dX6_doTask_94
      · have hf := px_ip c13 hf
        refine lv_aload_n X.1 X.2.1 dX6_doTask_70 rfl (lv_at hl 5 rfl) ?_
        refine lv_iload X.1 X.2.1 dX6_doTask_71 (lv_at hl 1 rfl) ?_
        refine lv_iload X.1 X.2.1 dX6_doTask_73 (lv_at hl 0 rfl) ?_
        obtain ⟨M21, e20, hf⟩ := px_bq_e hf
        refine px_cV (As := [.int x8, .int x10]) (rest := []) X hml hl w (cR_M_runAndTell l D cs ad e20) lk_6_297 (by decide) (rcR_0 X.2.2.2.2 w) rfl (Nat.le_of_ble_eq_true rfl) dX6_doTask_75 (fun H locs w => ?_)
        refine lv_goto (tgt := 90) X.1 X.2.1 dX6_doTask_78 (by decide) ?_
        refine lv_aload_n X.1 X.2.1 dX6_doTask_90 rfl (lv_at hl 5 rfl) ?_
        obtain ⟨r23, M24, e22, hf⟩ := px_bo_e hf
        refine px_cI (As := []) (rest := []) X hml hl w (cR_M_checkpoint l D cs ad e22) lk_6_312 (by decide) (rcR_0 X.2.2.2.2 w) rfl (Nat.le_of_ble_eq_true rfl) dX6_doTask_91 (fun H locs w => ?_)
        obtain ⟨b25, hf⟩ := px_cb_e hf
        cases hf
        exact px_retZ X hr hlk b25 w dX6_doTask_94
    · have hf := px_ip c6 hf
      refine lv_iload_n X.1 X.2.1 dX6_doTask_39 rfl (lv_at hl 0 rfl) ?_
      refine lv_if_ne (tgt := 45) X.1 X.2.1 dX6_doTask_40 (by decide) (fun c => absurd c (by decide)) (fun _ => ?_)
      refine lv_iconst (v := (0 : Int32)) X.1 X.2.1 dX6_doTask_43 (by decide) ?_
      cases hf
      exact px_retZ X hr hlk narrow_b0 w dX6_doTask_44
  · have hf := px_in c5 hf
    refine lv_aload_n X.1 X.2.1 dX6_doTask_16 rfl (lv_at hl 2 rfl) ?_
    refine lv_iload_n X.1 X.2.1 dX6_doTask_17 rfl (lv_at hl 0 rfl) ?_
    obtain ⟨r27, e26, hf⟩ := px_bq_e hf
    refine px_cI (As := [.int x4]) (rest := []) X hml hl w (cR_M_timerAt l D cs ad e26) lk_6_256 (by decide) (rcR_0 X.2.2.2.2 w) rfl (Nat.le_of_ble_eq_true rfl) dX6_doTask_18 (fun H locs w => ?_)
    refine lv_if_ge (tgt := 28) X.1 X.2.1 dX6_doTask_21 (by decide) (fun c28 => ?_) (fun c28 => ?_)
    · have hf := px_ip c28 hf
      refine lv_iconst (v := (0 : Int32)) X.1 X.2.1 dX6_doTask_28 (by decide) ?_
      refine lv_istore_n (lv' := [(3, .int (0 : Int32)), (2, .int x4), (1, .int r2), (0, .ref (ad 0))]) X.1 X.2.1 dX6_doTask_29 rfl hl (by decide) rfl (fun ls hl => ?_)
      refine lv_aload_n X.1 X.2.1 dX6_doTask_30 rfl (lv_at hl 3 rfl) ?_
      refine gtR_0_62 X w dX6_doTask_31 ?_
      refine lv_bipush (v := (50 : Int32)) X.1 X.2.1 dX6_doTask_34 (by decide) ?_
      refine lv_icmp_ne (tgt := 45) X.1 X.2.1 dX6_doTask_36 (by decide) (fun c29 => ?_) (fun c29 => ?_)
      · have hf := px_in c29 hf
        refine lv_aload_n X.1 X.2.1 dX6_doTask_45 rfl (lv_at hl 3 rfl) ?_
        refine gtR_0_27 X w dX6_doTask_46 ?_
        refine lv_iload_n X.1 X.2.1 dX6_doTask_49 rfl (lv_at hl 2 rfl) ?_
        obtain ⟨b30, hf⟩ := px_ck_e hf
        refine ilR_21 X w b30 dX6_doTask_50 ?_
        obtain ⟨x31, ex31, hf⟩ := px_bn_e hf
        rw [← ex31]
        refine lv_istore (lv' := [(4, .int x31), (3, .int (0 : Int32)), (2, .int x4), (1, .int r2), (0, .ref (ad 0))]) X.1 X.2.1 dX6_doTask_51 hl (by decide) rfl (fun ls hl => ?_)
        refine lv_aload_n X.1 X.2.1 dX6_doTask_53 rfl (lv_at hl 4 rfl) ?_
        refine gtR_0_28 X w dX6_doTask_54 ?_
        refine lv_iload_n X.1 X.2.1 dX6_doTask_57 rfl (lv_at hl 3 rfl) ?_
        obtain ⟨b32, hf⟩ := px_ck_e hf
        refine ilR_22 X w b32 dX6_doTask_58 ?_
        obtain ⟨x33, ex33, hf⟩ := px_bn_e hf
        rw [← ex33]
        refine lv_istore (lv' := [(5, .int x33), (4, .int x31), (3, .int (0 : Int32)), (2, .int x4), (1, .int r2), (0, .ref (ad 0))]) X.1 X.2.1 dX6_doTask_59 hl (by decide) rfl (fun ls hl => ?_)
        refine lv_aload_n X.1 X.2.1 dX6_doTask_61 rfl (lv_at hl 5 rfl) ?_
        refine lv_iload_n X.1 X.2.1 dX6_doTask_62 rfl (lv_at hl 4 rfl) ?_
        obtain ⟨M35, e34, hf⟩ := px_bq_e hf
        refine px_cV (As := [.int r2]) (rest := []) X hml hl w (cR_M_dropTask l D cs ad e34) lk_6_306 (by decide) (rcR_0 X.2.2.2.2 w) rfl (Nat.le_of_ble_eq_true rfl) dX6_doTask_63 (fun H locs w => ?_)
        refine lv_iload_n X.1 X.2.1 dX6_doTask_66 rfl (lv_at hl 3 rfl) ?_
        refine lv_if_ne (tgt := 81) X.1 X.2.1 dX6_doTask_67 (by decide) (fun c36 => ?_) (fun c36 => ?_)
        · have hf := px_in c36 hf
          refine lv_iload_n X.1 X.2.1 dX6_doTask_81 rfl (lv_at hl 2 rfl) ?_
          refine lv_if_ne (tgt := 90) X.1 X.2.1 dX6_doTask_82 (by decide) (fun c => absurd c (by decide)) (fun _ => ?_)
          refine lv_aload_n X.1 X.2.1 dX6_doTask_85 rfl (lv_at hl 5 rfl) ?_
          refine lv_iload_n X.1 X.2.1 dX6_doTask_86 rfl (lv_at hl 3 rfl) ?_
          obtain ⟨M38, e37, hf⟩ := px_bq_e hf
          refine px_cV (As := [.int x4]) (rest := []) X hml hl w (cR_M_doTimer l D cs ad e37) lk_6_309 (by decide) (rcR_0 X.2.2.2.2 w) rfl (Nat.le_of_ble_eq_true rfl) dX6_doTask_87 (fun H locs w => ?_)
          refine lv_aload_n X.1 X.2.1 dX6_doTask_90 rfl (lv_at hl 5 rfl) ?_
          obtain ⟨r40, M41, e39, hf⟩ := px_bo_e hf
          refine px_cI (As := []) (rest := []) X hml hl w (cR_M_checkpoint l D cs ad e39) lk_6_312 (by decide) (rcR_0 X.2.2.2.2 w) rfl (Nat.le_of_ble_eq_true rfl) dX6_doTask_91 (fun H locs w => ?_)
          obtain ⟨b42, hf⟩ := px_cb_e hf
          cases hf
          exact px_retZ X hr hlk b42 w dX6_doTask_94
        · have hf := px_ip c36 hf
          refine lv_aload_n X.1 X.2.1 dX6_doTask_70 rfl (lv_at hl 5 rfl) ?_
          refine lv_iload X.1 X.2.1 dX6_doTask_71 (lv_at hl 1 rfl) ?_
          refine lv_iload X.1 X.2.1 dX6_doTask_73 (lv_at hl 0 rfl) ?_
          obtain ⟨M44, e43, hf⟩ := px_bq_e hf
          refine px_cV (As := [.int x31, .int x33]) (rest := []) X hml hl w (cR_M_runAndTell l D cs ad e43) lk_6_297 (by decide) (rcR_0 X.2.2.2.2 w) rfl (Nat.le_of_ble_eq_true rfl) dX6_doTask_75 (fun H locs w => ?_)
          refine lv_goto (tgt := 90) X.1 X.2.1 dX6_doTask_78 (by decide) ?_
          refine lv_aload_n X.1 X.2.1 dX6_doTask_90 rfl (lv_at hl 5 rfl) ?_
          obtain ⟨r46, M47, e45, hf⟩ := px_bo_e hf
          refine px_cI (As := []) (rest := []) X hml hl w (cR_M_checkpoint l D cs ad e45) lk_6_312 (by decide) (rcR_0 X.2.2.2.2 w) rfl (Nat.le_of_ble_eq_true rfl) dX6_doTask_91 (fun H locs w => ?_)
          obtain ⟨b48, hf⟩ := px_cb_e hf
          cases hf
          exact px_retZ X hr hlk b48 w dX6_doTask_94
      · have hf := px_ip c29 hf
        refine lv_iload_n X.1 X.2.1 dX6_doTask_39 rfl (lv_at hl 0 rfl) ?_
        refine lv_if_ne (tgt := 45) X.1 X.2.1 dX6_doTask_40 (by decide) (fun c => absurd c (by decide)) (fun _ => ?_)
        refine lv_iconst (v := (0 : Int32)) X.1 X.2.1 dX6_doTask_43 (by decide) ?_
        cases hf
        exact px_retZ X hr hlk narrow_b0 w dX6_doTask_44
    · have hf := px_in c28 hf
      refine lv_iconst (v := (1 : Int32)) X.1 X.2.1 dX6_doTask_24 (by decide) ?_
      refine lv_goto (tgt := 29) X.1 X.2.1 dX6_doTask_25 (by decide) ?_
      refine lv_istore_n (lv' := [(3, .int (1 : Int32)), (2, .int x4), (1, .int r2), (0, .ref (ad 0))]) X.1 X.2.1 dX6_doTask_29 rfl hl (by decide) rfl (fun ls hl => ?_)
      refine lv_aload_n X.1 X.2.1 dX6_doTask_30 rfl (lv_at hl 3 rfl) ?_
      refine gtR_0_62 X w dX6_doTask_31 ?_
      refine lv_bipush (v := (50 : Int32)) X.1 X.2.1 dX6_doTask_34 (by decide) ?_
      refine lv_icmp_ne (tgt := 45) X.1 X.2.1 dX6_doTask_36 (by decide) (fun c49 => ?_) (fun c49 => ?_)
      · have hf := px_in c49 hf
        refine lv_aload_n X.1 X.2.1 dX6_doTask_45 rfl (lv_at hl 3 rfl) ?_
        refine gtR_0_27 X w dX6_doTask_46 ?_
        refine lv_iload_n X.1 X.2.1 dX6_doTask_49 rfl (lv_at hl 2 rfl) ?_
        obtain ⟨b50, hf⟩ := px_ck_e hf
        refine ilR_21 X w b50 dX6_doTask_50 ?_
        obtain ⟨x51, ex51, hf⟩ := px_bn_e hf
        rw [← ex51]
        refine lv_istore (lv' := [(4, .int x51), (3, .int (1 : Int32)), (2, .int x4), (1, .int r2), (0, .ref (ad 0))]) X.1 X.2.1 dX6_doTask_51 hl (by decide) rfl (fun ls hl => ?_)
        refine lv_aload_n X.1 X.2.1 dX6_doTask_53 rfl (lv_at hl 4 rfl) ?_
        refine gtR_0_28 X w dX6_doTask_54 ?_
        refine lv_iload_n X.1 X.2.1 dX6_doTask_57 rfl (lv_at hl 3 rfl) ?_
        obtain ⟨b52, hf⟩ := px_ck_e hf
        refine ilR_22 X w b52 dX6_doTask_58 ?_
        obtain ⟨x53, ex53, hf⟩ := px_bn_e hf
        rw [← ex53]
        refine lv_istore (lv' := [(5, .int x53), (4, .int x51), (3, .int (1 : Int32)), (2, .int x4), (1, .int r2), (0, .ref (ad 0))]) X.1 X.2.1 dX6_doTask_59 hl (by decide) rfl (fun ls hl => ?_)
        refine lv_aload_n X.1 X.2.1 dX6_doTask_61 rfl (lv_at hl 5 rfl) ?_
        refine lv_iload_n X.1 X.2.1 dX6_doTask_62 rfl (lv_at hl 4 rfl) ?_
        obtain ⟨M55, e54, hf⟩ := px_bq_e hf
        refine px_cV (As := [.int r2]) (rest := []) X hml hl w (cR_M_dropTask l D cs ad e54) lk_6_306 (by decide) (rcR_0 X.2.2.2.2 w) rfl (Nat.le_of_ble_eq_true rfl) dX6_doTask_63 (fun H locs w => ?_)
        refine lv_iload_n X.1 X.2.1 dX6_doTask_66 rfl (lv_at hl 3 rfl) ?_
        refine lv_if_ne (tgt := 81) X.1 X.2.1 dX6_doTask_67 (by decide) (fun c56 => ?_) (fun c56 => ?_)
        · have hf := px_in c56 hf
          refine lv_iload_n X.1 X.2.1 dX6_doTask_81 rfl (lv_at hl 2 rfl) ?_
          refine lv_if_ne (tgt := 90) X.1 X.2.1 dX6_doTask_82 (by decide) (fun _ => ?_) (fun c => absurd c (by decide))
          refine lv_aload_n X.1 X.2.1 dX6_doTask_90 rfl (lv_at hl 5 rfl) ?_
          obtain ⟨r58, M59, e57, hf⟩ := px_bo_e hf
          refine px_cI (As := []) (rest := []) X hml hl w (cR_M_checkpoint l D cs ad e57) lk_6_312 (by decide) (rcR_0 X.2.2.2.2 w) rfl (Nat.le_of_ble_eq_true rfl) dX6_doTask_91 (fun H locs w => ?_)
          obtain ⟨b60, hf⟩ := px_cb_e hf
          cases hf
          exact px_retZ X hr hlk b60 w dX6_doTask_94
        · have hf := px_ip c56 hf
          refine lv_aload_n X.1 X.2.1 dX6_doTask_70 rfl (lv_at hl 5 rfl) ?_
          refine lv_iload X.1 X.2.1 dX6_doTask_71 (lv_at hl 1 rfl) ?_
          refine lv_iload X.1 X.2.1 dX6_doTask_73 (lv_at hl 0 rfl) ?_
          obtain ⟨M62, e61, hf⟩ := px_bq_e hf
          refine px_cV (As := [.int x51, .int x53]) (rest := []) X hml hl w (cR_M_runAndTell l D cs ad e61) lk_6_297 (by decide) (rcR_0 X.2.2.2.2 w) rfl (Nat.le_of_ble_eq_true rfl) dX6_doTask_75 (fun H locs w => ?_)
          refine lv_goto (tgt := 90) X.1 X.2.1 dX6_doTask_78 (by decide) ?_
          refine lv_aload_n X.1 X.2.1 dX6_doTask_90 rfl (lv_at hl 5 rfl) ?_
          obtain ⟨r64, M65, e63, hf⟩ := px_bo_e hf
          refine px_cI (As := []) (rest := []) X hml hl w (cR_M_checkpoint l D cs ad e63) lk_6_312 (by decide) (rcR_0 X.2.2.2.2 w) rfl (Nat.le_of_ble_eq_true rfl) dX6_doTask_91 (fun H locs w => ?_)
          obtain ⟨b66, hf⟩ := px_cb_e hf
          cases hf
          exact px_retZ X hr hlk b66 w dX6_doTask_94
      · have hf := px_ip c49 hf
        refine lv_iload_n X.1 X.2.1 dX6_doTask_39 rfl (lv_at hl 0 rfl) ?_
        refine lv_if_ne (tgt := 45) X.1 X.2.1 dX6_doTask_40 (by decide) (fun _ => ?_) (fun c => absurd c (by decide))
        refine lv_aload_n X.1 X.2.1 dX6_doTask_45 rfl (lv_at hl 3 rfl) ?_
        refine gtR_0_27 X w dX6_doTask_46 ?_
        refine lv_iload_n X.1 X.2.1 dX6_doTask_49 rfl (lv_at hl 2 rfl) ?_
        obtain ⟨b67, hf⟩ := px_ck_e hf
        refine ilR_21 X w b67 dX6_doTask_50 ?_
        obtain ⟨x68, ex68, hf⟩ := px_bn_e hf
        rw [← ex68]
        refine lv_istore (lv' := [(4, .int x68), (3, .int (1 : Int32)), (2, .int x4), (1, .int r2), (0, .ref (ad 0))]) X.1 X.2.1 dX6_doTask_51 hl (by decide) rfl (fun ls hl => ?_)
        refine lv_aload_n X.1 X.2.1 dX6_doTask_53 rfl (lv_at hl 4 rfl) ?_
        refine gtR_0_28 X w dX6_doTask_54 ?_
        refine lv_iload_n X.1 X.2.1 dX6_doTask_57 rfl (lv_at hl 3 rfl) ?_
        obtain ⟨b69, hf⟩ := px_ck_e hf
        refine ilR_22 X w b69 dX6_doTask_58 ?_
        obtain ⟨x70, ex70, hf⟩ := px_bn_e hf
        rw [← ex70]
        refine lv_istore (lv' := [(5, .int x70), (4, .int x68), (3, .int (1 : Int32)), (2, .int x4), (1, .int r2), (0, .ref (ad 0))]) X.1 X.2.1 dX6_doTask_59 hl (by decide) rfl (fun ls hl => ?_)
        refine lv_aload_n X.1 X.2.1 dX6_doTask_61 rfl (lv_at hl 5 rfl) ?_
        refine lv_iload_n X.1 X.2.1 dX6_doTask_62 rfl (lv_at hl 4 rfl) ?_
        obtain ⟨M72, e71, hf⟩ := px_bq_e hf
        refine px_cV (As := [.int r2]) (rest := []) X hml hl w (cR_M_dropTask l D cs ad e71) lk_6_306 (by decide) (rcR_0 X.2.2.2.2 w) rfl (Nat.le_of_ble_eq_true rfl) dX6_doTask_63 (fun H locs w => ?_)
        refine lv_iload_n X.1 X.2.1 dX6_doTask_66 rfl (lv_at hl 3 rfl) ?_
        refine lv_if_ne (tgt := 81) X.1 X.2.1 dX6_doTask_67 (by decide) (fun c73 => ?_) (fun c73 => ?_)
        · have hf := px_in c73 hf
          refine lv_iload_n X.1 X.2.1 dX6_doTask_81 rfl (lv_at hl 2 rfl) ?_
          refine lv_if_ne (tgt := 90) X.1 X.2.1 dX6_doTask_82 (by decide) (fun _ => ?_) (fun c => absurd c (by decide))
          refine lv_aload_n X.1 X.2.1 dX6_doTask_90 rfl (lv_at hl 5 rfl) ?_
          obtain ⟨r75, M76, e74, hf⟩ := px_bo_e hf
          refine px_cI (As := []) (rest := []) X hml hl w (cR_M_checkpoint l D cs ad e74) lk_6_312 (by decide) (rcR_0 X.2.2.2.2 w) rfl (Nat.le_of_ble_eq_true rfl) dX6_doTask_91 (fun H locs w => ?_)
          obtain ⟨b77, hf⟩ := px_cb_e hf
          cases hf
          exact px_retZ X hr hlk b77 w dX6_doTask_94
        · have hf := px_ip c73 hf
          refine lv_aload_n X.1 X.2.1 dX6_doTask_70 rfl (lv_at hl 5 rfl) ?_
          refine lv_iload X.1 X.2.1 dX6_doTask_71 (lv_at hl 1 rfl) ?_
          refine lv_iload X.1 X.2.1 dX6_doTask_73 (lv_at hl 0 rfl) ?_
          obtain ⟨M79, e78, hf⟩ := px_bq_e hf
          refine px_cV (As := [.int x68, .int x70]) (rest := []) X hml hl w (cR_M_runAndTell l D cs ad e78) lk_6_297 (by decide) (rcR_0 X.2.2.2.2 w) rfl (Nat.le_of_ble_eq_true rfl) dX6_doTask_75 (fun H locs w => ?_)
          refine lv_goto (tgt := 90) X.1 X.2.1 dX6_doTask_78 (by decide) ?_
          refine lv_aload_n X.1 X.2.1 dX6_doTask_90 rfl (lv_at hl 5 rfl) ?_
          obtain ⟨r81, M82, e80, hf⟩ := px_bo_e hf
          refine px_cI (As := []) (rest := []) X hml hl w (cR_M_checkpoint l D cs ad e80) lk_6_312 (by decide) (rcR_0 X.2.2.2.2 w) rfl (Nat.le_of_ble_eq_true rfl) dX6_doTask_91 (fun H locs w => ?_)
          obtain ⟨b83, hf⟩ := px_cb_e hf
          cases hf
          exact px_retZ X hr hlk b83 w dX6_doTask_94
theorem lk_6_318 : px_Lk RX6 318 yX6_giveBack cX6_giveBack 4 none 1 := ⟨px_tb (by decide +kernel) (by decide +kernel), px_tb (by decide +kernel) (by decide +kernel), px_tb (by decide +kernel) (by decide +kernel), px_tb (by decide +kernel) (by decide +kernel), px_tb (by decide +kernel) (by decide +kernel), by decide +kernel, by decide⟩
def gR_M_doFrames_L59 (rc59 : px_M → Int32 → Option px_M) (M : px_M) (y1 : Int32) : Option px_M := (if (M 0 45) ≤ y1 then some M else (if (M 0 62) = (50 : Int32) then px_bq (fR_M_giveBack M y1) (fun M28 => some M28) else px_bn (px_up M 0 46 (((M 0 45) - y1) - (1 : Int32))) (fun M8 => px_ck y1 24 (px_bq (fR_M_runAndTell M8 (M8 33 y1.toNatClampNeg) (M8 0 31)) (fun M11 => (if (M11 0 45) ≤ (y1 + (1 : Int32)) then px_bn (px_up M11 0 42 (0 : Int32)) (fun M13 => px_bo (fR_M_checkpoint M13) (fun r15 M16 => (if r15 = 0 then px_bq (fR_M_giveBack M16 (y1 + (1 : Int32))) (fun M19 => some M19) else rc59 M16 (y1 + (1 : Int32))))) else px_bn (px_up M11 0 42 (1 : Int32)) (fun M20 => px_bo (fR_M_checkpoint M20) (fun r22 M23 => (if r22 = 0 then px_bq (fR_M_giveBack M23 (y1 + (1 : Int32))) (fun M26 => some M26) else rc59 M23 (y1 + (1 : Int32)))))))))))
set_option maxHeartbeats 4000000 in
set_option maxRecDepth 100000 in
theorem lR_M_doFrames_L59 {l : Launch} {D : va_G} {cs : Nat → ClassId} {ad : Nat → Nat} {p : Program} {e : Env} {s : State} {m : MethodId} {args : Array Value} {below : List Frame} {meth : Method} {c : Code} {A : Nat → Prop} (X : px_X D (tyR cs) p s m args c cX6_doFrames yX6_doFrames.cls) (hr : meth.sig.returnType = none) (hlk : meth.locks = false) (hml : c.maxLocals = 2) : ∀ (j : Nat) (M : px_M) (y1 : Int32) (z : px_M), px_fx1 gR_M_doFrames_L59 j M y1 = some z → ∀ (H : Heap) (locs : List Loc) (ls : Array Slot), px_H D (wR cs ad) A s.heap M H locs → lv_has ls 2 [(0, .ref (ad 0)), (1, .int y1)] → W p l e (px_rm 8) s m args below meth c H locs 0 0 (px_QV D (tyR cs) (wR cs ad) below args s A z) (F0 m 59 ls []) := by
  refine px_fx1_i (P := fun M y1 (z : px_M) => ∀ (H : Heap) (locs : List Loc) (ls : Array Slot), px_H D (wR cs ad) A s.heap M H locs → lv_has ls 2 [(0, .ref (ad 0)), (1, .int y1)] → W p l e (px_rm 8) s m args below meth c H locs 0 0 (px_QV D (tyR cs) (wR cs ad) below args s A z) (F0 m 59 ls [])) ?_
  intro rc59 ih59 M y1 z hf H locs ls w hl
  unfold gR_M_doFrames_L59 at hf
  refine lv_iload_n X.1 X.2.1 dX6_doFrames_59 rfl (lv_at hl 1 rfl) ?_
  refine lv_aload_n X.1 X.2.1 dX6_doFrames_60 rfl (lv_at hl 0 rfl) ?_
  refine gtR_0_45 X w dX6_doFrames_61 ?_
  refine lv_icmp_ge (tgt := 148) X.1 X.2.1 dX6_doFrames_64 (by decide) (fun c6 => ?_) (fun c6 => ?_)
  · have hf := px_ip c6 hf
    cases hf
    exact px_retV X hr hlk w dX6_doFrames_148
  · have hf := px_in c6 hf
    refine lv_aload_n X.1 X.2.1 dX6_doFrames_67 rfl (lv_at hl 0 rfl) ?_
    refine gtR_0_62 X w dX6_doFrames_68 ?_
    refine lv_bipush (v := (50 : Int32)) X.1 X.2.1 dX6_doFrames_71 (by decide) ?_
    refine lv_icmp_ne (tgt := 82) X.1 X.2.1 dX6_doFrames_73 (by decide) (fun c7 => ?_) (fun c7 => ?_)
    · have hf := px_in c7 hf
      refine lv_aload_n X.1 X.2.1 dX6_doFrames_82 rfl (lv_at hl 0 rfl) ?_
      refine lv_aload_n X.1 X.2.1 dX6_doFrames_83 rfl (lv_at hl 0 rfl) ?_
      refine gtR_0_45 X w dX6_doFrames_84 ?_
      refine lv_iload_n X.1 X.2.1 dX6_doFrames_87 rfl (lv_at hl 1 rfl) ?_
      refine lv_isub X.1 X.2.1 dX6_doFrames_88 ?_
      refine lv_iconst (v := (1 : Int32)) X.1 X.2.1 dX6_doFrames_89 (by decide) ?_
      refine lv_isub X.1 X.2.1 dX6_doFrames_90 ?_
      refine ptR_0_46 X w dX6_doFrames_91 (fun H locs w => ?_)
      obtain ⟨M8, eM8, hf⟩ := px_bn_e hf
      rw [← eM8] at w
      refine lv_aload_n X.1 X.2.1 dX6_doFrames_94 rfl (lv_at hl 0 rfl) ?_
      refine lv_aload_n X.1 X.2.1 dX6_doFrames_95 rfl (lv_at hl 0 rfl) ?_
      refine gtR_0_47 X w dX6_doFrames_96 ?_
      refine lv_iload_n X.1 X.2.1 dX6_doFrames_99 rfl (lv_at hl 1 rfl) ?_
      obtain ⟨b9, hf⟩ := px_ck_e hf
      refine ilR_33 X w b9 dX6_doFrames_100 ?_
      refine lv_aload_n X.1 X.2.1 dX6_doFrames_101 rfl (lv_at hl 0 rfl) ?_
      refine gtR_0_31 X w dX6_doFrames_102 ?_
      obtain ⟨M11, e10, hf⟩ := px_bq_e hf
      refine px_cV (As := [.int (M8 33 y1.toNatClampNeg), .int (M8 0 31)]) (rest := []) X hml hl w (cR_M_runAndTell l D cs ad e10) lk_6_297 (by decide) (rcR_0 X.2.2.2.2 w) rfl (Nat.le_of_ble_eq_true rfl) dX6_doFrames_105 (fun H locs w => ?_)
      refine lv_aload_n X.1 X.2.1 dX6_doFrames_108 rfl (lv_at hl 0 rfl) ?_
      refine lv_iload_n X.1 X.2.1 dX6_doFrames_109 rfl (lv_at hl 1 rfl) ?_
      refine lv_iconst (v := (1 : Int32)) X.1 X.2.1 dX6_doFrames_110 (by decide) ?_
      refine lv_iadd X.1 X.2.1 dX6_doFrames_111 ?_
      refine lv_aload_n X.1 X.2.1 dX6_doFrames_112 rfl (lv_at hl 0 rfl) ?_
      refine gtR_0_45 X w dX6_doFrames_113 ?_
      refine lv_icmp_ge (tgt := 123) X.1 X.2.1 dX6_doFrames_116 (by decide) (fun c12 => ?_) (fun c12 => ?_)
      · have hf := px_ip c12 hf
        refine lv_iconst (v := (0 : Int32)) X.1 X.2.1 dX6_doFrames_123 (by decide) ?_
        refine ptR_0_42 X w rfl dX6_doFrames_124 (fun H locs w => ?_)
        obtain ⟨M13, eM13, hf⟩ := px_bn_e hf
        rw [← eM13] at w
        refine lv_aload_n X.1 X.2.1 dX6_doFrames_127 rfl (lv_at hl 0 rfl) ?_
        obtain ⟨r15, M16, e14, hf⟩ := px_bo_e hf
        refine px_cI (As := []) (rest := []) X hml hl w (cR_M_checkpoint l D cs ad e14) lk_6_312 (by decide) (rcR_0 X.2.2.2.2 w) rfl (Nat.le_of_ble_eq_true rfl) dX6_doFrames_128 (fun H locs w => ?_)
        refine lv_if_ne (tgt := 142) X.1 X.2.1 dX6_doFrames_131 (by decide) (fun c17 => ?_) (fun c17 => ?_)
        · have hf := px_in c17 hf
          refine lv_iinc (v := (y1 + (1 : Int32))) (lv' := [(1, .int (y1 + (1 : Int32))), (0, .ref (ad 0))]) X.1 X.2.1 dX6_doFrames_142 hl (k := 1) rfl rfl (by decide) rfl (fun ls hl => ?_)
          refine lv_goto (tgt := 59) X.1 X.2.1 dX6_doFrames_145 (by decide) ?_
          exact ih59 M16 (y1 + (1 : Int32)) _ hf _ _ ls w (lv_sub hl [1, 0] rfl)
        · have hf := px_ip c17 hf
          refine lv_aload_n X.1 X.2.1 dX6_doFrames_134 rfl (lv_at hl 0 rfl) ?_
          refine lv_iload_n X.1 X.2.1 dX6_doFrames_135 rfl (lv_at hl 1 rfl) ?_
          refine lv_iconst (v := (1 : Int32)) X.1 X.2.1 dX6_doFrames_136 (by decide) ?_
          refine lv_iadd X.1 X.2.1 dX6_doFrames_137 ?_
          obtain ⟨M19, e18, hf⟩ := px_bq_e hf
          refine px_cV (As := [.int (y1 + (1 : Int32))]) (rest := []) X hml hl w (cR_M_giveBack l D cs ad e18) lk_6_318 (by decide) (rcR_0 X.2.2.2.2 w) rfl (Nat.le_of_ble_eq_true rfl) dX6_doFrames_138 (fun H locs w => ?_)
          cases hf
          exact px_retV X hr hlk w dX6_doFrames_141
      · have hf := px_in c12 hf
        refine lv_iconst (v := (1 : Int32)) X.1 X.2.1 dX6_doFrames_119 (by decide) ?_
        refine lv_goto (tgt := 124) X.1 X.2.1 dX6_doFrames_120 (by decide) ?_
        refine ptR_0_42 X w rfl dX6_doFrames_124 (fun H locs w => ?_)
        obtain ⟨M20, eM20, hf⟩ := px_bn_e hf
        rw [← eM20] at w
        refine lv_aload_n X.1 X.2.1 dX6_doFrames_127 rfl (lv_at hl 0 rfl) ?_
        obtain ⟨r22, M23, e21, hf⟩ := px_bo_e hf
        refine px_cI (As := []) (rest := []) X hml hl w (cR_M_checkpoint l D cs ad e21) lk_6_312 (by decide) (rcR_0 X.2.2.2.2 w) rfl (Nat.le_of_ble_eq_true rfl) dX6_doFrames_128 (fun H locs w => ?_)
        refine lv_if_ne (tgt := 142) X.1 X.2.1 dX6_doFrames_131 (by decide) (fun c24 => ?_) (fun c24 => ?_)
        · have hf := px_in c24 hf
          refine lv_iinc (v := (y1 + (1 : Int32))) (lv' := [(1, .int (y1 + (1 : Int32))), (0, .ref (ad 0))]) X.1 X.2.1 dX6_doFrames_142 hl (k := 1) rfl rfl (by decide) rfl (fun ls hl => ?_)
          refine lv_goto (tgt := 59) X.1 X.2.1 dX6_doFrames_145 (by decide) ?_
          exact ih59 M23 (y1 + (1 : Int32)) _ hf _ _ ls w (lv_sub hl [1, 0] rfl)
        · have hf := px_ip c24 hf
          refine lv_aload_n X.1 X.2.1 dX6_doFrames_134 rfl (lv_at hl 0 rfl) ?_
          refine lv_iload_n X.1 X.2.1 dX6_doFrames_135 rfl (lv_at hl 1 rfl) ?_
          refine lv_iconst (v := (1 : Int32)) X.1 X.2.1 dX6_doFrames_136 (by decide) ?_
          refine lv_iadd X.1 X.2.1 dX6_doFrames_137 ?_
          obtain ⟨M26, e25, hf⟩ := px_bq_e hf
          refine px_cV (As := [.int (y1 + (1 : Int32))]) (rest := []) X hml hl w (cR_M_giveBack l D cs ad e25) lk_6_318 (by decide) (rcR_0 X.2.2.2.2 w) rfl (Nat.le_of_ble_eq_true rfl) dX6_doFrames_138 (fun H locs w => ?_)
          cases hf
          exact px_retV X hr hlk w dX6_doFrames_141
    · have hf := px_ip c7 hf
      refine lv_aload_n X.1 X.2.1 dX6_doFrames_76 rfl (lv_at hl 0 rfl) ?_
      refine lv_iload_n X.1 X.2.1 dX6_doFrames_77 rfl (lv_at hl 1 rfl) ?_
      obtain ⟨M28, e27, hf⟩ := px_bq_e hf
      refine px_cV (As := [.int y1]) (rest := []) X hml hl w (cR_M_giveBack l D cs ad e27) lk_6_318 (by decide) (rcR_0 X.2.2.2.2 w) rfl (Nat.le_of_ble_eq_true rfl) dX6_doFrames_78 (fun H locs w => ?_)
      cases hf
      exact px_retV X hr hlk w dX6_doFrames_81
def gR_M_doFrames_L10 (rc10 : px_M → Int32 → Option px_M) (M : px_M) (y1 : Int32) : Option px_M := (if (M 0 43) ≤ y1 then px_bn (px_up M 0 43 (0 : Int32)) (fun M3 => (if (M3 0 45) ≤ 0 then px_bn (px_up M3 0 42 (0 : Int32)) (fun M5 => px_fx1 gR_M_doFrames_L59 25 M5 (0 : Int32)) else px_bn (px_up M3 0 42 (1 : Int32)) (fun M29 => px_fx1 gR_M_doFrames_L59 25 M29 (0 : Int32)))) else px_ck y1 24 (px_ck y1 24 (px_bn (px_up M 33 y1.toNatClampNeg (M 32 y1.toNatClampNeg)) (fun M32 => rc10 M32 (y1 + (1 : Int32))))))
set_option maxHeartbeats 4000000 in
set_option maxRecDepth 100000 in
theorem lR_M_doFrames_L10 {l : Launch} {D : va_G} {cs : Nat → ClassId} {ad : Nat → Nat} {p : Program} {e : Env} {s : State} {m : MethodId} {args : Array Value} {below : List Frame} {meth : Method} {c : Code} {A : Nat → Prop} (X : px_X D (tyR cs) p s m args c cX6_doFrames yX6_doFrames.cls) (hr : meth.sig.returnType = none) (hlk : meth.locks = false) (hml : c.maxLocals = 2) : ∀ (j : Nat) (M : px_M) (y1 : Int32) (z : px_M), px_fx1 gR_M_doFrames_L10 j M y1 = some z → ∀ (H : Heap) (locs : List Loc) (ls : Array Slot), px_H D (wR cs ad) A s.heap M H locs → lv_has ls 2 [(0, .ref (ad 0)), (1, .int y1)] → W p l e (px_rm 8) s m args below meth c H locs 0 0 (px_QV D (tyR cs) (wR cs ad) below args s A z) (F0 m 10 ls []) := by
  refine px_fx1_i (P := fun M y1 (z : px_M) => ∀ (H : Heap) (locs : List Loc) (ls : Array Slot), px_H D (wR cs ad) A s.heap M H locs → lv_has ls 2 [(0, .ref (ad 0)), (1, .int y1)] → W p l e (px_rm 8) s m args below meth c H locs 0 0 (px_QV D (tyR cs) (wR cs ad) below args s A z) (F0 m 10 ls [])) ?_
  intro rc10 ih10 M y1 z hf H locs ls w hl
  unfold gR_M_doFrames_L10 at hf
  refine lv_iload_n X.1 X.2.1 dX6_doFrames_10 rfl (lv_at hl 1 rfl) ?_
  refine lv_aload_n X.1 X.2.1 dX6_doFrames_11 rfl (lv_at hl 0 rfl) ?_
  refine gtR_0_43 X w dX6_doFrames_12 ?_
  refine lv_icmp_ge (tgt := 36) X.1 X.2.1 dX6_doFrames_15 (by decide) (fun c2 => ?_) (fun c2 => ?_)
  · have hf := px_ip c2 hf
    refine lv_aload_n X.1 X.2.1 dX6_doFrames_36 rfl (lv_at hl 0 rfl) ?_
    refine lv_iconst (v := (0 : Int32)) X.1 X.2.1 dX6_doFrames_37 (by decide) ?_
    refine ptR_0_43 X w dX6_doFrames_38 (fun H locs w => ?_)
    obtain ⟨M3, eM3, hf⟩ := px_bn_e hf
    rw [← eM3] at w
    refine lv_aload_n X.1 X.2.1 dX6_doFrames_41 rfl (lv_at hl 0 rfl) ?_
    refine lv_aload_n X.1 X.2.1 dX6_doFrames_42 rfl (lv_at hl 0 rfl) ?_
    refine gtR_0_45 X w dX6_doFrames_43 ?_
    refine lv_if_le (tgt := 53) X.1 X.2.1 dX6_doFrames_46 (by decide) (fun c4 => ?_) (fun c4 => ?_)
    · have hf := px_ip c4 hf
      refine lv_iconst (v := (0 : Int32)) X.1 X.2.1 dX6_doFrames_53 (by decide) ?_
      refine ptR_0_42 X w rfl dX6_doFrames_54 (fun H locs w => ?_)
      obtain ⟨M5, eM5, hf⟩ := px_bn_e hf
      rw [← eM5] at w
      refine lv_iconst (v := (0 : Int32)) X.1 X.2.1 dX6_doFrames_57 (by decide) ?_
      refine lv_istore_n (lv' := [(1, .int (0 : Int32)), (0, .ref (ad 0))]) X.1 X.2.1 dX6_doFrames_58 rfl hl (by decide) rfl (fun ls hl => ?_)
      exact lR_M_doFrames_L59 X hr hlk hml 25 M5 (0 : Int32) _ hf _ _ ls w (lv_sub hl [1, 0] rfl)
    · have hf := px_in c4 hf
      refine lv_iconst (v := (1 : Int32)) X.1 X.2.1 dX6_doFrames_49 (by decide) ?_
      refine lv_goto (tgt := 54) X.1 X.2.1 dX6_doFrames_50 (by decide) ?_
      refine ptR_0_42 X w rfl dX6_doFrames_54 (fun H locs w => ?_)
      obtain ⟨M29, eM29, hf⟩ := px_bn_e hf
      rw [← eM29] at w
      refine lv_iconst (v := (0 : Int32)) X.1 X.2.1 dX6_doFrames_57 (by decide) ?_
      refine lv_istore_n (lv' := [(1, .int (0 : Int32)), (0, .ref (ad 0))]) X.1 X.2.1 dX6_doFrames_58 rfl hl (by decide) rfl (fun ls hl => ?_)
      exact lR_M_doFrames_L59 X hr hlk hml 25 M29 (0 : Int32) _ hf _ _ ls w (lv_sub hl [1, 0] rfl)
  · have hf := px_in c2 hf
    refine lv_aload_n X.1 X.2.1 dX6_doFrames_18 rfl (lv_at hl 0 rfl) ?_
    refine gtR_0_47 X w dX6_doFrames_19 ?_
    refine lv_iload_n X.1 X.2.1 dX6_doFrames_22 rfl (lv_at hl 1 rfl) ?_
    refine lv_aload_n X.1 X.2.1 dX6_doFrames_23 rfl (lv_at hl 0 rfl) ?_
    refine gtR_0_44 X w dX6_doFrames_24 ?_
    refine lv_iload_n X.1 X.2.1 dX6_doFrames_27 rfl (lv_at hl 1 rfl) ?_
    obtain ⟨b30, hf⟩ := px_ck_e hf
    refine ilR_32 X w b30 dX6_doFrames_28 ?_
    obtain ⟨b31, hf⟩ := px_ck_e hf
    refine isR_33 X w b31 dX6_doFrames_29 (fun H locs w => ?_)
    obtain ⟨M32, eM32, hf⟩ := px_bn_e hf
    rw [← eM32] at w
    refine lv_iinc (v := (y1 + (1 : Int32))) (lv' := [(1, .int (y1 + (1 : Int32))), (0, .ref (ad 0))]) X.1 X.2.1 dX6_doFrames_30 hl (k := 1) rfl rfl (by decide) rfl (fun ls hl => ?_)
    refine lv_goto (tgt := 10) X.1 X.2.1 dX6_doFrames_33 (by decide) ?_
    exact ih10 M32 (y1 + (1 : Int32)) _ hf _ _ ls w (lv_sub hl [1, 0] rfl)
def fR_M_doFrames (M : px_M) : Option px_M := px_bn (px_up M 0 45 (M 0 43)) (fun M1 => px_fx1 gR_M_doFrames_L10 25 M1 (0 : Int32))
set_option maxHeartbeats 4000000 in
set_option maxRecDepth 100000 in
theorem cR_M_doFrames (l : Launch) (D : va_G) (cs : Nat → ClassId) (ad : Nat → Nat) {M : px_M} {M' : px_M} (hf : fR_M_doFrames M = some M') : px_mV l D (tyR cs) (wR cs ad) yX6_doFrames cX6_doFrames 2 8 [.ref (ad 0)] M M' := by
  refine px_ofV (by decide +kernel) (Nat.le_of_ble_eq_true rfl) ?_
  intro p e s m below meth c A ls X hr hlk hml w hl
  have hl : lv_has ls 2 [(0, .ref (ad 0))] := hl
  unfold fR_M_doFrames at hf
  refine lv_aload_n X.1 X.2.1 dX6_doFrames_0 rfl (lv_at hl 0 rfl) ?_
  refine lv_aload_n X.1 X.2.1 dX6_doFrames_1 rfl (lv_at hl 0 rfl) ?_
  refine gtR_0_43 X w dX6_doFrames_2 ?_
  refine ptR_0_45 X w dX6_doFrames_5 (fun H locs w => ?_)
  obtain ⟨M1, eM1, hf⟩ := px_bn_e hf
  rw [← eM1] at w
  refine lv_iconst (v := (0 : Int32)) X.1 X.2.1 dX6_doFrames_8 (by decide) ?_
  refine lv_istore_n (lv' := [(1, .int (0 : Int32)), (0, .ref (ad 0))]) X.1 X.2.1 dX6_doFrames_9 rfl hl (by decide) rfl (fun ls hl => ?_)
  exact lR_M_doFrames_L10 X hr hlk hml 25 M1 (0 : Int32) _ hf _ _ ls w (lv_sub hl [1, 0] rfl)
theorem lk_6_324 : px_Lk RX6 324 yX6_doFrames cX6_doFrames 2 none 0 := ⟨px_tb (by decide +kernel) (by decide +kernel), px_tb (by decide +kernel) (by decide +kernel), px_tb (by decide +kernel) (by decide +kernel), px_tb (by decide +kernel) (by decide +kernel), px_tb (by decide +kernel) (by decide +kernel), by decide +kernel, by decide⟩
theorem lk_6_321 : px_Lk RX6 321 yX6_doTask cX6_doTask 6 (some .boolean) 0 := ⟨px_tb (by decide +kernel) (by decide +kernel), px_tb (by decide +kernel) (by decide +kernel), px_tb (by decide +kernel) (by decide +kernel), px_tb (by decide +kernel) (by decide +kernel), px_tb (by decide +kernel) (by decide +kernel), by decide +kernel, by decide⟩
def fR_M_turn (M : px_M) : Option (Int32 × px_M) := px_bn (px_up M 0 0 (0 : Int32)) (fun M1 => px_bn (px_up M1 0 62 (0 : Int32)) (fun M2 => px_bn (px_up M2 0 60 (1 : Int32)) (fun M3 => px_bo (fR_M_checkpoint M3) (fun r5 M6 => (if r5 = 0 then (if r5 = 0 then some ((M6 0 62), M6) else (if (M6 0 42) = 0 then some ((M6 0 62), M6) else px_bq (fR_M_doFrames M6) (fun M11 => some ((M11 0 62), M11)))) else (if (M6 0 25) ≤ 0 then (if r5 = 0 then some ((M6 0 62), M6) else (if (M6 0 42) = 0 then some ((M6 0 62), M6) else px_bq (fR_M_doFrames M6) (fun M16 => some ((M16 0 62), M16)))) else px_bo (fR_M_doTask M6) (fun r18 M19 => (if r18 = 0 then some ((M19 0 62), M19) else (if (M19 0 42) = 0 then some ((M19 0 62), M19) else px_bq (fR_M_doFrames M19) (fun M23 => some ((M23 0 62), M23)))))))))))
set_option maxHeartbeats 4000000 in
set_option maxRecDepth 100000 in
theorem cR_M_turn (l : Launch) (D : va_G) (cs : Nat → ClassId) (ad : Nat → Nat) {M : px_M} {r : Int32} {M' : px_M} (hf : fR_M_turn M = some (r, M')) : px_mI l D (tyR cs) (wR cs ad) yX6_turn cX6_turn 2 (some .int) 9 [.ref (ad 0)] M r M' := by
  refine px_ofI (by decide +kernel) (Nat.le_of_ble_eq_true rfl) ?_
  intro p e s m below meth c A ls X hr hlk hml w hl
  have hl : lv_has ls 2 [(0, .ref (ad 0))] := hl
  unfold fR_M_turn at hf
  refine lv_aload_n X.1 X.2.1 dX6_turn_0 rfl (lv_at hl 0 rfl) ?_
  refine lv_iconst (v := (0 : Int32)) X.1 X.2.1 dX6_turn_1 (by decide) ?_
  refine ptR_0_0 X w dX6_turn_2 (fun H locs w => ?_)
  obtain ⟨M1, eM1, hf⟩ := px_bn_e hf
  rw [← eM1] at w
  refine lv_aload_n X.1 X.2.1 dX6_turn_5 rfl (lv_at hl 0 rfl) ?_
  refine lv_iconst (v := (0 : Int32)) X.1 X.2.1 dX6_turn_6 (by decide) ?_
  refine ptR_0_62 X w dX6_turn_7 (fun H locs w => ?_)
  obtain ⟨M2, eM2, hf⟩ := px_bn_e hf
  rw [← eM2] at w
  refine lv_aload_n X.1 X.2.1 dX6_turn_10 rfl (lv_at hl 0 rfl) ?_
  refine lv_iconst (v := (1 : Int32)) X.1 X.2.1 dX6_turn_11 (by decide) ?_
  refine ptR_0_60 X w dX6_turn_12 (fun H locs w => ?_)
  obtain ⟨M3, eM3, hf⟩ := px_bn_e hf
  rw [← eM3] at w
  refine lv_aload_n X.1 X.2.1 dX6_turn_15 rfl (lv_at hl 0 rfl) ?_
  obtain ⟨r5, M6, e4, hf⟩ := px_bo_e hf
  refine px_cI (As := []) (rest := []) X hml hl w (cR_M_checkpoint l D cs ad e4) lk_6_312 (by decide) (rcR_0 X.2.2.2.2 w) rfl (Nat.le_of_ble_eq_true rfl) dX6_turn_16 (fun H locs w => ?_)
  refine lv_istore_n (lv' := [(1, .int r5), (0, .ref (ad 0))]) X.1 X.2.1 dX6_turn_19 rfl hl (by decide) rfl (fun ls hl => ?_)
  refine lv_iload_n X.1 X.2.1 dX6_turn_20 rfl (lv_at hl 0 rfl) ?_
  refine lv_if_eq (tgt := 36) X.1 X.2.1 dX6_turn_21 (by decide) (fun c7 => ?_) (fun c7 => ?_)
  · have hf := px_ip c7 hf
    refine lv_iload_n X.1 X.2.1 dX6_turn_36 rfl (lv_at hl 0 rfl) ?_
    refine lv_if_eq (tgt := 51) X.1 X.2.1 dX6_turn_37 (by decide) (fun c8 => ?_) (fun c8 => ?_)
    · have hf := px_ip c8 hf
      refine lv_aload_n X.1 X.2.1 dX6_turn_51 rfl (lv_at hl 1 rfl) ?_
      refine gtR_0_62 X w dX6_turn_52 ?_
      cases hf
      exact px_retI X hr hlk w dX6_turn_55
    · have hf := px_in c8 hf
      refine lv_aload_n X.1 X.2.1 dX6_turn_40 rfl (lv_at hl 1 rfl) ?_
      refine gtR_0_42 X w dX6_turn_41 ?_
      refine lv_if_eq (tgt := 51) X.1 X.2.1 dX6_turn_44 (by decide) (fun c9 => ?_) (fun c9 => ?_)
      · have hf := px_ip c9 hf
        refine lv_aload_n X.1 X.2.1 dX6_turn_51 rfl (lv_at hl 1 rfl) ?_
        refine gtR_0_62 X w dX6_turn_52 ?_
        cases hf
        exact px_retI X hr hlk w dX6_turn_55
      · have hf := px_in c9 hf
        refine lv_aload_n X.1 X.2.1 dX6_turn_47 rfl (lv_at hl 1 rfl) ?_
        obtain ⟨M11, e10, hf⟩ := px_bq_e hf
        refine px_cV (As := []) (rest := []) X hml hl w (cR_M_doFrames l D cs ad e10) lk_6_324 (by decide) (rcR_0 X.2.2.2.2 w) rfl (Nat.le_of_ble_eq_true rfl) dX6_turn_48 (fun H locs w => ?_)
        refine lv_aload_n X.1 X.2.1 dX6_turn_51 rfl (lv_at hl 1 rfl) ?_
        refine gtR_0_62 X w dX6_turn_52 ?_
        cases hf
        exact px_retI X hr hlk w dX6_turn_55
  · have hf := px_in c7 hf
    refine lv_aload_n X.1 X.2.1 dX6_turn_24 rfl (lv_at hl 1 rfl) ?_
    refine gtR_0_25 X w dX6_turn_25 ?_
    refine lv_if_le (tgt := 36) X.1 X.2.1 dX6_turn_28 (by decide) (fun c12 => ?_) (fun c12 => ?_)
    · have hf := px_ip c12 hf
      refine lv_iload_n X.1 X.2.1 dX6_turn_36 rfl (lv_at hl 0 rfl) ?_
      refine lv_if_eq (tgt := 51) X.1 X.2.1 dX6_turn_37 (by decide) (fun c13 => ?_) (fun c13 => ?_)
      · have hf := px_ip c13 hf
        refine lv_aload_n X.1 X.2.1 dX6_turn_51 rfl (lv_at hl 1 rfl) ?_
        refine gtR_0_62 X w dX6_turn_52 ?_
        cases hf
        exact px_retI X hr hlk w dX6_turn_55
      · have hf := px_in c13 hf
        refine lv_aload_n X.1 X.2.1 dX6_turn_40 rfl (lv_at hl 1 rfl) ?_
        refine gtR_0_42 X w dX6_turn_41 ?_
        refine lv_if_eq (tgt := 51) X.1 X.2.1 dX6_turn_44 (by decide) (fun c14 => ?_) (fun c14 => ?_)
        · have hf := px_ip c14 hf
          refine lv_aload_n X.1 X.2.1 dX6_turn_51 rfl (lv_at hl 1 rfl) ?_
          refine gtR_0_62 X w dX6_turn_52 ?_
          cases hf
          exact px_retI X hr hlk w dX6_turn_55
        · have hf := px_in c14 hf
          refine lv_aload_n X.1 X.2.1 dX6_turn_47 rfl (lv_at hl 1 rfl) ?_
          obtain ⟨M16, e15, hf⟩ := px_bq_e hf
          refine px_cV (As := []) (rest := []) X hml hl w (cR_M_doFrames l D cs ad e15) lk_6_324 (by decide) (rcR_0 X.2.2.2.2 w) rfl (Nat.le_of_ble_eq_true rfl) dX6_turn_48 (fun H locs w => ?_)
          refine lv_aload_n X.1 X.2.1 dX6_turn_51 rfl (lv_at hl 1 rfl) ?_
          refine gtR_0_62 X w dX6_turn_52 ?_
          cases hf
          exact px_retI X hr hlk w dX6_turn_55
    · have hf := px_in c12 hf
      refine lv_aload_n X.1 X.2.1 dX6_turn_31 rfl (lv_at hl 1 rfl) ?_
      obtain ⟨r18, M19, e17, hf⟩ := px_bo_e hf
      refine px_cI (As := []) (rest := []) X hml hl w (cR_M_doTask l D cs ad e17) lk_6_321 (by decide) (rcR_0 X.2.2.2.2 w) rfl (Nat.le_of_ble_eq_true rfl) dX6_turn_32 (fun H locs w => ?_)
      refine lv_istore_n (lv' := [(1, .int r18), (0, .ref (ad 0))]) X.1 X.2.1 dX6_turn_35 rfl hl (by decide) rfl (fun ls hl => ?_)
      refine lv_iload_n X.1 X.2.1 dX6_turn_36 rfl (lv_at hl 0 rfl) ?_
      refine lv_if_eq (tgt := 51) X.1 X.2.1 dX6_turn_37 (by decide) (fun c20 => ?_) (fun c20 => ?_)
      · have hf := px_ip c20 hf
        refine lv_aload_n X.1 X.2.1 dX6_turn_51 rfl (lv_at hl 1 rfl) ?_
        refine gtR_0_62 X w dX6_turn_52 ?_
        cases hf
        exact px_retI X hr hlk w dX6_turn_55
      · have hf := px_in c20 hf
        refine lv_aload_n X.1 X.2.1 dX6_turn_40 rfl (lv_at hl 1 rfl) ?_
        refine gtR_0_42 X w dX6_turn_41 ?_
        refine lv_if_eq (tgt := 51) X.1 X.2.1 dX6_turn_44 (by decide) (fun c21 => ?_) (fun c21 => ?_)
        · have hf := px_ip c21 hf
          refine lv_aload_n X.1 X.2.1 dX6_turn_51 rfl (lv_at hl 1 rfl) ?_
          refine gtR_0_62 X w dX6_turn_52 ?_
          cases hf
          exact px_retI X hr hlk w dX6_turn_55
        · have hf := px_in c21 hf
          refine lv_aload_n X.1 X.2.1 dX6_turn_47 rfl (lv_at hl 1 rfl) ?_
          obtain ⟨M23, e22, hf⟩ := px_bq_e hf
          refine px_cV (As := []) (rest := []) X hml hl w (cR_M_doFrames l D cs ad e22) lk_6_324 (by decide) (rcR_0 X.2.2.2.2 w) rfl (Nat.le_of_ble_eq_true rfl) dX6_turn_48 (fun H locs w => ?_)
          refine lv_aload_n X.1 X.2.1 dX6_turn_51 rfl (lv_at hl 1 rfl) ?_
          refine gtR_0_62 X w dX6_turn_52 ?_
          cases hf
          exact px_retI X hr hlk w dX6_turn_55
