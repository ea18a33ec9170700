set_option maxHeartbeats 4000000 in
set_option maxRecDepth 100000 in
theorem nC_Functions (l : Launch) (D : va_G) (cs : Nat → ClassId) (h0 : Nat) : px_mN l D (tyC cs) yX0_init cX0_init 1 1 4 190 (fun _ => True) [.ref h0] [(h0, .inr (0, [.null, .null, .null, .null]))] (fun a => [(h0, .inr (0, [.ref (a 0), .ref (a 1), .ref (a 2), .ref (a 3)])), ((a 0), .inl (cs 0, 10, .inl (fun _ => 0))), ((a 1), .inl (cs 0, 60, .inl (fun _ => 0))), ((a 2), .inl (cs 0, 60, .inl (fun _ => 0))), ((a 3), .inl (cs 0, 60, .inl (fun _ => 0)))]) := by
  refine px_ofN (by decide +kernel) rfl (Nat.le_of_ble_eq_true rfl) ?_
  intro p e s m below meth c A ls X hr hlk hin hml hE hP hD hS hA hl
  have hl : lv_has ls 1 [(0, .ref h0)] := hl
  refine lv_aload_n X.1 X.2.1 dX0_init_0 rfl (lv_at hl 0 rfl) ?_
  refine px_oi X hml hl (px_tb (by decide +kernel) (by decide +kernel)) (px_tb (by decide +kernel) (by decide +kernel)) (px_tb (by decide +kernel) (by decide +kernel)) dX0_init_1 (Nat.le_of_ble_eq_true rfl) (Nat.le_of_ble_eq_true rfl) ?_
  refine lv_aload_n X.1 X.2.1 dX0_init_4 rfl (lv_at hl 0 rfl) ?_
  refine lv_bipush (v := (10 : Int32)) X.1 X.2.1 dX0_init_5 (by decide) ?_
  refine px_newI X hP hD hS hA 0 rfl (px_tb (by decide +kernel) (by decide +kernel)) (N := 10) (by decide) (by decide) (by decide) (Nat.le_of_ble_eq_true rfl) (Nat.le_of_ble_eq_true rfl) dX0_init_7 (fun q1 H hP hD hS => ?_)
  have hP : va_P D vwCl [(h0, .inr (0, [.null, .null, .null, .null])), (q1, .inl (cs 0, 10, .inl (fun _ => 0)))] H := hP
  have hD : va_D A [(h0, .inr (0, [.null, .null, .null, .null])), (q1, .inl (cs 0, 10, .inl (fun _ => 0)))] := hD
  refine W.widen (k := 1) (n := 10) (by decide) (by decide) ?_
  refine va_putF (D := D) (ci := 0) (v := .ref q1) (ty := .array .int) (C := RX0) (T := TX0) (N := 4) X.1 X.2.1 X.2.2.1 wu_X0 tyX0 tyX0_ok nmX0 X.2.2.2.1 X.2.2.2.2 hP hD hS 0 rfl rfl 0 (by decide) (X.2.2.1 _ wf_X0_0) (fun _ h => h) rfl hin rfl (by decide +kernel) rfl rfl (Nat.le_of_ble_eq_true rfl) dX0_init_9 (fun H locs hP hD hS => ?_)
  have hP : va_P D vwCl [(h0, .inr (0, [.ref q1, .null, .null, .null])), (q1, .inl (cs 0, 10, .inl (fun _ => 0)))] H := hP
  have hD : va_D A [(h0, .inr (0, [.ref q1, .null, .null, .null])), (q1, .inl (cs 0, 10, .inl (fun _ => 0)))] := hD
  refine lv_aload_n X.1 X.2.1 dX0_init_12 rfl (lv_at hl 0 rfl) ?_
  refine lv_bipush (v := (60 : Int32)) X.1 X.2.1 dX0_init_13 (by decide) ?_
  refine px_newI X hP hD hS hA 0 rfl (px_tb (by decide +kernel) (by decide +kernel)) (N := 60) (by decide) (by decide) (by decide) (Nat.le_of_ble_eq_true rfl) (Nat.le_of_ble_eq_true rfl) dX0_init_15 (fun q2 H hP hD hS => ?_)
  have hP : va_P D vwCl [(h0, .inr (0, [.ref q1, .null, .null, .null])), (q1, .inl (cs 0, 10, .inl (fun _ => 0))), (q2, .inl (cs 0, 60, .inl (fun _ => 0)))] H := hP
  have hD : va_D A [(h0, .inr (0, [.ref q1, .null, .null, .null])), (q1, .inl (cs 0, 10, .inl (fun _ => 0))), (q2, .inl (cs 0, 60, .inl (fun _ => 0)))] := hD
  refine W.widen (k := 2) (n := 70) (by decide) (by decide) ?_
  refine va_putF (D := D) (ci := 0) (v := .ref q2) (ty := .array .int) (C := RX0) (T := TX0) (N := 4) X.1 X.2.1 X.2.2.1 wu_X0 tyX0 tyX0_ok nmX0 X.2.2.2.1 X.2.2.2.2 hP hD hS 0 rfl rfl 1 (by decide) (X.2.2.1 _ wf_X0_1) (fun _ h => h) rfl hin rfl (by decide +kernel) rfl rfl (Nat.le_of_ble_eq_true rfl) dX0_init_17 (fun H locs hP hD hS => ?_)
  have hP : va_P D vwCl [(h0, .inr (0, [.ref q1, .ref q2, .null, .null])), (q1, .inl (cs 0, 10, .inl (fun _ => 0))), (q2, .inl (cs 0, 60, .inl (fun _ => 0)))] H := hP
  have hD : va_D A [(h0, .inr (0, [.ref q1, .ref q2, .null, .null])), (q1, .inl (cs 0, 10, .inl (fun _ => 0))), (q2, .inl (cs 0, 60, .inl (fun _ => 0)))] := hD
  refine lv_aload_n X.1 X.2.1 dX0_init_20 rfl (lv_at hl 0 rfl) ?_
  refine lv_bipush (v := (60 : Int32)) X.1 X.2.1 dX0_init_21 (by decide) ?_
  refine px_newI X hP hD hS hA 0 rfl (px_tb (by decide +kernel) (by decide +kernel)) (N := 60) (by decide) (by decide) (by decide) (Nat.le_of_ble_eq_true rfl) (Nat.le_of_ble_eq_true rfl) dX0_init_23 (fun q3 H hP hD hS => ?_)
  have hP : va_P D vwCl [(h0, .inr (0, [.ref q1, .ref q2, .null, .null])), (q1, .inl (cs 0, 10, .inl (fun _ => 0))), (q2, .inl (cs 0, 60, .inl (fun _ => 0))), (q3, .inl (cs 0, 60, .inl (fun _ => 0)))] H := hP
  have hD : va_D A [(h0, .inr (0, [.ref q1, .ref q2, .null, .null])), (q1, .inl (cs 0, 10, .inl (fun _ => 0))), (q2, .inl (cs 0, 60, .inl (fun _ => 0))), (q3, .inl (cs 0, 60, .inl (fun _ => 0)))] := hD
  refine W.widen (k := 3) (n := 130) (by decide) (by decide) ?_
  refine va_putF (D := D) (ci := 0) (v := .ref q3) (ty := .array .int) (C := RX0) (T := TX0) (N := 4) X.1 X.2.1 X.2.2.1 wu_X0 tyX0 tyX0_ok nmX0 X.2.2.2.1 X.2.2.2.2 hP hD hS 0 rfl rfl 2 (by decide) (X.2.2.1 _ wf_X0_2) (fun _ h => h) rfl hin rfl (by decide +kernel) rfl rfl (Nat.le_of_ble_eq_true rfl) dX0_init_25 (fun H locs hP hD hS => ?_)
  have hP : va_P D vwCl [(h0, .inr (0, [.ref q1, .ref q2, .ref q3, .null])), (q1, .inl (cs 0, 10, .inl (fun _ => 0))), (q2, .inl (cs 0, 60, .inl (fun _ => 0))), (q3, .inl (cs 0, 60, .inl (fun _ => 0)))] H := hP
  have hD : va_D A [(h0, .inr (0, [.ref q1, .ref q2, .ref q3, .null])), (q1, .inl (cs 0, 10, .inl (fun _ => 0))), (q2, .inl (cs 0, 60, .inl (fun _ => 0))), (q3, .inl (cs 0, 60, .inl (fun _ => 0)))] := hD
  refine lv_aload_n X.1 X.2.1 dX0_init_28 rfl (lv_at hl 0 rfl) ?_
  refine lv_bipush (v := (60 : Int32)) X.1 X.2.1 dX0_init_29 (by decide) ?_
  refine px_newI X hP hD hS hA 0 rfl (px_tb (by decide +kernel) (by decide +kernel)) (N := 60) (by decide) (by decide) (by decide) (Nat.le_of_ble_eq_true rfl) (Nat.le_of_ble_eq_true rfl) dX0_init_31 (fun q4 H hP hD hS => ?_)
  have hP : va_P D vwCl [(h0, .inr (0, [.ref q1, .ref q2, .ref q3, .null])), (q1, .inl (cs 0, 10, .inl (fun _ => 0))), (q2, .inl (cs 0, 60, .inl (fun _ => 0))), (q3, .inl (cs 0, 60, .inl (fun _ => 0))), (q4, .inl (cs 0, 60, .inl (fun _ => 0)))] H := hP
  have hD : va_D A [(h0, .inr (0, [.ref q1, .ref q2, .ref q3, .null])), (q1, .inl (cs 0, 10, .inl (fun _ => 0))), (q2, .inl (cs 0, 60, .inl (fun _ => 0))), (q3, .inl (cs 0, 60, .inl (fun _ => 0))), (q4, .inl (cs 0, 60, .inl (fun _ => 0)))] := hD
  refine W.widen (k := 4) (n := 190) (by decide) (by decide) ?_
  refine va_putF (D := D) (ci := 0) (v := .ref q4) (ty := .array .int) (C := RX0) (T := TX0) (N := 4) X.1 X.2.1 X.2.2.1 wu_X0 tyX0 tyX0_ok nmX0 X.2.2.2.1 X.2.2.2.2 hP hD hS 0 rfl rfl 3 (by decide) (X.2.2.1 _ wf_X0_3) (fun _ h => h) rfl hin rfl (by decide +kernel) rfl rfl (Nat.le_of_ble_eq_true rfl) dX0_init_33 (fun H locs hP hD hS => ?_)
  have hP : va_P D vwCl [(h0, .inr (0, [.ref q1, .ref q2, .ref q3, .ref q4])), (q1, .inl (cs 0, 10, .inl (fun _ => 0))), (q2, .inl (cs 0, 60, .inl (fun _ => 0))), (q3, .inl (cs 0, 60, .inl (fun _ => 0))), (q4, .inl (cs 0, 60, .inl (fun _ => 0)))] H := hP
  have hD : va_D A [(h0, .inr (0, [.ref q1, .ref q2, .ref q3, .ref q4])), (q1, .inl (cs 0, 10, .inl (fun _ => 0))), (q2, .inl (cs 0, 60, .inl (fun _ => 0))), (q3, .inl (cs 0, 60, .inl (fun _ => 0))), (q4, .inl (cs 0, 60, .inl (fun _ => 0)))] := hD
  exact px_retN X hr hlk hP hD hS (fun j => if j = 0 then q1 else if j = 1 then q2 else if j = 2 then q3 else if j = 3 then q4 else 0) rfl (Nat.le_refl _) (Nat.le_refl _) dX0_init_36
set_option maxHeartbeats 4000000 in
set_option maxRecDepth 100000 in
theorem nC_Line_40 (l : Launch) (D : va_G) (cs : Nat → ClassId) (h0 : Nat) : px_mN l D (tyC cs) yX2_init cX2_init 2 1 3 120 (fun _ => True) [.ref h0, .int (40 : Int32)] [(h0, .inr (2, [.int 0, .null, .null, .null, .int 0, .int 0]))] (fun a => [(h0, .inr (2, [.int (40 : Int32), .ref (a 0), .ref (a 1), .ref (a 2), .int (0 : Int32), .int (0 : Int32)])), ((a 0), .inl (cs 0, 40, .inl (fun _ => 0))), ((a 1), .inl (cs 0, 40, .inl (fun _ => 0))), ((a 2), .inl (cs 0, 40, .inl (fun _ => 0)))]) := by
  refine px_ofN (by decide +kernel) rfl (Nat.le_of_ble_eq_true rfl) ?_
  intro p e s m below meth c A ls X hr hlk hin hml hE hP hD hS hA hl
  have hl : lv_has ls 2 [(0, .ref h0), (1, .int (40 : Int32))] := hl
  refine lv_aload_n X.1 X.2.1 dX2_init_0 rfl (lv_at hl 0 rfl) ?_
  refine px_oi X hml hl (px_tb (by decide +kernel) (by decide +kernel)) (px_tb (by decide +kernel) (by decide +kernel)) (px_tb (by decide +kernel) (by decide +kernel)) dX2_init_1 (Nat.le_of_ble_eq_true rfl) (Nat.le_of_ble_eq_true rfl) ?_
  refine lv_aload_n X.1 X.2.1 dX2_init_4 rfl (lv_at hl 0 rfl) ?_
  refine lv_iconst (v := (0 : Int32)) X.1 X.2.1 dX2_init_5 (by decide) ?_
  refine va_put (D := D) (ci := 2) (v := .int (0 : Int32)) (ty := .int) (C := RX2) (T := TX2) (N := 6) X.1 X.2.1 X.2.2.1 wu_X2 tyX2 tyX2_ok nmX2 X.2.2.2.1 X.2.2.2.2 hP hD hS 0 rfl rfl 4 (by decide) (X.2.2.1 _ wf_X2_4) (fun _ h => h) rfl (by decide +kernel) rfl rfl (Nat.le_of_ble_eq_true rfl) dX2_init_6 (fun H locs hP hD hS => ?_)
  have hP : va_P D vwCl [(h0, .inr (2, [.int 0, .null, .null, .null, .int (0 : Int32), .int 0]))] H := hP
  have hD : va_D A [(h0, .inr (2, [.int 0, .null, .null, .null, .int (0 : Int32), .int 0]))] := hD
  refine lv_aload_n X.1 X.2.1 dX2_init_9 rfl (lv_at hl 0 rfl) ?_
  refine lv_iconst (v := (0 : Int32)) X.1 X.2.1 dX2_init_10 (by decide) ?_
  refine va_put (D := D) (ci := 2) (v := .int (0 : Int32)) (ty := .int) (C := RX2) (T := TX2) (N := 6) X.1 X.2.1 X.2.2.1 wu_X2 tyX2 tyX2_ok nmX2 X.2.2.2.1 X.2.2.2.2 hP hD hS 0 rfl rfl 5 (by decide) (X.2.2.1 _ wf_X2_5) (fun _ h => h) rfl (by decide +kernel) rfl rfl (Nat.le_of_ble_eq_true rfl) dX2_init_11 (fun H locs hP hD hS => ?_)
  have hP : va_P D vwCl [(h0, .inr (2, [.int 0, .null, .null, .null, .int (0 : Int32), .int (0 : Int32)]))] H := hP
  have hD : va_D A [(h0, .inr (2, [.int 0, .null, .null, .null, .int (0 : Int32), .int (0 : Int32)]))] := hD
  refine lv_aload_n X.1 X.2.1 dX2_init_14 rfl (lv_at hl 0 rfl) ?_
  refine lv_iload_n X.1 X.2.1 dX2_init_15 rfl (lv_at hl 1 rfl) ?_
  refine va_putF (D := D) (ci := 2) (v := .int (40 : Int32)) (ty := .int) (C := RX2) (T := TX2) (N := 6) X.1 X.2.1 X.2.2.1 wu_X2 tyX2 tyX2_ok nmX2 X.2.2.2.1 X.2.2.2.2 hP hD hS 0 rfl rfl 0 (by decide) (X.2.2.1 _ wf_X2_0) (fun _ h => h) rfl hin rfl (by decide +kernel) rfl rfl (Nat.le_of_ble_eq_true rfl) dX2_init_16 (fun H locs hP hD hS => ?_)
  have hP : va_P D vwCl [(h0, .inr (2, [.int (40 : Int32), .null, .null, .null, .int (0 : Int32), .int (0 : Int32)]))] H := hP
  have hD : va_D A [(h0, .inr (2, [.int (40 : Int32), .null, .null, .null, .int (0 : Int32), .int (0 : Int32)]))] := hD
  refine lv_aload_n X.1 X.2.1 dX2_init_19 rfl (lv_at hl 0 rfl) ?_
  refine lv_iload_n X.1 X.2.1 dX2_init_20 rfl (lv_at hl 1 rfl) ?_
  refine px_newI X hP hD hS hA 0 rfl (px_tb (by decide +kernel) (by decide +kernel)) (N := 40) (by decide) (by decide) (by decide) (Nat.le_of_ble_eq_true rfl) (Nat.le_of_ble_eq_true rfl) dX2_init_21 (fun q1 H hP hD hS => ?_)
  have hP : va_P D vwCl [(h0, .inr (2, [.int (40 : Int32), .null, .null, .null, .int (0 : Int32), .int (0 : Int32)])), (q1, .inl (cs 0, 40, .inl (fun _ => 0)))] H := hP
  have hD : va_D A [(h0, .inr (2, [.int (40 : Int32), .null, .null, .null, .int (0 : Int32), .int (0 : Int32)])), (q1, .inl (cs 0, 40, .inl (fun _ => 0)))] := hD
  refine W.widen (k := 1) (n := 40) (by decide) (by decide) ?_
  refine va_putF (D := D) (ci := 2) (v := .ref q1) (ty := .array .int) (C := RX2) (T := TX2) (N := 6) X.1 X.2.1 X.2.2.1 wu_X2 tyX2 tyX2_ok nmX2 X.2.2.2.1 X.2.2.2.2 hP hD hS 0 rfl rfl 1 (by decide) (X.2.2.1 _ wf_X2_1) (fun _ h => h) rfl hin rfl (by decide +kernel) rfl rfl (Nat.le_of_ble_eq_true rfl) dX2_init_23 (fun H locs hP hD hS => ?_)
  have hP : va_P D vwCl [(h0, .inr (2, [.int (40 : Int32), .ref q1, .null, .null, .int (0 : Int32), .int (0 : Int32)])), (q1, .inl (cs 0, 40, .inl (fun _ => 0)))] H := hP
  have hD : va_D A [(h0, .inr (2, [.int (40 : Int32), .ref q1, .null, .null, .int (0 : Int32), .int (0 : Int32)])), (q1, .inl (cs 0, 40, .inl (fun _ => 0)))] := hD
  refine lv_aload_n X.1 X.2.1 dX2_init_26 rfl (lv_at hl 0 rfl) ?_
  refine lv_iload_n X.1 X.2.1 dX2_init_27 rfl (lv_at hl 1 rfl) ?_
  refine px_newI X hP hD hS hA 0 rfl (px_tb (by decide +kernel) (by decide +kernel)) (N := 40) (by decide) (by decide) (by decide) (Nat.le_of_ble_eq_true rfl) (Nat.le_of_ble_eq_true rfl) dX2_init_28 (fun q2 H hP hD hS => ?_)
  have hP : va_P D vwCl [(h0, .inr (2, [.int (40 : Int32), .ref q1, .null, .null, .int (0 : Int32), .int (0 : Int32)])), (q1, .inl (cs 0, 40, .inl (fun _ => 0))), (q2, .inl (cs 0, 40, .inl (fun _ => 0)))] H := hP
  have hD : va_D A [(h0, .inr (2, [.int (40 : Int32), .ref q1, .null, .null, .int (0 : Int32), .int (0 : Int32)])), (q1, .inl (cs 0, 40, .inl (fun _ => 0))), (q2, .inl (cs 0, 40, .inl (fun _ => 0)))] := hD
  refine W.widen (k := 2) (n := 80) (by decide) (by decide) ?_
  refine va_putF (D := D) (ci := 2) (v := .ref q2) (ty := .array .int) (C := RX2) (T := TX2) (N := 6) X.1 X.2.1 X.2.2.1 wu_X2 tyX2 tyX2_ok nmX2 X.2.2.2.1 X.2.2.2.2 hP hD hS 0 rfl rfl 2 (by decide) (X.2.2.1 _ wf_X2_2) (fun _ h => h) rfl hin rfl (by decide +kernel) rfl rfl (Nat.le_of_ble_eq_true rfl) dX2_init_30 (fun H locs hP hD hS => ?_)
  have hP : va_P D vwCl [(h0, .inr (2, [.int (40 : Int32), .ref q1, .ref q2, .null, .int (0 : Int32), .int (0 : Int32)])), (q1, .inl (cs 0, 40, .inl (fun _ => 0))), (q2, .inl (cs 0, 40, .inl (fun _ => 0)))] H := hP
  have hD : va_D A [(h0, .inr (2, [.int (40 : Int32), .ref q1, .ref q2, .null, .int (0 : Int32), .int (0 : Int32)])), (q1, .inl (cs 0, 40, .inl (fun _ => 0))), (q2, .inl (cs 0, 40, .inl (fun _ => 0)))] := hD
  refine lv_aload_n X.1 X.2.1 dX2_init_33 rfl (lv_at hl 0 rfl) ?_
  refine lv_iload_n X.1 X.2.1 dX2_init_34 rfl (lv_at hl 1 rfl) ?_
  refine px_newI X hP hD hS hA 0 rfl (px_tb (by decide +kernel) (by decide +kernel)) (N := 40) (by decide) (by decide) (by decide) (Nat.le_of_ble_eq_true rfl) (Nat.le_of_ble_eq_true rfl) dX2_init_35 (fun q3 H hP hD hS => ?_)
  have hP : va_P D vwCl [(h0, .inr (2, [.int (40 : Int32), .ref q1, .ref q2, .null, .int (0 : Int32), .int (0 : Int32)])), (q1, .inl (cs 0, 40, .inl (fun _ => 0))), (q2, .inl (cs 0, 40, .inl (fun _ => 0))), (q3, .inl (cs 0, 40, .inl (fun _ => 0)))] H := hP
  have hD : va_D A [(h0, .inr (2, [.int (40 : Int32), .ref q1, .ref q2, .null, .int (0 : Int32), .int (0 : Int32)])), (q1, .inl (cs 0, 40, .inl (fun _ => 0))), (q2, .inl (cs 0, 40, .inl (fun _ => 0))), (q3, .inl (cs 0, 40, .inl (fun _ => 0)))] := hD
  refine W.widen (k := 3) (n := 120) (by decide) (by decide) ?_
  refine va_putF (D := D) (ci := 2) (v := .ref q3) (ty := .array .int) (C := RX2) (T := TX2) (N := 6) X.1 X.2.1 X.2.2.1 wu_X2 tyX2 tyX2_ok nmX2 X.2.2.2.1 X.2.2.2.2 hP hD hS 0 rfl rfl 3 (by decide) (X.2.2.1 _ wf_X2_3) (fun _ h => h) rfl hin rfl (by decide +kernel) rfl rfl (Nat.le_of_ble_eq_true rfl) dX2_init_37 (fun H locs hP hD hS => ?_)
  have hP : va_P D vwCl [(h0, .inr (2, [.int (40 : Int32), .ref q1, .ref q2, .ref q3, .int (0 : Int32), .int (0 : Int32)])), (q1, .inl (cs 0, 40, .inl (fun _ => 0))), (q2, .inl (cs 0, 40, .inl (fun _ => 0))), (q3, .inl (cs 0, 40, .inl (fun _ => 0)))] H := hP
  have hD : va_D A [(h0, .inr (2, [.int (40 : Int32), .ref q1, .ref q2, .ref q3, .int (0 : Int32), .int (0 : Int32)])), (q1, .inl (cs 0, 40, .inl (fun _ => 0))), (q2, .inl (cs 0, 40, .inl (fun _ => 0))), (q3, .inl (cs 0, 40, .inl (fun _ => 0)))] := hD
  exact px_retN X hr hlk hP hD hS (fun j => if j = 0 then q1 else if j = 1 then q2 else if j = 2 then q3 else 0) rfl (Nat.le_refl _) (Nat.le_refl _) dX2_init_40
set_option maxHeartbeats 4000000 in
set_option maxRecDepth 100000 in
theorem nC_Line_1051 (l : Launch) (D : va_G) (cs : Nat → ClassId) (h0 : Nat) : px_mN l D (tyC cs) yX2_init cX2_init 2 1 3 3153 (fun _ => True) [.ref h0, .int (1051 : Int32)] [(h0, .inr (2, [.int 0, .null, .null, .null, .int 0, .int 0]))] (fun a => [(h0, .inr (2, [.int (1051 : Int32), .ref (a 0), .ref (a 1), .ref (a 2), .int (0 : Int32), .int (0 : Int32)])), ((a 0), .inl (cs 0, 1051, .inl (fun _ => 0))), ((a 1), .inl (cs 0, 1051, .inl (fun _ => 0))), ((a 2), .inl (cs 0, 1051, .inl (fun _ => 0)))]) := by
  refine px_ofN (by decide +kernel) rfl (Nat.le_of_ble_eq_true rfl) ?_
  intro p e s m below meth c A ls X hr hlk hin hml hE hP hD hS hA hl
  have hl : lv_has ls 2 [(0, .ref h0), (1, .int (1051 : Int32))] := hl
  refine lv_aload_n X.1 X.2.1 dX2_init_0 rfl (lv_at hl 0 rfl) ?_
  refine px_oi X hml hl (px_tb (by decide +kernel) (by decide +kernel)) (px_tb (by decide +kernel) (by decide +kernel)) (px_tb (by decide +kernel) (by decide +kernel)) dX2_init_1 (Nat.le_of_ble_eq_true rfl) (Nat.le_of_ble_eq_true rfl) ?_
  refine lv_aload_n X.1 X.2.1 dX2_init_4 rfl (lv_at hl 0 rfl) ?_
  refine lv_iconst (v := (0 : Int32)) X.1 X.2.1 dX2_init_5 (by decide) ?_
  refine va_put (D := D) (ci := 2) (v := .int (0 : Int32)) (ty := .int) (C := RX2) (T := TX2) (N := 6) X.1 X.2.1 X.2.2.1 wu_X2 tyX2 tyX2_ok nmX2 X.2.2.2.1 X.2.2.2.2 hP hD hS 0 rfl rfl 4 (by decide) (X.2.2.1 _ wf_X2_4) (fun _ h => h) rfl (by decide +kernel) rfl rfl (Nat.le_of_ble_eq_true rfl) dX2_init_6 (fun H locs hP hD hS => ?_)
  have hP : va_P D vwCl [(h0, .inr (2, [.int 0, .null, .null, .null, .int (0 : Int32), .int 0]))] H := hP
  have hD : va_D A [(h0, .inr (2, [.int 0, .null, .null, .null, .int (0 : Int32), .int 0]))] := hD
  refine lv_aload_n X.1 X.2.1 dX2_init_9 rfl (lv_at hl 0 rfl) ?_
  refine lv_iconst (v := (0 : Int32)) X.1 X.2.1 dX2_init_10 (by decide) ?_
  refine va_put (D := D) (ci := 2) (v := .int (0 : Int32)) (ty := .int) (C := RX2) (T := TX2) (N := 6) X.1 X.2.1 X.2.2.1 wu_X2 tyX2 tyX2_ok nmX2 X.2.2.2.1 X.2.2.2.2 hP hD hS 0 rfl rfl 5 (by decide) (X.2.2.1 _ wf_X2_5) (fun _ h => h) rfl (by decide +kernel) rfl rfl (Nat.le_of_ble_eq_true rfl) dX2_init_11 (fun H locs hP hD hS => ?_)
  have hP : va_P D vwCl [(h0, .inr (2, [.int 0, .null, .null, .null, .int (0 : Int32), .int (0 : Int32)]))] H := hP
  have hD : va_D A [(h0, .inr (2, [.int 0, .null, .null, .null, .int (0 : Int32), .int (0 : Int32)]))] := hD
  refine lv_aload_n X.1 X.2.1 dX2_init_14 rfl (lv_at hl 0 rfl) ?_
  refine lv_iload_n X.1 X.2.1 dX2_init_15 rfl (lv_at hl 1 rfl) ?_
  refine va_putF (D := D) (ci := 2) (v := .int (1051 : Int32)) (ty := .int) (C := RX2) (T := TX2) (N := 6) X.1 X.2.1 X.2.2.1 wu_X2 tyX2 tyX2_ok nmX2 X.2.2.2.1 X.2.2.2.2 hP hD hS 0 rfl rfl 0 (by decide) (X.2.2.1 _ wf_X2_0) (fun _ h => h) rfl hin rfl (by decide +kernel) rfl rfl (Nat.le_of_ble_eq_true rfl) dX2_init_16 (fun H locs hP hD hS => ?_)
  have hP : va_P D vwCl [(h0, .inr (2, [.int (1051 : Int32), .null, .null, .null, .int (0 : Int32), .int (0 : Int32)]))] H := hP
  have hD : va_D A [(h0, .inr (2, [.int (1051 : Int32), .null, .null, .null, .int (0 : Int32), .int (0 : Int32)]))] := hD
  refine lv_aload_n X.1 X.2.1 dX2_init_19 rfl (lv_at hl 0 rfl) ?_
  refine lv_iload_n X.1 X.2.1 dX2_init_20 rfl (lv_at hl 1 rfl) ?_
  refine px_newI X hP hD hS hA 0 rfl (px_tb (by decide +kernel) (by decide +kernel)) (N := 1051) (by decide) (by decide) (by decide) (Nat.le_of_ble_eq_true rfl) (Nat.le_of_ble_eq_true rfl) dX2_init_21 (fun q1 H hP hD hS => ?_)
  have hP : va_P D vwCl [(h0, .inr (2, [.int (1051 : Int32), .null, .null, .null, .int (0 : Int32), .int (0 : Int32)])), (q1, .inl (cs 0, 1051, .inl (fun _ => 0)))] H := hP
  have hD : va_D A [(h0, .inr (2, [.int (1051 : Int32), .null, .null, .null, .int (0 : Int32), .int (0 : Int32)])), (q1, .inl (cs 0, 1051, .inl (fun _ => 0)))] := hD
  refine W.widen (k := 1) (n := 1051) (by decide) (by decide) ?_
  refine va_putF (D := D) (ci := 2) (v := .ref q1) (ty := .array .int) (C := RX2) (T := TX2) (N := 6) X.1 X.2.1 X.2.2.1 wu_X2 tyX2 tyX2_ok nmX2 X.2.2.2.1 X.2.2.2.2 hP hD hS 0 rfl rfl 1 (by decide) (X.2.2.1 _ wf_X2_1) (fun _ h => h) rfl hin rfl (by decide +kernel) rfl rfl (Nat.le_of_ble_eq_true rfl) dX2_init_23 (fun H locs hP hD hS => ?_)
  have hP : va_P D vwCl [(h0, .inr (2, [.int (1051 : Int32), .ref q1, .null, .null, .int (0 : Int32), .int (0 : Int32)])), (q1, .inl (cs 0, 1051, .inl (fun _ => 0)))] H := hP
  have hD : va_D A [(h0, .inr (2, [.int (1051 : Int32), .ref q1, .null, .null, .int (0 : Int32), .int (0 : Int32)])), (q1, .inl (cs 0, 1051, .inl (fun _ => 0)))] := hD
  refine lv_aload_n X.1 X.2.1 dX2_init_26 rfl (lv_at hl 0 rfl) ?_
  refine lv_iload_n X.1 X.2.1 dX2_init_27 rfl (lv_at hl 1 rfl) ?_
  refine px_newI X hP hD hS hA 0 rfl (px_tb (by decide +kernel) (by decide +kernel)) (N := 1051) (by decide) (by decide) (by decide) (Nat.le_of_ble_eq_true rfl) (Nat.le_of_ble_eq_true rfl) dX2_init_28 (fun q2 H hP hD hS => ?_)
  have hP : va_P D vwCl [(h0, .inr (2, [.int (1051 : Int32), .ref q1, .null, .null, .int (0 : Int32), .int (0 : Int32)])), (q1, .inl (cs 0, 1051, .inl (fun _ => 0))), (q2, .inl (cs 0, 1051, .inl (fun _ => 0)))] H := hP
  have hD : va_D A [(h0, .inr (2, [.int (1051 : Int32), .ref q1, .null, .null, .int (0 : Int32), .int (0 : Int32)])), (q1, .inl (cs 0, 1051, .inl (fun _ => 0))), (q2, .inl (cs 0, 1051, .inl (fun _ => 0)))] := hD
  refine W.widen (k := 2) (n := 2102) (by decide) (by decide) ?_
  refine va_putF (D := D) (ci := 2) (v := .ref q2) (ty := .array .int) (C := RX2) (T := TX2) (N := 6) X.1 X.2.1 X.2.2.1 wu_X2 tyX2 tyX2_ok nmX2 X.2.2.2.1 X.2.2.2.2 hP hD hS 0 rfl rfl 2 (by decide) (X.2.2.1 _ wf_X2_2) (fun _ h => h) rfl hin rfl (by decide +kernel) rfl rfl (Nat.le_of_ble_eq_true rfl) dX2_init_30 (fun H locs hP hD hS => ?_)
  have hP : va_P D vwCl [(h0, .inr (2, [.int (1051 : Int32), .ref q1, .ref q2, .null, .int (0 : Int32), .int (0 : Int32)])), (q1, .inl (cs 0, 1051, .inl (fun _ => 0))), (q2, .inl (cs 0, 1051, .inl (fun _ => 0)))] H := hP
  have hD : va_D A [(h0, .inr (2, [.int (1051 : Int32), .ref q1, .ref q2, .null, .int (0 : Int32), .int (0 : Int32)])), (q1, .inl (cs 0, 1051, .inl (fun _ => 0))), (q2, .inl (cs 0, 1051, .inl (fun _ => 0)))] := hD
  refine lv_aload_n X.1 X.2.1 dX2_init_33 rfl (lv_at hl 0 rfl) ?_
  refine lv_iload_n X.1 X.2.1 dX2_init_34 rfl (lv_at hl 1 rfl) ?_
  refine px_newI X hP hD hS hA 0 rfl (px_tb (by decide +kernel) (by decide +kernel)) (N := 1051) (by decide) (by decide) (by decide) (Nat.le_of_ble_eq_true rfl) (Nat.le_of_ble_eq_true rfl) dX2_init_35 (fun q3 H hP hD hS => ?_)
  have hP : va_P D vwCl [(h0, .inr (2, [.int (1051 : Int32), .ref q1, .ref q2, .null, .int (0 : Int32), .int (0 : Int32)])), (q1, .inl (cs 0, 1051, .inl (fun _ => 0))), (q2, .inl (cs 0, 1051, .inl (fun _ => 0))), (q3, .inl (cs 0, 1051, .inl (fun _ => 0)))] H := hP
  have hD : va_D A [(h0, .inr (2, [.int (1051 : Int32), .ref q1, .ref q2, .null, .int (0 : Int32), .int (0 : Int32)])), (q1, .inl (cs 0, 1051, .inl (fun _ => 0))), (q2, .inl (cs 0, 1051, .inl (fun _ => 0))), (q3, .inl (cs 0, 1051, .inl (fun _ => 0)))] := hD
  refine W.widen (k := 3) (n := 3153) (by decide) (by decide) ?_
  refine va_putF (D := D) (ci := 2) (v := .ref q3) (ty := .array .int) (C := RX2) (T := TX2) (N := 6) X.1 X.2.1 X.2.2.1 wu_X2 tyX2 tyX2_ok nmX2 X.2.2.2.1 X.2.2.2.2 hP hD hS 0 rfl rfl 3 (by decide) (X.2.2.1 _ wf_X2_3) (fun _ h => h) rfl hin rfl (by decide +kernel) rfl rfl (Nat.le_of_ble_eq_true rfl) dX2_init_37 (fun H locs hP hD hS => ?_)
  have hP : va_P D vwCl [(h0, .inr (2, [.int (1051 : Int32), .ref q1, .ref q2, .ref q3, .int (0 : Int32), .int (0 : Int32)])), (q1, .inl (cs 0, 1051, .inl (fun _ => 0))), (q2, .inl (cs 0, 1051, .inl (fun _ => 0))), (q3, .inl (cs 0, 1051, .inl (fun _ => 0)))] H := hP
  have hD : va_D A [(h0, .inr (2, [.int (1051 : Int32), .ref q1, .ref q2, .ref q3, .int (0 : Int32), .int (0 : Int32)])), (q1, .inl (cs 0, 1051, .inl (fun _ => 0))), (q2, .inl (cs 0, 1051, .inl (fun _ => 0))), (q3, .inl (cs 0, 1051, .inl (fun _ => 0)))] := hD
  exact px_retN X hr hlk hP hD hS (fun j => if j = 0 then q1 else if j = 1 then q2 else if j = 2 then q3 else 0) rfl (Nat.le_refl _) (Nat.le_refl _) dX2_init_40
set_option maxHeartbeats 4000000 in
set_option maxRecDepth 100000 in
theorem nC_Line_180 (l : Launch) (D : va_G) (cs : Nat → ClassId) (h0 : Nat) : px_mN l D (tyC cs) yX2_init cX2_init 2 1 3 540 (fun _ => True) [.ref h0, .int (180 : Int32)] [(h0, .inr (2, [.int 0, .null, .null, .null, .int 0, .int 0]))] (fun a => [(h0, .inr (2, [.int (180 : Int32), .ref (a 0), .ref (a 1), .ref (a 2), .int (0 : Int32), .int (0 : Int32)])), ((a 0), .inl (cs 0, 180, .inl (fun _ => 0))), ((a 1), .inl (cs 0, 180, .inl (fun _ => 0))), ((a 2), .inl (cs 0, 180, .inl (fun _ => 0)))]) := by
  refine px_ofN (by decide +kernel) rfl (Nat.le_of_ble_eq_true rfl) ?_
  intro p e s m below meth c A ls X hr hlk hin hml hE hP hD hS hA hl
  have hl : lv_has ls 2 [(0, .ref h0), (1, .int (180 : Int32))] := hl
  refine lv_aload_n X.1 X.2.1 dX2_init_0 rfl (lv_at hl 0 rfl) ?_
  refine px_oi X hml hl (px_tb (by decide +kernel) (by decide +kernel)) (px_tb (by decide +kernel) (by decide +kernel)) (px_tb (by decide +kernel) (by decide +kernel)) dX2_init_1 (Nat.le_of_ble_eq_true rfl) (Nat.le_of_ble_eq_true rfl) ?_
  refine lv_aload_n X.1 X.2.1 dX2_init_4 rfl (lv_at hl 0 rfl) ?_
  refine lv_iconst (v := (0 : Int32)) X.1 X.2.1 dX2_init_5 (by decide) ?_
  refine va_put (D := D) (ci := 2) (v := .int (0 : Int32)) (ty := .int) (C := RX2) (T := TX2) (N := 6) X.1 X.2.1 X.2.2.1 wu_X2 tyX2 tyX2_ok nmX2 X.2.2.2.1 X.2.2.2.2 hP hD hS 0 rfl rfl 4 (by decide) (X.2.2.1 _ wf_X2_4) (fun _ h => h) rfl (by decide +kernel) rfl rfl (Nat.le_of_ble_eq_true rfl) dX2_init_6 (fun H locs hP hD hS => ?_)
  have hP : va_P D vwCl [(h0, .inr (2, [.int 0, .null, .null, .null, .int (0 : Int32), .int 0]))] H := hP
  have hD : va_D A [(h0, .inr (2, [.int 0, .null, .null, .null, .int (0 : Int32), .int 0]))] := hD
  refine lv_aload_n X.1 X.2.1 dX2_init_9 rfl (lv_at hl 0 rfl) ?_
  refine lv_iconst (v := (0 : Int32)) X.1 X.2.1 dX2_init_10 (by decide) ?_
  refine va_put (D := D) (ci := 2) (v := .int (0 : Int32)) (ty := .int) (C := RX2) (T := TX2) (N := 6) X.1 X.2.1 X.2.2.1 wu_X2 tyX2 tyX2_ok nmX2 X.2.2.2.1 X.2.2.2.2 hP hD hS 0 rfl rfl 5 (by decide) (X.2.2.1 _ wf_X2_5) (fun _ h => h) rfl (by decide +kernel) rfl rfl (Nat.le_of_ble_eq_true rfl) dX2_init_11 (fun H locs hP hD hS => ?_)
  have hP : va_P D vwCl [(h0, .inr (2, [.int 0, .null, .null, .null, .int (0 : Int32), .int (0 : Int32)]))] H := hP
  have hD : va_D A [(h0, .inr (2, [.int 0, .null, .null, .null, .int (0 : Int32), .int (0 : Int32)]))] := hD
  refine lv_aload_n X.1 X.2.1 dX2_init_14 rfl (lv_at hl 0 rfl) ?_
  refine lv_iload_n X.1 X.2.1 dX2_init_15 rfl (lv_at hl 1 rfl) ?_
  refine va_putF (D := D) (ci := 2) (v := .int (180 : Int32)) (ty := .int) (C := RX2) (T := TX2) (N := 6) X.1 X.2.1 X.2.2.1 wu_X2 tyX2 tyX2_ok nmX2 X.2.2.2.1 X.2.2.2.2 hP hD hS 0 rfl rfl 0 (by decide) (X.2.2.1 _ wf_X2_0) (fun _ h => h) rfl hin rfl (by decide +kernel) rfl rfl (Nat.le_of_ble_eq_true rfl) dX2_init_16 (fun H locs hP hD hS => ?_)
  have hP : va_P D vwCl [(h0, .inr (2, [.int (180 : Int32), .null, .null, .null, .int (0 : Int32), .int (0 : Int32)]))] H := hP
  have hD : va_D A [(h0, .inr (2, [.int (180 : Int32), .null, .null, .null, .int (0 : Int32), .int (0 : Int32)]))] := hD
  refine lv_aload_n X.1 X.2.1 dX2_init_19 rfl (lv_at hl 0 rfl) ?_
  refine lv_iload_n X.1 X.2.1 dX2_init_20 rfl (lv_at hl 1 rfl) ?_
  refine px_newI X hP hD hS hA 0 rfl (px_tb (by decide +kernel) (by decide +kernel)) (N := 180) (by decide) (by decide) (by decide) (Nat.le_of_ble_eq_true rfl) (Nat.le_of_ble_eq_true rfl) dX2_init_21 (fun q1 H hP hD hS => ?_)
  have hP : va_P D vwCl [(h0, .inr (2, [.int (180 : Int32), .null, .null, .null, .int (0 : Int32), .int (0 : Int32)])), (q1, .inl (cs 0, 180, .inl (fun _ => 0)))] H := hP
  have hD : va_D A [(h0, .inr (2, [.int (180 : Int32), .null, .null, .null, .int (0 : Int32), .int (0 : Int32)])), (q1, .inl (cs 0, 180, .inl (fun _ => 0)))] := hD
  refine W.widen (k := 1) (n := 180) (by decide) (by decide) ?_
  refine va_putF (D := D) (ci := 2) (v := .ref q1) (ty := .array .int) (C := RX2) (T := TX2) (N := 6) X.1 X.2.1 X.2.2.1 wu_X2 tyX2 tyX2_ok nmX2 X.2.2.2.1 X.2.2.2.2 hP hD hS 0 rfl rfl 1 (by decide) (X.2.2.1 _ wf_X2_1) (fun _ h => h) rfl hin rfl (by decide +kernel) rfl rfl (Nat.le_of_ble_eq_true rfl) dX2_init_23 (fun H locs hP hD hS => ?_)
  have hP : va_P D vwCl [(h0, .inr (2, [.int (180 : Int32), .ref q1, .null, .null, .int (0 : Int32), .int (0 : Int32)])), (q1, .inl (cs 0, 180, .inl (fun _ => 0)))] H := hP
  have hD : va_D A [(h0, .inr (2, [.int (180 : Int32), .ref q1, .null, .null, .int (0 : Int32), .int (0 : Int32)])), (q1, .inl (cs 0, 180, .inl (fun _ => 0)))] := hD
  refine lv_aload_n X.1 X.2.1 dX2_init_26 rfl (lv_at hl 0 rfl) ?_
  refine lv_iload_n X.1 X.2.1 dX2_init_27 rfl (lv_at hl 1 rfl) ?_
  refine px_newI X hP hD hS hA 0 rfl (px_tb (by decide +kernel) (by decide +kernel)) (N := 180) (by decide) (by decide) (by decide) (Nat.le_of_ble_eq_true rfl) (Nat.le_of_ble_eq_true rfl) dX2_init_28 (fun q2 H hP hD hS => ?_)
  have hP : va_P D vwCl [(h0, .inr (2, [.int (180 : Int32), .ref q1, .null, .null, .int (0 : Int32), .int (0 : Int32)])), (q1, .inl (cs 0, 180, .inl (fun _ => 0))), (q2, .inl (cs 0, 180, .inl (fun _ => 0)))] H := hP
  have hD : va_D A [(h0, .inr (2, [.int (180 : Int32), .ref q1, .null, .null, .int (0 : Int32), .int (0 : Int32)])), (q1, .inl (cs 0, 180, .inl (fun _ => 0))), (q2, .inl (cs 0, 180, .inl (fun _ => 0)))] := hD
  refine W.widen (k := 2) (n := 360) (by decide) (by decide) ?_
  refine va_putF (D := D) (ci := 2) (v := .ref q2) (ty := .array .int) (C := RX2) (T := TX2) (N := 6) X.1 X.2.1 X.2.2.1 wu_X2 tyX2 tyX2_ok nmX2 X.2.2.2.1 X.2.2.2.2 hP hD hS 0 rfl rfl 2 (by decide) (X.2.2.1 _ wf_X2_2) (fun _ h => h) rfl hin rfl (by decide +kernel) rfl rfl (Nat.le_of_ble_eq_true rfl) dX2_init_30 (fun H locs hP hD hS => ?_)
  have hP : va_P D vwCl [(h0, .inr (2, [.int (180 : Int32), .ref q1, .ref q2, .null, .int (0 : Int32), .int (0 : Int32)])), (q1, .inl (cs 0, 180, .inl (fun _ => 0))), (q2, .inl (cs 0, 180, .inl (fun _ => 0)))] H := hP
  have hD : va_D A [(h0, .inr (2, [.int (180 : Int32), .ref q1, .ref q2, .null, .int (0 : Int32), .int (0 : Int32)])), (q1, .inl (cs 0, 180, .inl (fun _ => 0))), (q2, .inl (cs 0, 180, .inl (fun _ => 0)))] := hD
  refine lv_aload_n X.1 X.2.1 dX2_init_33 rfl (lv_at hl 0 rfl) ?_
  refine lv_iload_n X.1 X.2.1 dX2_init_34 rfl (lv_at hl 1 rfl) ?_
  refine px_newI X hP hD hS hA 0 rfl (px_tb (by decide +kernel) (by decide +kernel)) (N := 180) (by decide) (by decide) (by decide) (Nat.le_of_ble_eq_true rfl) (Nat.le_of_ble_eq_true rfl) dX2_init_35 (fun q3 H hP hD hS => ?_)
  have hP : va_P D vwCl [(h0, .inr (2, [.int (180 : Int32), .ref q1, .ref q2, .null, .int (0 : Int32), .int (0 : Int32)])), (q1, .inl (cs 0, 180, .inl (fun _ => 0))), (q2, .inl (cs 0, 180, .inl (fun _ => 0))), (q3, .inl (cs 0, 180, .inl (fun _ => 0)))] H := hP
  have hD : va_D A [(h0, .inr (2, [.int (180 : Int32), .ref q1, .ref q2, .null, .int (0 : Int32), .int (0 : Int32)])), (q1, .inl (cs 0, 180, .inl (fun _ => 0))), (q2, .inl (cs 0, 180, .inl (fun _ => 0))), (q3, .inl (cs 0, 180, .inl (fun _ => 0)))] := hD
  refine W.widen (k := 3) (n := 540) (by decide) (by decide) ?_
  refine va_putF (D := D) (ci := 2) (v := .ref q3) (ty := .array .int) (C := RX2) (T := TX2) (N := 6) X.1 X.2.1 X.2.2.1 wu_X2 tyX2 tyX2_ok nmX2 X.2.2.2.1 X.2.2.2.2 hP hD hS 0 rfl rfl 3 (by decide) (X.2.2.1 _ wf_X2_3) (fun _ h => h) rfl hin rfl (by decide +kernel) rfl rfl (Nat.le_of_ble_eq_true rfl) dX2_init_37 (fun H locs hP hD hS => ?_)
  have hP : va_P D vwCl [(h0, .inr (2, [.int (180 : Int32), .ref q1, .ref q2, .ref q3, .int (0 : Int32), .int (0 : Int32)])), (q1, .inl (cs 0, 180, .inl (fun _ => 0))), (q2, .inl (cs 0, 180, .inl (fun _ => 0))), (q3, .inl (cs 0, 180, .inl (fun _ => 0)))] H := hP
  have hD : va_D A [(h0, .inr (2, [.int (180 : Int32), .ref q1, .ref q2, .ref q3, .int (0 : Int32), .int (0 : Int32)])), (q1, .inl (cs 0, 180, .inl (fun _ => 0))), (q2, .inl (cs 0, 180, .inl (fun _ => 0))), (q3, .inl (cs 0, 180, .inl (fun _ => 0)))] := hD
  exact px_retN X hr hlk hP hD hS (fun j => if j = 0 then q1 else if j = 1 then q2 else if j = 2 then q3 else 0) rfl (Nat.le_refl _) (Nat.le_refl _) dX2_init_40
set_option maxHeartbeats 4000000 in
set_option maxRecDepth 100000 in
theorem nC_Line_8 (l : Launch) (D : va_G) (cs : Nat → ClassId) (h0 : Nat) : px_mN l D (tyC cs) yX2_init cX2_init 2 1 3 24 (fun _ => True) [.ref h0, .int (8 : Int32)] [(h0, .inr (2, [.int 0, .null, .null, .null, .int 0, .int 0]))] (fun a => [(h0, .inr (2, [.int (8 : Int32), .ref (a 0), .ref (a 1), .ref (a 2), .int (0 : Int32), .int (0 : Int32)])), ((a 0), .inl (cs 0, 8, .inl (fun _ => 0))), ((a 1), .inl (cs 0, 8, .inl (fun _ => 0))), ((a 2), .inl (cs 0, 8, .inl (fun _ => 0)))]) := by
  refine px_ofN (by decide +kernel) rfl (Nat.le_of_ble_eq_true rfl) ?_
  intro p e s m below meth c A ls X hr hlk hin hml hE hP hD hS hA hl
  have hl : lv_has ls 2 [(0, .ref h0), (1, .int (8 : Int32))] := hl
  refine lv_aload_n X.1 X.2.1 dX2_init_0 rfl (lv_at hl 0 rfl) ?_
  refine px_oi X hml hl (px_tb (by decide +kernel) (by decide +kernel)) (px_tb (by decide +kernel) (by decide +kernel)) (px_tb (by decide +kernel) (by decide +kernel)) dX2_init_1 (Nat.le_of_ble_eq_true rfl) (Nat.le_of_ble_eq_true rfl) ?_
  refine lv_aload_n X.1 X.2.1 dX2_init_4 rfl (lv_at hl 0 rfl) ?_
  refine lv_iconst (v := (0 : Int32)) X.1 X.2.1 dX2_init_5 (by decide) ?_
  refine va_put (D := D) (ci := 2) (v := .int (0 : Int32)) (ty := .int) (C := RX2) (T := TX2) (N := 6) X.1 X.2.1 X.2.2.1 wu_X2 tyX2 tyX2_ok nmX2 X.2.2.2.1 X.2.2.2.2 hP hD hS 0 rfl rfl 4 (by decide) (X.2.2.1 _ wf_X2_4) (fun _ h => h) rfl (by decide +kernel) rfl rfl (Nat.le_of_ble_eq_true rfl) dX2_init_6 (fun H locs hP hD hS => ?_)
  have hP : va_P D vwCl [(h0, .inr (2, [.int 0, .null, .null, .null, .int (0 : Int32), .int 0]))] H := hP
  have hD : va_D A [(h0, .inr (2, [.int 0, .null, .null, .null, .int (0 : Int32), .int 0]))] := hD
  refine lv_aload_n X.1 X.2.1 dX2_init_9 rfl (lv_at hl 0 rfl) ?_
  refine lv_iconst (v := (0 : Int32)) X.1 X.2.1 dX2_init_10 (by decide) ?_
  refine va_put (D := D) (ci := 2) (v := .int (0 : Int32)) (ty := .int) (C := RX2) (T := TX2) (N := 6) X.1 X.2.1 X.2.2.1 wu_X2 tyX2 tyX2_ok nmX2 X.2.2.2.1 X.2.2.2.2 hP hD hS 0 rfl rfl 5 (by decide) (X.2.2.1 _ wf_X2_5) (fun _ h => h) rfl (by decide +kernel) rfl rfl (Nat.le_of_ble_eq_true rfl) dX2_init_11 (fun H locs hP hD hS => ?_)
  have hP : va_P D vwCl [(h0, .inr (2, [.int 0, .null, .null, .null, .int (0 : Int32), .int (0 : Int32)]))] H := hP
  have hD : va_D A [(h0, .inr (2, [.int 0, .null, .null, .null, .int (0 : Int32), .int (0 : Int32)]))] := hD
  refine lv_aload_n X.1 X.2.1 dX2_init_14 rfl (lv_at hl 0 rfl) ?_
  refine lv_iload_n X.1 X.2.1 dX2_init_15 rfl (lv_at hl 1 rfl) ?_
  refine va_putF (D := D) (ci := 2) (v := .int (8 : Int32)) (ty := .int) (C := RX2) (T := TX2) (N := 6) X.1 X.2.1 X.2.2.1 wu_X2 tyX2 tyX2_ok nmX2 X.2.2.2.1 X.2.2.2.2 hP hD hS 0 rfl rfl 0 (by decide) (X.2.2.1 _ wf_X2_0) (fun _ h => h) rfl hin rfl (by decide +kernel) rfl rfl (Nat.le_of_ble_eq_true rfl) dX2_init_16 (fun H locs hP hD hS => ?_)
  have hP : va_P D vwCl [(h0, .inr (2, [.int (8 : Int32), .null, .null, .null, .int (0 : Int32), .int (0 : Int32)]))] H := hP
  have hD : va_D A [(h0, .inr (2, [.int (8 : Int32), .null, .null, .null, .int (0 : Int32), .int (0 : Int32)]))] := hD
  refine lv_aload_n X.1 X.2.1 dX2_init_19 rfl (lv_at hl 0 rfl) ?_
  refine lv_iload_n X.1 X.2.1 dX2_init_20 rfl (lv_at hl 1 rfl) ?_
  refine px_newI X hP hD hS hA 0 rfl (px_tb (by decide +kernel) (by decide +kernel)) (N := 8) (by decide) (by decide) (by decide) (Nat.le_of_ble_eq_true rfl) (Nat.le_of_ble_eq_true rfl) dX2_init_21 (fun q1 H hP hD hS => ?_)
  have hP : va_P D vwCl [(h0, .inr (2, [.int (8 : Int32), .null, .null, .null, .int (0 : Int32), .int (0 : Int32)])), (q1, .inl (cs 0, 8, .inl (fun _ => 0)))] H := hP
  have hD : va_D A [(h0, .inr (2, [.int (8 : Int32), .null, .null, .null, .int (0 : Int32), .int (0 : Int32)])), (q1, .inl (cs 0, 8, .inl (fun _ => 0)))] := hD
  refine W.widen (k := 1) (n := 8) (by decide) (by decide) ?_
  refine va_putF (D := D) (ci := 2) (v := .ref q1) (ty := .array .int) (C := RX2) (T := TX2) (N := 6) X.1 X.2.1 X.2.2.1 wu_X2 tyX2 tyX2_ok nmX2 X.2.2.2.1 X.2.2.2.2 hP hD hS 0 rfl rfl 1 (by decide) (X.2.2.1 _ wf_X2_1) (fun _ h => h) rfl hin rfl (by decide +kernel) rfl rfl (Nat.le_of_ble_eq_true rfl) dX2_init_23 (fun H locs hP hD hS => ?_)
  have hP : va_P D vwCl [(h0, .inr (2, [.int (8 : Int32), .ref q1, .null, .null, .int (0 : Int32), .int (0 : Int32)])), (q1, .inl (cs 0, 8, .inl (fun _ => 0)))] H := hP
  have hD : va_D A [(h0, .inr (2, [.int (8 : Int32), .ref q1, .null, .null, .int (0 : Int32), .int (0 : Int32)])), (q1, .inl (cs 0, 8, .inl (fun _ => 0)))] := hD
  refine lv_aload_n X.1 X.2.1 dX2_init_26 rfl (lv_at hl 0 rfl) ?_
  refine lv_iload_n X.1 X.2.1 dX2_init_27 rfl (lv_at hl 1 rfl) ?_
  refine px_newI X hP hD hS hA 0 rfl (px_tb (by decide +kernel) (by decide +kernel)) (N := 8) (by decide) (by decide) (by decide) (Nat.le_of_ble_eq_true rfl) (Nat.le_of_ble_eq_true rfl) dX2_init_28 (fun q2 H hP hD hS => ?_)
  have hP : va_P D vwCl [(h0, .inr (2, [.int (8 : Int32), .ref q1, .null, .null, .int (0 : Int32), .int (0 : Int32)])), (q1, .inl (cs 0, 8, .inl (fun _ => 0))), (q2, .inl (cs 0, 8, .inl (fun _ => 0)))] H := hP
  have hD : va_D A [(h0, .inr (2, [.int (8 : Int32), .ref q1, .null, .null, .int (0 : Int32), .int (0 : Int32)])), (q1, .inl (cs 0, 8, .inl (fun _ => 0))), (q2, .inl (cs 0, 8, .inl (fun _ => 0)))] := hD
  refine W.widen (k := 2) (n := 16) (by decide) (by decide) ?_
  refine va_putF (D := D) (ci := 2) (v := .ref q2) (ty := .array .int) (C := RX2) (T := TX2) (N := 6) X.1 X.2.1 X.2.2.1 wu_X2 tyX2 tyX2_ok nmX2 X.2.2.2.1 X.2.2.2.2 hP hD hS 0 rfl rfl 2 (by decide) (X.2.2.1 _ wf_X2_2) (fun _ h => h) rfl hin rfl (by decide +kernel) rfl rfl (Nat.le_of_ble_eq_true rfl) dX2_init_30 (fun H locs hP hD hS => ?_)
  have hP : va_P D vwCl [(h0, .inr (2, [.int (8 : Int32), .ref q1, .ref q2, .null, .int (0 : Int32), .int (0 : Int32)])), (q1, .inl (cs 0, 8, .inl (fun _ => 0))), (q2, .inl (cs 0, 8, .inl (fun _ => 0)))] H := hP
  have hD : va_D A [(h0, .inr (2, [.int (8 : Int32), .ref q1, .ref q2, .null, .int (0 : Int32), .int (0 : Int32)])), (q1, .inl (cs 0, 8, .inl (fun _ => 0))), (q2, .inl (cs 0, 8, .inl (fun _ => 0)))] := hD
  refine lv_aload_n X.1 X.2.1 dX2_init_33 rfl (lv_at hl 0 rfl) ?_
  refine lv_iload_n X.1 X.2.1 dX2_init_34 rfl (lv_at hl 1 rfl) ?_
  refine px_newI X hP hD hS hA 0 rfl (px_tb (by decide +kernel) (by decide +kernel)) (N := 8) (by decide) (by decide) (by decide) (Nat.le_of_ble_eq_true rfl) (Nat.le_of_ble_eq_true rfl) dX2_init_35 (fun q3 H hP hD hS => ?_)
  have hP : va_P D vwCl [(h0, .inr (2, [.int (8 : Int32), .ref q1, .ref q2, .null, .int (0 : Int32), .int (0 : Int32)])), (q1, .inl (cs 0, 8, .inl (fun _ => 0))), (q2, .inl (cs 0, 8, .inl (fun _ => 0))), (q3, .inl (cs 0, 8, .inl (fun _ => 0)))] H := hP
  have hD : va_D A [(h0, .inr (2, [.int (8 : Int32), .ref q1, .ref q2, .null, .int (0 : Int32), .int (0 : Int32)])), (q1, .inl (cs 0, 8, .inl (fun _ => 0))), (q2, .inl (cs 0, 8, .inl (fun _ => 0))), (q3, .inl (cs 0, 8, .inl (fun _ => 0)))] := hD
  refine W.widen (k := 3) (n := 24) (by decide) (by decide) ?_
  refine va_putF (D := D) (ci := 2) (v := .ref q3) (ty := .array .int) (C := RX2) (T := TX2) (N := 6) X.1 X.2.1 X.2.2.1 wu_X2 tyX2 tyX2_ok nmX2 X.2.2.2.1 X.2.2.2.2 hP hD hS 0 rfl rfl 3 (by decide) (X.2.2.1 _ wf_X2_3) (fun _ h => h) rfl hin rfl (by decide +kernel) rfl rfl (Nat.le_of_ble_eq_true rfl) dX2_init_37 (fun H locs hP hD hS => ?_)
  have hP : va_P D vwCl [(h0, .inr (2, [.int (8 : Int32), .ref q1, .ref q2, .ref q3, .int (0 : Int32), .int (0 : Int32)])), (q1, .inl (cs 0, 8, .inl (fun _ => 0))), (q2, .inl (cs 0, 8, .inl (fun _ => 0))), (q3, .inl (cs 0, 8, .inl (fun _ => 0)))] H := hP
  have hD : va_D A [(h0, .inr (2, [.int (8 : Int32), .ref q1, .ref q2, .ref q3, .int (0 : Int32), .int (0 : Int32)])), (q1, .inl (cs 0, 8, .inl (fun _ => 0))), (q2, .inl (cs 0, 8, .inl (fun _ => 0))), (q3, .inl (cs 0, 8, .inl (fun _ => 0)))] := hD
  exact px_retN X hr hlk hP hD hS (fun j => if j = 0 then q1 else if j = 1 then q2 else if j = 2 then q3 else 0) rfl (Nat.le_refl _) (Nat.le_refl _) dX2_init_40
set_option maxHeartbeats 4000000 in
set_option maxRecDepth 100000 in
theorem nC_Journal (l : Launch) (D : va_G) (cs : Nat → ClassId) (h0 : Nat) : px_mN l D (tyC cs) yX1_init cX1_init 1 1 1 200 (fun _ => True) [.ref h0] [(h0, .inr (1, [.null, .int 0]))] (fun a => [(h0, .inr (1, [.ref (a 0), .int (0 : Int32)])), ((a 0), .inl (cs 0, 200, .inl (fun _ => 0)))]) := by
  refine px_ofN (by decide +kernel) rfl (Nat.le_of_ble_eq_true rfl) ?_
  intro p e s m below meth c A ls X hr hlk hin hml hE hP hD hS hA hl
  have hl : lv_has ls 1 [(0, .ref h0)] := hl
  refine lv_aload_n X.1 X.2.1 dX1_init_0 rfl (lv_at hl 0 rfl) ?_
  refine px_oi X hml hl (px_tb (by decide +kernel) (by decide +kernel)) (px_tb (by decide +kernel) (by decide +kernel)) (px_tb (by decide +kernel) (by decide +kernel)) dX1_init_1 (Nat.le_of_ble_eq_true rfl) (Nat.le_of_ble_eq_true rfl) ?_
  refine lv_aload_n X.1 X.2.1 dX1_init_4 rfl (lv_at hl 0 rfl) ?_
  refine lv_sipush (v := (200 : Int32)) X.1 X.2.1 dX1_init_5 (by decide) ?_
  refine px_newI X hP hD hS hA 0 rfl (px_tb (by decide +kernel) (by decide +kernel)) (N := 200) (by decide) (by decide) (by decide) (Nat.le_of_ble_eq_true rfl) (Nat.le_of_ble_eq_true rfl) dX1_init_8 (fun q1 H hP hD hS => ?_)
  have hP : va_P D vwCl [(h0, .inr (1, [.null, .int 0])), (q1, .inl (cs 0, 200, .inl (fun _ => 0)))] H := hP
  have hD : va_D A [(h0, .inr (1, [.null, .int 0])), (q1, .inl (cs 0, 200, .inl (fun _ => 0)))] := hD
  refine W.widen (k := 1) (n := 200) (by decide) (by decide) ?_
  refine va_putF (D := D) (ci := 1) (v := .ref q1) (ty := .array .int) (C := RX1) (T := TX1) (N := 2) X.1 X.2.1 X.2.2.1 wu_X1 tyX1 tyX1_ok nmX1 X.2.2.2.1 X.2.2.2.2 hP hD hS 0 rfl rfl 0 (by decide) (X.2.2.1 _ wf_X1_0) (fun _ h => h) rfl hin rfl (by decide +kernel) rfl rfl (Nat.le_of_ble_eq_true rfl) dX1_init_10 (fun H locs hP hD hS => ?_)
  have hP : va_P D vwCl [(h0, .inr (1, [.ref q1, .int 0])), (q1, .inl (cs 0, 200, .inl (fun _ => 0)))] H := hP
  have hD : va_D A [(h0, .inr (1, [.ref q1, .int 0])), (q1, .inl (cs 0, 200, .inl (fun _ => 0)))] := hD
  refine lv_aload_n X.1 X.2.1 dX1_init_13 rfl (lv_at hl 0 rfl) ?_
  refine lv_iconst (v := (0 : Int32)) X.1 X.2.1 dX1_init_14 (by decide) ?_
  refine va_put (D := D) (ci := 1) (v := .int (0 : Int32)) (ty := .int) (C := RX1) (T := TX1) (N := 2) X.1 X.2.1 X.2.2.1 wu_X1 tyX1 tyX1_ok nmX1 X.2.2.2.1 X.2.2.2.2 hP hD hS 0 rfl rfl 1 (by decide) (X.2.2.1 _ wf_X1_1) (fun _ h => h) rfl (by decide +kernel) rfl rfl (Nat.le_of_ble_eq_true rfl) dX1_init_15 (fun H locs hP hD hS => ?_)
  have hP : va_P D vwCl [(h0, .inr (1, [.ref q1, .int (0 : Int32)])), (q1, .inl (cs 0, 200, .inl (fun _ => 0)))] H := hP
  have hD : va_D A [(h0, .inr (1, [.ref q1, .int (0 : Int32)])), (q1, .inl (cs 0, 200, .inl (fun _ => 0)))] := hD
  exact px_retN X hr hlk hP hD hS (fun j => if j = 0 then q1 else 0) rfl (Nat.le_refl _) (Nat.le_refl _) dX1_init_18
set_option maxHeartbeats 4000000 in
set_option maxRecDepth 100000 in
theorem nC_Promises (l : Launch) (D : va_G) (cs : Nat → ClassId) (r1 : Nat) (r2 : Nat) (h0 : Nat) : px_mN l D (tyC cs) yX3_init cX3_init 3 1 10 560 (fun _ => True) [.ref h0, .ref r1, .ref r2] [(h0, .inr (3, [.null, .null, .null, .null, .null, .null, .null, .int 0, .null, .int 0, .null, .null, .null, .null, .int 0]))] (fun a => [(h0, .inr (3, [.ref r1, .ref r2, .ref (a 0), .ref (a 1), .ref (a 2), .ref (a 3), .ref (a 4), .int (0 : Int32), .ref (a 5), .int (0 : Int32), .ref (a 6), .ref (a 7), .ref (a 8), .ref (a 9), .int (0 : Int32)])), ((a 0), .inl (cs 0, 40, .inl (fun _ => 0))), ((a 1), .inl (cs 0, 40, .inl (fun _ => 0))), ((a 2), .inl (cs 1, 40, .inl (fun _ => 0))), ((a 3), .inl (cs 1, 40, .inl (fun _ => 0))), ((a 4), .inl (cs 1, 40, .inl (fun _ => 0))), ((a 5), .inl (cs 0, 40, .inl (fun _ => 0))), ((a 6), .inl (cs 0, 80, .inl (fun _ => 0))), ((a 7), .inl (cs 0, 80, .inl (fun _ => 0))), ((a 8), .inl (cs 0, 80, .inl (fun _ => 0))), ((a 9), .inl (cs 0, 80, .inl (fun _ => 0)))]) := by
  refine px_ofN (by decide +kernel) rfl (Nat.le_of_ble_eq_true rfl) ?_
  intro p e s m below meth c A ls X hr hlk hin hml hE hP hD hS hA hl
  have hl : lv_has ls 3 [(0, .ref h0), (1, .ref r1), (2, .ref r2)] := hl
  refine lv_aload_n X.1 X.2.1 dX3_init_0 rfl (lv_at hl 0 rfl) ?_
  refine px_oi X hml hl (px_tb (by decide +kernel) (by decide +kernel)) (px_tb (by decide +kernel) (by decide +kernel)) (px_tb (by decide +kernel) (by decide +kernel)) dX3_init_1 (Nat.le_of_ble_eq_true rfl) (Nat.le_of_ble_eq_true rfl) ?_
  refine lv_aload_n X.1 X.2.1 dX3_init_4 rfl (lv_at hl 0 rfl) ?_
  refine lv_bipush (v := (40 : Int32)) X.1 X.2.1 dX3_init_5 (by decide) ?_
  refine px_newI X hP hD hS hA 0 rfl (px_tb (by decide +kernel) (by decide +kernel)) (N := 40) (by decide) (by decide) (by decide) (Nat.le_of_ble_eq_true rfl) (Nat.le_of_ble_eq_true rfl) dX3_init_7 (fun q1 H hP hD hS => ?_)
  have hP : va_P D vwCl [(h0, .inr (3, [.null, .null, .null, .null, .null, .null, .null, .int 0, .null, .int 0, .null, .null, .null, .null, .int 0])), (q1, .inl (cs 0, 40, .inl (fun _ => 0)))] H := hP
  have hD : va_D A [(h0, .inr (3, [.null, .null, .null, .null, .null, .null, .null, .int 0, .null, .int 0, .null, .null, .null, .null, .int 0])), (q1, .inl (cs 0, 40, .inl (fun _ => 0)))] := hD
  refine W.widen (k := 1) (n := 40) (by decide) (by decide) ?_
  refine va_putF (D := D) (ci := 3) (v := .ref q1) (ty := .array .int) (C := RX3) (T := TX3) (N := 15) X.1 X.2.1 X.2.2.1 wu_X3 tyX3 tyX3_ok nmX3 X.2.2.2.1 X.2.2.2.2 hP hD hS 0 rfl rfl 2 (by decide) (X.2.2.1 _ wf_X3_2) (fun _ h => h) rfl hin rfl (by decide +kernel) rfl rfl (Nat.le_of_ble_eq_true rfl) dX3_init_9 (fun H locs hP hD hS => ?_)
  have hP : va_P D vwCl [(h0, .inr (3, [.null, .null, .ref q1, .null, .null, .null, .null, .int 0, .null, .int 0, .null, .null, .null, .null, .int 0])), (q1, .inl (cs 0, 40, .inl (fun _ => 0)))] H := hP
  have hD : va_D A [(h0, .inr (3, [.null, .null, .ref q1, .null, .null, .null, .null, .int 0, .null, .int 0, .null, .null, .null, .null, .int 0])), (q1, .inl (cs 0, 40, .inl (fun _ => 0)))] := hD
  refine lv_aload_n X.1 X.2.1 dX3_init_12 rfl (lv_at hl 0 rfl) ?_
  refine lv_bipush (v := (40 : Int32)) X.1 X.2.1 dX3_init_13 (by decide) ?_
  refine px_newI X hP hD hS hA 0 rfl (px_tb (by decide +kernel) (by decide +kernel)) (N := 40) (by decide) (by decide) (by decide) (Nat.le_of_ble_eq_true rfl) (Nat.le_of_ble_eq_true rfl) dX3_init_15 (fun q2 H hP hD hS => ?_)
  have hP : va_P D vwCl [(h0, .inr (3, [.null, .null, .ref q1, .null, .null, .null, .null, .int 0, .null, .int 0, .null, .null, .null, .null, .int 0])), (q1, .inl (cs 0, 40, .inl (fun _ => 0))), (q2, .inl (cs 0, 40, .inl (fun _ => 0)))] H := hP
  have hD : va_D A [(h0, .inr (3, [.null, .null, .ref q1, .null, .null, .null, .null, .int 0, .null, .int 0, .null, .null, .null, .null, .int 0])), (q1, .inl (cs 0, 40, .inl (fun _ => 0))), (q2, .inl (cs 0, 40, .inl (fun _ => 0)))] := hD
  refine W.widen (k := 2) (n := 80) (by decide) (by decide) ?_
  refine va_putF (D := D) (ci := 3) (v := .ref q2) (ty := .array .int) (C := RX3) (T := TX3) (N := 15) X.1 X.2.1 X.2.2.1 wu_X3 tyX3 tyX3_ok nmX3 X.2.2.2.1 X.2.2.2.2 hP hD hS 0 rfl rfl 3 (by decide) (X.2.2.1 _ wf_X3_3) (fun _ h => h) rfl hin rfl (by decide +kernel) rfl rfl (Nat.le_of_ble_eq_true rfl) dX3_init_17 (fun H locs hP hD hS => ?_)
  have hP : va_P D vwCl [(h0, .inr (3, [.null, .null, .ref q1, .ref q2, .null, .null, .null, .int 0, .null, .int 0, .null, .null, .null, .null, .int 0])), (q1, .inl (cs 0, 40, .inl (fun _ => 0))), (q2, .inl (cs 0, 40, .inl (fun _ => 0)))] H := hP
  have hD : va_D A [(h0, .inr (3, [.null, .null, .ref q1, .ref q2, .null, .null, .null, .int 0, .null, .int 0, .null, .null, .null, .null, .int 0])), (q1, .inl (cs 0, 40, .inl (fun _ => 0))), (q2, .inl (cs 0, 40, .inl (fun _ => 0)))] := hD
  refine lv_aload_n X.1 X.2.1 dX3_init_20 rfl (lv_at hl 0 rfl) ?_
  refine lv_bipush (v := (40 : Int32)) X.1 X.2.1 dX3_init_21 (by decide) ?_
  refine px_newZ X hP hD hS hA 1 rfl (px_tb (by decide +kernel) (by decide +kernel)) (N := 40) (by decide) (by decide) (by decide) (Nat.le_of_ble_eq_true rfl) (Nat.le_of_ble_eq_true rfl) dX3_init_23 (fun q3 H hP hD hS => ?_)
  have hP : va_P D vwCl [(h0, .inr (3, [.null, .null, .ref q1, .ref q2, .null, .null, .null, .int 0, .null, .int 0, .null, .null, .null, .null, .int 0])), (q1, .inl (cs 0, 40, .inl (fun _ => 0))), (q2, .inl (cs 0, 40, .inl (fun _ => 0))), (q3, .inl (cs 1, 40, .inl (fun _ => 0)))] H := hP
  have hD : va_D A [(h0, .inr (3, [.null, .null, .ref q1, .ref q2, .null, .null, .null, .int 0, .null, .int 0, .null, .null, .null, .null, .int 0])), (q1, .inl (cs 0, 40, .inl (fun _ => 0))), (q2, .inl (cs 0, 40, .inl (fun _ => 0))), (q3, .inl (cs 1, 40, .inl (fun _ => 0)))] := hD
  refine W.widen (k := 3) (n := 120) (by decide) (by decide) ?_
  refine va_putF (D := D) (ci := 3) (v := .ref q3) (ty := .array .boolean) (C := RX3) (T := TX3) (N := 15) X.1 X.2.1 X.2.2.1 wu_X3 tyX3 tyX3_ok nmX3 X.2.2.2.1 X.2.2.2.2 hP hD hS 0 rfl rfl 4 (by decide) (X.2.2.1 _ wf_X3_4) (fun _ h => h) rfl hin rfl (by decide +kernel) rfl rfl (Nat.le_of_ble_eq_true rfl) dX3_init_25 (fun H locs hP hD hS => ?_)
  have hP : va_P D vwCl [(h0, .inr (3, [.null, .null, .ref q1, .ref q2, .ref q3, .null, .null, .int 0, .null, .int 0, .null, .null, .null, .null, .int 0])), (q1, .inl (cs 0, 40, .inl (fun _ => 0))), (q2, .inl (cs 0, 40, .inl (fun _ => 0))), (q3, .inl (cs 1, 40, .inl (fun _ => 0)))] H := hP
  have hD : va_D A [(h0, .inr (3, [.null, .null, .ref q1, .ref q2, .ref q3, .null, .null, .int 0, .null, .int 0, .null, .null, .null, .null, .int 0])), (q1, .inl (cs 0, 40, .inl (fun _ => 0))), (q2, .inl (cs 0, 40, .inl (fun _ => 0))), (q3, .inl (cs 1, 40, .inl (fun _ => 0)))] := hD
  refine lv_aload_n X.1 X.2.1 dX3_init_28 rfl (lv_at hl 0 rfl) ?_
  refine lv_bipush (v := (40 : Int32)) X.1 X.2.1 dX3_init_29 (by decide) ?_
  refine px_newZ X hP hD hS hA 1 rfl (px_tb (by decide +kernel) (by decide +kernel)) (N := 40) (by decide) (by decide) (by decide) (Nat.le_of_ble_eq_true rfl) (Nat.le_of_ble_eq_true rfl) dX3_init_31 (fun q4 H hP hD hS => ?_)
  have hP : va_P D vwCl [(h0, .inr (3, [.null, .null, .ref q1, .ref q2, .ref q3, .null, .null, .int 0, .null, .int 0, .null, .null, .null, .null, .int 0])), (q1, .inl (cs 0, 40, .inl (fun _ => 0))), (q2, .inl (cs 0, 40, .inl (fun _ => 0))), (q3, .inl (cs 1, 40, .inl (fun _ => 0))), (q4, .inl (cs 1, 40, .inl (fun _ => 0)))] H := hP
  have hD : va_D A [(h0, .inr (3, [.null, .null, .ref q1, .ref q2, .ref q3, .null, .null, .int 0, .null, .int 0, .null, .null, .null, .null, .int 0])), (q1, .inl (cs 0, 40, .inl (fun _ => 0))), (q2, .inl (cs 0, 40, .inl (fun _ => 0))), (q3, .inl (cs 1, 40, .inl (fun _ => 0))), (q4, .inl (cs 1, 40, .inl (fun _ => 0)))] := hD
  refine W.widen (k := 4) (n := 160) (by decide) (by decide) ?_
  refine va_putF (D := D) (ci := 3) (v := .ref q4) (ty := .array .boolean) (C := RX3) (T := TX3) (N := 15) X.1 X.2.1 X.2.2.1 wu_X3 tyX3 tyX3_ok nmX3 X.2.2.2.1 X.2.2.2.2 hP hD hS 0 rfl rfl 5 (by decide) (X.2.2.1 _ wf_X3_5) (fun _ h => h) rfl hin rfl (by decide +kernel) rfl rfl (Nat.le_of_ble_eq_true rfl) dX3_init_33 (fun H locs hP hD hS => ?_)
  have hP : va_P D vwCl [(h0, .inr (3, [.null, .null, .ref q1, .ref q2, .ref q3, .ref q4, .null, .int 0, .null, .int 0, .null, .null, .null, .null, .int 0])), (q1, .inl (cs 0, 40, .inl (fun _ => 0))), (q2, .inl (cs 0, 40, .inl (fun _ => 0))), (q3, .inl (cs 1, 40, .inl (fun _ => 0))), (q4, .inl (cs 1, 40, .inl (fun _ => 0)))] H := hP
  have hD : va_D A [(h0, .inr (3, [.null, .null, .ref q1, .ref q2, .ref q3, .ref q4, .null, .int 0, .null, .int 0, .null, .null, .null, .null, .int 0])), (q1, .inl (cs 0, 40, .inl (fun _ => 0))), (q2, .inl (cs 0, 40, .inl (fun _ => 0))), (q3, .inl (cs 1, 40, .inl (fun _ => 0))), (q4, .inl (cs 1, 40, .inl (fun _ => 0)))] := hD
  refine lv_aload_n X.1 X.2.1 dX3_init_36 rfl (lv_at hl 0 rfl) ?_
  refine lv_bipush (v := (40 : Int32)) X.1 X.2.1 dX3_init_37 (by decide) ?_
  refine px_newZ X hP hD hS hA 1 rfl (px_tb (by decide +kernel) (by decide +kernel)) (N := 40) (by decide) (by decide) (by decide) (Nat.le_of_ble_eq_true rfl) (Nat.le_of_ble_eq_true rfl) dX3_init_39 (fun q5 H hP hD hS => ?_)
  have hP : va_P D vwCl [(h0, .inr (3, [.null, .null, .ref q1, .ref q2, .ref q3, .ref q4, .null, .int 0, .null, .int 0, .null, .null, .null, .null, .int 0])), (q1, .inl (cs 0, 40, .inl (fun _ => 0))), (q2, .inl (cs 0, 40, .inl (fun _ => 0))), (q3, .inl (cs 1, 40, .inl (fun _ => 0))), (q4, .inl (cs 1, 40, .inl (fun _ => 0))), (q5, .inl (cs 1, 40, .inl (fun _ => 0)))] H := hP
  have hD : va_D A [(h0, .inr (3, [.null, .null, .ref q1, .ref q2, .ref q3, .ref q4, .null, .int 0, .null, .int 0, .null, .null, .null, .null, .int 0])), (q1, .inl (cs 0, 40, .inl (fun _ => 0))), (q2, .inl (cs 0, 40, .inl (fun _ => 0))), (q3, .inl (cs 1, 40, .inl (fun _ => 0))), (q4, .inl (cs 1, 40, .inl (fun _ => 0))), (q5, .inl (cs 1, 40, .inl (fun _ => 0)))] := hD
  refine W.widen (k := 5) (n := 200) (by decide) (by decide) ?_
  refine va_putF (D := D) (ci := 3) (v := .ref q5) (ty := .array .boolean) (C := RX3) (T := TX3) (N := 15) X.1 X.2.1 X.2.2.1 wu_X3 tyX3 tyX3_ok nmX3 X.2.2.2.1 X.2.2.2.2 hP hD hS 0 rfl rfl 6 (by decide) (X.2.2.1 _ wf_X3_6) (fun _ h => h) rfl hin rfl (by decide +kernel) rfl rfl (Nat.le_of_ble_eq_true rfl) dX3_init_41 (fun H locs hP hD hS => ?_)
  have hP : va_P D vwCl [(h0, .inr (3, [.null, .null, .ref q1, .ref q2, .ref q3, .ref q4, .ref q5, .int 0, .null, .int 0, .null, .null, .null, .null, .int 0])), (q1, .inl (cs 0, 40, .inl (fun _ => 0))), (q2, .inl (cs 0, 40, .inl (fun _ => 0))), (q3, .inl (cs 1, 40, .inl (fun _ => 0))), (q4, .inl (cs 1, 40, .inl (fun _ => 0))), (q5, .inl (cs 1, 40, .inl (fun _ => 0)))] H := hP
  have hD : va_D A [(h0, .inr (3, [.null, .null, .ref q1, .ref q2, .ref q3, .ref q4, .ref q5, .int 0, .null, .int 0, .null, .null, .null, .null, .int 0])), (q1, .inl (cs 0, 40, .inl (fun _ => 0))), (q2, .inl (cs 0, 40, .inl (fun _ => 0))), (q3, .inl (cs 1, 40, .inl (fun _ => 0))), (q4, .inl (cs 1, 40, .inl (fun _ => 0))), (q5, .inl (cs 1, 40, .inl (fun _ => 0)))] := hD
  refine lv_aload_n X.1 X.2.1 dX3_init_44 rfl (lv_at hl 0 rfl) ?_
  refine lv_iconst (v := (0 : Int32)) X.1 X.2.1 dX3_init_45 (by decide) ?_
  refine va_put (D := D) (ci := 3) (v := .int (0 : Int32)) (ty := .int) (C := RX3) (T := TX3) (N := 15) X.1 X.2.1 X.2.2.1 wu_X3 tyX3 tyX3_ok nmX3 X.2.2.2.1 X.2.2.2.2 hP hD hS 0 rfl rfl 7 (by decide) (X.2.2.1 _ wf_X3_7) (fun _ h => h) rfl (by decide +kernel) rfl rfl (Nat.le_of_ble_eq_true rfl) dX3_init_46 (fun H locs hP hD hS => ?_)
  have hP : va_P D vwCl [(h0, .inr (3, [.null, .null, .ref q1, .ref q2, .ref q3, .ref q4, .ref q5, .int (0 : Int32), .null, .int 0, .null, .null, .null, .null, .int 0])), (q1, .inl (cs 0, 40, .inl (fun _ => 0))), (q2, .inl (cs 0, 40, .inl (fun _ => 0))), (q3, .inl (cs 1, 40, .inl (fun _ => 0))), (q4, .inl (cs 1, 40, .inl (fun _ => 0))), (q5, .inl (cs 1, 40, .inl (fun _ => 0)))] H := hP
  have hD : va_D A [(h0, .inr (3, [.null, .null, .ref q1, .ref q2, .ref q3, .ref q4, .ref q5, .int (0 : Int32), .null, .int 0, .null, .null, .null, .null, .int 0])), (q1, .inl (cs 0, 40, .inl (fun _ => 0))), (q2, .inl (cs 0, 40, .inl (fun _ => 0))), (q3, .inl (cs 1, 40, .inl (fun _ => 0))), (q4, .inl (cs 1, 40, .inl (fun _ => 0))), (q5, .inl (cs 1, 40, .inl (fun _ => 0)))] := hD
  refine lv_aload_n X.1 X.2.1 dX3_init_49 rfl (lv_at hl 0 rfl) ?_
  refine lv_bipush (v := (40 : Int32)) X.1 X.2.1 dX3_init_50 (by decide) ?_
  refine px_newI X hP hD hS hA 0 rfl (px_tb (by decide +kernel) (by decide +kernel)) (N := 40) (by decide) (by decide) (by decide) (Nat.le_of_ble_eq_true rfl) (Nat.le_of_ble_eq_true rfl) dX3_init_52 (fun q6 H hP hD hS => ?_)
  have hP : va_P D vwCl [(h0, .inr (3, [.null, .null, .ref q1, .ref q2, .ref q3, .ref q4, .ref q5, .int (0 : Int32), .null, .int 0, .null, .null, .null, .null, .int 0])), (q1, .inl (cs 0, 40, .inl (fun _ => 0))), (q2, .inl (cs 0, 40, .inl (fun _ => 0))), (q3, .inl (cs 1, 40, .inl (fun _ => 0))), (q4, .inl (cs 1, 40, .inl (fun _ => 0))), (q5, .inl (cs 1, 40, .inl (fun _ => 0))), (q6, .inl (cs 0, 40, .inl (fun _ => 0)))] H := hP
  have hD : va_D A [(h0, .inr (3, [.null, .null, .ref q1, .ref q2, .ref q3, .ref q4, .ref q5, .int (0 : Int32), .null, .int 0, .null, .null, .null, .null, .int 0])), (q1, .inl (cs 0, 40, .inl (fun _ => 0))), (q2, .inl (cs 0, 40, .inl (fun _ => 0))), (q3, .inl (cs 1, 40, .inl (fun _ => 0))), (q4, .inl (cs 1, 40, .inl (fun _ => 0))), (q5, .inl (cs 1, 40, .inl (fun _ => 0))), (q6, .inl (cs 0, 40, .inl (fun _ => 0)))] := hD
  refine W.widen (k := 6) (n := 240) (by decide) (by decide) ?_
  refine va_putF (D := D) (ci := 3) (v := .ref q6) (ty := .array .int) (C := RX3) (T := TX3) (N := 15) X.1 X.2.1 X.2.2.1 wu_X3 tyX3 tyX3_ok nmX3 X.2.2.2.1 X.2.2.2.2 hP hD hS 0 rfl rfl 8 (by decide) (X.2.2.1 _ wf_X3_8) (fun _ h => h) rfl hin rfl (by decide +kernel) rfl rfl (Nat.le_of_ble_eq_true rfl) dX3_init_54 (fun H locs hP hD hS => ?_)
  have hP : va_P D vwCl [(h0, .inr (3, [.null, .null, .ref q1, .ref q2, .ref q3, .ref q4, .ref q5, .int (0 : Int32), .ref q6, .int 0, .null, .null, .null, .null, .int 0])), (q1, .inl (cs 0, 40, .inl (fun _ => 0))), (q2, .inl (cs 0, 40, .inl (fun _ => 0))), (q3, .inl (cs 1, 40, .inl (fun _ => 0))), (q4, .inl (cs 1, 40, .inl (fun _ => 0))), (q5, .inl (cs 1, 40, .inl (fun _ => 0))), (q6, .inl (cs 0, 40, .inl (fun _ => 0)))] H := hP
  have hD : va_D A [(h0, .inr (3, [.null, .null, .ref q1, .ref q2, .ref q3, .ref q4, .ref q5, .int (0 : Int32), .ref q6, .int 0, .null, .null, .null, .null, .int 0])), (q1, .inl (cs 0, 40, .inl (fun _ => 0))), (q2, .inl (cs 0, 40, .inl (fun _ => 0))), (q3, .inl (cs 1, 40, .inl (fun _ => 0))), (q4, .inl (cs 1, 40, .inl (fun _ => 0))), (q5, .inl (cs 1, 40, .inl (fun _ => 0))), (q6, .inl (cs 0, 40, .inl (fun _ => 0)))] := hD
  refine lv_aload_n X.1 X.2.1 dX3_init_57 rfl (lv_at hl 0 rfl) ?_
  refine lv_iconst (v := (0 : Int32)) X.1 X.2.1 dX3_init_58 (by decide) ?_
  refine va_put (D := D) (ci := 3) (v := .int (0 : Int32)) (ty := .int) (C := RX3) (T := TX3) (N := 15) X.1 X.2.1 X.2.2.1 wu_X3 tyX3 tyX3_ok nmX3 X.2.2.2.1 X.2.2.2.2 hP hD hS 0 rfl rfl 9 (by decide) (X.2.2.1 _ wf_X3_9) (fun _ h => h) rfl (by decide +kernel) rfl rfl (Nat.le_of_ble_eq_true rfl) dX3_init_59 (fun H locs hP hD hS => ?_)
  have hP : va_P D vwCl [(h0, .inr (3, [.null, .null, .ref q1, .ref q2, .ref q3, .ref q4, .ref q5, .int (0 : Int32), .ref q6, .int (0 : Int32), .null, .null, .null, .null, .int 0])), (q1, .inl (cs 0, 40, .inl (fun _ => 0))), (q2, .inl (cs 0, 40, .inl (fun _ => 0))), (q3, .inl (cs 1, 40, .inl (fun _ => 0))), (q4, .inl (cs 1, 40, .inl (fun _ => 0))), (q5, .inl (cs 1, 40, .inl (fun _ => 0))), (q6, .inl (cs 0, 40, .inl (fun _ => 0)))] H := hP
  have hD : va_D A [(h0, .inr (3, [.null, .null, .ref q1, .ref q2, .ref q3, .ref q4, .ref q5, .int (0 : Int32), .ref q6, .int (0 : Int32), .null, .null, .null, .null, .int 0])), (q1, .inl (cs 0, 40, .inl (fun _ => 0))), (q2, .inl (cs 0, 40, .inl (fun _ => 0))), (q3, .inl (cs 1, 40, .inl (fun _ => 0))), (q4, .inl (cs 1, 40, .inl (fun _ => 0))), (q5, .inl (cs 1, 40, .inl (fun _ => 0))), (q6, .inl (cs 0, 40, .inl (fun _ => 0)))] := hD
  refine lv_aload_n X.1 X.2.1 dX3_init_62 rfl (lv_at hl 0 rfl) ?_
  refine lv_bipush (v := (80 : Int32)) X.1 X.2.1 dX3_init_63 (by decide) ?_
  refine px_newI X hP hD hS hA 0 rfl (px_tb (by decide +kernel) (by decide +kernel)) (N := 80) (by decide) (by decide) (by decide) (Nat.le_of_ble_eq_true rfl) (Nat.le_of_ble_eq_true rfl) dX3_init_65 (fun q7 H hP hD hS => ?_)
  have hP : va_P D vwCl [(h0, .inr (3, [.null, .null, .ref q1, .ref q2, .ref q3, .ref q4, .ref q5, .int (0 : Int32), .ref q6, .int (0 : Int32), .null, .null, .null, .null, .int 0])), (q1, .inl (cs 0, 40, .inl (fun _ => 0))), (q2, .inl (cs 0, 40, .inl (fun _ => 0))), (q3, .inl (cs 1, 40, .inl (fun _ => 0))), (q4, .inl (cs 1, 40, .inl (fun _ => 0))), (q5, .inl (cs 1, 40, .inl (fun _ => 0))), (q6, .inl (cs 0, 40, .inl (fun _ => 0))), (q7, .inl (cs 0, 80, .inl (fun _ => 0)))] H := hP
  have hD : va_D A [(h0, .inr (3, [.null, .null, .ref q1, .ref q2, .ref q3, .ref q4, .ref q5, .int (0 : Int32), .ref q6, .int (0 : Int32), .null, .null, .null, .null, .int 0])), (q1, .inl (cs 0, 40, .inl (fun _ => 0))), (q2, .inl (cs 0, 40, .inl (fun _ => 0))), (q3, .inl (cs 1, 40, .inl (fun _ => 0))), (q4, .inl (cs 1, 40, .inl (fun _ => 0))), (q5, .inl (cs 1, 40, .inl (fun _ => 0))), (q6, .inl (cs 0, 40, .inl (fun _ => 0))), (q7, .inl (cs 0, 80, .inl (fun _ => 0)))] := hD
  refine W.widen (k := 7) (n := 320) (by decide) (by decide) ?_
  refine va_putF (D := D) (ci := 3) (v := .ref q7) (ty := .array .int) (C := RX3) (T := TX3) (N := 15) X.1 X.2.1 X.2.2.1 wu_X3 tyX3 tyX3_ok nmX3 X.2.2.2.1 X.2.2.2.2 hP hD hS 0 rfl rfl 10 (by decide) (X.2.2.1 _ wf_X3_10) (fun _ h => h) rfl hin rfl (by decide +kernel) rfl rfl (Nat.le_of_ble_eq_true rfl) dX3_init_67 (fun H locs hP hD hS => ?_)
  have hP : va_P D vwCl [(h0, .inr (3, [.null, .null, .ref q1, .ref q2, .ref q3, .ref q4, .ref q5, .int (0 : Int32), .ref q6, .int (0 : Int32), .ref q7, .null, .null, .null, .int 0])), (q1, .inl (cs 0, 40, .inl (fun _ => 0))), (q2, .inl (cs 0, 40, .inl (fun _ => 0))), (q3, .inl (cs 1, 40, .inl (fun _ => 0))), (q4, .inl (cs 1, 40, .inl (fun _ => 0))), (q5, .inl (cs 1, 40, .inl (fun _ => 0))), (q6, .inl (cs 0, 40, .inl (fun _ => 0))), (q7, .inl (cs 0, 80, .inl (fun _ => 0)))] H := hP
  have hD : va_D A [(h0, .inr (3, [.null, .null, .ref q1, .ref q2, .ref q3, .ref q4, .ref q5, .int (0 : Int32), .ref q6, .int (0 : Int32), .ref q7, .null, .null, .null, .int 0])), (q1, .inl (cs 0, 40, .inl (fun _ => 0))), (q2, .inl (cs 0, 40, .inl (fun _ => 0))), (q3, .inl (cs 1, 40, .inl (fun _ => 0))), (q4, .inl (cs 1, 40, .inl (fun _ => 0))), (q5, .inl (cs 1, 40, .inl (fun _ => 0))), (q6, .inl (cs 0, 40, .inl (fun _ => 0))), (q7, .inl (cs 0, 80, .inl (fun _ => 0)))] := hD
  refine lv_aload_n X.1 X.2.1 dX3_init_70 rfl (lv_at hl 0 rfl) ?_
  refine lv_bipush (v := (80 : Int32)) X.1 X.2.1 dX3_init_71 (by decide) ?_
  refine px_newI X hP hD hS hA 0 rfl (px_tb (by decide +kernel) (by decide +kernel)) (N := 80) (by decide) (by decide) (by decide) (Nat.le_of_ble_eq_true rfl) (Nat.le_of_ble_eq_true rfl) dX3_init_73 (fun q8 H hP hD hS => ?_)
  have hP : va_P D vwCl [(h0, .inr (3, [.null, .null, .ref q1, .ref q2, .ref q3, .ref q4, .ref q5, .int (0 : Int32), .ref q6, .int (0 : Int32), .ref q7, .null, .null, .null, .int 0])), (q1, .inl (cs 0, 40, .inl (fun _ => 0))), (q2, .inl (cs 0, 40, .inl (fun _ => 0))), (q3, .inl (cs 1, 40, .inl (fun _ => 0))), (q4, .inl (cs 1, 40, .inl (fun _ => 0))), (q5, .inl (cs 1, 40, .inl (fun _ => 0))), (q6, .inl (cs 0, 40, .inl (fun _ => 0))), (q7, .inl (cs 0, 80, .inl (fun _ => 0))), (q8, .inl (cs 0, 80, .inl (fun _ => 0)))] H := hP
  have hD : va_D A [(h0, .inr (3, [.null, .null, .ref q1, .ref q2, .ref q3, .ref q4, .ref q5, .int (0 : Int32), .ref q6, .int (0 : Int32), .ref q7, .null, .null, .null, .int 0])), (q1, .inl (cs 0, 40, .inl (fun _ => 0))), (q2, .inl (cs 0, 40, .inl (fun _ => 0))), (q3, .inl (cs 1, 40, .inl (fun _ => 0))), (q4, .inl (cs 1, 40, .inl (fun _ => 0))), (q5, .inl (cs 1, 40, .inl (fun _ => 0))), (q6, .inl (cs 0, 40, .inl (fun _ => 0))), (q7, .inl (cs 0, 80, .inl (fun _ => 0))), (q8, .inl (cs 0, 80, .inl (fun _ => 0)))] := hD
  refine W.widen (k := 8) (n := 400) (by decide) (by decide) ?_
  refine va_putF (D := D) (ci := 3) (v := .ref q8) (ty := .array .int) (C := RX3) (T := TX3) (N := 15) X.1 X.2.1 X.2.2.1 wu_X3 tyX3 tyX3_ok nmX3 X.2.2.2.1 X.2.2.2.2 hP hD hS 0 rfl rfl 11 (by decide) (X.2.2.1 _ wf_X3_11) (fun _ h => h) rfl hin rfl (by decide +kernel) rfl rfl (Nat.le_of_ble_eq_true rfl) dX3_init_75 (fun H locs hP hD hS => ?_)
  have hP : va_P D vwCl [(h0, .inr (3, [.null, .null, .ref q1, .ref q2, .ref q3, .ref q4, .ref q5, .int (0 : Int32), .ref q6, .int (0 : Int32), .ref q7, .ref q8, .null, .null, .int 0])), (q1, .inl (cs 0, 40, .inl (fun _ => 0))), (q2, .inl (cs 0, 40, .inl (fun _ => 0))), (q3, .inl (cs 1, 40, .inl (fun _ => 0))), (q4, .inl (cs 1, 40, .inl (fun _ => 0))), (q5, .inl (cs 1, 40, .inl (fun _ => 0))), (q6, .inl (cs 0, 40, .inl (fun _ => 0))), (q7, .inl (cs 0, 80, .inl (fun _ => 0))), (q8, .inl (cs 0, 80, .inl (fun _ => 0)))] H := hP
  have hD : va_D A [(h0, .inr (3, [.null, .null, .ref q1, .ref q2, .ref q3, .ref q4, .ref q5, .int (0 : Int32), .ref q6, .int (0 : Int32), .ref q7, .ref q8, .null, .null, .int 0])), (q1, .inl (cs 0, 40, .inl (fun _ => 0))), (q2, .inl (cs 0, 40, .inl (fun _ => 0))), (q3, .inl (cs 1, 40, .inl (fun _ => 0))), (q4, .inl (cs 1, 40, .inl (fun _ => 0))), (q5, .inl (cs 1, 40, .inl (fun _ => 0))), (q6, .inl (cs 0, 40, .inl (fun _ => 0))), (q7, .inl (cs 0, 80, .inl (fun _ => 0))), (q8, .inl (cs 0, 80, .inl (fun _ => 0)))] := hD
  refine lv_aload_n X.1 X.2.1 dX3_init_78 rfl (lv_at hl 0 rfl) ?_
  refine lv_bipush (v := (80 : Int32)) X.1 X.2.1 dX3_init_79 (by decide) ?_
  refine px_newI X hP hD hS hA 0 rfl (px_tb (by decide +kernel) (by decide +kernel)) (N := 80) (by decide) (by decide) (by decide) (Nat.le_of_ble_eq_true rfl) (Nat.le_of_ble_eq_true rfl) dX3_init_81 (fun q9 H hP hD hS => ?_)
  have hP : va_P D vwCl [(h0, .inr (3, [.null, .null, .ref q1, .ref q2, .ref q3, .ref q4, .ref q5, .int (0 : Int32), .ref q6, .int (0 : Int32), .ref q7, .ref q8, .null, .null, .int 0])), (q1, .inl (cs 0, 40, .inl (fun _ => 0))), (q2, .inl (cs 0, 40, .inl (fun _ => 0))), (q3, .inl (cs 1, 40, .inl (fun _ => 0))), (q4, .inl (cs 1, 40, .inl (fun _ => 0))), (q5, .inl (cs 1, 40, .inl (fun _ => 0))), (q6, .inl (cs 0, 40, .inl (fun _ => 0))), (q7, .inl (cs 0, 80, .inl (fun _ => 0))), (q8, .inl (cs 0, 80, .inl (fun _ => 0))), (q9, .inl (cs 0, 80, .inl (fun _ => 0)))] H := hP
  have hD : va_D A [(h0, .inr (3, [.null, .null, .ref q1, .ref q2, .ref q3, .ref q4, .ref q5, .int (0 : Int32), .ref q6, .int (0 : Int32), .ref q7, .ref q8, .null, .null, .int 0])), (q1, .inl (cs 0, 40, .inl (fun _ => 0))), (q2, .inl (cs 0, 40, .inl (fun _ => 0))), (q3, .inl (cs 1, 40, .inl (fun _ => 0))), (q4, .inl (cs 1, 40, .inl (fun _ => 0))), (q5, .inl (cs 1, 40, .inl (fun _ => 0))), (q6, .inl (cs 0, 40, .inl (fun _ => 0))), (q7, .inl (cs 0, 80, .inl (fun _ => 0))), (q8, .inl (cs 0, 80, .inl (fun _ => 0))), (q9, .inl (cs 0, 80, .inl (fun _ => 0)))] := hD
  refine W.widen (k := 9) (n := 480) (by decide) (by decide) ?_
  refine va_putF (D := D) (ci := 3) (v := .ref q9) (ty := .array .int) (C := RX3) (T := TX3) (N := 15) X.1 X.2.1 X.2.2.1 wu_X3 tyX3 tyX3_ok nmX3 X.2.2.2.1 X.2.2.2.2 hP hD hS 0 rfl rfl 12 (by decide) (X.2.2.1 _ wf_X3_12) (fun _ h => h) rfl hin rfl (by decide +kernel) rfl rfl (Nat.le_of_ble_eq_true rfl) dX3_init_83 (fun H locs hP hD hS => ?_)
  have hP : va_P D vwCl [(h0, .inr (3, [.null, .null, .ref q1, .ref q2, .ref q3, .ref q4, .ref q5, .int (0 : Int32), .ref q6, .int (0 : Int32), .ref q7, .ref q8, .ref q9, .null, .int 0])), (q1, .inl (cs 0, 40, .inl (fun _ => 0))), (q2, .inl (cs 0, 40, .inl (fun _ => 0))), (q3, .inl (cs 1, 40, .inl (fun _ => 0))), (q4, .inl (cs 1, 40, .inl (fun _ => 0))), (q5, .inl (cs 1, 40, .inl (fun _ => 0))), (q6, .inl (cs 0, 40, .inl (fun _ => 0))), (q7, .inl (cs 0, 80, .inl (fun _ => 0))), (q8, .inl (cs 0, 80, .inl (fun _ => 0))), (q9, .inl (cs 0, 80, .inl (fun _ => 0)))] H := hP
  have hD : va_D A [(h0, .inr (3, [.null, .null, .ref q1, .ref q2, .ref q3, .ref q4, .ref q5, .int (0 : Int32), .ref q6, .int (0 : Int32), .ref q7, .ref q8, .ref q9, .null, .int 0])), (q1, .inl (cs 0, 40, .inl (fun _ => 0))), (q2, .inl (cs 0, 40, .inl (fun _ => 0))), (q3, .inl (cs 1, 40, .inl (fun _ => 0))), (q4, .inl (cs 1, 40, .inl (fun _ => 0))), (q5, .inl (cs 1, 40, .inl (fun _ => 0))), (q6, .inl (cs 0, 40, .inl (fun _ => 0))), (q7, .inl (cs 0, 80, .inl (fun _ => 0))), (q8, .inl (cs 0, 80, .inl (fun _ => 0))), (q9, .inl (cs 0, 80, .inl (fun _ => 0)))] := hD
  refine lv_aload_n X.1 X.2.1 dX3_init_86 rfl (lv_at hl 0 rfl) ?_
  refine lv_bipush (v := (80 : Int32)) X.1 X.2.1 dX3_init_87 (by decide) ?_
  refine px_newI X hP hD hS hA 0 rfl (px_tb (by decide +kernel) (by decide +kernel)) (N := 80) (by decide) (by decide) (by decide) (Nat.le_of_ble_eq_true rfl) (Nat.le_of_ble_eq_true rfl) dX3_init_89 (fun q10 H hP hD hS => ?_)
  have hP : va_P D vwCl [(h0, .inr (3, [.null, .null, .ref q1, .ref q2, .ref q3, .ref q4, .ref q5, .int (0 : Int32), .ref q6, .int (0 : Int32), .ref q7, .ref q8, .ref q9, .null, .int 0])), (q1, .inl (cs 0, 40, .inl (fun _ => 0))), (q2, .inl (cs 0, 40, .inl (fun _ => 0))), (q3, .inl (cs 1, 40, .inl (fun _ => 0))), (q4, .inl (cs 1, 40, .inl (fun _ => 0))), (q5, .inl (cs 1, 40, .inl (fun _ => 0))), (q6, .inl (cs 0, 40, .inl (fun _ => 0))), (q7, .inl (cs 0, 80, .inl (fun _ => 0))), (q8, .inl (cs 0, 80, .inl (fun _ => 0))), (q9, .inl (cs 0, 80, .inl (fun _ => 0))), (q10, .inl (cs 0, 80, .inl (fun _ => 0)))] H := hP
  have hD : va_D A [(h0, .inr (3, [.null, .null, .ref q1, .ref q2, .ref q3, .ref q4, .ref q5, .int (0 : Int32), .ref q6, .int (0 : Int32), .ref q7, .ref q8, .ref q9, .null, .int 0])), (q1, .inl (cs 0, 40, .inl (fun _ => 0))), (q2, .inl (cs 0, 40, .inl (fun _ => 0))), (q3, .inl (cs 1, 40, .inl (fun _ => 0))), (q4, .inl (cs 1, 40, .inl (fun _ => 0))), (q5, .inl (cs 1, 40, .inl (fun _ => 0))), (q6, .inl (cs 0, 40, .inl (fun _ => 0))), (q7, .inl (cs 0, 80, .inl (fun _ => 0))), (q8, .inl (cs 0, 80, .inl (fun _ => 0))), (q9, .inl (cs 0, 80, .inl (fun _ => 0))), (q10, .inl (cs 0, 80, .inl (fun _ => 0)))] := hD
  refine W.widen (k := 10) (n := 560) (by decide) (by decide) ?_
  refine va_putF (D := D) (ci := 3) (v := .ref q10) (ty := .array .int) (C := RX3) (T := TX3) (N := 15) X.1 X.2.1 X.2.2.1 wu_X3 tyX3 tyX3_ok nmX3 X.2.2.2.1 X.2.2.2.2 hP hD hS 0 rfl rfl 13 (by decide) (X.2.2.1 _ wf_X3_13) (fun _ h => h) rfl hin rfl (by decide +kernel) rfl rfl (Nat.le_of_ble_eq_true rfl) dX3_init_91 (fun H locs hP hD hS => ?_)
  have hP : va_P D vwCl [(h0, .inr (3, [.null, .null, .ref q1, .ref q2, .ref q3, .ref q4, .ref q5, .int (0 : Int32), .ref q6, .int (0 : Int32), .ref q7, .ref q8, .ref q9, .ref q10, .int 0])), (q1, .inl (cs 0, 40, .inl (fun _ => 0))), (q2, .inl (cs 0, 40, .inl (fun _ => 0))), (q3, .inl (cs 1, 40, .inl (fun _ => 0))), (q4, .inl (cs 1, 40, .inl (fun _ => 0))), (q5, .inl (cs 1, 40, .inl (fun _ => 0))), (q6, .inl (cs 0, 40, .inl (fun _ => 0))), (q7, .inl (cs 0, 80, .inl (fun _ => 0))), (q8, .inl (cs 0, 80, .inl (fun _ => 0))), (q9, .inl (cs 0, 80, .inl (fun _ => 0))), (q10, .inl (cs 0, 80, .inl (fun _ => 0)))] H := hP
  have hD : va_D A [(h0, .inr (3, [.null, .null, .ref q1, .ref q2, .ref q3, .ref q4, .ref q5, .int (0 : Int32), .ref q6, .int (0 : Int32), .ref q7, .ref q8, .ref q9, .ref q10, .int 0])), (q1, .inl (cs 0, 40, .inl (fun _ => 0))), (q2, .inl (cs 0, 40, .inl (fun _ => 0))), (q3, .inl (cs 1, 40, .inl (fun _ => 0))), (q4, .inl (cs 1, 40, .inl (fun _ => 0))), (q5, .inl (cs 1, 40, .inl (fun _ => 0))), (q6, .inl (cs 0, 40, .inl (fun _ => 0))), (q7, .inl (cs 0, 80, .inl (fun _ => 0))), (q8, .inl (cs 0, 80, .inl (fun _ => 0))), (q9, .inl (cs 0, 80, .inl (fun _ => 0))), (q10, .inl (cs 0, 80, .inl (fun _ => 0)))] := hD
  refine lv_aload_n X.1 X.2.1 dX3_init_94 rfl (lv_at hl 0 rfl) ?_
  refine lv_iconst (v := (0 : Int32)) X.1 X.2.1 dX3_init_95 (by decide) ?_
  refine va_put (D := D) (ci := 3) (v := .int (0 : Int32)) (ty := .int) (C := RX3) (T := TX3) (N := 15) X.1 X.2.1 X.2.2.1 wu_X3 tyX3 tyX3_ok nmX3 X.2.2.2.1 X.2.2.2.2 hP hD hS 0 rfl rfl 14 (by decide) (X.2.2.1 _ wf_X3_14) (fun _ h => h) rfl (by decide +kernel) rfl rfl (Nat.le_of_ble_eq_true rfl) dX3_init_96 (fun H locs hP hD hS => ?_)
  have hP : va_P D vwCl [(h0, .inr (3, [.null, .null, .ref q1, .ref q2, .ref q3, .ref q4, .ref q5, .int (0 : Int32), .ref q6, .int (0 : Int32), .ref q7, .ref q8, .ref q9, .ref q10, .int (0 : Int32)])), (q1, .inl (cs 0, 40, .inl (fun _ => 0))), (q2, .inl (cs 0, 40, .inl (fun _ => 0))), (q3, .inl (cs 1, 40, .inl (fun _ => 0))), (q4, .inl (cs 1, 40, .inl (fun _ => 0))), (q5, .inl (cs 1, 40, .inl (fun _ => 0))), (q6, .inl (cs 0, 40, .inl (fun _ => 0))), (q7, .inl (cs 0, 80, .inl (fun _ => 0))), (q8, .inl (cs 0, 80, .inl (fun _ => 0))), (q9, .inl (cs 0, 80, .inl (fun _ => 0))), (q10, .inl (cs 0, 80, .inl (fun _ => 0)))] H := hP
  have hD : va_D A [(h0, .inr (3, [.null, .null, .ref q1, .ref q2, .ref q3, .ref q4, .ref q5, .int (0 : Int32), .ref q6, .int (0 : Int32), .ref q7, .ref q8, .ref q9, .ref q10, .int (0 : Int32)])), (q1, .inl (cs 0, 40, .inl (fun _ => 0))), (q2, .inl (cs 0, 40, .inl (fun _ => 0))), (q3, .inl (cs 1, 40, .inl (fun _ => 0))), (q4, .inl (cs 1, 40, .inl (fun _ => 0))), (q5, .inl (cs 1, 40, .inl (fun _ => 0))), (q6, .inl (cs 0, 40, .inl (fun _ => 0))), (q7, .inl (cs 0, 80, .inl (fun _ => 0))), (q8, .inl (cs 0, 80, .inl (fun _ => 0))), (q9, .inl (cs 0, 80, .inl (fun _ => 0))), (q10, .inl (cs 0, 80, .inl (fun _ => 0)))] := hD
  refine lv_aload_n X.1 X.2.1 dX3_init_99 rfl (lv_at hl 0 rfl) ?_
  refine lv_aload_n X.1 X.2.1 dX3_init_100 rfl (lv_at hl 1 rfl) ?_
  refine va_putF (D := D) (ci := 3) (v := .ref r1) (ty := .object "PromiseLoop$Line") (C := RX3) (T := TX3) (N := 15) X.1 X.2.1 X.2.2.1 wu_X3 tyX3 tyX3_ok nmX3 X.2.2.2.1 X.2.2.2.2 hP hD hS 0 rfl rfl 0 (by decide) (X.2.2.1 _ wf_X3_0) (fun _ h => h) rfl hin rfl (by decide +kernel) rfl rfl (Nat.le_of_ble_eq_true rfl) dX3_init_101 (fun H locs hP hD hS => ?_)
  have hP : va_P D vwCl [(h0, .inr (3, [.ref r1, .null, .ref q1, .ref q2, .ref q3, .ref q4, .ref q5, .int (0 : Int32), .ref q6, .int (0 : Int32), .ref q7, .ref q8, .ref q9, .ref q10, .int (0 : Int32)])), (q1, .inl (cs 0, 40, .inl (fun _ => 0))), (q2, .inl (cs 0, 40, .inl (fun _ => 0))), (q3, .inl (cs 1, 40, .inl (fun _ => 0))), (q4, .inl (cs 1, 40, .inl (fun _ => 0))), (q5, .inl (cs 1, 40, .inl (fun _ => 0))), (q6, .inl (cs 0, 40, .inl (fun _ => 0))), (q7, .inl (cs 0, 80, .inl (fun _ => 0))), (q8, .inl (cs 0, 80, .inl (fun _ => 0))), (q9, .inl (cs 0, 80, .inl (fun _ => 0))), (q10, .inl (cs 0, 80, .inl (fun _ => 0)))] H := hP
  have hD : va_D A [(h0, .inr (3, [.ref r1, .null, .ref q1, .ref q2, .ref q3, .ref q4, .ref q5, .int (0 : Int32), .ref q6, .int (0 : Int32), .ref q7, .ref q8, .ref q9, .ref q10, .int (0 : Int32)])), (q1, .inl (cs 0, 40, .inl (fun _ => 0))), (q2, .inl (cs 0, 40, .inl (fun _ => 0))), (q3, .inl (cs 1, 40, .inl (fun _ => 0))), (q4, .inl (cs 1, 40, .inl (fun _ => 0))), (q5, .inl (cs 1, 40, .inl (fun _ => 0))), (q6, .inl (cs 0, 40, .inl (fun _ => 0))), (q7, .inl (cs 0, 80, .inl (fun _ => 0))), (q8, .inl (cs 0, 80, .inl (fun _ => 0))), (q9, .inl (cs 0, 80, .inl (fun _ => 0))), (q10, .inl (cs 0, 80, .inl (fun _ => 0)))] := hD
  refine lv_aload_n X.1 X.2.1 dX3_init_104 rfl (lv_at hl 0 rfl) ?_
  refine lv_aload_n X.1 X.2.1 dX3_init_105 rfl (lv_at hl 2 rfl) ?_
  refine va_putF (D := D) (ci := 3) (v := .ref r2) (ty := .object "PromiseLoop$Journal") (C := RX3) (T := TX3) (N := 15) X.1 X.2.1 X.2.2.1 wu_X3 tyX3 tyX3_ok nmX3 X.2.2.2.1 X.2.2.2.2 hP hD hS 0 rfl rfl 1 (by decide) (X.2.2.1 _ wf_X3_1) (fun _ h => h) rfl hin rfl (by decide +kernel) rfl rfl (Nat.le_of_ble_eq_true rfl) dX3_init_106 (fun H locs hP hD hS => ?_)
  have hP : va_P D vwCl [(h0, .inr (3, [.ref r1, .ref r2, .ref q1, .ref q2, .ref q3, .ref q4, .ref q5, .int (0 : Int32), .ref q6, .int (0 : Int32), .ref q7, .ref q8, .ref q9, .ref q10, .int (0 : Int32)])), (q1, .inl (cs 0, 40, .inl (fun _ => 0))), (q2, .inl (cs 0, 40, .inl (fun _ => 0))), (q3, .inl (cs 1, 40, .inl (fun _ => 0))), (q4, .inl (cs 1, 40, .inl (fun _ => 0))), (q5, .inl (cs 1, 40, .inl (fun _ => 0))), (q6, .inl (cs 0, 40, .inl (fun _ => 0))), (q7, .inl (cs 0, 80, .inl (fun _ => 0))), (q8, .inl (cs 0, 80, .inl (fun _ => 0))), (q9, .inl (cs 0, 80, .inl (fun _ => 0))), (q10, .inl (cs 0, 80, .inl (fun _ => 0)))] H := hP
  have hD : va_D A [(h0, .inr (3, [.ref r1, .ref r2, .ref q1, .ref q2, .ref q3, .ref q4, .ref q5, .int (0 : Int32), .ref q6, .int (0 : Int32), .ref q7, .ref q8, .ref q9, .ref q10, .int (0 : Int32)])), (q1, .inl (cs 0, 40, .inl (fun _ => 0))), (q2, .inl (cs 0, 40, .inl (fun _ => 0))), (q3, .inl (cs 1, 40, .inl (fun _ => 0))), (q4, .inl (cs 1, 40, .inl (fun _ => 0))), (q5, .inl (cs 1, 40, .inl (fun _ => 0))), (q6, .inl (cs 0, 40, .inl (fun _ => 0))), (q7, .inl (cs 0, 80, .inl (fun _ => 0))), (q8, .inl (cs 0, 80, .inl (fun _ => 0))), (q9, .inl (cs 0, 80, .inl (fun _ => 0))), (q10, .inl (cs 0, 80, .inl (fun _ => 0)))] := hD
  exact px_retN X hr hlk hP hD hS (fun j => if j = 0 then q1 else if j = 1 then q2 else if j = 2 then q3 else if j = 3 then q4 else if j = 4 then q5 else if j = 5 then q6 else if j = 6 then q7 else if j = 7 then q8 else if j = 8 then q9 else if j = 9 then q10 else 0) rfl (Nat.le_refl _) (Nat.le_refl _) dX3_init_109
set_option maxHeartbeats 4000000 in
set_option maxRecDepth 100000 in
theorem nC_Timers (l : Launch) (D : va_G) (cs : Nat → ClassId) (h0 : Nat) : px_mN l D (tyC cs) yX4_init cX4_init 1 1 8 96 (fun _ => True) [.ref h0] [(h0, .inr (4, [.null, .null, .null, .null, .null, .null, .null, .null, .int 0, .int 0]))] (fun a => [(h0, .inr (4, [.ref (a 0), .ref (a 1), .ref (a 2), .ref (a 3), .ref (a 4), .ref (a 5), .ref (a 6), .ref (a 7), .int (0 : Int32), .int (0 : Int32)])), ((a 0), .inl (cs 0, 12, .inl (fun _ => 0))), ((a 1), .inl (cs 0, 12, .inl (fun _ => 0))), ((a 2), .inl (cs 0, 12, .inl (fun _ => 0))), ((a 3), .inl (cs 0, 12, .inl (fun _ => 0))), ((a 4), .inl (cs 0, 12, .inl (fun _ => 0))), ((a 5), .inl (cs 0, 12, .inl (fun _ => 0))), ((a 6), .inl (cs 1, 12, .inl (fun _ => 0))), ((a 7), .inl (cs 1, 12, .inl (fun _ => 0)))]) := by
  refine px_ofN (by decide +kernel) rfl (Nat.le_of_ble_eq_true rfl) ?_
  intro p e s m below meth c A ls X hr hlk hin hml hE hP hD hS hA hl
  have hl : lv_has ls 1 [(0, .ref h0)] := hl
  refine lv_aload_n X.1 X.2.1 dX4_init_0 rfl (lv_at hl 0 rfl) ?_
  refine px_oi X hml hl (px_tb (by decide +kernel) (by decide +kernel)) (px_tb (by decide +kernel) (by decide +kernel)) (px_tb (by decide +kernel) (by decide +kernel)) dX4_init_1 (Nat.le_of_ble_eq_true rfl) (Nat.le_of_ble_eq_true rfl) ?_
  refine lv_aload_n X.1 X.2.1 dX4_init_4 rfl (lv_at hl 0 rfl) ?_
  refine lv_bipush (v := (12 : Int32)) X.1 X.2.1 dX4_init_5 (by decide) ?_
  refine px_newI X hP hD hS hA 0 rfl (px_tb (by decide +kernel) (by decide +kernel)) (N := 12) (by decide) (by decide) (by decide) (Nat.le_of_ble_eq_true rfl) (Nat.le_of_ble_eq_true rfl) dX4_init_7 (fun q1 H hP hD hS => ?_)
  have hP : va_P D vwCl [(h0, .inr (4, [.null, .null, .null, .null, .null, .null, .null, .null, .int 0, .int 0])), (q1, .inl (cs 0, 12, .inl (fun _ => 0)))] H := hP
  have hD : va_D A [(h0, .inr (4, [.null, .null, .null, .null, .null, .null, .null, .null, .int 0, .int 0])), (q1, .inl (cs 0, 12, .inl (fun _ => 0)))] := hD
  refine W.widen (k := 1) (n := 12) (by decide) (by decide) ?_
  refine va_putF (D := D) (ci := 4) (v := .ref q1) (ty := .array .int) (C := RX4) (T := TX4) (N := 10) X.1 X.2.1 X.2.2.1 wu_X4 tyX4 tyX4_ok nmX4 X.2.2.2.1 X.2.2.2.2 hP hD hS 0 rfl rfl 0 (by decide) (X.2.2.1 _ wf_X4_0) (fun _ h => h) rfl hin rfl (by decide +kernel) rfl rfl (Nat.le_of_ble_eq_true rfl) dX4_init_9 (fun H locs hP hD hS => ?_)
  have hP : va_P D vwCl [(h0, .inr (4, [.ref q1, .null, .null, .null, .null, .null, .null, .null, .int 0, .int 0])), (q1, .inl (cs 0, 12, .inl (fun _ => 0)))] H := hP
  have hD : va_D A [(h0, .inr (4, [.ref q1, .null, .null, .null, .null, .null, .null, .null, .int 0, .int 0])), (q1, .inl (cs 0, 12, .inl (fun _ => 0)))] := hD
  refine lv_aload_n X.1 X.2.1 dX4_init_12 rfl (lv_at hl 0 rfl) ?_
  refine lv_bipush (v := (12 : Int32)) X.1 X.2.1 dX4_init_13 (by decide) ?_
  refine px_newI X hP hD hS hA 0 rfl (px_tb (by decide +kernel) (by decide +kernel)) (N := 12) (by decide) (by decide) (by decide) (Nat.le_of_ble_eq_true rfl) (Nat.le_of_ble_eq_true rfl) dX4_init_15 (fun q2 H hP hD hS => ?_)
  have hP : va_P D vwCl [(h0, .inr (4, [.ref q1, .null, .null, .null, .null, .null, .null, .null, .int 0, .int 0])), (q1, .inl (cs 0, 12, .inl (fun _ => 0))), (q2, .inl (cs 0, 12, .inl (fun _ => 0)))] H := hP
  have hD : va_D A [(h0, .inr (4, [.ref q1, .null, .null, .null, .null, .null, .null, .null, .int 0, .int 0])), (q1, .inl (cs 0, 12, .inl (fun _ => 0))), (q2, .inl (cs 0, 12, .inl (fun _ => 0)))] := hD
  refine W.widen (k := 2) (n := 24) (by decide) (by decide) ?_
  refine va_putF (D := D) (ci := 4) (v := .ref q2) (ty := .array .int) (C := RX4) (T := TX4) (N := 10) X.1 X.2.1 X.2.2.1 wu_X4 tyX4 tyX4_ok nmX4 X.2.2.2.1 X.2.2.2.2 hP hD hS 0 rfl rfl 1 (by decide) (X.2.2.1 _ wf_X4_1) (fun _ h => h) rfl hin rfl (by decide +kernel) rfl rfl (Nat.le_of_ble_eq_true rfl) dX4_init_17 (fun H locs hP hD hS => ?_)
  have hP : va_P D vwCl [(h0, .inr (4, [.ref q1, .ref q2, .null, .null, .null, .null, .null, .null, .int 0, .int 0])), (q1, .inl (cs 0, 12, .inl (fun _ => 0))), (q2, .inl (cs 0, 12, .inl (fun _ => 0)))] H := hP
  have hD : va_D A [(h0, .inr (4, [.ref q1, .ref q2, .null, .null, .null, .null, .null, .null, .int 0, .int 0])), (q1, .inl (cs 0, 12, .inl (fun _ => 0))), (q2, .inl (cs 0, 12, .inl (fun _ => 0)))] := hD
  refine lv_aload_n X.1 X.2.1 dX4_init_20 rfl (lv_at hl 0 rfl) ?_
  refine lv_bipush (v := (12 : Int32)) X.1 X.2.1 dX4_init_21 (by decide) ?_
  refine px_newI X hP hD hS hA 0 rfl (px_tb (by decide +kernel) (by decide +kernel)) (N := 12) (by decide) (by decide) (by decide) (Nat.le_of_ble_eq_true rfl) (Nat.le_of_ble_eq_true rfl) dX4_init_23 (fun q3 H hP hD hS => ?_)
  have hP : va_P D vwCl [(h0, .inr (4, [.ref q1, .ref q2, .null, .null, .null, .null, .null, .null, .int 0, .int 0])), (q1, .inl (cs 0, 12, .inl (fun _ => 0))), (q2, .inl (cs 0, 12, .inl (fun _ => 0))), (q3, .inl (cs 0, 12, .inl (fun _ => 0)))] H := hP
  have hD : va_D A [(h0, .inr (4, [.ref q1, .ref q2, .null, .null, .null, .null, .null, .null, .int 0, .int 0])), (q1, .inl (cs 0, 12, .inl (fun _ => 0))), (q2, .inl (cs 0, 12, .inl (fun _ => 0))), (q3, .inl (cs 0, 12, .inl (fun _ => 0)))] := hD
  refine W.widen (k := 3) (n := 36) (by decide) (by decide) ?_
  refine va_putF (D := D) (ci := 4) (v := .ref q3) (ty := .array .int) (C := RX4) (T := TX4) (N := 10) X.1 X.2.1 X.2.2.1 wu_X4 tyX4 tyX4_ok nmX4 X.2.2.2.1 X.2.2.2.2 hP hD hS 0 rfl rfl 2 (by decide) (X.2.2.1 _ wf_X4_2) (fun _ h => h) rfl hin rfl (by decide +kernel) rfl rfl (Nat.le_of_ble_eq_true rfl) dX4_init_25 (fun H locs hP hD hS => ?_)
  have hP : va_P D vwCl [(h0, .inr (4, [.ref q1, .ref q2, .ref q3, .null, .null, .null, .null, .null, .int 0, .int 0])), (q1, .inl (cs 0, 12, .inl (fun _ => 0))), (q2, .inl (cs 0, 12, .inl (fun _ => 0))), (q3, .inl (cs 0, 12, .inl (fun _ => 0)))] H := hP
  have hD : va_D A [(h0, .inr (4, [.ref q1, .ref q2, .ref q3, .null, .null, .null, .null, .null, .int 0, .int 0])), (q1, .inl (cs 0, 12, .inl (fun _ => 0))), (q2, .inl (cs 0, 12, .inl (fun _ => 0))), (q3, .inl (cs 0, 12, .inl (fun _ => 0)))] := hD
  refine lv_aload_n X.1 X.2.1 dX4_init_28 rfl (lv_at hl 0 rfl) ?_
  refine lv_bipush (v := (12 : Int32)) X.1 X.2.1 dX4_init_29 (by decide) ?_
  refine px_newI X hP hD hS hA 0 rfl (px_tb (by decide +kernel) (by decide +kernel)) (N := 12) (by decide) (by decide) (by decide) (Nat.le_of_ble_eq_true rfl) (Nat.le_of_ble_eq_true rfl) dX4_init_31 (fun q4 H hP hD hS => ?_)
  have hP : va_P D vwCl [(h0, .inr (4, [.ref q1, .ref q2, .ref q3, .null, .null, .null, .null, .null, .int 0, .int 0])), (q1, .inl (cs 0, 12, .inl (fun _ => 0))), (q2, .inl (cs 0, 12, .inl (fun _ => 0))), (q3, .inl (cs 0, 12, .inl (fun _ => 0))), (q4, .inl (cs 0, 12, .inl (fun _ => 0)))] H := hP
  have hD : va_D A [(h0, .inr (4, [.ref q1, .ref q2, .ref q3, .null, .null, .null, .null, .null, .int 0, .int 0])), (q1, .inl (cs 0, 12, .inl (fun _ => 0))), (q2, .inl (cs 0, 12, .inl (fun _ => 0))), (q3, .inl (cs 0, 12, .inl (fun _ => 0))), (q4, .inl (cs 0, 12, .inl (fun _ => 0)))] := hD
  refine W.widen (k := 4) (n := 48) (by decide) (by decide) ?_
  refine va_putF (D := D) (ci := 4) (v := .ref q4) (ty := .array .int) (C := RX4) (T := TX4) (N := 10) X.1 X.2.1 X.2.2.1 wu_X4 tyX4 tyX4_ok nmX4 X.2.2.2.1 X.2.2.2.2 hP hD hS 0 rfl rfl 3 (by decide) (X.2.2.1 _ wf_X4_3) (fun _ h => h) rfl hin rfl (by decide +kernel) rfl rfl (Nat.le_of_ble_eq_true rfl) dX4_init_33 (fun H locs hP hD hS => ?_)
  have hP : va_P D vwCl [(h0, .inr (4, [.ref q1, .ref q2, .ref q3, .ref q4, .null, .null, .null, .null, .int 0, .int 0])), (q1, .inl (cs 0, 12, .inl (fun _ => 0))), (q2, .inl (cs 0, 12, .inl (fun _ => 0))), (q3, .inl (cs 0, 12, .inl (fun _ => 0))), (q4, .inl (cs 0, 12, .inl (fun _ => 0)))] H := hP
  have hD : va_D A [(h0, .inr (4, [.ref q1, .ref q2, .ref q3, .ref q4, .null, .null, .null, .null, .int 0, .int 0])), (q1, .inl (cs 0, 12, .inl (fun _ => 0))), (q2, .inl (cs 0, 12, .inl (fun _ => 0))), (q3, .inl (cs 0, 12, .inl (fun _ => 0))), (q4, .inl (cs 0, 12, .inl (fun _ => 0)))] := hD
  refine lv_aload_n X.1 X.2.1 dX4_init_36 rfl (lv_at hl 0 rfl) ?_
  refine lv_bipush (v := (12 : Int32)) X.1 X.2.1 dX4_init_37 (by decide) ?_
  refine px_newI X hP hD hS hA 0 rfl (px_tb (by decide +kernel) (by decide +kernel)) (N := 12) (by decide) (by decide) (by decide) (Nat.le_of_ble_eq_true rfl) (Nat.le_of_ble_eq_true rfl) dX4_init_39 (fun q5 H hP hD hS => ?_)
  have hP : va_P D vwCl [(h0, .inr (4, [.ref q1, .ref q2, .ref q3, .ref q4, .null, .null, .null, .null, .int 0, .int 0])), (q1, .inl (cs 0, 12, .inl (fun _ => 0))), (q2, .inl (cs 0, 12, .inl (fun _ => 0))), (q3, .inl (cs 0, 12, .inl (fun _ => 0))), (q4, .inl (cs 0, 12, .inl (fun _ => 0))), (q5, .inl (cs 0, 12, .inl (fun _ => 0)))] H := hP
  have hD : va_D A [(h0, .inr (4, [.ref q1, .ref q2, .ref q3, .ref q4, .null, .null, .null, .null, .int 0, .int 0])), (q1, .inl (cs 0, 12, .inl (fun _ => 0))), (q2, .inl (cs 0, 12, .inl (fun _ => 0))), (q3, .inl (cs 0, 12, .inl (fun _ => 0))), (q4, .inl (cs 0, 12, .inl (fun _ => 0))), (q5, .inl (cs 0, 12, .inl (fun _ => 0)))] := hD
  refine W.widen (k := 5) (n := 60) (by decide) (by decide) ?_
  refine va_putF (D := D) (ci := 4) (v := .ref q5) (ty := .array .int) (C := RX4) (T := TX4) (N := 10) X.1 X.2.1 X.2.2.1 wu_X4 tyX4 tyX4_ok nmX4 X.2.2.2.1 X.2.2.2.2 hP hD hS 0 rfl rfl 4 (by decide) (X.2.2.1 _ wf_X4_4) (fun _ h => h) rfl hin rfl (by decide +kernel) rfl rfl (Nat.le_of_ble_eq_true rfl) dX4_init_41 (fun H locs hP hD hS => ?_)
  have hP : va_P D vwCl [(h0, .inr (4, [.ref q1, .ref q2, .ref q3, .ref q4, .ref q5, .null, .null, .null, .int 0, .int 0])), (q1, .inl (cs 0, 12, .inl (fun _ => 0))), (q2, .inl (cs 0, 12, .inl (fun _ => 0))), (q3, .inl (cs 0, 12, .inl (fun _ => 0))), (q4, .inl (cs 0, 12, .inl (fun _ => 0))), (q5, .inl (cs 0, 12, .inl (fun _ => 0)))] H := hP
  have hD : va_D A [(h0, .inr (4, [.ref q1, .ref q2, .ref q3, .ref q4, .ref q5, .null, .null, .null, .int 0, .int 0])), (q1, .inl (cs 0, 12, .inl (fun _ => 0))), (q2, .inl (cs 0, 12, .inl (fun _ => 0))), (q3, .inl (cs 0, 12, .inl (fun _ => 0))), (q4, .inl (cs 0, 12, .inl (fun _ => 0))), (q5, .inl (cs 0, 12, .inl (fun _ => 0)))] := hD
  refine lv_aload_n X.1 X.2.1 dX4_init_44 rfl (lv_at hl 0 rfl) ?_
  refine lv_bipush (v := (12 : Int32)) X.1 X.2.1 dX4_init_45 (by decide) ?_
  refine px_newI X hP hD hS hA 0 rfl (px_tb (by decide +kernel) (by decide +kernel)) (N := 12) (by decide) (by decide) (by decide) (Nat.le_of_ble_eq_true rfl) (Nat.le_of_ble_eq_true rfl) dX4_init_47 (fun q6 H hP hD hS => ?_)
  have hP : va_P D vwCl [(h0, .inr (4, [.ref q1, .ref q2, .ref q3, .ref q4, .ref q5, .null, .null, .null, .int 0, .int 0])), (q1, .inl (cs 0, 12, .inl (fun _ => 0))), (q2, .inl (cs 0, 12, .inl (fun _ => 0))), (q3, .inl (cs 0, 12, .inl (fun _ => 0))), (q4, .inl (cs 0, 12, .inl (fun _ => 0))), (q5, .inl (cs 0, 12, .inl (fun _ => 0))), (q6, .inl (cs 0, 12, .inl (fun _ => 0)))] H := hP
  have hD : va_D A [(h0, .inr (4, [.ref q1, .ref q2, .ref q3, .ref q4, .ref q5, .null, .null, .null, .int 0, .int 0])), (q1, .inl (cs 0, 12, .inl (fun _ => 0))), (q2, .inl (cs 0, 12, .inl (fun _ => 0))), (q3, .inl (cs 0, 12, .inl (fun _ => 0))), (q4, .inl (cs 0, 12, .inl (fun _ => 0))), (q5, .inl (cs 0, 12, .inl (fun _ => 0))), (q6, .inl (cs 0, 12, .inl (fun _ => 0)))] := hD
  refine W.widen (k := 6) (n := 72) (by decide) (by decide) ?_
  refine va_putF (D := D) (ci := 4) (v := .ref q6) (ty := .array .int) (C := RX4) (T := TX4) (N := 10) X.1 X.2.1 X.2.2.1 wu_X4 tyX4 tyX4_ok nmX4 X.2.2.2.1 X.2.2.2.2 hP hD hS 0 rfl rfl 5 (by decide) (X.2.2.1 _ wf_X4_5) (fun _ h => h) rfl hin rfl (by decide +kernel) rfl rfl (Nat.le_of_ble_eq_true rfl) dX4_init_49 (fun H locs hP hD hS => ?_)
  have hP : va_P D vwCl [(h0, .inr (4, [.ref q1, .ref q2, .ref q3, .ref q4, .ref q5, .ref q6, .null, .null, .int 0, .int 0])), (q1, .inl (cs 0, 12, .inl (fun _ => 0))), (q2, .inl (cs 0, 12, .inl (fun _ => 0))), (q3, .inl (cs 0, 12, .inl (fun _ => 0))), (q4, .inl (cs 0, 12, .inl (fun _ => 0))), (q5, .inl (cs 0, 12, .inl (fun _ => 0))), (q6, .inl (cs 0, 12, .inl (fun _ => 0)))] H := hP
  have hD : va_D A [(h0, .inr (4, [.ref q1, .ref q2, .ref q3, .ref q4, .ref q5, .ref q6, .null, .null, .int 0, .int 0])), (q1, .inl (cs 0, 12, .inl (fun _ => 0))), (q2, .inl (cs 0, 12, .inl (fun _ => 0))), (q3, .inl (cs 0, 12, .inl (fun _ => 0))), (q4, .inl (cs 0, 12, .inl (fun _ => 0))), (q5, .inl (cs 0, 12, .inl (fun _ => 0))), (q6, .inl (cs 0, 12, .inl (fun _ => 0)))] := hD
  refine lv_aload_n X.1 X.2.1 dX4_init_52 rfl (lv_at hl 0 rfl) ?_
  refine lv_bipush (v := (12 : Int32)) X.1 X.2.1 dX4_init_53 (by decide) ?_
  refine px_newZ X hP hD hS hA 1 rfl (px_tb (by decide +kernel) (by decide +kernel)) (N := 12) (by decide) (by decide) (by decide) (Nat.le_of_ble_eq_true rfl) (Nat.le_of_ble_eq_true rfl) dX4_init_55 (fun q7 H hP hD hS => ?_)
  have hP : va_P D vwCl [(h0, .inr (4, [.ref q1, .ref q2, .ref q3, .ref q4, .ref q5, .ref q6, .null, .null, .int 0, .int 0])), (q1, .inl (cs 0, 12, .inl (fun _ => 0))), (q2, .inl (cs 0, 12, .inl (fun _ => 0))), (q3, .inl (cs 0, 12, .inl (fun _ => 0))), (q4, .inl (cs 0, 12, .inl (fun _ => 0))), (q5, .inl (cs 0, 12, .inl (fun _ => 0))), (q6, .inl (cs 0, 12, .inl (fun _ => 0))), (q7, .inl (cs 1, 12, .inl (fun _ => 0)))] H := hP
  have hD : va_D A [(h0, .inr (4, [.ref q1, .ref q2, .ref q3, .ref q4, .ref q5, .ref q6, .null, .null, .int 0, .int 0])), (q1, .inl (cs 0, 12, .inl (fun _ => 0))), (q2, .inl (cs 0, 12, .inl (fun _ => 0))), (q3, .inl (cs 0, 12, .inl (fun _ => 0))), (q4, .inl (cs 0, 12, .inl (fun _ => 0))), (q5, .inl (cs 0, 12, .inl (fun _ => 0))), (q6, .inl (cs 0, 12, .inl (fun _ => 0))), (q7, .inl (cs 1, 12, .inl (fun _ => 0)))] := hD
  refine W.widen (k := 7) (n := 84) (by decide) (by decide) ?_
  refine va_putF (D := D) (ci := 4) (v := .ref q7) (ty := .array .boolean) (C := RX4) (T := TX4) (N := 10) X.1 X.2.1 X.2.2.1 wu_X4 tyX4 tyX4_ok nmX4 X.2.2.2.1 X.2.2.2.2 hP hD hS 0 rfl rfl 6 (by decide) (X.2.2.1 _ wf_X4_6) (fun _ h => h) rfl hin rfl (by decide +kernel) rfl rfl (Nat.le_of_ble_eq_true rfl) dX4_init_57 (fun H locs hP hD hS => ?_)
  have hP : va_P D vwCl [(h0, .inr (4, [.ref q1, .ref q2, .ref q3, .ref q4, .ref q5, .ref q6, .ref q7, .null, .int 0, .int 0])), (q1, .inl (cs 0, 12, .inl (fun _ => 0))), (q2, .inl (cs 0, 12, .inl (fun _ => 0))), (q3, .inl (cs 0, 12, .inl (fun _ => 0))), (q4, .inl (cs 0, 12, .inl (fun _ => 0))), (q5, .inl (cs 0, 12, .inl (fun _ => 0))), (q6, .inl (cs 0, 12, .inl (fun _ => 0))), (q7, .inl (cs 1, 12, .inl (fun _ => 0)))] H := hP
  have hD : va_D A [(h0, .inr (4, [.ref q1, .ref q2, .ref q3, .ref q4, .ref q5, .ref q6, .ref q7, .null, .int 0, .int 0])), (q1, .inl (cs 0, 12, .inl (fun _ => 0))), (q2, .inl (cs 0, 12, .inl (fun _ => 0))), (q3, .inl (cs 0, 12, .inl (fun _ => 0))), (q4, .inl (cs 0, 12, .inl (fun _ => 0))), (q5, .inl (cs 0, 12, .inl (fun _ => 0))), (q6, .inl (cs 0, 12, .inl (fun _ => 0))), (q7, .inl (cs 1, 12, .inl (fun _ => 0)))] := hD
  refine lv_aload_n X.1 X.2.1 dX4_init_60 rfl (lv_at hl 0 rfl) ?_
  refine lv_bipush (v := (12 : Int32)) X.1 X.2.1 dX4_init_61 (by decide) ?_
  refine px_newZ X hP hD hS hA 1 rfl (px_tb (by decide +kernel) (by decide +kernel)) (N := 12) (by decide) (by decide) (by decide) (Nat.le_of_ble_eq_true rfl) (Nat.le_of_ble_eq_true rfl) dX4_init_63 (fun q8 H hP hD hS => ?_)
  have hP : va_P D vwCl [(h0, .inr (4, [.ref q1, .ref q2, .ref q3, .ref q4, .ref q5, .ref q6, .ref q7, .null, .int 0, .int 0])), (q1, .inl (cs 0, 12, .inl (fun _ => 0))), (q2, .inl (cs 0, 12, .inl (fun _ => 0))), (q3, .inl (cs 0, 12, .inl (fun _ => 0))), (q4, .inl (cs 0, 12, .inl (fun _ => 0))), (q5, .inl (cs 0, 12, .inl (fun _ => 0))), (q6, .inl (cs 0, 12, .inl (fun _ => 0))), (q7, .inl (cs 1, 12, .inl (fun _ => 0))), (q8, .inl (cs 1, 12, .inl (fun _ => 0)))] H := hP
  have hD : va_D A [(h0, .inr (4, [.ref q1, .ref q2, .ref q3, .ref q4, .ref q5, .ref q6, .ref q7, .null, .int 0, .int 0])), (q1, .inl (cs 0, 12, .inl (fun _ => 0))), (q2, .inl (cs 0, 12, .inl (fun _ => 0))), (q3, .inl (cs 0, 12, .inl (fun _ => 0))), (q4, .inl (cs 0, 12, .inl (fun _ => 0))), (q5, .inl (cs 0, 12, .inl (fun _ => 0))), (q6, .inl (cs 0, 12, .inl (fun _ => 0))), (q7, .inl (cs 1, 12, .inl (fun _ => 0))), (q8, .inl (cs 1, 12, .inl (fun _ => 0)))] := hD
  refine W.widen (k := 8) (n := 96) (by decide) (by decide) ?_
  refine va_putF (D := D) (ci := 4) (v := .ref q8) (ty := .array .boolean) (C := RX4) (T := TX4) (N := 10) X.1 X.2.1 X.2.2.1 wu_X4 tyX4 tyX4_ok nmX4 X.2.2.2.1 X.2.2.2.2 hP hD hS 0 rfl rfl 7 (by decide) (X.2.2.1 _ wf_X4_7) (fun _ h => h) rfl hin rfl (by decide +kernel) rfl rfl (Nat.le_of_ble_eq_true rfl) dX4_init_65 (fun H locs hP hD hS => ?_)
  have hP : va_P D vwCl [(h0, .inr (4, [.ref q1, .ref q2, .ref q3, .ref q4, .ref q5, .ref q6, .ref q7, .ref q8, .int 0, .int 0])), (q1, .inl (cs 0, 12, .inl (fun _ => 0))), (q2, .inl (cs 0, 12, .inl (fun _ => 0))), (q3, .inl (cs 0, 12, .inl (fun _ => 0))), (q4, .inl (cs 0, 12, .inl (fun _ => 0))), (q5, .inl (cs 0, 12, .inl (fun _ => 0))), (q6, .inl (cs 0, 12, .inl (fun _ => 0))), (q7, .inl (cs 1, 12, .inl (fun _ => 0))), (q8, .inl (cs 1, 12, .inl (fun _ => 0)))] H := hP
  have hD : va_D A [(h0, .inr (4, [.ref q1, .ref q2, .ref q3, .ref q4, .ref q5, .ref q6, .ref q7, .ref q8, .int 0, .int 0])), (q1, .inl (cs 0, 12, .inl (fun _ => 0))), (q2, .inl (cs 0, 12, .inl (fun _ => 0))), (q3, .inl (cs 0, 12, .inl (fun _ => 0))), (q4, .inl (cs 0, 12, .inl (fun _ => 0))), (q5, .inl (cs 0, 12, .inl (fun _ => 0))), (q6, .inl (cs 0, 12, .inl (fun _ => 0))), (q7, .inl (cs 1, 12, .inl (fun _ => 0))), (q8, .inl (cs 1, 12, .inl (fun _ => 0)))] := hD
  refine lv_aload_n X.1 X.2.1 dX4_init_68 rfl (lv_at hl 0 rfl) ?_
  refine lv_iconst (v := (0 : Int32)) X.1 X.2.1 dX4_init_69 (by decide) ?_
  refine va_put (D := D) (ci := 4) (v := .int (0 : Int32)) (ty := .int) (C := RX4) (T := TX4) (N := 10) X.1 X.2.1 X.2.2.1 wu_X4 tyX4 tyX4_ok nmX4 X.2.2.2.1 X.2.2.2.2 hP hD hS 0 rfl rfl 8 (by decide) (X.2.2.1 _ wf_X4_8) (fun _ h => h) rfl (by decide +kernel) rfl rfl (Nat.le_of_ble_eq_true rfl) dX4_init_70 (fun H locs hP hD hS => ?_)
  have hP : va_P D vwCl [(h0, .inr (4, [.ref q1, .ref q2, .ref q3, .ref q4, .ref q5, .ref q6, .ref q7, .ref q8, .int (0 : Int32), .int 0])), (q1, .inl (cs 0, 12, .inl (fun _ => 0))), (q2, .inl (cs 0, 12, .inl (fun _ => 0))), (q3, .inl (cs 0, 12, .inl (fun _ => 0))), (q4, .inl (cs 0, 12, .inl (fun _ => 0))), (q5, .inl (cs 0, 12, .inl (fun _ => 0))), (q6, .inl (cs 0, 12, .inl (fun _ => 0))), (q7, .inl (cs 1, 12, .inl (fun _ => 0))), (q8, .inl (cs 1, 12, .inl (fun _ => 0)))] H := hP
  have hD : va_D A [(h0, .inr (4, [.ref q1, .ref q2, .ref q3, .ref q4, .ref q5, .ref q6, .ref q7, .ref q8, .int (0 : Int32), .int 0])), (q1, .inl (cs 0, 12, .inl (fun _ => 0))), (q2, .inl (cs 0, 12, .inl (fun _ => 0))), (q3, .inl (cs 0, 12, .inl (fun _ => 0))), (q4, .inl (cs 0, 12, .inl (fun _ => 0))), (q5, .inl (cs 0, 12, .inl (fun _ => 0))), (q6, .inl (cs 0, 12, .inl (fun _ => 0))), (q7, .inl (cs 1, 12, .inl (fun _ => 0))), (q8, .inl (cs 1, 12, .inl (fun _ => 0)))] := hD
  refine lv_aload_n X.1 X.2.1 dX4_init_73 rfl (lv_at hl 0 rfl) ?_
  refine lv_iconst (v := (0 : Int32)) X.1 X.2.1 dX4_init_74 (by decide) ?_
  refine va_put (D := D) (ci := 4) (v := .int (0 : Int32)) (ty := .int) (C := RX4) (T := TX4) (N := 10) X.1 X.2.1 X.2.2.1 wu_X4 tyX4 tyX4_ok nmX4 X.2.2.2.1 X.2.2.2.2 hP hD hS 0 rfl rfl 9 (by decide) (X.2.2.1 _ wf_X4_9) (fun _ h => h) rfl (by decide +kernel) rfl rfl (Nat.le_of_ble_eq_true rfl) dX4_init_75 (fun H locs hP hD hS => ?_)
  have hP : va_P D vwCl [(h0, .inr (4, [.ref q1, .ref q2, .ref q3, .ref q4, .ref q5, .ref q6, .ref q7, .ref q8, .int (0 : Int32), .int (0 : Int32)])), (q1, .inl (cs 0, 12, .inl (fun _ => 0))), (q2, .inl (cs 0, 12, .inl (fun _ => 0))), (q3, .inl (cs 0, 12, .inl (fun _ => 0))), (q4, .inl (cs 0, 12, .inl (fun _ => 0))), (q5, .inl (cs 0, 12, .inl (fun _ => 0))), (q6, .inl (cs 0, 12, .inl (fun _ => 0))), (q7, .inl (cs 1, 12, .inl (fun _ => 0))), (q8, .inl (cs 1, 12, .inl (fun _ => 0)))] H := hP
  have hD : va_D A [(h0, .inr (4, [.ref q1, .ref q2, .ref q3, .ref q4, .ref q5, .ref q6, .ref q7, .ref q8, .int (0 : Int32), .int (0 : Int32)])), (q1, .inl (cs 0, 12, .inl (fun _ => 0))), (q2, .inl (cs 0, 12, .inl (fun _ => 0))), (q3, .inl (cs 0, 12, .inl (fun _ => 0))), (q4, .inl (cs 0, 12, .inl (fun _ => 0))), (q5, .inl (cs 0, 12, .inl (fun _ => 0))), (q6, .inl (cs 0, 12, .inl (fun _ => 0))), (q7, .inl (cs 1, 12, .inl (fun _ => 0))), (q8, .inl (cs 1, 12, .inl (fun _ => 0)))] := hD
  exact px_retN X hr hlk hP hD hS (fun j => if j = 0 then q1 else if j = 1 then q2 else if j = 2 then q3 else if j = 3 then q4 else if j = 4 then q5 else if j = 5 then q6 else if j = 6 then q7 else if j = 7 then q8 else 0) rfl (Nat.le_refl _) (Nat.le_refl _) dX4_init_78
