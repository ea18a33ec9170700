/-! The law's own methods, with their tables: they answer 0, or the number of what was thrown. -/
def px_NcU (U : State) : Prop := va_Nc "java/lang/IllegalStateException" "java/lang/IllegalArgumentException" U ∧ va_Nc "java/lang/IllegalStateException" "java/lang/IndexOutOfBoundsException" U
def px_res (ou : Bool) (cd : String → Int32) (z : px_Z) (M : px_M) (g : Nat → Int64) (r : Int32) (u : px_M × (Nat → Int64)) : Prop := match z with
  | .inl v => r = 0 ∧ u.1 = v.2 ∧ u.2 = (if ou = true then vp_updL g 0 v.1.toInt64 else g)
  | .inr E => r = cd E ∧ u = (M, g)
def px_QL (D : va_G) (cs : Nat → ClassId) (wy : px_M → (Nat → Int64) → va_W) (ou : Bool) (cd : String → Int32) (z : px_Z) (M : px_M) (g : Nat → Int64) (below : List Frame) (args : Array Value) (s : State) (A : Nat → Prop) : State → Prop :=
  MQ below (va_Qi (fun r (u : px_M × (Nat → Int64)) => px_res ou cd z M g r u) (fun u t => va_P D vwCl (wy u.1 u.2) t.heap ∧ va_K D vwCl (tyL cs) t ∧ va_D A (wy u.1 u.2)) A) args s 1 6 A
def px_mL (l : Launch) (D : va_G) (cs : Nat → ClassId) (sa : Nat → Nat) (wy : px_M → (Nat → Int64) → va_W) (ou : Bool) (cd : String → Int32) (y : MethodName) (bytes : ByteArray) (n : Nat) (hh : List (Nat × Nat × Nat × Nat)) (k : Nat) (as : List Value) (M : px_M) (g : Nat → Int64) (z : px_Z) : Prop :=
  ∀ sz : Nat, Met l y (.codeWith y bytes n (some .int) hh :: px_TB) (px_rn k 1 6) (va_Pc as (fun U => (U.heap.size = sz ∧ va_P D vwCl (wy M g) U.heap ∧ va_K D vwCl (tyL cs) U ∧ va_D (fun _ => True) (wy M g)) ∧ px_Ex sa (va_A (wy M g) sz) U U.heap ∧ px_NcU U)) (va_Qi (fun r (u : px_M × (Nat → Int64)) => px_res ou cd z M g r u) (fun u t => va_P D vwCl (wy u.1 u.2) t.heap ∧ va_K D vwCl (tyL cs) t ∧ va_D (va_A (wy M g) sz) (wy u.1 u.2)) (va_A (wy M g) sz)) 1 6 (va_A (wy M g) sz)
theorem px_ofL {l : Launch} {D : va_G} {cs : Nat → ClassId} {sa : Nat → Nat} {wy : px_M → (Nat → Int64) → va_W} {ou : Bool} {cd : String → Int32} {y : MethodName} {bytes : ByteArray} {n : Nat} {hh : List (Nat × Nat × Nat × Nat)} {k : Nat} {as : List Value} {M : px_M} {g : Nat → Int64} {z : px_Z} (hy : plainName y.cls = true) (hle : (lg_sl as).length ≤ n)
    (body : ∀ (p : Program) (e : Env) (s : State) (m : MethodId) (below : List Frame) (meth : Method) (c : Code) (A : Nat → Prop) (ls : Array Slot), px_X D (tyL cs) p s m as.toArray c bytes y.cls → meth.sig.returnType = some .int → meth.locks = false → c.maxLocals = n → c.exceptionTable.toList = tableOf hh →
      va_P D vwCl (wy M g) s.heap → va_D A (wy M g) → va_S A s.heap s.heap [] → (∀ q : Nat, s.heap.size ≤ q → A q) → px_Ex sa A s s.heap → px_NcU s → lv_has ls n (lv_args 0 as) → W p l e (px_rn k 1 6) s m as.toArray below meth c s.heap [] 0 0 (px_QL D cs wy ou cd z M g below as.toArray s A) (F0 m 0 ls [])) : px_mL l D cs sa wy ou cd y bytes n hh k as M g z := by
  intro sz
  refine MetFree.of_bodyS (code := bytes) (maxLocals := n) (ret := some .int) hy ?_ ?_
  · intro args s m h hn
    obtain ⟨m9, meth, c, hn9, h1, h2, h3, h4, -, h5, h6, -⟩ := Cond.codeWith_spec (atoms_spec (ws := .codeWith y bytes n (some .int) hh :: px_TB) h _ List.mem_cons_self)
    cases hn.symm.trans hn9
    exact ⟨meth, c, h1, h2, h3, h4, h5, h6⟩
  · intro p e s m args below meth c s₁ B hml hv _
    obtain ⟨rfl, ⟨hsz, hP, hK, hD0⟩, hE, hN⟩ := hv
    have hh0 : s₁.heap = s.heap := by rw [B.state]; rfl
    have hts0 := atoms_spec (ws := .codeWith y bytes n (some .int) hh :: px_TB) B.pre
    have hts : ∀ w ∈ px_TB, w.before as.toArray s = true := fun w h => hts0 w (List.mem_cons_of_mem _ h)
    have htab := vx_table (x := y) B (hts0 _ List.mem_cons_self)
    have hown := findClass_of_methodNamed B.named
    subst hsz
    have hD := hD0.self (sz := s.heap.size)
    have hl := lv_entry as (n := n) hle
    have K := body p e s m below meth c _ _ ⟨B.exec, B.bytes, hts, hown, hK⟩ B.returns B.notSynchronized hml htab hP hD va_S.rf (fun q h => Or.inr h) hE hN hl
    rw [← lg_entry_eq] at K
    obtain ⟨t, a1, o, b1, b2, b3⟩ := K s₁ hh0 (Stand.of_body B)
    exact ⟨t, o, a1, b1, b2, ⟨b3.1, b3.2⟩⟩
theorem px_retL {l : Launch} {D : va_G} {cs : Nat → ClassId} {wy : px_M → (Nat → Int64) → va_W} {ou : Bool} {cd : String → Int32} {M M' : px_M} {g g' : Nat → Int64} {z : px_Z} {p : Program} {e : Env} {R : Room} {s : State} {m : MethodId} {args : Array Value} {below : List Frame} {meth : Method} {c : Code} {H : Heap} {locs : List Loc} {cc : ByteArray} {pc : Nat} {ls : Array Slot} {A : Nat → Prop} {own : String} {v : Int32} (X : px_X D (tyL cs) p s m args c cc own) (hr : meth.sig.returnType = some .int) (hlk : meth.locks = false) (hP : va_P D vwCl (wy M' g') H) (hD : va_D A (wy M' g')) (hS : va_S A s.heap H locs) (hz : px_res ou cd z M g v (M', g')) (hd : decode cc pc = .ok (.ireturn, 1)) : W p l e R s m args below meth c H locs 1 6 (px_QL D cs wy ou cd z M g below args s A) (F0 m pc ls [.int v]) :=
  W.iret (v := v) X.1 X.2.1 hr (fun t ht hW => ⟨⟨v, (M', g'), rfl, hz, by rw [ht]; exact hP, va_K.moved hW.alike X.2.2.2.2, hD⟩, hS.F ht⟩) hS.2.2 hd hlk
theorem px_last {l : Launch} {D : va_G} {cs : Nat → ClassId} {ad : Nat → Nat} {o : Nat} {M : px_M} {g : Nat → Int64} {p : Program} {e : Env} {R : Room} {s : State} {m : MethodId} {args : Array Value} {below : List Frame} {meth : Method} {c : Code} {H : Heap} {locs : List Loc} {cells slots : Nat} {Q : State → Prop} {cc : ByteArray} {pc : Nat} {ls : Array Slot} {rest : List Value} {A : Nat → Prop} {own : String} {x : Int64} (X : px_X D (tyL cs) p s m args c cc own) (hP : va_P D vwCl (wC cs ad M ++ wO cs o g) H) (hD : va_D A (wC cs ad M ++ wO cs o g)) (hS : va_S A s.heap H locs) (hd : decode cc pc = .ok (.lastore, 1))
    (kk : ∀ (H : Heap) (locs : List Loc), va_P D vwCl (wC cs ad M ++ wO cs o (vp_updL g 0 x)) H → va_D A (wC cs ad M ++ wO cs o (vp_updL g 0 x)) → va_S A s.heap H locs → W p l e R s m args below meth c H locs cells slots Q (F0 m (pc + 1) ls rest)) : W p l e R s m args below meth c H locs cells slots Q (F0 m pc ls (.long x :: .int 0 :: .ref o :: rest)) := by
  refine va_last X.1 X.2.1 X.2.2.2.2 hP hD hS 52 3 rfl rfl (by unfold vp_in; decide) hd (fun H1 locs1 hP1 hD1 hS1 => ?_)
  rw [show ((0 : Int32)).toNatClampNeg = 0 by decide] at hP1 hD1
  exact kk H1 locs1 hP1 hD1 hS1

theorem lk_L_7 : px_Lk RL 7 yX5_step cX5_step 5 (some .int) 4 := ⟨px_tb (by decide +kernel) (by decide +kernel), px_tb (by decide +kernel) (by decide +kernel), px_tb (by decide +kernel) (by decide +kernel), px_tb (by decide +kernel) (by decide +kernel), px_tb (by decide +kernel) (by decide +kernel), by decide +kernel, by decide⟩
set_option maxHeartbeats 4000000 in
set_option maxRecDepth 100000 in
theorem cL_wstep (l : Launch) (hst : l.stackTraces = false) (D : va_G) (cs : Nat → ClassId) (ad : Nat → Nat) (sa : Nat → Nat) (o : Nat) {M : px_M} {g : Nat → Int64} {p1 p2 p3 p4 : Int32} {z : px_Z} (hf : fC_step M p1 p2 p3 p4 = some z) (hzz : ∀ E, z = .inr E → E = "java/lang/IllegalArgumentException" ∨ E = "java/lang/IllegalStateException") : px_mL l D cs sa (fun M g => wC cs ad M ++ wO cs o g) true (fun E => if E = "java/lang/IllegalArgumentException" then 1 else 2) yL_step cL_step 7 [(0, 14, 17, 13), (0, 14, 21, 15)] 7 [.ref (ad 0), .int p1, .int p2, .int p3, .int p4, .ref o] M g z := by
  refine px_ofL (by decide +kernel) (Nat.le_of_ble_eq_true rfl) ?_
  intro p e s m below meth c A ls X hr hlk hml htab hP hD hS hA hE hN hl
  have hl : lv_has ls 7 [(0, .ref (ad 0)), (1, .int p1), (2, .int p2), (3, .int p3), (4, .int p4), (5, .ref o)] := hl
  refine lv_aload X.1 X.2.1 dL_step_0 (lv_at hl 5 rfl) ?_
  refine lv_iconst (v := (0 : Int32)) X.1 X.2.1 dL_step_2 (by decide) ?_
  refine lv_aload_n X.1 X.2.1 dL_step_3 rfl (lv_at hl 0 rfl) ?_
  refine lv_iload_n X.1 X.2.1 dL_step_4 rfl (lv_at hl 1 rfl) ?_
  refine lv_iload_n X.1 X.2.1 dL_step_5 rfl (lv_at hl 2 rfl) ?_
  refine lv_iload_n X.1 X.2.1 dL_step_6 rfl (lv_at hl 3 rfl) ?_
  refine lv_iload X.1 X.2.1 dL_step_7 (lv_at hl 4 rfl) ?_
  refine px_xI (wf := wC cs ad) (rw := wO cs o g) (tysC := tyC cs) (As := [.int p1, .int p2, .int p3, .int p4]) (rest := [.int (0 : Int32), .ref o]) X hml hl (X.2.2.2.2.sub [0, 1, 2] rfl) hP hD hS hA hE (cC_step l hst D cs ad sa hf) lk_L_7 (Nat.le_of_ble_eq_true rfl) (Nat.le_of_ble_eq_true rfl) (Nat.le_of_ble_eq_true rfl) (Nat.le_of_ble_eq_true rfl) (va_recv X.2.2.2.2 hP (ci := 5) (q0 := 0) rfl rfl) rfl (Nat.le_of_ble_eq_true rfl) dL_step_9 (fun E ce q H locs hz hP hD hS hce hcv hcl => ?_) (fun r M1 H locs hz hP hD hS => ?_)
  · rcases hzz E hz with rfl | rfl
    · refine px_catch X.2.2.2.1 [] ⟨0, 14, 17, 13⟩ [⟨0, 14, 21, 15⟩] htab (fun z hz => by cases hz) (by decide) (by decide) (X.2.2.1 (.classLink RL 13 "java/lang/IllegalArgumentException") (px_tb (by decide +kernel) (by decide +kernel))) (va_Nw.use rfl (hE.2.1 "java/lang/IllegalArgumentException" (by decide))) hce hcv hcl ?_
      refine lv_astore (lv' := [(6, .ref q), (0, .ref (ad 0)), (1, .int p1), (2, .int p2), (3, .int p3), (4, .int p4), (5, .ref o)]) X.1 X.2.1 dL_step_17 hl (by decide) rfl (fun ls hl => ?_)
      refine lv_iconst (v := (1 : Int32)) X.1 X.2.1 dL_step_19 (by decide) ?_
      exact px_retL (wy := (fun M g => wC cs ad M ++ wO cs o g)) (M' := M) (g' := g) X hr hlk hP hD hS (by rw [hz]; exact ⟨by decide, rfl⟩) dL_step_20
    · refine px_catch X.2.2.2.1 [⟨0, 14, 17, 13⟩] ⟨0, 14, 21, 15⟩ [] htab (fun z hz => by rw [List.mem_singleton] at hz; subst hz; exact Or.inr ⟨by decide, "java/lang/IllegalArgumentException", X.2.2.1 _ (px_tb (by decide +kernel) (by decide +kernel)), hN.1⟩) (by decide) (by decide) (X.2.2.1 (.classLink RL 15 "java/lang/IllegalStateException") (px_tb (by decide +kernel) (by decide +kernel))) (va_Nw.use rfl (hE.2.1 "java/lang/IllegalStateException" (by decide))) hce hcv hcl ?_
      refine lv_astore (lv' := [(6, .ref q), (0, .ref (ad 0)), (1, .int p1), (2, .int p2), (3, .int p3), (4, .int p4), (5, .ref o)]) X.1 X.2.1 dL_step_21 hl (by decide) rfl (fun ls hl => ?_)
      refine lv_iconst (v := (2 : Int32)) X.1 X.2.1 dL_step_23 (by decide) ?_
      exact px_retL (wy := (fun M g => wC cs ad M ++ wO cs o g)) (M' := M) (g' := g) X hr hlk hP hD hS (by rw [hz]; exact ⟨by decide, rfl⟩) dL_step_24
  · refine lv_i2l X.1 X.2.1 dL_step_12 rfl ?_
    refine px_last X hP hD hS dL_step_13 (fun H locs hP hD hS => ?_)
    refine lv_goto (tgt := 25) X.1 X.2.1 dL_step_14 (by decide) ?_
    refine lv_iconst (v := (0 : Int32)) X.1 X.2.1 dL_step_25 (by decide) ?_
    exact px_retL (wy := (fun M g => wC cs ad M ++ wO cs o g)) (M' := M1) (g' := vp_updL g 0 r.toInt64) X hr hlk hP hD hS (by rw [hz]; exact ⟨rfl, rfl, rfl⟩) dL_step_26
theorem lk_L_17 : px_Lk RL 17 yX5_clear cX5_clear 2 none 1 := ⟨px_tb (by decide +kernel) (by decide +kernel), px_tb (by decide +kernel) (by decide +kernel), px_tb (by decide +kernel) (by decide +kernel), px_tb (by decide +kernel) (by decide +kernel), px_tb (by decide +kernel) (by decide +kernel), by decide +kernel, by decide⟩
set_option maxHeartbeats 4000000 in
set_option maxRecDepth 100000 in
theorem cL_wclear (l : Launch) (hst : l.stackTraces = false) (D : va_G) (cs : Nat → ClassId) (ad : Nat → Nat) (sa : Nat → Nat) (o : Nat) {M : px_M} {g : Nat → Int64} {p1 : Int32} {z : px_Z} (hf : fC_clear M p1 = some z) (hzz : ∀ E, z = .inr E → E = "java/lang/IllegalArgumentException") : px_mL l D cs sa (fun M _ => wC cs ad M ++ []) false (fun E => if E = "java/lang/IllegalArgumentException" then 1 else 2) yL_clear cL_clear 3 [(0, 5, 8, 13)] 7 [.ref (ad 0), .int p1] M g z := by
  refine px_ofL (by decide +kernel) (Nat.le_of_ble_eq_true rfl) ?_
  intro p e s m below meth c A ls X hr hlk hml htab hP hD hS hA hE hN hl
  have hl : lv_has ls 3 [(0, .ref (ad 0)), (1, .int p1)] := hl
  refine lv_aload_n X.1 X.2.1 dL_clear_0 rfl (lv_at hl 0 rfl) ?_
  refine lv_iload_n X.1 X.2.1 dL_clear_1 rfl (lv_at hl 1 rfl) ?_
  refine px_xV (wf := wC cs ad) (rw := []) (tysC := tyC cs) (As := [.int p1]) (rest := []) X hml hl (X.2.2.2.2.sub [0, 1, 2] rfl) hP hD hS hA hE (cC_clear l hst D cs ad sa hf) lk_L_17 (Nat.le_of_ble_eq_true rfl) (Nat.le_of_ble_eq_true rfl) (Nat.le_of_ble_eq_true rfl) (Nat.le_of_ble_eq_true rfl) (va_recv X.2.2.2.2 hP (ci := 5) (q0 := 0) rfl rfl) rfl (Nat.le_of_ble_eq_true rfl) dL_clear_2 (fun E ce q H locs hz hP hD hS hce hcv hcl => ?_) (fun M1 H locs hz hP hD hS => ?_)
  · rcases hzz E hz with rfl
    · refine px_catch X.2.2.2.1 [] ⟨0, 5, 8, 13⟩ [] htab (fun z hz => by cases hz) (by decide) (by decide) (X.2.2.1 (.classLink RL 13 "java/lang/IllegalArgumentException") (px_tb (by decide +kernel) (by decide +kernel))) (va_Nw.use rfl (hE.2.1 "java/lang/IllegalArgumentException" (by decide))) hce hcv hcl ?_
      refine lv_astore_n (lv' := [(2, .ref q), (0, .ref (ad 0)), (1, .int p1)]) X.1 X.2.1 dL_clear_8 rfl hl (by decide) rfl (fun ls hl => ?_)
      refine lv_iconst (v := (1 : Int32)) X.1 X.2.1 dL_clear_9 (by decide) ?_
      exact px_retL (wy := (fun M _ => wC cs ad M ++ [])) (M' := M) (g' := g) X hr hlk hP hD hS (by rw [hz]; exact ⟨by decide, rfl⟩) dL_clear_10
  · refine lv_goto (tgt := 11) X.1 X.2.1 dL_clear_5 (by decide) ?_
    refine lv_iconst (v := (0 : Int32)) X.1 X.2.1 dL_clear_11 (by decide) ?_
    exact px_retL (wy := (fun M _ => wC cs ad M ++ [])) (M' := M1) (g' := g) X hr hlk hP hD hS (by rw [hz]; exact ⟨rfl, rfl, rfl⟩) dL_clear_12
theorem lk_L_21 : px_Lk RL 21 yX5_post cX5_post 4 (some .int) 3 := ⟨px_tb (by decide +kernel) (by decide +kernel), px_tb (by decide +kernel) (by decide +kernel), px_tb (by decide +kernel) (by decide +kernel), px_tb (by decide +kernel) (by decide +kernel), px_tb (by decide +kernel) (by decide +kernel), by decide +kernel, by decide⟩
set_option maxHeartbeats 4000000 in
set_option maxRecDepth 100000 in
theorem cL_wpost (l : Launch) (hst : l.stackTraces = false) (D : va_G) (cs : Nat → ClassId) (ad : Nat → Nat) (sa : Nat → Nat) (o : Nat) {M : px_M} {g : Nat → Int64} {p1 p2 p3 : Int32} {z : px_Z} (hf : fC_post M p1 p2 p3 = some z) (hzz : ∀ E, z = .inr E → E = "java/lang/IllegalArgumentException" ∨ E = "java/lang/IllegalStateException") : px_mL l D cs sa (fun M g => wC cs ad M ++ wO cs o g) true (fun E => if E = "java/lang/IllegalArgumentException" then 1 else 2) yL_post cL_post 6 [(0, 12, 15, 13), (0, 12, 19, 15)] 7 [.ref (ad 0), .int p1, .int p2, .int p3, .ref o] M g z := by
  refine px_ofL (by decide +kernel) (Nat.le_of_ble_eq_true rfl) ?_
  intro p e s m below meth c A ls X hr hlk hml htab hP hD hS hA hE hN hl
  have hl : lv_has ls 6 [(0, .ref (ad 0)), (1, .int p1), (2, .int p2), (3, .int p3), (4, .ref o)] := hl
  refine lv_aload X.1 X.2.1 dL_post_0 (lv_at hl 4 rfl) ?_
  refine lv_iconst (v := (0 : Int32)) X.1 X.2.1 dL_post_2 (by decide) ?_
  refine lv_aload_n X.1 X.2.1 dL_post_3 rfl (lv_at hl 0 rfl) ?_
  refine lv_iload_n X.1 X.2.1 dL_post_4 rfl (lv_at hl 1 rfl) ?_
  refine lv_iload_n X.1 X.2.1 dL_post_5 rfl (lv_at hl 2 rfl) ?_
  refine lv_iload_n X.1 X.2.1 dL_post_6 rfl (lv_at hl 3 rfl) ?_
  refine px_xI (wf := wC cs ad) (rw := wO cs o g) (tysC := tyC cs) (As := [.int p1, .int p2, .int p3]) (rest := [.int (0 : Int32), .ref o]) X hml hl (X.2.2.2.2.sub [0, 1, 2] rfl) hP hD hS hA hE (cC_post l hst D cs ad sa hf) lk_L_21 (Nat.le_of_ble_eq_true rfl) (Nat.le_of_ble_eq_true rfl) (Nat.le_of_ble_eq_true rfl) (Nat.le_of_ble_eq_true rfl) (va_recv X.2.2.2.2 hP (ci := 5) (q0 := 0) rfl rfl) rfl (Nat.le_of_ble_eq_true rfl) dL_post_7 (fun E ce q H locs hz hP hD hS hce hcv hcl => ?_) (fun r M1 H locs hz hP hD hS => ?_)
  · rcases hzz E hz with rfl | rfl
    · refine px_catch X.2.2.2.1 [] ⟨0, 12, 15, 13⟩ [⟨0, 12, 19, 15⟩] htab (fun z hz => by cases hz) (by decide) (by decide) (X.2.2.1 (.classLink RL 13 "java/lang/IllegalArgumentException") (px_tb (by decide +kernel) (by decide +kernel))) (va_Nw.use rfl (hE.2.1 "java/lang/IllegalArgumentException" (by decide))) hce hcv hcl ?_
      refine lv_astore (lv' := [(5, .ref q), (0, .ref (ad 0)), (1, .int p1), (2, .int p2), (3, .int p3), (4, .ref o)]) X.1 X.2.1 dL_post_15 hl (by decide) rfl (fun ls hl => ?_)
      refine lv_iconst (v := (1 : Int32)) X.1 X.2.1 dL_post_17 (by decide) ?_
      exact px_retL (wy := (fun M g => wC cs ad M ++ wO cs o g)) (M' := M) (g' := g) X hr hlk hP hD hS (by rw [hz]; exact ⟨by decide, rfl⟩) dL_post_18
    · refine px_catch X.2.2.2.1 [⟨0, 12, 15, 13⟩] ⟨0, 12, 19, 15⟩ [] htab (fun z hz => by rw [List.mem_singleton] at hz; subst hz; exact Or.inr ⟨by decide, "java/lang/IllegalArgumentException", X.2.2.1 _ (px_tb (by decide +kernel) (by decide +kernel)), hN.1⟩) (by decide) (by decide) (X.2.2.1 (.classLink RL 15 "java/lang/IllegalStateException") (px_tb (by decide +kernel) (by decide +kernel))) (va_Nw.use rfl (hE.2.1 "java/lang/IllegalStateException" (by decide))) hce hcv hcl ?_
      refine lv_astore (lv' := [(5, .ref q), (0, .ref (ad 0)), (1, .int p1), (2, .int p2), (3, .int p3), (4, .ref o)]) X.1 X.2.1 dL_post_19 hl (by decide) rfl (fun ls hl => ?_)
      refine lv_iconst (v := (2 : Int32)) X.1 X.2.1 dL_post_21 (by decide) ?_
      exact px_retL (wy := (fun M g => wC cs ad M ++ wO cs o g)) (M' := M) (g' := g) X hr hlk hP hD hS (by rw [hz]; exact ⟨by decide, rfl⟩) dL_post_22
  · refine lv_i2l X.1 X.2.1 dL_post_10 rfl ?_
    refine px_last X hP hD hS dL_post_11 (fun H locs hP hD hS => ?_)
    refine lv_goto (tgt := 23) X.1 X.2.1 dL_post_12 (by decide) ?_
    refine lv_iconst (v := (0 : Int32)) X.1 X.2.1 dL_post_23 (by decide) ?_
    exact px_retL (wy := (fun M g => wC cs ad M ++ wO cs o g)) (M' := M1) (g' := vp_updL g 0 r.toInt64) X hr hlk hP hD hS (by rw [hz]; exact ⟨rfl, rfl, rfl⟩) dL_post_24
theorem lk_L_25 : px_Lk RL 25 yX5_prefer cX5_prefer 2 none 1 := ⟨px_tb (by decide +kernel) (by decide +kernel), px_tb (by decide +kernel) (by decide +kernel), px_tb (by decide +kernel) (by decide +kernel), px_tb (by decide +kernel) (by decide +kernel), px_tb (by decide +kernel) (by decide +kernel), by decide +kernel, by decide⟩
set_option maxHeartbeats 4000000 in
set_option maxRecDepth 100000 in
theorem cL_wprefer (l : Launch) (hst : l.stackTraces = false) (D : va_G) (cs : Nat → ClassId) (ad : Nat → Nat) (sa : Nat → Nat) (o : Nat) {M : px_M} {g : Nat → Int64} {p1 : Int32} {z : px_Z} (hf : fC_prefer M p1 = some z) (hzz : ∀ E, z = .inr E → E = "java/lang/IllegalArgumentException") : px_mL l D cs sa (fun M _ => wC cs ad M ++ []) false (fun E => if E = "java/lang/IllegalArgumentException" then 1 else 2) yL_prefer cL_prefer 3 [(0, 5, 8, 13)] 7 [.ref (ad 0), .int p1] M g z := by
  refine px_ofL (by decide +kernel) (Nat.le_of_ble_eq_true rfl) ?_
  intro p e s m below meth c A ls X hr hlk hml htab hP hD hS hA hE hN hl
  have hl : lv_has ls 3 [(0, .ref (ad 0)), (1, .int p1)] := hl
  refine lv_aload_n X.1 X.2.1 dL_prefer_0 rfl (lv_at hl 0 rfl) ?_
  refine lv_iload_n X.1 X.2.1 dL_prefer_1 rfl (lv_at hl 1 rfl) ?_
  refine px_xV (wf := wC cs ad) (rw := []) (tysC := tyC cs) (As := [.int p1]) (rest := []) X hml hl (X.2.2.2.2.sub [0, 1, 2] rfl) hP hD hS hA hE (cC_prefer l hst D cs ad sa hf) lk_L_25 (Nat.le_of_ble_eq_true rfl) (Nat.le_of_ble_eq_true rfl) (Nat.le_of_ble_eq_true rfl) (Nat.le_of_ble_eq_true rfl) (va_recv X.2.2.2.2 hP (ci := 5) (q0 := 0) rfl rfl) rfl (Nat.le_of_ble_eq_true rfl) dL_prefer_2 (fun E ce q H locs hz hP hD hS hce hcv hcl => ?_) (fun M1 H locs hz hP hD hS => ?_)
  · rcases hzz E hz with rfl
    · refine px_catch X.2.2.2.1 [] ⟨0, 5, 8, 13⟩ [] htab (fun z hz => by cases hz) (by decide) (by decide) (X.2.2.1 (.classLink RL 13 "java/lang/IllegalArgumentException") (px_tb (by decide +kernel) (by decide +kernel))) (va_Nw.use rfl (hE.2.1 "java/lang/IllegalArgumentException" (by decide))) hce hcv hcl ?_
      refine lv_astore_n (lv' := [(2, .ref q), (0, .ref (ad 0)), (1, .int p1)]) X.1 X.2.1 dL_prefer_8 rfl hl (by decide) rfl (fun ls hl => ?_)
      refine lv_iconst (v := (1 : Int32)) X.1 X.2.1 dL_prefer_9 (by decide) ?_
      exact px_retL (wy := (fun M _ => wC cs ad M ++ [])) (M' := M) (g' := g) X hr hlk hP hD hS (by rw [hz]; exact ⟨by decide, rfl⟩) dL_prefer_10
  · refine lv_goto (tgt := 11) X.1 X.2.1 dL_prefer_5 (by decide) ?_
    refine lv_iconst (v := (0 : Int32)) X.1 X.2.1 dL_prefer_11 (by decide) ?_
    exact px_retL (wy := (fun M _ => wC cs ad M ++ [])) (M' := M1) (g' := g) X hr hlk hP hD hS (by rw [hz]; exact ⟨rfl, rfl, rfl⟩) dL_prefer_12
theorem lk_L_28 : px_Lk RL 28 yX5_advance cX5_advance 3 (some .int) 1 := ⟨px_tb (by decide +kernel) (by decide +kernel), px_tb (by decide +kernel) (by decide +kernel), px_tb (by decide +kernel) (by decide +kernel), px_tb (by decide +kernel) (by decide +kernel), px_tb (by decide +kernel) (by decide +kernel), by decide +kernel, by decide⟩
set_option maxHeartbeats 4000000 in
set_option maxRecDepth 100000 in
theorem cL_wadvance (l : Launch) (hst : l.stackTraces = false) (D : va_G) (cs : Nat → ClassId) (ad : Nat → Nat) (sa : Nat → Nat) (o : Nat) {M : px_M} {g : Nat → Int64} {p1 : Int32} {z : px_Z} (hf : fC_advance M p1 = some z) (hzz : ∀ E, z = .inr E → E = "java/lang/IllegalArgumentException") : px_mL l D cs sa (fun M g => wC cs ad M ++ wO cs o g) true (fun E => if E = "java/lang/IllegalArgumentException" then 1 else 2) yL_advance cL_advance 4 [(0, 9, 12, 13)] 7 [.ref (ad 0), .int p1, .ref o] M g z := by
  refine px_ofL (by decide +kernel) (Nat.le_of_ble_eq_true rfl) ?_
  intro p e s m below meth c A ls X hr hlk hml htab hP hD hS hA hE hN hl
  have hl : lv_has ls 4 [(0, .ref (ad 0)), (1, .int p1), (2, .ref o)] := hl
  refine lv_aload_n X.1 X.2.1 dL_advance_0 rfl (lv_at hl 2 rfl) ?_
  refine lv_iconst (v := (0 : Int32)) X.1 X.2.1 dL_advance_1 (by decide) ?_
  refine lv_aload_n X.1 X.2.1 dL_advance_2 rfl (lv_at hl 0 rfl) ?_
  refine lv_iload_n X.1 X.2.1 dL_advance_3 rfl (lv_at hl 1 rfl) ?_
  refine px_xI (wf := wC cs ad) (rw := wO cs o g) (tysC := tyC cs) (As := [.int p1]) (rest := [.int (0 : Int32), .ref o]) X hml hl (X.2.2.2.2.sub [0, 1, 2] rfl) hP hD hS hA hE (cC_advance l hst D cs ad sa hf) lk_L_28 (Nat.le_of_ble_eq_true rfl) (Nat.le_of_ble_eq_true rfl) (Nat.le_of_ble_eq_true rfl) (Nat.le_of_ble_eq_true rfl) (va_recv X.2.2.2.2 hP (ci := 5) (q0 := 0) rfl rfl) rfl (Nat.le_of_ble_eq_true rfl) dL_advance_4 (fun E ce q H locs hz hP hD hS hce hcv hcl => ?_) (fun r M1 H locs hz hP hD hS => ?_)
  · rcases hzz E hz with rfl
    · refine px_catch X.2.2.2.1 [] ⟨0, 9, 12, 13⟩ [] htab (fun z hz => by cases hz) (by decide) (by decide) (X.2.2.1 (.classLink RL 13 "java/lang/IllegalArgumentException") (px_tb (by decide +kernel) (by decide +kernel))) (va_Nw.use rfl (hE.2.1 "java/lang/IllegalArgumentException" (by decide))) hce hcv hcl ?_
      refine lv_astore_n (lv' := [(3, .ref q), (0, .ref (ad 0)), (1, .int p1), (2, .ref o)]) X.1 X.2.1 dL_advance_12 rfl hl (by decide) rfl (fun ls hl => ?_)
      refine lv_iconst (v := (1 : Int32)) X.1 X.2.1 dL_advance_13 (by decide) ?_
      exact px_retL (wy := (fun M g => wC cs ad M ++ wO cs o g)) (M' := M) (g' := g) X hr hlk hP hD hS (by rw [hz]; exact ⟨by decide, rfl⟩) dL_advance_14
  · refine lv_i2l X.1 X.2.1 dL_advance_7 rfl ?_
    refine px_last X hP hD hS dL_advance_8 (fun H locs hP hD hS => ?_)
    refine lv_goto (tgt := 15) X.1 X.2.1 dL_advance_9 (by decide) ?_
    refine lv_iconst (v := (0 : Int32)) X.1 X.2.1 dL_advance_15 (by decide) ?_
    exact px_retL (wy := (fun M g => wC cs ad M ++ wO cs o g)) (M' := M1) (g' := vp_updL g 0 r.toInt64) X hr hlk hP hD hS (by rw [hz]; exact ⟨rfl, rfl, rfl⟩) dL_advance_16
theorem lk_L_32 : px_Lk RL 32 yX5_register cX5_register 2 (some .int) 1 := ⟨px_tb (by decide +kernel) (by decide +kernel), px_tb (by decide +kernel) (by decide +kernel), px_tb (by decide +kernel) (by decide +kernel), px_tb (by decide +kernel) (by decide +kernel), px_tb (by decide +kernel) (by decide +kernel), by decide +kernel, by decide⟩
set_option maxHeartbeats 4000000 in
set_option maxRecDepth 100000 in
theorem cL_wregister (l : Launch) (hst : l.stackTraces = false) (D : va_G) (cs : Nat → ClassId) (ad : Nat → Nat) (sa : Nat → Nat) (o : Nat) {M : px_M} {g : Nat → Int64} {p1 : Int32} {z : px_Z} (hf : fC_register M p1 = some z) (hzz : ∀ E, z = .inr E → E = "java/lang/IndexOutOfBoundsException") : px_mL l D cs sa (fun M g => wC cs ad M ++ wO cs o g) true (fun E => if E = "java/lang/IndexOutOfBoundsException" then 1 else 2) yL_register cL_register 4 [(0, 9, 12, 35)] 7 [.ref (ad 0), .int p1, .ref o] M g z := by
  refine px_ofL (by decide +kernel) (Nat.le_of_ble_eq_true rfl) ?_
  intro p e s m below meth c A ls X hr hlk hml htab hP hD hS hA hE hN hl
  have hl : lv_has ls 4 [(0, .ref (ad 0)), (1, .int p1), (2, .ref o)] := hl
  refine lv_aload_n X.1 X.2.1 dL_register_0 rfl (lv_at hl 2 rfl) ?_
  refine lv_iconst (v := (0 : Int32)) X.1 X.2.1 dL_register_1 (by decide) ?_
  refine lv_aload_n X.1 X.2.1 dL_register_2 rfl (lv_at hl 0 rfl) ?_
  refine lv_iload_n X.1 X.2.1 dL_register_3 rfl (lv_at hl 1 rfl) ?_
  refine px_xI (wf := wC cs ad) (rw := wO cs o g) (tysC := tyC cs) (As := [.int p1]) (rest := [.int (0 : Int32), .ref o]) X hml hl (X.2.2.2.2.sub [0, 1, 2] rfl) hP hD hS hA hE (cC_register l hst D cs ad sa hf) lk_L_32 (Nat.le_of_ble_eq_true rfl) (Nat.le_of_ble_eq_true rfl) (Nat.le_of_ble_eq_true rfl) (Nat.le_of_ble_eq_true rfl) (va_recv X.2.2.2.2 hP (ci := 5) (q0 := 0) rfl rfl) rfl (Nat.le_of_ble_eq_true rfl) dL_register_4 (fun E ce q H locs hz hP hD hS hce hcv hcl => ?_) (fun r M1 H locs hz hP hD hS => ?_)
  · rcases hzz E hz with rfl
    · refine px_catch X.2.2.2.1 [] ⟨0, 9, 12, 35⟩ [] htab (fun z hz => by cases hz) (by decide) (by decide) (X.2.2.1 (.classLink RL 35 "java/lang/IndexOutOfBoundsException") (px_tb (by decide +kernel) (by decide +kernel))) (va_Nw.use rfl (hE.2.1 "java/lang/IndexOutOfBoundsException" (by decide))) hce hcv hcl ?_
      refine lv_astore_n (lv' := [(3, .ref q), (0, .ref (ad 0)), (1, .int p1), (2, .ref o)]) X.1 X.2.1 dL_register_12 rfl hl (by decide) rfl (fun ls hl => ?_)
      refine lv_iconst (v := (1 : Int32)) X.1 X.2.1 dL_register_13 (by decide) ?_
      exact px_retL (wy := (fun M g => wC cs ad M ++ wO cs o g)) (M' := M) (g' := g) X hr hlk hP hD hS (by rw [hz]; exact ⟨by decide, rfl⟩) dL_register_14
  · refine lv_i2l X.1 X.2.1 dL_register_7 rfl ?_
    refine px_last X hP hD hS dL_register_8 (fun H locs hP hD hS => ?_)
    refine lv_goto (tgt := 15) X.1 X.2.1 dL_register_9 (by decide) ?_
    refine lv_iconst (v := (0 : Int32)) X.1 X.2.1 dL_register_15 (by decide) ?_
    exact px_retL (wy := (fun M g => wC cs ad M ++ wO cs o g)) (M' := M1) (g' := vp_updL g 0 r.toInt64) X hr hlk hP hD hS (by rw [hz]; exact ⟨rfl, rfl, rfl⟩) dL_register_16
theorem lk_L_37 : px_Lk RL 37 yX5_state cX5_state 2 (some .int) 1 := ⟨px_tb (by decide +kernel) (by decide +kernel), px_tb (by decide +kernel) (by decide +kernel), px_tb (by decide +kernel) (by decide +kernel), px_tb (by decide +kernel) (by decide +kernel), px_tb (by decide +kernel) (by decide +kernel), by decide +kernel, by decide⟩
set_option maxHeartbeats 4000000 in
set_option maxRecDepth 100000 in
theorem cL_wstate (l : Launch) (hst : l.stackTraces = false) (D : va_G) (cs : Nat → ClassId) (ad : Nat → Nat) (sa : Nat → Nat) (o : Nat) {M : px_M} {g : Nat → Int64} {p1 : Int32} {z : px_Z} (hf : fC_state M p1 = some z) (hzz : ∀ E, z = .inr E → E = "java/lang/IndexOutOfBoundsException") : px_mL l D cs sa (fun M g => wC cs ad M ++ wO cs o g) true (fun E => if E = "java/lang/IndexOutOfBoundsException" then 1 else 2) yL_state cL_state 4 [(0, 9, 12, 35)] 7 [.ref (ad 0), .int p1, .ref o] M g z := by
  refine px_ofL (by decide +kernel) (Nat.le_of_ble_eq_true rfl) ?_
  intro p e s m below meth c A ls X hr hlk hml htab hP hD hS hA hE hN hl
  have hl : lv_has ls 4 [(0, .ref (ad 0)), (1, .int p1), (2, .ref o)] := hl
  refine lv_aload_n X.1 X.2.1 dL_state_0 rfl (lv_at hl 2 rfl) ?_
  refine lv_iconst (v := (0 : Int32)) X.1 X.2.1 dL_state_1 (by decide) ?_
  refine lv_aload_n X.1 X.2.1 dL_state_2 rfl (lv_at hl 0 rfl) ?_
  refine lv_iload_n X.1 X.2.1 dL_state_3 rfl (lv_at hl 1 rfl) ?_
  refine px_xI (wf := wC cs ad) (rw := wO cs o g) (tysC := tyC cs) (As := [.int p1]) (rest := [.int (0 : Int32), .ref o]) X hml hl (X.2.2.2.2.sub [0, 1, 2] rfl) hP hD hS hA hE (cC_state l hst D cs ad sa hf) lk_L_37 (Nat.le_of_ble_eq_true rfl) (Nat.le_of_ble_eq_true rfl) (Nat.le_of_ble_eq_true rfl) (Nat.le_of_ble_eq_true rfl) (va_recv X.2.2.2.2 hP (ci := 5) (q0 := 0) rfl rfl) rfl (Nat.le_of_ble_eq_true rfl) dL_state_4 (fun E ce q H locs hz hP hD hS hce hcv hcl => ?_) (fun r M1 H locs hz hP hD hS => ?_)
  · rcases hzz E hz with rfl
    · refine px_catch X.2.2.2.1 [] ⟨0, 9, 12, 35⟩ [] htab (fun z hz => by cases hz) (by decide) (by decide) (X.2.2.1 (.classLink RL 35 "java/lang/IndexOutOfBoundsException") (px_tb (by decide +kernel) (by decide +kernel))) (va_Nw.use rfl (hE.2.1 "java/lang/IndexOutOfBoundsException" (by decide))) hce hcv hcl ?_
      refine lv_astore_n (lv' := [(3, .ref q), (0, .ref (ad 0)), (1, .int p1), (2, .ref o)]) X.1 X.2.1 dL_state_12 rfl hl (by decide) rfl (fun ls hl => ?_)
      refine lv_iconst (v := (1 : Int32)) X.1 X.2.1 dL_state_13 (by decide) ?_
      exact px_retL (wy := (fun M g => wC cs ad M ++ wO cs o g)) (M' := M) (g' := g) X hr hlk hP hD hS (by rw [hz]; exact ⟨by decide, rfl⟩) dL_state_14
  · refine lv_i2l X.1 X.2.1 dL_state_7 rfl ?_
    refine px_last X hP hD hS dL_state_8 (fun H locs hP hD hS => ?_)
    refine lv_goto (tgt := 15) X.1 X.2.1 dL_state_9 (by decide) ?_
    refine lv_iconst (v := (0 : Int32)) X.1 X.2.1 dL_state_15 (by decide) ?_
    exact px_retL (wy := (fun M g => wC cs ad M ++ wO cs o g)) (M' := M1) (g' := vp_updL g 0 r.toInt64) X hr hlk hP hD hS (by rw [hz]; exact ⟨rfl, rfl, rfl⟩) dL_state_16
theorem lk_L_40 : px_Lk RL 40 yX5_value cX5_value 2 (some .int) 1 := ⟨px_tb (by decide +kernel) (by decide +kernel), px_tb (by decide +kernel) (by decide +kernel), px_tb (by decide +kernel) (by decide +kernel), px_tb (by decide +kernel) (by decide +kernel), px_tb (by decide +kernel) (by decide +kernel), by decide +kernel, by decide⟩
set_option maxHeartbeats 4000000 in
set_option maxRecDepth 100000 in
theorem cL_wvalue (l : Launch) (hst : l.stackTraces = false) (D : va_G) (cs : Nat → ClassId) (ad : Nat → Nat) (sa : Nat → Nat) (o : Nat) {M : px_M} {g : Nat → Int64} {p1 : Int32} {z : px_Z} (hf : fC_value M p1 = some z) (hzz : ∀ E, z = .inr E → E = "java/lang/IndexOutOfBoundsException" ∨ E = "java/lang/IllegalStateException") : px_mL l D cs sa (fun M g => wC cs ad M ++ wO cs o g) true (fun E => if E = "java/lang/IndexOutOfBoundsException" then 1 else 2) yL_value cL_value 4 [(0, 9, 12, 35), (0, 9, 15, 15)] 7 [.ref (ad 0), .int p1, .ref o] M g z := by
  refine px_ofL (by decide +kernel) (Nat.le_of_ble_eq_true rfl) ?_
  intro p e s m below meth c A ls X hr hlk hml htab hP hD hS hA hE hN hl
  have hl : lv_has ls 4 [(0, .ref (ad 0)), (1, .int p1), (2, .ref o)] := hl
  refine lv_aload_n X.1 X.2.1 dL_value_0 rfl (lv_at hl 2 rfl) ?_
  refine lv_iconst (v := (0 : Int32)) X.1 X.2.1 dL_value_1 (by decide) ?_
  refine lv_aload_n X.1 X.2.1 dL_value_2 rfl (lv_at hl 0 rfl) ?_
  refine lv_iload_n X.1 X.2.1 dL_value_3 rfl (lv_at hl 1 rfl) ?_
  refine px_xI (wf := wC cs ad) (rw := wO cs o g) (tysC := tyC cs) (As := [.int p1]) (rest := [.int (0 : Int32), .ref o]) X hml hl (X.2.2.2.2.sub [0, 1, 2] rfl) hP hD hS hA hE (cC_value l hst D cs ad sa hf) lk_L_40 (Nat.le_of_ble_eq_true rfl) (Nat.le_of_ble_eq_true rfl) (Nat.le_of_ble_eq_true rfl) (Nat.le_of_ble_eq_true rfl) (va_recv X.2.2.2.2 hP (ci := 5) (q0 := 0) rfl rfl) rfl (Nat.le_of_ble_eq_true rfl) dL_value_4 (fun E ce q H locs hz hP hD hS hce hcv hcl => ?_) (fun r M1 H locs hz hP hD hS => ?_)
  · rcases hzz E hz with rfl | rfl
    · refine px_catch X.2.2.2.1 [] ⟨0, 9, 12, 35⟩ [⟨0, 9, 15, 15⟩] htab (fun z hz => by cases hz) (by decide) (by decide) (X.2.2.1 (.classLink RL 35 "java/lang/IndexOutOfBoundsException") (px_tb (by decide +kernel) (by decide +kernel))) (va_Nw.use rfl (hE.2.1 "java/lang/IndexOutOfBoundsException" (by decide))) hce hcv hcl ?_
      refine lv_astore_n (lv' := [(3, .ref q), (0, .ref (ad 0)), (1, .int p1), (2, .ref o)]) X.1 X.2.1 dL_value_12 rfl hl (by decide) rfl (fun ls hl => ?_)
      refine lv_iconst (v := (1 : Int32)) X.1 X.2.1 dL_value_13 (by decide) ?_
      exact px_retL (wy := (fun M g => wC cs ad M ++ wO cs o g)) (M' := M) (g' := g) X hr hlk hP hD hS (by rw [hz]; exact ⟨by decide, rfl⟩) dL_value_14
    · refine px_catch X.2.2.2.1 [⟨0, 9, 12, 35⟩] ⟨0, 9, 15, 15⟩ [] htab (fun z hz => by rw [List.mem_singleton] at hz; subst hz; exact Or.inr ⟨by decide, "java/lang/IndexOutOfBoundsException", X.2.2.1 _ (px_tb (by decide +kernel) (by decide +kernel)), hN.2⟩) (by decide) (by decide) (X.2.2.1 (.classLink RL 15 "java/lang/IllegalStateException") (px_tb (by decide +kernel) (by decide +kernel))) (va_Nw.use rfl (hE.2.1 "java/lang/IllegalStateException" (by decide))) hce hcv hcl ?_
      refine lv_astore_n (lv' := [(3, .ref q), (0, .ref (ad 0)), (1, .int p1), (2, .ref o)]) X.1 X.2.1 dL_value_15 rfl hl (by decide) rfl (fun ls hl => ?_)
      refine lv_iconst (v := (2 : Int32)) X.1 X.2.1 dL_value_16 (by decide) ?_
      exact px_retL (wy := (fun M g => wC cs ad M ++ wO cs o g)) (M' := M) (g' := g) X hr hlk hP hD hS (by rw [hz]; exact ⟨by decide, rfl⟩) dL_value_17
  · refine lv_i2l X.1 X.2.1 dL_value_7 rfl ?_
    refine px_last X hP hD hS dL_value_8 (fun H locs hP hD hS => ?_)
    refine lv_goto (tgt := 18) X.1 X.2.1 dL_value_9 (by decide) ?_
    refine lv_iconst (v := (0 : Int32)) X.1 X.2.1 dL_value_18 (by decide) ?_
    exact px_retL (wy := (fun M g => wC cs ad M ++ wO cs o g)) (M' := M1) (g' := vp_updL g 0 r.toInt64) X hr hlk hP hD hS (by rw [hz]; exact ⟨rfl, rfl, rfl⟩) dL_value_19
theorem lk_L_43 : px_Lk RL 43 yX5_count cX5_count 2 (some .int) 1 := ⟨px_tb (by decide +kernel) (by decide +kernel), px_tb (by decide +kernel) (by decide +kernel), px_tb (by decide +kernel) (by decide +kernel), px_tb (by decide +kernel) (by decide +kernel), px_tb (by decide +kernel) (by decide +kernel), by decide +kernel, by decide⟩
set_option maxHeartbeats 4000000 in
set_option maxRecDepth 100000 in
theorem cL_wcount (l : Launch) (hst : l.stackTraces = false) (D : va_G) (cs : Nat → ClassId) (ad : Nat → Nat) (sa : Nat → Nat) (o : Nat) {M : px_M} {g : Nat → Int64} {p1 : Int32} {z : px_Z} (hf : fC_count M p1 = some z) (hzz : ∀ E, z = .inr E → E = "java/lang/IllegalArgumentException") : px_mL l D cs sa (fun M g => wC cs ad M ++ wO cs o g) true (fun E => if E = "java/lang/IllegalArgumentException" then 1 else 2) yL_count cL_count 4 [(0, 9, 12, 13)] 7 [.ref (ad 0), .int p1, .ref o] M g z := by
  refine px_ofL (by decide +kernel) (Nat.le_of_ble_eq_true rfl) ?_
  intro p e s m below meth c A ls X hr hlk hml htab hP hD hS hA hE hN hl
  have hl : lv_has ls 4 [(0, .ref (ad 0)), (1, .int p1), (2, .ref o)] := hl
  refine lv_aload_n X.1 X.2.1 dL_count_0 rfl (lv_at hl 2 rfl) ?_
  refine lv_iconst (v := (0 : Int32)) X.1 X.2.1 dL_count_1 (by decide) ?_
  refine lv_aload_n X.1 X.2.1 dL_count_2 rfl (lv_at hl 0 rfl) ?_
  refine lv_iload_n X.1 X.2.1 dL_count_3 rfl (lv_at hl 1 rfl) ?_
  refine px_xI (wf := wC cs ad) (rw := wO cs o g) (tysC := tyC cs) (As := [.int p1]) (rest := [.int (0 : Int32), .ref o]) X hml hl (X.2.2.2.2.sub [0, 1, 2] rfl) hP hD hS hA hE (cC_count l hst D cs ad sa hf) lk_L_43 (Nat.le_of_ble_eq_true rfl) (Nat.le_of_ble_eq_true rfl) (Nat.le_of_ble_eq_true rfl) (Nat.le_of_ble_eq_true rfl) (va_recv X.2.2.2.2 hP (ci := 5) (q0 := 0) rfl rfl) rfl (Nat.le_of_ble_eq_true rfl) dL_count_4 (fun E ce q H locs hz hP hD hS hce hcv hcl => ?_) (fun r M1 H locs hz hP hD hS => ?_)
  · rcases hzz E hz with rfl
    · refine px_catch X.2.2.2.1 [] ⟨0, 9, 12, 13⟩ [] htab (fun z hz => by cases hz) (by decide) (by decide) (X.2.2.1 (.classLink RL 13 "java/lang/IllegalArgumentException") (px_tb (by decide +kernel) (by decide +kernel))) (va_Nw.use rfl (hE.2.1 "java/lang/IllegalArgumentException" (by decide))) hce hcv hcl ?_
      refine lv_astore_n (lv' := [(3, .ref q), (0, .ref (ad 0)), (1, .int p1), (2, .ref o)]) X.1 X.2.1 dL_count_12 rfl hl (by decide) rfl (fun ls hl => ?_)
      refine lv_iconst (v := (1 : Int32)) X.1 X.2.1 dL_count_13 (by decide) ?_
      exact px_retL (wy := (fun M g => wC cs ad M ++ wO cs o g)) (M' := M) (g' := g) X hr hlk hP hD hS (by rw [hz]; exact ⟨by decide, rfl⟩) dL_count_14
  · refine lv_i2l X.1 X.2.1 dL_count_7 rfl ?_
    refine px_last X hP hD hS dL_count_8 (fun H locs hP hD hS => ?_)
    refine lv_goto (tgt := 15) X.1 X.2.1 dL_count_9 (by decide) ?_
    refine lv_iconst (v := (0 : Int32)) X.1 X.2.1 dL_count_15 (by decide) ?_
    exact px_retL (wy := (fun M g => wC cs ad M ++ wO cs o g)) (M' := M1) (g' := vp_updL g 0 r.toInt64) X hr hlk hP hD hS (by rw [hz]; exact ⟨rfl, rfl, rfl⟩) dL_count_16
theorem lk_L_46 : px_Lk RL 46 yX5_logged cX5_logged 2 (some .int) 1 := ⟨px_tb (by decide +kernel) (by decide +kernel), px_tb (by decide +kernel) (by decide +kernel), px_tb (by decide +kernel) (by decide +kernel), px_tb (by decide +kernel) (by decide +kernel), px_tb (by decide +kernel) (by decide +kernel), by decide +kernel, by decide⟩
set_option maxHeartbeats 4000000 in
set_option maxRecDepth 100000 in
theorem cL_wlogged (l : Launch) (hst : l.stackTraces = false) (D : va_G) (cs : Nat → ClassId) (ad : Nat → Nat) (sa : Nat → Nat) (o : Nat) {M : px_M} {g : Nat → Int64} {p1 : Int32} {z : px_Z} (hf : fC_logged M p1 = some z) (hzz : ∀ E, z = .inr E → E = "java/lang/IndexOutOfBoundsException") : px_mL l D cs sa (fun M g => wC cs ad M ++ wO cs o g) true (fun E => if E = "java/lang/IndexOutOfBoundsException" then 1 else 2) yL_logged cL_logged 4 [(0, 9, 12, 35)] 7 [.ref (ad 0), .int p1, .ref o] M g z := by
  refine px_ofL (by decide +kernel) (Nat.le_of_ble_eq_true rfl) ?_
  intro p e s m below meth c A ls X hr hlk hml htab hP hD hS hA hE hN hl
  have hl : lv_has ls 4 [(0, .ref (ad 0)), (1, .int p1), (2, .ref o)] := hl
  refine lv_aload_n X.1 X.2.1 dL_logged_0 rfl (lv_at hl 2 rfl) ?_
  refine lv_iconst (v := (0 : Int32)) X.1 X.2.1 dL_logged_1 (by decide) ?_
  refine lv_aload_n X.1 X.2.1 dL_logged_2 rfl (lv_at hl 0 rfl) ?_
  refine lv_iload_n X.1 X.2.1 dL_logged_3 rfl (lv_at hl 1 rfl) ?_
  refine px_xI (wf := wC cs ad) (rw := wO cs o g) (tysC := tyC cs) (As := [.int p1]) (rest := [.int (0 : Int32), .ref o]) X hml hl (X.2.2.2.2.sub [0, 1, 2] rfl) hP hD hS hA hE (cC_logged l hst D cs ad sa hf) lk_L_46 (Nat.le_of_ble_eq_true rfl) (Nat.le_of_ble_eq_true rfl) (Nat.le_of_ble_eq_true rfl) (Nat.le_of_ble_eq_true rfl) (va_recv X.2.2.2.2 hP (ci := 5) (q0 := 0) rfl rfl) rfl (Nat.le_of_ble_eq_true rfl) dL_logged_4 (fun E ce q H locs hz hP hD hS hce hcv hcl => ?_) (fun r M1 H locs hz hP hD hS => ?_)
  · rcases hzz E hz with rfl
    · refine px_catch X.2.2.2.1 [] ⟨0, 9, 12, 35⟩ [] htab (fun z hz => by cases hz) (by decide) (by decide) (X.2.2.1 (.classLink RL 35 "java/lang/IndexOutOfBoundsException") (px_tb (by decide +kernel) (by decide +kernel))) (va_Nw.use rfl (hE.2.1 "java/lang/IndexOutOfBoundsException" (by decide))) hce hcv hcl ?_
      refine lv_astore_n (lv' := [(3, .ref q), (0, .ref (ad 0)), (1, .int p1), (2, .ref o)]) X.1 X.2.1 dL_logged_12 rfl hl (by decide) rfl (fun ls hl => ?_)
      refine lv_iconst (v := (1 : Int32)) X.1 X.2.1 dL_logged_13 (by decide) ?_
      exact px_retL (wy := (fun M g => wC cs ad M ++ wO cs o g)) (M' := M) (g' := g) X hr hlk hP hD hS (by rw [hz]; exact ⟨by decide, rfl⟩) dL_logged_14
  · refine lv_i2l X.1 X.2.1 dL_logged_7 rfl ?_
    refine px_last X hP hD hS dL_logged_8 (fun H locs hP hD hS => ?_)
    refine lv_goto (tgt := 15) X.1 X.2.1 dL_logged_9 (by decide) ?_
    refine lv_iconst (v := (0 : Int32)) X.1 X.2.1 dL_logged_15 (by decide) ?_
    exact px_retL (wy := (fun M g => wC cs ad M ++ wO cs o g)) (M' := M1) (g' := vp_updL g 0 r.toInt64) X hr hlk hP hD hS (by rw [hz]; exact ⟨rfl, rfl, rfl⟩) dL_logged_16
theorem lk_L_49 : px_Lk RL 49 yX5_reported cX5_reported 2 (some .int) 1 := ⟨px_tb (by decide +kernel) (by decide +kernel), px_tb (by decide +kernel) (by decide +kernel), px_tb (by decide +kernel) (by decide +kernel), px_tb (by decide +kernel) (by decide +kernel), px_tb (by decide +kernel) (by decide +kernel), by decide +kernel, by decide⟩
set_option maxHeartbeats 4000000 in
set_option maxRecDepth 100000 in
theorem cL_wreported (l : Launch) (hst : l.stackTraces = false) (D : va_G) (cs : Nat → ClassId) (ad : Nat → Nat) (sa : Nat → Nat) (o : Nat) {M : px_M} {g : Nat → Int64} {p1 : Int32} {z : px_Z} (hf : fC_reported M p1 = some z) (hzz : ∀ E, z = .inr E → E = "java/lang/IndexOutOfBoundsException") : px_mL l D cs sa (fun M g => wC cs ad M ++ wO cs o g) true (fun E => if E = "java/lang/IndexOutOfBoundsException" then 1 else 2) yL_reported cL_reported 4 [(0, 9, 12, 35)] 7 [.ref (ad 0), .int p1, .ref o] M g z := by
  refine px_ofL (by decide +kernel) (Nat.le_of_ble_eq_true rfl) ?_
  intro p e s m below meth c A ls X hr hlk hml htab hP hD hS hA hE hN hl
  have hl : lv_has ls 4 [(0, .ref (ad 0)), (1, .int p1), (2, .ref o)] := hl
  refine lv_aload_n X.1 X.2.1 dL_reported_0 rfl (lv_at hl 2 rfl) ?_
  refine lv_iconst (v := (0 : Int32)) X.1 X.2.1 dL_reported_1 (by decide) ?_
  refine lv_aload_n X.1 X.2.1 dL_reported_2 rfl (lv_at hl 0 rfl) ?_
  refine lv_iload_n X.1 X.2.1 dL_reported_3 rfl (lv_at hl 1 rfl) ?_
  refine px_xI (wf := wC cs ad) (rw := wO cs o g) (tysC := tyC cs) (As := [.int p1]) (rest := [.int (0 : Int32), .ref o]) X hml hl (X.2.2.2.2.sub [0, 1, 2] rfl) hP hD hS hA hE (cC_reported l hst D cs ad sa hf) lk_L_49 (Nat.le_of_ble_eq_true rfl) (Nat.le_of_ble_eq_true rfl) (Nat.le_of_ble_eq_true rfl) (Nat.le_of_ble_eq_true rfl) (va_recv X.2.2.2.2 hP (ci := 5) (q0 := 0) rfl rfl) rfl (Nat.le_of_ble_eq_true rfl) dL_reported_4 (fun E ce q H locs hz hP hD hS hce hcv hcl => ?_) (fun r M1 H locs hz hP hD hS => ?_)
  · rcases hzz E hz with rfl
    · refine px_catch X.2.2.2.1 [] ⟨0, 9, 12, 35⟩ [] htab (fun z hz => by cases hz) (by decide) (by decide) (X.2.2.1 (.classLink RL 35 "java/lang/IndexOutOfBoundsException") (px_tb (by decide +kernel) (by decide +kernel))) (va_Nw.use rfl (hE.2.1 "java/lang/IndexOutOfBoundsException" (by decide))) hce hcv hcl ?_
      refine lv_astore_n (lv' := [(3, .ref q), (0, .ref (ad 0)), (1, .int p1), (2, .ref o)]) X.1 X.2.1 dL_reported_12 rfl hl (by decide) rfl (fun ls hl => ?_)
      refine lv_iconst (v := (1 : Int32)) X.1 X.2.1 dL_reported_13 (by decide) ?_
      exact px_retL (wy := (fun M g => wC cs ad M ++ wO cs o g)) (M' := M) (g' := g) X hr hlk hP hD hS (by rw [hz]; exact ⟨by decide, rfl⟩) dL_reported_14
  · refine lv_i2l X.1 X.2.1 dL_reported_7 rfl ?_
    refine px_last X hP hD hS dL_reported_8 (fun H locs hP hD hS => ?_)
    refine lv_goto (tgt := 15) X.1 X.2.1 dL_reported_9 (by decide) ?_
    refine lv_iconst (v := (0 : Int32)) X.1 X.2.1 dL_reported_15 (by decide) ?_
    exact px_retL (wy := (fun M g => wC cs ad M ++ wO cs o g)) (M' := M1) (g' := vp_updL g 0 r.toInt64) X hr hlk hP hD hS (by rw [hz]; exact ⟨rfl, rfl, rfl⟩) dL_reported_16
