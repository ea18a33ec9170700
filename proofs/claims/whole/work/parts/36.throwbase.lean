/-! Methods of the class that may throw: they answer, or throw with the memory as it was. -/
def px_exN : List String := ["java/lang/RuntimeException", "java/lang/Exception"]
def px_strs : List (Nat × String) := [(101, "no such function, code or number"), (112, "the function is full"), (119, "no such function"), (127, "no such source or function"), (133, "too many tasks wait"), (139, "no such source"), (158, "not a length of time to set the clock forward"), (169, "no such register"), (175, "no such promise"), (183, "the promise is pending"), (191, "nothing is counted under this number"), (194, "not logged"), (199, "not reported")]
def px_exs : List String := ["java/lang/IllegalArgumentException", "java/lang/IllegalStateException", "java/lang/IndexOutOfBoundsException"]
def px_exD : List Cond := [.declares ⟨"java/lang/RuntimeException", "<init>", "(Ljava/lang/String;)V"⟩, .declares ⟨"java/lang/Exception", "<init>", "(Ljava/lang/String;)V"⟩, .declares ⟨"java/lang/Throwable", "<init>", "(Ljava/lang/String;)V"⟩]
/-- what a throwing method needs of the start, beside the words -/
def px_Ex (sa : Nat → Nat) (A : Nat → Prop) (U : State) (H : Heap) : Prop :=
  (∀ q ∈ px_strs, vk_R RX5 q.1 q.2 (sa q.1) U) ∧ (∀ c ∈ px_exs, va_Nw (.castable c c) U) ∧ (∀ w ∈ px_exD, va_Nw w U) ∧ vx_Zq Bundle.tN "UNASSIGNED_STACK" Bundle.steD A U H ∧ vx_Zq Bundle.tN "SUPPRESSED_SENTINEL" Bundle.listD A U H
def px_PX (D : va_G) (tys : List (ClassId × FieldType)) (wf : px_M → va_W) (sa : Nat → Nat) (sz : Nat) (M : px_M) (U : State) : Prop := px_Pre D tys wf sz M U ∧ px_Ex sa (va_A (wf M) sz) U U.heap
abbrev px_Z : Type := (Int32 × px_M) ⊕ String
def px_XC (D : va_G) (tys : List (ClassId × FieldType)) (wf : px_M → va_W) (A : Nat → Prop) (M : px_M) (z : px_Z) : String → State → State → Prop := vx_X (fun M2 : px_M => M2 = M) (fun E M2 t => z = .inr E ∧ px_B D tys wf A M2 t) A
def px_mX (l : Launch) (D : va_G) (tys : List (ClassId × FieldType)) (wf : px_M → va_W) (sa : Nat → Nat) (y : MethodName) (bytes : ByteArray) (n : Nat) (ret : Option FieldType) (k : Nat) (as : List Value) (M : px_M) (z : px_Z) : Prop :=
  ∀ sz : Nat, vx_Met l y (.code y bytes n ret :: px_TB) (px_rn k 1 6) (va_Pc as (px_PX D tys wf sa sz M)) (va_Qi (fun r' M2 => z = .inl (r', M2)) (px_B D tys wf (va_A (wf M) sz)) (va_A (wf M) sz)) (px_XC D tys wf (va_A (wf M) sz) M z) 1 6 (va_A (wf M) sz)
def px_mY (l : Launch) (D : va_G) (tys : List (ClassId × FieldType)) (wf : px_M → va_W) (sa : Nat → Nat) (y : MethodName) (bytes : ByteArray) (n : Nat) (k : Nat) (as : List Value) (M : px_M) (z : px_Z) : Prop :=
  ∀ sz : Nat, vx_Met l y (.code y bytes n none :: px_TB) (px_rn k 1 6) (va_Pc as (px_PX D tys wf sa sz M)) (va_Qv (fun M2 => z = .inl (0, M2)) (px_B D tys wf (va_A (wf M) sz)) (va_A (wf M) sz)) (px_XC D tys wf (va_A (wf M) sz) M z) 1 6 (va_A (wf M) sz)
def px_QX (D : va_G) (tys : List (ClassId × FieldType)) (wf : px_M → va_W) (below : List Frame) (args : Array Value) (s : State) (A : Nat → Prop) (M : px_M) (z : px_Z) : State → Prop :=
  vx_MQ below (va_Qi (fun r' M2 => z = .inl (r', M2)) (px_B D tys wf A) A) (px_XC D tys wf A M z) args s 1 6 A
def px_QY (D : va_G) (tys : List (ClassId × FieldType)) (wf : px_M → va_W) (below : List Frame) (args : Array Value) (s : State) (A : Nat → Prop) (M : px_M) (z : px_Z) : State → Prop :=
  vx_MQ below (va_Qv (fun M2 => z = .inl (0, M2)) (px_B D tys wf A) A) (px_XC D tys wf A M z) args s 1 6 A
/-- the words of a throw -/
def px_Th (ik ic : Nat) (cls : String) : Prop :=
  Bundle.fit cls = true ∧ Cond.classLink RX5 ik cls ∈ px_TB ∧ Cond.initialized cls ∈ px_TB ∧ (∀ w ∈ vx_atS RX5 ic cls px_exN, w ∈ px_TB ∨ w = Cond.castable cls cls ∨ w ∈ px_exD) ∧ (∀ w ∈ Cond.classLink RX5 ik cls :: Cond.initialized cls :: vx_atS RX5 ic cls px_exN, vx_ot w = true)
theorem px_thw {ik ic : Nat} {cls : String} (h1 : Bundle.fit cls = true) (h2 : Cond.classLink RX5 ik cls ∈ px_TB) (h3 : Cond.initialized cls ∈ px_TB) (h4 : ∀ w ∈ vx_atS RX5 ic cls px_exN, (w ∈ lw_tbl ∧ goodWord w = true) ∨ w = Cond.castable cls cls ∨ w ∈ px_exD) (h5 : ∀ w ∈ Cond.classLink RX5 ik cls :: Cond.initialized cls :: vx_atS RX5 ic cls px_exN, vx_ot w = true) : px_Th ik ic cls :=
  ⟨h1, h2, h3, fun w h => (h4 w h).elim (fun q => Or.inl (px_tb q.1 q.2)) Or.inr, h5⟩
section PXT
variable {l : Launch} {D : va_G} {tys : List (ClassId × FieldType)} {wf : px_M → va_W} {sa : Nat → Nat} {y : MethodName} {bytes : ByteArray} {n k k' nL : Nat} {ret : Option FieldType} {as As : List Value} {M M' : px_M} {r : Int32} {z : px_Z}
theorem px_ofX (hy : plainName y.cls = true) (hle : (lg_sl as).length ≤ n)
    (body : ∀ (p : Program) (e : Env) (s : State) (m : MethodId) (below : List Frame) (meth : Method) (c : Code) (A : Nat → Prop) (ls : Array Slot), px_X D tys p s m as.toArray c bytes y.cls → meth.sig.returnType = ret → meth.locks = false → c.maxLocals = n → (∀ x ∈ c.exceptionTable.toList, False) →
      px_H D wf A s.heap M s.heap [] → px_Ex sa A s s.heap → lv_has ls n (lv_args 0 as) → W p l e (px_rn k 1 6) s m as.toArray below meth c s.heap [] 0 0 (px_QX D tys wf below as.toArray s A M z) (F0 m 0 ls [])) : px_mX l D tys wf sa y bytes n ret k as M z := by
  intro sz
  refine vx_ofW (cc := bytes) (maxL := n) (ret := ret) hy rfl ?_
  intro p e s m args below meth c s₁ B hml hout hv
  obtain ⟨rfl, ⟨hsz, hP, hK, hD0⟩, hE⟩ := hv
  have hts : ∀ w ∈ px_TB, w.before as.toArray s = true := fun w h => atoms_spec (ws := .code y bytes n ret :: px_TB) B.pre w (List.mem_cons_of_mem _ h)
  have hown := findClass_of_methodNamed B.named
  subst hsz
  have hD := hD0.self (sz := s.heap.size)
  have hl := lv_entry as (n := n) hle
  rw [lg_entry_eq]
  exact body p e s m below meth c _ _ ⟨B.exec, B.bytes, hts, hown, hK⟩ B.returns B.notSynchronized hml hout ⟨hP, hD, va_S.rf, fun q h => Or.inr h⟩ hE hl
theorem px_ofY (hy : plainName y.cls = true) (hle : (lg_sl as).length ≤ n)
    (body : ∀ (p : Program) (e : Env) (s : State) (m : MethodId) (below : List Frame) (meth : Method) (c : Code) (A : Nat → Prop) (ls : Array Slot), px_X D tys p s m as.toArray c bytes y.cls → meth.sig.returnType = none → meth.locks = false → c.maxLocals = n → (∀ x ∈ c.exceptionTable.toList, False) →
      px_H D wf A s.heap M s.heap [] → px_Ex sa A s s.heap → lv_has ls n (lv_args 0 as) → W p l e (px_rn k 1 6) s m as.toArray below meth c s.heap [] 0 0 (px_QY D tys wf below as.toArray s A M z) (F0 m 0 ls [])) : px_mY l D tys wf sa y bytes n k as M z := by
  intro sz
  refine vx_ofW (cc := bytes) (maxL := n) (ret := none) hy rfl ?_
  intro p e s m args below meth c s₁ B hml hout hv
  obtain ⟨rfl, ⟨hsz, hP, hK, hD0⟩, hE⟩ := hv
  have hts : ∀ w ∈ px_TB, w.before as.toArray s = true := fun w h => atoms_spec (ws := .code y bytes n none :: px_TB) B.pre w (List.mem_cons_of_mem _ h)
  have hown := findClass_of_methodNamed B.named
  subst hsz
  have hD := hD0.self (sz := s.heap.size)
  have hl := lv_entry as (n := n) hle
  rw [lg_entry_eq]
  exact body p e s m below meth c _ _ ⟨B.exec, B.bytes, hts, hown, hK⟩ B.returns B.notSynchronized hml hout ⟨hP, hD, va_S.rf, fun q h => Or.inr h⟩ hE hl
variable {p : Program} {e : Env} {R : Room} {s : State} {m : MethodId} {args : Array Value} {below : List Frame} {meth : Method} {c : Code} {H : Heap} {locs : List Loc} {Q : State → Prop} {cc : ByteArray} {pc : Nat} {ls : Array Slot} {rest st : List Value} {A : Nat → Prop} {own : String} {b idx cells slots : Nat} {lv : List (Nat × Value)} {v : Int32} {M0 : px_M}
theorem px_retX (X : px_X D tys p s m args c cc own) (hr : meth.sig.returnType = some .int) (hlk : meth.locks = false) (w : px_H D wf A s.heap M H locs) (hd : decode cc pc = .ok (.ireturn, 1)) : W p l e R s m args below meth c H locs 0 0 (px_QX D tys wf below args s A M0 (.inl (v, M))) (F0 m pc ls [.int v]) := by
  refine vx_ret (W.widen (k := 1) (n := 6) (by decide) (by decide) ?_)
  exact W.iret (v := v) X.1 X.2.1 hr (fun t ht hW => ⟨⟨v, M, rfl, rfl, by rw [ht]; exact w.1, va_K.moved hW.alike X.2.2.2.2, w.2.1⟩, w.2.2.1.F ht⟩) w.2.2.1.2.2 hd hlk
theorem px_retY (X : px_X D tys p s m args c cc own) (hr : meth.sig.returnType = none) (hlk : meth.locks = false) (w : px_H D wf A s.heap M H locs) (hd : decode cc pc = .ok (.return_, 1)) : W p l e R s m args below meth c H locs 0 0 (px_QY D tys wf below args s A M0 (.inl (0, M))) (F0 m pc ls []) := by
  refine vx_ret (W.widen (k := 1) (n := 6) (by decide) (by decide) ?_)
  exact W.vret X.1 X.2.1 hr (fun t ht hW => ⟨⟨M, rfl, rfl, by rw [ht]; exact w.1, va_K.moved hW.alike X.2.2.2.2, w.2.1⟩, w.2.2.1.F ht⟩) w.2.2.1.2.2 hd hlk
theorem px_thr {Qc : Array Value → State → Outcome → State → Prop} {cls text : String} {ik is ic : Nat} (hst : l.stackTraces = false) (X : px_X D tys p s m args c cc RX5) (hml : c.maxLocals = nL) (hl : lv_has ls nL lv) (hlk : meth.locks = false) (hout : ∀ x ∈ c.exceptionTable.toList, False) (w : px_H D wf A s.heap M H locs) (hE : px_Ex sa A s s.heap) (T : px_Th ik ic cls) (hs : (is, text) ∈ px_strs) (hc : cls ∈ px_exs) (hk : 6 ≤ k)
    (d0 : decode cc pc = .ok (.new ik, 3)) (d3 : decode cc (pc + 3) = .ok (.dup, 1)) (d4 : decode cc (pc + 4) = .ok (.ldc is, 2)) (d6 : decode cc (pc + 6) = .ok (.invokespecial ic, 3)) (d9 : decode cc (pc + 9) = .ok (.athrow, 1)) :
    W p l e (px_rn k 1 6) s m args below meth c H locs 0 0 (vx_MQ below Qc (px_XC D tys wf A M (.inr cls)) args s 1 6 A) (F0 m pc ls []) := by
  obtain ⟨t1, t2, t3, t4, t5⟩ := T
  refine vx_throwS (names := px_exN) (own := RX5) (cls := cls) (text := text) (ik := ik) (is := is) (ic := ic) (sa := sa is) X.1 X.2.1 hst X.2.2.2.1 t1 (by decide +kernel) (X.2.2.1 _ t2) (X.2.2.1 _ t3) (hE.1 _ hs) (fun q hq => ?_) t5 hE.2.2.2.1 hE.2.2.2.2 w.2.2.1 (by rw [hml]; exact hl.1) d0 d3 d4 d6 d9 (fun x hx => (hout x hx).elim) ?_ ?_ (by show 0 + 1 ≤ 1; omega) (by show 0 + 6 ≤ 6; omega) hlk (fun t ha hz hq => ?_) w.2.2.1.2.2 (by omega) (by omega)
  · rcases t4 q hq with h | h | h
    · exact X.2.2.1 _ h
    · rw [h]; exact va_Nw.use rfl (hE.2.1 _ hc)
    · exact va_Nw.use ((by decide +kernel : ∀ w ∈ px_exD, w.onTables = true) q h) (hE.2.2.1 _ h)
  · show 2 + 3 < k; omega
  · show 0 + (13 * (2 + 1) + 43) ≤ 60 * k; omega
  · exact ⟨M, rfl, ⟨rfl, w.1.kept (fun k q hk => hq q.1 (w.1 k q hk).lt), va_K.moved ha X.2.2.2.2, w.2.1⟩, Nat.le_trans w.2.2.1.1 hz, fun q h1 h2 => (hq q (Nat.lt_of_lt_of_le h1 w.2.2.1.1)).trans (w.2.2.1.2.1 q h1 h2)⟩
theorem px_cb_g (X : px_X D tys p s m args c cc own) {na : Nat} (hc : Cond.code y bytes n ret ∈ px_TB) (hl : Cond.methodLink own idx y ∈ px_TB) (hi : Cond.initialized y.cls ∈ px_TB) (hd : y.cls ≠ "java/lang/invoke/MethodHandle" ∧ y.cls ≠ "java/lang/invoke/VarHandle" ∧ (parseMethodDescriptor y.desc).map (fun d => d.parameters.length) = some na) (hfr : k' + 1 ≤ R.frames) (hlo : 8 + (n + 11) + 60 * k' ≤ R.locals) :
    CallB R s args own idx y bytes n ret (.code y bytes n ret :: px_TB) (px_rm k') 0 0 na :=
  callB_of na X.2.2.1 (px_gi hc) rfl rfl rfl (X.2.2.1 _ hi) (X.2.2.1 _ hl) hd ⟨hfr, hlo⟩
theorem px_gI (X : px_X D tys p s m args c cc own) (hml : c.maxLocals = nL) (hl : lv_has ls nL lv) (w : px_H D wf A s.heap M H locs) (hM : px_mI l D tys wf y bytes n ret k' (.ref b :: As) M r M') (L : px_Lk own idx y bytes n ret As.length) (hfr : k' + 1 ≤ R.frames) (hlo : 8 + (n + 11) + 60 * k' ≤ R.locals) (hcR : cells ≤ R.cells) (hsR : slots ≤ R.slots)
    (rc : ∃ cell : Cell, H[b]? = some cell ∧ cell.vm.isStatics = false ∧ s.vm.findClass y.cls = some cell.cls) (hst : st = As.reverse ++ .ref b :: rest) (hW : (rest.map fun v => v.category).sum ≤ 8) (hd : decode cc pc = .ok (.invokevirtual idx, 3))
    (kk : ∀ (H : Heap) (locs : List Loc), px_H D wf A s.heap M' H locs → W p l e R s m args below meth c H locs cells slots Q (F0 m (pc + 3) ls (.int r :: rest))) : W p l e R s m args below meth c H locs cells slots Q (F0 m pc ls st) := by
  obtain ⟨h1, h2, h3, h4, h5, h6, h7⟩ := L
  refine va_calli (va_runV (As := As) (rest := rest) ⟨X.1, X.2.1, hml, X.2.2.2.1, X.2.2.1⟩ (hM H.size) ⟨px_cb_g X h1 h2 h3 h6 hfr hlo, X.2.2.1 _ h4, X.2.2.1 _ h5⟩ ⟨px_blind _, rc, px_pre X w⟩ rfl rfl hl.1 hst (lv_room hW) hd ⟨hcR, hsR⟩) w.2.2.1 (fun q _ h => px_fr w q h) (px_fr w) (fun r' M2 t H1 locs1 ht hvm hw hB hz1 hk1 hS1 => ?_)
  obtain ⟨rfl, rfl⟩ := hw
  exact kk H1 locs1 ⟨by rw [← ht]; exact hB.1, hB.2.2.weaken (fun _ q _ h => px_fr w q.1 h), hS1, w.2.2.2⟩
theorem px_gV (X : px_X D tys p s m args c cc own) (hml : c.maxLocals = nL) (hl : lv_has ls nL lv) (w : px_H D wf A s.heap M H locs) (hM : px_mV l D tys wf y bytes n k' (.ref b :: As) M M') (L : px_Lk own idx y bytes n none As.length) (hfr : k' + 1 ≤ R.frames) (hlo : 8 + (n + 11) + 60 * k' ≤ R.locals) (hcR : cells ≤ R.cells) (hsR : slots ≤ R.slots)
    (rc : ∃ cell : Cell, H[b]? = some cell ∧ cell.vm.isStatics = false ∧ s.vm.findClass y.cls = some cell.cls) (hst : st = As.reverse ++ .ref b :: rest) (hW : (rest.map fun v => v.category).sum ≤ 8) (hd : decode cc pc = .ok (.invokevirtual idx, 3))
    (kk : ∀ (H : Heap) (locs : List Loc), px_H D wf A s.heap M' H locs → W p l e R s m args below meth c H locs cells slots Q (F0 m (pc + 3) ls rest)) : W p l e R s m args below meth c H locs cells slots Q (F0 m pc ls st) := by
  obtain ⟨h1, h2, h3, h4, h5, h6, h7⟩ := L
  refine va_callv (va_runV (As := As) (rest := rest) ⟨X.1, X.2.1, hml, X.2.2.2.1, X.2.2.1⟩ (hM H.size) ⟨px_cb_g X h1 h2 h3 h6 hfr hlo, X.2.2.1 _ h4, X.2.2.1 _ h5⟩ ⟨px_blind _, rc, px_pre X w⟩ rfl rfl hl.1 hst (lv_room hW) hd ⟨hcR, hsR⟩) w.2.2.1 (fun q _ h => px_fr w q h) (px_fr w) (fun M2 t H1 locs1 ht hvm hw hB hz1 hk1 hS1 => ?_)
  subst hw
  exact kk H1 locs1 ⟨by rw [← ht]; exact hB.1, hB.2.2.weaken (fun _ q _ h => px_fr w q.1 h), hS1, w.2.2.2⟩
theorem px_gS (X : px_X D tys p s m args c cc own) (hml : c.maxLocals = nL) (hl : lv_has ls nL lv) (w : px_H D wf A s.heap M H locs) (hM : px_mI l D tys wf y bytes n ret k' As M r M') (L : px_Ls own idx y bytes n ret As.length) (hfr : k' + 1 ≤ R.frames) (hlo : 8 + (n + 11) + 60 * k' ≤ R.locals) (hcR : cells ≤ R.cells) (hsR : slots ≤ R.slots)
    (hst : st = As.reverse ++ rest) (hW : (rest.map fun v => v.category).sum ≤ 8) (hd : decode cc pc = .ok (.invokestatic idx, 3))
    (kk : ∀ (H : Heap) (locs : List Loc), px_H D wf A s.heap M' H locs → W p l e R s m args below meth c H locs cells slots Q (F0 m (pc + 3) ls (.int r :: rest))) : W p l e R s m args below meth c H locs cells slots Q (F0 m pc ls st) := by
  obtain ⟨h1, h2, h3, h4, h6, h7⟩ := L
  refine va_calli (va_runS (As := As) (rest := rest) ⟨X.1, X.2.1, hml, X.2.2.2.1, X.2.2.1⟩ (hM H.size) ⟨px_cb_g X h1 h2 h3 h6 hfr hlo, X.2.2.1 _ h4⟩ ⟨px_blind _, px_pre X w⟩ rfl rfl hl.1 hst (lv_room hW) hd ⟨hcR, hsR⟩) w.2.2.1 (fun q _ h => px_fr w q h) (px_fr w) (fun r' M2 t H1 locs1 ht hvm hw hB hz1 hk1 hS1 => ?_)
  obtain ⟨rfl, rfl⟩ := hw
  exact kk H1 locs1 ⟨by rw [← ht]; exact hB.1, hB.2.2.weaken (fun _ q _ h => px_fr w q.1 h), hS1, w.2.2.2⟩
end PXT
theorem px_thI : px_Th 99 103 "java/lang/IllegalArgumentException" := px_thw (by decide +kernel) (px_tb (by decide +kernel) (by decide +kernel)) (px_tb (by decide +kernel) (by decide +kernel)) (by decide +kernel) (by decide +kernel)
theorem px_thS : px_Th 110 114 "java/lang/IllegalStateException" := px_thw (by decide +kernel) (px_tb (by decide +kernel) (by decide +kernel)) (px_tb (by decide +kernel) (by decide +kernel)) (by decide +kernel) (by decide +kernel)
theorem px_thB : px_Th 167 171 "java/lang/IndexOutOfBoundsException" := px_thw (by decide +kernel) (px_tb (by decide +kernel) (by decide +kernel)) (px_tb (by decide +kernel) (by decide +kernel)) (by decide +kernel) (by decide +kernel)
