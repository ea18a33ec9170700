/-! The base of the walks: a memory (cell, slot) ↦ int, pure functions with Option, contracts that tie a method to such a function. -/
abbrev px_M : Type := Nat → Nat → Int32
def px_up (M : px_M) (i k : Nat) (x : Int32) : px_M := fun a => if a = i then upd (M i) k x else M a
def px_bn {α β : Type} (a : α) (k : α → β) : β := k a
theorem px_bn_e {α β : Type} {a : α} {k : α → β} {z : β} (h : px_bn a k = z) : ∃ x, x = a ∧ k x = z := ⟨a, rfl, h⟩
def px_bq {α γ : Type} (o : Option α) (k : α → Option γ) : Option γ := match o with
  | none => none
  | some a => k a
theorem px_bq_e {α γ : Type} {o : Option α} {k : α → Option γ} {z : γ} (h : px_bq o k = some z) : ∃ a, o = some a ∧ k a = some z := by
  cases o with
  | none => cases h
  | some a => exact ⟨a, rfl, h⟩
def px_bo {α β γ : Type} (o : Option (α × β)) (k : α → β → Option γ) : Option γ := match o with
  | none => none
  | some a => k a.1 a.2
theorem px_bo_e {α β γ : Type} {o : Option (α × β)} {k : α → β → Option γ} {z : γ} (h : px_bo o k = some z) : ∃ a b, o = some (a, b) ∧ k a b = some z := by
  cases o with
  | none => cases h
  | some a => exact ⟨a.1, a.2, rfl, h⟩
def px_ck {γ : Type} (i : Int32) (n : Nat) (k : Option γ) : Option γ := if i < 0 ∨ n ≤ i.toNatClampNeg then none else k
theorem px_ck_e {γ : Type} {i : Int32} {n : Nat} {k : Option γ} {z : γ} (h : px_ck i n k = some z) : vp_in i n ∧ k = some z := by
  unfold px_ck at h
  by_cases c : i < 0 ∨ n ≤ i.toNatClampNeg
  · rw [if_pos c] at h; cases h
  · rw [if_neg c] at h; exact ⟨c, h⟩
def px_cb {γ : Type} (v : Int32) (k : Option γ) : Option γ := if v = 0 ∨ v = 1 then k else none
theorem px_cb_e {γ : Type} {v : Int32} {k : Option γ} {z : γ} (h : px_cb v k = some z) : narrow .boolean (.int v) = .int v ∧ k = some z := by
  unfold px_cb at h
  by_cases c : v = 0 ∨ v = 1
  · rw [if_pos c] at h
    refine ⟨?_, h⟩
    rcases c with rfl | rfl <;> rfl
  · rw [if_neg c] at h; cases h
theorem px_ip {c : Prop} [Decidable c] {α : Type} {a b z : α} (h : c) (e : (if c then a else b) = z) : a = z := by rw [if_pos h] at e; exact e
theorem px_in {c : Prop} [Decidable c] {α : Type} {a b z : α} (h : ¬ c) (e : (if c then a else b) = z) : b = z := by rw [if_neg h] at e; exact e
theorem px_nn {c : Prop} [Decidable c] {α : Type} {a b z : α} (h : ¬ ¬ c) (e : (if c then a else b) = z) : a = z := by rw [if_pos (Decidable.not_not.mp h)] at e; exact e
/-- the words that every method carries: the tables' good ones -/
def px_TB : List Cond := lw_tbl.filter goodWord
theorem px_tb {w : Cond} (h : w ∈ lw_tbl) (g : goodWord w = true) : w ∈ px_TB := List.mem_filter.mpr ⟨h, g⟩
theorem px_good {w : Cond} (h : w ∈ px_TB) : goodWord w = true := (List.mem_filter.mp h).2
def px_rm (k : Nat) : Room := { frames := k, cells := 0, slots := 0, locals := 60 * k }
/-- what stands all through a method's walk -/
def px_X (D : va_G) (tys : List (ClassId × FieldType)) (p : Program) (s : State) (m : MethodId) (args : Array Value) (c : Code) (cc : ByteArray) (own : String) : Prop :=
  p.tables.exec = Jvm.exec ∧ c.code = cc ∧ (∀ w ∈ px_TB, w.before args s = true) ∧ s.vm.findClass own = some m.cls ∧ va_K D vwCl tys s
/-- the world, now -/
def px_H (D : va_G) (wf : px_M → va_W) (A : Nat → Prop) (H0 : Heap) (M : px_M) (H : Heap) (locs : List Loc) : Prop :=
  va_P D vwCl (wf M) H ∧ va_D A (wf M) ∧ va_S A H0 H locs ∧ ∀ q : Nat, H0.size ≤ q → A q
def px_Pre (D : va_G) (tys : List (ClassId × FieldType)) (wf : px_M → va_W) (sz : Nat) (M : px_M) (U : State) : Prop :=
  U.heap.size = sz ∧ va_P D vwCl (wf M) U.heap ∧ va_K D vwCl tys U ∧ va_D (fun _ => True) (wf M)
def px_B (D : va_G) (tys : List (ClassId × FieldType)) (wf : px_M → va_W) (A : Nat → Prop) (M : px_M) (t : State) : Prop :=
  va_P D vwCl (wf M) t.heap ∧ va_K D vwCl tys t ∧ va_D A (wf M)
def px_mI (l : Launch) (D : va_G) (tys : List (ClassId × FieldType)) (wf : px_M → va_W) (y : MethodName) (bytes : ByteArray) (n : Nat) (ret : Option FieldType) (k : Nat) (as : List Value) (M : px_M) (r : Int32) (M' : px_M) : Prop :=
  ∀ sz : Nat, Met l y (.code y bytes n ret :: px_TB) (px_rm k) (va_Pc as (px_Pre D tys wf sz M)) (va_Qi (fun r' M2 => r' = r ∧ M2 = M') (px_B D tys wf (va_A (wf M) sz)) (va_A (wf M) sz)) 0 0 (va_A (wf M) sz)
def px_mV (l : Launch) (D : va_G) (tys : List (ClassId × FieldType)) (wf : px_M → va_W) (y : MethodName) (bytes : ByteArray) (n : Nat) (k : Nat) (as : List Value) (M M' : px_M) : Prop :=
  ∀ sz : Nat, Met l y (.code y bytes n none :: px_TB) (px_rm k) (va_Pc as (px_Pre D tys wf sz M)) (va_Qv (fun M2 => M2 = M') (px_B D tys wf (va_A (wf M) sz)) (va_A (wf M) sz)) 0 0 (va_A (wf M) sz)
def px_QI (D : va_G) (tys : List (ClassId × FieldType)) (wf : px_M → va_W) (below : List Frame) (args : Array Value) (s : State) (A : Nat → Prop) (r : Int32) (M' : px_M) : State → Prop :=
  MQ below (va_Qi (fun r' M2 => r' = r ∧ M2 = M') (px_B D tys wf A) A) args s 0 0 A
def px_QV (D : va_G) (tys : List (ClassId × FieldType)) (wf : px_M → va_W) (below : List Frame) (args : Array Value) (s : State) (A : Nat → Prop) (M' : px_M) : State → Prop :=
  MQ below (va_Qv (fun M2 => M2 = M') (px_B D tys wf A) A) args s 0 0 A
/-- the words of a call -/
def px_Lk (own : String) (idx : Nat) (y : MethodName) (bytes : ByteArray) (n : Nat) (ret : Option FieldType) (na : Nat) : Prop :=
  Cond.code y bytes n ret ∈ px_TB ∧ Cond.methodLink own idx y ∈ px_TB ∧ Cond.initialized y.cls ∈ px_TB ∧ Cond.instanceMethod y ∈ px_TB ∧ Cond.selects y.cls y y ∈ px_TB ∧
  (y.cls ≠ "java/lang/invoke/MethodHandle" ∧ y.cls ≠ "java/lang/invoke/VarHandle" ∧ (parseMethodDescriptor y.desc).map (fun d => d.parameters.length) = some na) ∧ n ≤ 40
def px_Ls (own : String) (idx : Nat) (y : MethodName) (bytes : ByteArray) (n : Nat) (ret : Option FieldType) (na : Nat) : Prop :=
  Cond.code y bytes n ret ∈ px_TB ∧ Cond.methodLink own idx y ∈ px_TB ∧ Cond.initialized y.cls ∈ px_TB ∧ Cond.static y ∈ px_TB ∧
  (y.cls ≠ "java/lang/invoke/MethodHandle" ∧ y.cls ≠ "java/lang/invoke/VarHandle" ∧ (parseMethodDescriptor y.desc).map (fun d => d.parameters.length) = some na) ∧ n ≤ 40
theorem px_gi {y : MethodName} {bytes : ByteArray} {n : Nat} {ret : Option FieldType} (h : Cond.code y bytes n ret ∈ px_TB) : GoodIn px_TB (.code y bytes n ret :: px_TB) := by
  intro w hw
  have hm : w ∈ px_TB := (List.mem_cons.mp hw).elim (fun e => by rw [e]; exact h) id
  exact ⟨hm, good_of_word (px_good hm)⟩
section PXW
variable {l : Launch} {D : va_G} {tys : List (ClassId × FieldType)} {wf : px_M → va_W} {y : MethodName} {bytes : ByteArray} {n k k' nL : Nat} {ret : Option FieldType} {as As : List Value} {M M' : px_M} {r : Int32}
theorem px_ofI (hy : plainName y.cls = true) (hle : (lg_sl as).length ≤ n)
    (body : ∀ (p : Program) (e : Env) (s : State) (m : MethodId) (below : List Frame) (meth : Method) (c : Code) (A : Nat → Prop) (ls : Array Slot), px_X D tys p s m as.toArray c bytes y.cls → meth.sig.returnType = ret → meth.locks = false → c.maxLocals = n →
      px_H D wf A s.heap M s.heap [] → lv_has ls n (lv_args 0 as) → W p l e (px_rm k) s m as.toArray below meth c s.heap [] 0 0 (px_QI D tys wf below as.toArray s A r M') (F0 m 0 ls [])) : px_mI l D tys wf y bytes n ret k as M r M' := by
  intro sz
  refine Met.ofW (cc := bytes) (maxL := n) (ret := ret) hy rfl ?_
  intro p e s m args below meth c s₁ B hml hv
  obtain ⟨rfl, hsz, hP, hK, hD0⟩ := hv
  have hts : ∀ w ∈ px_TB, w.before as.toArray s = true := fun w h => atoms_spec (ws := .code y bytes n ret :: px_TB) B.pre w (List.mem_cons_of_mem _ h)
  have hown := findClass_of_methodNamed B.named
  subst hsz
  have hD := hD0.self (sz := s.heap.size)
  have hl := lv_entry as (n := n) hle
  rw [lg_entry_eq]
  exact body p e s m below meth c _ _ ⟨B.exec, B.bytes, hts, hown, hK⟩ B.returns B.notSynchronized hml ⟨hP, hD, va_S.rf, fun q h => Or.inr h⟩ hl
theorem px_ofV (hy : plainName y.cls = true) (hle : (lg_sl as).length ≤ n)
    (body : ∀ (p : Program) (e : Env) (s : State) (m : MethodId) (below : List Frame) (meth : Method) (c : Code) (A : Nat → Prop) (ls : Array Slot), px_X D tys p s m as.toArray c bytes y.cls → meth.sig.returnType = none → meth.locks = false → c.maxLocals = n →
      px_H D wf A s.heap M s.heap [] → lv_has ls n (lv_args 0 as) → W p l e (px_rm k) s m as.toArray below meth c s.heap [] 0 0 (px_QV D tys wf below as.toArray s A M') (F0 m 0 ls [])) : px_mV l D tys wf y bytes n k as M M' := by
  intro sz
  refine Met.ofW (cc := bytes) (maxL := n) (ret := none) hy rfl ?_
  intro p e s m args below meth c s₁ B hml hv
  obtain ⟨rfl, hsz, hP, hK, hD0⟩ := hv
  have hts : ∀ w ∈ px_TB, w.before as.toArray s = true := fun w h => atoms_spec (ws := .code y bytes n none :: px_TB) B.pre w (List.mem_cons_of_mem _ h)
  have hown := findClass_of_methodNamed B.named
  subst hsz
  have hD := hD0.self (sz := s.heap.size)
  have hl := lv_entry as (n := n) hle
  rw [lg_entry_eq]
  exact body p e s m below meth c _ _ ⟨B.exec, B.bytes, hts, hown, hK⟩ B.returns B.notSynchronized hml ⟨hP, hD, va_S.rf, fun q h => Or.inr h⟩ hl
variable {p : Program} {e : Env} {R : Room} {s : State} {m : MethodId} {args : Array Value} {below : List Frame} {meth : Method} {c : Code} {H : Heap} {locs : List Loc} {Q : State → Prop} {cc : ByteArray} {pc : Nat} {ls : Array Slot} {rest st : List Value} {A : Nat → Prop} {own : String} {b idx : Nat} {lv : List (Nat × Value)} {v : Int32}
theorem px_retI (X : px_X D tys p s m args c cc own) (hr : meth.sig.returnType = some .int) (hlk : meth.locks = false) (w : px_H D wf A s.heap M H locs) (hd : decode cc pc = .ok (.ireturn, 1)) : W p l e R s m args below meth c H locs 0 0 (px_QI D tys wf below args s A v M) (F0 m pc ls [.int v]) :=
  W.iret (v := v) X.1 X.2.1 hr (fun t ht hW => ⟨⟨v, M, rfl, ⟨rfl, rfl⟩, by rw [ht]; exact w.1, va_K.moved hW.alike X.2.2.2.2, w.2.1⟩, w.2.2.1.F ht⟩) w.2.2.1.2.2 hd hlk
theorem px_retZ (X : px_X D tys p s m args c cc own) (hr : meth.sig.returnType = some .boolean) (hlk : meth.locks = false) (hn : narrow .boolean (.int v) = .int v) (w : px_H D wf A s.heap M H locs) (hd : decode cc pc = .ok (.ireturn, 1)) : W p l e R s m args below meth c H locs 0 0 (px_QI D tys wf below args s A v M) (F0 m pc ls [.int v]) :=
  W.zret (v := v) X.1 X.2.1 hr hn (fun t ht hW => ⟨⟨v, M, rfl, ⟨rfl, rfl⟩, by rw [ht]; exact w.1, va_K.moved hW.alike X.2.2.2.2, w.2.1⟩, w.2.2.1.F ht⟩) w.2.2.1.2.2 hd hlk
theorem px_retV (X : px_X D tys p s m args c cc own) (hr : meth.sig.returnType = none) (hlk : meth.locks = false) (w : px_H D wf A s.heap M H locs) (hd : decode cc pc = .ok (.return_, 1)) : W p l e R s m args below meth c H locs 0 0 (px_QV D tys wf below args s A M) (F0 m pc ls []) :=
  W.vret X.1 X.2.1 hr (fun t ht hW => ⟨⟨M, rfl, rfl, by rw [ht]; exact w.1, va_K.moved hW.alike X.2.2.2.2, w.2.1⟩, w.2.2.1.F ht⟩) w.2.2.1.2.2 hd hlk
theorem px_fr (w : px_H D wf A s.heap M H locs) : ∀ q, va_A (wf M) H.size q → A q := by
  intro q h
  rcases h with ⟨j, x, h⟩ | h
  · exact w.2.1.2 j (q, x) h
  · exact w.2.2.2 q (Nat.le_trans w.2.2.1.1 h)
theorem px_blind (sz : Nat) : FrameBlind (va_Pc as (px_Pre D tys wf sz M)) := fun a U g mk q => by
  obtain ⟨q0, q1, qP, qK, qD⟩ := q
  exact ⟨q0, q1, qP, va_K.moved (u := U) (U := U.calling g mk a) (Vm.Alike.refl U.vm) qK, qD⟩
theorem px_pre (X : px_X D tys p s m args c cc own) (w : px_H D wf A s.heap M H locs) : ∀ U : State, U.heap = H → s.WarmedH U.vm → va_Pc as (px_Pre D tys wf H.size M) as.toArray U := fun U hU hW =>
  ⟨rfl, by rw [hU], by rw [hU]; exact w.1, va_K.moved hW.alike X.2.2.2.2, w.2.1.weaken (fun _ _ _ _ => trivial)⟩
theorem px_cb_of (X : px_X D tys p s m args c cc own) {na : Nat} (hc : Cond.code y bytes n ret ∈ px_TB) (hl : Cond.methodLink own idx y ∈ px_TB) (hi : Cond.initialized y.cls ∈ px_TB) (hd : y.cls ≠ "java/lang/invoke/MethodHandle" ∧ y.cls ≠ "java/lang/invoke/VarHandle" ∧ (parseMethodDescriptor y.desc).map (fun d => d.parameters.length) = some na) (hn : n ≤ 40) (hk : k' + 1 ≤ k) :
    CallB (px_rm k) s args own idx y bytes n ret (.code y bytes n ret :: px_TB) (px_rm k') 0 0 na :=
  callB_of na X.2.2.1 (px_gi hc) rfl rfl rfl (X.2.2.1 _ hi) (X.2.2.1 _ hl) hd ⟨hk, by show 8 + (n + 11) + 60 * k' ≤ 60 * k; omega⟩
theorem px_cI (X : px_X D tys p s m args c cc own) (hml : c.maxLocals = nL) (hl : lv_has ls nL lv) (w : px_H D wf A s.heap M H locs) (hM : px_mI l D tys wf y bytes n ret k' (.ref b :: As) M r M') (L : px_Lk own idx y bytes n ret As.length) (hk : k' + 1 ≤ k)
    (rc : ∃ cell : Cell, H[b]? = some cell ∧ cell.vm.isStatics = false ∧ s.vm.findClass y.cls = some cell.cls) (hst : st = As.reverse ++ .ref b :: rest) (hW : (rest.map fun v => v.category).sum ≤ 8) (hd : decode cc pc = .ok (.invokevirtual idx, 3))
    (kk : ∀ (H : Heap) (locs : List Loc), px_H D wf A s.heap M' H locs → W p l e (px_rm k) s m args below meth c H locs 0 0 Q (F0 m (pc + 3) ls (.int r :: rest))) : W p l e (px_rm k) s m args below meth c H locs 0 0 Q (F0 m pc ls st) := by
  obtain ⟨h1, h2, h3, h4, h5, h6, h7⟩ := L
  refine va_calli (va_runV (As := As) (rest := rest) ⟨X.1, X.2.1, hml, X.2.2.2.1, X.2.2.1⟩ (hM H.size) ⟨px_cb_of X h1 h2 h3 h6 h7 hk, X.2.2.1 _ h4, X.2.2.1 _ h5⟩ ⟨px_blind _, rc, px_pre X w⟩ rfl rfl hl.1 hst (lv_room hW) hd ⟨Nat.le_refl 0, Nat.le_refl 0⟩) w.2.2.1 (fun q _ h => px_fr w q h) (px_fr w) (fun r' M2 t H1 locs1 ht hvm hw hB hz1 hk1 hS1 => ?_)
  obtain ⟨rfl, rfl⟩ := hw
  exact kk H1 locs1 ⟨by rw [← ht]; exact hB.1, hB.2.2.weaken (fun _ q _ h => px_fr w q.1 h), hS1, w.2.2.2⟩
theorem px_cV (X : px_X D tys p s m args c cc own) (hml : c.maxLocals = nL) (hl : lv_has ls nL lv) (w : px_H D wf A s.heap M H locs) (hM : px_mV l D tys wf y bytes n k' (.ref b :: As) M M') (L : px_Lk own idx y bytes n none As.length) (hk : k' + 1 ≤ k)
    (rc : ∃ cell : Cell, H[b]? = some cell ∧ cell.vm.isStatics = false ∧ s.vm.findClass y.cls = some cell.cls) (hst : st = As.reverse ++ .ref b :: rest) (hW : (rest.map fun v => v.category).sum ≤ 8) (hd : decode cc pc = .ok (.invokevirtual idx, 3))
    (kk : ∀ (H : Heap) (locs : List Loc), px_H D wf A s.heap M' H locs → W p l e (px_rm k) s m args below meth c H locs 0 0 Q (F0 m (pc + 3) ls rest)) : W p l e (px_rm k) s m args below meth c H locs 0 0 Q (F0 m pc ls st) := by
  obtain ⟨h1, h2, h3, h4, h5, h6, h7⟩ := L
  refine va_callv (va_runV (As := As) (rest := rest) ⟨X.1, X.2.1, hml, X.2.2.2.1, X.2.2.1⟩ (hM H.size) ⟨px_cb_of X h1 h2 h3 h6 h7 hk, X.2.2.1 _ h4, X.2.2.1 _ h5⟩ ⟨px_blind _, rc, px_pre X w⟩ rfl rfl hl.1 hst (lv_room hW) hd ⟨Nat.le_refl 0, Nat.le_refl 0⟩) w.2.2.1 (fun q _ h => px_fr w q h) (px_fr w) (fun M2 t H1 locs1 ht hvm hw hB hz1 hk1 hS1 => ?_)
  subst hw
  exact kk H1 locs1 ⟨by rw [← ht]; exact hB.1, hB.2.2.weaken (fun _ q _ h => px_fr w q.1 h), hS1, w.2.2.2⟩
theorem px_cS (X : px_X D tys p s m args c cc own) (hml : c.maxLocals = nL) (hl : lv_has ls nL lv) (w : px_H D wf A s.heap M H locs) (hM : px_mI l D tys wf y bytes n ret k' As M r M') (L : px_Ls own idx y bytes n ret As.length) (hk : k' + 1 ≤ k)
    (hst : st = As.reverse ++ rest) (hW : (rest.map fun v => v.category).sum ≤ 8) (hd : decode cc pc = .ok (.invokestatic idx, 3))
    (kk : ∀ (H : Heap) (locs : List Loc), px_H D wf A s.heap M' H locs → W p l e (px_rm k) s m args below meth c H locs 0 0 Q (F0 m (pc + 3) ls (.int r :: rest))) : W p l e (px_rm k) s m args below meth c H locs 0 0 Q (F0 m pc ls st) := by
  obtain ⟨h1, h2, h3, h4, h6, h7⟩ := L
  refine va_calli (va_runS (As := As) (rest := rest) ⟨X.1, X.2.1, hml, X.2.2.2.1, X.2.2.1⟩ (hM H.size) ⟨px_cb_of X h1 h2 h3 h6 h7 hk, X.2.2.1 _ h4⟩ ⟨px_blind _, px_pre X w⟩ rfl rfl hl.1 hst (lv_room hW) hd ⟨Nat.le_refl 0, Nat.le_refl 0⟩) w.2.2.1 (fun q _ h => px_fr w q h) (px_fr w) (fun r' M2 t H1 locs1 ht hvm hw hB hz1 hk1 hS1 => ?_)
  obtain ⟨rfl, rfl⟩ := hw
  exact kk H1 locs1 ⟨by rw [← ht]; exact hB.1, hB.2.2.weaken (fun _ q _ h => px_fr w q.1 h), hS1, w.2.2.2⟩
end PXW
def px_fx0 {γ : Type} (F : (px_M → Option γ) → px_M → Option γ) : Nat → px_M → Option γ
  | 0 => fun _ => none
  | j + 1 => F (px_fx0 F j)
theorem px_fx0_i {γ : Type} {F : (px_M → Option γ) → px_M → Option γ} {P : px_M → γ → Prop} (h : ∀ rc : px_M → Option γ, (∀ (M : px_M) (z : γ), rc M  = some z → P M  z) → ∀ (M : px_M) (z : γ), F rc M  = some z → P M  z) : ∀ (j : Nat) (M : px_M) (z : γ), px_fx0 F j M  = some z → P M  z := by
  intro j
  induction j with
  | zero => intro M  z hz; cases hz
  | succ j ih => intro M  z hz; exact h _ ih M  z hz
def px_fx1 {γ : Type} (F : (px_M → Int32 → Option γ) → px_M → Int32 → Option γ) : Nat → px_M → Int32 → Option γ
  | 0 => fun _ _ => none
  | j + 1 => F (px_fx1 F j)
theorem px_fx1_i {γ : Type} {F : (px_M → Int32 → Option γ) → px_M → Int32 → Option γ} {P : px_M → Int32 → γ → Prop} (h : ∀ rc : px_M → Int32 → Option γ, (∀ (M : px_M) (x0 : Int32) (z : γ), rc M x0 = some z → P M x0 z) → ∀ (M : px_M) (x0 : Int32) (z : γ), F rc M x0 = some z → P M x0 z) : ∀ (j : Nat) (M : px_M) (x0 : Int32) (z : γ), px_fx1 F j M x0 = some z → P M x0 z := by
  intro j
  induction j with
  | zero => intro M x0 z hz; cases hz
  | succ j ih => intro M x0 z hz; exact h _ ih M x0 z hz
def px_fx2 {γ : Type} (F : (px_M → Int32 → Int32 → Option γ) → px_M → Int32 → Int32 → Option γ) : Nat → px_M → Int32 → Int32 → Option γ
  | 0 => fun _ _ _ => none
  | j + 1 => F (px_fx2 F j)
theorem px_fx2_i {γ : Type} {F : (px_M → Int32 → Int32 → Option γ) → px_M → Int32 → Int32 → Option γ} {P : px_M → Int32 → Int32 → γ → Prop} (h : ∀ rc : px_M → Int32 → Int32 → Option γ, (∀ (M : px_M) (x0 x1 : Int32) (z : γ), rc M x0 x1 = some z → P M x0 x1 z) → ∀ (M : px_M) (x0 x1 : Int32) (z : γ), F rc M x0 x1 = some z → P M x0 x1 z) : ∀ (j : Nat) (M : px_M) (x0 x1 : Int32) (z : γ), px_fx2 F j M x0 x1 = some z → P M x0 x1 z := by
  intro j
  induction j with
  | zero => intro M x0 x1 z hz; cases hz
  | succ j ih => intro M x0 x1 z hz; exact h _ ih M x0 x1 z hz
def px_fx3 {γ : Type} (F : (px_M → Int32 → Int32 → Int32 → Option γ) → px_M → Int32 → Int32 → Int32 → Option γ) : Nat → px_M → Int32 → Int32 → Int32 → Option γ
  | 0 => fun _ _ _ _ => none
  | j + 1 => F (px_fx3 F j)
theorem px_fx3_i {γ : Type} {F : (px_M → Int32 → Int32 → Int32 → Option γ) → px_M → Int32 → Int32 → Int32 → Option γ} {P : px_M → Int32 → Int32 → Int32 → γ → Prop} (h : ∀ rc : px_M → Int32 → Int32 → Int32 → Option γ, (∀ (M : px_M) (x0 x1 x2 : Int32) (z : γ), rc M x0 x1 x2 = some z → P M x0 x1 x2 z) → ∀ (M : px_M) (x0 x1 x2 : Int32) (z : γ), F rc M x0 x1 x2 = some z → P M x0 x1 x2 z) : ∀ (j : Nat) (M : px_M) (x0 x1 x2 : Int32) (z : γ), px_fx3 F j M x0 x1 x2 = some z → P M x0 x1 x2 z := by
  intro j
  induction j with
  | zero => intro M x0 x1 x2 z hz; cases hz
  | succ j ih => intro M x0 x1 x2 z hz; exact h _ ih M x0 x1 x2 z hz
def px_fx4 {γ : Type} (F : (px_M → Int32 → Int32 → Int32 → Int32 → Option γ) → px_M → Int32 → Int32 → Int32 → Int32 → Option γ) : Nat → px_M → Int32 → Int32 → Int32 → Int32 → Option γ
  | 0 => fun _ _ _ _ _ => none
  | j + 1 => F (px_fx4 F j)
theorem px_fx4_i {γ : Type} {F : (px_M → Int32 → Int32 → Int32 → Int32 → Option γ) → px_M → Int32 → Int32 → Int32 → Int32 → Option γ} {P : px_M → Int32 → Int32 → Int32 → Int32 → γ → Prop} (h : ∀ rc : px_M → Int32 → Int32 → Int32 → Int32 → Option γ, (∀ (M : px_M) (x0 x1 x2 x3 : Int32) (z : γ), rc M x0 x1 x2 x3 = some z → P M x0 x1 x2 x3 z) → ∀ (M : px_M) (x0 x1 x2 x3 : Int32) (z : γ), F rc M x0 x1 x2 x3 = some z → P M x0 x1 x2 x3 z) : ∀ (j : Nat) (M : px_M) (x0 x1 x2 x3 : Int32) (z : γ), px_fx4 F j M x0 x1 x2 x3 = some z → P M x0 x1 x2 x3 z := by
  intro j
  induction j with
  | zero => intro M x0 x1 x2 x3 z hz; cases hz
  | succ j ih => intro M x0 x1 x2 x3 z hz; exact h _ ih M x0 x1 x2 x3 z hz
def px_fx5 {γ : Type} (F : (px_M → Int32 → Int32 → Int32 → Int32 → Int32 → Option γ) → px_M → Int32 → Int32 → Int32 → Int32 → Int32 → Option γ) : Nat → px_M → Int32 → Int32 → Int32 → Int32 → Int32 → Option γ
  | 0 => fun _ _ _ _ _ _ => none
  | j + 1 => F (px_fx5 F j)
theorem px_fx5_i {γ : Type} {F : (px_M → Int32 → Int32 → Int32 → Int32 → Int32 → Option γ) → px_M → Int32 → Int32 → Int32 → Int32 → Int32 → Option γ} {P : px_M → Int32 → Int32 → Int32 → Int32 → Int32 → γ → Prop} (h : ∀ rc : px_M → Int32 → Int32 → Int32 → Int32 → Int32 → Option γ, (∀ (M : px_M) (x0 x1 x2 x3 x4 : Int32) (z : γ), rc M x0 x1 x2 x3 x4 = some z → P M x0 x1 x2 x3 x4 z) → ∀ (M : px_M) (x0 x1 x2 x3 x4 : Int32) (z : γ), F rc M x0 x1 x2 x3 x4 = some z → P M x0 x1 x2 x3 x4 z) : ∀ (j : Nat) (M : px_M) (x0 x1 x2 x3 x4 : Int32) (z : γ), px_fx5 F j M x0 x1 x2 x3 x4 = some z → P M x0 x1 x2 x3 x4 z := by
  intro j
  induction j with
  | zero => intro M x0 x1 x2 x3 x4 z hz; cases hz
  | succ j ih => intro M x0 x1 x2 x3 x4 z hz; exact h _ ih M x0 x1 x2 x3 x4 z hz
def px_fx6 {γ : Type} (F : (px_M → Int32 → Int32 → Int32 → Int32 → Int32 → Int32 → Option γ) → px_M → Int32 → Int32 → Int32 → Int32 → Int32 → Int32 → Option γ) : Nat → px_M → Int32 → Int32 → Int32 → Int32 → Int32 → Int32 → Option γ
  | 0 => fun _ _ _ _ _ _ _ => none
  | j + 1 => F (px_fx6 F j)
theorem px_fx6_i {γ : Type} {F : (px_M → Int32 → Int32 → Int32 → Int32 → Int32 → Int32 → Option γ) → px_M → Int32 → Int32 → Int32 → Int32 → Int32 → Int32 → Option γ} {P : px_M → Int32 → Int32 → Int32 → Int32 → Int32 → Int32 → γ → Prop} (h : ∀ rc : px_M → Int32 → Int32 → Int32 → Int32 → Int32 → Int32 → Option γ, (∀ (M : px_M) (x0 x1 x2 x3 x4 x5 : Int32) (z : γ), rc M x0 x1 x2 x3 x4 x5 = some z → P M x0 x1 x2 x3 x4 x5 z) → ∀ (M : px_M) (x0 x1 x2 x3 x4 x5 : Int32) (z : γ), F rc M x0 x1 x2 x3 x4 x5 = some z → P M x0 x1 x2 x3 x4 x5 z) : ∀ (j : Nat) (M : px_M) (x0 x1 x2 x3 x4 x5 : Int32) (z : γ), px_fx6 F j M x0 x1 x2 x3 x4 x5 = some z → P M x0 x1 x2 x3 x4 x5 z := by
  intro j
  induction j with
  | zero => intro M x0 x1 x2 x3 x4 x5 z hz; cases hz
  | succ j ih => intro M x0 x1 x2 x3 x4 x5 z hz; exact h _ ih M x0 x1 x2 x3 x4 x5 z hz
def px_fx7 {γ : Type} (F : (px_M → Int32 → Int32 → Int32 → Int32 → Int32 → Int32 → Int32 → Option γ) → px_M → Int32 → Int32 → Int32 → Int32 → Int32 → Int32 → Int32 → Option γ) : Nat → px_M → Int32 → Int32 → Int32 → Int32 → Int32 → Int32 → Int32 → Option γ
  | 0 => fun _ _ _ _ _ _ _ _ => none
  | j + 1 => F (px_fx7 F j)
theorem px_fx7_i {γ : Type} {F : (px_M → Int32 → Int32 → Int32 → Int32 → Int32 → Int32 → Int32 → Option γ) → px_M → Int32 → Int32 → Int32 → Int32 → Int32 → Int32 → Int32 → Option γ} {P : px_M → Int32 → Int32 → Int32 → Int32 → Int32 → Int32 → Int32 → γ → Prop} (h : ∀ rc : px_M → Int32 → Int32 → Int32 → Int32 → Int32 → Int32 → Int32 → Option γ, (∀ (M : px_M) (x0 x1 x2 x3 x4 x5 x6 : Int32) (z : γ), rc M x0 x1 x2 x3 x4 x5 x6 = some z → P M x0 x1 x2 x3 x4 x5 x6 z) → ∀ (M : px_M) (x0 x1 x2 x3 x4 x5 x6 : Int32) (z : γ), F rc M x0 x1 x2 x3 x4 x5 x6 = some z → P M x0 x1 x2 x3 x4 x5 x6 z) : ∀ (j : Nat) (M : px_M) (x0 x1 x2 x3 x4 x5 x6 : Int32) (z : γ), px_fx7 F j M x0 x1 x2 x3 x4 x5 x6 = some z → P M x0 x1 x2 x3 x4 x5 x6 z := by
  intro j
  induction j with
  | zero => intro M x0 x1 x2 x3 x4 x5 x6 z hz; cases hz
  | succ j ih => intro M x0 x1 x2 x3 x4 x5 x6 z hz; exact h _ ih M x0 x1 x2 x3 x4 x5 x6 z hz
