/-! Constructors: a world that grows. -/
def px_rn (k mc ms : Nat) : Room := { frames := k, cells := mc, slots := ms, locals := 60 * k }
def px_QN (D : va_G) (tys : List (ClassId × FieldType)) (w1 : (Nat → Nat) → va_W) (below : List Frame) (args : Array Value) (s : State) (A : Nat → Prop) (mc ms : Nat) : State → Prop :=
  MQ below (va_Qv (fun _ : Nat → Nat => True) (fun a t => va_P D vwCl (w1 a) t.heap ∧ va_K D vwCl tys t ∧ va_D A (w1 a)) A) args s mc ms A
def px_PN (D : va_G) (tys : List (ClassId × FieldType)) (E : State → Prop) (w0 : va_W) (sz : Nat) (U : State) : Prop := U.heap.size = sz ∧ va_P D vwCl w0 U.heap ∧ va_K D vwCl tys U ∧ va_D (fun _ => True) w0 ∧ E U
def px_mN (l : Launch) (D : va_G) (tys : List (ClassId × FieldType)) (y : MethodName) (bytes : ByteArray) (n k mc ms : Nat) (E : State → Prop) (as : List Value) (w0 : va_W) (w1 : (Nat → Nat) → va_W) : Prop :=
  ∀ sz : Nat, Met l y (.code y bytes n none :: px_TB) (px_rn k mc ms) (va_Pc as (px_PN D tys E w0 sz)) (va_Qv (fun _ : Nat → Nat => True) (fun a t => va_P D vwCl (w1 a) t.heap ∧ va_K D vwCl tys t ∧ va_D (va_A w0 sz) (w1 a)) (va_A w0 sz)) mc ms (va_A w0 sz)
/-- a property of the tables alone -/
def px_Tb (E : State → Prop) : Prop := (∀ (u U : State), u.vm = U.vm → E u → E U) ∧ ∀ (s U : State), s.WarmedH U.vm → E s → E U
theorem px_Tb_t : px_Tb (fun _ => True) := ⟨fun _ _ _ _ => trivial, fun _ _ _ _ => trivial⟩
section PXN
variable {l : Launch} {D : va_G} {tys : List (ClassId × FieldType)} {y : MethodName} {bytes : ByteArray} {n k mc ms nL : Nat} {as As : List Value} {E : State → Prop} {w0 : va_W} {w1 : (Nat → Nat) → va_W}
theorem px_ofN (hy : plainName y.cls = true) (hyn : y.name = "<init>") (hle : (lg_sl as).length ≤ n)
    (body : ∀ (p : Program) (e : Env) (s : State) (m : MethodId) (below : List Frame) (meth : Method) (c : Code) (A : Nat → Prop) (ls : Array Slot), px_X D tys p s m as.toArray c bytes y.cls → meth.sig.returnType = none → meth.locks = false → meth.name = "<init>" → c.maxLocals = n → E s →
      va_P D vwCl w0 s.heap → va_D A w0 → va_S A s.heap s.heap [] → (∀ q : Nat, s.heap.size ≤ q → A q) → lv_has ls n (lv_args 0 as) → W p l e (px_rn k mc ms) s m as.toArray below meth c s.heap [] 0 0 (px_QN D tys w1 below as.toArray s A mc ms) (F0 m 0 ls [])) : px_mN l D tys y bytes n k mc ms E as w0 w1 := by
  intro sz
  refine Met.ofW (cc := bytes) (maxL := n) (ret := none) hy rfl ?_
  intro p e s m args below meth c s₁ B hml hv
  obtain ⟨rfl, hsz, hP, hK, hD0, hE⟩ := hv
  have hts : ∀ w ∈ px_TB, w.before as.toArray s = true := fun w h => atoms_spec (ws := .code y bytes n none :: px_TB) B.pre w (List.mem_cons_of_mem _ h)
  have hown := findClass_of_methodNamed B.named
  have hin : meth.name = "<init>" := (name_of_methodNamed B.named B.method).1.trans hyn
  subst hsz
  have hD := hD0.self (sz := s.heap.size)
  have hl := lv_entry as (n := n) hle
  rw [lg_entry_eq]
  exact body p e s m below meth c _ _ ⟨B.exec, B.bytes, hts, hown, hK⟩ B.returns B.notSynchronized hin hml hE hP hD va_S.rf (fun q h => Or.inr h) hl
variable {p : Program} {e : Env} {R : Room} {s : State} {m : MethodId} {args : Array Value} {below : List Frame} {meth : Method} {c : Code} {H : Heap} {locs : List Loc} {Q : State → Prop} {cc : ByteArray} {pc : Nat} {ls : Array Slot} {rest st : List Value} {A : Nat → Prop} {own : String} {b idx cells slots : Nat} {lv : List (Nat × Value)} {ws : va_W}
theorem px_retN (X : px_X D tys p s m args c cc own) (hr : meth.sig.returnType = none) (hlk : meth.locks = false) (hP : va_P D vwCl ws H) (hD : va_D A ws) (hS : va_S A s.heap H locs) (a : Nat → Nat) (he : w1 a = ws) (hc : cells ≤ mc) (hs : slots ≤ ms) (hd : decode cc pc = .ok (.return_, 1)) : W p l e R s m args below meth c H locs cells slots (px_QN D tys w1 below args s A mc ms) (F0 m pc ls []) := by
  refine W.widen (k := mc) (n := ms) hc hs ?_
  exact W.vret X.1 X.2.1 hr (fun t ht hW => ⟨⟨a, rfl, trivial, by rw [ht, he]; exact hP, va_K.moved hW.alike X.2.2.2.2, by rw [he]; exact hD⟩, hS.F ht⟩) hS.2.2 hd hlk
theorem px_newI (X : px_X D tys p s m args c cc own) (hP : va_P D vwCl ws H) (hD : va_D A ws) (hS : va_S A s.heap H locs) (hA : ∀ q : Nat, s.heap.size ≤ q → A q) (t0 : Nat) {cK : ClassId} (ht : tys[t0]? = some (cK, .int)) (hw : Cond.arrayClass .int ∈ px_TB) {v : Int32} {N : Nat} (hn : ¬ v < 0) (hN : v.toNatClampNeg = N) (hb : N * 4 ≤ 536870912) (hcl : cells + 1 ≤ R.cells) (hsl : slots + N ≤ R.slots) (hd : decode cc pc = .ok (.newarray .int, 2))
    (kk : ∀ (q : Nat) (H : Heap), va_P D vwCl (ws ++ [(q, .inl (cK, N, .inl (fun _ => 0)))]) H → va_D A (ws ++ [(q, .inl (cK, N, .inl (fun _ => 0)))]) → va_S A s.heap H locs → W p l e R s m args below meth c H locs (cells + 1) (slots + N) Q (F0 m (pc + 2) ls (.ref q :: rest))) : W p l e R s m args below meth c H locs cells slots Q (F0 m pc ls (.int v :: rest)) := by
  refine va_newa (atype := .int) X.1 X.2.1 (X.2.2.1 _ hw) (ty := .int) rfl X.2.2.2.2 hP hD hS hA (a0 := (N, .inl (fun _ => 0))) (fun cA => rfl) hn hN hb hcl hsl hd (fun q cA H1 hK1 hP1 hD1 hS1 => ?_)
  have h1 : va_RA s cA .int := (hK1.2 tys.length (cA, .int) (by simp)).2
  have h2 : va_RA s cK .int := (X.2.2.2.2.2 t0 _ ht).2
  have h3 : cA = cK := Option.some.inj (Eq.trans (Eq.symm h1) h2)
  subst h3
  exact kk q H1 hP1 hD1 hS1
theorem px_newZ (X : px_X D tys p s m args c cc own) (hP : va_P D vwCl ws H) (hD : va_D A ws) (hS : va_S A s.heap H locs) (hA : ∀ q : Nat, s.heap.size ≤ q → A q) (t0 : Nat) {cK : ClassId} (ht : tys[t0]? = some (cK, .boolean)) (hw : Cond.arrayClass .boolean ∈ px_TB) {v : Int32} {N : Nat} (hn : ¬ v < 0) (hN : v.toNatClampNeg = N) (hb : N * 1 ≤ 536870912) (hcl : cells + 1 ≤ R.cells) (hsl : slots + N ≤ R.slots) (hd : decode cc pc = .ok (.newarray .boolean, 2))
    (kk : ∀ (q : Nat) (H : Heap), va_P D vwCl (ws ++ [(q, .inl (cK, N, .inl (fun _ => 0)))]) H → va_D A (ws ++ [(q, .inl (cK, N, .inl (fun _ => 0)))]) → va_S A s.heap H locs → W p l e R s m args below meth c H locs (cells + 1) (slots + N) Q (F0 m (pc + 2) ls (.ref q :: rest))) : W p l e R s m args below meth c H locs cells slots Q (F0 m pc ls (.int v :: rest)) := by
  refine va_newa (atype := .boolean) X.1 X.2.1 (X.2.2.1 _ hw) (ty := .boolean) rfl X.2.2.2.2 hP hD hS hA (a0 := (N, .inl (fun _ => 0))) (fun cA => rfl) hn hN hb hcl hsl hd (fun q cA H1 hK1 hP1 hD1 hS1 => ?_)
  have h1 : va_RA s cA .boolean := (hK1.2 tys.length (cA, .boolean) (by simp)).2
  have h2 : va_RA s cK .boolean := (X.2.2.2.2.2 t0 _ ht).2
  have h3 : cA = cK := Option.some.inj (Eq.trans (Eq.symm h1) h2)
  subst h3
  exact kk q H1 hP1 hD1 hS1
theorem px_newQ (X : px_X D tys p s m args c cc own) (hP : va_P D vwCl ws H) (hD : va_D A ws) (hS : va_S A s.heap H locs) (hA : ∀ q : Nat, s.heap.size ≤ q → A q) (t0 : Nat) {cK : ClassId} {C : String} (ht : tys[t0]? = some (cK, .object C)) (hw : Cond.classLink own idx C ∈ px_TB) (hO : va_AO C s) {v : Int32} {N : Nat} (hn : ¬ v < 0) (hN : v.toNatClampNeg = N) (hb : N * 4 ≤ 536870912) (hcl : cells + 1 ≤ R.cells) (hsl : slots + N ≤ R.slots) (hd : decode cc pc = .ok (.anewarray idx, 3))
    (kk : ∀ (q : Nat) (H : Heap), va_P D vwCl (ws ++ [(q, .inl (cK, N, .inr (.inr (.inr (.inr (fun _ => none))))))]) H → va_D A (ws ++ [(q, .inl (cK, N, .inr (.inr (.inr (.inr (fun _ => none))))))]) → va_S A s.heap H locs → W p l e R s m args below meth c H locs (cells + 1) (slots + N) Q (F0 m (pc + 3) ls (.ref q :: rest))) : W p l e R s m args below meth c H locs cells slots Q (F0 m pc ls (.int v :: rest)) := by
  refine va_newq X.1 X.2.1 X.2.2.2.1 (X.2.2.1 _ hw) hO X.2.2.2.2 hP hD hS hA hn hN hb hcl hsl hd (fun q cA H1 hK1 hP1 hD1 hS1 => ?_)
  have h1 : va_RA s cA (.object C) := (hK1.2 tys.length (cA, .object C) (by simp)).2
  have h2 : va_RA s cK (.object C) := (X.2.2.2.2.2 t0 _ ht).2
  obtain ⟨_, _, _, _, _, h1⟩ := h1
  obtain ⟨_, _, _, _, _, h2⟩ := h2
  have h3 : cA = cK := Option.some.inj (Eq.trans (Eq.symm h1) h2)
  subst h3
  exact kk q H1 hP1 hD1 hS1
theorem px_oi (X : px_X D tys p s m args c cc own) (hml : c.maxLocals = nL) (hl : lv_has ls nL lv) (h1 : Cond.methodLink own idx objectInit ∈ px_TB) (h2 : Cond.instanceMethod objectInit ∈ px_TB) (h3 : Cond.code objectInit ⟨#[0xb1]⟩ 1 none ∈ px_TB) (hd : decode cc pc = .ok (.invokespecial idx, 3)) (hR : 1 ≤ R.frames) (hR2 : 12 ≤ R.locals)
    (kk : W p l e R s m args below meth c H locs cells slots Q (F0 m (pc + 3) ls [])) : W p l e R s m args below meth c H locs cells slots Q (F0 m pc ls [.ref b]) :=
  W.objInit X.1 X.2.1 X.2.2.2.1 (X.2.2.1 _ h1) (X.2.2.1 _ h2) (X.2.2.1 _ h3) rfl (by rw [hml]; exact hl.1) rfl hd hR (by show 2 * 0 + 0 + 12 ≤ R.locals; omega) kk
theorem px_cN (X : px_X D tys p s m args c cc own) (hml : c.maxLocals = nL) (hl : lv_has ls nL lv) {tysC : List (ClassId × FieldType)} (hKc : va_K D vwCl tysC s) (hP : va_P D vwCl ws H) (hD : va_D A ws) (hS : va_S A s.heap H locs) (hA : ∀ q : Nat, s.heap.size ≤ q → A q) (hM : px_mN l D tysC y bytes n k mc ms E (.ref b :: As) w0 w1) (hT : px_Tb E) (hE : E s)
    (h1 : Cond.code y bytes n none ∈ px_TB) (h2 : Cond.methodLink own idx y ∈ px_TB) (h3 : Cond.initialized y.cls ∈ px_TB) (h4 : Cond.instanceMethod y ∈ px_TB) (hyn : y.name = "<init>") (h6 : y.cls ≠ "java/lang/invoke/MethodHandle" ∧ y.cls ≠ "java/lang/invoke/VarHandle" ∧ (parseMethodDescriptor y.desc).map (fun d => d.parameters.length) = some As.length)
    (isC isR : List Nat) (wr : va_W) (hC : isC.map (fun i => ws[i]?) = w0.map some) (hR : isR.map (fun i => ws[i]?) = wr.map some) (hnC : va_nd isC = true) (hn : va_nd isR = true) (hdis : ∀ i ∈ isR, i ∉ isC)
    (hfr : k + 1 ≤ R.frames) (hlo : 8 + (n + 11) + 60 * k ≤ R.locals) (hce : cells + mc ≤ R.cells) (hsl : slots + ms ≤ R.slots) (hst : st = As.reverse ++ .ref b :: rest) (hW : (rest.map fun v => v.category).sum ≤ 8) (hd : decode cc pc = .ok (.invokespecial idx, 3))
    (kk : ∀ (a : Nat → Nat) (H : Heap) (locs : List Loc), va_P D vwCl (wr ++ w1 a) H → va_D A (wr ++ w1 a) → va_S A s.heap H locs → W p l e R s m args below meth c H locs (cells + mc) (slots + ms) Q (F0 m (pc + 3) ls rest)) : W p l e R s m args below meth c H locs cells slots Q (F0 m pc ls st) := by
  have hFc := va_free (wc := w0) hD hS hA isC hC
  have hDc : va_D A w0 := hD.sub isC hnC hC
  have hPc : va_P D vwCl w0 H := by
    refine hP.sub isC ?_
    have : ∀ (is : List Nat) (w : va_W), is.map (fun i => ws[i]?) = w.map some → is.filterMap (fun i => ws[i]?) = w := by
      intro is
      induction is with
      | nil => intro w hw; cases w with
        | nil => rfl
        | cons a w => cases hw
      | cons i is ih => intro w hw; cases w with
        | nil => cases hw
        | cons a w =>
          simp only [List.map_cons, List.cons.injEq] at hw
          rw [List.filterMap_cons, hw.1, ih w hw.2]
    exact this isC w0 hC
  refine va_callv (va_runI (As := As) (rest := rest) ⟨X.1, X.2.1, hml, X.2.2.2.1, X.2.2.1⟩ (hM H.size) ⟨callB_of As.length X.2.2.1 (px_gi h1) rfl rfl rfl (X.2.2.1 _ h3) (X.2.2.1 _ h2) h6 ⟨hfr, hlo⟩, hyn, X.2.2.1 _ h4⟩ ⟨fun a U g mk q => ?_, fun U hU hW => ⟨rfl, by rw [hU], by rw [hU]; exact hPc, va_K.moved hW.alike hKc, hDc.weaken (fun _ _ _ _ => trivial), hT.2 s U hW hE⟩⟩ rfl rfl hl.1 hst (lv_room hW) hd ⟨hce, hsl⟩) hS (fun q _ h => hFc q h) hFc (fun a t H1 locs1 ht hvm hw hB hz1 hk1 hS1 => ?_)
  · obtain ⟨q0, q1, qP, qK, qD, qE⟩ := q
    exact ⟨q0, q1, qP, va_K.moved (u := U) (U := U.calling g mk a) (Vm.Alike.refl U.vm) qK, qD, hT.1 U (U.calling g mk a) rfl qE⟩
  · obtain ⟨hP1, hK1, hD1⟩ := hB
    rw [ht] at hP1
    obtain ⟨hP2, hD2⟩ := va_join (wr := wr) (w1 := w1 a) hP hD isC isR hC hR hn hdis hk1 hFc hP1 hD1
    exact kk a H1 locs1 hP2 hD2 hS1
theorem px_cNN (X : px_X D tys p s m args c cc own) (hml : c.maxLocals = nL) (hl : lv_has ls nL lv) {tysC : List (ClassId × FieldType)} (hKc : va_K D vwCl tysC s) (hP : va_P D vwCl ws H) (hD : va_D A ws) (hS : va_S A s.heap H locs) (hA : ∀ q : Nat, s.heap.size ≤ q → A q) (hM : px_mN l D tysC y bytes n k mc ms E (.ref b :: As) w0 w1) (hT : px_Tb E) (hE : E s)
    {host : String} (h1 : Cond.code y bytes n none ∈ px_TB) (h2 : va_Nw (.methodLinkNest own idx y host) s) (h3 : Cond.initialized y.cls ∈ px_TB) (h4 : Cond.instanceMethod y ∈ px_TB) (hyn : y.name = "<init>") (h6 : y.cls ≠ "java/lang/invoke/MethodHandle" ∧ y.cls ≠ "java/lang/invoke/VarHandle" ∧ (parseMethodDescriptor y.desc).map (fun d => d.parameters.length) = some As.length)
    (isC isR : List Nat) (wr : va_W) (hC : isC.map (fun i => ws[i]?) = w0.map some) (hR : isR.map (fun i => ws[i]?) = wr.map some) (hnC : va_nd isC = true) (hn : va_nd isR = true) (hdis : ∀ i ∈ isR, i ∉ isC)
    (hfr : k + 1 ≤ R.frames) (hlo : 8 + (n + 11) + 60 * k ≤ R.locals) (hce : cells + mc ≤ R.cells) (hsl : slots + ms ≤ R.slots) (hst : st = As.reverse ++ .ref b :: rest) (hW : (rest.map fun v => v.category).sum ≤ 8) (hd : decode cc pc = .ok (.invokespecial idx, 3))
    (kk : ∀ (a : Nat → Nat) (H : Heap) (locs : List Loc), va_P D vwCl (wr ++ w1 a) H → va_D A (wr ++ w1 a) → va_S A s.heap H locs → W p l e R s m args below meth c H locs (cells + mc) (slots + ms) Q (F0 m (pc + 3) ls rest)) : W p l e R s m args below meth c H locs cells slots Q (F0 m pc ls st) := by
  have hFc := va_free (wc := w0) hD hS hA isC hC
  have hDc : va_D A w0 := hD.sub isC hnC hC
  have hPc : va_P D vwCl w0 H := by
    refine hP.sub isC ?_
    have : ∀ (is : List Nat) (w : va_W), is.map (fun i => ws[i]?) = w.map some → is.filterMap (fun i => ws[i]?) = w := by
      intro is
      induction is with
      | nil => intro w hw; cases w with
        | nil => rfl
        | cons a w => cases hw
      | cons i is ih => intro w hw; cases w with
        | nil => cases hw
        | cons a w =>
          simp only [List.map_cons, List.cons.injEq] at hw
          rw [List.filterMap_cons, hw.1, ih w hw.2]
    exact this isC w0 hC
  refine va_callv (va_runIN (As := As) (rest := rest) ⟨X.1, X.2.1, hml, X.2.2.2.1, X.2.2.1⟩ (hM H.size) ⟨va_cnB As.length X.2.2.1 (px_gi h1) rfl rfl rfl h2 (X.2.2.1 _ h3) h6 ⟨hfr, hlo⟩, hyn, X.2.2.1 _ h4⟩ ⟨fun a U g mk q => ?_, fun U hU hW => ⟨rfl, by rw [hU], by rw [hU]; exact hPc, va_K.moved hW.alike hKc, hDc.weaken (fun _ _ _ _ => trivial), hT.2 s U hW hE⟩⟩ rfl rfl hl.1 hst (lv_room hW) hd ⟨hce, hsl⟩) hS (fun q _ h => hFc q h) hFc (fun a t H1 locs1 ht hvm hw hB hz1 hk1 hS1 => ?_)
  · obtain ⟨q0, q1, qP, qK, qD, qE⟩ := q
    exact ⟨q0, q1, qP, va_K.moved (u := U) (U := U.calling g mk a) (Vm.Alike.refl U.vm) qK, qD, hT.1 U (U.calling g mk a) rfl qE⟩
  · obtain ⟨hP1, hK1, hD1⟩ := hB
    rw [ht] at hP1
    obtain ⟨hP2, hD2⟩ := va_join (wr := wr) (w1 := w1 a) hP hD isC isR hC hR hn hdis hk1 hFc hP1 hD1
    exact kk a H1 locs1 hP2 hD2 hS1
end PXN
