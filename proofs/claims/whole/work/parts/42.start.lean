/-! The law from its entry, open over the pure facts; the claim out of it. -/
def w1C (cs : Nat → ClassId) (h0 : Nat) (a : Nat → Nat) : va_W := [(h0, .inr (5, [.ref (a 0), .ref (a 5), .ref (a 6), .ref (a 19), .ref (a 23), .ref (a 27), .ref (a 29), .ref (a 31), .ref (a 42), .int (0 : Int32), .int (0 : Int32), .int (0 : Int32), .int (0 : Int32), .int (0 : Int32), .int (0 : Int32), .int (0 : Int32), .int (0 : Int32), .int (0 : Int32)])), ((a 0), .inr (0, [.ref (a 1), .ref (a 2), .ref (a 3), .ref (a 4)])), ((a 1), .inl (cs 0, 10, .inl (fun _ => 0))), ((a 2), .inl (cs 0, 60, .inl (fun _ => 0))), ((a 3), .inl (cs 0, 60, .inl (fun _ => 0))), ((a 4), .inl (cs 0, 60, .inl (fun _ => 0))), ((a 5), .inl (cs 0, 8, .inl (upd (upd (upd (upd (upd (upd (upd (upd (fun _ => 0) (0 : Int32).toNatClampNeg (-1 : Int32)) (1 : Int32).toNatClampNeg (-1 : Int32)) (2 : Int32).toNatClampNeg (-1 : Int32)) (3 : Int32).toNatClampNeg (-1 : Int32)) (4 : Int32).toNatClampNeg (-1 : Int32)) (5 : Int32).toNatClampNeg (-1 : Int32)) (6 : Int32).toNatClampNeg (-1 : Int32)) (7 : Int32).toNatClampNeg (-1 : Int32)))), ((a 6), .inl (cs 2, 3, .inr (.inr (.inr (.inr (va_up (va_up (va_up (fun _ => none) (0 : Int32).toNatClampNeg (some (a 7))) (1 : Int32).toNatClampNeg (some (a 11))) (2 : Int32).toNatClampNeg (some (a 15)))))))), ((a 7), .inr (2, [.int (40 : Int32), .ref (a 8), .ref (a 9), .ref (a 10), .int (0 : Int32), .int (0 : Int32)])), ((a 8), .inl (cs 0, 40, .inl (fun _ => 0))), ((a 9), .inl (cs 0, 40, .inl (fun _ => 0))), ((a 10), .inl (cs 0, 40, .inl (fun _ => 0))), ((a 11), .inr (2, [.int (1051 : Int32), .ref (a 12), .ref (a 13), .ref (a 14), .int (0 : Int32), .int (0 : Int32)])), ((a 12), .inl (cs 0, 1051, .inl (fun _ => 0))), ((a 13), .inl (cs 0, 1051, .inl (fun _ => 0))), ((a 14), .inl (cs 0, 1051, .inl (fun _ => 0))), ((a 15), .inr (2, [.int (40 : Int32), .ref (a 16), .ref (a 17), .ref (a 18), .int (0 : Int32), .int (0 : Int32)])), ((a 16), .inl (cs 0, 40, .inl (fun _ => 0))), ((a 17), .inl (cs 0, 40, .inl (fun _ => 0))), ((a 18), .inl (cs 0, 40, .inl (fun _ => 0))), ((a 19), .inr (2, [.int (180 : Int32), .ref (a 20), .ref (a 21), .ref (a 22), .int (0 : Int32), .int (0 : Int32)])), ((a 20), .inl (cs 0, 180, .inl (fun _ => 0))), ((a 21), .inl (cs 0, 180, .inl (fun _ => 0))), ((a 22), .inl (cs 0, 180, .inl (fun _ => 0))), ((a 23), .inr (2, [.int (8 : Int32), .ref (a 24), .ref (a 25), .ref (a 26), .int (0 : Int32), .int (0 : Int32)])), ((a 24), .inl (cs 0, 8, .inl (fun _ => 0))), ((a 25), .inl (cs 0, 8, .inl (fun _ => 0))), ((a 26), .inl (cs 0, 8, .inl (fun _ => 0))), ((a 27), .inr (1, [.ref (a 28), .int (0 : Int32)])), ((a 28), .inl (cs 0, 200, .inl (fun _ => 0))), ((a 29), .inr (1, [.ref (a 30), .int (0 : Int32)])), ((a 30), .inl (cs 0, 200, .inl (fun _ => 0))), ((a 31), .inr (3, [.ref (a 19), .ref (a 29), .ref (a 32), .ref (a 33), .ref (a 34), .ref (a 35), .ref (a 36), .int (0 : Int32), .ref (a 37), .int (0 : Int32), .ref (a 38), .ref (a 39), .ref (a 40), .ref (a 41), .int (0 : Int32)])), ((a 32), .inl (cs 0, 40, .inl (fun _ => 0))), ((a 33), .inl (cs 0, 40, .inl (fun _ => 0))), ((a 34), .inl (cs 1, 40, .inl (fun _ => 0))), ((a 35), .inl (cs 1, 40, .inl (fun _ => 0))), ((a 36), .inl (cs 1, 40, .inl (fun _ => 0))), ((a 37), .inl (cs 0, 40, .inl (fun _ => 0))), ((a 38), .inl (cs 0, 80, .inl (fun _ => 0))), ((a 39), .inl (cs 0, 80, .inl (fun _ => 0))), ((a 40), .inl (cs 0, 80, .inl (fun _ => 0))), ((a 41), .inl (cs 0, 80, .inl (fun _ => 0))), ((a 42), .inr (4, [.ref (a 43), .ref (a 44), .ref (a 45), .ref (a 46), .ref (a 47), .ref (a 48), .ref (a 49), .ref (a 50), .int (0 : Int32), .int (0 : Int32)])), ((a 43), .inl (cs 0, 12, .inl (fun _ => 0))), ((a 44), .inl (cs 0, 12, .inl (fun _ => 0))), ((a 45), .inl (cs 0, 12, .inl (fun _ => 0))), ((a 46), .inl (cs 0, 12, .inl (fun _ => 0))), ((a 47), .inl (cs 0, 12, .inl (fun _ => 0))), ((a 48), .inl (cs 0, 12, .inl (fun _ => 0))), ((a 49), .inl (cs 1, 12, .inl (fun _ => 0))), ((a 50), .inl (cs 1, 12, .inl (fun _ => 0)))]
def w1R (cs : Nat → ClassId) (h0 : Nat) (a : Nat → Nat) : va_W := [(h0, .inr (6, [.int 0, .ref (a 0), .ref (a 1), .ref (a 2), .ref (a 3), .ref (a 4), .int 0, .ref (a 5), .ref (a 6), .ref (a 7), .ref (a 8), .ref (a 9), .int 0, .ref (a 10), .int 0, .ref (a 11), .ref (a 12), .ref (a 13), .ref (a 14), .ref (a 15), .int 0, .int 0, .ref (a 16), .ref (a 17), .ref (a 18), .int 0, .ref (a 19), .ref (a 20), .ref (a 21), .ref (a 22), .int 0, .int 0, .int 0, .int 0, .ref (a 23), .ref (a 24), .ref (a 25), .ref (a 26), .ref (a 27), .ref (a 28), .ref (a 29), .ref (a 30), .int 0, .int 0, .ref (a 31), .int 0, .int 0, .ref (a 32), .int 0, .ref (a 33), .int 0, .ref (a 34), .int 0, .ref (a 35), .ref (a 36), .ref (a 37), .ref (a 38), .ref (a 39), .ref (a 40), .ref (a 41), .int 0, .int 0, .int 0, .int 0, .int 0, .int 0, .int 0])), ((a 0), .inl (cs 0, 10, .inl (fun _ => 0))), ((a 1), .inl (cs 0, 60, .inl (fun _ => 0))), ((a 2), .inl (cs 0, 60, .inl (fun _ => 0))), ((a 3), .inl (cs 0, 60, .inl (fun _ => 0))), ((a 4), .inl (cs 0, 8, .inl (fun _ => 0))), ((a 5), .inl (cs 0, 40, .inl (fun _ => 0))), ((a 6), .inl (cs 0, 40, .inl (fun _ => 0))), ((a 7), .inl (cs 1, 40, .inl (fun _ => 0))), ((a 8), .inl (cs 1, 40, .inl (fun _ => 0))), ((a 9), .inl (cs 1, 40, .inl (fun _ => 0))), ((a 10), .inl (cs 0, 40, .inl (fun _ => 0))), ((a 11), .inl (cs 0, 100, .inl (fun _ => 0))), ((a 12), .inl (cs 0, 100, .inl (fun _ => 0))), ((a 13), .inl (cs 0, 100, .inl (fun _ => 0))), ((a 14), .inl (cs 0, 100, .inl (fun _ => 0))), ((a 15), .inl (cs 1, 100, .inl (fun _ => 0))), ((a 16), .inl (cs 0, 512, .inl (fun _ => 0))), ((a 17), .inl (cs 0, 512, .inl (fun _ => 0))), ((a 18), .inl (cs 0, 512, .inl (fun _ => 0))), ((a 19), .inl (cs 0, 4096, .inl (fun _ => 0))), ((a 20), .inl (cs 0, 4096, .inl (fun _ => 0))), ((a 21), .inl (cs 0, 4096, .inl (fun _ => 0))), ((a 22), .inl (cs 0, 4096, .inl (fun _ => 0))), ((a 23), .inl (cs 0, 12, .inl (fun _ => 0))), ((a 24), .inl (cs 0, 12, .inl (fun _ => 0))), ((a 25), .inl (cs 0, 12, .inl (fun _ => 0))), ((a 26), .inl (cs 0, 12, .inl (fun _ => 0))), ((a 27), .inl (cs 0, 12, .inl (fun _ => 0))), ((a 28), .inl (cs 0, 12, .inl (fun _ => 0))), ((a 29), .inl (cs 1, 12, .inl (fun _ => 0))), ((a 30), .inl (cs 1, 12, .inl (fun _ => 0))), ((a 31), .inl (cs 0, 24, .inl (fun _ => 0))), ((a 32), .inl (cs 0, 24, .inl (fun _ => 0))), ((a 33), .inl (cs 0, 200, .inl (fun _ => 0))), ((a 34), .inl (cs 0, 200, .inl (fun _ => 0))), ((a 35), .inl (cs 0, 8, .inl (fun _ => 0))), ((a 36), .inl (cs 0, 8, .inl (fun _ => 0))), ((a 37), .inl (cs 0, 8, .inl (fun _ => 0))), ((a 38), .inl (cs 1, 8, .inl (fun _ => 0))), ((a 39), .inl (cs 0, 8, .inl (fun _ => 0))), ((a 40), .inl (cs 0, 8, .inl (fun _ => 0))), ((a 41), .inl (cs 0, 8, .inl (fun _ => 0)))]
theorem px_rep {D : va_G} {cl : List vw_C} {x y : va_W} {a : Nat} {e e' : va_E} {H : Heap} (h : va_P D cl (x ++ (a, e) :: y) H) (he : va_at D cl (a, e) H → va_at D cl (a, e') H) : va_P D cl (x ++ (a, e') :: y) H := by
  have h0 := px_Pm.mp h
  refine px_Pm.mpr fun q hq => ?_
  rcases List.mem_append.mp hq with h1 | h1
  · exact h0 q (List.mem_append_left _ h1)
  · rcases List.mem_cons.mp h1 with h2 | h2
    · rw [h2]; exact he (h0 _ (List.mem_append_right _ List.mem_cons_self))
    · exact h0 q (List.mem_append_right _ (List.mem_cons_of_mem _ h2))
theorem px_Dr {A : Nat → Prop} {ws ws' : va_W} (h : va_D A ws) (e : ws.map Prod.fst = ws'.map Prod.fst) : va_D A ws' := by
  obtain ⟨h1, h2⟩ := px_Dm.mp h
  refine px_Dm.mpr ⟨by rw [← e]; exact h1, fun q hq => ?_⟩
  have hm : q.1 ∈ ws'.map Prod.fst := List.mem_map.mpr ⟨q, hq, rfl⟩
  rw [← e] at hm
  obtain ⟨q', hq', e'⟩ := List.mem_map.mp hm
  rw [← e']; exact h2 q' hq'
theorem px_cellq {cA : ClassId} {n : Nat} {f f' : Nat → Option Nat} (h : ∀ j, j < n → f j = f' j) : vp_cell cA (n, .inr (.inr (.inr (.inr f)))) = vp_cell cA (n, .inr (.inr (.inr (.inr f')))) := by
  rw [vp_cell_q, vp_cell_q]
  unfold arrV
  congr 1
  apply Array.ext
  · simp
  · intro i h1 h2
    simp at h1
    simp [h i h1]
set_option maxHeartbeats 4000000 in
set_option maxRecDepth 100000 in
theorem px_convC {D : va_G} {cs : Nat → ClassId} {hC : Nat} {aC : Nat → Nat} {H : Heap} (h : va_P D vwCl (w1C cs hC aC) H) : va_P D vwCl (wC cs (adC hC aC) pu_C0) H := by
  refine px_rep (x := (w1C cs hC aC).take 7) (y := (w1C cs hC aC).drop 8) (a := adC hC aC 7) (e := _) (e' := _) h (fun h1 => ?_)
  refine Eq.trans h1 ?_
  refine congrArg some (px_cellq ?_)
  intro j hj
  rcases (show j = 0 ∨ j = 1 ∨ j = 2 by omega) with rfl | rfl | rfl <;> rfl
set_option maxHeartbeats 4000000 in
set_option maxRecDepth 100000 in
theorem px_convD {A : Nat → Prop} {cs : Nat → ClassId} {hC : Nat} {aC : Nat → Nat} (h : va_D A (w1C cs hC aC)) : va_D A (wC cs (adC hC aC) pu_C0) := px_Dr h rfl
set_option maxHeartbeats 4000000 in
set_option maxRecDepth 100000 in
theorem px_convR (cs : Nat → ClassId) (hR : Nat) (aR : Nat → Nat) : w1R cs hR aR = wR cs (adR hR aR) pu_R0 := rfl
theorem px_newJ {l : Launch} {D : va_G} {tys : List (ClassId × FieldType)} {p : Program} {e : Env} {R : Room} {s : State} {m : MethodId} {args : Array Value} {below : List Frame} {meth : Method} {c : Code} {H : Heap} {locs : List Loc} {Q : State → Prop} {cc : ByteArray} {pc : Nat} {ls : Array Slot} {rest : List Value} {A : Nat → Prop} {own : String} {cells slots : Nat} {ws : va_W} (X : px_X D tys p s m args c cc own) (hP : va_P D vwCl ws H) (hD : va_D A ws) (hS : va_S A s.heap H locs) (hA : ∀ q : Nat, s.heap.size ≤ q → A q) (t0 : Nat) {cK : ClassId} (ht : tys[t0]? = some (cK, .long)) (hw : Cond.arrayClass .long ∈ px_TB) {v : Int32} {N : Nat} (hn : ¬ v < 0) (hN : v.toNatClampNeg = N) (hb : N * 8 ≤ 536870912) (hcl : cells + 1 ≤ R.cells) (hsl : slots + N ≤ R.slots) (hd : decode cc pc = .ok (.newarray .long, 2))
    (kk : ∀ (q : Nat) (H : Heap), va_P D vwCl (ws ++ [(q, .inl (cK, N, .inr (.inl (fun _ => 0))))]) H → va_D A (ws ++ [(q, .inl (cK, N, .inr (.inl (fun _ => 0))))]) → va_S A s.heap H locs → W p l e R s m args below meth c H locs (cells + 1) (slots + N) Q (F0 m (pc + 2) ls (.ref q :: rest))) : W p l e R s m args below meth c H locs cells slots Q (F0 m pc ls (.int v :: rest)) := by
  refine va_newa (atype := .long) X.1 X.2.1 (X.2.2.1 _ hw) (ty := .long) rfl X.2.2.2.2 hP hD hS hA (a0 := (N, .inr (.inl (fun _ => 0)))) (fun cA => rfl) hn hN hb hcl hsl hd (fun q cA H1 hK1 hP1 hD1 hS1 => ?_)
  have h1 : va_RA s cA .long := (hK1.2 tys.length (cA, .long) (by simp)).2
  have h2 : va_RA s cK .long := (X.2.2.2.2.2 t0 _ ht).2
  have h3 : cA = cK := Option.some.inj (Eq.trans (Eq.symm h1) h2)
  subst h3
  exact kk q H1 hP1 hD1 hS1
theorem px_arr {args : Array Value} {s : State} {ty : FieldType} (h : (Cond.arrayClass ty).before args s = true) (hr : ∀ cA, va_RA s cA ty ↔ s.vm.findClass ("[" ++ ty.toString) = some cA) : ∃ cA, ArrOfT s cA ty ∧ va_RA s cA ty := by
  obtain ⟨c, k, comp, h1, h2, h3⟩ := Cond.arrayClass_spec h
  exact ⟨c, fun n z => ⟨fun k h => (by cases h), k, h2, comp, h3⟩, (hr c).mpr h1⟩
theorem px_arrQ {args : Array Value} {s : State} {C : String} (h : (Cond.arrayOver (.object C)).before args s = true) : ∃ cA, ArrOfT s cA (.object C) ∧ va_RA s cA (.object C) := by
  obtain ⟨comp, c, k, h1, -, h2, h3, h4⟩ := Cond.arrayOver_spec h
  exact ⟨c, fun n z => ⟨fun k h => (by cases h), k, h2, comp, h3⟩, k, comp, h2, h3, h1, h4⟩
def px_EC (U : State) : Prop := va_Nw (.methodLinkNest RX5 11 yX0_init "PromiseLoop") U ∧ va_Nw (.methodLinkNest RX5 38 yX1_init "PromiseLoop") U ∧ va_Nw (.methodLinkNest RX5 57 yX4_init "PromiseLoop") U ∧ va_AO "PromiseLoop$Line" U
theorem px_EC_t : px_Tb px_EC := by
  constructor
  · intro u U hv h
    exact ⟨va_Nw.same rfl hv h.1, va_Nw.same rfl hv h.2.1, va_Nw.same rfl hv h.2.2.1, va_AO.moved (by rw [hv]; exact Vm.Alike.refl _) h.2.2.2⟩
  · intro s U hW h
    exact ⟨va_Nw.warmM hW h.1, va_Nw.warmM hW h.2.1, va_Nw.warmM hW h.2.2.1, va_AO.moved hW.alike h.2.2.2⟩

section PXCN
variable {l : Launch} {D : va_G} {tys : List (ClassId × FieldType)} {y : MethodName} {bytes : ByteArray} {n k mc ms nL : Nat} {As : List Value} {E : State → Prop} {w0 rw : va_W} {w1 : (Nat → Nat) → va_W}
variable {p : Program} {e : Env} {R : Room} {s : State} {m : MethodId} {args : Array Value} {below : List Frame} {meth : Method} {c : Code} {H : Heap} {locs : List Loc} {Q : State → Prop} {cc : ByteArray} {pc : Nat} {ls : Array Slot} {rest st : List Value} {A : Nat → Prop} {own : String} {b idx cells slots : Nat} {lv : List (Nat × Value)}
theorem px_cNx (X : px_X D tys p s m args c cc own) (hml : c.maxLocals = nL) (hl : lv_has ls nL lv) {tysC : List (ClassId × FieldType)} (hKc : va_K D vwCl tysC s) (hP : va_P D vwCl (w0 ++ rw) H) (hD : va_D A (w0 ++ rw)) (hS : va_S A s.heap H locs) (hA : ∀ q : Nat, s.heap.size ≤ q → A q) (hM : px_mN l D tysC y bytes n k mc ms E (.ref b :: As) w0 w1) (hT : px_Tb E) (hE : E s)
    (h1 : Cond.code y bytes n none ∈ px_TB) (h2 : Cond.methodLink own idx y ∈ px_TB) (h3 : Cond.initialized y.cls ∈ px_TB) (h4 : Cond.instanceMethod y ∈ px_TB) (hyn : y.name = "<init>") (h6 : y.cls ≠ "java/lang/invoke/MethodHandle" ∧ y.cls ≠ "java/lang/invoke/VarHandle" ∧ (parseMethodDescriptor y.desc).map (fun d => d.parameters.length) = some As.length)
    (hfr : k + 1 ≤ R.frames) (hlo : 8 + (n + 11) + 60 * k ≤ R.locals) (hce : cells + mc ≤ R.cells) (hsl : slots + ms ≤ R.slots) (hst : st = As.reverse ++ .ref b :: rest) (hW : (rest.map fun v => v.category).sum ≤ 8) (hd : decode cc pc = .ok (.invokespecial idx, 3))
    (kk : ∀ (a : Nat → Nat) (H : Heap) (locs : List Loc), va_P D vwCl (w1 a ++ rw) H → va_D A (w1 a ++ rw) → va_S A s.heap H locs → W p l e R s m args below meth c H locs (cells + mc) (slots + ms) Q (F0 m (pc + 3) ls rest)) : W p l e R s m args below meth c H locs cells slots Q (F0 m pc ls st) := by
  have hF := px_Fy hD hS hA
  refine va_callv (va_runI (As := As) (rest := rest) ⟨X.1, X.2.1, hml, X.2.2.2.1, X.2.2.1⟩ (hM H.size) ⟨callB_of As.length X.2.2.1 (px_gi h1) rfl rfl rfl (X.2.2.1 _ h3) (X.2.2.1 _ h2) h6 ⟨hfr, hlo⟩, hyn, X.2.2.1 _ h4⟩ ⟨fun a U g mk q => ?_, fun U hU hW => ⟨rfl, by rw [hU], by rw [hU]; exact px_Pl hP, va_K.moved hW.alike hKc, (px_Dl hD).weaken (fun _ _ _ _ => trivial), hT.2 s U hW hE⟩⟩ rfl rfl hl.1 hst (lv_room hW) hd ⟨hce, hsl⟩) hS (fun q _ h => hF q h) hF (fun a t H1 locs1 ht hvm hw hB hz1 hk1 hS1 => ?_)
  · obtain ⟨q0, q1, qP, qK, qD, qE⟩ := q
    exact ⟨q0, q1, qP, va_K.moved (u := U) (U := U.calling g mk a) (Vm.Alike.refl U.vm) qK, qD, hT.1 U (U.calling g mk a) rfl qE⟩
  · obtain ⟨hP1, hK1, hD1⟩ := hB
    rw [ht] at hP1
    obtain ⟨hP2, hD2⟩ := px_Jy hP hD hF hk1 hP1 hD1
    exact kk a H1 locs1 hP2 hD2 hS1
end PXCN
set_option maxHeartbeats 8000000 in
set_option maxRecDepth 100000 in
theorem whole_start_open {Rel : Nat → px_M → px_M → Prop} (hok : pu_ok Rel) {p : Program} {e : Env} {s : State} {m : MethodId} {below : List Frame} {meth : Method} {c : Code} (l : Launch) (hst : l.stackTraces = false) {b L : Nat} {xs : Nat → Int32} (hL : L ≤ 2560) (C0 : lw_At p s m meth c b L xs) : W p l e room_1 s m #[Value.ref b] below meth c s.heap [] 0 0 (lw_Z below #[Value.ref b] s) (entryFrame m ([Value.ref b] : List Value).toArray 7) := by
  obtain ⟨hx, hb, hr, hml, hown, hts, hX, hbl, hlocks, hgv⟩ := id C0
  have hA : ∀ q : Nat, s.heap.size ≤ q → (fun q : Nat => s.heap.size ≤ q) q := fun _ h => h
  have hg := flat_of_before _ hgv
  obtain ⟨c0, i0, hk0⟩ := u_known (C := RX0) (T := TX0) (N := 4) (n := 4) hts (by decide +kernel) (hts (.instantiable RX0 4) (by decide +kernel))
  obtain ⟨c1, i1, hk1⟩ := u_known (C := RX1) (T := TX1) (N := 2) (n := 2) hts (by decide +kernel) (hts (.instantiable RX1 2) (by decide +kernel))
  obtain ⟨c2, i2, hk2⟩ := u_known (C := RX2) (T := TX2) (N := 6) (n := 6) hts (by decide +kernel) (hts (.instantiable RX2 6) (by decide +kernel))
  obtain ⟨c3, i3, hk3⟩ := u_known (C := RX3) (T := TX3) (N := 15) (n := 15) hts (by decide +kernel) (hts (.instantiable RX3 15) (by decide +kernel))
  obtain ⟨c4, i4, hk4⟩ := u_known (C := RX4) (T := TX4) (N := 10) (n := 10) hts (by decide +kernel) (hts (.instantiable RX4 10) (by decide +kernel))
  obtain ⟨c5, i5, hk5⟩ := u_known (C := RX5) (T := TX5) (N := 18) (n := 18) hts (by decide +kernel) (hts (.instantiable RX5 18) (by decide +kernel))
  obtain ⟨c6, i6, hk6⟩ := u_known (C := RX6) (T := TX6) (N := 67) (n := 67) hts (by decide +kernel) (hts (.instantiable RX6 67) (by decide +kernel))
  obtain ⟨dC, dI, hKc⟩ : ∃ (dC : Nat → ClassId) (dI : Nat → Nat → Nat), ∀ (k : Nat) (q : vw_C), vwCl[k]? = some q → u_Kn s q.1 q.2.1 q.2.2 (dC k) (dI k) := by
    refine ⟨fun k => if k = 0 then c0 else if k = 1 then c1 else if k = 2 then c2 else if k = 3 then c3 else if k = 4 then c4 else if k = 5 then c5 else c6, fun k => if k = 0 then i0 else if k = 1 then i1 else if k = 2 then i2 else if k = 3 then i3 else if k = 4 then i4 else if k = 5 then i5 else i6, ?_⟩
    intro k q hq
    match k, hq with
    | 0, hq => cases hq; exact hk0
    | 1, hq => cases hq; exact hk1
    | 2, hq => cases hq; exact hk2
    | 3, hq => cases hq; exact hk3
    | 4, hq => cases hq; exact hk4
    | 5, hq => cases hq; exact hk5
    | 6, hq => cases hq; exact hk6
    | k + 7, hq => simp [vwCl] at hq
  obtain ⟨t0, ta0, tr0⟩ := px_arr (ty := .int) (hts (.arrayClass .int) (by decide +kernel)) (fun _ => Iff.rfl)
  obtain ⟨t1, ta1, tr1⟩ := px_arr (ty := .boolean) (hts (.arrayClass .boolean) (by decide +kernel)) (fun _ => Iff.rfl)
  obtain ⟨t2, ta2, tr2⟩ := px_arrQ (C := "PromiseLoop$Line") (hts (.arrayOver (.object "PromiseLoop$Line")) (by decide +kernel))
  obtain ⟨t3, ta3, tr3⟩ := px_arr (ty := .long) (hts (.arrayClass .long) (by decide +kernel)) (fun _ => Iff.rfl)
  obtain ⟨cs, hcs⟩ : ∃ cs : Nat → ClassId, cs 0 = t0 ∧ cs 1 = t1 ∧ cs 2 = t2 ∧ cs 3 = t3 := ⟨fun k => if k = 0 then t0 else if k = 1 then t1 else if k = 2 then t2 else t3, rfl, rfl, rfl, rfl⟩
  obtain ⟨rfl, rfl, rfl, rfl⟩ := hcs
  have hK : va_K (dC, dI) vwCl (tyL cs) s := by
    refine ⟨hKc, fun k q h => ?_⟩
    match k, h with
    | 0, h => cases h; exact ⟨ta0, tr0⟩
    | 1, h => cases h; exact ⟨ta1, tr1⟩
    | 2, h => cases h; exact ⟨ta2, tr2⟩
    | 3, h => cases h; exact ⟨ta3, tr3⟩
    | k + 4, h => simp at h
  have X : px_X (dC, dI) (tyL cs) p s m #[Value.ref b] c cL_law RL := ⟨hx, hb, fun w h => hts w (List.mem_filter.mp h).1, hown, hK⟩
  obtain ⟨z101, -, -, -, ez101, -⟩ := Cond.exactly_spec (hg (.exactly (.string "PromiseLoop" 101) "java/lang/String") (by decide +kernel))
  obtain ⟨z112, -, -, -, ez112, -⟩ := Cond.exactly_spec (hg (.exactly (.string "PromiseLoop" 112) "java/lang/String") (by decide +kernel))
  obtain ⟨z119, -, -, -, ez119, -⟩ := Cond.exactly_spec (hg (.exactly (.string "PromiseLoop" 119) "java/lang/String") (by decide +kernel))
  obtain ⟨z127, -, -, -, ez127, -⟩ := Cond.exactly_spec (hg (.exactly (.string "PromiseLoop" 127) "java/lang/String") (by decide +kernel))
  obtain ⟨z133, -, -, -, ez133, -⟩ := Cond.exactly_spec (hg (.exactly (.string "PromiseLoop" 133) "java/lang/String") (by decide +kernel))
  obtain ⟨z139, -, -, -, ez139, -⟩ := Cond.exactly_spec (hg (.exactly (.string "PromiseLoop" 139) "java/lang/String") (by decide +kernel))
  obtain ⟨z158, -, -, -, ez158, -⟩ := Cond.exactly_spec (hg (.exactly (.string "PromiseLoop" 158) "java/lang/String") (by decide +kernel))
  obtain ⟨z169, -, -, -, ez169, -⟩ := Cond.exactly_spec (hg (.exactly (.string "PromiseLoop" 169) "java/lang/String") (by decide +kernel))
  obtain ⟨z175, -, -, -, ez175, -⟩ := Cond.exactly_spec (hg (.exactly (.string "PromiseLoop" 175) "java/lang/String") (by decide +kernel))
  obtain ⟨z183, -, -, -, ez183, -⟩ := Cond.exactly_spec (hg (.exactly (.string "PromiseLoop" 183) "java/lang/String") (by decide +kernel))
  obtain ⟨z191, -, -, -, ez191, -⟩ := Cond.exactly_spec (hg (.exactly (.string "PromiseLoop" 191) "java/lang/String") (by decide +kernel))
  obtain ⟨z194, -, -, -, ez194, -⟩ := Cond.exactly_spec (hg (.exactly (.string "PromiseLoop" 194) "java/lang/String") (by decide +kernel))
  obtain ⟨z199, -, -, -, ez199, -⟩ := Cond.exactly_spec (hg (.exactly (.string "PromiseLoop" 199) "java/lang/String") (by decide +kernel))
  obtain ⟨sa, hsa⟩ : ∃ sa : Nat → Nat, sa 101 = z101 ∧ sa 112 = z112 ∧ sa 119 = z119 ∧ sa 127 = z127 ∧ sa 133 = z133 ∧ sa 139 = z139 ∧ sa 158 = z158 ∧ sa 169 = z169 ∧ sa 175 = z175 ∧ sa 183 = z183 ∧ sa 191 = z191 ∧ sa 194 = z194 ∧ sa 199 = z199 := ⟨fun k => if k = 101 then z101 else if k = 112 then z112 else if k = 119 then z119 else if k = 127 then z127 else if k = 133 then z133 else if k = 139 then z139 else if k = 158 then z158 else if k = 169 then z169 else if k = 175 then z175 else if k = 183 then z183 else if k = 191 then z191 else if k = 194 then z194 else if k = 199 then z199 else 0, rfl, rfl, rfl, rfl, rfl, rfl, rfl, rfl, rfl, rfl, rfl, rfl, rfl⟩
  obtain ⟨rfl, rfl, rfl, rfl, rfl, rfl, rfl, rfl, rfl, rfl, rfl, rfl, rfl⟩ := hsa
  have hE : px_Ex sa (fun q : Nat => s.heap.size ≤ q) s s.heap := by
    refine ⟨?_, ?_, ?_, ?_, ?_⟩
    · intro q hq
      simp only [px_strs, List.mem_cons, List.not_mem_nil, or_false] at hq
      rcases hq with rfl | rfl | rfl | rfl | rfl | rfl | rfl | rfl | rfl | rfl | rfl | rfl | rfl
      · exact vk_R.of (hts (.stringRef RX5 101 "no such function, code or number") (by decide +kernel)) ez101
      · exact vk_R.of (hts (.stringRef RX5 112 "the function is full") (by decide +kernel)) ez112
      · exact vk_R.of (hts (.stringRef RX5 119 "no such function") (by decide +kernel)) ez119
      · exact vk_R.of (hts (.stringRef RX5 127 "no such source or function") (by decide +kernel)) ez127
      · exact vk_R.of (hts (.stringRef RX5 133 "too many tasks wait") (by decide +kernel)) ez133
      · exact vk_R.of (hts (.stringRef RX5 139 "no such source") (by decide +kernel)) ez139
      · exact vk_R.of (hts (.stringRef RX5 158 "not a length of time to set the clock forward") (by decide +kernel)) ez158
      · exact vk_R.of (hts (.stringRef RX5 169 "no such register") (by decide +kernel)) ez169
      · exact vk_R.of (hts (.stringRef RX5 175 "no such promise") (by decide +kernel)) ez175
      · exact vk_R.of (hts (.stringRef RX5 183 "the promise is pending") (by decide +kernel)) ez183
      · exact vk_R.of (hts (.stringRef RX5 191 "nothing is counted under this number") (by decide +kernel)) ez191
      · exact vk_R.of (hts (.stringRef RX5 194 "not logged") (by decide +kernel)) ez194
      · exact vk_R.of (hts (.stringRef RX5 199 "not reported") (by decide +kernel)) ez199
    · intro c hc
      simp only [px_exs, List.mem_cons, List.not_mem_nil, or_false] at hc
      rcases hc with rfl | rfl | rfl
      · exact va_Nw.of rfl (hts _ (by decide +kernel))
      · exact va_Nw.of rfl (hts _ (by decide +kernel))
      · exact va_Nw.of rfl (hts _ (by decide +kernel))
    · intro w hw
      have hm : w ∈ lw_tbl := (by decide +kernel : ∀ w ∈ px_exD, w ∈ lw_tbl) w hw
      exact va_Nw.of ((by decide +kernel : ∀ w ∈ px_exD, w.onTables = true) w hw) (hts w hm)
    · exact vx_Zqof (hts (.laysStatic Bundle.tN "UNASSIGNED_STACK" Bundle.steD) (by decide +kernel)) (hts (.initialized Bundle.tN) (by decide +kernel)) (hg (.isRef (.static Bundle.tN "UNASSIGNED_STACK" Bundle.steD)) (by decide +kernel)) (fun a ha => Nat.not_le.mpr ha)
    · exact vx_Zqof (hts (.laysStatic Bundle.tN "SUPPRESSED_SENTINEL" Bundle.listD) (by decide +kernel)) (hts (.initialized Bundle.tN) (by decide +kernel)) (hg (.isRef (.static Bundle.tN "SUPPRESSED_SENTINEL" Bundle.listD)) (by decide +kernel)) (fun a ha => Nat.not_le.mpr ha)
  have hN : px_NcU s := ⟨va_Nc.of (hg (.not (.castable "java/lang/IllegalStateException" "java/lang/IllegalArgumentException")) (by decide +kernel)), va_Nc.of (hg (.not (.castable "java/lang/IllegalStateException" "java/lang/IndexOutOfBoundsException")) (by decide +kernel))⟩
  have hEC : px_EC s := ⟨va_Nw.of rfl (hts (.methodLinkNest RX5 11 yX0_init "PromiseLoop") (by decide +kernel)), va_Nw.of rfl (hts (.methodLinkNest RX5 38 yX1_init "PromiseLoop") (by decide +kernel)), va_Nw.of rfl (hts (.methodLinkNest RX5 57 yX4_init "PromiseLoop") (by decide +kernel)), va_AO.of (hts (.arrayOver (.object "PromiseLoop$Line")) (by decide +kernel))⟩
  have hS : va_S (fun q : Nat => s.heap.size ≤ q) s.heap s.heap [] := va_S.rf
  have hP : va_P (dC, dI) vwCl [] s.heap := fun k q h => by simp at h
  have hD : va_D (fun q : Nat => s.heap.size ≤ q) [] := ⟨fun i j p q h => by simp at h, fun k q h => by simp at h⟩
  have hl := lv_entry ([.ref b]) (n := 7) (Nat.le_of_ble_eq_true rfl)
  rw [lg_entry_eq]
  generalize (lg_sl ([.ref b]) ++ List.replicate (7 - (lg_sl ([.ref b])).length) Slot.unset).toArray = ls at hl ⊢
  have hl : lv_has ls 7 [(0, .ref b)] := hl
  refine va_new (ci := 5) (fs := [.null, .null, .null, .null, .null, .null, .null, .null, .null, .int 0, .int 0, .int 0, .int 0, .int 0, .int 0, .int 0, .int 0, .int 0]) (C := RX5) (T := TX5) (N := 18) X.1 X.2.1 X.2.2.1 wu_X5 tyX5 tyX5_ok X.2.2.2.1 (X.2.2.1 (.classLink RL 8 RX5) (px_tb (by decide +kernel) (by decide +kernel))) (X.2.2.1 (.instantiable RX5 18) (px_tb (by decide +kernel) (by decide +kernel))) (X.2.2.1 (.initialized RX5) (px_tb (by decide +kernel) (by decide +kernel))) X.2.2.2.2 hP hD hS hA rfl ((by decide +kernel : ∀ j, j < 18 → defaultValue (tyX5 j) = vp_V [.null, .null, .null, .null, .null, .null, .null, .null, .null, .int 0, .int 0, .int 0, .int 0, .int 0, .int 0, .int 0, .int 0, .int 0] j)) (Nat.le_of_ble_eq_true rfl) (Nat.le_of_ble_eq_true rfl) dL_law_0 (fun qC H hP hD hS => ?_)
  refine W.widen (k := 1) (n := 18) (by decide) (by decide) ?_
  refine lv_dup X.1 X.2.1 dL_law_3 rfl ?_
  refine px_cN (As := []) (rest := [.ref qC]) X hml hl (X.2.2.2.2.sub [0, 1, 2] rfl) hP hD hS hA (nC_PromiseLoop l (dC, dI) cs qC) px_EC_t hEC (px_tb (by decide +kernel) (by decide +kernel)) (px_tb (by decide +kernel) (by decide +kernel)) (px_tb (by decide +kernel) (by decide +kernel)) (px_tb (by decide +kernel) (by decide +kernel)) rfl (by decide +kernel) [0] [] [] rfl rfl (by decide) (by decide) (by decide) (Nat.le_of_ble_eq_true rfl) (Nat.le_of_ble_eq_true rfl) (Nat.le_of_ble_eq_true rfl) (Nat.le_of_ble_eq_true rfl) rfl (Nat.le_of_ble_eq_true rfl) dL_law_4 (fun aC H locs hP hD hS => ?_)
  refine W.widen (k := 52) (n := 5295) (by decide) (by decide) ?_
  have hP := px_convC (show va_P (dC, dI) vwCl (w1C cs qC aC) H from hP)
  have hD := px_convD (show va_D (fun q : Nat => s.heap.size ≤ q) (w1C cs qC aC) from hD)
  refine lv_astore_n (lv' := [(1, .ref qC), (0, .ref b)]) X.1 X.2.1 dL_law_7 rfl hl (by decide) rfl (fun ls hl => ?_)
  generalize hwC : wC cs (adC qC aC) pu_C0 = w0 at hP hD
  refine va_new (ci := 6) (fs := [.int 0, .null, .null, .null, .null, .null, .int 0, .null, .null, .null, .null, .null, .int 0, .null, .int 0, .null, .null, .null, .null, .null, .int 0, .int 0, .null, .null, .null, .int 0, .null, .null, .null, .null, .int 0, .int 0, .int 0, .int 0, .null, .null, .null, .null, .null, .null, .null, .null, .int 0, .int 0, .null, .int 0, .int 0, .null, .int 0, .null, .int 0, .null, .int 0, .null, .null, .null, .null, .null, .null, .null, .int 0, .int 0, .int 0, .int 0, .int 0, .int 0, .int 0]) (C := RX6) (T := TX6) (N := 67) X.1 X.2.1 X.2.2.1 wu_X6 tyX6 tyX6_ok X.2.2.2.1 (X.2.2.1 (.classLink RL 53 RX6) (px_tb (by decide +kernel) (by decide +kernel))) (X.2.2.1 (.instantiable RX6 67) (px_tb (by decide +kernel) (by decide +kernel))) (X.2.2.1 (.initialized RX6) (px_tb (by decide +kernel) (by decide +kernel))) X.2.2.2.2 hP hD hS hA rfl ((by decide +kernel : ∀ j, j < 67 → defaultValue (tyX6 j) = vp_V [.int 0, .null, .null, .null, .null, .null, .int 0, .null, .null, .null, .null, .null, .int 0, .null, .int 0, .null, .null, .null, .null, .null, .int 0, .int 0, .null, .null, .null, .int 0, .null, .null, .null, .null, .int 0, .int 0, .int 0, .int 0, .null, .null, .null, .null, .null, .null, .null, .null, .int 0, .int 0, .null, .int 0, .int 0, .null, .int 0, .null, .int 0, .null, .int 0, .null, .null, .null, .null, .null, .null, .null, .int 0, .int 0, .int 0, .int 0, .int 0, .int 0, .int 0] j)) (Nat.le_of_ble_eq_true rfl) (Nat.le_of_ble_eq_true rfl) dL_law_8 (fun qR H hP hD hS => ?_)
  refine W.widen (k := 53) (n := 5362) (by decide) (by decide) ?_
  refine lv_dup X.1 X.2.1 dL_law_11 rfl ?_
  have hP := px_Pp hP List.perm_append_comm
  have hD := px_Dp hD List.perm_append_comm
  refine px_cNx (As := []) (rest := [.ref qR]) X hml hl (X.2.2.2.2.sub [0, 1] rfl) hP hD hS hA (nR_Model l (dC, dI) cs qR) px_Tb_t trivial (px_tb (by decide +kernel) (by decide +kernel)) (px_tb (by decide +kernel) (by decide +kernel)) (px_tb (by decide +kernel) (by decide +kernel)) (px_tb (by decide +kernel) (by decide +kernel)) rfl (by decide +kernel) (Nat.le_of_ble_eq_true rfl) (Nat.le_of_ble_eq_true rfl) (Nat.le_of_ble_eq_true rfl) (Nat.le_of_ble_eq_true rfl) rfl (Nat.le_of_ble_eq_true rfl) dL_law_12 (fun aR H locs hP hD hS => ?_)
  refine W.widen (k := 95) (n := 24820) (by decide) (by decide) ?_
  have hP : va_P (dC, dI) vwCl (w1R cs qR aR ++ w0) H := hP
  have hD : va_D (fun q : Nat => s.heap.size ≤ q) (w1R cs qR aR ++ w0) := hD
  rw [px_convR] at hP hD
  refine lv_astore_n (lv' := [(2, .ref qR), (1, .ref qC), (0, .ref b)]) X.1 X.2.1 dL_law_15 rfl hl (by decide) rfl (fun ls hl => ?_)
  refine lv_iconst (v := (1 : Int32)) X.1 X.2.1 dL_law_16 (by decide) ?_
  refine px_newJ X hP hD hS hA 3 rfl (px_tb (by decide +kernel) (by decide +kernel)) (N := 1) (by decide) (by decide) (by decide) (Nat.le_of_ble_eq_true rfl) (Nat.le_of_ble_eq_true rfl) dL_law_17 (fun o H hP hD hS => ?_)
  refine W.widen (k := 96) (n := 24821) (by decide) (by decide) ?_
  refine lv_astore_n (lv' := [(3, .ref o), (2, .ref qR), (1, .ref qC), (0, .ref b)]) X.1 X.2.1 dL_law_19 rfl hl (by decide) rfl (fun ls hl => ?_)
  refine lv_iconst (v := (0 : Int32)) X.1 X.2.1 dL_law_20 (by decide) ?_
  refine lv_istore (lv' := [(4, .int (0 : Int32)), (3, .ref o), (2, .ref qR), (1, .ref qC), (0, .ref b)]) X.1 X.2.1 dL_law_21 hl (by decide) rfl (fun ls hl => ?_)
  have hperm : ((wR cs (adR qR aR) pu_R0 ++ w0) ++ wO cs o (fun _ => 0)).Perm (w0 ++ (wO cs o (fun _ => 0) ++ wR cs (adR qR aR) pu_R0)) := by
    rw [List.append_assoc]
    refine List.perm_append_comm.trans ?_
    rw [List.append_assoc]
  have hP := px_Pp (show va_P (dC, dI) vwCl ((wR cs (adR qR aR) pu_R0 ++ w0) ++ wO cs o (fun _ => 0)) H from hP) hperm
  have hD := px_Dp (show va_D (fun q : Nat => s.heap.size ≤ q) ((wR cs (adR qR aR) pu_R0 ++ w0) ++ wO cs o (fun _ => 0)) from hD) hperm
  subst hwC
  exact lw_loop (ad := adC qC aC) (aR := adR qR aR) (o := o) hst hok.2 hL X hr hlocks hml hX hbl hE hN (L + 1) 0 0 pu_C0 pu_R0 (fun _ => 0) H locs ls nI_0.symm (Nat.zero_le _) (by omega) hok.1 hP hD hS (lv_sub hl [4, 3, 2, 1, 0] rfl)
