/-! Worlds cut and joined by permutation; the law's own methods over the class's world and the long array. -/
theorem px_Pm {D : va_G} {cl : List vw_C} {ws : va_W} {H : Heap} : va_P D cl ws H ↔ ∀ q ∈ ws, va_at D cl q H := by
  constructor
  · intro h q hq
    obtain ⟨k, hk⟩ := List.getElem?_of_mem hq
    exact h k q hk
  · intro h k q hk
    exact h q (List.mem_of_getElem? hk)
theorem px_Dm {A : Nat → Prop} {ws : va_W} : va_D A ws ↔ (ws.map Prod.fst).Nodup ∧ ∀ q ∈ ws, A q.1 := by
  constructor
  · intro h
    refine ⟨?_, fun q hq => ?_⟩
    · rw [List.Nodup, List.pairwise_iff_getElem]
      intro i j hi hj hij e
      have hi' : i < ws.length := by simpa using hi
      have hj' : j < ws.length := by simpa using hj
      have := h.1 i j ws[i] ws[j] (List.getElem?_eq_getElem hi') (List.getElem?_eq_getElem hj') (by simpa using e)
      omega
    · obtain ⟨k, hk⟩ := List.getElem?_of_mem hq
      exact h.2 k q hk
  · intro h
    refine ⟨fun i j p q hi hj e => ?_, fun k q hk => h.2 q (List.mem_of_getElem? hk)⟩
    have hn := h.1
    rw [List.Nodup, List.pairwise_iff_getElem] at hn
    obtain ⟨hi', ei⟩ := List.getElem?_eq_some_iff.mp hi
    obtain ⟨hj', ej⟩ := List.getElem?_eq_some_iff.mp hj
    rcases Nat.lt_trichotomy i j with c | c | c
    · refine absurd ?_ (hn i j (by simpa using hi') (by simpa using hj') c)
      simp [ei, ej, e]
    · exact c
    · refine absurd ?_ (hn j i (by simpa using hj') (by simpa using hi') c)
      simp [ei, ej, e]
theorem px_Pp {D : va_G} {cl : List vw_C} {ws ws' : va_W} {H : Heap} (h : va_P D cl ws H) (hp : ws.Perm ws') : va_P D cl ws' H := px_Pm.mpr fun q hq => px_Pm.mp h q (hp.mem_iff.mpr hq)
theorem px_Dp {A : Nat → Prop} {ws ws' : va_W} (h : va_D A ws) (hp : ws.Perm ws') : va_D A ws' := by
  obtain ⟨h1, h2⟩ := px_Dm.mp h
  exact px_Dm.mpr ⟨(hp.map Prod.fst).nodup_iff.mp h1, fun q hq => h2 q (hp.mem_iff.mpr hq)⟩
theorem px_Pl {D : va_G} {cl : List vw_C} {x y : va_W} {H : Heap} (h : va_P D cl (x ++ y) H) : va_P D cl x H := px_Pm.mpr fun q hq => px_Pm.mp h q (List.mem_append_left _ hq)
theorem px_Pr {D : va_G} {cl : List vw_C} {x y : va_W} {H : Heap} (h : va_P D cl (x ++ y) H) : va_P D cl y H := px_Pm.mpr fun q hq => px_Pm.mp h q (List.mem_append_right _ hq)
theorem px_Dl {A : Nat → Prop} {x y : va_W} (h : va_D A (x ++ y)) : va_D A x := by
  obtain ⟨h1, h2⟩ := px_Dm.mp h
  rw [List.map_append, List.nodup_append] at h1
  exact px_Dm.mpr ⟨h1.1, fun q hq => h2 q (List.mem_append_left _ hq)⟩
/-- what a callee with the part y may touch is ours -/
theorem px_Fy {A : Nat → Prop} {y r : va_W} {H0 H : Heap} {locs : List Loc} (hD : va_D A (y ++ r)) (hS : va_S A H0 H locs) (hA : ∀ q : Nat, H0.size ≤ q → A q) : ∀ q, va_A y H.size q → A q := by
  intro q h
  rcases h with ⟨j, x, h⟩ | h
  · exact (px_Dl hD).2 j (q, x) h
  · exact hA q (Nat.le_trans hS.1 h)
/-- behind a call over the part y: the rest r stands -/
theorem px_Jy {A : Nat → Prop} {D : va_G} {cl : List vw_C} {y y' r : va_W} {H H1 : Heap} (hP : va_P D cl (y ++ r) H) (hD : va_D A (y ++ r)) (hF : ∀ q, va_A y H.size q → A q) (hk : ∀ q : Nat, q < H.size → ¬ va_A y H.size q → H1[q]? = H[q]?) (hP1 : va_P D cl y' H1) (hD1 : va_D (va_A y H.size) y') : va_P D cl (y' ++ r) H1 ∧ va_D A (y' ++ r) := by
  obtain ⟨h1, h2⟩ := px_Dm.mp hD
  rw [List.map_append, List.nodup_append] at h1
  obtain ⟨d1, d2⟩ := px_Dm.mp hD1
  have apart : ∀ q ∈ r, q.1 < H.size ∧ ¬ va_A y H.size q.1 := by
    intro q hq
    have hl := (px_Pm.mp hP q (List.mem_append_right _ hq)).lt
    refine ⟨hl, fun h => ?_⟩
    rcases h with ⟨j, x, h⟩ | h
    · exact h1.2.2 q.1 (List.mem_map.mpr ⟨(q.1, x), List.mem_of_getElem? h, rfl⟩) q.1 (List.mem_map.mpr ⟨q, hq, rfl⟩) rfl
    · omega
  refine ⟨px_Pm.mpr fun q hq => ?_, px_Dm.mpr ⟨?_, fun q hq => ?_⟩⟩
  · rcases List.mem_append.mp hq with h | h
    · exact px_Pm.mp hP1 q h
    · exact (px_Pm.mp hP q (List.mem_append_right _ h)).kept (hk q.1 (apart q h).1 (apart q h).2)
  · rw [List.map_append, List.nodup_append]
    refine ⟨d1, h1.2.1, fun a ha b hb e => ?_⟩
    obtain ⟨x, hx, rfl⟩ := List.mem_map.mp ha
    obtain ⟨z, hz, rfl⟩ := List.mem_map.mp hb
    exact (apart z hz).2 (by rw [← e]; exact d2 x hx)
  · rcases List.mem_append.mp hq with h | h
    · exact hF _ (d2 q h)
    · exact h2 q (List.mem_append_right _ h)
abbrev tyL (cs : Nat → ClassId) : List (ClassId × FieldType) := [(cs 0, .int), (cs 1, .boolean), (cs 2, .object "PromiseLoop$Line"), (cs 3, .long)]
/-- the long array -/
def wO (cs : Nat → ClassId) (o : Nat) (g : Nat → Int64) : va_W := [(o, .inl (cs 3, 1, .inr (.inl g)))]
theorem va_Nc_moved {C T : String} {u U : State} (hvm : u.vm.Alike U.vm) (h : va_Nc C T u) : va_Nc C T U := by
  obtain ⟨c, t, h1, h2, h3⟩ := h
  exact ⟨c, t, by rw [hvm.findClass]; exact h1, by rw [hvm.findClass]; exact h2, by rw [hvm.assignable]; exact h3⟩
theorem px_Ex_go {sa : Nat → Nat} {A B : Nat → Prop} {s U : State} {H : Heap} {locs : List Loc} (h : px_Ex sa A s s.heap) (hS : va_S A s.heap H locs) (hB : ∀ q, B q → A q) (hW : s.WarmedH U.vm) (hU : U.heap = H) : px_Ex sa B U U.heap := by
  obtain ⟨h1, h2, h3, h4, h5⟩ := h
  refine ⟨fun q hq => vk_R.warm hW (h1 q hq), fun c hc => va_Nw.warmC hW (h2 c hc), fun w hw => ?_, ?_, ?_⟩
  · have hq := h3 w hw
    simp only [px_exD, List.mem_cons, List.not_mem_nil, or_false] at hw
    rcases hw with rfl | rfl | rfl
    · exact va_Nw.warmD hW hq
    · exact va_Nw.warmD hW hq
    · exact va_Nw.warmD hW hq
  · rw [hU]; exact ((h4.kept (fun a ha hn => hS.2.1 a ha hn)).narrow hB).moved hW.alike
  · rw [hU]; exact ((h5.kept (fun a ha hn => hS.2.1 a ha hn)).narrow hB).moved hW.alike
theorem px_Ex_same {sa : Nat → Nat} {A : Nat → Prop} {u U : State} {H : Heap} (hv : u.vm = U.vm) (h : px_Ex sa A u H) : px_Ex sa A U H := by
  obtain ⟨h1, h2, h3, h4, h5⟩ := h
  have al : u.vm.Alike U.vm := by rw [hv]; exact Vm.Alike.refl _
  exact ⟨fun q hq => vk_R.same hv.symm (h1 q hq), fun c hc => va_Nw.same rfl hv (h2 c hc), fun w hw => va_Nw.same ((by decide +kernel : ∀ w ∈ px_exD, w.onTables = true) w hw) hv (h3 w hw), h4.moved al, h5.moved al⟩
section PXLB
variable {l : Launch} {D : va_G} {tys : List (ClassId × FieldType)} {wf : px_M → va_W} {sa : Nat → Nat} {y : MethodName} {bytes : ByteArray} {n k k' nL : Nat} {ret : Option FieldType} {as As : List Value} {M M' : px_M} {r : Int32} {z : px_Z} {rw : va_W}
variable {p : Program} {e : Env} {R : Room} {s : State} {m : MethodId} {args : Array Value} {below : List Frame} {meth : Method} {c : Code} {H : Heap} {locs : List Loc} {Q : State → Prop} {cc : ByteArray} {pc : Nat} {ls : Array Slot} {rest st : List Value} {A : Nat → Prop} {own : String} {b idx cells slots : Nat} {lv : List (Nat × Value)}
/-- a call of a method that may throw, over a part of the world -/
theorem px_xI (X : px_X D tys p s m args c cc own) (hml : c.maxLocals = nL) (hl : lv_has ls nL lv) {tysC : List (ClassId × FieldType)} (hKc : va_K D vwCl tysC s) (hP : va_P D vwCl (wf M ++ rw) H) (hD : va_D A (wf M ++ rw)) (hS : va_S A s.heap H locs) (hA : ∀ q : Nat, s.heap.size ≤ q → A q) (hE : px_Ex sa A s s.heap) (hM : px_mX l D tysC wf sa y bytes n ret k' (.ref b :: As) M z) (L : px_Lk own idx y bytes n ret As.length) (hfr : k' + 1 ≤ R.frames) (hlo : 8 + (n + 11) + 60 * k' ≤ R.locals) (hcR : cells + 1 ≤ R.cells) (hsR : slots + 6 ≤ R.slots)
    (rc : ∃ cell : Cell, H[b]? = some cell ∧ cell.vm.isStatics = false ∧ s.vm.findClass y.cls = some cell.cls) (hst : st = As.reverse ++ .ref b :: rest) (hW : (rest.map fun v => v.category).sum ≤ 8) (hd : decode cc pc = .ok (.invokevirtual idx, 3))
    (kx : ∀ (E : String) (ce : Cell) (q : Addr) (H : Heap) (locs : List Loc), z = .inr E → va_P D vwCl (wf M ++ rw) H → va_D A (wf M ++ rw) → va_S A s.heap H locs → H[q]? = some ce → ce.vm = .none → s.vm.findClass E = some ce.cls → vx_W p l e R s m args below meth c H locs (cells + 1) (slots + 6) Q (F0 m pc ls rest) q)
    (kk : ∀ (r : Int32) (M' : px_M) (H : Heap) (locs : List Loc), z = .inl (r, M') → va_P D vwCl (wf M' ++ rw) H → va_D A (wf M' ++ rw) → va_S A s.heap H locs → W p l e R s m args below meth c H locs (cells + 1) (slots + 6) Q (F0 m (pc + 3) ls (.int r :: rest))) : W p l e R s m args below meth c H locs cells slots Q (F0 m pc ls st) := by
  obtain ⟨h1, h2, h3, h4, h5, h6, h7⟩ := L
  have hF := px_Fy hD hS hA
  refine vx_calli (vx_runV (As := As) (rest := rest) ⟨X.1, X.2.1, hml, X.2.2.2.1, X.2.2.1⟩ (hM H.size) ⟨callB_of As.length X.2.2.1 (px_gi h1) rfl rfl rfl (X.2.2.1 _ h3) (X.2.2.1 _ h2) h6 ⟨hfr, hlo⟩, X.2.2.1 _ h4, X.2.2.1 _ h5⟩ ⟨fun a U g mk q => ?_, rc, fun U hU hW => ⟨rfl, ⟨by rw [hU], by rw [hU]; exact px_Pl hP, va_K.moved hW.alike hKc, (px_Dl hD).weaken (fun _ _ _ _ => trivial)⟩, px_Ex_go hE hS hF hW hU⟩⟩ rfl rfl hl.1 hst (lv_room hW) hd ⟨hcR, hsR⟩) hS (fun q _ h => hF q h) hF (fun q _ h => hF q h) (fun E ce q9 u t H1 locs1 ht hvm hp hB hz1 hk1 hS1 hce hcv hcl => ?_) (fun r u t H1 locs1 ht hvm hw hB hz1 hk1 hS1 => ?_)
  · obtain ⟨q0, ⟨q1, qP, qK, qD⟩, qE⟩ := q
    exact ⟨q0, ⟨q1, qP, va_K.moved (u := U) (U := U.calling g mk a) (Vm.Alike.refl U.vm) qK, qD⟩, px_Ex_same (u := U) (U := U.calling g mk a) rfl qE⟩
  · subst hp
    obtain ⟨hz, hP1, hK1, hD1⟩ := hB
    rw [ht] at hP1
    obtain ⟨hP2, hD2⟩ := px_Jy hP hD hF hk1 hP1 hD1
    exact kx E ce q9 H1 locs1 hz hP2 hD2 hS1 hce hcv hcl
  · obtain ⟨hP1, hK1, hD1⟩ := hB
    rw [ht] at hP1
    obtain ⟨hP2, hD2⟩ := px_Jy hP hD hF hk1 hP1 hD1
    exact kk r u H1 locs1 hw hP2 hD2 hS1
theorem px_xV (X : px_X D tys p s m args c cc own) (hml : c.maxLocals = nL) (hl : lv_has ls nL lv) {tysC : List (ClassId × FieldType)} (hKc : va_K D vwCl tysC s) (hP : va_P D vwCl (wf M ++ rw) H) (hD : va_D A (wf M ++ rw)) (hS : va_S A s.heap H locs) (hA : ∀ q : Nat, s.heap.size ≤ q → A q) (hE : px_Ex sa A s s.heap) (hM : px_mY l D tysC wf sa y bytes n k' (.ref b :: As) M z) (L : px_Lk own idx y bytes n none As.length) (hfr : k' + 1 ≤ R.frames) (hlo : 8 + (n + 11) + 60 * k' ≤ R.locals) (hcR : cells + 1 ≤ R.cells) (hsR : slots + 6 ≤ R.slots)
    (rc : ∃ cell : Cell, H[b]? = some cell ∧ cell.vm.isStatics = false ∧ s.vm.findClass y.cls = some cell.cls) (hst : st = As.reverse ++ .ref b :: rest) (hW : (rest.map fun v => v.category).sum ≤ 8) (hd : decode cc pc = .ok (.invokevirtual idx, 3))
    (kx : ∀ (E : String) (ce : Cell) (q : Addr) (H : Heap) (locs : List Loc), z = .inr E → va_P D vwCl (wf M ++ rw) H → va_D A (wf M ++ rw) → va_S A s.heap H locs → H[q]? = some ce → ce.vm = .none → s.vm.findClass E = some ce.cls → vx_W p l e R s m args below meth c H locs (cells + 1) (slots + 6) Q (F0 m pc ls rest) q)
    (kk : ∀ (M' : px_M) (H : Heap) (locs : List Loc), z = .inl (0, M') → va_P D vwCl (wf M' ++ rw) H → va_D A (wf M' ++ rw) → va_S A s.heap H locs → W p l e R s m args below meth c H locs (cells + 1) (slots + 6) Q (F0 m (pc + 3) ls rest)) : W p l e R s m args below meth c H locs cells slots Q (F0 m pc ls st) := by
  obtain ⟨h1, h2, h3, h4, h5, h6, h7⟩ := L
  have hF := px_Fy hD hS hA
  refine vx_callv (vx_runV (As := As) (rest := rest) ⟨X.1, X.2.1, hml, X.2.2.2.1, X.2.2.1⟩ (hM H.size) ⟨callB_of As.length X.2.2.1 (px_gi h1) rfl rfl rfl (X.2.2.1 _ h3) (X.2.2.1 _ h2) h6 ⟨hfr, hlo⟩, X.2.2.1 _ h4, X.2.2.1 _ h5⟩ ⟨fun a U g mk q => ?_, rc, fun U hU hW => ⟨rfl, ⟨by rw [hU], by rw [hU]; exact px_Pl hP, va_K.moved hW.alike hKc, (px_Dl hD).weaken (fun _ _ _ _ => trivial)⟩, px_Ex_go hE hS hF hW hU⟩⟩ rfl rfl hl.1 hst (lv_room hW) hd ⟨hcR, hsR⟩) hS (fun q _ h => hF q h) hF (fun q _ h => hF q h) (fun E ce q9 u t H1 locs1 ht hvm hp hB hz1 hk1 hS1 hce hcv hcl => ?_) (fun u t H1 locs1 ht hvm hw hB hz1 hk1 hS1 => ?_)
  · obtain ⟨q0, ⟨q1, qP, qK, qD⟩, qE⟩ := q
    exact ⟨q0, ⟨q1, qP, va_K.moved (u := U) (U := U.calling g mk a) (Vm.Alike.refl U.vm) qK, qD⟩, px_Ex_same (u := U) (U := U.calling g mk a) rfl qE⟩
  · subst hp
    obtain ⟨hz, hP1, hK1, hD1⟩ := hB
    rw [ht] at hP1
    obtain ⟨hP2, hD2⟩ := px_Jy hP hD hF hk1 hP1 hD1
    exact kx E ce q9 H1 locs1 hz hP2 hD2 hS1 hce hcv hcl
  · obtain ⟨hP1, hK1, hD1⟩ := hB
    rw [ht] at hP1
    obtain ⟨hP2, hD2⟩ := px_Jy hP hD hF hk1 hP1 hD1
    exact kk u H1 locs1 hw hP2 hD2 hS1
/-- a call over a part of the world -/
theorem px_yI (X : px_X D tys p s m args c cc own) (hml : c.maxLocals = nL) (hl : lv_has ls nL lv) {tysC : List (ClassId × FieldType)} (hKc : va_K D vwCl tysC s) (hP : va_P D vwCl (wf M ++ rw) H) (hD : va_D A (wf M ++ rw)) (hS : va_S A s.heap H locs) (hA : ∀ q : Nat, s.heap.size ≤ q → A q) (hM : px_mI l D tysC wf y bytes n ret k' (.ref b :: As) M r M') (L : px_Lk own idx y bytes n ret As.length) (hfr : k' + 1 ≤ R.frames) (hlo : 8 + (n + 11) + 60 * k' ≤ R.locals) (hcR : cells ≤ R.cells) (hsR : slots ≤ R.slots)
    (rc : ∃ cell : Cell, H[b]? = some cell ∧ cell.vm.isStatics = false ∧ s.vm.findClass y.cls = some cell.cls) (hst : st = As.reverse ++ .ref b :: rest) (hW : (rest.map fun v => v.category).sum ≤ 8) (hd : decode cc pc = .ok (.invokevirtual idx, 3))
    (kk : ∀ (H : Heap) (locs : List Loc), va_P D vwCl (wf M' ++ rw) H → va_D A (wf M' ++ rw) → va_S A s.heap H locs → W p l e R s m args below meth c H locs cells slots Q (F0 m (pc + 3) ls (.int r :: rest))) : W p l e R s m args below meth c H locs cells slots Q (F0 m pc ls st) := by
  obtain ⟨h1, h2, h3, h4, h5, h6, h7⟩ := L
  have hF := px_Fy hD hS hA
  refine va_calli (va_runV (As := As) (rest := rest) ⟨X.1, X.2.1, hml, X.2.2.2.1, X.2.2.1⟩ (hM H.size) ⟨px_cb_g X h1 h2 h3 h6 hfr hlo, X.2.2.1 _ h4, X.2.2.1 _ h5⟩ ⟨px_blind _, rc, fun U hU hW => ⟨rfl, by rw [hU], by rw [hU]; exact px_Pl hP, va_K.moved hW.alike hKc, (px_Dl hD).weaken (fun _ _ _ _ => trivial)⟩⟩ rfl rfl hl.1 hst (lv_room hW) hd ⟨hcR, hsR⟩) hS (fun q _ h => hF q h) hF (fun r' M2 t H1 locs1 ht hvm hw hB hz1 hk1 hS1 => ?_)
  obtain ⟨rfl, rfl⟩ := hw
  obtain ⟨hP1, hK1, hD1⟩ := hB
  rw [ht] at hP1
  obtain ⟨hP2, hD2⟩ := px_Jy hP hD hF hk1 hP1 hD1
  exact kk H1 locs1 hP2 hD2 hS1
theorem px_yV (X : px_X D tys p s m args c cc own) (hml : c.maxLocals = nL) (hl : lv_has ls nL lv) {tysC : List (ClassId × FieldType)} (hKc : va_K D vwCl tysC s) (hP : va_P D vwCl (wf M ++ rw) H) (hD : va_D A (wf M ++ rw)) (hS : va_S A s.heap H locs) (hA : ∀ q : Nat, s.heap.size ≤ q → A q) (hM : px_mV l D tysC wf y bytes n k' (.ref b :: As) M M') (L : px_Lk own idx y bytes n none As.length) (hfr : k' + 1 ≤ R.frames) (hlo : 8 + (n + 11) + 60 * k' ≤ R.locals) (hcR : cells ≤ R.cells) (hsR : slots ≤ R.slots)
    (rc : ∃ cell : Cell, H[b]? = some cell ∧ cell.vm.isStatics = false ∧ s.vm.findClass y.cls = some cell.cls) (hst : st = As.reverse ++ .ref b :: rest) (hW : (rest.map fun v => v.category).sum ≤ 8) (hd : decode cc pc = .ok (.invokevirtual idx, 3))
    (kk : ∀ (H : Heap) (locs : List Loc), va_P D vwCl (wf M' ++ rw) H → va_D A (wf M' ++ rw) → va_S A s.heap H locs → W p l e R s m args below meth c H locs cells slots Q (F0 m (pc + 3) ls rest)) : W p l e R s m args below meth c H locs cells slots Q (F0 m pc ls st) := by
  obtain ⟨h1, h2, h3, h4, h5, h6, h7⟩ := L
  have hF := px_Fy hD hS hA
  refine va_callv (va_runV (As := As) (rest := rest) ⟨X.1, X.2.1, hml, X.2.2.2.1, X.2.2.1⟩ (hM H.size) ⟨px_cb_g X h1 h2 h3 h6 hfr hlo, X.2.2.1 _ h4, X.2.2.1 _ h5⟩ ⟨px_blind _, rc, fun U hU hW => ⟨rfl, by rw [hU], by rw [hU]; exact px_Pl hP, va_K.moved hW.alike hKc, (px_Dl hD).weaken (fun _ _ _ _ => trivial)⟩⟩ rfl rfl hl.1 hst (lv_room hW) hd ⟨hcR, hsR⟩) hS (fun q _ h => hF q h) hF (fun M2 t H1 locs1 ht hvm hw hB hz1 hk1 hS1 => ?_)
  subst hw
  obtain ⟨hP1, hK1, hD1⟩ := hB
  rw [ht] at hP1
  obtain ⟨hP2, hD2⟩ := px_Jy hP hD hF hk1 hP1 hD1
  exact kk H1 locs1 hP2 hD2 hS1
end PXLB
