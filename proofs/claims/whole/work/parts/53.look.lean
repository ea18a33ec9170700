/-! logged, reported, state, value, clear, count. -/
theorem pl_lo {x : Int32} {n : Nat} (hn : n < 2 ^ 31) (h : x < 0 ∨ nI n ≤ x) : x < 0 ∨ (¬ x < 0 ∧ nI n ≤ x ∧ ¬ x < nI n) := by
  by_cases c : x < 0
  · exact Or.inl c
  · exact Or.inr ⟨c, h.resolve_left c, pi_lt (h.resolve_left c)⟩
theorem pl_logged {j : Nat} {M N : px_M} (h : pr_Rel j M N) : pu_logged (pr_Rel (j + 1)) M N := by
  have h' := h
  obtain ⟨np, nl, nr, made, q, ts, tm, fr, hF, hG, hP, hR, hQ, hT, hM, hA, hL, hZ, hU, hC, hV, hm⟩ := h
  obtain ⟨⟨n, n1, n2, n3⟩, l2, -⟩ := hL
  intro a
  rcases pi_ix a n (by omega) with ⟨k, hk, rfl⟩ | ho
  · refine ⟨.inl (M 29 k, M), M 29 k, px_up N 0 0 0, ?_, fun E hE => by simp at hE, ?_, ⟨rfl, rfl, pr_thrown 0 (pr_mono (by omega) h')⟩⟩
    · unfold fC_logged fC_Journal_has_28 fC_Journal_at_28
      rw [n2, if_neg (nI_pos (by omega)), if_neg (nI_ge hk (by omega)), pi_bq, if_neg (by decide), pn_ck (show k < 200 by omega) (by omega), nI_clamp (by omega)]
      rfl
    · unfold fR_M_logged
      rw [n3, if_neg (nI_pos (by omega)), if_pos (nI_lt hk (by omega))]
      show px_ck (nI k) 200 (some (N 34 (nI k).toNatClampNeg, px_up N 0 0 0)) = _
      rw [pn_ck (show k < 200 by omega) (by omega), nI_clamp (by omega), l2]
  · refine ⟨.inr "java/lang/IndexOutOfBoundsException", 0, px_up N 0 0 1, ?_, fun E hE => by simpa using hE.symm, ?_, ⟨rfl, by decide, pr_thrown 1 (pr_mono (by omega) h')⟩⟩
    · unfold fC_logged fC_Journal_has_28
      rw [n2]
      rcases pl_lo (by omega) ho with c | ⟨c1, c2, c3⟩
      · rw [if_pos c]; rfl
      · rw [if_neg c1, if_pos c2]; rfl
    · unfold fR_M_logged
      rw [n3]
      rcases pl_lo (by omega) ho with c | ⟨c1, c2, c3⟩
      · rw [if_pos c]; rfl
      · rw [if_neg c1, if_neg c3]; rfl
theorem pl_reported {j : Nat} {M N : px_M} (h : pr_Rel j M N) : pu_reported (pr_Rel (j + 1)) M N := by
  have h' := h
  obtain ⟨np, nl, nr, made, q, ts, tm, fr, hF, hG, hP, hR, hQ, hT, hM, hA, hL, hZ, hU, hC, hV, hm⟩ := h
  obtain ⟨-, -, ⟨n, n1, n2, n3⟩, l2⟩ := hL
  intro a
  rcases pi_ix a n (by omega) with ⟨k, hk, rfl⟩ | ho
  · refine ⟨.inl (M 31 k, M), M 31 k, px_up N 0 0 0, ?_, fun E hE => by simp at hE, ?_, ⟨rfl, rfl, pr_thrown 0 (pr_mono (by omega) h')⟩⟩
    · unfold fC_reported fC_Journal_has_30 fC_Journal_at_30
      rw [n2, if_neg (nI_pos (by omega)), if_neg (nI_ge hk (by omega)), pi_bq, if_neg (by decide), pn_ck (show k < 200 by omega) (by omega), nI_clamp (by omega)]
      rfl
    · unfold fR_M_reported
      rw [n3, if_neg (nI_pos (by omega)), if_pos (nI_lt hk (by omega))]
      show px_ck (nI k) 200 (some (N 35 (nI k).toNatClampNeg, px_up N 0 0 0)) = _
      rw [pn_ck (show k < 200 by omega) (by omega), nI_clamp (by omega), l2]
  · refine ⟨.inr "java/lang/IndexOutOfBoundsException", 0, px_up N 0 0 1, ?_, fun E hE => by simpa using hE.symm, ?_, ⟨rfl, by decide, pr_thrown 1 (pr_mono (by omega) h')⟩⟩
    · unfold fC_reported fC_Journal_has_30
      rw [n2]
      rcases pl_lo (by omega) ho with c | ⟨c1, c2, c3⟩
      · rw [if_pos c]; rfl
      · rw [if_neg c1, if_pos c2]; rfl
    · unfold fR_M_reported
      rw [n3]
      rcases pl_lo (by omega) ho with c | ⟨c1, c2, c3⟩
      · rw [if_pos c]; rfl
      · rw [if_neg c1, if_neg c3]; rfl
theorem pl_has {M : px_M} {np k : Nat} (hs : M 32 7 = nI np) (hn : np < 2 ^ 31) (h : k < np) : fC_Promises_has M (nI k) = some 1 := by
  unfold fC_Promises_has
  rw [hs, if_neg (nI_pos (by omega)), if_neg (nI_ge h hn)]
theorem pl_hasn {M : px_M} {np : Nat} {x : Int32} (hs : M 32 7 = nI np) (hn : np < 2 ^ 31) (h : x < 0 ∨ nI np ≤ x) : fC_Promises_has M x = some 0 := by
  unfold fC_Promises_has
  rw [hs]
  rcases pl_lo hn h with c | ⟨c1, c2, c3⟩
  · rw [if_pos c]
  · rw [if_neg c1, if_pos c2]
theorem pl_state {j : Nat} {M N : px_M} (h : pr_Rel j M N) : pu_state (pr_Rel (j + 1)) M N := by
  have h' := h
  obtain ⟨np, nl, nr, made, q, ts, tm, fr, hF, hG, hP, hR, hQ, hT, hM, hA, hL, hZ, hU, hC, hV, hm⟩ := h
  obtain ⟨p1, p2, p3, p4, p5, p6, p7, -⟩ := hP
  intro a
  rcases pi_ix a np (by omega) with ⟨k, hk, rfl⟩ | ho
  · refine ⟨.inl ((M 33 k + if M 35 k = 0 then 0 else 4) + (if M 36 k = 0 then 0 else 8), M), (M 33 k + if M 35 k = 0 then 0 else 4) + (if M 36 k = 0 then 0 else 8), px_up N 0 0 0, ?_, fun E hE => by simp at hE, ?_, ⟨rfl, rfl, pr_thrown 0 (pr_mono (by omega) h')⟩⟩
    · unfold fC_state fC_Promises_stateWithFlags
      rw [pl_has p2 (by omega) hk, pi_bq, if_neg (by decide)]
      simp only [pn_ck (show k < 40 by omega) (show (40 : Nat) < 2 ^ 31 by omega), nI_clamp (show k < 2 ^ 31 by omega)]
      by_cases c1 : M 35 k = 0 <;> by_cases c2 : M 36 k = 0 <;> simp [c1, c2, pi_bq]
    · unfold fR_M_state
      rw [p3, if_neg (nI_pos (by omega)), if_pos (nI_lt hk (by omega))]
      show px_ck (nI k) 40 (px_ck (nI k) 40 (if N 8 (nI k).toNatClampNeg = 0 then px_ck (nI k) 40 (if N 9 (nI k).toNatClampNeg = 0 then some (N 6 (nI k).toNatClampNeg + 0 + 0, px_up N 0 0 0) else some (N 6 (nI k).toNatClampNeg + 0 + 8, px_up N 0 0 0)) else px_ck (nI k) 40 (if N 9 (nI k).toNatClampNeg = 0 then some (N 6 (nI k).toNatClampNeg + 4 + 0, px_up N 0 0 0) else some (N 6 (nI k).toNatClampNeg + 4 + 8, px_up N 0 0 0)))) = _
      simp only [pn_ck (show k < 40 by omega) (show (40 : Nat) < 2 ^ 31 by omega), nI_clamp (show k < 2 ^ 31 by omega), ← p4, ← p6, ← p7]
      by_cases c1 : M 35 k = 0 <;> by_cases c2 : M 36 k = 0 <;> simp [c1, c2]
  · refine ⟨.inr "java/lang/IndexOutOfBoundsException", 0, px_up N 0 0 1, ?_, fun E hE => by simpa using hE.symm, ?_, ⟨rfl, by decide, pr_thrown 1 (pr_mono (by omega) h')⟩⟩
    · unfold fC_state
      rw [pl_hasn p2 (by omega) ho]; rfl
    · unfold fR_M_state
      rw [p3]
      rcases pl_lo (by omega) ho with c | ⟨c1, c2, c3⟩
      · rw [if_pos c]; rfl
      · rw [if_neg c1, if_neg c3]; rfl
theorem pl_value {j : Nat} {M N : px_M} (h : pr_Rel j M N) : pu_value (pr_Rel (j + 1)) M N := by
  have h' := h
  obtain ⟨np, nl, nr, made, q, ts, tm, fr, hF, hG, hP, hR, hQ, hT, hM, hA, hL, hZ, hU, hC, hV, hm⟩ := h
  obtain ⟨p1, p2, p3, p4, p5, p6, p7, -⟩ := hP
  intro a
  rcases pi_ix a np (by omega) with ⟨k, hk, rfl⟩ | ho
  · have h40 : k < 40 := by omega
    by_cases c : M 33 k = 0
    · refine ⟨.inr "java/lang/IllegalStateException", 0, px_up (px_up N 0 0 0) 0 0 2, ?_, fun E hE => Or.inr (by simpa using hE.symm), ?_, ⟨rfl, by decide, pr_thrown 2 (pr_thrown 0 (pr_mono (by omega) h'))⟩⟩
      · unfold fC_value fC_Promises_stateOf
        rw [pl_has p2 (by omega) hk, pi_bq, if_neg (by decide), pn_ck h40 (by omega), nI_clamp (by omega), c]; rfl
      · unfold fR_M_value
        rw [p3, if_neg (nI_pos (by omega)), if_pos (nI_lt hk (by omega))]
        show px_ck (nI k) 40 (if N 6 (nI k).toNatClampNeg = 0 then some (0, px_up (px_up N 0 0 0) 0 0 2) else _) = _
        rw [pn_ck h40 (by omega), nI_clamp (by omega), ← p4, if_pos c]
    · refine ⟨.inl (M 34 k, M), M 34 k, px_up (px_up N 0 0 0) 0 0 0, ?_, fun E hE => by simp at hE, ?_, ⟨rfl, rfl, pr_thrown 0 (pr_thrown 0 (pr_mono (by omega) h'))⟩⟩
      · unfold fC_value fC_Promises_stateOf fC_Promises_numberOf
        rw [pl_has p2 (by omega) hk, pi_bq, if_neg (by decide), pn_ck h40 (by omega), nI_clamp (by omega), pi_bq, if_neg c, pn_ck h40 (by omega)]; rfl
      · unfold fR_M_value
        rw [p3, if_neg (nI_pos (by omega)), if_pos (nI_lt hk (by omega))]
        show px_ck (nI k) 40 (if N 6 (nI k).toNatClampNeg = 0 then _ else px_ck (nI k) 40 (some (N 7 (nI k).toNatClampNeg, px_up (px_up N 0 0 0) 0 0 0))) = _
        rw [pn_ck h40 (by omega), nI_clamp (by omega), ← p4, if_neg c, pn_ck h40 (by omega), p5]
  · refine ⟨.inr "java/lang/IndexOutOfBoundsException", 0, px_up N 0 0 1, ?_, fun E hE => Or.inl (by simpa using hE.symm), ?_, ⟨rfl, by decide, pr_thrown 1 (pr_mono (by omega) h')⟩⟩
    · unfold fC_value
      rw [pl_hasn p2 (by omega) ho]; rfl
    · unfold fR_M_value
      rw [p3]
      rcases pl_lo (by omega) ho with c | ⟨c1, c2, c3⟩
      · rw [if_pos c]; rfl
      · rw [if_neg c1, if_neg c3]; rfl
theorem pl_clear {j : Nat} {M N : px_M} (h : pr_Rel j M N) : pu_clear (pr_Rel (j + 1)) M N := by
  have h' := h
  obtain ⟨np, nl, nr, made, q, ts, tm, fr, hF, hG, hP, hR, hQ, hT, hM, hA, hL, hZ, hU, hC, hV, hm⟩ := h
  intro a
  rcases pi_ix a 10 (by omega) with ⟨k, hk, rfl⟩ | ho
  · refine ⟨.inl (0, px_up M 2 k 0), px_up (px_up N 0 0 0) 1 k 0, ?_, fun E hE => by simp at hE, ?_, ⟨rfl, ?_⟩⟩
    · unfold fC_clear fC_Functions_empty
      rw [pi_isF M hk, pi_bq, if_neg (by decide), pn_ck hk (by omega), nI_clamp (by omega)]; rfl
    · unfold fR_M_clear
      rw [(pi_win N (c := 9) (m := 9) rfl (by omega) (by omega)).2, pi_bq, if_pos rfl]
      show px_ck (nI k) 10 (some (px_up (px_up N 0 0 0) 1 (nI k).toNatClampNeg 0)) = _
      rw [pn_ck hk (by omega), nI_clamp (by omega)]
    · refine ⟨np, nl, nr, made, q, ts, tm, fr, ?_, hG, hP, hR, hQ, hT, hM, hA, hL, pr_Z_mono (Nat.le_succ j) hZ, hU, hC, hV, by omega⟩
      obtain ⟨f1, f2, f3, f4, f5⟩ := hF
      refine ⟨?_, f2, f3, f4, fun f hf => ?_⟩
      · show upd (M 2) k 0 = upd (N 1) k 0
        rw [f1]
      · by_cases e : f = k
        · subst e
          exact ⟨0, by omega, by show upd (M 2) f 0 f = _; rw [pn_us]; exact nI_0.symm, fun i hi => by omega⟩
        · obtain ⟨n, a1, a2, a3⟩ := f5 f hf
          exact ⟨n, a1, by show upd (M 2) k 0 f = _; rw [pn_ue e]; exact a2, a3⟩
  · refine ⟨.inr "java/lang/IllegalArgumentException", px_up N 0 0 1, ?_, fun E hE => by simpa using hE.symm, ?_, ⟨rfl, by decide, pr_thrown 1 (pr_mono (by omega) h')⟩⟩
    · unfold fC_clear
      rw [pi_isFn M ho]; rfl
    · unfold fR_M_clear
      rw [(pi_wout N (c := 9) (m := 9) rfl (by omega) ho).2, pi_bq, if_neg (by decide)]; rfl
theorem pl_three (ts : List pr_Tk) (h : ∀ t ∈ ts, t.1 < 3) : (pr_of 0 ts).length + (pr_of 1 ts).length + (pr_of 2 ts).length = ts.length := by
  induction ts with
  | nil => rfl
  | cons t ts ih =>
    have ih := ih (fun x hx => h x (List.mem_cons_of_mem _ hx))
    have ht := h t List.mem_cons_self
    unfold pr_of at ih ⊢
    simp only [List.length_map] at ih ⊢
    rcases (show t.1 = 0 ∨ t.1 = 1 ∨ t.1 = 2 by omega) with e | e | e <;> simp [List.filter_cons, e] <;> omega
theorem pl_waiting {made : Nat} {ts : List pr_Tk} {M N : px_M} (h : pr_T made ts M N) : fC_waitingTasks M = some (nI ts.length) := by
  obtain ⟨t1, t2, t3, t4, t5, t6, t7⟩ := h
  have e := pl_three ts (fun t ht => (t7 t ht).1)
  unfold fC_waitingTasks
  show px_bq (fC_Line_size_8 M) (fun r4 => px_bq (fC_Line_size_12 M) (fun r8 => px_bq (fC_Line_size_16 M) (fun r12 => some (((0 + r4) + r8) + r12)))) = _
  rw [gl_size_8, gl_size_12, gl_size_16, gl_size_ok t3, gl_size_ok t4, gl_size_ok t5]
  show some (((0 + nI _) + nI _) + nI _) = _
  rw [← nI_0, nI_add, nI_add, nI_add, ← e]
  simp
theorem pl_count {j : Nat} {M N : px_M} (h : pr_Rel j M N) : pu_count (pr_Rel (j + 1)) M N := by
  have h' := h
  obtain ⟨np, nl, nr, made, q, ts, tm, fr, hF, hG, hP, hR, hQ, hT, hM, hA, hL, hZ, hU, hC, hV, hm⟩ := h
  intro a
  have key : ∀ (k : Nat) (v : Int32), k < 7 → fC_count M (nI k) = some (.inl (v, M)) → (fR_M_count N (nI k) = some (v, px_up N 0 0 0)) → ∃ (z : px_Z) (r : Int32) (N1 : px_M), fC_count M (nI k) = some z ∧ (∀ E, z = .inr E → E = "java/lang/IllegalArgumentException") ∧ fR_M_count N (nI k) = some (r, N1) ∧ pu_ag (fun E => if E = "java/lang/IllegalArgumentException" then 1 else 2) (pr_Rel (j + 1)) M z r N1 :=
    fun k v _ h1 h2 => ⟨_, v, _, h1, fun E hE => by simp at hE, h2, ⟨rfl, rfl, pr_thrown 0 (pr_mono (by omega) h')⟩⟩
  rcases pi_ix a 7 (by omega) with ⟨k, hk, rfl⟩ | ho
  · have hw : fR_M_outside N (nI k) 0 6 = some 0 := (pi_win N (c := 6) (m := 6) rfl (by omega) (by omega)).2
    rcases (show k = 0 ∨ k = 1 ∨ k = 2 ∨ k = 3 ∨ k = 4 ∨ k = 5 ∨ k = 6 by omega) with rfl | rfl | rfl | rfl | rfl | rfl | rfl
    · refine key 0 (nI np) (by omega) ?_ ?_
      · show px_bq (some (M 32 7)) (fun r3 => some (Sum.inl (r3, M) : px_Z)) = _
        rw [hP.2.1]; rfl
      · unfold fR_M_count; rw [hw]
        show some (N 0 6, px_up N 0 0 0) = _
        rw [hP.2.2.1]
    · refine key 1 (nI ts.length) (by omega) ?_ ?_
      · show px_bq (fC_waitingTasks M) (fun r3 => some (Sum.inl (r3, M) : px_Z)) = _
        rw [pl_waiting hT]; rfl
      · unfold fR_M_count; rw [hw]
        show some (N 0 25, px_up N 0 0 0) = _
        rw [hT.2.1]
    · refine key 2 (nI q.length) (by omega) ?_ ?_
      · show px_bq (fC_Line_size_20 M) (fun r3 => some (Sum.inl (r3, M) : px_Z)) = _
        rw [gl_size_20, gl_size_ok hQ.1]; rfl
      · unfold fR_M_count; rw [hw]
        show some (N 0 21, px_up N 0 0 0) = _
        obtain ⟨f, -, -, -, hs, -⟩ := hQ.2.1
        rw [hs]; simp
    · refine key 3 (nI tm.length) (by omega) ?_ ?_
      · show px_bq (some (M 43 9)) (fun r3 => some (Sum.inl (r3, M) : px_Z)) = _
        rw [hM.2.2.1]; rfl
      · unfold fR_M_count; rw [hw]
        show some (N 0 32, px_up N 0 0 0) = _
        rw [hM.2.1]
    · refine key 4 (nI fr.length) (by omega) ?_ ?_
      · show px_bq (fC_Line_size_24 M) (fun r3 => some (Sum.inl (r3, M) : px_Z)) = _
        rw [gl_size_24, gl_size_ok hA.1]; simp [pi_bq]
      · unfold fR_M_count; rw [hw]
        show some (N 0 43, px_up N 0 0 0) = _
        rw [hA.2.1]
    · obtain ⟨⟨n, n1, n2, n3⟩, -⟩ := hL
      refine key 5 (nI n) (by omega) ?_ ?_
      · show px_bq (some (M 28 1)) (fun r3 => some (Sum.inl (r3, M) : px_Z)) = _
        rw [n2]; rfl
      · unfold fR_M_count; rw [hw]
        show some (N 0 48, px_up N 0 0 0) = _
        rw [n3]
    · obtain ⟨-, -, ⟨n, n1, n2, n3⟩, -⟩ := hL
      refine key 6 (nI n) (by omega) ?_ ?_
      · show px_bq (some (M 30 1)) (fun r3 => some (Sum.inl (r3, M) : px_Z)) = _
        rw [n2]; rfl
      · unfold fR_M_count; rw [hw]
        show some (N 0 50, px_up N 0 0 0) = _
        rw [n3]
  · have hne : ∀ k : Nat, k < 7 → ¬ a = nI k := by
      intro k hk e
      subst e
      rcases ho with h | h
      · exact nI_pos (by omega) h
      · exact nI_ge hk (by omega) h
    have n0 : ¬ a = (0 : Int32) := hne 0 (by omega)
    have n1 : ¬ a = (1 : Int32) := hne 1 (by omega)
    have n2 : ¬ a = (2 : Int32) := hne 2 (by omega)
    have n3 : ¬ a = (3 : Int32) := hne 3 (by omega)
    have n4 : ¬ a = (4 : Int32) := hne 4 (by omega)
    have n5 : ¬ a = (5 : Int32) := hne 5 (by omega)
    have n6 : ¬ a = (6 : Int32) := hne 6 (by omega)
    refine ⟨.inr "java/lang/IllegalArgumentException", 0, px_up N 0 0 1, ?_, fun E hE => by simpa using hE.symm, ?_, ⟨rfl, by decide, pr_thrown 1 (pr_mono (by omega) h')⟩⟩
    · unfold fC_count
      simp only [n0, n1, n2, n3, n4, n5, n6, if_false]
    · unfold fR_M_count
      rw [(pi_wout N (c := 6) (m := 6) rfl (by omega) ho).2, pi_bq, if_neg (by decide)]
      unfold px_bn
      simp only [n0, n1, n2, n3, n4, n5, n6, if_false]
