/-! Tasks: one more; post. -/
/-- all of the relation but the tasks -/
def pr_X (j np nl nr made : Nat) (q : List pn_J) (tm : List (Nat × Nat)) (fr : List Int32) (M N : px_M) : Prop :=
  pr_F M N ∧ pr_G np M N ∧ pr_P np nl M N ∧ pr_R np nr M N ∧ pr_Q np nr q M N ∧ pr_M made tm M N ∧ pr_A fr M N ∧ pr_L M N ∧ pr_Z j M N ∧ pr_U np nr q M ∧ pr_C np nr nl q M
theorem pr_X_c {j np nl nr made : Nat} {q : List pn_J} {tm : List (Nat × Nat)} {fr : List Int32} {M N M' N' : px_M} (h : pr_X j np nl nr made q tm fr M N) (hM : ∀ k, (k < 8 ∨ 20 ≤ k) → M' k = M k) (hN : ∀ k, k ≠ 0 → (k < 20 ∨ 24 ≤ k) → N' k = N k) (hZ : ∀ i, i ≠ 0 → i ≠ 25 → N' 0 i = N 0 i) : pr_X j np nl nr made q tm fr M' N' := by
  have eM : M' = fun k => if 8 ≤ k ∧ k < 20 then M' k else M k := by
    funext k
    by_cases c : 8 ≤ k ∧ k < 20
    · rw [if_pos c]
    · rw [if_neg c]; exact hM k (by omega)
  have eN : N' = fun k => if k = 0 then (fun i => if i = 0 then N' 0 0 else if i = 25 then N' 0 25 else N 0 i) else if 20 ≤ k ∧ k < 24 then N' k else N k := by
    funext k
    by_cases c0 : k = 0
    · subst c0
      rw [if_pos rfl]
      funext i
      by_cases i0 : i = 0
      · rw [if_pos i0, i0]
      · rw [if_neg i0]
        by_cases i1 : i = 25
        · rw [if_pos i1, i1]
        · rw [if_neg i1]; exact hZ i i0 i1
    · rw [if_neg c0]
      by_cases c : 20 ≤ k ∧ k < 24
      · rw [if_pos c]
      · rw [if_neg c]; exact hN k c0 (by omega)
  generalize hA : M' = A at eM
  generalize hB : N' = B at eN
  rw [eM, eN]
  exact h
theorem pq_of (s : Nat) (ts : List pr_Tk) (t : pr_Tk) : pr_of s (ts ++ [t]) = pr_of s ts ++ (if t.1 = s then [pr_ct t] else []) := by
  unfold pr_of
  rw [List.filter_append, List.map_append]
  by_cases c : t.1 = s <;> simp [c]
theorem pq_len (s : Nat) (ts : List pr_Tk) : (pr_of s ts).length ≤ ts.length := by
  unfold pr_of
  rw [List.length_map]
  exact List.length_filter_le _ _
/-- a task put in the class: source s -/
def pq_put (s : Nat) (M : px_M) (k a b : Int32) : Option px_M := if s = 0 then fC_Line_put_8 M k a b else if s = 1 then fC_Line_put_12 M k a b else fC_Line_put_16 M k a b
theorem pq_add {made : Nat} {ts : List pr_Tk} {M N : px_M} (h : pr_T made ts M N) {t : pr_Tk} (hs : t.1 < 3) (hl : ts.length < 2000) (hcap : (pr_of t.1 ts).length < if t.1 = 1 then 1051 else 40) (hf : t.2.2.2 = 0 → ∃ f, f < 10 ∧ t.2.1 = nI f) (hm : t.2.2.2 ≤ made) (h1 : t.2.2.2 ≠ 0 → t.1 = 1) (fx xx : Int32) (hfx : t.2.2.2 = 0 → fx = t.2.1 ∧ xx = t.2.2.1) :
    ∃ M' N', pq_put t.1 M (pr_ct t).1 (pr_ct t).2.1 (pr_ct t).2.2 = some M' ∧ fR_M_addTask N (nI t.1) fx xx (nI t.2.2.2) = some N' ∧ pr_T made (ts ++ [t]) M' N' ∧ (∀ k, (k < 8 ∨ 20 ≤ k) → M' k = M k) ∧ (∀ k, k ≠ 0 → (k < 20 ∨ 24 ≤ k) → N' k = N k) ∧ (∀ i, i ≠ 25 → N' 0 i = N 0 i) ∧ N' 0 25 = nI (ts.length + 1) := by
  obtain ⟨t1, t2, t3, t4, t5, t6, t7⟩ := h
  have cls : ∃ M', pq_put t.1 M (pr_ct t).1 (pr_ct t).2.1 (pr_ct t).2.2 = some M' ∧ (∀ k, (k < 8 ∨ 20 ≤ k) → M' k = M k) ∧ lineC M' 8 40 (pr_of 0 (ts ++ [t])) ∧ lineC M' 12 1051 (pr_of 1 (ts ++ [t])) ∧ lineC M' 16 40 (pr_of 2 (ts ++ [t])) := by
    rcases (show t.1 = 0 ∨ t.1 = 1 ∨ t.1 = 2 by omega) with e | e | e
    · rw [e] at hcap
      obtain ⟨M', a1, a2, a3⟩ := gl_put_ok (by omega) t3 (by simpa using hcap) (pr_ct t).1 (pr_ct t).2.1 (pr_ct t).2.2
      refine ⟨M', by unfold pq_put; rw [e, if_pos rfl, gl_put_8]; exact a1, fun k hk => a3 k (by omega), ?_, ?_, ?_⟩
      · rw [pq_of, if_pos e]; exact a2
      · rw [pq_of, if_neg (by omega), List.append_nil]; exact lineC_c t4 (a3 _ (by omega)) (a3 _ (by omega)) (a3 _ (by omega)) (a3 _ (by omega))
      · rw [pq_of, if_neg (by omega), List.append_nil]; exact lineC_c t5 (a3 _ (by omega)) (a3 _ (by omega)) (a3 _ (by omega)) (a3 _ (by omega))
    · rw [e] at hcap
      obtain ⟨M', a1, a2, a3⟩ := gl_put_ok (by omega) t4 (by simpa using hcap) (pr_ct t).1 (pr_ct t).2.1 (pr_ct t).2.2
      refine ⟨M', by unfold pq_put; rw [e, if_neg (by omega), if_pos rfl, gl_put_12]; exact a1, fun k hk => a3 k (by omega), ?_, ?_, ?_⟩
      · rw [pq_of, if_neg (by omega), List.append_nil]; exact lineC_c t3 (a3 _ (by omega)) (a3 _ (by omega)) (a3 _ (by omega)) (a3 _ (by omega))
      · rw [pq_of, if_pos e]; exact a2
      · rw [pq_of, if_neg (by omega), List.append_nil]; exact lineC_c t5 (a3 _ (by omega)) (a3 _ (by omega)) (a3 _ (by omega)) (a3 _ (by omega))
    · rw [e] at hcap
      obtain ⟨M', a1, a2, a3⟩ := gl_put_ok (by omega) t5 (by simpa using hcap) (pr_ct t).1 (pr_ct t).2.1 (pr_ct t).2.2
      refine ⟨M', by unfold pq_put; rw [e, if_neg (by omega), if_neg (by omega), gl_put_16]; exact a1, fun k hk => a3 k (by omega), ?_, ?_, ?_⟩
      · rw [pq_of, if_neg (by omega), List.append_nil]; exact lineC_c t3 (a3 _ (by omega)) (a3 _ (by omega)) (a3 _ (by omega)) (a3 _ (by omega))
      · rw [pq_of, if_neg (by omega), List.append_nil]; exact lineC_c t4 (a3 _ (by omega)) (a3 _ (by omega)) (a3 _ (by omega)) (a3 _ (by omega))
      · rw [pq_of, if_pos e]; exact a2
  obtain ⟨M', a1, a2, c1, c2, c3⟩ := cls
  have er : fR_M_addTask N (nI t.1) fx xx (nI t.2.2.2) = some (px_up (px_up (px_up (px_up (px_up N 20 ts.length (nI t.1)) 21 ts.length fx) 22 ts.length xx) 23 ts.length (nI t.2.2.2)) 0 25 (nI (ts.length + 1))) := by
    unfold fR_M_addTask
    have hc : ts.length < 4096 := by omega
    simp only [px_bn]
    rw [t2, pn_ck hc (by omega), nI_clamp (by omega)]
    rw [show (px_up N 20 ts.length (nI t.1)) 0 25 = nI ts.length from t2, pn_ck hc (by omega), nI_clamp (by omega)]
    rw [show (px_up (px_up N 20 ts.length (nI t.1)) 21 ts.length fx) 0 25 = nI ts.length from t2, pn_ck hc (by omega), nI_clamp (by omega)]
    rw [show (px_up (px_up (px_up N 20 ts.length (nI t.1)) 21 ts.length fx) 22 ts.length xx) 0 25 = nI ts.length from t2, pn_ck hc (by omega), nI_clamp (by omega)]
    rw [show (px_up (px_up (px_up (px_up N 20 ts.length (nI t.1)) 21 ts.length fx) 22 ts.length xx) 23 ts.length (nI t.2.2.2)) 0 25 = nI ts.length from t2, nI_1]
  refine ⟨M', _, a1, er, ?_, a2, ?_, ?_, ?_⟩
  · refine ⟨by simp; omega, by simp [px_up, upd], c1, c2, c3, ?_, ?_⟩
    · intro i hi
      simp at hi
      by_cases e : i < ts.length
      · obtain ⟨b1, b2, b3⟩ := t6 i e
        rw [List.getElem_append_left e]
        have hne : i ≠ ts.length := by omega
        show upd (N 20) ts.length _ i = _ ∧ upd (N 23) ts.length _ i = _ ∧ (_ → upd (N 21) ts.length _ i = _ ∧ upd (N 22) ts.length _ i = _)
        rw [pn_ue hne, pn_ue hne, pn_ue hne, pn_ue hne]
        exact ⟨b1, b2, b3⟩
      · have e : i = ts.length := by omega
        subst e
        rw [List.getElem_append_right (Nat.le_refl _)]
        simp only [Nat.sub_self, List.getElem_cons_zero]
        refine ⟨by simp [px_up, upd], by simp [px_up, upd], fun h0 => ?_⟩
        obtain ⟨g1, g2⟩ := hfx h0
        simp [px_up, upd, g1, g2]
    · intro x hx
      rcases List.mem_append.mp hx with hx | hx
      · exact t7 x hx
      · simp at hx
        subst hx
        exact ⟨hs, hm, hf, h1⟩
  · intro k k0 hk
    have k1 : k ≠ 20 := by omega
    have k2 : k ≠ 21 := by omega
    have k3 : k ≠ 22 := by omega
    have k4 : k ≠ 23 := by omega
    simp [px_up, k0, k1, k2, k3, k4]
  · intro i hi
    simp [px_up, upd, hi]
  · simp [px_up, upd]
theorem pq_post {j : Nat} {M N : px_M} (h : pr_Rel j M N) : pu_post (pr_Rel (j + 1)) M N := by
  have h' := h
  obtain ⟨np, nl, nr, made, q, ts, tm, fr, hF, hG, hP, hR, hQ, hT, hM, hA, hL, hZ, hU, hC, hV, hm⟩ := h
  intro s f x
  have bad1 : ∃ (z : px_Z) (r : Int32) (N1 : px_M), (some (.inr "java/lang/IllegalArgumentException") : Option px_Z) = some z ∧ (∀ E, z = .inr E → E = "java/lang/IllegalArgumentException" ∨ E = "java/lang/IllegalStateException") ∧ (some ((0 : Int32), px_up N 0 0 1) : Option (Int32 × px_M)) = some (r, N1) ∧ pu_ag (fun E => if E = "java/lang/IllegalArgumentException" then 1 else 2) (pr_Rel (j + 1)) M z r N1 :=
    ⟨_, _, _, rfl, fun E hE => Or.inl (by simpa using hE.symm), rfl, ⟨rfl, by decide, pr_thrown 1 (pr_mono (by omega) h')⟩⟩
  rcases pi_ix s 3 (by omega) with ⟨k, hk, rfl⟩ | ho
  · rcases pi_ix f 10 (by omega) with ⟨g, hg, rfl⟩ | ho
    · by_cases c : ts.length < 40
      · have hT0 : pr_T made ts M (px_up N 0 0 0) := hT
        obtain ⟨M', N', b1, b2, b3, b4, b5, b6, b7⟩ := pq_add (t := (k, nI g, x, 0)) hT0 hk (by omega) (by show (pr_of k ts).length < (if k = 1 then 1051 else 40); have := pq_len k ts; split <;> omega) (fun _ => ⟨g, hg, rfl⟩) (Nat.zero_le _) (fun hh => absurd rfl hh) (nI g) x (fun _ => ⟨rfl, rfl⟩)
        refine ⟨.inl (nI (ts.length + 1), M'), nI (ts.length + 1), N', ?_, fun E hE => by simp at hE, ?_, ⟨?_, rfl, ?_⟩⟩
        · unfold fC_post
          rw [pi_isS M hk, pi_bq, if_neg (by decide), pi_isF M hg, pi_bq, if_neg (by decide), pl_waiting hT, pi_bq, if_pos (show nI ts.length < (40 : Int32) from nI_lt (b := 40) c (by omega))]
          have w := pl_waiting b3
          rw [List.length_append] at w
          rcases (show k = 0 ∨ k = 1 ∨ k = 2 by omega) with rfl | rfl | rfl
          · have b1 : fC_Line_put_8 M 0 (nI g) x = some M' := b1
            rw [if_pos (show nI 0 = 0 from rfl), b1, pi_bq, w]; rfl
          · have b1 : fC_Line_put_12 M 0 (nI g) x = some M' := b1
            rw [if_neg (by decide), if_pos (show nI 1 = 1 from rfl), b1, pi_bq, w]; rfl
          · have b1 : fC_Line_put_16 M 0 (nI g) x = some M' := b1
            rw [if_neg (by decide), if_neg (by decide), if_pos (show nI 2 = 2 from rfl), b1, pi_bq, w]; rfl
        · unfold fR_M_post
          rw [(pi_win N (c := 2) (m := 2) rfl (by omega) (by omega)).2, pi_bq, if_pos rfl, (pi_win N (c := 9) (m := 9) rfl (by omega) (by omega)).2, pi_bq, if_pos rfl, hT.2.1, if_pos (show nI ts.length < (40 : Int32) from nI_lt (b := 40) c (by omega))]
          simp only [px_bn]
          have b2 : fR_M_addTask (px_up N 0 0 0) (nI k) (nI g) x 0 = some N' := b2
          rw [if_pos (show (px_up N 0 0 0) 0 0 = 0 from rfl), b2, pi_bq, b7]
        · rw [b6 0 (by omega)]; rfl
        · have hX : pr_X (j + 1) np nl nr made q tm fr M (px_up N 0 0 0) := ⟨hF, hG, hP, hR, hQ, hM, hA, hL, pr_Z_mono (Nat.le_succ j) hZ, hU, hC⟩
          obtain ⟨x1, x2, x3, x4, x5, x6, x7, x8, x9, x10, x11⟩ := pr_X_c hX b4 b5 (fun i _ hi => b6 i hi)
          refine ⟨np, nl, nr, made, q, ts ++ [(k, nI g, x, 0)], tm, fr, x1, x2, x3, x4, x5, b3, x6, x7, x8, x9, x10, x11, ?_, by omega⟩
          obtain ⟨v1, v2, v3, v4⟩ := hV
          refine ⟨by simpa using v1, ?_, ?_, ?_⟩
          · rw [List.filter_append, List.length_append]
            have := List.length_filter_le (fun t : pr_Tk => t.2.2.2 == 0) ts
            simp
            omega
          · intro t ht h9
            rcases List.mem_append.mp ht with ht | ht
            · exact v3 t ht h9
            · simp at ht; subst ht; simp at h9
          · intro y hy
            show M' 51 y.2 = 1 ↔ _
            rw [b4 51 (by omega), v4 y hy]
            constructor
            · rintro ⟨t, h1, h2⟩; exact ⟨t, List.mem_append_left _ h1, h2⟩
            · rintro ⟨t, h1, h2⟩
              rcases List.mem_append.mp h1 with h1 | h1
              · exact ⟨t, h1, h2⟩
              · simp at h1
                subst h1
                obtain ⟨i, hi, e⟩ := List.getElem_of_mem hy
                have := (hM.2.2.2.2.2.2.2.1 i hi).1
                rw [e] at this
                simp at h2
                omega
      · refine ⟨.inr "java/lang/IllegalStateException", 0, px_up N 0 0 2, ?_, fun E hE => Or.inr (by simpa using hE.symm), ?_, ⟨rfl, by decide, pr_thrown 2 (pr_mono (by omega) h')⟩⟩
        · unfold fC_post
          rw [pi_isS M hk, pi_bq, if_neg (by decide), pi_isF M hg, pi_bq, if_neg (by decide), pl_waiting hT, pi_bq, if_neg (show ¬ nI ts.length < (40 : Int32) from nI_nlt (b := 40) (by omega) (by have := hT.1; omega))]
        · unfold fR_M_post
          rw [(pi_win N (c := 2) (m := 2) rfl (by omega) (by omega)).2, pi_bq, if_pos rfl, (pi_win N (c := 9) (m := 9) rfl (by omega) (by omega)).2, pi_bq, if_pos rfl, hT.2.1, if_neg (show ¬ nI ts.length < (40 : Int32) from nI_nlt (b := 40) (by omega) (by have := hT.1; omega))]
          rfl
    · have e1 : fC_post M (nI k) f x = some (.inr "java/lang/IllegalArgumentException") := by
        unfold fC_post; rw [pi_isS M hk, pi_bq, if_neg (by decide), pi_isFn M ho]; rfl
      have e2 : fR_M_post N (nI k) f x = some (0, px_up N 0 0 1) := by
        unfold fR_M_post
        rw [(pi_win N (c := 2) (m := 2) rfl (by omega) (by omega)).2, pi_bq, if_pos rfl, (pi_wout N (c := 9) (m := 9) rfl (by omega) ho).2, pi_bq, if_neg (by decide)]
        rfl
      rw [e1, e2]; exact bad1
  · have e1 : fC_post M s f x = some (.inr "java/lang/IllegalArgumentException") := by
      unfold fC_post; rw [pi_isSn M ho]; rfl
    have e2 : fR_M_post N s f x = some (0, px_up N 0 0 1) := by
      unfold fR_M_post
      rw [(pi_wout N (c := 2) (m := 2) rfl (by omega) ho).2, pi_bq, if_neg (by decide)]
      rfl
    rw [e1, e2]; exact bad1
