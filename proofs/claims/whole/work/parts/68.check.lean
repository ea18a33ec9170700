/-! The checkpoint: microtasks, and what is reported at its end. -/
theorem pm_as {α β γ : Type} (a : Option α) (f : α → Option β) (g : β → Option γ) : px_bq (px_bq a f) g = px_bq a (fun x => px_bq (f x) g) := by cases a <;> rfl
theorem pm_fDq {M N M' N' : px_M} (h : pr_fD M N M' N') : pv_q M N M' N' ∧ M' 0 12 = M 0 12 ∧ N' 0 62 = N 0 62 :=
  ⟨⟨fun i _ _ _ _ _ => by rw [h.1 0 (by omega) (by omega)], fun i _ => h.2.2 i (by omega), h.2.1 33 (by omega) (by omega)⟩, by rw [h.1 0 (by omega) (by omega)], h.2.2 62 (by omega)⟩
theorem pv_q_t {M N M' N' M'' N'' : px_M} (h : pv_q M N M' N') (g : pv_q M' N' M'' N'') : pv_q M N M'' N'' :=
  ⟨fun i a b c d e => (g.1 i a b c d e).trans (h.1 i a b c d e), fun i hi => (g.2.1 i hi).trans (h.2.1 i hi), g.2.2.trans h.2.2⟩
theorem pv_q_r (M N : px_M) : pv_q M N M N := ⟨fun _ _ _ _ _ _ => rfl, fun _ _ => rfl, rfl⟩
theorem pm_run {j K w z np b f : Nat} {tk : List Int32} {M N : px_M} (hI : pr_I j K w z np tk M N) (hK : K + 300 < 2 ^ 31) (h12 : M 0 12 = nI b) (h62 : N 0 62 = nI b) (hf : f < 10) (x : Int32) : ∃ (M' N' : px_M) (np' : Nat), px_bq (fC_run M (nI f) x 1) fC_reportFailure = some M' ∧ fR_M_runAndTell N (nI f) x = some N' ∧ np ≤ np' ∧ pr_I j (K + 217) w z np' tk M' N' ∧ pv_q M N M' N' ∧ M' 0 12 = nI (b + 1) ∧ N' 0 62 = nI (b + 1) := by
  obtain ⟨M', N', np', r, a1, a2, a3, a4, a5, a6, a7, a8⟩ := pv_run hI hK h12 h62 hf x
  unfold fR_M_runAndTell
  rw [a1, a2, pi_bq, pi_bo]
  unfold fC_reportFailure
  rcases a8 with ⟨rfl, b1, -⟩ | ⟨rfl, b1, b2⟩
  · rw [if_pos b1, if_neg (show ¬ (1 : Int32) = 0 by decide)]
    exact ⟨M', N', np', rfl, rfl, a3, a4, a5, a6, a7⟩
  · rw [if_neg (by rw [b1]; decide), if_pos rfl, pd_bq, pd_bq, b2]
    obtain ⟨nl, nr, made, q, ts, tm, fr, hD, hE, hk⟩ := a4
    obtain ⟨M2, N2, c1, c2, c3, c4, -⟩ := pw_tellD hD (k := 1) (x := M' 0 17) (c := 10000 + M' 0 17) (by rw [Int32.mul_one, Int32.add_comm])
    obtain ⟨d1, d2, d3⟩ := pm_fDq c4
    exact ⟨M2, N2, np', c1, c2, a3, ⟨nl, nr, made, q, ts, tm, fr, c3, pr_fD_E hE c4, hk⟩, pv_q_t a5 d1, d2.trans a6, d3.trans a7⟩
def pm_N1 (N : px_M) : px_M := px_up (px_up N 0 20 ((N 0 20 + 1) - (N 0 20 + 1) / (512 : Int32) * (512 : Int32))) 0 21 (N 0 21 - 1)
theorem pm_drop {w np nl nr : Nat} {q : List pn_J} {x : pn_J} {M N : px_M} (h : pr_D w np nl nr (x :: q) M N) : ∃ M1, fC_Line_drop_20 M = some M1 ∧ (∀ k, k ≠ 20 → M1 k = M k) ∧ (x.1 ≠ 0 → 1 ≤ w) ∧ pr_D (if x.1 = 0 then w else w - 1) np nl nr q M1 (pm_N1 N) ∧ pr_fD M N M1 (pm_N1 N) := by
  have hlen := pw_len h
  obtain ⟨hG, hP, hR, hQ, hU, hC, hW, hL⟩ := h
  obtain ⟨q1, q2, q3⟩ := hQ
  obtain ⟨M1, a1, a2, a3⟩ := gl_drop_ok (by omega) q1
  obtain ⟨f, -, -, -, -, -, -, f7⟩ := pj_head q2
  have hx := pz_k ⟨q1, q2, q3⟩ x (List.mem_cons_self ..)
  have n1 : ∀ k, k ≠ 0 → pm_N1 N k = N k := fun k hk => by unfold pm_N1; rw [pn_un hk, pn_un hk]
  have n0 : ∀ i, i ≠ 20 → i ≠ 21 → pm_N1 N 0 i = N 0 i := fun i i1 i2 => by unfold pm_N1; rw [pv_ui (Or.inr i2), pv_ui (Or.inr i1)]
  have hc40 := pz_le 40 (fun p => M 35 p == 1)
  have hr80 := hR.1
  obtain ⟨c1, c2, c3, c4, c5⟩ := hC
  obtain ⟨u1, u2, u3, u4, u5, u6, u7⟩ := hU
  unfold pr_W at hW
  have cf : ∀ k : Int32, ((x :: q).filter (fun y : pn_J => y.1 == k)).length = (if x.1 = k then 1 else 0) + (q.filter (fun y : pn_J => y.1 == k)).length := fun k => by
    rw [List.filter_cons]
    by_cases e : x.1 = k
    · rw [if_pos (by simp [e]), if_pos e, List.length_cons]; omega
    · rw [if_neg (by simp [e]), if_neg e]; omega
  rw [cf 2, cf 3] at hW
  rw [cf 3] at c2
  rw [cf 2] at c3
  rw [cf 0] at c4
  have hw : x.1 ≠ 0 → 1 ≤ w := by
    intro h0
    rcases hx with hx | hx | hx
    · exact absurd hx h0
    · rw [hx, if_pos rfl, if_neg (by decide)] at hW; omega
    · rw [hx, if_neg (by decide), if_pos rfl] at hW; omega
  refine ⟨M1, by rw [gl_drop_20]; exact a1, a3, hw, ⟨pc_G hG (a3 _ (by omega)) (n1 _ (by omega)), pc_P hP (fun k _ _ => a3 k (by omega)) (by rw [a3 32 (by omega)]) (by rw [a3 32 (by omega)]) (fun k _ _ => n1 k (by omega)) (n0 _ (by omega) (by omega)) (n0 _ (by omega) (by omega)), pc_R hR (fun k _ _ => a3 k (by omega)) (a3 _ (by omega)) (by rw [a3 32 (by omega)]) (fun k _ _ => n1 k (by omega)) (n0 _ (by omega) (by omega)), ⟨a2, f7, ?_⟩, pc_U (M := M) ⟨u1, u2, ?_, ?_, ?_, ?_, ?_⟩ (a3 _ (by omega)) (a3 _ (by omega)) (a3 _ (by omega)) (a3 _ (by omega)) (a3 _ (by omega)), pc_C (M := M) ⟨c1, by omega, by omega, by omega, c5⟩ (a3 _ (by omega)) (a3 _ (by omega)) (a3 _ (by omega)) (a3 _ (by omega)), pc_W (M := M) ?_ (a3 _ (by omega)) (a3 _ (by omega)) (a3 _ (by omega)), pc_L hL (fun k _ _ => a3 k (by omega)) (n1 _ (by omega)) (n1 _ (by omega)) (n0 _ (by omega) (by omega)) (n0 _ (by omega) (by omega))⟩, ⟨fun k _ _ => a3 k (by omega), fun k hk _ => n1 k hk, fun i _ => n0 i (by omega) (by omega)⟩⟩
  · rw [a3 33 (by omega), a3 39 (by omega)]
    exact fun y hy => q3 y (List.mem_cons_of_mem _ hy)
  · intro r p t r1 r2 r3 r4 r5 r6 r7
    refine u3 r p t r1 r2 r3 r4 r5 r6 ?_
    rcases r7 with r7 | r7
    · exact Or.inl r7
    · exact Or.inr (List.mem_cons_of_mem _ r7)
  · exact fun p hp o ho => u4 p hp o (List.mem_cons_of_mem _ ho)
  · rw [List.filter_cons] at u5
    by_cases e : x.1 = 0
    · rw [if_neg (by simp [e])] at u5; exact u5
    · rw [if_pos (by simp [e])] at u5; exact (List.nodup_cons.mp u5).2
  · exact fun p o o' h1 h2 => u6 p o o' (List.mem_cons_of_mem _ h1) (List.mem_cons_of_mem _ h2)
  · exact fun y hy => u7 y (List.mem_cons_of_mem _ hy)
  · unfold pr_W
    rcases hx with hx | hx | hx
    · rw [if_pos hx]
      rw [hx, if_neg (by decide), if_neg (by decide)] at hW; omega
    · rw [if_neg (by rw [hx]; decide)]
      rw [hx, if_pos rfl, if_neg (by decide)] at hW; omega
    · rw [if_neg (by rw [hx]; decide)]
      rw [hx, if_neg (by decide), if_pos rfl] at hW; omega
/-- the head of the jobs is not among the rest -/
theorem pm_nin {np nr : Nat} {q : List pn_J} {x : pn_J} {M : px_M} (h : pr_U np nr (x :: q) M) (h0 : x.1 ≠ 0) : x ∉ q := by
  obtain ⟨u1, u2, u3, u4, u5, u6, u7⟩ := h
  rw [List.filter_cons, if_pos (by simp [h0])] at u5
  intro hx
  exact (List.nodup_cons.mp u5).1 (List.mem_filter.mpr ⟨hx, by simp [h0]⟩)
/-- a job that lets a promise wait for another -/
theorem pm_job3 {j K w z np nl nr made : Nat} {tk : List Int32} {q : List pn_J} {ts : List pr_Tk} {tm : List (Nat × Nat)} {fr : List Int32} {x : pn_J} {M N M1 : px_M} (hD : pr_D w np nl nr (x :: q) M N) (hE : pr_E j z tk made ts tm fr M N) (hk : made ≤ K) (hx : x.1 = 3) (hM : fC_Line_drop_20 M = some M1) : ∃ M' N', fC_Promises_react M1 x.2.2 16 16 x.2.1 = some M' ∧ fR_M_react (pm_N1 N) x.2.2 (-2) (-2) x.2.1 = some N' ∧ 1 ≤ w ∧ pr_I j K (w - 1) z np tk M' N' ∧ pr_fD M N M' N' := by
  obtain ⟨M1', b1, b2, b3, b4, b5⟩ := pm_drop hD
  rw [hM] at b1
  injection b1 with b1
  subst b1
  have hx0 : x.1 ≠ 0 := by rw [hx]; decide
  rw [if_neg hx0] at b4
  obtain ⟨hG, hP, hR, hQ, hU, hC, hW, hL⟩ := hD
  have hn := pm_nin hU hx0
  obtain ⟨u1, u2, u3, u4, u5, u6, u7⟩ := hU
  obtain ⟨c1, c2, c3, c4, c5⟩ := hC
  rcases hQ.2.2 x (List.mem_cons_self ..) with ⟨h, -⟩ | ⟨h, -⟩ | ⟨-, p, o, hp, ho, e1, e2⟩
  · exact absurd h hx0
  · rw [hx] at h; exact absurd h (by decide)
  · have ex : x = (3, nI p, nI o) := by rw [← hx, ← e1, ← e2]
    obtain ⟨v1, v2, v3⟩ := u4 p hp (nI o) (by rw [← ex]; exact List.mem_cons_self ..)
    have e33 : M1 33 = M 33 := b2 _ (by omega)
    have e35 : M1 35 = M 35 := b2 _ (by omega)
    have e40 : M1 40 = M 40 := b2 _ (by omega)
    have e41 : M1 41 = M 41 := b2 _ (by omega)
    have ok : pe_ok np nr q M1 p 16 := by
      refine ⟨fun h => absurd rfl h, fun _ => ⟨by rw [e35, v1], by rw [e33, v2], fun r r1 r2 => ?_, fun o' ho' => ?_, ?_⟩⟩
      · rw [e41] at r2
        rw [e40]
        exact v3 r r1 r2
      · have := u6 p (nI o) o' (by rw [← ex]; exact List.mem_cons_self ..) (List.mem_cons_of_mem _ ho')
        subst this
        rw [← ex] at ho'
        exact hn ho'
      · rw [e41, e35]
        rw [List.filter_cons, if_pos (by simp [hx]), List.length_cons] at c2
        omega
    obtain ⟨M', N', q', a1, a2, a3, a4, -⟩ := pw_react b4 ho hp (Nat.le_refl 16) (Nat.le_refl 16) Iff.rfl ok
    rw [e1, e2]
    exact ⟨M', N', a1, a2, b3 hx0, ⟨nl, nr + 1, made, q', ts, tm, fr, a3, pr_fD_E (pr_fD_E hE b5) a4, hk⟩, pr_fD_t b5 a4⟩
/-- what both sides know of a reaction -/
theorem pm_fn {w np nl nr : Nat} {q : List pn_J} {M N : px_M} (hD : pr_D w np nl nr q M N) {r p : Nat} (hr : r < nr) (hp : p < np) (h39 : M 39 r = nI p) (h33 : M 33 p ≠ 0) : ∃ t kk, t < np ∧ kk ≤ 16 ∧ M 40 r = nI t ∧ (M 33 p = 1 ∨ M 33 p = 2) ∧ fC_Promises_functionOf M (nI r) = some (nI kk) ∧ (kk = 16 → M 41 r = 16) ∧ fR_M_functionOf N (nI r) = some (if kk < 10 then nI kk else -1) ∧ (N 13 r = -2 ↔ kk = 16) ∧ N 12 r = nI p ∧ N 15 r = nI t ∧ N 6 p = M 33 p ∧ N 7 p = M 34 p ∧ r < 80 := by
  obtain ⟨hG, hP, hR, hQ, hU, hC, hW, hL⟩ := hD
  obtain ⟨p1, p2, p3, p4, p5, p6, p7, p8, p9, p10, p11, p12, p13, p14, p15⟩ := hP
  obtain ⟨r1, r2, r3, r4, r5, r6⟩ := hR
  obtain ⟨-, ⟨t, ht, t1⟩, kv, kr, k1, k2, k3, k4, k5, k6, k7⟩ := r6 r hr
  have hs : M 33 p = 1 ∨ M 33 p = 2 := by
    rcases (p14 p (by omega)).1 with h | h | h
    · exact absurd h h33
    · exact Or.inl h
    · exact Or.inr h
  have hcv : ∀ k, k ≤ 16 → (pr_cv k = -2 ↔ k = 16) := by decide
  have n12 : N 12 r = nI p := by rw [← r4, h39]
  refine ⟨t, if M 33 p = 1 then kv else kr, ht, by split <;> omega, t1, hs, ?_, ?_, ?_, ?_, n12, by rw [← r5, t1], by rw [← p4], by rw [← p5], by omega⟩
  · unfold fC_Promises_functionOf
    rw [pn_ck (show r < 80 by omega) (by omega), pn_ck (show r < 80 by omega) (by omega), pn_ck (show r < 80 by omega) (by omega), nI_clamp (by omega), h39, pn_ck (show p < 40 by omega) (by omega), nI_clamp (by omega), k4, k5]
    by_cases c : M 33 p = 1
    · rw [if_pos c, if_pos c]
    · rw [if_neg c, if_neg c]
  · intro h
    have : kv = 16 := by
      by_cases c : M 33 p = 1
      · rw [if_pos c] at h; exact h
      · rw [if_neg c] at h; exact k3.mpr h
    rw [k4, this]
    rfl
  · unfold fR_M_functionOf
    rw [pn_ck (show r < 100 by omega) (by omega), pn_ck (show r < 100 by omega) (by omega), pn_ck (show r < 100 by omega) (by omega), pn_ck (show r < 100 by omega) (by omega), nI_clamp (by omega), n12, pn_ck (show p < 40 by omega) (by omega), nI_clamp (by omega), k6, k7, ← p4]
    by_cases d : kv = 16
    · rw [if_pos ((hcv kv k1).mpr d)]
      by_cases c : M 33 p = 1
      · rw [if_pos c, if_neg (by omega)]
      · rw [if_neg c, if_neg (by have := k3.mp d; omega)]
    · have d' : kr ≠ 16 := fun h => d (k3.mpr h)
      have hv : ∀ k, k ≤ 16 → k ≠ 16 → pr_cv k = if k < 10 then nI k else -1 := by decide
      rw [if_neg (fun h => d ((hcv kv k1).mp h))]
      by_cases c : M 33 p = 1
      · rw [if_pos c, if_pos c, hv kv k1 d]
      · rw [if_neg c, if_neg c, hv kr k2 d']
  · rw [k6, hcv kv k1]
    by_cases c : M 33 p = 1
    · rw [if_pos c]
    · rw [if_neg c]; exact k3
/-- a job of a reaction -/
theorem pm_job2 {j K w z np nl nr made b : Nat} {tk : List Int32} {q : List pn_J} {ts : List pr_Tk} {tm : List (Nat × Nat)} {fr : List Int32} {x : pn_J} {M N M1 : px_M} (hD : pr_D w np nl nr (x :: q) M N) (hE : pr_E j z tk made ts tm fr M N) (hk : made ≤ K) (hK : K + 300 < 2 ^ 31) (h12 : M 0 12 = nI b) (h62 : N 0 62 = nI b) (hx : x.1 = 2) (hM : fC_Line_drop_20 M = some M1) : ∃ (M' N' : px_M) (np' b' : Nat) (fo fr : Int32), fC_Promises_functionOf M x.2.1 = some fo ∧ fR_M_functionOf N x.2.1 = some fr ∧ fC_doReaction M1 x.2.1 = some M' ∧ fR_M_doReaction (pm_N1 N) x.2.1 = some N' ∧ np ≤ np' ∧ 1 ≤ w ∧ pr_I j (K + 217 * (b' - b)) (w - 1) z np' tk M' N' ∧ pv_q M N M' N' ∧ M' 0 12 = nI b' ∧ N' 0 62 = nI b' ∧ b ≤ b' ∧ b' ≤ b + 1 ∧ ((∃ k, k < 10 ∧ fo = nI k ∧ fr = nI k) ∨ ((∃ k, 10 ≤ k ∧ k ≤ 16 ∧ fo = nI k) ∧ fr = -1 ∧ b' = b)) := by
  obtain ⟨M1', b1, b2, b3, b4, b5⟩ := pm_drop hD
  rw [hM] at b1
  injection b1 with b1
  subst b1
  have hx0 : x.1 ≠ 0 := by rw [hx]; decide
  rw [if_neg hx0] at b4
  have hw := b3 hx0
  have hDD := hD
  obtain ⟨hG, hP, hR, hQ, hU, hC, hW, hL⟩ := hD
  have hn := pm_nin hU hx0
  obtain ⟨u1, u2, u3, u4, u5, u6, u7⟩ := hU
  rcases hQ.2.2 x (List.mem_cons_self ..) with ⟨h, -⟩ | ⟨-, r, p, hr, e1, h39, hp, h33⟩ | ⟨h, -⟩
  · exact absurd h hx0
  · have hp40 : p < 40 := by have := hP.1; omega
    have e2 := u7 x (List.mem_cons_self ..) hx
    have ex : x = (2, nI r, 0) := by rw [← hx, ← e1, ← e2]
    obtain ⟨-, kk0, -, -, -, -, f1, -, f3, -⟩ := pm_fn hDD hr hp h39 h33
    have e39 : M1 39 = M 39 := b2 _ (by omega)
    have e33 : M1 33 = M 33 := b2 _ (by omega)
    have e35 : M1 35 = M 35 := b2 _ (by omega)
    have e40 : M1 40 = M 40 := b2 _ (by omega)
    have e41 : M1 41 = M 41 := b2 _ (by omega)
    have h39' : M1 39 r = nI p := by rw [e39, h39]
    have h33' : M1 33 p ≠ 0 := by rw [e33]; exact h33
    obtain ⟨t, kk, ht, hkk, t1, hs, g1, g2, g3, g4, g5, g6, g7, g8, g9⟩ := pm_fn b4 hr hp h39' h33'
    have n1 : ∀ k, k ≠ 0 → pm_N1 N k = N k := fun k hk => by unfold pm_N1; rw [pn_un hk, pn_un hk]
    have eC : fC_Promises_functionOf M1 (nI r) = fC_Promises_functionOf M (nI r) := by
      unfold fC_Promises_functionOf
      rw [e39, e33, e41, b2 42 (by omega)]
    have eR : fR_M_functionOf (pm_N1 N) (nI r) = fR_M_functionOf N (nI r) := by
      unfold fR_M_functionOf
      rw [n1 13 (by omega), n1 12 (by omega), n1 6 (by omega), n1 14 (by omega)]
    have d1 := pm_fDq b5
    have h12' : M1 0 12 = nI b := d1.2.1.trans h12
    have h62' : pm_N1 N 0 62 = nI b := d1.2.2.trans h62
    have hE1 := pr_fD_E hE b5
    have eDC : fC_doReaction M1 (nI r) = (if nI kk = (16 : Int32) then fC_Promises_settle M1 (nI t) (M1 33 p) (M1 34 p) else px_bq (fC_isFunction M1 (nI kk)) (fun r13 => (if r13 = 0 then fC_Promises_resolveOrReject M1 (nI t) (M1 33 p) (M1 34 p) else px_bq (fC_run M1 (nI kk) (M1 34 p) (1 : Int32)) (fun M18 => fC_settleWithResult M18 (nI t))))) := by
      unfold fC_doReaction fC_Promises_sourceOf fC_Promises_targetOf fC_Promises_stateOf fC_Promises_numberOf
      rw [pn_ck g9 (by omega), pn_ck g9 (by omega), nI_clamp (by omega), h39', t1, pi_bq, pi_bq, pn_ck hp40 (by omega), pn_ck hp40 (by omega), nI_clamp (by omega), pi_bq, pi_bq, g1, pi_bq]
      simp only [pd_bq]
    have eDR : fR_M_doReaction (pm_N1 N) (nI r) = (if (pm_N1 N) 13 r = (-2 : Int32) then fR_M_settle (pm_N1 N) (nI t) (M1 33 p) (M1 34 p) else (if (0 : Int32) ≤ (if kk < 10 then nI kk else -1) then px_bo (fR_M_run (pm_N1 N) (if kk < 10 then nI kk else -1) (M1 34 p)) (fun r12 M13 => (if r12 = 0 then fR_M_reject M13 (nI t) (M13 0 64) else fR_M_resolve M13 (nI t) (M13 0 65) (M13 0 66))) else (if M1 33 p = 1 then fR_M_resolve (pm_N1 N) (nI t) 0 (M1 34 p) else fR_M_reject (pm_N1 N) (nI t) (M1 34 p)))) := by
      unfold fR_M_doReaction
      simp only [px_bn]
      rw [pn_ck (show r < 100 by omega) (by omega), nI_clamp (by omega), g5, g3, pi_bq, pn_ck (show r < 100 by omega) (by omega), pn_ck (show r < 100 by omega) (by omega), g6]
      simp only [pn_ck hp40 (show (40 : Nat) < 2 ^ 31 by omega), nI_clamp (show p < 2 ^ 31 by omega), pd_bq]
      rw [g7, g8]
    rw [e1, eDC, eDR, ← eC, ← eR, g1, g3]
    by_cases c16 : kk = 16
    · subst c16
      have t1' : M 40 r = nI t := by rw [← e40]; exact t1
      have m41 : M 41 r = 16 := by rw [← e41]; exact g2 rfl
      rw [if_pos (show nI 16 = (16 : Int32) from rfl), if_pos (g4.mpr rfl)]
      have y33 : M 33 t = 0 := u3 r p t hr m41 t1' ht h39 hp (Or.inr (by rw [← ex]; exact List.mem_cons_self ..))
      have y35 : M 35 t = 1 := u2 r t hr m41 t1' ht
      obtain ⟨M', N', nl', q', a1, a2, a3, a4⟩ := pw_settle b4 ht (by rw [e33]; exact y33) (by rw [e35]; exact y35) hs (M1 34 p) (fun o ho => (u4 t ht o (List.mem_cons_of_mem _ ho)).2.2 r hr m41 t1') (fun r' r1' r2' r3' => by
        rw [e41] at r2'
        rw [e40] at r3'
        have : r' = r := u1 r' r r1' hr r2' m41 (r3'.trans t1'.symm)
        subst this
        refine ⟨fun p' hp' h' => ?_, by rw [← ex]; exact hn⟩
        rw [h39'] at h'
        have : p = p' := (nI_eq (by omega) (by have := hP.1; omega)).mp h'
        rw [← this]
        exact h33')
      obtain ⟨d2, d3, d4⟩ := pm_fDq (pr_fD_t b5 a4)
      exact ⟨M', N', np, b, _, _, rfl, rfl, a1, a2, Nat.le_refl _, hw, ⟨nl', nr, made, q', ts, tm, fr, a3, pr_fD_E hE1 a4, by omega⟩, d2, d3.trans h12, d4.trans h62, Nat.le_refl _, by omega, Or.inr ⟨⟨16, by omega, by omega, rfl⟩, rfl, rfl⟩⟩
    · rw [if_neg (show ¬ nI kk = (16 : Int32) from fun h => c16 ((nI_eq (b := 16) (by omega) (by omega)).mp h)), if_neg (fun h => c16 (g4.mp h))]
      by_cases c10 : kk < 10
      · rw [pi_isF M1 c10, pi_bq, if_neg (show ¬ (1 : Int32) = 0 by decide), if_pos c10, if_pos (show (0 : Int32) ≤ nI kk from nI_le (a := 0) (by omega) (by omega))]
        have hI : pr_I j K (w - 1) z np tk M1 (pm_N1 N) := ⟨nl, nr, made, q, ts, tm, fr, b4, hE1, hk⟩
        obtain ⟨M2, N2, np2, rr, a1, a2, a3, a4, a5, a6, a7, a8⟩ := pv_run hI hK h12' h62' c10 (M1 34 p)
        rw [a1, a2, pi_bq, pi_bo]
        obtain ⟨nl2, nr2, made2, q2, ts2, tm2, fr2, hD2, hE2, hk2⟩ := a4
        unfold fC_settleWithResult
        have fin : ∀ (oc or : Option px_M), (∃ M' N' nl' q', oc = some M' ∧ or = some N' ∧ pr_D (w - 1) np2 nl' nr2 q' M' N' ∧ pr_fD M2 N2 M' N') → ∃ (M' N' : px_M) (np' b' : Nat) (fo fr : Int32), some (nI kk) = some fo ∧ some (nI kk) = some fr ∧ oc = some M' ∧ or = some N' ∧ np ≤ np' ∧ 1 ≤ w ∧ pr_I j (K + 217 * (b' - b)) (w - 1) z np' tk M' N' ∧ pv_q M N M' N' ∧ M' 0 12 = nI b' ∧ N' 0 62 = nI b' ∧ b ≤ b' ∧ b' ≤ b + 1 ∧ ((∃ k, k < 10 ∧ fo = nI k ∧ fr = nI k) ∨ ((∃ k, 10 ≤ k ∧ k ≤ 16 ∧ fo = nI k) ∧ fr = -1 ∧ b' = b)) := by
          intro oc or ⟨M', N', nl', q', y1, y2, y3, y4⟩
          obtain ⟨d2, d3, d4⟩ := pm_fDq y4
          exact ⟨M', N', np2, b + 1, _, _, rfl, rfl, y1, y2, a3, hw, ⟨nl', nr2, made2, q', ts2, tm2, fr2, y3, pr_fD_E hE2 y4, by omega⟩, pv_q_t (pv_q_t d1.1 a5) d2, d3.trans a6, d4.trans a7, by omega, Nat.le_refl _, Or.inl ⟨kk, c10, rfl, rfl⟩⟩
        rcases a8 with ⟨rfl, o1, o2, o3, o4, o5⟩ | ⟨rfl, o1, o2⟩
        · rw [if_pos o1, if_neg (show ¬ (1 : Int32) = 0 by decide), o2, o3, pd_bq, pd_bq]
          rcases o4 with o4 | o4
          · rw [if_pos o4, o4]
            exact fin _ _ (pw_resolve hD2 (by omega) (M2 0 17))
          · obtain ⟨o, ho, eo⟩ := o5 o4
            rw [if_neg (by rw [o4]; decide), o4, eo]
            exact fin _ _ (pw_follow hD2 (by omega) ho)
        · rw [if_neg (by rw [o1]; decide), if_pos rfl, o2, pd_bq]
          exact fin _ _ (pw_reject hD2 (by omega) (M2 0 17))
      · rw [pi_isFn M1 (Or.inr (nI_le (a := 10) (by omega) (by omega))), pi_bq, if_pos rfl, if_neg c10, if_neg (show ¬ (0 : Int32) ≤ -1 by decide)]
        have fin : ∀ (oc or : Option px_M), (∃ M' N' nl' q', oc = some M' ∧ or = some N' ∧ pr_D (w - 1) np nl' nr q' M' N' ∧ pr_fD M1 (pm_N1 N) M' N') → ∃ (M' N' : px_M) (np' b' : Nat) (fo fr : Int32), some (nI kk) = some fo ∧ some (-1 : Int32) = some fr ∧ oc = some M' ∧ or = some N' ∧ np ≤ np' ∧ 1 ≤ w ∧ pr_I j (K + 217 * (b' - b)) (w - 1) z np' tk M' N' ∧ pv_q M N M' N' ∧ M' 0 12 = nI b' ∧ N' 0 62 = nI b' ∧ b ≤ b' ∧ b' ≤ b + 1 ∧ ((∃ k, k < 10 ∧ fo = nI k ∧ fr = nI k) ∨ ((∃ k, 10 ≤ k ∧ k ≤ 16 ∧ fo = nI k) ∧ fr = -1 ∧ b' = b)) := by
          intro oc or ⟨M', N', nl', q', y1, y2, y3, y4⟩
          obtain ⟨d2, d3, d4⟩ := pm_fDq (pr_fD_t b5 y4)
          exact ⟨M', N', np, b, _, _, rfl, rfl, y1, y2, Nat.le_refl _, hw, ⟨nl', nr, made, q', ts, tm, fr, y3, pr_fD_E hE1 y4, by omega⟩, d2, d3.trans h12, d4.trans h62, Nat.le_refl _, by omega, Or.inr ⟨⟨kk, by omega, by omega, rfl⟩, rfl, rfl⟩⟩
        rcases hs with hs | hs
        · rw [hs, if_pos rfl]
          exact fin _ _ (pw_resolve b4 ht (M1 34 p))
        · rw [hs, if_neg (by decide)]
          exact fin _ _ (pw_reject b4 ht (M1 34 p))
  · rw [hx] at h; exact absurd h (by decide)
/-- reports at the end of a checkpoint -/
theorem pm_m37 {w np nl nr : Nat} {q : List pn_J} {M N : px_M} (h : pr_D w np nl nr q M N) {p : Nat} (hp : p < np) : pr_D w np nl nr q (px_up M 37 p 1) (px_up N 10 p 1) := by
  obtain ⟨hG, hP, hR, hQ, hU, hC, hW, hL⟩ := h
  obtain ⟨p1, p2, p3, p4, p5, p6, p7, p8, p9, p10, p11, p12, p13, p14, p15⟩ := hP
  refine ⟨hG, ⟨p1, p2, p3, p4, p5, p6, p7, ?_, p9, p10, p11, p12, p13, fun p' h' => ?_, fun p' h' h'' => ?_⟩, hR, hQ, hU, hC, hW, hL⟩
  · show upd (M 37) p 1 = upd (N 10) p 1
    rw [p8]
  · obtain ⟨a1, a2, a3, a4, a5⟩ := p14 p' h'
    refine ⟨a1, a2, a3, ?_, a5⟩
    show pr_B (upd (M 37) p 1 p')
    by_cases c : p' = p
    · subst c; rw [pn_us]; exact Or.inr rfl
    · rw [pn_ue c]; exact a4
  · obtain ⟨a1, a2, a3, a4⟩ := p15 p' h' h''
    refine ⟨a1, a2, a3, ?_⟩
    show upd (M 37) p 1 p' = 0
    rw [pn_ue (by omega)]
    exact a4
theorem pm_rep {w np nl nr : Nat} {q : List pn_J} : ∀ (m i n n' : Nat) (M N : px_M), i + m = nl → m < n → m < n' → pr_D w np nl nr q M N → ∃ M' N', px_fx1 gC_Promises_reportUnhandled_L2 n M (nI i) = some M' ∧ px_fx1 gR_M_checkpoint_L130 n' N (nI i) = some ((1 : Int32), N') ∧ pr_D w np 0 nr q M' N' ∧ pr_fD M N M' N' := by
  intro m
  induction m with
  | zero =>
    intro i n n' M N hi hn hn' hD
    obtain ⟨n, rfl⟩ : ∃ k, n = k + 1 := ⟨n - 1, by omega⟩
    obtain ⟨n', rfl⟩ : ∃ k, n' = k + 1 := ⟨n' - 1, by omega⟩
    have : i = nl := by omega
    subst this
    show ∃ M' N', gC_Promises_reportUnhandled_L2 (px_fx1 gC_Promises_reportUnhandled_L2 n) M (nI i) = some M' ∧ gR_M_checkpoint_L130 (px_fx1 gR_M_checkpoint_L130 n') N (nI i) = some ((1 : Int32), N') ∧ _
    generalize px_fx1 gC_Promises_reportUnhandled_L2 n = rc
    generalize px_fx1 gR_M_checkpoint_L130 n' = rc'
    unfold gC_Promises_reportUnhandled_L2 gR_M_checkpoint_L130
    obtain ⟨hG, hP, hR, hQ, hU, hC, hW, hL⟩ := hD
    obtain ⟨p1, p2, p3, p4, p5, p6, p7, p8, p9, p10, p11, p12, p13, p14, p15⟩ := hP
    rw [p11, p12, if_pos (nI_le (Nat.le_refl _) (by omega)), if_pos (nI_le (Nat.le_refl _) (by omega))]
    refine ⟨_, _, rfl, rfl, ⟨hG, ⟨p1, ?_, ?_, p4, p5, p6, p7, p8, p9, by omega, ?_, ?_, fun i h => by omega, p14, p15⟩, pc_R hR (fun k _ _ => by rw [pn_un (by omega)]) rfl ?_ (fun k _ _ => by rw [pn_un (by omega)]) ?_, pc_Q hQ (fun k _ _ => by rw [pn_un (by omega)]) rfl rfl (fun k _ _ => by rw [pn_un (by omega)]) ?_ ?_, hU, ⟨hC.1, hC.2.1, hC.2.2.1, hC.2.2.2.1, by omega⟩, hW, ?_⟩, ⟨fun k _ _ => by rw [pn_un (by omega)], fun k _ _ => by rw [pn_un (by omega)], fun i _ => by rw [pv_ui (Or.inr (by omega))]⟩⟩
    · rw [pv_ui (Or.inr (by omega)), p2]
    · rw [pv_ui (Or.inr (by omega)), p3]
    · rw [pn_up, pn_us]; rfl
    · rw [pn_up, pn_us]; rfl
    · rw [pv_ui (Or.inr (by omega))]
    · rw [pv_ui (Or.inr (by omega))]
    · rw [pv_ui (Or.inr (by omega))]
    · rw [pv_ui (Or.inr (by omega))]
    · exact pc_L hL (fun k _ _ => by rw [pn_un (by omega)]) rfl rfl (by rw [pv_ui (Or.inr (by omega))]) (by rw [pv_ui (Or.inr (by omega))])
  | succ m ih =>
    intro i n n' M N hi hn hn' hD
    obtain ⟨n, rfl⟩ : ∃ k, n = k + 1 := ⟨n - 1, by omega⟩
    obtain ⟨n', rfl⟩ : ∃ k, n' = k + 1 := ⟨n' - 1, by omega⟩
    have ih' := ih (i + 1) n n'
    show ∃ M' N', gC_Promises_reportUnhandled_L2 (px_fx1 gC_Promises_reportUnhandled_L2 n) M (nI i) = some M' ∧ gR_M_checkpoint_L130 (px_fx1 gR_M_checkpoint_L130 n') N (nI i) = some ((1 : Int32), N') ∧ _
    generalize px_fx1 gC_Promises_reportUnhandled_L2 n = rc at ih' ⊢
    generalize px_fx1 gR_M_checkpoint_L130 n' = rc' at ih' ⊢
    unfold gC_Promises_reportUnhandled_L2 gR_M_checkpoint_L130
    have hD' := hD
    obtain ⟨hG, hP, hR, hQ, hU, hC, hW, hL⟩ := hD
    obtain ⟨p1, p2, p3, p4, p5, p6, p7, p8, p9, p10, p11, p12, p13, p14, p15⟩ := hP
    obtain ⟨p, hp, ep⟩ := p13 i (by omega)
    have hp40 : p < 40 := by omega
    have en : N 11 i = nI p := by rw [← p9, ep]
    rw [p11, p12, if_neg (nI_ge (by omega) (by omega)), if_neg (nI_ge (by omega) (by omega))]
    simp only [px_bn, pn_ck (show i < 40 by omega) (show (40 : Nat) < 2 ^ 31 by omega), nI_clamp (show i < 2 ^ 31 by omega)]
    rw [show (px_up N 10 (N 11 i).toNatClampNeg 1) 11 i = nI p from en, ep, en]
    simp only [pn_ck hp40 (show (40 : Nat) < 2 ^ 31 by omega), nI_clamp (show p < 2 ^ 31 by omega)]
    rw [← p7, nI_1]
    by_cases c : M 36 p = 0
    · rw [if_pos c, if_pos c]
      obtain ⟨M1, N1, a1, a2, a3, a4, -⟩ := pw_tellD (pm_m37 hD' hp) (k := 2) (x := nI p) (c := 20000 + nI p) (by rw [Int32.add_comm]; rfl)
      rw [a1, a2, pi_bq, pi_bq]
      obtain ⟨M', N', b1, b2, b3, b4⟩ := ih' M1 N1 (by omega) (by omega) (by omega) a3
      have hf : pr_fD M N (px_up M 37 p 1) (px_up N 10 p 1) := ⟨fun k _ _ => by rw [pn_un (by omega)], fun k _ _ => by rw [pn_un (by omega)], fun i _ => rfl⟩
      exact ⟨M', N', b1, b2, b3, pr_fD_t (pr_fD_t hf a4) b4⟩
    · rw [if_neg c, if_neg c]
      exact ih' M N (by omega) (by omega) (by omega) hD'
theorem pm_120 {j K w z np : Nat} {tk : List Int32} {M N : px_M} (h : pr_I j K w z np tk M N) : pr_I j K 120 z np tk M N := by
  obtain ⟨nl, nr, made, q, ts, tm, fr, hD, hE, hk⟩ := h
  obtain ⟨hG, hP, hR, hQ, hU, hC, hW, hL⟩ := hD
  refine ⟨nl, nr, made, q, ts, tm, fr, ⟨hG, hP, hR, hQ, hU, hC, ?_, hL⟩, hE, hk⟩
  obtain ⟨c1, c2, c3, c4, c5⟩ := hC
  unfold pr_W
  omega
theorem pm_a1 {u b w : Nat} (h : 50 - b + w ≤ u) (hb : b < 50) : 50 - (b + 1) + w ≤ u - 1 := by omega
theorem pm_a2 {u b b' w : Nat} (h : 50 - b + w ≤ u) (hw : 1 ≤ w) (hb : b ≤ b') : 50 - b' + (w - 1) ≤ u - 1 := by omega
theorem pm_cp {j K z : Nat} {tk : List Int32} (hK : K + 11150 < 2 ^ 31) : ∀ (u n m y b w np : Nat) (M N : px_M), (50 - b) + w ≤ u → b ≤ 50 → u < n → u < m → y + u < 1000 → pr_I j (K + 217 * b) w z np tk M N → M 0 12 = nI b → N 0 62 = nI b → ∃ (M' N' : px_M) (np' b' : Nat) (r : Int32), px_fx1 gC_checkpoint_L2 n M (nI y) = some (r, M') ∧ px_fx0 gR_M_checkpoint_L0 m N = some (r, N') ∧ pr_B r ∧ np ≤ np' ∧ b ≤ b' ∧ b' ≤ 50 ∧ pr_I j (K + 217 * b') 120 z np' tk M' N' ∧ pv_q M N M' N' ∧ M' 0 12 = nI b' ∧ N' 0 62 = nI b' ∧ (r = 1 → M' 20 5 = 0 ∧ M' 32 9 = 0) := by
  intro u
  induction u using Nat.strongRecOn with
  | _ u ih =>
    intro n m y b w np M N hu hb hn hm hy hI h12 h62
    obtain ⟨n, rfl⟩ : ∃ k, n = k + 1 := ⟨n - 1, by omega⟩
    obtain ⟨m, rfl⟩ : ∃ k, m = k + 1 := ⟨m - 1, by omega⟩
    have ih' := fun u' (h : u' < u) => ih u' h n m (y + 1)
    show ∃ (M' N' : px_M) (np' b' : Nat) (r : Int32), gC_checkpoint_L2 (px_fx1 gC_checkpoint_L2 n) M (nI y) = some (r, M') ∧ gR_M_checkpoint_L0 (px_fx0 gR_M_checkpoint_L0 m) N = some (r, N') ∧ _
    generalize px_fx1 gC_checkpoint_L2 n = rc at ih' ⊢
    generalize px_fx0 gR_M_checkpoint_L0 m = rc' at ih' ⊢
    have hI' := hI
    obtain ⟨nl, nr, made, q, ts, tm, fr, hD, hE, hk⟩ := hI
    have hQ := hD.2.2.2.1
    have y1000 : ¬ (1000 : Int32) ≤ nI y := nI_ge (b := 1000) (by omega) (by omega)
    have sz := gl_size_ok hQ.1
    rw [← gl_size_20] at sz
    rcases q with _ | ⟨x, q⟩
    · -- no job
      have e1 : gC_checkpoint_L2 rc M (nI y) = px_bq (fC_Promises_reportUnhandled M) (fun M8 => some ((1 : Int32), M8)) := by
        unfold gC_checkpoint_L2
        rw [if_neg y1000, sz, pi_bq, if_pos (show nI ([] : List pn_J).length ≤ (0 : Int32) by decide)]
      have e2 : gR_M_checkpoint_L0 rc' N = px_fx1 gR_M_checkpoint_L130 1001 N 0 := by
        obtain ⟨f, f1, f2, f3, f4, -⟩ := hQ.2.1
        unfold gR_M_checkpoint_L0
        rw [f4, if_pos (show nI (([] : List pn_J).map pr_cj).length ≤ (0 : Int32) by decide)]
      obtain ⟨M', N', a1, a2, a3, a4⟩ := pm_rep nl 0 41 1001 M N (by omega) (by have := hD.2.1.2.2.2.2.2.2.2.2.2.1; omega) (by have := hD.2.1.2.2.2.2.2.2.2.2.2.1; omega) hD
      obtain ⟨d2, d3, d4⟩ := pm_fDq a4
      refine ⟨M', N', np, b, 1, ?_, ?_, Or.inr rfl, Nat.le_refl _, Nat.le_refl _, hb, pm_120 ⟨0, nr, made, [], ts, tm, fr, a3, pr_fD_E hE a4, hk⟩, d2, d3.trans h12, d4.trans h62, fun _ => ⟨?_, ?_⟩⟩
      · rw [e1]
        unfold fC_Promises_reportUnhandled
        rw [show (0 : Int32) = nI 0 from rfl, a1]
        rfl
      · rw [e2]; exact a2
      · obtain ⟨f, -, -, -, -, h, -⟩ := a3.2.2.2.1.1
        rw [h]; rfl
      · rw [a3.2.1.2.2.2.2.2.2.2.2.2.2.1]; rfl
    · obtain ⟨M1, b1, b2, b3, b4, b5⟩ := pm_drop hD
      obtain ⟨g1, g2, g3⟩ := gl_head (by omega) hQ.1
      rw [← gl_kind_20] at g1
      rw [← gl_subject_20] at g2
      rw [← gl_number_20] at g3
      have hx := pz_k hQ x (List.mem_cons_self ..)
      obtain ⟨f, f1, f2, f3, f4, f5, f6, -⟩ := pj_head (x := pr_cj x) (q := q.map pr_cj) hQ.2.1
      have szn : ¬ nI (x :: q).length ≤ (0 : Int32) := nI_nle (by simp) (by have := hQ.1; obtain ⟨-, -, h, -⟩ := this; omega)
      let cC : Option (Int32 × px_M) := (if x.1 = 0 then px_bq (fC_run M1 x.2.1 x.2.2 (1 : Int32)) (fun M25 => px_bq (fC_reportFailure M25) (fun M27 => rc M27 (nI (y + 1)))) else (if x.1 = (2 : Int32) then px_bq (fC_doReaction M1 x.2.1) (fun M23 => rc M23 (nI (y + 1))) else px_bq (fC_Promises_react M1 x.2.2 (16 : Int32) (16 : Int32) x.2.1) (fun M21 => rc M21 (nI (y + 1)))))
      let cR : Option (Int32 × px_M) := (if x.1 = 0 then px_bq (fR_M_runAndTell (pm_N1 N) x.2.1 x.2.2) rc' else (if x.1 = (2 : Int32) then px_bq (fR_M_doReaction (pm_N1 N) x.2.1) rc' else px_bq (fR_M_react (pm_N1 N) x.2.2 (-2 : Int32) (-2 : Int32) x.2.1) rc'))
      have eC : gC_checkpoint_L2 rc M (nI y) = if b < 50 then cC else px_bq (fC_microtaskBeginsRun M) (fun r29 => if r29 = 0 then cC else some ((0 : Int32), M)) := by
        unfold gC_checkpoint_L2
        rw [if_neg y1000, sz, pi_bq, if_neg szn, g1, g2, g3, b1, h12, nI_1]
        simp only [pi_bq]
        by_cases c : b < 50
        · rw [if_pos c, if_pos (show nI b < (50 : Int32) from nI_lt (b := 50) c (by omega))]
        · rw [if_neg c, if_neg (show ¬ nI b < (50 : Int32) from nI_nlt (b := 50) (by omega) (by omega))]
      have cj : (pr_cj x).1 = (if x.1 = 0 then 0 else if x.1 = 2 then 1 else 2) := rfl
      have eJ : (if (pr_cj x).1 = 0 then px_bq (fR_M_runAndTell (pm_N1 N) x.2.1 x.2.2) (fun M29 => rc' M29) else (if (pr_cj x).1 = (1 : Int32) then px_bq (fR_M_doReaction (pm_N1 N) x.2.1) (fun M27 => rc' M27) else px_bq (fR_M_react (pm_N1 N) x.2.2 (-2 : Int32) (-2 : Int32) x.2.1) (fun M25 => rc' M25))) = cR := by
        show _ = (if x.1 = 0 then px_bq (fR_M_runAndTell (pm_N1 N) x.2.1 x.2.2) rc' else (if x.1 = (2 : Int32) then px_bq (fR_M_doReaction (pm_N1 N) x.2.1) rc' else px_bq (fR_M_react (pm_N1 N) x.2.2 (-2 : Int32) (-2 : Int32) x.2.1) rc'))
        rcases hx with hx | hx | hx
        · have e : (pr_cj x).1 = 0 := by rw [cj, if_pos hx]
          rw [e, if_pos (rfl : (0 : Int32) = 0), if_pos hx]
        · have x0 : ¬ x.1 = 0 := by rw [hx]; decide
          have e : (pr_cj x).1 = 1 := by rw [cj, if_neg x0, if_pos hx]
          rw [e, if_neg (show ¬ (1 : Int32) = 0 by decide), if_pos (rfl : (1 : Int32) = 1), if_neg x0, if_pos hx]
        · have x0 : ¬ x.1 = 0 := by rw [hx]; decide
          have x2 : ¬ x.1 = 2 := by rw [hx]; decide
          have e : (pr_cj x).1 = 2 := by rw [cj, if_neg x0, if_neg x2]
          rw [e, if_neg (show ¬ (2 : Int32) = 0 by decide), if_neg (show ¬ (2 : Int32) = 1 by decide), if_neg x0, if_neg x2]
      have eR : gR_M_checkpoint_L0 rc' N = if b < 50 then cR else (if x.1 = 0 then some ((0 : Int32), N) else if x.1 = 2 then px_bq (fR_M_functionOf N x.2.1) (fun r43 => if r43 < 0 then cR else some ((0 : Int32), N)) else cR) := by
        have h21 : ¬ N 0 21 ≤ (0 : Int32) := by
          rw [f3]
          exact nI_nle (by omega) (by obtain ⟨-, -, h, -⟩ := hQ.1; simp at h; simp; omega)
        unfold gR_M_checkpoint_L0
        rw [if_neg h21, f2]
        simp only [px_bn, pn_ck f1 (show (512 : Nat) < 2 ^ 31 by omega), nI_clamp (show f < 2 ^ 31 by omega)]
        rw [f4, f5, f6, h62]
        have eN : px_up (px_up N 0 20 (nI f + 1 - (nI f + 1) / 512 * 512)) 0 21 ((px_up N 0 20 (nI f + 1 - (nI f + 1) / 512 * 512)) 0 21 - 1) = pm_N1 N := by
          unfold pm_N1
          rw [f2]
          rfl
        rw [eN]
        show (if nI b = 50 then (if (pr_cj x).1 = 0 then some ((0 : Int32), N) else (if (pr_cj x).1 = (1 : Int32) then px_bq (fR_M_functionOf N x.2.1) (fun r43 => (if r43 < 0 then (if (pr_cj x).1 = 0 then px_bq (fR_M_runAndTell (pm_N1 N) x.2.1 x.2.2) (fun M29 => rc' M29) else (if (pr_cj x).1 = (1 : Int32) then px_bq (fR_M_doReaction (pm_N1 N) x.2.1) (fun M27 => rc' M27) else px_bq (fR_M_react (pm_N1 N) x.2.2 (-2 : Int32) (-2 : Int32) x.2.1) (fun M25 => rc' M25))) else some ((0 : Int32), N))) else (if (pr_cj x).1 = 0 then px_bq (fR_M_runAndTell (pm_N1 N) x.2.1 x.2.2) (fun M29 => rc' M29) else (if (pr_cj x).1 = (1 : Int32) then px_bq (fR_M_doReaction (pm_N1 N) x.2.1) (fun M27 => rc' M27) else px_bq (fR_M_react (pm_N1 N) x.2.2 (-2 : Int32) (-2 : Int32) x.2.1) (fun M25 => rc' M25))))) else (if (pr_cj x).1 = 0 then px_bq (fR_M_runAndTell (pm_N1 N) x.2.1 x.2.2) (fun M29 => rc' M29) else (if (pr_cj x).1 = (1 : Int32) then px_bq (fR_M_doReaction (pm_N1 N) x.2.1) (fun M27 => rc' M27) else px_bq (fR_M_react (pm_N1 N) x.2.2 (-2 : Int32) (-2 : Int32) x.2.1) (fun M25 => rc' M25)))) = _
        rw [eJ]
        by_cases c : b < 50
        · rw [if_pos c, if_neg (show ¬ nI b = (50 : Int32) from fun h => by have := (nI_eq (b := 50) (by omega) (by omega)).mp h; omega)]
        · rw [if_neg c, if_pos (show nI b = (50 : Int32) by rw [show b = 50 by omega]; rfl)]
          rcases hx with hx | hx | hx
          · have e : (pr_cj x).1 = 0 := by rw [cj, if_pos hx]
            rw [e, if_pos (rfl : (0 : Int32) = 0), if_pos hx]
          · have x0 : ¬ x.1 = 0 := by rw [hx]; decide
            have e : (pr_cj x).1 = 1 := by rw [cj, if_neg x0, if_pos hx]
            rw [e, if_neg (show ¬ (1 : Int32) = 0 by decide), if_pos (rfl : (1 : Int32) = 1), if_neg x0, if_pos hx]
          · have x0 : ¬ x.1 = 0 := by rw [hx]; decide
            have x2 : ¬ x.1 = 2 := by rw [hx]; decide
            have e : (pr_cj x).1 = 2 := by rw [cj, if_neg x0, if_neg x2]
            rw [e, if_neg (show ¬ (2 : Int32) = 0 by decide), if_neg (show ¬ (2 : Int32) = 1 by decide), if_neg x0, if_neg x2]
      rw [eC, eR]
      have stop : b = 50 → ∃ (M' N' : px_M) (np' b' : Nat) (r : Int32), some ((0 : Int32), M) = some (r, M') ∧ some ((0 : Int32), N) = some (r, N') ∧ pr_B r ∧ np ≤ np' ∧ b ≤ b' ∧ b' ≤ 50 ∧ pr_I j (K + 217 * b') 120 z np' tk M' N' ∧ pv_q M N M' N' ∧ M' 0 12 = nI b' ∧ N' 0 62 = nI b' ∧ (r = 1 → M' 20 5 = 0 ∧ M' 32 9 = 0) := fun _ => ⟨M, N, np, b, 0, rfl, rfl, Or.inl rfl, Nat.le_refl _, Nat.le_refl _, hb, pm_120 hI', pv_q_r M N, h12, h62, fun h => absurd h (by decide)⟩
      have mono : ∀ {P : px_M → px_M → Prop} {M2 N2 : px_M} {np2 b2 : Nat}, np ≤ np2 → b ≤ b2 → pv_q M N M2 N2 → (∃ (M' N' : px_M) (np' b' : Nat) (r : Int32), rc M2 (nI (y + 1)) = some (r, M') ∧ rc' N2 = some (r, N') ∧ pr_B r ∧ np2 ≤ np' ∧ b2 ≤ b' ∧ b' ≤ 50 ∧ pr_I j (K + 217 * b') 120 z np' tk M' N' ∧ pv_q M2 N2 M' N' ∧ M' 0 12 = nI b' ∧ N' 0 62 = nI b' ∧ (r = 1 → M' 20 5 = 0 ∧ M' 32 9 = 0)) → ∃ (M' N' : px_M) (np' b' : Nat) (r : Int32), rc M2 (nI (y + 1)) = some (r, M') ∧ rc' N2 = some (r, N') ∧ pr_B r ∧ np ≤ np' ∧ b ≤ b' ∧ b' ≤ 50 ∧ pr_I j (K + 217 * b') 120 z np' tk M' N' ∧ pv_q M N M' N' ∧ M' 0 12 = nI b' ∧ N' 0 62 = nI b' ∧ (r = 1 → M' 20 5 = 0 ∧ M' 32 9 = 0) := by
        intro P M2 N2 np2 b2 h1 h2 h3 ⟨M', N', np', b', r, a1, a2, a3, a4, a5, a6, a7, a8, a9⟩
        exact ⟨M', N', np', b', r, a1, a2, a3, by omega, by omega, a6, a7, pv_q_t h3 a8, a9⟩
      rcases hx with hx | hx | hx
      · -- a microtask that runs a function
        have eB : fC_microtaskBeginsRun M = some 1 := by
          unfold fC_microtaskBeginsRun
          rw [g1, pi_bq, if_pos hx]
        rw [eB, pi_bq, if_pos hx, if_neg (show ¬ (1 : Int32) = 0 by decide)]
        by_cases c : b < 50
        · rw [if_pos c, if_pos c]
          have eK : cC = px_bq (px_bq (fC_run M1 x.2.1 x.2.2 (1 : Int32)) fC_reportFailure) (fun M27 => rc M27 (nI (y + 1))) := by
            rw [pm_as]
            exact if_pos hx
          have eL : cR = px_bq (fR_M_runAndTell (pm_N1 N) x.2.1 x.2.2) rc' := if_pos hx
          rw [eK, eL]
          rw [if_pos hx] at b4
          obtain ⟨d1, d2, d3⟩ := pm_fDq b5
          rcases hQ.2.2 x (List.mem_cons_self ..) with ⟨-, f, hf, ef⟩ | ⟨h, -⟩ | ⟨h, -⟩
          · obtain ⟨M2, N2, np2, a1, a2, a3, a4, a5, a6, a7⟩ := pm_run (b := b) ⟨nl, nr, made, q, ts, tm, fr, b4, pr_fD_E hE b5, hk⟩ (by omega) (d2.trans h12) (d3.trans h62) hf x.2.2
            rw [ef, a1, a2, pi_bq, pi_bq]
            exact mono (P := fun _ _ => True) a3 (Nat.le_succ b) (pv_q_t d1 a5) (ih' (u - 1) (by omega) (b + 1) w np2 M2 N2 (pm_a1 hu c) (by omega) (by omega) (by omega) (by omega) (by rw [show K + 217 * (b + 1) = K + 217 * b + 217 by omega]; exact a4) a6 a7)
          · rw [hx] at h; exact absurd h (by decide)
          · rw [hx] at h; exact absurd h (by decide)
        · rw [if_neg c, if_neg c]
          exact stop (by omega)
      · -- a reaction
        obtain ⟨M2, N2, np2, b', fo, fr', a0, a0', a1, a2, a3, a4, a5, a6, a7, a8, a9, a10, a11⟩ := pm_job2 hD hE hk (by omega) h12 h62 hx b1
        have x0 : ¬ x.1 = 0 := by rw [hx]; decide
        have eK : cC = px_bq (fC_doReaction M1 x.2.1) (fun M23 => rc M23 (nI (y + 1))) := by
          show (if x.1 = 0 then _ else _) = _
          rw [if_neg x0, if_pos hx]
        have eL : cR = px_bq (fR_M_doReaction (pm_N1 N) x.2.1) rc' := by
          show (if x.1 = 0 then _ else _) = _
          rw [if_neg x0, if_pos hx]
        have goon : b' ≤ 50 → ∃ (M' N' : px_M) (np' b' : Nat) (r : Int32), cC = some (r, M') ∧ cR = some (r, N') ∧ pr_B r ∧ np ≤ np' ∧ b ≤ b' ∧ b' ≤ 50 ∧ pr_I j (K + 217 * b') 120 z np' tk M' N' ∧ pv_q M N M' N' ∧ M' 0 12 = nI b' ∧ N' 0 62 = nI b' ∧ (r = 1 → M' 20 5 = 0 ∧ M' 32 9 = 0) := by
          intro hb'
          rw [eK, eL, a1, a2, pi_bq, pi_bq]
          exact mono (P := fun _ _ => True) a3 a9 a6 (ih' (u - 1) (by omega) b' (w - 1) np2 M2 N2 (pm_a2 hu a4 a9) hb' (by omega) (by omega) (by omega) (by rw [show K + 217 * b' = K + 217 * b + 217 * (b' - b) by omega]; exact a5) a7 a8)
        by_cases c : b < 50
        · rw [if_pos c, if_pos c]
          exact goon (by omega)
        · rw [if_neg c, if_neg c, if_neg x0, if_pos hx, a0', pi_bq]
          unfold fC_microtaskBeginsRun
          rw [g1, pi_bq, if_neg x0, if_pos hx, g2, pi_bq, a0, pi_bq]
          rcases a11 with ⟨k, k1, rfl, rfl⟩ | ⟨⟨k, k1, k2, rfl⟩, rfl, e⟩
          · rw [pi_isF M k1, pi_bq, if_neg (show ¬ (1 : Int32) = 0 by decide), pi_bq, if_neg (show ¬ (1 : Int32) = 0 by decide), if_neg (nI_pos (by omega))]
            exact stop (by omega)
          · rw [pi_isFn M (Or.inr (nI_le (a := 10) (by omega) (by omega))), pi_bq, if_pos rfl, pi_bq, if_pos rfl, if_pos (show (-1 : Int32) < 0 by decide)]
            exact goon (by omega)
      · -- a promise that follows another
        obtain ⟨M2, N2, a1, a2, a3, a4, a5⟩ := pm_job3 hD hE hk hx b1
        obtain ⟨d1, d2, d3⟩ := pm_fDq a5
        have x0 : ¬ x.1 = 0 := by rw [hx]; decide
        have x2 : ¬ x.1 = 2 := by rw [hx]; decide
        have eK : cC = px_bq (fC_Promises_react M1 x.2.2 (16 : Int32) (16 : Int32) x.2.1) (fun M21 => rc M21 (nI (y + 1))) := by
          show (if x.1 = 0 then _ else _) = _
          rw [if_neg x0, if_neg x2]
        have eL : cR = px_bq (fR_M_react (pm_N1 N) x.2.2 (-2 : Int32) (-2 : Int32) x.2.1) rc' := by
          show (if x.1 = 0 then _ else _) = _
          rw [if_neg x0, if_neg x2]
        have goon : ∃ (M' N' : px_M) (np' b' : Nat) (r : Int32), cC = some (r, M') ∧ cR = some (r, N') ∧ pr_B r ∧ np ≤ np' ∧ b ≤ b' ∧ b' ≤ 50 ∧ pr_I j (K + 217 * b') 120 z np' tk M' N' ∧ pv_q M N M' N' ∧ M' 0 12 = nI b' ∧ N' 0 62 = nI b' ∧ (r = 1 → M' 20 5 = 0 ∧ M' 32 9 = 0) := by
          rw [eK, eL, a1, a2, pi_bq, pi_bq]
          exact mono (P := fun _ _ => True) (Nat.le_refl _) (Nat.le_refl _) d1 (ih' (u - 1) (by omega) b (w - 1) np M2 N2 (by omega) hb (by omega) (by omega) (by omega) a4 (d2.trans h12) (d3.trans h62))
        by_cases c : b < 50
        · rw [if_pos c, if_pos c]
          exact goon
        · rw [if_neg c, if_neg c, if_neg x0, if_neg x2]
          unfold fC_microtaskBeginsRun
          rw [g1, pi_bq, if_neg x0, if_neg x2, pi_bq, if_pos rfl]
          exact goon
/-- the checkpoint -/
theorem pm_check {j K z b np : Nat} {tk : List Int32} {M N : px_M} (hK : K + 11150 < 2 ^ 31) (hb : b ≤ 50) (hI : pr_I j (K + 217 * b) 120 z np tk M N) (h12 : M 0 12 = nI b) (h62 : N 0 62 = nI b) : ∃ (M' N' : px_M) (np' b' : Nat) (r : Int32), fC_checkpoint M = some (r, M') ∧ fR_M_checkpoint N = some (r, N') ∧ pr_B r ∧ np ≤ np' ∧ b ≤ b' ∧ b' ≤ 50 ∧ pr_I j (K + 217 * b') 120 z np' tk M' N' ∧ pv_q M N M' N' ∧ M' 0 12 = nI b' ∧ N' 0 62 = nI b' ∧ (r = 1 → M' 20 5 = 0 ∧ M' 32 9 = 0) :=
  pm_cp hK 170 1001 1001 0 b 120 np M N (by omega) hb (by omega) (by omega) (by omega) hI h12 h62
