/-! Promises: make, resolve, reject, follow; a job more, a job less. -/
theorem pw_no {np nr : Nat} {q : List pn_J} {M : px_M} (hU : pr_U np nr q M) {p : Nat} (hp : p < np) (h : M 35 p = 0) : (∀ o, (3, nI p, o) ∉ q) ∧ ∀ r, r < nr → M 41 r = 16 → M 40 r ≠ nI p := by
  obtain ⟨u1, u2, u3, u4, u5, u6, u7⟩ := hU
  constructor
  · intro o ho
    have := (u4 p hp o ho).1
    rw [h] at this
    exact absurd this (by decide)
  · intro r h1 h2 h3
    have := u2 r p h1 h2 h3 hp
    rw [h] at this
    exact absurd this (by decide)
/-- one more is resolved -/
theorem pw_res {M : px_M} {p : Nat} (hp : p < 40) (h : M 35 p = 0) : pr_cnt 40 (fun p' => upd (M 35) p 1 p' == 1) = pr_cnt 40 (fun p => M 35 p == 1) + 1 :=
  pz_u hp (fun i _ e => by simp [pn_ue e]) (by simp [h]) (by simp [pn_us])
theorem pw_mark {w np nl nr : Nat} {q : List pn_J} {M N : px_M} (h : pr_D w np nl nr q M N) {p : Nat} (hp : p < np) (h35 : M 35 p = 0) : pr_D w np nl nr q (px_up M 35 p 1) (px_up N 8 p 1) := by
  obtain ⟨hG, hP, hR, hQ, hU, hC, hW, hL⟩ := h
  have hres := pw_res (M := M) (p := p) (by have := hP.1; omega) h35
  obtain ⟨p1, p2, p3, p4, p5, p6, p7, p8, p9, p10, p11, p12, p13, p14, p15⟩ := hP
  obtain ⟨u1, u2, u3, u4, u5, u6, u7⟩ := hU
  obtain ⟨c1, c2, c3, c4, c5⟩ := hC
  refine ⟨hG, ⟨p1, p2, p3, p4, p5, ?_, p7, p8, p9, p10, p11, p12, p13, ?_, ?_⟩, hR, hQ, ⟨u1, ?_, u3, ?_, u5, u6, u7⟩, ⟨c1, ?_, c3, c4, c5⟩, ?_, hL⟩
  · show upd (M 35) p 1 = upd (N 8) p 1
    rw [p6]
  · intro t ht
    obtain ⟨a1, a2, a3, a4, a5⟩ := p14 t ht
    show (M 33 t = 0 ∨ M 33 t = 1 ∨ M 33 t = 2) ∧ pr_B (upd (M 35) p 1 t) ∧ pr_B (M 36 t) ∧ pr_B (M 37 t) ∧ (upd (M 35) p 1 t = 0 → M 33 t = 0)
    by_cases e : t = p
    · subst e
      rw [pn_us]
      exact ⟨a1, Or.inr rfl, a3, a4, fun hh => absurd hh (by decide)⟩
    · rw [pn_ue e]
      exact ⟨a1, a2, a3, a4, a5⟩
  · intro t h1 h2
    show M 33 t = 0 ∧ upd (M 35) p 1 t = 0 ∧ M 36 t = 0 ∧ M 37 t = 0
    rw [pn_ue (by omega)]
    exact p15 t h1 h2
  · intro r t h1 h2 h3 h4
    show upd (M 35) p 1 t = 1
    by_cases e : t = p
    · subst e; rw [pn_us]
    · rw [pn_ue e]; exact u2 r t h1 h2 h3 h4
  · intro t h1 o ho
    obtain ⟨d1, d2, d3⟩ := u4 t h1 o ho
    refine ⟨?_, d2, d3⟩
    show upd (M 35) p 1 t = 1
    by_cases e : t = p
    · subst e; rw [pn_us]
    · rw [pn_ue e]; exact d1
  · show _ ≤ pr_cnt 40 (fun p' => upd (M 35) p 1 p' == 1)
    rw [hres]
    show pr_cnt nr (fun r => M 41 r == 16) + (q.filter (fun x => x.1 == 3)).length ≤ _
    omega
  · unfold pr_W at hW ⊢
    show 120 + pr_cnt nr (fun r => M 33 (M 39 r).toNatClampNeg == 0) + (q.filter (fun x => x.1 == 2)).length + (q.filter (fun x => x.1 == 3)).length ≤ w + nr + pr_cnt 40 (fun p' => upd (M 35) p 1 p' == 1)
    rw [hres]
    omega
theorem pw_fmark (M N : px_M) (p : Nat) (x y : Int32) : pr_fD M N (px_up M 35 p x) (px_up N 8 p y) :=
  ⟨fun k _ hk => pn_un (by omega), fun k k0 hk => pn_un (by omega), fun i _ => rfl⟩
theorem pw_set {w np nl nr : Nat} {q : List pn_J} {M N : px_M} (h : pr_D w np nl nr q M N) {p : Nat} (hp : p < np) (h35 : M 35 p = 0) {s : Int32} (hs : s = 1 ∨ s = 2) (v : Int32) :
    ∃ M' N' nl' q', fC_Promises_settle (px_up M 35 p 1) (nI p) s v = some M' ∧ fR_M_settle (px_up N 8 p 1) (nI p) s v = some N' ∧ pr_D w np nl' nr q' M' N' ∧ pr_fD M N M' N' := by
  have h1 := pw_mark h hp h35
  obtain ⟨n1, n2⟩ := pw_no h.2.2.2.2.1 hp h35
  have h33 : M 33 p = 0 := (h.2.1.2.2.2.2.2.2.2.2.2.2.2.2.2.1 p (by have := h.2.1.1; omega)).2.2.2.2 h35
  obtain ⟨M', N', nl', q', a1, a2, a3, a4⟩ := pw_settle h1 hp h33 (by show upd (M 35) p 1 p = 1; rw [pn_us]) hs v n1 (fun r r1 r2 r3 => absurd r3 (n2 r r1 r2))
  exact ⟨M', N', nl', q', a1, a2, a3, pr_fD_t (pw_fmark M N p 1 1) a4⟩
theorem pw_resolve {w np nl nr : Nat} {q : List pn_J} {M N : px_M} (h : pr_D w np nl nr q M N) {p : Nat} (hp : p < np) (v : Int32) :
    ∃ M' N' nl' q', fC_Promises_resolveOrReject M (nI p) 1 v = some M' ∧ fR_M_resolve N (nI p) 0 v = some N' ∧ pr_D w np nl' nr q' M' N' ∧ pr_fD M N M' N' := by
  have hP := h.2.1
  obtain ⟨p1, p2, p3, p4, p5, p6, -⟩ := hP
  have hp40 : p < 40 := by omega
  unfold fC_Promises_resolveOrReject fR_M_resolve
  rw [pl_has p2 (by omega) hp, pi_bq, if_neg (by decide), pn_ck hp40 (by omega), pn_ck hp40 (by omega), pn_ck hp40 (by omega), pn_ck hp40 (by omega), nI_clamp (by omega), ← p6]
  by_cases c : M 35 p = 0
  · rw [if_pos c, if_pos c]
    obtain ⟨M', N', nl', q', a1, a2, a3, a4⟩ := pw_set h hp c (Or.inl rfl) v
    refine ⟨M', N', nl', q', ?_, ?_, a3, a4⟩
    · simp only [px_bn]; rw [a1]; rfl
    · simp only [px_bn]; rw [if_pos trivial, a2]; rfl
  · rw [if_neg c, if_neg c]
    exact ⟨M, N, nl, q, rfl, rfl, h, pr_fD_r M N⟩
theorem pw_reject {w np nl nr : Nat} {q : List pn_J} {M N : px_M} (h : pr_D w np nl nr q M N) {p : Nat} (hp : p < np) (v : Int32) :
    ∃ M' N' nl' q', fC_Promises_resolveOrReject M (nI p) 2 v = some M' ∧ fR_M_reject N (nI p) v = some N' ∧ pr_D w np nl' nr q' M' N' ∧ pr_fD M N M' N' := by
  have hP := h.2.1
  obtain ⟨p1, p2, p3, p4, p5, p6, -⟩ := hP
  have hp40 : p < 40 := by omega
  unfold fC_Promises_resolveOrReject fR_M_reject
  rw [pl_has p2 (by omega) hp, pi_bq, if_neg (by decide), pn_ck hp40 (by omega), pn_ck hp40 (by omega), pn_ck hp40 (by omega), pn_ck hp40 (by omega), nI_clamp (by omega), ← p6]
  by_cases c : M 35 p = 0
  · rw [if_pos c, if_pos c]
    obtain ⟨M', N', nl', q', a1, a2, a3, a4⟩ := pw_set h hp c (Or.inr rfl) v
    refine ⟨M', N', nl', q', ?_, ?_, a3, a4⟩
    · simp only [px_bn]; rw [a1]; rfl
    · simp only [px_bn]; rw [a2]; rfl
  · rw [if_neg c, if_neg c]
    exact ⟨M, N, nl, q, rfl, rfl, h, pr_fD_r M N⟩
theorem pw_len {w np nl nr : Nat} {q : List pn_J} {M N : px_M} (h : pr_D w np nl nr q M N) : q.length = (q.filter (fun x => x.1 == 0)).length + (q.filter (fun x => x.1 == 2)).length + (q.filter (fun x => x.1 == 3)).length := pz_q (pz_k h.2.2.2.1)
/-- a job put on both sides -/
theorem pw_put {q : List pn_J} {M N : px_M} (h1 : lineC M 20 180 q) (h2 : pr_ring N (q.map pr_cj)) (hq : q.length < 180) (x : pn_J) : ∃ M' N', fC_Line_put_20 M x.1 x.2.1 x.2.2 = some M' ∧ fR_M_addMicro N (pr_cj x).1 x.2.1 x.2.2 = some N' ∧ lineC M' 20 180 (q ++ [x]) ∧ pr_ring N' ((q ++ [x]).map pr_cj) ∧ (∀ k, (k < 20 ∨ 24 ≤ k) → M' k = M k) ∧ (∀ k, k ≠ 0 → (k < 17 ∨ 20 ≤ k) → N' k = N k) ∧ ∀ i, i ≠ 21 → N' 0 i = N 0 i := by
  obtain ⟨M', a1, a2, a3⟩ := gl_put_ok (by omega) h1 hq x.1 x.2.1 x.2.2
  obtain ⟨N', b1, b2, b3, b4⟩ := pj_put h2 (by simp; omega) (pr_cj x).1 x.2.1 x.2.2
  refine ⟨M', N', by rw [gl_put_20]; exact a1, b1, a2, ?_, a3, b3, b4⟩
  rw [List.map_append]
  exact b2
theorem pw_fput {M N M' N' : px_M} (a : ∀ k, (k < 20 ∨ 24 ≤ k) → M' k = M k) (b : ∀ k, k ≠ 0 → (k < 17 ∨ 20 ≤ k) → N' k = N k) (b0 : ∀ i, i ≠ 21 → N' 0 i = N 0 i) : pr_fD M N M' N' :=
  ⟨fun k _ hk => a k (by omega), fun k k0 hk => b k k0 (by omega), fun i hi => b0 i (by omega)⟩
theorem pw_micro {w np nl nr : Nat} {q : List pn_J} {M N : px_M} (h : pr_D w np nl nr q M N) (hq : q.length < 60) {f : Nat} (hf : f < 10) (x : Int32) :
    ∃ M' N', fC_Line_put_20 M 0 (nI f) x = some M' ∧ fR_M_addMicro N 0 (nI f) x = some N' ∧ pr_D w np nl nr (q ++ [(0, nI f, x)]) M' N' ∧ pr_fD M N M' N' := by
  obtain ⟨hG, hP, hR, hQ, hU, hC, hW, hL⟩ := h
  obtain ⟨M', N', a1, a2, a3, a4, a5, a6, a7⟩ := pw_put hQ.1 hQ.2.1 (by omega) (0, nI f, x)
  have hlen := pz_q (pz_k hQ)
  refine ⟨M', N', a1, a2, ⟨pc_G hG (a5 _ (by omega)) (a6 _ (by omega) (by omega)), pc_P hP (fun k _ _ => a5 k (by omega)) (by rw [a5 32 (by omega)]) (by rw [a5 32 (by omega)]) (fun k _ _ => a6 k (by omega) (by omega)) (a7 _ (by omega)) (a7 _ (by omega)), pc_R hR (fun k _ _ => a5 k (by omega)) (a5 _ (by omega)) (by rw [a5 32 (by omega)]) (fun k _ _ => a6 k (by omega) (by omega)) (a7 _ (by omega)), ⟨a3, a4, ?_⟩, pc_U (M := M) ?_ (a5 _ (by omega)) (a5 _ (by omega)) (a5 _ (by omega)) (a5 _ (by omega)) (a5 _ (by omega)), pc_C (M := M) ?_ (a5 _ (by omega)) (a5 _ (by omega)) (a5 _ (by omega)) (a5 _ (by omega)), pc_W (M := M) ?_ (a5 _ (by omega)) (a5 _ (by omega)) (a5 _ (by omega)), pc_L hL (fun k _ _ => a5 k (by omega)) (a6 _ (by omega) (by omega)) (a6 _ (by omega) (by omega)) (a7 _ (by omega)) (a7 _ (by omega))⟩, pw_fput a5 a6 a7⟩
  · rw [a5 33 (by omega), a5 39 (by omega)]
    intro y hy
    rcases List.mem_append.mp hy with hy | hy
    · exact hQ.2.2 y hy
    · simp at hy; subst hy; exact Or.inl ⟨rfl, f, hf, rfl⟩
  · obtain ⟨u1, u2, u3, u4, u5, u6, u7⟩ := hU
    have out : ∀ y : pn_J, y ∈ q ++ [(0, nI f, x)] → y.1 ≠ 0 → y ∈ q := by
      intro y hy hn
      rcases List.mem_append.mp hy with hy | hy
      · exact hy
      · simp at hy; subst hy; exact absurd rfl hn
    refine ⟨u1, u2, fun r p t h1 h2 h3 h4 h5 h6 h7 => u3 r p t h1 h2 h3 h4 h5 h6 (h7.imp_right (fun hh => out _ hh (by show (2 : Int32) ≠ 0; decide))), fun p hp o ho => u4 p hp o (out _ ho (by show (3 : Int32) ≠ 0; decide)), ?_, fun p o o' h1 h2 => u6 p o o' (out _ h1 (by show (3 : Int32) ≠ 0; decide)) (out _ h2 (by show (3 : Int32) ≠ 0; decide)), fun y hy hk => u7 y (out y hy (by rw [hk]; decide)) hk⟩
    rw [List.filter_append]
    simpa using u5
  · obtain ⟨c1, c2, c3, c4, c5⟩ := hC
    unfold pr_C
    rw [List.filter_append, List.filter_append, List.filter_append]
    simp
    exact ⟨c1, c2, c3, by omega, c5⟩
  · unfold pr_W at hW ⊢
    rw [List.filter_append, List.filter_append]
    simpa using hW
theorem pw_follow {w np nl nr : Nat} {q : List pn_J} {M N : px_M} (h : pr_D w np nl nr q M N) {p o : Nat} (hp : p < np) (ho : o < np) :
    ∃ M' N' nl' q', fC_Promises_follow M (nI p) (nI o) = some M' ∧ fR_M_resolve N (nI p) 1 (nI o) = some N' ∧ pr_D w np nl' nr q' M' N' ∧ pr_fD M N M' N' := by
  have hP := h.2.1
  obtain ⟨p1, p2, p3, p4, p5, p6, -⟩ := hP
  have hp40 : p < 40 := by omega
  unfold fC_Promises_follow fR_M_resolve
  rw [pl_has p2 (by omega) hp, pi_bq, if_neg (by decide), pl_has p2 (by omega) ho, pi_bq, if_neg (by decide), pn_ck hp40 (by omega), pn_ck hp40 (by omega), pn_ck hp40 (by omega), pn_ck hp40 (by omega), nI_clamp (by omega), ← p6]
  by_cases c : M 35 p = 0
  · rw [if_pos c, if_pos c]
    simp only [px_bn]
    rw [if_neg (show ¬ (1 : Int32) = 0 by decide)]
    by_cases e : p = o
    · subst e
      rw [if_pos rfl, if_pos rfl]
      obtain ⟨M', N', nl', q', a1, a2, a3, a4⟩ := pw_set h hp c (Or.inr rfl) (-3)
      exact ⟨M', N', nl', q', by rw [a1]; rfl, by rw [a2]; rfl, a3, a4⟩
    · have ne : ¬ nI p = nI o := fun hh => e ((nI_eq (by omega) (by omega)).mp hh)
      rw [if_neg ne, if_neg (fun hh => ne hh.symm)]
      have hres := pw_res (M := M) hp40 c
      have h33 : M 33 p = 0 := (h.2.1.2.2.2.2.2.2.2.2.2.2.2.2.2.1 p (by omega)).2.2.2.2 c
      obtain ⟨n1, n2⟩ := pw_no h.2.2.2.2.1 hp c
      have hlen := pw_len h
      have hC0 := h.2.2.2.2.2.1
      have hW0 := h.2.2.2.2.2.2.1
      have hm := pw_mark h hp c
      obtain ⟨hG, hP, hR, hQ, hU, hC, hW, hL⟩ := hm
      obtain ⟨c1, c2, c3, c4, c5⟩ := hC0
      have hle := pz_le 40 (fun p' => upd (M 35) p 1 p' == 1)
      have hr1 := hR.1
      obtain ⟨M', N', a1, a2, a3, a4, a5, a6, a7⟩ := pw_put hQ.1 hQ.2.1 (by omega) (3, nI p, nI o)
      have a1 : fC_Line_put_20 (px_up M 35 p 1) 3 (nI p) (nI o) = some M' := a1
      have a2 : fR_M_addMicro (px_up N 8 p 1) 2 (nI p) (nI o) = some N' := a2
      refine ⟨M', N', nl, q ++ [(3, nI p, nI o)], by rw [a1]; rfl, by rw [a2]; rfl, ⟨pc_G hG (a5 _ (by omega)) (a6 _ (by omega) (by omega)), pc_P hP (fun k _ _ => a5 k (by omega)) (by rw [a5 32 (by omega)]) (by rw [a5 32 (by omega)]) (fun k _ _ => a6 k (by omega) (by omega)) (a7 _ (by omega)) (a7 _ (by omega)), pc_R hR (fun k _ _ => a5 k (by omega)) (a5 _ (by omega)) (by rw [a5 32 (by omega)]) (fun k _ _ => a6 k (by omega) (by omega)) (a7 _ (by omega)), ⟨a3, a4, ?_⟩, pc_U (M := px_up M 35 p 1) ?_ (a5 _ (by omega)) (a5 _ (by omega)) (a5 _ (by omega)) (a5 _ (by omega)) (a5 _ (by omega)), pc_C (M := px_up M 35 p 1) ?_ (a5 _ (by omega)) (a5 _ (by omega)) (a5 _ (by omega)) (a5 _ (by omega)), pc_W (M := px_up M 35 p 1) ?_ (a5 _ (by omega)) (a5 _ (by omega)) (a5 _ (by omega)), pc_L hL (fun k _ _ => a5 k (by omega)) (a6 _ (by omega) (by omega)) (a6 _ (by omega) (by omega)) (a7 _ (by omega)) (a7 _ (by omega))⟩, pr_fD_t (pw_fmark M N p 1 1) (pw_fput a5 a6 a7)⟩
      · rw [a5 33 (by omega), a5 39 (by omega)]
        intro y hy
        rcases List.mem_append.mp hy with hy | hy
        · exact hQ.2.2 y hy
        · simp at hy; subst hy; exact Or.inr (Or.inr ⟨rfl, p, o, hp, ho, rfl, rfl⟩)
      · obtain ⟨u1, u2, u3, u4, u5, u6, u7⟩ := hU
        refine ⟨u1, u2, fun r p' t h1 h2 h3 h4 h5 h6 h7 => u3 r p' t h1 h2 h3 h4 h5 h6 (h7.imp_right (fun hh => ?_)), ?_, ?_, ?_, ?_⟩
        · rcases List.mem_append.mp hh with hh | hh
          · exact hh
          · simp at hh
        · intro t ht o' ho'
          rcases List.mem_append.mp ho' with hh | hh
          · exact u4 t ht o' hh
          · simp only [List.mem_singleton, Prod.mk.injEq, true_and] at hh
            have : t = p := (nI_eq (by omega) (by omega)).mp hh.1
            subst this
            exact ⟨by show upd (M 35) t 1 t = 1; rw [pn_us], h33, n2⟩
        · rw [List.filter_append, List.nodup_append]
          refine ⟨u5, by show ([(3, nI p, nI o)] : List pn_J).Nodup; exact List.pairwise_singleton _ _, ?_⟩
          intro x hx y hy e
          subst e
          simp at hy
          rw [hy.1] at hx
          exact n1 _ (List.mem_filter.mp hx).1
        · intro t o1 o2 g1 g2
          rcases List.mem_append.mp g1 with g1 | g1
          · rcases List.mem_append.mp g2 with g2 | g2
            · exact u6 t o1 o2 g1 g2
            · simp only [List.mem_singleton, Prod.mk.injEq, true_and] at g2
              rw [g2.1] at g1
              exact absurd g1 (n1 o1)
          · rcases List.mem_append.mp g2 with g2 | g2
            · simp only [List.mem_singleton, Prod.mk.injEq, true_and] at g1
              rw [g1.1] at g2
              exact absurd g2 (n1 o2)
            · simp only [List.mem_singleton, Prod.mk.injEq, true_and] at g1 g2
              rw [g1.2, g2.2]
        · intro y hy hk
          rcases List.mem_append.mp hy with hy | hy
          · exact u7 y hy hk
          · simp at hy; subst hy; exact absurd hk (by show ¬ (3 : Int32) = 2; decide)
      · unfold pr_C
        rw [List.filter_append, List.filter_append, List.filter_append]
        show pr_cnt nr (fun r => M 41 r != 16) ≤ np ∧ pr_cnt nr (fun r => M 41 r == 16) + (q.filter (fun x : pn_J => x.1 == 3) ++ [(3, nI p, nI o)]).length ≤ pr_cnt 40 (fun p' => upd (M 35) p 1 p' == 1) ∧ (q.filter (fun x : pn_J => x.1 == 2) ++ []).length + pr_cnt nr (fun r => M 33 (M 39 r).toNatClampNeg == 0) ≤ nr ∧ (q.filter (fun x : pn_J => x.1 == 0) ++ []).length ≤ 60 ∧ nl ≤ pr_cnt 40 (fun p => M 33 p == 2)
        rw [hres, List.length_append, List.append_nil, List.append_nil]
        exact ⟨c1, by simp; omega, c3, c4, c5⟩
      · unfold pr_W at hW0 ⊢
        rw [List.filter_append, List.filter_append]
        show 120 + pr_cnt nr (fun r => M 33 (M 39 r).toNatClampNeg == 0) + (q.filter (fun x : pn_J => x.1 == 2) ++ []).length + (q.filter (fun x : pn_J => x.1 == 3) ++ [(3, nI p, nI o)]).length ≤ w + nr + pr_cnt 40 (fun p' => upd (M 35) p 1 p' == 1)
        rw [hres, List.append_nil, List.length_append]
        simp only [List.length_cons, List.length_nil]
        omega
  · rw [if_neg c, if_neg c]
    exact ⟨M, N, nl, q, rfl, rfl, h, pr_fD_r M N⟩
theorem pw_make {w np nl nr : Nat} {q : List pn_J} {M N : px_M} (h : pr_D w np nl nr q M N) (hn : np < 40) :
    fC_Promises_make M = some (nI np, px_up M 32 7 (nI (np + 1))) ∧ fR_M_makePromise N = some (nI np, px_up N 0 6 (nI (np + 1))) ∧ pr_D w (np + 1) nl nr q (px_up M 32 7 (nI (np + 1))) (px_up N 0 6 (nI (np + 1))) := by
  obtain ⟨hG, hP, hR, hQ, hU, hC, hW, hL⟩ := h
  obtain ⟨p1, p2, p3, p4, p5, p6, p7, p8, p9, p10, p11, p12, p13, p14, p15⟩ := hP
  refine ⟨?_, ?_, ⟨?_, ?_, ?_, ?_, ?_, ?_, hW, hL⟩⟩
  · unfold fC_Promises_make
    simp only [px_bn]
    rw [p2, if_pos (show nI np < (40 : Int32) from nI_lt (b := 40) hn (by omega)), nI_1, pn_up, pn_us, nI_pred]
  · unfold fR_M_makePromise
    simp only [px_bn]
    rw [p3, nI_1]
  · intro r hr
    obtain ⟨g1, g2⟩ := hG r hr
    exact ⟨g1, g2.imp_right (fun ⟨p, a, b⟩ => ⟨p, by omega, b⟩)⟩
  · refine ⟨by omega, by rw [pn_up, pn_us], by rw [pn_up, pn_us], p4, p5, p6, p7, p8, p9, p10, p11, p12, fun i hi => ?_, p14, fun p a b => p15 p (by omega) b⟩
    obtain ⟨p, a, b⟩ := p13 i hi
    exact ⟨p, by omega, b⟩
  · obtain ⟨r1, r2, r3, r4, r5, r6⟩ := hR
    refine ⟨r1, r2, r3, r4, r5, fun r hr => ?_⟩
    obtain ⟨⟨p, a1, a2⟩, ⟨t, b1, b2⟩, c⟩ := r6 r hr
    exact ⟨⟨p, by omega, a2⟩, ⟨t, by omega, b2⟩, c⟩
  · refine ⟨hQ.1, hQ.2.1, fun x hx => ?_⟩
    rcases hQ.2.2 x hx with c | ⟨e, r, p, b1, b2, b3, b4, b5⟩ | ⟨e, p, o, b1, b2, b3⟩
    · exact Or.inl c
    · exact Or.inr (Or.inl ⟨e, r, p, b1, b2, b3, by omega, b5⟩)
    · exact Or.inr (Or.inr ⟨e, p, o, by omega, by omega, b3⟩)
  · obtain ⟨u1, u2, u3, u4, u5, u6, u7⟩ := hU
    have tg : ∀ r t, r < nr → M 40 r = nI t → t < np + 1 → t < np := by
      intro r t h1 h2 h3
      obtain ⟨-, ⟨t', b1, b2⟩, -⟩ := hR.2.2.2.2.2 r h1
      have : t = t' := (nI_eq (by omega) (by omega)).mp (h2.symm.trans b2)
      omega
    have sr : ∀ r t, r < nr → M 39 r = nI t → t < np + 1 → t < np := by
      intro r t h1 h2 h3
      obtain ⟨⟨t', b1, b2, -⟩, -⟩ := hR.2.2.2.2.2 r h1
      have : t = t' := (nI_eq (by omega) (by omega)).mp (h2.symm.trans b2)
      omega
    refine ⟨u1, fun r t h1 h2 h3 h4 => u2 r t h1 h2 h3 (tg r t h1 h3 h4), fun r p t h1 h2 h3 h4 h5 h6 h7 => u3 r p t h1 h2 h3 (tg r t h1 h3 h4) h5 (sr r p h1 h5 h6) h7, fun p hp o ho => u4 p ?_ o ho, u5, u6, u7⟩
    rcases hQ.2.2 _ ho with c | c | ⟨e, p', o', b1, b2, b3, b4⟩
    · exact absurd (show (3 : Int32) = 0 from c.1) (by decide)
    · exact absurd (show (3 : Int32) = 2 from c.1) (by decide)
    · have : p = p' := (nI_eq (by omega) (by omega)).mp b3
      omega
  · obtain ⟨c1, c2, c3, c4, c5⟩ := hC
    exact ⟨Nat.le_succ_of_le c1, c2, c3, c4, c5⟩
