/-! Counting; settle. -/
theorem pz_s (n : Nat) (p : Nat → Bool) : pr_cnt (n + 1) p = pr_cnt n p + if p n then 1 else 0 := by
  unfold pr_cnt
  rw [List.range_succ, List.filter_append, List.length_append]
  by_cases c : p n <;> simp [c]
theorem pz_c {n : Nat} {p q : Nat → Bool} (h : ∀ i, i < n → p i = q i) : pr_cnt n p = pr_cnt n q := by
  induction n with
  | zero => rfl
  | succ n ih => rw [pz_s, pz_s, ih (fun i hi => h i (by omega)), h n (by omega)]
theorem pz_le (n : Nat) (p : Nat → Bool) : pr_cnt n p ≤ n := by
  unfold pr_cnt
  have := List.length_filter_le p (List.range n)
  simpa using this
theorem pz_a {n : Nat} {p a b : Nat → Bool} (h : ∀ i, i < n → (p i = (a i || b i)) ∧ (a i && b i) = false) : pr_cnt n p = pr_cnt n a + pr_cnt n b := by
  induction n with
  | zero => rfl
  | succ n ih =>
    rw [pz_s, pz_s, pz_s, ih (fun i hi => h i (by omega))]
    obtain ⟨h1, h2⟩ := h n (by omega)
    rw [h1]
    cases ha : a n <;> cases hb : b n <;> simp_all <;> omega
theorem pz_1 {n k : Nat} (hk : k < n) : pr_cnt n (fun i => i == k) = 1 := by
  induction n with
  | zero => omega
  | succ n ih =>
    rw [pz_s]
    by_cases e : n = k
    · subst e
      have : pr_cnt n (fun i => i == n) = pr_cnt n (fun _ => false) := pz_c (fun i hi => by simp; omega)
      rw [this]
      simp [pr_cnt]
    · rw [ih (by omega)]
      simp [e]
/-- one more -/
theorem pz_u {n k : Nat} {p q : Nat → Bool} (hk : k < n) (h : ∀ i, i < n → i ≠ k → q i = p i) (h0 : p k = false) (h1 : q k = true) : pr_cnt n q = pr_cnt n p + 1 := by
  rw [← pz_1 hk]
  refine pz_a (fun i hi => ?_)
  by_cases e : i = k
  · subst e; simp [h0, h1]
  · simp [e, h i hi e]
theorem pz_n {n : Nat} {p q : Nat → Bool} (h : ∀ i, i < n → q i = !p i) : pr_cnt n p + pr_cnt n q = n := by
  induction n with
  | zero => rfl
  | succ n ih =>
    rw [pz_s, pz_s, h n (by omega)]
    have := ih (fun i hi => h i (by omega))
    cases p n <;> simp <;> omega
theorem pz_L (S : Nat → Int32) (p : Int32) (n : Nat) : (pj_L S p 0 n).length = pr_cnt n (fun r => S r == p) := by
  unfold pj_L pr_cnt
  rw [List.range_eq_range']
theorem pz_q {q : List pn_J} (h : ∀ x ∈ q, x.1 = 0 ∨ x.1 = 2 ∨ x.1 = 3) : q.length = (q.filter (fun x => x.1 == 0)).length + (q.filter (fun x => x.1 == 2)).length + (q.filter (fun x => x.1 == 3)).length := by
  induction q with
  | nil => rfl
  | cons x q ih =>
    have ih := ih (fun y hy => h y (List.mem_cons_of_mem _ hy))
    rcases h x List.mem_cons_self with e | e | e <;> simp [List.filter_cons, e] <;> omega
theorem pz_k {np nr : Nat} {q : List pn_J} {M N : px_M} (h : pr_Q np nr q M N) : ∀ x ∈ q, x.1 = 0 ∨ x.1 = 2 ∨ x.1 = 3 := by
  intro x hx
  rcases h.2.2 x hx with c | c | c
  · exact Or.inl c.1
  · exact Or.inr (Or.inl c.1)
  · exact Or.inr (Or.inr c.1)
theorem pz_2a (L : List Nat) : (pj_2 L).filter (fun x => x.1 == 2) = pj_2 L := List.filter_eq_self.mpr (fun x hx => by
  unfold pj_2 at hx; rw [List.mem_map] at hx; obtain ⟨r, -, rfl⟩ := hx; rfl)
theorem pz_2b (L : List Nat) : (pj_2 L).filter (fun x => x.1 != 0) = pj_2 L := List.filter_eq_self.mpr (fun x hx => by
  unfold pj_2 at hx; rw [List.mem_map] at hx; obtain ⟨r, -, rfl⟩ := hx; rfl)
theorem pz_2c (L : List Nat) : (pj_2 L).filter (fun x => x.1 == 3) = [] := List.filter_eq_nil_iff.mpr (fun x hx => by
  unfold pj_2 at hx; rw [List.mem_map] at hx; obtain ⟨r, -, rfl⟩ := hx; simp)
theorem pz_2d (L : List Nat) : (pj_2 L).filter (fun x => x.1 == 0) = [] := List.filter_eq_nil_iff.mpr (fun x hx => by
  unfold pj_2 at hx; rw [List.mem_map] at hx; obtain ⟨r, -, rfl⟩ := hx; simp)
theorem pz_2l (L : List Nat) : (pj_2 L).length = L.length := List.length_map _
theorem pz_2m {L : List Nat} {x : pn_J} : x ∈ pj_2 L ↔ ∃ r ∈ L, x = (2, nI r, 0) := by
  unfold pj_2
  rw [List.mem_map]
  constructor
  · rintro ⟨r, h1, h2⟩; exact ⟨r, h1, h2.symm⟩
  · rintro ⟨r, h1, h2⟩; exact ⟨r, h1, h2.symm⟩
theorem pz_2cj (L : List Nat) : (pj_2 L).map pr_cj = pj_1 L := by
  unfold pj_2 pj_1
  rw [List.map_map]
  rfl
theorem pz_2n {L : List Nat} (h : L.Nodup) (hb : ∀ r ∈ L, r < 2 ^ 31) : (pj_2 L).Nodup := by
  unfold pj_2
  induction L with
  | nil => simp
  | cons r L ih =>
    rw [List.nodup_cons] at h
    rw [List.map_cons, List.nodup_cons]
    refine ⟨fun hm => ?_, ih h.2 (fun r hr => hb r (List.mem_cons_of_mem _ hr))⟩
    rw [List.mem_map] at hm
    obtain ⟨r', h1, h2⟩ := hm
    simp only [Prod.mk.injEq, true_and, and_true] at h2
    have := (nI_eq (hb r' (List.mem_cons_of_mem _ h1)) (hb r List.mem_cons_self)).mp h2
    subst this
    exact h.1 h1
theorem pw_settle {w np nl nr : Nat} {q : List pn_J} {M N : px_M} (h : pr_D w np nl nr q M N) {p : Nat} (hp : p < np) (h33 : M 33 p = 0) (h35 : M 35 p = 1) {s : Int32} (hs : s = 1 ∨ s = 2) (v : Int32) (ha : ∀ o, (3, nI p, o) ∉ q)
    (hb : ∀ r, r < nr → M 41 r = 16 → M 40 r = nI p → (∀ p', p' < np → M 39 r = nI p' → M 33 p' ≠ 0) ∧ (2, nI r, 0) ∉ q) :
    ∃ M' N' nl' q', fC_Promises_settle M (nI p) s v = some M' ∧ fR_M_settle N (nI p) s v = some N' ∧ pr_D w np nl' nr q' M' N' ∧ pr_fD M N M' N' := by
  obtain ⟨hG, hP, hR, hQ, hU, hC, hW, hL⟩ := h
  have s0 : s ≠ 0 := by rcases hs with rfl | rfl <;> decide
  obtain ⟨p1, p2, p3, p4, p5, p6, p7, p8, p9, p10, p11, p12, p13, p14, p15⟩ := hP
  obtain ⟨r1, r2, r3, r4, r5, r6⟩ := hR
  obtain ⟨c1, c2, c3, c4, c5⟩ := hC
  have hp40 : p < 40 := by omega
  have hsrc : ∀ r, r < nr → ∃ p', p' < np ∧ M 39 r = nI p' := fun r hr => by
    obtain ⟨⟨p', a1, a2, -⟩, -⟩ := r6 r hr; exact ⟨p', a1, a2⟩
  have cntw : pr_cnt nr (fun r => M 33 (M 39 r).toNatClampNeg == 0) = pr_cnt nr (fun r => upd (M 33) p s (M 39 r).toNatClampNeg == 0) + pr_cnt nr (fun r => M 39 r == nI p) := by
    refine pz_a (fun r hr => ?_)
    obtain ⟨p', a1, a2⟩ := hsrc r hr
    rw [a2, nI_clamp (by omega)]
    by_cases e : p' = p
    · subst e; simp [pn_us, h33, s0]
    · have : ¬ nI p' = nI p := fun hh => e ((nI_eq (by omega) (by omega)).mp hh)
      simp [pn_ue e, this]
  have hlen := pz_q (pz_k hQ)
  have hcap : q.length + (pj_L (M 39) (nI p) 0 nr).length ≤ 180 := by
    rw [pz_L]
    have := pz_le 40 (fun p => M 35 p == 1)
    omega
  have cntr : pr_cnt 40 (fun p => M 33 p == 2) ≤ pr_cnt 40 (fun p' => upd (M 33) p s p' == 2) ∧ (s = 2 → pr_cnt 40 (fun p => M 33 p == 2) + 1 ≤ pr_cnt 40 (fun p' => upd (M 33) p s p' == 2)) := by
    rcases hs with rfl | rfl
    · refine ⟨Nat.le_of_eq (pz_c (fun i hi => ?_)), fun hh => absurd hh (by decide)⟩
      by_cases e : i = p
      · subst e; simp [pn_us, h33]
      · simp [pn_ue e]
    · have : pr_cnt 40 (fun p' => upd (M 33) p 2 p' == 2) = pr_cnt 40 (fun p => M 33 p == 2) + 1 := pz_u hp40 (fun i _ e => by simp [pn_ue e]) (by simp [h33]) (by simp [pn_us])
      exact ⟨by omega, fun _ => by omega⟩
  -- the class
  have hl0 : lineC (px_up (px_up M 33 p s) 34 p v) 20 180 q := hQ.1
  obtain ⟨M1, k1, k2, k3⟩ := pj_loopC (p := p) (s := s) r1 nr 0 81 (px_up (px_up M 33 p s) 34 p v) q (by omega) (by omega) r2 hl0 hcap
  have k2 : lineC M1 20 180 (q ++ pj_2 (pj_L (M 39) (nI p) 0 nr)) := k2
  have k1 : px_fx3 gC_Promises_settle_L17 81 (px_up (px_up M 33 p s) 34 p v) (nI p) s 0 = px_fx3 gC_Promises_settle_L17 (81 - nr) M1 (nI p) s (nI nr) := k1
  have m32 : M1 32 = M 32 := k3 32 (by omega)
  have m33 : M1 33 = upd (M 33) p s := k3 33 (by omega)
  have m34 : M1 34 = upd (M 34) p v := k3 34 (by omega)
  have m35 : M1 35 = M 35 := k3 35 (by omega)
  have m36 : M1 36 = M 36 := k3 36 (by omega)
  have m37 : M1 37 = M 37 := k3 37 (by omega)
  have m38 : M1 38 = M 38 := k3 38 (by omega)
  have m39 : M1 39 = M 39 := k3 39 (by omega)
  have m40 : M1 40 = M 40 := k3 40 (by omega)
  have m41 : M1 41 = M 41 := k3 41 (by omega)
  have m42 : M1 42 = M 42 := k3 42 (by omega)
  have eC : fC_Promises_settle M (nI p) s v = if s = 2 ∧ M 36 p = 0 then some (px_up (px_up M1 38 nl (nI p)) 32 9 (nI (nl + 1))) else some M1 := by
    unfold fC_Promises_settle
    simp only [px_bn]
    rw [pn_ck hp40 (by omega), pn_ck hp40 (by omega), nI_clamp (by omega), k1]
    obtain ⟨n, hn⟩ : ∃ n, 81 - nr = n + 1 := ⟨80 - nr, by omega⟩
    rw [hn]
    show gC_Promises_settle_L17 (px_fx3 gC_Promises_settle_L17 n) M1 (nI p) s (nI nr) = _
    unfold gC_Promises_settle_L17
    simp only [px_bn]
    rw [m32, r2, if_pos (nI_le (Nat.le_refl _) (by omega)), pn_ck hp40 (by omega), nI_clamp (by omega), m36]
    by_cases c : s = 2
    · rw [if_pos c]
      by_cases d : M 36 p = 0
      · have := (cntr.2 c)
        have := pz_le 40 (fun p' => upd (M 33) p s p' == 2)
        rw [if_pos d, if_pos (show s = 2 ∧ M 36 p = 0 from ⟨c, d⟩), p11, if_neg (show ¬ (40 : Int32) ≤ nI nl from nI_ge (b := 40) (by omega) (by omega)), pn_ck (show nl < 40 by omega) (by omega), nI_clamp (by omega)]
        rw [show (px_up M1 38 nl (nI p)) 32 9 = nI nl from (congrFun m32 9).trans p11, nI_1]
      · rw [if_neg d, if_neg (fun hh => d hh.2)]
    · rw [if_neg c, if_neg (fun hh => c hh.1)]
  -- the reference
  have hN0 : ∀ N0 : px_M, N0 0 14 = N 0 14 → N0 12 = N 12 → N0 16 = N 16 → pr_ring N0 (q.map pr_cj) → ∃ N', px_fx2 gR_M_settle_L51 101 N0 (nI p) 0 = some N' ∧ pr_ring N' (q.map pr_cj ++ pj_1 (pj_L (M 39) (nI p) 0 nr)) ∧ (∀ k, k ≠ 0 → (k < 16 ∨ 20 ≤ k) → N' k = N0 k) ∧ (∀ i, i ≠ 21 → N' 0 i = N0 0 i) ∧ ∀ r, N' 16 r = if r < nr ∧ M 39 r = nI p then 0 else N 16 r := by
    intro N0 e14 e12 e16 hr0
    obtain ⟨N', g1, g2, g3, g4, g5⟩ := pj_loopR (p := p) r1 nr 0 101 N0 (q.map pr_cj) (by omega) (by omega) (by rw [e14, r3]) hr0 (by simp; omega) (fun r _ hr hh => by
      rw [e12, ← r4] at hh
      obtain ⟨⟨p', a1, a2, a3⟩, -⟩ := r6 r hr
      have : p' = p := (nI_eq (by omega) (by omega)).mp (a2.symm.trans hh)
      subst this
      rw [e16, a3, if_pos h33])
    refine ⟨N', g1, ?_, g3, g4, fun r => ?_⟩
    · rw [e12, ← r4] at g2; exact g2
    · rw [g5 r, e12, e16, ← r4]
      by_cases c : r < nr ∧ M 39 r = nI p
      · rw [if_pos c, if_pos ⟨Nat.zero_le _, c⟩]
      · rw [if_neg c, if_neg (fun hh => c hh.2)]
  have eR : ∃ N', fR_M_settle N (nI p) s v = some N' ∧ pr_ring N' (q.map pr_cj ++ pj_1 (pj_L (M 39) (nI p) 0 nr)) ∧ (∀ k, k ≠ 0 → (k < 6 ∨ 8 ≤ k ∧ k < 11 ∨ 12 ≤ k ∧ k < 16 ∨ 20 ≤ k) → N' k = N k) ∧ (∀ i, i ≠ 12 → i ≠ 21 → N' 0 i = N 0 i) ∧ (∀ r, N' 16 r = if r < nr ∧ M 39 r = nI p then 0 else N 16 r) ∧ N' 6 = upd (N 6) p s ∧ N' 7 = upd (N 7) p v ∧ N' 11 = (if s = 2 ∧ M 36 p = 0 then upd (N 11) nl (nI p) else N 11) ∧ N' 0 12 = (if s = 2 ∧ M 36 p = 0 then nI (nl + 1) else nI nl) := by
    unfold fR_M_settle
    simp only [px_bn]
    rw [pn_ck hp40 (by omega), pn_ck hp40 (by omega), nI_clamp (by omega)]
    have plain : ∃ N', px_fx2 gR_M_settle_L51 101 (px_up (px_up N 6 p s) 7 p v) (nI p) 0 = some N' ∧ pr_ring N' (q.map pr_cj ++ pj_1 (pj_L (M 39) (nI p) 0 nr)) ∧ (∀ k, k ≠ 0 → (k < 6 ∨ 8 ≤ k ∧ k < 11 ∨ 12 ≤ k ∧ k < 16 ∨ 20 ≤ k) → N' k = N k) ∧ (∀ i, i ≠ 12 → i ≠ 21 → N' 0 i = N 0 i) ∧ (∀ r, N' 16 r = if r < nr ∧ M 39 r = nI p then 0 else N 16 r) ∧ N' 6 = upd (N 6) p s ∧ N' 7 = upd (N 7) p v ∧ N' 11 = N 11 ∧ N' 0 12 = nI nl := by
      obtain ⟨N', g1, g2, g3, g4, g5⟩ := hN0 (px_up (px_up N 6 p s) 7 p v) rfl rfl rfl hQ.2.1
      refine ⟨N', g1, g2, fun k k0 hk => ?_, fun i _ hi => (g4 i hi).trans rfl, g5, (g3 6 (by omega) (by omega)).trans rfl, (g3 7 (by omega) (by omega)).trans rfl, (g3 11 (by omega) (by omega)).trans rfl, ((g4 12 (by omega)).trans rfl).trans p12⟩
      rw [g3 k k0 (by omega), pn_un (by omega), pn_un (by omega)]
    by_cases c : s = 2
    · rw [if_pos c, pn_ck hp40 (by omega), show (px_up (px_up N 6 p s) 7 p v) 9 = M 36 from p7.symm]
      by_cases d : M 36 p = 0
      · have := (cntr.2 c)
        have := pz_le 40 (fun p' => upd (M 33) p s p' == 2)
        rw [if_pos d, show (px_up (px_up N 6 p s) 7 p v) 0 12 = nI nl from p12, pn_ck (show nl < 40 by omega) (by omega), nI_clamp (by omega), show (px_up (px_up (px_up N 6 p s) 7 p v) 11 nl (nI p)) 0 12 = nI nl from p12, nI_1]
        simp only [if_pos (show s = 2 ∧ M 36 p = 0 from ⟨c, d⟩)]
        obtain ⟨N', g1, g2, g3, g4, g5⟩ := hN0 (px_up (px_up (px_up (px_up N 6 p s) 7 p v) 11 nl (nI p)) 0 12 (nI (nl + 1))) rfl rfl rfl hQ.2.1
        refine ⟨N', g1, g2, fun k k0 hk => ?_, fun i h12 hi => ?_, g5, (g3 6 (by omega) (by omega)).trans rfl, (g3 7 (by omega) (by omega)).trans rfl, (g3 11 (by omega) (by omega)).trans rfl, (g4 12 (by omega)).trans (by simp [px_up, upd])⟩
        · rw [g3 k k0 (by omega), pn_un k0, pn_un (by omega), pn_un (by omega), pn_un (by omega)]
        · rw [g4 i hi, pn_up, pn_ue h12]; rfl
      · simp only [if_neg (show ¬ (s = 2 ∧ M 36 p = 0) from fun hh => d hh.2)]
        rw [if_neg d]
        exact plain
    · simp only [if_neg (show ¬ (s = 2 ∧ M 36 p = 0) from fun hh => c hh.1)]
      rw [if_neg c]
      exact plain
  obtain ⟨N', g1, g2, g3, g4, g5, g6, g7, g11, g12⟩ := eR
  have ring' : pr_ring N' ((q ++ pj_2 (pj_L (M 39) (nI p) 0 nr)).map pr_cj) := by rw [List.map_append, pz_2cj]; exact g2
  -- the lists of the two
  have key : ∀ (M' : px_M) (nl' : Nat), (∀ k, k ≠ 32 → k ≠ 38 → M' k = M1 k) → (∀ i, i ≠ 9 → M' 32 i = M 32 i) → M' 32 9 = nI nl' → N' 0 12 = nI nl' → M' 38 = N' 11 → nl' ≤ pr_cnt 40 (fun p' => upd (M 33) p s p' == 2) → (∀ i, i < nl' → ∃ p', p' < np ∧ M' 38 i = nI p') → pr_D w np nl' nr (q ++ pj_2 (pj_L (M 39) (nI p) 0 nr)) M' N' ∧ pr_fD M N M' N' := by
    intro M' nl' f1 f2 f3 f4 f5 f6 f7
    have n33 : M' 33 = upd (M 33) p s := (f1 33 (by omega) (by omega)).trans m33
    have n35 : M' 35 = M 35 := (f1 35 (by omega) (by omega)).trans m35
    have n36 : M' 36 = M 36 := (f1 36 (by omega) (by omega)).trans m36
    have n37 : M' 37 = M 37 := (f1 37 (by omega) (by omega)).trans m37
    have n39 : M' 39 = M 39 := (f1 39 (by omega) (by omega)).trans m39
    have n40 : M' 40 = M 40 := (f1 40 (by omega) (by omega)).trans m40
    have n41 : M' 41 = M 41 := (f1 41 (by omega) (by omega)).trans m41
    have n42 : M' 42 = M 42 := (f1 42 (by omega) (by omega)).trans m42
    have nz : ∀ t, (M' 33 t ≠ 0 ↔ t = p ∨ M 33 t ≠ 0) := by
      intro t
      rw [n33]
      by_cases e : t = p
      · subst e; simp [pn_us, s0]
      · simp [pn_ue e, e]
    refine ⟨⟨pc_G hG ((f1 6 (by omega) (by omega)).trans (k3 6 (by omega))) (g3 5 (by omega) (by omega)), ?_, ?_, ?_, ?_, ?_, ?_, ?_⟩, ?_⟩
    · refine ⟨p1, by rw [f2 7 (by omega)]; exact p2, by rw [g4 6 (by omega) (by omega)]; exact p3, by rw [n33, g6, p4], by rw [f1 34 (by omega) (by omega), m34, g7, p5], by rw [n35, g3 8 (by omega) (by omega)]; exact p6, by rw [n36, g3 9 (by omega) (by omega)]; exact p7, by rw [n37, g3 10 (by omega) (by omega)]; exact p8, f5, ?_, f3, f4, f7, ?_, ?_⟩
      · have := pz_le 40 (fun p' => upd (M 33) p s p' == 2); omega
      · intro t ht
        obtain ⟨a1, a2, a3, a4, a5⟩ := p14 t ht
        rw [n33, n35, n36, n37]
        by_cases e : t = p
        · subst e
          rw [pn_us]
          refine ⟨Or.inr hs, a2, a3, a4, fun hh => ?_⟩
          rw [h35] at hh
          exact absurd hh (by decide)
        · rw [pn_ue e]
          exact ⟨a1, a2, a3, a4, a5⟩
      · intro t h1 h2
        rw [n33, n35, n36, n37, pn_ue (show t ≠ p by omega)]
        exact p15 t h1 h2
    · refine ⟨r1, by rw [f2 14 (by omega)]; exact r2, by rw [g4 14 (by omega) (by omega)]; exact r3, by rw [n39, g3 12 (by omega) (by omega)]; exact r4, by rw [n40, g3 15 (by omega) (by omega)]; exact r5, ?_⟩
      intro r hr
      obtain ⟨⟨p', a1, a2, a3⟩, b, c⟩ := r6 r hr
      rw [n39, n40, n41, n42, g3 13 (by omega) (by omega), g3 14 (by omega) (by omega)]
      refine ⟨⟨p', a1, a2, ?_⟩, b, c⟩
      rw [g5 r, n33, a2]
      by_cases e : p' = p
      · subst e
        rw [if_pos ⟨hr, rfl⟩, pn_us, if_neg s0]
      · have : ¬ nI p' = nI p := fun hh => e ((nI_eq (by omega) (by omega)).mp hh)
        rw [if_neg (fun hh => this hh.2), pn_ue e, a3]
    · refine ⟨lineC_c k2 (f1 _ (by omega) (by omega)) (f1 _ (by omega) (by omega)) (f1 _ (by omega) (by omega)) (f1 _ (by omega) (by omega)), ring', ?_⟩
      intro x hx
      rcases List.mem_append.mp hx with hx | hx
      · rcases hQ.2.2 x hx with c | ⟨e, r, p', b1, b2, b3, b4, b5⟩ | c
        · exact Or.inl c
        · exact Or.inr (Or.inl ⟨e, r, p', b1, b2, by rw [n39]; exact b3, b4, (nz p').mpr (Or.inr b5)⟩)
        · exact Or.inr (Or.inr c)
      · obtain ⟨r, b1, rfl⟩ := pz_2m.mp hx
        obtain ⟨-, b2, b3⟩ := pj_L_m.mp b1
        exact Or.inr (Or.inl ⟨rfl, r, p, by omega, rfl, by rw [n39]; exact b3, hp, (nz p).mpr (Or.inl rfl)⟩)
    · obtain ⟨u1, u2, u3, u4, u5, u6, u7⟩ := hU
      unfold pr_U
      rw [n35, n39, n40, n41]
      refine ⟨u1, u2, ?_, ?_, ?_, ?_, ?_⟩
      · intro r p' t h1 h2 h3 h4 h5 h6 h7
        have old : M 33 p' = 0 ∨ (2, nI r, 0) ∈ q := by
          rcases h7 with h7 | h7
          · left
            by_cases e : M 33 p' = 0
            · exact e
            · exact absurd h7 ((nz p').mpr (Or.inr e))
          · rcases List.mem_append.mp h7 with h7 | h7
            · exact Or.inr h7
            · obtain ⟨r', b1, b2⟩ := pz_2m.mp h7
              obtain ⟨-, b3, b4⟩ := pj_L_m.mp b1
              simp only [Prod.mk.injEq, true_and, and_true] at b2
              have : r = r' := (nI_eq (by omega) (by omega)).mp b2
              subst this
              have : p' = p := (nI_eq (by omega) (by omega)).mp (h5.symm.trans b4)
              subst this
              exact Or.inl h33
        have h0 := u3 r p' t h1 h2 h3 h4 h5 h6 old
        have tp : t ≠ p := by
          intro e
          subst e
          obtain ⟨d1, d2⟩ := hb r h1 h2 h3
          rcases old with o | o
          · exact d1 p' h6 h5 o
          · exact d2 o
        rw [n33, pn_ue tp, h0]
      · intro t ht o ho
        have ho : (3, nI t, o) ∈ q := by
          rcases List.mem_append.mp ho with ho | ho
          · exact ho
          · obtain ⟨r, -, b⟩ := pz_2m.mp ho
            simp at b
        obtain ⟨d1, d2, d3⟩ := u4 t ht o ho
        have tp : t ≠ p := fun e => ha o (e ▸ ho)
        exact ⟨d1, by rw [n33, pn_ue tp, d2], d3⟩
      · rw [List.filter_append, pz_2b, List.nodup_append]
        refine ⟨u5, pz_2n (pj_L_n _ _ _ _) (fun r hr => by obtain ⟨-, b, -⟩ := pj_L_m.mp hr; omega), ?_⟩
        intro x hx y hy e
        subst e
        obtain ⟨r, b1, rfl⟩ := pz_2m.mp hy
        obtain ⟨-, b2, b3⟩ := pj_L_m.mp b1
        rcases hQ.2.2 _ (List.mem_filter.mp hx).1 with c | ⟨e, r', p', d1, d2, d3, d4, d5⟩ | c
        · exact absurd (show (2 : Int32) = 0 from c.1) (by decide)
        · have : r = r' := (nI_eq (by omega) (by omega)).mp d2
          subst this
          have : p' = p := (nI_eq (by omega) (by omega)).mp (d3.symm.trans b3)
          subst this
          exact d5 h33
        · exact absurd (show (2 : Int32) = 3 from c.1) (by decide)
      · intro t o o' h1 h2
        have out : ∀ o, (3, nI t, o) ∈ q ++ pj_2 (pj_L (M 39) (nI p) 0 nr) → (3, nI t, o) ∈ q := by
          intro o ho
          rcases List.mem_append.mp ho with ho | ho
          · exact ho
          · obtain ⟨r, -, b⟩ := pz_2m.mp ho
            simp at b
        exact u6 t o o' (out o h1) (out o' h2)
      · intro x hx hk
        rcases List.mem_append.mp hx with hx | hx
        · exact u7 x hx hk
        · obtain ⟨r, -, rfl⟩ := pz_2m.mp hx; rfl
    · unfold pr_C
      rw [n41, n35, n33, n39, List.filter_append, List.filter_append, List.filter_append, pz_2a, pz_2c, pz_2d, List.append_nil, List.append_nil, List.length_append, pz_2l, pz_L]
      refine ⟨c1, c2, by omega, c4, f6⟩
    · unfold pr_W at hW ⊢
      rw [n35, n33, n39, List.filter_append, List.filter_append, pz_2a, pz_2c, List.append_nil, List.length_append, pz_2l, pz_L]
      omega
    · exact pc_L hL (fun k _ _ => by
        by_cases e : k = 32
        · omega
        · rw [f1 k e (by omega), k3 k (by omega), pn_un (by omega), pn_un (by omega)]) (g3 34 (by omega) (by omega)) (g3 35 (by omega) (by omega)) (g4 48 (by omega) (by omega)) (g4 50 (by omega) (by omega))
    · refine ⟨fun k _ hk => ?_, fun k k0 hk => g3 k k0 (by omega), fun i hi => g4 i (by omega) (by omega)⟩
      rw [f1 k (by omega) (by omega), k3 k (by omega), pn_un (by omega), pn_un (by omega)]
  by_cases c : s = 2 ∧ M 36 p = 0
  · rw [if_pos c] at eC g11 g12
    have := cntr.2 c.1
    have kk := key (px_up (px_up M1 38 nl (nI p)) 32 9 (nI (nl + 1))) (nl + 1) (fun k h1 h2 => by rw [pn_un h1, pn_un h2]) (fun i hi => by
      rw [pn_up, pn_ue hi, pn_un (by omega), m32]) (by rw [pn_up, pn_us]) g12 (by rw [pn_un (by omega), pn_up, m38, g11, p9]) (by omega) (fun i hi => by
        rw [pn_un (by omega), pn_up, m38]
        by_cases e : i = nl
        · subst e; rw [pn_us]; exact ⟨p, hp, rfl⟩
        · rw [pn_ue e]; exact p13 i (by omega))
    exact ⟨_, N', _, _, eC, g1, kk.1, kk.2⟩
  · rw [if_neg c] at eC g11 g12
    have kk := key M1 nl (fun k _ _ => rfl) (fun i _ => by rw [m32]) (by rw [m32]; exact p11) g12 (by rw [m38, g11, p9]) (by have := cntr.1; omega) (by rw [m38]; exact p13)
    exact ⟨_, N', _, _, eC, g1, kk.1, kk.2⟩
