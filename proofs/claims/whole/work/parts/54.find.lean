/-! Timers: finding one by its number; due. -/
theorem pf_c1 {M : px_M} {t : Int32} {p : Nat} (hp : p < 12) (he : M 44 p = t) (hn : ∀ p', p' < p → M 44 p' ≠ t) : ∀ n k, k ≤ p → p < k + n → px_fx2 gC_Timers_find_L8 n M t (nI k) = some (nI p) := by
  intro n
  induction n with
  | zero => intro k h1 h2; omega
  | succ n ih =>
    intro k h1 h2
    show gC_Timers_find_L8 (px_fx2 gC_Timers_find_L8 n) M t (nI k) = _
    unfold gC_Timers_find_L8
    rw [if_neg (show ¬ (12 : Int32) ≤ nI k from nI_ge (a := k) (b := 12) (by omega) (by omega)), pn_ck (show k < 12 by omega) (by omega), nI_clamp (by omega)]
    by_cases e : k = p
    · subst e; rw [if_pos he]
    · rw [if_neg (hn k (by omega)), nI_1]
      exact ih (k + 1) (by omega) (by omega)
theorem pf_c0 {M : px_M} {t : Int32} (hn : ∀ p, p < 12 → M 44 p ≠ t) : ∀ n k, k ≤ 12 → 12 < k + n → px_fx2 gC_Timers_find_L8 n M t (nI k) = some (-1) := by
  intro n
  induction n with
  | zero => intro k h1 h2; omega
  | succ n ih =>
    intro k h1 h2
    show gC_Timers_find_L8 (px_fx2 gC_Timers_find_L8 n) M t (nI k) = _
    unfold gC_Timers_find_L8
    by_cases e : k = 12
    · subst e; rw [if_pos (show (12 : Int32) ≤ nI 12 by decide)]
    · rw [if_neg (show ¬ (12 : Int32) ≤ nI k from nI_ge (a := k) (b := 12) (by omega) (by omega)), pn_ck (show k < 12 by omega) (by omega), nI_clamp (by omega), if_neg (hn k (by omega)), nI_1]
      exact ih (k + 1) (by omega) (by omega)
theorem pf_r1 {N : px_M} {t : Int32} {i c : Nat} (hc : c ≤ 12) (hs : N 0 32 = nI c) (hi : i < c) (he : N 24 i = t) (hn : ∀ i', i' < i → N 24 i' ≠ t) : ∀ n k, k ≤ i → i < k + n → px_fx2 gR_M_timerAt_L2 n N t (nI k) = some (nI i) := by
  intro n
  induction n with
  | zero => intro k h1 h2; omega
  | succ n ih =>
    intro k h1 h2
    show gR_M_timerAt_L2 (px_fx2 gR_M_timerAt_L2 n) N t (nI k) = _
    unfold gR_M_timerAt_L2
    rw [hs, if_neg (nI_ge (a := k) (b := c) (by omega) (by omega)), pn_ck (show k < 12 by omega) (by omega), nI_clamp (by omega)]
    by_cases e : k = i
    · subst e; rw [if_pos he]
    · rw [if_neg (hn k (by omega)), nI_1]
      exact ih (k + 1) (by omega) (by omega)
theorem pf_r0 {N : px_M} {t : Int32} {c : Nat} (hc : c ≤ 12) (hs : N 0 32 = nI c) (hn : ∀ i, i < c → N 24 i ≠ t) : ∀ n k, k ≤ c → c < k + n → px_fx2 gR_M_timerAt_L2 n N t (nI k) = some (-1) := by
  intro n
  induction n with
  | zero => intro k h1 h2; omega
  | succ n ih =>
    intro k h1 h2
    show gR_M_timerAt_L2 (px_fx2 gR_M_timerAt_L2 n) N t (nI k) = _
    unfold gR_M_timerAt_L2
    rw [hs]
    by_cases e : k = c
    · subst e; rw [if_pos (nI_le (Nat.le_refl _) (by omega))]
    · rw [if_neg (nI_ge (a := k) (b := c) (by omega) (by omega)), pn_ck (show k < 12 by omega) (by omega), nI_clamp (by omega), if_neg (hn k (by omega)), nI_1]
      exact ih (k + 1) (by omega) (by omega)
theorem pf_inj {tm : List (Nat × Nat)} (h : (tm.map Prod.fst).Pairwise (· < ·)) {i k : Nat} (hi : i < tm.length) (hk : k < tm.length) (e : tm[i].1 = tm[k].1) : i = k := by
  rw [List.pairwise_iff_getElem] at h
  rcases Nat.lt_trichotomy i k with c | c | c
  · have := h i k (by simpa using hi) (by simpa using hk) c
    simp only [List.getElem_map] at this
    omega
  · exact c
  · have := h k i (by simpa using hk) (by simpa using hi) c
    simp only [List.getElem_map] at this
    omega
theorem pf_some {made : Nat} {tm : List (Nat × Nat)} {M N : px_M} (h : pr_M made tm M N) (hm : made < 2 ^ 31) {i : Nat} (hi : i < tm.length) : fC_Timers_find M (nI tm[i].1) = some (nI tm[i].2) ∧ fR_M_timerAt N (nI tm[i].1) = some (nI i) := by
  obtain ⟨m1, m2, m3, m4, m5, m6, m7, m8, m9⟩ := h
  obtain ⟨a1, a2, a3, a4, a5, -⟩ := m8 i hi
  constructor
  · unfold fC_Timers_find
    rw [if_neg (nI_ne0 a1 (by omega))]
    refine pf_c1 a3 a5 (fun p' hp' e => ?_) 13 0 (by omega) (by omega)
    rcases m9 p' (by omega) with e0 | ⟨k, hk, e1⟩
    · rw [e0] at e; exact nI_ne0 a1 (by omega) e.symm
    · obtain ⟨b1, b2, b3, b4, b5, -⟩ := m8 k hk
      rw [← e1, b5] at e
      have e2 : tm[k].1 = tm[i].1 := (nI_eq (by omega) (by omega)).mp e
      have e3 := pf_inj m6 hk hi e2
      subst e3
      omega
  · unfold fR_M_timerAt
    refine pf_r1 m1 m2 hi a4 (fun i' hi' e => ?_) 13 0 (by omega) (by omega)
    obtain ⟨b1, b2, b3, b4, -⟩ := m8 i' (by omega)
    rw [b4] at e
    have e3 := pf_inj m6 (show i' < tm.length by omega) hi ((nI_eq (by omega) (by omega)).mp e)
    omega
theorem pf_none {made : Nat} {tm : List (Nat × Nat)} {M N : px_M} (h : pr_M made tm M N) {a : Int32} (hn : ∀ (i : Nat) (hi : i < tm.length), a ≠ nI tm[i].1) : fC_Timers_find M a = some (-1) ∧ fR_M_timerAt N a = some (-1) := by
  obtain ⟨m1, m2, m3, m4, m5, m6, m7, m8, m9⟩ := h
  constructor
  · unfold fC_Timers_find
    by_cases c : a = 0
    · rw [if_pos c]
    · rw [if_neg c]
      refine pf_c0 (fun p hp e => ?_) 13 0 (by omega) (by omega)
      rcases m9 p hp with e0 | ⟨k, hk, e1⟩
      · rw [e0] at e; exact c e.symm
      · obtain ⟨b1, b2, b3, b4, b5, -⟩ := m8 k hk
        rw [← e1, b5] at e
        exact hn k hk e.symm
  · unfold fR_M_timerAt
    refine pf_r0 m1 m2 (fun i hi e => ?_) 13 0 (by omega) (by omega)
    obtain ⟨b1, b2, b3, b4, -⟩ := m8 i hi
    rw [b4] at e
    exact hn i hi e.symm
theorem pf_due {j : Nat} {M N : px_M} (h : pr_Rel j M N) (hj : j < 512) : pu_due (pr_Rel (j + 1)) M N := by
  have h' := h
  obtain ⟨np, nl, nr, made, q, ts, tm, fr, hF, hG, hP, hR, hQ, hT, hM, hA, hL, hZ, hU, hC, hV, hm⟩ := h
  intro a
  have hM' : pr_M made tm M (px_up N 0 0 0) := hM
  by_cases c : ∃ i, ∃ hi : i < tm.length, a = nI tm[i].1
  · obtain ⟨i, hi, rfl⟩ := c
    obtain ⟨f1, f2⟩ := pf_some hM' (by omega) hi
    obtain ⟨m1, m2, m3, m4, m5, m6, m7, m8, m9⟩ := hM
    obtain ⟨a1, a2, a3, a4, a5, a6, a7, a8, a9, a10, a11, a12, -⟩ := m8 i hi
    refine ⟨if M 51 tm[i].2 = 0 then M 49 tm[i].2 else -2, px_up N 0 0 0, ?_, ?_, pr_thrown 0 (pr_mono (by omega) h')⟩
    · unfold fC_due fC_Timers_dueOf
      have hne : ¬ nI tm[i].2 = (-1 : Int32) := fun e => by
        have h1 := nI_pos' (n := tm[i].2) (by omega)
        rw [e] at h1
        exact absurd h1 (by decide)
      rw [f1, pi_bq, if_neg hne, pn_ck a3 (by omega), nI_clamp (by omega), pn_ck a3 (by omega)]
      by_cases d : M 51 tm[i].2 = 0 <;> simp [d, pi_bq]
    · simp only [fR_M_due, px_bn]
      rw [f2, pi_bq, if_pos (nI_pos' (by omega)), pn_ck (show i < 12 by omega) (by omega), nI_clamp (by omega), pn_ck (show i < 12 by omega) (by omega)]
      show (if N 31 i = 0 then some (N 29 i, px_up N 0 0 0) else some (-2, px_up N 0 0 0)) = _
      rw [a12, a10]
      by_cases d : M 51 tm[i].2 = 0 <;> simp [d]
  · obtain ⟨f1, f2⟩ := pf_none hM' (a := a) (fun i hi e => c ⟨i, hi, e⟩)
    refine ⟨-1, px_up N 0 0 0, ?_, ?_, pr_thrown 0 (pr_mono (by omega) h')⟩
    · unfold fC_due fC_Timers_dueOf
      rw [f1]; rfl
    · simp only [fR_M_due, px_bn]
      rw [f2]; rfl
