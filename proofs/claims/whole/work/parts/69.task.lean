/-! Tasks: which comes next, how it is taken; a timer's task. -/
def po_rho (k s : Nat) : Nat := if s = k then 0 else s + 1
theorem po_L {src : Nat → Nat} {N : px_M} {k c : Nat} (hc : c ≤ 2000) (h20 : ∀ i, i < c → N 20 i = nI (src i) ∧ src i < 3) (h30 : N 0 30 = nI k) (hk : k < 3) : ∀ (m n b : Nat), m ≤ b → b < c → (∀ i, m ≤ i → i < b → po_rho k (src b) < po_rho k (src i)) → (∀ i, b < i → i < c → po_rho k (src b) ≤ po_rho k (src i)) → m < n →
    ∃ b', px_fx2 gR_M_nextTask_L9 n N (nI b) (if m = 0 then -1 else nI (m - 1)) = some (nI b') ∧ b' < c ∧ (∀ i, i < b' → po_rho k (src b') < po_rho k (src i)) ∧ ∀ i, b' < i → i < c → po_rho k (src b') ≤ po_rho k (src i) := by
  intro m
  induction m with
  | zero =>
    intro n b h1 h2 h3 h4 h5
    obtain ⟨n, rfl⟩ : ∃ n', n = n' + 1 := ⟨n - 1, by omega⟩
    refine ⟨b, ?_, h2, fun i hi => h3 i (by omega) hi, h4⟩
    show gR_M_nextTask_L9 (px_fx2 gR_M_nextTask_L9 n) N (nI b) _ = _
    generalize px_fx2 gR_M_nextTask_L9 n = rc
    unfold gR_M_nextTask_L9
    rw [if_pos (show (if 0 = 0 then (-1 : Int32) else nI (0 - 1)) < 0 by decide)]
  | succ m ih =>
    intro n b h1 h2 h3 h4 h5
    obtain ⟨n, rfl⟩ : ∃ n', n = n' + 1 := ⟨n - 1, by omega⟩
    have ih' := ih n
    have e1 : nI m + (-1) = if m = 0 then (-1 : Int32) else nI (m - 1) := by
      rcases m with _ | m
      · rfl
      · rw [pk_m1, if_neg (by omega)]; rfl
    have e0 : px_fx2 gR_M_nextTask_L9 (n + 1) N (nI b) (if m + 1 = 0 then -1 else nI (m + 1 - 1)) = px_fx2 gR_M_nextTask_L9 n N (if po_rho k (src m) ≤ po_rho k (src b) then nI m else nI b) (if m = 0 then -1 else nI (m - 1)) := by
      show gR_M_nextTask_L9 (px_fx2 gR_M_nextTask_L9 n) N (nI b) _ = _
      generalize px_fx2 gR_M_nextTask_L9 n = rc
      rw [if_neg (by omega), show m + 1 - 1 = m by omega]
      unfold gR_M_nextTask_L9
      obtain ⟨x1, x2⟩ := h20 m (by omega)
      obtain ⟨y1, y2⟩ := h20 b h2
      simp only [px_bn]
      rw [if_neg (nI_pos (by omega)), pn_ck (show m < 4096 by omega) (by omega), nI_clamp (by omega), x1, h30, if_neg (nI_pos (by omega)), pn_ck (show b < 4096 by omega) (by omega), pn_ck (show b < 4096 by omega) (by omega), nI_clamp (by omega), y1, e1]
      by_cases c1 : src m = k
      · rw [if_pos (by rw [c1]), if_pos (show po_rho k (src m) ≤ po_rho k (src b) by unfold po_rho; rw [if_pos c1]; omega)]
      · rw [if_neg (fun h => c1 ((nI_eq (by omega) (by omega)).mp h))]
        by_cases c2 : src b = k
        · rw [if_pos (by rw [c2]), if_neg (show ¬ po_rho k (src m) ≤ po_rho k (src b) by unfold po_rho; rw [if_neg c1, if_pos c2]; omega)]
        · rw [if_neg (fun h => c2 ((nI_eq (by omega) (by omega)).mp h))]
          by_cases c3 : src b < src m
          · rw [if_pos (nI_lt c3 (by omega)), if_neg (show ¬ po_rho k (src m) ≤ po_rho k (src b) by unfold po_rho; rw [if_neg c1, if_neg c2]; omega)]
          · rw [if_neg (nI_nlt (by omega) (by omega)), if_pos (show po_rho k (src m) ≤ po_rho k (src b) by unfold po_rho; rw [if_neg c1, if_neg c2]; omega)]
    rw [e0]
    by_cases c : po_rho k (src m) ≤ po_rho k (src b)
    · rw [if_pos c]
      refine ih' m (Nat.le_refl _) (by omega) (fun i _ _ => by omega) (fun i hi hi' => ?_) (by omega)
      by_cases c1 : i < b
      · have := h3 i (by omega) c1; omega
      · by_cases c2 : i = b
        · subst c2; exact c
        · have := h4 i (by omega) hi'; omega
    · rw [if_neg c]
      refine ih' b (by omega) h2 (fun i hi hi' => ?_) h4 (by omega)
      by_cases c1 : i = m
      · subst c1; omega
      · exact h3 i (by omega) hi'
theorem po_first {N : px_M} {n c : Nat} (hc : c < 4096) : px_fx2 gR_M_nextTask_L9 (n + 1) N (-1) (nI c) = px_fx2 gR_M_nextTask_L9 n N (nI c) (if c = 0 then -1 else nI (c - 1)) := by
  show gR_M_nextTask_L9 (px_fx2 gR_M_nextTask_L9 n) N (-1) (nI c) = _
  generalize px_fx2 gR_M_nextTask_L9 n = rc
  unfold gR_M_nextTask_L9
  simp only [px_bn]
  rw [if_neg (nI_pos (by omega)), pn_ck hc (by omega), if_pos (show (-1 : Int32) < 0 by decide)]
  have e : nI c + (-1) = if c = 0 then (-1 : Int32) else nI (c - 1) := by
    rcases c with _ | c
    · rfl
    · rw [pk_m1, if_neg (by omega)]; rfl
  rw [e]
theorem po_next {made : Nat} {ts : List pr_Tk} {M N : px_M} {k : Nat} (h : pr_T made ts M N) (h30 : N 0 30 = nI k) (hk : k < 3) (hne : 0 < ts.length) : ∃ (i0 : Nat) (hi : i0 < ts.length), fR_M_nextTask N = some (nI i0) ∧ (∀ (i : Nat) (h : i < ts.length), po_rho k ts[i0].1 ≤ po_rho k ts[i].1) ∧ ∀ (i : Nat) (h : i < i0), ts[i].1 ≠ ts[i0].1 := by
  obtain ⟨t1, t2, t3, t4, t5, t6, t7⟩ := h
  obtain ⟨c, hc⟩ : ∃ c, ts.length = c + 1 := ⟨ts.length - 1, by omega⟩
  let src : Nat → Nat := fun i => if h : i < ts.length then ts[i].1 else 0
  have hsrc : ∀ (i : Nat) (h : i < ts.length), src i = ts[i].1 := fun i h => dif_pos h
  obtain ⟨b', b1, b2, b3, b4⟩ := po_L (src := src) (N := N) (k := k) (c := ts.length) t1 (fun i hi => by rw [hsrc i hi]; exact ⟨(t6 i hi).1, (t7 _ (List.getElem_mem hi)).1⟩) h30 hk c 4096 c (Nat.le_refl _) (by omega) (fun i _ _ => by omega) (fun i _ _ => by omega) (by omega)
  refine ⟨b', b2, ?_, fun i hi => ?_, fun i hi => ?_⟩
  · unfold fR_M_nextTask
    simp only [px_bn]
    rw [t2, hc, nI_pred]
    rw [show (4097 : Nat) = 4096 + 1 from rfl, po_first (by omega)]
    exact b1
  · rw [← hsrc b' b2, ← hsrc i hi]
    by_cases c1 : i < b'
    · have := b3 i c1; omega
    · by_cases c2 : i = b'
      · subst c2; exact Nat.le_refl _
      · exact b4 i (by omega) hi
  · intro e
    have := b3 i hi
    rw [hsrc b' b2, hsrc i (by omega), e] at this
    omega
theorem po_fx {γ : Type} {F : (px_M → Int32 → Option γ) → px_M → Int32 → Option γ} {n : Nat} {M : px_M} {y : Int32} : px_fx1 F (n + 1) M y = F (px_fx1 F n) M y := rfl
theorem po_len {ts : List pr_Tk} {s : Nat} : 0 < (pr_of s ts).length ↔ ∃ (i : Nat) (h : i < ts.length), ts[i].1 = s := by
  unfold pr_of
  rw [List.length_map, List.length_pos_iff_exists_mem]
  constructor
  · rintro ⟨t, ht⟩
    obtain ⟨h1, h2⟩ := List.mem_filter.mp ht
    obtain ⟨i, hi, rfl⟩ := List.getElem_of_mem h1
    exact ⟨i, hi, by simpa using h2⟩
  · rintro ⟨i, hi, e⟩
    exact ⟨ts[i], List.mem_filter.mpr ⟨List.getElem_mem hi, by simpa using e⟩⟩
theorem po_src {made : Nat} {ts : List pr_Tk} {M N : px_M} {k i0 : Nat} (h : pr_T made ts M N) (h9 : M 0 9 = nI k) (hk : k < 3) (hi : i0 < ts.length) (hmin : ∀ (i : Nat) (h : i < ts.length), po_rho k ts[i0].1 ≤ po_rho k ts[i].1) : fC_sourceOfNextTask M = some (nI ts[i0].1) := by
  obtain ⟨t1, t2, t3, t4, t5, t6, t7⟩ := h
  have hs3 := (t7 _ (List.getElem_mem hi)).1
  have z0 : fC_Line_size_8 M = some (nI (pr_of 0 ts).length) := by rw [gl_size_8]; exact gl_size_ok t3
  have z1 : fC_Line_size_12 M = some (nI (pr_of 1 ts).length) := by rw [gl_size_12]; exact gl_size_ok t4
  have z2 : fC_Line_size_16 M = some (nI (pr_of 2 ts).length) := by rw [gl_size_16]; exact gl_size_ok t5
  have hm : ∀ s, 0 < (pr_of s ts).length → po_rho k ts[i0].1 ≤ po_rho k s := fun s hs => by
    obtain ⟨i, h1, h2⟩ := po_len.mp hs
    rw [← h2]
    exact hmin i h1
  have hp : 0 < (pr_of ts[i0].1 ts).length := po_len.mpr ⟨i0, hi, rfl⟩
  have l0 := pq_len 0 ts
  have l1 := pq_len 1 ts
  have l2 := pq_len 2 ts
  generalize ts[i0].1 = s at hm hp hs3
  have m0 := hm 0
  have m1 := hm 1
  have m2 := hm 2
  have e0 : ∀ rc : px_M → Int32 → Option Int32, gC_sourceOfNextTask_L22 rc M 0 = if (pr_of 0 ts).length = 0 then rc M 1 else some 0 := by
    intro rc
    unfold gC_sourceOfNextTask_L22
    rw [if_neg (by decide), if_pos rfl, z0, pi_bq]
    by_cases c : (pr_of 0 ts).length = 0
    · rw [if_pos c, c, if_pos (show nI 0 ≤ (0 : Int32) by decide), show (0 : Int32) + 1 = 1 by decide]
    · rw [if_neg c, if_neg (nI_nle (by omega) (by omega))]
  have e1 : ∀ rc : px_M → Int32 → Option Int32, gC_sourceOfNextTask_L22 rc M 1 = if (pr_of 1 ts).length = 0 then rc M 2 else some 1 := by
    intro rc
    unfold gC_sourceOfNextTask_L22
    rw [if_neg (by decide), if_neg (by decide), if_pos rfl, z1, pi_bq]
    by_cases c : (pr_of 1 ts).length = 0
    · rw [if_pos c, c, if_pos (show nI 0 ≤ (0 : Int32) by decide), show (1 : Int32) + 1 = 2 by decide]
    · rw [if_neg c, if_neg (nI_nle (by omega) (by omega))]
  have e2 : ∀ rc : px_M → Int32 → Option Int32, gC_sourceOfNextTask_L22 rc M 2 = if (pr_of 2 ts).length = 0 then rc M 3 else some 2 := by
    intro rc
    unfold gC_sourceOfNextTask_L22
    rw [if_neg (by decide), if_neg (by decide), if_neg (by decide), if_pos rfl, z2, pi_bq]
    by_cases c : (pr_of 2 ts).length = 0
    · rw [if_pos c, c, if_pos (show nI 0 ≤ (0 : Int32) by decide), show (2 : Int32) + 1 = 3 by decide]
    · rw [if_neg c, if_neg (nI_nle (by omega) (by omega))]
  have L : px_fx1 gC_sourceOfNextTask_L22 4 M 0 = if (pr_of 0 ts).length = 0 then (if (pr_of 1 ts).length = 0 then (if (pr_of 2 ts).length = 0 then px_fx1 gC_sourceOfNextTask_L22 1 M 3 else some 2) else some 1) else some 0 := by
    rw [po_fx (F := gC_sourceOfNextTask_L22) (n := 3), e0, po_fx (F := gC_sourceOfNextTask_L22) (n := 2), e1, po_fx (F := gC_sourceOfNextTask_L22) (n := 1), e2]
  have no : ∀ s', po_rho k s' < po_rho k s → (pr_of s' ts).length = 0 := fun s' h => by
    rcases Nat.eq_zero_or_pos (pr_of s' ts).length with h0 | h0
    · exact h0
    · have := hm s' h0; omega
  unfold fC_sourceOfNextTask
  rw [h9]
  rcases (show k = 0 ∨ k = 1 ∨ k = 2 by omega) with rfl | rfl | rfl
  · rw [if_pos (show nI 0 = (0 : Int32) from rfl), z0, pi_bq, L]
    rcases (show s = 0 ∨ s = 1 ∨ s = 2 by omega) with rfl | rfl | rfl
    · rw [if_neg (nI_nle hp (by omega))]
    · have q0 := no 0 (by decide)
      rw [if_pos (show nI (pr_of 0 ts).length ≤ (0 : Int32) by rw [q0]; decide), if_pos q0, if_neg (show ¬ (pr_of 1 ts).length = 0 by omega)]
      rfl
    · have q0 := no 0 (by decide)
      have q1 := no 1 (by decide)
      rw [if_pos (show nI (pr_of 0 ts).length ≤ (0 : Int32) by rw [q0]; decide), if_pos q0, if_pos q1, if_neg (show ¬ (pr_of 2 ts).length = 0 by omega)]
      rfl
  · rw [if_neg (show ¬ nI 1 = (0 : Int32) by decide), if_pos (show nI 1 = (1 : Int32) from rfl), z1, pi_bq, L]
    rcases (show s = 0 ∨ s = 1 ∨ s = 2 by omega) with rfl | rfl | rfl
    · have q1 := no 1 (by decide)
      rw [if_pos (show nI (pr_of 1 ts).length ≤ (0 : Int32) by rw [q1]; decide), if_neg (show ¬ (pr_of 0 ts).length = 0 by omega)]
      rfl
    · rw [if_neg (nI_nle hp (by omega))]
    · have q0 := no 0 (by decide)
      have q1 := no 1 (by decide)
      rw [if_pos (show nI (pr_of 1 ts).length ≤ (0 : Int32) by rw [q1]; decide), if_pos q0, if_pos q1, if_neg (show ¬ (pr_of 2 ts).length = 0 by omega)]
      rfl
  · rw [if_neg (show ¬ nI 2 = (0 : Int32) by decide), if_neg (show ¬ nI 2 = (1 : Int32) by decide), if_pos (show nI 2 = (2 : Int32) from rfl), z2, pi_bq, L]
    rcases (show s = 0 ∨ s = 1 ∨ s = 2 by omega) with rfl | rfl | rfl
    · have q2 := no 2 (by decide)
      rw [if_pos (show nI (pr_of 2 ts).length ≤ (0 : Int32) by rw [q2]; decide), if_neg (show ¬ (pr_of 0 ts).length = 0 by omega)]
      rfl
    · have q0 := no 0 (by decide)
      have q2 := no 2 (by decide)
      rw [if_pos (show nI (pr_of 2 ts).length ≤ (0 : Int32) by rw [q2]; decide), if_pos q0, if_neg (show ¬ (pr_of 1 ts).length = 0 by omega)]
      rfl
    · rw [if_neg (nI_nle hp (by omega))]
theorem po_shift : ∀ (m k n c : Nat) (N : px_M), k + m = c → m < n → c < 4000 → N 0 25 = nI c →
    ∃ N', px_fx1 gR_M_dropTask_L12 n N (nI k) = some N' ∧ (∀ a, (a < 20 ∨ 24 ≤ a) → N' a = N a) ∧ ∀ a, 20 ≤ a → a < 24 → ∀ i, N' a i = if k ≤ i ∧ i < c then N a (i + 1) else N a i := by
  intro m
  induction m with
  | zero =>
    intro k n c N h1 h2 h3 h4
    have : k = c := by omega
    subst this
    obtain ⟨n, rfl⟩ : ∃ n', n = n' + 1 := ⟨n - 1, by omega⟩
    refine ⟨N, ?_, fun a _ => rfl, fun a _ _ i => by rw [if_neg (by omega)]⟩
    show gR_M_dropTask_L12 (px_fx1 gR_M_dropTask_L12 n) N (nI k) = _
    generalize px_fx1 gR_M_dropTask_L12 n = rc
    unfold gR_M_dropTask_L12
    rw [h4, if_pos (nI_le (Nat.le_refl _) (by omega))]
  | succ m ih =>
    intro k n c N h1 h2 h3 h4
    obtain ⟨n, rfl⟩ : ∃ n', n = n' + 1 := ⟨n - 1, by omega⟩
    have hk1 : k + 1 < 4096 := by omega
    have hk : k < 4096 := by omega
    have e0 : px_fx1 gR_M_dropTask_L12 (n + 1) N (nI k) = px_fx1 gR_M_dropTask_L12 n (px_up (px_up (px_up (px_up N 20 k (N 20 (k + 1))) 21 k (N 21 (k + 1))) 22 k (N 22 (k + 1))) 23 k (N 23 (k + 1))) (nI (k + 1)) := by
      show gR_M_dropTask_L12 (px_fx1 gR_M_dropTask_L12 n) N (nI k) = _
      generalize px_fx1 gR_M_dropTask_L12 n = rc
      unfold gR_M_dropTask_L12
      rw [h4, if_neg (nI_ge (show k < c by omega) (by omega))]
      simp only [px_bn, nI_1, pn_ck hk (show (4096 : Nat) < 2 ^ 31 by omega), pn_ck hk1 (show (4096 : Nat) < 2 ^ 31 by omega), nI_clamp (show k < 2 ^ 31 by omega), nI_clamp (show k + 1 < 2 ^ 31 by omega)]
      rfl
    rw [e0]
    obtain ⟨N', k1, k2, k3⟩ := ih (k + 1) n c (px_up (px_up (px_up (px_up N 20 k (N 20 (k + 1))) 21 k (N 21 (k + 1))) 22 k (N 22 (k + 1))) 23 k (N 23 (k + 1))) (by omega) (by omega) h3 h4
    refine ⟨N', k1, fun a ha => ?_, fun a a1 a2 i => ?_⟩
    · rw [k2 a ha, pn_un (by omega), pn_un (by omega), pn_un (by omega), pn_un (by omega)]
    · rw [k3 a a1 a2 i]
      have one : ∀ i, (px_up (px_up (px_up (px_up N 20 k (N 20 (k + 1))) 21 k (N 21 (k + 1))) 22 k (N 22 (k + 1))) 23 k (N 23 (k + 1))) a i = if i = k then N a (k + 1) else N a i := by
        intro i
        rcases (show a = 20 ∨ a = 21 ∨ a = 22 ∨ a = 23 by omega) with rfl | rfl | rfl | rfl <;> rfl
      rw [one, one]
      by_cases e : i = k
      · subst e
        rw [if_neg (by omega), if_pos rfl, if_pos ⟨by omega, by omega⟩]
      · by_cases c1 : k ≤ i ∧ i < c
        · rw [if_pos ⟨by omega, c1.2⟩, if_pos c1, if_neg (by omega)]
        · rw [if_neg (by omega), if_neg c1, if_neg e]
theorem po_ix {α : Type} (l1 l2 : List α) (t : α) (i : Nat) (h : i < (l1 ++ l2).length) (h1 : i < (l1 ++ t :: l2).length) (h2 : i + 1 < (l1 ++ t :: l2).length) : (i < l1.length → (l1 ++ t :: l2)[i] = (l1 ++ l2)[i]) ∧ (l1.length ≤ i → (l1 ++ t :: l2)[i + 1] = (l1 ++ l2)[i]) := by
  constructor
  · intro h3
    rw [List.getElem_append_left h3, List.getElem_append_left h3]
  · intro h3
    rw [List.getElem_append_right h3, List.getElem_append_right (by omega)]
    simp [show i + 1 - l1.length = (i - l1.length) + 1 by omega]
theorem po_of1 {l1 l2 : List pr_Tk} {t : pr_Tk} {s : Nat} (e : t.1 = s) (h : ∀ y ∈ l1, y.1 ≠ t.1) : pr_of s (l1 ++ t :: l2) = pr_ct t :: pr_of s (l1 ++ l2) := by
  have h0 : l1.filter (fun y : pr_Tk => y.1 == s) = [] := List.filter_eq_nil_iff.mpr (fun y hy => by
    have := h y hy
    rw [e] at this
    simpa using this)
  unfold pr_of
  rw [List.filter_append, List.filter_append, List.filter_cons, if_pos (by simpa using e), h0]
  rfl
theorem po_of2 {l1 l2 : List pr_Tk} {t : pr_Tk} {s : Nat} (e : t.1 ≠ s) : pr_of s (l1 ++ t :: l2) = pr_of s (l1 ++ l2) := by
  unfold pr_of
  rw [List.filter_append, List.filter_append, List.filter_cons, if_neg (by simpa using e)]
def po_D (kd sb nm : Int32) (dr : Option px_M) (M : px_M) : Option (Int32 × px_M) := (if kd = (1 : Int32) then px_bq (fC_Timers_find M sb) (fun r20 => (if r20 = (-1 : Int32) then px_bq dr (fun M23 => px_bq (fC_doTimer M23 sb) (fun M25 => some ((1 : Int32), M25))) else (if (M 0 12) < (50 : Int32) then px_bq dr (fun M28 => px_bq (fC_doTimer M28 sb) (fun M30 => some ((1 : Int32), M30))) else some ((0 : Int32), M)))) else (if (M 0 12) < (50 : Int32) then px_bq dr (fun M14 => px_bq (fC_run M14 sb nm (1 : Int32)) (fun M16 => px_bq (fC_reportFailure M16) (fun M18 => some ((1 : Int32), M18)))) else some ((0 : Int32), M)))
theorem po_V {l1 l2 : List pr_Tk} {t : pr_Tk} {tm : List (Nat × Nat)} {M : px_M} (hV : pr_VI 0 (l1 ++ t :: l2) tm M) (hpos : ∀ x ∈ tm, 0 < x.1) : pr_VI t.2.2.2 (l1 ++ l2) tm M := by
  obtain ⟨v1, v2, v3, v4, v5⟩ := hV
  have hsub : List.Sublist (l1 ++ l2) (l1 ++ t :: l2) := List.Sublist.append (List.Sublist.refl l1) (List.sublist_cons_self t l2)
  refine ⟨v1.sublist ((hsub.map _).filter _), Nat.le_trans (hsub.filter _).length_le v2, fun y hy h9 => v3 y (hsub.subset hy) h9, fun x hx hn => ?_, fun h0 y hy e => ?_⟩
  · rw [v4 x hx (by have := hpos x hx; omega)]
    constructor
    · rintro ⟨y, hy, e⟩
      rw [List.mem_append, List.mem_cons] at hy
      rcases hy with hy | hy | hy
      · exact ⟨y, List.mem_append_left _ hy, e⟩
      · subst hy; exact absurd e.symm hn
      · exact ⟨y, List.mem_append_right _ hy, e⟩
    · rintro ⟨y, hy, e⟩
      exact ⟨y, hsub.subset hy, e⟩
  · rw [List.map_append, List.map_cons, List.filter_append, List.filter_cons, if_pos (by simpa using h0), List.nodup_append] at v1
    obtain ⟨w1, w2, w3⟩ := v1
    have hmem : y.2.2.2 ∈ (l1.map (fun t : pr_Tk => t.2.2.2)).filter (fun t => t != 0) ∨ y.2.2.2 ∈ (l2.map (fun t : pr_Tk => t.2.2.2)).filter (fun t => t != 0) := by
      have hne : (y.2.2.2 != 0) = true := by rw [e]; simpa using h0
      rw [List.mem_append] at hy
      rcases hy with hy | hy
      · exact Or.inl (List.mem_filter.mpr ⟨List.mem_map.mpr ⟨y, hy, rfl⟩, hne⟩)
      · exact Or.inr (List.mem_filter.mpr ⟨List.mem_map.mpr ⟨y, hy, rfl⟩, hne⟩)
    rcases hmem with hm | hm
    · exact w3 _ hm _ (List.mem_cons_self ..) e
    · rw [e] at hm
      exact (List.nodup_cons.mp w2).1 hm
theorem po_take {made : Nat} {ts : List pr_Tk} {tm : List (Nat × Nat)} {M N : px_M} {k : Nat} (h : pr_T made ts M N) (h9 : M 0 9 = nI k) (h30 : N 0 30 = nI k) (hk : k < 3) (hne : 0 < ts.length) (hV : pr_VI 0 ts tm M) (hpos : ∀ x ∈ tm, 0 < x.1) :
    ∃ (i0 : Nat) (t : pr_Tk) (ts' : List pr_Tk) (M1 N1 : px_M), i0 < 4096 ∧ fR_M_nextTask N = some (nI i0) ∧ N 23 i0 = nI t.2.2.2 ∧ (t.2.2.2 = 0 → N 21 i0 = t.2.1 ∧ N 22 i0 = t.2.2.1 ∧ ∃ f, f < 10 ∧ t.2.1 = nI f) ∧ t.2.2.2 ≤ made ∧ fR_M_dropTask N (nI i0) = some N1 ∧ fC_doTask M = po_D (pr_ct t).1 (pr_ct t).2.1 (pr_ct t).2.2 (some M1) M ∧ pr_T made ts' M1 N1 ∧ pr_VI t.2.2.2 ts' tm M ∧ (∀ k, (k < 8 ∨ 20 ≤ k) → M1 k = M k) ∧ (∀ a, a ≠ 0 → (a < 20 ∨ 24 ≤ a) → N1 a = N a) ∧ ∀ i, i ≠ 25 → N1 0 i = N 0 i := by
  obtain ⟨i0, hi, nx, hmin, hfirst⟩ := po_next h h30 hk hne
  have hsrc := po_src h h9 hk hi hmin
  obtain ⟨t, ht⟩ : ∃ t, ts[i0] = t := ⟨_, rfl⟩
  obtain ⟨l1, l2, hts, hl1⟩ : ∃ l1 l2, ts = l1 ++ t :: l2 ∧ l1.length = i0 := ⟨ts.take i0, ts.drop (i0 + 1), by rw [← ht, ← List.drop_eq_getElem_cons hi, List.take_append_drop], by rw [List.length_take]; omega⟩
  rw [ht] at hsrc
  have hf1 : ∀ y ∈ l1, y.1 ≠ t.1 := by
    intro y hy e
    obtain ⟨i, h1, rfl⟩ := List.getElem_of_mem hy
    refine hfirst i (by omega) ?_
    rw [ht, ← e]
    simp only [hts]
    rw [List.getElem_append_left h1]
  obtain ⟨t1, t2, t3, t4, t5, t6, t7⟩ := h
  have hx := t6 i0 hi
  rw [ht] at hx
  have hmem : t ∈ ts := by rw [← ht]; exact List.getElem_mem hi
  obtain ⟨y1, y2, y3, y4⟩ := t7 t hmem
  have hlen : ts.length = (l1 ++ l2).length + 1 := by rw [hts]; simp; omega
  have hll : i0 ≤ (l1 ++ l2).length := by rw [List.length_append]; omega
  -- the reference
  obtain ⟨N1, n1, n2, n3⟩ := po_shift ((l1 ++ l2).length - i0) i0 4097 (l1 ++ l2).length (px_up N 0 25 (nI (l1 ++ l2).length)) (by omega) (by omega) (by omega) (by rw [pn_up, pn_us])
  have hR : fR_M_dropTask N (nI i0) = some N1 := by
    unfold fR_M_dropTask
    simp only [px_bn]
    rw [t2, hlen, nI_pred]
    exact n1
  have n0 : ∀ i, i ≠ 25 → N1 0 i = N 0 i := fun i hi => by rw [n2 0 (by omega), pv_ui (Or.inr hi)]
  have n4 : ∀ a, a ≠ 0 → (a < 20 ∨ 24 ≤ a) → N1 a = N a := fun a h0 ha => by rw [n2 a ha, pn_un h0]
  have rT : ∀ (i : Nat) (h : i < (l1 ++ l2).length), N1 20 i = nI (l1 ++ l2)[i].1 ∧ N1 23 i = nI (l1 ++ l2)[i].2.2.2 ∧ ((l1 ++ l2)[i].2.2.2 = 0 → N1 21 i = (l1 ++ l2)[i].2.1 ∧ N1 22 i = (l1 ++ l2)[i].2.2.1) := by
    intro i hi'
    have q1 : i < (l1 ++ t :: l2).length := by rw [← hts]; omega
    have q2 : i + 1 < (l1 ++ t :: l2).length := by rw [← hts]; omega
    obtain ⟨x1, x2⟩ := po_ix l1 l2 t i hi' q1 q2
    rw [n3 20 (by omega) (by omega), n3 21 (by omega) (by omega), n3 22 (by omega) (by omega), n3 23 (by omega) (by omega), pn_un (by omega), pn_un (by omega), pn_un (by omega), pn_un (by omega)]
    by_cases c : i0 ≤ i
    · simp only [if_pos (show i0 ≤ i ∧ i < (l1 ++ l2).length from ⟨c, hi'⟩)]
      rw [← x2 (by omega)]
      have := t6 (i + 1) (by rw [hts]; exact q2)
      simp only [hts] at this
      exact this
    · simp only [if_neg (show ¬ (i0 ≤ i ∧ i < (l1 ++ l2).length) from fun h => c h.1)]
      rw [← x1 (by omega)]
      have := t6 i (by rw [hts]; exact q1)
      simp only [hts] at this
      exact this
  have rM : ∀ y ∈ l1 ++ l2, y.1 < 3 ∧ y.2.2.2 ≤ made ∧ (y.2.2.2 = 0 → ∃ f, f < 10 ∧ y.2.1 = nI f) ∧ (y.2.2.2 ≠ 0 → y.1 = 1) := by
    intro y hy
    apply t7
    rw [hts]
    rw [List.mem_append] at hy ⊢
    rcases hy with hy | hy
    · exact Or.inl hy
    · exact Or.inr (List.mem_cons_of_mem _ hy)
  rw [hts] at hV
  have hVV := po_V hV hpos
  have done : ∀ M1 : px_M, fC_doTask M = po_D (pr_ct t).1 (pr_ct t).2.1 (pr_ct t).2.2 (some M1) M → (∀ k, (k < 8 ∨ 20 ≤ k) → M1 k = M k) → lineC M1 8 40 (pr_of 0 (l1 ++ l2)) → lineC M1 12 1051 (pr_of 1 (l1 ++ l2)) → lineC M1 16 40 (pr_of 2 (l1 ++ l2)) → ∃ (i0 : Nat) (t : pr_Tk) (ts' : List pr_Tk) (M1 N1 : px_M), i0 < 4096 ∧ fR_M_nextTask N = some (nI i0) ∧ N 23 i0 = nI t.2.2.2 ∧ (t.2.2.2 = 0 → N 21 i0 = t.2.1 ∧ N 22 i0 = t.2.2.1 ∧ ∃ f, f < 10 ∧ t.2.1 = nI f) ∧ t.2.2.2 ≤ made ∧ fR_M_dropTask N (nI i0) = some N1 ∧ fC_doTask M = po_D (pr_ct t).1 (pr_ct t).2.1 (pr_ct t).2.2 (some M1) M ∧ pr_T made ts' M1 N1 ∧ pr_VI t.2.2.2 ts' tm M ∧ (∀ k, (k < 8 ∨ 20 ≤ k) → M1 k = M k) ∧ (∀ a, a ≠ 0 → (a < 20 ∨ 24 ≤ a) → N1 a = N a) ∧ ∀ i, i ≠ 25 → N1 0 i = N 0 i := by
    intro M1 d1 d2 d3 d4 d5
    exact ⟨i0, t, l1 ++ l2, M1, N1, by omega, nx, hx.2.1, fun h0 => ⟨(hx.2.2 h0).1, (hx.2.2 h0).2, y3 h0⟩, y2, hR, d1, ⟨by omega, by rw [n2 0 (by omega), pn_up, pn_us], d3, d4, d5, rT, rM⟩, hVV, d2, n4, n0⟩
  -- the class
  rcases (show t.1 = 0 ∨ t.1 = 1 ∨ t.1 = 2 by omega) with e | e | e
  · have t3' := t3
    rw [hts, po_of1 e hf1] at t3'
    obtain ⟨g1, g2, g3⟩ := gl_head (by omega) t3'
    rw [← gl_kind_8] at g1
    rw [← gl_subject_8] at g2
    rw [← gl_number_8] at g3
    obtain ⟨M1, a1, a2, a3⟩ := gl_drop_ok (by omega) t3'
    rw [← gl_drop_8] at a1
    refine done M1 ?_ (fun k hk => a3 k (by omega)) a2 ?_ ?_
    · unfold fC_doTask
      rw [hsrc, pi_bq, e, if_neg (show ¬ nI 0 = (-1 : Int32) by decide), if_pos (show nI 0 = (0 : Int32) from rfl), g1, g2, g3, pi_bq, pi_bq, pi_bq, a1]
      rfl
    · rw [hts, po_of2 (by omega)] at t4
      exact lineC_c t4 (a3 _ (by omega)) (a3 _ (by omega)) (a3 _ (by omega)) (a3 _ (by omega))
    · rw [hts, po_of2 (by omega)] at t5
      exact lineC_c t5 (a3 _ (by omega)) (a3 _ (by omega)) (a3 _ (by omega)) (a3 _ (by omega))
  · have t4' := t4
    rw [hts, po_of1 e hf1] at t4'
    obtain ⟨g1, g2, g3⟩ := gl_head (by omega) t4'
    rw [← gl_kind_12] at g1
    rw [← gl_subject_12] at g2
    rw [← gl_number_12] at g3
    obtain ⟨M1, a1, a2, a3⟩ := gl_drop_ok (by omega) t4'
    rw [← gl_drop_12] at a1
    refine done M1 ?_ (fun k hk => a3 k (by omega)) ?_ a2 ?_
    · unfold fC_doTask
      rw [hsrc, pi_bq, e, if_neg (show ¬ nI 1 = (-1 : Int32) by decide), if_neg (show ¬ nI 1 = (0 : Int32) by decide), if_pos (show nI 1 = (1 : Int32) from rfl), g1, g2, g3, pi_bq, pi_bq, pi_bq, a1]
      rfl
    · rw [hts, po_of2 (by omega)] at t3
      exact lineC_c t3 (a3 _ (by omega)) (a3 _ (by omega)) (a3 _ (by omega)) (a3 _ (by omega))
    · rw [hts, po_of2 (by omega)] at t5
      exact lineC_c t5 (a3 _ (by omega)) (a3 _ (by omega)) (a3 _ (by omega)) (a3 _ (by omega))
  · have t5' := t5
    rw [hts, po_of1 e hf1] at t5'
    obtain ⟨g1, g2, g3⟩ := gl_head (by omega) t5'
    rw [← gl_kind_16] at g1
    rw [← gl_subject_16] at g2
    rw [← gl_number_16] at g3
    obtain ⟨M1, a1, a2, a3⟩ := gl_drop_ok (by omega) t5'
    rw [← gl_drop_16] at a1
    refine done M1 ?_ (fun k hk => a3 k (by omega)) ?_ ?_ a2
    · unfold fC_doTask
      rw [hsrc, pi_bq, e, if_neg (show ¬ nI 2 = (-1 : Int32) by decide), if_neg (show ¬ nI 2 = (0 : Int32) by decide), if_neg (show ¬ nI 2 = (1 : Int32) by decide), if_pos (show nI 2 = (2 : Int32) from rfl), g1, g2, g3, pi_bq, pi_bq, pi_bq, a1]
      rfl
    · rw [hts, po_of2 (by omega)] at t3
      exact lineC_c t3 (a3 _ (by omega)) (a3 _ (by omega)) (a3 _ (by omega)) (a3 _ (by omega))
    · rw [hts, po_of2 (by omega)] at t4
      exact lineC_c t4 (a3 _ (by omega)) (a3 _ (by omega)) (a3 _ (by omega)) (a3 _ (by omega))
