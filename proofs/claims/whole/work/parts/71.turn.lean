/-! Frames, and a turn. -/
theorem ps_id {N : px_M} {a i : Nat} {v : Int32} (h : N a i = v) : px_up N a i v = N := by
  funext b k
  by_cases c : b = a ∧ k = i
  · obtain ⟨rfl, rfl⟩ := c
    rw [pn_up, pn_us, h]
  · rw [pv_ui (by omega)]
theorem ps_L40 {y a b : Nat} {R F : Nat → Int32} (ha : a + b ≤ 8) (hy : y + a ≤ 24) : ∀ (m i n : Nat) (N : px_M), i + m = a → m < n → N 0 43 = nI b → (∀ k, k < a → N 33 (y + k) = R k) → (∀ k, k < i → N 32 k = R k) → (∀ k, k < b → N 32 (k + a) = F k) →
    ∃ N', px_fx3 gR_M_giveBack_L40 n N (nI y) (nI a) (nI i) = some N' ∧ N' 0 43 = nI (b + a) ∧ N' 0 46 = 0 ∧ (∀ k, k < a → N' 32 k = R k) ∧ (∀ k, k < b → N' 32 (k + a) = F k) ∧ (∀ k, k ≠ 0 → k ≠ 32 → N' k = N k) ∧ ∀ k, k ≠ 43 → k ≠ 46 → N' 0 k = N 0 k := by
  intro m
  induction m with
  | zero =>
    intro i n N hi hn h43 h33 hR hF
    obtain ⟨n, rfl⟩ : ∃ n', n = n' + 1 := ⟨n - 1, by omega⟩
    have : i = a := by omega
    subst this
    refine ⟨px_up (px_up N 0 43 (nI (b + i))) 0 46 0, ?_, ?_, ?_, hR, hF, fun k h0 _ => by rw [pn_un h0, pn_un h0], fun k h1 h2 => by rw [pv_ui (Or.inr h2), pv_ui (Or.inr h1)]⟩
    · show gR_M_giveBack_L40 (px_fx3 gR_M_giveBack_L40 n) N (nI y) (nI i) (nI i) = _
      generalize px_fx3 gR_M_giveBack_L40 n = rc
      unfold gR_M_giveBack_L40
      rw [if_pos (nI_le (Nat.le_refl _) (by omega)), h43, nI_add]
      rfl
    · rw [pv_ui (Or.inr (by omega)), pn_up, pn_us]
    · rw [pn_up, pn_us]
  | succ m ih =>
    intro i n N hi hn h43 h33 hR hF
    obtain ⟨n, rfl⟩ : ∃ n', n = n' + 1 := ⟨n - 1, by omega⟩
    have e0 : px_fx3 gR_M_giveBack_L40 (n + 1) N (nI y) (nI a) (nI i) = px_fx3 gR_M_giveBack_L40 n (px_up N 32 i (R i)) (nI y) (nI a) (nI (i + 1)) := by
      show gR_M_giveBack_L40 (px_fx3 gR_M_giveBack_L40 n) N (nI y) (nI a) (nI i) = _
      generalize px_fx3 gR_M_giveBack_L40 n = rc
      unfold gR_M_giveBack_L40
      rw [if_neg (nI_ge (by omega) (by omega)), nI_add, pn_ck (show y + i < 24 by omega) (by omega), pn_ck (show i < 24 by omega) (by omega), nI_clamp (by omega), nI_clamp (by omega), h33 i (by omega), nI_1]
      rfl
    rw [e0]
    obtain ⟨N', a1, a2, a3, a4, a5, a6, a7⟩ := ih (i + 1) n (px_up N 32 i (R i)) (by omega) (by omega) h43 h33 (fun k hk => by
      show upd (N 32) i (R i) k = _
      by_cases c : k = i
      · subst c; rw [pn_us]
      · rw [pn_ue c]; exact hR k (by omega)) (fun k hk => by
      show upd (N 32) i (R i) (k + a) = _
      rw [pn_ue (by omega)]; exact hF k hk)
    exact ⟨N', a1, a2, a3, a4, a5, fun k h0 h1 => by rw [a6 k h0 h1, pn_un h1], fun k h1 h2 => by rw [a7 k h1 h2]; rfl⟩
theorem ps_L14 {y a b : Nat} {R F : Nat → Int32} (ha : a + b ≤ 8) (hy : y + a ≤ 24) : ∀ (m n : Nat) (N : px_M), m ≤ b → m < n → N 0 43 = nI b → (∀ k, k < a → N 33 (y + k) = R k) → (∀ k, k < m → N 32 k = F k) → (∀ k, m ≤ k → k < b → N 32 (k + a) = F k) →
    ∃ N', px_fx3 gR_M_giveBack_L14 n N (nI y) (nI a) (if m = 0 then -1 else nI (m - 1)) = some N' ∧ N' 0 43 = nI (b + a) ∧ N' 0 46 = 0 ∧ (∀ k, k < a → N' 32 k = R k) ∧ (∀ k, k < b → N' 32 (k + a) = F k) ∧ (∀ k, k ≠ 0 → k ≠ 32 → N' k = N k) ∧ ∀ k, k ≠ 43 → k ≠ 46 → N' 0 k = N 0 k := by
  intro m
  induction m with
  | zero =>
    intro n N hm hn h43 h33 hF1 hF2
    obtain ⟨n, rfl⟩ : ∃ n', n = n' + 1 := ⟨n - 1, by omega⟩
    show ∃ N', gR_M_giveBack_L14 (px_fx3 gR_M_giveBack_L14 n) N (nI y) (nI a) _ = some N' ∧ _
    generalize px_fx3 gR_M_giveBack_L14 n = rc
    unfold gR_M_giveBack_L14
    rw [if_pos (show (if 0 = 0 then (-1 : Int32) else nI (0 - 1)) < 0 by decide)]
    exact ps_L40 ha hy a 0 25 N (by omega) (by omega) h43 h33 (fun k hk => by omega) (fun k hk => hF2 k (by omega) hk)
  | succ m ih =>
    intro n N hm hn h43 h33 hF1 hF2
    obtain ⟨n, rfl⟩ : ∃ n', n = n' + 1 := ⟨n - 1, by omega⟩
    have e1 : nI m + (-1) = if m = 0 then (-1 : Int32) else nI (m - 1) := by
      rcases m with _ | m
      · rfl
      · rw [pk_m1, if_neg (by omega)]; rfl
    have e0 : px_fx3 gR_M_giveBack_L14 (n + 1) N (nI y) (nI a) (if m + 1 = 0 then -1 else nI (m + 1 - 1)) = px_fx3 gR_M_giveBack_L14 n (px_up N 32 (m + a) (F m)) (nI y) (nI a) (if m = 0 then -1 else nI (m - 1)) := by
      show gR_M_giveBack_L14 (px_fx3 gR_M_giveBack_L14 n) N (nI y) (nI a) _ = _
      generalize px_fx3 gR_M_giveBack_L14 n = rc
      rw [if_neg (by omega), show m + 1 - 1 = m by omega]
      unfold gR_M_giveBack_L14
      rw [if_neg (nI_pos (by omega)), nI_add, pn_ck (show m < 24 by omega) (by omega), pn_ck (show m + a < 24 by omega) (by omega), nI_clamp (by omega), nI_clamp (by omega), hF1 m (by omega), e1]
      rfl
    rw [e0]
    obtain ⟨N', a1, a2, a3, a4, a5, a6, a7⟩ := ih n (px_up N 32 (m + a) (F m)) (by omega) (by omega) h43 h33 (fun k hk => by
      show upd (N 32) (m + a) (F m) k = _
      rw [pn_ue (by omega)]; exact hF1 k (by omega)) (fun k hk hk' => by
      show upd (N 32) (m + a) (F m) (k + a) = _
      by_cases c : k = m
      · subst c; rw [pn_us]
      · rw [pn_ue (by omega)]; exact hF2 k (by omega) hk')
    exact ⟨N', a1, a2, a3, a4, a5, fun k h0 h1 => by rw [a6 k h0 h1, pn_un h1], fun k h1 h2 => by rw [a7 k h1 h2]; rfl⟩
/-- the frames that were taken and not run are given back -/
theorem ps_back {j K w z np y : Nat} {rest : List Int32} {M N : px_M} (h : pr_I j K w z np rest M (px_up N 0 46 (nI rest.length))) (h45 : N 0 45 = nI (y + rest.length)) (hy : y + rest.length ≤ 24) (h33 : ∀ (i : Nat) (hi : i < rest.length), N 33 (y + i) = rest[i]) : ∃ N', fR_M_giveBack N (nI y) = some N' ∧ pr_I j K w z np [] M N' ∧ N' 0 62 = N 0 62 := by
  obtain ⟨nl, nr, made, q, ts, tm, fr, hD, ⟨hF, hT, hM, hA, hZ, hV⟩, hk⟩ := h
  obtain ⟨x1, x2, x3, x4, x5⟩ := hA
  have hl : rest.length + fr.length ≤ 8 := by
    obtain ⟨-, -, h, -⟩ := x1
    simpa using h
  have h43 : N 0 43 = nI fr.length := by rw [← x2, pv_ui (Or.inr (by omega))]
  have e14 : N 0 43 - 1 = if fr.length = 0 then (-1 : Int32) else nI (fr.length - 1) := by
    rw [h43]
    rcases fr with _ | ⟨f, fr⟩
    · rfl
    · rw [if_neg (by simp), List.length_cons, nI_pred]; rfl
  obtain ⟨N', a1, a2, a3, a4, a5, a6, a7⟩ := ps_L14 (y := y) (a := rest.length) (b := fr.length) (R := fun i => if h : i < rest.length then rest[i] else 0) (F := fun i => if h : i < fr.length then fr[i] else 0) hl hy fr.length 25 N (Nat.le_refl _) (by omega) h43 (fun k hk => by rw [dif_pos hk, h33 k hk]) (fun k hk => by
    rw [dif_pos hk]
    have := x4 k hk
    exact this) (fun k h1 h2 => by omega)
  have b0 : ∀ k, k ≠ 43 → k ≠ 46 → N' 0 k = (px_up N 0 46 (nI rest.length)) 0 k := fun k h1 h2 => by rw [a7 k h1 h2, pv_ui (Or.inr h2)]
  have b1 : ∀ k, k ≠ 0 → k ≠ 32 → N' k = (px_up N 0 46 (nI rest.length)) k := fun k h1 h2 => by rw [a6 k h1 h2, pn_un h1]
  refine ⟨N', ?_, ⟨nl, nr, made, q, ts, tm, rest ++ fr, pc_D hD rfl (fun _ _ _ => rfl) (fun _ _ _ => rfl) (fun k _ _ => b1 k (by omega) (by omega)) (b1 _ (by omega) (by omega)) (b1 _ (by omega) (by omega)) (b0 _ (by omega) (by omega)) (b0 _ (by omega) (by omega)) (b0 _ (by omega) (by omega)) (b0 _ (by omega) (by omega)) (b0 _ (by omega) (by omega)) (b0 _ (by omega) (by omega)) (b0 _ (by omega) (by omega)), ⟨pc_F hF (fun _ _ _ => rfl) (fun k _ _ => b1 k (by omega) (by omega)), pc_T hT (fun _ _ _ => rfl) (fun k _ _ => b1 k (by omega) (by omega)) (b0 _ (by omega) (by omega)), pc_M hM (fun _ _ _ => rfl) (fun k _ _ => b1 k (by omega) (by omega)) (b0 _ (by omega) (by omega)) (b0 _ (by omega) (by omega)), ⟨x1, ?_, a3, ?_, x5⟩, pc_ZI hZ rfl rfl rfl rfl (b0 _ (by omega) (by omega)) (b0 _ (by omega) (by omega)) (b0 _ (by omega) (by omega)) (b0 _ (by omega) (by omega)), hV⟩, hk⟩, a7 62 (by omega) (by omega)⟩
  · unfold fR_M_giveBack
    simp only [px_bn]
    rw [e14, h45, pk_sub (by omega), show y + rest.length - y = rest.length by omega]
    exact a1
  · rw [a2, List.length_append, Nat.add_comm]
  · intro i hi
    by_cases c : i < rest.length
    · rw [List.getElem_append_left c, a4 i c, dif_pos c]
    · rw [List.getElem_append_right (by omega)]
      have hlen : i - rest.length < fr.length := by rw [List.length_append] at hi; omega
      have := a5 (i - rest.length) hlen
      rw [dif_pos hlen, show i - rest.length + rest.length = i by omega] at this
      exact this
theorem ps_stop {n : Nat} {M : px_M} {y : Int32} (hn : 0 < n) : px_fx2 gC_turn_L70 n M 0 y = some (M 0 12, M) := by
  obtain ⟨n, rfl⟩ : ∃ n', n = n' + 1 := ⟨n - 1, by omega⟩
  show gC_turn_L70 (px_fx2 gC_turn_L70 n) M 0 y = _
  generalize px_fx2 gC_turn_L70 n = rc
  unfold gC_turn_L70
  rw [if_pos rfl]
theorem ps_loop {j K c : Nat} (hK : K + 11750 < 2 ^ 31) (hc : c ≤ 8) : ∀ (rest : List Int32) (y n m b np : Nat) (M N : px_M), y + rest.length = c → rest.length < n → rest.length < m → b ≤ 50 → N 0 45 = nI c → (∀ (i : Nat) (hi : i < rest.length), N 33 (y + i) = rest[i]) → pr_I j (K + 217 * b) 120 0 np rest M (px_up N 0 46 (nI rest.length)) → (N 0 46 = nI rest.length ∨ N 0 46 = 0) → M 0 12 = nI b → N 0 62 = nI b → M 0 14 = 0 → (rest ≠ [] → M 0 11 = 1) →
    ∃ (M' N' : px_M) (np' b' : Nat), px_fx2 gC_turn_L70 n M 1 (nI rest.length) = some (nI b', M') ∧ px_fx1 gR_M_doFrames_L59 m N (nI y) = some N' ∧ b' ≤ 50 ∧ pr_I j (K + 217 * b') 120 0 np' [] M' N' ∧ M' 0 14 = 0 ∧ N' 0 62 = nI b' := by
  intro rest
  induction rest with
  | nil =>
    intro y n m b np M N hy hn hm hb h45 h33 hI h46 h12 h62 h14 h11
    obtain ⟨n, rfl⟩ : ∃ n', n = n' + 1 := ⟨n - 1, by omega⟩
    obtain ⟨m, rfl⟩ : ∃ m', m = m' + 1 := ⟨m - 1, by omega⟩
    have e46 : N 0 46 = nI ([] : List Int32).length := by rcases h46 with h | h <;> exact h
    rw [ps_id e46] at hI
    refine ⟨M, N, np, b, ?_, ?_, hb, hI, h14, h62⟩
    · show gC_turn_L70 (px_fx2 gC_turn_L70 n) M 1 (nI ([] : List Int32).length) = _
      generalize px_fx2 gC_turn_L70 n = rc
      unfold gC_turn_L70
      rw [if_neg (show ¬ (1 : Int32) = 0 by decide), if_pos (show nI ([] : List Int32).length ≤ (0 : Int32) by decide), h12]
    · show gR_M_doFrames_L59 (px_fx1 gR_M_doFrames_L59 m) N (nI y) = _
      generalize px_fx1 gR_M_doFrames_L59 m = rc
      unfold gR_M_doFrames_L59
      have : y = c := by simpa using hy
      rw [h45, this, if_pos (nI_le (Nat.le_refl _) (by omega))]
  | cons f rest ih =>
    intro y n m b np M N hy hn hm hb h45 h33 hI h46 h12 h62 h14 h11
    rw [List.length_cons] at hy hn hm
    obtain ⟨n, rfl⟩ : ∃ n', n = n' + 1 := ⟨n - 1, by omega⟩
    obtain ⟨m, rfl⟩ : ∃ m', m = m' + 1 := ⟨m - 1, by omega⟩
    have ih' := fun (b np : Nat) (M N : px_M) => ih (y + 1) n m b np M N (by omega) (by omega) (by omega)
    have hst := fun (M : px_M) (y : Int32) => ps_stop (n := n) (M := M) (y := y) (by omega)
    show ∃ (M' N' : px_M) (np' b' : Nat), gC_turn_L70 (px_fx2 gC_turn_L70 n) M 1 (nI (f :: rest).length) = some (nI b', M') ∧ gR_M_doFrames_L59 (px_fx1 gR_M_doFrames_L59 m) N (nI y) = some N' ∧ _
    generalize px_fx2 gC_turn_L70 n = rc at ih' hst ⊢
    generalize px_fx1 gR_M_doFrames_L59 m = rc' at ih' ⊢
    have hp1 : nI (f :: rest).length + (-1) = nI rest.length := by rw [List.length_cons, pk_m1]
    have hle : ¬ nI (f :: rest).length ≤ (0 : Int32) := nI_nle (by simp) (by rw [List.length_cons]; omega)
    have eC : gC_turn_L70 rc M 1 (nI (f :: rest).length) = px_bo (fC_doFrame M (if rest = [] then 1 else 0)) (fun r18 M19 => (if r18 = 0 then rc M19 0 (nI rest.length) else px_bo (fC_checkpoint M19) (fun r22 M23 => (if r22 = 0 then rc M23 0 (nI rest.length) else rc M23 1 (nI rest.length))))) := by
      unfold gC_turn_L70
      rw [if_neg (show ¬ (1 : Int32) = 0 by decide), if_neg hle, hp1]
      rcases rest with _ | ⟨g, rest⟩
      · rw [if_pos (show nI [f].length = (1 : Int32) from rfl), if_pos rfl]
      · rw [if_neg (show ¬ nI (f :: g :: rest).length = (1 : Int32) from fun h => by
          have := (nI_eq (b := 1) (by simp only [List.length_cons] at hy ⊢; omega) (by omega)).mp h
          simp at this), if_neg (by simp)]
    have h45' : ¬ N 0 45 ≤ nI y := by rw [h45]; exact nI_ge (by omega) (by omega)
    rw [eC]
    unfold fC_doFrame gR_M_doFrames_L59
    rw [if_neg h45', h12, h62]
    by_cases c50 : b < 50
    · rw [if_pos (show nI b < (50 : Int32) from nI_lt (b := 50) c50 (by omega)), if_neg (show ¬ nI b = (50 : Int32) from fun h => by have := (nI_eq (b := 50) (by omega) (by omega)).mp h; omega)]
      simp only [px_bn]
      rw [h45, pk_sub (by omega), show c - y = rest.length + 1 by omega, nI_pred, pn_ck (show y < 24 by omega) (by omega), nI_clamp (by omega)]
      obtain ⟨nl, nr, made, q, ts, tm, fr, hD, ⟨hF, hT, hM, hA, hZ, hV⟩, hk⟩ := hI
      obtain ⟨x1, x2, x3, x4, x5⟩ := hA
      obtain ⟨g1, g2, g3⟩ := gl_head (by omega) x1
      rw [← gl_subject_24] at g2
      obtain ⟨M5, a1, a2, a3⟩ := gl_drop_ok (by omega) x1
      rw [← gl_drop_24] at a1
      obtain ⟨kf, hkf, ekf⟩ := x5 f (by simp)
      obtain ⟨zz, ⟨tt, z2, z3, z4⟩, z5⟩ := hZ
      rw [g2, pi_bq, a1, pi_bq]
      rw [show (px_up N 0 46 (nI rest.length)) 33 y = f from by
        rw [pn_un (by omega)]
        have := h33 0 (by simp)
        simpa using this, show (px_up N 0 46 (nI rest.length)) 0 31 = M5 0 10 from by
        rw [pv_ui (Or.inr (by omega)), a3 0 (by omega), z3, ← z4, pv_ui (Or.inr (by omega))]]
      show ∃ (M' N' : px_M) (np' b' : Nat), px_bo (px_bq (fC_run M5 f (M5 0 10) (1 : Int32)) (fun M7 => px_bq (fC_reportFailure M7) (fun M9 => (if (if rest = [] then (1 : Int32) else 0) = 0 then some ((1 : Int32), M9) else some ((1 : Int32), px_up M9 0 11 (0 : Int32)))))) _ = some (nI b', M') ∧ _
      rw [← pm_as, ekf]
      have e46 : ∀ k, k ≠ 46 → (px_up N 0 46 (nI rest.length)) 0 k = (px_up N 0 46 (nI (f :: rest).length)) 0 k := fun k hk => by rw [pv_ui (Or.inr hk), pv_ui (Or.inr hk)]
      have eN : ∀ k, k ≠ 0 → (px_up N 0 46 (nI rest.length)) k = (px_up N 0 46 (nI (f :: rest).length)) k := fun k hk => by rw [pn_un hk, pn_un hk]
      have hI5 : pr_I j (K + 217 * b) 120 0 np rest M5 (px_up N 0 46 (nI rest.length)) := ⟨nl, nr, made, q, ts, tm, fr, pc_D hD (a3 _ (by omega)) (fun k _ _ => a3 k (by omega)) (fun k _ _ => a3 k (by omega)) (fun k _ _ => eN k (by omega)) (eN _ (by omega)) (eN _ (by omega)) (e46 _ (by omega)) (e46 _ (by omega)) (e46 _ (by omega)) (e46 _ (by omega)) (e46 _ (by omega)) (e46 _ (by omega)) (e46 _ (by omega)), ⟨pc_F hF (fun k _ _ => a3 k (by omega)) (fun k _ _ => eN k (by omega)), pc_T hT (fun k _ _ => a3 k (by omega)) (fun k _ _ => eN k (by omega)) (e46 _ (by omega)), pc_M hM (fun k _ _ => a3 k (by omega)) (fun k _ _ => eN k (by omega)) (e46 _ (by omega)) (e46 _ (by omega)), ⟨a2, by rw [e46 _ (by omega), x2], by rw [pn_up, pn_us], fun i hi => by rw [eN _ (by omega)]; exact x4 i hi, fun g hg => x5 g (List.mem_cons_of_mem _ hg)⟩, pc_ZI ⟨zz, ⟨tt, z2, z3, z4⟩, z5⟩ (by rw [a3 0 (by omega)]) (by rw [a3 0 (by omega)]) (by rw [a3 0 (by omega)]) (by rw [a3 0 (by omega)]) (e46 _ (by omega)) (e46 _ (by omega)) (e46 _ (by omega)) (e46 _ (by omega)), pc_V hV (a3 _ (by omega))⟩, hk⟩
      obtain ⟨M9, N11, np9, b1, b2, b3, b4, b5, b6, b7⟩ := pm_run (b := b) hI5 (by omega) (by rw [a3 0 (by omega), h12]) (by rw [pv_ui (Or.inr (by omega)), h62]) hkf (M5 0 10)
      rw [b1, b2, pi_bq, pi_bq]
      have t11 : M9 0 11 = 1 := by rw [b5.1 11 (by omega) (by omega) (by omega) (by omega) (by omega), a3 0 (by omega)]; exact h11 (by simp)
      have t14 : M9 0 14 = 0 := by rw [b5.1 14 (by omega) (by omega) (by omega) (by omega) (by omega), a3 0 (by omega)]; exact h14
      have t45 : N11 0 45 = nI c := by rw [b5.2.1 45 (by omega), pv_ui (Or.inr (by omega)), h45]
      have t46 : N11 0 46 = nI rest.length := by rw [b5.2.1 46 (by omega), pn_up, pn_us]
      have t33 : N11 33 = N 33 := by rw [b5.2.2]; rfl
      have t42 : N11 0 42 = 1 := by
        obtain ⟨nl', nr', made', q', ts', tm', fr', hD', ⟨-, -, -, -, hZ', -⟩, -⟩ := b4
        rw [hZ'.2.2.2.1, t11]
      -- both after the frame's run
      obtain ⟨MA, NA, eA1, eA2, hIA, A12, A14, A45, A46, A33, A62, A11⟩ : ∃ MA NA : px_M, (if (if rest = [] then (1 : Int32) else 0) = 0 then some ((1 : Int32), M9) else some ((1 : Int32), px_up M9 0 11 (0 : Int32))) = some ((1 : Int32), MA) ∧ NA = (if rest = [] then px_up N11 0 42 0 else px_up N11 0 42 1) ∧ pr_I j (K + 217 * b + 217) 120 0 np9 rest MA NA ∧ MA 0 12 = nI (b + 1) ∧ MA 0 14 = 0 ∧ NA 0 45 = nI c ∧ NA 0 46 = nI rest.length ∧ NA 33 = N 33 ∧ NA 0 62 = nI (b + 1) ∧ (rest ≠ [] → MA 0 11 = 1) := by
        by_cases cr : rest = []
        · refine ⟨px_up M9 0 11 0, px_up N11 0 42 0, ?_, by rw [if_pos cr], ?_, by rw [pv_ui (Or.inr (by omega)), b6], by rw [pv_ui (Or.inr (by omega)), t14], by rw [pv_ui (Or.inr (by omega)), t45], by rw [pv_ui (Or.inr (by omega)), t46], by rw [pn_un (by omega), t33], by rw [pv_ui (Or.inr (by omega)), b7], fun h => absurd cr h⟩
          · rw [if_pos cr, if_neg (show ¬ (1 : Int32) = 0 by decide)]
          · obtain ⟨nl', nr', made', q', ts', tm', fr', hD', ⟨hF', hT', hM', hA', hZ', hV'⟩, hk'⟩ := b4
            refine ⟨nl', nr', made', q', ts', tm', fr', pc_D hD' rfl (fun k _ _ => by rw [pn_un (by omega)]) (fun k _ _ => by rw [pn_un (by omega)]) (fun k _ _ => by rw [pn_un (by omega)]) rfl rfl (by rw [pv_ui (Or.inr (by omega))]) (by rw [pv_ui (Or.inr (by omega))]) (by rw [pv_ui (Or.inr (by omega))]) (by rw [pv_ui (Or.inr (by omega))]) (by rw [pv_ui (Or.inr (by omega))]) (by rw [pv_ui (Or.inr (by omega))]) (by rw [pv_ui (Or.inr (by omega))]), ⟨pc_F hF' (fun k _ _ => by rw [pn_un (by omega)]) (fun k _ _ => by rw [pn_un (by omega)]), pc_T hT' (fun k _ _ => by rw [pn_un (by omega)]) (fun k _ _ => by rw [pn_un (by omega)]) (by rw [pv_ui (Or.inr (by omega))]), pc_M hM' (fun k _ _ => by rw [pn_un (by omega)]) (fun k _ _ => by rw [pn_un (by omega)]) (by rw [pv_ui (Or.inr (by omega))]) (by rw [pv_ui (Or.inr (by omega))]), pc_AI hA' (fun k _ _ => by rw [pn_un (by omega)]) rfl (by rw [pv_ui (Or.inr (by omega))]) (by rw [pv_ui (Or.inr (by omega))]), ?_, hV'⟩, hk'⟩
            unfold pr_ZI
            rw [pv_ui (M := M9) (Or.inr (show 9 ≠ 11 by omega)), pv_ui (M := M9) (Or.inr (show 10 ≠ 11 by omega)), pv_ui (M := M9) (Or.inr (show 14 ≠ 11 by omega)), pv_ui (M := N11) (Or.inr (show 30 ≠ 42 by omega)), pv_ui (M := N11) (Or.inr (show 31 ≠ 42 by omega)), pv_ui (M := N11) (Or.inr (show 60 ≠ 42 by omega)), pn_up, pn_up, pn_us, pn_us]
            exact ⟨hZ'.1, hZ'.2.1, Or.inl rfl, rfl, hZ'.2.2.2.2⟩
        · refine ⟨M9, N11, by rw [if_neg cr, if_pos rfl], by rw [if_neg cr, ps_id t42], b4, b6, t14, t45, t46, t33, b7, fun _ => t11⟩
      rw [eA1, pi_bo, if_neg (show ¬ (1 : Int32) = 0 by decide), t45, nI_1]
      have eR : ∀ (k1 k2 : px_M → Option px_M), (if nI c ≤ nI (y + 1) then k1 (px_up N11 0 42 0) else k2 (px_up N11 0 42 1)) = if rest = [] then k1 NA else k2 NA := by
        intro k1 k2
        by_cases cr : rest = []
        · rw [if_pos cr, eA2, if_pos cr, if_pos (nI_le (by rw [cr] at hy; simp at hy; omega) (by omega))]
        · have : 0 < rest.length := List.length_pos_iff.mpr cr
          rw [if_neg cr, eA2, if_neg cr, if_neg (nI_ge (by omega) (by omega))]
      rw [eR (fun M13 => px_bo (fR_M_checkpoint M13) (fun r15 M16 => (if r15 = 0 then px_bq (fR_M_giveBack M16 (nI (y + 1))) (fun M19 => some M19) else rc' M16 (nI (y + 1))))) (fun M20 => px_bo (fR_M_checkpoint M20) (fun r22 M23 => (if r22 = 0 then px_bq (fR_M_giveBack M23 (nI (y + 1))) (fun M26 => some M26) else rc' M23 (nI (y + 1))))), ite_self]
      obtain ⟨MB, NB, npB, bB, r, d1, d2, d3, d4, d5, d6, d7, d8, d9, d10, -⟩ := pm_check (K := K) (b := b + 1) (by omega) (by omega) (by rw [show K + 217 * (b + 1) = K + 217 * b + 217 by omega]; exact hIA) A12 A62
      rw [d1, d2, pi_bo, pi_bo]
      have B45 : NB 0 45 = nI c := by rw [d8.2.1 45 (by omega), A45]
      have B46 : NB 0 46 = nI rest.length := by rw [d8.2.1 46 (by omega), A46]
      have B33 : ∀ (i : Nat) (hi : i < rest.length), NB 33 (y + 1 + i) = rest[i] := fun i hi => by
        rw [d8.2.2, A33]
        have := h33 (i + 1) (by rw [List.length_cons]; omega)
        rw [show y + 1 + i = y + (i + 1) by omega, this]
        rfl
      have B14 : MB 0 14 = 0 := by rw [d8.1 14 (by omega) (by omega) (by omega) (by omega) (by omega), A14]
      have hIB : pr_I j (K + 217 * bB) 120 0 npB rest MB (px_up NB 0 46 (nI rest.length)) := by rw [ps_id B46]; exact d7
      rcases d3 with rfl | rfl
      · rw [if_pos rfl, if_pos rfl, hst, d9, pd_bq]
        obtain ⟨NC, c1, c2, c3⟩ := ps_back (y := y + 1) hIB (by rw [B45, show c = y + 1 + rest.length by omega]) (by omega) B33
        exact ⟨MB, NC, npB, bB, rfl, c1, d6, c2, B14, by rw [c3, d10]⟩
      · rw [if_neg (show ¬ (1 : Int32) = 0 by decide), if_neg (show ¬ (1 : Int32) = 0 by decide)]
        exact ih' bB npB MB NB d6 B45 B33 hIB (Or.inl B46) d9 d10 B14 (fun h => by rw [d8.1 11 (by omega) (by omega) (by omega) (by omega) (by omega)]; exact A11 h)
    · rw [if_neg (show ¬ nI b < (50 : Int32) from nI_nlt (b := 50) (by omega) (by omega)), if_pos (show nI b = (50 : Int32) by rw [show b = 50 by omega]; rfl), pi_bo, if_pos rfl, hst, h12, pd_bq]
      obtain ⟨NC, c1, c2, c3⟩ := ps_back (y := y) hI (by rw [h45, List.length_cons, show c = y + (rest.length + 1) by omega]) (by rw [List.length_cons]; omega) h33
      exact ⟨M, NC, np, b, rfl, c1, hb, c2, h14, by rw [c3, h62]⟩
theorem ps_copy {c : Nat} (hc : c ≤ 8) : ∀ (m i n : Nat) (N : px_M), i + m = c → m < n → N 0 43 = nI c → N 0 45 = nI c → ∃ N', px_fx1 gR_M_doFrames_L10 n N (nI i) = px_fx1 gR_M_doFrames_L59 25 (px_up (px_up N' 0 43 0) 0 42 (if c = 0 then 0 else 1)) 0 ∧ (∀ k, k ≠ 33 → N' k = N k) ∧ (∀ k, k < i → N' 33 k = N 33 k) ∧ ∀ k, i ≤ k → k < c → N' 33 k = N 32 k := by
  intro m
  induction m with
  | zero =>
    intro i n N hi hn h43 h45
    obtain ⟨n, rfl⟩ : ∃ n', n = n' + 1 := ⟨n - 1, by omega⟩
    have : i = c := by omega
    subst this
    refine ⟨N, ?_, fun _ _ => rfl, fun _ _ => rfl, fun k h1 h2 => by omega⟩
    show gR_M_doFrames_L10 (px_fx1 gR_M_doFrames_L10 n) N (nI i) = _
    generalize px_fx1 gR_M_doFrames_L10 n = rc
    unfold gR_M_doFrames_L10
    rw [h43, if_pos (nI_le (Nat.le_refl _) (by omega))]
    simp only [px_bn]
    rw [show (px_up N 0 43 0) 0 45 = nI i by rw [pv_ui (Or.inr (by omega)), h45]]
    by_cases c0 : i = 0
    · rw [if_pos c0, c0, if_pos (show nI 0 ≤ (0 : Int32) by decide)]
    · rw [if_neg c0, if_neg (nI_nle (by omega) (by omega))]
  | succ m ih =>
    intro i n N hi hn h43 h45
    obtain ⟨n, rfl⟩ : ∃ n', n = n' + 1 := ⟨n - 1, by omega⟩
    have e0 : px_fx1 gR_M_doFrames_L10 (n + 1) N (nI i) = px_fx1 gR_M_doFrames_L10 n (px_up N 33 i (N 32 i)) (nI (i + 1)) := by
      show gR_M_doFrames_L10 (px_fx1 gR_M_doFrames_L10 n) N (nI i) = _
      generalize px_fx1 gR_M_doFrames_L10 n = rc
      unfold gR_M_doFrames_L10
      rw [h43, if_neg (nI_ge (by omega) (by omega)), pn_ck (show i < 24 by omega) (by omega), pn_ck (show i < 24 by omega) (by omega), nI_clamp (by omega), nI_1]
      rfl
    obtain ⟨N', a1, a2, a3, a4⟩ := ih (i + 1) n (px_up N 33 i (N 32 i)) (by omega) (by omega) h43 h45
    refine ⟨N', by rw [e0, a1], fun k hk => by rw [a2 k hk, pn_un hk], fun k hk => ?_, fun k h1 h2 => ?_⟩
    · rw [a3 k (by omega), pv_ui (Or.inr (by omega))]
    · by_cases ck : k = i
      · subst ck
        rw [a3 k (by omega), pn_up, pn_us]
      · rw [a4 k (by omega) h2]; rfl
/-- the end of a turn: frames, where they are due -/
theorem ps_fin {j K b np : Nat} {M N : px_M} (hK : K + 11750 < 2 ^ 31) (hb : b ≤ 50) (hI : pr_I j (K + 217 * b) 120 0 np [] M N) (h12 : M 0 12 = nI b) (h62 : N 0 62 = nI b) (h14 : M 0 14 = 0) :
    ∃ (M' N' : px_M) (np' b' : Nat), (if (M 0 11) = 0 then px_fx2 gC_turn_L70 9 (px_up M 0 11 (0 : Int32)) (1 : Int32) (0 : Int32) else px_bq (fC_Line_size_24 M) (fun r36 => (if r36 = 0 then px_fx2 gC_turn_L70 9 (px_up M 0 11 (0 : Int32)) (1 : Int32) r36 else px_fx2 gC_turn_L70 9 M (1 : Int32) r36))) = some (nI b', M') ∧
      (if (N 0 42) = 0 then some ((N 0 62), N) else px_bq (fR_M_doFrames N) (fun M23 => some ((M23 0 62), M23))) = some (nI b', N') ∧ b' ≤ 50 ∧ pr_I j (K + 217 * b') 120 0 np' [] M' N' ∧ M' 0 14 = 0 := by
  have hI' := hI
  obtain ⟨nl, nr, made, q, ts, tm, fr, hD, ⟨hF, hT, hM, hA, hZ, hV⟩, hk⟩ := hI
  have z42 := hZ.2.2.2.1
  rcases hZ.2.2.1 with c | c
  · rw [if_pos c, z42, if_pos c, ps_id c, h62]
    refine ⟨M, N, np, b, ?_, rfl, hb, hI', h14⟩
    show gC_turn_L70 (px_fx2 gC_turn_L70 8) M 1 0 = _
    generalize px_fx2 gC_turn_L70 8 = rc
    unfold gC_turn_L70
    rw [if_neg (show ¬ (1 : Int32) = 0 by decide), if_pos (show (0 : Int32) ≤ 0 by decide), h12]
  · have c1 : ¬ M 0 11 = 0 := by rw [c]; decide
    rw [if_neg c1, z42, if_neg c1]
    obtain ⟨x1, x2, x3, x4, x5⟩ := hA
    have hl : fr.length ≤ 8 := by
      obtain ⟨-, -, h, -⟩ := x1
      simpa using h
    have sz : fC_Line_size_24 M = some (nI fr.length) := by
      rw [gl_size_24, gl_size_ok x1]
      simp
    rw [sz, pi_bq]
    obtain ⟨N', a1, a2, a3, a4⟩ := ps_copy hl fr.length 0 25 (px_up N 0 45 (nI fr.length)) (by omega) (by omega) (by rw [pv_ui (Or.inr (by omega)), x2]) (by rw [pn_up, pn_us])
    have eR : fR_M_doFrames N = px_fx1 gR_M_doFrames_L59 25 (px_up (px_up N' 0 43 0) 0 42 (if fr.length = 0 then 0 else 1)) 0 := by
      unfold fR_M_doFrames
      simp only [px_bn]
      rw [x2]
      exact a1
    have w0 : ∀ k, k ≠ 42 → k ≠ 43 → k ≠ 45 → (px_up (px_up N' 0 43 0) 0 42 (if fr.length = 0 then 0 else 1)) 0 k = N 0 k := fun k h1 h2 h3 => by rw [pv_ui (Or.inr h1), pv_ui (Or.inr h2), a2 0 (by omega), pv_ui (Or.inr h3)]
    have w1 : ∀ k, k ≠ 0 → k ≠ 33 → (px_up (px_up N' 0 43 0) 0 42 (if fr.length = 0 then 0 else 1)) k = N k := fun k h1 h2 => by rw [pn_un h1, pn_un h1, a2 k h2, pn_un h1]
    have w42 : (px_up (px_up N' 0 43 0) 0 42 (if fr.length = 0 then (0 : Int32) else 1)) 0 42 = if fr.length = 0 then 0 else 1 := by rw [pn_up, pn_us]
    have w43 : (px_up (px_up N' 0 43 0) 0 42 (if fr.length = 0 then (0 : Int32) else 1)) 0 43 = 0 := by rw [pv_ui (Or.inr (by omega)), pn_up, pn_us]
    have w45 : (px_up (px_up N' 0 43 0) 0 42 (if fr.length = 0 then (0 : Int32) else 1)) 0 45 = nI fr.length := by rw [pv_ui (Or.inr (by omega)), pv_ui (Or.inr (by omega)), a2 0 (by omega), pn_up, pn_us]
    have w33 : ∀ (i : Nat) (hi : i < fr.length), (px_up (px_up N' 0 43 0) 0 42 (if fr.length = 0 then (0 : Int32) else 1)) 33 (0 + i) = fr[i] := fun i hi => by
      rw [pn_un (by omega), pn_un (by omega), Nat.zero_add, a4 i (by omega) hi]
      exact x4 i hi
    rw [eR]
    generalize (px_up (px_up N' 0 43 0) 0 42 (if fr.length = 0 then (0 : Int32) else 1)) = P at w0 w1 w42 w43 w45 w33
    let M2 : px_M := if fr.length = 0 then px_up M 0 11 0 else M
    have eM : (if nI fr.length = 0 then px_fx2 gC_turn_L70 9 (px_up M 0 11 (0 : Int32)) (1 : Int32) (nI fr.length) else px_fx2 gC_turn_L70 9 M (1 : Int32) (nI fr.length)) = px_fx2 gC_turn_L70 9 M2 1 (nI fr.length) := by
      show _ = px_fx2 gC_turn_L70 9 (if fr.length = 0 then px_up M 0 11 0 else M) 1 (nI fr.length)
      by_cases c0 : fr.length = 0
      · rw [if_pos c0, c0, if_pos (show nI 0 = (0 : Int32) from rfl)]
      · rw [if_neg c0, if_neg (nI_ne0 (by omega) (by omega))]
    rw [eM]
    have m0 : ∀ k, k ≠ 11 → M2 0 k = M 0 k := fun k hk => by
      show (if fr.length = 0 then px_up M 0 11 0 else M) 0 k = _
      by_cases c0 : fr.length = 0
      · rw [if_pos c0, pv_ui (Or.inr hk)]
      · rw [if_neg c0]
    have m1 : ∀ k, k ≠ 0 → M2 k = M k := fun k hk => by
      show (if fr.length = 0 then px_up M 0 11 0 else M) k = _
      by_cases c0 : fr.length = 0
      · rw [if_pos c0, pn_un hk]
      · rw [if_neg c0]
    have m11 : M2 0 11 = if fr.length = 0 then 0 else 1 := by
      show (if fr.length = 0 then px_up M 0 11 0 else M) 0 11 = _
      by_cases c0 : fr.length = 0
      · rw [if_pos c0, if_pos c0, pn_up, pn_us]
      · rw [if_neg c0, if_neg c0, c]
    have v0 : ∀ k, k ≠ 42 → k ≠ 43 → k ≠ 45 → k ≠ 46 → (px_up P 0 46 (nI fr.length)) 0 k = N 0 k := fun k h1 h2 h3 h4 => by rw [pv_ui (Or.inr h4), w0 k h1 h2 h3]
    have v1 : ∀ k, k ≠ 0 → k ≠ 33 → (px_up P 0 46 (nI fr.length)) k = N k := fun k h1 h2 => by rw [pn_un h1, w1 k h1 h2]
    have hI2 : pr_I j (K + 217 * b) 120 0 np fr M2 (px_up P 0 46 (nI fr.length)) := by
      refine ⟨nl, nr, made, q, ts, tm, [], pc_D hD (m1 _ (by omega)) (fun k _ _ => m1 k (by omega)) (fun k _ _ => m1 k (by omega)) (fun k _ _ => v1 k (by omega) (by omega)) (v1 _ (by omega) (by omega)) (v1 _ (by omega) (by omega)) (v0 _ (by omega) (by omega) (by omega) (by omega)) (v0 _ (by omega) (by omega) (by omega) (by omega)) (v0 _ (by omega) (by omega) (by omega) (by omega)) (v0 _ (by omega) (by omega) (by omega) (by omega)) (v0 _ (by omega) (by omega) (by omega) (by omega)) (v0 _ (by omega) (by omega) (by omega) (by omega)) (v0 _ (by omega) (by omega) (by omega) (by omega)), ⟨pc_F hF (fun k _ _ => m1 k (by omega)) (fun k _ _ => v1 k (by omega) (by omega)), pc_T hT (fun k _ _ => m1 k (by omega)) (fun k _ _ => v1 k (by omega) (by omega)) (v0 _ (by omega) (by omega) (by omega) (by omega)), pc_M hM (fun k _ _ => m1 k (by omega)) (fun k _ _ => v1 k (by omega) (by omega)) (v0 _ (by omega) (by omega) (by omega) (by omega)) (v0 _ (by omega) (by omega) (by omega) (by omega)), ⟨?_, by rw [pv_ui (Or.inr (by omega)), w43]; rfl, by rw [pn_up, pn_us], fun i hi => absurd hi (by simp), ?_⟩, ?_, pc_V hV (m1 _ (by omega))⟩, hk⟩
      · rw [List.append_nil]
        rw [List.nil_append] at x1
        exact lineC_c x1 (m1 _ (by omega)) (m1 _ (by omega)) (m1 _ (by omega)) (m1 _ (by omega))
      · rw [List.append_nil]
        rw [List.nil_append] at x5
        exact x5
      · unfold pr_ZI
        rw [m0 9 (by omega), m0 10 (by omega), m0 14 (by omega), m11, v0 30 (by omega) (by omega) (by omega) (by omega), v0 31 (by omega) (by omega) (by omega) (by omega), v0 60 (by omega) (by omega) (by omega) (by omega), pv_ui (Or.inr (show 42 ≠ 46 by omega)), w42]
        exact ⟨hZ.1, hZ.2.1, by split; exact Or.inl rfl; exact Or.inr rfl, rfl, hZ.2.2.2.2⟩
    obtain ⟨M', NF, np', b', d1, d2, d3, d4, d5, d6⟩ := ps_loop hK hl fr 0 9 25 b np M2 P (by omega) (by omega) (by omega) hb w45 w33 hI2 (Or.inr (by rw [w0 46 (by omega) (by omega) (by omega), x3]; rfl)) (by rw [m0 12 (by omega), h12]) (by rw [w0 62 (by omega) (by omega) (by omega), h62]) (by rw [m0 14 (by omega), h14]) (fun h => by rw [m11, if_neg (fun h0 => h (List.length_eq_zero_iff.mp h0))])
    refine ⟨M', NF, np', b', d1, ?_, d3, d4, d5⟩
    rw [show (0 : Int32) = nI 0 from rfl, d2, pi_bq, d6]
theorem ps_rel {j b np : Nat} {M N : px_M} (hb : b ≤ 50) (hI : pr_I j (20000 * j + 217 * b) 120 0 np [] M N) (h14 : M 0 14 = 0) : pr_Rel (j + 1) M N := by
  obtain ⟨nl, nr, made, q, ts, tm, fr, ⟨hG, hP, hR, hQ, hU, hC, hW, hL⟩, ⟨hF, hT, hM, hA, hZ, hV⟩, hk⟩ := hI
  obtain ⟨x1, x2, x3, x4, x5⟩ := hA
  obtain ⟨z1, ⟨t, z2, z3⟩, z4, z5, z6⟩ := hZ
  obtain ⟨v1, v2, v3, v4, v5⟩ := hV
  refine ⟨np, nl, nr, made, q, ts, tm, fr, hF, hG, hP, hR, hQ, hT, hM, ⟨x1, x2, x3, x4, x5⟩, hL, ⟨z1, ⟨t, by omega, z3⟩, z4, z5, h14⟩, hU, hC, ⟨v1, v2, v3, fun x hx => v4 x hx ?_⟩, by omega⟩
  obtain ⟨i, hi, rfl⟩ := List.getElem_of_mem hx
  have := (hM.2.2.2.2.2.2.2.1 i hi).1
  omega
theorem ps_turn {j : Nat} {M N : px_M} (h : pr_Rel j M N) (hj : j < 512) : pu_turn (pr_Rel (j + 1)) M N := by
  obtain ⟨np, nl, nr, made, q, ts, tm, fr, hF, hG, hP, hR, hQ, hT, hM, hA, hL, hZ, hU, hC, hV, hk⟩ := h
  obtain ⟨z1, z2, z3, z4, z5⟩ := hZ
  obtain ⟨v1, v2, v3, v4⟩ := hV
  have hW : pr_W 120 nr q M := by
    obtain ⟨c1, c2, c3, c4, c5⟩ := hC
    unfold pr_W
    omega
  have hN : ∀ i, i ≠ 0 → i ≠ 62 → i ≠ 60 → (px_up (px_up (px_up N 0 0 (0 : Int32)) 0 62 (0 : Int32)) 0 60 (1 : Int32)) 0 i = N 0 i := fun i h1 h2 h3 => by rw [pv_ui (Or.inr h3), pv_ui (Or.inr h2), pv_ui (Or.inr h1)]
  have hNk : ∀ k, k ≠ 0 → (px_up (px_up (px_up N 0 0 (0 : Int32)) 0 62 (0 : Int32)) 0 60 (1 : Int32)) k = N k := fun k h0 => by rw [pn_un h0, pn_un h0, pn_un h0]
  have hI : pr_I j (20000 * j + 217 * 0) 120 0 np [] (px_up M 0 12 0) (px_up (px_up (px_up N 0 0 (0 : Int32)) 0 62 (0 : Int32)) 0 60 (1 : Int32)) := by
    refine ⟨nl, nr, made, q, ts, tm, fr, pc_D ⟨hG, hP, hR, hQ, hU, hC, hW, hL⟩ rfl (fun k _ _ => by rw [pn_un (by omega)]) (fun k _ _ => by rw [pn_un (by omega)]) (fun k _ _ => hNk k (by omega)) (hNk _ (by omega)) (hNk _ (by omega)) (hN _ (by omega) (by omega) (by omega)) (hN _ (by omega) (by omega) (by omega)) (hN _ (by omega) (by omega) (by omega)) (hN _ (by omega) (by omega) (by omega)) (hN _ (by omega) (by omega) (by omega)) (hN _ (by omega) (by omega) (by omega)) (hN _ (by omega) (by omega) (by omega)), ⟨pc_F hF (fun k _ _ => by rw [pn_un (by omega)]) (fun k _ _ => hNk k (by omega)), pc_T hT (fun k _ _ => by rw [pn_un (by omega)]) (fun k _ _ => hNk k (by omega)) (hN _ (by omega) (by omega) (by omega)), pc_M hM (fun k _ _ => by rw [pn_un (by omega)]) (fun k _ _ => hNk k (by omega)) (hN _ (by omega) (by omega) (by omega)) (hN _ (by omega) (by omega) (by omega)), pc_AI (M := M) (N := N) hA (fun k _ _ => by rw [pn_un (by omega)]) (hNk _ (by omega)) (hN _ (by omega) (by omega) (by omega)) (hN _ (by omega) (by omega) (by omega)), ?_, ⟨v1, v2, v3, fun x hx _ => v4 x hx, fun h => absurd rfl h⟩⟩, by omega⟩
    unfold pr_ZI
    rw [pv_ui (M := M) (Or.inr (show 9 ≠ 12 by omega)), pv_ui (M := M) (Or.inr (show 10 ≠ 12 by omega)), pv_ui (M := M) (Or.inr (show 11 ≠ 12 by omega)), pv_ui (M := M) (Or.inr (show 14 ≠ 12 by omega)), hN 30 (by omega) (by omega) (by omega), hN 31 (by omega) (by omega) (by omega), hN 42 (by omega) (by omega) (by omega), pn_up, pn_us]
    exact ⟨z1, z2, z3, z4, by rw [z5]; decide⟩
  have hKj : 20000 * j + 11750 < 2 ^ 31 := by omega
  obtain ⟨M4, N6, np4, b4, r, a1, a2, a3, a4, a5, a6, a7, a8, a9, a10, a11⟩ := pm_check (K := 20000 * j) (b := 0) (by omega) (by omega) hI (by rw [pn_up, pn_us]; rfl) (by rw [pv_ui (Or.inr (by omega)), pn_up, pn_us]; rfl)
  have h14 : M4 0 14 = 0 := by rw [a8.1 14 (by omega) (by omega) (by omega) (by omega) (by omega), pv_ui (Or.inr (by omega)), z5]
  unfold pu_turn fC_turn fR_M_turn
  simp only [px_bn]
  rw [a1, a2, pi_bo, pi_bo]
  have stop : ∀ (M5 N5 : px_M) (np5 b5 : Nat), b5 ≤ 50 → pr_I j (20000 * j + 217 * b5) 120 0 np5 [] M5 N5 → M5 0 14 = 0 → M5 0 12 = nI b5 → N5 0 62 = nI b5 → ∃ (r : Int32) (M1 N1 : px_M), px_fx2 gC_turn_L70 9 M5 0 0 = some (r, M1) ∧ some (N5 0 62, N5) = some (r, N1) ∧ pr_Rel (j + 1) M1 N1 := by
    intro M5 N5 np5 b5 h1 h2 h3 h4 h5
    exact ⟨nI b5, M5, N5, by rw [ps_stop (by omega), h4], by rw [h5], ps_rel h1 h2 h3⟩
  have fin : ∀ (M5 N5 : px_M) (np5 b5 : Nat), b5 ≤ 50 → pr_I j (20000 * j + 217 * b5) 120 0 np5 [] M5 N5 → M5 0 14 = 0 → M5 0 12 = nI b5 → N5 0 62 = nI b5 → ∃ (r : Int32) (M1 N1 : px_M), (if (M5 0 11) = 0 then px_fx2 gC_turn_L70 9 (px_up M5 0 11 (0 : Int32)) (1 : Int32) (0 : Int32) else px_bq (fC_Line_size_24 M5) (fun r36 => (if r36 = 0 then px_fx2 gC_turn_L70 9 (px_up M5 0 11 (0 : Int32)) (1 : Int32) r36 else px_fx2 gC_turn_L70 9 M5 (1 : Int32) r36))) = some (r, M1) ∧ (if (N5 0 42) = 0 then some ((N5 0 62), N5) else px_bq (fR_M_doFrames N5) (fun M23 => some ((M23 0 62), M23))) = some (r, N1) ∧ pr_Rel (j + 1) M1 N1 := by
    intro M5 N5 np5 b5 h1 h2 h3 h4 h5
    obtain ⟨M', N', np', b', c1, c2, c3, c4, c5⟩ := ps_fin hKj h1 h2 h4 h5 h3
    exact ⟨nI b', M', N', c1, c2, ps_rel c3 c4 c5⟩
  rcases a3 with rfl | rfl
  · simp only [reduceIte]
    exact stop M4 N6 np4 b4 a6 a7 h14 a9 a10
  · have ne : ¬ (1 : Int32) = 0 := by decide
    simp only [if_neg ne]
    by_cases ct : N6 0 25 = 0
    · -- no task
      obtain ⟨y1, y2⟩ := a11 rfl
      have eT : fC_doTask M4 = some ((1 : Int32), M4) := by
        obtain ⟨nl', nr', made', q', ts', tm', fr', hD', ⟨-, ⟨t1, t2, t3, t4, t5, -⟩, -, -, ⟨⟨k, k1, k2, -⟩, -⟩, -⟩, -⟩ := a7
        have hl : ts' = [] := by
          rw [ct] at t2
          have : ts'.length = 0 := ((nI_eq (a := 0) (by omega) (by omega)).mp t2).symm
          exact List.length_eq_zero_iff.mp this
        subst hl
        have s0 : fC_Line_size_8 M4 = some 0 := by rw [gl_size_8]; exact gl_size_ok t3
        have s1 : fC_Line_size_12 M4 = some 0 := by rw [gl_size_12]; exact gl_size_ok t4
        have s2 : fC_Line_size_16 M4 = some 0 := by rw [gl_size_16]; exact gl_size_ok t5
        have L : px_fx1 gC_sourceOfNextTask_L22 4 M4 0 = some (-1) := by
          have g : ∀ (rc : px_M → Int32 → Option Int32) (y : Int32), (y = 0 ∨ y = 1 ∨ y = 2) → gC_sourceOfNextTask_L22 rc M4 y = rc M4 (y + 1) := by
            intro rc y hy
            unfold gC_sourceOfNextTask_L22
            rw [s0, s1, s2]
            rcases hy with rfl | rfl | rfl <;> rfl
          have g3 : ∀ rc : px_M → Int32 → Option Int32, gC_sourceOfNextTask_L22 rc M4 3 = some (-1) := fun rc => by unfold gC_sourceOfNextTask_L22; rfl
          rw [po_fx (F := gC_sourceOfNextTask_L22) (n := 3), g _ 0 (Or.inl rfl), show (0 : Int32) + 1 = 1 by decide, po_fx (F := gC_sourceOfNextTask_L22) (n := 2), g _ 1 (Or.inr (Or.inl rfl)), show (1 : Int32) + 1 = 2 by decide, po_fx (F := gC_sourceOfNextTask_L22) (n := 1), g _ 2 (Or.inr (Or.inr rfl)), show (2 : Int32) + 1 = 3 by decide, po_fx (F := gC_sourceOfNextTask_L22) (n := 0), g3]
        have eS : fC_sourceOfNextTask M4 = some (-1) := by
          unfold fC_sourceOfNextTask
          rw [k2, s0, s1, s2]
          simp only [pi_bq]
          rw [L]
          rcases (show k = 0 ∨ k = 1 ∨ k = 2 by omega) with rfl | rfl | rfl
          · rw [if_pos (show nI 0 = (0 : Int32) from rfl), if_pos (show (0 : Int32) ≤ 0 by decide)]
          · rw [if_neg (show ¬ nI 1 = (0 : Int32) by decide), if_pos (show nI 1 = (1 : Int32) from rfl), if_pos (show (0 : Int32) ≤ 0 by decide)]
          · rw [if_neg (show ¬ nI 2 = (0 : Int32) by decide), if_neg (show ¬ nI 2 = (1 : Int32) by decide), if_pos (show nI 2 = (2 : Int32) from rfl), if_pos (show (0 : Int32) ≤ 0 by decide)]
        unfold fC_doTask
        rw [eS, pi_bq, if_pos rfl]
      have eK : fC_checkpoint M4 = some ((1 : Int32), M4) := by
        unfold fC_checkpoint
        show gC_checkpoint_L2 (px_fx1 gC_checkpoint_L2 1000) M4 0 = _
        generalize px_fx1 gC_checkpoint_L2 1000 = rc
        unfold gC_checkpoint_L2 fC_Promises_reportUnhandled
        rw [if_neg (by decide), show fC_Line_size_20 M4 = some (M4 20 5) from rfl, y1, pi_bq, if_pos (by decide)]
        show px_bq (gC_Promises_reportUnhandled_L2 (px_fx1 gC_Promises_reportUnhandled_L2 40) M4 0) _ = _
        generalize px_fx1 gC_Promises_reportUnhandled_L2 40 = rc2
        unfold gC_Promises_reportUnhandled_L2
        rw [y2, if_pos (by decide)]
        simp only [px_bn]
        rw [ps_id y2, pi_bq]
      rw [eT, pi_bo, if_neg ne, eK, pi_bo, if_neg ne, ct, if_pos (show (0 : Int32) ≤ 0 by decide)]
      exact fin M4 N6 np4 b4 a6 a7 h14 a9 a10
    · have hle : ¬ N6 0 25 ≤ 0 := by
        obtain ⟨nl', nr', made', q', ts', tm', fr', hD', ⟨-, ⟨t1, t2, -⟩, -⟩, -⟩ := a7
        rw [t2] at ct ⊢
        exact nI_nle (by rcases Nat.eq_zero_or_pos ts'.length with h | h; exact absurd (by rw [h]; rfl) ct; exact h) (by omega)
      rw [if_neg hle]
      rcases pp_task hKj a6 a7 a9 a10 h14 ct with ⟨e1, e2⟩ | ⟨M5, N5, np5, b5, e1, e2, e3, e4, e5, e6, e7, e8, e9⟩
      · rw [e1, e2, pi_bo, pi_bo]
        simp only [reduceIte]
        exact stop M4 N6 np4 b4 a6 a7 h14 a9 a10
      · obtain ⟨M6, N7, np6, b6, r, d1, d2, d3, d4, d5, d6, d7, d8, d9, d10, -⟩ := pm_check (K := 20000 * j) (by omega) e5 e6 e8 e9
        rw [e1, e2, pi_bo, if_neg ne, d1, d2, pi_bo, pi_bo, pg_cb d3, pi_bo]
        have g14 : M6 0 14 = 0 := by rw [d8.1 14 (by omega) (by omega) (by omega) (by omega) (by omega), e7.1 14 (by omega) (by omega) (by omega) (by omega) (by omega), h14]
        rcases d3 with rfl | rfl
        · simp only [reduceIte]
          exact stop M6 N7 np6 b6 d6 d7 g14 d9 d10
        · simp only [if_neg ne]
          exact fin M6 N7 np6 b6 d6 d7 g14 d9 d10
