/-! The start, and the calls that only look. -/
theorem pi_reg : ∀ r, r < 8 → pu_C0 6 r = -1 := by decide +kernel
theorem pi_line {b cap : Nat} (h0 : pu_C0 b 0 = nI cap) (h4 : pu_C0 b 4 = 0) (h5 : pu_C0 b 5 = 0) (hc : 0 < cap) : lineC pu_C0 b cap [] :=
  ⟨0, hc, Nat.zero_le _, h0, by rw [h4]; exact nI_0.symm, by rw [h5]; exact nI_0.symm, fun i h => by simp at h⟩
theorem pr_init : pr_Rel 0 pu_C0 pu_R0 := by
  refine ⟨0, 0, 0, 0, [], [], [], [], ?_, ?_, ?_, ?_, ?_, ?_, ?_, ?_, ?_, ?_, ?_, ?_, ?_, by omega⟩
  · exact ⟨rfl, rfl, rfl, rfl, fun f _ => ⟨0, by omega, nI_0.symm, fun i h => by omega⟩⟩
  · intro r hr
    rw [pi_reg r hr]
    exact ⟨(by decide : (0 : Int32) = -1 + 1), Or.inl rfl⟩
  · refine ⟨by omega, nI_0.symm, nI_0.symm, rfl, rfl, rfl, rfl, rfl, rfl, by omega, nI_0.symm, nI_0.symm, fun i h => by omega, fun p _ => ?_, fun p _ _ => ⟨rfl, rfl, rfl, rfl⟩⟩
    exact ⟨Or.inl rfl, Or.inl rfl, Or.inl rfl, Or.inl rfl, fun _ => rfl⟩
  · exact ⟨by omega, nI_0.symm, nI_0.symm, rfl, rfl, fun r h => by omega⟩
  · refine ⟨pi_line rfl rfl rfl (by omega), ⟨0, by omega, by simp, nI_0.symm, nI_0.symm, fun i h => by simp at h⟩, fun x h => by simp at h⟩
  · refine ⟨by simp, nI_0.symm, pi_line rfl rfl rfl (by omega), pi_line rfl rfl rfl (by omega), pi_line rfl rfl rfl (by omega), fun i h => by simp at h, fun x h => by simp at h⟩
  · refine ⟨by simp, nI_0.symm, nI_0.symm, nI_0.symm, nI_0.symm, by simp, by simp, fun i h => by simp at h, fun p _ => Or.inl rfl⟩
  · exact ⟨pi_line rfl rfl rfl (by omega), nI_0.symm, rfl, fun i h => by simp at h, fun f h => by simp at h⟩
  · exact ⟨⟨0, by omega, nI_0.symm, nI_0.symm⟩, rfl, ⟨0, by omega, nI_0.symm, nI_0.symm⟩, rfl⟩
  · exact ⟨⟨0, by omega, nI_0.symm, nI_0.symm⟩, ⟨0, by omega, nI_0.symm, nI_0.symm⟩, Or.inl rfl, rfl, rfl⟩
  · refine ⟨fun r r' h => by omega, fun r t h => by omega, fun r p t h => by omega, fun p h => by omega, by simp, fun p o o' h => by simp at h, fun x h => by simp at h⟩
  · refine ⟨by simp [pr_cnt], by simp [pr_cnt], by simp [pr_cnt], by simp, by omega⟩
  · exact ⟨by simp, by simp, fun t h => by simp at h, fun x h => by simp at h⟩
/-- an int that is in 0 .. n-1, or not -/
theorem pi_ix (x : Int32) (n : Nat) (hn : n < 2 ^ 31) : (∃ k, k < n ∧ x = nI k) ∨ (x < 0 ∨ nI n ≤ x) := by
  rcases pk_ix x hn with h | h | ⟨j, h1, h2⟩
  · exact Or.inr (Or.inl h)
  · exact Or.inr (Or.inr h)
  · exact Or.inl ⟨j, h1, h2⟩
theorem pi_time {j : Nat} {M N : px_M} (h : pr_Rel j M N) : pu_time (pr_Rel (j + 1)) M N := by
  have h' := h
  obtain ⟨np, nl, nr, made, q, ts, tm, fr, hF, hG, hP, hR, hQ, hT, hM, hA, hL, hZ, hU, hC, hV, hm⟩ := h
  obtain ⟨z1, ⟨t, z2, z3, z4⟩, z5⟩ := hZ
  refine ⟨nI t, px_up N 0 0 0, ?_, ?_, pr_thrown 0 (pr_mono (by omega) h')⟩
  · unfold fC_time; rw [z3]
  · unfold fR_M_time px_bn
    show some (N 0 31, px_up N 0 0 0) = _
    rw [z4]
theorem pi_lt {a b : Int32} (h : a ≤ b) : ¬ b < a := Int32.not_lt.mpr h
theorem pi_nle {a b : Int32} (h : a < b) : ¬ b ≤ a := Int32.not_le.mpr h
theorem pi_over {x : Int32} {m : Nat} (hm : m + 1 < 2 ^ 31) (h : nI (m + 1) ≤ x) : nI m < x := by
  rw [Int32.le_iff_toInt_le, nI_toInt hm] at h
  rw [Int32.lt_iff_toInt_lt, nI_toInt (by omega)]
  omega
/-- the ranges, as both sides ask for them -/
theorem pi_win (M : px_M) {k m : Nat} {c : Int32} (hc : c = nI m) (h : k ≤ m) (hm : m < 2 ^ 31) : fC_isWithin M (nI k) 0 c = some 1 ∧ fR_M_outside M (nI k) 0 c = some 0 := by
  subst hc
  unfold fC_isWithin fR_M_outside
  rw [if_neg (nI_pos (by omega)), if_neg (pi_lt (nI_le h hm)), if_neg (nI_pos (by omega)), if_pos (nI_le h hm)]
  exact ⟨rfl, rfl⟩
theorem pi_wout (M : px_M) {m : Nat} {x c : Int32} (hc : c = nI m) (hm : m + 1 < 2 ^ 31) (h : x < 0 ∨ nI (m + 1) ≤ x) : fC_isWithin M x 0 c = some 0 ∧ fR_M_outside M x 0 c = some 1 := by
  subst hc
  unfold fC_isWithin fR_M_outside
  rcases h with h | h
  · rw [if_pos h, if_pos h]; exact ⟨rfl, rfl⟩
  · have h1 := pi_over hm h
    have h0 : ¬ x < 0 := pi_lt (Int32.le_trans (nI_pos' hm) h)
    rw [if_neg h0, if_pos h1, if_neg h0, if_neg (pi_nle h1)]; exact ⟨rfl, rfl⟩
theorem pi_cb1 {γ : Type} (k : Option γ) : px_cb 1 k = k := by unfold px_cb; simp
theorem pi_cb0 {γ : Type} (k : Option γ) : px_cb 0 k = k := by unfold px_cb; simp
theorem pi_isF (M : px_M) {k : Nat} (h : k < 10) : fC_isFunction M (nI k) = some 1 := by
  unfold fC_isFunction; rw [(pi_win M (c := 9) (m := 9) rfl (by omega) (by omega)).1]; exact pi_cb1 _
theorem pi_isFn (M : px_M) {x : Int32} (h : x < 0 ∨ nI 10 ≤ x) : fC_isFunction M x = some 0 := by
  unfold fC_isFunction; rw [(pi_wout M (c := 9) (m := 9) rfl (by omega) h).1]; exact pi_cb0 _
theorem pi_isR (M : px_M) {k : Nat} (h : k < 8) : fC_isRegister M (nI k) = some 1 := by
  unfold fC_isRegister; rw [(pi_win M (c := 7) (m := 7) rfl (by omega) (by omega)).1]; exact pi_cb1 _
theorem pi_isRn (M : px_M) {x : Int32} (h : x < 0 ∨ nI 8 ≤ x) : fC_isRegister M x = some 0 := by
  unfold fC_isRegister; rw [(pi_wout M (c := 7) (m := 7) rfl (by omega) h).1]; exact pi_cb0 _
theorem pi_isS (M : px_M) {k : Nat} (h : k < 3) : fC_isSource M (nI k) = some 1 := by
  unfold fC_isSource; rw [(pi_win M (c := 2) (m := 2) rfl (by omega) (by omega)).1]; exact pi_cb1 _
theorem pi_isSn (M : px_M) {x : Int32} (h : x < 0 ∨ nI 3 ≤ x) : fC_isSource M x = some 0 := by
  unfold fC_isSource; rw [(pi_wout M (c := 2) (m := 2) rfl (by omega) h).1]; exact pi_cb0 _
theorem pi_bq {α γ : Type} (a : α) (k : α → Option γ) : px_bq (some a) k = k a := rfl
theorem pi_bo {α β γ : Type} (a : α) (b : β) (k : α → β → Option γ) : px_bo (some (a, b)) k = k a b := rfl
theorem pi_register {j : Nat} {M N : px_M} (h : pr_Rel j M N) : pu_register (pr_Rel (j + 1)) M N := by
  have h' := h
  obtain ⟨np, nl, nr, made, q, ts, tm, fr, hF, hG, hP, hR, hQ, hT, hM, hA, hL, hZ, hU, hC, hV, hm⟩ := h
  intro a
  rcases pi_ix a 8 (by omega) with ⟨k, hk, rfl⟩ | ho
  · obtain ⟨g1, g2⟩ := hG k hk
    refine ⟨.inl (M 6 k, M), M 6 k, px_up N 0 0 0, ?_, fun E hE => by simp at hE, ?_, ⟨rfl, rfl, pr_thrown 0 (pr_mono (by omega) h')⟩⟩
    · unfold fC_register
      rw [pi_isR M hk, pi_bq, if_neg (by decide), pn_ck hk (by omega), nI_clamp (by omega)]
    · unfold fR_M_register
      rw [(pi_win N (c := 7) (m := 7) rfl (by omega) (by omega)).2, pi_bq, if_pos rfl]
      show px_ck (nI k) 8 (some (N 5 (nI k).toNatClampNeg - 1, px_up N 0 0 0)) = _
      rw [pn_ck hk (by omega), nI_clamp (by omega), g1]
      simp
  · refine ⟨.inr "java/lang/IndexOutOfBoundsException", 0, px_up N 0 0 1, ?_, fun E hE => by simpa using hE.symm, ?_, ⟨rfl, by decide, pr_thrown 1 (pr_mono (by omega) h')⟩⟩
    · unfold fC_register
      rw [pi_isRn M ho, pi_bq, if_pos rfl]
    · unfold fR_M_register
      rw [(pi_wout N (c := 7) (m := 7) rfl (by omega) ho).2, pi_bq, if_neg (by decide)]
      rfl
theorem pi_prefer {j : Nat} {M N : px_M} (h : pr_Rel j M N) : pu_prefer (pr_Rel (j + 1)) M N := by
  have h' := h
  obtain ⟨np, nl, nr, made, q, ts, tm, fr, hF, hG, hP, hR, hQ, hT, hM, hA, hL, hZ, hU, hC, hV, hm⟩ := h
  intro a
  rcases pi_ix a 3 (by omega) with ⟨k, hk, rfl⟩ | ho
  · refine ⟨.inl (0, px_up M 0 9 (nI k)), px_up (px_up N 0 0 0) 0 30 (nI k), ?_, fun E hE => by simp at hE, ?_, ⟨rfl, ?_⟩⟩
    · unfold fC_prefer
      rw [pi_isS M hk, pi_bq, if_neg (by decide)]
      rfl
    · unfold fR_M_prefer
      rw [(pi_win N (c := 2) (m := 2) rfl (by omega) (by omega)).2, pi_bq, if_pos rfl]
      rfl
    · obtain ⟨z1, z2, z3⟩ := pr_Z_mono (k := j + 1) (by omega) hZ
      exact ⟨np, nl, nr, made, q, ts, tm, fr, hF, hG, hP, hR, hQ, hT, hM, hA, hL, ⟨⟨k, hk, rfl, rfl⟩, z2, z3⟩, hU, hC, hV, by omega⟩
  · refine ⟨.inr "java/lang/IllegalArgumentException", px_up (px_up N 0 0 1) 0 30 (N 0 30), ?_, fun E hE => by simpa using hE.symm, ?_, ⟨rfl, by decide, ?_⟩⟩
    · unfold fC_prefer
      rw [pi_isSn M ho, pi_bq, if_pos rfl]
    · unfold fR_M_prefer
      rw [(pi_wout N (c := 2) (m := 2) rfl (by omega) ho).2, pi_bq, if_neg (by decide)]
      rfl
    · exact pr_mono (Nat.le_succ j) h'
