/-! advance -/
def pb_X (j np nl nr : Nat) (q : List pn_J) (fr : List Int32) (M N : px_M) : Prop := pr_F M N ∧ pr_G np M N ∧ pr_P np nl M N ∧ pr_R np nr M N ∧ pr_Q np nr q M N ∧ pr_A fr M N ∧ pr_L M N ∧ pr_Z j M N ∧ pr_U np nr q M ∧ pr_C np nr nl q M
theorem pb_X_c {j np nl nr : Nat} {q : List pn_J} {fr : List Int32} {M N M' N' : px_M} (h : pb_X j np nl nr q fr M N) (hM : ∀ k, (k < 8 ∨ 20 ≤ k ∧ k ≠ 51) → M' k = M k) (hN : ∀ k, k ≠ 0 → (k < 20 ∨ 24 ≤ k ∧ k ≠ 31) → N' k = N k) (h0 : ∀ i, i ≠ 0 → i ≠ 25 → N' 0 i = N 0 i) : pb_X j np nl nr q fr M' N' := by
  obtain ⟨hF, hG, hP, hR, hQ, hA, hL, hZ, hU, hC⟩ := h
  refine ⟨pc_F hF (fun k _ _ => hM k (by omega)) (fun k _ _ => hN k (by omega) (by omega)), pc_G hG (hM _ (by omega)) (hN _ (by omega) (by omega)), pc_P hP (fun k _ _ => hM k (by omega)) (by rw [hM 32 (by omega)]) (by rw [hM 32 (by omega)]) (fun k _ _ => hN k (by omega) (by omega)) (h0 _ (by omega) (by omega)) (h0 _ (by omega) (by omega)), pc_R hR (fun k _ _ => hM k (by omega)) (hM _ (by omega)) (by rw [hM 32 (by omega)]) (fun k _ _ => hN k (by omega) (by omega)) (h0 _ (by omega) (by omega)), pc_Q hQ (fun k _ _ => hM k (by omega)) (hM _ (by omega)) (hM _ (by omega)) (fun k _ _ => hN k (by omega) (by omega)) (h0 _ (by omega) (by omega)) (h0 _ (by omega) (by omega)), ?_, pc_L hL (fun k _ _ => hM k (by omega)) (hN _ (by omega) (by omega)) (hN _ (by omega) (by omega)) (h0 _ (by omega) (by omega)) (h0 _ (by omega) (by omega)), ?_, pc_U hU (hM _ (by omega)) (hM _ (by omega)) (hM _ (by omega)) (hM _ (by omega)) (hM _ (by omega)), pc_C hC (hM _ (by omega)) (hM _ (by omega)) (hM _ (by omega)) (hM _ (by omega))⟩
  · obtain ⟨x1, x2, x3, x4, x5⟩ := hA
    exact ⟨lineC_c x1 (hM _ (by omega)) (hM _ (by omega)) (hM _ (by omega)) (hM _ (by omega)), by rw [h0 _ (by omega) (by omega), x2], by rw [h0 _ (by omega) (by omega), x3], by rw [hN 32 (by omega) (by omega)]; exact x4, x5⟩
  · unfold pr_Z
    rw [hM 0 (by omega), h0 30 (by omega) (by omega), h0 31 (by omega) (by omega), h0 42 (by omega) (by omega)]
    exact hZ
/-- timer p comes before timer q -/
def pb_b (M : px_M) (p q : Nat) : Prop := (M 49 p).toInt < (M 49 q).toInt ∨ ((M 49 p).toInt = (M 49 q).toInt ∧ (M 44 p).toInt < (M 44 q).toInt)
theorem pb_isb {M : px_M} {p q : Nat} (hp : p < 12) (hq : q < 12) : (pb_b M p q ∧ fC_Timers_isBefore M (nI p) (nI q) = some 1) ∨ (¬ pb_b M p q ∧ fC_Timers_isBefore M (nI p) (nI q) = some 0) := by
  unfold fC_Timers_isBefore pb_b
  rw [pn_ck hp (by omega), pn_ck hq (by omega), pn_ck hp (by omega), pn_ck hq (by omega), pn_ck hp (by omega), pn_ck hq (by omega), nI_clamp (by omega), nI_clamp (by omega)]
  by_cases c : M 49 p = M 49 q
  · rw [if_pos c, c]
    by_cases d : M 44 q ≤ M 44 p
    · rw [if_pos d]
      rw [Int32.le_iff_toInt_le] at d
      exact Or.inr ⟨by omega, rfl⟩
    · rw [if_neg d]
      rw [Int32.le_iff_toInt_le] at d
      exact Or.inl ⟨by omega, rfl⟩
  · rw [if_neg c]
    have c' : (M 49 p).toInt ≠ (M 49 q).toInt := fun h => c (Int32.toInt_inj.mp h)
    by_cases d : M 49 q ≤ M 49 p
    · rw [if_pos d]
      rw [Int32.le_iff_toInt_le] at d
      exact Or.inr ⟨by omega, rfl⟩
    · rw [if_neg d]
      rw [Int32.le_iff_toInt_le] at d
      exact Or.inl ⟨by omega, rfl⟩
/-- timer p is to get its task -/
def pb_c (now : Int32) (M : px_M) (p : Nat) : Prop := M 44 p ≠ 0 ∧ M 51 p = 0 ∧ ¬ now < M 49 p
theorem pb_nd {M : px_M} {now : Int32} (hinj : ∀ p q, p < 12 → q < 12 → p ≠ q → M 44 p ≠ 0 → M 44 q ≠ 0 → M 44 p ≠ M 44 q) : ∀ (m k n : Nat) (y : Int32), k + m = 12 → m < n → ((y = -1 ∧ ∀ p, p < k → ¬ pb_c now M p) ∨ ∃ p, p < k ∧ y = nI p ∧ pb_c now M p ∧ ∀ p', p' < k → p' ≠ p → pb_c now M p' → pb_b M p p') →
    (px_fx3 gC_Timers_nextDue_L4 n M now y (nI k) = some (-1) ∧ ∀ p, p < 12 → ¬ pb_c now M p) ∨ ∃ p, p < 12 ∧ px_fx3 gC_Timers_nextDue_L4 n M now y (nI k) = some (nI p) ∧ pb_c now M p ∧ ∀ p', p' < 12 → p' ≠ p → pb_c now M p' → pb_b M p p' := by
  intro m
  induction m with
  | zero =>
    intro k n y hk hn h
    obtain ⟨n, rfl⟩ : ∃ n', n = n' + 1 := ⟨n - 1, by omega⟩
    have : k = 12 := by omega
    subst this
    have e : px_fx3 gC_Timers_nextDue_L4 (n + 1) M now y (nI 12) = some y := by
      show gC_Timers_nextDue_L4 (px_fx3 gC_Timers_nextDue_L4 n) M now y (nI 12) = _
      generalize px_fx3 gC_Timers_nextDue_L4 n = rc
      unfold gC_Timers_nextDue_L4
      rw [if_pos (show (12 : Int32) ≤ nI 12 by decide)]
    rw [e]
    rcases h with ⟨rfl, h⟩ | ⟨p, h1, rfl, h2, h3⟩
    · exact Or.inl ⟨rfl, h⟩
    · exact Or.inr ⟨p, h1, rfl, h2, h3⟩
  | succ m ih =>
    intro k n y hk hn h
    obtain ⟨n, rfl⟩ : ∃ n', n = n' + 1 := ⟨n - 1, by omega⟩
    have ih' := ih (k + 1) n
    have hk12 : k < 12 := by omega
    have e : px_fx3 gC_Timers_nextDue_L4 (n + 1) M now y (nI k) = (if (M 44 k) = 0 then px_fx3 gC_Timers_nextDue_L4 n M now y (nI (k + 1)) else (if (M 51 k) = 0 then (if now < (M 49 k) then px_fx3 gC_Timers_nextDue_L4 n M now y (nI (k + 1)) else (if y = (-1 : Int32) then px_fx3 gC_Timers_nextDue_L4 n M now (nI k) (nI (k + 1)) else px_bq (fC_Timers_isBefore M (nI k) y) (fun r10 => (if r10 = 0 then px_fx3 gC_Timers_nextDue_L4 n M now y (nI (k + 1)) else px_fx3 gC_Timers_nextDue_L4 n M now (nI k) (nI (k + 1)))))) else px_fx3 gC_Timers_nextDue_L4 n M now y (nI (k + 1)))) := by
      show gC_Timers_nextDue_L4 (px_fx3 gC_Timers_nextDue_L4 n) M now y (nI k) = _
      generalize px_fx3 gC_Timers_nextDue_L4 n = rc
      unfold gC_Timers_nextDue_L4
      rw [if_neg (show ¬ (12 : Int32) ≤ nI k from nI_ge (b := 12) hk12 (by omega)), pn_ck hk12 (by omega), pn_ck hk12 (by omega), pn_ck hk12 (by omega), nI_clamp (by omega), nI_1]
    rw [e]
    generalize px_fx3 gC_Timers_nextDue_L4 n = rc at ih' ⊢
    have skip : ¬ pb_c now M k → (rc M now y (nI (k + 1)) = some (-1) ∧ ∀ p, p < 12 → ¬ pb_c now M p) ∨ ∃ p, p < 12 ∧ rc M now y (nI (k + 1)) = some (nI p) ∧ pb_c now M p ∧ ∀ p', p' < 12 → p' ≠ p → pb_c now M p' → pb_b M p p' := by
      intro hn
      refine ih' y (by omega) (by omega) ?_
      rcases h with ⟨h1, h2⟩ | ⟨p, h1, h2, h3, h4⟩
      · refine Or.inl ⟨h1, fun p hp => ?_⟩
        by_cases c : p = k
        · subst c; exact hn
        · exact h2 p (by omega)
      · refine Or.inr ⟨p, by omega, h2, h3, fun p' h5 h6 h7 => ?_⟩
        by_cases c : p' = k
        · subst c; exact absurd h7 hn
        · exact h4 p' (by omega) h6 h7
    by_cases c1 : M 44 k = 0
    · rw [if_pos c1]
      exact skip (fun h => h.1 c1)
    · rw [if_neg c1]
      by_cases c2 : M 51 k = 0
      · rw [if_pos c2]
        by_cases c3 : now < M 49 k
        · rw [if_pos c3]
          exact skip (fun h => h.2.2 c3)
        · rw [if_neg c3]
          have hk : pb_c now M k := ⟨c1, c2, c3⟩
          rcases h with ⟨rfl, h2⟩ | ⟨p, h1, rfl, h3, h4⟩
          · rw [if_pos rfl]
            refine ih' (nI k) (by omega) (by omega) (Or.inr ⟨k, by omega, rfl, hk, fun p' h5 h6 h7 => absurd h7 (h2 p' (by omega))⟩)
          · rw [if_neg (pg_neg1 (by omega))]
            rcases pb_isb (M := M) (p := k) (q := p) hk12 (by omega) with ⟨b1, b2⟩ | ⟨b1, b2⟩
            · rw [b2, pi_bq, if_neg (show ¬ (1 : Int32) = 0 by decide)]
              refine ih' (nI k) (by omega) (by omega) (Or.inr ⟨k, by omega, rfl, hk, fun p' h5 h6 h7 => ?_⟩)
              by_cases c : p' = p
              · subst c; exact b1
              · have := h4 p' (by omega) c h7
                unfold pb_b at this b1 ⊢
                omega
            · rw [b2, pi_bq, if_pos rfl]
              refine ih' (nI p) (by omega) (by omega) (Or.inr ⟨p, by omega, rfl, h3, fun p' h5 h6 h7 => ?_⟩)
              by_cases c : p' = k
              · subst c
                have hne := hinj p p' (by omega) hk12 (fun h => h6 h.symm) h3.1 c1
                have hne' : (M 44 p).toInt ≠ (M 44 p').toInt := fun h => hne (Int32.toInt_inj.mp h)
                unfold pb_b at b1 ⊢
                omega
              · exact h4 p' (by omega) h6 h7
      · rw [if_neg c2]
        exact skip (fun h => c2 h.2.1)
/-- the same in the reference -/
def pb_d (N : px_M) (i : Nat) : Prop := N 31 i = 0 ∧ ¬ N 0 31 < N 29 i
def pb_e (rc : px_M → Int32 → Option (Int32 × px_M)) (N : px_M) (i : Nat) : Option (Int32 × px_M) := px_bq (fR_M_addTask (px_up N 31 i 1) (1 : Int32) (N 25 i) (N 26 i) (N 24 i)) (fun M18 => rc M18 (1 : Int32))
theorem pb_nr {N : px_M} {c : Nat} (hc : c ≤ 12) (h32 : N 0 32 = nI c) (rc : px_M → Int32 → Option (Int32 × px_M)) : ∀ (m k n : Nat) (y : Int32), k + m = c → m < n → ((y = -1 ∧ ∀ i, i < k → ¬ pb_d N i) ∨ ∃ i, i < k ∧ y = nI i ∧ pb_d N i ∧ ∀ i', i' < k → pb_d N i' → (N 29 i).toInt ≤ (N 29 i').toInt ∧ (i' < i → (N 29 i).toInt < (N 29 i').toInt)) →
    (px_fx2 (gR_M_advance_L85 rc) n N y (nI k) = rc N 0 ∧ ∀ i, i < c → ¬ pb_d N i) ∨ ∃ i, i < c ∧ px_fx2 (gR_M_advance_L85 rc) n N y (nI k) = pb_e rc N i ∧ pb_d N i ∧ ∀ i', i' < c → pb_d N i' → (N 29 i).toInt ≤ (N 29 i').toInt ∧ (i' < i → (N 29 i).toInt < (N 29 i').toInt) := by
  intro m
  induction m with
  | zero =>
    intro k n y hk hn h
    obtain ⟨n, rfl⟩ : ∃ n', n = n' + 1 := ⟨n - 1, by omega⟩
    have : k = c := by omega
    subst this
    have e : px_fx2 (gR_M_advance_L85 rc) (n + 1) N y (nI k) = (if y < 0 then rc N (0 : Int32) else px_ck y 12 (px_bn (px_up N 31 y.toNatClampNeg (1 : Int32)) (fun M13 => px_ck y 12 (px_ck y 12 (px_ck y 12 (px_bq (fR_M_addTask M13 (1 : Int32) (M13 25 y.toNatClampNeg) (M13 26 y.toNatClampNeg) (M13 24 y.toNatClampNeg)) (fun M18 => rc M18 (1 : Int32)))))))) := by
      show gR_M_advance_L85 rc (px_fx2 (gR_M_advance_L85 rc) n) N y (nI k) = _
      generalize px_fx2 (gR_M_advance_L85 rc) n = rc2
      unfold gR_M_advance_L85
      rw [h32, if_pos (nI_le (Nat.le_refl _) (by omega))]
    rw [e]
    rcases h with ⟨rfl, h⟩ | ⟨i, h1, rfl, h2, h3⟩
    · exact Or.inl ⟨if_pos (by decide), h⟩
    · refine Or.inr ⟨i, h1, ?_, h2, h3⟩
      rw [if_neg (nI_pos (by omega)), pn_ck (show i < 12 by omega) (by omega), nI_clamp (by omega)]
      simp only [px_bn]
      rw [pn_ck (show i < 12 by omega) (by omega), pn_ck (show i < 12 by omega) (by omega), pn_ck (show i < 12 by omega) (by omega)]
      rfl
  | succ m ih =>
    intro k n y hk hn h
    obtain ⟨n, rfl⟩ : ∃ n', n = n' + 1 := ⟨n - 1, by omega⟩
    have ih' := ih (k + 1) n
    have hk12 : k < 12 := by omega
    have e : px_fx2 (gR_M_advance_L85 rc) (n + 1) N y (nI k) = (if (N 31 k) = 0 then (if (N 0 31) < (N 29 k) then px_fx2 (gR_M_advance_L85 rc) n N y (nI (k + 1)) else (if y < 0 then px_fx2 (gR_M_advance_L85 rc) n N (nI k) (nI (k + 1)) else px_ck y 12 ((if (N 29 y.toNatClampNeg) ≤ (N 29 k) then px_fx2 (gR_M_advance_L85 rc) n N y (nI (k + 1)) else px_fx2 (gR_M_advance_L85 rc) n N (nI k) (nI (k + 1)))))) else px_fx2 (gR_M_advance_L85 rc) n N y (nI (k + 1))) := by
      show gR_M_advance_L85 rc (px_fx2 (gR_M_advance_L85 rc) n) N y (nI k) = _
      generalize px_fx2 (gR_M_advance_L85 rc) n = rc2
      unfold gR_M_advance_L85
      rw [h32, if_neg (nI_ge (by omega) (by omega)), pn_ck hk12 (by omega), pn_ck hk12 (by omega), pn_ck hk12 (by omega), nI_clamp (by omega), nI_1]
    rw [e]
    generalize px_fx2 (gR_M_advance_L85 rc) n = rc2 at ih' ⊢
    have skip : ¬ pb_d N k → (rc2 N y (nI (k + 1)) = rc N 0 ∧ ∀ i, i < c → ¬ pb_d N i) ∨ ∃ i, i < c ∧ rc2 N y (nI (k + 1)) = pb_e rc N i ∧ pb_d N i ∧ ∀ i', i' < c → pb_d N i' → (N 29 i).toInt ≤ (N 29 i').toInt ∧ (i' < i → (N 29 i).toInt < (N 29 i').toInt) := by
      intro hn
      refine ih' y (by omega) (by omega) ?_
      rcases h with ⟨h1, h2⟩ | ⟨p, h1, h2, h3, h4⟩
      · refine Or.inl ⟨h1, fun p hp => ?_⟩
        by_cases c : p = k
        · subst c; exact hn
        · exact h2 p (by omega)
      · refine Or.inr ⟨p, by omega, h2, h3, fun p' h5 h7 => ?_⟩
        by_cases c : p' = k
        · subst c; exact absurd h7 hn
        · exact h4 p' (by omega) h7
    by_cases c2 : N 31 k = 0
    · rw [if_pos c2]
      by_cases c3 : N 0 31 < N 29 k
      · rw [if_pos c3]
        exact skip (fun h => h.2 c3)
      · rw [if_neg c3]
        have hk : pb_d N k := ⟨c2, c3⟩
        rcases h with ⟨rfl, h2⟩ | ⟨p, h1, rfl, h3, h4⟩
        · rw [if_pos (by decide)]
          refine ih' (nI k) (by omega) (by omega) (Or.inr ⟨k, by omega, rfl, hk, fun p' h5 h7 => ?_⟩)
          by_cases c : p' = k
          · subst c; exact ⟨Int.le_refl _, fun h => by omega⟩
          · exact absurd h7 (h2 p' (by omega))
        · rw [if_neg (nI_pos (by omega)), pn_ck (show p < 12 by omega) (by omega), nI_clamp (by omega)]
          by_cases c4 : N 29 p ≤ N 29 k
          · rw [if_pos c4]
            rw [Int32.le_iff_toInt_le] at c4
            refine ih' (nI p) (by omega) (by omega) (Or.inr ⟨p, by omega, rfl, h3, fun p' h5 h7 => ?_⟩)
            by_cases c : p' = k
            · subst c; exact ⟨c4, fun h => by omega⟩
            · exact h4 p' (by omega) h7
          · rw [if_neg c4]
            rw [Int32.le_iff_toInt_le] at c4
            refine ih' (nI k) (by omega) (by omega) (Or.inr ⟨k, by omega, rfl, hk, fun p' h5 h7 => ?_⟩)
            by_cases c : p' = k
            · subst c; exact ⟨Int.le_refl _, fun h => by omega⟩
            · have := h4 p' (by omega) h7
              exact ⟨by omega, fun _ => by omega⟩
    · rw [if_neg c2]
      exact skip (fun h => c2 h.1)
/-- there is room for one task more -/
theorem pb_room {made : Nat} {ts : List pr_Tk} {tm : List (Nat × Nat)} {M N : px_M} (hM : pr_M made tm M N) (hV : pr_V ts tm M) {i : Nat} (hi : i < tm.length) (h : ∀ t ∈ ts, t.2.2.2 ≠ tm[i].1) : ts.length ≤ 1050 := by
  obtain ⟨v1, v2, v3, v4⟩ := hV
  have hpos := (hM.2.2.2.2.2.2.2.1 i hi).1
  have key := pg_le ((ts.map (fun t : pr_Tk => t.2.2.2)).filter (fun t => t != 0) ++ [tm[i].1]) (List.range' 1 999 ++ tm.map Prod.fst) (by
    rw [List.nodup_append]
    refine ⟨v1, by simp, fun a ha b hb => ?_⟩
    rw [List.mem_singleton] at hb
    subst hb
    obtain ⟨t, ht, rfl⟩ := List.mem_map.mp (List.mem_filter.mp ha).1
    exact h t ht) (by
    intro x hx
    rw [List.mem_append] at hx ⊢
    rcases hx with hx | hx
    · obtain ⟨hx1, hx2⟩ := List.mem_filter.mp hx
      obtain ⟨t, ht, rfl⟩ := List.mem_map.mp hx1
      have h0 : t.2.2.2 ≠ 0 := by simpa using hx2
      by_cases c : t.2.2.2 ≤ 999
      · exact Or.inl (List.mem_range'_1.mpr ⟨by omega, by omega⟩)
      · obtain ⟨u, u1, u2⟩ := v3 t ht (by omega)
        exact Or.inr (List.mem_map.mpr ⟨u, u1, u2⟩)
    · rw [List.mem_singleton] at hx
      subst hx
      exact Or.inr (List.mem_map.mpr ⟨tm[i], List.getElem_mem hi, rfl⟩))
  rw [List.length_append, List.length_append, List.length_range', List.length_map, List.length_singleton] at key
  have h12 := hM.1
  have hsplit : ∀ l : List pr_Tk, l.length = (l.filter (fun t => t.2.2.2 == 0)).length + ((l.map (fun t : pr_Tk => t.2.2.2)).filter (fun t => t != 0)).length := by
    intro l
    induction l with
    | nil => rfl
    | cons t l ih =>
      rw [List.map_cons, List.filter_cons, List.filter_cons, List.length_cons]
      by_cases c : t.2.2.2 = 0
      · rw [if_pos (by simpa using c), if_neg (by simpa using c), List.length_cons]; omega
      · rw [if_neg (by simpa using c), if_pos (by simpa using c), List.length_cons]; omega
  have := hsplit ts
  omega
theorem pb_round {made : Nat} {ts : List pr_Tk} {tm : List (Nat × Nat)} {M N : px_M} {now : Int32} (hT : pr_T made ts M N) (hM : pr_M made tm M N) (hV : pr_V ts tm M) (hm : made < 2 ^ 31) (hnow : N 0 31 = now) :
    (fC_Timers_nextDue M now = some (-1) ∧ ∀ rc, px_fx2 (gR_M_advance_L85 rc) 14 N (-1) 0 = rc N 0) ∨ ∃ (p : Nat) (ts' : List pr_Tk) (M' N' : px_M), p < 12 ∧ M 51 p = 0 ∧ fC_Timers_nextDue M now = some (nI p) ∧ fC_Line_put_12 (px_up M 51 p 1) 1 ((px_up M 51 p 1) 44 p) 0 = some M' ∧ (∀ rc, px_fx2 (gR_M_advance_L85 rc) 14 N (-1) 0 = rc N' 1) ∧ pr_T made ts' M' N' ∧ pr_M made tm M' N' ∧ pr_V ts' tm M' ∧ M' 51 = upd (M 51) p 1 ∧ (∀ k, (k < 8 ∨ 20 ≤ k ∧ k ≠ 51) → M' k = M k) ∧ (∀ k, k ≠ 0 → (k < 20 ∨ 24 ≤ k ∧ k ≠ 31) → N' k = N k) ∧ ∀ i, i ≠ 25 → N' 0 i = N 0 i := by
  have hM' := hM
  obtain ⟨m1, m2, m3, m4, m5, m6, m7, m8, m9⟩ := hM
  have hinj2 : ∀ (k i : Nat) (hk : k < tm.length) (hi : i < tm.length), k ≠ i → tm[k].2 ≠ tm[i].2 := by
    intro k i hk hi hne e
    rw [List.nodup_iff_pairwise_ne, List.pairwise_iff_getElem] at m7
    rcases Nat.lt_or_gt_of_ne hne with c1 | c1
    · have := m7 k i (by simpa using hk) (by simpa using hi) c1
      simp only [List.getElem_map] at this
      exact this e
    · have := m7 i k (by simpa using hi) (by simpa using hk) c1
      simp only [List.getElem_map] at this
      exact this e.symm
  have hlt : ∀ (k i : Nat) (hk : k < tm.length) (hi : i < tm.length), k < i → tm[k].1 < tm[i].1 := by
    intro k i hk hi hne
    rw [List.pairwise_iff_getElem] at m6
    have := m6 k i (by simpa using hk) (by simpa using hi) hne
    simpa using this
  have hpl : ∀ p, p < 12 → M 44 p ≠ 0 → ∃ i, ∃ hi : i < tm.length, tm[i].2 = p := fun p hp h0 => by
    rcases m9 p hp with h | h
    · exact absurd h h0
    · exact h
  have hcd : ∀ (i : Nat) (hi : i < tm.length), pb_d N i ↔ pb_c now M tm[i].2 := by
    intro i hi
    obtain ⟨a1, a2, a3, a4, a5, a6, a7, a8, a9, a10, a11, a12, -⟩ := m8 i hi
    unfold pb_d pb_c
    rw [a12, a10, hnow, a5]
    exact ⟨fun h => ⟨nI_ne0 a1 (by omega), h⟩, fun h => h.2⟩
  have nd := pb_nd (M := M) (now := now) (fun p q hp hq hne h1 h2 => by
    obtain ⟨i, hi, rfl⟩ := hpl p hp h1
    obtain ⟨k, hk, rfl⟩ := hpl q hq h2
    rw [(m8 i hi).2.2.2.2.1, (m8 k hk).2.2.2.2.1]
    intro e
    have e' := (nI_eq (by have := (m8 i hi).2.1; omega) (by have := (m8 k hk).2.1; omega)).mp e
    have := pf_inj m6 hi hk e'
    subst this
    exact hne rfl) 12 0 13 (-1) (by omega) (by omega) (Or.inl ⟨rfl, fun p hp => by omega⟩)
  have nr := fun rc => pb_nr (N := N) (c := tm.length) m1 m2 rc tm.length 0 14 (-1) (by omega) (by omega) (Or.inl ⟨rfl, fun p hp => by omega⟩)
  by_cases ex : ∃ i, i < tm.length ∧ pb_d N i
  · right
    -- the timer that the class takes
    obtain ⟨p, hp, c1, c2, c3⟩ : ∃ p, p < 12 ∧ fC_Timers_nextDue M now = some (nI p) ∧ pb_c now M p ∧ ∀ p', p' < 12 → p' ≠ p → pb_c now M p' → pb_b M p p' := by
      rcases nd with ⟨-, h⟩ | h
      · obtain ⟨i, hi, hd⟩ := ex
        exact absurd ((hcd i hi).mp hd) (h _ (m8 i hi).2.2.1)
      · exact h
    obtain ⟨i, hi, rfl⟩ := hpl p hp c2.1
    have hR : ∀ rc, px_fx2 (gR_M_advance_L85 rc) 14 N (-1) 0 = pb_e rc N i := by
      intro rc
      rcases nr rc with ⟨-, h⟩ | ⟨k, hk, r1, r2, r3⟩
      · obtain ⟨i, hi, hd⟩ := ex
        exact absurd hd (h i hi)
      · have : k = i := by
          by_cases e : k = i
          · exact e
          · exfalso
            have hb := c3 tm[k].2 (m8 k hk).2.2.1 (hinj2 k i hk hi e) ((hcd k hk).mp r2)
            obtain ⟨r4, r5⟩ := r3 i hi ((hcd i hi).mpr c2)
            rw [(m8 k hk).2.2.2.2.2.2.2.2.2.1, (m8 i hi).2.2.2.2.2.2.2.2.2.1] at r4 r5
            unfold pb_b at hb
            rcases hb with hb | ⟨hb1, hb2⟩
            · omega
            · rw [(m8 k hk).2.2.2.2.1, (m8 i hi).2.2.2.2.1, nI_toInt (by have := (m8 i hi).2.1; omega), nI_toInt (by have := (m8 k hk).2.1; omega)] at hb2
              rcases Nat.lt_or_gt_of_ne e with h | h
              · have := hlt k i hk hi h; omega
              · have := r5 h; omega
        subst this
        exact r1
    obtain ⟨a1, a2, a3, a4, a5, a6, a7, a8, a9, a10, a11, a12, a13, a14, a15, a16⟩ := m8 i hi
    obtain ⟨v1, v2, v3, v4⟩ := hV
    have hno : ∀ t ∈ ts, t.2.2.2 ≠ tm[i].1 := by
      intro t ht e
      have := (v4 tm[i] (List.getElem_mem hi)).mpr ⟨t, ht, e⟩
      rw [c2.2.1] at this
      exact absurd this (by decide)
    have hroom := pb_room hM' ⟨v1, v2, v3, v4⟩ hi hno
    have hT1 : pr_T made ts (px_up M 51 tm[i].2 1) (px_up N 31 i 1) := pc_T hT (fun k _ _ => by rw [pn_un (by omega)]) (fun k _ _ => by rw [pn_un (by omega)]) rfl
    obtain ⟨M', N', b1, b2, b3, b4, b5, b6, b7⟩ := pq_add (t := (1, 0, 0, tm[i].1)) hT1 (by omega) (by omega) (by have := pq_len 1 ts; show (pr_of 1 ts).length < (if 1 = 1 then 1051 else 40); rw [if_pos rfl]; omega) (fun h => absurd h (by show tm[i].1 ≠ 0; omega)) a2 (fun _ => rfl) (N 25 i) (N 26 i) (fun h => absurd h (by show tm[i].1 ≠ 0; omega))
    have ct : pr_ct (1, 0, 0, tm[i].1) = (1, nI tm[i].1, 0) := by unfold pr_ct; exact if_neg (by show tm[i].1 ≠ 0; omega)
    rw [ct] at b1
    have e51 : M' 51 = upd (M 51) tm[i].2 1 := by rw [b4 51 (by omega), pn_up]
    have hMk : ∀ k, (k < 8 ∨ 20 ≤ k ∧ k ≠ 51) → M' k = M k := fun k hk => by rw [b4 k (by omega), pn_un (by omega)]
    have hNk : ∀ k, k ≠ 0 → (k < 20 ∨ 24 ≤ k ∧ k ≠ 31) → N' k = N k := fun k h0 hk => by rw [b5 k h0 (by omega), pn_un (by omega)]
    have hN0 : ∀ i, i ≠ 25 → N' 0 i = N 0 i := fun i hi => by rw [b6 i hi]; rfl
    refine ⟨tm[i].2, ts ++ [(1, 0, 0, tm[i].1)], M', N', hp, c2.2.1, c1, ?_, ?_, b3, ?_, ?_, e51, hMk, hNk, hN0⟩
    · show fC_Line_put_12 (px_up M 51 tm[i].2 1) 1 (M 44 tm[i].2) 0 = some M'
      rw [a5]
      exact b1
    · intro rc
      rw [hR rc]
      unfold pb_e
      rw [a4, show fR_M_addTask (px_up N 31 i 1) (1 : Int32) (N 25 i) (N 26 i) (nI tm[i].1) = some N' from b2, pi_bq]
    · refine ⟨m1, by rw [hN0 32 (by omega), m2], by rw [hMk 43 (by omega), m3], by rw [hMk 43 (by omega), m4], by rw [hN0 33 (by omega), m5], m6, m7, fun k hk => ?_, fun p hp => by rw [hMk 44 (by omega)]; exact m9 p hp⟩
      rw [hNk 24 (by omega) (by omega), hNk 25 (by omega) (by omega), hNk 26 (by omega) (by omega), hNk 27 (by omega) (by omega), hNk 28 (by omega) (by omega), hNk 29 (by omega) (by omega), hNk 30 (by omega) (by omega), b5 31 (by omega) (by omega), pn_up, hMk 44 (by omega), hMk 45 (by omega), hMk 46 (by omega), hMk 47 (by omega), hMk 48 (by omega), hMk 49 (by omega), hMk 50 (by omega), e51]
      obtain ⟨d1, d2, d3, d4, d5, d6, d7, d8, d9, d10, d11, d12, d13, d14, d15, d16⟩ := m8 k hk
      by_cases ck : k = i
      · subst ck
        rw [pn_us, pn_us]
        exact ⟨d1, d2, d3, d4, d5, d6, d7, d8, d9, d10, d11, rfl, d13, Or.inr rfl, d15, d16⟩
      · rw [pn_ue ck, pn_ue (hinj2 k i hk hi ck)]
        exact ⟨d1, d2, d3, d4, d5, d6, d7, d8, d9, d10, d11, d12, d13, d14, d15, d16⟩
    · refine ⟨?_, ?_, ?_, ?_⟩
      · rw [List.map_append, List.filter_append, List.map_cons, List.map_nil, List.filter_cons, if_pos (by show (tm[i].1 != 0) = true; simp; omega), List.filter_nil, List.nodup_append]
        refine ⟨v1, by simp, fun a ha b hb => ?_⟩
        rw [List.mem_singleton] at hb
        subst hb
        obtain ⟨t, ht, rfl⟩ := List.mem_map.mp (List.mem_filter.mp ha).1
        exact hno t ht
      · rw [List.filter_append, List.filter_cons, if_neg (by show ¬ (tm[i].1 == 0) = true; simp; omega), List.filter_nil, List.append_nil]
        exact v2
      · intro t ht h9
        rw [List.mem_append, List.mem_singleton] at ht
        rcases ht with ht | rfl
        · exact v3 t ht h9
        · exact ⟨tm[i], List.getElem_mem hi, rfl⟩
      · intro x hx
        obtain ⟨k, hk, rfl⟩ := List.getElem_of_mem hx
        rw [e51]
        by_cases ck : k = i
        · subst ck
          rw [pn_us]
          exact ⟨fun _ => ⟨_, List.mem_append_right _ (List.mem_singleton.mpr rfl), rfl⟩, fun _ => rfl⟩
        · rw [pn_ue (hinj2 k i hk hi ck), v4 tm[k] hx]
          constructor
          · rintro ⟨t, h1, h2⟩
            exact ⟨t, List.mem_append_left _ h1, h2⟩
          · rintro ⟨t, h1, h2⟩
            rw [List.mem_append, List.mem_singleton] at h1
            rcases h1 with h1 | rfl
            · exact ⟨t, h1, h2⟩
            · exact absurd (pf_inj m6 hi hk h2).symm ck
  · left
    refine ⟨?_, fun rc => ?_⟩
    · rcases nd with ⟨h, -⟩ | ⟨p, hp, -, c2, -⟩
      · exact h
      · obtain ⟨i, hi, rfl⟩ := hpl p hp c2.1
        exact absurd ⟨i, hi, (hcd i hi).mpr c2⟩ ex
    · rcases nr rc with ⟨h, -⟩ | ⟨i, hi, -, c2, -⟩
      · exact h
      · exact absurd ⟨i, hi, c2⟩ ex
theorem pb_put {made : Nat} {tm : List (Nat × Nat)} {now : Int32} (hm : made < 2 ^ 31) : ∀ (u y n m : Nat) (ts : List pr_Tk) (M N : px_M), pr_cnt 12 (fun p => M 51 p == 0) = u → u + y ≤ 12 → n + y = 13 → u + 2 ≤ m → pr_T made ts M N → pr_M made tm M N → pr_V ts tm M → N 0 31 = now →
    ∃ (M' N' : px_M) (ts' : List pr_Tk), px_fx2 gC_Timers_putTasks_L2 n M now (nI y) = some M' ∧ px_fx1 gR_M_advance_L76 m N 1 = some (now, N') ∧ pr_T made ts' M' N' ∧ pr_M made tm M' N' ∧ pr_V ts' tm M' ∧ (∀ k, (k < 8 ∨ 20 ≤ k ∧ k ≠ 51) → M' k = M k) ∧ (∀ k, k ≠ 0 → (k < 20 ∨ 24 ≤ k ∧ k ≠ 31) → N' k = N k) ∧ ∀ i, i ≠ 25 → N' 0 i = N 0 i := by
  intro u
  induction u with
  | zero =>
    intro y n m ts M N hu hy hn hm2 hT hM hV hnow
    obtain ⟨n, rfl⟩ : ∃ n', n = n' + 1 := ⟨n - 1, by omega⟩
    obtain ⟨m, rfl⟩ : ∃ m', m = m' + 2 := ⟨m - 2, by omega⟩
    rcases pb_round hT hM hV hm hnow with ⟨a1, a2⟩ | ⟨p, ts', M', N', hp, a1, -⟩
    · refine ⟨M, N, ts, ?_, ?_, hT, hM, hV, fun _ _ => rfl, fun _ _ _ => rfl, fun _ _ => rfl⟩
      · show gC_Timers_putTasks_L2 (px_fx2 gC_Timers_putTasks_L2 n) M now (nI y) = _
        generalize px_fx2 gC_Timers_putTasks_L2 n = rc
        unfold gC_Timers_putTasks_L2
        rw [a1, pi_bq, if_pos rfl, ite_self]
      · show gR_M_advance_L76 (px_fx1 gR_M_advance_L76 (m + 1)) N 1 = _
        rw [show gR_M_advance_L76 (px_fx1 gR_M_advance_L76 (m + 1)) N 1 = px_fx2 (gR_M_advance_L85 (px_fx1 gR_M_advance_L76 (m + 1))) 14 N (-1) 0 from if_neg (by decide), a2, ← hnow]
        rw [po_fx]
        generalize px_fx1 gR_M_advance_L76 m = rc
        unfold gR_M_advance_L76
        rw [if_pos rfl]
    · exfalso
      have := pz_u (n := 12) (k := p) (p := fun i => upd (M 51) p 1 i == 0) (q := fun i => M 51 i == 0) hp (fun i _ hi => by rw [pn_ue hi]) (by rw [pn_us]; decide) (by rw [a1]; decide)
      omega
  | succ u ih =>
    intro y n m ts M N hu hy hn hm2 hT hM hV hnow
    obtain ⟨n, rfl⟩ : ∃ n', n = n' + 1 := ⟨n - 1, by omega⟩
    obtain ⟨m, rfl⟩ : ∃ m', m = m' + 2 := ⟨m - 2, by omega⟩
    rcases pb_round hT hM hV hm hnow with ⟨a1, a2⟩ | ⟨p, ts', M', N', hp, a1, a2, a3, a4, a5, a6, a7, a8, a9, a10, a11⟩
    · refine ⟨M, N, ts, ?_, ?_, hT, hM, hV, fun _ _ => rfl, fun _ _ _ => rfl, fun _ _ => rfl⟩
      · show gC_Timers_putTasks_L2 (px_fx2 gC_Timers_putTasks_L2 n) M now (nI y) = _
        generalize px_fx2 gC_Timers_putTasks_L2 n = rc
        unfold gC_Timers_putTasks_L2
        rw [a1, pi_bq, if_pos rfl, ite_self]
      · show gR_M_advance_L76 (px_fx1 gR_M_advance_L76 (m + 1)) N 1 = _
        rw [show gR_M_advance_L76 (px_fx1 gR_M_advance_L76 (m + 1)) N 1 = px_fx2 (gR_M_advance_L85 (px_fx1 gR_M_advance_L76 (m + 1))) 14 N (-1) 0 from if_neg (by decide), a2, ← hnow]
        rw [po_fx]
        generalize px_fx1 gR_M_advance_L76 m = rc
        unfold gR_M_advance_L76
        rw [if_pos rfl]
    · have hcnt := pz_u (n := 12) (k := p) (p := fun i => M' 51 i == 0) (q := fun i => M 51 i == 0) hp (fun i _ hi => by rw [a8, pn_ue hi]) (by rw [a8, pn_us]; decide) (by rw [a1]; decide)
      obtain ⟨M2, N2, ts2, b1, b2, b3, b4, b5, b6, b7, b8⟩ := ih (y + 1) n (m + 1) ts' M' N' (by omega) (by omega) (by omega) (by omega) a5 a6 a7 (by rw [a11 31 (by omega), hnow])
      refine ⟨M2, N2, ts2, ?_, ?_, b3, b4, b5, fun k hk => by rw [b6 k hk, a9 k hk], fun k h0 hk => by rw [b7 k h0 hk, a10 k h0 hk], fun i hi => by rw [b8 i hi, a11 i hi]⟩
      · rw [← b1]
        show gC_Timers_putTasks_L2 (px_fx2 gC_Timers_putTasks_L2 n) M now (nI y) = _
        generalize px_fx2 gC_Timers_putTasks_L2 n = rc
        unfold gC_Timers_putTasks_L2
        rw [if_neg (show ¬ (12 : Int32) ≤ nI y from nI_ge (b := 12) (by omega) (by omega)), a2, pi_bq, if_neg (pg_neg1 (by omega))]
        simp only [px_bn, pn_ck hp (show (12 : Nat) < 2 ^ 31 by omega), nI_clamp (show p < 2 ^ 31 by omega)]
        rw [a3, pi_bq, nI_1]
      · rw [← b2]
        show gR_M_advance_L76 (px_fx1 gR_M_advance_L76 (m + 1)) N 1 = _
        rw [show gR_M_advance_L76 (px_fx1 gR_M_advance_L76 (m + 1)) N 1 = px_fx2 (gR_M_advance_L85 (px_fx1 gR_M_advance_L76 (m + 1))) 14 N (-1) 0 from if_neg (by decide), a4]
theorem pb_advance {j : Nat} {M N : px_M} (h : pr_Rel j M N) (hj : j < 512) : pu_advance (pr_Rel (j + 1)) M N := by
  have h' := h
  obtain ⟨np, nl, nr, made, q, ts, tm, fr, hF, hG, hP, hR, hQ, hT, hM, hA, hL, hZ, hU, hC, hV, hmade⟩ := h
  intro a
  have bad : fC_isWithin M a 1 100 = some 0 → fR_M_outside N a 1 100 = some 1 → ∃ (z : px_Z) (r : Int32) (N1 : px_M), fC_advance M a = some z ∧ (∀ E, z = .inr E → E = "java/lang/IllegalArgumentException") ∧ fR_M_advance N a = some (r, N1) ∧ pu_ag (fun E => if E = "java/lang/IllegalArgumentException" then 1 else 2) (pr_Rel (j + 1)) M z r N1 := by
    intro e1 e2
    refine ⟨.inr "java/lang/IllegalArgumentException", 0, px_up N 0 0 1, ?_, fun E hE => by simpa using hE.symm, ?_, ⟨rfl, by decide, pr_thrown 1 (pr_mono (by omega) h')⟩⟩
    · unfold fC_advance
      rw [e1, pi_bq, if_pos rfl]
    · unfold fR_M_advance
      rw [e2, pi_bq, if_neg (by decide)]
      simp only [px_bn]
      rw [if_neg (show ¬ (px_up N 0 0 1) 0 0 = 0 by rw [pn_up, pn_us]; decide)]
  rcases pi_ix a 101 (by omega) with ⟨k, hk, rfl⟩ | ho
  · by_cases k0 : k = 0
    · subst k0
      exact bad rfl rfl
    · have w1 : fC_isWithin M (nI k) 1 100 = some 1 := by
        unfold fC_isWithin
        rw [if_neg (show ¬ nI k < (1 : Int32) from nI_nlt (b := 1) (by omega) (by omega)), if_neg (show ¬ (100 : Int32) < nI k from nI_nlt (a := 100) (by omega) (by omega))]
      have w2 : fR_M_outside N (nI k) 1 100 = some 0 := by
        unfold fR_M_outside
        rw [if_neg (show ¬ nI k < (1 : Int32) from nI_nlt (b := 1) (by omega) (by omega)), if_pos (show nI k ≤ (100 : Int32) from nI_le (b := 100) (by omega) (by omega))]
      obtain ⟨z1, ⟨t, z2, z3, z4⟩, z5, z6, z7⟩ := hZ
      -- the flag of frames, and the clock
      let fl : Int32 := if M 0 11 = 0 then (if (t + k) / 16 = t / 16 then 0 else 1) else 1
      have hfl : pr_B fl := by
        show pr_B (if M 0 11 = 0 then (if (t + k) / 16 = t / 16 then 0 else 1) else 1)
        split
        · split
          · exact Or.inl rfl
          · exact Or.inr rfl
        · exact Or.inr rfl
      have d1 : nI (t + k) / 16 = nI ((t + k) / 16) := pk_div (d := 16) (by omega) (by omega) (by omega)
      have d2 : nI t / 16 = nI (t / 16) := pk_div (d := 16) (by omega) (by omega) (by omega)
      have q1 : (t + k) / 16 < 2 ^ 31 := by omega
      have q2 : t / 16 < 2 ^ 31 := by omega
      let M1 : px_M := px_up (px_up M 0 10 (nI (t + k))) 0 11 fl
      let N1 : px_M := px_up (px_up (px_up N 0 0 0) 0 42 fl) 0 31 (nI (t + k))
      have eM0 : ∀ i, i ≠ 10 → i ≠ 11 → M1 0 i = M 0 i := fun i h1 h2 => by
        show (px_up (px_up M 0 10 (nI (t + k))) 0 11 fl) 0 i = _
        rw [pv_ui (Or.inr h2), pv_ui (Or.inr h1)]
      have eMk : ∀ k', k' ≠ 0 → M1 k' = M k' := fun k' h0 => by
        show (px_up (px_up M 0 10 (nI (t + k))) 0 11 fl) k' = _
        rw [pn_un h0, pn_un h0]
      have eM10 : M1 0 10 = nI (t + k) := by
        show (px_up (px_up M 0 10 (nI (t + k))) 0 11 fl) 0 10 = _
        rw [pv_ui (Or.inr (by omega)), pn_up, pn_us]
      have eM11 : M1 0 11 = fl := by
        show (px_up (px_up M 0 10 (nI (t + k))) 0 11 fl) 0 11 = _
        rw [pn_up, pn_us]
      have eN0 : ∀ i, i ≠ 0 → i ≠ 42 → i ≠ 31 → N1 0 i = N 0 i := fun i h1 h2 h3 => by
        show (px_up (px_up (px_up N 0 0 0) 0 42 fl) 0 31 (nI (t + k))) 0 i = _
        rw [pv_ui (Or.inr h3), pv_ui (Or.inr h2), pv_ui (Or.inr h1)]
      have eNk : ∀ k', k' ≠ 0 → N1 k' = N k' := fun k' h0 => by
        show (px_up (px_up (px_up N 0 0 0) 0 42 fl) 0 31 (nI (t + k))) k' = _
        rw [pn_un h0, pn_un h0, pn_un h0]
      have eN31 : N1 0 31 = nI (t + k) := by
        show (px_up (px_up (px_up N 0 0 0) 0 42 fl) 0 31 (nI (t + k))) 0 31 = _
        rw [pn_up, pn_us]
      have eN42 : N1 0 42 = fl := by
        show (px_up (px_up (px_up N 0 0 0) 0 42 fl) 0 31 (nI (t + k))) 0 42 = _
        rw [pv_ui (Or.inr (by omega)), pn_up, pn_us]
      have eN00 : N1 0 0 = 0 := by
        show (px_up (px_up (px_up N 0 0 0) 0 42 fl) 0 31 (nI (t + k))) 0 0 = _
        rw [pv_ui (Or.inr (by omega)), pv_ui (Or.inr (by omega)), pn_up, pn_us]
      have eC : fC_advance M (nI k) = px_bq (fC_Timers_putTasks M1 (nI (t + k))) (fun M8 => some (.inl ((M8 0 10), M8))) := by
        unfold fC_advance
        rw [w1, pi_bq, if_neg (by decide)]
        simp only [px_bn]
        rw [z3, nI_add]
        have u : (px_up M 0 10 (nI (t + k))) 0 10 = nI (t + k) := by rw [pn_up, pn_us]
        rw [u, d1, d2]
        by_cases c : (t + k) / 16 = t / 16
        · rw [if_pos (by rw [c])]
          have : px_up M 0 10 (nI (t + k)) = M1 := by
            show _ = px_up (px_up M 0 10 (nI (t + k))) 0 11 fl
            refine (ps_id ?_).symm
            rw [pv_ui (Or.inr (by omega))]
            show _ = (if M 0 11 = 0 then (if (t + k) / 16 = t / 16 then 0 else 1) else 1)
            rcases z5 with e | e
            · rw [e, if_pos rfl, if_pos c]
            · rw [e, if_neg (by decide)]
          rw [this]
        · rw [if_neg (fun h => c ((nI_eq q1 q2).mp h))]
          have : px_up (px_up M 0 10 (nI (t + k))) 0 11 1 = M1 := by
            show _ = px_up (px_up M 0 10 (nI (t + k))) 0 11 fl
            have : fl = 1 := by
              show (if M 0 11 = 0 then (if (t + k) / 16 = t / 16 then 0 else 1) else 1) = _
              rw [if_neg c, ite_self]
            rw [this]
          rw [this, eM10]
      have eR : fR_M_advance N (nI k) = px_fx1 gR_M_advance_L76 14 N1 1 := by
        unfold fR_M_advance
        rw [w2, pi_bq, if_pos rfl]
        simp only [px_bn]
        rw [if_pos (show (px_up N 0 0 0) 0 0 = 0 by rw [pn_up, pn_us])]
        have u31 : ∀ v : Int32, (px_up (px_up N 0 0 0) 0 42 v) 0 31 = nI t := fun v => by rw [pv_ui (Or.inr (by omega)), pv_ui (Or.inr (by omega)), z4]
        rw [u31, u31, show (px_up N 0 0 0) 0 31 = nI t by rw [pv_ui (Or.inr (by omega)), z4], show (px_up N 0 0 0) 0 42 = M 0 11 by rw [pv_ui (Or.inr (by omega)), z6], nI_add, d1, d2]
        show _ = px_fx1 gR_M_advance_L76 14 (px_up (px_up (px_up N 0 0 0) 0 42 (if M 0 11 = 0 then (if (t + k) / 16 = t / 16 then 0 else 1) else 1)) 0 31 (nI (t + k))) 1
        by_cases c0 : M 0 11 = 0
        · rw [if_pos c0, if_pos c0]
          by_cases c : (t + k) / 16 = t / 16
          · rw [if_pos c, c, if_pos (nI_le (Nat.le_refl _) q2)]
          · rw [if_neg c, if_neg (nI_ge (by omega) q1)]
        · rw [if_neg c0, if_neg c0]
      have hT1 : pr_T made ts M1 N1 := pc_T hT (fun k' _ _ => eMk k' (by omega)) (fun k' _ _ => eNk k' (by omega)) (eN0 _ (by omega) (by omega) (by omega))
      have hM1 : pr_M made tm M1 N1 := pc_M hM (fun k' _ _ => eMk k' (by omega)) (fun k' _ _ => eNk k' (by omega)) (eN0 _ (by omega) (by omega) (by omega)) (eN0 _ (by omega) (by omega) (by omega))
      have hV1 : pr_V ts tm M1 := by
        unfold pr_V
        rw [eMk 51 (by omega)]
        exact hV
      have hX1 : pb_X (j + 1) np nl nr q fr M1 N1 := by
        refine ⟨pc_F hF (fun k' _ _ => eMk k' (by omega)) (fun k' _ _ => eNk k' (by omega)), pc_G hG (eMk _ (by omega)) (eNk _ (by omega)), pc_P hP (fun k' _ _ => eMk k' (by omega)) (by rw [eMk 32 (by omega)]) (by rw [eMk 32 (by omega)]) (fun k' _ _ => eNk k' (by omega)) (eN0 _ (by omega) (by omega) (by omega)) (eN0 _ (by omega) (by omega) (by omega)), pc_R hR (fun k' _ _ => eMk k' (by omega)) (eMk _ (by omega)) (by rw [eMk 32 (by omega)]) (fun k' _ _ => eNk k' (by omega)) (eN0 _ (by omega) (by omega) (by omega)), pc_Q hQ (fun k' _ _ => eMk k' (by omega)) (eMk _ (by omega)) (eMk _ (by omega)) (fun k' _ _ => eNk k' (by omega)) (eN0 _ (by omega) (by omega) (by omega)) (eN0 _ (by omega) (by omega) (by omega)), ?_, pc_L hL (fun k' _ _ => eMk k' (by omega)) (eNk _ (by omega)) (eNk _ (by omega)) (eN0 _ (by omega) (by omega) (by omega)) (eN0 _ (by omega) (by omega) (by omega)), ?_, pc_U hU (eMk _ (by omega)) (eMk _ (by omega)) (eMk _ (by omega)) (eMk _ (by omega)) (eMk _ (by omega)), pc_C hC (eMk _ (by omega)) (eMk _ (by omega)) (eMk _ (by omega)) (eMk _ (by omega))⟩
        · obtain ⟨x1, x2, x3, x4, x5⟩ := hA
          exact ⟨lineC_c x1 (eMk _ (by omega)) (eMk _ (by omega)) (eMk _ (by omega)) (eMk _ (by omega)), by rw [eN0 _ (by omega) (by omega) (by omega), x2], by rw [eN0 _ (by omega) (by omega) (by omega), x3], by rw [eNk 32 (by omega)]; exact x4, x5⟩
        · unfold pr_Z
          rw [eM0 9 (by omega) (by omega), eM10, eM11, eM0 14 (by omega) (by omega), eN0 30 (by omega) (by omega) (by omega), eN31, eN42]
          exact ⟨z1, ⟨t + k, by omega, rfl, rfl⟩, hfl, rfl, z7⟩
      obtain ⟨M', N', ts', a1, a2, a3, a4, a5, a6, a7, a8⟩ := pb_put (now := nI (t + k)) (by omega) (pr_cnt 12 (fun p => M1 51 p == 0)) 0 13 14 ts M1 N1 rfl (by have := pz_le 12 (fun p => M1 51 p == 0); omega) (by omega) (by have := pz_le 12 (fun p => M1 51 p == 0); omega) hT1 hM1 hV1 eN31
      refine ⟨.inl (nI (t + k), M'), nI (t + k), N', ?_, fun E hE => by simp at hE, by rw [eR, a2], ⟨?_, rfl, ?_⟩⟩
      · rw [eC]
        unfold fC_Timers_putTasks
        rw [show (0 : Int32) = nI 0 from rfl, a1, pi_bq, a6 0 (by omega), eM10]
      · rw [a8 0 (by omega), eN00]
      · obtain ⟨y1, y2, y3, y4, y5, y6, y7, y8, y9, y10⟩ := pb_X_c hX1 a6 a7 (fun i _ hi => a8 i hi)
        exact ⟨np, nl, nr, made, q, ts', tm, fr, y1, y2, y3, y4, y5, a3, a4, y6, y7, y8, y9, y10, a5, by omega⟩
  · refine bad ?_ ?_
    · unfold fC_isWithin
      rcases ho with ho | ho
      · rw [if_pos (Int32.lt_trans ho (by decide))]
      · rw [if_pos (show (100 : Int32) < a from pi_over (m := 100) (by omega) ho), ite_self]
    · unfold fR_M_outside
      rcases ho with ho | ho
      · rw [if_pos (Int32.lt_trans ho (by decide))]
      · rw [if_neg (pi_nle (show (100 : Int32) < a from pi_over (m := 100) (by omega) ho)), ite_self]
