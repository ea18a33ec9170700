/-! Jobs: the reference's ring, and the loops of settle. -/
theorem pj_put {N : px_M} {q : List pn_J} (h : pr_ring N q) (hq : q.length < 512) (a b c : Int32) : ∃ N', fR_M_addMicro N a b c = some N' ∧ pr_ring N' (q ++ [(a, b, c)]) ∧ (∀ k, k ≠ 0 → (k < 17 ∨ 20 ≤ k) → N' k = N k) ∧ ∀ i, i ≠ 21 → N' 0 i = N 0 i := by
  obtain ⟨f, h1, h2, h3, h4, h5⟩ := h
  have e : fR_M_addMicro N a b c = some (px_up (px_up (px_up (px_up N 17 ((f + q.length) % 512) a) 18 ((f + q.length) % 512) b) 19 ((f + q.length) % 512) c) 0 21 (nI (q.length + 1))) := by
    unfold fR_M_addMicro
    rw [h3, h4, nI_add, show (512 : Int32) = nI 512 from rfl, pk_rem (by omega) (by omega) (by omega)]
    have hl : (f + q.length) % 512 < 512 := Nat.mod_lt _ (by omega)
    simp only [px_bn, pn_ck hl (show (512 : Nat) < 2 ^ 31 by omega), nI_clamp (show (f + q.length) % 512 < 2 ^ 31 by omega)]
    rw [show (px_up (px_up (px_up N 17 ((f + q.length) % 512) a) 18 ((f + q.length) % 512) b) 19 ((f + q.length) % 512) c) 0 21 = nI q.length from h4, nI_1]
  refine ⟨_, e, ⟨f, h1, by simp; omega, h3, by simp [px_up, upd], ?_⟩, ?_, ?_⟩
  · intro i hi
    simp at hi
    by_cases hin : i < q.length
    · obtain ⟨a1, a2, a3⟩ := h5 i hin
      have hne : (f + i) % 512 ≠ (f + q.length) % 512 := pn_mod hin (by omega)
      rw [List.getElem_append_left hin]
      show upd (N 17) _ _ _ = _ ∧ upd (N 18) _ _ _ = _ ∧ upd (N 19) _ _ _ = _
      rw [pn_ue hne, pn_ue hne, pn_ue hne]
      exact ⟨a1, a2, a3⟩
    · have hin : i = q.length := by omega
      subst hin
      rw [List.getElem_append_right (Nat.le_refl _)]
      show upd (N 17) _ _ _ = _ ∧ upd (N 18) _ _ _ = _ ∧ upd (N 19) _ _ _ = _
      rw [pn_us, pn_us, pn_us]
      simp
  · intro k k0 hk
    have k1 : k ≠ 17 := by omega
    have k2 : k ≠ 18 := by omega
    have k3 : k ≠ 19 := by omega
    simp [px_up, k0, k1, k2, k3]
  · intro i hi
    simp [px_up, upd, hi]
theorem pj_head {N : px_M} {x : pn_J} {q : List pn_J} (h : pr_ring N (x :: q)) : ∃ f, f < 512 ∧ N 0 20 = nI f ∧ N 0 21 = nI (q.length + 1) ∧ N 17 f = x.1 ∧ N 18 f = x.2.1 ∧ N 19 f = x.2.2 ∧ pr_ring (px_up (px_up N 0 20 ((N 0 20 + 1) - (N 0 20 + 1) / (512 : Int32) * (512 : Int32))) 0 21 (N 0 21 - 1)) q := by
  obtain ⟨f, h1, h2, h3, h4, h5⟩ := h
  obtain ⟨a1, a2, a3⟩ := h5 0 (by simp)
  simp only [Nat.add_zero, Nat.mod_eq_of_lt h1, List.getElem_cons_zero] at a1 a2 a3
  simp only [List.length_cons] at h2 h4
  refine ⟨f, h1, h3, h4, a1, a2, a3, (f + 1) % 512, Nat.mod_lt _ (by omega), by omega, ?_, ?_, ?_⟩
  · rw [h3, nI_1, show (512 : Int32) = nI 512 from rfl, pk_rem (by omega) (by omega) (by omega)]
    simp [px_up, upd]
  · rw [h4, nI_pred]
    simp [px_up, upd]
  · intro i hi
    obtain ⟨b1, b2, b3⟩ := h5 (i + 1) (by simp; omega)
    have e2 : ((f + 1) % 512 + i) % 512 = (f + (i + 1)) % 512 := by rw [Nat.mod_add_mod, Nat.add_assoc, Nat.add_comm 1 i]
    rw [e2]
    simp only [List.getElem_cons_succ] at b1 b2 b3
    exact ⟨b1, b2, b3⟩
/-- the reactions on p, from i on -/
def pj_L (S : Nat → Int32) (p : Int32) (i n : Nat) : List Nat := (List.range' i n).filter (fun r => S r == p)
def pj_2 (L : List Nat) : List pn_J := L.map (fun r => (2, nI r, 0))
def pj_1 (L : List Nat) : List pn_J := L.map (fun r => (1, nI r, 0))
theorem pj_L_0 (S : Nat → Int32) (p : Int32) (i : Nat) : pj_L S p i 0 = [] := rfl
theorem pj_L_s (S : Nat → Int32) (p : Int32) (i n : Nat) : pj_L S p i (n + 1) = if S i = p then i :: pj_L S p (i + 1) n else pj_L S p (i + 1) n := by
  unfold pj_L
  rw [List.range'_succ, List.filter_cons]
  by_cases c : S i = p <;> simp [c]
theorem pj_L_m {S : Nat → Int32} {p : Int32} {i n r : Nat} : r ∈ pj_L S p i n ↔ i ≤ r ∧ r < i + n ∧ S r = p := by
  unfold pj_L
  simp [List.mem_range', and_assoc]
  constructor
  · rintro ⟨⟨k, h1, h2⟩, h3⟩; exact ⟨by omega, by omega, h3⟩
  · rintro ⟨h1, h2, h3⟩; exact ⟨⟨r - i, by omega, by omega⟩, h3⟩
theorem pj_L_n (S : Nat → Int32) (p : Int32) (i n : Nat) : (pj_L S p i n).Nodup := by
  unfold pj_L
  exact List.Pairwise.filter _ (List.nodup_range' (step := 1))
theorem pj_loopC {p : Nat} {s : Int32} {nr : Nat} (hnr : nr ≤ 80) : ∀ (m i n : Nat) (M : px_M) (q : List pn_J), i + m = nr → m < n → M 32 14 = nI nr → lineC M 20 180 q → q.length + (pj_L (M 39) (nI p) i m).length ≤ 180 →
    ∃ M', px_fx3 gC_Promises_settle_L17 n M (nI p) s (nI i) = px_fx3 gC_Promises_settle_L17 (n - m) M' (nI p) s (nI nr) ∧ lineC M' 20 180 (q ++ pj_2 (pj_L (M 39) (nI p) i m)) ∧ ∀ k, (k < 20 ∨ 24 ≤ k) → M' k = M k := by
  intro m
  induction m with
  | zero =>
    intro i n M q h1 h2 h3 h4 h5
    have : i = nr := by omega
    subst this
    exact ⟨M, rfl, by simpa [pj_L_0, pj_2] using h4, fun k _ => rfl⟩
  | succ m ih =>
    intro i n M q h1 h2 h3 h4 h5
    obtain ⟨n, rfl⟩ : ∃ n', n = n' + 1 := ⟨n - 1, by omega⟩
    have e0 : px_fx3 gC_Promises_settle_L17 (n + 1) M (nI p) s (nI i) = if M 39 i = nI p then px_bq (fC_Line_put_20 M 2 (nI i) 0) (fun M16 => px_fx3 gC_Promises_settle_L17 n M16 (nI p) s (nI (i + 1))) else px_fx3 gC_Promises_settle_L17 n M (nI p) s (nI (i + 1)) := by
      show gC_Promises_settle_L17 (px_fx3 gC_Promises_settle_L17 n) M (nI p) s (nI i) = _
      unfold gC_Promises_settle_L17
      rw [h3, if_neg (nI_ge (show i < nr by omega) (by omega)), pn_ck (show i < 80 by omega) (by omega), nI_clamp (by omega), nI_1]
    rw [e0, pj_L_s] at *
    by_cases c : M 39 i = nI p
    · rw [if_pos c] at h5
      simp only [if_pos c]
      simp only [List.length_cons] at h5
      obtain ⟨M1, g1, g2, g3⟩ := gl_put_ok (by omega) h4 (by omega) 2 (nI i) 0
      rw [gl_put_20, g1, pi_bq]
      have e39 : M1 39 = M 39 := g3 39 (by omega)
      obtain ⟨M', k1, k2, k3⟩ := ih (i + 1) n M1 _ (by omega) (by omega) (by rw [g3 32 (by omega)]; exact h3) g2 (by rw [e39]; simp; omega)
      refine ⟨M', by rw [k1]; congr 1; omega, ?_, fun k hk => (k3 k hk).trans (g3 k hk)⟩
      rw [e39] at k2
      simpa [pj_2] using k2
    · rw [if_neg c] at h5
      simp only [if_neg c]
      obtain ⟨M', k1, k2, k3⟩ := ih (i + 1) n M q (by omega) (by omega) h3 h4 h5
      exact ⟨M', by rw [k1]; congr 1; omega, k2, k3⟩
theorem pj_loopR {p : Nat} {nr : Nat} (hnr : nr ≤ 80) : ∀ (m i n : Nat) (N : px_M) (q : List pn_J), i + m = nr → m < n → N 0 14 = nI nr → pr_ring N q → q.length + m ≤ 512 → (∀ r, i ≤ r → r < nr → N 12 r = nI p → N 16 r = 1) →
    ∃ N', px_fx2 gR_M_settle_L51 n N (nI p) (nI i) = some N' ∧ pr_ring N' (q ++ pj_1 (pj_L (N 12) (nI p) i m)) ∧ (∀ k, k ≠ 0 → (k < 16 ∨ 20 ≤ k) → N' k = N k) ∧ (∀ i, i ≠ 21 → N' 0 i = N 0 i) ∧ ∀ r, N' 16 r = if i ≤ r ∧ r < nr ∧ N 12 r = nI p then 0 else N 16 r := by
  intro m
  induction m with
  | zero =>
    intro i n N q h1 h2 h3 h4 h5 h6
    have : i = nr := by omega
    subst this
    obtain ⟨n, rfl⟩ : ∃ n', n = n' + 1 := ⟨n - 1, by omega⟩
    refine ⟨N, ?_, by simpa [pj_L_0, pj_1] using h4, fun k _ _ => rfl, fun i _ => rfl, fun r => by rw [if_neg (by omega)]⟩
    show gR_M_settle_L51 (px_fx2 gR_M_settle_L51 n) N (nI p) (nI i) = _
    unfold gR_M_settle_L51
    rw [h3, if_pos (nI_le (Nat.le_refl _) (by omega))]
  | succ m ih =>
    intro i n N q h1 h2 h3 h4 h5 h6
    obtain ⟨n, rfl⟩ : ∃ n', n = n' + 1 := ⟨n - 1, by omega⟩
    have e0 : px_fx2 gR_M_settle_L51 (n + 1) N (nI p) (nI i) = if N 12 i = nI p then (if N 16 i = 0 then px_fx2 gR_M_settle_L51 n N (nI p) (nI (i + 1)) else px_bq (fR_M_addMicro (px_up N 16 i 0) 1 (nI i) 0) (fun M14 => px_fx2 gR_M_settle_L51 n M14 (nI p) (nI (i + 1)))) else px_fx2 gR_M_settle_L51 n N (nI p) (nI (i + 1)) := by
      show gR_M_settle_L51 (px_fx2 gR_M_settle_L51 n) N (nI p) (nI i) = _
      unfold gR_M_settle_L51
      simp only [px_bn]
      rw [h3, if_neg (nI_ge (show i < nr by omega) (by omega)), pn_ck (show i < 100 by omega) (by omega), nI_clamp (by omega), nI_1, pn_ck (show i < 100 by omega) (by omega), pn_ck (show i < 100 by omega) (by omega)]
    rw [e0, pj_L_s]
    by_cases c : N 12 i = nI p
    · have w1 := h6 i (Nat.le_refl _) (by omega) c
      rw [if_pos c, if_pos c, if_neg (by rw [w1]; decide)]
      have h4' : pr_ring (px_up N 16 i 0) q := h4
      obtain ⟨N1, g1, g2, g3, g4⟩ := pj_put h4' (by omega) 1 (nI i) 0
      rw [g1, pi_bq]
      have e12 : N1 12 = N 12 := g3 12 (by omega) (by omega)
      have e16 : N1 16 = upd (N 16) i 0 := g3 16 (by omega) (by omega)
      obtain ⟨N', k1, k2, k3, k4, k5⟩ := ih (i + 1) n N1 _ (by omega) (by omega) (by rw [g4 14 (by omega)]; exact h3) g2 (by simp; omega) (fun r r1 r2 r3 => by
        rw [e12] at r3; rw [e16, pn_ue (by omega)]; exact h6 r (by omega) r2 r3)
      refine ⟨N', k1, ?_, fun k h0 hk => ?_, fun i' hi => ?_, fun r => ?_⟩
      · rw [e12] at k2
        simpa [pj_1] using k2
      · rw [k3 k h0 hk, g3 k h0 (by omega), pn_un (by omega)]
      · rw [k4 i' hi, g4 i' hi]; rfl
      · rw [k5 r, e12, e16]
        by_cases er : r = i
        · subst er
          rw [if_neg (by omega), pn_us, if_pos ⟨Nat.le_refl _, by omega, c⟩]
        · rw [pn_ue er]
          by_cases c2 : i ≤ r ∧ r < nr ∧ N 12 r = nI p
          · rw [if_pos c2, if_pos ⟨by omega, c2.2⟩]
          · rw [if_neg c2, if_neg (fun hh => c2 ⟨by omega, hh.2⟩)]
    · rw [if_neg c, if_neg c]
      obtain ⟨N', k1, k2, k3, k4, k5⟩ := ih (i + 1) n N q (by omega) (by omega) h3 h4 (by omega) (fun r r1 r2 r3 => h6 r (by omega) r2 r3)
      refine ⟨N', k1, k2, k3, k4, fun r => ?_⟩
      rw [k5 r]
      by_cases er : r = i
      · subst er
        rw [if_neg (by omega), if_neg (fun hh => c hh.2.2)]
      · by_cases c2 : i ≤ r ∧ r < nr ∧ N 12 r = nI p
        · rw [if_pos c2, if_pos ⟨by omega, c2.2⟩]
        · rw [if_neg c2, if_neg (fun hh => c2 ⟨by omega, hh.2⟩)]
