/-! Timers: one more, one less, one started again. -/
theorem pg_le : ∀ (l1 l2 : List Nat), l1.Nodup → (∀ x ∈ l1, x ∈ l2) → l1.length ≤ l2.length
  | [], l2, _, _ => Nat.zero_le _
  | x :: l1, l2, h, hs => by
    rw [List.nodup_cons] at h
    have hx := hs x List.mem_cons_self
    have h1 := pg_le l1 (l2.erase x) h.2 (fun y hy => (List.mem_erase_of_ne (fun (e : y = x) => h.1 (by rw [← e]; exact hy))).mpr (hs y (List.mem_cons_of_mem _ hy)))
    rw [List.length_erase_of_mem hx] at h1
    have : 0 < l2.length := List.length_pos_of_mem hx
    simp only [List.length_cons]
    omega
theorem pg_free {made : Nat} {tm : List (Nat × Nat)} {M N : px_M} (h : pr_M made tm M N) (hl : tm.length < 12) : ∃ p, p < 12 ∧ M 44 p = 0 ∧ (∀ p', p' < p → M 44 p' ≠ 0) := by
  have ex : ∃ p, p < 12 ∧ M 44 p = 0 := by
    apply Classical.byContradiction
    intro hn
    have : (List.range 12).length ≤ (tm.map Prod.snd).length := by
      refine pg_le _ _ (by decide) (fun x hx => ?_)
      rw [List.mem_range] at hx
      rcases h.2.2.2.2.2.2.2.2 x hx with e | ⟨i, hi, e⟩
      · exact absurd ⟨x, hx, e⟩ hn
      · exact List.mem_map.mpr ⟨tm[i], List.getElem_mem hi, e⟩
    simp at this
    omega
  obtain ⟨p, ⟨h1, h2⟩, h3⟩ := pk_least (fun p => p < 12 ∧ M 44 p = 0) ex
  exact ⟨p, h1, h2, fun p' hp' e => h3 p' hp' ⟨by omega, e⟩⟩
theorem pg_place {M : px_M} {p : Nat} (hp : p < 12) (he : M 44 p = 0) (hn : ∀ p', p' < p → M 44 p' ≠ 0) : ∀ n k, k ≤ p → p < k + n → px_fx1 gC_Timers_freePlace_L2 n M (nI k) = some (nI p) := by
  intro n
  induction n with
  | zero => intro k h1 h2; omega
  | succ n ih =>
    intro k h1 h2
    show gC_Timers_freePlace_L2 (px_fx1 gC_Timers_freePlace_L2 n) M (nI k) = _
    unfold gC_Timers_freePlace_L2
    rw [if_neg (show ¬ (12 : Int32) ≤ nI k from nI_ge (a := k) (b := 12) (by omega) (by omega)), pn_ck (show k < 12 by omega) (by omega), nI_clamp (by omega)]
    by_cases e : k = p
    · subst e; rw [if_pos he]
    · rw [if_neg (hn k (by omega)), nI_1]
      exact ih (k + 1) (by omega) (by omega)
def pg_due (lv now : Int32) (d : Nat) : Int32 := now + (if lv ≤ 5 then (if d = 0 then 1 else nI d) else (if d < 4 then 4 else nI d))
theorem pg_start {M : px_M} {p d : Nat} (hp : p < 12) (hd : d ≤ 200) (h : M 47 p = nI d) (lv now : Int32) : fC_Timers_start M (nI p) lv now = some (px_up (px_up (px_up M 48 p lv) 51 p 0) 49 p (pg_due lv now d)) := by
  unfold fC_Timers_start pg_due
  simp only [px_bn, pn_ck hp (show (12 : Nat) < 2 ^ 31 by omega), nI_clamp (show p < 2 ^ 31 by omega)]
  rw [show (px_up (px_up M 48 p lv) 51 p 0) 47 p = nI d from h]
  by_cases c : lv ≤ 5
  · simp only [if_pos c]
    by_cases e : d = 0
    · subst e
      rw [if_neg (show ¬ (1 : Int32) ≤ nI 0 by decide), if_pos rfl]
    · rw [if_pos (show (1 : Int32) ≤ nI d from nI_le (a := 1) (by omega) (by omega)), if_neg e]
  · simp only [if_neg c]
    by_cases e : d < 4
    · rw [if_neg (show ¬ (4 : Int32) ≤ nI d from nI_ge (b := 4) e (by omega)), if_pos e]
    · rw [if_pos (show (4 : Int32) ≤ nI d from nI_le (a := 4) (by omega) (by omega)), if_neg e]
theorem pg_dueR {N : px_M} {i d : Nat} (hi : i < 12) (hd : d ≤ 200) (h : N 27 i = nI d) : fR_M_dueOf N (nI i) = some (pg_due (N 28 i) (N 0 31) d) := by
  unfold fR_M_dueOf pg_due
  simp only [px_bn, pn_ck hi (show (12 : Nat) < 2 ^ 31 by omega), nI_clamp (show i < 2 ^ 31 by omega)]
  rw [h]
  by_cases c : N 28 i ≤ 5
  · simp only [if_pos c]
    by_cases e : d = 0
    · subst e
      rw [if_pos (show nI 0 = 0 from rfl), if_pos rfl]
    · rw [if_neg (nI_ne0 (by omega) (by omega)), if_neg e]
  · simp only [if_neg c]
    by_cases e : d < 4
    · rw [if_neg (show ¬ (4 : Int32) ≤ nI d from nI_ge (b := 4) e (by omega)), if_pos e]
    · rw [if_pos (show (4 : Int32) ≤ nI d from nI_le (a := 4) (by omega) (by omega)), if_neg e, if_neg (nI_ne0 (by omega) (by omega))]
theorem pg_cb {γ : Type} {v : Int32} (h : pr_B v) (k : Option γ) : px_cb v k = k := if_pos h
theorem pg_neg1 {n : Nat} (h : n < 2 ^ 31) : ¬ nI n = (-1 : Int32) := fun e => by
  have h1 := nI_pos' h
  rw [e] at h1
  exact absurd h1 (by decide)
theorem pg_make {made : Nat} {tm : List (Nat × Nat)} {M N : px_M} (h : pr_M made tm M N) (hl : tm.length < 12) (hm : made + 1 < 2 ^ 31) {f d : Nat} (hf : f < 10) (hd : d ≤ 200) {rep : Int32} (hr : pr_B rep) (x : Int32) {lv now : Int32} (h60 : N 0 60 = lv) (h31 : N 0 31 = now) :
    ∃ M' N' p, fC_Timers_make M (nI f) x (nI d) rep lv now = some M' ∧ fR_M_addTimer N (nI f) x (nI d) rep = some N' ∧ pr_M (made + 1) (tm ++ [(made + 1, p)]) M' N' ∧ (∀ y ∈ tm, y.2 ≠ p) ∧ M' 51 = upd (M 51) p 0 ∧ (∀ k, (k < 43 ∨ 52 ≤ k) → M' k = M k) ∧ (∀ k, k ≠ 0 → (k < 24 ∨ 32 ≤ k) → N' k = N k) ∧ ∀ i, i ≠ 32 → i ≠ 33 → N' 0 i = N 0 i := by
  obtain ⟨p, hp, e44, hfirst⟩ := pg_free h hl
  obtain ⟨m1, m2, m3, m4, m5, m6, m7, m8, m9⟩ := h
  have hne : ∀ (i : Nat) (hi : i < tm.length), tm[i].2 ≠ p := by
    intro i hi e
    obtain ⟨a1, a2, a3, a4, a5, -⟩ := m8 i hi
    rw [e, e44] at a5
    exact nI_ne0 a1 (by omega) a5.symm
  have eC : fC_Timers_make M (nI f) x (nI d) rep lv now = some (px_up (px_up (px_up (px_up (px_up (px_up (px_up (px_up (px_up (px_up M 43 8 (nI (made + 1))) 43 9 (nI (tm.length + 1))) 44 p (nI (made + 1))) 45 p (nI f)) 46 p x) 47 p (nI d)) 50 p rep) 48 p lv) 51 p 0) 49 p (pg_due lv now d)) := by
    unfold fC_Timers_make
    rw [show fC_Timers_freePlace M = some (nI p) from pg_place hp e44 hfirst 13 0 (by omega) (by omega), pi_bq, if_neg (pg_neg1 (by omega))]
    simp only [px_bn, pn_ck hp (show (12 : Nat) < 2 ^ 31 by omega), nI_clamp (show p < 2 ^ 31 by omega)]
    rw [pg_cb hr, m4, nI_1, show (px_up M 43 8 (nI (made + 1))) 43 9 = nI tm.length by simp [px_up, upd, m3], nI_1]
    rw [show (px_up (px_up M 43 8 (nI (made + 1))) 43 9 (nI (tm.length + 1))) 43 8 = nI (made + 1) by simp [px_up, upd]]
    rw [pg_start (d := d) hp hd (by simp [px_up, upd]) lv now]
    rfl
  have eR : fR_M_addTimer N (nI f) x (nI d) rep = some (px_up (px_up (px_up (px_up (px_up (px_up (px_up (px_up (px_up (px_up N 0 33 (nI (made + 1))) 24 tm.length (nI (made + 1))) 25 tm.length (nI f)) 26 tm.length x) 27 tm.length (nI d)) 28 tm.length lv) 30 tm.length rep) 31 tm.length 0) 29 tm.length (pg_due lv now d)) 0 32 (nI (tm.length + 1))) := by
    unfold fR_M_addTimer
    simp only [px_bn]
    rw [m5, nI_1]
    have e32 : (px_up N 0 33 (nI (made + 1))) 0 32 = nI tm.length := m2
    have e33 : (px_up N 0 33 (nI (made + 1))) 0 33 = nI (made + 1) := by simp [px_up, upd]
    rw [e32, e33, pn_ck hl (by omega), nI_clamp (by omega)]
    rw [show (px_up (px_up N 0 33 (nI (made + 1))) 24 tm.length (nI (made + 1))) 0 32 = nI tm.length from m2, pn_ck hl (by omega), nI_clamp (by omega)]
    rw [show (px_up (px_up (px_up N 0 33 (nI (made + 1))) 24 tm.length (nI (made + 1))) 25 tm.length (nI f)) 0 32 = nI tm.length from m2, pn_ck hl (by omega), nI_clamp (by omega)]
    rw [show (px_up (px_up (px_up (px_up N 0 33 (nI (made + 1))) 24 tm.length (nI (made + 1))) 25 tm.length (nI f)) 26 tm.length x) 0 32 = nI tm.length from m2, pn_ck hl (by omega), nI_clamp (by omega)]
    rw [show (px_up (px_up (px_up (px_up (px_up N 0 33 (nI (made + 1))) 24 tm.length (nI (made + 1))) 25 tm.length (nI f)) 26 tm.length x) 27 tm.length (nI d)) 0 32 = nI tm.length from m2, pn_ck hl (by omega), nI_clamp (by omega)]
    rw [show (px_up (px_up (px_up (px_up (px_up N 0 33 (nI (made + 1))) 24 tm.length (nI (made + 1))) 25 tm.length (nI f)) 26 tm.length x) 27 tm.length (nI d)) 0 60 = lv from h60]
    rw [show (px_up (px_up (px_up (px_up (px_up (px_up N 0 33 (nI (made + 1))) 24 tm.length (nI (made + 1))) 25 tm.length (nI f)) 26 tm.length x) 27 tm.length (nI d)) 28 tm.length lv) 0 32 = nI tm.length from m2, pn_ck hl (by omega), nI_clamp (by omega), pg_cb hr]
    rw [show (px_up (px_up (px_up (px_up (px_up (px_up (px_up N 0 33 (nI (made + 1))) 24 tm.length (nI (made + 1))) 25 tm.length (nI f)) 26 tm.length x) 27 tm.length (nI d)) 28 tm.length lv) 30 tm.length rep) 0 32 = nI tm.length from m2, pn_ck hl (by omega), nI_clamp (by omega)]
    rw [show (px_up (px_up (px_up (px_up (px_up (px_up (px_up (px_up N 0 33 (nI (made + 1))) 24 tm.length (nI (made + 1))) 25 tm.length (nI f)) 26 tm.length x) 27 tm.length (nI d)) 28 tm.length lv) 30 tm.length rep) 31 tm.length 0) 0 32 = nI tm.length from m2]
    rw [pg_dueR (d := d) hl hd (by simp [px_up, upd]), pi_bq, pn_ck hl (by omega), nI_clamp (by omega)]
    rw [show (px_up (px_up (px_up (px_up (px_up (px_up (px_up (px_up N 0 33 (nI (made + 1))) 24 tm.length (nI (made + 1))) 25 tm.length (nI f)) 26 tm.length x) 27 tm.length (nI d)) 28 tm.length lv) 30 tm.length rep) 31 tm.length 0) 28 tm.length = lv by simp [px_up, upd]]
    rw [show (px_up (px_up (px_up (px_up (px_up (px_up (px_up (px_up N 0 33 (nI (made + 1))) 24 tm.length (nI (made + 1))) 25 tm.length (nI f)) 26 tm.length x) 27 tm.length (nI d)) 28 tm.length lv) 30 tm.length rep) 31 tm.length 0) 0 31 = now from h31]
    rw [show (px_up (px_up (px_up (px_up (px_up (px_up (px_up (px_up (px_up N 0 33 (nI (made + 1))) 24 tm.length (nI (made + 1))) 25 tm.length (nI f)) 26 tm.length x) 27 tm.length (nI d)) 28 tm.length lv) 30 tm.length rep) 31 tm.length 0) 29 tm.length (pg_due lv now d)) 0 32 = nI tm.length from m2, nI_1]
  refine ⟨_, _, p, eC, eR, ?_, fun y hy => ?_, ?_, fun k hk => ?_, fun k k0 hk => ?_, fun i i1 i2 => ?_⟩
  · refine ⟨by simp; omega, by simp [px_up, upd], by simp [px_up, upd], by simp [px_up, upd], by simp [px_up, upd], ?_, ?_, ?_, ?_⟩
    · rw [List.map_append, List.pairwise_append]
      refine ⟨m6, by simp, ?_⟩
      intro a ha b hb
      rw [List.mem_map] at ha
      obtain ⟨y, hy, rfl⟩ := ha
      obtain ⟨i, hi, rfl⟩ := List.getElem_of_mem hy
      simp at hb
      subst hb
      have := (m8 i hi).2.1
      omega
    · rw [List.map_append, List.nodup_append]
      refine ⟨m7, by simp, ?_⟩
      intro a ha b hb
      rw [List.mem_map] at ha
      obtain ⟨y, hy, rfl⟩ := ha
      obtain ⟨i, hi, rfl⟩ := List.getElem_of_mem hy
      simp at hb
      subst hb
      exact hne i hi
    · intro i hi
      by_cases c : i < tm.length
      · rw [List.getElem_append_left c]
        obtain ⟨a1, a2, a3, a4, a5, a6, a7, a8, a9, a10, a11, a12, a13, a14, a15, a16⟩ := m8 i c
        have ci : i ≠ tm.length := by omega
        have cp := hne i c
        refine ⟨a1, by omega, a3, ?_, ?_, ?_, ?_, ?_, ?_, ?_, ?_, ?_, ?_, ?_, ?_, ?_⟩ <;> simp [px_up, upd, ci, cp] <;> assumption
      · have c : i = tm.length := by simp at hi; omega
        subst c
        rw [List.getElem_append_right (Nat.le_refl _)]
        simp only [Nat.sub_self, List.getElem_cons_zero]
        refine ⟨by omega, by omega, hp, ?_, ?_, ?_, ?_, ?_, ?_, ?_, ?_, ?_, ?_, ?_, ?_, ?_⟩ <;> simp [px_up, upd]
        · exact hr
        · exact Or.inl rfl
        · exact ⟨f, hf, rfl⟩
        · exact ⟨d, hd, rfl⟩
    · intro y hy
      by_cases e : y = p
      · subst e
        exact Or.inr ⟨tm.length, by simp, by simp⟩
      · rcases m9 y hy with c | ⟨i, hi, c⟩
        · left; simp [px_up, upd, e]; exact c
        · exact Or.inr ⟨i, by simp; omega, by rw [List.getElem_append_left hi]; exact c⟩
  · obtain ⟨i, hi, rfl⟩ := List.getElem_of_mem hy
    exact hne i hi
  · rfl
  · rw [pn_un (by omega), pn_un (by omega), pn_un (by omega), pn_un (by omega), pn_un (by omega), pn_un (by omega), pn_un (by omega), pn_un (by omega), pn_un (by omega), pn_un (by omega)]
  · rw [pn_un k0, pn_un (by omega), pn_un (by omega), pn_un (by omega), pn_un (by omega), pn_un (by omega), pn_un (by omega), pn_un (by omega), pn_un (by omega), pn_un k0]
  · rw [pn_up, pn_ue i1]
    show upd (N 0) 33 _ i = _
    rw [pn_ue i2]
/-- the loop of dropTimer -/
theorem pg_shift : ∀ (m k n c : Nat) (N : px_M), k + m = c → m < n → c < 12 → N 0 32 = nI c → (∀ i, i ≤ c → pr_B (N 30 i) ∧ pr_B (N 31 i)) →
    ∃ N', px_fx1 gR_M_dropTimer_L12 n N (nI k) = some N' ∧ (∀ a, (a < 24 ∨ 32 ≤ a) → N' a = N a) ∧ ∀ a, 24 ≤ a → a < 32 → ∀ i, N' a i = if k ≤ i ∧ i < c then N a (i + 1) else N a i := by
  intro m
  induction m with
  | zero =>
    intro k n c N h1 h2 h3 h4 h5
    have : k = c := by omega
    subst this
    obtain ⟨n, rfl⟩ : ∃ n', n = n' + 1 := ⟨n - 1, by omega⟩
    refine ⟨N, ?_, fun a _ => rfl, fun a _ _ i => by rw [if_neg (by omega)]⟩
    show gR_M_dropTimer_L12 (px_fx1 gR_M_dropTimer_L12 n) N (nI k) = _
    unfold gR_M_dropTimer_L12
    rw [h4, if_pos (nI_le (Nat.le_refl _) (by omega))]
  | succ m ih =>
    intro k n c N h1 h2 h3 h4 h5
    obtain ⟨n, rfl⟩ : ∃ n', n = n' + 1 := ⟨n - 1, by omega⟩
    have hk1 : k + 1 < 12 := by omega
    have hk : k < 12 := by omega
    have e0 : px_fx1 gR_M_dropTimer_L12 (n + 1) N (nI k) = px_fx1 gR_M_dropTimer_L12 n (px_up (px_up (px_up (px_up (px_up (px_up (px_up (px_up N 24 k (N 24 (k + 1))) 25 k (N 25 (k + 1))) 26 k (N 26 (k + 1))) 27 k (N 27 (k + 1))) 28 k (N 28 (k + 1))) 29 k (N 29 (k + 1))) 30 k (N 30 (k + 1))) 31 k (N 31 (k + 1))) (nI (k + 1)) := by
      show gR_M_dropTimer_L12 (px_fx1 gR_M_dropTimer_L12 n) N (nI k) = _
      unfold gR_M_dropTimer_L12
      rw [h4, if_neg (nI_ge (show k < c by omega) (by omega))]
      simp only [px_bn, nI_1, pn_ck hk (show (12 : Nat) < 2 ^ 31 by omega), pn_ck hk1 (show (12 : Nat) < 2 ^ 31 by omega), nI_clamp (show k < 2 ^ 31 by omega), nI_clamp (show k + 1 < 2 ^ 31 by omega)]
      refine (pg_cb ?_ _).trans ((pg_cb ?_ _).trans ?_)
      · exact (h5 (k + 1) (by omega)).1
      · exact (h5 (k + 1) (by omega)).2
      · rfl
    rw [e0]
    obtain ⟨N', k1, k2, k3⟩ := ih (k + 1) n c (px_up (px_up (px_up (px_up (px_up (px_up (px_up (px_up N 24 k (N 24 (k + 1))) 25 k (N 25 (k + 1))) 26 k (N 26 (k + 1))) 27 k (N 27 (k + 1))) 28 k (N 28 (k + 1))) 29 k (N 29 (k + 1))) 30 k (N 30 (k + 1))) 31 k (N 31 (k + 1))) (by omega) (by omega) h3 h4 (by
      intro i hi
      show pr_B (upd (N 30) k (N 30 (k + 1)) i) ∧ pr_B (upd (N 31) k (N 31 (k + 1)) i)
      by_cases e : i = k
      · subst e; rw [pn_us, pn_us]; exact h5 (i + 1) (by omega)
      · rw [pn_ue e, pn_ue e]; exact h5 i hi)
    refine ⟨N', k1, fun a ha => ?_, fun a a1 a2 i => ?_⟩
    · rw [k2 a ha, pn_un (by omega), pn_un (by omega), pn_un (by omega), pn_un (by omega), pn_un (by omega), pn_un (by omega), pn_un (by omega), pn_un (by omega)]
    · rw [k3 a a1 a2 i]
      have one : ∀ i, (px_up (px_up (px_up (px_up (px_up (px_up (px_up (px_up N 24 k (N 24 (k + 1))) 25 k (N 25 (k + 1))) 26 k (N 26 (k + 1))) 27 k (N 27 (k + 1))) 28 k (N 28 (k + 1))) 29 k (N 29 (k + 1))) 30 k (N 30 (k + 1))) 31 k (N 31 (k + 1))) a i = if i = k then N a (k + 1) else N a i := by
        intro i
        rcases (show a = 24 ∨ a = 25 ∨ a = 26 ∨ a = 27 ∨ a = 28 ∨ a = 29 ∨ a = 30 ∨ a = 31 by omega) with rfl | rfl | rfl | rfl | rfl | rfl | rfl | rfl <;> rfl
      rw [one, one]
      by_cases e : i = k
      · subst e
        rw [if_neg (by omega), if_pos rfl, if_pos ⟨by omega, by omega⟩]
      · by_cases c1 : k ≤ i ∧ i < c
        · rw [if_pos ⟨by omega, c1.2⟩, if_pos c1, if_neg (by omega)]
        · rw [if_neg (by omega), if_neg c1, if_neg e]
theorem pg_drop {made : Nat} {tm : List (Nat × Nat)} {M N : px_M} (h : pr_M made tm M N) (hm : made < 2 ^ 31) {i : Nat} (hi : i < tm.length) :
    ∃ M' N', fC_Timers_remove M (nI tm[i].1) = some M' ∧ fR_M_dropTimer N (nI i) = some N' ∧ pr_M made (tm.eraseIdx i) M' N' ∧ (∀ k, (k < 43 ∨ 45 ≤ k) → M' k = M k) ∧ (∀ k, k ≠ 0 → (k < 24 ∨ 32 ≤ k) → N' k = N k) ∧ ∀ i, i ≠ 32 → N' 0 i = N 0 i := by
  obtain ⟨s1, -⟩ := pf_some h hm hi
  obtain ⟨m1, m2, m3, m4, m5, m6, m7, m8, m9⟩ := h
  obtain ⟨c, hc⟩ : ∃ c, tm.length = c + 1 := ⟨tm.length - 1, by omega⟩
  have hl : (tm.eraseIdx i).length = c := by rw [List.length_eraseIdx_of_lt hi]; omega
  obtain ⟨a1, a2, a3, -⟩ := m8 i hi
  have eC : fC_Timers_remove M (nI tm[i].1) = some (px_up (px_up M 44 tm[i].2 0) 43 9 (nI c)) := by
    unfold fC_Timers_remove
    rw [s1, pi_bq, if_neg (pg_neg1 (by omega)), pn_ck a3 (by omega), nI_clamp (by omega)]
    simp only [px_bn]
    rw [show (px_up M 44 tm[i].2 0) 43 9 = nI (c + 1) from by rw [pn_un (by omega), m3, hc], nI_pred]
  obtain ⟨N', k1, k2, k3⟩ := pg_shift (c - i) i 13 c (px_up N 0 32 (nI c)) (by omega) (by omega) (by omega) (by rw [pn_up, pn_us]) (by
    intro k hk
    obtain ⟨-, -, -, -, -, -, -, -, -, -, b11, b12, b13, b14, -⟩ := m8 k (by omega)
    show pr_B (N 30 k) ∧ pr_B (N 31 k)
    rw [b11, b12]
    exact ⟨b13, b14⟩)
  have eR : fR_M_dropTimer N (nI i) = some N' := by
    unfold fR_M_dropTimer
    simp only [px_bn]
    rw [m2, hc, nI_pred]
    exact k1
  refine ⟨_, N', eC, eR, ?_, fun k hk => ?_, fun k k0 hk => ?_, fun i' hi' => ?_⟩
  · have hinj : ∀ (k : Nat) (hk : k < tm.length), k ≠ i → tm[k].2 ≠ tm[i].2 := by
      intro k hk hne e
      rw [List.nodup_iff_pairwise_ne, List.pairwise_iff_getElem] at m7
      rcases Nat.lt_or_gt_of_ne hne with c1 | c1
      · have := m7 k i (by simpa using hk) (by simpa using hi) c1
        simp only [List.getElem_map] at this
        exact this e
      · have := m7 i k (by simpa using hi) (by simpa using hk) c1
        simp only [List.getElem_map] at this
        exact this e.symm
    refine ⟨by rw [hl]; omega, ?_, by rw [hl, pn_up, pn_us], m4, ?_, ?_, ?_, ?_, ?_⟩
    · rw [k2 0 (by omega), hl, pn_up, pn_us]
    · rw [k2 0 (by omega)]; exact m5
    · exact List.Pairwise.sublist ((List.eraseIdx_sublist tm i).map _) m6
    · exact List.Pairwise.sublist ((List.eraseIdx_sublist tm i).map _) m7
    · intro k hk
      rw [hl] at hk
      obtain ⟨k', hk', hne, ek, en⟩ : ∃ k', ∃ hk' : k' < tm.length, k' ≠ i ∧ (tm.eraseIdx i)[k] = tm[k'] ∧ ∀ a, 24 ≤ a → a < 32 → N' a k = N a k' := by
        by_cases c1 : k < i
        · refine ⟨k, by omega, by omega, by rw [List.getElem_eraseIdx]; simp [c1], fun a h1 h2 => ?_⟩
          rw [k3 a h1 h2 k, if_neg (by omega), pn_un (by omega)]
        · refine ⟨k + 1, by omega, by omega, by rw [List.getElem_eraseIdx]; simp [c1], fun a h1 h2 => ?_⟩
          rw [k3 a h1 h2 k, if_pos ⟨by omega, hk⟩, pn_un (by omega)]
      rw [ek]
      rw [en 24 (by omega) (by omega), en 25 (by omega) (by omega), en 26 (by omega) (by omega), en 27 (by omega) (by omega), en 28 (by omega) (by omega), en 29 (by omega) (by omega), en 30 (by omega) (by omega), en 31 (by omega) (by omega)]
      obtain ⟨b1, b2, b3, b4, b5, b6⟩ := m8 k' hk'
      refine ⟨b1, b2, b3, b4, ?_, b6⟩
      show upd (M 44) tm[i].2 0 tm[k'].2 = _
      rw [pn_ue (hinj k' hk' hne)]
      exact b5
    · intro p hp
      show upd (M 44) tm[i].2 0 p = 0 ∨ _
      by_cases e : p = tm[i].2
      · left; rw [e, pn_us]
      · rw [pn_ue e]
        rcases m9 p hp with c1 | ⟨k, hk, c1⟩
        · exact Or.inl c1
        · right
          by_cases c2 : k < i
          · exact ⟨k, by rw [hl]; omega, by rw [List.getElem_eraseIdx]; simp [c2, c1]⟩
          · have c3 : k ≠ i := fun hh => by subst hh; exact e c1.symm
            refine ⟨k - 1, by rw [hl]; omega, ?_⟩
            rw [List.getElem_eraseIdx]
            have c4 : ¬ (k - 1 < i) := by omega
            have c5 : k - 1 + 1 = k := by omega
            simp only [c4, dite_false, c5]
            exact c1
  · rw [pn_un (by omega), pn_un (by omega)]
  · rw [k2 k (by omega), pn_un k0]
  · rw [k2 0 (by omega), pn_up, pn_ue hi']
