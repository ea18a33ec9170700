/-! In a turn: the relation, and what leaves each of its parts alone. -/
theorem pc_F {M N M' N' : px_M} (h : pr_F M N) (a : ∀ k, 2 ≤ k → k < 6 → M' k = M k) (b : ∀ k, 1 ≤ k → k < 5 → N' k = N k) : pr_F M' N' := by
  unfold pr_F
  rw [a 2 (by omega) (by omega), a 3 (by omega) (by omega), a 4 (by omega) (by omega), a 5 (by omega) (by omega), b 1 (by omega) (by omega), b 2 (by omega) (by omega), b 3 (by omega) (by omega), b 4 (by omega) (by omega)]
  exact h
theorem pc_G {np : Nat} {M N M' N' : px_M} (h : pr_G np M N) (a : M' 6 = M 6) (b : N' 5 = N 5) : pr_G np M' N' := by
  unfold pr_G
  rw [a, b]
  exact h
theorem pc_P {np nl : Nat} {M N M' N' : px_M} (h : pr_P np nl M N) (a : ∀ k, 33 ≤ k → k < 39 → M' k = M k) (a7 : M' 32 7 = M 32 7) (a9 : M' 32 9 = M 32 9) (b : ∀ k, 6 ≤ k → k < 12 → N' k = N k) (b6 : N' 0 6 = N 0 6) (b12 : N' 0 12 = N 0 12) : pr_P np nl M' N' := by
  unfold pr_P
  rw [a7, a9, b6, b12, a 33 (by omega) (by omega), a 34 (by omega) (by omega), a 35 (by omega) (by omega), a 36 (by omega) (by omega), a 37 (by omega) (by omega), a 38 (by omega) (by omega), b 6 (by omega) (by omega), b 7 (by omega) (by omega), b 8 (by omega) (by omega), b 9 (by omega) (by omega), b 10 (by omega) (by omega), b 11 (by omega) (by omega)]
  exact h
theorem pc_R {np nr : Nat} {M N M' N' : px_M} (h : pr_R np nr M N) (a : ∀ k, 39 ≤ k → k < 43 → M' k = M k) (a33 : M' 33 = M 33) (a14 : M' 32 14 = M 32 14) (b : ∀ k, 12 ≤ k → k < 17 → N' k = N k) (b14 : N' 0 14 = N 0 14) : pr_R np nr M' N' := by
  unfold pr_R
  rw [a14, b14, a33, a 39 (by omega) (by omega), a 40 (by omega) (by omega), a 41 (by omega) (by omega), a 42 (by omega) (by omega), b 12 (by omega) (by omega), b 13 (by omega) (by omega), b 14 (by omega) (by omega), b 15 (by omega) (by omega), b 16 (by omega) (by omega)]
  exact h
theorem pc_ring {N N' : px_M} {q : List pn_J} (h : pr_ring N q) (b : ∀ k, 17 ≤ k → k < 20 → N' k = N k) (b20 : N' 0 20 = N 0 20) (b21 : N' 0 21 = N 0 21) : pr_ring N' q := by
  unfold pr_ring
  rw [b20, b21, b 17 (by omega) (by omega), b 18 (by omega) (by omega), b 19 (by omega) (by omega)]
  exact h
theorem pc_Q {np nr : Nat} {q : List pn_J} {M N M' N' : px_M} (h : pr_Q np nr q M N) (a : ∀ k, 20 ≤ k → k < 24 → M' k = M k) (a33 : M' 33 = M 33) (a39 : M' 39 = M 39) (b : ∀ k, 17 ≤ k → k < 20 → N' k = N k) (b20 : N' 0 20 = N 0 20) (b21 : N' 0 21 = N 0 21) : pr_Q np nr q M' N' := by
  refine ⟨lineC_c h.1 (a _ (by omega) (by omega)) (a _ (by omega) (by omega)) (a _ (by omega) (by omega)) (a _ (by omega) (by omega)), pc_ring h.2.1 b b20 b21, ?_⟩
  rw [a33, a39]
  exact h.2.2
theorem pc_T {made : Nat} {ts : List pr_Tk} {M N M' N' : px_M} (h : pr_T made ts M N) (a : ∀ k, 8 ≤ k → k < 20 → M' k = M k) (b : ∀ k, 20 ≤ k → k < 24 → N' k = N k) (b25 : N' 0 25 = N 0 25) : pr_T made ts M' N' := by
  obtain ⟨t1, t2, t3, t4, t5, t6, t7⟩ := h
  refine ⟨t1, by rw [b25, t2], lineC_c t3 (a _ (by omega) (by omega)) (a _ (by omega) (by omega)) (a _ (by omega) (by omega)) (a _ (by omega) (by omega)), lineC_c t4 (a _ (by omega) (by omega)) (a _ (by omega) (by omega)) (a _ (by omega) (by omega)) (a _ (by omega) (by omega)), lineC_c t5 (a _ (by omega) (by omega)) (a _ (by omega) (by omega)) (a _ (by omega) (by omega)) (a _ (by omega) (by omega)), ?_, t7⟩
  rw [b 20 (by omega) (by omega), b 21 (by omega) (by omega), b 22 (by omega) (by omega), b 23 (by omega) (by omega)]
  exact t6
theorem pc_M {made : Nat} {tm : List (Nat × Nat)} {M N M' N' : px_M} (h : pr_M made tm M N) (a : ∀ k, 43 ≤ k → k < 52 → M' k = M k) (b : ∀ k, 24 ≤ k → k < 32 → N' k = N k) (b32 : N' 0 32 = N 0 32) (b33 : N' 0 33 = N 0 33) : pr_M made tm M' N' := by
  unfold pr_M
  rw [b32, b33, a 43 (by omega) (by omega), a 44 (by omega) (by omega), a 45 (by omega) (by omega), a 46 (by omega) (by omega), a 47 (by omega) (by omega), a 48 (by omega) (by omega), a 49 (by omega) (by omega), a 50 (by omega) (by omega), a 51 (by omega) (by omega), b 24 (by omega) (by omega), b 25 (by omega) (by omega), b 26 (by omega) (by omega), b 27 (by omega) (by omega), b 28 (by omega) (by omega), b 29 (by omega) (by omega), b 30 (by omega) (by omega), b 31 (by omega) (by omega)]
  exact h
/-- frames in a turn: tk are taken and not yet run -/
def pr_AI (tk fr : List Int32) (M N : px_M) : Prop := lineC M 24 8 ((tk ++ fr).map (fun f => (0, f, 0))) ∧ N 0 43 = nI fr.length ∧ N 0 46 = nI tk.length ∧ (∀ (i : Nat) (h : i < fr.length), N 32 i = fr[i]) ∧ ∀ f ∈ tk ++ fr, ∃ k, k < 10 ∧ f = nI k
theorem pc_AI {tk fr : List Int32} {M N M' N' : px_M} (h : pr_AI tk fr M N) (a : ∀ k, 24 ≤ k → k < 28 → M' k = M k) (b32 : N' 32 = N 32) (b43 : N' 0 43 = N 0 43) (b46 : N' 0 46 = N 0 46) : pr_AI tk fr M' N' := by
  refine ⟨lineC_c h.1 (a _ (by omega) (by omega)) (a _ (by omega) (by omega)) (a _ (by omega) (by omega)) (a _ (by omega) (by omega)), ?_⟩
  rw [b43, b46, b32]
  exact h.2
theorem pc_L {M N M' N' : px_M} (h : pr_L M N) (a : ∀ k, 28 ≤ k → k < 32 → M' k = M k) (b34 : N' 34 = N 34) (b35 : N' 35 = N 35) (b48 : N' 0 48 = N 0 48) (b50 : N' 0 50 = N 0 50) : pr_L M' N' := by
  unfold pr_L
  rw [a 28 (by omega) (by omega), a 29 (by omega) (by omega), a 30 (by omega) (by omega), a 31 (by omega) (by omega), b34, b35, b48, b50]
  exact h
def pr_ZI (j : Nat) (M N : px_M) : Prop := (∃ k, k < 3 ∧ M 0 9 = nI k ∧ N 0 30 = nI k) ∧ (∃ t, t ≤ 100 * j ∧ M 0 10 = nI t ∧ N 0 31 = nI t) ∧ pr_B (M 0 11) ∧ N 0 42 = M 0 11 ∧ N 0 60 = M 0 14 + 1
theorem pc_ZI {j : Nat} {M N M' N' : px_M} (h : pr_ZI j M N) (a9 : M' 0 9 = M 0 9) (a10 : M' 0 10 = M 0 10) (a11 : M' 0 11 = M 0 11) (a14 : M' 0 14 = M 0 14) (b30 : N' 0 30 = N 0 30) (b31 : N' 0 31 = N 0 31) (b42 : N' 0 42 = N 0 42) (b60 : N' 0 60 = N 0 60) : pr_ZI j M' N' := by
  unfold pr_ZI
  rw [a9, a10, a11, a14, b30, b31, b42, b60]
  exact h
theorem pc_U {np nr : Nat} {q : List pn_J} {M M' : px_M} (h : pr_U np nr q M) (a33 : M' 33 = M 33) (a35 : M' 35 = M 35) (a39 : M' 39 = M 39) (a40 : M' 40 = M 40) (a41 : M' 41 = M 41) : pr_U np nr q M' := by
  unfold pr_U
  rw [a33, a35, a39, a40, a41]
  exact h
theorem pc_C {np nr nl : Nat} {q : List pn_J} {M M' : px_M} (h : pr_C np nr nl q M) (a33 : M' 33 = M 33) (a35 : M' 35 = M 35) (a39 : M' 39 = M 39) (a41 : M' 41 = M 41) : pr_C np nr nl q M' := by
  unfold pr_C
  rw [a33, a35, a39, a41]
  exact h
/-- in a turn: the task of the timer z has been taken -/
def pr_VI (z : Nat) (ts : List pr_Tk) (tm : List (Nat × Nat)) (M : px_M) : Prop :=
  ((ts.map (fun t => t.2.2.2)).filter (fun t => t != 0)).Nodup ∧ (ts.filter (fun t => t.2.2.2 == 0)).length ≤ 40 ∧ (∀ t ∈ ts, 999 < t.2.2.2 → ∃ x ∈ tm, x.1 = t.2.2.2) ∧ (∀ x ∈ tm, x.1 ≠ z → (M 51 x.2 = 1 ↔ ∃ t ∈ ts, t.2.2.2 = x.1)) ∧ (z ≠ 0 → ∀ t ∈ ts, t.2.2.2 ≠ z)
theorem pc_V {z : Nat} {ts : List pr_Tk} {tm : List (Nat × Nat)} {M M' : px_M} (h : pr_VI z ts tm M) (a51 : M' 51 = M 51) : pr_VI z ts tm M' := by
  unfold pr_VI
  rw [a51]
  exact h
/-- what the jobs of a checkpoint may still come to -/
def pr_W (w nr : Nat) (q : List pn_J) (M : px_M) : Prop := 120 + pr_cnt nr (fun r => M 33 (M 39 r).toNatClampNeg == 0) + (q.filter (fun x => x.1 == 2)).length + (q.filter (fun x => x.1 == 3)).length ≤ w + nr + pr_cnt 40 (fun p => M 35 p == 1)
theorem pc_W {w nr : Nat} {q : List pn_J} {M M' : px_M} (h : pr_W w nr q M) (a33 : M' 33 = M 33) (a35 : M' 35 = M 35) (a39 : M' 39 = M 39) : pr_W w nr q M' := by
  unfold pr_W
  rw [a33, a35, a39]
  exact h
/-- promises, reactions, jobs -/
def pr_D (w np nl nr : Nat) (q : List pn_J) (M N : px_M) : Prop := pr_G np M N ∧ pr_P np nl M N ∧ pr_R np nr M N ∧ pr_Q np nr q M N ∧ pr_U np nr q M ∧ pr_C np nr nl q M ∧ pr_W w nr q M ∧ pr_L M N
theorem pc_D {w np nl nr : Nat} {q : List pn_J} {M N M' N' : px_M} (h : pr_D w np nl nr q M N) (a6 : M' 6 = M 6) (a : ∀ k, 20 ≤ k → k < 24 → M' k = M k) (a' : ∀ k, 28 ≤ k → k < 43 → M' k = M k) (b : ∀ k, 5 ≤ k → k < 20 → N' k = N k) (b34 : N' 34 = N 34) (b35 : N' 35 = N 35) (b48 : N' 0 48 = N 0 48) (b50 : N' 0 50 = N 0 50) (b6 : N' 0 6 = N 0 6) (b12 : N' 0 12 = N 0 12) (b14 : N' 0 14 = N 0 14) (b20 : N' 0 20 = N 0 20) (b21 : N' 0 21 = N 0 21) : pr_D w np nl nr q M' N' := by
  obtain ⟨h1, h2, h3, h4, h5, h6, h7, h8⟩ := h
  have a33 := a' 33 (by omega) (by omega)
  have a35 := a' 35 (by omega) (by omega)
  have a39 := a' 39 (by omega) (by omega)
  have a40 := a' 40 (by omega) (by omega)
  have a41 := a' 41 (by omega) (by omega)
  have a32 := a' 32 (by omega) (by omega)
  exact ⟨pc_G h1 a6 (b 5 (by omega) (by omega)), pc_P h2 (fun k _ _ => a' k (by omega) (by omega)) (by rw [a32]) (by rw [a32]) (fun k _ _ => b k (by omega) (by omega)) b6 b12, pc_R h3 (fun k _ _ => a' k (by omega) (by omega)) a33 (by rw [a32]) (fun k _ _ => b k (by omega) (by omega)) b14, pc_Q h4 a a33 a39 (fun k _ _ => b k (by omega) (by omega)) b20 b21, pc_U h5 a33 a35 a39 a40 a41, pc_C h6 a33 a35 a39 a41, pc_W h7 a33 a35 a39, pc_L h8 (fun k _ _ => a' k (by omega) (by omega)) b34 b35 b48 b50⟩
/-- all else -/
def pr_E (j z : Nat) (tk : List Int32) (made : Nat) (ts : List pr_Tk) (tm : List (Nat × Nat)) (fr : List Int32) (M N : px_M) : Prop := pr_F M N ∧ pr_T made ts M N ∧ pr_M made tm M N ∧ pr_AI tk fr M N ∧ pr_ZI j M N ∧ pr_VI z ts tm M
def pr_I (j K w z np : Nat) (tk : List Int32) (M N : px_M) : Prop := ∃ (nl nr made : Nat) (q : List pn_J) (ts : List pr_Tk) (tm : List (Nat × Nat)) (fr : List Int32),
  pr_D w np nl nr q M N ∧ pr_E j z tk made ts tm fr M N ∧ made ≤ K
/-- what the steps of a run leave alone -/
def pr_kp (M N M' N' : px_M) : Prop := M' 0 = M 0 ∧ (∀ i, (i = 0 ∨ i = 30 ∨ i = 31 ∨ i = 42 ∨ i = 45 ∨ i = 46 ∨ 52 ≤ i) → N' 0 i = N 0 i) ∧ (∀ a, (a = 33 ∨ 36 ≤ a) → N' a = N a) ∧ ∀ a, 1 ≤ a → a < 5 → N' a = N a
theorem pr_kp_r (M N : px_M) : pr_kp M N M N := ⟨rfl, fun _ _ => rfl, fun _ _ => rfl, fun _ _ _ => rfl⟩
theorem pr_kp_t {M N M' N' M'' N'' : px_M} (h : pr_kp M N M' N') (g : pr_kp M' N' M'' N'') : pr_kp M N M'' N'' :=
  ⟨g.1.trans h.1, fun i hi => (g.2.1 i hi).trans (h.2.1 i hi), fun a ha => (g.2.2.1 a ha).trans (h.2.2.1 a ha), fun a h1 h2 => (g.2.2.2 a h1 h2).trans (h.2.2.2 a h1 h2)⟩
/-- E survives what touches promises, reactions, jobs, registers, log and reports alone -/
theorem pc_E {j z : Nat} {tk : List Int32} {made : Nat} {ts : List pr_Tk} {tm : List (Nat × Nat)} {fr : List Int32} {M N M' N' : px_M} (h : pr_E j z tk made ts tm fr M N) (a0 : ∀ i, (i < 12 ∨ i = 14) → M' 0 i = M 0 i) (a : ∀ k, (2 ≤ k ∧ k < 6 ∨ 8 ≤ k ∧ k < 20 ∨ 24 ≤ k ∧ k < 28 ∨ 43 ≤ k ∧ k < 52) → M' k = M k) (b : ∀ k, (1 ≤ k ∧ k < 5 ∨ 20 ≤ k ∧ k < 34) → N' k = N k) (b0 : ∀ i, (i = 25 ∨ 30 ≤ i ∧ i < 48 ∨ i = 60) → N' 0 i = N 0 i) : pr_E j z tk made ts tm fr M' N' := by
  obtain ⟨h1, h2, h3, h4, h6, h7⟩ := h
  refine ⟨pc_F h1 (fun k _ _ => a k (by omega)) (fun k _ _ => b k (by omega)), pc_T h2 (fun k _ _ => a k (by omega)) (fun k _ _ => b k (by omega)) (b0 _ (by omega)), pc_M h3 (fun k _ _ => a k (by omega)) (fun k _ _ => b k (by omega)) (b0 _ (by omega)) (b0 _ (by omega)), pc_AI h4 (fun k _ _ => a k (by omega)) (b _ (by omega)) (b0 _ (by omega)) (b0 _ (by omega)), pc_ZI h6 (a0 _ (by omega)) (a0 _ (by omega)) (a0 _ (by omega)) (a0 _ (by omega)) (b0 _ (by omega)) (b0 _ (by omega)) (b0 _ (by omega)) (b0 _ (by omega)), pc_V h7 (a 51 (by omega))⟩
/-- what touches D alone -/
def pr_fD (M N M' N' : px_M) : Prop := (∀ k, k ≠ 6 → (k < 20 ∨ 24 ≤ k ∧ k < 28 ∨ 43 ≤ k) → M' k = M k) ∧ (∀ k, k ≠ 0 → (k < 5 ∨ 20 ≤ k ∧ k < 34 ∨ 36 ≤ k) → N' k = N k) ∧ ∀ i, (i = 0 ∨ i = 25 ∨ 30 ≤ i ∧ i < 48 ∨ 51 ≤ i) → N' 0 i = N 0 i
theorem pr_fD_r (M N : px_M) : pr_fD M N M N := ⟨fun _ _ _ => rfl, fun _ _ _ => rfl, fun _ _ => rfl⟩
theorem pr_fD_t {M N M' N' M'' N'' : px_M} (h : pr_fD M N M' N') (g : pr_fD M' N' M'' N'') : pr_fD M N M'' N'' :=
  ⟨fun k h1 h2 => (g.1 k h1 h2).trans (h.1 k h1 h2), fun k h1 h2 => (g.2.1 k h1 h2).trans (h.2.1 k h1 h2), fun i hi => (g.2.2 i hi).trans (h.2.2 i hi)⟩
theorem pr_fD_E {j z : Nat} {tk : List Int32} {made : Nat} {ts : List pr_Tk} {tm : List (Nat × Nat)} {fr : List Int32} {M N M' N' : px_M} (h : pr_E j z tk made ts tm fr M N) (g : pr_fD M N M' N') : pr_E j z tk made ts tm fr M' N' :=
  pc_E h (fun i _ => by rw [g.1 0 (by omega) (by omega)]) (fun k _ => g.1 k (by omega) (by omega)) (fun k _ => g.2.1 k (by omega) (by omega)) (fun i _ => g.2.2 i (by omega))
theorem pr_fD_kp {M N M' N' : px_M} (g : pr_fD M N M' N') : pr_kp M N M' N' :=
  ⟨g.1 0 (by omega) (by omega), fun i _ => g.2.2 i (by omega), fun a _ => g.2.1 a (by omega) (by omega), fun a _ _ => g.2.1 a (by omega) (by omega)⟩
/-- a run's own fields are no part of the relation -/
theorem pc_I {j K w z np : Nat} {tk : List Int32} {M N M' N' : px_M} (h : pr_I j K w z np tk M N) (a : ∀ k, k ≠ 0 → M' k = M k) (a0 : ∀ i, (i < 12 ∨ i = 14) → M' 0 i = M 0 i) (b : ∀ k, k ≠ 0 → k < 36 → N' k = N k) (b0 : ∀ i, i ≠ 0 → i ≠ 52 → i < 61 → N' 0 i = N 0 i) : pr_I j K w z np tk M' N' := by
  obtain ⟨nl, nr, made, q, ts, tm, fr, hD, hE, hK⟩ := h
  exact ⟨nl, nr, made, q, ts, tm, fr, pc_D hD (a _ (by omega)) (fun k _ _ => a k (by omega)) (fun k _ _ => a k (by omega)) (fun k _ _ => b k (by omega) (by omega)) (b _ (by omega) (by omega)) (b _ (by omega) (by omega)) (b0 _ (by omega) (by omega) (by omega)) (b0 _ (by omega) (by omega) (by omega)) (b0 _ (by omega) (by omega) (by omega)) (b0 _ (by omega) (by omega) (by omega)) (b0 _ (by omega) (by omega) (by omega)) (b0 _ (by omega) (by omega) (by omega)) (b0 _ (by omega) (by omega) (by omega)), pc_E hE a0 (fun k _ => a k (by omega)) (fun k _ => b k (by omega) (by omega)) (fun i _ => b0 i (by omega) (by omega) (by omega)), hK⟩
theorem pr_D_mono {w w' np nl nr : Nat} {q : List pn_J} {M N : px_M} (h : pr_D w np nl nr q M N) (hw : w ≤ w') : pr_D w' np nl nr q M N := by
  obtain ⟨h1, h2, h3, h4, h5, h6, h7, h8⟩ := h
  exact ⟨h1, h2, h3, h4, h5, h6, by unfold pr_W at h7 ⊢; omega, h8⟩
theorem pr_I_mono {j K K' w w' z np : Nat} {tk : List Int32} {M N : px_M} (h : pr_I j K w z np tk M N) (hK : K ≤ K') (hw : w ≤ w') : pr_I j K' w' z np tk M N := by
  obtain ⟨nl, nr, made, q, ts, tm, fr, hD, hE, hK1⟩ := h
  exact ⟨nl, nr, made, q, ts, tm, fr, pr_D_mono hD hw, hE, by omega⟩
/-- what touches E alone -/
def pr_fE (M N M' N' : px_M) : Prop := M' 0 = M 0 ∧ (∀ k, (k = 6 ∨ 20 ≤ k ∧ k < 24 ∨ 28 ≤ k ∧ k < 43) → M' k = M k) ∧ (∀ k, k ≠ 0 → (k < 20 ∨ 33 ≤ k) → N' k = N k) ∧ ∀ i, i ≠ 25 → i ≠ 32 → i ≠ 33 → i ≠ 43 → N' 0 i = N 0 i
theorem pr_fE_D {w np nl nr : Nat} {q : List pn_J} {M N M' N' : px_M} (h : pr_D w np nl nr q M N) (g : pr_fE M N M' N') : pr_D w np nl nr q M' N' :=
  pc_D h (g.2.1 _ (by omega)) (fun k _ _ => g.2.1 k (by omega)) (fun k _ _ => g.2.1 k (by omega)) (fun k _ _ => g.2.2.1 k (by omega) (by omega)) (g.2.2.1 _ (by omega) (by omega)) (g.2.2.1 _ (by omega) (by omega)) (g.2.2.2 _ (by omega) (by omega) (by omega) (by omega)) (g.2.2.2 _ (by omega) (by omega) (by omega) (by omega)) (g.2.2.2 _ (by omega) (by omega) (by omega) (by omega)) (g.2.2.2 _ (by omega) (by omega) (by omega) (by omega)) (g.2.2.2 _ (by omega) (by omega) (by omega) (by omega)) (g.2.2.2 _ (by omega) (by omega) (by omega) (by omega)) (g.2.2.2 _ (by omega) (by omega) (by omega) (by omega))
theorem pr_fE_kp {M N M' N' : px_M} (g : pr_fE M N M' N') : pr_kp M N M' N' :=
  ⟨g.1, fun i _ => g.2.2.2 i (by omega) (by omega) (by omega) (by omega), fun a _ => g.2.2.1 a (by omega) (by omega), fun a _ _ => g.2.2.1 a (by omega) (by omega)⟩
