/-! THE RELATION of the class's memory M and the reference's memory N. -/
/-- a step that both sides know: code, a, b -/
def pr_k (c a b : Int32) : Prop := ∃ k : Nat, k ≤ 15 ∧ c = nI k ∧
  (k = 1 ∨ k = 2 ∨ k = 3 ∨ k = 4 ∨ k = 7 ∨ k = 8 ∨ k = 14 → ∃ f, f < 10 ∧ a = nI f) ∧ (k = 1 → ∃ s, s < 3 ∧ b = nI s) ∧ (k = 3 ∨ k = 4 → ∃ d, d ≤ 200 ∧ b = nI d) ∧ (k = 8 → ∃ f, f < 10 ∧ b = nI f) ∧
  (k = 10 ∨ k = 11 ∨ k = 12 ∨ k = 13 ∨ k = 15 ∨ (k = 9 ∧ b = 2) → ∃ r, r < 8 ∧ a = nI r) ∧ (k = 12 ∨ k = 15 → ∃ r, r < 8 ∧ b = nI r) ∧ (k = 13 → ∃ d, d ≤ 255 ∧ b = nI d) ∧ (k = 5 → a ≤ 999)
def pr_F (M N : px_M) : Prop := M 2 = N 1 ∧ M 3 = N 2 ∧ M 4 = N 3 ∧ M 5 = N 4 ∧ ∀ f, f < 10 → ∃ n, n ≤ 6 ∧ M 2 f = nI n ∧ ∀ i, i < n → pr_k (M 3 (6 * f + i)) (M 4 (6 * f + i)) (M 5 (6 * f + i))
def pr_G (np : Nat) (M N : px_M) : Prop := ∀ r, r < 8 → N 5 r = M 6 r + 1 ∧ (M 6 r = -1 ∨ ∃ p, p < np ∧ M 6 r = nI p)
def pr_B (x : Int32) : Prop := x = 0 ∨ x = 1
def pr_P (np nl : Nat) (M N : px_M) : Prop := np ≤ 40 ∧ M 32 7 = nI np ∧ N 0 6 = nI np ∧ M 33 = N 6 ∧ M 34 = N 7 ∧ M 35 = N 8 ∧ M 36 = N 9 ∧ M 37 = N 10 ∧ M 38 = N 11 ∧ nl ≤ 40 ∧ M 32 9 = nI nl ∧ N 0 12 = nI nl ∧ (∀ i, i < nl → ∃ p, p < np ∧ M 38 i = nI p) ∧
  (∀ p, p < 40 → (M 33 p = 0 ∨ M 33 p = 1 ∨ M 33 p = 2) ∧ pr_B (M 35 p) ∧ pr_B (M 36 p) ∧ pr_B (M 37 p) ∧ (M 35 p = 0 → M 33 p = 0)) ∧ ∀ p, np ≤ p → p < 40 → M 33 p = 0 ∧ M 35 p = 0 ∧ M 36 p = 0 ∧ M 37 p = 0
/-- the reference's word for a function number in a reaction -/
def pr_cv (k : Nat) : Int32 := if k = 16 then -2 else if 9 < k then -1 else nI k
def pr_R (np nr : Nat) (M N : px_M) : Prop := nr ≤ 80 ∧ M 32 14 = nI nr ∧ N 0 14 = nI nr ∧ M 39 = N 12 ∧ M 40 = N 15 ∧ ∀ r, r < nr → (∃ p, p < np ∧ M 39 r = nI p ∧ N 16 r = if M 33 p = 0 then 1 else 0) ∧ (∃ t, t < np ∧ M 40 r = nI t) ∧ ∃ kv kr, kv ≤ 16 ∧ kr ≤ 16 ∧ (kv = 16 ↔ kr = 16) ∧ M 41 r = nI kv ∧ M 42 r = nI kr ∧ N 13 r = pr_cv kv ∧ N 14 r = pr_cv kr
/-- the reference's ring of microtasks -/
def pr_ring (N : px_M) (q : List pn_J) : Prop := ∃ f : Nat, f < 512 ∧ q.length ≤ 512 ∧ N 0 20 = nI f ∧ N 0 21 = nI q.length ∧ ∀ (i : Nat) (h : i < q.length), N 17 ((f + i) % 512) = q[i].1 ∧ N 18 ((f + i) % 512) = q[i].2.1 ∧ N 19 ((f + i) % 512) = q[i].2.2
def pr_cj (x : pn_J) : pn_J := (if x.1 = 0 then 0 else if x.1 = 2 then 1 else 2, x.2.1, x.2.2)
def pr_Q (np nr : Nat) (q : List pn_J) (M N : px_M) : Prop := lineC M 20 180 q ∧ pr_ring N (q.map pr_cj) ∧ ∀ x ∈ q, (x.1 = 0 ∧ ∃ f, f < 10 ∧ x.2.1 = nI f) ∨ (x.1 = 2 ∧ ∃ r p, r < nr ∧ x.2.1 = nI r ∧ M 39 r = nI p ∧ p < np ∧ M 33 p ≠ 0) ∨ (x.1 = 3 ∧ ∃ p o, p < np ∧ o < np ∧ x.2.1 = nI p ∧ x.2.2 = nI o)
/-- a task: source, function, x, timer (0: none) -/
abbrev pr_Tk : Type := Nat × Int32 × Int32 × Nat
def pr_ct (t : pr_Tk) : pn_J := if t.2.2.2 = 0 then (0, t.2.1, t.2.2.1) else (1, nI t.2.2.2, 0)
def pr_of (s : Nat) (ts : List pr_Tk) : List pn_J := (ts.filter (fun t => t.1 == s)).map pr_ct
def pr_T (made : Nat) (ts : List pr_Tk) (M N : px_M) : Prop := ts.length ≤ 2000 ∧ N 0 25 = nI ts.length ∧ lineC M 8 40 (pr_of 0 ts) ∧ lineC M 12 1051 (pr_of 1 ts) ∧ lineC M 16 40 (pr_of 2 ts) ∧
  (∀ (i : Nat) (h : i < ts.length), N 20 i = nI ts[i].1 ∧ N 23 i = nI ts[i].2.2.2 ∧ (ts[i].2.2.2 = 0 → N 21 i = ts[i].2.1 ∧ N 22 i = ts[i].2.2.1)) ∧ ∀ t ∈ ts, t.1 < 3 ∧ t.2.2.2 ≤ made ∧ (t.2.2.2 = 0 → ∃ f, f < 10 ∧ t.2.1 = nI f) ∧ (t.2.2.2 ≠ 0 → t.1 = 1)
/-- the timers, in the reference's order: number, place in the class -/
def pr_M (made : Nat) (tm : List (Nat × Nat)) (M N : px_M) : Prop := tm.length ≤ 12 ∧ N 0 32 = nI tm.length ∧ M 43 9 = nI tm.length ∧ M 43 8 = nI made ∧ N 0 33 = nI made ∧ (tm.map Prod.fst).Pairwise (· < ·) ∧ (tm.map Prod.snd).Nodup ∧
  (∀ (i : Nat) (h : i < tm.length), 0 < tm[i].1 ∧ tm[i].1 ≤ made ∧ tm[i].2 < 12 ∧ N 24 i = nI tm[i].1 ∧ M 44 tm[i].2 = nI tm[i].1 ∧ N 25 i = M 45 tm[i].2 ∧ N 26 i = M 46 tm[i].2 ∧ N 27 i = M 47 tm[i].2 ∧ N 28 i = M 48 tm[i].2 ∧ N 29 i = M 49 tm[i].2 ∧ N 30 i = M 50 tm[i].2 ∧ N 31 i = M 51 tm[i].2 ∧ pr_B (M 50 tm[i].2) ∧ pr_B (M 51 tm[i].2) ∧ (∃ f, f < 10 ∧ M 45 tm[i].2 = nI f) ∧ ∃ d, d ≤ 200 ∧ M 47 tm[i].2 = nI d) ∧
  ∀ p, p < 12 → M 44 p = 0 ∨ ∃ i, ∃ h : i < tm.length, tm[i].2 = p
def pr_A (fr : List Int32) (M N : px_M) : Prop := lineC M 24 8 (fr.map (fun f => (0, f, 0))) ∧ N 0 43 = nI fr.length ∧ N 0 46 = 0 ∧ (∀ (i : Nat) (h : i < fr.length), N 32 i = fr[i]) ∧ ∀ f ∈ fr, ∃ k, k < 10 ∧ f = nI k
def pr_L (M N : px_M) : Prop := (∃ n, n ≤ 200 ∧ M 28 1 = nI n ∧ N 0 48 = nI n) ∧ M 29 = N 34 ∧ (∃ n, n ≤ 200 ∧ M 30 1 = nI n ∧ N 0 50 = nI n) ∧ M 31 = N 35
def pr_Z (j : Nat) (M N : px_M) : Prop := (∃ k, k < 3 ∧ M 0 9 = nI k ∧ N 0 30 = nI k) ∧ (∃ t, t ≤ 100 * j ∧ M 0 10 = nI t ∧ N 0 31 = nI t) ∧ pr_B (M 0 11) ∧ N 0 42 = M 0 11 ∧ M 0 14 = 0
/-- who settles whom: jobs and reactions that settle a promise -/
def pr_U (np nr : Nat) (q : List pn_J) (M : px_M) : Prop :=
  (∀ r r', r < nr → r' < nr → M 41 r = 16 → M 41 r' = 16 → M 40 r = M 40 r' → r = r') ∧
  (∀ r t, r < nr → M 41 r = 16 → M 40 r = nI t → t < np → M 35 t = 1) ∧
  (∀ r p t, r < nr → M 41 r = 16 → M 40 r = nI t → t < np → M 39 r = nI p → p < np → (M 33 p = 0 ∨ (2, nI r, 0) ∈ q) → M 33 t = 0) ∧
  (∀ p, p < np → ∀ o, (3, nI p, o) ∈ q → M 35 p = 1 ∧ M 33 p = 0 ∧ ∀ r, r < nr → M 41 r = 16 → M 40 r ≠ nI p) ∧
  (q.filter (fun x => x.1 != 0)).Nodup ∧ (∀ p o o', (3, nI p, o) ∈ q → (3, nI p, o') ∈ q → o = o') ∧ ∀ x ∈ q, x.1 = 2 → x.2.2 = 0
def pr_cnt (n : Nat) (p : Nat → Bool) : Nat := ((List.range n).filter p).length
/-- how many there are at most -/
def pr_C (np nr nl : Nat) (q : List pn_J) (M : px_M) : Prop :=
  pr_cnt nr (fun r => M 41 r != 16) ≤ np ∧ pr_cnt nr (fun r => M 41 r == 16) + (q.filter (fun x => x.1 == 3)).length ≤ pr_cnt 40 (fun p => M 35 p == 1) ∧
  (q.filter (fun x => x.1 == 2)).length + pr_cnt nr (fun r => M 33 (M 39 r).toNatClampNeg == 0) ≤ nr ∧ (q.filter (fun x => x.1 == 0)).length ≤ 60 ∧ nl ≤ pr_cnt 40 (fun p => M 33 p == 2)
/-- tasks of timers: each timer has one at most; above 999 it is still there -/
def pr_V (ts : List pr_Tk) (tm : List (Nat × Nat)) (M : px_M) : Prop :=
  ((ts.map (fun t => t.2.2.2)).filter (fun t => t != 0)).Nodup ∧ (ts.filter (fun t => t.2.2.2 == 0)).length ≤ 40 ∧ (∀ t ∈ ts, 999 < t.2.2.2 → ∃ x ∈ tm, x.1 = t.2.2.2) ∧ ∀ x ∈ tm, (M 51 x.2 = 1 ↔ ∃ t ∈ ts, t.2.2.2 = x.1)
def pr_Rel (j : Nat) (M N : px_M) : Prop := ∃ (np nl nr made : Nat) (q : List pn_J) (ts : List pr_Tk) (tm : List (Nat × Nat)) (fr : List Int32),
  pr_F M N ∧ pr_G np M N ∧ pr_P np nl M N ∧ pr_R np nr M N ∧ pr_Q np nr q M N ∧ pr_T made ts M N ∧ pr_M made tm M N ∧ pr_A fr M N ∧ pr_L M N ∧ pr_Z j M N ∧ pr_U np nr q M ∧ pr_C np nr nl q M ∧ pr_V ts tm M ∧ made ≤ 20000 * j
theorem pr_thrown {j : Nat} {M N : px_M} (v : Int32) (h : pr_Rel j M N) : pr_Rel j M (px_up N 0 0 v) := h
theorem pr_Z_mono {j k : Nat} {M N : px_M} (hk : j ≤ k) (h : pr_Z j M N) : pr_Z k M N := by
  obtain ⟨h1, ⟨t, ht, h2⟩, h3⟩ := h
  exact ⟨h1, ⟨t, by omega, h2⟩, h3⟩
theorem pr_mono {j k : Nat} {M N : px_M} (hk : j ≤ k) (h : pr_Rel j M N) : pr_Rel k M N := by
  obtain ⟨np, nl, nr, made, q, ts, tm, fr, hF, hG, hP, hR, hQ, hT, hM, hA, hL, hZ, hU, hC, hV, hm⟩ := h
  exact ⟨np, nl, nr, made, q, ts, tm, fr, hF, hG, hP, hR, hQ, hT, hM, hA, hL, pr_Z_mono hk hZ, hU, hC, hV, by omega⟩
