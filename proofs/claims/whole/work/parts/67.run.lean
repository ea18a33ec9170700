/-! A run, both sides. -/
def pv_U (n m : Nat) (N : px_M) : Option (Int32 × px_M) := px_bo (px_fx0 gR_M_takenUp_L0 m N) (fun r N' => if r = 0 then some ((0 : Int32), N') else px_fx0 gR_M_run_L33 n N')
def pv_bg (N : px_M) (e : Nat) (f x kd hd : Int32) : px_M := px_up (px_up (px_up (px_up (px_up (px_up (px_up (px_up N 36 e f) 37 e x) 38 e 0) 39 e 0) 40 e 0) 41 e kd) 42 e hd) 0 52 (nI (e + 1))
theorem pv_ui {M : px_M} {k e a i : Nat} {x : Int32} (h : a ≠ k ∨ i ≠ e) : px_up M k e x a i = M a i := by
  by_cases c : a = k
  · subst c
    rw [pn_up, pn_ue (by omega)]
  · rw [pn_un c]
theorem pv_begin {N : px_M} {e : Nat} (he : e < 8) (h52 : N 0 52 = nI e) (f x kd hd : Int32) : fR_M_begin N f x kd hd = some (pv_bg N e f x kd hd) := by
  unfold fR_M_begin pv_bg
  have u : ∀ (N : px_M) (k i : Nat) (x : Int32), k ≠ 0 → px_up N k i x 0 52 = N 0 52 := fun N k i x h => by rw [pn_un (Ne.symm h)]
  simp only [px_bn, u _ 36 _ _ (by decide), u _ 37 _ _ (by decide), u _ 38 _ _ (by decide), u _ 39 _ _ (by decide), u _ 40 _ _ (by decide), u _ 41 _ _ (by decide), u _ 42 _ _ (by decide), h52, pn_ck he (show (8 : Nat) < 2 ^ 31 by omega), nI_clamp (show e < 2 ^ 31 by omega), nI_1]
theorem pv_bg0 {N : px_M} {e : Nat} {f x kd hd : Int32} {i : Nat} (h : i ≠ 52) : pv_bg N e f x kd hd 0 i = N 0 i := by
  unfold pv_bg
  rw [pv_ui (Or.inr h), pn_un (by omega), pn_un (by omega), pn_un (by omega), pn_un (by omega), pn_un (by omega), pn_un (by omega), pn_un (by omega)]
theorem pv_bg52 {N : px_M} {e : Nat} {f x kd hd : Int32} : pv_bg N e f x kd hd 0 52 = nI (e + 1) := by
  unfold pv_bg
  rw [pn_up, pn_us]
theorem pv_bgl {N : px_M} {e : Nat} {f x kd hd : Int32} {a : Nat} (h0 : a ≠ 0) (h : a < 36) : pv_bg N e f x kd hd a = N a := by
  unfold pv_bg
  rw [pn_un (by omega), pn_un (by omega), pn_un (by omega), pn_un (by omega), pn_un (by omega), pn_un (by omega), pn_un (by omega), pn_un (by omega)]
theorem pv_bgi {N : px_M} {e : Nat} {f x kd hd : Int32} {a i : Nat} (h0 : a ≠ 0) (h : i ≠ e) : pv_bg N e f x kd hd a i = N a i := by
  unfold pv_bg
  rw [pv_ui (Or.inl h0), pv_ui (Or.inr h), pv_ui (Or.inr h), pv_ui (Or.inr h), pv_ui (Or.inr h), pv_ui (Or.inr h), pv_ui (Or.inr h), pv_ui (Or.inr h)]
theorem pv_bge (N : px_M) (e : Nat) (f x kd hd : Int32) : pv_bg N e f x kd hd 36 e = f ∧ pv_bg N e f x kd hd 37 e = x ∧ pv_bg N e f x kd hd 38 e = 0 ∧ pv_bg N e f x kd hd 39 e = 0 ∧ pv_bg N e f x kd hd 40 e = 0 ∧ pv_bg N e f x kd hd 41 e = kd ∧ pv_bg N e f x kd hd 42 e = hd := by
  refine ⟨?_, ?_, ?_, ?_, ?_, ?_, ?_⟩
  · show upd (N 36) e f e = _; rw [pn_us]
  · show upd (N 37) e x e = _; rw [pn_us]
  · show upd (N 38) e 0 e = _; rw [pn_us]
  · show upd (N 39) e 0 e = _; rw [pn_us]
  · show upd (N 40) e 0 e = _; rw [pn_us]
  · show upd (N 41) e kd e = _; rw [pn_us]
  · show upd (N 42) e hd e = _; rw [pn_us]
theorem pv_tz {rc : px_M → Option (Int32 × px_M)} {N : px_M} (h : N 0 52 = nI 0) : gR_M_takenUp_L0 rc N = some ((0 : Int32), N) := by
  unfold gR_M_takenUp_L0
  rw [h, if_pos (show nI 0 ≤ (0 : Int32) by decide)]
theorem pv_t0 {rc : px_M → Option (Int32 × px_M)} {N : px_M} (h : N 0 52 = nI 1) : gR_M_takenUp_L0 rc N = rc (px_up N 0 52 (nI 0)) := by
  unfold gR_M_takenUp_L0
  simp only [px_bn]
  rw [h, if_neg (show ¬ nI 1 ≤ (0 : Int32) by decide), show nI 1 - 1 = nI 0 from nI_pred 0, show (px_up N 0 52 (nI 0)) 0 52 = nI 0 by rw [pn_up, pn_us], if_pos (show nI 0 ≤ (0 : Int32) by decide)]
theorem pv_t1 {rc : px_M → Option (Int32 × px_M)} {N : px_M} {e : Nat} (he : e + 1 < 8) (h : N 0 52 = nI (e + 2)) (hk : N 41 (e + 1) ≠ 2) : gR_M_takenUp_L0 rc N = rc (px_up N 0 52 (nI (e + 1))) := by
  unfold gR_M_takenUp_L0
  simp only [px_bn]
  rw [h, if_neg (nI_nle (by omega) (by omega)), show nI (e + 2) - 1 = nI (e + 1) from nI_pred (e + 1), show (px_up N 0 52 (nI (e + 1))) 0 52 = nI (e + 1) by rw [pn_up, pn_us], if_neg (nI_nle (by omega) (by omega)), pn_ck he (by omega), nI_clamp (by omega), if_neg (show ¬ (px_up N 0 52 (nI (e + 1))) 41 (e + 1) = 2 from hk)]
theorem pv_t2 {rc : px_M → Option (Int32 × px_M)} {N : px_M} {e c : Nat} (he : e + 1 < 8) (h : N 0 52 = nI (e + 2)) (hk : N 41 (e + 1) = 2) (h61 : N 0 61 = nI c) (hc : c < 30) : gR_M_takenUp_L0 rc N = some ((1 : Int32), pv_bg (px_up (px_up (px_up N 0 52 (nI (e + 1))) 0 61 (nI (c + 1))) 0 63 0) (e + 1) (N 42 (e + 1)) (N 0 64) 3 0) := by
  unfold gR_M_takenUp_L0
  simp only [px_bn]
  rw [h, if_neg (nI_nle (by omega) (by omega)), show nI (e + 2) - 1 = nI (e + 1) from nI_pred (e + 1), show (px_up N 0 52 (nI (e + 1))) 0 52 = nI (e + 1) by rw [pn_up, pn_us], if_neg (nI_nle (by omega) (by omega)), pn_ck he (by omega), nI_clamp (by omega), if_pos (show (px_up N 0 52 (nI (e + 1))) 41 (e + 1) = 2 from hk), show (px_up N 0 52 (nI (e + 1))) 0 61 = nI c from h61, if_neg (show ¬ (30 : Int32) ≤ nI c from nI_ge (b := 30) hc (by omega)), nI_1]
  have u : (px_up (px_up (px_up N 0 52 (nI (e + 1))) 0 61 (nI (c + 1))) 0 63 0) 0 52 = nI (e + 1) := by
    rw [pv_ui (Or.inr (by omega)), pv_ui (Or.inr (by omega)), pn_up, pn_us]
  rw [u, pn_ck he (by omega), nI_clamp (by omega), pv_begin he u]
  rfl
theorem pv_t3 {rc : px_M → Option (Int32 × px_M)} {N : px_M} {e : Nat} (he : e + 1 < 8) (h : N 0 52 = nI (e + 2)) (hk : N 41 (e + 1) = 2) (h61 : N 0 61 = nI 30) : gR_M_takenUp_L0 rc N = rc (px_up (px_up N 0 52 (nI (e + 1))) 0 64 (-1)) := by
  unfold gR_M_takenUp_L0
  simp only [px_bn]
  rw [h, if_neg (nI_nle (by omega) (by omega)), show nI (e + 2) - 1 = nI (e + 1) from nI_pred (e + 1), show (px_up N 0 52 (nI (e + 1))) 0 52 = nI (e + 1) by rw [pn_up, pn_us], if_neg (nI_nle (by omega) (by omega)), pn_ck he (by omega), nI_clamp (by omega), if_pos (show (px_up N 0 52 (nI (e + 1))) 41 (e + 1) = 2 from hk), show (px_up N 0 52 (nI (e + 1))) 0 61 = nI 30 from h61, if_pos (show (30 : Int32) ≤ nI 30 by decide)]
theorem pv_U0 {n m : Nat} {N : px_M} (h : N 0 52 = nI 1) : pv_U n (m + 2) N = some ((0 : Int32), px_up N 0 52 (nI 0)) := by
  unfold pv_U
  rw [show px_fx0 gR_M_takenUp_L0 (m + 2) N = gR_M_takenUp_L0 (px_fx0 gR_M_takenUp_L0 (m + 1)) N from rfl, pv_t0 h, show px_fx0 gR_M_takenUp_L0 (m + 1) (px_up N 0 52 (nI 0)) = gR_M_takenUp_L0 (px_fx0 gR_M_takenUp_L0 m) (px_up N 0 52 (nI 0)) from rfl, pv_tz (by rw [pn_up, pn_us]), pi_bo, if_pos rfl]
theorem pv_U1 {n m : Nat} {N : px_M} {e : Nat} (he : e + 1 < 8) (h : N 0 52 = nI (e + 2)) (hk : N 41 (e + 1) ≠ 2) : pv_U n (m + 1) N = pv_U n m (px_up N 0 52 (nI (e + 1))) := by
  unfold pv_U
  rw [show px_fx0 gR_M_takenUp_L0 (m + 1) N = gR_M_takenUp_L0 (px_fx0 gR_M_takenUp_L0 m) N from rfl, pv_t1 he h hk]
theorem pv_U2 {n m : Nat} {N : px_M} {e c : Nat} (he : e + 1 < 8) (h : N 0 52 = nI (e + 2)) (hk : N 41 (e + 1) = 2) (h61 : N 0 61 = nI c) (hc : c < 30) : pv_U n (m + 1) N = px_fx0 gR_M_run_L33 n (pv_bg (px_up (px_up (px_up N 0 52 (nI (e + 1))) 0 61 (nI (c + 1))) 0 63 0) (e + 1) (N 42 (e + 1)) (N 0 64) 3 0) := by
  unfold pv_U
  rw [show px_fx0 gR_M_takenUp_L0 (m + 1) N = gR_M_takenUp_L0 (px_fx0 gR_M_takenUp_L0 m) N from rfl, pv_t2 he h hk h61 hc, pi_bo, if_neg (show ¬ (1 : Int32) = 0 by decide)]
theorem pv_U3 {n m : Nat} {N : px_M} {e : Nat} (he : e + 1 < 8) (h : N 0 52 = nI (e + 2)) (hk : N 41 (e + 1) = 2) (h61 : N 0 61 = nI 30) : pv_U n (m + 1) N = pv_U n m (px_up (px_up N 0 52 (nI (e + 1))) 0 64 (-1)) := by
  unfold pv_U
  rw [show px_fx0 gR_M_takenUp_L0 (m + 1) N = gR_M_takenUp_L0 (px_fx0 gR_M_takenUp_L0 m) N from rfl, pv_t3 he h hk h61]
theorem pv_g0 {rc : px_M → Option (Int32 × px_M)} {N : px_M} (h : N 0 52 = nI 0) : gR_M_run_L33 rc N = some ((1 : Int32), N) := by
  unfold gR_M_run_L33
  rw [h, if_pos (show nI 0 ≤ (0 : Int32) by decide)]
theorem pv_g1 {n : Nat} {N : px_M} {e f s l : Nat} (he : e < 8) (h52 : N 0 52 = nI (e + 1)) (hf : f < 10) (h36 : N 36 e = nI f) (h38 : N 38 e = nI s) (h1 : N 1 f = nI l) (hs : s < l) (hl : l ≤ 6) : px_fx0 gR_M_run_L33 (n + 1) N = px_bq (fR_M_doStep (px_up N 38 e (nI (s + 1))) (nI (6 * f + s))) (fun N' => if N' 0 63 = 0 then px_fx0 gR_M_run_L33 n N' else pv_U n 8 N') := by
  show gR_M_run_L33 (px_fx0 gR_M_run_L33 n) N = _
  have : ∀ rc : px_M → Option (Int32 × px_M), gR_M_run_L33 rc N = px_bq (fR_M_doStep (px_up N 38 e (nI (s + 1))) (nI (6 * f + s))) (fun N' => if N' 0 63 = 0 then rc N' else px_bo (fR_M_takenUp N') (fun r N'' => if r = 0 then some ((0 : Int32), N'') else rc N'')) := by
    intro rc
    unfold gR_M_run_L33
    simp only [px_bn]
    rw [h52, if_neg (nI_nle (by omega) (by omega)), nI_pred]
    simp only [pn_ck he (show (8 : Nat) < 2 ^ 31 by omega), nI_clamp (show e < 2 ^ 31 by omega)]
    rw [h36, pn_ck hf (by omega), nI_clamp (by omega), h38, h1, if_neg (fun h => by have := (nI_eq (by omega) (by omega)).mp h; omega), nI_1, show (px_up N 38 e (nI (s + 1))) 36 e = nI f from h36, show (px_up N 38 e (nI (s + 1))) 38 e = nI (s + 1) by rw [pn_up, pn_us], show (6 : Int32) * nI f = nI (6 * f) from pk_mul 6 f, nI_add, show 6 * f + (s + 1) = (6 * f + s) + 1 by omega, nI_pred]
  rw [this]
  rfl
theorem pv_g2 {n : Nat} {N : px_M} {f l : Nat} (h52 : N 0 52 = nI 1) (hf : f < 10) (h36 : N 36 0 = nI f) (h38 : N 38 0 = nI l) (h1 : N 1 f = nI l) (h39 : pr_B (N 39 0)) : px_fx0 gR_M_run_L33 (n + 1) N = px_fx0 gR_M_run_L33 n (px_up (px_up (px_up N 0 65 (N 39 0)) 0 66 (N 40 0)) 0 52 (nI 0)) := by
  show gR_M_run_L33 (px_fx0 gR_M_run_L33 n) N = _
  have : ∀ rc : px_M → Option (Int32 × px_M), gR_M_run_L33 rc N = rc (px_up (px_up (px_up N 0 65 (N 39 0)) 0 66 (N 40 0)) 0 52 (nI 0)) := by
    intro rc
    unfold gR_M_run_L33
    simp only [px_bn]
    rw [h52, if_neg (nI_nle (by omega) (by omega)), show nI 1 - 1 = nI 0 from nI_pred 0]
    simp only [pn_ck (show 0 < 8 by omega) (show (8 : Nat) < 2 ^ 31 by omega), nI_clamp (show 0 < 2 ^ 31 by omega)]
    rw [h36, pn_ck hf (by omega), nI_clamp (by omega), h38, h1, if_pos rfl, pg_cb h39]
    have u : (px_up (px_up N 0 65 (N 39 0)) 0 66 ((px_up N 0 65 (N 39 0)) 40 0)) 0 52 = nI 1 := h52
    rw [u, show nI 1 - 1 = nI 0 from nI_pred 0]
    rw [if_pos (show (px_up (px_up (px_up N 0 65 (N 39 0)) 0 66 ((px_up N 0 65 (N 39 0)) 40 0)) 0 52 (nI 0)) 0 52 ≤ 0 by rw [pn_up, pn_us]; decide)]
    rfl
  rw [this]
theorem pv_g3 {n : Nat} {N : px_M} {e f l : Nat} (he : e + 1 < 8) (h52 : N 0 52 = nI (e + 2)) (hf : f < 10) (h36 : N 36 (e + 1) = nI f) (h38 : N 38 (e + 1) = nI l) (h1 : N 1 f = nI l) (h39 : pr_B (N 39 (e + 1))) : px_fx0 gR_M_run_L33 (n + 1) N = px_fx0 gR_M_run_L33 n (px_up (px_up (px_up (px_up (px_up N 0 65 (N 39 (e + 1))) 0 66 (N 40 (e + 1))) 0 52 (nI (e + 1))) 39 e (N 39 (e + 1))) 40 e (N 40 (e + 1))) := by
  show gR_M_run_L33 (px_fx0 gR_M_run_L33 n) N = _
  have : ∀ rc : px_M → Option (Int32 × px_M), gR_M_run_L33 rc N = rc (px_up (px_up (px_up (px_up (px_up N 0 65 (N 39 (e + 1))) 0 66 (N 40 (e + 1))) 0 52 (nI (e + 1))) 39 e (N 39 (e + 1))) 40 e (N 40 (e + 1))) := by
    intro rc
    unfold gR_M_run_L33
    simp only [px_bn]
    rw [h52, if_neg (nI_nle (by omega) (by omega)), show nI (e + 2) - 1 = nI (e + 1) from nI_pred (e + 1)]
    simp only [pn_ck he (show (8 : Nat) < 2 ^ 31 by omega), nI_clamp (show e + 1 < 2 ^ 31 by omega)]
    rw [h36, pn_ck hf (by omega), nI_clamp (by omega), h38, h1, if_pos rfl, pg_cb h39]
    have u : (px_up (px_up N 0 65 (N 39 (e + 1))) 0 66 ((px_up N 0 65 (N 39 (e + 1))) 40 (e + 1))) 0 52 = nI (e + 2) := h52
    rw [u, show nI (e + 2) - 1 = nI (e + 1) from nI_pred (e + 1)]
    rw [show (px_up N 0 65 (N 39 (e + 1))) 40 (e + 1) = N 40 (e + 1) from rfl]
    have v : (px_up (px_up (px_up N 0 65 (N 39 (e + 1))) 0 66 (N 40 (e + 1))) 0 52 (nI (e + 1))) 0 52 = nI (e + 1) := by rw [pn_up, pn_us]
    have v65 : (px_up (px_up (px_up N 0 65 (N 39 (e + 1))) 0 66 (N 40 (e + 1))) 0 52 (nI (e + 1))) 0 65 = N 39 (e + 1) := by
      rw [pv_ui (Or.inr (by omega)), pv_ui (Or.inr (by omega)), pn_up, pn_us]
    rw [v, if_neg (nI_nle (by omega) (by omega)), nI_pred, v65, pg_cb h39]
    simp only [pn_ck (show e < 8 by omega) (show (8 : Nat) < 2 ^ 31 by omega), nI_clamp (show e < 2 ^ 31 by omega)]
    have y : (px_up (px_up (px_up (px_up N 0 65 (N 39 (e + 1))) 0 66 (N 40 (e + 1))) 0 52 (nI (e + 1))) 39 e (N 39 (e + 1))) 0 52 = nI (e + 1) := by
      rw [pv_ui (Or.inl (by omega)), pn_up, pn_us]
    have y66 : (px_up (px_up (px_up (px_up N 0 65 (N 39 (e + 1))) 0 66 (N 40 (e + 1))) 0 52 (nI (e + 1))) 39 e (N 39 (e + 1))) 0 66 = N 40 (e + 1) := by
      rw [pv_ui (Or.inl (by omega)), pv_ui (Or.inr (by omega)), pn_up, pn_us]
    rw [y, nI_pred, y66]
    simp only [pn_ck (show e < 8 by omega) (show (8 : Nat) < 2 ^ 31 by omega), nI_clamp (show e < 2 ^ 31 by omega)]
  rw [this]
theorem pv_k_s {e : Nat} {M N M' N' : px_M} (h : pv_k (e + 1) M N M' N') : pv_k e M N M' N' :=
  ⟨h.1, h.2.1, h.2.2.1, h.2.2.2.1, fun a ha i hi hc => h.2.2.2.2 a ha i (by omega) (fun _ => by omega)⟩
def pv_ok (e np' cost : Nat) (M' N N' : px_M) : Prop := M' 0 15 = 0 ∧ N' 0 52 = nI e ∧ N' 0 63 = 0 ∧ N' 0 65 = M' 0 16 ∧ N' 0 66 = M' 0 17 ∧ (∀ e', e = e' + 1 → N' 39 e' = M' 0 16 ∧ N' 40 e' = M' 0 17) ∧ pr_B (M' 0 16) ∧ (M' 0 16 = 1 → ∃ p, p < np' ∧ M' 0 17 = nI p) ∧ ∀ n, px_fx0 gR_M_run_L33 (n + cost) N = px_fx0 gR_M_run_L33 n N'
def pv_fl (e cost : Nat) (M' N N' : px_M) : Prop := M' 0 15 = 1 ∧ N' 0 52 = nI (e + 1) ∧ N' 0 63 = 1 ∧ N' 0 64 = M' 0 17 ∧ N' 41 e = N 41 e ∧ N' 42 e = N 42 e ∧ ∃ m, e + 2 ≤ m ∧ ∀ n, px_fx0 gR_M_run_L33 (n + cost) N = pv_U n m N'
/-- how a run at the place e ends -/
def pv_out (j K w z np e c B : Nat) (tk : List Int32) (M N : px_M) (oc : Option px_M) : Prop := ∃ (M' N' : px_M) (np' c' cost : Nat), oc = some M' ∧ np ≤ np' ∧ c ≤ c' ∧ c' ≤ 30 ∧ cost ≤ B + 7 * (c' - c) ∧ pr_I j (K + cost) w z np' tk M' N' ∧ pv_k e M N M' N' ∧ M' 0 13 = nI c' ∧ N' 0 61 = nI c' ∧ (pv_ok e np' cost M' N N' ∨ pv_fl e cost M' N N')
/-- how a step at the place e ends -/
def pv_st (j K w z np e c s : Nat) (tk : List Int32) (M N : px_M) (oc : Option px_M) : Prop := ∃ (M' N' : px_M) (np' c' cost : Nat), oc = some M' ∧ np ≤ np' ∧ c ≤ c' ∧ c' ≤ 30 ∧ cost ≤ 1 + 7 * (c' - c) ∧ pr_I j (K + cost) w z np' tk M' N' ∧ pv_k e M N M' N' ∧ N' 36 e = N 36 e ∧ N' 37 e = N 37 e ∧ N' 38 e = nI (s + 1) ∧ N' 41 e = N 41 e ∧ N' 42 e = N 42 e ∧ ((pv_S np' e c' M' N' ∧ ∀ n, px_fx0 gR_M_run_L33 (n + cost) N = px_fx0 gR_M_run_L33 n N') ∨ (pv_X e c' M' N' ∧ ∃ m, e + 2 ≤ m ∧ ∀ n, px_fx0 gR_M_run_L33 (n + cost) N = pv_U n m N'))
theorem pv_38 (e : Nat) (M N : px_M) (v : Int32) : pv_k e M N M (px_up N 38 e v) :=
  ⟨fun _ _ _ _ _ => rfl, fun _ _ => rfl, rfl, fun a _ _ => by rw [pn_un (by omega)], fun a _ i hi _ => by rw [pv_ui (Or.inr (by omega))]⟩
theorem pv_st_one {j K w z np e c s f l : Nat} {tk : List Int32} {M N : px_M} {oc : Option px_M} (he : e < 6) (h52 : N 0 52 = nI (e + 1)) (hf : f < 10) (h36 : N 36 e = nI f) (h38 : N 38 e = nI s) (h1 : N 1 f = nI l) (hs : s < l) (hl : l ≤ 6) (hc : c ≤ 30) (h : pv_one j (K + 1) w z np e c tk M (px_up N 38 e (nI (s + 1))) oc (fR_M_doStep (px_up N 38 e (nI (s + 1))) (nI (6 * f + s)))) : pv_st j K w z np e c s tk M N oc := by
  obtain ⟨M', N', np', a1, a2, a3, a4, a5, a6⟩ := h
  have g : ∀ n, px_fx0 gR_M_run_L33 (n + 1) N = if N' 0 63 = 0 then px_fx0 gR_M_run_L33 n N' else pv_U n 8 N' := fun n => by
    rw [pv_g1 (by omega) h52 hf h36 h38 h1 hs hl, a2]
    rfl
  have k5 := a5.2.2.2.2.1
  refine ⟨M', N', np', c, 1, a1, a3, Nat.le_refl _, hc, by omega, a4, pv_k_t (pv_38 e M N _) (pv_s_k a5), ?_, ?_, ?_, ?_, ?_, ?_⟩
  · rw [k5 36 (by omega) (by omega) (by omega)]; rfl
  · rw [k5 37 (by omega) (by omega) (by omega)]; rfl
  · rw [k5 38 (by omega) (by omega) (by omega), pn_up, pn_us]
  · rw [k5 41 (by omega) (by omega) (by omega)]; rfl
  · rw [k5 42 (by omega) (by omega) (by omega)]; rfl
  · rcases a6 with a6 | a6
    · exact Or.inl ⟨a6, fun n => by rw [g n, if_pos a6.2.1]⟩
    · refine Or.inr ⟨a6, 8, by omega, fun n => by rw [g n, if_neg (by rw [a6.2.1]; decide)]⟩
/-- back from a run at the place e + 1 -/
theorem pv_ret {j K w z np np1 e c c1 s d : Nat} {tk : List Int32} {M N M1 N1 : px_M} {oc : Option px_M} (he : e < 5) (h : pv_out j (K + d) w z np1 (e + 1) c1 7 tk M1 N1 oc) (hnp : np ≤ np1) (hc : c < c1) (hd : d + 7 ≤ 1 + 7 * (c1 - c)) (hk : pv_k e M N M1 N1) (h36 : N1 36 e = N 36 e) (h37 : N1 37 e = N 37 e) (h38 : N1 38 e = nI (s + 1)) (h41 : N1 41 e = N 41 e) (h42 : N1 42 e = N 42 e) (hkind : N1 41 (e + 1) ≠ 2 ∨ ∃ M', oc = some M' ∧ M' 0 15 = 0) (hG : ∀ n, px_fx0 gR_M_run_L33 (n + d) N = px_fx0 gR_M_run_L33 n N1) : pv_st j K w z np e c s tk M N oc := by
  obtain ⟨M', N', np', c', cost, a1, a2, a3, a4, a5, a6, a7, a8, a9, a10⟩ := h
  have k5 := a7.2.2.2.2
  rcases a10 with ⟨o1, o2, o3, o4, o5, o6, o7, o8, o9⟩ | ⟨o1, o2, o3, o4, o5, o6, m, o7, o8⟩
  · obtain ⟨y1, y2⟩ := o6 e rfl
    refine ⟨M', N', np', c', d + cost, a1, by omega, by omega, a4, by omega, by rw [← Nat.add_assoc]; exact a6, pv_k_t hk (pv_k_s a7), ?_, ?_, ?_, ?_, ?_, Or.inl ⟨⟨o1, o3, o2, a8, a9, y1.symm, y2.symm, o7, o8⟩, fun n => ?_⟩⟩
    · rw [k5 36 (by omega) e (by omega) (by omega), h36]
    · rw [k5 37 (by omega) e (by omega) (by omega), h37]
    · rw [k5 38 (by omega) e (by omega) (by omega), h38]
    · rw [k5 41 (by omega) e (by omega) (by omega), h41]
    · rw [k5 42 (by omega) e (by omega) (by omega), h42]
    · rw [show n + (d + cost) = (n + cost) + d by omega, hG, o9]
  · have hk2 : N' 41 (e + 1) ≠ 2 := by
      rw [o5]
      rcases hkind with h | ⟨M2, b1, b2⟩
      · exact h
      · rw [a1] at b1
        injection b1 with b1
        subst b1
        rw [o1] at b2
        exact absurd b2 (by decide)
    obtain ⟨m, rfl⟩ : ∃ m', m = m' + 1 := ⟨m - 1, by omega⟩
    refine ⟨M', px_up N' 0 52 (nI (e + 1)), np', c', d + cost, a1, by omega, by omega, a4, by omega, ?_, pv_k_t (pv_k_t hk (pv_k_s a7)) ⟨fun _ _ _ _ _ => rfl, fun i hi => by rw [pv_ui (Or.inr (by omega))], rfl, fun a _ _ => by rw [pn_un (by omega)], fun a _ i _ _ => by rw [pn_un (by omega)]⟩, ?_, ?_, ?_, ?_, ?_, Or.inr ⟨⟨o1, ?_, ?_, a8, ?_, ?_⟩, m, by omega, fun n => ?_⟩⟩
    · rw [← Nat.add_assoc]
      exact pc_I a6 (fun _ _ => rfl) (fun _ _ => rfl) (fun k k0 _ => by rw [pn_un k0]) (fun i _ i2 _ => by rw [pv_ui (Or.inr i2)])
    · rw [pn_un (by omega), k5 36 (by omega) e (by omega) (by omega), h36]
    · rw [pn_un (by omega), k5 37 (by omega) e (by omega) (by omega), h37]
    · rw [pn_un (by omega), k5 38 (by omega) e (by omega) (by omega), h38]
    · rw [pn_un (by omega), k5 41 (by omega) e (by omega) (by omega), h41]
    · rw [pn_un (by omega), k5 42 (by omega) e (by omega) (by omega), h42]
    · rw [pv_ui (Or.inr (by omega)), o3]
    · rw [pn_up, pn_us]
    · rw [pv_ui (Or.inr (by omega)), a9]
    · rw [pv_ui (Or.inr (by omega)), o4]
    · rw [show n + (d + cost) = (n + cost) + d by omega, hG, o8, pv_U1 (by omega) o2 hk2]
/-- the class's loop of a run -/
def pv_body (k e : Nat) (M : px_M) (f : Nat) (x : Int32) : Option px_M := px_bq (fC_Functions_length M (nI f)) (fun r7 => px_fx5 (gC_run_L29 (px_fx3 fC_runF k)) 7 M (nI f) x (nI (e + 1)) r7 0)
def pv_Run (k e : Nat) : Prop := ∀ (j K w z np c f : Nat) (tk : List Int32) (x : Int32) (M N : px_M), pr_I j K w z np tk M N → K + 7 * (31 - c) + 7 < 2 ^ 31 → c ≤ 30 → pv_S np e c M N → f < 10 → N 36 e = nI f → N 37 e = x → N 38 e = 0 → pv_out j K w z np e c 7 tk M N (pv_body k e M f x)
theorem pv_runC {k e c f : Nat} {M : px_M} {x : Int32} (he : e < 5) (h13 : M 0 13 = nI c) : px_fx3 fC_runF (k + 1) M (nI f) x (nI (e + 2)) = pv_body k (e + 1) (px_up (px_up (px_up (px_up M 0 13 (nI (c + 1))) 0 15 0) 0 16 0) 0 17 0) f x := by
  show fC_runF (px_fx3 fC_runF k) M (nI f) x (nI (e + 2)) = _
  unfold fC_runF fC_countRun fC_endWith
  rw [if_neg (show ¬ nI (e + 2) = 1 from fun h => by have := (nI_eq (b := 1) (by omega) (by omega)).mp h; omega), h13, nI_1]
  rfl
theorem pv_go {k e : Nat} (H : pv_Run k (e + 1)) (he : e < 5) {j K w z np c f : Nat} {tk : List Int32} {M N : px_M} (hI : pr_I j K w z np tk M N) (hK : K + 7 * (31 - (c + 1)) + 7 < 2 ^ 31) (hc : c < 30) (h13 : M 0 13 = nI c) (h61 : N 0 61 = nI (c + 1)) (h63 : N 0 63 = 0) (hf : f < 10) (x kd hd : Int32) : pv_out j K w z np (e + 1) (c + 1) 7 tk M (pv_bg N (e + 1) (nI f) x kd hd) (px_fx3 fC_runF (k + 1) M (nI f) x (nI (e + 2))) := by
  rw [pv_runC he h13]
  obtain ⟨b1, b2, b3, b4, b5, b6, b7⟩ := pv_bge N (e + 1) (nI f) x kd hd
  have m13 : (px_up (px_up (px_up (px_up M 0 13 (nI (c + 1))) 0 15 0) 0 16 0) 0 17 0) 0 13 = nI (c + 1) := by
    rw [pv_ui (Or.inr (by omega)), pv_ui (Or.inr (by omega)), pv_ui (Or.inr (by omega)), pn_up, pn_us]
  have m15 : (px_up (px_up (px_up (px_up M 0 13 (nI (c + 1))) 0 15 0) 0 16 0) 0 17 0) 0 15 = 0 := by
    rw [pv_ui (Or.inr (by omega)), pv_ui (Or.inr (by omega)), pn_up, pn_us]
  have m16 : (px_up (px_up (px_up (px_up M 0 13 (nI (c + 1))) 0 15 0) 0 16 0) 0 17 0) 0 16 = 0 := by
    rw [pv_ui (Or.inr (by omega)), pn_up, pn_us]
  have m17 : (px_up (px_up (px_up (px_up M 0 13 (nI (c + 1))) 0 15 0) 0 16 0) 0 17 0) 0 17 = 0 := by
    rw [pn_up, pn_us]
  have key : ∀ i, i ≠ 13 → i ≠ 15 → i ≠ 16 → i ≠ 17 → (px_up (px_up (px_up (px_up M 0 13 (nI (c + 1))) 0 15 0) 0 16 0) 0 17 0) 0 i = M 0 i := fun i i1 i2 i3 i4 => by
    rw [pv_ui (Or.inr i4), pv_ui (Or.inr i3), pv_ui (Or.inr i2), pv_ui (Or.inr i1)]
  have I2 : pr_I j K w z np tk (px_up (px_up (px_up (px_up M 0 13 (nI (c + 1))) 0 15 0) 0 16 0) 0 17 0) (pv_bg N (e + 1) (nI f) x kd hd) :=
    pc_I hI (fun k k0 => by rw [pn_un k0, pn_un k0, pn_un k0, pn_un k0]) (fun i hi => key i (by omega) (by omega) (by omega) (by omega)) (fun k k0 k1 => pv_bgl k0 k1) (fun i _ i2 _ => pv_bg0 i2)
  obtain ⟨M', N', np', c', cost, a1, a2, a3, a4, a5, a6, a7, a8⟩ := H j K w z np (c + 1) f tk x _ _ I2 hK (by omega) ⟨m15, by rw [pv_bg0 (by omega), h63], pv_bg52, m13, by rw [pv_bg0 (by omega), h61], by rw [m16, b4], by rw [m17, b5], Or.inl m16, fun h => by rw [m16] at h; exact absurd h (by decide)⟩ hf b1 b2 b3
  exact ⟨M', N', np', c', cost, a1, a2, a3, a4, a5, a6, ⟨fun i i1 i2 i3 i4 => (a7.1 i i1 i2 i3 i4).trans (key i i1 i2 i3 i4), a7.2⟩, a8⟩
theorem pv_n0 {N : px_M} {e c : Nat} (h52 : N 0 52 = nI (e + 1)) (h61 : N 0 61 = nI c) (h : e = 5 ∨ c = 30) (a k b : Int32) : fR_M_nest N a k b = some (px_up (px_up N 0 63 1) 0 64 (-1)) := by
  unfold fR_M_nest
  rw [h52, h61]
  rcases h with rfl | rfl
  · rw [if_pos (show nI (5 + 1) = (6 : Int32) by decide), pd_bq]
    rfl
  · rw [if_pos (show nI 30 = (30 : Int32) by decide), pd_bq, ite_self]
    rfl
theorem pv_n1 {N : px_M} {e c : Nat} (h52 : N 0 52 = nI (e + 1)) (h61 : N 0 61 = nI c) (he : e < 5) (hc : c < 30) (a k b : Int32) : fR_M_nest N a k b = some (pv_bg (px_up N 0 61 (nI (c + 1))) (e + 1) a (N 37 e) k b) := by
  unfold fR_M_nest
  simp only [px_bn]
  rw [h52, h61, if_neg (show ¬ nI (e + 1) = (6 : Int32) from fun h => by have := (nI_eq (b := 6) (by omega) (by omega)).mp h; omega), if_neg (show ¬ nI c = (30 : Int32) from fun h => by have := (nI_eq (b := 30) (by omega) (by omega)).mp h; omega), nI_1]
  have u : (px_up N 0 61 (nI (c + 1))) 0 52 = nI (e + 1) := by rw [pv_ui (Or.inr (by omega)), h52]
  rw [u, nI_pred, pn_ck (by omega) (by omega), nI_clamp (by omega), pd_bq, pv_begin (by omega) u]
  rfl
theorem pv_c0 {M : px_M} {e c : Nat} (h13 : M 0 13 = nI c) (h : e = 5 ∨ c = 30) : fC_mayCall M (nI (e + 1)) = some 0 := by
  unfold fC_mayCall
  rcases h with rfl | rfl
  · rw [if_pos (show (6 : Int32) ≤ nI (5 + 1) by decide)]
  · rw [h13, if_pos (show (30 : Int32) ≤ nI 30 by decide), ite_self]
theorem pv_c1 {M : px_M} {e c : Nat} (h13 : M 0 13 = nI c) (he : e < 5) (hc : c < 30) : fC_mayCall M (nI (e + 1)) = some 1 := by
  unfold fC_mayCall
  rw [if_neg (show ¬ (6 : Int32) ≤ nI (e + 1) from nI_ge (b := 6) (by omega) (by omega)), h13, if_neg (show ¬ (30 : Int32) ≤ nI c from nI_ge (b := 30) (by omega) (by omega))]
theorem pv_bgk {e : Nat} {M N P : px_M} (a x k b : Int32) (h0 : ∀ i, i ≠ 52 → i ≠ 61 → i ≠ 63 → P 0 i = N 0 i) (h : ∀ a, a ≠ 0 → P a = N a) : pv_k e M N M (pv_bg P (e + 1) a x k b) ∧ ∀ r, r ≠ 0 → pv_bg P (e + 1) a x k b r e = N r e := by
  refine ⟨⟨fun _ _ _ _ _ => rfl, fun i hi => by rw [pv_bg0 (by omega), h0 i (by omega) (by omega) (by omega)], by rw [pv_bgl (by omega) (by omega), h _ (by omega)], fun r _ _ => by rw [pv_bgl (by omega) (by omega), h _ (by omega)], fun r hr i hi _ => by rw [pv_bgi (by omega) (by omega), h _ (by omega)]⟩, fun r hr => by rw [pv_bgi hr (by omega), h _ hr]⟩
/-- the place of a step: the frame e of the function f stands at s -/
def pv_at (e f s l : Nat) (x : Int32) (N : px_M) : Prop := f < 10 ∧ N 36 e = nI f ∧ N 37 e = x ∧ N 38 e = nI s ∧ N 1 f = nI l ∧ s < l ∧ l ≤ 6
theorem pv_nofail {j K w z np e c s f l : Nat} {tk : List Int32} {M N : px_M} {x : Int32} (he : e < 6) (hI : pr_I j K w z np tk M N) (hS : pv_S np e c M N) (hc : c ≤ 30) (ha : pv_at e f s l x N) {v : Int32} (hd : fR_M_doStep (px_up N 38 e (nI (s + 1))) (nI (6 * f + s)) = some (px_up (px_up (px_up N 38 e (nI (s + 1))) 0 63 1) 0 64 v)) : pv_st j K w z np e c s tk M N (some (px_up (px_up M 0 15 1) 0 17 v)) := by
  obtain ⟨a1, a2, a3, a4, a5, a6, a7⟩ := ha
  refine pv_st_one he hS.2.2.1 a1 a2 a4 a5 a6 a7 hc ?_
  refine pv_of (pr_I_mono (pc_I hI (fun _ _ => rfl) (fun _ _ => rfl) (fun k _ _ => by rw [pn_un (by omega)]) (fun _ _ _ _ => rfl)) (Nat.le_succ K) (Nat.le_refl w)) ?_ (Or.inr ⟨v, rfl, hd⟩)
  exact hS
theorem pv_g1s {e f s l : Nat} {N N1 : px_M} {x : Int32} (he : e < 6) (h52 : N 0 52 = nI (e + 1)) (ha : pv_at e f s l x N) (hd : fR_M_doStep (px_up N 38 e (nI (s + 1))) (nI (6 * f + s)) = some N1) (h63 : N1 0 63 = 0) (n : Nat) : px_fx0 gR_M_run_L33 (n + 1) N = px_fx0 gR_M_run_L33 n N1 := by
  obtain ⟨a1, a2, a3, a4, a5, a6, a7⟩ := ha
  rw [pv_g1 (by omega) h52 a1 a2 a4 a5 a6 a7, hd]
  exact if_pos h63
theorem pv_call {k e : Nat} (H : ∀ k', k = k' + 1 → pv_Run k' (e + 1)) (hke : k + e = 5) {j K w z np c s f l g : Nat} {tk : List Int32} {M N : px_M} {x : Int32} (hI : pr_I j K w z np tk M N) (hK : K + 7 * (31 - c) + 2 < 2 ^ 31) (hS : pv_S np e c M N) (hc : c ≤ 30) (ha : pv_at e f s l x N) (hg : g < 10) (hd : fR_M_doStep (px_up N 38 e (nI (s + 1))) (nI (6 * f + s)) = fR_M_nest (px_up N 38 e (nI (s + 1))) (nI g) 1 0) : pv_st j K w z np e c s tk M N (fC_callStep (px_fx3 fC_runF k) M (nI g) x (nI (e + 1))) := by
  have hS' := hS
  obtain ⟨s1, s2, s3, s4, s5, s6⟩ := hS
  have ha' := ha
  obtain ⟨a1, a2, a3, a4, a5, a6, a7⟩ := ha
  unfold fC_callStep
  by_cases cc : e = 5 ∨ c = 30
  · rw [pv_c0 s4 cc]
    rw [pv_n0 (show (px_up N 38 e (nI (s + 1))) 0 52 = nI (e + 1) from s3) (show (px_up N 38 e (nI (s + 1))) 0 61 = nI c from s5) cc] at hd
    exact pv_nofail (by omega) hI hS' hc ha' hd
  · obtain ⟨k', rfl⟩ : ∃ k', k = k' + 1 := ⟨k - 1, by omega⟩
    have he : e < 5 := by omega
    have hc1 : c < 30 := by omega
    rw [pv_c1 s4 he hc1]
    rw [pv_n1 (show (px_up N 38 e (nI (s + 1))) 0 52 = nI (e + 1) from s3) (show (px_up N 38 e (nI (s + 1))) 0 61 = nI c from s5) he hc1, show (px_up N 38 e (nI (s + 1))) 37 e = x from a3] at hd
    rw [pi_bq, if_neg (show ¬ (1 : Int32) = 0 by decide), nI_1, pd_bq]
    have o := pv_go (H k' rfl) he (j := j) (K := K + 1) (w := w) (z := z) (np := np) (tk := tk) (M := M) (N := px_up (px_up N 38 e (nI (s + 1))) 0 61 (nI (c + 1))) (pr_I_mono (pc_I hI (fun _ _ => rfl) (fun _ _ => rfl) (fun k k0 _ => by rw [pn_un k0, pn_un (by omega)]) (fun i _ _ hi => by rw [pv_ui (Or.inr (by omega))]; rfl)) (Nat.le_succ K) (Nat.le_refl w)) (by omega) hc1 s4 (by rw [pn_up, pn_us]) (by rw [pv_ui (Or.inr (by omega))]; exact s2) hg x 1 0
    obtain ⟨q1, q2⟩ := pv_bgk (e := e) (M := M) (N := px_up N 38 e (nI (s + 1))) (P := px_up (px_up N 38 e (nI (s + 1))) 0 61 (nI (c + 1))) (nI g) x 1 0 (fun i _ i2 _ => by rw [pv_ui (Or.inr i2)]) (fun a h0 => by rw [pn_un h0])
    refine pv_ret he o (Nat.le_refl _) (by omega) (by omega) (pv_k_t (pv_38 e M N _) q1) ?_ ?_ ?_ ?_ ?_ (Or.inl ?_) (pv_g1s (by omega) s3 ha' hd ?_)
    · rw [q2 36 (by omega)]; rfl
    · rw [q2 37 (by omega)]; rfl
    · rw [q2 38 (by omega), pn_up, pn_us]
    · rw [q2 41 (by omega)]; rfl
    · rw [q2 42 (by omega)]; rfl
    · rw [(pv_bge _ (e + 1) (nI g) x 1 0).2.2.2.2.2.1]; decide
    · rw [pv_bg0 (by omega), pv_ui (Or.inr (by omega))]; exact s2
theorem pv_try {k e : Nat} (H : ∀ k', k = k' + 1 → pv_Run k' (e + 1)) (hke : k + e = 5) {j K w z np c s f l g hh : Nat} {tk : List Int32} {M N : px_M} {x : Int32} (hI : pr_I j K w z np tk M N) (hK : K + 7 * (31 - c) + 2 < 2 ^ 31) (hS : pv_S np e c M N) (hc : c ≤ 30) (ha : pv_at e f s l x N) (hg : g < 10) (hhh : hh < 10) (hd : fR_M_doStep (px_up N 38 e (nI (s + 1))) (nI (6 * f + s)) = fR_M_nest (px_up N 38 e (nI (s + 1))) (nI g) 2 (nI hh)) : pv_st j K w z np e c s tk M N (fC_tryStep (px_fx3 fC_runF k) M (nI g) (nI hh) x (nI (e + 1))) := by
  have hS' := hS
  obtain ⟨s1, s2, s3, s4, s5, s6⟩ := hS
  have ha' := ha
  obtain ⟨a1, a2, a3, a4, a5, a6, a7⟩ := ha
  unfold fC_tryStep
  by_cases cc : e = 5 ∨ c = 30
  · rw [pv_c0 s4 cc]
    rw [pv_n0 (show (px_up N 38 e (nI (s + 1))) 0 52 = nI (e + 1) from s3) (show (px_up N 38 e (nI (s + 1))) 0 61 = nI c from s5) cc] at hd
    exact pv_nofail (by omega) hI hS' hc ha' hd
  · obtain ⟨k', rfl⟩ : ∃ k', k = k' + 1 := ⟨k - 1, by omega⟩
    have he : e < 5 := by omega
    have hc1 : c < 30 := by omega
    rw [pv_c1 s4 he hc1]
    rw [pv_n1 (show (px_up N 38 e (nI (s + 1))) 0 52 = nI (e + 1) from s3) (show (px_up N 38 e (nI (s + 1))) 0 61 = nI c from s5) he hc1, show (px_up N 38 e (nI (s + 1))) 37 e = x from a3] at hd
    rw [pi_bq, if_neg (show ¬ (1 : Int32) = 0 by decide), nI_1]
    have o := pv_go (H k' rfl) he (j := j) (K := K + 1) (w := w) (z := z) (np := np) (tk := tk) (M := M) (N := px_up (px_up N 38 e (nI (s + 1))) 0 61 (nI (c + 1))) (pr_I_mono (pc_I hI (fun _ _ => rfl) (fun _ _ => rfl) (fun k k0 _ => by rw [pn_un k0, pn_un (by omega)]) (fun i _ _ hi => by rw [pv_ui (Or.inr (by omega))]; rfl)) (Nat.le_succ K) (Nat.le_refl w)) (by omega) hc1 s4 (by rw [pn_up, pn_us]) (by rw [pv_ui (Or.inr (by omega))]; exact s2) hg x 2 (nI hh)
    obtain ⟨q1, q2⟩ := pv_bgk (e := e) (M := M) (N := px_up N 38 e (nI (s + 1))) (P := px_up (px_up N 38 e (nI (s + 1))) 0 61 (nI (c + 1))) (nI g) x 2 (nI hh) (fun i _ i2 _ => by rw [pv_ui (Or.inr i2)]) (fun a h0 => by rw [pn_un h0])
    have q3 := (pv_bge (px_up (px_up N 38 e (nI (s + 1))) 0 61 (nI (c + 1))) (e + 1) (nI g) x 2 (nI hh)).2.2.2.2.2
    have hG := pv_g1s (by omega) s3 ha' hd (by rw [pv_bg0 (by omega), pv_ui (Or.inr (by omega))]; exact s2)
    generalize pv_bg (px_up (px_up N 38 e (nI (s + 1))) 0 61 (nI (c + 1))) (e + 1) (nI g) x 2 (nI hh) = N1 at o q1 q2 q3 hG
    have r36 : N1 36 e = N 36 e := by rw [q2 36 (by omega)]; rfl
    have r37 : N1 37 e = N 37 e := by rw [q2 37 (by omega)]; rfl
    have r38 : N1 38 e = nI (s + 1) := by rw [q2 38 (by omega), pn_up, pn_us]
    have r41 : N1 41 e = N 41 e := by rw [q2 41 (by omega)]; rfl
    have r42 : N1 42 e = N 42 e := by rw [q2 42 (by omega)]; rfl
    have hk := pv_k_t (pv_38 e M N _) q1
    have o' := o
    obtain ⟨M5, N', np', c', cost, b1, b2, b3, b4, b5, b6, b7, b8, b9, b10⟩ := o
    rw [b1]
    rw [b1] at o'
    show pv_st j K w z np e c s tk M N (if (M5 0 15) = 0 then some M5 else px_bq (fC_callStep (px_fx3 fC_runF (k' + 1)) M5 (nI hh) (M5 0 17) (nI (e + 1))) (fun M8 => some M8))
    rcases b10 with b10 | ⟨o1, o2, o3, o4, o5, o6, m, o7, o8⟩
    · rw [if_pos b10.1]
      exact pv_ret he o' (Nat.le_refl _) (by omega) (by omega) hk r36 r37 r38 r41 r42 (Or.inr ⟨M5, rfl, b10.1⟩) hG
    · rw [if_neg (by rw [o1]; decide), pd_bq]
      have k5 := b7.2.2.2.2
      have t36 : N' 36 e = N 36 e := by rw [k5 36 (by omega) e (by omega) (by omega), r36]
      have t37 : N' 37 e = N 37 e := by rw [k5 37 (by omega) e (by omega) (by omega), r37]
      have t38 : N' 38 e = nI (s + 1) := by rw [k5 38 (by omega) e (by omega) (by omega), r38]
      have t41 : N' 41 e = N 41 e := by rw [k5 41 (by omega) e (by omega) (by omega), r41]
      have t42 : N' 42 e = N 42 e := by rw [k5 42 (by omega) e (by omega) (by omega), r42]
      have hk' := pv_k_t hk (pv_k_s b7)
      have hkd : N' 41 (e + 1) = 2 := by rw [o5, q3.1]
      obtain ⟨m, rfl⟩ : ∃ m', m = m' + 1 := ⟨m - 1, by omega⟩
      unfold fC_callStep
      by_cases c30 : c' = 30
      · subst c30
        rw [pv_c0 b8 (Or.inr rfl)]
        show pv_st j K w z np e c s tk M N (some (px_up (px_up M5 0 15 1) 0 17 (-1)))
        refine ⟨_, px_up (px_up N' 0 52 (nI (e + 1))) 0 64 (-1), np', 30, 1 + cost, rfl, b2, by omega, by omega, by omega, ?_, pv_k_t hk' ⟨fun i _ i2 _ i4 => ?_, fun i hi => ?_, rfl, fun a _ _ => ?_, fun a _ i _ _ => ?_⟩, t36, t37, t38, t41, t42, Or.inr ⟨⟨?_, ?_, ?_, ?_, ?_, ?_⟩, m, by omega, fun n => ?_⟩⟩
        · rw [← Nat.add_assoc]
          exact pc_I b6 (fun k k0 => by rw [pn_un k0, pn_un k0]) (fun i hi => by rw [pv_ui (Or.inr (by omega)), pv_ui (Or.inr (by omega))]) (fun k k0 _ => by rw [pn_un k0, pn_un k0]) (fun i _ i2 i3 => by rw [pv_ui (Or.inr (by omega)), pv_ui (Or.inr (by omega))])
        · rw [pv_ui (Or.inr i4), pv_ui (Or.inr i2)]
        · rw [pv_ui (Or.inr (by omega)), pv_ui (Or.inr (by omega))]
        · rw [pn_un (by omega), pn_un (by omega)]
        · rw [pn_un (by omega), pn_un (by omega)]
        · rw [pv_ui (Or.inr (by omega)), pn_up, pn_us]
        · rw [pv_ui (Or.inr (by omega)), pv_ui (Or.inr (by omega)), o3]
        · rw [pv_ui (Or.inr (by omega)), pn_up, pn_us]
        · rw [pv_ui (Or.inr (by omega)), pv_ui (Or.inr (by omega)), b8]
        · rw [pv_ui (Or.inr (by omega)), pv_ui (Or.inr (by omega)), b9]
        · rw [pn_up, pn_us, pn_up, pn_us]
        · rw [show n + (1 + cost) = (n + cost) + 1 by omega, hG, o8, pv_U3 (by omega) o2 hkd b9]
      · have hc2 : c' < 30 := by omega
        rw [pv_c1 b8 he hc2]
        rw [pi_bq, if_neg (show ¬ (1 : Int32) = 0 by decide), nI_1, pd_bq]
        have p := pv_go (H k' rfl) he (j := j) (K := K + (1 + cost)) (w := w) (z := z) (np := np') (tk := tk) (M := M5) (N := px_up (px_up (px_up N' 0 52 (nI (e + 1))) 0 61 (nI (c' + 1))) 0 63 0) (by
          rw [← Nat.add_assoc]
          exact pc_I b6 (fun _ _ => rfl) (fun _ _ => rfl) (fun k k0 _ => by rw [pn_un k0, pn_un k0, pn_un k0]) (fun i _ i2 i3 => by rw [pv_ui (Or.inr (by omega)), pv_ui (Or.inr (by omega)), pv_ui (Or.inr (by omega))])) (by omega) hc2 b8 (by rw [pv_ui (Or.inr (by omega)), pn_up, pn_us]) (by rw [pn_up, pn_us]) hhh (M5 0 17) 3 0
        obtain ⟨v1, v2⟩ := pv_bgk (e := e) (M := M5) (N := N') (P := px_up (px_up (px_up N' 0 52 (nI (e + 1))) 0 61 (nI (c' + 1))) 0 63 0) (nI hh) (M5 0 17) 3 0 (fun i i1 i2 i3 => by rw [pv_ui (Or.inr i3), pv_ui (Or.inr i2), pv_ui (Or.inr i1)]) (fun a h0 => by rw [pn_un h0, pn_un h0, pn_un h0])
        refine pv_ret he p b2 (by omega) (by omega) (pv_k_t hk' v1) ?_ ?_ ?_ ?_ ?_ (Or.inl ?_) (fun n => ?_)
        · rw [v2 36 (by omega), t36]
        · rw [v2 37 (by omega), t37]
        · rw [v2 38 (by omega), t38]
        · rw [v2 41 (by omega), t41]
        · rw [v2 42 (by omega), t42]
        · rw [(pv_bge _ (e + 1) (nI hh) (M5 0 17) 3 0).2.2.2.2.2.1]; decide
        · rw [show n + (1 + cost) = (n + cost) + 1 by omega, hG, o8, pv_U2 (by omega) o2 hkd b9 hc2, o6, q3.2, o4]
theorem pv_kb {K c c' cost m : Nat} (h : K + 7 * (31 - c) + (m + 1) + 1 < 2 ^ 31) (h1 : c ≤ c') (h2 : c' ≤ 30) (h3 : cost ≤ 1 + 7 * (c' - c)) : K + cost + 7 * (31 - c') + m + 1 < 2 ^ 31 := by omega
theorem pv_loop {k e : Nat} (H : ∀ k', k = k' + 1 → pv_Run k' (e + 1)) (hke : k + e = 5) {j w z f l : Nat} {tk : List Int32} {x : Int32} (hf : f < 10) (hl : l ≤ 6) : ∀ (m s n K np c : Nat) (M N : px_M), s + m = l → m < n → pr_I j K w z np tk M N → K + 7 * (31 - c) + m + 1 < 2 ^ 31 → c ≤ 30 → pv_S np e c M N → N 36 e = nI f → N 37 e = x → N 38 e = nI s → N 1 f = nI l →
    pv_out j K w z np e c (m + 1) tk M N (px_fx5 (gC_run_L29 (px_fx3 fC_runF k)) n M (nI f) x (nI (e + 1)) (nI l) (nI s)) := by
  intro m
  induction m with
  | zero =>
    intro s n K np c M N hs hn hI hK hc hS h36 h37 h38 h1
    obtain ⟨n, rfl⟩ : ∃ n', n = n' + 1 := ⟨n - 1, by omega⟩
    have : s = l := by omega
    subst this
    obtain ⟨s1, s2, s3, s4, s5, s6, s7, s8, s9⟩ := hS
    have hoc : px_fx5 (gC_run_L29 (px_fx3 fC_runF k)) (n + 1) M (nI f) x (nI (e + 1)) (nI s) (nI s) = some M := by
      show gC_run_L29 (px_fx3 fC_runF k) (px_fx5 (gC_run_L29 (px_fx3 fC_runF k)) n) M (nI f) x (nI (e + 1)) (nI s) (nI s) = some M
      generalize px_fx5 (gC_run_L29 (px_fx3 fC_runF k)) n = rc
      unfold gC_run_L29
      rw [if_pos (nI_le (Nat.le_refl _) (by omega))]
    have hB : pr_B (N 39 e) := by rw [← s6]; exact s8
    rcases e with _ | e
    · refine ⟨M, px_up (px_up (px_up N 0 65 (N 39 0)) 0 66 (N 40 0)) 0 52 (nI 0), np, c, 1, hoc, Nat.le_refl _, Nat.le_refl _, hc, by omega, pr_I_mono (pc_I hI (fun _ _ => rfl) (fun _ _ => rfl) (fun k k0 _ => by rw [pn_un k0, pn_un k0, pn_un k0]) (fun i _ i2 i3 => by rw [pv_ui (Or.inr (by omega)), pv_ui (Or.inr (by omega)), pv_ui (Or.inr (by omega))])) (by omega) (Nat.le_refl _), ⟨fun _ _ _ _ _ => rfl, fun i hi => by rw [pv_ui (Or.inr (by omega)), pv_ui (Or.inr (by omega)), pv_ui (Or.inr (by omega))], rfl, fun a _ _ => by rw [pn_un (by omega), pn_un (by omega), pn_un (by omega)], fun a _ i hi _ => by omega⟩, s4, ?_, Or.inl ⟨s1, ?_, ?_, ?_, ?_, fun e' h => by omega, s8, s9, fun n => pv_g2 s3 hf h36 h38 h1 hB⟩⟩
      · rw [pv_ui (Or.inr (by omega)), pv_ui (Or.inr (by omega)), pv_ui (Or.inr (by omega)), s5]
      · rw [pn_up, pn_us]
      · rw [pv_ui (Or.inr (by omega)), pv_ui (Or.inr (by omega)), pv_ui (Or.inr (by omega)), s2]
      · rw [pv_ui (Or.inr (by omega)), pv_ui (Or.inr (by omega)), pn_up, pn_us, s6]
      · rw [pv_ui (Or.inr (by omega)), pn_up, pn_us, s7]
    · refine ⟨M, px_up (px_up (px_up (px_up (px_up N 0 65 (N 39 (e + 1))) 0 66 (N 40 (e + 1))) 0 52 (nI (e + 1))) 39 e (N 39 (e + 1))) 40 e (N 40 (e + 1)), np, c, 1, hoc, Nat.le_refl _, Nat.le_refl _, hc, by omega, pr_I_mono (pc_I hI (fun _ _ => rfl) (fun _ _ => rfl) (fun k k0 _ => by rw [pn_un (by omega), pn_un (by omega), pn_un k0, pn_un k0, pn_un k0]) (fun i _ i2 i3 => by rw [pv_ui (Or.inl (by omega)), pv_ui (Or.inl (by omega)), pv_ui (Or.inr (by omega)), pv_ui (Or.inr (by omega)), pv_ui (Or.inr (by omega))])) (by omega) (Nat.le_refl _), ⟨fun _ _ _ _ _ => rfl, fun i hi => by rw [pv_ui (Or.inl (by omega)), pv_ui (Or.inl (by omega)), pv_ui (Or.inr (by omega)), pv_ui (Or.inr (by omega)), pv_ui (Or.inr (by omega))], rfl, fun a _ _ => by rw [pn_un (by omega), pn_un (by omega), pn_un (by omega), pn_un (by omega), pn_un (by omega)], fun a _ i hi hc => by rw [pv_ui (by omega), pv_ui (by omega), pn_un (by omega), pn_un (by omega), pn_un (by omega)]⟩, s4, ?_, Or.inl ⟨s1, ?_, ?_, ?_, ?_, fun e' h => ?_, s8, s9, fun n => pv_g3 (by omega) s3 hf h36 h38 h1 hB⟩⟩
      · rw [pv_ui (Or.inl (by omega)), pv_ui (Or.inl (by omega)), pv_ui (Or.inr (by omega)), pv_ui (Or.inr (by omega)), pv_ui (Or.inr (by omega)), s5]
      · rw [pv_ui (Or.inl (by omega)), pv_ui (Or.inl (by omega)), pn_up, pn_us]
      · rw [pv_ui (Or.inl (by omega)), pv_ui (Or.inl (by omega)), pv_ui (Or.inr (by omega)), pv_ui (Or.inr (by omega)), pv_ui (Or.inr (by omega)), s2]
      · rw [pv_ui (Or.inl (by omega)), pv_ui (Or.inl (by omega)), pv_ui (Or.inr (by omega)), pv_ui (Or.inr (by omega)), pn_up, pn_us, s6]
      · rw [pv_ui (Or.inl (by omega)), pv_ui (Or.inl (by omega)), pv_ui (Or.inr (by omega)), pn_up, pn_us, s7]
      · have : e = e' := by omega
        subst this
        constructor
        · show upd (N 39) e _ e = _
          rw [pn_us, s6]
        · show upd (N 40) e _ e = _
          rw [pn_us, s7]
  | succ m ih =>
    intro s n K np c M N hs hn hI hK hc hS h36 h37 h38 h1
    obtain ⟨n, rfl⟩ : ∃ n', n = n' + 1 := ⟨n - 1, by omega⟩
    have hF : pr_F M N := by
      obtain ⟨nl, nr, made, q, ts, tm, fr, hD, hE, -⟩ := hI
      exact hE.1
    obtain ⟨f1, f2, f3, f4, f5⟩ := hF
    obtain ⟨l', l1, l2, l3⟩ := f5 f hf
    have hll : l' = l := by
      rw [f1, h1] at l2
      exact ((nI_eq (by omega) (by omega)).mp l2).symm
    subst hll
    have hk := l3 s (by omega)
    have hk' := hk
    obtain ⟨kk, y0, y1, y2, y3, y4, y5, y6⟩ := hk'
    have hat : pv_at e f s l' x N := ⟨hf, h36, h37, h38, h1, by omega, l1⟩
    have he : e < 6 := by omega
    have hst : pv_st j K w z np e c s tk M N (fC_doStep (px_fx3 fC_runF k) M (M 3 (6 * f + s)) (M 4 (6 * f + s)) (M 5 (6 * f + s)) x (nI (e + 1))) := by
      have n2 : (px_up N 38 e (nI (s + 1))) 2 (6 * f + s) = nI kk := by rw [pn_un (by omega), ← f2, y1]
      have n3 : (px_up N 38 e (nI (s + 1))) 3 (6 * f + s) = M 4 (6 * f + s) := by rw [pn_un (by omega), f3]
      have n4 : (px_up N 38 e (nI (s + 1))) 4 (6 * f + s) = M 5 (6 * f + s) := by rw [pn_un (by omega), f4]
      rw [y1]
      by_cases k7 : kk = 7
      · subst k7
        obtain ⟨g, hg, eg⟩ := y2 (by omega)
        rw [pv_dC7, eg]
        rw [eg] at n3
        exact pv_call H hke hI (by omega) hS hc hat hg (pv_dR7 (by omega) (by omega) n2 n3 n4 hS.2.2.1 h37)
      · by_cases k8 : kk = 8
        · subst k8
          obtain ⟨g, hg, eg⟩ := y2 (by omega)
          obtain ⟨g2, hg2, eg2⟩ := y5 rfl
          rw [pv_dC8, eg, eg2]
          rw [eg] at n3
          rw [eg2] at n4
          exact pv_try H hke hI (by omega) hS hc hat hg hg2 (pv_dR8 (by omega) (by omega) n2 n3 n4 hS.2.2.1 h37)
        · rw [y1] at hk
          refine pv_st_one he hS.2.2.1 hf h36 h38 h1 (by omega) l1 hc ?_
          have hI0 : pr_I j K w z np tk M (px_up N 38 e (nI (s + 1))) := pc_I hI (fun _ _ => rfl) (fun _ _ => rfl) (fun k _ _ => by rw [pn_un (by omega)]) (fun _ _ _ _ => rfl)
          have hS0 : pv_S np e c M (px_up N 38 e (nI (s + 1))) := hS
          have h370 : (px_up N 38 e (nI (s + 1))) 37 e = x := h37
          exact pv_step hI0 (by omega) hS0 (by omega) (by omega) n2 n3 n4 h370 hk (by omega) k7 k8 (px_fx3 fC_runF k) (nI (e + 1))
    have hoc : px_fx5 (gC_run_L29 (px_fx3 fC_runF k)) (n + 1) M (nI f) x (nI (e + 1)) (nI l') (nI s) = px_bq (fC_doStep (px_fx3 fC_runF k) M (M 3 (6 * f + s)) (M 4 (6 * f + s)) (M 5 (6 * f + s)) x (nI (e + 1))) (fun M17 => px_fx5 (gC_run_L29 (px_fx3 fC_runF k)) n M17 (nI f) x (nI (e + 1)) (nI l') (nI (s + 1))) := by
      show gC_run_L29 (px_fx3 fC_runF k) (px_fx5 (gC_run_L29 (px_fx3 fC_runF k)) n) M (nI f) x (nI (e + 1)) (nI l') (nI s) = _
      generalize px_fx5 (gC_run_L29 (px_fx3 fC_runF k)) n = rc
      unfold gC_run_L29
      rw [if_neg (nI_ge (by omega) (by omega)), if_pos hS.1]
      unfold fC_Functions_code fC_Functions_a fC_Functions_b
      rw [show nI f * (6 : Int32) = nI (f * 6) from pk_mul f 6, nI_add, show f * 6 + s = 6 * f + s by omega, pn_ck (by omega) (by omega), pn_ck (by omega) (by omega), pn_ck (by omega) (by omega), nI_clamp (by omega), nI_1]
      rfl
    rw [hoc]
    obtain ⟨M', N', np', c', cost, a1, a2, a3, a4, a5, a6, a7, a8, a9, a10, a11, a12, a13⟩ := hst
    rw [a1]
    show pv_out j K w z np e c (m + 1 + 1) tk M N (px_fx5 (gC_run_L29 (px_fx3 fC_runF k)) n M' (nI f) x (nI (e + 1)) (nI l') (nI (s + 1)))
    rcases a13 with ⟨b1, b2⟩ | ⟨⟨b1, b2, b3, b4, b5, b6⟩, m1, b7, b8⟩
    · obtain ⟨M2, N2, np2, c2, cost2, d1, d2, d3, d4, d5, d6, d7, d8, d9, d10⟩ := ih (s + 1) n (K + cost) np' c' M' N' (by omega) (by omega) a6 (pv_kb hK a3 a4 a5) a4 b1 (by rw [a8, h36]) (by rw [a9, h37]) a10 (by rw [a7.2.2.2.1 1 (by omega) (by omega), h1])
      refine ⟨M2, N2, np2, c2, cost + cost2, d1, by omega, by omega, d4, by omega, by rw [← Nat.add_assoc]; exact d6, pv_k_t a7 d7, d8, d9, ?_⟩
      rcases d10 with ⟨o1, o2, o3, o4, o5, o6, o7, o8, o9⟩ | ⟨o1, o2, o3, o4, o5, o6, m2, o7, o8⟩
      · exact Or.inl ⟨o1, o2, o3, o4, o5, o6, o7, o8, fun n => by rw [show n + (cost + cost2) = (n + cost2) + cost by omega, b2, o9]⟩
      · exact Or.inr ⟨o1, o2, o3, o4, by rw [o5, a11], by rw [o6, a12], m2, o7, fun n => by rw [show n + (cost + cost2) = (n + cost2) + cost by omega, b2, o8]⟩
    · have hoc2 : px_fx5 (gC_run_L29 (px_fx3 fC_runF k)) n M' (nI f) x (nI (e + 1)) (nI l') (nI (s + 1)) = some M' := by
        obtain ⟨n, rfl⟩ : ∃ n', n = n' + 1 := ⟨n - 1, by omega⟩
        show gC_run_L29 (px_fx3 fC_runF k) (px_fx5 (gC_run_L29 (px_fx3 fC_runF k)) n) M' (nI f) x (nI (e + 1)) (nI l') (nI (s + 1)) = some M'
        generalize px_fx5 (gC_run_L29 (px_fx3 fC_runF k)) n = rc
        unfold gC_run_L29
        rw [if_neg (show ¬ M' 0 15 = 0 by rw [b1]; decide), ite_self]
      exact ⟨M', N', np', c', cost, hoc2, a2, a3, a4, by omega, a6, a7, b4, b5, Or.inr ⟨b1, b3, b2, b6, a11, a12, m1, b7, b8⟩⟩
theorem pv_Run_all : ∀ k e, k + e = 5 → pv_Run k e := by
  intro k
  induction k with
  | zero =>
    intro e he j K w z np c f tk x M N hI hK hc hS hf h36 h37 h38
    have hF : pr_F M N := by
      obtain ⟨nl, nr, made, q, ts, tm, fr, hD, hE, -⟩ := hI
      exact hE.1
    obtain ⟨l, l1, l2, -⟩ := hF.2.2.2.2 f hf
    unfold pv_body fC_Functions_length
    rw [pn_ck hf (by omega), nI_clamp (by omega), l2]
    obtain ⟨M', N', np', c', cost, a1, a2, a3, a4, a5, a6⟩ := pv_loop (k := 0) (e := e) (fun k' h => by omega) he (x := x) hf l1 l 0 7 K np c M N (by omega) (by omega) hI (by omega) hc hS h36 h37 h38 (by rw [← hF.1, l2])
    exact ⟨M', N', np', c', cost, a1, a2, a3, a4, by omega, a6⟩
  | succ k ih =>
    intro e he j K w z np c f tk x M N hI hK hc hS hf h36 h37 h38
    have hF : pr_F M N := by
      obtain ⟨nl, nr, made, q, ts, tm, fr, hD, hE, -⟩ := hI
      exact hE.1
    obtain ⟨l, l1, l2, -⟩ := hF.2.2.2.2 f hf
    unfold pv_body fC_Functions_length
    rw [pn_ck hf (by omega), nI_clamp (by omega), l2]
    obtain ⟨M', N', np', c', cost, a1, a2, a3, a4, a5, a6⟩ := pv_loop (k := k + 1) (e := e) (fun k' h => by
      have : k = k' := by omega
      subst this
      exact ih (e + 1) (by omega)) he (x := x) hf l1 l 0 7 K np c M N (by omega) (by omega) hI (by omega) hc hS h36 h37 h38 (by rw [← hF.1, l2])
    exact ⟨M', N', np', c', cost, a1, a2, a3, a4, by omega, a6⟩
/-- what a whole run leaves alone -/
def pv_q (M N M' N' : px_M) : Prop := (∀ i, i ≠ 12 → i ≠ 13 → i ≠ 15 → i ≠ 16 → i ≠ 17 → M' 0 i = M 0 i) ∧ (∀ i, (i = 0 ∨ i = 30 ∨ i = 31 ∨ i = 42 ∨ i = 45 ∨ i = 46 ∨ i = 60) → N' 0 i = N 0 i) ∧ N' 33 = N 33
theorem pv_run {j K w z np b f : Nat} {tk : List Int32} {M N : px_M} (hI : pr_I j K w z np tk M N) (hK : K + 300 < 2 ^ 31) (h12 : M 0 12 = nI b) (h62 : N 0 62 = nI b) (hf : f < 10) (x : Int32) : ∃ (M' N' : px_M) (np' : Nat) (r : Int32), fC_run M (nI f) x 1 = some M' ∧ fR_M_run N (nI f) x = some (r, N') ∧ np ≤ np' ∧ pr_I j (K + 217) w z np' tk M' N' ∧ pv_q M N M' N' ∧ M' 0 12 = nI (b + 1) ∧ N' 0 62 = nI (b + 1) ∧
    ((r = 1 ∧ M' 0 15 = 0 ∧ N' 0 65 = M' 0 16 ∧ N' 0 66 = M' 0 17 ∧ pr_B (M' 0 16) ∧ (M' 0 16 = 1 → ∃ p, p < np' ∧ M' 0 17 = nI p)) ∨ (r = 0 ∧ M' 0 15 = 1 ∧ N' 0 64 = M' 0 17)) := by
  have hC : fC_run M (nI f) x 1 = pv_body 5 0 (px_up (px_up (px_up (px_up (px_up M 0 12 (nI (b + 1))) 0 13 0) 0 15 0) 0 16 0) 0 17 0) f x := by
    unfold fC_run
    show fC_runF (px_fx3 fC_runF 5) M (nI f) x 1 = _
    unfold fC_runF fC_countRun fC_endWith
    rw [if_pos rfl, h12, nI_1]
    rfl
  have hR : fR_M_run N (nI f) x = px_fx0 gR_M_run_L33 2000 (pv_bg (px_up (px_up (px_up (px_up N 0 62 (nI (b + 1))) 0 61 0) 0 52 0) 0 63 0) 0 (nI f) x 0 0) := by
    unfold fR_M_run
    simp only [px_bn]
    rw [h62, nI_1, pv_begin (e := 0) (by omega) (by
      rw [pv_ui (Or.inr (by omega)), pn_up, pn_us]; rfl)]
    rfl
  obtain ⟨b1, b2, b3, b4, b5, b6, b7⟩ := pv_bge (px_up (px_up (px_up (px_up N 0 62 (nI (b + 1))) 0 61 0) 0 52 0) 0 63 0) 0 (nI f) x 0 0
  have nz : ∀ i, i ≠ 52 → (pv_bg (px_up (px_up (px_up (px_up N 0 62 (nI (b + 1))) 0 61 0) 0 52 0) 0 63 0) 0 (nI f) x 0 0) 0 i = upd (upd (upd (N 0) 62 (nI (b + 1))) 61 0) 63 0 i := fun i hi => by
    rw [pv_bg0 hi]
    by_cases c : i = 63
    · subst c; rw [pn_up, pn_us, pn_us]
    · rw [pn_ue c, pv_ui (Or.inr c), pv_ui (Or.inr hi)]; rfl
  have mz : ∀ i, (px_up (px_up (px_up (px_up (px_up M 0 12 (nI (b + 1))) 0 13 0) 0 15 0) 0 16 0) 0 17 0) 0 i = upd (upd (upd (upd (upd (M 0) 12 (nI (b + 1))) 13 0) 15 0) 16 0) 17 0 i := fun i => rfl
  have hI2 : pr_I j K w z np tk (px_up (px_up (px_up (px_up (px_up M 0 12 (nI (b + 1))) 0 13 0) 0 15 0) 0 16 0) 0 17 0) (pv_bg (px_up (px_up (px_up (px_up N 0 62 (nI (b + 1))) 0 61 0) 0 52 0) 0 63 0) 0 (nI f) x 0 0) :=
    pc_I hI (fun k k0 => by rw [pn_un k0, pn_un k0, pn_un k0, pn_un k0, pn_un k0]) (fun i hi => by rw [mz, pn_ue (by omega), pn_ue (by omega), pn_ue (by omega), pn_ue (by omega), pn_ue (by omega)]) (fun k k0 k1 => by rw [pv_bgl k0 k1, pn_un k0, pn_un k0, pn_un k0, pn_un k0]) (fun i _ i2 i3 => by rw [nz i i2, pn_ue (by omega), pn_ue (by omega), pn_ue (by omega)])
  have hrun := pv_Run_all 5 0 rfl j K w z np 0 f tk x _ _ hI2 (by omega) (by omega) ⟨by rw [mz, pn_ue (by omega), pn_ue (by omega), pn_us], by rw [nz _ (by omega), pn_us], pv_bg52, by rw [mz, pn_ue (by omega), pn_ue (by omega), pn_ue (by omega), pn_us]; rfl, by rw [nz _ (by omega), pn_ue (by omega), pn_us]; rfl, by rw [b4, mz, pn_ue (by omega), pn_us], by rw [b5, mz, pn_us], Or.inl (by rw [mz, pn_ue (by omega), pn_us]), fun h => by rw [mz, pn_ue (by omega), pn_us] at h; exact absurd h (by decide)⟩ hf b1 b2 b3
  rw [hC, hR]
  obtain ⟨M', N', np', c', cost, a1, a2, a3, a4, a5, a6, a7, a8, a9, a10⟩ := hrun
  have hq : ∀ N'', (∀ i, i ≠ 52 → N'' 0 i = N' 0 i) → N'' 33 = N' 33 → pv_q M N M' N'' := fun N'' e1 e2 => ⟨fun i i1 i2 i3 i4 i5 => by rw [a7.1 i i2 i3 i4 i5, mz, pn_ue i5, pn_ue i4, pn_ue i3, pn_ue i2, pn_ue i1], fun i hi => by rw [e1 i (by omega), a7.2.1 i (by omega), nz i (by omega), pn_ue (by omega), pn_ue (by omega), pn_ue (by omega)], by rw [e2, a7.2.2.1, pv_bgl (by omega) (by omega)]; rfl⟩
  have h12' : M' 0 12 = nI (b + 1) := by rw [a7.1 12 (by omega) (by omega) (by omega) (by omega), mz, pn_ue (by omega), pn_ue (by omega), pn_ue (by omega), pn_ue (by omega), pn_us]
  have h62' : N' 0 62 = nI (b + 1) := by rw [a7.2.1 62 (by omega), nz _ (by omega), pn_ue (by omega), pn_ue (by omega), pn_us]
  have hI3 := pr_I_mono a6 (show K + cost ≤ K + 217 by omega) (Nat.le_refl w)
  rcases a10 with ⟨o1, o2, o3, o4, o5, o6, o7, o8, o9⟩ | ⟨o1, o2, o3, o4, o5, o6, m, o7, o8⟩
  · refine ⟨M', N', np', 1, a1, ?_, a2, hI3, hq N' (fun _ _ => rfl) rfl, h12', h62', Or.inl ⟨rfl, o1, o4, o5, o7, o8⟩⟩
    rw [show (2000 : Nat) = (1999 - cost + 1) + cost by omega, o9]
    exact pv_g0 o2
  · obtain ⟨m, rfl⟩ : ∃ m', m = m' + 2 := ⟨m - 2, by omega⟩
    refine ⟨M', px_up N' 0 52 (nI 0), np', 0, a1, ?_, a2, pc_I hI3 (fun _ _ => rfl) (fun _ _ => rfl) (fun k k0 _ => by rw [pn_un k0]) (fun i _ i2 _ => by rw [pv_ui (Or.inr i2)]), hq _ (fun i hi => by rw [pv_ui (Or.inr hi)]) rfl, h12', by rw [pv_ui (Or.inr (by omega)), h62'], Or.inr ⟨rfl, o1, by rw [pv_ui (Or.inr (by omega)), o4]⟩⟩
    rw [show (2000 : Nat) = (2000 - cost) + cost by omega, o8, pv_U0 o2]
