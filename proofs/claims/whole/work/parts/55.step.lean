/-! step: both sides know the same codes and numbers. -/
def ps_w (lo hi x : Int32) : Bool := decide (lo ≤ x) && decide (x ≤ hi)
def ps_i (b : Bool) : Int32 := if b = true then 1 else 0
theorem ps_c (M : px_M) (x lo hi : Int32) : fC_isWithin M x lo hi = some (ps_i (ps_w lo hi x)) := by
  unfold fC_isWithin ps_i ps_w
  by_cases h1 : lo ≤ x <;> by_cases h2 : x ≤ hi <;> simp [h1, h2, Int32.not_lt, Int32.not_le, Int32.not_le.mp, pi_lt] <;> first | (intro h; exact absurd h (pi_lt h1)) | (rw [if_neg (pi_lt h1)]; exact if_pos (Int32.not_le.mp h2)) | (rw [if_pos (Int32.not_le.mp h1)]) | (rw [if_neg (pi_lt h1), if_neg (pi_lt h2)]) | skip
theorem ps_r (N : px_M) (x lo hi : Int32) : fR_M_outside N x lo hi = some (ps_i (!ps_w lo hi x)) := by
  unfold fR_M_outside ps_i ps_w
  by_cases h1 : lo ≤ x
  · rw [if_neg (pi_lt h1)]
    by_cases h2 : x ≤ hi
    · rw [if_pos h2]; simp [h1, h2]
    · rw [if_neg h2]; simp [h1, h2]
  · rw [if_pos (Int32.not_le.mp h1)]; simp [h1]
theorem ps_cb (b : Bool) : px_cb (ps_i b) (some (ps_i b)) = some (ps_i b) := by cases b <;> rfl
theorem ps_F (M : px_M) (x : Int32) : fC_isFunction M x = some (ps_i (ps_w 0 9 x)) := by unfold fC_isFunction; rw [ps_c]; exact ps_cb _
theorem ps_R (M : px_M) (x : Int32) : fC_isRegister M x = some (ps_i (ps_w 0 7 x)) := by unfold fC_isRegister; rw [ps_c]; exact ps_cb _
theorem ps_S (M : px_M) (x : Int32) : fC_isSource M x = some (ps_i (ps_w 0 2 x)) := by unfold fC_isSource; rw [ps_c]; exact ps_cb _
theorem ps_N (M : px_M) (x : Int32) : fC_isNumber M x = some (ps_i (ps_w (-999) 999 x)) := by unfold fC_isNumber; rw [ps_c]; exact ps_cb _
theorem ps_C (M : px_M) (x : Int32) : fC_isChoice M x = some (ps_i (ps_w 0 1 x)) := by unfold fC_isChoice; rw [ps_c]; exact ps_cb _
theorem ps_fits (N : px_M) (c a b : Int32) : fR_M_fits N c a b = gR_M_fits_K74 N c b (ps_i (ps_w 0 9 a)) (ps_i (ps_w 0 7 a)) (ps_i (ps_w (-999) 999 a)) (ps_i (ps_w 0 1 b)) := by
  unfold fR_M_fits
  simp only [ps_r, pi_bq]
  cases ps_w 0 9 a <;> cases ps_w 0 7 a <;> cases ps_w (-999) 999 a <;> cases ps_w 0 1 b <;> rfl
theorem ps_2 {b : Int32} (h : ¬ b = 2) : ps_w 0 2 b = ps_w 0 1 b := by
  unfold ps_w
  have e : b ≤ 2 ↔ b ≤ 1 := by
    rw [Int32.le_iff_toInt_le, Int32.le_iff_toInt_le]
    have := px_ne (v := 2) (by decide) h
    have h2 : (2 : Int32).toInt = 2 := by decide
    have h1 : (1 : Int32).toInt = 1 := by decide
    omega
  simp [e]
/-- what is known, as a truth value -/
def ps_k (k : Nat) (a b : Int32) : Bool := match k with
  | 0 => ps_w (-999) 999 a && ps_w 0 1 b
  | 1 => ps_w 0 9 a && ps_w 0 2 b
  | 2 => ps_w 0 9 a
  | 3 => ps_w 0 9 a && ps_w 0 200 b
  | 4 => ps_w 0 9 a && ps_w 0 200 b
  | 5 => ps_w (-999) 999 a
  | 6 => ps_w (-999) 999 a && ps_w 0 1 b
  | 7 => ps_w 0 9 a
  | 8 => ps_w 0 9 a && ps_w 0 9 b
  | 9 => if b = 2 then ps_w 0 7 a else ps_w (-999) 999 a && ps_w 0 1 b
  | 10 => ps_w 0 7 a
  | 11 => ps_w 0 7 a && ps_w 0 1 b
  | 12 => ps_w 0 7 a && ps_w 0 7 b
  | 13 => ps_w 0 7 a && ps_w 0 255 b
  | 14 => ps_w 0 9 a
  | _ => ps_w 0 7 a && ps_w 0 7 b
theorem ps_two (x y : Bool) : px_bq (some (ps_i x)) (fun r => if r = 0 then some (0 : Int32) else px_bq (some (ps_i y)) (fun r => if r = 0 then some (0 : Int32) else some 1)) = some (ps_i (x && y)) := by cases x <;> cases y <;> rfl
theorem ps_one (x : Bool) : px_bq (some (ps_i x)) (fun r => px_cb r (some r)) = some (ps_i x) := by cases x <;> rfl
theorem ps_rtwo (x y : Bool) : (if ps_i x = 0 then some (0 : Int32) else px_bq (some (ps_i (!y))) (fun r => if r = 0 then some (1 : Int32) else some 0)) = some (ps_i (x && y)) := by cases x <;> cases y <;> rfl
theorem ps_rand (x y : Bool) : (if ps_i x = 0 then some (0 : Int32) else if ps_i y = 0 then some (0 : Int32) else some 1) = some (ps_i (x && y)) := by cases x <;> cases y <;> rfl
theorem ps_kn0 (M N : px_M) (a b : Int32) : fC_isKnown M 0 a b = some (ps_i (ps_k 0 a b)) ∧ gR_M_fits_K74 N 0 b (ps_i (ps_w 0 9 a)) (ps_i (ps_w 0 7 a)) (ps_i (ps_w (-999) 999 a)) (ps_i (ps_w 0 1 b)) = some (ps_i (ps_k 0 a b)) := by
  constructor
  · unfold fC_isKnown
    rw [if_pos rfl]
    rw [ps_N, ps_C]; exact ps_two _ _
  · unfold gR_M_fits_K74
    rw [if_pos rfl]
    exact ps_rand _ _
theorem ps_kn1 (M N : px_M) (a b : Int32) : fC_isKnown M 1 a b = some (ps_i (ps_k 1 a b)) ∧ gR_M_fits_K74 N 1 b (ps_i (ps_w 0 9 a)) (ps_i (ps_w 0 7 a)) (ps_i (ps_w (-999) 999 a)) (ps_i (ps_w 0 1 b)) = some (ps_i (ps_k 1 a b)) := by
  constructor
  · unfold fC_isKnown
    rw [if_neg (by decide), if_pos rfl]
    rw [ps_F, ps_S]; exact ps_two _ _
  · unfold gR_M_fits_K74
    rw [if_neg (by decide), if_pos rfl]
    rw [ps_r]; exact ps_rtwo _ _
theorem ps_kn2 (M N : px_M) (a b : Int32) : fC_isKnown M 2 a b = some (ps_i (ps_k 2 a b)) ∧ gR_M_fits_K74 N 2 b (ps_i (ps_w 0 9 a)) (ps_i (ps_w 0 7 a)) (ps_i (ps_w (-999) 999 a)) (ps_i (ps_w 0 1 b)) = some (ps_i (ps_k 2 a b)) := by
  constructor
  · unfold fC_isKnown
    rw [if_neg (by decide), if_neg (by decide), if_pos rfl]
    rw [ps_F]; exact ps_one _
  · unfold gR_M_fits_K74
    rw [if_neg (by decide), if_neg (by decide), if_pos rfl]
    exact ps_cb _
theorem ps_kn3 (M N : px_M) (a b : Int32) : fC_isKnown M 3 a b = some (ps_i (ps_k 3 a b)) ∧ gR_M_fits_K74 N 3 b (ps_i (ps_w 0 9 a)) (ps_i (ps_w 0 7 a)) (ps_i (ps_w (-999) 999 a)) (ps_i (ps_w 0 1 b)) = some (ps_i (ps_k 3 a b)) := by
  constructor
  · unfold fC_isKnown
    rw [if_neg (by decide), if_neg (by decide), if_neg (by decide), if_pos rfl]
    rw [ps_F, ps_c]; exact ps_two _ _
  · unfold gR_M_fits_K74
    rw [if_neg (by decide), if_neg (by decide), if_neg (by decide), if_pos rfl]
    rw [ps_r]; exact ps_rtwo _ _
theorem ps_kn4 (M N : px_M) (a b : Int32) : fC_isKnown M 4 a b = some (ps_i (ps_k 4 a b)) ∧ gR_M_fits_K74 N 4 b (ps_i (ps_w 0 9 a)) (ps_i (ps_w 0 7 a)) (ps_i (ps_w (-999) 999 a)) (ps_i (ps_w 0 1 b)) = some (ps_i (ps_k 4 a b)) := by
  constructor
  · unfold fC_isKnown
    rw [if_neg (by decide), if_neg (by decide), if_neg (by decide), if_neg (by decide), if_pos rfl]
    rw [ps_F, ps_c]; exact ps_two _ _
  · unfold gR_M_fits_K74
    rw [if_neg (by decide), if_neg (by decide), if_neg (by decide), if_neg (by decide), if_pos rfl]
    rw [ps_r]; exact ps_rtwo _ _
theorem ps_kn5 (M N : px_M) (a b : Int32) : fC_isKnown M 5 a b = some (ps_i (ps_k 5 a b)) ∧ gR_M_fits_K74 N 5 b (ps_i (ps_w 0 9 a)) (ps_i (ps_w 0 7 a)) (ps_i (ps_w (-999) 999 a)) (ps_i (ps_w 0 1 b)) = some (ps_i (ps_k 5 a b)) := by
  constructor
  · unfold fC_isKnown
    rw [if_neg (by decide), if_neg (by decide), if_neg (by decide), if_neg (by decide), if_neg (by decide), if_pos rfl]
    rw [ps_N]; exact ps_one _
  · unfold gR_M_fits_K74
    rw [if_neg (by decide), if_neg (by decide), if_neg (by decide), if_neg (by decide), if_neg (by decide), if_pos rfl]
    exact ps_cb _
theorem ps_kn6 (M N : px_M) (a b : Int32) : fC_isKnown M 6 a b = some (ps_i (ps_k 6 a b)) ∧ gR_M_fits_K74 N 6 b (ps_i (ps_w 0 9 a)) (ps_i (ps_w 0 7 a)) (ps_i (ps_w (-999) 999 a)) (ps_i (ps_w 0 1 b)) = some (ps_i (ps_k 6 a b)) := by
  constructor
  · unfold fC_isKnown
    rw [if_neg (by decide), if_neg (by decide), if_neg (by decide), if_neg (by decide), if_neg (by decide), if_neg (by decide), if_pos rfl]
    rw [ps_N, ps_C]; exact ps_two _ _
  · unfold gR_M_fits_K74
    rw [if_neg (by decide), if_neg (by decide), if_neg (by decide), if_neg (by decide), if_neg (by decide), if_neg (by decide), if_pos rfl]
    exact ps_rand _ _
theorem ps_kn7 (M N : px_M) (a b : Int32) : fC_isKnown M 7 a b = some (ps_i (ps_k 7 a b)) ∧ gR_M_fits_K74 N 7 b (ps_i (ps_w 0 9 a)) (ps_i (ps_w 0 7 a)) (ps_i (ps_w (-999) 999 a)) (ps_i (ps_w 0 1 b)) = some (ps_i (ps_k 7 a b)) := by
  constructor
  · unfold fC_isKnown
    rw [if_neg (by decide), if_neg (by decide), if_neg (by decide), if_neg (by decide), if_neg (by decide), if_neg (by decide), if_neg (by decide), if_pos rfl]
    rw [ps_F]; exact ps_one _
  · unfold gR_M_fits_K74
    rw [if_neg (by decide), if_neg (by decide), if_neg (by decide), if_neg (by decide), if_neg (by decide), if_neg (by decide), if_neg (by decide), if_pos rfl]
    exact ps_cb _
theorem ps_kn8 (M N : px_M) (a b : Int32) : fC_isKnown M 8 a b = some (ps_i (ps_k 8 a b)) ∧ gR_M_fits_K74 N 8 b (ps_i (ps_w 0 9 a)) (ps_i (ps_w 0 7 a)) (ps_i (ps_w (-999) 999 a)) (ps_i (ps_w 0 1 b)) = some (ps_i (ps_k 8 a b)) := by
  constructor
  · unfold fC_isKnown
    rw [if_neg (by decide), if_neg (by decide), if_neg (by decide), if_neg (by decide), if_neg (by decide), if_neg (by decide), if_neg (by decide), if_neg (by decide), if_pos rfl]
    rw [ps_F, ps_F]; exact ps_two _ _
  · unfold gR_M_fits_K74
    rw [if_neg (by decide), if_neg (by decide), if_neg (by decide), if_neg (by decide), if_neg (by decide), if_neg (by decide), if_neg (by decide), if_neg (by decide), if_pos rfl]
    rw [ps_r]; exact ps_rtwo _ _
theorem ps_kn9 (M N : px_M) (a b : Int32) : fC_isKnown M 9 a b = some (ps_i (ps_k 9 a b)) ∧ gR_M_fits_K74 N 9 b (ps_i (ps_w 0 9 a)) (ps_i (ps_w 0 7 a)) (ps_i (ps_w (-999) 999 a)) (ps_i (ps_w 0 1 b)) = some (ps_i (ps_k 9 a b)) := by
  constructor
  · unfold fC_isKnown
    rw [if_neg (by decide), if_neg (by decide), if_neg (by decide), if_neg (by decide), if_neg (by decide), if_neg (by decide), if_neg (by decide), if_neg (by decide), if_neg (by decide), if_pos rfl]
    show _ = some (ps_i (if b = 2 then ps_w 0 7 a else ps_w (-999) 999 a && ps_w 0 1 b))
    by_cases c : b = 2
    · rw [if_pos c, if_pos c, ps_R]; exact ps_one _
    · rw [if_neg c, if_neg c, ps_N, ps_C]; exact ps_two _ _
  · unfold gR_M_fits_K74
    rw [if_neg (by decide), if_neg (by decide), if_neg (by decide), if_neg (by decide), if_neg (by decide), if_neg (by decide), if_neg (by decide), if_neg (by decide), if_neg (by decide), if_pos rfl, ps_r]
    show _ = some (ps_i (if b = 2 then ps_w 0 7 a else ps_w (-999) 999 a && ps_w 0 1 b))
    by_cases c : b = 2
    · subst c
      rw [show ps_w 0 2 2 = true by decide]
      cases ps_w 0 7 a <;> rfl
    · rw [ps_2 c, pi_bq]
      simp only [c, if_false]
      cases ps_w (-999) 999 a <;> cases ps_w 0 1 b <;> rfl
theorem ps_kn10 (M N : px_M) (a b : Int32) : fC_isKnown M 10 a b = some (ps_i (ps_k 10 a b)) ∧ gR_M_fits_K74 N 10 b (ps_i (ps_w 0 9 a)) (ps_i (ps_w 0 7 a)) (ps_i (ps_w (-999) 999 a)) (ps_i (ps_w 0 1 b)) = some (ps_i (ps_k 10 a b)) := by
  constructor
  · unfold fC_isKnown
    rw [if_neg (by decide), if_neg (by decide), if_neg (by decide), if_neg (by decide), if_neg (by decide), if_neg (by decide), if_neg (by decide), if_neg (by decide), if_neg (by decide), if_neg (by decide), if_pos rfl]
    rw [ps_R]; exact ps_one _
  · unfold gR_M_fits_K74
    rw [if_neg (by decide), if_neg (by decide), if_neg (by decide), if_neg (by decide), if_neg (by decide), if_neg (by decide), if_neg (by decide), if_neg (by decide), if_neg (by decide), if_neg (by decide), if_pos rfl]
    exact ps_cb _
theorem ps_kn11 (M N : px_M) (a b : Int32) : fC_isKnown M 11 a b = some (ps_i (ps_k 11 a b)) ∧ gR_M_fits_K74 N 11 b (ps_i (ps_w 0 9 a)) (ps_i (ps_w 0 7 a)) (ps_i (ps_w (-999) 999 a)) (ps_i (ps_w 0 1 b)) = some (ps_i (ps_k 11 a b)) := by
  constructor
  · unfold fC_isKnown
    rw [if_neg (by decide), if_neg (by decide), if_neg (by decide), if_neg (by decide), if_neg (by decide), if_neg (by decide), if_neg (by decide), if_neg (by decide), if_neg (by decide), if_neg (by decide), if_neg (by decide), if_pos rfl]
    rw [ps_R, ps_C]; exact ps_two _ _
  · unfold gR_M_fits_K74
    rw [if_neg (by decide), if_neg (by decide), if_neg (by decide), if_neg (by decide), if_neg (by decide), if_neg (by decide), if_neg (by decide), if_neg (by decide), if_neg (by decide), if_neg (by decide), if_neg (by decide), if_pos rfl]
    exact ps_rand _ _
theorem ps_kn12 (M N : px_M) (a b : Int32) : fC_isKnown M 12 a b = some (ps_i (ps_k 12 a b)) ∧ gR_M_fits_K74 N 12 b (ps_i (ps_w 0 9 a)) (ps_i (ps_w 0 7 a)) (ps_i (ps_w (-999) 999 a)) (ps_i (ps_w 0 1 b)) = some (ps_i (ps_k 12 a b)) := by
  constructor
  · unfold fC_isKnown
    rw [if_neg (by decide), if_neg (by decide), if_neg (by decide), if_neg (by decide), if_neg (by decide), if_neg (by decide), if_neg (by decide), if_neg (by decide), if_neg (by decide), if_neg (by decide), if_neg (by decide), if_neg (by decide), if_pos rfl]
    rw [ps_R, ps_R]; exact ps_two _ _
  · unfold gR_M_fits_K74
    rw [if_neg (by decide), if_neg (by decide), if_neg (by decide), if_neg (by decide), if_neg (by decide), if_neg (by decide), if_neg (by decide), if_neg (by decide), if_neg (by decide), if_neg (by decide), if_neg (by decide), if_neg (by decide), if_pos rfl]
    rw [ps_r]; exact ps_rtwo _ _
theorem ps_kn13 (M N : px_M) (a b : Int32) : fC_isKnown M 13 a b = some (ps_i (ps_k 13 a b)) ∧ gR_M_fits_K74 N 13 b (ps_i (ps_w 0 9 a)) (ps_i (ps_w 0 7 a)) (ps_i (ps_w (-999) 999 a)) (ps_i (ps_w 0 1 b)) = some (ps_i (ps_k 13 a b)) := by
  constructor
  · unfold fC_isKnown
    rw [if_neg (by decide), if_neg (by decide), if_neg (by decide), if_neg (by decide), if_neg (by decide), if_neg (by decide), if_neg (by decide), if_neg (by decide), if_neg (by decide), if_neg (by decide), if_neg (by decide), if_neg (by decide), if_neg (by decide), if_pos rfl]
    rw [ps_R, ps_c]; exact ps_two _ _
  · unfold gR_M_fits_K74
    rw [if_neg (by decide), if_neg (by decide), if_neg (by decide), if_neg (by decide), if_neg (by decide), if_neg (by decide), if_neg (by decide), if_neg (by decide), if_neg (by decide), if_neg (by decide), if_neg (by decide), if_neg (by decide), if_neg (by decide), if_pos rfl]
    rw [ps_r]; exact ps_rtwo _ _
theorem ps_kn14 (M N : px_M) (a b : Int32) : fC_isKnown M 14 a b = some (ps_i (ps_k 14 a b)) ∧ gR_M_fits_K74 N 14 b (ps_i (ps_w 0 9 a)) (ps_i (ps_w 0 7 a)) (ps_i (ps_w (-999) 999 a)) (ps_i (ps_w 0 1 b)) = some (ps_i (ps_k 14 a b)) := by
  constructor
  · unfold fC_isKnown
    rw [if_neg (by decide), if_neg (by decide), if_neg (by decide), if_neg (by decide), if_neg (by decide), if_neg (by decide), if_neg (by decide), if_neg (by decide), if_neg (by decide), if_neg (by decide), if_neg (by decide), if_neg (by decide), if_neg (by decide), if_neg (by decide), if_pos rfl]
    rw [ps_F]; exact ps_one _
  · unfold gR_M_fits_K74
    rw [if_neg (by decide), if_neg (by decide), if_neg (by decide), if_neg (by decide), if_neg (by decide), if_neg (by decide), if_neg (by decide), if_neg (by decide), if_neg (by decide), if_neg (by decide), if_neg (by decide), if_neg (by decide), if_neg (by decide), if_neg (by decide), if_pos rfl]
    exact ps_cb _
theorem ps_kn15 (M N : px_M) (a b : Int32) : fC_isKnown M 15 a b = some (ps_i (ps_k 15 a b)) ∧ gR_M_fits_K74 N 15 b (ps_i (ps_w 0 9 a)) (ps_i (ps_w 0 7 a)) (ps_i (ps_w (-999) 999 a)) (ps_i (ps_w 0 1 b)) = some (ps_i (ps_k 15 a b)) := by
  constructor
  · unfold fC_isKnown
    rw [if_neg (by decide), if_neg (by decide), if_neg (by decide), if_neg (by decide), if_neg (by decide), if_neg (by decide), if_neg (by decide), if_neg (by decide), if_neg (by decide), if_neg (by decide), if_neg (by decide), if_neg (by decide), if_neg (by decide), if_neg (by decide), if_neg (by decide), if_pos rfl]
    rw [ps_R, ps_R]; exact ps_two _ _
  · unfold gR_M_fits_K74
    rw [if_neg (by decide), if_neg (by decide), if_neg (by decide), if_neg (by decide), if_neg (by decide), if_neg (by decide), if_neg (by decide), if_neg (by decide), if_neg (by decide), if_neg (by decide), if_neg (by decide), if_neg (by decide), if_neg (by decide), if_neg (by decide), if_neg (by decide)]
    rw [ps_r]; exact ps_rtwo _ _
theorem ps_known (M N : px_M) (k : Nat) (hk : k ≤ 15) (a b : Int32) : fC_isKnown M (nI k) a b = some (ps_i (ps_k k a b)) ∧ fR_M_fits N (nI k) a b = some (ps_i (ps_k k a b)) := by
  rw [ps_fits]
  rcases (show k = 0 ∨ k = 1 ∨ k = 2 ∨ k = 3 ∨ k = 4 ∨ k = 5 ∨ k = 6 ∨ k = 7 ∨ k = 8 ∨ k = 9 ∨ k = 10 ∨ k = 11 ∨ k = 12 ∨ k = 13 ∨ k = 14 ∨ k = 15 by omega) with rfl | rfl | rfl | rfl | rfl | rfl | rfl | rfl | rfl | rfl | rfl | rfl | rfl | rfl | rfl | rfl
  · exact ps_kn0 M N a b
  · exact ps_kn1 M N a b
  · exact ps_kn2 M N a b
  · exact ps_kn3 M N a b
  · exact ps_kn4 M N a b
  · exact ps_kn5 M N a b
  · exact ps_kn6 M N a b
  · exact ps_kn7 M N a b
  · exact ps_kn8 M N a b
  · exact ps_kn9 M N a b
  · exact ps_kn10 M N a b
  · exact ps_kn11 M N a b
  · exact ps_kn12 M N a b
  · exact ps_kn13 M N a b
  · exact ps_kn14 M N a b
  · exact ps_kn15 M N a b
theorem ps_nat {m : Nat} (hm : m + 1 < 2 ^ 31) {c x : Int32} (hc : c = nI m) (h : ps_w 0 c x = true) : ∃ k, k ≤ m ∧ x = nI k := by
  subst hc
  unfold ps_w at h
  simp only [Bool.and_eq_true, decide_eq_true_eq] at h
  exact nI_of2 (n := m) (nI_toInt (by omega)) (pi_lt h.1) h.2
theorem ps_pr {k : Nat} (hk : k ≤ 15) {a b : Int32} (h : ps_k k a b = true) : pr_k (nI k) a b := by
  have n9 : ∀ x, ps_w 0 9 x = true → ∃ f, f < 10 ∧ x = nI f := fun x h => by
    obtain ⟨f, h1, h2⟩ := ps_nat (m := 9) (by omega) rfl h
    exact ⟨f, by omega, h2⟩
  have n7 : ∀ x, ps_w 0 7 x = true → ∃ f, f < 8 ∧ x = nI f := fun x h => by
    obtain ⟨f, h1, h2⟩ := ps_nat (m := 7) (by omega) rfl h
    exact ⟨f, by omega, h2⟩
  have n2 : ∀ x, ps_w 0 2 x = true → ∃ f, f < 3 ∧ x = nI f := fun x h => by
    obtain ⟨f, h1, h2⟩ := ps_nat (m := 2) (by omega) rfl h
    exact ⟨f, by omega, h2⟩
  have n200 : ∀ x, ps_w 0 200 x = true → ∃ f, f ≤ 200 ∧ x = nI f := fun x h => ps_nat (m := 200) (by omega) rfl h
  have n255 : ∀ x, ps_w 0 255 x = true → ∃ f, f ≤ 255 ∧ x = nI f := fun x h => ps_nat (m := 255) (by omega) rfl h
  refine ⟨k, hk, rfl, ?_, ?_, ?_, ?_, ?_, ?_, ?_, ?_⟩
  · intro hh
    rcases hh with rfl | rfl | rfl | rfl | rfl | rfl | rfl <;> simp only [ps_k, Bool.and_eq_true] at h <;> first | exact n9 a h.1 | exact n9 a h
  · intro hh; subst hh; simp only [ps_k, Bool.and_eq_true] at h; exact n2 b h.2
  · intro hh
    rcases hh with rfl | rfl <;> simp only [ps_k, Bool.and_eq_true] at h <;> exact n200 b h.2
  · intro hh; subst hh; simp only [ps_k, Bool.and_eq_true] at h; exact n9 b h.2
  · intro hh
    rcases hh with rfl | rfl | rfl | rfl | rfl | ⟨rfl, e⟩
    · simp only [ps_k] at h; exact n7 a h
    · simp only [ps_k, Bool.and_eq_true] at h; exact n7 a h.1
    · simp only [ps_k, Bool.and_eq_true] at h; exact n7 a h.1
    · simp only [ps_k, Bool.and_eq_true] at h; exact n7 a h.1
    · simp only [ps_k, Bool.and_eq_true] at h; exact n7 a h.1
    · simp only [ps_k, e, if_true] at h; exact n7 a h
  · intro hh
    rcases hh with rfl | rfl <;> simp only [ps_k, Bool.and_eq_true] at h <;> exact n7 b h.2
  · intro hh; subst hh; simp only [ps_k, Bool.and_eq_true] at h; exact n255 b h.2
  · intro hh; subst hh; simp only [ps_k, ps_w] at h; by_cases c : a ≤ 999
    · exact c
    · simp_all
