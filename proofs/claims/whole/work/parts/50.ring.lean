/-! Pure rows: numbers, and the ring of a Line. -/
theorem pn_ck {γ : Type} {a n : Nat} {k : Option γ} (h : a < n) (hn : n < 2 ^ 31) : px_ck (nI a) n k = k := by
  unfold px_ck
  exact if_neg (vp_in_nI h hn)
theorem pn_up {M : px_M} {i k : Nat} {x : Int32} : px_up M i k x i = upd (M i) k x := by simp [px_up]
theorem pn_un {M : px_M} {i k a : Nat} {x : Int32} (h : a ≠ i) : px_up M i k x a = M a := by simp [px_up, h]
theorem pn_us {f : Nat → Int32} {k : Nat} {x : Int32} : upd f k x k = x := by simp [upd]
theorem pn_ue {f : Nat → Int32} {k j : Nat} {x : Int32} (h : j ≠ k) : upd f k x j = f j := by simp [upd, h]
theorem pn_mod {cap f i n : Nat} (h : i < n) (hn : n < i + cap) : (f + i) % cap ≠ (f + n) % cap := by
  intro e
  have h1 := Nat.sub_mod_eq_zero_of_mod_eq e.symm
  rw [show f + n - (f + i) = n - i by omega, Nat.mod_eq_of_lt (by omega)] at h1
  omega
theorem pn_wrap {cap f n : Nat} (hf : f < cap) (hn : n < cap) : (f + n) % cap = if f + n < cap then f + n else f + n - cap := by
  split
  · exact Nat.mod_eq_of_lt (by assumption)
  · rw [Nat.mod_eq_sub_mod (by omega), Nat.mod_eq_of_lt (by omega)]
abbrev pn_J : Type := Int32 × Int32 × Int32
/-- a Line of the class at the cell b, of the room cap, holds q -/
def lineC (M : px_M) (b cap : Nat) (q : List pn_J) : Prop := ∃ f : Nat, f < cap ∧ q.length ≤ cap ∧ M b 0 = nI cap ∧ M b 4 = nI f ∧ M b 5 = nI q.length ∧
  ∀ (i : Nat) (h : i < q.length), M (b + 1) ((f + i) % cap) = q[i].1 ∧ M (b + 2) ((f + i) % cap) = q[i].2.1 ∧ M (b + 3) ((f + i) % cap) = q[i].2.2
def gl_size (b cap : Nat) (M : px_M) : Option Int32 := some (M b 5)
def gl_kind (b cap : Nat) (M : px_M) : Option Int32 := px_ck (M b 4) cap (some (M (b + 1) (M b 4).toNatClampNeg))
def gl_subject (b cap : Nat) (M : px_M) : Option Int32 := px_ck (M b 4) cap (some (M (b + 2) (M b 4).toNatClampNeg))
def gl_number (b cap : Nat) (M : px_M) : Option Int32 := px_ck (M b 4) cap (some (M (b + 3) (M b 4).toNatClampNeg))
def gl_put (b cap : Nat) (M : px_M) (p1 p2 p3 : Int32) : Option px_M := (if (M b 5) < (M b 0) then (if (M b 0) ≤ ((M b 4) + (M b 5)) then px_bn ((((M b 4) + (M b 5)) - (M b 0))) (fun x3 => px_ck x3 cap (px_bn (px_up M (b + 1) x3.toNatClampNeg p1) (fun M5 => px_ck x3 cap (px_bn (px_up M5 (b + 2) x3.toNatClampNeg p2) (fun M7 => px_ck x3 cap (px_bn (px_up M7 (b + 3) x3.toNatClampNeg p3) (fun M9 => px_bn (px_up M9 b 5 ((M9 b 5) + (1 : Int32))) (fun M10 => some M10)))))))) else px_bn (((M b 4) + (M b 5))) (fun x11 => px_ck x11 cap (px_bn (px_up M (b + 1) x11.toNatClampNeg p1) (fun M13 => px_ck x11 cap (px_bn (px_up M13 (b + 2) x11.toNatClampNeg p2) (fun M15 => px_ck x11 cap (px_bn (px_up M15 (b + 3) x11.toNatClampNeg p3) (fun M17 => px_bn (px_up M17 b 5 ((M17 b 5) + (1 : Int32))) (fun M18 => some M18))))))))) else some M)
def gl_drop (b cap : Nat) (M : px_M) : Option px_M := (if (M b 5) ≤ 0 then some M else (if (M b 0) ≤ ((M b 4) + (1 : Int32)) then px_bn (px_up M b 4 (0 : Int32)) (fun M3 => px_bn (px_up M3 b 5 ((M3 b 5) - (1 : Int32))) (fun M4 => some M4)) else px_bn (px_up M b 4 ((M b 4) + (1 : Int32))) (fun M5 => px_bn (px_up M5 b 5 ((M5 b 5) - (1 : Int32))) (fun M6 => some M6))))
theorem gl_size_8 (M : px_M) : fC_Line_size_8 M = gl_size 8 40 M := rfl
theorem gl_kind_8 (M : px_M) : fC_Line_kind_8 M = gl_kind 8 40 M := rfl
theorem gl_subject_8 (M : px_M) : fC_Line_subject_8 M = gl_subject 8 40 M := rfl
theorem gl_number_8 (M : px_M) : fC_Line_number_8 M = gl_number 8 40 M := rfl
theorem gl_put_8 (M : px_M) (p1 p2 p3 : Int32) : fC_Line_put_8 M p1 p2 p3 = gl_put 8 40 M p1 p2 p3 := rfl
theorem gl_drop_8 (M : px_M) : fC_Line_drop_8 M = gl_drop 8 40 M := rfl
theorem gl_size_12 (M : px_M) : fC_Line_size_12 M = gl_size 12 1051 M := rfl
theorem gl_kind_12 (M : px_M) : fC_Line_kind_12 M = gl_kind 12 1051 M := rfl
theorem gl_subject_12 (M : px_M) : fC_Line_subject_12 M = gl_subject 12 1051 M := rfl
theorem gl_number_12 (M : px_M) : fC_Line_number_12 M = gl_number 12 1051 M := rfl
theorem gl_put_12 (M : px_M) (p1 p2 p3 : Int32) : fC_Line_put_12 M p1 p2 p3 = gl_put 12 1051 M p1 p2 p3 := rfl
theorem gl_drop_12 (M : px_M) : fC_Line_drop_12 M = gl_drop 12 1051 M := rfl
theorem gl_size_16 (M : px_M) : fC_Line_size_16 M = gl_size 16 40 M := rfl
theorem gl_kind_16 (M : px_M) : fC_Line_kind_16 M = gl_kind 16 40 M := rfl
theorem gl_subject_16 (M : px_M) : fC_Line_subject_16 M = gl_subject 16 40 M := rfl
theorem gl_number_16 (M : px_M) : fC_Line_number_16 M = gl_number 16 40 M := rfl
theorem gl_put_16 (M : px_M) (p1 p2 p3 : Int32) : fC_Line_put_16 M p1 p2 p3 = gl_put 16 40 M p1 p2 p3 := rfl
theorem gl_drop_16 (M : px_M) : fC_Line_drop_16 M = gl_drop 16 40 M := rfl
theorem gl_size_20 (M : px_M) : fC_Line_size_20 M = gl_size 20 180 M := rfl
theorem gl_kind_20 (M : px_M) : fC_Line_kind_20 M = gl_kind 20 180 M := rfl
theorem gl_subject_20 (M : px_M) : fC_Line_subject_20 M = gl_subject 20 180 M := rfl
theorem gl_number_20 (M : px_M) : fC_Line_number_20 M = gl_number 20 180 M := rfl
theorem gl_put_20 (M : px_M) (p1 p2 p3 : Int32) : fC_Line_put_20 M p1 p2 p3 = gl_put 20 180 M p1 p2 p3 := rfl
theorem gl_drop_20 (M : px_M) : fC_Line_drop_20 M = gl_drop 20 180 M := rfl
theorem gl_size_24 (M : px_M) : fC_Line_size_24 M = gl_size 24 8 M := rfl
theorem gl_kind_24 (M : px_M) : fC_Line_kind_24 M = gl_kind 24 8 M := rfl
theorem gl_subject_24 (M : px_M) : fC_Line_subject_24 M = gl_subject 24 8 M := rfl
theorem gl_number_24 (M : px_M) : fC_Line_number_24 M = gl_number 24 8 M := rfl
theorem gl_put_24 (M : px_M) (p1 p2 p3 : Int32) : fC_Line_put_24 M p1 p2 p3 = gl_put 24 8 M p1 p2 p3 := rfl
theorem gl_drop_24 (M : px_M) : fC_Line_drop_24 M = gl_drop 24 8 M := rfl
theorem lineC_c {M M' : px_M} {b cap : Nat} {q : List pn_J} (h : lineC M b cap q) (h0 : M' b = M b) (h1 : M' (b + 1) = M (b + 1)) (h2 : M' (b + 2) = M (b + 2)) (h3 : M' (b + 3) = M (b + 3)) : lineC M' b cap q := by
  unfold lineC
  rw [h0, h1, h2, h3]
  exact h
theorem gl_size_ok {M : px_M} {b cap : Nat} {q : List pn_J} (h : lineC M b cap q) : gl_size b cap M = some (nI q.length) := by
  obtain ⟨f, h1, h2, h3, h4, h5, h6⟩ := h
  unfold gl_size
  rw [h5]
theorem gl_head {M : px_M} {b cap : Nat} {x : pn_J} {q : List pn_J} (hc : cap < 2 ^ 30) (h : lineC M b cap (x :: q)) : gl_kind b cap M = some x.1 ∧ gl_subject b cap M = some x.2.1 ∧ gl_number b cap M = some x.2.2 := by
  obtain ⟨f, h1, h2, h3, h4, h5, h6⟩ := h
  obtain ⟨a1, a2, a3⟩ := h6 0 (by simp)
  simp only [Nat.add_zero, Nat.mod_eq_of_lt h1, List.getElem_cons_zero] at a1 a2 a3
  unfold gl_kind gl_subject gl_number
  rw [h4, pn_ck h1 (by omega), pn_ck h1 (by omega), pn_ck h1 (by omega), nI_clamp (by omega), a1, a2, a3]
  simp
theorem gl_put_ok {M : px_M} {b cap : Nat} {q : List pn_J} (hc : cap < 2 ^ 30) (h : lineC M b cap q) (hq : q.length < cap) (x y z : Int32) : ∃ M', gl_put b cap M x y z = some M' ∧ lineC M' b cap (q ++ [(x, y, z)]) ∧ ∀ k, (k < b ∨ b + 4 ≤ k) → M' k = M k := by
  obtain ⟨f, h1, h2, h3, h4, h5, h6⟩ := h
  have key : ∀ at' : Nat, at' = (f + q.length) % cap → ∃ M', px_ck (nI at') cap (px_bn (px_up M (b + 1) (nI at').toNatClampNeg x) (fun M5 => px_ck (nI at') cap (px_bn (px_up M5 (b + 2) (nI at').toNatClampNeg y) (fun M7 => px_ck (nI at') cap (px_bn (px_up M7 (b + 3) (nI at').toNatClampNeg z) (fun M9 => px_bn (px_up M9 b 5 ((M9 b 5) + (1 : Int32))) (fun M10 => some M10))))))) = some M' ∧ lineC M' b cap (q ++ [(x, y, z)]) ∧ ∀ k, (k < b ∨ b + 4 ≤ k) → M' k = M k := by
    intro at' e
    have hl : at' < cap := by rw [e]; exact Nat.mod_lt _ (by omega)
    have hc1 : cap < 2 ^ 31 := by omega
    have ha1 : at' < 2 ^ 31 := by omega
    simp only [px_bn, pn_ck hl hc1, nI_clamp ha1]
    refine ⟨_, rfl, ⟨f, h1, ?_, ?_, ?_, ?_, ?_⟩, ?_⟩
    · simp; omega
    · simp [px_up, upd, h3]
    · simp [px_up, upd, h4]
    · simp [px_up, upd, h5, nI_1]
    · intro i hi
      simp at hi
      by_cases hin : i < q.length
      · obtain ⟨a1, a2, a3⟩ := h6 i hin
        have hne : (f + i) % cap ≠ at' := by rw [e]; exact pn_mod hin (by omega)
        simp [px_up, upd, hne, List.getElem_append_left hin, a1, a2, a3]
      · have hin : i = q.length := by omega
        subst hin
        simp [px_up, upd, ← e]
    · intro k hk
      have k0 : k ≠ b := by omega
      have k1 : k ≠ b + 1 := by omega
      have k2 : k ≠ b + 2 := by omega
      have k3 : k ≠ b + 3 := by omega
      simp [px_up, k0, k1, k2, k3]
  unfold gl_put
  rw [h5, h3, h4, if_pos (nI_lt hq (by omega)), nI_add]
  by_cases c : f + q.length < cap
  · rw [if_neg (fun hh => by rw [nI_leI (by omega) (by omega)] at hh; omega)]
    exact key (f + q.length) (by rw [pn_wrap h1 hq, if_pos c])
  · rw [if_pos (nI_le (by omega) (by omega)), pk_sub (by omega)]
    exact key (f + q.length - cap) (by rw [pn_wrap h1 hq, if_neg c])
theorem gl_drop_ok {M : px_M} {b cap : Nat} {x : pn_J} {q : List pn_J} (hc : cap < 2 ^ 30) (h : lineC M b cap (x :: q)) : ∃ M', gl_drop b cap M = some M' ∧ lineC M' b cap q ∧ ∀ k, k ≠ b → M' k = M k := by
  obtain ⟨f, h1, h2, h3, h4, h5, h6⟩ := h
  simp only [List.length_cons] at h2 h5
  have key : ∀ f' : Nat, f' = (f + 1) % cap → lineC (px_up (px_up M b 4 (nI f')) b 5 (nI q.length)) b cap q := by
    intro f' e
    refine ⟨f', by rw [e]; exact Nat.mod_lt _ (by omega), by omega, ?_, ?_, ?_, ?_⟩
    · simp [px_up, upd, h3]
    · simp [px_up, upd]
    · simp [px_up, upd]
    · intro i hi
      obtain ⟨a1, a2, a3⟩ := h6 (i + 1) (by simp; omega)
      have e2 : (f' + i) % cap = (f + (i + 1)) % cap := by rw [e, Nat.mod_add_mod, Nat.add_assoc, Nat.add_comm 1 i]
      rw [e2]
      simp only [List.getElem_cons_succ] at a1 a2 a3
      simp [px_up, a1, a2, a3]
  unfold gl_drop px_bn
  rw [h5, h3, h4, if_neg (nI_nle (by omega) (by omega)), nI_1]
  by_cases c : f + 1 < cap
  · rw [if_neg (fun hh => by rw [nI_leI (by omega) (by omega)] at hh; omega)]
    refine ⟨_, rfl, ?_, fun k hk => by simp [px_up, hk]⟩
    have := key (f + 1) (by rw [Nat.mod_eq_of_lt c])
    simpa [px_up, upd, h5, nI_pred] using this
  · rw [if_pos (nI_le (by omega) (by omega))]
    refine ⟨_, rfl, ?_, fun k hk => by simp [px_up, hk]⟩
    have := key 0 (by rw [show f + 1 = cap by omega, Nat.mod_self])
    simpa [px_up, upd, h5, nI_pred, nI_0] using this
