theorem pt_no {M : px_M} {c a b : Int32} (h : ∀ k : Nat, k < 16 → ¬ c = nI k) : fC_isKnown M c a b = some 0 := by
  unfold fC_isKnown
  rw [if_neg (show ¬ c = (0 : Int32) from h 0 (by omega)), if_neg (show ¬ c = (1 : Int32) from h 1 (by omega)), if_neg (show ¬ c = (2 : Int32) from h 2 (by omega)), if_neg (show ¬ c = (3 : Int32) from h 3 (by omega)), if_neg (show ¬ c = (4 : Int32) from h 4 (by omega)), if_neg (show ¬ c = (5 : Int32) from h 5 (by omega)), if_neg (show ¬ c = (6 : Int32) from h 6 (by omega)), if_neg (show ¬ c = (7 : Int32) from h 7 (by omega)), if_neg (show ¬ c = (8 : Int32) from h 8 (by omega)), if_neg (show ¬ c = (9 : Int32) from h 9 (by omega)), if_neg (show ¬ c = (10 : Int32) from h 10 (by omega)), if_neg (show ¬ c = (11 : Int32) from h 11 (by omega)), if_neg (show ¬ c = (12 : Int32) from h 12 (by omega)), if_neg (show ¬ c = (13 : Int32) from h 13 (by omega)), if_neg (show ¬ c = (14 : Int32) from h 14 (by omega)), if_neg (show ¬ c = (15 : Int32) from h 15 (by omega))]
theorem pt_out {c : Int32} {n : Nat} (hn : n < 2 ^ 31) (ho : c < 0 ∨ nI n ≤ c) : ∀ k : Nat, k < n → ¬ c = nI k := by
  intro k hk e
  subst e
  rcases ho with h | h
  · exact nI_pos (by omega) h
  · exact nI_ge hk hn h
theorem pt_step {j : Nat} {M N : px_M} (h : pr_Rel j M N) : pu_step (pr_Rel (j + 1)) M N := by
  have h' := h
  obtain ⟨np, nl, nr, made, q, ts, tm, fr, hF, hG, hP, hR, hQ, hT, hM, hA, hL, hZ, hU, hC, hV, hm⟩ := h
  intro f c a b
  have bad1 : ∃ (z : px_Z) (r : Int32) (N1 : px_M), (some (.inr "java/lang/IllegalArgumentException") : Option px_Z) = some z ∧ (∀ E, z = .inr E → E = "java/lang/IllegalArgumentException" ∨ E = "java/lang/IllegalStateException") ∧ (some ((0 : Int32), px_up N 0 0 1) : Option (Int32 × px_M)) = some (r, N1) ∧ pu_ag (fun E => if E = "java/lang/IllegalArgumentException" then 1 else 2) (pr_Rel (j + 1)) M z r N1 :=
    ⟨_, _, _, rfl, fun E hE => Or.inl (by simpa using hE.symm), rfl, ⟨rfl, by decide, pr_thrown 1 (pr_mono (by omega) h')⟩⟩
  rcases pi_ix f 10 (by omega) with ⟨k, hk, rfl⟩ | ho
  · rcases pi_ix c 16 (by omega) with ⟨d, hd, rfl⟩ | ho
    · obtain ⟨w1, w2⟩ := ps_known M N d (by omega) a b
      cases hkn : ps_k d a b with
      | false =>
        rw [hkn] at w1 w2
        have e1 : fC_step M (nI k) (nI d) a b = some (.inr "java/lang/IllegalArgumentException") := by
          unfold fC_step; rw [pi_isF M hk, pi_bq, if_neg (by decide), w1]; rfl
        have e2 : fR_M_step N (nI k) (nI d) a b = some (0, px_up N 0 0 1) := by
          unfold fR_M_step
          rw [(pi_win N (c := 9) (m := 9) rfl (by omega) (by omega)).2, pi_bq, if_pos rfl, (pi_win N (c := 15) (m := 15) rfl (by omega) (by omega)).2, pi_bq, if_pos rfl, w2, pi_bq, if_pos (by decide)]
          rfl
        rw [e1, e2]; exact bad1
      | true =>
        rw [hkn] at w1 w2
        obtain ⟨f1, f2, f3, f4, f5⟩ := hF
        obtain ⟨n, a1, a2, a3⟩ := f5 k hk
        have e0 : fC_Functions_length M (nI k) = some (nI n) := by
          unfold fC_Functions_length; rw [pn_ck hk (by omega), nI_clamp (by omega), a2]
        by_cases c6 : n = 6
        · subst c6
          refine ⟨.inr "java/lang/IllegalStateException", 0, px_up (px_up N 0 0 0) 0 0 2, ?_, fun E hE => Or.inr (by simpa using hE.symm), ?_, ⟨rfl, by decide, pr_thrown 2 (pr_thrown 0 (pr_mono (by omega) h'))⟩⟩
          · unfold fC_step; rw [pi_isF M hk, pi_bq, if_neg (by decide), w1, pi_bq, if_neg (by decide), e0, pi_bq, if_neg (by decide)]
          · unfold fR_M_step
            rw [(pi_win N (c := 9) (m := 9) rfl (by omega) (by omega)).2, pi_bq, if_pos rfl, (pi_win N (c := 15) (m := 15) rfl (by omega) (by omega)).2, pi_bq, if_pos rfl, w2, pi_bq, if_neg (by decide)]
            simp only [px_bn]
            rw [if_pos (show (px_up N 0 0 0) 0 0 = 0 from rfl), pn_ck hk (by omega), nI_clamp (by omega), if_pos (show (px_up N 0 0 0) 1 k = 6 by show N 1 k = 6; rw [← f1, a2]; rfl)]
            rfl
        · have hn : n < 6 := by omega
          have hix : 6 * k + n < 60 := by omega
          refine ⟨.inl (nI (n + 1), px_up (px_up (px_up (px_up M 3 (6 * k + n) (nI d)) 4 (6 * k + n) a) 5 (6 * k + n) b) 2 k (nI (n + 1))), nI (n + 1), px_up (px_up (px_up (px_up (px_up (px_up N 0 0 0) 0 0 0) 2 (6 * k + n) (nI d)) 3 (6 * k + n) a) 4 (6 * k + n) b) 1 k (nI (n + 1)), ?_, fun E hE => by simp at hE, ?_, ⟨rfl, rfl, ?_⟩⟩
          · unfold fC_step
            rw [pi_isF M hk, pi_bq, if_neg (by decide), w1, pi_bq, if_neg (by decide), e0, pi_bq, if_pos (show nI n < (6 : Int32) from nI_lt (b := 6) hn (by omega))]
            have e3 : fC_Functions_add M (nI k) (nI d) a b = some (px_up (px_up (px_up (px_up M 3 (6 * k + n) (nI d)) 4 (6 * k + n) a) 5 (6 * k + n) b) 2 k (nI (n + 1))) := by
              unfold fC_Functions_add
              have ei : nI k * (6 : Int32) + M 2 k = nI (6 * k + n) := by
                rw [a2, show (6 : Int32) = nI 6 from rfl, pk_mul, nI_add, Nat.mul_comm]
              simp only [pn_ck hk (show (10 : Nat) < 2 ^ 31 by omega), nI_clamp (show k < 2 ^ 31 by omega), px_bn]
              rw [if_pos (show M 2 k < (6 : Int32) by rw [a2]; exact nI_lt (b := 6) hn (by omega)), ei]
              simp only [pn_ck hix (show (60 : Nat) < 2 ^ 31 by omega), nI_clamp (show 6 * k + n < 2 ^ 31 by omega)]
              show some (px_up _ 2 k (M 2 k + 1)) = _
              rw [a2, nI_1]
            rw [e3, pi_bq]
            unfold fC_Functions_length
            rw [pn_ck hk (by omega), nI_clamp (by omega), pi_bq]
            simp [px_up, upd]
          · unfold fR_M_step
            rw [(pi_win N (c := 9) (m := 9) rfl (by omega) (by omega)).2, pi_bq, if_pos rfl, (pi_win N (c := 15) (m := 15) rfl (by omega) (by omega)).2, pi_bq, if_pos rfl, w2, pi_bq, if_neg (by decide)]
            have en : N 1 k = nI n := by rw [← f1]; exact a2
            have ei : (6 : Int32) * nI k + nI n = nI (6 * k + n) := by rw [show (6 : Int32) = nI 6 from rfl, pk_mul, nI_add]
            simp only [px_bn]
            rw [if_pos (show (px_up N 0 0 0) 0 0 = 0 from rfl)]
            simp only [pn_ck hk (show (10 : Nat) < 2 ^ 31 by omega), nI_clamp (show k < 2 ^ 31 by omega)]
            rw [if_neg (show ¬ (px_up N 0 0 0) 1 k = 6 by show ¬ N 1 k = 6; rw [en]; exact fun e => c6 ((nI_eq (a := n) (b := 6) (by omega) (by omega)).mp e)), if_pos (show (px_up (px_up N 0 0 0) 0 0 0) 0 0 = 0 from rfl)]
            have e9 : (6 : Int32) * nI k + (px_up (px_up N 0 0 0) 0 0 0) 1 k = nI (6 * k + n) := by
              show (6 : Int32) * nI k + N 1 k = _
              rw [en, ei]
            rw [e9]
            simp only [pn_ck hix (show (60 : Nat) < 2 ^ 31 by omega), nI_clamp (show 6 * k + n < 2 ^ 31 by omega)]
            have e10 : (px_up (px_up (px_up (px_up (px_up N 0 0 0) 0 0 0) 2 (6 * k + n) (nI d)) 3 (6 * k + n) a) 4 (6 * k + n) b) 1 k + 1 = nI (n + 1) := by
              show N 1 k + 1 = _
              rw [en, nI_1]
            rw [e10]
            simp [px_up, upd]
          · refine ⟨np, nl, nr, made, q, ts, tm, fr, ?_, hG, hP, hR, hQ, hT, hM, hA, hL, pr_Z_mono (Nat.le_succ j) hZ, hU, hC, hV, by omega⟩
            refine ⟨?_, ?_, ?_, ?_, fun f hf => ?_⟩
            · show upd (M 2) k _ = upd (N 1) k _; rw [f1]
            · show upd (M 3) _ _ = upd (N 2) _ _; rw [f2]
            · show upd (M 4) _ _ = upd (N 3) _ _; rw [f3]
            · show upd (M 5) _ _ = upd (N 4) _ _; rw [f4]
            · by_cases e : f = k
              · subst e
                refine ⟨n + 1, by omega, by show upd (M 2) f _ f = _; rw [pn_us], fun i hi => ?_⟩
                show pr_k (upd (M 3) (6 * f + n) (nI d) (6 * f + i)) (upd (M 4) (6 * f + n) a (6 * f + i)) (upd (M 5) (6 * f + n) b (6 * f + i))
                by_cases ei : i = n
                · subst ei
                  rw [pn_us, pn_us, pn_us]
                  exact ps_pr (by omega) hkn
                · rw [pn_ue (by omega), pn_ue (by omega), pn_ue (by omega)]
                  exact a3 i (by omega)
              · obtain ⟨n', b1, b2, b3⟩ := f5 f hf
                refine ⟨n', b1, by show upd (M 2) k _ f = _; rw [pn_ue e]; exact b2, fun i hi => ?_⟩
                show pr_k (upd (M 3) (6 * k + n) (nI d) (6 * f + i)) (upd (M 4) (6 * k + n) a (6 * f + i)) (upd (M 5) (6 * k + n) b (6 * f + i))
                rw [pn_ue (by omega), pn_ue (by omega), pn_ue (by omega)]
                exact b3 i hi
    · have e1 : fC_step M (nI k) c a b = some (.inr "java/lang/IllegalArgumentException") := by
        unfold fC_step; rw [pi_isF M hk, pi_bq, if_neg (by decide), pt_no (pt_out (by omega) ho)]; rfl
      have e2 : fR_M_step N (nI k) c a b = some (0, px_up N 0 0 1) := by
        unfold fR_M_step
        rw [(pi_win N (c := 9) (m := 9) rfl (by omega) (by omega)).2, pi_bq, if_pos rfl, (pi_wout N (c := 15) (m := 15) rfl (by omega) ho).2, pi_bq, if_neg (by decide)]
        rfl
      rw [e1, e2]; exact bad1
  · have e1 : fC_step M f c a b = some (.inr "java/lang/IllegalArgumentException") := by
      unfold fC_step; rw [pi_isFn M ho]; rfl
    have e2 : fR_M_step N f c a b = some (0, px_up N 0 0 1) := by
      unfold fR_M_step
      rw [(pi_wout N (c := 9) (m := 9) rfl (by omega) ho).2, pi_bq, if_neg (by decide)]
      rfl
    rw [e1, e2]; exact bad1
