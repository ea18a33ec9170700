/-! A timer's task, and a task. -/
theorem pp_lvl {j K w z np : Nat} {tk : List Int32} {M N : px_M} (h : pr_I j K w z np tk M N) {v u : Int32} (hu : u = v + 1) : pr_I j K w z np tk (px_up M 0 14 v) (px_up N 0 60 u) := by
  obtain ⟨nl, nr, made, q, ts, tm, fr, hD, ⟨hF, hT, hM, hA, hZ, hV⟩, hk⟩ := h
  refine ⟨nl, nr, made, q, ts, tm, fr, pc_D hD rfl (fun k _ _ => by rw [pn_un (by omega)]) (fun k _ _ => by rw [pn_un (by omega)]) (fun k _ _ => by rw [pn_un (by omega)]) rfl rfl (by rw [pv_ui (Or.inr (by omega))]) (by rw [pv_ui (Or.inr (by omega))]) (by rw [pv_ui (Or.inr (by omega))]) (by rw [pv_ui (Or.inr (by omega))]) (by rw [pv_ui (Or.inr (by omega))]) (by rw [pv_ui (Or.inr (by omega))]) (by rw [pv_ui (Or.inr (by omega))]), ⟨pc_F hF (fun k _ _ => by rw [pn_un (by omega)]) (fun k _ _ => by rw [pn_un (by omega)]), pc_T hT (fun k _ _ => by rw [pn_un (by omega)]) (fun k _ _ => by rw [pn_un (by omega)]) (by rw [pv_ui (Or.inr (by omega))]), pc_M hM (fun k _ _ => by rw [pn_un (by omega)]) (fun k _ _ => by rw [pn_un (by omega)]) (by rw [pv_ui (Or.inr (by omega))]) (by rw [pv_ui (Or.inr (by omega))]), pc_AI hA (fun k _ _ => by rw [pn_un (by omega)]) rfl (by rw [pv_ui (Or.inr (by omega))]) (by rw [pv_ui (Or.inr (by omega))]), ?_, hV⟩, hk⟩
  unfold pr_ZI
  rw [pv_ui (M := M) (Or.inr (show 9 ≠ 14 by omega)), pv_ui (M := M) (Or.inr (show 10 ≠ 14 by omega)), pv_ui (M := M) (Or.inr (show 11 ≠ 14 by omega)), pv_ui (M := N) (Or.inr (show 30 ≠ 60 by omega)), pv_ui (M := N) (Or.inr (show 31 ≠ 60 by omega)), pv_ui (M := N) (Or.inr (show 42 ≠ 60 by omega)), pn_up, pn_up, pn_us, pn_us]
  exact ⟨hZ.1, hZ.2.1, hZ.2.2.1, hZ.2.2.2.1, hu⟩
def pp_rsR (N : px_M) (p1 : Int32) : Option px_M := px_bq (fR_M_timerAt N p1) (fun r15 => (if r15 < 0 then some N else px_ck r15 12 (px_ck r15 12 (px_bn (px_up N 28 r15.toNatClampNeg ((N 28 r15.toNatClampNeg) + (1 : Int32))) (fun M19 => px_ck r15 12 (px_bn (px_up M19 31 r15.toNatClampNeg (0 : Int32)) (fun M21 => px_bq (fR_M_dueOf M21 r15) (fun r23 => px_ck r15 12 (px_bn (px_up M21 29 r15.toNatClampNeg r23) (fun M25 => some M25))))))))))
theorem pp_restart {j K w np nt : Nat} {tk : List Int32} {M N : px_M} (h : pr_I j K w nt np tk M N) (hK : K < 2 ^ 31) (hn : nt < 2 ^ 31) : ∃ M' N', fC_Timers_restart M (nI nt) (M 0 10) = some M' ∧ pp_rsR N (nI nt) = some N' ∧ pr_I j K w 0 np tk M' N' ∧ M' 0 = M 0 ∧ N' 0 = N 0 ∧ N' 33 = N 33 := by
  obtain ⟨nl, nr, made, q, ts, tm, fr, hD, ⟨hF, hT, hM, hA, hZ, hV⟩, hk⟩ := h
  unfold fC_Timers_restart pp_rsR
  obtain ⟨v1, v2, v3, v4, v5⟩ := hV
  by_cases c : ∃ i, ∃ hi : i < tm.length, tm[i].1 = nt
  · obtain ⟨i, hi, e⟩ := c
    obtain ⟨f1, f2⟩ := pf_some hM (by omega) hi
    rw [e] at f1 f2
    have hM' := hM
    obtain ⟨m1, m2, m3, m4, m5, m6, m7, m8, m9⟩ := hM
    obtain ⟨a1, a2, a3, a4, a5, a6, a7, a8, a9, a10, a11, a12, a13, a14, a15, d, d1, d2⟩ := m8 i hi
    have hi12 : i < 12 := by omega
    obtain ⟨z1, ⟨tt, z2, z3, z4⟩, z5⟩ := hZ
    rw [f1, f2, pi_bq, pi_bq, if_neg (pg_neg1 (by omega)), if_neg (nI_pos (by omega)), pn_ck a3 (by omega), nI_clamp (by omega), pg_start a3 d1 d2, pi_bq]
    simp only [px_bn, pn_ck hi12 (show (12 : Nat) < 2 ^ 31 by omega), nI_clamp (show i < 2 ^ 31 by omega)]
    have g27 : (px_up (px_up N 28 i (N 28 i + 1)) 31 i 0) 27 i = nI d := by show N 27 i = _; rw [a8, d2]
    have g28 : (px_up (px_up N 28 i (N 28 i + 1)) 31 i 0) 28 i = M 48 tm[i].2 + 1 := by
      show upd (N 28) i _ i = _
      rw [pn_us, a9]
    have g31 : (px_up (px_up N 28 i (N 28 i + 1)) 31 i 0) 0 31 = M 0 10 := by show N 0 31 = _; rw [z3, z4]
    rw [pg_dueR hi12 d1 g27, g28, g31, pi_bq, a9]
    have hinj : ∀ (k : Nat) (hk : k < tm.length), k ≠ i → tm[k].2 ≠ tm[i].2 := by
      intro k hk hne e
      rw [List.nodup_iff_pairwise_ne, List.pairwise_iff_getElem] at m7
      rcases Nat.lt_or_gt_of_ne hne with c1 | c1
      · have := m7 k i (by simpa using hk) (by simpa using hi) c1
        simp only [List.getElem_map] at this
        exact this e
      · have := m7 i k (by simpa using hi) (by simpa using hk) c1
        simp only [List.getElem_map] at this
        exact this e.symm
    generalize hdue : pg_due (M 48 tm[i].2 + 1) (M 0 10) d = due
    refine ⟨px_up (px_up (px_up M 48 tm[i].2 (M 48 tm[i].2 + 1)) 51 tm[i].2 0) 49 tm[i].2 due, px_up (px_up (px_up N 28 i (M 48 tm[i].2 + 1)) 31 i 0) 29 i due, rfl, rfl, ⟨nl, nr, made, q, ts, tm, fr, pc_D hD rfl (fun k _ _ => by rw [pn_un (by omega), pn_un (by omega), pn_un (by omega)]) (fun k _ _ => by rw [pn_un (by omega), pn_un (by omega), pn_un (by omega)]) (fun k _ _ => by rw [pn_un (by omega), pn_un (by omega), pn_un (by omega)]) rfl rfl rfl rfl rfl rfl rfl rfl rfl, ⟨pc_F hF (fun k _ _ => by rw [pn_un (by omega), pn_un (by omega), pn_un (by omega)]) (fun k _ _ => by rw [pn_un (by omega), pn_un (by omega), pn_un (by omega)]), pc_T hT (fun k _ _ => by rw [pn_un (by omega), pn_un (by omega), pn_un (by omega)]) (fun k _ _ => by rw [pn_un (by omega), pn_un (by omega), pn_un (by omega)]) rfl, ?_, pc_AI hA (fun k _ _ => by rw [pn_un (by omega), pn_un (by omega), pn_un (by omega)]) rfl rfl rfl, ⟨z1, ⟨tt, z2, z3, z4⟩, z5⟩, ?_⟩, hk⟩, rfl, rfl, rfl⟩
    · refine ⟨m1, m2, m3, m4, m5, m6, m7, fun k hk => ?_, m9⟩
      by_cases ck : k = i
      · subst ck
        refine ⟨a1, a2, a3, a4, a5, a6, a7, a8, ?_, ?_, a11, ?_, a13, ?_, a15, d, d1, d2⟩
        · show upd (N 28) k _ k = upd (M 48) _ _ _
          rw [pn_us, pn_us]
        · show upd (N 29) k _ k = upd (M 49) _ _ _
          rw [pn_us, pn_us]
        · show upd (N 31) k _ k = upd (M 51) _ _ _
          rw [pn_us, pn_us]
        · show pr_B (upd (M 51) _ _ _)
          rw [pn_us]; exact Or.inl rfl
      · have hp := hinj k hk ck
        obtain ⟨b1, b2, b3, b4, b5, b6, b7, b8, b9, b10, b11, b12, b13, b14, b15, b16⟩ := m8 k hk
        refine ⟨b1, b2, b3, b4, b5, b6, b7, b8, ?_, ?_, b11, ?_, b13, ?_, b15, b16⟩
        · show upd (N 28) i _ k = upd (M 48) _ _ _
          rw [pn_ue ck, pn_ue hp]; exact b9
        · show upd (N 29) i _ k = upd (M 49) _ _ _
          rw [pn_ue ck, pn_ue hp]; exact b10
        · show upd (N 31) i _ k = upd (M 51) _ _ _
          rw [pn_ue ck, pn_ue hp]; exact b12
        · show pr_B (upd (M 51) _ _ _)
          rw [pn_ue hp]; exact b14
    · refine ⟨v1, v2, v3, fun y hy _ => ?_, fun h0 => absurd rfl h0⟩
      obtain ⟨k, hk, rfl⟩ := List.getElem_of_mem hy
      show upd (M 51) tm[i].2 0 tm[k].2 = 1 ↔ _
      by_cases ck : k = i
      · subst ck
        rw [pn_us]
        constructor
        · intro h; exact absurd h (by decide)
        · rintro ⟨y, y1, y2⟩
          rw [e] at y2
          exact absurd y2 (v5 (by omega) y y1)
      · rw [pn_ue (hinj k hk ck)]
        refine v4 _ hy (fun h => ck ?_)
        exact pf_inj m6 hk hi (h.trans e.symm)
  · have hmm := hM.2.2.2.2.2.2.2.1
    obtain ⟨f1, f2⟩ := pf_none hM (a := nI nt) (fun i hi e => c ⟨i, hi, ((nI_eq hn (by have := (hmm i hi).2.1; omega)).mp e).symm⟩)
    rw [f1, f2]
    refine ⟨M, N, rfl, rfl, ⟨nl, nr, made, q, ts, tm, fr, hD, ⟨hF, hT, hM, hA, hZ, ⟨v1, v2, v3, fun y hy _ => ?_, fun h0 => absurd rfl h0⟩⟩, hk⟩, rfl, rfl, rfl⟩
    refine v4 y hy (fun e => c ?_)
    obtain ⟨k, hk, rfl⟩ := List.getElem_of_mem hy
    exact ⟨k, hk, e⟩
theorem pp_timer {j K w np nl nr made b nt : Nat} {tk : List Int32} {q : List pn_J} {ts : List pr_Tk} {tm : List (Nat × Nat)} {fr : List Int32} {M N : px_M} (hD : pr_D w np nl nr q M N) (hE : pr_E j nt tk made ts tm fr M N) (hk : made ≤ K) (hK : K + 600 < 2 ^ 31) (h12 : M 0 12 = nI b) (h62 : N 0 62 = nI b) (h14 : M 0 14 = 0) {i : Nat} (hi : i < tm.length) (e : tm[i].1 = nt) : ∃ (M' N' : px_M) (np' : Nat), fC_doTimer M (nI nt) = some M' ∧ fR_M_doTimer N (nI nt) = some N' ∧ np ≤ np' ∧ pr_I j (K + 217) w 0 np' tk M' N' ∧ pv_q M N M' N' ∧ M' 0 12 = nI (b + 1) ∧ N' 0 62 = nI (b + 1) := by
  obtain ⟨hF, hT, hM, hA, hZ, hV⟩ := hE
  obtain ⟨f1, f2⟩ := pf_some hM (by omega) hi
  rw [e] at f1 f2
  have hM' := hM
  obtain ⟨m1, m2, m3, m4, m5, m6, m7, m8, m9⟩ := hM
  obtain ⟨a1, a2, a3, a4, a5, a6, a7, a8, a9, a10, a11, a12, a13, a14, ⟨f, hf, ef⟩, a16⟩ := m8 i hi
  have hi12 : i < 12 := by omega
  have hnt : nt < 2 ^ 31 := by omega
  have hI : pr_I j K w nt np tk M N := ⟨nl, nr, made, q, ts, tm, fr, hD, ⟨hF, hT, hM', hA, hZ, hV⟩, hk⟩
  have hI2 := pp_lvl hI (v := M 48 tm[i].2) (u := N 28 i + 1) (by rw [a9])
  have eC : fC_doTimer M (nI nt) = px_bq (if M 50 tm[i].2 = 0 then fC_Timers_remove (px_up M 0 14 (M 48 tm[i].2)) (nI nt) else some (px_up M 0 14 (M 48 tm[i].2))) (fun M22 => px_bq (px_bq (fC_run M22 (nI f) (M 46 tm[i].2) (1 : Int32)) fC_reportFailure) (fun M26 => fC_Timers_restart (px_up M26 0 14 0) (nI nt) ((px_up M26 0 14 0) 0 10))) := by
    unfold fC_doTimer fC_Timers_functionAt fC_Timers_argumentAt fC_Timers_levelAt fC_Timers_repeatsAt
    rw [f1, pi_bq, if_neg (pg_neg1 (by omega))]
    simp only [px_bn, pn_ck a3 (show (12 : Nat) < 2 ^ 31 by omega), nI_clamp (show tm[i].2 < 2 ^ 31 by omega), pi_bq]
    rw [show (px_up M 0 14 (M 48 tm[i].2)) 50 tm[i].2 = M 50 tm[i].2 from rfl, pg_cb a13, pi_bq, ef]
    by_cases c : M 50 tm[i].2 = 0
    · rw [if_pos c, if_pos c]
      simp only [pm_as, pd_bq]
    · rw [if_neg c, if_neg c]
      simp only [pm_as, pd_bq, pi_bq]
  have eR : fR_M_doTimer N (nI nt) = px_bq (if M 50 tm[i].2 = 0 then fR_M_dropTimer (px_up N 0 60 (N 28 i + 1)) (nI i) else some (px_up N 0 60 (N 28 i + 1))) (fun M27 => px_bq (fR_M_runAndTell M27 (nI f) (M 46 tm[i].2)) (fun M29 => pp_rsR (px_up M29 0 60 1) (nI nt))) := by
    unfold fR_M_doTimer pp_rsR
    rw [f2, pi_bq]
    simp only [px_bn, pn_ck hi12 (show (12 : Nat) < 2 ^ 31 by omega), nI_clamp (show i < 2 ^ 31 by omega)]
    rw [show (px_up N 0 60 (N 28 i + 1)) 30 i = M 50 tm[i].2 from a11, a6, ef, a7]
    by_cases c : M 50 tm[i].2 = 0
    · rw [if_pos c, if_pos c]
    · rw [if_neg c, if_neg c, pi_bq]
  have rest : ∀ (M2 N2 : px_M), pr_I j K w nt np tk M2 N2 → M2 0 = (px_up M 0 14 (M 48 tm[i].2)) 0 → (∀ i', i' ≠ 32 → N2 0 i' = (px_up N 0 60 (N 28 i + 1)) 0 i') → N2 33 = N 33 → ∃ (M' N' : px_M) (np' : Nat), px_bq (px_bq (fC_run M2 (nI f) (M 46 tm[i].2) (1 : Int32)) fC_reportFailure) (fun M26 => fC_Timers_restart (px_up M26 0 14 0) (nI nt) ((px_up M26 0 14 0) 0 10)) = some M' ∧ px_bq (fR_M_runAndTell N2 (nI f) (M 46 tm[i].2)) (fun M29 => pp_rsR (px_up M29 0 60 1) (nI nt)) = some N' ∧ np ≤ np' ∧ pr_I j (K + 217) w 0 np' tk M' N' ∧ pv_q M N M' N' ∧ M' 0 12 = nI (b + 1) ∧ N' 0 62 = nI (b + 1) := by
    intro M2 N2 hI3 e0 e1 e33
    obtain ⟨M3, N3, np3, b1, b2, b3, b4, b5, b6, b7⟩ := pm_run (b := b) hI3 (by omega) (by rw [e0, pv_ui (Or.inr (by omega)), h12]) (by rw [e1 _ (by omega), pv_ui (Or.inr (by omega)), h62]) hf (M 46 tm[i].2)
    rw [b1, b2, pi_bq, pi_bq]
    obtain ⟨M4, N4, c1, c2, c3, c4, c5, c6⟩ := pp_restart (pp_lvl b4 (v := 0) (u := 1) (by decide)) (by omega) hnt
    refine ⟨M4, N4, np3, c1, c2, b3, c3, ⟨fun i' i1 i2 i3 i4 i5 => ?_, fun i' hi' => ?_, ?_⟩, ?_, ?_⟩
    · rw [c4]
      by_cases h : i' = 14
      · subst h; rw [pn_up, pn_us, h14]
      · rw [pv_ui (Or.inr h), b5.1 i' i1 i2 i3 i4 i5, e0, pv_ui (Or.inr h)]
    · rw [c5]
      by_cases h : i' = 60
      · subst h
        rw [pn_up, pn_us, hZ.2.2.2.2, h14]
        decide
      · rw [pv_ui (Or.inr h), b5.2.1 i' hi', e1 i' (by omega), pv_ui (Or.inr h)]
    · rw [c6, pn_un (by omega), b5.2.2, e33]
    · rw [c4, pv_ui (Or.inr (by omega)), b6]
    · rw [c5, pv_ui (Or.inr (by omega)), b7]
  rw [eC, eR]
  by_cases c : M 50 tm[i].2 = 0
  · rw [if_pos c, if_pos c]
    obtain ⟨M2, N2, b1, b2, b3, b4, b5, b6⟩ := pg_drop (M := px_up M 0 14 (M 48 tm[i].2)) (N := px_up N 0 60 (N 28 i + 1)) (made := made) (tm := tm) hM' (by omega) hi
    rw [e] at b1
    rw [b1, b2, pi_bq, pi_bq]
    obtain ⟨nl', nr', made', q', ts', tm', fr', hD', hE', hk'⟩ := hI2
    obtain ⟨v1, v2, v3, v4, v5⟩ := hV
    have hfE : pr_fE (px_up M 0 14 (M 48 tm[i].2)) (px_up N 0 60 (N 28 i + 1)) M2 N2 := ⟨b4 0 (by omega), fun k _ => b4 k (by omega), fun k k0 _ => b5 k k0 (by omega), fun i _ i2 _ _ => b6 i i2⟩
    have hE1 : pr_E j nt tk made ts tm fr (px_up M 0 14 (M 48 tm[i].2)) (px_up N 0 60 (N 28 i + 1)) := by
      refine ⟨pc_F hF (fun k _ _ => by rw [pn_un (by omega)]) (fun k _ _ => by rw [pn_un (by omega)]), pc_T hT (fun k _ _ => by rw [pn_un (by omega)]) (fun k _ _ => by rw [pn_un (by omega)]) (by rw [pv_ui (Or.inr (by omega))]), hM', pc_AI hA (fun k _ _ => by rw [pn_un (by omega)]) rfl (by rw [pv_ui (Or.inr (by omega))]) (by rw [pv_ui (Or.inr (by omega))]), ?_, ⟨v1, v2, v3, v4, v5⟩⟩
      unfold pr_ZI
      rw [pv_ui (M := M) (Or.inr (show 9 ≠ 14 by omega)), pv_ui (M := M) (Or.inr (show 10 ≠ 14 by omega)), pv_ui (M := M) (Or.inr (show 11 ≠ 14 by omega)), pv_ui (M := N) (Or.inr (show 30 ≠ 60 by omega)), pv_ui (M := N) (Or.inr (show 31 ≠ 60 by omega)), pv_ui (M := N) (Or.inr (show 42 ≠ 60 by omega)), pn_up, pn_up, pn_us, pn_us]
      exact ⟨hZ.1, hZ.2.1, hZ.2.2.1, hZ.2.2.2.1, by rw [a9]⟩
    have hD1 : pr_D w np nl nr q (px_up M 0 14 (M 48 tm[i].2)) (px_up N 0 60 (N 28 i + 1)) := pc_D hD rfl (fun k _ _ => by rw [pn_un (by omega)]) (fun k _ _ => by rw [pn_un (by omega)]) (fun k _ _ => by rw [pn_un (by omega)]) rfl rfl (by rw [pv_ui (Or.inr (by omega))]) (by rw [pv_ui (Or.inr (by omega))]) (by rw [pv_ui (Or.inr (by omega))]) (by rw [pv_ui (Or.inr (by omega))]) (by rw [pv_ui (Or.inr (by omega))]) (by rw [pv_ui (Or.inr (by omega))]) (by rw [pv_ui (Or.inr (by omega))])
    obtain ⟨hF1, hT1, hM1, hA1, hZ1, hV1⟩ := hE1
    refine rest M2 N2 ⟨nl, nr, made, q, ts, tm.eraseIdx i, fr, pr_fE_D hD1 hfE, ⟨pc_F hF1 (fun k _ _ => b4 k (by omega)) (fun k _ _ => b5 k (by omega) (by omega)), pc_T hT1 (fun k _ _ => b4 k (by omega)) (fun k _ _ => b5 k (by omega) (by omega)) (b6 _ (by omega)), b3, pc_AI hA1 (fun k _ _ => b4 k (by omega)) (b5 _ (by omega) (by omega)) (b6 _ (by omega)) (b6 _ (by omega)), pc_ZI hZ1 (by rw [b4 0 (by omega)]) (by rw [b4 0 (by omega)]) (by rw [b4 0 (by omega)]) (by rw [b4 0 (by omega)]) (b6 _ (by omega)) (b6 _ (by omega)) (b6 _ (by omega)) (b6 _ (by omega)), pc_V (M := px_up M 0 14 (M 48 tm[i].2)) ?_ (b4 _ (by omega))⟩, hk⟩ (b4 0 (by omega)) (fun i' hi' => b6 i' hi') (b5 33 (by omega) (by omega))
    refine ⟨v1, v2, fun y hy h9 => ?_, fun y hy => v4 y ((List.eraseIdx_sublist tm i).subset hy), v5⟩
    obtain ⟨u, u1, u2⟩ := v3 y hy h9
    refine ⟨u, ?_, u2⟩
    obtain ⟨k, hk, rfl⟩ := List.getElem_of_mem u1
    rw [List.mem_eraseIdx_iff_getElem]
    refine ⟨k, hk, fun e' => ?_, rfl⟩
    subst e'
    exact v5 (by omega) y hy (by rw [← u2, e])
  · rw [if_neg c, if_neg c, pi_bq, pi_bq]
    exact rest _ _ hI2 rfl (fun _ _ => rfl) (by rw [pn_un (by omega)])
/-- a task -/
theorem pp_task {j K b np : Nat} {M N : px_M} (hK : K + 11750 < 2 ^ 31) (hb : b ≤ 50) (hI : pr_I j (K + 217 * b) 120 0 np [] M N) (h12 : M 0 12 = nI b) (h62 : N 0 62 = nI b) (h14 : M 0 14 = 0) (hne : N 0 25 ≠ 0) :
    (fC_doTask M = some ((0 : Int32), M) ∧ fR_M_doTask N = some ((0 : Int32), N)) ∨ ∃ (M' N' : px_M) (np' b' : Nat), fC_doTask M = some ((1 : Int32), M') ∧ fR_M_doTask N = px_bo (fR_M_checkpoint N') (fun r23 M24 => px_cb r23 (some (r23, M24))) ∧ np ≤ np' ∧ b ≤ b' ∧ b' ≤ 50 ∧ pr_I j (K + 217 * b') 120 0 np' [] M' N' ∧ pv_q M N M' N' ∧ M' 0 12 = nI b' ∧ N' 0 62 = nI b' := by
  obtain ⟨nl, nr, made, q, ts, tm, fr, hD, ⟨hF, hT, hM, hA, hZ, hV⟩, hk⟩ := hI
  have hl : 0 < ts.length := by
    rcases Nat.eq_zero_or_pos ts.length with h | h
    · exact absurd (by rw [hT.2.1, h]; rfl) hne
    · exact h
  obtain ⟨⟨k, k1, k2, k3⟩, hZ2⟩ := hZ
  have hm8 := hM.2.2.2.2.2.2.2.1
  obtain ⟨i0, t, ts', M1, N1, a1, a2, a3, a4, a5, a6, a7, a8, a9, a10, a11, a12⟩ := po_take (tm := tm) hT k2 k3 k1 hl hV (fun x hx => by
    obtain ⟨i, hi, rfl⟩ := List.getElem_of_mem hx
    exact (hm8 i hi).1)
  have hD1 : pr_D 120 np nl nr q M1 N1 := pc_D hD (a10 _ (by omega)) (fun k _ _ => a10 k (by omega)) (fun k _ _ => a10 k (by omega)) (fun k _ _ => a11 k (by omega) (by omega)) (a11 _ (by omega) (by omega)) (a11 _ (by omega) (by omega)) (a12 _ (by omega)) (a12 _ (by omega)) (a12 _ (by omega)) (a12 _ (by omega)) (a12 _ (by omega)) (a12 _ (by omega)) (a12 _ (by omega))
  have hE1 : pr_E j t.2.2.2 [] made ts' tm fr M1 N1 := ⟨pc_F hF (fun k _ _ => a10 k (by omega)) (fun k _ _ => a11 k (by omega) (by omega)), a8, pc_M hM (fun k _ _ => a10 k (by omega)) (fun k _ _ => a11 k (by omega) (by omega)) (a12 _ (by omega)) (a12 _ (by omega)), pc_AI hA (fun k _ _ => a10 k (by omega)) (a11 _ (by omega) (by omega)) (a12 _ (by omega)) (a12 _ (by omega)), pc_ZI ⟨⟨k, k1, k2, k3⟩, hZ2⟩ (by rw [a10 0 (by omega)]) (by rw [a10 0 (by omega)]) (by rw [a10 0 (by omega)]) (by rw [a10 0 (by omega)]) (a12 _ (by omega)) (a12 _ (by omega)) (a12 _ (by omega)) (a12 _ (by omega)), pc_V a9 (a10 _ (by omega))⟩
  have q1 : pv_q M N M1 N1 := ⟨fun i _ _ _ _ _ => by rw [a10 0 (by omega)], fun i _ => a12 i (by omega), a11 33 (by omega) (by omega)⟩
  have h12' : M1 0 12 = nI b := by rw [a10 0 (by omega), h12]
  have h62' : N1 0 62 = nI b := by rw [a12 62 (by omega), h62]
  have h14' : M1 0 14 = 0 := by rw [a10 0 (by omega), h14]
  rw [a7]
  unfold fR_M_doTask
  rw [a2, pi_bq, pn_ck a1 (by omega), nI_clamp (by omega)]
  simp only [px_bn, pn_ck a1 (show (4096 : Nat) < 2 ^ 31 by omega)]
  rw [a3, a6, h62]
  simp only [pi_bq]
  unfold po_D
  rw [h12]
  by_cases c0 : t.2.2.2 = 0
  · obtain ⟨y1, y2, f, hf, y3⟩ := a4 c0
    have ct : pr_ct t = (0, t.2.1, t.2.2.1) := by unfold pr_ct; rw [if_pos c0]
    rw [ct, c0, if_neg (show ¬ (0 : Int32) = 1 by decide), if_pos (show nI 0 ≤ (0 : Int32) by decide)]
    by_cases c : b < 50
    · right
      obtain ⟨M2, N2, np2, b1, b2, b3, b4, b5, b6, b7⟩ := pm_run (b := b) ⟨nl, nr, made, q, ts', tm, fr, hD1, hE1, hk⟩ (by omega) h12' h62' hf t.2.2.1
      rw [c0] at b4
      rw [if_pos (show nI b < (50 : Int32) from nI_lt (b := 50) c (by omega)), if_neg (show ¬ nI b = (50 : Int32) from fun h => by have := (nI_eq (b := 50) (by omega) (by omega)).mp h; omega), if_pos (show nI 0 = (0 : Int32) from rfl), y1, y2, y3, b2]
      refine ⟨M2, N2, np2, b + 1, ?_, rfl, b3, by omega, by omega, by rw [show K + 217 * (b + 1) = K + 217 * b + 217 by omega]; exact b4, pv_q_t q1 b5, b6, b7⟩
      show px_bq (some M1) (fun M14 => px_bq (fC_run M14 (nI f) t.2.2.1 (1 : Int32)) (fun M16 => px_bq (fC_reportFailure M16) (fun M18 => some ((1 : Int32), M18)))) = some ((1 : Int32), M2)
      rw [pi_bq, ← pm_as, b1, pi_bq]
    · left
      rw [if_neg (show ¬ nI b < (50 : Int32) from nI_nlt (b := 50) (by omega) (by omega)), if_pos (show nI b = (50 : Int32) by rw [show b = 50 by omega]; rfl)]
      exact ⟨rfl, rfl⟩
  · have hnt : t.2.2.2 < 2 ^ 31 := by omega
    have ct : pr_ct t = (1, nI t.2.2.2, 0) := by unfold pr_ct; rw [if_neg c0]
    rw [ct, if_pos rfl, if_neg (nI_nle (by omega) hnt)]
    by_cases ca : ∃ i, ∃ hi : i < tm.length, tm[i].1 = t.2.2.2
    · obtain ⟨i, hi, e⟩ := ca
      obtain ⟨f1, f2⟩ := pf_some hM (by omega) hi
      rw [e] at f1 f2
      have := hM.1
      have := (hm8 i hi).2.2.1
      rw [f1, f2]
      simp only [pi_bq]
      rw [if_neg (pg_neg1 (by omega)), if_pos (show (0 : Int32) ≤ nI i from nI_le (a := 0) (by omega) (by omega))]
      by_cases c : b < 50
      · right
        obtain ⟨M2, N2, np2, b1, b2, b3, b4, b5, b6, b7⟩ := pp_timer hD1 hE1 hk (by omega) h12' h62' h14' hi e
        rw [if_pos (show nI b < (50 : Int32) from nI_lt (b := 50) c (by omega)), if_neg (show ¬ nI b = (50 : Int32) from fun h => by have := (nI_eq (b := 50) (by omega) (by omega)).mp h; omega), if_neg (nI_ne0 (by omega) hnt), b1, b2]
        exact ⟨M2, N2, np2, b + 1, rfl, rfl, b3, by omega, by omega, by rw [show K + 217 * (b + 1) = K + 217 * b + 217 by omega]; exact b4, pv_q_t q1 b5, b6, b7⟩
      · left
        rw [if_neg (show ¬ nI b < (50 : Int32) from nI_nlt (b := 50) (by omega) (by omega)), if_pos (show nI b = (50 : Int32) by rw [show b = 50 by omega]; rfl)]
        exact ⟨rfl, rfl⟩
    · right
      have hno : ∀ (i : Nat) (hi : i < tm.length), nI t.2.2.2 ≠ nI tm[i].1 := fun i hi e => ca ⟨i, hi, ((nI_eq hnt (by have := (hm8 i hi).2.1; omega)).mp e).symm⟩
      obtain ⟨f1, f2⟩ := pf_none hM hno
      obtain ⟨f3, f4⟩ := pf_none hE1.2.2.1 hno
      rw [f1, f2]
      simp only [pi_bq]
      rw [if_pos trivial, if_neg (show ¬ (0 : Int32) ≤ -1 by decide), if_neg (nI_ne0 (by omega) hnt), ite_self]
      refine ⟨M1, N1, np, b, ?_, rfl, Nat.le_refl _, Nat.le_refl _, hb, ⟨nl, nr, made, q, ts', tm, fr, hD1, ?_, hk⟩, q1, h12', h62'⟩
      · unfold fC_doTimer
        rw [f3]
        rfl
      · obtain ⟨x1, x2, x3, x4, x5, v1, v2, v3, v4, v5⟩ := hE1
        refine ⟨x1, x2, x3, x4, x5, v1, v2, v3, fun y hy _ => v4 y hy (fun e => ca ?_), fun h => absurd rfl h⟩
        obtain ⟨k, hk, rfl⟩ := List.getElem_of_mem hy
        exact ⟨k, hk, e⟩
