/-! The steps of a run that begin no other run. -/
/-- both go on, or both fail with the same number -/
def pd_two (j K w z np : Nat) (tk : List Int32) (M N : px_M) (oc or : Option px_M) : Prop :=
  (∃ M' N' np', oc = some M' ∧ or = some N' ∧ np ≤ np' ∧ pr_I j K w z np' tk M' N' ∧ pr_kp M N M' N') ∨ ∃ v, oc = some (px_up (px_up M 0 15 1) 0 17 v) ∧ or = some (px_up (px_up N 0 63 1) 0 64 v)
theorem pd_fail (M N : px_M) (v : Int32) : fC_fail M v = some (px_up (px_up M 0 15 1) 0 17 v) ∧ fR_M_fail N v = some (px_up (px_up N 0 63 1) 0 64 v) := ⟨rfl, rfl⟩
theorem pd_bq {o : Option px_M} : px_bq o (fun M => some M) = o := by cases o <;> rfl
theorem pd_note {j K w z np : Nat} {tk : List Int32} {M N : px_M} (h : pr_I j K w z np tk M N) (v : Int32) : pd_two j K w z np tk M N (fC_Journal_keep_28 M v) (if (200 : Int32) ≤ N 0 48 then some N else px_ck (N 0 48) 200 (some (px_up (px_up N 34 (N 0 48).toNatClampNeg v) 0 48 ((px_up N 34 (N 0 48).toNatClampNeg v) 0 48 + 1)))) := by
  have h' := h
  obtain ⟨nl, nr, made, q, ts, tm, fr, hD, hE, hK⟩ := h
  obtain ⟨hG, hP, hR, hQ, hU, hC, hW, hL⟩ := hD
  obtain ⟨⟨n, n1, n2, n3⟩, l2, l3, l4⟩ := hL
  left
  unfold fC_Journal_keep_28
  rw [n2, n3]
  by_cases d : n = 200
  · subst d
    rw [if_pos (show (200 : Int32) ≤ nI 200 by decide), if_pos (show (200 : Int32) ≤ nI 200 by decide)]
    exact ⟨M, N, np, rfl, rfl, Nat.le_refl _, h', pr_kp_r M N⟩
  · have e : ¬ (200 : Int32) ≤ nI n := nI_ge (b := 200) (by omega) (by omega)
    rw [if_neg e, if_neg e, pn_ck (show n < 200 by omega) (by omega), pn_ck (show n < 200 by omega) (by omega), nI_clamp (by omega)]
    simp only [px_bn]
    rw [show (px_up M 29 n v) 28 1 = nI n from n2, show (px_up N 34 n v) 0 48 = nI n from n3, nI_1]
    refine ⟨_, _, np, rfl, rfl, Nat.le_refl _, ⟨nl, nr, made, q, ts, tm, fr, ⟨hG, hP, hR, hQ, hU, hC, hW, ⟨⟨n + 1, by omega, by rw [pn_up, pn_us], by rw [pn_up, pn_us]⟩, ?_, l3, l4⟩⟩, hE, hK⟩, ⟨rfl, fun i hi => ?_, fun a ha => ?_, fun a h1 h2 => ?_⟩⟩
    · show upd (M 29) n v = upd (N 34) n v
      rw [l2]
    · rw [pn_up, pn_ue (by omega)]; rfl
    · rw [pn_un (by omega), pn_un (by omega)]
    · rw [pn_un (by omega), pn_un (by omega)]
theorem pd_post {j K w z np : Nat} {tk : List Int32} {M N : px_M} (h : pr_I j K w z np tk M N) {s f : Nat} (hs : s < 3) (hf : f < 10) (x : Int32) : pd_two j K w z np tk M N (fC_postStep M (nI s) (nI f) x) (fR_M_place N 1 (nI f) (nI s) x) := by
  obtain ⟨nl, nr, made, q, ts, tm, fr, hD, hE, hK⟩ := h
  obtain ⟨hF, hT, hM, hA, hZ, hV⟩ := hE
  unfold fC_postStep fR_M_place
  rw [pl_waiting hT, pi_bq, hT.2.1, if_pos rfl, if_pos rfl]
  by_cases c : ts.length < 40
  · left
    have e : nI ts.length < (40 : Int32) := nI_lt (b := 40) c (by omega)
    rw [if_pos e, if_pos e]
    obtain ⟨M', N', b1, b2, b3, b4, b5, b6, b7⟩ := pq_add (t := (s, nI f, x, 0)) hT hs (by omega) (by show (pr_of s ts).length < (if s = 1 then 1051 else 40); have := pq_len s ts; split <;> omega) (fun _ => ⟨f, hf, rfl⟩) (Nat.zero_le _) (fun hh => absurd rfl hh) (nI f) x (fun _ => ⟨rfl, rfl⟩)
    have b2 : fR_M_addTask N (nI s) (nI f) x 0 = some N' := b2
    have hfE : pr_fE M N M' N' := ⟨b4 0 (by omega), fun k _ => b4 k (by omega), fun k k0 _ => b5 k k0 (by omega), fun i i1 _ _ _ => b6 i i1⟩
    refine ⟨M', N', np, ?_, by rw [b2]; rfl, Nat.le_refl _, ⟨nl, nr, made, q, ts ++ [(s, nI f, x, 0)], tm, fr, pr_fE_D hD hfE, ⟨pc_F hF (fun k _ _ => b4 k (by omega)) (fun k _ _ => b5 k (by omega) (by omega)), b3, pc_M hM (fun k _ _ => b4 k (by omega)) (fun k _ _ => b5 k (by omega) (by omega)) (b6 _ (by omega)) (b6 _ (by omega)), pc_AI hA (fun k _ _ => b4 k (by omega)) (b5 _ (by omega) (by omega)) (b6 _ (by omega)) (b6 _ (by omega)), pc_ZI hZ (by rw [b4 0 (by omega)]) (by rw [b4 0 (by omega)]) (by rw [b4 0 (by omega)]) (by rw [b4 0 (by omega)]) (b6 _ (by omega)) (b6 _ (by omega)) (b6 _ (by omega)) (b6 _ (by omega)), ?_⟩, hK⟩, pr_fE_kp hfE⟩
    · rcases (show s = 0 ∨ s = 1 ∨ s = 2 by omega) with rfl | rfl | rfl
      · have b1 : fC_Line_put_8 M 0 (nI f) x = some M' := b1
        rw [if_pos (show nI 0 = 0 from rfl), b1]; rfl
      · have b1 : fC_Line_put_12 M 0 (nI f) x = some M' := b1
        rw [if_neg (by decide), if_pos (show nI 1 = 1 from rfl), b1]; rfl
      · have b1 : fC_Line_put_16 M 0 (nI f) x = some M' := b1
        rw [if_neg (by decide), if_neg (by decide), if_pos (show nI 2 = 2 from rfl), b1]; rfl
    · obtain ⟨v1, v2, v3, v4, v5⟩ := hV
      have v51 : M' 51 = M 51 := b4 51 (by omega)
      refine ⟨by simpa using v1, ?_, ?_, ?_, ?_⟩
      · rw [List.filter_append, List.length_append]
        have := List.length_filter_le (fun t : pr_Tk => t.2.2.2 == 0) ts
        simp
        omega
      · intro t ht h9
        rcases List.mem_append.mp ht with ht | ht
        · exact v3 t ht h9
        · simp at ht; subst ht; simp at h9
      · intro y hy hyz
        rw [v51, v4 y hy hyz]
        constructor
        · rintro ⟨t, h1, h2⟩; exact ⟨t, List.mem_append_left _ h1, h2⟩
        · rintro ⟨t, h1, h2⟩
          rcases List.mem_append.mp h1 with h1 | h1
          · exact ⟨t, h1, h2⟩
          · simp at h1
            subst h1
            obtain ⟨i, hi, e⟩ := List.getElem_of_mem hy
            have := (hM.2.2.2.2.2.2.2.1 i hi).1
            rw [e] at this
            simp at h2
            omega
      · intro hz t ht
        rcases List.mem_append.mp ht with ht | ht
        · exact v5 hz t ht
        · simp at ht; subst ht; exact fun hh => hz hh.symm
  · right
    have e : ¬ nI ts.length < (40 : Int32) := nI_nlt (b := 40) (by omega) (by have := hT.1; omega)
    rw [if_neg e, if_neg e]
    exact ⟨-2, rfl, rfl⟩
theorem pd_micro {j K w z np : Nat} {tk : List Int32} {M N : px_M} (h : pr_I j K w z np tk M N) {f : Nat} (hf : f < 10) (b x : Int32) : pd_two j K w z np tk M N (fC_microStep M (nI f) x) (fR_M_place N 2 (nI f) b x) := by
  obtain ⟨nl, nr, made, q, ts, tm, fr, hD, hE, hK⟩ := h
  have hQ := hD.2.2.2.1
  have e21 : N 0 21 = nI q.length := by
    obtain ⟨g, -, -, -, e, -⟩ := hQ.2.1
    rw [e, List.length_map]
  have hql : q.length ≤ 180 := by obtain ⟨g, -, e, -⟩ := hQ.1; exact e
  unfold fC_microStep fR_M_place
  rw [gl_size_20, gl_size_ok hQ.1, pi_bq, e21, if_neg (show ¬ (2 : Int32) = 1 by decide), if_neg (show ¬ (2 : Int32) = 1 by decide), if_pos rfl, if_pos rfl]
  by_cases c : q.length < 60
  · left
    have e : nI q.length < (60 : Int32) := nI_lt (b := 60) c (by omega)
    rw [if_pos e, if_pos e]
    obtain ⟨M', N', a1, a2, a3, a4⟩ := pw_micro hD c hf x
    exact ⟨M', N', np, by rw [a1]; rfl, by rw [a2]; rfl, Nat.le_refl _, ⟨nl, nr, made, _, ts, tm, fr, a3, pr_fD_E hE a4, hK⟩, pr_fD_kp a4⟩
  · right
    have e : ¬ nI q.length < (60 : Int32) := nI_nlt (b := 60) (by omega) (by omega)
    rw [if_neg e, if_neg e]
    exact ⟨-2, rfl, rfl⟩
theorem pd_frame {j K w z np : Nat} {tk : List Int32} {M N : px_M} (h : pr_I j K w z np tk M N) {f : Nat} (hf : f < 10) (b x : Int32) : pd_two j K w z np tk M N (fC_frameStep M (nI f)) (fR_M_place N 14 (nI f) b x) := by
  obtain ⟨nl, nr, made, q, ts, tm, fr, hD, hE, hK⟩ := h
  obtain ⟨hF, hT, hM, hA, hZ, hV⟩ := hE
  obtain ⟨a1, a2, a3, a4, a5⟩ := hA
  have hl8 : tk.length + fr.length ≤ 8 := by obtain ⟨g, -, e, -⟩ := a1; simpa using e
  unfold fC_frameStep fR_M_place
  rw [gl_size_24, gl_size_ok a1, pi_bq, a2, a3, nI_add, if_neg (show ¬ (14 : Int32) = 1 by decide), if_neg (show ¬ (14 : Int32) = 1 by decide), if_neg (show ¬ (14 : Int32) = 2 by decide), if_neg (show ¬ (14 : Int32) = 2 by decide), if_pos rfl, if_pos rfl]
  simp only [List.length_map, List.length_append]
  rw [Nat.add_comm fr.length]
  by_cases c : tk.length + fr.length < 8
  · left
    have e : nI (tk.length + fr.length) < (8 : Int32) := nI_lt (b := 8) c (by omega)
    rw [if_pos e, if_pos e, pn_ck (show fr.length < 24 by omega) (by omega), nI_clamp (by omega)]
    simp only [px_bn]
    rw [show (px_up N 32 fr.length (nI f)) 0 43 = nI fr.length from a2, nI_1]
    obtain ⟨M', b1, b2, b3⟩ := gl_put_ok (by omega) a1 (by simp; omega) 0 (nI f) 0
    have hfE : pr_fE M N M' (px_up (px_up N 32 fr.length (nI f)) 0 43 (nI (fr.length + 1))) := ⟨b3 0 (by omega), fun k _ => b3 k (by omega), fun k k0 _ => by rw [pn_un k0, pn_un (by omega)], fun i _ _ _ i4 => by rw [pn_up, pn_ue i4]; rfl⟩
    refine ⟨M', _, np, by rw [gl_put_24, b1]; rfl, rfl, Nat.le_refl _, ⟨nl, nr, made, q, ts, tm, fr ++ [nI f], pr_fE_D hD hfE, ⟨pc_F hF (fun k _ _ => b3 k (by omega)) (fun k _ _ => hfE.2.2.1 k (by omega) (by omega)), pc_T hT (fun k _ _ => b3 k (by omega)) (fun k _ _ => by rw [pn_un (by omega), pn_un (by omega)]) (by rw [pn_up, pn_ue (by omega)]; rfl), pc_M hM (fun k _ _ => b3 k (by omega)) (fun k _ _ => by rw [pn_un (by omega), pn_un (by omega)]) (by rw [pn_up, pn_ue (by omega)]; rfl) (by rw [pn_up, pn_ue (by omega)]; rfl), ⟨?_, ?_, ?_, ?_, ?_⟩, pc_ZI hZ (by rw [b3 0 (by omega)]) (by rw [b3 0 (by omega)]) (by rw [b3 0 (by omega)]) (by rw [b3 0 (by omega)]) rfl rfl rfl rfl, pc_V hV (b3 _ (by omega))⟩, hK⟩, pr_fE_kp hfE⟩
    · rw [← List.append_assoc, List.map_append]; exact b2
    · rw [pn_up, pn_us]; simp
    · exact a3
    · intro i hi
      show upd (N 32) fr.length (nI f) i = _
      by_cases c1 : i < fr.length
      · rw [pn_ue (by omega), List.getElem_append_left c1]; exact a4 i c1
      · have c1 : i = fr.length := by simp at hi; omega
        subst c1
        rw [pn_us, List.getElem_append_right (Nat.le_refl _)]
        simp
    · intro y hy
      rw [← List.append_assoc] at hy
      rcases List.mem_append.mp hy with hy | hy
      · exact a5 y hy
      · simp at hy; exact ⟨f, hf, hy⟩
  · right
    have e : ¬ nI (tk.length + fr.length) < (8 : Int32) := nI_nlt (b := 8) (by omega) (by omega)
    rw [if_neg e, if_neg e]
    exact ⟨-2, rfl, rfl⟩
theorem pd_wait {j K w z np : Nat} {tk : List Int32} {M N : px_M} (h : pr_I j K w z np tk M N) (hK1 : K + 1 < 2 ^ 31) {f d : Nat} (hf : f < 10) (hd : d ≤ 200) (x : Int32) {c rep : Int32} (hc : (c = 3 ∧ rep = 0) ∨ (c = 4 ∧ rep = 1)) : pd_two j (K + 1) w z np tk M N (fC_timerStep M (nI f) x (nI d) rep) (fR_M_place N c (nI f) (nI d) x) := by
  obtain ⟨nl, nr, made, q, ts, tm, fr, hD, hE, hK⟩ := h
  obtain ⟨hF, hT, hM, hA, hZ, hV⟩ := hE
  have hrep : pr_B rep := by
    rcases hc with ⟨-, e⟩ | ⟨-, e⟩
    · rw [e]; exact Or.inl rfl
    · rw [e]; exact Or.inr rfl
  have eR : fR_M_place N c (nI f) (nI d) x = if N 0 32 = (12 : Int32) then fR_M_fail N (-2) else fR_M_addTimer N (nI f) x (nI d) rep := by
    unfold fR_M_place
    rcases hc with ⟨rfl, rfl⟩ | ⟨rfl, rfl⟩
    · rw [if_neg (by decide), if_neg (by decide), if_neg (by decide)]
      simp only [pd_bq]
      rfl
    · rw [if_neg (by decide), if_neg (by decide), if_neg (by decide)]
      simp only [pd_bq]
      rfl
  unfold fC_timerStep fC_Timers_isFull
  rw [eR, hM.2.1, hM.2.2.1]
  have hl := hM.1
  by_cases e : tm.length = 12
  · right
    rw [e, if_neg (show ¬ nI 12 < (12 : Int32) by decide), pi_bq, if_neg (by decide), if_pos (show nI 12 = (12 : Int32) from rfl)]
    exact ⟨-2, rfl, rfl⟩
  · left
    rw [if_pos (show nI tm.length < (12 : Int32) from nI_lt (b := 12) (by omega) (by omega)), pi_bq, if_pos rfl, if_neg (show ¬ nI tm.length = (12 : Int32) from fun hh => e ((nI_eq (b := 12) (by omega) (by omega)).mp hh))]
    obtain ⟨z1, ⟨t, z2, z3, z4⟩, z5, z6, z7⟩ := hZ
    obtain ⟨M', N', p, a1, a2, a3, a4, a5, a6, a7, a8⟩ := pg_make hM (by omega) (by omega) hf hd hrep x (lv := M 0 14 + 1) (now := M 0 10) z7 (by rw [z3, z4])
    have hfE : pr_fE M N M' N' := ⟨a6 0 (by omega), fun k _ => a6 k (by omega), fun k k0 _ => a7 k k0 (by omega), fun i _ i2 i3 _ => a8 i i2 i3⟩
    refine ⟨M', N', np, by rw [a1]; rfl, a2, Nat.le_refl _, ⟨nl, nr, made + 1, q, ts, tm ++ [(made + 1, p)], fr, pr_fE_D hD hfE, ⟨pc_F hF (fun k _ _ => a6 k (by omega)) (fun k _ _ => a7 k (by omega) (by omega)), ?_, a3, pc_AI hA (fun k _ _ => a6 k (by omega)) (a7 _ (by omega) (by omega)) (a8 _ (by omega) (by omega)) (a8 _ (by omega) (by omega)), pc_ZI ⟨z1, ⟨t, z2, z3, z4⟩, z5, z6, z7⟩ (by rw [a6 0 (by omega)]) (by rw [a6 0 (by omega)]) (by rw [a6 0 (by omega)]) (by rw [a6 0 (by omega)]) (a8 _ (by omega) (by omega)) (a8 _ (by omega) (by omega)) (a8 _ (by omega) (by omega)) (a8 _ (by omega) (by omega)), ?_⟩, by omega⟩, pr_fE_kp hfE⟩
    · obtain ⟨t1, t2, t3, t4, t5, t6, t7⟩ := pc_T hT (fun k _ _ => a6 k (by omega)) (fun k _ _ => a7 k (by omega) (by omega)) (a8 _ (by omega) (by omega))
      refine ⟨t1, t2, t3, t4, t5, t6, fun y hy => ?_⟩
      obtain ⟨y1, y2, y3⟩ := t7 y hy
      exact ⟨y1, by omega, y3⟩
    · obtain ⟨v1, v2, v3, v4, v5⟩ := hV
      refine ⟨v1, v2, fun y hy h9 => ?_, fun y hy hyz => ?_, v5⟩
      · obtain ⟨u, u1, u2⟩ := v3 y hy h9
        exact ⟨u, List.mem_append_left _ u1, u2⟩
      · rcases List.mem_append.mp hy with hy | hy
        · rw [a5, pn_ue (a4 y hy)]; exact v4 y hy hyz
        · simp at hy
          subst hy
          rw [a5, pn_us]
          constructor
          · intro hh; exact absurd hh (by decide)
          · rintro ⟨u, u1, u2⟩
            have := (hT.2.2.2.2.2.2 u u1).2.1
            simp at u2
            omega
theorem pd_cancel {j K w z np : Nat} {tk : List Int32} {M N : px_M} (h : pr_I j K w z np tk M N) (hK1 : K < 2 ^ 31) {a : Int32} (ha : a ≤ 999) : pd_two j K w z np tk M N (fC_Timers_remove M a) (px_bq (fR_M_timerAt N a) (fun r32 => (if r32 < 0 then some N else px_bq (fR_M_dropTimer N r32) (fun M35 => some M35)))) := by
  left
  have h' := h
  obtain ⟨nl, nr, made, q, ts, tm, fr, hD, hE, hK⟩ := h
  obtain ⟨hF, hT, hM, hA, hZ, hV⟩ := hE
  by_cases c : ∃ i, ∃ hi : i < tm.length, a = nI tm[i].1
  · obtain ⟨i, hi, rfl⟩ := c
    obtain ⟨f1, f2⟩ := pf_some hM (by omega) hi
    obtain ⟨M', N', b1, b2, b3, b4, b5, b6⟩ := pg_drop hM (by omega) hi
    have hm8 := hM.2.2.2.2.2.2.2.1 i hi
    have h999 : tm[i].1 ≤ 999 := (nI_leI (b := 999) (by omega) (by omega)).mp ha
    have hfE : pr_fE M N M' N' := ⟨b4 0 (by omega), fun k _ => b4 k (by omega), fun k k0 _ => b5 k k0 (by omega), fun i _ i2 _ _ => b6 i i2⟩
    refine ⟨M', N', np, b1, ?_, Nat.le_refl _, ⟨nl, nr, made, q, ts, tm.eraseIdx i, fr, pr_fE_D hD hfE, ⟨pc_F hF (fun k _ _ => b4 k (by omega)) (fun k _ _ => b5 k (by omega) (by omega)), pc_T hT (fun k _ _ => b4 k (by omega)) (fun k _ _ => b5 k (by omega) (by omega)) (b6 _ (by omega)), b3, pc_AI hA (fun k _ _ => b4 k (by omega)) (b5 _ (by omega) (by omega)) (b6 _ (by omega)) (b6 _ (by omega)), pc_ZI hZ (by rw [b4 0 (by omega)]) (by rw [b4 0 (by omega)]) (by rw [b4 0 (by omega)]) (by rw [b4 0 (by omega)]) (b6 _ (by omega)) (b6 _ (by omega)) (b6 _ (by omega)) (b6 _ (by omega)), pc_V (M := M) ?_ (b4 _ (by omega))⟩, hK⟩, pr_fE_kp hfE⟩
    · have := hM.1
      rw [f2, pi_bq, if_neg (nI_pos (by omega)), b2]; rfl
    · obtain ⟨v1, v2, v3, v4, v5⟩ := hV
      refine ⟨v1, v2, fun y hy h9 => ?_, fun y hy => v4 y ((List.eraseIdx_sublist tm i).subset hy), v5⟩
      obtain ⟨u, u1, u2⟩ := v3 y hy h9
      refine ⟨u, ?_, u2⟩
      obtain ⟨k, hk, rfl⟩ := List.getElem_of_mem u1
      rw [List.mem_eraseIdx_iff_getElem]
      exact ⟨k, hk, fun e => by subst e; omega, rfl⟩
  · obtain ⟨f1, f2⟩ := pf_none hM (a := a) (fun i hi e => c ⟨i, hi, e⟩)
    refine ⟨M, N, np, ?_, ?_, Nat.le_refl _, h', pr_kp_r M N⟩
    · unfold fC_Timers_remove; rw [f1]; rfl
    · rw [f2]; rfl
/-- a register set -/
theorem pd_reg {w np nl nr : Nat} {q : List pn_J} {M N : px_M} (h : pr_D w np nl nr q M N) {r : Nat} {x y : Int32} (hxy : y = x + 1) (hx : x = -1 ∨ ∃ p, p < np ∧ x = nI p) : pr_D w np nl nr q (px_up M 6 r x) (px_up N 5 r y) := by
  obtain ⟨hG, hP, hR, hQ, hU, hC, hW, hL⟩ := h
  refine ⟨?_, hP, hR, hQ, hU, hC, hW, hL⟩
  intro i hi
  show upd (N 5) r y i = upd (M 6) r x i + 1 ∧ (upd (M 6) r x i = -1 ∨ ∃ p, p < np ∧ upd (M 6) r x i = nI p)
  by_cases e : i = r
  · subst e; rw [pn_us, pn_us]; exact ⟨hxy, hx⟩
  · rw [pn_ue e, pn_ue e]; exact hG i hi
theorem pd_freg (M N : px_M) (r : Nat) (x y : Int32) : pr_fD M N (px_up M 6 r x) (px_up N 5 r y) :=
  ⟨fun k k6 _ => pn_un k6, fun k _ hk => pn_un (by omega), fun i _ => rfl⟩
theorem pd_fmake (M N : px_M) (x y : Int32) : pr_fD M N (px_up M 32 7 x) (px_up N 0 6 y) :=
  ⟨fun k _ _ => pn_un (by omega), fun k k0 _ => pn_un k0, fun i hi => by rw [pn_up, pn_ue (by omega)]⟩
theorem pd_make {j K w z np : Nat} {tk : List Int32} {M N : px_M} (h : pr_I j K w z np tk M N) {r : Nat} (hr : r < 8) (b x : Int32) : pd_two j K w z np tk M N (fC_makeStep M (nI r)) (fR_M_promiseStep N 10 (nI r) b x) := by
  obtain ⟨nl, nr, made, q, ts, tm, fr, hD, hE, hK⟩ := h
  obtain ⟨p1, p2, p3, -⟩ := hD.2.1
  unfold fC_makeStep fR_M_promiseStep fC_Promises_isFull
  simp only [px_bn, reduceIte]
  rw [p2, p3, pn_ck hr (by omega)]
  by_cases e : np = 40
  · right
    subst e
    rw [if_neg (show ¬ nI 40 < (40 : Int32) by decide), pi_bq, if_neg (by decide), if_pos (show nI 40 = (40 : Int32) from rfl)]
    exact ⟨-2, rfl, rfl⟩
  · left
    rw [if_pos (show nI np < (40 : Int32) from nI_lt (b := 40) (by omega) (by omega)), pi_bq, if_pos rfl, if_neg (show ¬ nI np = (40 : Int32) from fun hh => e ((nI_eq (b := 40) (by omega) (by omega)).mp hh))]
    obtain ⟨a1, a2, a3⟩ := pw_make hD (by omega)
    rw [a1, a2, pi_bo, pi_bo, pn_ck hr (by omega), pn_ck hr (by omega), nI_clamp (by omega)]
    have hf := pr_fD_t (pd_fmake M N (nI (np + 1)) (nI (np + 1))) (pd_freg _ _ r (nI np) (nI np + 1))
    exact ⟨_, _, np + 1, rfl, rfl, by omega, ⟨nl, nr, made, q, ts, tm, fr, pd_reg a3 rfl (Or.inr ⟨np, by omega, rfl⟩), pr_fD_E hE hf, hK⟩, pr_fD_kp hf⟩
theorem pd_copy {j K w z np : Nat} {tk : List Int32} {M N : px_M} (h : pr_I j K w z np tk M N) {r s : Nat} (hr : r < 8) (hs : s < 8) (x : Int32) : pd_two j K w z np tk M N (px_ck (nI s) 8 (px_ck (nI r) 8 (some (px_up M 6 (nI r).toNatClampNeg (M 6 (nI s).toNatClampNeg))))) (fR_M_promiseStep N 15 (nI r) (nI s) x) := by
  left
  obtain ⟨nl, nr, made, q, ts, tm, fr, hD, hE, hK⟩ := h
  unfold fR_M_promiseStep
  simp only [px_bn, reduceIte]
  rw [if_neg (show ¬ (15 : Int32) = 10 by decide), if_neg (show ¬ (15 : Int32) = 11 by decide), if_neg (show ¬ (15 : Int32) = 12 by decide), if_neg (show ¬ (15 : Int32) = 13 by decide), pn_ck hr (by omega), pn_ck hr (by omega), pn_ck hs (by omega), pn_ck hs (by omega), pn_ck hr (by omega), nI_clamp (by omega), nI_clamp (by omega)]
  obtain ⟨g1, g2⟩ := hD.1 s hs
  have hf := pd_freg M N r (M 6 s) (N 5 s)
  exact ⟨_, _, np, rfl, rfl, Nat.le_refl _, ⟨nl, nr, made, q, ts, tm, fr, pd_reg hD g1 g2, pr_fD_E hE hf, hK⟩, pr_fD_kp hf⟩
theorem pd_regv {np : Nat} {M N : px_M} (h : pr_G np M N) (hn : np ≤ 40) {r : Nat} (hr : r < 8) : (M 6 r = -1 ∧ N 5 r = 0) ∨ ∃ p, p < np ∧ M 6 r = nI p ∧ N 5 r = nI (p + 1) := by
  obtain ⟨g1, g2⟩ := h r hr
  rcases g2 with e | ⟨p, h1, h2⟩
  · left; rw [g1, e]; exact ⟨rfl, by decide⟩
  · right; exact ⟨p, h1, h2, by rw [g1, h2, nI_1]⟩
theorem pd_settle {j K w z np : Nat} {tk : List Int32} {M N : px_M} (h : pr_I j K w z np tk M N) {r : Nat} (hr : r < 8) (b x : Int32) : pd_two j K w z np tk M N (px_ck (nI r) 8 (if b = (1 : Int32) then px_bq (fC_Promises_resolveOrReject M (M 6 (nI r).toNatClampNeg) 2 x) (fun M46 => some M46) else px_bq (fC_Promises_resolveOrReject M (M 6 (nI r).toNatClampNeg) 1 x) (fun M44 => some M44))) (fR_M_promiseStep N 11 (nI r) b x) := by
  left
  have h' := h
  obtain ⟨nl, nr, made, q, ts, tm, fr, hD, hE, hK⟩ := h
  obtain ⟨p1, p2, p3, -⟩ := hD.2.1
  unfold fR_M_promiseStep
  simp only [px_bn, reduceIte]
  rw [pn_ck hr (by omega), pn_ck hr (by omega), nI_clamp (by omega), if_neg (show ¬ (11 : Int32) = 10 by decide)]
  rcases pd_regv hD.1 p1 hr with ⟨e1, e2⟩ | ⟨p, hp, e1, e2⟩
  · rw [e1, e2, if_pos (show (0 : Int32) - 1 < 0 by decide), if_pos (show (0 : Int32) - 1 < 0 by decide)]
    have en : ∀ s, fC_Promises_resolveOrReject M (-1) s x = some M := fun s => by
      unfold fC_Promises_resolveOrReject
      rw [pl_hasn p2 (by omega) (Or.inl (by decide))]; rfl
    rw [en, en]
    exact ⟨M, N, np, by split <;> rfl, rfl, Nat.le_refl _, h', pr_kp_r M N⟩
  · rw [e1, e2, nI_pred, if_neg (nI_pos (by omega)), if_neg (nI_pos (by omega))]
    by_cases c : b = 1
    · rw [if_pos c, if_pos c]
      obtain ⟨M', N', nl', q', a1, a2, a3, a4⟩ := pw_reject hD hp x
      exact ⟨M', N', np, by rw [a1]; rfl, by rw [a2]; rfl, Nat.le_refl _, ⟨nl', nr, made, q', ts, tm, fr, a3, pr_fD_E hE a4, hK⟩, pr_fD_kp a4⟩
    · rw [if_neg c, if_neg c]
      obtain ⟨M', N', nl', q', a1, a2, a3, a4⟩ := pw_resolve hD hp x
      exact ⟨M', N', np, by rw [a1]; rfl, by rw [a2]; rfl, Nat.le_refl _, ⟨nl', nr, made, q', ts, tm, fr, a3, pr_fD_E hE a4, hK⟩, pr_fD_kp a4⟩
theorem pd_follow {j K w z np : Nat} {tk : List Int32} {M N : px_M} (h : pr_I j K w z np tk M N) {r s : Nat} (hr : r < 8) (hs : s < 8) (x : Int32) : pd_two j K w z np tk M N (px_ck (nI r) 8 (px_ck (nI s) 8 (px_bq (fC_Promises_follow M (M 6 (nI r).toNatClampNeg) (M 6 (nI s).toNatClampNeg)) (fun M51 => some M51)))) (fR_M_promiseStep N 12 (nI r) (nI s) x) := by
  left
  have h' := h
  obtain ⟨nl, nr, made, q, ts, tm, fr, hD, hE, hK⟩ := h
  obtain ⟨p1, p2, p3, -⟩ := hD.2.1
  unfold fR_M_promiseStep
  simp only [px_bn, reduceIte]
  rw [if_neg (show ¬ (12 : Int32) = 10 by decide), if_neg (show ¬ (12 : Int32) = 11 by decide), pn_ck hr (by omega), pn_ck hr (by omega), pn_ck hs (by omega), pn_ck hs (by omega), pn_ck hs (by omega), nI_clamp (by omega), nI_clamp (by omega)]
  rcases pd_regv hD.1 p1 hr with ⟨e1, e2⟩ | ⟨p, hp, e1, e2⟩
  · rw [e1, e2, if_pos (show (0 : Int32) - 1 < 0 by decide)]
    refine ⟨M, N, np, ?_, rfl, Nat.le_refl _, h', pr_kp_r M N⟩
    unfold fC_Promises_follow
    rw [pl_hasn p2 (by omega) (Or.inl (by decide))]; rfl
  · rw [e1, e2, nI_pred, if_neg (nI_pos (by omega))]
    rcases pd_regv hD.1 p1 hs with ⟨f1, f2⟩ | ⟨o, ho, f1, f2⟩
    · rw [f1, f2, if_pos (show (0 : Int32) ≤ 0 by decide)]
      refine ⟨M, N, np, ?_, rfl, Nat.le_refl _, h', pr_kp_r M N⟩
      unfold fC_Promises_follow
      rw [pl_has p2 (by omega) hp, pi_bq, if_neg (by decide), pl_hasn p2 (by omega) (Or.inl (by decide))]; rfl
    · rw [f1, f2, if_neg (nI_nle (by omega) (by omega)), nI_pred]
      obtain ⟨M', N', nl', q', a1, a2, a3, a4⟩ := pw_follow hD hp ho
      exact ⟨M', N', np, by rw [a1]; rfl, by rw [a2]; rfl, Nat.le_refl _, ⟨nl', nr, made, q', ts, tm, fr, a3, pr_fD_E hE a4, hK⟩, pr_fD_kp a4⟩
theorem pd_then {j K w z np : Nat} {tk : List Int32} {M N : px_M} (h : pr_I j K w z np tk M N) {r d : Nat} (hr : r < 8) (hd : d ≤ 255) (x : Int32) : pd_two j K w z np tk M N (fC_thenStep M (nI r) (nI d - nI d / (16 : Int32) * (16 : Int32)) (nI d / (16 : Int32))) (fR_M_promiseStep N 13 (nI r) (nI d) x) := by
  have h' := h
  obtain ⟨nl, nr, made, q, ts, tm, fr, hD, hE, hK⟩ := h
  obtain ⟨p1, p2, p3, -⟩ := hD.2.1
  have e16 : (16 : Int32) = nI 16 := rfl
  have hm1 : nI d - nI d / (16 : Int32) * (16 : Int32) = nI (d % 16) := by rw [e16, pk_rem (by omega) (by omega) (by omega)]
  have hm2 : nI d / (16 : Int32) = nI (d / 16) := by rw [e16, pk_div (by omega) (by omega) (by omega)]
  have b1 : d % 16 < 16 := Nat.mod_lt _ (by omega)
  have b2 : d / 16 < 16 := by omega
  have eT : fR_M_promiseStep N 13 (nI r) (nI d) x = fR_M_then N (nI r) (nI d) := by
    unfold fR_M_promiseStep
    simp only [px_bn, reduceIte]
    rw [pn_ck hr (by omega), if_neg (show ¬ (13 : Int32) = 10 by decide), if_neg (show ¬ (13 : Int32) = 11 by decide), if_neg (show ¬ (13 : Int32) = 12 by decide), pd_bq]
  rw [eT, hm1, hm2]
  unfold fC_thenStep fR_M_then fC_Promises_isFull
  simp only [px_bn]
  rw [pn_ck hr (by omega), pn_ck hr (by omega), pn_ck hr (by omega), nI_clamp (by omega), p2, p3, hm1, hm2]
  rcases pd_regv hD.1 p1 hr with ⟨e1, e2⟩ | ⟨p, hp, e1, e2⟩
  · left
    rw [e1, e2, if_pos rfl, if_pos rfl]
    exact ⟨M, N, np, rfl, rfl, Nat.le_refl _, h', pr_kp_r M N⟩
  · rw [e1, e2, if_neg (pg_neg1 (by omega)), if_neg (nI_ne0 (by omega) (by omega)), nI_pred]
    by_cases e : np = 40
    · right
      subst e
      rw [if_neg (show ¬ nI 40 < (40 : Int32) by decide), pi_bq, if_neg (by decide), if_pos (show nI 40 = (40 : Int32) from rfl)]
      exact ⟨-2, rfl, rfl⟩
    · left
      rw [if_pos (show nI np < (40 : Int32) from nI_lt (b := 40) (by omega) (by omega)), pi_bq, if_pos rfl, if_neg (show ¬ nI np = (40 : Int32) from fun hh => e ((nI_eq (b := 40) (by omega) (by omega)).mp hh))]
      obtain ⟨a1, a2, a3⟩ := pw_make hD (by omega)
      rw [a1, a2, pi_bo, pi_bo, pn_ck hr (by omega), show (px_up M 32 7 (nI (np + 1))) 6 r = nI p from e1]
      have ok : pe_ok (np + 1) nr q (px_up M 32 7 (nI (np + 1))) np (d % 16) := ⟨fun _ => Nat.succ_le_succ hD.2.2.2.2.2.1.1, fun hh => by omega⟩
      obtain ⟨M', N', q', c1, c2, c3, c4, c5, c6, c7, c8⟩ := pw_react (p := p) (t := np) (kv := d % 16) (kr := d / 16) a3 (by omega) (by omega) (by omega) (by omega) (by omega) ok
      have eX : (if nI (d % 16) ≤ (9 : Int32) then (if nI (d / 16) ≤ (9 : Int32) then px_bq (fR_M_react (px_up N 0 6 (nI (np + 1))) (nI p) (nI (d % 16)) (nI (d / 16)) (nI np)) (fun M12 => px_ck (nI r) 8 (some (px_up M12 5 r (nI np + 1)))) else px_bq (fR_M_react (px_up N 0 6 (nI (np + 1))) (nI p) (nI (d % 16)) (-1) (nI np)) (fun M12 => px_ck (nI r) 8 (some (px_up M12 5 r (nI np + 1))))) else (if nI (d / 16) ≤ (9 : Int32) then px_bq (fR_M_react (px_up N 0 6 (nI (np + 1))) (nI p) (-1) (nI (d / 16)) (nI np)) (fun M12 => px_ck (nI r) 8 (some (px_up M12 5 r (nI np + 1)))) else px_bq (fR_M_react (px_up N 0 6 (nI (np + 1))) (nI p) (-1) (-1) (nI np)) (fun M12 => px_ck (nI r) 8 (some (px_up M12 5 r (nI np + 1)))))) = px_bq (fR_M_react (px_up N 0 6 (nI (np + 1))) (nI p) (pr_cv (d % 16)) (pr_cv (d / 16)) (nI np)) (fun M12 => px_ck (nI r) 8 (some (px_up M12 5 r (nI np + 1)))) := by
        have cv : ∀ k : Nat, k < 16 → (nI k ≤ (9 : Int32) → pr_cv k = nI k) ∧ (¬ nI k ≤ (9 : Int32) → pr_cv k = -1) := by
          intro k hk
          have := nI_leI (a := k) (b := 9) (by omega) (by omega)
          unfold pr_cv
          constructor
          · intro hh
            have := this.mp hh
            rw [if_neg (by omega), if_neg (by omega)]
          · intro hh
            have : ¬ k ≤ 9 := fun h2 => hh (this.mpr h2)
            rw [if_neg (by omega), if_pos (by omega)]
        by_cases x1 : nI (d % 16) ≤ (9 : Int32) <;> by_cases x2 : nI (d / 16) ≤ (9 : Int32)
        · rw [if_pos x1, if_pos x2, (cv _ b1).1 x1, (cv _ b2).1 x2]
        · rw [if_pos x1, if_neg x2, (cv _ b1).1 x1, (cv _ b2).2 x2]
        · rw [if_neg x1, if_pos x2, (cv _ b1).2 x1, (cv _ b2).1 x2]
        · rw [if_neg x1, if_neg x2, (cv _ b1).2 x1, (cv _ b2).2 x2]
      have hf := pr_fD_t (pr_fD_t (pd_fmake M N (nI (np + 1)) (nI (np + 1))) c4) (pd_freg M' N' r (nI np) (nI np + 1))
      refine ⟨px_up M' 6 r (nI np), px_up N' 5 r (nI np + 1), np + 1, ?_, ?_, by omega, ⟨nl, nr + 1, made, q', ts, tm, fr, pd_reg c3 rfl (Or.inr ⟨np, by omega, rfl⟩), pr_fD_E hE hf, hK⟩, pr_fD_kp hf⟩
      · rw [c1, pi_bq, pn_ck hr (by omega)]
      · refine Eq.trans eX ?_
        rw [c2, pi_bq, pn_ck hr (by omega)]
