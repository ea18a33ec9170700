/-! The end. -/
theorem pz_final_ok : pu_ok pr_Rel := ⟨pr_init, fun j M N h hj => ⟨pr_mono (Nat.le_succ j) h, pt_step h, pl_clear h, pq_post h, pi_prefer h, ps_turn h hj, pb_advance h hj, pi_register h, pl_state h, pl_value h, pl_count h, pl_logged h, pl_reported h, pf_due h hj, pi_time h⟩⟩
theorem i_vc : Claimed_1_1 ∧ Claimed_1_2 := i_vc_open pz_final_ok
