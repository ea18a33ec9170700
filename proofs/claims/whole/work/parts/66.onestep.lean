/-! One step of a run, both sides. -/
theorem pv_dC0 (rn : px_M → Int32 → Int32 → Int32 → Option px_M) (M : px_M) (a b x dp : Int32) : fC_doStep rn M (nI 0) a b x dp = (if b = (1 : Int32) then fC_Journal_keep_28 M x else fC_Journal_keep_28 M a) := by
  unfold fC_doStep
  rw [if_pos (show nI 0 = (0 : Int32) from rfl)]
  simp only [pd_bq]
theorem pv_dR0 {N : px_M} {at' e : Nat} {a b x : Int32} (hat : at' < 60) (he : e < 8) (h2 : N 2 at' = nI 0) (h3 : N 3 at' = a) (h4 : N 4 at' = b) (h52 : N 0 52 = nI (e + 1)) (h37 : N 37 e = x) : fR_M_doStep N (nI at') = (if (200 : Int32) ≤ N 0 48 then some N else if b = (1 : Int32) then px_ck (N 0 48) 200 (some (px_up (px_up N 34 (N 0 48).toNatClampNeg x) 0 48 ((px_up N 34 (N 0 48).toNatClampNeg x) 0 48 + 1))) else px_ck (N 0 48) 200 (some (px_up (px_up N 34 (N 0 48).toNatClampNeg a) 0 48 ((px_up N 34 (N 0 48).toNatClampNeg a) 0 48 + 1)))) := by
  unfold fR_M_doStep
  simp only [px_bn]
  rw [pn_ck hat (by omega), pn_ck hat (by omega), pn_ck hat (by omega), nI_clamp (by omega), h2, h3, h4, h52, nI_pred, pn_ck he (by omega), nI_clamp (by omega), h37, if_pos (show nI 0 = (0 : Int32) from rfl)]
theorem pv_dC1 (rn : px_M → Int32 → Int32 → Int32 → Option px_M) (M : px_M) (a b x dp : Int32) : fC_doStep rn M (nI 1) a b x dp = fC_postStep M b a x := by
  unfold fC_doStep
  rw [if_neg (show ¬ nI 1 = (0 : Int32) by decide), if_pos (show nI 1 = (1 : Int32) from rfl)]
  exact pd_bq
theorem pv_dR1 {N : px_M} {at' e : Nat} {a b x : Int32} (hat : at' < 60) (he : e < 8) (h2 : N 2 at' = nI 1) (h3 : N 3 at' = a) (h4 : N 4 at' = b) (h52 : N 0 52 = nI (e + 1)) (h37 : N 37 e = x) : fR_M_doStep N (nI at') = fR_M_place N 1 a b x := by
  unfold fR_M_doStep
  simp only [px_bn]
  rw [pn_ck hat (by omega), pn_ck hat (by omega), pn_ck hat (by omega), nI_clamp (by omega), h2, h3, h4, h52, nI_pred, pn_ck he (by omega), nI_clamp (by omega), h37, if_neg (show ¬ nI 1 = (0 : Int32) by decide), if_pos (show nI 1 = (1 : Int32) from rfl)]
  exact pd_bq
theorem pv_dC2 (rn : px_M → Int32 → Int32 → Int32 → Option px_M) (M : px_M) (a b x dp : Int32) : fC_doStep rn M (nI 2) a b x dp = fC_microStep M a x := by
  unfold fC_doStep
  rw [if_neg (show ¬ nI 2 = (0 : Int32) by decide), if_neg (show ¬ nI 2 = (1 : Int32) by decide), if_pos (show nI 2 = (2 : Int32) from rfl)]
  exact pd_bq
theorem pv_dR2 {N : px_M} {at' e : Nat} {a b x : Int32} (hat : at' < 60) (he : e < 8) (h2 : N 2 at' = nI 2) (h3 : N 3 at' = a) (h4 : N 4 at' = b) (h52 : N 0 52 = nI (e + 1)) (h37 : N 37 e = x) : fR_M_doStep N (nI at') = fR_M_place N 2 a b x := by
  unfold fR_M_doStep
  simp only [px_bn]
  rw [pn_ck hat (by omega), pn_ck hat (by omega), pn_ck hat (by omega), nI_clamp (by omega), h2, h3, h4, h52, nI_pred, pn_ck he (by omega), nI_clamp (by omega), h37, if_neg (show ¬ nI 2 = (0 : Int32) by decide), if_neg (show ¬ nI 2 = (1 : Int32) by decide), if_pos (show nI 2 = (2 : Int32) from rfl)]
  exact pd_bq
theorem pv_dC3 (rn : px_M → Int32 → Int32 → Int32 → Option px_M) (M : px_M) (a b x dp : Int32) : fC_doStep rn M (nI 3) a b x dp = fC_timerStep M a x b 0 := by
  unfold fC_doStep
  rw [if_neg (show ¬ nI 3 = (0 : Int32) by decide), if_neg (show ¬ nI 3 = (1 : Int32) by decide), if_neg (show ¬ nI 3 = (2 : Int32) by decide), if_pos (show nI 3 = (3 : Int32) from rfl)]
  exact pd_bq
theorem pv_dR3 {N : px_M} {at' e : Nat} {a b x : Int32} (hat : at' < 60) (he : e < 8) (h2 : N 2 at' = nI 3) (h3 : N 3 at' = a) (h4 : N 4 at' = b) (h52 : N 0 52 = nI (e + 1)) (h37 : N 37 e = x) : fR_M_doStep N (nI at') = fR_M_place N 3 a b x := by
  unfold fR_M_doStep
  simp only [px_bn]
  rw [pn_ck hat (by omega), pn_ck hat (by omega), pn_ck hat (by omega), nI_clamp (by omega), h2, h3, h4, h52, nI_pred, pn_ck he (by omega), nI_clamp (by omega), h37, if_neg (show ¬ nI 3 = (0 : Int32) by decide), if_neg (show ¬ nI 3 = (1 : Int32) by decide), if_neg (show ¬ nI 3 = (2 : Int32) by decide), if_pos (show nI 3 = (3 : Int32) from rfl)]
  exact pd_bq
theorem pv_dC4 (rn : px_M → Int32 → Int32 → Int32 → Option px_M) (M : px_M) (a b x dp : Int32) : fC_doStep rn M (nI 4) a b x dp = fC_timerStep M a x b 1 := by
  unfold fC_doStep
  rw [if_neg (show ¬ nI 4 = (0 : Int32) by decide), if_neg (show ¬ nI 4 = (1 : Int32) by decide), if_neg (show ¬ nI 4 = (2 : Int32) by decide), if_neg (show ¬ nI 4 = (3 : Int32) by decide), if_pos (show nI 4 = (4 : Int32) from rfl)]
  exact pd_bq
theorem pv_dR4 {N : px_M} {at' e : Nat} {a b x : Int32} (hat : at' < 60) (he : e < 8) (h2 : N 2 at' = nI 4) (h3 : N 3 at' = a) (h4 : N 4 at' = b) (h52 : N 0 52 = nI (e + 1)) (h37 : N 37 e = x) : fR_M_doStep N (nI at') = fR_M_place N 4 a b x := by
  unfold fR_M_doStep
  simp only [px_bn]
  rw [pn_ck hat (by omega), pn_ck hat (by omega), pn_ck hat (by omega), nI_clamp (by omega), h2, h3, h4, h52, nI_pred, pn_ck he (by omega), nI_clamp (by omega), h37, if_neg (show ¬ nI 4 = (0 : Int32) by decide), if_neg (show ¬ nI 4 = (1 : Int32) by decide), if_neg (show ¬ nI 4 = (2 : Int32) by decide), if_neg (show ¬ nI 4 = (3 : Int32) by decide), if_pos (show nI 4 = (4 : Int32) from rfl)]
  exact pd_bq
theorem pv_dC5 (rn : px_M → Int32 → Int32 → Int32 → Option px_M) (M : px_M) (a b x dp : Int32) : fC_doStep rn M (nI 5) a b x dp = fC_Timers_remove M a := by
  unfold fC_doStep
  rw [if_neg (show ¬ nI 5 = (0 : Int32) by decide), if_neg (show ¬ nI 5 = (1 : Int32) by decide), if_neg (show ¬ nI 5 = (2 : Int32) by decide), if_neg (show ¬ nI 5 = (3 : Int32) by decide), if_neg (show ¬ nI 5 = (4 : Int32) by decide), if_pos (show nI 5 = (5 : Int32) from rfl)]
  exact pd_bq
theorem pv_dR5 {N : px_M} {at' e : Nat} {a b x : Int32} (hat : at' < 60) (he : e < 8) (h2 : N 2 at' = nI 5) (h3 : N 3 at' = a) (h4 : N 4 at' = b) (h52 : N 0 52 = nI (e + 1)) (h37 : N 37 e = x) : fR_M_doStep N (nI at') = (px_bq (fR_M_timerAt N a) (fun r32 => (if r32 < 0 then some N else px_bq (fR_M_dropTimer N r32) (fun M35 => some M35)))) := by
  unfold fR_M_doStep
  simp only [px_bn]
  rw [pn_ck hat (by omega), pn_ck hat (by omega), pn_ck hat (by omega), nI_clamp (by omega), h2, h3, h4, h52, nI_pred, pn_ck he (by omega), nI_clamp (by omega), h37, if_neg (show ¬ nI 5 = (0 : Int32) by decide), if_neg (show ¬ nI 5 = (1 : Int32) by decide), if_neg (show ¬ nI 5 = (2 : Int32) by decide), if_neg (show ¬ nI 5 = (3 : Int32) by decide), if_neg (show ¬ nI 5 = (4 : Int32) by decide), if_pos (show nI 5 = (5 : Int32) from rfl)]
theorem pv_dC6 (rn : px_M → Int32 → Int32 → Int32 → Option px_M) (M : px_M) (a b x dp : Int32) : fC_doStep rn M (nI 6) a b x dp = (if b = (1 : Int32) then fC_fail M x else fC_fail M a) := by
  unfold fC_doStep
  rw [if_neg (show ¬ nI 6 = (0 : Int32) by decide), if_neg (show ¬ nI 6 = (1 : Int32) by decide), if_neg (show ¬ nI 6 = (2 : Int32) by decide), if_neg (show ¬ nI 6 = (3 : Int32) by decide), if_neg (show ¬ nI 6 = (4 : Int32) by decide), if_neg (show ¬ nI 6 = (5 : Int32) by decide), if_pos (show nI 6 = (6 : Int32) from rfl)]
  simp only [pd_bq]
theorem pv_dR6 {N : px_M} {at' e : Nat} {a b x : Int32} (hat : at' < 60) (he : e < 8) (h2 : N 2 at' = nI 6) (h3 : N 3 at' = a) (h4 : N 4 at' = b) (h52 : N 0 52 = nI (e + 1)) (h37 : N 37 e = x) : fR_M_doStep N (nI at') = (if b = (1 : Int32) then fR_M_fail N x else fR_M_fail N a) := by
  unfold fR_M_doStep
  simp only [px_bn]
  rw [pn_ck hat (by omega), pn_ck hat (by omega), pn_ck hat (by omega), nI_clamp (by omega), h2, h3, h4, h52, nI_pred, pn_ck he (by omega), nI_clamp (by omega), h37, if_neg (show ¬ nI 6 = (0 : Int32) by decide), if_neg (show ¬ nI 6 = (1 : Int32) by decide), if_neg (show ¬ nI 6 = (2 : Int32) by decide), if_neg (show ¬ nI 6 = (3 : Int32) by decide), if_neg (show ¬ nI 6 = (4 : Int32) by decide), if_neg (show ¬ nI 6 = (5 : Int32) by decide), if_pos (show nI 6 = (6 : Int32) from rfl)]
  simp only [pd_bq]
theorem pv_dC7 (rn : px_M → Int32 → Int32 → Int32 → Option px_M) (M : px_M) (a b x dp : Int32) : fC_doStep rn M (nI 7) a b x dp = fC_callStep rn M a x dp := by
  unfold fC_doStep
  rw [if_neg (show ¬ nI 7 = (0 : Int32) by decide), if_neg (show ¬ nI 7 = (1 : Int32) by decide), if_neg (show ¬ nI 7 = (2 : Int32) by decide), if_neg (show ¬ nI 7 = (3 : Int32) by decide), if_neg (show ¬ nI 7 = (4 : Int32) by decide), if_neg (show ¬ nI 7 = (5 : Int32) by decide), if_neg (show ¬ nI 7 = (6 : Int32) by decide), if_pos (show nI 7 = (7 : Int32) from rfl)]
  exact pd_bq
theorem pv_dR7 {N : px_M} {at' e : Nat} {a b x : Int32} (hat : at' < 60) (he : e < 8) (h2 : N 2 at' = nI 7) (h3 : N 3 at' = a) (h4 : N 4 at' = b) (h52 : N 0 52 = nI (e + 1)) (h37 : N 37 e = x) : fR_M_doStep N (nI at') = fR_M_nest N a 1 0 := by
  unfold fR_M_doStep
  simp only [px_bn]
  rw [pn_ck hat (by omega), pn_ck hat (by omega), pn_ck hat (by omega), nI_clamp (by omega), h2, h3, h4, h52, nI_pred, pn_ck he (by omega), nI_clamp (by omega), h37, if_neg (show ¬ nI 7 = (0 : Int32) by decide), if_neg (show ¬ nI 7 = (1 : Int32) by decide), if_neg (show ¬ nI 7 = (2 : Int32) by decide), if_neg (show ¬ nI 7 = (3 : Int32) by decide), if_neg (show ¬ nI 7 = (4 : Int32) by decide), if_neg (show ¬ nI 7 = (5 : Int32) by decide), if_neg (show ¬ nI 7 = (6 : Int32) by decide), if_pos (show nI 7 = (7 : Int32) from rfl)]
  exact pd_bq
theorem pv_dC8 (rn : px_M → Int32 → Int32 → Int32 → Option px_M) (M : px_M) (a b x dp : Int32) : fC_doStep rn M (nI 8) a b x dp = fC_tryStep rn M a b x dp := by
  unfold fC_doStep
  rw [if_neg (show ¬ nI 8 = (0 : Int32) by decide), if_neg (show ¬ nI 8 = (1 : Int32) by decide), if_neg (show ¬ nI 8 = (2 : Int32) by decide), if_neg (show ¬ nI 8 = (3 : Int32) by decide), if_neg (show ¬ nI 8 = (4 : Int32) by decide), if_neg (show ¬ nI 8 = (5 : Int32) by decide), if_neg (show ¬ nI 8 = (6 : Int32) by decide), if_neg (show ¬ nI 8 = (7 : Int32) by decide), if_pos (show nI 8 = (8 : Int32) from rfl)]
  exact pd_bq
theorem pv_dR8 {N : px_M} {at' e : Nat} {a b x : Int32} (hat : at' < 60) (he : e < 8) (h2 : N 2 at' = nI 8) (h3 : N 3 at' = a) (h4 : N 4 at' = b) (h52 : N 0 52 = nI (e + 1)) (h37 : N 37 e = x) : fR_M_doStep N (nI at') = fR_M_nest N a 2 b := by
  unfold fR_M_doStep
  simp only [px_bn]
  rw [pn_ck hat (by omega), pn_ck hat (by omega), pn_ck hat (by omega), nI_clamp (by omega), h2, h3, h4, h52, nI_pred, pn_ck he (by omega), nI_clamp (by omega), h37, if_neg (show ¬ nI 8 = (0 : Int32) by decide), if_neg (show ¬ nI 8 = (1 : Int32) by decide), if_neg (show ¬ nI 8 = (2 : Int32) by decide), if_neg (show ¬ nI 8 = (3 : Int32) by decide), if_neg (show ¬ nI 8 = (4 : Int32) by decide), if_neg (show ¬ nI 8 = (5 : Int32) by decide), if_neg (show ¬ nI 8 = (6 : Int32) by decide), if_neg (show ¬ nI 8 = (7 : Int32) by decide), if_pos (show nI 8 = (8 : Int32) from rfl)]
  exact pd_bq
theorem pv_dC9 (rn : px_M → Int32 → Int32 → Int32 → Option px_M) (M : px_M) (a b x dp : Int32) : fC_doStep rn M (nI 9) a b x dp = fC_answerStep M a b x := by
  unfold fC_doStep
  rw [if_neg (show ¬ nI 9 = (0 : Int32) by decide), if_neg (show ¬ nI 9 = (1 : Int32) by decide), if_neg (show ¬ nI 9 = (2 : Int32) by decide), if_neg (show ¬ nI 9 = (3 : Int32) by decide), if_neg (show ¬ nI 9 = (4 : Int32) by decide), if_neg (show ¬ nI 9 = (5 : Int32) by decide), if_neg (show ¬ nI 9 = (6 : Int32) by decide), if_neg (show ¬ nI 9 = (7 : Int32) by decide), if_neg (show ¬ nI 9 = (8 : Int32) by decide), if_pos (show nI 9 = (9 : Int32) from rfl)]
  exact pd_bq
theorem pv_dR9 {N : px_M} {at' e : Nat} {a b x : Int32} (hat : at' < 60) (he : e < 8) (h2 : N 2 at' = nI 9) (h3 : N 3 at' = a) (h4 : N 4 at' = b) (h52 : N 0 52 = nI (e + 1)) (h37 : N 37 e = x) : fR_M_doStep N (nI at') = fR_M_answer N a b x := by
  unfold fR_M_doStep
  simp only [px_bn]
  rw [pn_ck hat (by omega), pn_ck hat (by omega), pn_ck hat (by omega), nI_clamp (by omega), h2, h3, h4, h52, nI_pred, pn_ck he (by omega), nI_clamp (by omega), h37, if_neg (show ¬ nI 9 = (0 : Int32) by decide), if_neg (show ¬ nI 9 = (1 : Int32) by decide), if_neg (show ¬ nI 9 = (2 : Int32) by decide), if_neg (show ¬ nI 9 = (3 : Int32) by decide), if_neg (show ¬ nI 9 = (4 : Int32) by decide), if_neg (show ¬ nI 9 = (5 : Int32) by decide), if_neg (show ¬ nI 9 = (6 : Int32) by decide), if_neg (show ¬ nI 9 = (7 : Int32) by decide), if_neg (show ¬ nI 9 = (8 : Int32) by decide), if_pos (show nI 9 = (9 : Int32) from rfl)]
  exact pd_bq
theorem pv_dC10 (rn : px_M → Int32 → Int32 → Int32 → Option px_M) (M : px_M) (a b x dp : Int32) : fC_doStep rn M (nI 10) a b x dp = fC_makeStep M a := by
  unfold fC_doStep
  rw [if_neg (show ¬ nI 10 = (0 : Int32) by decide), if_neg (show ¬ nI 10 = (1 : Int32) by decide), if_neg (show ¬ nI 10 = (2 : Int32) by decide), if_neg (show ¬ nI 10 = (3 : Int32) by decide), if_neg (show ¬ nI 10 = (4 : Int32) by decide), if_neg (show ¬ nI 10 = (5 : Int32) by decide), if_neg (show ¬ nI 10 = (6 : Int32) by decide), if_neg (show ¬ nI 10 = (7 : Int32) by decide), if_neg (show ¬ nI 10 = (8 : Int32) by decide), if_neg (show ¬ nI 10 = (9 : Int32) by decide), if_pos (show nI 10 = (10 : Int32) from rfl)]
  exact pd_bq
theorem pv_dR10 {N : px_M} {at' e : Nat} {a b x : Int32} (hat : at' < 60) (he : e < 8) (h2 : N 2 at' = nI 10) (h3 : N 3 at' = a) (h4 : N 4 at' = b) (h52 : N 0 52 = nI (e + 1)) (h37 : N 37 e = x) : fR_M_doStep N (nI at') = fR_M_promiseStep N 10 a b x := by
  unfold fR_M_doStep
  simp only [px_bn]
  rw [pn_ck hat (by omega), pn_ck hat (by omega), pn_ck hat (by omega), nI_clamp (by omega), h2, h3, h4, h52, nI_pred, pn_ck he (by omega), nI_clamp (by omega), h37, if_neg (show ¬ nI 10 = (0 : Int32) by decide), if_neg (show ¬ nI 10 = (1 : Int32) by decide), if_neg (show ¬ nI 10 = (2 : Int32) by decide), if_neg (show ¬ nI 10 = (3 : Int32) by decide), if_neg (show ¬ nI 10 = (4 : Int32) by decide), if_neg (show ¬ nI 10 = (5 : Int32) by decide), if_neg (show ¬ nI 10 = (6 : Int32) by decide), if_neg (show ¬ nI 10 = (7 : Int32) by decide), if_neg (show ¬ nI 10 = (8 : Int32) by decide), if_neg (show ¬ nI 10 = (9 : Int32) by decide), if_pos (show nI 10 = (10 : Int32) from rfl)]
  exact pd_bq
theorem pv_dC11 (rn : px_M → Int32 → Int32 → Int32 → Option px_M) (M : px_M) (a b x dp : Int32) : fC_doStep rn M (nI 11) a b x dp = (px_ck a 8 (if b = (1 : Int32) then px_bq (fC_Promises_resolveOrReject M (M 6 a.toNatClampNeg) 2 x) (fun M46 => some M46) else px_bq (fC_Promises_resolveOrReject M (M 6 a.toNatClampNeg) 1 x) (fun M44 => some M44))) := by
  unfold fC_doStep
  rw [if_neg (show ¬ nI 11 = (0 : Int32) by decide), if_neg (show ¬ nI 11 = (1 : Int32) by decide), if_neg (show ¬ nI 11 = (2 : Int32) by decide), if_neg (show ¬ nI 11 = (3 : Int32) by decide), if_neg (show ¬ nI 11 = (4 : Int32) by decide), if_neg (show ¬ nI 11 = (5 : Int32) by decide), if_neg (show ¬ nI 11 = (6 : Int32) by decide), if_neg (show ¬ nI 11 = (7 : Int32) by decide), if_neg (show ¬ nI 11 = (8 : Int32) by decide), if_neg (show ¬ nI 11 = (9 : Int32) by decide), if_neg (show ¬ nI 11 = (10 : Int32) by decide), if_pos (show nI 11 = (11 : Int32) from rfl)]
theorem pv_dR11 {N : px_M} {at' e : Nat} {a b x : Int32} (hat : at' < 60) (he : e < 8) (h2 : N 2 at' = nI 11) (h3 : N 3 at' = a) (h4 : N 4 at' = b) (h52 : N 0 52 = nI (e + 1)) (h37 : N 37 e = x) : fR_M_doStep N (nI at') = fR_M_promiseStep N 11 a b x := by
  unfold fR_M_doStep
  simp only [px_bn]
  rw [pn_ck hat (by omega), pn_ck hat (by omega), pn_ck hat (by omega), nI_clamp (by omega), h2, h3, h4, h52, nI_pred, pn_ck he (by omega), nI_clamp (by omega), h37, if_neg (show ¬ nI 11 = (0 : Int32) by decide), if_neg (show ¬ nI 11 = (1 : Int32) by decide), if_neg (show ¬ nI 11 = (2 : Int32) by decide), if_neg (show ¬ nI 11 = (3 : Int32) by decide), if_neg (show ¬ nI 11 = (4 : Int32) by decide), if_neg (show ¬ nI 11 = (5 : Int32) by decide), if_neg (show ¬ nI 11 = (6 : Int32) by decide), if_neg (show ¬ nI 11 = (7 : Int32) by decide), if_neg (show ¬ nI 11 = (8 : Int32) by decide), if_neg (show ¬ nI 11 = (9 : Int32) by decide), if_neg (show ¬ nI 11 = (10 : Int32) by decide), if_pos (show nI 11 = (11 : Int32) from rfl)]
  exact pd_bq
theorem pv_dC12 (rn : px_M → Int32 → Int32 → Int32 → Option px_M) (M : px_M) (a b x dp : Int32) : fC_doStep rn M (nI 12) a b x dp = (px_ck a 8 (px_ck b 8 (px_bq (fC_Promises_follow M (M 6 a.toNatClampNeg) (M 6 b.toNatClampNeg)) (fun M51 => some M51)))) := by
  unfold fC_doStep
  rw [if_neg (show ¬ nI 12 = (0 : Int32) by decide), if_neg (show ¬ nI 12 = (1 : Int32) by decide), if_neg (show ¬ nI 12 = (2 : Int32) by decide), if_neg (show ¬ nI 12 = (3 : Int32) by decide), if_neg (show ¬ nI 12 = (4 : Int32) by decide), if_neg (show ¬ nI 12 = (5 : Int32) by decide), if_neg (show ¬ nI 12 = (6 : Int32) by decide), if_neg (show ¬ nI 12 = (7 : Int32) by decide), if_neg (show ¬ nI 12 = (8 : Int32) by decide), if_neg (show ¬ nI 12 = (9 : Int32) by decide), if_neg (show ¬ nI 12 = (10 : Int32) by decide), if_neg (show ¬ nI 12 = (11 : Int32) by decide), if_pos (show nI 12 = (12 : Int32) from rfl)]
theorem pv_dR12 {N : px_M} {at' e : Nat} {a b x : Int32} (hat : at' < 60) (he : e < 8) (h2 : N 2 at' = nI 12) (h3 : N 3 at' = a) (h4 : N 4 at' = b) (h52 : N 0 52 = nI (e + 1)) (h37 : N 37 e = x) : fR_M_doStep N (nI at') = fR_M_promiseStep N 12 a b x := by
  unfold fR_M_doStep
  simp only [px_bn]
  rw [pn_ck hat (by omega), pn_ck hat (by omega), pn_ck hat (by omega), nI_clamp (by omega), h2, h3, h4, h52, nI_pred, pn_ck he (by omega), nI_clamp (by omega), h37, if_neg (show ¬ nI 12 = (0 : Int32) by decide), if_neg (show ¬ nI 12 = (1 : Int32) by decide), if_neg (show ¬ nI 12 = (2 : Int32) by decide), if_neg (show ¬ nI 12 = (3 : Int32) by decide), if_neg (show ¬ nI 12 = (4 : Int32) by decide), if_neg (show ¬ nI 12 = (5 : Int32) by decide), if_neg (show ¬ nI 12 = (6 : Int32) by decide), if_neg (show ¬ nI 12 = (7 : Int32) by decide), if_neg (show ¬ nI 12 = (8 : Int32) by decide), if_neg (show ¬ nI 12 = (9 : Int32) by decide), if_neg (show ¬ nI 12 = (10 : Int32) by decide), if_neg (show ¬ nI 12 = (11 : Int32) by decide), if_pos (show nI 12 = (12 : Int32) from rfl)]
  exact pd_bq
theorem pv_dC13 (rn : px_M → Int32 → Int32 → Int32 → Option px_M) (M : px_M) (a b x dp : Int32) : fC_doStep rn M (nI 13) a b x dp = fC_thenStep M a (b - b / (16 : Int32) * (16 : Int32)) (b / (16 : Int32)) := by
  unfold fC_doStep
  rw [if_neg (show ¬ nI 13 = (0 : Int32) by decide), if_neg (show ¬ nI 13 = (1 : Int32) by decide), if_neg (show ¬ nI 13 = (2 : Int32) by decide), if_neg (show ¬ nI 13 = (3 : Int32) by decide), if_neg (show ¬ nI 13 = (4 : Int32) by decide), if_neg (show ¬ nI 13 = (5 : Int32) by decide), if_neg (show ¬ nI 13 = (6 : Int32) by decide), if_neg (show ¬ nI 13 = (7 : Int32) by decide), if_neg (show ¬ nI 13 = (8 : Int32) by decide), if_neg (show ¬ nI 13 = (9 : Int32) by decide), if_neg (show ¬ nI 13 = (10 : Int32) by decide), if_neg (show ¬ nI 13 = (11 : Int32) by decide), if_neg (show ¬ nI 13 = (12 : Int32) by decide), if_pos (show nI 13 = (13 : Int32) from rfl)]
  exact pd_bq
theorem pv_dR13 {N : px_M} {at' e : Nat} {a b x : Int32} (hat : at' < 60) (he : e < 8) (h2 : N 2 at' = nI 13) (h3 : N 3 at' = a) (h4 : N 4 at' = b) (h52 : N 0 52 = nI (e + 1)) (h37 : N 37 e = x) : fR_M_doStep N (nI at') = fR_M_promiseStep N 13 a b x := by
  unfold fR_M_doStep
  simp only [px_bn]
  rw [pn_ck hat (by omega), pn_ck hat (by omega), pn_ck hat (by omega), nI_clamp (by omega), h2, h3, h4, h52, nI_pred, pn_ck he (by omega), nI_clamp (by omega), h37, if_neg (show ¬ nI 13 = (0 : Int32) by decide), if_neg (show ¬ nI 13 = (1 : Int32) by decide), if_neg (show ¬ nI 13 = (2 : Int32) by decide), if_neg (show ¬ nI 13 = (3 : Int32) by decide), if_neg (show ¬ nI 13 = (4 : Int32) by decide), if_neg (show ¬ nI 13 = (5 : Int32) by decide), if_neg (show ¬ nI 13 = (6 : Int32) by decide), if_neg (show ¬ nI 13 = (7 : Int32) by decide), if_neg (show ¬ nI 13 = (8 : Int32) by decide), if_neg (show ¬ nI 13 = (9 : Int32) by decide), if_neg (show ¬ nI 13 = (10 : Int32) by decide), if_neg (show ¬ nI 13 = (11 : Int32) by decide), if_neg (show ¬ nI 13 = (12 : Int32) by decide), if_pos (show nI 13 = (13 : Int32) from rfl)]
  exact pd_bq
theorem pv_dC14 (rn : px_M → Int32 → Int32 → Int32 → Option px_M) (M : px_M) (a b x dp : Int32) : fC_doStep rn M (nI 14) a b x dp = fC_frameStep M a := by
  unfold fC_doStep
  rw [if_neg (show ¬ nI 14 = (0 : Int32) by decide), if_neg (show ¬ nI 14 = (1 : Int32) by decide), if_neg (show ¬ nI 14 = (2 : Int32) by decide), if_neg (show ¬ nI 14 = (3 : Int32) by decide), if_neg (show ¬ nI 14 = (4 : Int32) by decide), if_neg (show ¬ nI 14 = (5 : Int32) by decide), if_neg (show ¬ nI 14 = (6 : Int32) by decide), if_neg (show ¬ nI 14 = (7 : Int32) by decide), if_neg (show ¬ nI 14 = (8 : Int32) by decide), if_neg (show ¬ nI 14 = (9 : Int32) by decide), if_neg (show ¬ nI 14 = (10 : Int32) by decide), if_neg (show ¬ nI 14 = (11 : Int32) by decide), if_neg (show ¬ nI 14 = (12 : Int32) by decide), if_neg (show ¬ nI 14 = (13 : Int32) by decide), if_pos (show nI 14 = (14 : Int32) from rfl)]
  exact pd_bq
theorem pv_dR14 {N : px_M} {at' e : Nat} {a b x : Int32} (hat : at' < 60) (he : e < 8) (h2 : N 2 at' = nI 14) (h3 : N 3 at' = a) (h4 : N 4 at' = b) (h52 : N 0 52 = nI (e + 1)) (h37 : N 37 e = x) : fR_M_doStep N (nI at') = fR_M_place N 14 a b x := by
  unfold fR_M_doStep
  simp only [px_bn]
  rw [pn_ck hat (by omega), pn_ck hat (by omega), pn_ck hat (by omega), nI_clamp (by omega), h2, h3, h4, h52, nI_pred, pn_ck he (by omega), nI_clamp (by omega), h37, if_neg (show ¬ nI 14 = (0 : Int32) by decide), if_neg (show ¬ nI 14 = (1 : Int32) by decide), if_neg (show ¬ nI 14 = (2 : Int32) by decide), if_neg (show ¬ nI 14 = (3 : Int32) by decide), if_neg (show ¬ nI 14 = (4 : Int32) by decide), if_neg (show ¬ nI 14 = (5 : Int32) by decide), if_neg (show ¬ nI 14 = (6 : Int32) by decide), if_neg (show ¬ nI 14 = (7 : Int32) by decide), if_neg (show ¬ nI 14 = (8 : Int32) by decide), if_neg (show ¬ nI 14 = (9 : Int32) by decide), if_neg (show ¬ nI 14 = (10 : Int32) by decide), if_neg (show ¬ nI 14 = (11 : Int32) by decide), if_neg (show ¬ nI 14 = (12 : Int32) by decide), if_neg (show ¬ nI 14 = (13 : Int32) by decide), if_pos (show nI 14 = (14 : Int32) from rfl)]
  exact pd_bq
theorem pv_dC15 (rn : px_M → Int32 → Int32 → Int32 → Option px_M) (M : px_M) (a b x dp : Int32) : fC_doStep rn M (nI 15) a b x dp = (px_ck b 8 (px_ck a 8 (some (px_up M 6 a.toNatClampNeg (M 6 b.toNatClampNeg))))) := by
  unfold fC_doStep
  rw [if_neg (show ¬ nI 15 = (0 : Int32) by decide), if_neg (show ¬ nI 15 = (1 : Int32) by decide), if_neg (show ¬ nI 15 = (2 : Int32) by decide), if_neg (show ¬ nI 15 = (3 : Int32) by decide), if_neg (show ¬ nI 15 = (4 : Int32) by decide), if_neg (show ¬ nI 15 = (5 : Int32) by decide), if_neg (show ¬ nI 15 = (6 : Int32) by decide), if_neg (show ¬ nI 15 = (7 : Int32) by decide), if_neg (show ¬ nI 15 = (8 : Int32) by decide), if_neg (show ¬ nI 15 = (9 : Int32) by decide), if_neg (show ¬ nI 15 = (10 : Int32) by decide), if_neg (show ¬ nI 15 = (11 : Int32) by decide), if_neg (show ¬ nI 15 = (12 : Int32) by decide), if_neg (show ¬ nI 15 = (13 : Int32) by decide), if_neg (show ¬ nI 15 = (14 : Int32) by decide), if_pos (show nI 15 = (15 : Int32) from rfl)]
  rfl
theorem pv_dR15 {N : px_M} {at' e : Nat} {a b x : Int32} (hat : at' < 60) (he : e < 8) (h2 : N 2 at' = nI 15) (h3 : N 3 at' = a) (h4 : N 4 at' = b) (h52 : N 0 52 = nI (e + 1)) (h37 : N 37 e = x) : fR_M_doStep N (nI at') = fR_M_promiseStep N 15 a b x := by
  unfold fR_M_doStep
  simp only [px_bn]
  rw [pn_ck hat (by omega), pn_ck hat (by omega), pn_ck hat (by omega), nI_clamp (by omega), h2, h3, h4, h52, nI_pred, pn_ck he (by omega), nI_clamp (by omega), h37, if_neg (show ¬ nI 15 = (0 : Int32) by decide), if_neg (show ¬ nI 15 = (1 : Int32) by decide), if_neg (show ¬ nI 15 = (2 : Int32) by decide), if_neg (show ¬ nI 15 = (3 : Int32) by decide), if_neg (show ¬ nI 15 = (4 : Int32) by decide), if_neg (show ¬ nI 15 = (5 : Int32) by decide), if_neg (show ¬ nI 15 = (6 : Int32) by decide), if_neg (show ¬ nI 15 = (7 : Int32) by decide), if_neg (show ¬ nI 15 = (8 : Int32) by decide), if_neg (show ¬ nI 15 = (9 : Int32) by decide), if_neg (show ¬ nI 15 = (10 : Int32) by decide), if_neg (show ¬ nI 15 = (11 : Int32) by decide), if_neg (show ¬ nI 15 = (12 : Int32) by decide), if_neg (show ¬ nI 15 = (13 : Int32) by decide), if_neg (show ¬ nI 15 = (14 : Int32) by decide)]
  exact pd_bq
/-- a run's fields, as it goes on -/
def pv_S (np e c : Nat) (M N : px_M) : Prop := M 0 15 = 0 ∧ N 0 63 = 0 ∧ N 0 52 = nI (e + 1) ∧ M 0 13 = nI c ∧ N 0 61 = nI c ∧ M 0 16 = N 39 e ∧ M 0 17 = N 40 e ∧ pr_B (M 0 16) ∧ (M 0 16 = 1 → ∃ p, p < np ∧ M 0 17 = nI p)
/-- as it has failed -/
def pv_X (e c : Nat) (M N : px_M) : Prop := M 0 15 = 1 ∧ N 0 63 = 1 ∧ N 0 52 = nI (e + 1) ∧ M 0 13 = nI c ∧ N 0 61 = nI c ∧ N 0 64 = M 0 17
/-- what a run at the place e leaves alone -/
def pv_k (e : Nat) (M N M' N' : px_M) : Prop := (∀ i, i ≠ 13 → i ≠ 15 → i ≠ 16 → i ≠ 17 → M' 0 i = M 0 i) ∧ (∀ i, (i = 0 ∨ i = 30 ∨ i = 31 ∨ i = 42 ∨ i = 45 ∨ i = 46 ∨ i = 60 ∨ i = 62) → N' 0 i = N 0 i) ∧ N' 33 = N 33 ∧ (∀ a, 1 ≤ a → a < 5 → N' a = N a) ∧ ∀ a, 36 ≤ a → ∀ i, i < e → ((a = 39 ∨ a = 40) → i + 1 < e) → N' a i = N a i
/-- what a step leaves alone -/
def pv_s (e : Nat) (M N M' N' : px_M) : Prop := (∀ i, i ≠ 15 → i ≠ 16 → i ≠ 17 → M' 0 i = M 0 i) ∧ (∀ i, (i = 0 ∨ i = 30 ∨ i = 31 ∨ i = 42 ∨ i = 45 ∨ i = 46 ∨ i = 60 ∨ i = 62) → N' 0 i = N 0 i) ∧ N' 33 = N 33 ∧ (∀ a, 1 ≤ a → a < 5 → N' a = N a) ∧ (∀ a, 36 ≤ a → a ≠ 39 → a ≠ 40 → N' a = N a) ∧ ∀ i, i ≠ e → N' 39 i = N 39 i ∧ N' 40 i = N 40 i
theorem pv_s_k {e : Nat} {M N M' N' : px_M} (h : pv_s e M N M' N') : pv_k e M N M' N' := by
  obtain ⟨h1, h2, h3, h4, h5, h6⟩ := h
  refine ⟨fun i _ i1 i2 i3 => h1 i i1 i2 i3, h2, h3, h4, fun a ha i hi _ => ?_⟩
  by_cases c1 : a = 39
  · subst c1; exact (h6 i (by omega)).1
  · by_cases c2 : a = 40
    · subst c2; exact (h6 i (by omega)).2
    · rw [h5 a ha c1 c2]
theorem pv_k_t {e : Nat} {M N M' N' M'' N'' : px_M} (h : pv_k e M N M' N') (g : pv_k e M' N' M'' N'') : pv_k e M N M'' N'' :=
  ⟨fun i a b c d => (g.1 i a b c d).trans (h.1 i a b c d), fun i hi => (g.2.1 i hi).trans (h.2.1 i hi), g.2.2.1.trans h.2.2.1, fun a h1 h2 => (g.2.2.2.1 a h1 h2).trans (h.2.2.2.1 a h1 h2), fun a ha i hi hc => (g.2.2.2.2 a ha i hi hc).trans (h.2.2.2.2 a ha i hi hc)⟩
def pv_one (j K w z np e c : Nat) (tk : List Int32) (M N : px_M) (oc or : Option px_M) : Prop := ∃ M' N' np', oc = some M' ∧ or = some N' ∧ np ≤ np' ∧ pr_I j K w z np' tk M' N' ∧ pv_s e M N M' N' ∧ (pv_S np' e c M' N' ∨ pv_X e c M' N')
theorem pv_of {j K w z np e c : Nat} {tk : List Int32} {M N : px_M} {oc or : Option px_M} (hI : pr_I j K w z np tk M N) (hS : pv_S np e c M N) (h : pd_two j K w z np tk M N oc or) : pv_one j K w z np e c tk M N oc or := by
  obtain ⟨s1, s2, s3, s4, s5, s6, s7, s8, s9⟩ := hS
  rcases h with ⟨M', N', np', a1, a2, a3, a4, k1, k2, k3, k4⟩ | ⟨v, a1, a2⟩
  · refine ⟨M', N', np', a1, a2, a3, a4, ⟨fun i _ _ _ => by rw [k1], fun i _ => k2 i (by omega), k3 33 (by omega), k4, fun a ha _ _ => k3 a (by omega), fun i _ => ⟨by rw [k3 39 (by omega)], by rw [k3 40 (by omega)]⟩⟩, Or.inl ?_⟩
    unfold pv_S
    rw [k1, k2 63 (by omega), k2 52 (by omega), k2 61 (by omega), k3 39 (by omega), k3 40 (by omega)]
    refine ⟨s1, s2, s3, s4, s5, s6, s7, s8, fun hh => ?_⟩
    obtain ⟨p, h1, h2⟩ := s9 hh
    exact ⟨p, by omega, h2⟩
  · refine ⟨_, _, np, a1, a2, Nat.le_refl _, pc_I hI (fun k k0 => by rw [pn_un k0, pn_un k0]) (fun i hi => by rw [pn_up, pn_ue (by omega), pn_up, pn_ue (by omega)]) (fun k k0 _ => by rw [pn_un k0, pn_un k0]) (fun i _ _ hi => by rw [pn_up, pn_ue (by omega), pn_up, pn_ue (by omega)]), ⟨fun i i1 _ i3 => by rw [pn_up, pn_ue i3, pn_up, pn_ue i1], fun i hi => by rw [pn_up, pn_ue (by omega), pn_up, pn_ue (by omega)], rfl, fun a _ _ => by rw [pn_un (by omega), pn_un (by omega)], fun a _ _ _ => by rw [pn_un (by omega), pn_un (by omega)], fun i _ => ⟨rfl, rfl⟩⟩, Or.inr ⟨?_, ?_, s3, s4, s5, ?_⟩⟩
    · rw [pn_up, pn_ue (by omega), pn_up, pn_us]
    · rw [pn_up, pn_ue (by omega), pn_up, pn_us]
    · rw [pn_up, pn_us, pn_up, pn_us]
theorem pd_two_m {j K w z np : Nat} {tk : List Int32} {M N : px_M} {oc or : Option px_M} (h : pd_two j K w z np tk M N oc or) : pd_two j (K + 1) w z np tk M N oc or := by
  rcases h with ⟨M', N', np', a1, a2, a3, a4, a5⟩ | h
  · exact Or.inl ⟨M', N', np', a1, a2, a3, pr_I_mono a4 (by omega) (Nat.le_refl _), a5⟩
  · exact Or.inr h
theorem pv_answer {j K w z np e c : Nat} {tk : List Int32} {M N : px_M} (hI : pr_I j K w z np tk M N) (hS : pv_S np e c M N) (he : e < 8) {a b : Int32} (ha : b = 2 → ∃ r, r < 8 ∧ a = nI r) (x : Int32) : pv_one j K w z np e c tk M N (fC_answerStep M a b x) (fR_M_answer N a b x) := by
  have hS' := hS
  obtain ⟨s1, s2, s3, s4, s5, s6, s7, s8, s9⟩ := hS
  have key : ∀ (p v : Int32), pr_B p → (p = 1 → ∃ k, k < np ∧ v = nI k) → pv_one j K w z np e c tk M N (some (px_up (px_up M 0 16 p) 0 17 v)) (some (px_up (px_up N 39 e p) 40 e v)) := by
    intro p v hp hv
    refine ⟨_, _, np, rfl, rfl, Nat.le_refl _, pc_I hI (fun k k0 => by rw [pn_un k0, pn_un k0]) (fun i hi => by rw [pn_up, pn_ue (by omega), pn_up, pn_ue (by omega)]) (fun k k0 _ => by rw [pn_un (by omega), pn_un (by omega)]) (fun i _ _ hi => rfl), ⟨fun i _ i2 i3 => by rw [pn_up, pn_ue i3, pn_up, pn_ue i2], fun i hi => rfl, rfl, fun a _ _ => by rw [pn_un (by omega), pn_un (by omega)], fun a _ a1 a2 => by rw [pn_un a2, pn_un a1], fun i hi => ⟨?_, ?_⟩⟩, Or.inl ⟨s1, s2, s3, s4, s5, ?_, ?_, ?_, ?_⟩⟩
    · show upd (N 39) e p i = _; rw [pn_ue hi]
    · show upd (N 40) e v i = _; rw [pn_ue hi]
    · show p = upd (N 39) e p e; rw [pn_us]
    · show v = upd (N 40) e v e; rw [pn_us]
    · exact hp
    · exact hv
  have x1 : N 0 52 - 1 = nI e := by rw [s3, nI_pred]
  unfold fC_answerStep fR_M_answer
  simp only [px_bn]
  rw [x1]
  simp only [pn_ck he (show (8 : Nat) < 2 ^ 31 by omega), nI_clamp (show e < 2 ^ 31 by omega)]
  by_cases c2 : b = 2
  · obtain ⟨r, hr, rfl⟩ := ha c2
    simp only [if_pos c2, pn_ck hr (show (8 : Nat) < 2 ^ 31 by omega), nI_clamp (show r < 2 ^ 31 by omega)]
    obtain ⟨nl, nr, made, q, ts, tm, fr, hD, -, -⟩ := hI
    rcases pd_regv hD.1 hD.2.1.1 hr with ⟨e1, e2⟩ | ⟨p, hp, e1, e2⟩
    · rw [e1, e2, if_pos rfl, if_pos (show (0 : Int32) ≤ 0 by decide)]
      exact key 0 0 (Or.inl rfl) (fun hh => absurd hh (by decide))
    · rw [e1, e2, if_neg (pg_neg1 (by have := hD.2.1.1; omega)), if_neg (nI_nle (by omega) (by have := hD.2.1.1; omega)), show (px_up N 39 e 1) 5 r = nI (p + 1) from e2, nI_pred]
      exact key 1 (nI p) (Or.inr rfl) (fun _ => ⟨p, hp, rfl⟩)
  · simp only [if_neg c2]
    by_cases c1 : b = 1
    · rw [if_pos c1, if_pos c1]
      exact key 0 x (Or.inl rfl) (fun hh => absurd hh (by decide))
    · rw [if_neg c1, if_neg c1]
      exact key 0 a (Or.inl rfl) (fun hh => absurd hh (by decide))
theorem pv_16 {k : Nat} (h : k < 16) (k7 : k ≠ 7) (k8 : k ≠ 8) : k = 0 ∨ k = 1 ∨ k = 2 ∨ k = 3 ∨ k = 4 ∨ k = 5 ∨ k = 6 ∨ k = 9 ∨ k = 10 ∨ k = 11 ∨ k = 12 ∨ k = 13 ∨ k = 14 ∨ k = 15 := by omega
theorem pv_step {j K w z np e c : Nat} {tk : List Int32} {M N : px_M} (hI : pr_I j K w z np tk M N) (hK : K + 1 < 2 ^ 31) (hS : pv_S np e c M N) (he : e < 8) {at' k : Nat} (hat : at' < 60) {a b x : Int32} (h2 : N 2 at' = nI k) (h3 : N 3 at' = a) (h4 : N 4 at' = b) (h37 : N 37 e = x) (hk : pr_k (nI k) a b) (hk16 : k < 16) (k7 : k ≠ 7) (k8 : k ≠ 8) (rn : px_M → Int32 → Int32 → Int32 → Option px_M) (dp : Int32) : pv_one j (K + 1) w z np e c tk M N (fC_doStep rn M (nI k) a b x dp) (fR_M_doStep N (nI at')) := by
  have s3 := hS.2.2.1
  obtain ⟨k', q0, q1, q2, q3, q4, q5, q6, q7, q8, q9⟩ := hk
  have : k = k' := (nI_eq (by omega) (by omega)).mp q1
  subst this
  have up := fun {oc or : Option px_M} (h : pd_two j K w z np tk M N oc or) => pv_of (pr_I_mono hI (Nat.le_succ K) (Nat.le_refl w)) hS (pd_two_m h)
  rcases pv_16 hk16 k7 k8 with rfl | rfl | rfl | rfl | rfl | rfl | rfl | rfl | rfl | rfl | rfl | rfl | rfl | rfl
  · rw [pv_dC0, pv_dR0 hat he h2 h3 h4 s3 h37]
    by_cases cb : b = 1
    · simp only [if_pos cb]; exact up (pd_note hI x)
    · simp only [if_neg cb]; exact up (pd_note hI a)
  · rw [pv_dC1, pv_dR1 hat he h2 h3 h4 s3 h37]
    obtain ⟨f, hf, rfl⟩ := q2 (by omega)
    obtain ⟨s, hs, rfl⟩ := q3 rfl
    exact up (pd_post hI hs hf x)
  · rw [pv_dC2, pv_dR2 hat he h2 h3 h4 s3 h37]
    obtain ⟨f, hf, rfl⟩ := q2 (by omega)
    exact up (pd_micro hI hf b x)
  · rw [pv_dC3, pv_dR3 hat he h2 h3 h4 s3 h37]
    obtain ⟨f, hf, rfl⟩ := q2 (by omega)
    obtain ⟨d, hd, rfl⟩ := q4 (by omega)
    exact pv_of (pr_I_mono hI (Nat.le_succ K) (Nat.le_refl w)) hS (pd_wait hI hK hf hd x (Or.inl ⟨rfl, rfl⟩))
  · rw [pv_dC4, pv_dR4 hat he h2 h3 h4 s3 h37]
    obtain ⟨f, hf, rfl⟩ := q2 (by omega)
    obtain ⟨d, hd, rfl⟩ := q4 (by omega)
    exact pv_of (pr_I_mono hI (Nat.le_succ K) (Nat.le_refl w)) hS (pd_wait hI hK hf hd x (Or.inr ⟨rfl, rfl⟩))
  · rw [pv_dC5, pv_dR5 hat he h2 h3 h4 s3 h37]
    exact up (pd_cancel hI (by omega) (q9 rfl))
  · rw [pv_dC6, pv_dR6 hat he h2 h3 h4 s3 h37]
    by_cases cb : b = 1
    · simp only [if_pos cb]; exact up (Or.inr ⟨x, rfl, rfl⟩)
    · simp only [if_neg cb]; exact up (Or.inr ⟨a, rfl, rfl⟩)
  · rw [pv_dC9, pv_dR9 hat he h2 h3 h4 s3 h37]
    exact pv_answer (pr_I_mono hI (Nat.le_succ K) (Nat.le_refl w)) hS he (fun hb => q6 (by simp [hb])) x
  · rw [pv_dC10, pv_dR10 hat he h2 h3 h4 s3 h37]
    obtain ⟨r, hr, rfl⟩ := q6 (by omega)
    exact up (pd_make hI hr b x)
  · rw [pv_dC11, pv_dR11 hat he h2 h3 h4 s3 h37]
    obtain ⟨r, hr, rfl⟩ := q6 (by omega)
    exact up (pd_settle hI hr b x)
  · rw [pv_dC12, pv_dR12 hat he h2 h3 h4 s3 h37]
    obtain ⟨r, hr, rfl⟩ := q6 (by omega)
    obtain ⟨s, hs, rfl⟩ := q7 (by omega)
    exact up (pd_follow hI hr hs x)
  · rw [pv_dC13, pv_dR13 hat he h2 h3 h4 s3 h37]
    obtain ⟨r, hr, rfl⟩ := q6 (by omega)
    obtain ⟨d, hd, rfl⟩ := q8 rfl
    exact up (pd_then hI hr hd x)
  · rw [pv_dC14, pv_dR14 hat he h2 h3 h4 s3 h37]
    obtain ⟨f, hf, rfl⟩ := q2 (by omega)
    exact up (pd_frame hI hf b x)
  · rw [pv_dC15, pv_dR15 hat he h2 h3 h4 s3 h37]
    obtain ⟨r, hr, rfl⟩ := q6 (by omega)
    obtain ⟨s, hs, rfl⟩ := q7 (by omega)
    exact up (pd_copy hI hr hs x)
