/-! Reports; reactions; a job taken. -/
theorem pw_tell {M N : px_M} (h : pr_L M N) {k x : Int32} {c : Int32} (hc : c = x + 10000 * k) :
    ∃ M' N', fC_Journal_keep_30 M c = some M' ∧ fR_M_tell N k x = some N' ∧ pr_L M' N' ∧ (∀ a, a ≠ 30 → a ≠ 31 → M' a = M a) ∧ (∀ a, a ≠ 0 → a ≠ 35 → N' a = N a) ∧ ∀ i, i ≠ 50 → N' 0 i = N 0 i := by
  have h' := h
  obtain ⟨l1, l2, ⟨n, n1, n2, n3⟩, l4⟩ := h
  unfold fC_Journal_keep_30 fR_M_tell
  rw [n2, n3, ← hc]
  by_cases d : n = 200
  · subst d
    rw [if_pos (show (200 : Int32) ≤ nI 200 by decide), if_pos (show (200 : Int32) ≤ nI 200 by decide)]
    exact ⟨M, N, rfl, rfl, h', fun _ _ _ => rfl, fun _ _ _ => rfl, fun _ _ => rfl⟩
  · have e : ¬ (200 : Int32) ≤ nI n := nI_ge (b := 200) (by omega) (by omega)
    rw [if_neg e, if_neg e, pn_ck (show n < 200 by omega) (by omega), pn_ck (show n < 200 by omega) (by omega), nI_clamp (by omega)]
    simp only [px_bn]
    rw [show (px_up M 31 n c) 30 1 = nI n from n2, show (px_up N 35 n c) 0 50 = nI n from n3, nI_1]
    refine ⟨_, _, rfl, rfl, ⟨l1, l2, ⟨n + 1, by omega, by rw [pn_up, pn_us], by rw [pn_up, pn_us]⟩, ?_⟩, fun a a1 a2 => by rw [pn_un a1, pn_un a2], fun a a1 a2 => by rw [pn_un a1, pn_un a2], fun i hi => by rw [pn_up, pn_ue hi]; rfl⟩
    show upd (M 31) n c = upd (N 35) n c
    rw [l4]
theorem pw_tellD {w np nl nr : Nat} {q : List pn_J} {M N : px_M} (h : pr_D w np nl nr q M N) {k x : Int32} {c : Int32} (hc : c = x + 10000 * k) :
    ∃ M' N', fC_Journal_keep_30 M c = some M' ∧ fR_M_tell N k x = some N' ∧ pr_D w np nl nr q M' N' ∧ pr_fD M N M' N' ∧ (∀ a, a ≠ 30 → a ≠ 31 → M' a = M a) ∧ (∀ a, a ≠ 0 → a ≠ 35 → N' a = N a) ∧ ∀ i, i ≠ 50 → N' 0 i = N 0 i := by
  obtain ⟨hG, hP, hR, hQ, hU, hC, hW, hL⟩ := h
  obtain ⟨M', N', a1, a2, a3, a4, a5, a6⟩ := pw_tell hL hc
  refine ⟨M', N', a1, a2, ⟨pc_G hG (a4 _ (by omega) (by omega)) (a5 _ (by omega) (by omega)), pc_P hP (fun k _ _ => a4 k (by omega) (by omega)) (by rw [a4 32 (by omega) (by omega)]) (by rw [a4 32 (by omega) (by omega)]) (fun k _ _ => a5 k (by omega) (by omega)) (a6 _ (by omega)) (a6 _ (by omega)), pc_R hR (fun k _ _ => a4 k (by omega) (by omega)) (a4 _ (by omega) (by omega)) (by rw [a4 32 (by omega) (by omega)]) (fun k _ _ => a5 k (by omega) (by omega)) (a6 _ (by omega)), pc_Q hQ (fun k _ _ => a4 k (by omega) (by omega)) (a4 _ (by omega) (by omega)) (a4 _ (by omega) (by omega)) (fun k _ _ => a5 k (by omega) (by omega)) (a6 _ (by omega)) (a6 _ (by omega)), pc_U hU (a4 _ (by omega) (by omega)) (a4 _ (by omega) (by omega)) (a4 _ (by omega) (by omega)) (a4 _ (by omega) (by omega)) (a4 _ (by omega) (by omega)), pc_C hC (a4 _ (by omega) (by omega)) (a4 _ (by omega) (by omega)) (a4 _ (by omega) (by omega)) (a4 _ (by omega) (by omega)), pc_W hW (a4 _ (by omega) (by omega)) (a4 _ (by omega) (by omega)) (a4 _ (by omega) (by omega)), a3⟩, ⟨fun k _ hk => a4 k (by omega) (by omega), fun k k0 hk => a5 k k0 (by omega), fun i hi => a6 i (by omega)⟩, a4, a5, a6⟩
/-- the end of react, in the class and in the reference -/
def pe_C (M : px_M) (p1 p2 p3 p4 : Int32) : Option px_M := px_ck p1 40 (px_bn (px_up M 36 p1.toNatClampNeg (1 : Int32)) (fun M8 => px_ck (M8 32 14) 80 (px_bn (px_up M8 39 (M8 32 14).toNatClampNeg p1) (fun M10 => px_ck (M10 32 14) 80 (px_bn (px_up M10 40 (M10 32 14).toNatClampNeg p4) (fun M12 => px_ck (M12 32 14) 80 (px_bn (px_up M12 41 (M12 32 14).toNatClampNeg p2) (fun M14 => px_ck (M14 32 14) 80 (px_bn (px_up M14 42 (M14 32 14).toNatClampNeg p3) (fun M16 => px_ck p1 40 ((if (M16 33 p1.toNatClampNeg) = 0 then px_bn (px_up M16 32 14 ((M16 32 14) + (1 : Int32))) (fun M19 => some M19) else px_bq (fC_Line_put_20 M16 (2 : Int32) (M16 32 14) (0 : Int32)) (fun M21 => px_bn (px_up M21 32 14 ((M21 32 14) + (1 : Int32))) (fun M22 => some M22))))))))))))))
def pe_R (M : px_M) (p1 p2 p3 p4 : Int32) : Option px_M := px_ck p1 40 (px_bn (px_up M 9 p1.toNatClampNeg (1 : Int32)) (fun M4 => px_bn ((M4 0 14)) (fun x5 => px_bn (px_up M4 0 14 ((M4 0 14) + (1 : Int32))) (fun M6 => px_ck x5 100 (px_bn (px_up M6 12 x5.toNatClampNeg p1) (fun M8 => px_ck x5 100 (px_bn (px_up M8 13 x5.toNatClampNeg p2) (fun M10 => px_ck x5 100 (px_bn (px_up M10 14 x5.toNatClampNeg p3) (fun M12 => px_ck x5 100 (px_bn (px_up M12 15 x5.toNatClampNeg p4) (fun M14 => px_ck p1 40 ((if (M14 6 p1.toNatClampNeg) = 0 then px_ck x5 100 (px_bn (px_up M14 16 x5.toNatClampNeg (1 : Int32)) (fun M24 => px_ck x5 100 ((if (M24 16 x5.toNatClampNeg) = 0 then px_bq (fR_M_addMicro M24 (1 : Int32) x5 (0 : Int32)) (fun M28 => some M28) else some M24)))) else px_ck x5 100 (px_bn (px_up M14 16 x5.toNatClampNeg (0 : Int32)) (fun M18 => px_ck x5 100 ((if (M18 16 x5.toNatClampNeg) = 0 then px_bq (fR_M_addMicro M18 (1 : Int32) x5 (0 : Int32)) (fun M22 => some M22) else some M18))))))))))))))))))
theorem pe_C_e (M : px_M) (p1 p2 p3 p4 : Int32) : fC_Promises_react M p1 p2 p3 p4 = px_bq (fC_Promises_has M p1) (fun r2 => (if r2 = 0 then some M else (if (M 32 14) < (80 : Int32) then px_ck p1 40 (if (M 37 p1.toNatClampNeg) = 0 then pe_C M p1 p2 p3 p4 else px_ck p1 40 (if (M 36 p1.toNatClampNeg) = 0 then px_bq (fC_Journal_keep_30 M ((30000 : Int32) + p1)) (fun M42 => pe_C M42 p1 p2 p3 p4) else pe_C M p1 p2 p3 p4)) else some M))) := rfl
theorem pe_R_e (M : px_M) (p1 p2 p3 p4 : Int32) : fR_M_react M p1 p2 p3 p4 = px_ck p1 40 (if (M 10 p1.toNatClampNeg) = 0 then pe_R M p1 p2 p3 p4 else px_ck p1 40 (if (M 9 p1.toNatClampNeg) = 0 then px_bq (fR_M_tell M (3 : Int32) p1) (fun M58 => pe_R M58 p1 p2 p3 p4) else pe_R M p1 p2 p3 p4)) := rfl
/-- what a reaction more asks for -/
def pe_ok (np nr : Nat) (q : List pn_J) (M : px_M) (t kv : Nat) : Prop := (kv ≠ 16 → pr_cnt nr (fun r => M 41 r != 16) + 1 ≤ np) ∧ (kv = 16 → M 35 t = 1 ∧ M 33 t = 0 ∧ (∀ r, r < nr → M 41 r = 16 → M 40 r ≠ nI t) ∧ (∀ o, (3, nI t, o) ∉ q) ∧ pr_cnt nr (fun r => M 41 r == 16) + (q.filter (fun x => x.1 == 3)).length + 1 ≤ pr_cnt 40 (fun p => M 35 p == 1))
theorem pe_nr {w np nl nr : Nat} {q : List pn_J} {M N : px_M} (h : pr_D w np nl nr q M N) {t kv : Nat} (ho : pe_ok np nr q M t kv) : nr < 80 := by
  obtain ⟨hG, hP, hR, hQ, hU, ⟨c1, c2, c3, c4, c5⟩, hW, hL⟩ := h
  have e := pz_n (n := nr) (p := fun r => M 41 r != 16) (q := fun r => M 41 r == 16) (fun i _ => by cases hh : (M 41 i == 16) <;> simp_all)
  have := pz_le 40 (fun p => M 35 p == 1)
  have := hP.1
  by_cases k : kv = 16
  · have := (ho.2 k).2.2.2.2; omega
  · have := ho.1 k; omega
theorem pe_main {w np nl nr : Nat} {q : List pn_J} {M N : px_M} (h : pr_D w np nl nr q M N) {p t kv kr : Nat} (hp : p < np) (ht : t < np) (hkv : kv ≤ 16) (hkr : kr ≤ 16) (hk : kv = 16 ↔ kr = 16) (ho : pe_ok np nr q M t kv) :
    ∃ M' N' q', pe_C M (nI p) (nI kv) (nI kr) (nI t) = some M' ∧ pe_R N (nI p) (pr_cv kv) (pr_cv kr) (nI t) = some N' ∧ pr_D w np nl (nr + 1) q' M' N' ∧ pr_fD M N M' N' ∧ M' 6 = M 6 ∧ N' 5 = N 5 ∧ M' 32 7 = M 32 7 ∧ N' 0 6 = N 0 6 := by
  have hnr := pe_nr h ho
  have hlen := pw_len h
  obtain ⟨hG, hP, hR, hQ, hU, hC, hW, hL⟩ := h
  obtain ⟨p1, p2, p3, p4, p5, p6, p7, p8, p9, p10, p11, p12, p13, p14, p15⟩ := hP
  obtain ⟨r1, r2, r3, r4, r5, r6⟩ := hR
  obtain ⟨u1, u2, u3, u4, u5, u6, u7⟩ := hU
  obtain ⟨c1, c2, c3, c4, c5⟩ := hC
  have hp40 : p < 40 := by omega
  have i16 : ∀ k : Nat, k ≤ 16 → (nI k = (16 : Int32) ↔ k = 16) := fun k hk => (nI_eq (a := k) (b := 16) (by omega) (by omega))
  -- what both write
  let A : px_M := px_up (px_up (px_up (px_up (px_up M 36 p 1) 39 nr (nI p)) 40 nr (nI t)) 41 nr (nI kv)) 42 nr (nI kr)
  let B : Int32 → px_M := fun z => px_up (px_up (px_up (px_up (px_up (px_up (px_up N 9 p 1) 0 14 (nI (nr + 1))) 12 nr (nI p)) 13 nr (pr_cv kv)) 14 nr (pr_cv kr)) 15 nr (nI t)) 16 nr z
  have eC : pe_C M (nI p) (nI kv) (nI kr) (nI t) = if M 33 p = 0 then some (px_up A 32 14 (nI (nr + 1))) else px_bq (fC_Line_put_20 A 2 (nI nr) 0) (fun M21 => some (px_up M21 32 14 (M21 32 14 + 1))) := by
    unfold pe_C
    simp only [px_bn]
    rw [pn_ck hp40 (by omega), nI_clamp (by omega)]
    rw [show (px_up M 36 p 1) 32 14 = nI nr from r2, pn_ck hnr (by omega), nI_clamp (by omega)]
    rw [show (px_up (px_up M 36 p 1) 39 nr (nI p)) 32 14 = nI nr from r2, pn_ck hnr (by omega), nI_clamp (by omega)]
    rw [show (px_up (px_up (px_up M 36 p 1) 39 nr (nI p)) 40 nr (nI t)) 32 14 = nI nr from r2, pn_ck hnr (by omega), nI_clamp (by omega)]
    rw [show (px_up (px_up (px_up (px_up M 36 p 1) 39 nr (nI p)) 40 nr (nI t)) 41 nr (nI kv)) 32 14 = nI nr from r2, pn_ck hnr (by omega), nI_clamp (by omega)]
    rw [show (px_up (px_up (px_up (px_up (px_up M 36 p 1) 39 nr (nI p)) 40 nr (nI t)) 41 nr (nI kv)) 42 nr (nI kr)) 32 14 = nI nr from r2, pn_ck hp40 (by omega), nI_1]
    rfl
  have eR : pe_R N (nI p) (pr_cv kv) (pr_cv kr) (nI t) = if M 33 p = 0 then some (B 1) else fR_M_addMicro (B 0) 1 (nI nr) 0 := by
    have hn1 : nr < 100 := by omega
    unfold pe_R
    simp only [px_bn]
    rw [pn_ck hp40 (by omega), nI_clamp (by omega)]
    rw [show (px_up N 9 p 1) 0 14 = nI nr from r3, nI_clamp (by omega), nI_1]
    rw [pn_ck hn1 (by omega), pn_ck hn1 (by omega), pn_ck hn1 (by omega), pn_ck hn1 (by omega), pn_ck hp40 (by omega), pn_ck hn1 (by omega), pn_ck hn1 (by omega), pn_ck hn1 (by omega), pn_ck hn1 (by omega)]
    rw [show (px_up (px_up (px_up (px_up (px_up (px_up N 9 p 1) 0 14 (nI (nr + 1))) 12 nr (nI p)) 13 nr (pr_cv kv)) 14 nr (pr_cv kr)) 15 nr (nI t)) 6 p = M 33 p from congrFun p4.symm p]
    rw [if_neg (show ¬ (B 1) 16 nr = 0 by show ¬ upd (N 16) nr 1 nr = 0; rw [pn_us]; decide), if_pos (show (B 0) 16 nr = 0 by show upd (N 16) nr 0 nr = 0; rw [pn_us])]
    show (if M 33 p = 0 then some (B 1) else px_bq (fR_M_addMicro (B 0) 1 (nI nr) 0) (fun M22 => some M22)) = _
    cases fR_M_addMicro (B 0) 1 (nI nr) 0 <;> rfl
  -- what holds of any pair of memories that is so written
  have key : ∀ (M' N' : px_M) (b : Bool), (∀ k, k ≠ 32 → (k < 20 ∨ 24 ≤ k) → M' k = A k) → (∀ i, i ≠ 14 → M' 32 i = M 32 i) → M' 32 14 = nI (nr + 1) → (b = true ↔ M 33 p = 0) → (∀ k, k ≠ 0 → (k < 17 ∨ 20 ≤ k) → N' k = B (if b then 1 else 0) k) → (∀ i, i ≠ 21 → N' 0 i = B 0 0 i) → lineC M' 20 180 (q ++ if b then [] else [(2, nI nr, 0)]) → pr_ring N' ((q ++ if b then [] else [(2, nI nr, 0)]).map pr_cj) → pr_D w np nl (nr + 1) (q ++ if b then [] else [(2, nI nr, 0)]) M' N' ∧ pr_fD M N M' N' ∧ M' 6 = M 6 ∧ N' 5 = N 5 ∧ M' 32 7 = M 32 7 ∧ N' 0 6 = N 0 6 := by
    intro M' N' b f1 f2 f3 fb f4 f5 f6 f7
    have n33 : M' 33 = M 33 := f1 33 (by omega) (by omega)
    have n34 : M' 34 = M 34 := f1 34 (by omega) (by omega)
    have n35 : M' 35 = M 35 := f1 35 (by omega) (by omega)
    have n36 : M' 36 = upd (M 36) p 1 := f1 36 (by omega) (by omega)
    have n37 : M' 37 = M 37 := f1 37 (by omega) (by omega)
    have n38 : M' 38 = M 38 := f1 38 (by omega) (by omega)
    have n39 : M' 39 = upd (M 39) nr (nI p) := f1 39 (by omega) (by omega)
    have n40 : M' 40 = upd (M 40) nr (nI t) := f1 40 (by omega) (by omega)
    have n41 : M' 41 = upd (M 41) nr (nI kv) := f1 41 (by omega) (by omega)
    have n42 : M' 42 = upd (M 42) nr (nI kr) := f1 42 (by omega) (by omega)
    have g6 : N' 6 = N 6 := f4 6 (by omega) (by omega)
    have g7 : N' 7 = N 7 := f4 7 (by omega) (by omega)
    have g8 : N' 8 = N 8 := f4 8 (by omega) (by omega)
    have g9 : N' 9 = upd (N 9) p 1 := f4 9 (by omega) (by omega)
    have g10 : N' 10 = N 10 := f4 10 (by omega) (by omega)
    have g11 : N' 11 = N 11 := f4 11 (by omega) (by omega)
    have g12 : N' 12 = upd (N 12) nr (nI p) := f4 12 (by omega) (by omega)
    have g13 : N' 13 = upd (N 13) nr (pr_cv kv) := f4 13 (by omega) (by omega)
    have g14 : N' 14 = upd (N 14) nr (pr_cv kr) := f4 14 (by omega) (by omega)
    have g15 : N' 15 = upd (N 15) nr (nI t) := f4 15 (by omega) (by omega)
    have g16 : N' 16 = upd (N 16) nr (if b then 1 else 0) := f4 16 (by omega) (by omega)
    have z6 : N' 0 6 = N 0 6 := f5 6 (by omega)
    have z12 : N' 0 12 = N 0 12 := f5 12 (by omega)
    have z14 : N' 0 14 = nI (nr + 1) := f5 14 (by omega)
    have f6' : M' 6 = M 6 := f1 6 (by omega) (by omega)
    have g5' : N' 5 = N 5 := f4 5 (by omega) (by omega)
    have mem2 : ∀ x : pn_J, x ∈ (q ++ if b then [] else [(2, nI nr, 0)]) → x ∈ q ∨ (b = false ∧ x = (2, nI nr, 0)) := by
      intro x hx
      rcases List.mem_append.mp hx with hx | hx
      · exact Or.inl hx
      · cases b <;> simp at hx
        exact Or.inr ⟨rfl, hx⟩
    have memq3 : ∀ a o : Int32, (3, a, o) ∈ (q ++ if b then [] else [(2, nI nr, 0)]) → (3, a, o) ∈ q := by
      intro a o hx
      rcases mem2 _ hx with hx | ⟨-, hx⟩
      · exact hx
      · simp at hx
    have cw : pr_cnt (nr + 1) (fun r => M' 33 (M' 39 r).toNatClampNeg == 0) = pr_cnt nr (fun r => M 33 (M 39 r).toNatClampNeg == 0) + if b then 1 else 0 := by
      rw [pz_s, n33, n39, pn_us, nI_clamp (by omega)]
      congr 1
      · exact pz_c (fun i hi => by rw [pn_ue (show i ≠ nr by omega)])
      · cases hb : b
        · have : ¬ M 33 p = 0 := fun hh => by have := fb.mpr hh; rw [hb] at this; cases this
          simp [this]
        · simp [fb.mp hb]
    have cs : pr_cnt (nr + 1) (fun r => M' 41 r == 16) = pr_cnt nr (fun r => M 41 r == 16) + if kv = 16 then 1 else 0 := by
      rw [pz_s, n41, pn_us]
      congr 1
      · exact pz_c (fun i hi => by rw [pn_ue (show i ≠ nr by omega)])
      · have := i16 kv hkv
        by_cases e : kv = 16
        · subst e; rfl
        · simp only [if_neg e]; rw [if_neg]; simpa using fun hh => e (this.mp hh)
    have cn : pr_cnt (nr + 1) (fun r => M' 41 r != 16) = pr_cnt nr (fun r => M 41 r != 16) + if kv = 16 then 0 else 1 := by
      rw [pz_s, n41, pn_us]
      congr 1
      · exact pz_c (fun i hi => by rw [pn_ue (show i ≠ nr by omega)])
      · have := i16 kv hkv
        by_cases e : kv = 16
        · subst e; rfl
        · simp only [if_neg e]; rw [if_pos]; simpa using fun hh => e (this.mp hh)
    have q2 : ((q ++ if b then [] else [(2, nI nr, 0)]).filter (fun x : pn_J => x.1 == 2)).length = (q.filter (fun x => x.1 == 2)).length + if b then 0 else 1 := by
      rw [List.filter_append, List.length_append]
      cases b <;> rfl
    have q3 : ((q ++ if b then [] else [(2, nI nr, 0)]).filter (fun x : pn_J => x.1 == 3)).length = (q.filter (fun x => x.1 == 3)).length := by
      rw [List.filter_append, List.length_append]
      cases b <;> rfl
    have q0 : ((q ++ if b then [] else [(2, nI nr, 0)]).filter (fun x : pn_J => x.1 == 0)).length = (q.filter (fun x => x.1 == 0)).length := by
      rw [List.filter_append, List.length_append]
      cases b <;> rfl
    refine ⟨⟨pc_G hG f6' g5', ?_, ?_, ⟨f6, f7, ?_⟩, ?_, ?_, ?_, ?_⟩, ?_, f6', g5', f2 7 (by omega), z6⟩
    · refine ⟨p1, by rw [f2 7 (by omega)]; exact p2, by rw [z6]; exact p3, by rw [n33, g6]; exact p4, by rw [n34, g7]; exact p5, by rw [n35, g8]; exact p6, by rw [n36, g9, p7], by rw [n37, g10]; exact p8, by rw [n38, g11]; exact p9, p10, by rw [f2 9 (by omega)]; exact p11, by rw [z12]; exact p12, by rw [n38]; exact p13, ?_, ?_⟩
      · intro y hy
        obtain ⟨a1, a2, a3, a4, a5⟩ := p14 y hy
        rw [n33, n35, n36, n37]
        refine ⟨a1, a2, ?_, a4, a5⟩
        by_cases e : y = p
        · subst e; rw [pn_us]; exact Or.inr rfl
        · rw [pn_ue e]; exact a3
      · intro y h1 h2
        rw [n33, n35, n36, n37, pn_ue (show y ≠ p by omega)]
        exact p15 y h1 h2
    · refine ⟨by omega, f3, z14, by rw [n39, g12, r4], by rw [n40, g15, r5], ?_⟩
      intro r hr
      rw [n39, n40, n41, n42, n33, g13, g14, g16]
      by_cases e : r = nr
      · subst e
        simp only [pn_us]
        refine ⟨⟨p, hp, rfl, ?_⟩, ⟨t, ht, rfl⟩, kv, kr, hkv, hkr, hk, rfl, rfl, rfl, rfl⟩
        cases hb : b
        · have : ¬ M 33 p = 0 := fun hh => by have := fb.mpr hh; rw [hb] at this; cases this
          simp [this]
        · simp [fb.mp hb]
      · rw [pn_ue e, pn_ue e, pn_ue e, pn_ue e, pn_ue e, pn_ue e, pn_ue e]
        exact r6 r (by omega)
    · intro x hx
      rw [n33, n39]
      rcases mem2 x hx with hx | ⟨hb, rfl⟩
      · rcases hQ.2.2 x hx with c | ⟨e, r, p', b1, b2, b3, b4, b5⟩ | c
        · exact Or.inl c
        · exact Or.inr (Or.inl ⟨e, r, p', by omega, b2, by rw [pn_ue (show r ≠ nr by omega)]; exact b3, b4, b5⟩)
        · exact Or.inr (Or.inr c)
      · exact Or.inr (Or.inl ⟨rfl, nr, p, by omega, rfl, by rw [pn_us], hp, fun hh => by have := fb.mpr hh; rw [hb] at this; cases this⟩)
    · unfold pr_U
      rw [n33, n35, n39, n40, n41]
      refine ⟨?_, ?_, ?_, ?_, ?_, fun p' o o' h1 h2 => u6 p' o o' (memq3 _ _ h1) (memq3 _ _ h2), ?_⟩
      · intro r r' h1 h2 h3 h4 h5
        by_cases e : r = nr <;> by_cases e' : r' = nr
        · rw [e, e']
        · subst e
          rw [pn_us] at h3 h5
          rw [pn_ue e'] at h4 h5
          exact absurd h5.symm ((ho.2 ((i16 kv hkv).mp h3)).2.2.1 r' (by omega) h4)
        · subst e'
          rw [pn_us] at h4 h5
          rw [pn_ue e] at h3 h5
          exact absurd h5 ((ho.2 ((i16 kv hkv).mp h4)).2.2.1 r (by omega) h3)
        · rw [pn_ue e] at h3 h5
          rw [pn_ue e'] at h4 h5
          exact u1 r r' (by omega) (by omega) h3 h4 h5
      · intro r y h1 h2 h3 h4
        by_cases e : r = nr
        · subst e
          rw [pn_us] at h2 h3
          have : t = y := (nI_eq (by omega) (by omega)).mp h3
          subst this
          exact (ho.2 ((i16 kv hkv).mp h2)).1
        · rw [pn_ue e] at h2 h3
          exact u2 r y (by omega) h2 h3 h4
      · intro r p' y h1 h2 h3 h4 h5 h6 h7
        by_cases e : r = nr
        · subst e
          rw [pn_us] at h2 h3
          have : t = y := (nI_eq (by omega) (by omega)).mp h3
          subst this
          exact (ho.2 ((i16 kv hkv).mp h2)).2.1
        · rw [pn_ue e] at h2 h3 h5
          refine u3 r p' y (by omega) h2 h3 h4 h5 h6 (h7.imp_right (fun hh => ?_))
          rcases mem2 _ hh with hh | ⟨-, hh⟩
          · exact hh
          · simp only [Prod.mk.injEq, true_and, and_true] at hh
            exact absurd ((nI_eq (by omega) (by omega)).mp hh) e
      · intro y hy o hh
        obtain ⟨d1, d2, d3⟩ := u4 y hy o (memq3 _ _ hh)
        refine ⟨d1, d2, fun r h1 h2 h3 => ?_⟩
        by_cases e : r = nr
        · subst e
          rw [pn_us] at h2 h3
          rw [← h3] at hh
          exact (ho.2 ((i16 kv hkv).mp h2)).2.2.2.1 o (memq3 _ _ hh)
        · rw [pn_ue e] at h2 h3
          exact d3 r (by omega) h2 h3
      · rw [List.filter_append, List.nodup_append]
        have nd : ((if b then [] else [(2, nI nr, 0)] : List pn_J).filter (fun x => x.1 != 0)).Nodup := by
          cases b
          · show ([(2, nI nr, 0)] : List pn_J).Nodup
            exact List.pairwise_singleton _ _
          · exact List.Pairwise.nil
        refine ⟨u5, nd, ?_⟩
        intro x hx y hy e
        subst e
        cases hb : b
        · have hy' := (List.mem_filter.mp hy).1
          rw [hb] at hy'
          have hy' : x = (2, nI nr, 0) := by simpa using hy'
          subst hy'
          rcases hQ.2.2 _ (List.mem_filter.mp hx).1 with c | ⟨e, r, p', d1, d2, -⟩ | c
          · exact absurd (show (2 : Int32) = 0 from c.1) (by decide)
          · have : nr = r := (nI_eq (by omega) (by omega)).mp d2
            omega
          · exact absurd (show (2 : Int32) = 3 from c.1) (by decide)
        · rw [hb] at hy
          simp at hy
      · intro x hx hk
        rcases mem2 x hx with hx | ⟨-, rfl⟩
        · exact u7 x hx hk
        · rfl
    · refine ⟨?_, ?_, ?_, by rw [q0]; exact c4, by rw [n33]; exact c5⟩
      · rw [cn]
        by_cases e : kv = 16
        · rw [if_pos e]; omega
        · rw [if_neg e]; exact ho.1 e
      · rw [cs, q3, n35]
        by_cases e : kv = 16
        · rw [if_pos e]; have := (ho.2 e).2.2.2.2; omega
        · rw [if_neg e]; omega
      · rw [q2, cw]
        cases b <;> simp <;> omega
    · unfold pr_W at hW ⊢
      rw [cw, q2, q3, n35]
      cases b <;> simp <;> omega
    · exact pc_L hL (fun k _ _ => by
        have k1 : k ≠ 32 := by omega
        rw [f1 k k1 (by omega)]
        show px_up (px_up (px_up (px_up (px_up M 36 p 1) 39 nr (nI p)) 40 nr (nI t)) 41 nr (nI kv)) 42 nr (nI kr) k = M k
        rw [pn_un (by omega), pn_un (by omega), pn_un (by omega), pn_un (by omega), pn_un (by omega)]) (f4 34 (by omega) (by omega)) (f4 35 (by omega) (by omega)) (f5 48 (by omega)) (f5 50 (by omega))
    · refine ⟨fun k _ hk => ?_, fun k k0 hk => ?_, fun i hi => ?_⟩
      · rw [f1 k (by omega) (by omega)]
        show px_up (px_up (px_up (px_up (px_up M 36 p 1) 39 nr (nI p)) 40 nr (nI t)) 41 nr (nI kv)) 42 nr (nI kr) k = M k
        rw [pn_un (by omega), pn_un (by omega), pn_un (by omega), pn_un (by omega), pn_un (by omega)]
      · rw [f4 k k0 (by omega)]
        show px_up (px_up (px_up (px_up (px_up (px_up (px_up N 9 p 1) 0 14 (nI (nr + 1))) 12 nr (nI p)) 13 nr (pr_cv kv)) 14 nr (pr_cv kr)) 15 nr (nI t)) 16 nr _ k = N k
        rw [pn_un (by omega), pn_un (by omega), pn_un (by omega), pn_un (by omega), pn_un (by omega), pn_un k0, pn_un (by omega)]
      · rw [f5 i (by omega)]
        show upd (N 0) 14 (nI (nr + 1)) i = N 0 i
        rw [pn_ue (by omega)]
  by_cases c : M 33 p = 0
  · rw [if_pos c] at eC eR
    have kk := key (px_up A 32 14 (nI (nr + 1))) (B 1) true (fun k k1 _ => pn_un k1) (fun i hi => by rw [pn_up, pn_ue hi]; rfl) (by rw [pn_up, pn_us]) (by simp [c]) (fun k _ _ => rfl) (fun i _ => rfl) (by rw [if_pos rfl, List.append_nil]; exact hQ.1) (by rw [if_pos rfl, List.append_nil]; exact hQ.2.1)
    exact ⟨_, _, _, eC, eR, kk⟩
  · rw [if_neg c] at eC eR
    have hq : q.length < 180 := by have := pz_le 40 (fun p => M 35 p == 1); omega
    obtain ⟨M1, N1, a1, a2, a3, a4, a5, a6, a7⟩ := pw_put (M := A) (N := B 0) (q := q) hQ.1 hQ.2.1 hq (2, nI nr, 0)
    have a1 : fC_Line_put_20 A 2 (nI nr) 0 = some M1 := a1
    have a2 : fR_M_addMicro (B 0) 1 (nI nr) 0 = some N1 := a2
    rw [a1, pi_bq, show M1 32 14 = nI nr from (congrFun (a5 32 (by omega)) 14).trans r2, nI_1] at eC
    rw [a2] at eR
    have kk := key (px_up M1 32 14 (nI (nr + 1))) N1 false (fun k k1 hk => by rw [pn_un k1, a5 k hk]) (fun i hi => by rw [pn_up, pn_ue hi]; exact congrFun (a5 32 (by omega)) i) (by rw [pn_up, pn_us]) (by simp [c]) a6 (fun i hi => a7 i hi) a3 a4
    exact ⟨_, _, _, eC, eR, kk⟩
theorem pw_react {w np nl nr : Nat} {q : List pn_J} {M N : px_M} (h : pr_D w np nl nr q M N) {p t kv kr : Nat} (hp : p < np) (ht : t < np) (hkv : kv ≤ 16) (hkr : kr ≤ 16) (hk : kv = 16 ↔ kr = 16) (ho : pe_ok np nr q M t kv) :
    ∃ M' N' q', fC_Promises_react M (nI p) (nI kv) (nI kr) (nI t) = some M' ∧ fR_M_react N (nI p) (pr_cv kv) (pr_cv kr) (nI t) = some N' ∧ pr_D w np nl (nr + 1) q' M' N' ∧ pr_fD M N M' N' ∧ M' 6 = M 6 ∧ N' 5 = N 5 ∧ M' 32 7 = M 32 7 ∧ N' 0 6 = N 0 6 := by
  have hnr := pe_nr h ho
  obtain ⟨p1, p2, p3, p4, p5, p6, p7, p8, -⟩ := h.2.1
  have hp40 : p < 40 := by omega
  rw [pe_C_e, pe_R_e, pl_has p2 (by omega) hp, pi_bq, if_neg (by decide), h.2.2.1.2.1, if_pos (show nI nr < (80 : Int32) from nI_lt (b := 80) hnr (by omega)), pn_ck hp40 (by omega), pn_ck hp40 (by omega), pn_ck hp40 (by omega), pn_ck hp40 (by omega), nI_clamp (by omega), ← p8, ← p7]
  by_cases c : M 37 p = 0
  · rw [if_pos c, if_pos c]
    exact pe_main h hp ht hkv hkr hk ho
  · rw [if_neg c, if_neg c]
    by_cases d : M 36 p = 0
    · rw [if_pos d, if_pos d]
      obtain ⟨M1, N1, a1, a2, a3, a4, a5, a6, a7⟩ := pw_tellD h (k := 3) (x := nI p) (c := 30000 + nI p) (by rw [show (30000 : Int32) = 10000 * 3 by decide, Int32.add_comm])
      rw [a1, a2, pi_bq, pi_bq]
      have ho' : pe_ok np nr q M1 t kv := by
        unfold pe_ok
        rw [a5 41 (by omega) (by omega), a5 35 (by omega) (by omega), a5 33 (by omega) (by omega), a5 40 (by omega) (by omega)]
        exact ho
      obtain ⟨M', N', q', b1, b2, b3, b4, b5, b6, b7, b8⟩ := pe_main a3 hp ht hkv hkr hk ho'
      refine ⟨M', N', q', b1, b2, b3, pr_fD_t a4 b4, b5.trans (a5 _ (by omega) (by omega)), b6.trans (a6 _ (by omega) (by omega)), b7.trans (by rw [a5 32 (by omega) (by omega)]), b8.trans (a7 _ (by omega))⟩
    · rw [if_neg d, if_neg d]
      exact pe_main h hp ht hkv hkr hk ho
