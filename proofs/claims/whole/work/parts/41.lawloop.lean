/-! THE CLAIM OUT OF ONE WALK OF THE LAW'S BODY. Your part is whole_start (and what it stands on); all else here is the same for every law, but numbers. -/
def R_law : String := "PromiseLoopLaw"
def lw_P (b : Addr) (xs : List Int32) (args : Array Value) (s : State) : Prop := args = #[.ref b] ∧ s.IntsAt b xs ∧ xs.length ≤ 2560 ∧ (Jvm.Cond.and given_1 narrow_1).before args s = true
def lw_Q (_ : Array Value) (s : State) (o : Outcome) (t : State) : Prop := o = .returned (some (.int 1)) ∧ Framed s o t [] 601024 7293034
def lw_Z (below : List Frame) (a : Array Value) (s : State) : State → Prop := fun t => ∃ o, t.status = .running ∧ Ended t below o ∧ lw_Q a s o t
/-- the law's own end, with 1 on the stack, nothing written that was there before, its room as the claim has it -/
theorem lw_ret {p : Program} {l : Launch} {e : Env} {s : State} {m : MethodId} {below : List Frame} {meth : Method} {c : Code} {b : Nat} (hx : p.tables.exec = Jvm.exec) (hb : c.code = code) (hr : meth.sig.returnType = ret) (hlocks : meth.locks = false) {pc : Nat} {H : Heap} {ls : Array Slot} (hdg : decode code pc = .ok (.ireturn, 1)) : W p l e room_1 s m #[Value.ref b] below meth c H [] 601024 7293034 (lw_Z below #[Value.ref b] s) (F0 m pc ls [.int 1]) := by
  intro T hT X
  obtain ⟨fs, hret, hrun, hended, hW, hframe⟩ := X.leave (v := some (.int 1)) (hlocks := hlocks) (fun h => by rw [hr] at h; cases h)
  have hmeth' : T.vm.method? m = some meth := X.method'
  refine ⟨T.setFrames fs, ?_, .returned (some (.int 1)), hrun, hended, rfl, ⟨_, rfl⟩, hW, hframe⟩
  jvm_step X.here [X.here.top, hx, hb, hdg, hmeth', hr, ret, narrow_b1]
  (try refine ⟨rfl, ?_⟩); (try refine ⟨rfl, ?_⟩)
  first | (intro acts; rw [hret _ acts rfl rfl rfl]) | rw [hret _ _ rfl rfl rfl]
  exact Steps.refl _
/-- what holds at the law's entry: the machine, the code, the tables' words (any of lw_tbl by 'hts w (by decide +kernel)'), the script of L ints xs at the cell b, what the Statement gives of the start (any of its parts by flat_of_before) -/
def lw_At (p : Program) (s : State) (m : MethodId) (meth : Method) (c : Code) (b L : Nat) (xs : Nat → Int32) : Prop :=
  p.tables.exec = Jvm.exec ∧ c.code = code ∧ meth.sig.returnType = ret ∧ c.maxLocals = 7 ∧ s.vm.findClass R_law = some m.cls ∧ (∀ w ∈ lw_tbl, w.before #[Value.ref b] s = true) ∧ va_X b L xs s s.heap ∧ b < s.heap.size ∧ meth.locks = false ∧ (Jvm.Cond.and given_1 narrow_1).before #[Value.ref b] s = true

def pu_C0 : px_M := fun k => ([(fun _ => 0), (fun _ => 0), (fun _ => 0), (fun _ => 0), (fun _ => 0), (fun _ => 0), (upd (upd (upd (upd (upd (upd (upd (upd (fun _ => 0) (0 : Int32).toNatClampNeg (-1 : Int32)) (1 : Int32).toNatClampNeg (-1 : Int32)) (2 : Int32).toNatClampNeg (-1 : Int32)) (3 : Int32).toNatClampNeg (-1 : Int32)) (4 : Int32).toNatClampNeg (-1 : Int32)) (5 : Int32).toNatClampNeg (-1 : Int32)) (6 : Int32).toNatClampNeg (-1 : Int32)) (7 : Int32).toNatClampNeg (-1 : Int32)), (fun _ => 0), (fun j => if j = 0 then (40 : Int32) else 0), (fun _ => 0), (fun _ => 0), (fun _ => 0), (fun j => if j = 0 then (1051 : Int32) else 0), (fun _ => 0), (fun _ => 0), (fun _ => 0), (fun j => if j = 0 then (40 : Int32) else 0), (fun _ => 0), (fun _ => 0), (fun _ => 0), (fun j => if j = 0 then (180 : Int32) else 0), (fun _ => 0), (fun _ => 0), (fun _ => 0), (fun j => if j = 0 then (8 : Int32) else 0), (fun _ => 0), (fun _ => 0), (fun _ => 0), (fun _ => 0), (fun _ => 0), (fun _ => 0), (fun _ => 0), (fun _ => 0), (fun _ => 0), (fun _ => 0), (fun _ => 0), (fun _ => 0), (fun _ => 0), (fun _ => 0), (fun _ => 0), (fun _ => 0), (fun _ => 0), (fun _ => 0), (fun _ => 0), (fun _ => 0), (fun _ => 0), (fun _ => 0), (fun _ => 0), (fun _ => 0), (fun _ => 0), (fun _ => 0), (fun _ => 0)] : List (Nat → Int32)).getD k (fun _ => 0)
def pu_R0 : px_M := fun _ _ => 0
def adC (hC : Nat) (aC : Nat → Nat) : Nat → Nat := fun k => ([hC, (aC 0), (aC 1), (aC 2), (aC 3), (aC 4), (aC 5), (aC 6), (aC 7), (aC 8), (aC 9), (aC 10), (aC 11), (aC 12), (aC 13), (aC 14), (aC 15), (aC 16), (aC 17), (aC 18), (aC 19), (aC 20), (aC 21), (aC 22), (aC 23), (aC 24), (aC 25), (aC 26), (aC 27), (aC 28), (aC 29), (aC 30), (aC 31), (aC 32), (aC 33), (aC 34), (aC 35), (aC 36), (aC 37), (aC 38), (aC 39), (aC 40), (aC 41), (aC 42), (aC 43), (aC 44), (aC 45), (aC 46), (aC 47), (aC 48), (aC 49), (aC 50)] : List Nat).getD k 0
def adR (hR : Nat) (aR : Nat → Nat) : Nat → Nat := fun k => match k with
  | 0 => hR
  | k + 1 => aR k
/-- the pure facts, whole: a relation that holds at the start and is kept by every call -/
def pu_ok (Rel : Nat → px_M → px_M → Prop) : Prop := Rel 0 pu_C0 pu_R0 ∧ ∀ (j : Nat) (M N : px_M), Rel j M N → j < 512 → pu_all (Rel (j + 1)) M N
theorem px_n5 (k : Nat) (j : Nat) : nI (5 * j) + nI k = nI (5 * j + k) := nI_add _ _
set_option maxHeartbeats 4000000 in
set_option maxRecDepth 100000 in
theorem lw_loop {l : Launch} (hst : l.stackTraces = false) {D : va_G} {cs : Nat → ClassId} {ad aR : Nat → Nat} {sa : Nat → Nat} {p : Program} {e : Env} {s : State} {m : MethodId} {below : List Frame} {meth : Method} {c : Code} {b L o : Nat} {xs : Nat → Int32} {Rel : Nat → px_M → px_M → Prop} (hp : ∀ (j : Nat) (M N : px_M), Rel j M N → j < 512 → pu_all (Rel (j + 1)) M N) (hL : L ≤ 2560) (X : px_X D (tyL cs) p s m #[Value.ref b] c cL_law RL) (hr : meth.sig.returnType = ret) (hlk : meth.locks = false) (hml : c.maxLocals = 7) (hX : va_X b L xs s s.heap) (hbl : b < s.heap.size) (hE : px_Ex sa (fun q : Nat => s.heap.size ≤ q) s s.heap) (hN : px_NcU s) :
    ∀ (n j : Nat) (x4 : Int32) (M N : px_M) (g : Nat → Int64) (H : Heap) (locs : List Loc) (ls : Array Slot), x4 = nI (5 * j) → 5 * j ≤ L → L < 5 * j + 5 * n → Rel j M N → va_P D vwCl (wC cs ad M ++ (wO cs o g ++ wR cs aR N)) H → va_D (fun q : Nat => s.heap.size ≤ q) (wC cs ad M ++ (wO cs o g ++ wR cs aR N)) → va_S (fun q : Nat => s.heap.size ≤ q) s.heap H locs → lv_has ls 7 [(0, .ref b), (1, .ref (ad 0)), (2, .ref (aR 0)), (3, .ref o), (4, .int x4)] → W p l e room_1 s m #[Value.ref b] below meth c H locs (96 + j) (24821 + 6 * j) (lw_Z below #[Value.ref b] s) (F0 m 23 ls []) := by
  have hA : ∀ q : Nat, s.heap.size ≤ q → (fun q : Nat => s.heap.size ≤ q) q := fun _ h => h
  have hbA : ¬ (fun q : Nat => s.heap.size ≤ q) b := Nat.not_le.mpr hbl
  intro n
  induction n with
  | zero => intro j x4 M N g H locs ls ex hj hn; omega
  | succ n ih =>
    intro j x4 M N g H locs ls ex hj hn hR hP hD hS hl
    refine lv_iload X.1 X.2.1 dL_law_23 (lv_at hl 4 rfl) ?_
    refine lv_aload_n X.1 X.2.1 dL_law_25 rfl (lv_at hl 0 rfl) ?_
    refine va_slen X.1 X.2.1 hX hbl hbA hS dL_law_26 ?_
    refine lv_iconst (v := (5 : Int32)) X.1 X.2.1 dL_law_27 (by decide) ?_
    refine lv_isub X.1 X.2.1 dL_law_28 ?_
    have hsub : (Int32.ofNat L - 5).toInt = (L : Int) - 5 := by
      have := pk_sub_toInt (a := L) (b := 5) (by omega) (by omega)
      exact this
    have hx4 : x4.toInt = (5 * j : Nat) := by rw [ex]; exact nI_toInt (by omega)
    refine lv_icmp_gt (tgt := 801) X.1 X.2.1 dL_law_29 (by decide) (fun c1 => ?_) (fun c1 => ?_)
    · refine lv_iconst (v := (1 : Int32)) X.1 X.2.1 dL_law_801 (by decide) ?_
      refine va_forget (fun q hq => hS.2.2 q hq) ?_
      refine W.widen (k := 601024) (n := 7293034) (by omega) (by omega) ?_
      exact lw_ret X.1 X.2.1 hr hlk dL_law_802
    · have hlt : 5 * j + 5 ≤ L := by
        rw [Int32.lt_iff_toInt_lt, hsub, hx4] at c1
        omega
      have hj5 : j < 512 := by omega
      have hin : ∀ k : Nat, k < 5 → vp_in (nI (5 * j) + nI k) L := fun k hk => by rw [px_n5]; exact vp_in_nI (by omega) (by omega)
      have h0 : vp_in x4 L := by rw [ex]; exact vp_in_nI (by omega) (by omega)
      have h1 : vp_in (x4 + (1 : Int32)) L := by rw [ex]; exact hin 1 (by omega)
      have h2 : vp_in (x4 + (2 : Int32)) L := by rw [ex]; exact hin 2 (by omega)
      have h3 : vp_in (x4 + (3 : Int32)) L := by rw [ex]; exact hin 3 (by omega)
      have h4 : vp_in (x4 + (4 : Int32)) L := by rw [ex]; exact hin 4 (by omega)
      have hT := hp j M N hR hj5
      have hcR : (96 + j) + 1 ≤ room_1.cells := by show (96 + j) + 1 ≤ 601024; omega
      have hsR : (24821 + 6 * j) + 6 ≤ room_1.slots := by show (24821 + 6 * j) + 6 ≤ 7293034; omega
      have kk : ∀ (M' N' : px_M) (g' : Nat → Int64) (H : Heap) (locs : List Loc) (ls : Array Slot), Rel (j + 1) M' N' → va_P D vwCl (wC cs ad M' ++ (wO cs o g' ++ wR cs aR N')) H → va_D (fun q : Nat => s.heap.size ≤ q) (wC cs ad M' ++ (wO cs o g' ++ wR cs aR N')) → va_S (fun q : Nat => s.heap.size ≤ q) s.heap H locs → lv_has ls 7 [(0, .ref b), (1, .ref (ad 0)), (2, .ref (aR 0)), (3, .ref o), (4, .int x4)] → W p l e room_1 s m #[Value.ref b] below meth c H locs ((96 + j) + 1) ((24821 + 6 * j) + 6) (lw_Z below #[Value.ref b] s) (F0 m 795 ls []) := by
        intro M' N' g' H locs ls hR hP hD hS hl
        refine lv_iinc (v := x4 + 5) (lv' := [(4, .int (x4 + 5)), (0, .ref b), (1, .ref (ad 0)), (2, .ref (aR 0)), (3, .ref o)]) X.1 X.2.1 dL_law_795 hl (k := 4) rfl rfl (by decide) rfl (fun ls hl => ?_)
        refine lv_goto (tgt := 23) X.1 X.2.1 dL_law_798 (by decide) ?_
        refine W.widen (k := 96 + (j + 1)) (n := 24821 + 6 * (j + 1)) (by omega) (by omega) ?_
        exact ih (j + 1) (x4 + 5) M' N' g' H locs ls (by rw [ex]; exact px_n5 5 j) (by omega) (by omega) hR hP hD hS (lv_sub hl [1, 2, 3, 4, 0] rfl)
      refine lv_aload_n X.1 X.2.1 dL_law_32 rfl (lv_at hl 0 rfl) ?_
      refine lv_iload X.1 X.2.1 dL_law_33 (lv_at hl 4 rfl) ?_
      refine va_sld X.1 X.2.1 hX hbl hbA hS h0 dL_law_35 ?_
      refine lv_bipush (v := (15 : Int32)) X.1 X.2.1 dL_law_36 (by decide) ?_
      refine lv_iand X.1 X.2.1 dL_law_38 ?_
      refine lv_topi (fun t et => ?_)

      by_cases n0 : t = (0 : Int32)
      · refine lv_tableIn (tgt := 108) X.1 X.2.1 dL_law_39 (by rw [n0]; decide) (by rw [n0]; decide) (by rw [n0]; rfl) (by decide) ?_
        exact lw_c0 hst X hml hX hbl hbA hA hE hN hcR hsR h1 h2 h3 h4 hP hD hS hl hT kk
      by_cases n1 : t = (1 : Int32)
      · refine lv_tableIn (tgt := 200) X.1 X.2.1 dL_law_39 (by rw [n1]; decide) (by rw [n1]; decide) (by rw [n1]; rfl) (by decide) ?_
        exact lw_c1 hst X hml hX hbl hbA hA hE hN hcR hsR h1 h2 h3 h4 hP hD hS hl hT kk
      by_cases n2 : t = (2 : Int32)
      · refine lv_tableIn (tgt := 236) X.1 X.2.1 dL_law_39 (by rw [n2]; decide) (by rw [n2]; decide) (by rw [n2]; rfl) (by decide) ?_
        exact lw_c2 hst X hml hX hbl hbA hA hE hN hcR hsR h1 h2 h3 h4 hP hD hS hl hT kk
      by_cases n3 : t = (3 : Int32)
      · refine lv_tableIn (tgt := 316) X.1 X.2.1 dL_law_39 (by rw [n3]; decide) (by rw [n3]; decide) (by rw [n3]; rfl) (by decide) ?_
        exact lw_c3 hst X hml hX hbl hbA hA hE hN hcR hsR h1 h2 h3 h4 hP hD hS hl hT kk
      by_cases n4 : t = (4 : Int32)
      · refine lv_tableIn (tgt := 352) X.1 X.2.1 dL_law_39 (by rw [n4]; decide) (by rw [n4]; decide) (by rw [n4]; rfl) (by decide) ?_
        exact lw_c4 hst X hml hX hbl hbA hA hE hN hcR hsR h1 h2 h3 h4 hP hD hS hl hT kk
      by_cases n5 : t = (5 : Int32)
      · refine lv_tableIn (tgt := 365) X.1 X.2.1 dL_law_39 (by rw [n5]; decide) (by rw [n5]; decide) (by rw [n5]; rfl) (by decide) ?_
        exact lw_c5 hst X hml hX hbl hbA hA hE hN hcR hsR h1 h2 h3 h4 hP hD hS hl hT kk
      by_cases n6 : t = (6 : Int32)
      · refine lv_tableIn (tgt := 421) X.1 X.2.1 dL_law_39 (by rw [n6]; decide) (by rw [n6]; decide) (by rw [n6]; rfl) (by decide) ?_
        exact lw_c6 hst X hml hX hbl hbA hA hE hN hcR hsR h1 h2 h3 h4 hP hD hS hl hT kk
      by_cases n7 : t = (7 : Int32)
      · refine lv_tableIn (tgt := 477) X.1 X.2.1 dL_law_39 (by rw [n7]; decide) (by rw [n7]; decide) (by rw [n7]; rfl) (by decide) ?_
        exact lw_c7 hst X hml hX hbl hbA hA hE hN hcR hsR h1 h2 h3 h4 hP hD hS hl hT kk
      by_cases n8 : t = (8 : Int32)
      · refine lv_tableIn (tgt := 533) X.1 X.2.1 dL_law_39 (by rw [n8]; decide) (by rw [n8]; decide) (by rw [n8]; rfl) (by decide) ?_
        exact lw_c8 hst X hml hX hbl hbA hA hE hN hcR hsR h1 h2 h3 h4 hP hD hS hl hT kk
      by_cases n9 : t = (9 : Int32)
      · refine lv_tableIn (tgt := 589) X.1 X.2.1 dL_law_39 (by rw [n9]; decide) (by rw [n9]; decide) (by rw [n9]; rfl) (by decide) ?_
        exact lw_c9 hst X hml hX hbl hbA hA hE hN hcR hsR h1 h2 h3 h4 hP hD hS hl hT kk
      by_cases n10 : t = (10 : Int32)
      · refine lv_tableIn (tgt := 645) X.1 X.2.1 dL_law_39 (by rw [n10]; decide) (by rw [n10]; decide) (by rw [n10]; rfl) (by decide) ?_
        exact lw_c10 hst X hml hX hbl hbA hA hE hN hcR hsR h1 h2 h3 h4 hP hD hS hl hT kk
      by_cases n11 : t = (11 : Int32)
      · refine lv_tableIn (tgt := 701) X.1 X.2.1 dL_law_39 (by rw [n11]; decide) (by rw [n11]; decide) (by rw [n11]; rfl) (by decide) ?_
        exact lw_c11 hst X hml hX hbl hbA hA hE hN hcR hsR h1 h2 h3 h4 hP hD hS hl hT kk
      by_cases n12 : t = (12 : Int32)
      · refine lv_tableIn (tgt := 757) X.1 X.2.1 dL_law_39 (by rw [n12]; decide) (by rw [n12]; decide) (by rw [n12]; rfl) (by decide) ?_
        exact lw_c12 hst X hml hX hbl hbA hA hE hN hcR hsR h1 h2 h3 h4 hP hD hS hl hT kk
      by_cases n13 : t = (13 : Int32)
      · refine lv_tableIn (tgt := 782) X.1 X.2.1 dL_law_39 (by rw [n13]; decide) (by rw [n13]; decide) (by rw [n13]; rfl) (by decide) ?_
        exact lw_c13 hst X hml hX hbl hbA hA hE hN hcR hsR h1 h2 h3 h4 hP hD hS hl hT kk
      refine lv_tableOut (tgt := 795) X.1 X.2.1 dL_law_39 (by have := px_ne (v := 0) (by decide) n0; have := px_ne (v := 1) (by decide) n1; have := px_ne (v := 2) (by decide) n2; have := px_ne (v := 3) (by decide) n3; have := px_ne (v := 4) (by decide) n4; have := px_ne (v := 5) (by decide) n5; have := px_ne (v := 6) (by decide) n6; have := px_ne (v := 7) (by decide) n7; have := px_ne (v := 8) (by decide) n8; have := px_ne (v := 9) (by decide) n9; have := px_ne (v := 10) (by decide) n10; have := px_ne (v := 11) (by decide) n11; have := px_ne (v := 12) (by decide) n12; have := px_ne (v := 13) (by decide) n13; omega) (by decide) ?_
      refine W.widen (k := (96 + j) + 1) (n := (24821 + 6 * j) + 6) (by omega) (by omega) ?_
      exact kk M N g H locs ls hT.1 hP hD hS hl
