/-! What the two sides owe each other, call by call (pure), and the law's cases over it. -/
def pu_ag (cd : String → Int32) (T : px_M → px_M → Prop) (M : px_M) (z : px_Z) (b : Int32) (N : px_M) : Prop := match z with
  | .inl v => N 0 0 = 0 ∧ v.1 = b ∧ T v.2 N
  | .inr E => N 0 0 = cd E ∧ cd E ≠ 0 ∧ T M N
def pu_av (cd : String → Int32) (T : px_M → px_M → Prop) (M : px_M) (z : px_Z) (N : px_M) : Prop := match z with
  | .inl v => N 0 0 = 0 ∧ T v.2 N
  | .inr E => N 0 0 = cd E ∧ cd E ≠ 0 ∧ T M N
def pu_step (T : px_M → px_M → Prop) (M N : px_M) : Prop := ∀ a b c d : Int32, ∃ (z : px_Z) (r : Int32) (N1 : px_M), fC_step M a b c d = some z ∧ (∀ E, z = .inr E → E = "java/lang/IllegalArgumentException" ∨ E = "java/lang/IllegalStateException") ∧ fR_M_step N a b c d = some (r, N1) ∧ pu_ag (fun E => if E = "java/lang/IllegalArgumentException" then 1 else 2) T M z r N1
def pu_clear (T : px_M → px_M → Prop) (M N : px_M) : Prop := ∀ a : Int32, ∃ (z : px_Z) (N1 : px_M), fC_clear M a = some z ∧ (∀ E, z = .inr E → E = "java/lang/IllegalArgumentException") ∧ fR_M_clear N a = some N1 ∧ pu_av (fun E => if E = "java/lang/IllegalArgumentException" then 1 else 2) T M z N1
def pu_post (T : px_M → px_M → Prop) (M N : px_M) : Prop := ∀ a b c : Int32, ∃ (z : px_Z) (r : Int32) (N1 : px_M), fC_post M a b c = some z ∧ (∀ E, z = .inr E → E = "java/lang/IllegalArgumentException" ∨ E = "java/lang/IllegalStateException") ∧ fR_M_post N a b c = some (r, N1) ∧ pu_ag (fun E => if E = "java/lang/IllegalArgumentException" then 1 else 2) T M z r N1
def pu_prefer (T : px_M → px_M → Prop) (M N : px_M) : Prop := ∀ a : Int32, ∃ (z : px_Z) (N1 : px_M), fC_prefer M a = some z ∧ (∀ E, z = .inr E → E = "java/lang/IllegalArgumentException") ∧ fR_M_prefer N a = some N1 ∧ pu_av (fun E => if E = "java/lang/IllegalArgumentException" then 1 else 2) T M z N1
def pu_turn (T : px_M → px_M → Prop) (M N : px_M) : Prop := ∃ (r : Int32) (M1 N1 : px_M), fC_turn M = some (r, M1) ∧ fR_M_turn N = some (r, N1) ∧ T M1 N1
def pu_advance (T : px_M → px_M → Prop) (M N : px_M) : Prop := ∀ a : Int32, ∃ (z : px_Z) (r : Int32) (N1 : px_M), fC_advance M a = some z ∧ (∀ E, z = .inr E → E = "java/lang/IllegalArgumentException") ∧ fR_M_advance N a = some (r, N1) ∧ pu_ag (fun E => if E = "java/lang/IllegalArgumentException" then 1 else 2) T M z r N1
def pu_register (T : px_M → px_M → Prop) (M N : px_M) : Prop := ∀ a : Int32, ∃ (z : px_Z) (r : Int32) (N1 : px_M), fC_register M a = some z ∧ (∀ E, z = .inr E → E = "java/lang/IndexOutOfBoundsException") ∧ fR_M_register N a = some (r, N1) ∧ pu_ag (fun E => if E = "java/lang/IndexOutOfBoundsException" then 1 else 2) T M z r N1
def pu_state (T : px_M → px_M → Prop) (M N : px_M) : Prop := ∀ a : Int32, ∃ (z : px_Z) (r : Int32) (N1 : px_M), fC_state M a = some z ∧ (∀ E, z = .inr E → E = "java/lang/IndexOutOfBoundsException") ∧ fR_M_state N a = some (r, N1) ∧ pu_ag (fun E => if E = "java/lang/IndexOutOfBoundsException" then 1 else 2) T M z r N1
def pu_value (T : px_M → px_M → Prop) (M N : px_M) : Prop := ∀ a : Int32, ∃ (z : px_Z) (r : Int32) (N1 : px_M), fC_value M a = some z ∧ (∀ E, z = .inr E → E = "java/lang/IndexOutOfBoundsException" ∨ E = "java/lang/IllegalStateException") ∧ fR_M_value N a = some (r, N1) ∧ pu_ag (fun E => if E = "java/lang/IndexOutOfBoundsException" then 1 else 2) T M z r N1
def pu_count (T : px_M → px_M → Prop) (M N : px_M) : Prop := ∀ a : Int32, ∃ (z : px_Z) (r : Int32) (N1 : px_M), fC_count M a = some z ∧ (∀ E, z = .inr E → E = "java/lang/IllegalArgumentException") ∧ fR_M_count N a = some (r, N1) ∧ pu_ag (fun E => if E = "java/lang/IllegalArgumentException" then 1 else 2) T M z r N1
def pu_logged (T : px_M → px_M → Prop) (M N : px_M) : Prop := ∀ a : Int32, ∃ (z : px_Z) (r : Int32) (N1 : px_M), fC_logged M a = some z ∧ (∀ E, z = .inr E → E = "java/lang/IndexOutOfBoundsException") ∧ fR_M_logged N a = some (r, N1) ∧ pu_ag (fun E => if E = "java/lang/IndexOutOfBoundsException" then 1 else 2) T M z r N1
def pu_reported (T : px_M → px_M → Prop) (M N : px_M) : Prop := ∀ a : Int32, ∃ (z : px_Z) (r : Int32) (N1 : px_M), fC_reported M a = some z ∧ (∀ E, z = .inr E → E = "java/lang/IndexOutOfBoundsException") ∧ fR_M_reported N a = some (r, N1) ∧ pu_ag (fun E => if E = "java/lang/IndexOutOfBoundsException" then 1 else 2) T M z r N1
def pu_due (T : px_M → px_M → Prop) (M N : px_M) : Prop := ∀ a : Int32, ∃ (r : Int32) (N1 : px_M), fC_due M a = some r ∧ fR_M_due N a = some (r, N1) ∧ T M N1
def pu_time (T : px_M → px_M → Prop) (M N : px_M) : Prop := ∃ (r : Int32) (N1 : px_M), fC_time M = some r ∧ fR_M_time N = some (r, N1) ∧ T M N1
def pu_all (T : px_M → px_M → Prop) (M N : px_M) : Prop := T M N ∧ pu_step T M N ∧ pu_clear T M N ∧ pu_post T M N ∧ pu_prefer T M N ∧ pu_turn T M N ∧ pu_advance T M N ∧ pu_register T M N ∧ pu_state T M N ∧ pu_value T M N ∧ pu_count T M N ∧ pu_logged T M N ∧ pu_reported T M N ∧ pu_due T M N ∧ pu_time T M N
theorem px_lc (a : Int64) : lg_cmp a a = 0 := by unfold lg_cmp; simp
theorem px_giW {y : MethodName} {bytes : ByteArray} {n : Nat} {ret : Option FieldType} {hh : List (Nat × Nat × Nat × Nat)} (h : Cond.codeWith y bytes n ret hh ∈ px_TB) : GoodIn px_TB (.codeWith y bytes n ret hh :: px_TB) := by
  intro w hw
  have hm : w ∈ px_TB := (List.mem_cons.mp hw).elim (fun e => by rw [e]; exact h) id
  exact ⟨hm, good_of_word (px_good hm)⟩
section PXLAW
variable {l : Launch} {D : va_G} {cs : Nat → ClassId} {sa : Nat → Nat} {wy : px_M → (Nat → Int64) → va_W} {ou : Bool} {cd : String → Int32} {y : MethodName} {bytes : ByteArray} {n k' nL : Nat} {hh : List (Nat × Nat × Nat × Nat)} {As : List Value} {M : px_M} {g : Nat → Int64} {z : px_Z} {rw : va_W}
variable {p : Program} {e : Env} {R : Room} {s : State} {m : MethodId} {args : Array Value} {below : List Frame} {meth : Method} {c : Code} {H : Heap} {locs : List Loc} {Q : State → Prop} {cc : ByteArray} {pc : Nat} {ls : Array Slot} {rest st : List Value} {A : Nat → Prop} {own : String} {idx cells slots : Nat} {lv : List (Nat × Value)}
theorem px_sL (X : px_X D (tyL cs) p s m args c cc own) (hml : c.maxLocals = nL) (hl : lv_has ls nL lv) (hP : va_P D vwCl (wy M g ++ rw) H) (hD : va_D A (wy M g ++ rw)) (hS : va_S A s.heap H locs) (hA : ∀ q : Nat, s.heap.size ≤ q → A q) (hE : px_Ex sa A s s.heap) (hN : px_NcU s) (hM : px_mL l D cs sa wy ou cd y bytes n hh k' As M g z)
    (h1 : Cond.codeWith y bytes n (some .int) hh ∈ px_TB) (h2 : Cond.methodLink own idx y ∈ px_TB) (h3 : Cond.initialized y.cls ∈ px_TB) (h4 : Cond.static y ∈ px_TB) (h6 : y.cls ≠ "java/lang/invoke/MethodHandle" ∧ y.cls ≠ "java/lang/invoke/VarHandle") (h7 : (parseMethodDescriptor y.desc).map (fun d => d.parameters.length) = some As.length) (hfr : k' + 1 ≤ R.frames) (hlo : 8 + (n + 11) + 60 * k' ≤ R.locals) (hcR : cells + 1 ≤ R.cells) (hsR : slots + 6 ≤ R.slots)
    (hst : st = As.reverse ++ rest) (hW : (rest.map fun v => v.category).sum ≤ 8) (hd : decode cc pc = .ok (.invokestatic idx, 3))
    (kk : ∀ (r : Int32) (M' : px_M) (g' : Nat → Int64) (H : Heap) (locs : List Loc), px_res ou cd z M g r (M', g') → va_P D vwCl (wy M' g' ++ rw) H → va_D A (wy M' g' ++ rw) → va_S A s.heap H locs → W p l e R s m args below meth c H locs (cells + 1) (slots + 6) Q (F0 m (pc + 3) ls (.int r :: rest))) : W p l e R s m args below meth c H locs cells slots Q (F0 m pc ls st) := by
  have hF := px_Fy hD hS hA
  refine va_calli (vx_runSW (As := As) (rest := rest) ⟨X.1, X.2.1, hml, X.2.2.2.1, X.2.2.1⟩ (hM H.size) ⟨⟨rfl, rfl, hfr, hlo, pay_in X.2.2.1 (px_giW h1), List.mem_cons_self⟩, X.2.2.1 _ h1, X.2.2.1 _ h3, h6, fun sig h => ?_, X.2.2.1 _ h2, X.2.2.1 _ h4⟩ ⟨fun a U g mk q => ?_, fun U hU hW => ⟨rfl, ⟨by rw [hU], by rw [hU]; exact px_Pl hP, va_K.moved hW.alike X.2.2.2.2, (px_Dl hD).weaken (fun _ _ _ _ => trivial)⟩, px_Ex_go hE hS hF hW hU, va_Nc_moved hW.alike hN.1, va_Nc_moved hW.alike hN.2⟩⟩ rfl rfl hl.1 hst (lv_room hW) hd ⟨hcR, hsR⟩) hS (fun q _ h => hF q h) hF (fun r u t H1 locs1 ht hvm hw hB hz1 hk1 hS1 => ?_)
  · rw [h] at h7
    exact (Option.some.inj h7).symm
  · obtain ⟨q0, ⟨q1, qP, qK, qD⟩, qE, qN⟩ := q
    exact ⟨q0, ⟨q1, qP, va_K.moved (u := U) (U := U.calling g mk a) (Vm.Alike.refl U.vm) qK, qD⟩, px_Ex_same (u := U) (U := U.calling g mk a) rfl qE, qN⟩
  · obtain ⟨hP1, hK1, hD1⟩ := hB
    rw [ht] at hP1
    obtain ⟨hP2, hD2⟩ := px_Jy hP hD hF hk1 hP1 hD1
    exact kk r u.1 u.2 H1 locs1 hw hP2 hD2 hS1
end PXLAW
theorem lkL_61 : px_Lk RL 61 yX6_step cX6_step 6 (some .int) 4 := ⟨px_tb (by decide +kernel) (by decide +kernel), px_tb (by decide +kernel) (by decide +kernel), px_tb (by decide +kernel) (by decide +kernel), px_tb (by decide +kernel) (by decide +kernel), px_tb (by decide +kernel) (by decide +kernel), by decide +kernel, by decide⟩
theorem lkL_62 : px_Lk RL 62 yX6_thrown cX6_thrown 1 (some .int) 0 := ⟨px_tb (by decide +kernel) (by decide +kernel), px_tb (by decide +kernel) (by decide +kernel), px_tb (by decide +kernel) (by decide +kernel), px_tb (by decide +kernel) (by decide +kernel), px_tb (by decide +kernel) (by decide +kernel), by decide +kernel, by decide⟩
set_option maxHeartbeats 4000000 in
set_option maxRecDepth 100000 in
theorem lw_c0 {l : Launch} (hst : l.stackTraces = false) {D : va_G} {cs : Nat → ClassId} {ad aR : Nat → Nat} {sa : Nat → Nat} {p : Program} {e : Env} {s : State} {m : MethodId} {args : Array Value} {below : List Frame} {meth : Method} {c : Code} {Q : State → Prop} {A : Nat → Prop} {b L o : Nat} {xs : Nat → Int32} {T : px_M → px_M → Prop} (X : px_X D (tyL cs) p s m args c cL_law RL) (hml : c.maxLocals = 7) (hX : va_X b L xs s s.heap) (hbl : b < s.heap.size) (hbA : ¬ A b) (hA : ∀ q : Nat, s.heap.size ≤ q → A q) (hE : px_Ex sa A s s.heap) (hN : px_NcU s) {M N : px_M} {g : Nat → Int64} {H : Heap} {locs : List Loc} {ls : Array Slot} {x4 : Int32} {cells slots : Nat} (hcR : cells + 1 ≤ room_1.cells) (hsR : slots + 6 ≤ room_1.slots) (h1 : vp_in (x4 + (1 : Int32)) L) (h2 : vp_in (x4 + (2 : Int32)) L) (h3 : vp_in (x4 + (3 : Int32)) L) (h4 : vp_in (x4 + (4 : Int32)) L) (hP : va_P D vwCl (wC cs ad M ++ (wO cs o g ++ wR cs aR N)) H) (hD : va_D A (wC cs ad M ++ (wO cs o g ++ wR cs aR N))) (hS : va_S A s.heap H locs) (hl : lv_has ls 7 [(0, .ref b), (1, .ref (ad 0)), (2, .ref (aR 0)), (3, .ref o), (4, .int x4)]) (hT : pu_all T M N) (kk : ∀ (M' N' : px_M) (g' : Nat → Int64) (H : Heap) (locs : List Loc) (ls : Array Slot), T M' N' → va_P D vwCl (wC cs ad M' ++ (wO cs o g' ++ wR cs aR N')) H → va_D A (wC cs ad M' ++ (wO cs o g' ++ wR cs aR N')) → va_S A s.heap H locs → lv_has ls 7 [(0, .ref b), (1, .ref (ad 0)), (2, .ref (aR 0)), (3, .ref o), (4, .int x4)] → W p l e room_1 s m args below meth c H locs (cells + 1) (slots + 6) Q (F0 m 795 ls [])) : W p l e room_1 s m args below meth c H locs cells slots Q (F0 m 108 ls []) := by
  obtain ⟨z, rr, N1, e1, ez, e2, ha⟩ := hT.2.1 (xs (x4 + (1 : Int32)).toNatClampNeg) (xs (x4 + (2 : Int32)).toNatClampNeg) (xs (x4 + (3 : Int32)).toNatClampNeg) (xs (x4 + (4 : Int32)).toNatClampNeg)
  refine lv_aload_n X.1 X.2.1 dL_law_108 rfl (lv_at hl 1 rfl) ?_
  refine lv_aload_n X.1 X.2.1 dL_law_109 rfl (lv_at hl 0 rfl) ?_
  refine lv_iload X.1 X.2.1 dL_law_110 (lv_at hl 4 rfl) ?_
  refine lv_iconst (v := (1 : Int32)) X.1 X.2.1 dL_law_112 (by decide) ?_
  refine lv_iadd X.1 X.2.1 dL_law_113 ?_
  refine va_sld X.1 X.2.1 hX hbl hbA hS h1 dL_law_114 ?_
  refine lv_aload_n X.1 X.2.1 dL_law_115 rfl (lv_at hl 0 rfl) ?_
  refine lv_iload X.1 X.2.1 dL_law_116 (lv_at hl 4 rfl) ?_
  refine lv_iconst (v := (2 : Int32)) X.1 X.2.1 dL_law_118 (by decide) ?_
  refine lv_iadd X.1 X.2.1 dL_law_119 ?_
  refine va_sld X.1 X.2.1 hX hbl hbA hS h2 dL_law_120 ?_
  refine lv_aload_n X.1 X.2.1 dL_law_121 rfl (lv_at hl 0 rfl) ?_
  refine lv_iload X.1 X.2.1 dL_law_122 (lv_at hl 4 rfl) ?_
  refine lv_iconst (v := (3 : Int32)) X.1 X.2.1 dL_law_124 (by decide) ?_
  refine lv_iadd X.1 X.2.1 dL_law_125 ?_
  refine va_sld X.1 X.2.1 hX hbl hbA hS h3 dL_law_126 ?_
  refine lv_aload_n X.1 X.2.1 dL_law_127 rfl (lv_at hl 0 rfl) ?_
  refine lv_iload X.1 X.2.1 dL_law_128 (lv_at hl 4 rfl) ?_
  refine lv_iconst (v := (4 : Int32)) X.1 X.2.1 dL_law_130 (by decide) ?_
  refine lv_iadd X.1 X.2.1 dL_law_131 ?_
  refine va_sld X.1 X.2.1 hX hbl hbA hS h4 dL_law_132 ?_
  refine lv_aload_n X.1 X.2.1 dL_law_133 rfl (lv_at hl 3 rfl) ?_
  rw [← List.append_assoc] at hP hD
  refine px_sL (wy := (fun M g => wC cs ad M ++ wO cs o g)) (rw := wR cs aR N) (As := [.ref (ad 0), .int (xs (x4 + (1 : Int32)).toNatClampNeg), .int (xs (x4 + (2 : Int32)).toNatClampNeg), .int (xs (x4 + (3 : Int32)).toNatClampNeg), .int (xs (x4 + (4 : Int32)).toNatClampNeg), .ref o]) (rest := []) X hml hl hP hD hS hA hE hN (cL_wstep l hst D cs ad sa o (g := g) e1 ez) (px_tb (by decide +kernel) (by decide +kernel)) (px_tb (by decide +kernel) (by decide +kernel)) (px_tb (by decide +kernel) (by decide +kernel)) (px_tb (by decide +kernel) (by decide +kernel)) ⟨by decide +kernel, by decide +kernel⟩ (by decide +kernel : (parseMethodDescriptor yL_step.desc).map (fun d => d.parameters.length) = some 6) (Nat.le_of_ble_eq_true rfl) (Nat.le_of_ble_eq_true rfl) hcR hsR rfl (Nat.le_of_ble_eq_true rfl) dL_law_134 (fun r M1 g1 H locs hres hP hD hS => ?_)
  rcases z with v | E
  · obtain ⟨v, M2⟩ := v
    obtain ⟨hr0, hr1, hr2⟩ := hres
    obtain rfl : r = 0 := hr0
    obtain rfl : M1 = M2 := hr1
    obtain rfl : g1 = vp_updL g 0 v.toInt64 := hr2
    obtain ⟨t0, t1, t2⟩ : N1 0 0 = 0 ∧ v = rr ∧ T M1 N1 := ha
    refine lv_istore (lv' := [(5, .int (0 : Int32)), (0, .ref b), (1, .ref (ad 0)), (2, .ref (aR 0)), (3, .ref o), (4, .int x4)]) X.1 X.2.1 dL_law_137 hl (by decide) rfl (fun ls hl => ?_)
    refine lv_aload_n X.1 X.2.1 dL_law_139 rfl (lv_at hl 3 rfl) ?_
    refine lv_aload_n X.1 X.2.1 dL_law_140 rfl (lv_at hl 1 rfl) ?_
    refine lv_iload X.1 X.2.1 dL_law_141 (lv_at hl 5 rfl) ?_
    refine lv_iconst (v := (1 : Int32)) X.1 X.2.1 dL_law_143 (by decide) ?_
    refine lv_iadd X.1 X.2.1 dL_law_144 ?_
    refine va_sld X.1 X.2.1 hX hbl hbA hS h1 dL_law_145 ?_
    refine lv_aload_n X.1 X.2.1 dL_law_146 rfl (lv_at hl 1 rfl) ?_
    refine lv_iload X.1 X.2.1 dL_law_147 (lv_at hl 5 rfl) ?_
    refine lv_iconst (v := (2 : Int32)) X.1 X.2.1 dL_law_149 (by decide) ?_
    refine lv_iadd X.1 X.2.1 dL_law_150 ?_
    refine va_sld X.1 X.2.1 hX hbl hbA hS h2 dL_law_151 ?_
    refine lv_aload_n X.1 X.2.1 dL_law_152 rfl (lv_at hl 1 rfl) ?_
    refine lv_iload X.1 X.2.1 dL_law_153 (lv_at hl 5 rfl) ?_
    refine lv_iconst (v := (3 : Int32)) X.1 X.2.1 dL_law_155 (by decide) ?_
    refine lv_iadd X.1 X.2.1 dL_law_156 ?_
    refine va_sld X.1 X.2.1 hX hbl hbA hS h3 dL_law_157 ?_
    refine lv_aload_n X.1 X.2.1 dL_law_158 rfl (lv_at hl 1 rfl) ?_
    refine lv_iload X.1 X.2.1 dL_law_159 (lv_at hl 5 rfl) ?_
    refine lv_iconst (v := (4 : Int32)) X.1 X.2.1 dL_law_161 (by decide) ?_
    refine lv_iadd X.1 X.2.1 dL_law_162 ?_
    refine va_sld X.1 X.2.1 hX hbl hbA hS h4 dL_law_163 ?_
    have hP := px_Pp hP List.perm_append_comm
    have hD := px_Dp hD List.perm_append_comm
    refine px_yI (wf := wR cs aR) (rw := wC cs ad M1 ++ wO cs o (vp_updL g 0 v.toInt64)) (tysC := tyR cs) (As := [.int (xs (x4 + (1 : Int32)).toNatClampNeg), .int (xs (x4 + (2 : Int32)).toNatClampNeg), .int (xs (x4 + (3 : Int32)).toNatClampNeg), .int (xs (x4 + (4 : Int32)).toNatClampNeg)]) (rest := []) X hml hl (X.2.2.2.2.sub [0, 1] rfl) hP hD hS hA (cR_M_step l D cs aR e2) lkL_61 (Nat.le_of_ble_eq_true rfl) (Nat.le_of_ble_eq_true rfl) (by omega) (by omega) (va_recv X.2.2.2.2 hP (ci := 6) (q0 := 0) rfl rfl) rfl (Nat.le_of_ble_eq_true rfl) dL_law_164 (fun H locs hP hD hS => ?_)
    refine lv_istore (lv' := [(6, .int rr), (5, .int (0 : Int32)), (0, .ref b), (1, .ref (ad 0)), (2, .ref (aR 0)), (3, .ref o), (4, .int x4)]) X.1 X.2.1 dL_law_167 hl (by decide) rfl (fun ls hl => ?_)
    refine lv_aload_n X.1 X.2.1 dL_law_169 rfl (lv_at hl 4 rfl) ?_
    refine px_yI (wf := wR cs aR) (rw := wC cs ad M1 ++ wO cs o (vp_updL g 0 v.toInt64)) (tysC := tyR cs) (As := []) (rest := []) X hml hl (X.2.2.2.2.sub [0, 1] rfl) hP hD hS hA (cR_M_thrown l D cs aR (show fR_M_thrown N1 = some (N1 0 0) from rfl)) lkL_62 (Nat.le_of_ble_eq_true rfl) (Nat.le_of_ble_eq_true rfl) (by omega) (by omega) (va_recv X.2.2.2.2 hP (ci := 6) (q0 := 0) rfl rfl) rfl (Nat.le_of_ble_eq_true rfl) dL_law_170 (fun H locs hP hD hS => ?_)
    refine lv_iload X.1 X.2.1 dL_law_173 (lv_at hl 1 rfl) ?_
    refine lv_icmp_eq (tgt := 180) X.1 X.2.1 dL_law_175 (by decide) (fun _ => ?_) (fun q => absurd t0 q)
    have hP := px_Pp hP List.perm_append_comm
    have hD := px_Dp hD List.perm_append_comm
    rw [List.append_assoc] at hP hD
    refine lv_iload X.1 X.2.1 dL_law_180 (lv_at hl 1 rfl) ?_
    refine lv_if_ne (tgt := 197) X.1 X.2.1 dL_law_182 (by decide) (fun q => absurd rfl q) (fun _ => ?_)
    refine lv_aload_n X.1 X.2.1 dL_law_185 rfl (lv_at hl 5 rfl) ?_
    refine lv_iconst (v := (0 : Int32)) X.1 X.2.1 dL_law_186 (by decide) ?_
    refine va_lald X.1 X.2.1 X.2.2.2.2 hP 52 3 rfl rfl (by unfold vp_in; decide) dL_law_187 ?_
    refine lv_iload X.1 X.2.1 dL_law_188 (lv_at hl 0 rfl) ?_
    refine lv_i2l X.1 X.2.1 dL_law_190 rfl ?_
    refine W.lcmp X.1 X.2.1 dL_law_191 ?_
    refine lv_if_eq (tgt := 197) X.1 X.2.1 dL_law_192 (by decide) (fun _ => ?_) (fun q => absurd (by rw [← t1]; exact px_lc _) q)
    refine lv_goto (tgt := 795) X.1 X.2.1 dL_law_197 (by decide) ?_
    exact kk _ _ _ _ _ _ t2 hP hD hS (lv_sub hl [2, 3, 4, 5, 6] rfl)
  · obtain ⟨hr0, hr1⟩ := hres
    rw [show M1 = M from congrArg Prod.fst hr1, show g1 = g from congrArg Prod.snd hr1] at hP hD
    obtain ⟨t0, t1, t2⟩ := ha
    have t0 : N1 0 0 = r := t0.trans hr0.symm
    have t1 : ¬ r = 0 := by rw [show r = _ from hr0]; exact t1
    refine lv_istore (lv' := [(5, .int r), (0, .ref b), (1, .ref (ad 0)), (2, .ref (aR 0)), (3, .ref o), (4, .int x4)]) X.1 X.2.1 dL_law_137 hl (by decide) rfl (fun ls hl => ?_)
    refine lv_aload_n X.1 X.2.1 dL_law_139 rfl (lv_at hl 3 rfl) ?_
    refine lv_aload_n X.1 X.2.1 dL_law_140 rfl (lv_at hl 1 rfl) ?_
    refine lv_iload X.1 X.2.1 dL_law_141 (lv_at hl 5 rfl) ?_
    refine lv_iconst (v := (1 : Int32)) X.1 X.2.1 dL_law_143 (by decide) ?_
    refine lv_iadd X.1 X.2.1 dL_law_144 ?_
    refine va_sld X.1 X.2.1 hX hbl hbA hS h1 dL_law_145 ?_
    refine lv_aload_n X.1 X.2.1 dL_law_146 rfl (lv_at hl 1 rfl) ?_
    refine lv_iload X.1 X.2.1 dL_law_147 (lv_at hl 5 rfl) ?_
    refine lv_iconst (v := (2 : Int32)) X.1 X.2.1 dL_law_149 (by decide) ?_
    refine lv_iadd X.1 X.2.1 dL_law_150 ?_
    refine va_sld X.1 X.2.1 hX hbl hbA hS h2 dL_law_151 ?_
    refine lv_aload_n X.1 X.2.1 dL_law_152 rfl (lv_at hl 1 rfl) ?_
    refine lv_iload X.1 X.2.1 dL_law_153 (lv_at hl 5 rfl) ?_
    refine lv_iconst (v := (3 : Int32)) X.1 X.2.1 dL_law_155 (by decide) ?_
    refine lv_iadd X.1 X.2.1 dL_law_156 ?_
    refine va_sld X.1 X.2.1 hX hbl hbA hS h3 dL_law_157 ?_
    refine lv_aload_n X.1 X.2.1 dL_law_158 rfl (lv_at hl 1 rfl) ?_
    refine lv_iload X.1 X.2.1 dL_law_159 (lv_at hl 5 rfl) ?_
    refine lv_iconst (v := (4 : Int32)) X.1 X.2.1 dL_law_161 (by decide) ?_
    refine lv_iadd X.1 X.2.1 dL_law_162 ?_
    refine va_sld X.1 X.2.1 hX hbl hbA hS h4 dL_law_163 ?_
    have hP := px_Pp hP List.perm_append_comm
    have hD := px_Dp hD List.perm_append_comm
    refine px_yI (wf := wR cs aR) (rw := wC cs ad M ++ wO cs o g) (tysC := tyR cs) (As := [.int (xs (x4 + (1 : Int32)).toNatClampNeg), .int (xs (x4 + (2 : Int32)).toNatClampNeg), .int (xs (x4 + (3 : Int32)).toNatClampNeg), .int (xs (x4 + (4 : Int32)).toNatClampNeg)]) (rest := []) X hml hl (X.2.2.2.2.sub [0, 1] rfl) hP hD hS hA (cR_M_step l D cs aR e2) lkL_61 (Nat.le_of_ble_eq_true rfl) (Nat.le_of_ble_eq_true rfl) (by omega) (by omega) (va_recv X.2.2.2.2 hP (ci := 6) (q0 := 0) rfl rfl) rfl (Nat.le_of_ble_eq_true rfl) dL_law_164 (fun H locs hP hD hS => ?_)
    refine lv_istore (lv' := [(6, .int rr), (5, .int r), (0, .ref b), (1, .ref (ad 0)), (2, .ref (aR 0)), (3, .ref o), (4, .int x4)]) X.1 X.2.1 dL_law_167 hl (by decide) rfl (fun ls hl => ?_)
    refine lv_aload_n X.1 X.2.1 dL_law_169 rfl (lv_at hl 4 rfl) ?_
    refine px_yI (wf := wR cs aR) (rw := wC cs ad M ++ wO cs o g) (tysC := tyR cs) (As := []) (rest := []) X hml hl (X.2.2.2.2.sub [0, 1] rfl) hP hD hS hA (cR_M_thrown l D cs aR (show fR_M_thrown N1 = some (N1 0 0) from rfl)) lkL_62 (Nat.le_of_ble_eq_true rfl) (Nat.le_of_ble_eq_true rfl) (by omega) (by omega) (va_recv X.2.2.2.2 hP (ci := 6) (q0 := 0) rfl rfl) rfl (Nat.le_of_ble_eq_true rfl) dL_law_170 (fun H locs hP hD hS => ?_)
    refine lv_iload X.1 X.2.1 dL_law_173 (lv_at hl 1 rfl) ?_
    refine lv_icmp_eq (tgt := 180) X.1 X.2.1 dL_law_175 (by decide) (fun _ => ?_) (fun q => absurd t0 q)
    have hP := px_Pp hP List.perm_append_comm
    have hD := px_Dp hD List.perm_append_comm
    rw [List.append_assoc] at hP hD
    refine lv_iload X.1 X.2.1 dL_law_180 (lv_at hl 1 rfl) ?_
    refine lv_if_ne (tgt := 197) X.1 X.2.1 dL_law_182 (by decide) (fun _ => ?_) (fun q => absurd q t1)
    refine lv_goto (tgt := 795) X.1 X.2.1 dL_law_197 (by decide) ?_
    exact kk _ _ _ _ _ _ t2 hP hD hS (lv_sub hl [2, 3, 4, 5, 6] rfl)
theorem lkL_69 : px_Lk RL 69 yX6_clear cX6_clear 2 none 1 := ⟨px_tb (by decide +kernel) (by decide +kernel), px_tb (by decide +kernel) (by decide +kernel), px_tb (by decide +kernel) (by decide +kernel), px_tb (by decide +kernel) (by decide +kernel), px_tb (by decide +kernel) (by decide +kernel), by decide +kernel, by decide⟩
set_option maxHeartbeats 4000000 in
set_option maxRecDepth 100000 in
theorem lw_c1 {l : Launch} (hst : l.stackTraces = false) {D : va_G} {cs : Nat → ClassId} {ad aR : Nat → Nat} {sa : Nat → Nat} {p : Program} {e : Env} {s : State} {m : MethodId} {args : Array Value} {below : List Frame} {meth : Method} {c : Code} {Q : State → Prop} {A : Nat → Prop} {b L o : Nat} {xs : Nat → Int32} {T : px_M → px_M → Prop} (X : px_X D (tyL cs) p s m args c cL_law RL) (hml : c.maxLocals = 7) (hX : va_X b L xs s s.heap) (hbl : b < s.heap.size) (hbA : ¬ A b) (hA : ∀ q : Nat, s.heap.size ≤ q → A q) (hE : px_Ex sa A s s.heap) (hN : px_NcU s) {M N : px_M} {g : Nat → Int64} {H : Heap} {locs : List Loc} {ls : Array Slot} {x4 : Int32} {cells slots : Nat} (hcR : cells + 1 ≤ room_1.cells) (hsR : slots + 6 ≤ room_1.slots) (h1 : vp_in (x4 + (1 : Int32)) L) (h2 : vp_in (x4 + (2 : Int32)) L) (h3 : vp_in (x4 + (3 : Int32)) L) (h4 : vp_in (x4 + (4 : Int32)) L) (hP : va_P D vwCl (wC cs ad M ++ (wO cs o g ++ wR cs aR N)) H) (hD : va_D A (wC cs ad M ++ (wO cs o g ++ wR cs aR N))) (hS : va_S A s.heap H locs) (hl : lv_has ls 7 [(0, .ref b), (1, .ref (ad 0)), (2, .ref (aR 0)), (3, .ref o), (4, .int x4)]) (hT : pu_all T M N) (kk : ∀ (M' N' : px_M) (g' : Nat → Int64) (H : Heap) (locs : List Loc) (ls : Array Slot), T M' N' → va_P D vwCl (wC cs ad M' ++ (wO cs o g' ++ wR cs aR N')) H → va_D A (wC cs ad M' ++ (wO cs o g' ++ wR cs aR N')) → va_S A s.heap H locs → lv_has ls 7 [(0, .ref b), (1, .ref (ad 0)), (2, .ref (aR 0)), (3, .ref o), (4, .int x4)] → W p l e room_1 s m args below meth c H locs (cells + 1) (slots + 6) Q (F0 m 795 ls [])) : W p l e room_1 s m args below meth c H locs cells slots Q (F0 m 200 ls []) := by
  obtain ⟨z, N1, e1, ez, e2, ha⟩ := hT.2.2.1 (xs (x4 + (1 : Int32)).toNatClampNeg)
  refine lv_aload_n X.1 X.2.1 dL_law_200 rfl (lv_at hl 1 rfl) ?_
  refine lv_aload_n X.1 X.2.1 dL_law_201 rfl (lv_at hl 0 rfl) ?_
  refine lv_iload X.1 X.2.1 dL_law_202 (lv_at hl 4 rfl) ?_
  refine lv_iconst (v := (1 : Int32)) X.1 X.2.1 dL_law_204 (by decide) ?_
  refine lv_iadd X.1 X.2.1 dL_law_205 ?_
  refine va_sld X.1 X.2.1 hX hbl hbA hS h1 dL_law_206 ?_
  rw [← List.append_nil (wC cs ad M)] at hP hD
  refine px_sL (wy := (fun M _ => wC cs ad M ++ [])) (rw := wO cs o g ++ wR cs aR N) (As := [.ref (ad 0), .int (xs (x4 + (1 : Int32)).toNatClampNeg)]) (rest := []) X hml hl hP hD hS hA hE hN (cL_wclear l hst D cs ad sa o (g := g) e1 ez) (px_tb (by decide +kernel) (by decide +kernel)) (px_tb (by decide +kernel) (by decide +kernel)) (px_tb (by decide +kernel) (by decide +kernel)) (px_tb (by decide +kernel) (by decide +kernel)) ⟨by decide +kernel, by decide +kernel⟩ (by decide +kernel : (parseMethodDescriptor yL_clear.desc).map (fun d => d.parameters.length) = some 2) (Nat.le_of_ble_eq_true rfl) (Nat.le_of_ble_eq_true rfl) hcR hsR rfl (Nat.le_of_ble_eq_true rfl) dL_law_207 (fun r M1 g1 H locs hres hP hD hS => ?_)
  rcases z with v | E
  · obtain ⟨v, M2⟩ := v
    obtain ⟨hr0, hr1, hr2⟩ := hres
    obtain rfl : r = 0 := hr0
    obtain rfl : M1 = M2 := hr1
    obtain ⟨t0, t2⟩ : N1 0 0 = 0 ∧ T M1 N1 := ha
    rw [List.append_nil, ← List.append_assoc] at hP hD
    refine lv_istore (lv' := [(5, .int (0 : Int32)), (0, .ref b), (1, .ref (ad 0)), (2, .ref (aR 0)), (3, .ref o), (4, .int x4)]) X.1 X.2.1 dL_law_210 hl (by decide) rfl (fun ls hl => ?_)
    refine lv_aload_n X.1 X.2.1 dL_law_212 rfl (lv_at hl 3 rfl) ?_
    refine lv_aload_n X.1 X.2.1 dL_law_213 rfl (lv_at hl 1 rfl) ?_
    refine lv_iload X.1 X.2.1 dL_law_214 (lv_at hl 5 rfl) ?_
    refine lv_iconst (v := (1 : Int32)) X.1 X.2.1 dL_law_216 (by decide) ?_
    refine lv_iadd X.1 X.2.1 dL_law_217 ?_
    refine va_sld X.1 X.2.1 hX hbl hbA hS h1 dL_law_218 ?_
    have hP := px_Pp hP List.perm_append_comm
    have hD := px_Dp hD List.perm_append_comm
    refine px_yV (wf := wR cs aR) (rw := wC cs ad M1 ++ wO cs o g) (tysC := tyR cs) (As := [.int (xs (x4 + (1 : Int32)).toNatClampNeg)]) (rest := []) X hml hl (X.2.2.2.2.sub [0, 1] rfl) hP hD hS hA (cR_M_clear l D cs aR e2) lkL_69 (Nat.le_of_ble_eq_true rfl) (Nat.le_of_ble_eq_true rfl) (by omega) (by omega) (va_recv X.2.2.2.2 hP (ci := 6) (q0 := 0) rfl rfl) rfl (Nat.le_of_ble_eq_true rfl) dL_law_219 (fun H locs hP hD hS => ?_)
    refine lv_aload_n X.1 X.2.1 dL_law_222 rfl (lv_at hl 3 rfl) ?_
    refine px_yI (wf := wR cs aR) (rw := wC cs ad M1 ++ wO cs o g) (tysC := tyR cs) (As := []) (rest := []) X hml hl (X.2.2.2.2.sub [0, 1] rfl) hP hD hS hA (cR_M_thrown l D cs aR (show fR_M_thrown N1 = some (N1 0 0) from rfl)) lkL_62 (Nat.le_of_ble_eq_true rfl) (Nat.le_of_ble_eq_true rfl) (by omega) (by omega) (va_recv X.2.2.2.2 hP (ci := 6) (q0 := 0) rfl rfl) rfl (Nat.le_of_ble_eq_true rfl) dL_law_223 (fun H locs hP hD hS => ?_)
    refine lv_iload X.1 X.2.1 dL_law_226 (lv_at hl 0 rfl) ?_
    refine lv_icmp_eq (tgt := 233) X.1 X.2.1 dL_law_228 (by decide) (fun _ => ?_) (fun q => absurd t0 q)
    have hP := px_Pp hP List.perm_append_comm
    have hD := px_Dp hD List.perm_append_comm
    rw [List.append_assoc] at hP hD
    refine lv_goto (tgt := 795) X.1 X.2.1 dL_law_233 (by decide) ?_
    exact kk _ _ _ _ _ _ t2 hP hD hS (lv_sub hl [1, 2, 3, 4, 5] rfl)
  · obtain ⟨hr0, hr1⟩ := hres
    rw [show M1 = M from congrArg Prod.fst hr1] at hP hD
    obtain ⟨t0, t1, t2⟩ := ha
    have t0 : N1 0 0 = r := t0.trans hr0.symm
    have t1 : ¬ r = 0 := by rw [show r = _ from hr0]; exact t1
    rw [List.append_nil, ← List.append_assoc] at hP hD
    refine lv_istore (lv' := [(5, .int r), (0, .ref b), (1, .ref (ad 0)), (2, .ref (aR 0)), (3, .ref o), (4, .int x4)]) X.1 X.2.1 dL_law_210 hl (by decide) rfl (fun ls hl => ?_)
    refine lv_aload_n X.1 X.2.1 dL_law_212 rfl (lv_at hl 3 rfl) ?_
    refine lv_aload_n X.1 X.2.1 dL_law_213 rfl (lv_at hl 1 rfl) ?_
    refine lv_iload X.1 X.2.1 dL_law_214 (lv_at hl 5 rfl) ?_
    refine lv_iconst (v := (1 : Int32)) X.1 X.2.1 dL_law_216 (by decide) ?_
    refine lv_iadd X.1 X.2.1 dL_law_217 ?_
    refine va_sld X.1 X.2.1 hX hbl hbA hS h1 dL_law_218 ?_
    have hP := px_Pp hP List.perm_append_comm
    have hD := px_Dp hD List.perm_append_comm
    refine px_yV (wf := wR cs aR) (rw := wC cs ad M ++ wO cs o g) (tysC := tyR cs) (As := [.int (xs (x4 + (1 : Int32)).toNatClampNeg)]) (rest := []) X hml hl (X.2.2.2.2.sub [0, 1] rfl) hP hD hS hA (cR_M_clear l D cs aR e2) lkL_69 (Nat.le_of_ble_eq_true rfl) (Nat.le_of_ble_eq_true rfl) (by omega) (by omega) (va_recv X.2.2.2.2 hP (ci := 6) (q0 := 0) rfl rfl) rfl (Nat.le_of_ble_eq_true rfl) dL_law_219 (fun H locs hP hD hS => ?_)
    refine lv_aload_n X.1 X.2.1 dL_law_222 rfl (lv_at hl 3 rfl) ?_
    refine px_yI (wf := wR cs aR) (rw := wC cs ad M ++ wO cs o g) (tysC := tyR cs) (As := []) (rest := []) X hml hl (X.2.2.2.2.sub [0, 1] rfl) hP hD hS hA (cR_M_thrown l D cs aR (show fR_M_thrown N1 = some (N1 0 0) from rfl)) lkL_62 (Nat.le_of_ble_eq_true rfl) (Nat.le_of_ble_eq_true rfl) (by omega) (by omega) (va_recv X.2.2.2.2 hP (ci := 6) (q0 := 0) rfl rfl) rfl (Nat.le_of_ble_eq_true rfl) dL_law_223 (fun H locs hP hD hS => ?_)
    refine lv_iload X.1 X.2.1 dL_law_226 (lv_at hl 0 rfl) ?_
    refine lv_icmp_eq (tgt := 233) X.1 X.2.1 dL_law_228 (by decide) (fun _ => ?_) (fun q => absurd t0 q)
    have hP := px_Pp hP List.perm_append_comm
    have hD := px_Dp hD List.perm_append_comm
    rw [List.append_assoc] at hP hD
    refine lv_goto (tgt := 795) X.1 X.2.1 dL_law_233 (by decide) ?_
    exact kk _ _ _ _ _ _ t2 hP hD hS (lv_sub hl [1, 2, 3, 4, 5] rfl)
theorem lkL_73 : px_Lk RL 73 yX6_post cX6_post 4 (some .int) 3 := ⟨px_tb (by decide +kernel) (by decide +kernel), px_tb (by decide +kernel) (by decide +kernel), px_tb (by decide +kernel) (by decide +kernel), px_tb (by decide +kernel) (by decide +kernel), px_tb (by decide +kernel) (by decide +kernel), by decide +kernel, by decide⟩
set_option maxHeartbeats 4000000 in
set_option maxRecDepth 100000 in
theorem lw_c2 {l : Launch} (hst : l.stackTraces = false) {D : va_G} {cs : Nat → ClassId} {ad aR : Nat → Nat} {sa : Nat → Nat} {p : Program} {e : Env} {s : State} {m : MethodId} {args : Array Value} {below : List Frame} {meth : Method} {c : Code} {Q : State → Prop} {A : Nat → Prop} {b L o : Nat} {xs : Nat → Int32} {T : px_M → px_M → Prop} (X : px_X D (tyL cs) p s m args c cL_law RL) (hml : c.maxLocals = 7) (hX : va_X b L xs s s.heap) (hbl : b < s.heap.size) (hbA : ¬ A b) (hA : ∀ q : Nat, s.heap.size ≤ q → A q) (hE : px_Ex sa A s s.heap) (hN : px_NcU s) {M N : px_M} {g : Nat → Int64} {H : Heap} {locs : List Loc} {ls : Array Slot} {x4 : Int32} {cells slots : Nat} (hcR : cells + 1 ≤ room_1.cells) (hsR : slots + 6 ≤ room_1.slots) (h1 : vp_in (x4 + (1 : Int32)) L) (h2 : vp_in (x4 + (2 : Int32)) L) (h3 : vp_in (x4 + (3 : Int32)) L) (h4 : vp_in (x4 + (4 : Int32)) L) (hP : va_P D vwCl (wC cs ad M ++ (wO cs o g ++ wR cs aR N)) H) (hD : va_D A (wC cs ad M ++ (wO cs o g ++ wR cs aR N))) (hS : va_S A s.heap H locs) (hl : lv_has ls 7 [(0, .ref b), (1, .ref (ad 0)), (2, .ref (aR 0)), (3, .ref o), (4, .int x4)]) (hT : pu_all T M N) (kk : ∀ (M' N' : px_M) (g' : Nat → Int64) (H : Heap) (locs : List Loc) (ls : Array Slot), T M' N' → va_P D vwCl (wC cs ad M' ++ (wO cs o g' ++ wR cs aR N')) H → va_D A (wC cs ad M' ++ (wO cs o g' ++ wR cs aR N')) → va_S A s.heap H locs → lv_has ls 7 [(0, .ref b), (1, .ref (ad 0)), (2, .ref (aR 0)), (3, .ref o), (4, .int x4)] → W p l e room_1 s m args below meth c H locs (cells + 1) (slots + 6) Q (F0 m 795 ls [])) : W p l e room_1 s m args below meth c H locs cells slots Q (F0 m 236 ls []) := by
  obtain ⟨z, rr, N1, e1, ez, e2, ha⟩ := hT.2.2.2.1 (xs (x4 + (1 : Int32)).toNatClampNeg) (xs (x4 + (2 : Int32)).toNatClampNeg) (xs (x4 + (3 : Int32)).toNatClampNeg)
  refine lv_aload_n X.1 X.2.1 dL_law_236 rfl (lv_at hl 1 rfl) ?_
  refine lv_aload_n X.1 X.2.1 dL_law_237 rfl (lv_at hl 0 rfl) ?_
  refine lv_iload X.1 X.2.1 dL_law_238 (lv_at hl 4 rfl) ?_
  refine lv_iconst (v := (1 : Int32)) X.1 X.2.1 dL_law_240 (by decide) ?_
  refine lv_iadd X.1 X.2.1 dL_law_241 ?_
  refine va_sld X.1 X.2.1 hX hbl hbA hS h1 dL_law_242 ?_
  refine lv_aload_n X.1 X.2.1 dL_law_243 rfl (lv_at hl 0 rfl) ?_
  refine lv_iload X.1 X.2.1 dL_law_244 (lv_at hl 4 rfl) ?_
  refine lv_iconst (v := (2 : Int32)) X.1 X.2.1 dL_law_246 (by decide) ?_
  refine lv_iadd X.1 X.2.1 dL_law_247 ?_
  refine va_sld X.1 X.2.1 hX hbl hbA hS h2 dL_law_248 ?_
  refine lv_aload_n X.1 X.2.1 dL_law_249 rfl (lv_at hl 0 rfl) ?_
  refine lv_iload X.1 X.2.1 dL_law_250 (lv_at hl 4 rfl) ?_
  refine lv_iconst (v := (3 : Int32)) X.1 X.2.1 dL_law_252 (by decide) ?_
  refine lv_iadd X.1 X.2.1 dL_law_253 ?_
  refine va_sld X.1 X.2.1 hX hbl hbA hS h3 dL_law_254 ?_
  refine lv_aload_n X.1 X.2.1 dL_law_255 rfl (lv_at hl 3 rfl) ?_
  rw [← List.append_assoc] at hP hD
  refine px_sL (wy := (fun M g => wC cs ad M ++ wO cs o g)) (rw := wR cs aR N) (As := [.ref (ad 0), .int (xs (x4 + (1 : Int32)).toNatClampNeg), .int (xs (x4 + (2 : Int32)).toNatClampNeg), .int (xs (x4 + (3 : Int32)).toNatClampNeg), .ref o]) (rest := []) X hml hl hP hD hS hA hE hN (cL_wpost l hst D cs ad sa o (g := g) e1 ez) (px_tb (by decide +kernel) (by decide +kernel)) (px_tb (by decide +kernel) (by decide +kernel)) (px_tb (by decide +kernel) (by decide +kernel)) (px_tb (by decide +kernel) (by decide +kernel)) ⟨by decide +kernel, by decide +kernel⟩ (by decide +kernel : (parseMethodDescriptor yL_post.desc).map (fun d => d.parameters.length) = some 5) (Nat.le_of_ble_eq_true rfl) (Nat.le_of_ble_eq_true rfl) hcR hsR rfl (Nat.le_of_ble_eq_true rfl) dL_law_256 (fun r M1 g1 H locs hres hP hD hS => ?_)
  rcases z with v | E
  · obtain ⟨v, M2⟩ := v
    obtain ⟨hr0, hr1, hr2⟩ := hres
    obtain rfl : r = 0 := hr0
    obtain rfl : M1 = M2 := hr1
    obtain rfl : g1 = vp_updL g 0 v.toInt64 := hr2
    obtain ⟨t0, t1, t2⟩ : N1 0 0 = 0 ∧ v = rr ∧ T M1 N1 := ha
    refine lv_istore (lv' := [(5, .int (0 : Int32)), (0, .ref b), (1, .ref (ad 0)), (2, .ref (aR 0)), (3, .ref o), (4, .int x4)]) X.1 X.2.1 dL_law_259 hl (by decide) rfl (fun ls hl => ?_)
    refine lv_aload_n X.1 X.2.1 dL_law_261 rfl (lv_at hl 3 rfl) ?_
    refine lv_aload_n X.1 X.2.1 dL_law_262 rfl (lv_at hl 1 rfl) ?_
    refine lv_iload X.1 X.2.1 dL_law_263 (lv_at hl 5 rfl) ?_
    refine lv_iconst (v := (1 : Int32)) X.1 X.2.1 dL_law_265 (by decide) ?_
    refine lv_iadd X.1 X.2.1 dL_law_266 ?_
    refine va_sld X.1 X.2.1 hX hbl hbA hS h1 dL_law_267 ?_
    refine lv_aload_n X.1 X.2.1 dL_law_268 rfl (lv_at hl 1 rfl) ?_
    refine lv_iload X.1 X.2.1 dL_law_269 (lv_at hl 5 rfl) ?_
    refine lv_iconst (v := (2 : Int32)) X.1 X.2.1 dL_law_271 (by decide) ?_
    refine lv_iadd X.1 X.2.1 dL_law_272 ?_
    refine va_sld X.1 X.2.1 hX hbl hbA hS h2 dL_law_273 ?_
    refine lv_aload_n X.1 X.2.1 dL_law_274 rfl (lv_at hl 1 rfl) ?_
    refine lv_iload X.1 X.2.1 dL_law_275 (lv_at hl 5 rfl) ?_
    refine lv_iconst (v := (3 : Int32)) X.1 X.2.1 dL_law_277 (by decide) ?_
    refine lv_iadd X.1 X.2.1 dL_law_278 ?_
    refine va_sld X.1 X.2.1 hX hbl hbA hS h3 dL_law_279 ?_
    have hP := px_Pp hP List.perm_append_comm
    have hD := px_Dp hD List.perm_append_comm
    refine px_yI (wf := wR cs aR) (rw := wC cs ad M1 ++ wO cs o (vp_updL g 0 v.toInt64)) (tysC := tyR cs) (As := [.int (xs (x4 + (1 : Int32)).toNatClampNeg), .int (xs (x4 + (2 : Int32)).toNatClampNeg), .int (xs (x4 + (3 : Int32)).toNatClampNeg)]) (rest := []) X hml hl (X.2.2.2.2.sub [0, 1] rfl) hP hD hS hA (cR_M_post l D cs aR e2) lkL_73 (Nat.le_of_ble_eq_true rfl) (Nat.le_of_ble_eq_true rfl) (by omega) (by omega) (va_recv X.2.2.2.2 hP (ci := 6) (q0 := 0) rfl rfl) rfl (Nat.le_of_ble_eq_true rfl) dL_law_280 (fun H locs hP hD hS => ?_)
    refine lv_istore (lv' := [(6, .int rr), (5, .int (0 : Int32)), (0, .ref b), (1, .ref (ad 0)), (2, .ref (aR 0)), (3, .ref o), (4, .int x4)]) X.1 X.2.1 dL_law_283 hl (by decide) rfl (fun ls hl => ?_)
    refine lv_aload_n X.1 X.2.1 dL_law_285 rfl (lv_at hl 4 rfl) ?_
    refine px_yI (wf := wR cs aR) (rw := wC cs ad M1 ++ wO cs o (vp_updL g 0 v.toInt64)) (tysC := tyR cs) (As := []) (rest := []) X hml hl (X.2.2.2.2.sub [0, 1] rfl) hP hD hS hA (cR_M_thrown l D cs aR (show fR_M_thrown N1 = some (N1 0 0) from rfl)) lkL_62 (Nat.le_of_ble_eq_true rfl) (Nat.le_of_ble_eq_true rfl) (by omega) (by omega) (va_recv X.2.2.2.2 hP (ci := 6) (q0 := 0) rfl rfl) rfl (Nat.le_of_ble_eq_true rfl) dL_law_286 (fun H locs hP hD hS => ?_)
    refine lv_iload X.1 X.2.1 dL_law_289 (lv_at hl 1 rfl) ?_
    refine lv_icmp_eq (tgt := 296) X.1 X.2.1 dL_law_291 (by decide) (fun _ => ?_) (fun q => absurd t0 q)
    have hP := px_Pp hP List.perm_append_comm
    have hD := px_Dp hD List.perm_append_comm
    rw [List.append_assoc] at hP hD
    refine lv_iload X.1 X.2.1 dL_law_296 (lv_at hl 1 rfl) ?_
    refine lv_if_ne (tgt := 313) X.1 X.2.1 dL_law_298 (by decide) (fun q => absurd rfl q) (fun _ => ?_)
    refine lv_aload_n X.1 X.2.1 dL_law_301 rfl (lv_at hl 5 rfl) ?_
    refine lv_iconst (v := (0 : Int32)) X.1 X.2.1 dL_law_302 (by decide) ?_
    refine va_lald X.1 X.2.1 X.2.2.2.2 hP 52 3 rfl rfl (by unfold vp_in; decide) dL_law_303 ?_
    refine lv_iload X.1 X.2.1 dL_law_304 (lv_at hl 0 rfl) ?_
    refine lv_i2l X.1 X.2.1 dL_law_306 rfl ?_
    refine W.lcmp X.1 X.2.1 dL_law_307 ?_
    refine lv_if_eq (tgt := 313) X.1 X.2.1 dL_law_308 (by decide) (fun _ => ?_) (fun q => absurd (by rw [← t1]; exact px_lc _) q)
    refine lv_goto (tgt := 795) X.1 X.2.1 dL_law_313 (by decide) ?_
    exact kk _ _ _ _ _ _ t2 hP hD hS (lv_sub hl [2, 3, 4, 5, 6] rfl)
  · obtain ⟨hr0, hr1⟩ := hres
    rw [show M1 = M from congrArg Prod.fst hr1, show g1 = g from congrArg Prod.snd hr1] at hP hD
    obtain ⟨t0, t1, t2⟩ := ha
    have t0 : N1 0 0 = r := t0.trans hr0.symm
    have t1 : ¬ r = 0 := by rw [show r = _ from hr0]; exact t1
    refine lv_istore (lv' := [(5, .int r), (0, .ref b), (1, .ref (ad 0)), (2, .ref (aR 0)), (3, .ref o), (4, .int x4)]) X.1 X.2.1 dL_law_259 hl (by decide) rfl (fun ls hl => ?_)
    refine lv_aload_n X.1 X.2.1 dL_law_261 rfl (lv_at hl 3 rfl) ?_
    refine lv_aload_n X.1 X.2.1 dL_law_262 rfl (lv_at hl 1 rfl) ?_
    refine lv_iload X.1 X.2.1 dL_law_263 (lv_at hl 5 rfl) ?_
    refine lv_iconst (v := (1 : Int32)) X.1 X.2.1 dL_law_265 (by decide) ?_
    refine lv_iadd X.1 X.2.1 dL_law_266 ?_
    refine va_sld X.1 X.2.1 hX hbl hbA hS h1 dL_law_267 ?_
    refine lv_aload_n X.1 X.2.1 dL_law_268 rfl (lv_at hl 1 rfl) ?_
    refine lv_iload X.1 X.2.1 dL_law_269 (lv_at hl 5 rfl) ?_
    refine lv_iconst (v := (2 : Int32)) X.1 X.2.1 dL_law_271 (by decide) ?_
    refine lv_iadd X.1 X.2.1 dL_law_272 ?_
    refine va_sld X.1 X.2.1 hX hbl hbA hS h2 dL_law_273 ?_
    refine lv_aload_n X.1 X.2.1 dL_law_274 rfl (lv_at hl 1 rfl) ?_
    refine lv_iload X.1 X.2.1 dL_law_275 (lv_at hl 5 rfl) ?_
    refine lv_iconst (v := (3 : Int32)) X.1 X.2.1 dL_law_277 (by decide) ?_
    refine lv_iadd X.1 X.2.1 dL_law_278 ?_
    refine va_sld X.1 X.2.1 hX hbl hbA hS h3 dL_law_279 ?_
    have hP := px_Pp hP List.perm_append_comm
    have hD := px_Dp hD List.perm_append_comm
    refine px_yI (wf := wR cs aR) (rw := wC cs ad M ++ wO cs o g) (tysC := tyR cs) (As := [.int (xs (x4 + (1 : Int32)).toNatClampNeg), .int (xs (x4 + (2 : Int32)).toNatClampNeg), .int (xs (x4 + (3 : Int32)).toNatClampNeg)]) (rest := []) X hml hl (X.2.2.2.2.sub [0, 1] rfl) hP hD hS hA (cR_M_post l D cs aR e2) lkL_73 (Nat.le_of_ble_eq_true rfl) (Nat.le_of_ble_eq_true rfl) (by omega) (by omega) (va_recv X.2.2.2.2 hP (ci := 6) (q0 := 0) rfl rfl) rfl (Nat.le_of_ble_eq_true rfl) dL_law_280 (fun H locs hP hD hS => ?_)
    refine lv_istore (lv' := [(6, .int rr), (5, .int r), (0, .ref b), (1, .ref (ad 0)), (2, .ref (aR 0)), (3, .ref o), (4, .int x4)]) X.1 X.2.1 dL_law_283 hl (by decide) rfl (fun ls hl => ?_)
    refine lv_aload_n X.1 X.2.1 dL_law_285 rfl (lv_at hl 4 rfl) ?_
    refine px_yI (wf := wR cs aR) (rw := wC cs ad M ++ wO cs o g) (tysC := tyR cs) (As := []) (rest := []) X hml hl (X.2.2.2.2.sub [0, 1] rfl) hP hD hS hA (cR_M_thrown l D cs aR (show fR_M_thrown N1 = some (N1 0 0) from rfl)) lkL_62 (Nat.le_of_ble_eq_true rfl) (Nat.le_of_ble_eq_true rfl) (by omega) (by omega) (va_recv X.2.2.2.2 hP (ci := 6) (q0 := 0) rfl rfl) rfl (Nat.le_of_ble_eq_true rfl) dL_law_286 (fun H locs hP hD hS => ?_)
    refine lv_iload X.1 X.2.1 dL_law_289 (lv_at hl 1 rfl) ?_
    refine lv_icmp_eq (tgt := 296) X.1 X.2.1 dL_law_291 (by decide) (fun _ => ?_) (fun q => absurd t0 q)
    have hP := px_Pp hP List.perm_append_comm
    have hD := px_Dp hD List.perm_append_comm
    rw [List.append_assoc] at hP hD
    refine lv_iload X.1 X.2.1 dL_law_296 (lv_at hl 1 rfl) ?_
    refine lv_if_ne (tgt := 313) X.1 X.2.1 dL_law_298 (by decide) (fun _ => ?_) (fun q => absurd q t1)
    refine lv_goto (tgt := 795) X.1 X.2.1 dL_law_313 (by decide) ?_
    exact kk _ _ _ _ _ _ t2 hP hD hS (lv_sub hl [2, 3, 4, 5, 6] rfl)
theorem lkL_76 : px_Lk RL 76 yX6_prefer cX6_prefer 2 none 1 := ⟨px_tb (by decide +kernel) (by decide +kernel), px_tb (by decide +kernel) (by decide +kernel), px_tb (by decide +kernel) (by decide +kernel), px_tb (by decide +kernel) (by decide +kernel), px_tb (by decide +kernel) (by decide +kernel), by decide +kernel, by decide⟩
set_option maxHeartbeats 4000000 in
set_option maxRecDepth 100000 in
theorem lw_c3 {l : Launch} (hst : l.stackTraces = false) {D : va_G} {cs : Nat → ClassId} {ad aR : Nat → Nat} {sa : Nat → Nat} {p : Program} {e : Env} {s : State} {m : MethodId} {args : Array Value} {below : List Frame} {meth : Method} {c : Code} {Q : State → Prop} {A : Nat → Prop} {b L o : Nat} {xs : Nat → Int32} {T : px_M → px_M → Prop} (X : px_X D (tyL cs) p s m args c cL_law RL) (hml : c.maxLocals = 7) (hX : va_X b L xs s s.heap) (hbl : b < s.heap.size) (hbA : ¬ A b) (hA : ∀ q : Nat, s.heap.size ≤ q → A q) (hE : px_Ex sa A s s.heap) (hN : px_NcU s) {M N : px_M} {g : Nat → Int64} {H : Heap} {locs : List Loc} {ls : Array Slot} {x4 : Int32} {cells slots : Nat} (hcR : cells + 1 ≤ room_1.cells) (hsR : slots + 6 ≤ room_1.slots) (h1 : vp_in (x4 + (1 : Int32)) L) (h2 : vp_in (x4 + (2 : Int32)) L) (h3 : vp_in (x4 + (3 : Int32)) L) (h4 : vp_in (x4 + (4 : Int32)) L) (hP : va_P D vwCl (wC cs ad M ++ (wO cs o g ++ wR cs aR N)) H) (hD : va_D A (wC cs ad M ++ (wO cs o g ++ wR cs aR N))) (hS : va_S A s.heap H locs) (hl : lv_has ls 7 [(0, .ref b), (1, .ref (ad 0)), (2, .ref (aR 0)), (3, .ref o), (4, .int x4)]) (hT : pu_all T M N) (kk : ∀ (M' N' : px_M) (g' : Nat → Int64) (H : Heap) (locs : List Loc) (ls : Array Slot), T M' N' → va_P D vwCl (wC cs ad M' ++ (wO cs o g' ++ wR cs aR N')) H → va_D A (wC cs ad M' ++ (wO cs o g' ++ wR cs aR N')) → va_S A s.heap H locs → lv_has ls 7 [(0, .ref b), (1, .ref (ad 0)), (2, .ref (aR 0)), (3, .ref o), (4, .int x4)] → W p l e room_1 s m args below meth c H locs (cells + 1) (slots + 6) Q (F0 m 795 ls [])) : W p l e room_1 s m args below meth c H locs cells slots Q (F0 m 316 ls []) := by
  obtain ⟨z, N1, e1, ez, e2, ha⟩ := hT.2.2.2.2.1 (xs (x4 + (1 : Int32)).toNatClampNeg)
  refine lv_aload_n X.1 X.2.1 dL_law_316 rfl (lv_at hl 1 rfl) ?_
  refine lv_aload_n X.1 X.2.1 dL_law_317 rfl (lv_at hl 0 rfl) ?_
  refine lv_iload X.1 X.2.1 dL_law_318 (lv_at hl 4 rfl) ?_
  refine lv_iconst (v := (1 : Int32)) X.1 X.2.1 dL_law_320 (by decide) ?_
  refine lv_iadd X.1 X.2.1 dL_law_321 ?_
  refine va_sld X.1 X.2.1 hX hbl hbA hS h1 dL_law_322 ?_
  rw [← List.append_nil (wC cs ad M)] at hP hD
  refine px_sL (wy := (fun M _ => wC cs ad M ++ [])) (rw := wO cs o g ++ wR cs aR N) (As := [.ref (ad 0), .int (xs (x4 + (1 : Int32)).toNatClampNeg)]) (rest := []) X hml hl hP hD hS hA hE hN (cL_wprefer l hst D cs ad sa o (g := g) e1 ez) (px_tb (by decide +kernel) (by decide +kernel)) (px_tb (by decide +kernel) (by decide +kernel)) (px_tb (by decide +kernel) (by decide +kernel)) (px_tb (by decide +kernel) (by decide +kernel)) ⟨by decide +kernel, by decide +kernel⟩ (by decide +kernel : (parseMethodDescriptor yL_prefer.desc).map (fun d => d.parameters.length) = some 2) (Nat.le_of_ble_eq_true rfl) (Nat.le_of_ble_eq_true rfl) hcR hsR rfl (Nat.le_of_ble_eq_true rfl) dL_law_323 (fun r M1 g1 H locs hres hP hD hS => ?_)
  rcases z with v | E
  · obtain ⟨v, M2⟩ := v
    obtain ⟨hr0, hr1, hr2⟩ := hres
    obtain rfl : r = 0 := hr0
    obtain rfl : M1 = M2 := hr1
    obtain ⟨t0, t2⟩ : N1 0 0 = 0 ∧ T M1 N1 := ha
    rw [List.append_nil, ← List.append_assoc] at hP hD
    refine lv_istore (lv' := [(5, .int (0 : Int32)), (0, .ref b), (1, .ref (ad 0)), (2, .ref (aR 0)), (3, .ref o), (4, .int x4)]) X.1 X.2.1 dL_law_326 hl (by decide) rfl (fun ls hl => ?_)
    refine lv_aload_n X.1 X.2.1 dL_law_328 rfl (lv_at hl 3 rfl) ?_
    refine lv_aload_n X.1 X.2.1 dL_law_329 rfl (lv_at hl 1 rfl) ?_
    refine lv_iload X.1 X.2.1 dL_law_330 (lv_at hl 5 rfl) ?_
    refine lv_iconst (v := (1 : Int32)) X.1 X.2.1 dL_law_332 (by decide) ?_
    refine lv_iadd X.1 X.2.1 dL_law_333 ?_
    refine va_sld X.1 X.2.1 hX hbl hbA hS h1 dL_law_334 ?_
    have hP := px_Pp hP List.perm_append_comm
    have hD := px_Dp hD List.perm_append_comm
    refine px_yV (wf := wR cs aR) (rw := wC cs ad M1 ++ wO cs o g) (tysC := tyR cs) (As := [.int (xs (x4 + (1 : Int32)).toNatClampNeg)]) (rest := []) X hml hl (X.2.2.2.2.sub [0, 1] rfl) hP hD hS hA (cR_M_prefer l D cs aR e2) lkL_76 (Nat.le_of_ble_eq_true rfl) (Nat.le_of_ble_eq_true rfl) (by omega) (by omega) (va_recv X.2.2.2.2 hP (ci := 6) (q0 := 0) rfl rfl) rfl (Nat.le_of_ble_eq_true rfl) dL_law_335 (fun H locs hP hD hS => ?_)
    refine lv_aload_n X.1 X.2.1 dL_law_338 rfl (lv_at hl 3 rfl) ?_
    refine px_yI (wf := wR cs aR) (rw := wC cs ad M1 ++ wO cs o g) (tysC := tyR cs) (As := []) (rest := []) X hml hl (X.2.2.2.2.sub [0, 1] rfl) hP hD hS hA (cR_M_thrown l D cs aR (show fR_M_thrown N1 = some (N1 0 0) from rfl)) lkL_62 (Nat.le_of_ble_eq_true rfl) (Nat.le_of_ble_eq_true rfl) (by omega) (by omega) (va_recv X.2.2.2.2 hP (ci := 6) (q0 := 0) rfl rfl) rfl (Nat.le_of_ble_eq_true rfl) dL_law_339 (fun H locs hP hD hS => ?_)
    refine lv_iload X.1 X.2.1 dL_law_342 (lv_at hl 0 rfl) ?_
    refine lv_icmp_eq (tgt := 349) X.1 X.2.1 dL_law_344 (by decide) (fun _ => ?_) (fun q => absurd t0 q)
    have hP := px_Pp hP List.perm_append_comm
    have hD := px_Dp hD List.perm_append_comm
    rw [List.append_assoc] at hP hD
    refine lv_goto (tgt := 795) X.1 X.2.1 dL_law_349 (by decide) ?_
    exact kk _ _ _ _ _ _ t2 hP hD hS (lv_sub hl [1, 2, 3, 4, 5] rfl)
  · obtain ⟨hr0, hr1⟩ := hres
    rw [show M1 = M from congrArg Prod.fst hr1] at hP hD
    obtain ⟨t0, t1, t2⟩ := ha
    have t0 : N1 0 0 = r := t0.trans hr0.symm
    have t1 : ¬ r = 0 := by rw [show r = _ from hr0]; exact t1
    rw [List.append_nil, ← List.append_assoc] at hP hD
    refine lv_istore (lv' := [(5, .int r), (0, .ref b), (1, .ref (ad 0)), (2, .ref (aR 0)), (3, .ref o), (4, .int x4)]) X.1 X.2.1 dL_law_326 hl (by decide) rfl (fun ls hl => ?_)
    refine lv_aload_n X.1 X.2.1 dL_law_328 rfl (lv_at hl 3 rfl) ?_
    refine lv_aload_n X.1 X.2.1 dL_law_329 rfl (lv_at hl 1 rfl) ?_
    refine lv_iload X.1 X.2.1 dL_law_330 (lv_at hl 5 rfl) ?_
    refine lv_iconst (v := (1 : Int32)) X.1 X.2.1 dL_law_332 (by decide) ?_
    refine lv_iadd X.1 X.2.1 dL_law_333 ?_
    refine va_sld X.1 X.2.1 hX hbl hbA hS h1 dL_law_334 ?_
    have hP := px_Pp hP List.perm_append_comm
    have hD := px_Dp hD List.perm_append_comm
    refine px_yV (wf := wR cs aR) (rw := wC cs ad M ++ wO cs o g) (tysC := tyR cs) (As := [.int (xs (x4 + (1 : Int32)).toNatClampNeg)]) (rest := []) X hml hl (X.2.2.2.2.sub [0, 1] rfl) hP hD hS hA (cR_M_prefer l D cs aR e2) lkL_76 (Nat.le_of_ble_eq_true rfl) (Nat.le_of_ble_eq_true rfl) (by omega) (by omega) (va_recv X.2.2.2.2 hP (ci := 6) (q0 := 0) rfl rfl) rfl (Nat.le_of_ble_eq_true rfl) dL_law_335 (fun H locs hP hD hS => ?_)
    refine lv_aload_n X.1 X.2.1 dL_law_338 rfl (lv_at hl 3 rfl) ?_
    refine px_yI (wf := wR cs aR) (rw := wC cs ad M ++ wO cs o g) (tysC := tyR cs) (As := []) (rest := []) X hml hl (X.2.2.2.2.sub [0, 1] rfl) hP hD hS hA (cR_M_thrown l D cs aR (show fR_M_thrown N1 = some (N1 0 0) from rfl)) lkL_62 (Nat.le_of_ble_eq_true rfl) (Nat.le_of_ble_eq_true rfl) (by omega) (by omega) (va_recv X.2.2.2.2 hP (ci := 6) (q0 := 0) rfl rfl) rfl (Nat.le_of_ble_eq_true rfl) dL_law_339 (fun H locs hP hD hS => ?_)
    refine lv_iload X.1 X.2.1 dL_law_342 (lv_at hl 0 rfl) ?_
    refine lv_icmp_eq (tgt := 349) X.1 X.2.1 dL_law_344 (by decide) (fun _ => ?_) (fun q => absurd t0 q)
    have hP := px_Pp hP List.perm_append_comm
    have hD := px_Dp hD List.perm_append_comm
    rw [List.append_assoc] at hP hD
    refine lv_goto (tgt := 795) X.1 X.2.1 dL_law_349 (by decide) ?_
    exact kk _ _ _ _ _ _ t2 hP hD hS (lv_sub hl [1, 2, 3, 4, 5] rfl)
theorem lkL_77 : px_Lk RL 77 yX5_turn cX5_turn 4 (some .int) 0 := ⟨px_tb (by decide +kernel) (by decide +kernel), px_tb (by decide +kernel) (by decide +kernel), px_tb (by decide +kernel) (by decide +kernel), px_tb (by decide +kernel) (by decide +kernel), px_tb (by decide +kernel) (by decide +kernel), by decide +kernel, by decide⟩
theorem lkL_80 : px_Lk RL 80 yX6_turn cX6_turn 2 (some .int) 0 := ⟨px_tb (by decide +kernel) (by decide +kernel), px_tb (by decide +kernel) (by decide +kernel), px_tb (by decide +kernel) (by decide +kernel), px_tb (by decide +kernel) (by decide +kernel), px_tb (by decide +kernel) (by decide +kernel), by decide +kernel, by decide⟩
set_option maxHeartbeats 4000000 in
set_option maxRecDepth 100000 in
theorem lw_c4 {l : Launch} (hst : l.stackTraces = false) {D : va_G} {cs : Nat → ClassId} {ad aR : Nat → Nat} {sa : Nat → Nat} {p : Program} {e : Env} {s : State} {m : MethodId} {args : Array Value} {below : List Frame} {meth : Method} {c : Code} {Q : State → Prop} {A : Nat → Prop} {b L o : Nat} {xs : Nat → Int32} {T : px_M → px_M → Prop} (X : px_X D (tyL cs) p s m args c cL_law RL) (hml : c.maxLocals = 7) (hX : va_X b L xs s s.heap) (hbl : b < s.heap.size) (hbA : ¬ A b) (hA : ∀ q : Nat, s.heap.size ≤ q → A q) (hE : px_Ex sa A s s.heap) (hN : px_NcU s) {M N : px_M} {g : Nat → Int64} {H : Heap} {locs : List Loc} {ls : Array Slot} {x4 : Int32} {cells slots : Nat} (hcR : cells + 1 ≤ room_1.cells) (hsR : slots + 6 ≤ room_1.slots) (h1 : vp_in (x4 + (1 : Int32)) L) (h2 : vp_in (x4 + (2 : Int32)) L) (h3 : vp_in (x4 + (3 : Int32)) L) (h4 : vp_in (x4 + (4 : Int32)) L) (hP : va_P D vwCl (wC cs ad M ++ (wO cs o g ++ wR cs aR N)) H) (hD : va_D A (wC cs ad M ++ (wO cs o g ++ wR cs aR N))) (hS : va_S A s.heap H locs) (hl : lv_has ls 7 [(0, .ref b), (1, .ref (ad 0)), (2, .ref (aR 0)), (3, .ref o), (4, .int x4)]) (hT : pu_all T M N) (kk : ∀ (M' N' : px_M) (g' : Nat → Int64) (H : Heap) (locs : List Loc) (ls : Array Slot), T M' N' → va_P D vwCl (wC cs ad M' ++ (wO cs o g' ++ wR cs aR N')) H → va_D A (wC cs ad M' ++ (wO cs o g' ++ wR cs aR N')) → va_S A s.heap H locs → lv_has ls 7 [(0, .ref b), (1, .ref (ad 0)), (2, .ref (aR 0)), (3, .ref o), (4, .int x4)] → W p l e room_1 s m args below meth c H locs (cells + 1) (slots + 6) Q (F0 m 795 ls [])) : W p l e room_1 s m args below meth c H locs cells slots Q (F0 m 352 ls []) := by
  obtain ⟨rr, M1, N1, e1, e2, t2⟩ := hT.2.2.2.2.2.1
  refine lv_aload_n X.1 X.2.1 dL_law_352 rfl (lv_at hl 1 rfl) ?_
  refine px_yI (wf := wC cs ad) (rw := wO cs o g ++ wR cs aR N) (tysC := tyC cs) (As := []) (rest := []) X hml hl (X.2.2.2.2.sub [0, 1, 2] rfl) hP hD hS hA (cC_turn l D cs ad e1) lkL_77 (Nat.le_of_ble_eq_true rfl) (Nat.le_of_ble_eq_true rfl) (by omega) (by omega) (va_recv X.2.2.2.2 hP (ci := 5) (q0 := 0) rfl rfl) rfl (Nat.le_of_ble_eq_true rfl) dL_law_353 (fun H locs hP hD hS => ?_)
  rw [← List.append_assoc] at hP hD
  have hP := px_Pp hP List.perm_append_comm
  have hD := px_Dp hD List.perm_append_comm
  refine lv_aload_n X.1 X.2.1 dL_law_356 rfl (lv_at hl 2 rfl) ?_
  refine px_yI (wf := wR cs aR) (rw := wC cs ad M1 ++ wO cs o g) (tysC := tyR cs) (As := []) (rest := [.int rr]) X hml hl (X.2.2.2.2.sub [0, 1] rfl) hP hD hS hA (cR_M_turn l D cs aR e2) lkL_80 (Nat.le_of_ble_eq_true rfl) (Nat.le_of_ble_eq_true rfl) (by omega) (by omega) (va_recv X.2.2.2.2 hP (ci := 6) (q0 := 0) rfl rfl) rfl (Nat.le_of_ble_eq_true rfl) dL_law_357 (fun H locs hP hD hS => ?_)
  refine lv_icmp_eq (tgt := 795) X.1 X.2.1 dL_law_360 (by decide) (fun _ => ?_) (fun q => absurd rfl q)
  have hP := px_Pp hP List.perm_append_comm
  have hD := px_Dp hD List.perm_append_comm
  rw [List.append_assoc] at hP hD
  refine W.widen (k := cells + 1) (n := slots + 6) (by omega) (by omega) ?_
  exact kk _ _ _ _ _ _ t2 hP hD hS hl
theorem lkL_84 : px_Lk RL 84 yX6_advance cX6_advance 5 (some .int) 1 := ⟨px_tb (by decide +kernel) (by decide +kernel), px_tb (by decide +kernel) (by decide +kernel), px_tb (by decide +kernel) (by decide +kernel), px_tb (by decide +kernel) (by decide +kernel), px_tb (by decide +kernel) (by decide +kernel), by decide +kernel, by decide⟩
set_option maxHeartbeats 4000000 in
set_option maxRecDepth 100000 in
theorem lw_c5 {l : Launch} (hst : l.stackTraces = false) {D : va_G} {cs : Nat → ClassId} {ad aR : Nat → Nat} {sa : Nat → Nat} {p : Program} {e : Env} {s : State} {m : MethodId} {args : Array Value} {below : List Frame} {meth : Method} {c : Code} {Q : State → Prop} {A : Nat → Prop} {b L o : Nat} {xs : Nat → Int32} {T : px_M → px_M → Prop} (X : px_X D (tyL cs) p s m args c cL_law RL) (hml : c.maxLocals = 7) (hX : va_X b L xs s s.heap) (hbl : b < s.heap.size) (hbA : ¬ A b) (hA : ∀ q : Nat, s.heap.size ≤ q → A q) (hE : px_Ex sa A s s.heap) (hN : px_NcU s) {M N : px_M} {g : Nat → Int64} {H : Heap} {locs : List Loc} {ls : Array Slot} {x4 : Int32} {cells slots : Nat} (hcR : cells + 1 ≤ room_1.cells) (hsR : slots + 6 ≤ room_1.slots) (h1 : vp_in (x4 + (1 : Int32)) L) (h2 : vp_in (x4 + (2 : Int32)) L) (h3 : vp_in (x4 + (3 : Int32)) L) (h4 : vp_in (x4 + (4 : Int32)) L) (hP : va_P D vwCl (wC cs ad M ++ (wO cs o g ++ wR cs aR N)) H) (hD : va_D A (wC cs ad M ++ (wO cs o g ++ wR cs aR N))) (hS : va_S A s.heap H locs) (hl : lv_has ls 7 [(0, .ref b), (1, .ref (ad 0)), (2, .ref (aR 0)), (3, .ref o), (4, .int x4)]) (hT : pu_all T M N) (kk : ∀ (M' N' : px_M) (g' : Nat → Int64) (H : Heap) (locs : List Loc) (ls : Array Slot), T M' N' → va_P D vwCl (wC cs ad M' ++ (wO cs o g' ++ wR cs aR N')) H → va_D A (wC cs ad M' ++ (wO cs o g' ++ wR cs aR N')) → va_S A s.heap H locs → lv_has ls 7 [(0, .ref b), (1, .ref (ad 0)), (2, .ref (aR 0)), (3, .ref o), (4, .int x4)] → W p l e room_1 s m args below meth c H locs (cells + 1) (slots + 6) Q (F0 m 795 ls [])) : W p l e room_1 s m args below meth c H locs cells slots Q (F0 m 365 ls []) := by
  obtain ⟨z, rr, N1, e1, ez, e2, ha⟩ := hT.2.2.2.2.2.2.1 (xs (x4 + (1 : Int32)).toNatClampNeg)
  refine lv_aload_n X.1 X.2.1 dL_law_365 rfl (lv_at hl 1 rfl) ?_
  refine lv_aload_n X.1 X.2.1 dL_law_366 rfl (lv_at hl 0 rfl) ?_
  refine lv_iload X.1 X.2.1 dL_law_367 (lv_at hl 4 rfl) ?_
  refine lv_iconst (v := (1 : Int32)) X.1 X.2.1 dL_law_369 (by decide) ?_
  refine lv_iadd X.1 X.2.1 dL_law_370 ?_
  refine va_sld X.1 X.2.1 hX hbl hbA hS h1 dL_law_371 ?_
  refine lv_aload_n X.1 X.2.1 dL_law_372 rfl (lv_at hl 3 rfl) ?_
  rw [← List.append_assoc] at hP hD
  refine px_sL (wy := (fun M g => wC cs ad M ++ wO cs o g)) (rw := wR cs aR N) (As := [.ref (ad 0), .int (xs (x4 + (1 : Int32)).toNatClampNeg), .ref o]) (rest := []) X hml hl hP hD hS hA hE hN (cL_wadvance l hst D cs ad sa o (g := g) e1 ez) (px_tb (by decide +kernel) (by decide +kernel)) (px_tb (by decide +kernel) (by decide +kernel)) (px_tb (by decide +kernel) (by decide +kernel)) (px_tb (by decide +kernel) (by decide +kernel)) ⟨by decide +kernel, by decide +kernel⟩ (by decide +kernel : (parseMethodDescriptor yL_advance.desc).map (fun d => d.parameters.length) = some 3) (Nat.le_of_ble_eq_true rfl) (Nat.le_of_ble_eq_true rfl) hcR hsR rfl (Nat.le_of_ble_eq_true rfl) dL_law_373 (fun r M1 g1 H locs hres hP hD hS => ?_)
  rcases z with v | E
  · obtain ⟨v, M2⟩ := v
    obtain ⟨hr0, hr1, hr2⟩ := hres
    obtain rfl : r = 0 := hr0
    obtain rfl : M1 = M2 := hr1
    obtain rfl : g1 = vp_updL g 0 v.toInt64 := hr2
    obtain ⟨t0, t1, t2⟩ : N1 0 0 = 0 ∧ v = rr ∧ T M1 N1 := ha
    refine lv_istore (lv' := [(5, .int (0 : Int32)), (0, .ref b), (1, .ref (ad 0)), (2, .ref (aR 0)), (3, .ref o), (4, .int x4)]) X.1 X.2.1 dL_law_376 hl (by decide) rfl (fun ls hl => ?_)
    refine lv_aload_n X.1 X.2.1 dL_law_378 rfl (lv_at hl 3 rfl) ?_
    refine lv_aload_n X.1 X.2.1 dL_law_379 rfl (lv_at hl 1 rfl) ?_
    refine lv_iload X.1 X.2.1 dL_law_380 (lv_at hl 5 rfl) ?_
    refine lv_iconst (v := (1 : Int32)) X.1 X.2.1 dL_law_382 (by decide) ?_
    refine lv_iadd X.1 X.2.1 dL_law_383 ?_
    refine va_sld X.1 X.2.1 hX hbl hbA hS h1 dL_law_384 ?_
    have hP := px_Pp hP List.perm_append_comm
    have hD := px_Dp hD List.perm_append_comm
    refine px_yI (wf := wR cs aR) (rw := wC cs ad M1 ++ wO cs o (vp_updL g 0 v.toInt64)) (tysC := tyR cs) (As := [.int (xs (x4 + (1 : Int32)).toNatClampNeg)]) (rest := []) X hml hl (X.2.2.2.2.sub [0, 1] rfl) hP hD hS hA (cR_M_advance l D cs aR e2) lkL_84 (Nat.le_of_ble_eq_true rfl) (Nat.le_of_ble_eq_true rfl) (by omega) (by omega) (va_recv X.2.2.2.2 hP (ci := 6) (q0 := 0) rfl rfl) rfl (Nat.le_of_ble_eq_true rfl) dL_law_385 (fun H locs hP hD hS => ?_)
    refine lv_istore (lv' := [(6, .int rr), (5, .int (0 : Int32)), (0, .ref b), (1, .ref (ad 0)), (2, .ref (aR 0)), (3, .ref o), (4, .int x4)]) X.1 X.2.1 dL_law_388 hl (by decide) rfl (fun ls hl => ?_)
    refine lv_aload_n X.1 X.2.1 dL_law_390 rfl (lv_at hl 4 rfl) ?_
    refine px_yI (wf := wR cs aR) (rw := wC cs ad M1 ++ wO cs o (vp_updL g 0 v.toInt64)) (tysC := tyR cs) (As := []) (rest := []) X hml hl (X.2.2.2.2.sub [0, 1] rfl) hP hD hS hA (cR_M_thrown l D cs aR (show fR_M_thrown N1 = some (N1 0 0) from rfl)) lkL_62 (Nat.le_of_ble_eq_true rfl) (Nat.le_of_ble_eq_true rfl) (by omega) (by omega) (va_recv X.2.2.2.2 hP (ci := 6) (q0 := 0) rfl rfl) rfl (Nat.le_of_ble_eq_true rfl) dL_law_391 (fun H locs hP hD hS => ?_)
    refine lv_iload X.1 X.2.1 dL_law_394 (lv_at hl 1 rfl) ?_
    refine lv_icmp_eq (tgt := 401) X.1 X.2.1 dL_law_396 (by decide) (fun _ => ?_) (fun q => absurd t0 q)
    have hP := px_Pp hP List.perm_append_comm
    have hD := px_Dp hD List.perm_append_comm
    rw [List.append_assoc] at hP hD
    refine lv_iload X.1 X.2.1 dL_law_401 (lv_at hl 1 rfl) ?_
    refine lv_if_ne (tgt := 418) X.1 X.2.1 dL_law_403 (by decide) (fun q => absurd rfl q) (fun _ => ?_)
    refine lv_aload_n X.1 X.2.1 dL_law_406 rfl (lv_at hl 5 rfl) ?_
    refine lv_iconst (v := (0 : Int32)) X.1 X.2.1 dL_law_407 (by decide) ?_
    refine va_lald X.1 X.2.1 X.2.2.2.2 hP 52 3 rfl rfl (by unfold vp_in; decide) dL_law_408 ?_
    refine lv_iload X.1 X.2.1 dL_law_409 (lv_at hl 0 rfl) ?_
    refine lv_i2l X.1 X.2.1 dL_law_411 rfl ?_
    refine W.lcmp X.1 X.2.1 dL_law_412 ?_
    refine lv_if_eq (tgt := 418) X.1 X.2.1 dL_law_413 (by decide) (fun _ => ?_) (fun q => absurd (by rw [← t1]; exact px_lc _) q)
    refine lv_goto (tgt := 795) X.1 X.2.1 dL_law_418 (by decide) ?_
    exact kk _ _ _ _ _ _ t2 hP hD hS (lv_sub hl [2, 3, 4, 5, 6] rfl)
  · obtain ⟨hr0, hr1⟩ := hres
    rw [show M1 = M from congrArg Prod.fst hr1, show g1 = g from congrArg Prod.snd hr1] at hP hD
    obtain ⟨t0, t1, t2⟩ := ha
    have t0 : N1 0 0 = r := t0.trans hr0.symm
    have t1 : ¬ r = 0 := by rw [show r = _ from hr0]; exact t1
    refine lv_istore (lv' := [(5, .int r), (0, .ref b), (1, .ref (ad 0)), (2, .ref (aR 0)), (3, .ref o), (4, .int x4)]) X.1 X.2.1 dL_law_376 hl (by decide) rfl (fun ls hl => ?_)
    refine lv_aload_n X.1 X.2.1 dL_law_378 rfl (lv_at hl 3 rfl) ?_
    refine lv_aload_n X.1 X.2.1 dL_law_379 rfl (lv_at hl 1 rfl) ?_
    refine lv_iload X.1 X.2.1 dL_law_380 (lv_at hl 5 rfl) ?_
    refine lv_iconst (v := (1 : Int32)) X.1 X.2.1 dL_law_382 (by decide) ?_
    refine lv_iadd X.1 X.2.1 dL_law_383 ?_
    refine va_sld X.1 X.2.1 hX hbl hbA hS h1 dL_law_384 ?_
    have hP := px_Pp hP List.perm_append_comm
    have hD := px_Dp hD List.perm_append_comm
    refine px_yI (wf := wR cs aR) (rw := wC cs ad M ++ wO cs o g) (tysC := tyR cs) (As := [.int (xs (x4 + (1 : Int32)).toNatClampNeg)]) (rest := []) X hml hl (X.2.2.2.2.sub [0, 1] rfl) hP hD hS hA (cR_M_advance l D cs aR e2) lkL_84 (Nat.le_of_ble_eq_true rfl) (Nat.le_of_ble_eq_true rfl) (by omega) (by omega) (va_recv X.2.2.2.2 hP (ci := 6) (q0 := 0) rfl rfl) rfl (Nat.le_of_ble_eq_true rfl) dL_law_385 (fun H locs hP hD hS => ?_)
    refine lv_istore (lv' := [(6, .int rr), (5, .int r), (0, .ref b), (1, .ref (ad 0)), (2, .ref (aR 0)), (3, .ref o), (4, .int x4)]) X.1 X.2.1 dL_law_388 hl (by decide) rfl (fun ls hl => ?_)
    refine lv_aload_n X.1 X.2.1 dL_law_390 rfl (lv_at hl 4 rfl) ?_
    refine px_yI (wf := wR cs aR) (rw := wC cs ad M ++ wO cs o g) (tysC := tyR cs) (As := []) (rest := []) X hml hl (X.2.2.2.2.sub [0, 1] rfl) hP hD hS hA (cR_M_thrown l D cs aR (show fR_M_thrown N1 = some (N1 0 0) from rfl)) lkL_62 (Nat.le_of_ble_eq_true rfl) (Nat.le_of_ble_eq_true rfl) (by omega) (by omega) (va_recv X.2.2.2.2 hP (ci := 6) (q0 := 0) rfl rfl) rfl (Nat.le_of_ble_eq_true rfl) dL_law_391 (fun H locs hP hD hS => ?_)
    refine lv_iload X.1 X.2.1 dL_law_394 (lv_at hl 1 rfl) ?_
    refine lv_icmp_eq (tgt := 401) X.1 X.2.1 dL_law_396 (by decide) (fun _ => ?_) (fun q => absurd t0 q)
    have hP := px_Pp hP List.perm_append_comm
    have hD := px_Dp hD List.perm_append_comm
    rw [List.append_assoc] at hP hD
    refine lv_iload X.1 X.2.1 dL_law_401 (lv_at hl 1 rfl) ?_
    refine lv_if_ne (tgt := 418) X.1 X.2.1 dL_law_403 (by decide) (fun _ => ?_) (fun q => absurd q t1)
    refine lv_goto (tgt := 795) X.1 X.2.1 dL_law_418 (by decide) ?_
    exact kk _ _ _ _ _ _ t2 hP hD hS (lv_sub hl [2, 3, 4, 5, 6] rfl)
theorem lkL_87 : px_Lk RL 87 yX6_register cX6_register 2 (some .int) 1 := ⟨px_tb (by decide +kernel) (by decide +kernel), px_tb (by decide +kernel) (by decide +kernel), px_tb (by decide +kernel) (by decide +kernel), px_tb (by decide +kernel) (by decide +kernel), px_tb (by decide +kernel) (by decide +kernel), by decide +kernel, by decide⟩
set_option maxHeartbeats 4000000 in
set_option maxRecDepth 100000 in
theorem lw_c6 {l : Launch} (hst : l.stackTraces = false) {D : va_G} {cs : Nat → ClassId} {ad aR : Nat → Nat} {sa : Nat → Nat} {p : Program} {e : Env} {s : State} {m : MethodId} {args : Array Value} {below : List Frame} {meth : Method} {c : Code} {Q : State → Prop} {A : Nat → Prop} {b L o : Nat} {xs : Nat → Int32} {T : px_M → px_M → Prop} (X : px_X D (tyL cs) p s m args c cL_law RL) (hml : c.maxLocals = 7) (hX : va_X b L xs s s.heap) (hbl : b < s.heap.size) (hbA : ¬ A b) (hA : ∀ q : Nat, s.heap.size ≤ q → A q) (hE : px_Ex sa A s s.heap) (hN : px_NcU s) {M N : px_M} {g : Nat → Int64} {H : Heap} {locs : List Loc} {ls : Array Slot} {x4 : Int32} {cells slots : Nat} (hcR : cells + 1 ≤ room_1.cells) (hsR : slots + 6 ≤ room_1.slots) (h1 : vp_in (x4 + (1 : Int32)) L) (h2 : vp_in (x4 + (2 : Int32)) L) (h3 : vp_in (x4 + (3 : Int32)) L) (h4 : vp_in (x4 + (4 : Int32)) L) (hP : va_P D vwCl (wC cs ad M ++ (wO cs o g ++ wR cs aR N)) H) (hD : va_D A (wC cs ad M ++ (wO cs o g ++ wR cs aR N))) (hS : va_S A s.heap H locs) (hl : lv_has ls 7 [(0, .ref b), (1, .ref (ad 0)), (2, .ref (aR 0)), (3, .ref o), (4, .int x4)]) (hT : pu_all T M N) (kk : ∀ (M' N' : px_M) (g' : Nat → Int64) (H : Heap) (locs : List Loc) (ls : Array Slot), T M' N' → va_P D vwCl (wC cs ad M' ++ (wO cs o g' ++ wR cs aR N')) H → va_D A (wC cs ad M' ++ (wO cs o g' ++ wR cs aR N')) → va_S A s.heap H locs → lv_has ls 7 [(0, .ref b), (1, .ref (ad 0)), (2, .ref (aR 0)), (3, .ref o), (4, .int x4)] → W p l e room_1 s m args below meth c H locs (cells + 1) (slots + 6) Q (F0 m 795 ls [])) : W p l e room_1 s m args below meth c H locs cells slots Q (F0 m 421 ls []) := by
  obtain ⟨z, rr, N1, e1, ez, e2, ha⟩ := hT.2.2.2.2.2.2.2.1 (xs (x4 + (1 : Int32)).toNatClampNeg)
  refine lv_aload_n X.1 X.2.1 dL_law_421 rfl (lv_at hl 1 rfl) ?_
  refine lv_aload_n X.1 X.2.1 dL_law_422 rfl (lv_at hl 0 rfl) ?_
  refine lv_iload X.1 X.2.1 dL_law_423 (lv_at hl 4 rfl) ?_
  refine lv_iconst (v := (1 : Int32)) X.1 X.2.1 dL_law_425 (by decide) ?_
  refine lv_iadd X.1 X.2.1 dL_law_426 ?_
  refine va_sld X.1 X.2.1 hX hbl hbA hS h1 dL_law_427 ?_
  refine lv_aload_n X.1 X.2.1 dL_law_428 rfl (lv_at hl 3 rfl) ?_
  rw [← List.append_assoc] at hP hD
  refine px_sL (wy := (fun M g => wC cs ad M ++ wO cs o g)) (rw := wR cs aR N) (As := [.ref (ad 0), .int (xs (x4 + (1 : Int32)).toNatClampNeg), .ref o]) (rest := []) X hml hl hP hD hS hA hE hN (cL_wregister l hst D cs ad sa o (g := g) e1 ez) (px_tb (by decide +kernel) (by decide +kernel)) (px_tb (by decide +kernel) (by decide +kernel)) (px_tb (by decide +kernel) (by decide +kernel)) (px_tb (by decide +kernel) (by decide +kernel)) ⟨by decide +kernel, by decide +kernel⟩ (by decide +kernel : (parseMethodDescriptor yL_register.desc).map (fun d => d.parameters.length) = some 3) (Nat.le_of_ble_eq_true rfl) (Nat.le_of_ble_eq_true rfl) hcR hsR rfl (Nat.le_of_ble_eq_true rfl) dL_law_429 (fun r M1 g1 H locs hres hP hD hS => ?_)
  rcases z with v | E
  · obtain ⟨v, M2⟩ := v
    obtain ⟨hr0, hr1, hr2⟩ := hres
    obtain rfl : r = 0 := hr0
    obtain rfl : M1 = M2 := hr1
    obtain rfl : g1 = vp_updL g 0 v.toInt64 := hr2
    obtain ⟨t0, t1, t2⟩ : N1 0 0 = 0 ∧ v = rr ∧ T M1 N1 := ha
    refine lv_istore (lv' := [(5, .int (0 : Int32)), (0, .ref b), (1, .ref (ad 0)), (2, .ref (aR 0)), (3, .ref o), (4, .int x4)]) X.1 X.2.1 dL_law_432 hl (by decide) rfl (fun ls hl => ?_)
    refine lv_aload_n X.1 X.2.1 dL_law_434 rfl (lv_at hl 3 rfl) ?_
    refine lv_aload_n X.1 X.2.1 dL_law_435 rfl (lv_at hl 1 rfl) ?_
    refine lv_iload X.1 X.2.1 dL_law_436 (lv_at hl 5 rfl) ?_
    refine lv_iconst (v := (1 : Int32)) X.1 X.2.1 dL_law_438 (by decide) ?_
    refine lv_iadd X.1 X.2.1 dL_law_439 ?_
    refine va_sld X.1 X.2.1 hX hbl hbA hS h1 dL_law_440 ?_
    have hP := px_Pp hP List.perm_append_comm
    have hD := px_Dp hD List.perm_append_comm
    refine px_yI (wf := wR cs aR) (rw := wC cs ad M1 ++ wO cs o (vp_updL g 0 v.toInt64)) (tysC := tyR cs) (As := [.int (xs (x4 + (1 : Int32)).toNatClampNeg)]) (rest := []) X hml hl (X.2.2.2.2.sub [0, 1] rfl) hP hD hS hA (cR_M_register l D cs aR e2) lkL_87 (Nat.le_of_ble_eq_true rfl) (Nat.le_of_ble_eq_true rfl) (by omega) (by omega) (va_recv X.2.2.2.2 hP (ci := 6) (q0 := 0) rfl rfl) rfl (Nat.le_of_ble_eq_true rfl) dL_law_441 (fun H locs hP hD hS => ?_)
    refine lv_istore (lv' := [(6, .int rr), (5, .int (0 : Int32)), (0, .ref b), (1, .ref (ad 0)), (2, .ref (aR 0)), (3, .ref o), (4, .int x4)]) X.1 X.2.1 dL_law_444 hl (by decide) rfl (fun ls hl => ?_)
    refine lv_aload_n X.1 X.2.1 dL_law_446 rfl (lv_at hl 4 rfl) ?_
    refine px_yI (wf := wR cs aR) (rw := wC cs ad M1 ++ wO cs o (vp_updL g 0 v.toInt64)) (tysC := tyR cs) (As := []) (rest := []) X hml hl (X.2.2.2.2.sub [0, 1] rfl) hP hD hS hA (cR_M_thrown l D cs aR (show fR_M_thrown N1 = some (N1 0 0) from rfl)) lkL_62 (Nat.le_of_ble_eq_true rfl) (Nat.le_of_ble_eq_true rfl) (by omega) (by omega) (va_recv X.2.2.2.2 hP (ci := 6) (q0 := 0) rfl rfl) rfl (Nat.le_of_ble_eq_true rfl) dL_law_447 (fun H locs hP hD hS => ?_)
    refine lv_iload X.1 X.2.1 dL_law_450 (lv_at hl 1 rfl) ?_
    refine lv_icmp_eq (tgt := 457) X.1 X.2.1 dL_law_452 (by decide) (fun _ => ?_) (fun q => absurd t0 q)
    have hP := px_Pp hP List.perm_append_comm
    have hD := px_Dp hD List.perm_append_comm
    rw [List.append_assoc] at hP hD
    refine lv_iload X.1 X.2.1 dL_law_457 (lv_at hl 1 rfl) ?_
    refine lv_if_ne (tgt := 474) X.1 X.2.1 dL_law_459 (by decide) (fun q => absurd rfl q) (fun _ => ?_)
    refine lv_aload_n X.1 X.2.1 dL_law_462 rfl (lv_at hl 5 rfl) ?_
    refine lv_iconst (v := (0 : Int32)) X.1 X.2.1 dL_law_463 (by decide) ?_
    refine va_lald X.1 X.2.1 X.2.2.2.2 hP 52 3 rfl rfl (by unfold vp_in; decide) dL_law_464 ?_
    refine lv_iload X.1 X.2.1 dL_law_465 (lv_at hl 0 rfl) ?_
    refine lv_i2l X.1 X.2.1 dL_law_467 rfl ?_
    refine W.lcmp X.1 X.2.1 dL_law_468 ?_
    refine lv_if_eq (tgt := 474) X.1 X.2.1 dL_law_469 (by decide) (fun _ => ?_) (fun q => absurd (by rw [← t1]; exact px_lc _) q)
    refine lv_goto (tgt := 795) X.1 X.2.1 dL_law_474 (by decide) ?_
    exact kk _ _ _ _ _ _ t2 hP hD hS (lv_sub hl [2, 3, 4, 5, 6] rfl)
  · obtain ⟨hr0, hr1⟩ := hres
    rw [show M1 = M from congrArg Prod.fst hr1, show g1 = g from congrArg Prod.snd hr1] at hP hD
    obtain ⟨t0, t1, t2⟩ := ha
    have t0 : N1 0 0 = r := t0.trans hr0.symm
    have t1 : ¬ r = 0 := by rw [show r = _ from hr0]; exact t1
    refine lv_istore (lv' := [(5, .int r), (0, .ref b), (1, .ref (ad 0)), (2, .ref (aR 0)), (3, .ref o), (4, .int x4)]) X.1 X.2.1 dL_law_432 hl (by decide) rfl (fun ls hl => ?_)
    refine lv_aload_n X.1 X.2.1 dL_law_434 rfl (lv_at hl 3 rfl) ?_
    refine lv_aload_n X.1 X.2.1 dL_law_435 rfl (lv_at hl 1 rfl) ?_
    refine lv_iload X.1 X.2.1 dL_law_436 (lv_at hl 5 rfl) ?_
    refine lv_iconst (v := (1 : Int32)) X.1 X.2.1 dL_law_438 (by decide) ?_
    refine lv_iadd X.1 X.2.1 dL_law_439 ?_
    refine va_sld X.1 X.2.1 hX hbl hbA hS h1 dL_law_440 ?_
    have hP := px_Pp hP List.perm_append_comm
    have hD := px_Dp hD List.perm_append_comm
    refine px_yI (wf := wR cs aR) (rw := wC cs ad M ++ wO cs o g) (tysC := tyR cs) (As := [.int (xs (x4 + (1 : Int32)).toNatClampNeg)]) (rest := []) X hml hl (X.2.2.2.2.sub [0, 1] rfl) hP hD hS hA (cR_M_register l D cs aR e2) lkL_87 (Nat.le_of_ble_eq_true rfl) (Nat.le_of_ble_eq_true rfl) (by omega) (by omega) (va_recv X.2.2.2.2 hP (ci := 6) (q0 := 0) rfl rfl) rfl (Nat.le_of_ble_eq_true rfl) dL_law_441 (fun H locs hP hD hS => ?_)
    refine lv_istore (lv' := [(6, .int rr), (5, .int r), (0, .ref b), (1, .ref (ad 0)), (2, .ref (aR 0)), (3, .ref o), (4, .int x4)]) X.1 X.2.1 dL_law_444 hl (by decide) rfl (fun ls hl => ?_)
    refine lv_aload_n X.1 X.2.1 dL_law_446 rfl (lv_at hl 4 rfl) ?_
    refine px_yI (wf := wR cs aR) (rw := wC cs ad M ++ wO cs o g) (tysC := tyR cs) (As := []) (rest := []) X hml hl (X.2.2.2.2.sub [0, 1] rfl) hP hD hS hA (cR_M_thrown l D cs aR (show fR_M_thrown N1 = some (N1 0 0) from rfl)) lkL_62 (Nat.le_of_ble_eq_true rfl) (Nat.le_of_ble_eq_true rfl) (by omega) (by omega) (va_recv X.2.2.2.2 hP (ci := 6) (q0 := 0) rfl rfl) rfl (Nat.le_of_ble_eq_true rfl) dL_law_447 (fun H locs hP hD hS => ?_)
    refine lv_iload X.1 X.2.1 dL_law_450 (lv_at hl 1 rfl) ?_
    refine lv_icmp_eq (tgt := 457) X.1 X.2.1 dL_law_452 (by decide) (fun _ => ?_) (fun q => absurd t0 q)
    have hP := px_Pp hP List.perm_append_comm
    have hD := px_Dp hD List.perm_append_comm
    rw [List.append_assoc] at hP hD
    refine lv_iload X.1 X.2.1 dL_law_457 (lv_at hl 1 rfl) ?_
    refine lv_if_ne (tgt := 474) X.1 X.2.1 dL_law_459 (by decide) (fun _ => ?_) (fun q => absurd q t1)
    refine lv_goto (tgt := 795) X.1 X.2.1 dL_law_474 (by decide) ?_
    exact kk _ _ _ _ _ _ t2 hP hD hS (lv_sub hl [2, 3, 4, 5, 6] rfl)
theorem lkL_90 : px_Lk RL 90 yX6_state cX6_state 2 (some .int) 1 := ⟨px_tb (by decide +kernel) (by decide +kernel), px_tb (by decide +kernel) (by decide +kernel), px_tb (by decide +kernel) (by decide +kernel), px_tb (by decide +kernel) (by decide +kernel), px_tb (by decide +kernel) (by decide +kernel), by decide +kernel, by decide⟩
set_option maxHeartbeats 4000000 in
set_option maxRecDepth 100000 in
theorem lw_c7 {l : Launch} (hst : l.stackTraces = false) {D : va_G} {cs : Nat → ClassId} {ad aR : Nat → Nat} {sa : Nat → Nat} {p : Program} {e : Env} {s : State} {m : MethodId} {args : Array Value} {below : List Frame} {meth : Method} {c : Code} {Q : State → Prop} {A : Nat → Prop} {b L o : Nat} {xs : Nat → Int32} {T : px_M → px_M → Prop} (X : px_X D (tyL cs) p s m args c cL_law RL) (hml : c.maxLocals = 7) (hX : va_X b L xs s s.heap) (hbl : b < s.heap.size) (hbA : ¬ A b) (hA : ∀ q : Nat, s.heap.size ≤ q → A q) (hE : px_Ex sa A s s.heap) (hN : px_NcU s) {M N : px_M} {g : Nat → Int64} {H : Heap} {locs : List Loc} {ls : Array Slot} {x4 : Int32} {cells slots : Nat} (hcR : cells + 1 ≤ room_1.cells) (hsR : slots + 6 ≤ room_1.slots) (h1 : vp_in (x4 + (1 : Int32)) L) (h2 : vp_in (x4 + (2 : Int32)) L) (h3 : vp_in (x4 + (3 : Int32)) L) (h4 : vp_in (x4 + (4 : Int32)) L) (hP : va_P D vwCl (wC cs ad M ++ (wO cs o g ++ wR cs aR N)) H) (hD : va_D A (wC cs ad M ++ (wO cs o g ++ wR cs aR N))) (hS : va_S A s.heap H locs) (hl : lv_has ls 7 [(0, .ref b), (1, .ref (ad 0)), (2, .ref (aR 0)), (3, .ref o), (4, .int x4)]) (hT : pu_all T M N) (kk : ∀ (M' N' : px_M) (g' : Nat → Int64) (H : Heap) (locs : List Loc) (ls : Array Slot), T M' N' → va_P D vwCl (wC cs ad M' ++ (wO cs o g' ++ wR cs aR N')) H → va_D A (wC cs ad M' ++ (wO cs o g' ++ wR cs aR N')) → va_S A s.heap H locs → lv_has ls 7 [(0, .ref b), (1, .ref (ad 0)), (2, .ref (aR 0)), (3, .ref o), (4, .int x4)] → W p l e room_1 s m args below meth c H locs (cells + 1) (slots + 6) Q (F0 m 795 ls [])) : W p l e room_1 s m args below meth c H locs cells slots Q (F0 m 477 ls []) := by
  obtain ⟨z, rr, N1, e1, ez, e2, ha⟩ := hT.2.2.2.2.2.2.2.2.1 (xs (x4 + (1 : Int32)).toNatClampNeg)
  refine lv_aload_n X.1 X.2.1 dL_law_477 rfl (lv_at hl 1 rfl) ?_
  refine lv_aload_n X.1 X.2.1 dL_law_478 rfl (lv_at hl 0 rfl) ?_
  refine lv_iload X.1 X.2.1 dL_law_479 (lv_at hl 4 rfl) ?_
  refine lv_iconst (v := (1 : Int32)) X.1 X.2.1 dL_law_481 (by decide) ?_
  refine lv_iadd X.1 X.2.1 dL_law_482 ?_
  refine va_sld X.1 X.2.1 hX hbl hbA hS h1 dL_law_483 ?_
  refine lv_aload_n X.1 X.2.1 dL_law_484 rfl (lv_at hl 3 rfl) ?_
  rw [← List.append_assoc] at hP hD
  refine px_sL (wy := (fun M g => wC cs ad M ++ wO cs o g)) (rw := wR cs aR N) (As := [.ref (ad 0), .int (xs (x4 + (1 : Int32)).toNatClampNeg), .ref o]) (rest := []) X hml hl hP hD hS hA hE hN (cL_wstate l hst D cs ad sa o (g := g) e1 ez) (px_tb (by decide +kernel) (by decide +kernel)) (px_tb (by decide +kernel) (by decide +kernel)) (px_tb (by decide +kernel) (by decide +kernel)) (px_tb (by decide +kernel) (by decide +kernel)) ⟨by decide +kernel, by decide +kernel⟩ (by decide +kernel : (parseMethodDescriptor yL_state.desc).map (fun d => d.parameters.length) = some 3) (Nat.le_of_ble_eq_true rfl) (Nat.le_of_ble_eq_true rfl) hcR hsR rfl (Nat.le_of_ble_eq_true rfl) dL_law_485 (fun r M1 g1 H locs hres hP hD hS => ?_)
  rcases z with v | E
  · obtain ⟨v, M2⟩ := v
    obtain ⟨hr0, hr1, hr2⟩ := hres
    obtain rfl : r = 0 := hr0
    obtain rfl : M1 = M2 := hr1
    obtain rfl : g1 = vp_updL g 0 v.toInt64 := hr2
    obtain ⟨t0, t1, t2⟩ : N1 0 0 = 0 ∧ v = rr ∧ T M1 N1 := ha
    refine lv_istore (lv' := [(5, .int (0 : Int32)), (0, .ref b), (1, .ref (ad 0)), (2, .ref (aR 0)), (3, .ref o), (4, .int x4)]) X.1 X.2.1 dL_law_488 hl (by decide) rfl (fun ls hl => ?_)
    refine lv_aload_n X.1 X.2.1 dL_law_490 rfl (lv_at hl 3 rfl) ?_
    refine lv_aload_n X.1 X.2.1 dL_law_491 rfl (lv_at hl 1 rfl) ?_
    refine lv_iload X.1 X.2.1 dL_law_492 (lv_at hl 5 rfl) ?_
    refine lv_iconst (v := (1 : Int32)) X.1 X.2.1 dL_law_494 (by decide) ?_
    refine lv_iadd X.1 X.2.1 dL_law_495 ?_
    refine va_sld X.1 X.2.1 hX hbl hbA hS h1 dL_law_496 ?_
    have hP := px_Pp hP List.perm_append_comm
    have hD := px_Dp hD List.perm_append_comm
    refine px_yI (wf := wR cs aR) (rw := wC cs ad M1 ++ wO cs o (vp_updL g 0 v.toInt64)) (tysC := tyR cs) (As := [.int (xs (x4 + (1 : Int32)).toNatClampNeg)]) (rest := []) X hml hl (X.2.2.2.2.sub [0, 1] rfl) hP hD hS hA (cR_M_state l D cs aR e2) lkL_90 (Nat.le_of_ble_eq_true rfl) (Nat.le_of_ble_eq_true rfl) (by omega) (by omega) (va_recv X.2.2.2.2 hP (ci := 6) (q0 := 0) rfl rfl) rfl (Nat.le_of_ble_eq_true rfl) dL_law_497 (fun H locs hP hD hS => ?_)
    refine lv_istore (lv' := [(6, .int rr), (5, .int (0 : Int32)), (0, .ref b), (1, .ref (ad 0)), (2, .ref (aR 0)), (3, .ref o), (4, .int x4)]) X.1 X.2.1 dL_law_500 hl (by decide) rfl (fun ls hl => ?_)
    refine lv_aload_n X.1 X.2.1 dL_law_502 rfl (lv_at hl 4 rfl) ?_
    refine px_yI (wf := wR cs aR) (rw := wC cs ad M1 ++ wO cs o (vp_updL g 0 v.toInt64)) (tysC := tyR cs) (As := []) (rest := []) X hml hl (X.2.2.2.2.sub [0, 1] rfl) hP hD hS hA (cR_M_thrown l D cs aR (show fR_M_thrown N1 = some (N1 0 0) from rfl)) lkL_62 (Nat.le_of_ble_eq_true rfl) (Nat.le_of_ble_eq_true rfl) (by omega) (by omega) (va_recv X.2.2.2.2 hP (ci := 6) (q0 := 0) rfl rfl) rfl (Nat.le_of_ble_eq_true rfl) dL_law_503 (fun H locs hP hD hS => ?_)
    refine lv_iload X.1 X.2.1 dL_law_506 (lv_at hl 1 rfl) ?_
    refine lv_icmp_eq (tgt := 513) X.1 X.2.1 dL_law_508 (by decide) (fun _ => ?_) (fun q => absurd t0 q)
    have hP := px_Pp hP List.perm_append_comm
    have hD := px_Dp hD List.perm_append_comm
    rw [List.append_assoc] at hP hD
    refine lv_iload X.1 X.2.1 dL_law_513 (lv_at hl 1 rfl) ?_
    refine lv_if_ne (tgt := 530) X.1 X.2.1 dL_law_515 (by decide) (fun q => absurd rfl q) (fun _ => ?_)
    refine lv_aload_n X.1 X.2.1 dL_law_518 rfl (lv_at hl 5 rfl) ?_
    refine lv_iconst (v := (0 : Int32)) X.1 X.2.1 dL_law_519 (by decide) ?_
    refine va_lald X.1 X.2.1 X.2.2.2.2 hP 52 3 rfl rfl (by unfold vp_in; decide) dL_law_520 ?_
    refine lv_iload X.1 X.2.1 dL_law_521 (lv_at hl 0 rfl) ?_
    refine lv_i2l X.1 X.2.1 dL_law_523 rfl ?_
    refine W.lcmp X.1 X.2.1 dL_law_524 ?_
    refine lv_if_eq (tgt := 530) X.1 X.2.1 dL_law_525 (by decide) (fun _ => ?_) (fun q => absurd (by rw [← t1]; exact px_lc _) q)
    refine lv_goto (tgt := 795) X.1 X.2.1 dL_law_530 (by decide) ?_
    exact kk _ _ _ _ _ _ t2 hP hD hS (lv_sub hl [2, 3, 4, 5, 6] rfl)
  · obtain ⟨hr0, hr1⟩ := hres
    rw [show M1 = M from congrArg Prod.fst hr1, show g1 = g from congrArg Prod.snd hr1] at hP hD
    obtain ⟨t0, t1, t2⟩ := ha
    have t0 : N1 0 0 = r := t0.trans hr0.symm
    have t1 : ¬ r = 0 := by rw [show r = _ from hr0]; exact t1
    refine lv_istore (lv' := [(5, .int r), (0, .ref b), (1, .ref (ad 0)), (2, .ref (aR 0)), (3, .ref o), (4, .int x4)]) X.1 X.2.1 dL_law_488 hl (by decide) rfl (fun ls hl => ?_)
    refine lv_aload_n X.1 X.2.1 dL_law_490 rfl (lv_at hl 3 rfl) ?_
    refine lv_aload_n X.1 X.2.1 dL_law_491 rfl (lv_at hl 1 rfl) ?_
    refine lv_iload X.1 X.2.1 dL_law_492 (lv_at hl 5 rfl) ?_
    refine lv_iconst (v := (1 : Int32)) X.1 X.2.1 dL_law_494 (by decide) ?_
    refine lv_iadd X.1 X.2.1 dL_law_495 ?_
    refine va_sld X.1 X.2.1 hX hbl hbA hS h1 dL_law_496 ?_
    have hP := px_Pp hP List.perm_append_comm
    have hD := px_Dp hD List.perm_append_comm
    refine px_yI (wf := wR cs aR) (rw := wC cs ad M ++ wO cs o g) (tysC := tyR cs) (As := [.int (xs (x4 + (1 : Int32)).toNatClampNeg)]) (rest := []) X hml hl (X.2.2.2.2.sub [0, 1] rfl) hP hD hS hA (cR_M_state l D cs aR e2) lkL_90 (Nat.le_of_ble_eq_true rfl) (Nat.le_of_ble_eq_true rfl) (by omega) (by omega) (va_recv X.2.2.2.2 hP (ci := 6) (q0 := 0) rfl rfl) rfl (Nat.le_of_ble_eq_true rfl) dL_law_497 (fun H locs hP hD hS => ?_)
    refine lv_istore (lv' := [(6, .int rr), (5, .int r), (0, .ref b), (1, .ref (ad 0)), (2, .ref (aR 0)), (3, .ref o), (4, .int x4)]) X.1 X.2.1 dL_law_500 hl (by decide) rfl (fun ls hl => ?_)
    refine lv_aload_n X.1 X.2.1 dL_law_502 rfl (lv_at hl 4 rfl) ?_
    refine px_yI (wf := wR cs aR) (rw := wC cs ad M ++ wO cs o g) (tysC := tyR cs) (As := []) (rest := []) X hml hl (X.2.2.2.2.sub [0, 1] rfl) hP hD hS hA (cR_M_thrown l D cs aR (show fR_M_thrown N1 = some (N1 0 0) from rfl)) lkL_62 (Nat.le_of_ble_eq_true rfl) (Nat.le_of_ble_eq_true rfl) (by omega) (by omega) (va_recv X.2.2.2.2 hP (ci := 6) (q0 := 0) rfl rfl) rfl (Nat.le_of_ble_eq_true rfl) dL_law_503 (fun H locs hP hD hS => ?_)
    refine lv_iload X.1 X.2.1 dL_law_506 (lv_at hl 1 rfl) ?_
    refine lv_icmp_eq (tgt := 513) X.1 X.2.1 dL_law_508 (by decide) (fun _ => ?_) (fun q => absurd t0 q)
    have hP := px_Pp hP List.perm_append_comm
    have hD := px_Dp hD List.perm_append_comm
    rw [List.append_assoc] at hP hD
    refine lv_iload X.1 X.2.1 dL_law_513 (lv_at hl 1 rfl) ?_
    refine lv_if_ne (tgt := 530) X.1 X.2.1 dL_law_515 (by decide) (fun _ => ?_) (fun q => absurd q t1)
    refine lv_goto (tgt := 795) X.1 X.2.1 dL_law_530 (by decide) ?_
    exact kk _ _ _ _ _ _ t2 hP hD hS (lv_sub hl [2, 3, 4, 5, 6] rfl)
theorem lkL_93 : px_Lk RL 93 yX6_value cX6_value 2 (some .int) 1 := ⟨px_tb (by decide +kernel) (by decide +kernel), px_tb (by decide +kernel) (by decide +kernel), px_tb (by decide +kernel) (by decide +kernel), px_tb (by decide +kernel) (by decide +kernel), px_tb (by decide +kernel) (by decide +kernel), by decide +kernel, by decide⟩
set_option maxHeartbeats 4000000 in
set_option maxRecDepth 100000 in
theorem lw_c8 {l : Launch} (hst : l.stackTraces = false) {D : va_G} {cs : Nat → ClassId} {ad aR : Nat → Nat} {sa : Nat → Nat} {p : Program} {e : Env} {s : State} {m : MethodId} {args : Array Value} {below : List Frame} {meth : Method} {c : Code} {Q : State → Prop} {A : Nat → Prop} {b L o : Nat} {xs : Nat → Int32} {T : px_M → px_M → Prop} (X : px_X D (tyL cs) p s m args c cL_law RL) (hml : c.maxLocals = 7) (hX : va_X b L xs s s.heap) (hbl : b < s.heap.size) (hbA : ¬ A b) (hA : ∀ q : Nat, s.heap.size ≤ q → A q) (hE : px_Ex sa A s s.heap) (hN : px_NcU s) {M N : px_M} {g : Nat → Int64} {H : Heap} {locs : List Loc} {ls : Array Slot} {x4 : Int32} {cells slots : Nat} (hcR : cells + 1 ≤ room_1.cells) (hsR : slots + 6 ≤ room_1.slots) (h1 : vp_in (x4 + (1 : Int32)) L) (h2 : vp_in (x4 + (2 : Int32)) L) (h3 : vp_in (x4 + (3 : Int32)) L) (h4 : vp_in (x4 + (4 : Int32)) L) (hP : va_P D vwCl (wC cs ad M ++ (wO cs o g ++ wR cs aR N)) H) (hD : va_D A (wC cs ad M ++ (wO cs o g ++ wR cs aR N))) (hS : va_S A s.heap H locs) (hl : lv_has ls 7 [(0, .ref b), (1, .ref (ad 0)), (2, .ref (aR 0)), (3, .ref o), (4, .int x4)]) (hT : pu_all T M N) (kk : ∀ (M' N' : px_M) (g' : Nat → Int64) (H : Heap) (locs : List Loc) (ls : Array Slot), T M' N' → va_P D vwCl (wC cs ad M' ++ (wO cs o g' ++ wR cs aR N')) H → va_D A (wC cs ad M' ++ (wO cs o g' ++ wR cs aR N')) → va_S A s.heap H locs → lv_has ls 7 [(0, .ref b), (1, .ref (ad 0)), (2, .ref (aR 0)), (3, .ref o), (4, .int x4)] → W p l e room_1 s m args below meth c H locs (cells + 1) (slots + 6) Q (F0 m 795 ls [])) : W p l e room_1 s m args below meth c H locs cells slots Q (F0 m 533 ls []) := by
  obtain ⟨z, rr, N1, e1, ez, e2, ha⟩ := hT.2.2.2.2.2.2.2.2.2.1 (xs (x4 + (1 : Int32)).toNatClampNeg)
  refine lv_aload_n X.1 X.2.1 dL_law_533 rfl (lv_at hl 1 rfl) ?_
  refine lv_aload_n X.1 X.2.1 dL_law_534 rfl (lv_at hl 0 rfl) ?_
  refine lv_iload X.1 X.2.1 dL_law_535 (lv_at hl 4 rfl) ?_
  refine lv_iconst (v := (1 : Int32)) X.1 X.2.1 dL_law_537 (by decide) ?_
  refine lv_iadd X.1 X.2.1 dL_law_538 ?_
  refine va_sld X.1 X.2.1 hX hbl hbA hS h1 dL_law_539 ?_
  refine lv_aload_n X.1 X.2.1 dL_law_540 rfl (lv_at hl 3 rfl) ?_
  rw [← List.append_assoc] at hP hD
  refine px_sL (wy := (fun M g => wC cs ad M ++ wO cs o g)) (rw := wR cs aR N) (As := [.ref (ad 0), .int (xs (x4 + (1 : Int32)).toNatClampNeg), .ref o]) (rest := []) X hml hl hP hD hS hA hE hN (cL_wvalue l hst D cs ad sa o (g := g) e1 ez) (px_tb (by decide +kernel) (by decide +kernel)) (px_tb (by decide +kernel) (by decide +kernel)) (px_tb (by decide +kernel) (by decide +kernel)) (px_tb (by decide +kernel) (by decide +kernel)) ⟨by decide +kernel, by decide +kernel⟩ (by decide +kernel : (parseMethodDescriptor yL_value.desc).map (fun d => d.parameters.length) = some 3) (Nat.le_of_ble_eq_true rfl) (Nat.le_of_ble_eq_true rfl) hcR hsR rfl (Nat.le_of_ble_eq_true rfl) dL_law_541 (fun r M1 g1 H locs hres hP hD hS => ?_)
  rcases z with v | E
  · obtain ⟨v, M2⟩ := v
    obtain ⟨hr0, hr1, hr2⟩ := hres
    obtain rfl : r = 0 := hr0
    obtain rfl : M1 = M2 := hr1
    obtain rfl : g1 = vp_updL g 0 v.toInt64 := hr2
    obtain ⟨t0, t1, t2⟩ : N1 0 0 = 0 ∧ v = rr ∧ T M1 N1 := ha
    refine lv_istore (lv' := [(5, .int (0 : Int32)), (0, .ref b), (1, .ref (ad 0)), (2, .ref (aR 0)), (3, .ref o), (4, .int x4)]) X.1 X.2.1 dL_law_544 hl (by decide) rfl (fun ls hl => ?_)
    refine lv_aload_n X.1 X.2.1 dL_law_546 rfl (lv_at hl 3 rfl) ?_
    refine lv_aload_n X.1 X.2.1 dL_law_547 rfl (lv_at hl 1 rfl) ?_
    refine lv_iload X.1 X.2.1 dL_law_548 (lv_at hl 5 rfl) ?_
    refine lv_iconst (v := (1 : Int32)) X.1 X.2.1 dL_law_550 (by decide) ?_
    refine lv_iadd X.1 X.2.1 dL_law_551 ?_
    refine va_sld X.1 X.2.1 hX hbl hbA hS h1 dL_law_552 ?_
    have hP := px_Pp hP List.perm_append_comm
    have hD := px_Dp hD List.perm_append_comm
    refine px_yI (wf := wR cs aR) (rw := wC cs ad M1 ++ wO cs o (vp_updL g 0 v.toInt64)) (tysC := tyR cs) (As := [.int (xs (x4 + (1 : Int32)).toNatClampNeg)]) (rest := []) X hml hl (X.2.2.2.2.sub [0, 1] rfl) hP hD hS hA (cR_M_value l D cs aR e2) lkL_93 (Nat.le_of_ble_eq_true rfl) (Nat.le_of_ble_eq_true rfl) (by omega) (by omega) (va_recv X.2.2.2.2 hP (ci := 6) (q0 := 0) rfl rfl) rfl (Nat.le_of_ble_eq_true rfl) dL_law_553 (fun H locs hP hD hS => ?_)
    refine lv_istore (lv' := [(6, .int rr), (5, .int (0 : Int32)), (0, .ref b), (1, .ref (ad 0)), (2, .ref (aR 0)), (3, .ref o), (4, .int x4)]) X.1 X.2.1 dL_law_556 hl (by decide) rfl (fun ls hl => ?_)
    refine lv_aload_n X.1 X.2.1 dL_law_558 rfl (lv_at hl 4 rfl) ?_
    refine px_yI (wf := wR cs aR) (rw := wC cs ad M1 ++ wO cs o (vp_updL g 0 v.toInt64)) (tysC := tyR cs) (As := []) (rest := []) X hml hl (X.2.2.2.2.sub [0, 1] rfl) hP hD hS hA (cR_M_thrown l D cs aR (show fR_M_thrown N1 = some (N1 0 0) from rfl)) lkL_62 (Nat.le_of_ble_eq_true rfl) (Nat.le_of_ble_eq_true rfl) (by omega) (by omega) (va_recv X.2.2.2.2 hP (ci := 6) (q0 := 0) rfl rfl) rfl (Nat.le_of_ble_eq_true rfl) dL_law_559 (fun H locs hP hD hS => ?_)
    refine lv_iload X.1 X.2.1 dL_law_562 (lv_at hl 1 rfl) ?_
    refine lv_icmp_eq (tgt := 569) X.1 X.2.1 dL_law_564 (by decide) (fun _ => ?_) (fun q => absurd t0 q)
    have hP := px_Pp hP List.perm_append_comm
    have hD := px_Dp hD List.perm_append_comm
    rw [List.append_assoc] at hP hD
    refine lv_iload X.1 X.2.1 dL_law_569 (lv_at hl 1 rfl) ?_
    refine lv_if_ne (tgt := 586) X.1 X.2.1 dL_law_571 (by decide) (fun q => absurd rfl q) (fun _ => ?_)
    refine lv_aload_n X.1 X.2.1 dL_law_574 rfl (lv_at hl 5 rfl) ?_
    refine lv_iconst (v := (0 : Int32)) X.1 X.2.1 dL_law_575 (by decide) ?_
    refine va_lald X.1 X.2.1 X.2.2.2.2 hP 52 3 rfl rfl (by unfold vp_in; decide) dL_law_576 ?_
    refine lv_iload X.1 X.2.1 dL_law_577 (lv_at hl 0 rfl) ?_
    refine lv_i2l X.1 X.2.1 dL_law_579 rfl ?_
    refine W.lcmp X.1 X.2.1 dL_law_580 ?_
    refine lv_if_eq (tgt := 586) X.1 X.2.1 dL_law_581 (by decide) (fun _ => ?_) (fun q => absurd (by rw [← t1]; exact px_lc _) q)
    refine lv_goto (tgt := 795) X.1 X.2.1 dL_law_586 (by decide) ?_
    exact kk _ _ _ _ _ _ t2 hP hD hS (lv_sub hl [2, 3, 4, 5, 6] rfl)
  · obtain ⟨hr0, hr1⟩ := hres
    rw [show M1 = M from congrArg Prod.fst hr1, show g1 = g from congrArg Prod.snd hr1] at hP hD
    obtain ⟨t0, t1, t2⟩ := ha
    have t0 : N1 0 0 = r := t0.trans hr0.symm
    have t1 : ¬ r = 0 := by rw [show r = _ from hr0]; exact t1
    refine lv_istore (lv' := [(5, .int r), (0, .ref b), (1, .ref (ad 0)), (2, .ref (aR 0)), (3, .ref o), (4, .int x4)]) X.1 X.2.1 dL_law_544 hl (by decide) rfl (fun ls hl => ?_)
    refine lv_aload_n X.1 X.2.1 dL_law_546 rfl (lv_at hl 3 rfl) ?_
    refine lv_aload_n X.1 X.2.1 dL_law_547 rfl (lv_at hl 1 rfl) ?_
    refine lv_iload X.1 X.2.1 dL_law_548 (lv_at hl 5 rfl) ?_
    refine lv_iconst (v := (1 : Int32)) X.1 X.2.1 dL_law_550 (by decide) ?_
    refine lv_iadd X.1 X.2.1 dL_law_551 ?_
    refine va_sld X.1 X.2.1 hX hbl hbA hS h1 dL_law_552 ?_
    have hP := px_Pp hP List.perm_append_comm
    have hD := px_Dp hD List.perm_append_comm
    refine px_yI (wf := wR cs aR) (rw := wC cs ad M ++ wO cs o g) (tysC := tyR cs) (As := [.int (xs (x4 + (1 : Int32)).toNatClampNeg)]) (rest := []) X hml hl (X.2.2.2.2.sub [0, 1] rfl) hP hD hS hA (cR_M_value l D cs aR e2) lkL_93 (Nat.le_of_ble_eq_true rfl) (Nat.le_of_ble_eq_true rfl) (by omega) (by omega) (va_recv X.2.2.2.2 hP (ci := 6) (q0 := 0) rfl rfl) rfl (Nat.le_of_ble_eq_true rfl) dL_law_553 (fun H locs hP hD hS => ?_)
    refine lv_istore (lv' := [(6, .int rr), (5, .int r), (0, .ref b), (1, .ref (ad 0)), (2, .ref (aR 0)), (3, .ref o), (4, .int x4)]) X.1 X.2.1 dL_law_556 hl (by decide) rfl (fun ls hl => ?_)
    refine lv_aload_n X.1 X.2.1 dL_law_558 rfl (lv_at hl 4 rfl) ?_
    refine px_yI (wf := wR cs aR) (rw := wC cs ad M ++ wO cs o g) (tysC := tyR cs) (As := []) (rest := []) X hml hl (X.2.2.2.2.sub [0, 1] rfl) hP hD hS hA (cR_M_thrown l D cs aR (show fR_M_thrown N1 = some (N1 0 0) from rfl)) lkL_62 (Nat.le_of_ble_eq_true rfl) (Nat.le_of_ble_eq_true rfl) (by omega) (by omega) (va_recv X.2.2.2.2 hP (ci := 6) (q0 := 0) rfl rfl) rfl (Nat.le_of_ble_eq_true rfl) dL_law_559 (fun H locs hP hD hS => ?_)
    refine lv_iload X.1 X.2.1 dL_law_562 (lv_at hl 1 rfl) ?_
    refine lv_icmp_eq (tgt := 569) X.1 X.2.1 dL_law_564 (by decide) (fun _ => ?_) (fun q => absurd t0 q)
    have hP := px_Pp hP List.perm_append_comm
    have hD := px_Dp hD List.perm_append_comm
    rw [List.append_assoc] at hP hD
    refine lv_iload X.1 X.2.1 dL_law_569 (lv_at hl 1 rfl) ?_
    refine lv_if_ne (tgt := 586) X.1 X.2.1 dL_law_571 (by decide) (fun _ => ?_) (fun q => absurd q t1)
    refine lv_goto (tgt := 795) X.1 X.2.1 dL_law_586 (by decide) ?_
    exact kk _ _ _ _ _ _ t2 hP hD hS (lv_sub hl [2, 3, 4, 5, 6] rfl)
theorem lkL_96 : px_Lk RL 96 yX6_count cX6_count 2 (some .int) 1 := ⟨px_tb (by decide +kernel) (by decide +kernel), px_tb (by decide +kernel) (by decide +kernel), px_tb (by decide +kernel) (by decide +kernel), px_tb (by decide +kernel) (by decide +kernel), px_tb (by decide +kernel) (by decide +kernel), by decide +kernel, by decide⟩
set_option maxHeartbeats 4000000 in
set_option maxRecDepth 100000 in
theorem lw_c9 {l : Launch} (hst : l.stackTraces = false) {D : va_G} {cs : Nat → ClassId} {ad aR : Nat → Nat} {sa : Nat → Nat} {p : Program} {e : Env} {s : State} {m : MethodId} {args : Array Value} {below : List Frame} {meth : Method} {c : Code} {Q : State → Prop} {A : Nat → Prop} {b L o : Nat} {xs : Nat → Int32} {T : px_M → px_M → Prop} (X : px_X D (tyL cs) p s m args c cL_law RL) (hml : c.maxLocals = 7) (hX : va_X b L xs s s.heap) (hbl : b < s.heap.size) (hbA : ¬ A b) (hA : ∀ q : Nat, s.heap.size ≤ q → A q) (hE : px_Ex sa A s s.heap) (hN : px_NcU s) {M N : px_M} {g : Nat → Int64} {H : Heap} {locs : List Loc} {ls : Array Slot} {x4 : Int32} {cells slots : Nat} (hcR : cells + 1 ≤ room_1.cells) (hsR : slots + 6 ≤ room_1.slots) (h1 : vp_in (x4 + (1 : Int32)) L) (h2 : vp_in (x4 + (2 : Int32)) L) (h3 : vp_in (x4 + (3 : Int32)) L) (h4 : vp_in (x4 + (4 : Int32)) L) (hP : va_P D vwCl (wC cs ad M ++ (wO cs o g ++ wR cs aR N)) H) (hD : va_D A (wC cs ad M ++ (wO cs o g ++ wR cs aR N))) (hS : va_S A s.heap H locs) (hl : lv_has ls 7 [(0, .ref b), (1, .ref (ad 0)), (2, .ref (aR 0)), (3, .ref o), (4, .int x4)]) (hT : pu_all T M N) (kk : ∀ (M' N' : px_M) (g' : Nat → Int64) (H : Heap) (locs : List Loc) (ls : Array Slot), T M' N' → va_P D vwCl (wC cs ad M' ++ (wO cs o g' ++ wR cs aR N')) H → va_D A (wC cs ad M' ++ (wO cs o g' ++ wR cs aR N')) → va_S A s.heap H locs → lv_has ls 7 [(0, .ref b), (1, .ref (ad 0)), (2, .ref (aR 0)), (3, .ref o), (4, .int x4)] → W p l e room_1 s m args below meth c H locs (cells + 1) (slots + 6) Q (F0 m 795 ls [])) : W p l e room_1 s m args below meth c H locs cells slots Q (F0 m 589 ls []) := by
  obtain ⟨z, rr, N1, e1, ez, e2, ha⟩ := hT.2.2.2.2.2.2.2.2.2.2.1 (xs (x4 + (1 : Int32)).toNatClampNeg)
  refine lv_aload_n X.1 X.2.1 dL_law_589 rfl (lv_at hl 1 rfl) ?_
  refine lv_aload_n X.1 X.2.1 dL_law_590 rfl (lv_at hl 0 rfl) ?_
  refine lv_iload X.1 X.2.1 dL_law_591 (lv_at hl 4 rfl) ?_
  refine lv_iconst (v := (1 : Int32)) X.1 X.2.1 dL_law_593 (by decide) ?_
  refine lv_iadd X.1 X.2.1 dL_law_594 ?_
  refine va_sld X.1 X.2.1 hX hbl hbA hS h1 dL_law_595 ?_
  refine lv_aload_n X.1 X.2.1 dL_law_596 rfl (lv_at hl 3 rfl) ?_
  rw [← List.append_assoc] at hP hD
  refine px_sL (wy := (fun M g => wC cs ad M ++ wO cs o g)) (rw := wR cs aR N) (As := [.ref (ad 0), .int (xs (x4 + (1 : Int32)).toNatClampNeg), .ref o]) (rest := []) X hml hl hP hD hS hA hE hN (cL_wcount l hst D cs ad sa o (g := g) e1 ez) (px_tb (by decide +kernel) (by decide +kernel)) (px_tb (by decide +kernel) (by decide +kernel)) (px_tb (by decide +kernel) (by decide +kernel)) (px_tb (by decide +kernel) (by decide +kernel)) ⟨by decide +kernel, by decide +kernel⟩ (by decide +kernel : (parseMethodDescriptor yL_count.desc).map (fun d => d.parameters.length) = some 3) (Nat.le_of_ble_eq_true rfl) (Nat.le_of_ble_eq_true rfl) hcR hsR rfl (Nat.le_of_ble_eq_true rfl) dL_law_597 (fun r M1 g1 H locs hres hP hD hS => ?_)
  rcases z with v | E
  · obtain ⟨v, M2⟩ := v
    obtain ⟨hr0, hr1, hr2⟩ := hres
    obtain rfl : r = 0 := hr0
    obtain rfl : M1 = M2 := hr1
    obtain rfl : g1 = vp_updL g 0 v.toInt64 := hr2
    obtain ⟨t0, t1, t2⟩ : N1 0 0 = 0 ∧ v = rr ∧ T M1 N1 := ha
    refine lv_istore (lv' := [(5, .int (0 : Int32)), (0, .ref b), (1, .ref (ad 0)), (2, .ref (aR 0)), (3, .ref o), (4, .int x4)]) X.1 X.2.1 dL_law_600 hl (by decide) rfl (fun ls hl => ?_)
    refine lv_aload_n X.1 X.2.1 dL_law_602 rfl (lv_at hl 3 rfl) ?_
    refine lv_aload_n X.1 X.2.1 dL_law_603 rfl (lv_at hl 1 rfl) ?_
    refine lv_iload X.1 X.2.1 dL_law_604 (lv_at hl 5 rfl) ?_
    refine lv_iconst (v := (1 : Int32)) X.1 X.2.1 dL_law_606 (by decide) ?_
    refine lv_iadd X.1 X.2.1 dL_law_607 ?_
    refine va_sld X.1 X.2.1 hX hbl hbA hS h1 dL_law_608 ?_
    have hP := px_Pp hP List.perm_append_comm
    have hD := px_Dp hD List.perm_append_comm
    refine px_yI (wf := wR cs aR) (rw := wC cs ad M1 ++ wO cs o (vp_updL g 0 v.toInt64)) (tysC := tyR cs) (As := [.int (xs (x4 + (1 : Int32)).toNatClampNeg)]) (rest := []) X hml hl (X.2.2.2.2.sub [0, 1] rfl) hP hD hS hA (cR_M_count l D cs aR e2) lkL_96 (Nat.le_of_ble_eq_true rfl) (Nat.le_of_ble_eq_true rfl) (by omega) (by omega) (va_recv X.2.2.2.2 hP (ci := 6) (q0 := 0) rfl rfl) rfl (Nat.le_of_ble_eq_true rfl) dL_law_609 (fun H locs hP hD hS => ?_)
    refine lv_istore (lv' := [(6, .int rr), (5, .int (0 : Int32)), (0, .ref b), (1, .ref (ad 0)), (2, .ref (aR 0)), (3, .ref o), (4, .int x4)]) X.1 X.2.1 dL_law_612 hl (by decide) rfl (fun ls hl => ?_)
    refine lv_aload_n X.1 X.2.1 dL_law_614 rfl (lv_at hl 4 rfl) ?_
    refine px_yI (wf := wR cs aR) (rw := wC cs ad M1 ++ wO cs o (vp_updL g 0 v.toInt64)) (tysC := tyR cs) (As := []) (rest := []) X hml hl (X.2.2.2.2.sub [0, 1] rfl) hP hD hS hA (cR_M_thrown l D cs aR (show fR_M_thrown N1 = some (N1 0 0) from rfl)) lkL_62 (Nat.le_of_ble_eq_true rfl) (Nat.le_of_ble_eq_true rfl) (by omega) (by omega) (va_recv X.2.2.2.2 hP (ci := 6) (q0 := 0) rfl rfl) rfl (Nat.le_of_ble_eq_true rfl) dL_law_615 (fun H locs hP hD hS => ?_)
    refine lv_iload X.1 X.2.1 dL_law_618 (lv_at hl 1 rfl) ?_
    refine lv_icmp_eq (tgt := 625) X.1 X.2.1 dL_law_620 (by decide) (fun _ => ?_) (fun q => absurd t0 q)
    have hP := px_Pp hP List.perm_append_comm
    have hD := px_Dp hD List.perm_append_comm
    rw [List.append_assoc] at hP hD
    refine lv_iload X.1 X.2.1 dL_law_625 (lv_at hl 1 rfl) ?_
    refine lv_if_ne (tgt := 642) X.1 X.2.1 dL_law_627 (by decide) (fun q => absurd rfl q) (fun _ => ?_)
    refine lv_aload_n X.1 X.2.1 dL_law_630 rfl (lv_at hl 5 rfl) ?_
    refine lv_iconst (v := (0 : Int32)) X.1 X.2.1 dL_law_631 (by decide) ?_
    refine va_lald X.1 X.2.1 X.2.2.2.2 hP 52 3 rfl rfl (by unfold vp_in; decide) dL_law_632 ?_
    refine lv_iload X.1 X.2.1 dL_law_633 (lv_at hl 0 rfl) ?_
    refine lv_i2l X.1 X.2.1 dL_law_635 rfl ?_
    refine W.lcmp X.1 X.2.1 dL_law_636 ?_
    refine lv_if_eq (tgt := 642) X.1 X.2.1 dL_law_637 (by decide) (fun _ => ?_) (fun q => absurd (by rw [← t1]; exact px_lc _) q)
    refine lv_goto (tgt := 795) X.1 X.2.1 dL_law_642 (by decide) ?_
    exact kk _ _ _ _ _ _ t2 hP hD hS (lv_sub hl [2, 3, 4, 5, 6] rfl)
  · obtain ⟨hr0, hr1⟩ := hres
    rw [show M1 = M from congrArg Prod.fst hr1, show g1 = g from congrArg Prod.snd hr1] at hP hD
    obtain ⟨t0, t1, t2⟩ := ha
    have t0 : N1 0 0 = r := t0.trans hr0.symm
    have t1 : ¬ r = 0 := by rw [show r = _ from hr0]; exact t1
    refine lv_istore (lv' := [(5, .int r), (0, .ref b), (1, .ref (ad 0)), (2, .ref (aR 0)), (3, .ref o), (4, .int x4)]) X.1 X.2.1 dL_law_600 hl (by decide) rfl (fun ls hl => ?_)
    refine lv_aload_n X.1 X.2.1 dL_law_602 rfl (lv_at hl 3 rfl) ?_
    refine lv_aload_n X.1 X.2.1 dL_law_603 rfl (lv_at hl 1 rfl) ?_
    refine lv_iload X.1 X.2.1 dL_law_604 (lv_at hl 5 rfl) ?_
    refine lv_iconst (v := (1 : Int32)) X.1 X.2.1 dL_law_606 (by decide) ?_
    refine lv_iadd X.1 X.2.1 dL_law_607 ?_
    refine va_sld X.1 X.2.1 hX hbl hbA hS h1 dL_law_608 ?_
    have hP := px_Pp hP List.perm_append_comm
    have hD := px_Dp hD List.perm_append_comm
    refine px_yI (wf := wR cs aR) (rw := wC cs ad M ++ wO cs o g) (tysC := tyR cs) (As := [.int (xs (x4 + (1 : Int32)).toNatClampNeg)]) (rest := []) X hml hl (X.2.2.2.2.sub [0, 1] rfl) hP hD hS hA (cR_M_count l D cs aR e2) lkL_96 (Nat.le_of_ble_eq_true rfl) (Nat.le_of_ble_eq_true rfl) (by omega) (by omega) (va_recv X.2.2.2.2 hP (ci := 6) (q0 := 0) rfl rfl) rfl (Nat.le_of_ble_eq_true rfl) dL_law_609 (fun H locs hP hD hS => ?_)
    refine lv_istore (lv' := [(6, .int rr), (5, .int r), (0, .ref b), (1, .ref (ad 0)), (2, .ref (aR 0)), (3, .ref o), (4, .int x4)]) X.1 X.2.1 dL_law_612 hl (by decide) rfl (fun ls hl => ?_)
    refine lv_aload_n X.1 X.2.1 dL_law_614 rfl (lv_at hl 4 rfl) ?_
    refine px_yI (wf := wR cs aR) (rw := wC cs ad M ++ wO cs o g) (tysC := tyR cs) (As := []) (rest := []) X hml hl (X.2.2.2.2.sub [0, 1] rfl) hP hD hS hA (cR_M_thrown l D cs aR (show fR_M_thrown N1 = some (N1 0 0) from rfl)) lkL_62 (Nat.le_of_ble_eq_true rfl) (Nat.le_of_ble_eq_true rfl) (by omega) (by omega) (va_recv X.2.2.2.2 hP (ci := 6) (q0 := 0) rfl rfl) rfl (Nat.le_of_ble_eq_true rfl) dL_law_615 (fun H locs hP hD hS => ?_)
    refine lv_iload X.1 X.2.1 dL_law_618 (lv_at hl 1 rfl) ?_
    refine lv_icmp_eq (tgt := 625) X.1 X.2.1 dL_law_620 (by decide) (fun _ => ?_) (fun q => absurd t0 q)
    have hP := px_Pp hP List.perm_append_comm
    have hD := px_Dp hD List.perm_append_comm
    rw [List.append_assoc] at hP hD
    refine lv_iload X.1 X.2.1 dL_law_625 (lv_at hl 1 rfl) ?_
    refine lv_if_ne (tgt := 642) X.1 X.2.1 dL_law_627 (by decide) (fun _ => ?_) (fun q => absurd q t1)
    refine lv_goto (tgt := 795) X.1 X.2.1 dL_law_642 (by decide) ?_
    exact kk _ _ _ _ _ _ t2 hP hD hS (lv_sub hl [2, 3, 4, 5, 6] rfl)
theorem lkL_99 : px_Lk RL 99 yX6_logged cX6_logged 2 (some .int) 1 := ⟨px_tb (by decide +kernel) (by decide +kernel), px_tb (by decide +kernel) (by decide +kernel), px_tb (by decide +kernel) (by decide +kernel), px_tb (by decide +kernel) (by decide +kernel), px_tb (by decide +kernel) (by decide +kernel), by decide +kernel, by decide⟩
set_option maxHeartbeats 4000000 in
set_option maxRecDepth 100000 in
theorem lw_c10 {l : Launch} (hst : l.stackTraces = false) {D : va_G} {cs : Nat → ClassId} {ad aR : Nat → Nat} {sa : Nat → Nat} {p : Program} {e : Env} {s : State} {m : MethodId} {args : Array Value} {below : List Frame} {meth : Method} {c : Code} {Q : State → Prop} {A : Nat → Prop} {b L o : Nat} {xs : Nat → Int32} {T : px_M → px_M → Prop} (X : px_X D (tyL cs) p s m args c cL_law RL) (hml : c.maxLocals = 7) (hX : va_X b L xs s s.heap) (hbl : b < s.heap.size) (hbA : ¬ A b) (hA : ∀ q : Nat, s.heap.size ≤ q → A q) (hE : px_Ex sa A s s.heap) (hN : px_NcU s) {M N : px_M} {g : Nat → Int64} {H : Heap} {locs : List Loc} {ls : Array Slot} {x4 : Int32} {cells slots : Nat} (hcR : cells + 1 ≤ room_1.cells) (hsR : slots + 6 ≤ room_1.slots) (h1 : vp_in (x4 + (1 : Int32)) L) (h2 : vp_in (x4 + (2 : Int32)) L) (h3 : vp_in (x4 + (3 : Int32)) L) (h4 : vp_in (x4 + (4 : Int32)) L) (hP : va_P D vwCl (wC cs ad M ++ (wO cs o g ++ wR cs aR N)) H) (hD : va_D A (wC cs ad M ++ (wO cs o g ++ wR cs aR N))) (hS : va_S A s.heap H locs) (hl : lv_has ls 7 [(0, .ref b), (1, .ref (ad 0)), (2, .ref (aR 0)), (3, .ref o), (4, .int x4)]) (hT : pu_all T M N) (kk : ∀ (M' N' : px_M) (g' : Nat → Int64) (H : Heap) (locs : List Loc) (ls : Array Slot), T M' N' → va_P D vwCl (wC cs ad M' ++ (wO cs o g' ++ wR cs aR N')) H → va_D A (wC cs ad M' ++ (wO cs o g' ++ wR cs aR N')) → va_S A s.heap H locs → lv_has ls 7 [(0, .ref b), (1, .ref (ad 0)), (2, .ref (aR 0)), (3, .ref o), (4, .int x4)] → W p l e room_1 s m args below meth c H locs (cells + 1) (slots + 6) Q (F0 m 795 ls [])) : W p l e room_1 s m args below meth c H locs cells slots Q (F0 m 645 ls []) := by
  obtain ⟨z, rr, N1, e1, ez, e2, ha⟩ := hT.2.2.2.2.2.2.2.2.2.2.2.1 (xs (x4 + (1 : Int32)).toNatClampNeg)
  refine lv_aload_n X.1 X.2.1 dL_law_645 rfl (lv_at hl 1 rfl) ?_
  refine lv_aload_n X.1 X.2.1 dL_law_646 rfl (lv_at hl 0 rfl) ?_
  refine lv_iload X.1 X.2.1 dL_law_647 (lv_at hl 4 rfl) ?_
  refine lv_iconst (v := (1 : Int32)) X.1 X.2.1 dL_law_649 (by decide) ?_
  refine lv_iadd X.1 X.2.1 dL_law_650 ?_
  refine va_sld X.1 X.2.1 hX hbl hbA hS h1 dL_law_651 ?_
  refine lv_aload_n X.1 X.2.1 dL_law_652 rfl (lv_at hl 3 rfl) ?_
  rw [← List.append_assoc] at hP hD
  refine px_sL (wy := (fun M g => wC cs ad M ++ wO cs o g)) (rw := wR cs aR N) (As := [.ref (ad 0), .int (xs (x4 + (1 : Int32)).toNatClampNeg), .ref o]) (rest := []) X hml hl hP hD hS hA hE hN (cL_wlogged l hst D cs ad sa o (g := g) e1 ez) (px_tb (by decide +kernel) (by decide +kernel)) (px_tb (by decide +kernel) (by decide +kernel)) (px_tb (by decide +kernel) (by decide +kernel)) (px_tb (by decide +kernel) (by decide +kernel)) ⟨by decide +kernel, by decide +kernel⟩ (by decide +kernel : (parseMethodDescriptor yL_logged.desc).map (fun d => d.parameters.length) = some 3) (Nat.le_of_ble_eq_true rfl) (Nat.le_of_ble_eq_true rfl) hcR hsR rfl (Nat.le_of_ble_eq_true rfl) dL_law_653 (fun r M1 g1 H locs hres hP hD hS => ?_)
  rcases z with v | E
  · obtain ⟨v, M2⟩ := v
    obtain ⟨hr0, hr1, hr2⟩ := hres
    obtain rfl : r = 0 := hr0
    obtain rfl : M1 = M2 := hr1
    obtain rfl : g1 = vp_updL g 0 v.toInt64 := hr2
    obtain ⟨t0, t1, t2⟩ : N1 0 0 = 0 ∧ v = rr ∧ T M1 N1 := ha
    refine lv_istore (lv' := [(5, .int (0 : Int32)), (0, .ref b), (1, .ref (ad 0)), (2, .ref (aR 0)), (3, .ref o), (4, .int x4)]) X.1 X.2.1 dL_law_656 hl (by decide) rfl (fun ls hl => ?_)
    refine lv_aload_n X.1 X.2.1 dL_law_658 rfl (lv_at hl 3 rfl) ?_
    refine lv_aload_n X.1 X.2.1 dL_law_659 rfl (lv_at hl 1 rfl) ?_
    refine lv_iload X.1 X.2.1 dL_law_660 (lv_at hl 5 rfl) ?_
    refine lv_iconst (v := (1 : Int32)) X.1 X.2.1 dL_law_662 (by decide) ?_
    refine lv_iadd X.1 X.2.1 dL_law_663 ?_
    refine va_sld X.1 X.2.1 hX hbl hbA hS h1 dL_law_664 ?_
    have hP := px_Pp hP List.perm_append_comm
    have hD := px_Dp hD List.perm_append_comm
    refine px_yI (wf := wR cs aR) (rw := wC cs ad M1 ++ wO cs o (vp_updL g 0 v.toInt64)) (tysC := tyR cs) (As := [.int (xs (x4 + (1 : Int32)).toNatClampNeg)]) (rest := []) X hml hl (X.2.2.2.2.sub [0, 1] rfl) hP hD hS hA (cR_M_logged l D cs aR e2) lkL_99 (Nat.le_of_ble_eq_true rfl) (Nat.le_of_ble_eq_true rfl) (by omega) (by omega) (va_recv X.2.2.2.2 hP (ci := 6) (q0 := 0) rfl rfl) rfl (Nat.le_of_ble_eq_true rfl) dL_law_665 (fun H locs hP hD hS => ?_)
    refine lv_istore (lv' := [(6, .int rr), (5, .int (0 : Int32)), (0, .ref b), (1, .ref (ad 0)), (2, .ref (aR 0)), (3, .ref o), (4, .int x4)]) X.1 X.2.1 dL_law_668 hl (by decide) rfl (fun ls hl => ?_)
    refine lv_aload_n X.1 X.2.1 dL_law_670 rfl (lv_at hl 4 rfl) ?_
    refine px_yI (wf := wR cs aR) (rw := wC cs ad M1 ++ wO cs o (vp_updL g 0 v.toInt64)) (tysC := tyR cs) (As := []) (rest := []) X hml hl (X.2.2.2.2.sub [0, 1] rfl) hP hD hS hA (cR_M_thrown l D cs aR (show fR_M_thrown N1 = some (N1 0 0) from rfl)) lkL_62 (Nat.le_of_ble_eq_true rfl) (Nat.le_of_ble_eq_true rfl) (by omega) (by omega) (va_recv X.2.2.2.2 hP (ci := 6) (q0 := 0) rfl rfl) rfl (Nat.le_of_ble_eq_true rfl) dL_law_671 (fun H locs hP hD hS => ?_)
    refine lv_iload X.1 X.2.1 dL_law_674 (lv_at hl 1 rfl) ?_
    refine lv_icmp_eq (tgt := 681) X.1 X.2.1 dL_law_676 (by decide) (fun _ => ?_) (fun q => absurd t0 q)
    have hP := px_Pp hP List.perm_append_comm
    have hD := px_Dp hD List.perm_append_comm
    rw [List.append_assoc] at hP hD
    refine lv_iload X.1 X.2.1 dL_law_681 (lv_at hl 1 rfl) ?_
    refine lv_if_ne (tgt := 698) X.1 X.2.1 dL_law_683 (by decide) (fun q => absurd rfl q) (fun _ => ?_)
    refine lv_aload_n X.1 X.2.1 dL_law_686 rfl (lv_at hl 5 rfl) ?_
    refine lv_iconst (v := (0 : Int32)) X.1 X.2.1 dL_law_687 (by decide) ?_
    refine va_lald X.1 X.2.1 X.2.2.2.2 hP 52 3 rfl rfl (by unfold vp_in; decide) dL_law_688 ?_
    refine lv_iload X.1 X.2.1 dL_law_689 (lv_at hl 0 rfl) ?_
    refine lv_i2l X.1 X.2.1 dL_law_691 rfl ?_
    refine W.lcmp X.1 X.2.1 dL_law_692 ?_
    refine lv_if_eq (tgt := 698) X.1 X.2.1 dL_law_693 (by decide) (fun _ => ?_) (fun q => absurd (by rw [← t1]; exact px_lc _) q)
    refine lv_goto (tgt := 795) X.1 X.2.1 dL_law_698 (by decide) ?_
    exact kk _ _ _ _ _ _ t2 hP hD hS (lv_sub hl [2, 3, 4, 5, 6] rfl)
  · obtain ⟨hr0, hr1⟩ := hres
    rw [show M1 = M from congrArg Prod.fst hr1, show g1 = g from congrArg Prod.snd hr1] at hP hD
    obtain ⟨t0, t1, t2⟩ := ha
    have t0 : N1 0 0 = r := t0.trans hr0.symm
    have t1 : ¬ r = 0 := by rw [show r = _ from hr0]; exact t1
    refine lv_istore (lv' := [(5, .int r), (0, .ref b), (1, .ref (ad 0)), (2, .ref (aR 0)), (3, .ref o), (4, .int x4)]) X.1 X.2.1 dL_law_656 hl (by decide) rfl (fun ls hl => ?_)
    refine lv_aload_n X.1 X.2.1 dL_law_658 rfl (lv_at hl 3 rfl) ?_
    refine lv_aload_n X.1 X.2.1 dL_law_659 rfl (lv_at hl 1 rfl) ?_
    refine lv_iload X.1 X.2.1 dL_law_660 (lv_at hl 5 rfl) ?_
    refine lv_iconst (v := (1 : Int32)) X.1 X.2.1 dL_law_662 (by decide) ?_
    refine lv_iadd X.1 X.2.1 dL_law_663 ?_
    refine va_sld X.1 X.2.1 hX hbl hbA hS h1 dL_law_664 ?_
    have hP := px_Pp hP List.perm_append_comm
    have hD := px_Dp hD List.perm_append_comm
    refine px_yI (wf := wR cs aR) (rw := wC cs ad M ++ wO cs o g) (tysC := tyR cs) (As := [.int (xs (x4 + (1 : Int32)).toNatClampNeg)]) (rest := []) X hml hl (X.2.2.2.2.sub [0, 1] rfl) hP hD hS hA (cR_M_logged l D cs aR e2) lkL_99 (Nat.le_of_ble_eq_true rfl) (Nat.le_of_ble_eq_true rfl) (by omega) (by omega) (va_recv X.2.2.2.2 hP (ci := 6) (q0 := 0) rfl rfl) rfl (Nat.le_of_ble_eq_true rfl) dL_law_665 (fun H locs hP hD hS => ?_)
    refine lv_istore (lv' := [(6, .int rr), (5, .int r), (0, .ref b), (1, .ref (ad 0)), (2, .ref (aR 0)), (3, .ref o), (4, .int x4)]) X.1 X.2.1 dL_law_668 hl (by decide) rfl (fun ls hl => ?_)
    refine lv_aload_n X.1 X.2.1 dL_law_670 rfl (lv_at hl 4 rfl) ?_
    refine px_yI (wf := wR cs aR) (rw := wC cs ad M ++ wO cs o g) (tysC := tyR cs) (As := []) (rest := []) X hml hl (X.2.2.2.2.sub [0, 1] rfl) hP hD hS hA (cR_M_thrown l D cs aR (show fR_M_thrown N1 = some (N1 0 0) from rfl)) lkL_62 (Nat.le_of_ble_eq_true rfl) (Nat.le_of_ble_eq_true rfl) (by omega) (by omega) (va_recv X.2.2.2.2 hP (ci := 6) (q0 := 0) rfl rfl) rfl (Nat.le_of_ble_eq_true rfl) dL_law_671 (fun H locs hP hD hS => ?_)
    refine lv_iload X.1 X.2.1 dL_law_674 (lv_at hl 1 rfl) ?_
    refine lv_icmp_eq (tgt := 681) X.1 X.2.1 dL_law_676 (by decide) (fun _ => ?_) (fun q => absurd t0 q)
    have hP := px_Pp hP List.perm_append_comm
    have hD := px_Dp hD List.perm_append_comm
    rw [List.append_assoc] at hP hD
    refine lv_iload X.1 X.2.1 dL_law_681 (lv_at hl 1 rfl) ?_
    refine lv_if_ne (tgt := 698) X.1 X.2.1 dL_law_683 (by decide) (fun _ => ?_) (fun q => absurd q t1)
    refine lv_goto (tgt := 795) X.1 X.2.1 dL_law_698 (by decide) ?_
    exact kk _ _ _ _ _ _ t2 hP hD hS (lv_sub hl [2, 3, 4, 5, 6] rfl)
theorem lkL_102 : px_Lk RL 102 yX6_reported cX6_reported 2 (some .int) 1 := ⟨px_tb (by decide +kernel) (by decide +kernel), px_tb (by decide +kernel) (by decide +kernel), px_tb (by decide +kernel) (by decide +kernel), px_tb (by decide +kernel) (by decide +kernel), px_tb (by decide +kernel) (by decide +kernel), by decide +kernel, by decide⟩
set_option maxHeartbeats 4000000 in
set_option maxRecDepth 100000 in
theorem lw_c11 {l : Launch} (hst : l.stackTraces = false) {D : va_G} {cs : Nat → ClassId} {ad aR : Nat → Nat} {sa : Nat → Nat} {p : Program} {e : Env} {s : State} {m : MethodId} {args : Array Value} {below : List Frame} {meth : Method} {c : Code} {Q : State → Prop} {A : Nat → Prop} {b L o : Nat} {xs : Nat → Int32} {T : px_M → px_M → Prop} (X : px_X D (tyL cs) p s m args c cL_law RL) (hml : c.maxLocals = 7) (hX : va_X b L xs s s.heap) (hbl : b < s.heap.size) (hbA : ¬ A b) (hA : ∀ q : Nat, s.heap.size ≤ q → A q) (hE : px_Ex sa A s s.heap) (hN : px_NcU s) {M N : px_M} {g : Nat → Int64} {H : Heap} {locs : List Loc} {ls : Array Slot} {x4 : Int32} {cells slots : Nat} (hcR : cells + 1 ≤ room_1.cells) (hsR : slots + 6 ≤ room_1.slots) (h1 : vp_in (x4 + (1 : Int32)) L) (h2 : vp_in (x4 + (2 : Int32)) L) (h3 : vp_in (x4 + (3 : Int32)) L) (h4 : vp_in (x4 + (4 : Int32)) L) (hP : va_P D vwCl (wC cs ad M ++ (wO cs o g ++ wR cs aR N)) H) (hD : va_D A (wC cs ad M ++ (wO cs o g ++ wR cs aR N))) (hS : va_S A s.heap H locs) (hl : lv_has ls 7 [(0, .ref b), (1, .ref (ad 0)), (2, .ref (aR 0)), (3, .ref o), (4, .int x4)]) (hT : pu_all T M N) (kk : ∀ (M' N' : px_M) (g' : Nat → Int64) (H : Heap) (locs : List Loc) (ls : Array Slot), T M' N' → va_P D vwCl (wC cs ad M' ++ (wO cs o g' ++ wR cs aR N')) H → va_D A (wC cs ad M' ++ (wO cs o g' ++ wR cs aR N')) → va_S A s.heap H locs → lv_has ls 7 [(0, .ref b), (1, .ref (ad 0)), (2, .ref (aR 0)), (3, .ref o), (4, .int x4)] → W p l e room_1 s m args below meth c H locs (cells + 1) (slots + 6) Q (F0 m 795 ls [])) : W p l e room_1 s m args below meth c H locs cells slots Q (F0 m 701 ls []) := by
  obtain ⟨z, rr, N1, e1, ez, e2, ha⟩ := hT.2.2.2.2.2.2.2.2.2.2.2.2.1 (xs (x4 + (1 : Int32)).toNatClampNeg)
  refine lv_aload_n X.1 X.2.1 dL_law_701 rfl (lv_at hl 1 rfl) ?_
  refine lv_aload_n X.1 X.2.1 dL_law_702 rfl (lv_at hl 0 rfl) ?_
  refine lv_iload X.1 X.2.1 dL_law_703 (lv_at hl 4 rfl) ?_
  refine lv_iconst (v := (1 : Int32)) X.1 X.2.1 dL_law_705 (by decide) ?_
  refine lv_iadd X.1 X.2.1 dL_law_706 ?_
  refine va_sld X.1 X.2.1 hX hbl hbA hS h1 dL_law_707 ?_
  refine lv_aload_n X.1 X.2.1 dL_law_708 rfl (lv_at hl 3 rfl) ?_
  rw [← List.append_assoc] at hP hD
  refine px_sL (wy := (fun M g => wC cs ad M ++ wO cs o g)) (rw := wR cs aR N) (As := [.ref (ad 0), .int (xs (x4 + (1 : Int32)).toNatClampNeg), .ref o]) (rest := []) X hml hl hP hD hS hA hE hN (cL_wreported l hst D cs ad sa o (g := g) e1 ez) (px_tb (by decide +kernel) (by decide +kernel)) (px_tb (by decide +kernel) (by decide +kernel)) (px_tb (by decide +kernel) (by decide +kernel)) (px_tb (by decide +kernel) (by decide +kernel)) ⟨by decide +kernel, by decide +kernel⟩ (by decide +kernel : (parseMethodDescriptor yL_reported.desc).map (fun d => d.parameters.length) = some 3) (Nat.le_of_ble_eq_true rfl) (Nat.le_of_ble_eq_true rfl) hcR hsR rfl (Nat.le_of_ble_eq_true rfl) dL_law_709 (fun r M1 g1 H locs hres hP hD hS => ?_)
  rcases z with v | E
  · obtain ⟨v, M2⟩ := v
    obtain ⟨hr0, hr1, hr2⟩ := hres
    obtain rfl : r = 0 := hr0
    obtain rfl : M1 = M2 := hr1
    obtain rfl : g1 = vp_updL g 0 v.toInt64 := hr2
    obtain ⟨t0, t1, t2⟩ : N1 0 0 = 0 ∧ v = rr ∧ T M1 N1 := ha
    refine lv_istore (lv' := [(5, .int (0 : Int32)), (0, .ref b), (1, .ref (ad 0)), (2, .ref (aR 0)), (3, .ref o), (4, .int x4)]) X.1 X.2.1 dL_law_712 hl (by decide) rfl (fun ls hl => ?_)
    refine lv_aload_n X.1 X.2.1 dL_law_714 rfl (lv_at hl 3 rfl) ?_
    refine lv_aload_n X.1 X.2.1 dL_law_715 rfl (lv_at hl 1 rfl) ?_
    refine lv_iload X.1 X.2.1 dL_law_716 (lv_at hl 5 rfl) ?_
    refine lv_iconst (v := (1 : Int32)) X.1 X.2.1 dL_law_718 (by decide) ?_
    refine lv_iadd X.1 X.2.1 dL_law_719 ?_
    refine va_sld X.1 X.2.1 hX hbl hbA hS h1 dL_law_720 ?_
    have hP := px_Pp hP List.perm_append_comm
    have hD := px_Dp hD List.perm_append_comm
    refine px_yI (wf := wR cs aR) (rw := wC cs ad M1 ++ wO cs o (vp_updL g 0 v.toInt64)) (tysC := tyR cs) (As := [.int (xs (x4 + (1 : Int32)).toNatClampNeg)]) (rest := []) X hml hl (X.2.2.2.2.sub [0, 1] rfl) hP hD hS hA (cR_M_reported l D cs aR e2) lkL_102 (Nat.le_of_ble_eq_true rfl) (Nat.le_of_ble_eq_true rfl) (by omega) (by omega) (va_recv X.2.2.2.2 hP (ci := 6) (q0 := 0) rfl rfl) rfl (Nat.le_of_ble_eq_true rfl) dL_law_721 (fun H locs hP hD hS => ?_)
    refine lv_istore (lv' := [(6, .int rr), (5, .int (0 : Int32)), (0, .ref b), (1, .ref (ad 0)), (2, .ref (aR 0)), (3, .ref o), (4, .int x4)]) X.1 X.2.1 dL_law_724 hl (by decide) rfl (fun ls hl => ?_)
    refine lv_aload_n X.1 X.2.1 dL_law_726 rfl (lv_at hl 4 rfl) ?_
    refine px_yI (wf := wR cs aR) (rw := wC cs ad M1 ++ wO cs o (vp_updL g 0 v.toInt64)) (tysC := tyR cs) (As := []) (rest := []) X hml hl (X.2.2.2.2.sub [0, 1] rfl) hP hD hS hA (cR_M_thrown l D cs aR (show fR_M_thrown N1 = some (N1 0 0) from rfl)) lkL_62 (Nat.le_of_ble_eq_true rfl) (Nat.le_of_ble_eq_true rfl) (by omega) (by omega) (va_recv X.2.2.2.2 hP (ci := 6) (q0 := 0) rfl rfl) rfl (Nat.le_of_ble_eq_true rfl) dL_law_727 (fun H locs hP hD hS => ?_)
    refine lv_iload X.1 X.2.1 dL_law_730 (lv_at hl 1 rfl) ?_
    refine lv_icmp_eq (tgt := 737) X.1 X.2.1 dL_law_732 (by decide) (fun _ => ?_) (fun q => absurd t0 q)
    have hP := px_Pp hP List.perm_append_comm
    have hD := px_Dp hD List.perm_append_comm
    rw [List.append_assoc] at hP hD
    refine lv_iload X.1 X.2.1 dL_law_737 (lv_at hl 1 rfl) ?_
    refine lv_if_ne (tgt := 754) X.1 X.2.1 dL_law_739 (by decide) (fun q => absurd rfl q) (fun _ => ?_)
    refine lv_aload_n X.1 X.2.1 dL_law_742 rfl (lv_at hl 5 rfl) ?_
    refine lv_iconst (v := (0 : Int32)) X.1 X.2.1 dL_law_743 (by decide) ?_
    refine va_lald X.1 X.2.1 X.2.2.2.2 hP 52 3 rfl rfl (by unfold vp_in; decide) dL_law_744 ?_
    refine lv_iload X.1 X.2.1 dL_law_745 (lv_at hl 0 rfl) ?_
    refine lv_i2l X.1 X.2.1 dL_law_747 rfl ?_
    refine W.lcmp X.1 X.2.1 dL_law_748 ?_
    refine lv_if_eq (tgt := 754) X.1 X.2.1 dL_law_749 (by decide) (fun _ => ?_) (fun q => absurd (by rw [← t1]; exact px_lc _) q)
    refine lv_goto (tgt := 795) X.1 X.2.1 dL_law_754 (by decide) ?_
    exact kk _ _ _ _ _ _ t2 hP hD hS (lv_sub hl [2, 3, 4, 5, 6] rfl)
  · obtain ⟨hr0, hr1⟩ := hres
    rw [show M1 = M from congrArg Prod.fst hr1, show g1 = g from congrArg Prod.snd hr1] at hP hD
    obtain ⟨t0, t1, t2⟩ := ha
    have t0 : N1 0 0 = r := t0.trans hr0.symm
    have t1 : ¬ r = 0 := by rw [show r = _ from hr0]; exact t1
    refine lv_istore (lv' := [(5, .int r), (0, .ref b), (1, .ref (ad 0)), (2, .ref (aR 0)), (3, .ref o), (4, .int x4)]) X.1 X.2.1 dL_law_712 hl (by decide) rfl (fun ls hl => ?_)
    refine lv_aload_n X.1 X.2.1 dL_law_714 rfl (lv_at hl 3 rfl) ?_
    refine lv_aload_n X.1 X.2.1 dL_law_715 rfl (lv_at hl 1 rfl) ?_
    refine lv_iload X.1 X.2.1 dL_law_716 (lv_at hl 5 rfl) ?_
    refine lv_iconst (v := (1 : Int32)) X.1 X.2.1 dL_law_718 (by decide) ?_
    refine lv_iadd X.1 X.2.1 dL_law_719 ?_
    refine va_sld X.1 X.2.1 hX hbl hbA hS h1 dL_law_720 ?_
    have hP := px_Pp hP List.perm_append_comm
    have hD := px_Dp hD List.perm_append_comm
    refine px_yI (wf := wR cs aR) (rw := wC cs ad M ++ wO cs o g) (tysC := tyR cs) (As := [.int (xs (x4 + (1 : Int32)).toNatClampNeg)]) (rest := []) X hml hl (X.2.2.2.2.sub [0, 1] rfl) hP hD hS hA (cR_M_reported l D cs aR e2) lkL_102 (Nat.le_of_ble_eq_true rfl) (Nat.le_of_ble_eq_true rfl) (by omega) (by omega) (va_recv X.2.2.2.2 hP (ci := 6) (q0 := 0) rfl rfl) rfl (Nat.le_of_ble_eq_true rfl) dL_law_721 (fun H locs hP hD hS => ?_)
    refine lv_istore (lv' := [(6, .int rr), (5, .int r), (0, .ref b), (1, .ref (ad 0)), (2, .ref (aR 0)), (3, .ref o), (4, .int x4)]) X.1 X.2.1 dL_law_724 hl (by decide) rfl (fun ls hl => ?_)
    refine lv_aload_n X.1 X.2.1 dL_law_726 rfl (lv_at hl 4 rfl) ?_
    refine px_yI (wf := wR cs aR) (rw := wC cs ad M ++ wO cs o g) (tysC := tyR cs) (As := []) (rest := []) X hml hl (X.2.2.2.2.sub [0, 1] rfl) hP hD hS hA (cR_M_thrown l D cs aR (show fR_M_thrown N1 = some (N1 0 0) from rfl)) lkL_62 (Nat.le_of_ble_eq_true rfl) (Nat.le_of_ble_eq_true rfl) (by omega) (by omega) (va_recv X.2.2.2.2 hP (ci := 6) (q0 := 0) rfl rfl) rfl (Nat.le_of_ble_eq_true rfl) dL_law_727 (fun H locs hP hD hS => ?_)
    refine lv_iload X.1 X.2.1 dL_law_730 (lv_at hl 1 rfl) ?_
    refine lv_icmp_eq (tgt := 737) X.1 X.2.1 dL_law_732 (by decide) (fun _ => ?_) (fun q => absurd t0 q)
    have hP := px_Pp hP List.perm_append_comm
    have hD := px_Dp hD List.perm_append_comm
    rw [List.append_assoc] at hP hD
    refine lv_iload X.1 X.2.1 dL_law_737 (lv_at hl 1 rfl) ?_
    refine lv_if_ne (tgt := 754) X.1 X.2.1 dL_law_739 (by decide) (fun _ => ?_) (fun q => absurd q t1)
    refine lv_goto (tgt := 795) X.1 X.2.1 dL_law_754 (by decide) ?_
    exact kk _ _ _ _ _ _ t2 hP hD hS (lv_sub hl [2, 3, 4, 5, 6] rfl)
theorem lkL_103 : px_Lk RL 103 yX5_due cX5_due 2 (some .int) 1 := ⟨px_tb (by decide +kernel) (by decide +kernel), px_tb (by decide +kernel) (by decide +kernel), px_tb (by decide +kernel) (by decide +kernel), px_tb (by decide +kernel) (by decide +kernel), px_tb (by decide +kernel) (by decide +kernel), by decide +kernel, by decide⟩
theorem lkL_106 : px_Lk RL 106 yX6_due cX6_due 3 (some .int) 1 := ⟨px_tb (by decide +kernel) (by decide +kernel), px_tb (by decide +kernel) (by decide +kernel), px_tb (by decide +kernel) (by decide +kernel), px_tb (by decide +kernel) (by decide +kernel), px_tb (by decide +kernel) (by decide +kernel), by decide +kernel, by decide⟩
set_option maxHeartbeats 4000000 in
set_option maxRecDepth 100000 in
theorem lw_c12 {l : Launch} (hst : l.stackTraces = false) {D : va_G} {cs : Nat → ClassId} {ad aR : Nat → Nat} {sa : Nat → Nat} {p : Program} {e : Env} {s : State} {m : MethodId} {args : Array Value} {below : List Frame} {meth : Method} {c : Code} {Q : State → Prop} {A : Nat → Prop} {b L o : Nat} {xs : Nat → Int32} {T : px_M → px_M → Prop} (X : px_X D (tyL cs) p s m args c cL_law RL) (hml : c.maxLocals = 7) (hX : va_X b L xs s s.heap) (hbl : b < s.heap.size) (hbA : ¬ A b) (hA : ∀ q : Nat, s.heap.size ≤ q → A q) (hE : px_Ex sa A s s.heap) (hN : px_NcU s) {M N : px_M} {g : Nat → Int64} {H : Heap} {locs : List Loc} {ls : Array Slot} {x4 : Int32} {cells slots : Nat} (hcR : cells + 1 ≤ room_1.cells) (hsR : slots + 6 ≤ room_1.slots) (h1 : vp_in (x4 + (1 : Int32)) L) (h2 : vp_in (x4 + (2 : Int32)) L) (h3 : vp_in (x4 + (3 : Int32)) L) (h4 : vp_in (x4 + (4 : Int32)) L) (hP : va_P D vwCl (wC cs ad M ++ (wO cs o g ++ wR cs aR N)) H) (hD : va_D A (wC cs ad M ++ (wO cs o g ++ wR cs aR N))) (hS : va_S A s.heap H locs) (hl : lv_has ls 7 [(0, .ref b), (1, .ref (ad 0)), (2, .ref (aR 0)), (3, .ref o), (4, .int x4)]) (hT : pu_all T M N) (kk : ∀ (M' N' : px_M) (g' : Nat → Int64) (H : Heap) (locs : List Loc) (ls : Array Slot), T M' N' → va_P D vwCl (wC cs ad M' ++ (wO cs o g' ++ wR cs aR N')) H → va_D A (wC cs ad M' ++ (wO cs o g' ++ wR cs aR N')) → va_S A s.heap H locs → lv_has ls 7 [(0, .ref b), (1, .ref (ad 0)), (2, .ref (aR 0)), (3, .ref o), (4, .int x4)] → W p l e room_1 s m args below meth c H locs (cells + 1) (slots + 6) Q (F0 m 795 ls [])) : W p l e room_1 s m args below meth c H locs cells slots Q (F0 m 757 ls []) := by
  obtain ⟨rr, N1, e1, e2, t2⟩ := hT.2.2.2.2.2.2.2.2.2.2.2.2.2.1 (xs (x4 + (1 : Int32)).toNatClampNeg)
  refine lv_aload_n X.1 X.2.1 dL_law_757 rfl (lv_at hl 1 rfl) ?_
  refine lv_aload_n X.1 X.2.1 dL_law_758 rfl (lv_at hl 0 rfl) ?_
  refine lv_iload X.1 X.2.1 dL_law_759 (lv_at hl 4 rfl) ?_
  refine lv_iconst (v := (1 : Int32)) X.1 X.2.1 dL_law_761 (by decide) ?_
  refine lv_iadd X.1 X.2.1 dL_law_762 ?_
  refine va_sld X.1 X.2.1 hX hbl hbA hS h1 dL_law_763 ?_
  refine px_yI (wf := wC cs ad) (rw := wO cs o g ++ wR cs aR N) (tysC := tyC cs) (As := [.int (xs (x4 + (1 : Int32)).toNatClampNeg)]) (rest := []) X hml hl (X.2.2.2.2.sub [0, 1, 2] rfl) hP hD hS hA (cC_due l D cs ad e1) lkL_103 (Nat.le_of_ble_eq_true rfl) (Nat.le_of_ble_eq_true rfl) (by omega) (by omega) (va_recv X.2.2.2.2 hP (ci := 5) (q0 := 0) rfl rfl) rfl (Nat.le_of_ble_eq_true rfl) dL_law_764 (fun H locs hP hD hS => ?_)
  rw [← List.append_assoc] at hP hD
  have hP := px_Pp hP List.perm_append_comm
  have hD := px_Dp hD List.perm_append_comm
  refine lv_aload_n X.1 X.2.1 dL_law_767 rfl (lv_at hl 2 rfl) ?_
  refine lv_aload_n X.1 X.2.1 dL_law_768 rfl (lv_at hl 0 rfl) ?_
  refine lv_iload X.1 X.2.1 dL_law_769 (lv_at hl 4 rfl) ?_
  refine lv_iconst (v := (1 : Int32)) X.1 X.2.1 dL_law_771 (by decide) ?_
  refine lv_iadd X.1 X.2.1 dL_law_772 ?_
  refine va_sld X.1 X.2.1 hX hbl hbA hS h1 dL_law_773 ?_
  refine px_yI (wf := wR cs aR) (rw := wC cs ad M ++ wO cs o g) (tysC := tyR cs) (As := [.int (xs (x4 + (1 : Int32)).toNatClampNeg)]) (rest := [.int rr]) X hml hl (X.2.2.2.2.sub [0, 1] rfl) hP hD hS hA (cR_M_due l D cs aR e2) lkL_106 (Nat.le_of_ble_eq_true rfl) (Nat.le_of_ble_eq_true rfl) (by omega) (by omega) (va_recv X.2.2.2.2 hP (ci := 6) (q0 := 0) rfl rfl) rfl (Nat.le_of_ble_eq_true rfl) dL_law_774 (fun H locs hP hD hS => ?_)
  refine lv_icmp_eq (tgt := 795) X.1 X.2.1 dL_law_777 (by decide) (fun _ => ?_) (fun q => absurd rfl q)
  have hP := px_Pp hP List.perm_append_comm
  have hD := px_Dp hD List.perm_append_comm
  rw [List.append_assoc] at hP hD
  refine W.widen (k := cells + 1) (n := slots + 6) (by omega) (by omega) ?_
  exact kk _ _ _ _ _ _ t2 hP hD hS hl
theorem lkL_107 : px_Lk RL 107 yX5_time cX5_time 1 (some .int) 0 := ⟨px_tb (by decide +kernel) (by decide +kernel), px_tb (by decide +kernel) (by decide +kernel), px_tb (by decide +kernel) (by decide +kernel), px_tb (by decide +kernel) (by decide +kernel), px_tb (by decide +kernel) (by decide +kernel), by decide +kernel, by decide⟩
theorem lkL_110 : px_Lk RL 110 yX6_time cX6_time 1 (some .int) 0 := ⟨px_tb (by decide +kernel) (by decide +kernel), px_tb (by decide +kernel) (by decide +kernel), px_tb (by decide +kernel) (by decide +kernel), px_tb (by decide +kernel) (by decide +kernel), px_tb (by decide +kernel) (by decide +kernel), by decide +kernel, by decide⟩
set_option maxHeartbeats 4000000 in
set_option maxRecDepth 100000 in
theorem lw_c13 {l : Launch} (hst : l.stackTraces = false) {D : va_G} {cs : Nat → ClassId} {ad aR : Nat → Nat} {sa : Nat → Nat} {p : Program} {e : Env} {s : State} {m : MethodId} {args : Array Value} {below : List Frame} {meth : Method} {c : Code} {Q : State → Prop} {A : Nat → Prop} {b L o : Nat} {xs : Nat → Int32} {T : px_M → px_M → Prop} (X : px_X D (tyL cs) p s m args c cL_law RL) (hml : c.maxLocals = 7) (hX : va_X b L xs s s.heap) (hbl : b < s.heap.size) (hbA : ¬ A b) (hA : ∀ q : Nat, s.heap.size ≤ q → A q) (hE : px_Ex sa A s s.heap) (hN : px_NcU s) {M N : px_M} {g : Nat → Int64} {H : Heap} {locs : List Loc} {ls : Array Slot} {x4 : Int32} {cells slots : Nat} (hcR : cells + 1 ≤ room_1.cells) (hsR : slots + 6 ≤ room_1.slots) (h1 : vp_in (x4 + (1 : Int32)) L) (h2 : vp_in (x4 + (2 : Int32)) L) (h3 : vp_in (x4 + (3 : Int32)) L) (h4 : vp_in (x4 + (4 : Int32)) L) (hP : va_P D vwCl (wC cs ad M ++ (wO cs o g ++ wR cs aR N)) H) (hD : va_D A (wC cs ad M ++ (wO cs o g ++ wR cs aR N))) (hS : va_S A s.heap H locs) (hl : lv_has ls 7 [(0, .ref b), (1, .ref (ad 0)), (2, .ref (aR 0)), (3, .ref o), (4, .int x4)]) (hT : pu_all T M N) (kk : ∀ (M' N' : px_M) (g' : Nat → Int64) (H : Heap) (locs : List Loc) (ls : Array Slot), T M' N' → va_P D vwCl (wC cs ad M' ++ (wO cs o g' ++ wR cs aR N')) H → va_D A (wC cs ad M' ++ (wO cs o g' ++ wR cs aR N')) → va_S A s.heap H locs → lv_has ls 7 [(0, .ref b), (1, .ref (ad 0)), (2, .ref (aR 0)), (3, .ref o), (4, .int x4)] → W p l e room_1 s m args below meth c H locs (cells + 1) (slots + 6) Q (F0 m 795 ls [])) : W p l e room_1 s m args below meth c H locs cells slots Q (F0 m 782 ls []) := by
  obtain ⟨rr, N1, e1, e2, t2⟩ := hT.2.2.2.2.2.2.2.2.2.2.2.2.2.2 
  refine lv_aload_n X.1 X.2.1 dL_law_782 rfl (lv_at hl 1 rfl) ?_
  refine px_yI (wf := wC cs ad) (rw := wO cs o g ++ wR cs aR N) (tysC := tyC cs) (As := []) (rest := []) X hml hl (X.2.2.2.2.sub [0, 1, 2] rfl) hP hD hS hA (cC_time l D cs ad e1) lkL_107 (Nat.le_of_ble_eq_true rfl) (Nat.le_of_ble_eq_true rfl) (by omega) (by omega) (va_recv X.2.2.2.2 hP (ci := 5) (q0 := 0) rfl rfl) rfl (Nat.le_of_ble_eq_true rfl) dL_law_783 (fun H locs hP hD hS => ?_)
  rw [← List.append_assoc] at hP hD
  have hP := px_Pp hP List.perm_append_comm
  have hD := px_Dp hD List.perm_append_comm
  refine lv_aload_n X.1 X.2.1 dL_law_786 rfl (lv_at hl 2 rfl) ?_
  refine px_yI (wf := wR cs aR) (rw := wC cs ad M ++ wO cs o g) (tysC := tyR cs) (As := []) (rest := [.int rr]) X hml hl (X.2.2.2.2.sub [0, 1] rfl) hP hD hS hA (cR_M_time l D cs aR e2) lkL_110 (Nat.le_of_ble_eq_true rfl) (Nat.le_of_ble_eq_true rfl) (by omega) (by omega) (va_recv X.2.2.2.2 hP (ci := 6) (q0 := 0) rfl rfl) rfl (Nat.le_of_ble_eq_true rfl) dL_law_787 (fun H locs hP hD hS => ?_)
  refine lv_icmp_eq (tgt := 795) X.1 X.2.1 dL_law_790 (by decide) (fun _ => ?_) (fun q => absurd rfl q)
  have hP := px_Pp hP List.perm_append_comm
  have hD := px_Dp hD List.perm_append_comm
  rw [List.append_assoc] at hP hD
  refine W.widen (k := cells + 1) (n := slots + 6) (by omega) (by omega) ?_
  exact kk _ _ _ _ _ _ t2 hP hD hS hl
