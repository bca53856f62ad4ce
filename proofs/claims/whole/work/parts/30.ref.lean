def mr_X5_answer (P : Nat → Nat) (sg : wk_Sg) (a1 : Int32) : Int32 := (if (sg (25, 0, 0) (Int32.toNatClampNeg a1)) = 1 then 2 else (if (sg (25, 0, 0) (Int32.toNatClampNeg a1)) = 2 then 3 else 4))
def mg_X5_answer (P : Nat → Nat) (sg : wk_Sg) (a1 : Int32) : Prop := (vp_in a1 4 ∧ (((sg (25, 0, 0) (Int32.toNatClampNeg a1)) = 1 → True) ∧ (¬ (sg (25, 0, 0) (Int32.toNatClampNeg a1)) = 1 → (vp_in a1 4 ∧ (((sg (25, 0, 0) (Int32.toNatClampNeg a1)) = 2 → True) ∧ (¬ (sg (25, 0, 0) (Int32.toNatClampNeg a1)) = 2 → True))))))
set_option maxHeartbeats 4000000 in
set_option maxRecDepth 100000 in
theorem mk_X5_answer {l : Launch} {D : va_G} {T : wk_T} {z0 : Nat} {ad : wk_K3 → Nat} {sh : wk_Sh} {P : Nat → Nat} (hSh : rf_Sh T sh) (sg : wk_Sg) (a1 : Int32)  (hg : mg_X5_answer P sg a1) : wk_Mi l yX5_answer cX5_answer 2 (some .int) 0 0 D T z0 ad sh [.ref (ad (20, 0, 0)), .int a1] sg (mr_X5_answer P sg a1) sg := by
  refine Met.ofW (cc := cX5_answer) (maxL := 2) (ret := (some .int)) (by decide) rfl ?_
  intro p e s m args below meth c s₁ B hml hv
  obtain ⟨rfl, hz, hH, hK⟩ := hv
  have hx := B.exec
  have hb := B.bytes
  have hr := B.returns
  have hlocks := B.notSynchronized
  have hts : ∀ w ∈ wk_B, w.before _ s = true := fun w hw => atoms_spec (ws := Cond.code yX5_answer cX5_answer 2 (some .int) :: wk_B) B.pre w (List.mem_cons_of_mem _ hw)
  have X : wk_C p m c cX5_answer 2 s _ RX5 D T := ⟨⟨hx, hb, hml, findClass_of_methodNamed B.named, hts⟩, hK⟩
  have hS : va_S (wk_A z0) s.heap s.heap [] := va_S.rf
  have hl := lv_entry ([.ref (ad (20, 0, 0)), .int a1]) (n := 2) (Nat.le_of_ble_eq_true rfl)
  rw [lg_entry_eq]
  generalize (lg_sl ([.ref (ad (20, 0, 0)), .int a1]) ++ List.replicate (2 - (lg_sl ([.ref (ad (20, 0, 0)), .int a1])).length) Slot.unset).toArray = ls at hl ⊢
  have hl : lv_has ls 2 [(0, .ref (ad (20, 0, 0))), (1, .int a1)] := hl
  unfold mg_X5_answer at hg
  refine lv_aload_n (pc := 0) hx hb dX5_answer_0 rfl (lv_at hl 0 rfl) ?_
  refine wk_getr (pc := 1) X hH (20, 0, 0) 10 (25, 0, 0) (rf_20 hSh) rfl (by decide) rfl inX5 fl_X5_22 dX5_answer_1 ?_
  refine lv_iload_n (pc := 4) hx hb dX5_answer_4 rfl (lv_at hl 1 rfl) ?_
  obtain ⟨o1, hg⟩ := hg
  refine wk_iald (pc := 5) X hH (25, 0, 0) (rf_25 hSh) o1 dX5_answer_5 ?_
  refine lv_iconst (pc := 6) (v := 1) hx hb dX5_answer_6 (by decide) ?_
  refine lv_icmp_ne (pc := 7) (tgt := 14) hx hb dX5_answer_7 (by decide) (fun h2 => ?_) (fun h2 => ?_)
  · have hg := hg.2 h2
    refine lv_aload_n (pc := 14) hx hb dX5_answer_14 rfl (lv_at hl 0 rfl) ?_
    refine wk_getr (pc := 15) X hH (20, 0, 0) 10 (25, 0, 0) (rf_20 hSh) rfl (by decide) rfl inX5 fl_X5_22 dX5_answer_15 ?_
    refine lv_iload_n (pc := 18) hx hb dX5_answer_18 rfl (lv_at hl 1 rfl) ?_
    obtain ⟨o3, hg⟩ := hg
    refine wk_iald (pc := 19) X hH (25, 0, 0) (rf_25 hSh) o3 dX5_answer_19 ?_
    refine lv_iconst (pc := 20) (v := 2) hx hb dX5_answer_20 (by decide) ?_
    refine lv_icmp_ne (pc := 21) (tgt := 28) hx hb dX5_answer_21 (by decide) (fun h4 => ?_) (fun h4 => ?_)
    · have hg := hg.2 h4
      refine lv_iconst (pc := 28) (v := 4) hx hb dX5_answer_28 (by decide) ?_
      exact wk_iret (pc := 29) X hH hS hr hlocks (by rw [mr_X5_answer, if_neg h2, if_neg h4]) (rfl) dX5_answer_29
    · have hg := hg.1 h4
      refine lv_iconst (pc := 24) (v := 3) hx hb dX5_answer_24 (by decide) ?_
      refine lv_goto (pc := 25) (tgt := 29) hx hb dX5_answer_25 (by decide) ?_
      exact wk_iret (pc := 29) X hH hS hr hlocks (by rw [mr_X5_answer, if_neg h2, if_pos h4]) (rfl) dX5_answer_29
  · have hg := hg.1 h2
    refine lv_iconst (pc := 10) (v := 2) hx hb dX5_answer_10 (by decide) ?_
    refine lv_goto (pc := 11) (tgt := 29) hx hb dX5_answer_11 (by decide) ?_
    exact wk_iret (pc := 29) X hH hS hr hlocks (by rw [mr_X5_answer, if_pos h2]) (rfl) dX5_answer_29

def mr_X5_phase (P : Nat → Nat) (sg : wk_Sg) (a1 : Int32) : Int32 := (if a1 = 4 then a1 else a1)
def ms_X5_phase (P : Nat → Nat) (sg : wk_Sg) (a1 : Int32) : wk_Sg := (if a1 = 4 then (wk_up (wk_up sg (20, 0, 0) 17 0) (33, 0, 0) (Int32.toNatClampNeg a1) (((wk_up sg (20, 0, 0) 17 0) (33, 0, 0) (Int32.toNatClampNeg a1)) + (1 : Int32))) else (wk_up (wk_up sg (20, 0, 0) 17 a1) (33, 0, 0) (Int32.toNatClampNeg a1) (((wk_up sg (20, 0, 0) 17 a1) (33, 0, 0) (Int32.toNatClampNeg a1)) + (1 : Int32))))
def mg_X5_phase (P : Nat → Nat) (sg : wk_Sg) (a1 : Int32) : Prop := ((a1 = 4 → (vp_in a1 5 ∧ (vp_in a1 5 ∧ True))) ∧ (¬ a1 = 4 → (vp_in a1 5 ∧ (vp_in a1 5 ∧ True))))
set_option maxHeartbeats 4000000 in
set_option maxRecDepth 100000 in
theorem mk_X5_phase {l : Launch} {D : va_G} {T : wk_T} {z0 : Nat} {ad : wk_K3 → Nat} {sh : wk_Sh} {P : Nat → Nat} (hSh : rf_Sh T sh) (sg : wk_Sg) (a1 : Int32)  (hg : mg_X5_phase P sg a1) : wk_Mi l yX5_phase cX5_phase 2 (some .int) 0 0 D T z0 ad sh [.ref (ad (20, 0, 0)), .int a1] sg (mr_X5_phase P sg a1) (ms_X5_phase P sg a1) := by
  refine Met.ofW (cc := cX5_phase) (maxL := 2) (ret := (some .int)) (by decide) rfl ?_
  intro p e s m args below meth c s₁ B hml hv
  obtain ⟨rfl, hz, hH, hK⟩ := hv
  have hx := B.exec
  have hb := B.bytes
  have hr := B.returns
  have hlocks := B.notSynchronized
  have hts : ∀ w ∈ wk_B, w.before _ s = true := fun w hw => atoms_spec (ws := Cond.code yX5_phase cX5_phase 2 (some .int) :: wk_B) B.pre w (List.mem_cons_of_mem _ hw)
  have X : wk_C p m c cX5_phase 2 s _ RX5 D T := ⟨⟨hx, hb, hml, findClass_of_methodNamed B.named, hts⟩, hK⟩
  have hS : va_S (wk_A z0) s.heap s.heap [] := va_S.rf
  have hl := lv_entry ([.ref (ad (20, 0, 0)), .int a1]) (n := 2) (Nat.le_of_ble_eq_true rfl)
  rw [lg_entry_eq]
  generalize (lg_sl ([.ref (ad (20, 0, 0)), .int a1]) ++ List.replicate (2 - (lg_sl ([.ref (ad (20, 0, 0)), .int a1])).length) Slot.unset).toArray = ls at hl ⊢
  have hl : lv_has ls 2 [(0, .ref (ad (20, 0, 0))), (1, .int a1)] := hl
  unfold mg_X5_phase at hg
  refine lv_aload_n (pc := 0) hx hb dX5_phase_0 rfl (lv_at hl 0 rfl) ?_
  refine lv_iload_n (pc := 1) hx hb dX5_phase_1 rfl (lv_at hl 1 rfl) ?_
  refine lv_iconst (pc := 2) (v := 4) hx hb dX5_phase_2 (by decide) ?_
  refine lv_icmp_ne (pc := 3) (tgt := 10) hx hb dX5_phase_3 (by decide) (fun h1 => ?_) (fun h1 => ?_)
  · have hg := hg.2 h1
    refine lv_iload_n (pc := 10) hx hb dX5_phase_10 rfl (lv_at hl 1 rfl) ?_
    refine wk_puti (pc := 11) X hH hS (20, 0, 0) 17 tyX5_ok nmX5 (rf_20 hSh) rfl (by decide) rfl inX5 fl_X5_107 rfl rfl rfl dX5_phase_11 (fun H locs hH hS => ?_)
    refine lv_aload_n (pc := 14) hx hb dX5_phase_14 rfl (lv_at hl 0 rfl) ?_
    refine wk_getr (pc := 15) X hH (20, 0, 0) 23 (33, 0, 0) (rf_20 hSh) rfl (by decide) rfl inX5 fl_X5_46 dX5_phase_15 ?_
    refine lv_iload_n (pc := 18) hx hb dX5_phase_18 rfl (lv_at hl 1 rfl) ?_
    refine lv_dup2_11 (pc := 19) hx hb dX5_phase_19 rfl rfl ?_
    obtain ⟨o2, hg⟩ := hg
    refine wk_iald (pc := 20) X hH (33, 0, 0) (rf_33 hSh) o2 dX5_phase_20 ?_
    refine lv_iconst (pc := 21) (v := 1) hx hb dX5_phase_21 (by decide) ?_
    refine lv_iadd (pc := 22) hx hb dX5_phase_22 ?_
    obtain ⟨o3, hg⟩ := hg
    refine wk_iast (pc := 23) X hH hS (33, 0, 0) (rf_33 hSh) o3 dX5_phase_23 (fun H locs hH hS => ?_)
    refine lv_iload_n (pc := 24) hx hb dX5_phase_24 rfl (lv_at hl 1 rfl) ?_
    exact wk_iret (pc := 25) X hH hS hr hlocks (by rw [mr_X5_phase, if_neg h1]) (by rw [ms_X5_phase, if_neg h1]) dX5_phase_25
  · have hg := hg.1 h1
    refine lv_iconst (pc := 6) (v := 0) hx hb dX5_phase_6 (by decide) ?_
    refine lv_goto (pc := 7) (tgt := 11) hx hb dX5_phase_7 (by decide) ?_
    refine wk_puti (pc := 11) X hH hS (20, 0, 0) 17 tyX5_ok nmX5 (rf_20 hSh) rfl (by decide) rfl inX5 fl_X5_107 rfl rfl rfl dX5_phase_11 (fun H locs hH hS => ?_)
    refine lv_aload_n (pc := 14) hx hb dX5_phase_14 rfl (lv_at hl 0 rfl) ?_
    refine wk_getr (pc := 15) X hH (20, 0, 0) 23 (33, 0, 0) (rf_20 hSh) rfl (by decide) rfl inX5 fl_X5_46 dX5_phase_15 ?_
    refine lv_iload_n (pc := 18) hx hb dX5_phase_18 rfl (lv_at hl 1 rfl) ?_
    refine lv_dup2_11 (pc := 19) hx hb dX5_phase_19 rfl rfl ?_
    obtain ⟨o4, hg⟩ := hg
    refine wk_iald (pc := 20) X hH (33, 0, 0) (rf_33 hSh) o4 dX5_phase_20 ?_
    refine lv_iconst (pc := 21) (v := 1) hx hb dX5_phase_21 (by decide) ?_
    refine lv_iadd (pc := 22) hx hb dX5_phase_22 ?_
    obtain ⟨o5, hg⟩ := hg
    refine wk_iast (pc := 23) X hH hS (33, 0, 0) (rf_33 hSh) o5 dX5_phase_23 (fun H locs hH hS => ?_)
    refine lv_iload_n (pc := 24) hx hb dX5_phase_24 rfl (lv_at hl 1 rfl) ?_
    exact wk_iret (pc := 25) X hH hS hr hlocks (by rw [mr_X5_phase, if_pos h1]) (by rw [ms_X5_phase, if_pos h1]) dX5_phase_25

def mr_X5_take_L2 : Nat → (Nat → Nat) → wk_Sg → Int32 → Int32
  | 0, _, _, _ => 0
  | n + 1, P, sg, v1 => (if (sg (20, 0, 0) 0) ≤ v1 then (if v1 = (sg (20, 0, 0) 0) then 0 else (mr_X5_phase P (wk_up (wk_up (wk_up (wk_up (wk_up sg (20, 0, 0) 18 v1) (20, 0, 0) 19 ((wk_up sg (20, 0, 0) 18 v1) (27, 0, 0) (Int32.toNatClampNeg v1))) (20, 0, 0) 20 ((wk_up (wk_up sg (20, 0, 0) 18 v1) (20, 0, 0) 19 ((wk_up sg (20, 0, 0) 18 v1) (27, 0, 0) (Int32.toNatClampNeg v1))) (28, 0, 0) (Int32.toNatClampNeg v1))) (27, 0, 0) (Int32.toNatClampNeg v1) 0) (28, 0, 0) (Int32.toNatClampNeg v1) (-1)) 1)) else (if (sg (27, 0, 0) (Int32.toNatClampNeg v1)) = 0 then (mr_X5_take_L2 n P sg  (v1 + 1)) else (if v1 = (sg (20, 0, 0) 0) then 0 else (mr_X5_phase P (wk_up (wk_up (wk_up (wk_up (wk_up sg (20, 0, 0) 18 v1) (20, 0, 0) 19 ((wk_up sg (20, 0, 0) 18 v1) (27, 0, 0) (Int32.toNatClampNeg v1))) (20, 0, 0) 20 ((wk_up (wk_up sg (20, 0, 0) 18 v1) (20, 0, 0) 19 ((wk_up sg (20, 0, 0) 18 v1) (27, 0, 0) (Int32.toNatClampNeg v1))) (28, 0, 0) (Int32.toNatClampNeg v1))) (27, 0, 0) (Int32.toNatClampNeg v1) 0) (28, 0, 0) (Int32.toNatClampNeg v1) (-1)) 1))))
def ms_X5_take_L2 : Nat → (Nat → Nat) → wk_Sg → Int32 → wk_Sg
  | 0, _, sg, _ => sg
  | n + 1, P, sg, v1 => (if (sg (20, 0, 0) 0) ≤ v1 then (if v1 = (sg (20, 0, 0) 0) then sg else (ms_X5_phase P (wk_up (wk_up (wk_up (wk_up (wk_up sg (20, 0, 0) 18 v1) (20, 0, 0) 19 ((wk_up sg (20, 0, 0) 18 v1) (27, 0, 0) (Int32.toNatClampNeg v1))) (20, 0, 0) 20 ((wk_up (wk_up sg (20, 0, 0) 18 v1) (20, 0, 0) 19 ((wk_up sg (20, 0, 0) 18 v1) (27, 0, 0) (Int32.toNatClampNeg v1))) (28, 0, 0) (Int32.toNatClampNeg v1))) (27, 0, 0) (Int32.toNatClampNeg v1) 0) (28, 0, 0) (Int32.toNatClampNeg v1) (-1)) 1)) else (if (sg (27, 0, 0) (Int32.toNatClampNeg v1)) = 0 then (ms_X5_take_L2 n P sg  (v1 + 1)) else (if v1 = (sg (20, 0, 0) 0) then sg else (ms_X5_phase P (wk_up (wk_up (wk_up (wk_up (wk_up sg (20, 0, 0) 18 v1) (20, 0, 0) 19 ((wk_up sg (20, 0, 0) 18 v1) (27, 0, 0) (Int32.toNatClampNeg v1))) (20, 0, 0) 20 ((wk_up (wk_up sg (20, 0, 0) 18 v1) (20, 0, 0) 19 ((wk_up sg (20, 0, 0) 18 v1) (27, 0, 0) (Int32.toNatClampNeg v1))) (28, 0, 0) (Int32.toNatClampNeg v1))) (27, 0, 0) (Int32.toNatClampNeg v1) 0) (28, 0, 0) (Int32.toNatClampNeg v1) (-1)) 1))))
def mg_X5_take_L2 : Nat → (Nat → Nat) → wk_Sg → Int32 → Prop
  | 0, _, _, _ => False
  | n + 1, P, sg, v1 => (((sg (20, 0, 0) 0) ≤ v1 → ((v1 = (sg (20, 0, 0) 0) → True) ∧ (¬ v1 = (sg (20, 0, 0) 0) → (vp_in v1 4 ∧ (vp_in v1 4 ∧ (vp_in v1 4 ∧ (vp_in v1 4 ∧ (mg_X5_phase P (wk_up (wk_up (wk_up (wk_up (wk_up sg (20, 0, 0) 18 v1) (20, 0, 0) 19 ((wk_up sg (20, 0, 0) 18 v1) (27, 0, 0) (Int32.toNatClampNeg v1))) (20, 0, 0) 20 ((wk_up (wk_up sg (20, 0, 0) 18 v1) (20, 0, 0) 19 ((wk_up sg (20, 0, 0) 18 v1) (27, 0, 0) (Int32.toNatClampNeg v1))) (28, 0, 0) (Int32.toNatClampNeg v1))) (27, 0, 0) (Int32.toNatClampNeg v1) 0) (28, 0, 0) (Int32.toNatClampNeg v1) (-1)) 1 ∧ True)))))))) ∧ (¬ (sg (20, 0, 0) 0) ≤ v1 → (vp_in v1 4 ∧ (((sg (27, 0, 0) (Int32.toNatClampNeg v1)) = 0 → mg_X5_take_L2 n P sg  (v1 + 1)) ∧ (¬ (sg (27, 0, 0) (Int32.toNatClampNeg v1)) = 0 → ((v1 = (sg (20, 0, 0) 0) → True) ∧ (¬ v1 = (sg (20, 0, 0) 0) → (vp_in v1 4 ∧ (vp_in v1 4 ∧ (vp_in v1 4 ∧ (vp_in v1 4 ∧ (mg_X5_phase P (wk_up (wk_up (wk_up (wk_up (wk_up sg (20, 0, 0) 18 v1) (20, 0, 0) 19 ((wk_up sg (20, 0, 0) 18 v1) (27, 0, 0) (Int32.toNatClampNeg v1))) (20, 0, 0) 20 ((wk_up (wk_up sg (20, 0, 0) 18 v1) (20, 0, 0) 19 ((wk_up sg (20, 0, 0) 18 v1) (27, 0, 0) (Int32.toNatClampNeg v1))) (28, 0, 0) (Int32.toNatClampNeg v1))) (27, 0, 0) (Int32.toNatClampNeg v1) 0) (28, 0, 0) (Int32.toNatClampNeg v1) (-1)) 1 ∧ True))))))))))))
set_option maxHeartbeats 4000000 in
set_option maxRecDepth 100000 in
theorem mk_X5_take_L2 {l : Launch} {D : va_G} {T : wk_T} {z0 : Nat} {ad : wk_K3 → Nat} {sh : wk_Sh} {P : Nat → Nat} (hSh : rf_Sh T sh)   {p : Program} {e : Env} {s : State} {m : MethodId} {args : Array Value} {below : List Frame} {meth : Method} {c : Code} (X : wk_C p m c cX5_take 2 s args RX5 D T) (hz : z0 ≤ s.heap.size) (hr : meth.sig.returnType = some .int) (hlocks : meth.locks = false) :
    ∀ (n : Nat) (sg : wk_Sg) (v1 : Int32) (r0 : Int32) (sg0 : wk_Sg), mr_X5_take_L2 n P sg  v1 = r0 → ms_X5_take_L2 n P sg  v1 = sg0 → mg_X5_take_L2 n P sg  v1 → ∀ (ls : Array Slot) (H : Heap) (locs : List Loc), lv_has ls 2 [(0, .ref (ad (20, 0, 0))), (1, .int v1)] → wk_H D z0 ad sh sg H → va_S (wk_A z0) s.heap H locs → W p l e (wk_rm 1 21) s m args below meth c H locs 0 0 (MQ below (wk_Qi D z0 ad sh r0 sg0) args s 0 0 (wk_A z0)) (F0 m 2 ls []) := by
  have hx := X.1.1
  have hb := X.1.2.1
  have hts := X.1.2.2.2.2
  intro n
  induction n with
  | zero =>
    intro sg v1 r0 sg0 hr0 hs0 hg ls H locs hl hH hS
    exact (show False from hg).elim
  | succ n ih =>
    intro sg v1 r0 sg0 hr0 hs0 hg ls H locs hl hH hS
    rw [mg_X5_take_L2] at hg
    refine lv_iload_n (pc := 2) hx hb dX5_take_2 rfl (lv_at hl 1 rfl) ?_
    refine lv_aload_n (pc := 3) hx hb dX5_take_3 rfl (lv_at hl 0 rfl) ?_
    refine wk_geti (pc := 4) X hH (20, 0, 0) 0 (rf_20 hSh) rfl (by decide) rfl inX5 fl_X5_53 dX5_take_4 ?_
    refine lv_icmp_ge (pc := 7) (tgt := 25) hx hb dX5_take_7 (by decide) (fun h1 => ?_) (fun h1 => ?_)
    · have hg := hg.1 h1
      refine lv_iload_n (pc := 25) hx hb dX5_take_25 rfl (lv_at hl 1 rfl) ?_
      refine lv_aload_n (pc := 26) hx hb dX5_take_26 rfl (lv_at hl 0 rfl) ?_
      refine wk_geti (pc := 27) X hH (20, 0, 0) 0 (rf_20 hSh) rfl (by decide) rfl inX5 fl_X5_53 dX5_take_27 ?_
      refine lv_icmp_ne (pc := 30) (tgt := 35) hx hb dX5_take_30 (by decide) (fun h2 => ?_) (fun h2 => ?_)
      · have hg := hg.2 h2
        refine lv_aload_n (pc := 35) hx hb dX5_take_35 rfl (lv_at hl 0 rfl) ?_
        refine lv_iload_n (pc := 36) hx hb dX5_take_36 rfl (lv_at hl 1 rfl) ?_
        refine wk_puti (pc := 37) X hH hS (20, 0, 0) 18 tyX5_ok nmX5 (rf_20 hSh) rfl (by decide) rfl inX5 fl_X5_69 rfl rfl rfl dX5_take_37 (fun H locs hH hS => ?_)
        refine lv_aload_n (pc := 40) hx hb dX5_take_40 rfl (lv_at hl 0 rfl) ?_
        refine lv_aload_n (pc := 41) hx hb dX5_take_41 rfl (lv_at hl 0 rfl) ?_
        refine wk_getr (pc := 42) X hH (20, 0, 0) 12 (27, 0, 0) (rf_20 hSh) rfl (by decide) rfl inX5 fl_X5_28 dX5_take_42 ?_
        refine lv_iload_n (pc := 45) hx hb dX5_take_45 rfl (lv_at hl 1 rfl) ?_
        obtain ⟨o3, hg⟩ := hg
        refine wk_iald (pc := 46) X hH (27, 0, 0) (rf_27 hSh) o3 dX5_take_46 ?_
        refine wk_puti (pc := 47) X hH hS (20, 0, 0) 19 tyX5_ok nmX5 (rf_20 hSh) rfl (by decide) rfl inX5 fl_X5_110 rfl rfl rfl dX5_take_47 (fun H locs hH hS => ?_)
        refine lv_aload_n (pc := 50) hx hb dX5_take_50 rfl (lv_at hl 0 rfl) ?_
        refine lv_aload_n (pc := 51) hx hb dX5_take_51 rfl (lv_at hl 0 rfl) ?_
        refine wk_getr (pc := 52) X hH (20, 0, 0) 13 (28, 0, 0) (rf_20 hSh) rfl (by decide) rfl inX5 fl_X5_31 dX5_take_52 ?_
        refine lv_iload_n (pc := 55) hx hb dX5_take_55 rfl (lv_at hl 1 rfl) ?_
        obtain ⟨o4, hg⟩ := hg
        refine wk_iald (pc := 56) X hH (28, 0, 0) (rf_28 hSh) o4 dX5_take_56 ?_
        refine wk_puti (pc := 57) X hH hS (20, 0, 0) 20 tyX5_ok nmX5 (rf_20 hSh) rfl (by decide) rfl inX5 fl_X5_72 rfl rfl rfl dX5_take_57 (fun H locs hH hS => ?_)
        refine lv_aload_n (pc := 60) hx hb dX5_take_60 rfl (lv_at hl 0 rfl) ?_
        refine wk_getr (pc := 61) X hH (20, 0, 0) 12 (27, 0, 0) (rf_20 hSh) rfl (by decide) rfl inX5 fl_X5_28 dX5_take_61 ?_
        refine lv_iload_n (pc := 64) hx hb dX5_take_64 rfl (lv_at hl 1 rfl) ?_
        refine lv_iconst (pc := 65) (v := 0) hx hb dX5_take_65 (by decide) ?_
        obtain ⟨o5, hg⟩ := hg
        refine wk_iast (pc := 66) X hH hS (27, 0, 0) (rf_27 hSh) o5 dX5_take_66 (fun H locs hH hS => ?_)
        refine lv_aload_n (pc := 67) hx hb dX5_take_67 rfl (lv_at hl 0 rfl) ?_
        refine wk_getr (pc := 68) X hH (20, 0, 0) 13 (28, 0, 0) (rf_20 hSh) rfl (by decide) rfl inX5 fl_X5_31 dX5_take_68 ?_
        refine lv_iload_n (pc := 71) hx hb dX5_take_71 rfl (lv_at hl 1 rfl) ?_
        refine lv_iconst (pc := 72) (v := (-1)) hx hb dX5_take_72 (by decide) ?_
        obtain ⟨o6, hg⟩ := hg
        refine wk_iast (pc := 73) X hH hS (28, 0, 0) (rf_28 hSh) o6 dX5_take_73 (fun H locs hH hS => ?_)
        refine lv_aload_n (pc := 74) hx hb dX5_take_74 rfl (lv_at hl 0 rfl) ?_
        refine lv_iconst (pc := 75) (v := 1) hx hb dX5_take_75 (by decide) ?_
        obtain ⟨o7, hg⟩ := hg
        refine wk_ci (wk_rV (pc := 76) (As := [.int 1]) (rest := []) X hH hS hz (rf_20 hSh) rfl ok_X5_phase (mk_X5_phase (l := l) (P := P) hSh (wk_up (wk_up (wk_up (wk_up (wk_up sg (20, 0, 0) 18 v1) (20, 0, 0) 19 ((wk_up sg (20, 0, 0) 18 v1) (27, 0, 0) (Int32.toNatClampNeg v1))) (20, 0, 0) 20 ((wk_up (wk_up sg (20, 0, 0) 18 v1) (20, 0, 0) 19 ((wk_up sg (20, 0, 0) 18 v1) (27, 0, 0) (Int32.toNatClampNeg v1))) (28, 0, 0) (Int32.toNatClampNeg v1))) (27, 0, 0) (Int32.toNatClampNeg v1) 0) (28, 0, 0) (Int32.toNatClampNeg v1) (-1)) 1  o7) ml_X5_113 ⟨by decide, by decide, by decide, by decide⟩ rfl hl.1 rfl (Nat.le_of_ble_eq_true rfl) dX5_take_76) hS (fun H locs hH hS => ?_)
        exact wk_iret (pc := 79) X hH hS hr hlocks (by rw [← hr0, mr_X5_take_L2, if_pos h1, if_neg h2]) (by rw [← hs0, ms_X5_take_L2, if_pos h1, if_neg h2]) dX5_take_79
      · have hg := hg.1 h2
        refine lv_iconst (pc := 33) (v := 0) hx hb dX5_take_33 (by decide) ?_
        exact wk_iret (pc := 34) X hH hS hr hlocks (by rw [← hr0, mr_X5_take_L2, if_pos h1, if_pos h2]) (by rw [← hs0, ms_X5_take_L2, if_pos h1, if_pos h2]) dX5_take_34
    · have hg := hg.2 h1
      refine lv_aload_n (pc := 10) hx hb dX5_take_10 rfl (lv_at hl 0 rfl) ?_
      refine wk_getr (pc := 11) X hH (20, 0, 0) 12 (27, 0, 0) (rf_20 hSh) rfl (by decide) rfl inX5 fl_X5_28 dX5_take_11 ?_
      refine lv_iload_n (pc := 14) hx hb dX5_take_14 rfl (lv_at hl 1 rfl) ?_
      obtain ⟨o8, hg⟩ := hg
      refine wk_iald (pc := 15) X hH (27, 0, 0) (rf_27 hSh) o8 dX5_take_15 ?_
      refine lv_if_ne (pc := 16) (tgt := 25) hx hb dX5_take_16 (by decide) (fun h9 => ?_) (fun h9 => ?_)
      · have hg := hg.2 h9
        refine lv_iload_n (pc := 25) hx hb dX5_take_25 rfl (lv_at hl 1 rfl) ?_
        refine lv_aload_n (pc := 26) hx hb dX5_take_26 rfl (lv_at hl 0 rfl) ?_
        refine wk_geti (pc := 27) X hH (20, 0, 0) 0 (rf_20 hSh) rfl (by decide) rfl inX5 fl_X5_53 dX5_take_27 ?_
        refine lv_icmp_ne (pc := 30) (tgt := 35) hx hb dX5_take_30 (by decide) (fun h10 => ?_) (fun h10 => ?_)
        · have hg := hg.2 h10
          refine lv_aload_n (pc := 35) hx hb dX5_take_35 rfl (lv_at hl 0 rfl) ?_
          refine lv_iload_n (pc := 36) hx hb dX5_take_36 rfl (lv_at hl 1 rfl) ?_
          refine wk_puti (pc := 37) X hH hS (20, 0, 0) 18 tyX5_ok nmX5 (rf_20 hSh) rfl (by decide) rfl inX5 fl_X5_69 rfl rfl rfl dX5_take_37 (fun H locs hH hS => ?_)
          refine lv_aload_n (pc := 40) hx hb dX5_take_40 rfl (lv_at hl 0 rfl) ?_
          refine lv_aload_n (pc := 41) hx hb dX5_take_41 rfl (lv_at hl 0 rfl) ?_
          refine wk_getr (pc := 42) X hH (20, 0, 0) 12 (27, 0, 0) (rf_20 hSh) rfl (by decide) rfl inX5 fl_X5_28 dX5_take_42 ?_
          refine lv_iload_n (pc := 45) hx hb dX5_take_45 rfl (lv_at hl 1 rfl) ?_
          obtain ⟨o11, hg⟩ := hg
          refine wk_iald (pc := 46) X hH (27, 0, 0) (rf_27 hSh) o11 dX5_take_46 ?_
          refine wk_puti (pc := 47) X hH hS (20, 0, 0) 19 tyX5_ok nmX5 (rf_20 hSh) rfl (by decide) rfl inX5 fl_X5_110 rfl rfl rfl dX5_take_47 (fun H locs hH hS => ?_)
          refine lv_aload_n (pc := 50) hx hb dX5_take_50 rfl (lv_at hl 0 rfl) ?_
          refine lv_aload_n (pc := 51) hx hb dX5_take_51 rfl (lv_at hl 0 rfl) ?_
          refine wk_getr (pc := 52) X hH (20, 0, 0) 13 (28, 0, 0) (rf_20 hSh) rfl (by decide) rfl inX5 fl_X5_31 dX5_take_52 ?_
          refine lv_iload_n (pc := 55) hx hb dX5_take_55 rfl (lv_at hl 1 rfl) ?_
          obtain ⟨o12, hg⟩ := hg
          refine wk_iald (pc := 56) X hH (28, 0, 0) (rf_28 hSh) o12 dX5_take_56 ?_
          refine wk_puti (pc := 57) X hH hS (20, 0, 0) 20 tyX5_ok nmX5 (rf_20 hSh) rfl (by decide) rfl inX5 fl_X5_72 rfl rfl rfl dX5_take_57 (fun H locs hH hS => ?_)
          refine lv_aload_n (pc := 60) hx hb dX5_take_60 rfl (lv_at hl 0 rfl) ?_
          refine wk_getr (pc := 61) X hH (20, 0, 0) 12 (27, 0, 0) (rf_20 hSh) rfl (by decide) rfl inX5 fl_X5_28 dX5_take_61 ?_
          refine lv_iload_n (pc := 64) hx hb dX5_take_64 rfl (lv_at hl 1 rfl) ?_
          refine lv_iconst (pc := 65) (v := 0) hx hb dX5_take_65 (by decide) ?_
          obtain ⟨o13, hg⟩ := hg
          refine wk_iast (pc := 66) X hH hS (27, 0, 0) (rf_27 hSh) o13 dX5_take_66 (fun H locs hH hS => ?_)
          refine lv_aload_n (pc := 67) hx hb dX5_take_67 rfl (lv_at hl 0 rfl) ?_
          refine wk_getr (pc := 68) X hH (20, 0, 0) 13 (28, 0, 0) (rf_20 hSh) rfl (by decide) rfl inX5 fl_X5_31 dX5_take_68 ?_
          refine lv_iload_n (pc := 71) hx hb dX5_take_71 rfl (lv_at hl 1 rfl) ?_
          refine lv_iconst (pc := 72) (v := (-1)) hx hb dX5_take_72 (by decide) ?_
          obtain ⟨o14, hg⟩ := hg
          refine wk_iast (pc := 73) X hH hS (28, 0, 0) (rf_28 hSh) o14 dX5_take_73 (fun H locs hH hS => ?_)
          refine lv_aload_n (pc := 74) hx hb dX5_take_74 rfl (lv_at hl 0 rfl) ?_
          refine lv_iconst (pc := 75) (v := 1) hx hb dX5_take_75 (by decide) ?_
          obtain ⟨o15, hg⟩ := hg
          refine wk_ci (wk_rV (pc := 76) (As := [.int 1]) (rest := []) X hH hS hz (rf_20 hSh) rfl ok_X5_phase (mk_X5_phase (l := l) (P := P) hSh (wk_up (wk_up (wk_up (wk_up (wk_up sg (20, 0, 0) 18 v1) (20, 0, 0) 19 ((wk_up sg (20, 0, 0) 18 v1) (27, 0, 0) (Int32.toNatClampNeg v1))) (20, 0, 0) 20 ((wk_up (wk_up sg (20, 0, 0) 18 v1) (20, 0, 0) 19 ((wk_up sg (20, 0, 0) 18 v1) (27, 0, 0) (Int32.toNatClampNeg v1))) (28, 0, 0) (Int32.toNatClampNeg v1))) (27, 0, 0) (Int32.toNatClampNeg v1) 0) (28, 0, 0) (Int32.toNatClampNeg v1) (-1)) 1  o15) ml_X5_113 ⟨by decide, by decide, by decide, by decide⟩ rfl hl.1 rfl (Nat.le_of_ble_eq_true rfl) dX5_take_76) hS (fun H locs hH hS => ?_)
          exact wk_iret (pc := 79) X hH hS hr hlocks (by rw [← hr0, mr_X5_take_L2, if_neg h1, if_neg h9, if_neg h10]) (by rw [← hs0, ms_X5_take_L2, if_neg h1, if_neg h9, if_neg h10]) dX5_take_79
        · have hg := hg.1 h10
          refine lv_iconst (pc := 33) (v := 0) hx hb dX5_take_33 (by decide) ?_
          exact wk_iret (pc := 34) X hH hS hr hlocks (by rw [← hr0, mr_X5_take_L2, if_neg h1, if_neg h9, if_pos h10]) (by rw [← hs0, ms_X5_take_L2, if_neg h1, if_neg h9, if_pos h10]) dX5_take_34
      · have hg := hg.1 h9
        refine lv_iinc (pc := 19) (k := 1) (v := (v1 + 1)) (lv' := [(1, .int (v1 + 1)), (0, .ref (ad (20, 0, 0)))]) hx hb dX5_take_19 hl rfl rfl (by decide) rfl (fun ls hl => ?_)
        refine lv_goto (pc := 22) (tgt := 2) hx hb dX5_take_22 (by decide) ?_
        exact ih sg (v1 + 1) _ _ (by rw [← hr0, mr_X5_take_L2, if_neg h1, if_pos h9]) (by rw [← hs0, ms_X5_take_L2, if_neg h1, if_pos h9]) hg ls _ _ (lv_sub hl [1, 0] rfl) hH hS
def mr_X5_take (P : Nat → Nat) (sg : wk_Sg)  : Int32 := (mr_X5_take_L2 5 P sg  0)
def ms_X5_take (P : Nat → Nat) (sg : wk_Sg)  : wk_Sg := (ms_X5_take_L2 5 P sg  0)
def mg_X5_take (P : Nat → Nat) (sg : wk_Sg)  : Prop := mg_X5_take_L2 5 P sg  0
set_option maxHeartbeats 4000000 in
set_option maxRecDepth 100000 in
theorem mk_X5_take {l : Launch} {D : va_G} {T : wk_T} {z0 : Nat} {ad : wk_K3 → Nat} {sh : wk_Sh} {P : Nat → Nat} (hSh : rf_Sh T sh) (sg : wk_Sg)   (hg : mg_X5_take P sg ) : wk_Mi l yX5_take cX5_take 2 (some .int) 1 21 D T z0 ad sh [.ref (ad (20, 0, 0))] sg (mr_X5_take P sg ) (ms_X5_take P sg ) := by
  refine Met.ofW (cc := cX5_take) (maxL := 2) (ret := (some .int)) (by decide) rfl ?_
  intro p e s m args below meth c s₁ B hml hv
  obtain ⟨rfl, hz, hH, hK⟩ := hv
  have hx := B.exec
  have hb := B.bytes
  have hr := B.returns
  have hlocks := B.notSynchronized
  have hts : ∀ w ∈ wk_B, w.before _ s = true := fun w hw => atoms_spec (ws := Cond.code yX5_take cX5_take 2 (some .int) :: wk_B) B.pre w (List.mem_cons_of_mem _ hw)
  have X : wk_C p m c cX5_take 2 s _ RX5 D T := ⟨⟨hx, hb, hml, findClass_of_methodNamed B.named, hts⟩, hK⟩
  have hS : va_S (wk_A z0) s.heap s.heap [] := va_S.rf
  have hl := lv_entry ([.ref (ad (20, 0, 0))]) (n := 2) (Nat.le_of_ble_eq_true rfl)
  rw [lg_entry_eq]
  generalize (lg_sl ([.ref (ad (20, 0, 0))]) ++ List.replicate (2 - (lg_sl ([.ref (ad (20, 0, 0))])).length) Slot.unset).toArray = ls at hl ⊢
  have hl : lv_has ls 2 [(0, .ref (ad (20, 0, 0)))] := hl
  unfold mg_X5_take at hg
  refine lv_iconst (pc := 0) (v := 0) hx hb dX5_take_0 (by decide) ?_
  refine lv_istore_n (pc := 1) (lv' := [(1, .int 0), (0, .ref (ad (20, 0, 0)))]) hx hb dX5_take_1 rfl hl (by decide) rfl (fun ls hl => ?_)
  exact mk_X5_take_L2 (P := P) hSh   X hz hr hlocks 5 sg 0 _ _ (by rw [mr_X5_take]) (by rw [ms_X5_take]) hg ls _ _ (lv_sub hl [1, 0] rfl) hH hS

def mr_X5_slotOf (P : Nat → Nat) (sg : wk_Sg) (a1 : Int32) (a2 : Int32) : Int32 := (((8 : Int32) * a1) + (a2 - a2 / (sg (20, 0, 0) 1) * (sg (20, 0, 0) 1)))
def mg_X5_slotOf (P : Nat → Nat) (sg : wk_Sg) (a1 : Int32) (a2 : Int32) : Prop := (¬ (sg (20, 0, 0) 1) = 0 ∧ True)
set_option maxHeartbeats 4000000 in
set_option maxRecDepth 100000 in
theorem mk_X5_slotOf {l : Launch} {D : va_G} {T : wk_T} {z0 : Nat} {ad : wk_K3 → Nat} {sh : wk_Sh} {P : Nat → Nat} (hSh : rf_Sh T sh) (sg : wk_Sg) (a1 : Int32) (a2 : Int32)  (hg : mg_X5_slotOf P sg a1 a2) : wk_Mi l yX5_slotOf cX5_slotOf 3 (some .int) 0 0 D T z0 ad sh [.ref (ad (20, 0, 0)), .int a1, .int a2] sg (mr_X5_slotOf P sg a1 a2) sg := by
  refine Met.ofW (cc := cX5_slotOf) (maxL := 3) (ret := (some .int)) (by decide) rfl ?_
  intro p e s m args below meth c s₁ B hml hv
  obtain ⟨rfl, hz, hH, hK⟩ := hv
  have hx := B.exec
  have hb := B.bytes
  have hr := B.returns
  have hlocks := B.notSynchronized
  have hts : ∀ w ∈ wk_B, w.before _ s = true := fun w hw => atoms_spec (ws := Cond.code yX5_slotOf cX5_slotOf 3 (some .int) :: wk_B) B.pre w (List.mem_cons_of_mem _ hw)
  have X : wk_C p m c cX5_slotOf 3 s _ RX5 D T := ⟨⟨hx, hb, hml, findClass_of_methodNamed B.named, hts⟩, hK⟩
  have hS : va_S (wk_A z0) s.heap s.heap [] := va_S.rf
  have hl := lv_entry ([.ref (ad (20, 0, 0)), .int a1, .int a2]) (n := 3) (Nat.le_of_ble_eq_true rfl)
  rw [lg_entry_eq]
  generalize (lg_sl ([.ref (ad (20, 0, 0)), .int a1, .int a2]) ++ List.replicate (3 - (lg_sl ([.ref (ad (20, 0, 0)), .int a1, .int a2])).length) Slot.unset).toArray = ls at hl ⊢
  have hl : lv_has ls 3 [(0, .ref (ad (20, 0, 0))), (1, .int a1), (2, .int a2)] := hl
  unfold mg_X5_slotOf at hg
  refine lv_bipush (pc := 0) (v := 8) hx hb dX5_slotOf_0 (by decide) ?_
  refine lv_iload_n (pc := 2) hx hb dX5_slotOf_2 rfl (lv_at hl 1 rfl) ?_
  refine lv_imul (pc := 3) hx hb dX5_slotOf_3 ?_
  refine lv_iload_n (pc := 4) hx hb dX5_slotOf_4 rfl (lv_at hl 2 rfl) ?_
  refine lv_aload_n (pc := 5) hx hb dX5_slotOf_5 rfl (lv_at hl 0 rfl) ?_
  refine wk_geti (pc := 6) X hH (20, 0, 0) 1 (rf_20 hSh) rfl (by decide) rfl inX5 fl_X5_57 dX5_slotOf_6 ?_
  obtain ⟨o1, hg⟩ := hg
  refine lv_irem (pc := 9) hx hb dX5_slotOf_9 o1 ?_
  refine lv_iadd (pc := 10) hx hb dX5_slotOf_10 ?_
  exact wk_iret (pc := 11) X hH hS hr hlocks (by rw [mr_X5_slotOf]) (rfl) dX5_slotOf_11

def mr_X5_stateOf (P : Nat → Nat) (sg : wk_Sg) (a1 : Int32) (a2 : Int32) : Int32 := (if (sg (30, 0, 0) (Int32.toNatClampNeg (mr_X5_slotOf P sg a1 a2))) = a2 then (sg (29, 0, 0) (Int32.toNatClampNeg (mr_X5_slotOf P sg a1 a2))) else 0)
def mg_X5_stateOf (P : Nat → Nat) (sg : wk_Sg) (a1 : Int32) (a2 : Int32) : Prop := (mg_X5_slotOf P sg a1 a2 ∧ (vp_in (mr_X5_slotOf P sg a1 a2) 32 ∧ (((sg (30, 0, 0) (Int32.toNatClampNeg (mr_X5_slotOf P sg a1 a2))) = a2 → (vp_in (mr_X5_slotOf P sg a1 a2) 32 ∧ True)) ∧ (¬ (sg (30, 0, 0) (Int32.toNatClampNeg (mr_X5_slotOf P sg a1 a2))) = a2 → True))))
set_option maxHeartbeats 4000000 in
set_option maxRecDepth 100000 in
theorem mk_X5_stateOf {l : Launch} {D : va_G} {T : wk_T} {z0 : Nat} {ad : wk_K3 → Nat} {sh : wk_Sh} {P : Nat → Nat} (hSh : rf_Sh T sh) (sg : wk_Sg) (a1 : Int32) (a2 : Int32)  (hg : mg_X5_stateOf P sg a1 a2) : wk_Mi l yX5_stateOf cX5_stateOf 4 (some .int) 1 22 D T z0 ad sh [.ref (ad (20, 0, 0)), .int a1, .int a2] sg (mr_X5_stateOf P sg a1 a2) sg := by
  refine Met.ofW (cc := cX5_stateOf) (maxL := 4) (ret := (some .int)) (by decide) rfl ?_
  intro p e s m args below meth c s₁ B hml hv
  obtain ⟨rfl, hz, hH, hK⟩ := hv
  have hx := B.exec
  have hb := B.bytes
  have hr := B.returns
  have hlocks := B.notSynchronized
  have hts : ∀ w ∈ wk_B, w.before _ s = true := fun w hw => atoms_spec (ws := Cond.code yX5_stateOf cX5_stateOf 4 (some .int) :: wk_B) B.pre w (List.mem_cons_of_mem _ hw)
  have X : wk_C p m c cX5_stateOf 4 s _ RX5 D T := ⟨⟨hx, hb, hml, findClass_of_methodNamed B.named, hts⟩, hK⟩
  have hS : va_S (wk_A z0) s.heap s.heap [] := va_S.rf
  have hl := lv_entry ([.ref (ad (20, 0, 0)), .int a1, .int a2]) (n := 4) (Nat.le_of_ble_eq_true rfl)
  rw [lg_entry_eq]
  generalize (lg_sl ([.ref (ad (20, 0, 0)), .int a1, .int a2]) ++ List.replicate (4 - (lg_sl ([.ref (ad (20, 0, 0)), .int a1, .int a2])).length) Slot.unset).toArray = ls at hl ⊢
  have hl : lv_has ls 4 [(0, .ref (ad (20, 0, 0))), (1, .int a1), (2, .int a2)] := hl
  unfold mg_X5_stateOf at hg
  refine lv_aload_n (pc := 0) hx hb dX5_stateOf_0 rfl (lv_at hl 0 rfl) ?_
  refine lv_iload_n (pc := 1) hx hb dX5_stateOf_1 rfl (lv_at hl 1 rfl) ?_
  refine lv_iload_n (pc := 2) hx hb dX5_stateOf_2 rfl (lv_at hl 2 rfl) ?_
  obtain ⟨o1, hg⟩ := hg
  refine wk_ci (wk_rV (pc := 3) (As := [.int a1, .int a2]) (rest := []) X hH hS hz (rf_20 hSh) rfl ok_X5_slotOf (mk_X5_slotOf (l := l) (P := P) hSh sg a1 a2  o1) ml_X5_86 ⟨by decide, by decide, by decide, by decide⟩ rfl hl.1 rfl (Nat.le_of_ble_eq_true rfl) dX5_stateOf_3) hS (fun H locs hH hS => ?_)
  refine lv_istore_n (pc := 6) (lv' := [(3, .int (mr_X5_slotOf P sg a1 a2)), (0, .ref (ad (20, 0, 0))), (1, .int a1), (2, .int a2)]) hx hb dX5_stateOf_6 rfl hl (by decide) rfl (fun ls hl => ?_)
  refine lv_aload_n (pc := 7) hx hb dX5_stateOf_7 rfl (lv_at hl 1 rfl) ?_
  refine wk_getr (pc := 8) X hH (20, 0, 0) 15 (30, 0, 0) (rf_20 hSh) rfl (by decide) rfl inX5 fl_X5_37 dX5_stateOf_8 ?_
  refine lv_iload_n (pc := 11) hx hb dX5_stateOf_11 rfl (lv_at hl 0 rfl) ?_
  obtain ⟨o2, hg⟩ := hg
  refine wk_iald (pc := 12) X hH (30, 0, 0) (rf_30 hSh) o2 dX5_stateOf_12 ?_
  refine lv_iload_n (pc := 13) hx hb dX5_stateOf_13 rfl (lv_at hl 3 rfl) ?_
  refine lv_icmp_ne (pc := 14) (tgt := 26) hx hb dX5_stateOf_14 (by decide) (fun h3 => ?_) (fun h3 => ?_)
  · have hg := hg.2 h3
    refine lv_iconst (pc := 26) (v := 0) hx hb dX5_stateOf_26 (by decide) ?_
    exact wk_iret (pc := 27) X hH hS hr hlocks (by rw [mr_X5_stateOf, if_neg h3]) (rfl) dX5_stateOf_27
  · have hg := hg.1 h3
    refine lv_aload_n (pc := 17) hx hb dX5_stateOf_17 rfl (lv_at hl 1 rfl) ?_
    refine wk_getr (pc := 18) X hH (20, 0, 0) 14 (29, 0, 0) (rf_20 hSh) rfl (by decide) rfl inX5 fl_X5_34 dX5_stateOf_18 ?_
    refine lv_iload_n (pc := 21) hx hb dX5_stateOf_21 rfl (lv_at hl 0 rfl) ?_
    obtain ⟨o4, hg⟩ := hg
    refine wk_iald (pc := 22) X hH (29, 0, 0) (rf_29 hSh) o4 dX5_stateOf_22 ?_
    refine lv_goto (pc := 23) (tgt := 27) hx hb dX5_stateOf_23 (by decide) ?_
    exact wk_iret (pc := 27) X hH hS hr hlocks (by rw [mr_X5_stateOf, if_pos h3]) (rfl) dX5_stateOf_27
