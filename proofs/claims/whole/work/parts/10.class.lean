def ms_X1_forgetRequest (P : Nat → Nat) (sg : wk_Sg) (i : Nat) : wk_Sg := (wk_up (wk_up sg (4, i, 0) 8 0) (4, i, 0) 9 (-1))
set_option maxHeartbeats 4000000 in
set_option maxRecDepth 100000 in
theorem mk_X1_forgetRequest {l : Launch} {D : va_G} {T : wk_T} {z0 : Nat} {ad : wk_K3 → Nat} {sh : wk_Sh} {P : Nat → Nat} (hSh : sc_Sh T P sh) (sg : wk_Sg) (i : Nat) (hi : i < P 0)  : wk_Mv l yX1_forgetRequest cX1_forgetRequest 1 none 0 0 D T z0 ad sh [.ref (ad (4, i, 0))] sg (ms_X1_forgetRequest P sg i) := by
  refine Met.ofW (cc := cX1_forgetRequest) (maxL := 1) (ret := none) (by decide) rfl ?_
  intro p e s m args below meth c s₁ B hml hv
  obtain ⟨rfl, hz, hH, hK⟩ := hv
  have hx := B.exec
  have hb := B.bytes
  have hr := B.returns
  have hlocks := B.notSynchronized
  have hts : ∀ w ∈ wk_B, w.before _ s = true := fun w hw => atoms_spec (ws := Cond.code yX1_forgetRequest cX1_forgetRequest 1 none :: wk_B) B.pre w (List.mem_cons_of_mem _ hw)
  have X : wk_C p m c cX1_forgetRequest 1 s _ RX1 D T := ⟨⟨hx, hb, hml, findClass_of_methodNamed B.named, hts⟩, hK⟩
  have hS : va_S (wk_A z0) s.heap s.heap [] := va_S.rf
  have hl := lv_entry ([.ref (ad (4, i, 0))]) (n := 1) (Nat.le_of_ble_eq_true rfl)
  rw [lg_entry_eq]
  generalize (lg_sl ([.ref (ad (4, i, 0))]) ++ List.replicate (1 - (lg_sl ([.ref (ad (4, i, 0))])).length) Slot.unset).toArray = ls at hl ⊢
  have hl : lv_has ls 1 [(0, .ref (ad (4, i, 0)))] := hl
  refine lv_aload_n (pc := 0) hx hb dX1_forgetRequest_0 rfl (lv_at hl 0 rfl) ?_
  refine lv_iconst (pc := 1) (v := 0) hx hb dX1_forgetRequest_1 (by decide) ?_
  refine wk_puti (pc := 2) X hH hS (4, i, 0) 8 tyX1_ok nmX1 (sc_4 hSh hi) rfl (by decide) rfl inX1 fl_X1_25 rfl rfl rfl dX1_forgetRequest_2 (fun H locs hH hS => ?_)
  refine lv_aload_n (pc := 5) hx hb dX1_forgetRequest_5 rfl (lv_at hl 0 rfl) ?_
  refine lv_iconst (pc := 6) (v := (-1)) hx hb dX1_forgetRequest_6 (by decide) ?_
  refine wk_puti (pc := 7) X hH hS (4, i, 0) 9 tyX1_ok nmX1 (sc_4 hSh hi) rfl (by decide) rfl inX1 fl_X1_28 rfl rfl rfl dX1_forgetRequest_7 (fun H locs hH hS => ?_)
  exact wk_vret (pc := 10) X hH hS hr hlocks (by rw [ms_X1_forgetRequest]) dX1_forgetRequest_10

def ms_X0_begin (P : Nat → Nat) (sg : wk_Sg) (i1 : Nat) : wk_Sg := (ms_X1_forgetRequest P (wk_up (wk_up (wk_up sg (10, 0, 0) 6 (sg (4, i1, 0) 0)) (10, 0, 0) 7 ((wk_up sg (10, 0, 0) 6 (sg (4, i1, 0) 0)) (4, i1, 0) 8)) (10, 0, 0) 8 ((wk_up (wk_up sg (10, 0, 0) 6 (sg (4, i1, 0) 0)) (10, 0, 0) 7 ((wk_up sg (10, 0, 0) 6 (sg (4, i1, 0) 0)) (4, i1, 0) 8)) (4, i1, 0) 9)) i1)
set_option maxHeartbeats 4000000 in
set_option maxRecDepth 100000 in
theorem mk_X0_begin {l : Launch} {D : va_G} {T : wk_T} {z0 : Nat} {ad : wk_K3 → Nat} {sh : wk_Sh} {P : Nat → Nat} (hSh : sc_Sh T P sh) (sg : wk_Sg) (i1 : Nat) (hi1 : i1 < P 0)  : wk_Mv l yX0_begin cX0_begin 2 none 1 20 D T z0 ad sh [.ref (ad (10, 0, 0)), .ref (ad (4, i1, 0))] sg (ms_X0_begin P sg i1) := by
  refine Met.ofW (cc := cX0_begin) (maxL := 2) (ret := none) (by decide) rfl ?_
  intro p e s m args below meth c s₁ B hml hv
  obtain ⟨rfl, hz, hH, hK⟩ := hv
  have hx := B.exec
  have hb := B.bytes
  have hr := B.returns
  have hlocks := B.notSynchronized
  have hts : ∀ w ∈ wk_B, w.before _ s = true := fun w hw => atoms_spec (ws := Cond.code yX0_begin cX0_begin 2 none :: wk_B) B.pre w (List.mem_cons_of_mem _ hw)
  have X : wk_C p m c cX0_begin 2 s _ RX0 D T := ⟨⟨hx, hb, hml, findClass_of_methodNamed B.named, hts⟩, hK⟩
  have hS : va_S (wk_A z0) s.heap s.heap [] := va_S.rf
  have hl := lv_entry ([.ref (ad (10, 0, 0)), .ref (ad (4, i1, 0))]) (n := 2) (Nat.le_of_ble_eq_true rfl)
  rw [lg_entry_eq]
  generalize (lg_sl ([.ref (ad (10, 0, 0)), .ref (ad (4, i1, 0))]) ++ List.replicate (2 - (lg_sl ([.ref (ad (10, 0, 0)), .ref (ad (4, i1, 0))])).length) Slot.unset).toArray = ls at hl ⊢
  have hl : lv_has ls 2 [(0, .ref (ad (10, 0, 0))), (1, .ref (ad (4, i1, 0)))] := hl
  refine lv_aload_n (pc := 0) hx hb dX0_begin_0 rfl (lv_at hl 0 rfl) ?_
  refine lv_aload_n (pc := 1) hx hb dX0_begin_1 rfl (lv_at hl 1 rfl) ?_
  refine wk_geti (pc := 2) X hH (4, i1, 0) 0 (sc_4 hSh hi1) rfl (by decide) rfl inX1 fl_X0_107 dX0_begin_2 ?_
  refine wk_puti (pc := 5) X hH hS (10, 0, 0) 6 tyX0_ok nmX0 (sc_10 hSh) rfl (by decide) rfl inX0 fl_X0_23 rfl rfl rfl dX0_begin_5 (fun H locs hH hS => ?_)
  refine lv_aload_n (pc := 8) hx hb dX0_begin_8 rfl (lv_at hl 0 rfl) ?_
  refine lv_aload_n (pc := 9) hx hb dX0_begin_9 rfl (lv_at hl 1 rfl) ?_
  refine wk_geti (pc := 10) X hH (4, i1, 0) 8 (sc_4 hSh hi1) rfl (by decide) rfl inX1 fl_X0_97 dX0_begin_10 ?_
  refine wk_puti (pc := 13) X hH hS (10, 0, 0) 7 tyX0_ok nmX0 (sc_10 hSh) rfl (by decide) rfl inX0 fl_X0_26 rfl rfl rfl dX0_begin_13 (fun H locs hH hS => ?_)
  refine lv_aload_n (pc := 16) hx hb dX0_begin_16 rfl (lv_at hl 0 rfl) ?_
  refine lv_aload_n (pc := 17) hx hb dX0_begin_17 rfl (lv_at hl 1 rfl) ?_
  refine wk_geti (pc := 18) X hH (4, i1, 0) 9 (sc_4 hSh hi1) rfl (by decide) rfl inX1 fl_X0_110 dX0_begin_18 ?_
  refine wk_puti (pc := 21) X hH hS (10, 0, 0) 8 tyX0_ok nmX0 (sc_10 hSh) rfl (by decide) rfl inX0 fl_X0_29 rfl rfl rfl dX0_begin_21 (fun H locs hH hS => ?_)
  refine lv_aload_n (pc := 24) hx hb dX0_begin_24 rfl (lv_at hl 1 rfl) ?_
  refine wk_cv (wk_rV (pc := 25) (As := []) (rest := []) X hH hS hz (sc_4 hSh hi1) rfl ok_X1_forgetRequest (mk_X1_forgetRequest (l := l) (P := P) hSh (wk_up (wk_up (wk_up sg (10, 0, 0) 6 (sg (4, i1, 0) 0)) (10, 0, 0) 7 ((wk_up sg (10, 0, 0) 6 (sg (4, i1, 0) 0)) (4, i1, 0) 8)) (10, 0, 0) 8 ((wk_up (wk_up sg (10, 0, 0) 6 (sg (4, i1, 0) 0)) (10, 0, 0) 7 ((wk_up sg (10, 0, 0) 6 (sg (4, i1, 0) 0)) (4, i1, 0) 8)) (4, i1, 0) 9)) i1 hi1 ) ml_X0_113 ⟨by decide, by decide, by decide, by decide⟩ rfl hl.1 rfl (Nat.le_of_ble_eq_true rfl) dX0_begin_25) hS (fun H locs hH hS => ?_)
  exact wk_vret (pc := 28) X hH hS hr hlocks (by rw [ms_X0_begin]) dX0_begin_28

def mr_X0_lowestWithRequest_L2 : Nat → (Nat → Nat) → wk_Sg → Int32 → Int32
  | 0, _, _, _ => 0
  | n + 1, P, sg, v1 => (if (nI (P 0)) ≤ v1 then (-1) else (if (sg (4, (Int32.toNatClampNeg v1), 0) 8) = 0 then (mr_X0_lowestWithRequest_L2 n P sg  (v1 + 1)) else v1))
def mg_X0_lowestWithRequest_L2 : Nat → (Nat → Nat) → wk_Sg → Int32 → Prop
  | 0, _, _, _ => False
  | n + 1, P, sg, v1 => (((nI (P 0)) ≤ v1 → True) ∧ (¬ (nI (P 0)) ≤ v1 → (vp_in v1 (P 0) ∧ (((sg (4, (Int32.toNatClampNeg v1), 0) 8) = 0 → mg_X0_lowestWithRequest_L2 n P sg  (v1 + 1)) ∧ (¬ (sg (4, (Int32.toNatClampNeg v1), 0) 8) = 0 → True)))))
set_option maxHeartbeats 4000000 in
set_option maxRecDepth 100000 in
theorem mk_X0_lowestWithRequest_L2 {l : Launch} {D : va_G} {T : wk_T} {z0 : Nat} {ad : wk_K3 → Nat} {sh : wk_Sh} {P : Nat → Nat} (hSh : sc_Sh T P sh)   {p : Program} {e : Env} {s : State} {m : MethodId} {args : Array Value} {below : List Frame} {meth : Method} {c : Code} (X : wk_C p m c cX0_lowestWithRequest 2 s args RX0 D T) (hz : z0 ≤ s.heap.size) (hr : meth.sig.returnType = some .int) (hlocks : meth.locks = false) :
    ∀ (n : Nat) (sg : wk_Sg) (v1 : Int32) (r0 : Int32), mr_X0_lowestWithRequest_L2 n P sg  v1 = r0 → mg_X0_lowestWithRequest_L2 n P sg  v1 → ∀ (ls : Array Slot) (H : Heap) (locs : List Loc), lv_has ls 2 [(0, .ref (ad (10, 0, 0))), (1, .int v1)] → wk_H D z0 ad sh sg H → va_S (wk_A z0) s.heap H locs → W p l e (wk_rm 0 0) s m args below meth c H locs 0 0 (MQ below (wk_Qi D z0 ad sh r0 sg) args s 0 0 (wk_A z0)) (F0 m 2 ls []) := by
  have hx := X.1.1
  have hb := X.1.2.1
  have hts := X.1.2.2.2.2
  intro n
  induction n with
  | zero =>
    intro sg v1 r0 hr0 hg ls H locs hl hH hS
    exact (show False from hg).elim
  | succ n ih =>
    intro sg v1 r0 hr0 hg ls H locs hl hH hS
    rw [mg_X0_lowestWithRequest_L2] at hg
    refine lv_iload_n (pc := 2) hx hb dX0_lowestWithRequest_2 rfl (lv_at hl 1 rfl) ?_
    refine lv_aload_n (pc := 3) hx hb dX0_lowestWithRequest_3 rfl (lv_at hl 0 rfl) ?_
    refine wk_getr (pc := 4) X hH (10, 0, 0) 0 (3, 0, 0) (sc_10 hSh) rfl (by decide) rfl inX0 fl_X0_32 dX0_lowestWithRequest_4 ?_
    refine wk_alenR (pc := 7) X hH (3, 0, 0) 1 (sc_3 hSh) rfl dX0_lowestWithRequest_7 ?_
    refine lv_icmp_ge (pc := 8) (tgt := 31) hx hb dX0_lowestWithRequest_8 (by decide) (fun h1 => ?_) (fun h1 => ?_)
    · have hg := hg.1 h1
      refine lv_iconst (pc := 31) (v := (-1)) hx hb dX0_lowestWithRequest_31 (by decide) ?_
      exact wk_iret (pc := 32) X hH hS hr hlocks (by rw [← hr0, mr_X0_lowestWithRequest_L2, if_pos h1]) (rfl) dX0_lowestWithRequest_32
    · have hg := hg.2 h1
      refine lv_aload_n (pc := 11) hx hb dX0_lowestWithRequest_11 rfl (lv_at hl 0 rfl) ?_
      refine wk_getr (pc := 12) X hH (10, 0, 0) 0 (3, 0, 0) (sc_10 hSh) rfl (by decide) rfl inX0 fl_X0_32 dX0_lowestWithRequest_12 ?_
      refine lv_iload_n (pc := 15) hx hb dX0_lowestWithRequest_15 rfl (lv_at hl 1 rfl) ?_
      obtain ⟨o2, hg⟩ := hg
      have b3 := wk_inlt o2
      refine wk_aald (pc := 16) X hH (3, 0, 0) 1 (4, (Int32.toNatClampNeg v1), 0) (sc_3 hSh) rfl o2 (lk_3p b3) dX0_lowestWithRequest_16 ?_
      refine wk_geti (pc := 17) X hH (4, (Int32.toNatClampNeg v1), 0) 8 (sc_4 hSh b3) rfl (by decide) rfl inX1 fl_X0_97 dX0_lowestWithRequest_17 ?_
      refine lv_if_eq (pc := 20) (tgt := 25) hx hb dX0_lowestWithRequest_20 (by decide) (fun h4 => ?_) (fun h4 => ?_)
      · have hg := hg.1 h4
        refine lv_iinc (pc := 25) (k := 1) (v := (v1 + 1)) (lv' := [(1, .int (v1 + 1)), (0, .ref (ad (10, 0, 0)))]) hx hb dX0_lowestWithRequest_25 hl rfl rfl (by decide) rfl (fun ls hl => ?_)
        refine lv_goto (pc := 28) (tgt := 2) hx hb dX0_lowestWithRequest_28 (by decide) ?_
        exact ih sg (v1 + 1) _ (by rw [← hr0, mr_X0_lowestWithRequest_L2, if_neg h1, if_pos h4]) hg ls _ _ (lv_sub hl [1, 0] rfl) hH hS
      · have hg := hg.2 h4
        refine lv_iload_n (pc := 23) hx hb dX0_lowestWithRequest_23 rfl (lv_at hl 1 rfl) ?_
        exact wk_iret (pc := 24) X hH hS hr hlocks (by rw [← hr0, mr_X0_lowestWithRequest_L2, if_neg h1, if_neg h4]) (rfl) dX0_lowestWithRequest_24
def mr_X0_lowestWithRequest (P : Nat → Nat) (sg : wk_Sg)  : Int32 := (mr_X0_lowestWithRequest_L2 5 P sg  0)
def mg_X0_lowestWithRequest (P : Nat → Nat) (sg : wk_Sg)  : Prop := mg_X0_lowestWithRequest_L2 5 P sg  0
set_option maxHeartbeats 4000000 in
set_option maxRecDepth 100000 in
theorem mk_X0_lowestWithRequest {l : Launch} {D : va_G} {T : wk_T} {z0 : Nat} {ad : wk_K3 → Nat} {sh : wk_Sh} {P : Nat → Nat} (hSh : sc_Sh T P sh) (sg : wk_Sg)   (hg : mg_X0_lowestWithRequest P sg ) : wk_Mi l yX0_lowestWithRequest cX0_lowestWithRequest 2 (some .int) 0 0 D T z0 ad sh [.ref (ad (10, 0, 0))] sg (mr_X0_lowestWithRequest P sg ) sg := by
  refine Met.ofW (cc := cX0_lowestWithRequest) (maxL := 2) (ret := (some .int)) (by decide) rfl ?_
  intro p e s m args below meth c s₁ B hml hv
  obtain ⟨rfl, hz, hH, hK⟩ := hv
  have hx := B.exec
  have hb := B.bytes
  have hr := B.returns
  have hlocks := B.notSynchronized
  have hts : ∀ w ∈ wk_B, w.before _ s = true := fun w hw => atoms_spec (ws := Cond.code yX0_lowestWithRequest cX0_lowestWithRequest 2 (some .int) :: wk_B) B.pre w (List.mem_cons_of_mem _ hw)
  have X : wk_C p m c cX0_lowestWithRequest 2 s _ RX0 D T := ⟨⟨hx, hb, hml, findClass_of_methodNamed B.named, hts⟩, hK⟩
  have hS : va_S (wk_A z0) s.heap s.heap [] := va_S.rf
  have hl := lv_entry ([.ref (ad (10, 0, 0))]) (n := 2) (Nat.le_of_ble_eq_true rfl)
  rw [lg_entry_eq]
  generalize (lg_sl ([.ref (ad (10, 0, 0))]) ++ List.replicate (2 - (lg_sl ([.ref (ad (10, 0, 0))])).length) Slot.unset).toArray = ls at hl ⊢
  have hl : lv_has ls 2 [(0, .ref (ad (10, 0, 0)))] := hl
  unfold mg_X0_lowestWithRequest at hg
  refine lv_iconst (pc := 0) (v := 0) hx hb dX0_lowestWithRequest_0 (by decide) ?_
  refine lv_istore_n (pc := 1) (lv' := [(1, .int 0), (0, .ref (ad (10, 0, 0)))]) hx hb dX0_lowestWithRequest_1 rfl hl (by decide) rfl (fun ls hl => ?_)
  exact mk_X0_lowestWithRequest_L2 (P := P) hSh   X hz hr hlocks 5 sg 0 _ (by rw [mr_X0_lowestWithRequest]) hg ls _ _ (lv_sub hl [1, 0] rfl) hH hS

def mr_X4_within (P : Nat → Nat) (sg : wk_Sg) (a1 : Int32) (a2 : Int32) : Int32 := (if a1 < 0 then 0 else (if a2 ≤ a1 then 0 else 1))
theorem mz_X4_within (P : Nat → Nat) (sg : wk_Sg) (a1 : Int32) (a2 : Int32) : mr_X4_within P sg a1 a2 = 0 ∨ mr_X4_within P sg a1 a2 = 1 := by
  unfold mr_X4_within
  repeat' split
  all_goals first | exact Or.inl rfl | exact Or.inr rfl
set_option maxHeartbeats 4000000 in
set_option maxRecDepth 100000 in
theorem mk_X4_within {l : Launch} {D : va_G} {T : wk_T} {z0 : Nat} {ad : wk_K3 → Nat} {sh : wk_Sh} {P : Nat → Nat} (sg : wk_Sg) (a1 : Int32) (a2 : Int32)   : wk_Mi l yX4_within cX4_within 2 (some .boolean) 0 0 D T z0 ad sh [.int a1, .int a2] sg (mr_X4_within P sg a1 a2) sg := by
  refine Met.ofW (cc := cX4_within) (maxL := 2) (ret := (some .boolean)) (by decide) rfl ?_
  intro p e s m args below meth c s₁ B hml hv
  obtain ⟨rfl, hz, hH, hK⟩ := hv
  have hx := B.exec
  have hb := B.bytes
  have hr := B.returns
  have hlocks := B.notSynchronized
  have hts : ∀ w ∈ wk_B, w.before _ s = true := fun w hw => atoms_spec (ws := Cond.code yX4_within cX4_within 2 (some .boolean) :: wk_B) B.pre w (List.mem_cons_of_mem _ hw)
  have X : wk_C p m c cX4_within 2 s _ RX4 D T := ⟨⟨hx, hb, hml, findClass_of_methodNamed B.named, hts⟩, hK⟩
  have hS : va_S (wk_A z0) s.heap s.heap [] := va_S.rf
  have hl := lv_entry ([.int a1, .int a2]) (n := 2) (Nat.le_of_ble_eq_true rfl)
  rw [lg_entry_eq]
  generalize (lg_sl ([.int a1, .int a2]) ++ List.replicate (2 - (lg_sl ([.int a1, .int a2])).length) Slot.unset).toArray = ls at hl ⊢
  have hl : lv_has ls 2 [(0, .int a1), (1, .int a2)] := hl
  refine lv_iload_n (pc := 0) hx hb dX4_within_0 rfl (lv_at hl 0 rfl) ?_
  refine lv_if_lt (pc := 1) (tgt := 13) hx hb dX4_within_1 (by decide) (fun h1 => ?_) (fun h1 => ?_)
  · skip
    refine lv_iconst (pc := 13) (v := 0) hx hb dX4_within_13 (by decide) ?_
    exact wk_zret (pc := 14) X hH hS hr hlocks (Or.inl rfl) (by rw [mr_X4_within, if_pos h1]) (rfl) dX4_within_14
  · skip
    refine lv_iload_n (pc := 4) hx hb dX4_within_4 rfl (lv_at hl 0 rfl) ?_
    refine lv_iload_n (pc := 5) hx hb dX4_within_5 rfl (lv_at hl 1 rfl) ?_
    refine lv_icmp_ge (pc := 6) (tgt := 13) hx hb dX4_within_6 (by decide) (fun h2 => ?_) (fun h2 => ?_)
    · skip
      refine lv_iconst (pc := 13) (v := 0) hx hb dX4_within_13 (by decide) ?_
      exact wk_zret (pc := 14) X hH hS hr hlocks (Or.inl rfl) (by rw [mr_X4_within, if_neg h1, if_pos h2]) (rfl) dX4_within_14
    · skip
      refine lv_iconst (pc := 9) (v := 1) hx hb dX4_within_9 (by decide) ?_
      refine lv_goto (pc := 10) (tgt := 14) hx hb dX4_within_10 (by decide) ?_
      exact wk_zret (pc := 14) X hH hS hr hlocks (Or.inr rfl) (by rw [mr_X4_within, if_neg h1, if_neg h2]) (rfl) dX4_within_14

def mr_X1_indexFor (P : Nat → Nat) (sg : wk_Sg) (i : Nat) (a1 : Int32) : Int32 := (a1 - a1 / (nI (P 1)) * (nI (P 1)))
def mg_X1_indexFor (P : Nat → Nat) (sg : wk_Sg) (i : Nat) (a1 : Int32) : Prop := (¬ (nI (P 1)) = 0 ∧ True)
set_option maxHeartbeats 4000000 in
set_option maxRecDepth 100000 in
theorem mk_X1_indexFor {l : Launch} {D : va_G} {T : wk_T} {z0 : Nat} {ad : wk_K3 → Nat} {sh : wk_Sh} {P : Nat → Nat} (hSh : sc_Sh T P sh) (sg : wk_Sg) (i : Nat) (a1 : Int32) (hi : i < P 0) (hg : mg_X1_indexFor P sg i a1) : wk_Mi l yX1_indexFor cX1_indexFor 2 (some .int) 0 0 D T z0 ad sh [.ref (ad (4, i, 0)), .int a1] sg (mr_X1_indexFor P sg i a1) sg := by
  refine Met.ofW (cc := cX1_indexFor) (maxL := 2) (ret := (some .int)) (by decide) rfl ?_
  intro p e s m args below meth c s₁ B hml hv
  obtain ⟨rfl, hz, hH, hK⟩ := hv
  have hx := B.exec
  have hb := B.bytes
  have hr := B.returns
  have hlocks := B.notSynchronized
  have hts : ∀ w ∈ wk_B, w.before _ s = true := fun w hw => atoms_spec (ws := Cond.code yX1_indexFor cX1_indexFor 2 (some .int) :: wk_B) B.pre w (List.mem_cons_of_mem _ hw)
  have X : wk_C p m c cX1_indexFor 2 s _ RX1 D T := ⟨⟨hx, hb, hml, findClass_of_methodNamed B.named, hts⟩, hK⟩
  have hS : va_S (wk_A z0) s.heap s.heap [] := va_S.rf
  have hl := lv_entry ([.ref (ad (4, i, 0)), .int a1]) (n := 2) (Nat.le_of_ble_eq_true rfl)
  rw [lg_entry_eq]
  generalize (lg_sl ([.ref (ad (4, i, 0)), .int a1]) ++ List.replicate (2 - (lg_sl ([.ref (ad (4, i, 0)), .int a1])).length) Slot.unset).toArray = ls at hl ⊢
  have hl : lv_has ls 2 [(0, .ref (ad (4, i, 0))), (1, .int a1)] := hl
  unfold mg_X1_indexFor at hg
  refine lv_iload_n (pc := 0) hx hb dX1_indexFor_0 rfl (lv_at hl 1 rfl) ?_
  refine lv_aload_n (pc := 1) hx hb dX1_indexFor_1 rfl (lv_at hl 0 rfl) ?_
  refine wk_getr (pc := 2) X hH (4, i, 0) 4 (7, i, 0) (sc_4 hSh hi) rfl (by decide) rfl inX1 fl_X1_43 dX1_indexFor_2 ?_
  refine wk_alenR (pc := 5) X hH (7, i, 0) 2 (sc_7 hSh hi) rfl dX1_indexFor_5 ?_
  obtain ⟨o1, hg⟩ := hg
  refine lv_irem (pc := 6) hx hb dX1_indexFor_6 o1 ?_
  exact wk_iret (pc := 7) X hH hS hr hlocks (by rw [mr_X1_indexFor]) (rfl) dX1_indexFor_7

def mg_X1_slotFor (P : Nat → Nat) (sg : wk_Sg) (i : Nat) (a1 : Int32) : Prop := (mg_X1_indexFor P sg i a1 ∧ (vp_in (mr_X1_indexFor P sg i a1) (P 1) ∧ True))
set_option maxHeartbeats 4000000 in
set_option maxRecDepth 100000 in
theorem mk_X1_slotFor {l : Launch} {D : va_G} {T : wk_T} {z0 : Nat} {ad : wk_K3 → Nat} {sh : wk_Sh} {P : Nat → Nat} (hSh : sc_Sh T P sh) (sg : wk_Sg) (i : Nat) (a1 : Int32) (hi : i < P 0) (hg : mg_X1_slotFor P sg i a1) : wk_Mr l yX1_slotFor cX1_slotFor 2 (some (.object "SnoopingCores$Slot")) 1 21 D T z0 ad sh [.ref (ad (4, i, 0)), .int a1] sg (8, i, (Int32.toNatClampNeg (mr_X1_indexFor P sg i a1))) sg := by
  refine Met.ofW (cc := cX1_slotFor) (maxL := 2) (ret := (some (.object "SnoopingCores$Slot"))) (by decide) rfl ?_
  intro p e s m args below meth c s₁ B hml hv
  obtain ⟨rfl, hz, hH, hK⟩ := hv
  have hx := B.exec
  have hb := B.bytes
  have hr := B.returns
  have hlocks := B.notSynchronized
  have hts : ∀ w ∈ wk_B, w.before _ s = true := fun w hw => atoms_spec (ws := Cond.code yX1_slotFor cX1_slotFor 2 (some (.object "SnoopingCores$Slot")) :: wk_B) B.pre w (List.mem_cons_of_mem _ hw)
  have X : wk_C p m c cX1_slotFor 2 s _ RX1 D T := ⟨⟨hx, hb, hml, findClass_of_methodNamed B.named, hts⟩, hK⟩
  have hS : va_S (wk_A z0) s.heap s.heap [] := va_S.rf
  have hl := lv_entry ([.ref (ad (4, i, 0)), .int a1]) (n := 2) (Nat.le_of_ble_eq_true rfl)
  rw [lg_entry_eq]
  generalize (lg_sl ([.ref (ad (4, i, 0)), .int a1]) ++ List.replicate (2 - (lg_sl ([.ref (ad (4, i, 0)), .int a1])).length) Slot.unset).toArray = ls at hl ⊢
  have hl : lv_has ls 2 [(0, .ref (ad (4, i, 0))), (1, .int a1)] := hl
  unfold mg_X1_slotFor at hg
  refine lv_aload_n (pc := 0) hx hb dX1_slotFor_0 rfl (lv_at hl 0 rfl) ?_
  refine wk_getr (pc := 1) X hH (4, i, 0) 4 (7, i, 0) (sc_4 hSh hi) rfl (by decide) rfl inX1 fl_X1_43 dX1_slotFor_1 ?_
  refine lv_aload_n (pc := 4) hx hb dX1_slotFor_4 rfl (lv_at hl 0 rfl) ?_
  refine lv_iload_n (pc := 5) hx hb dX1_slotFor_5 rfl (lv_at hl 1 rfl) ?_
  obtain ⟨o1, hg⟩ := hg
  refine wk_ci (wk_rV (pc := 6) (As := [.int a1]) (rest := [.ref (ad (7, i, 0))]) X hH hS hz (sc_4 hSh hi) rfl ok_X1_indexFor (mk_X1_indexFor (l := l) (P := P) hSh sg i a1 hi o1) ml_X1_55 ⟨by decide, by decide, by decide, by decide⟩ rfl hl.1 rfl (Nat.le_of_ble_eq_true rfl) dX1_slotFor_6) hS (fun H locs hH hS => ?_)
  obtain ⟨o2, hg⟩ := hg
  have b3 := wk_inlt o2
  refine wk_aald (pc := 9) X hH (7, i, 0) 2 (8, i, (Int32.toNatClampNeg (mr_X1_indexFor P sg i a1))) (sc_7 hSh hi) rfl o2 (lk_7p b3) dX1_slotFor_9 ?_
  exact wk_aret (pc := 10) X hH hS hr hlocks (rfl) (rfl) dX1_slotFor_10
theorem mb_X1_slotFor (P : Nat → Nat) (sg : wk_Sg) (i : Nat) (a1 : Int32) (h : mg_X1_slotFor P sg i a1) : (Int32.toNatClampNeg (mr_X1_indexFor P sg i a1)) < P 1 := by
  unfold mg_X1_slotFor at h
  exact wk_inlt h.2.1

def mr_X3_isNewerThanMemory (P : Nat → Nat) (sg : wk_Sg) (i : Nat) (j : Nat) : Int32 := (if (sg (8, i, j) 1) = 3 then 1 else (if (sg (8, i, j) 1) = 4 then 1 else 0))
theorem mz_X3_isNewerThanMemory (P : Nat → Nat) (sg : wk_Sg) (i : Nat) (j : Nat) : mr_X3_isNewerThanMemory P sg i j = 0 ∨ mr_X3_isNewerThanMemory P sg i j = 1 := by
  unfold mr_X3_isNewerThanMemory
  repeat' split
  all_goals first | exact Or.inl rfl | exact Or.inr rfl
set_option maxHeartbeats 4000000 in
set_option maxRecDepth 100000 in
theorem mk_X3_isNewerThanMemory {l : Launch} {D : va_G} {T : wk_T} {z0 : Nat} {ad : wk_K3 → Nat} {sh : wk_Sh} {P : Nat → Nat} (hSh : sc_Sh T P sh) (sg : wk_Sg) (i : Nat) (j : Nat) (hi : i < P 0) (hj : j < P 1)  : wk_Mi l yX3_isNewerThanMemory cX3_isNewerThanMemory 1 (some .boolean) 0 0 D T z0 ad sh [.ref (ad (8, i, j))] sg (mr_X3_isNewerThanMemory P sg i j) sg := by
  refine Met.ofW (cc := cX3_isNewerThanMemory) (maxL := 1) (ret := (some .boolean)) (by decide) rfl ?_
  intro p e s m args below meth c s₁ B hml hv
  obtain ⟨rfl, hz, hH, hK⟩ := hv
  have hx := B.exec
  have hb := B.bytes
  have hr := B.returns
  have hlocks := B.notSynchronized
  have hts : ∀ w ∈ wk_B, w.before _ s = true := fun w hw => atoms_spec (ws := Cond.code yX3_isNewerThanMemory cX3_isNewerThanMemory 1 (some .boolean) :: wk_B) B.pre w (List.mem_cons_of_mem _ hw)
  have X : wk_C p m c cX3_isNewerThanMemory 1 s _ RX3 D T := ⟨⟨hx, hb, hml, findClass_of_methodNamed B.named, hts⟩, hK⟩
  have hS : va_S (wk_A z0) s.heap s.heap [] := va_S.rf
  have hl := lv_entry ([.ref (ad (8, i, j))]) (n := 1) (Nat.le_of_ble_eq_true rfl)
  rw [lg_entry_eq]
  generalize (lg_sl ([.ref (ad (8, i, j))]) ++ List.replicate (1 - (lg_sl ([.ref (ad (8, i, j))])).length) Slot.unset).toArray = ls at hl ⊢
  have hl : lv_has ls 1 [(0, .ref (ad (8, i, j)))] := hl
  refine lv_aload_n (pc := 0) hx hb dX3_isNewerThanMemory_0 rfl (lv_at hl 0 rfl) ?_
  refine wk_geti (pc := 1) X hH (8, i, j) 1 (sc_8 hSh hi hj) rfl (by decide) rfl inX3 fl_X3_9 dX3_isNewerThanMemory_1 ?_
  refine lv_iconst (pc := 4) (v := 3) hx hb dX3_isNewerThanMemory_4 (by decide) ?_
  refine lv_icmp_eq (pc := 5) (tgt := 16) hx hb dX3_isNewerThanMemory_5 (by decide) (fun h1 => ?_) (fun h1 => ?_)
  · skip
    refine lv_iconst (pc := 16) (v := 1) hx hb dX3_isNewerThanMemory_16 (by decide) ?_
    refine lv_goto (pc := 17) (tgt := 21) hx hb dX3_isNewerThanMemory_17 (by decide) ?_
    exact wk_zret (pc := 21) X hH hS hr hlocks (Or.inr rfl) (by rw [mr_X3_isNewerThanMemory, if_pos h1]) (rfl) dX3_isNewerThanMemory_21
  · skip
    refine lv_aload_n (pc := 8) hx hb dX3_isNewerThanMemory_8 rfl (lv_at hl 0 rfl) ?_
    refine wk_geti (pc := 9) X hH (8, i, j) 1 (sc_8 hSh hi hj) rfl (by decide) rfl inX3 fl_X3_9 dX3_isNewerThanMemory_9 ?_
    refine lv_iconst (pc := 12) (v := 4) hx hb dX3_isNewerThanMemory_12 (by decide) ?_
    refine lv_icmp_ne (pc := 13) (tgt := 20) hx hb dX3_isNewerThanMemory_13 (by decide) (fun h2 => ?_) (fun h2 => ?_)
    · skip
      refine lv_iconst (pc := 20) (v := 0) hx hb dX3_isNewerThanMemory_20 (by decide) ?_
      exact wk_zret (pc := 21) X hH hS hr hlocks (Or.inl rfl) (by rw [mr_X3_isNewerThanMemory, if_neg h1, if_neg h2]) (rfl) dX3_isNewerThanMemory_21
    · skip
      refine lv_iconst (pc := 16) (v := 1) hx hb dX3_isNewerThanMemory_16 (by decide) ?_
      refine lv_goto (pc := 17) (tgt := 21) hx hb dX3_isNewerThanMemory_17 (by decide) ?_
      exact wk_zret (pc := 21) X hH hS hr hlocks (Or.inr rfl) (by rw [mr_X3_isNewerThanMemory, if_neg h1, if_pos h2]) (rfl) dX3_isNewerThanMemory_21

def mr_X0_mustWriteBack (P : Nat → Nat) (sg : wk_Sg) (i1 : Nat) (j1 : Nat) : Int32 := (if (mr_X3_isNewerThanMemory P sg i1 j1) = 0 then 0 else (if (sg (8, i1, j1) 2) = (sg (10, 0, 0) 8) then 0 else 1))
theorem mz_X0_mustWriteBack (P : Nat → Nat) (sg : wk_Sg) (i1 : Nat) (j1 : Nat) : mr_X0_mustWriteBack P sg i1 j1 = 0 ∨ mr_X0_mustWriteBack P sg i1 j1 = 1 := by
  unfold mr_X0_mustWriteBack
  repeat' split
  all_goals first | exact Or.inl rfl | exact Or.inr rfl | apply mz_X3_isNewerThanMemory
set_option maxHeartbeats 4000000 in
set_option maxRecDepth 100000 in
theorem mk_X0_mustWriteBack {l : Launch} {D : va_G} {T : wk_T} {z0 : Nat} {ad : wk_K3 → Nat} {sh : wk_Sh} {P : Nat → Nat} (hSh : sc_Sh T P sh) (sg : wk_Sg) (i1 : Nat) (j1 : Nat) (hi1 : i1 < P 0) (hj1 : j1 < P 1)  : wk_Mi l yX0_mustWriteBack cX0_mustWriteBack 2 (some .boolean) 1 20 D T z0 ad sh [.ref (ad (10, 0, 0)), .ref (ad (8, i1, j1))] sg (mr_X0_mustWriteBack P sg i1 j1) sg := by
  refine Met.ofW (cc := cX0_mustWriteBack) (maxL := 2) (ret := (some .boolean)) (by decide) rfl ?_
  intro p e s m args below meth c s₁ B hml hv
  obtain ⟨rfl, hz, hH, hK⟩ := hv
  have hx := B.exec
  have hb := B.bytes
  have hr := B.returns
  have hlocks := B.notSynchronized
  have hts : ∀ w ∈ wk_B, w.before _ s = true := fun w hw => atoms_spec (ws := Cond.code yX0_mustWriteBack cX0_mustWriteBack 2 (some .boolean) :: wk_B) B.pre w (List.mem_cons_of_mem _ hw)
  have X : wk_C p m c cX0_mustWriteBack 2 s _ RX0 D T := ⟨⟨hx, hb, hml, findClass_of_methodNamed B.named, hts⟩, hK⟩
  have hS : va_S (wk_A z0) s.heap s.heap [] := va_S.rf
  have hl := lv_entry ([.ref (ad (10, 0, 0)), .ref (ad (8, i1, j1))]) (n := 2) (Nat.le_of_ble_eq_true rfl)
  rw [lg_entry_eq]
  generalize (lg_sl ([.ref (ad (10, 0, 0)), .ref (ad (8, i1, j1))]) ++ List.replicate (2 - (lg_sl ([.ref (ad (10, 0, 0)), .ref (ad (8, i1, j1))])).length) Slot.unset).toArray = ls at hl ⊢
  have hl : lv_has ls 2 [(0, .ref (ad (10, 0, 0))), (1, .ref (ad (8, i1, j1)))] := hl
  refine lv_aload_n (pc := 0) hx hb dX0_mustWriteBack_0 rfl (lv_at hl 1 rfl) ?_
  refine wk_ci (wk_rV (pc := 1) (As := []) (rest := []) X hH hS hz (sc_8 hSh hi1 hj1) rfl ok_X3_isNewerThanMemory (mk_X3_isNewerThanMemory (l := l) (P := P) hSh sg i1 j1 hi1 hj1 ) ml_X0_102 ⟨by decide, by decide, by decide, by decide⟩ rfl hl.1 rfl (Nat.le_of_ble_eq_true rfl) dX0_mustWriteBack_1) hS (fun H locs hH hS => ?_)
  refine lv_if_eq (pc := 4) (tgt := 22) hx hb dX0_mustWriteBack_4 (by decide) (fun h1 => ?_) (fun h1 => ?_)
  · skip
    refine lv_iconst (pc := 22) (v := 0) hx hb dX0_mustWriteBack_22 (by decide) ?_
    exact wk_zret (pc := 23) X hH hS hr hlocks (Or.inl rfl) (by rw [mr_X0_mustWriteBack, if_pos h1]) (rfl) dX0_mustWriteBack_23
  · skip
    refine lv_aload_n (pc := 7) hx hb dX0_mustWriteBack_7 rfl (lv_at hl 1 rfl) ?_
    refine wk_geti (pc := 8) X hH (8, i1, j1) 2 (sc_8 hSh hi1 hj1) rfl (by decide) rfl inX3 fl_X0_106 dX0_mustWriteBack_8 ?_
    refine lv_aload_n (pc := 11) hx hb dX0_mustWriteBack_11 rfl (lv_at hl 0 rfl) ?_
    refine wk_geti (pc := 12) X hH (10, 0, 0) 8 (sc_10 hSh) rfl (by decide) rfl inX0 fl_X0_29 dX0_mustWriteBack_12 ?_
    refine lv_icmp_eq (pc := 15) (tgt := 22) hx hb dX0_mustWriteBack_15 (by decide) (fun h2 => ?_) (fun h2 => ?_)
    · skip
      refine lv_iconst (pc := 22) (v := 0) hx hb dX0_mustWriteBack_22 (by decide) ?_
      exact wk_zret (pc := 23) X hH hS hr hlocks (Or.inl rfl) (by rw [mr_X0_mustWriteBack, if_neg h1, if_pos h2]) (rfl) dX0_mustWriteBack_23
    · skip
      refine lv_iconst (pc := 18) (v := 1) hx hb dX0_mustWriteBack_18 (by decide) ?_
      refine lv_goto (pc := 19) (tgt := 23) hx hb dX0_mustWriteBack_19 (by decide) ?_
      exact wk_zret (pc := 23) X hH hS hr hlocks (Or.inr rfl) (by rw [mr_X0_mustWriteBack, if_neg h1, if_neg h2]) (rfl) dX0_mustWriteBack_23

def mr_X0_phaseAfter (P : Nat → Nat) (sg : wk_Sg) (a1 : Int32) (i2 : Nat) : Int32 := (if a1 = 0 then 1 else (if a1 = 1 then (if (mr_X0_mustWriteBack P sg i2 (Int32.toNatClampNeg (mr_X1_indexFor P sg i2 (sg (10, 0, 0) 8)))) = 0 then 3 else 2) else (if a1 = 2 then 3 else 4)))
def mg_X0_phaseAfter (P : Nat → Nat) (sg : wk_Sg) (a1 : Int32) (i2 : Nat) : Prop := ((a1 = 0 → True) ∧ (¬ a1 = 0 → ((a1 = 1 → (mg_X1_slotFor P sg i2 (sg (10, 0, 0) 8) ∧ (((mr_X0_mustWriteBack P sg i2 (Int32.toNatClampNeg (mr_X1_indexFor P sg i2 (sg (10, 0, 0) 8)))) = 0 → True) ∧ (¬ (mr_X0_mustWriteBack P sg i2 (Int32.toNatClampNeg (mr_X1_indexFor P sg i2 (sg (10, 0, 0) 8)))) = 0 → True)))) ∧ (¬ a1 = 1 → ((a1 = 2 → True) ∧ (¬ a1 = 2 → True))))))
set_option maxHeartbeats 4000000 in
set_option maxRecDepth 100000 in
theorem mk_X0_phaseAfter {l : Launch} {D : va_G} {T : wk_T} {z0 : Nat} {ad : wk_K3 → Nat} {sh : wk_Sh} {P : Nat → Nat} (hSh : sc_Sh T P sh) (sg : wk_Sg) (a1 : Int32) (i2 : Nat) (hi2 : i2 < P 0) (hg : mg_X0_phaseAfter P sg a1 i2) : wk_Mi l yX0_phaseAfter cX0_phaseAfter 3 (some .int) 2 42 D T z0 ad sh [.ref (ad (10, 0, 0)), .int a1, .ref (ad (4, i2, 0))] sg (mr_X0_phaseAfter P sg a1 i2) sg := by
  refine Met.ofW (cc := cX0_phaseAfter) (maxL := 3) (ret := (some .int)) (by decide) rfl ?_
  intro p e s m args below meth c s₁ B hml hv
  obtain ⟨rfl, hz, hH, hK⟩ := hv
  have hx := B.exec
  have hb := B.bytes
  have hr := B.returns
  have hlocks := B.notSynchronized
  have hts : ∀ w ∈ wk_B, w.before _ s = true := fun w hw => atoms_spec (ws := Cond.code yX0_phaseAfter cX0_phaseAfter 3 (some .int) :: wk_B) B.pre w (List.mem_cons_of_mem _ hw)
  have X : wk_C p m c cX0_phaseAfter 3 s _ RX0 D T := ⟨⟨hx, hb, hml, findClass_of_methodNamed B.named, hts⟩, hK⟩
  have hS : va_S (wk_A z0) s.heap s.heap [] := va_S.rf
  have hl := lv_entry ([.ref (ad (10, 0, 0)), .int a1, .ref (ad (4, i2, 0))]) (n := 3) (Nat.le_of_ble_eq_true rfl)
  rw [lg_entry_eq]
  generalize (lg_sl ([.ref (ad (10, 0, 0)), .int a1, .ref (ad (4, i2, 0))]) ++ List.replicate (3 - (lg_sl ([.ref (ad (10, 0, 0)), .int a1, .ref (ad (4, i2, 0))])).length) Slot.unset).toArray = ls at hl ⊢
  have hl : lv_has ls 3 [(0, .ref (ad (10, 0, 0))), (1, .int a1), (2, .ref (ad (4, i2, 0)))] := hl
  unfold mg_X0_phaseAfter at hg
  refine lv_iload_n (pc := 0) hx hb dX0_phaseAfter_0 rfl (lv_at hl 1 rfl) ?_
  by_cases w1 : a1 = 0
  · have hg := hg.1 w1
    refine wk_tin (pc := 1) (off := 27) (tgt := 28) X w1 dX0_phaseAfter_1 (by decide) (by decide) (by decide) (by decide) ?_
    refine lv_iconst (pc := 28) (v := 1) hx hb dX0_phaseAfter_28 (by decide) ?_
    exact wk_iret (pc := 29) X hH hS hr hlocks (by rw [mr_X0_phaseAfter, if_pos w1]) (rfl) dX0_phaseAfter_29
  · have hg := hg.2 w1
    by_cases w2 : a1 = 1
    · have hg := hg.1 w2
      refine wk_tin (pc := 1) (off := 29) (tgt := 30) X w2 dX0_phaseAfter_1 (by decide) (by decide) (by decide) (by decide) ?_
      refine lv_aload_n (pc := 30) hx hb dX0_phaseAfter_30 rfl (lv_at hl 0 rfl) ?_
      refine lv_aload_n (pc := 31) hx hb dX0_phaseAfter_31 rfl (lv_at hl 2 rfl) ?_
      refine lv_aload_n (pc := 32) hx hb dX0_phaseAfter_32 rfl (lv_at hl 0 rfl) ?_
      refine wk_geti (pc := 33) X hH (10, 0, 0) 8 (sc_10 hSh) rfl (by decide) rfl inX0 fl_X0_29 dX0_phaseAfter_33 ?_
      obtain ⟨o3, hg⟩ := hg
      refine wk_cr (wk_rV (pc := 36) (As := [.int (sg (10, 0, 0) 8)]) (rest := [.ref (ad (10, 0, 0))]) X hH hS hz (sc_4 hSh hi2) rfl ok_X1_slotFor (mk_X1_slotFor (l := l) (P := P) hSh sg i2 (sg (10, 0, 0) 8) hi2 o3) ml_X0_80 ⟨by decide, by decide, by decide, by decide⟩ rfl hl.1 rfl (Nat.le_of_ble_eq_true rfl) dX0_phaseAfter_36) hS (fun H locs hH hS => ?_)
      have b4 := mb_X1_slotFor P sg i2 (sg (10, 0, 0) 8) o3
      refine wk_ci (wk_rV (pc := 39) (As := [.ref (ad (8, i2, (Int32.toNatClampNeg (mr_X1_indexFor P sg i2 (sg (10, 0, 0) 8)))))]) (rest := []) X hH hS hz (sc_10 hSh) rfl ok_X0_mustWriteBack (mk_X0_mustWriteBack (l := l) (P := P) hSh sg i2 (Int32.toNatClampNeg (mr_X1_indexFor P sg i2 (sg (10, 0, 0) 8))) hi2 b4 ) ml_X0_98 ⟨by decide, by decide, by decide, by decide⟩ rfl hl.1 rfl (Nat.le_of_ble_eq_true rfl) dX0_phaseAfter_39) hS (fun H locs hH hS => ?_)
      refine lv_if_eq (pc := 42) (tgt := 49) hx hb dX0_phaseAfter_42 (by decide) (fun h5 => ?_) (fun h5 => ?_)
      · have hg := hg.1 h5
        refine lv_iconst (pc := 49) (v := 3) hx hb dX0_phaseAfter_49 (by decide) ?_
        exact wk_iret (pc := 50) X hH hS hr hlocks (by rw [mr_X0_phaseAfter, if_neg w1, if_pos w2, if_pos h5]) (rfl) dX0_phaseAfter_50
      · have hg := hg.2 h5
        refine lv_iconst (pc := 45) (v := 2) hx hb dX0_phaseAfter_45 (by decide) ?_
        refine lv_goto (pc := 46) (tgt := 50) hx hb dX0_phaseAfter_46 (by decide) ?_
        exact wk_iret (pc := 50) X hH hS hr hlocks (by rw [mr_X0_phaseAfter, if_neg w1, if_pos w2, if_neg h5]) (rfl) dX0_phaseAfter_50
    · have hg := hg.2 w2
      by_cases w6 : a1 = 2
      · have hg := hg.1 w6
        refine wk_tin (pc := 1) (off := 50) (tgt := 51) X w6 dX0_phaseAfter_1 (by decide) (by decide) (by decide) (by decide) ?_
        refine lv_iconst (pc := 51) (v := 3) hx hb dX0_phaseAfter_51 (by decide) ?_
        exact wk_iret (pc := 52) X hH hS hr hlocks (by rw [mr_X0_phaseAfter, if_neg w1, if_neg w2, if_pos w6]) (rfl) dX0_phaseAfter_52
      · have hg := hg.2 w6
        refine lv_tableOut (pc := 1) (tgt := 53) hx hb dX0_phaseAfter_1 (wk_tout (fun v h1 h2 hv => ?_)) (by decide) ?_
        · have n0 := lv_neT w1 (show Int32.toInt 0 = 0 from by decide); have n1 := lv_neT w2 (show Int32.toInt 1 = 1 from by decide); have n2 := lv_neT w6 (show Int32.toInt 2 = 2 from by decide); omega
        refine lv_iconst (pc := 53) (v := 4) hx hb dX0_phaseAfter_53 (by decide) ?_
        exact wk_iret (pc := 54) X hH hS hr hlocks (by rw [mr_X0_phaseAfter, if_neg w1, if_neg w2, if_neg w6]) (rfl) dX0_phaseAfter_54

def ms_X2_giveUp (P : Nat → Nat) (sg : wk_Sg) (i1 : Nat) (j1 : Nat) : wk_Sg := (if (mr_X3_isNewerThanMemory P sg i1 j1) = 0 then (wk_up (wk_up sg (8, i1, j1) 1 0) (8, i1, j1) 2 (-1)) else (wk_up (wk_up (wk_su sg (2, 0, 0) (va_cpy (sg (9, i1, j1)) (sg (2, 0, 0)) (Int32.toNatClampNeg 0) (Int32.toNatClampNeg ((sg (8, i1, j1) 2) * (sg (1, 0, 0) 0))) (Int32.toNatClampNeg (sg (1, 0, 0) 0)))) (8, i1, j1) 1 0) (8, i1, j1) 2 (-1)))
def mg_X2_giveUp (P : Nat → Nat) (sg : wk_Sg) (i1 : Nat) (j1 : Nat) : Prop := (((mr_X3_isNewerThanMemory P sg i1 j1) = 0 → True) ∧ (¬ (mr_X3_isNewerThanMemory P sg i1 j1) = 0 → (wk_cp 0 ((sg (8, i1, j1) 2) * (sg (1, 0, 0) 0)) (sg (1, 0, 0) 0) (P 2) (P 3) ∧ True)))
set_option maxHeartbeats 4000000 in
set_option maxRecDepth 100000 in
theorem mk_X2_giveUp {l : Launch} {D : va_G} {T : wk_T} {z0 : Nat} {ad : wk_K3 → Nat} {sh : wk_Sh} {P : Nat → Nat} (hSh : sc_Sh T P sh) (sg : wk_Sg) (i1 : Nat) (j1 : Nat) (hi1 : i1 < P 0) (hj1 : j1 < P 1) (hg : mg_X2_giveUp P sg i1 j1) : wk_Mv l yX2_giveUp cX2_giveUp 2 none 1 26 D T z0 ad sh [.ref (ad (1, 0, 0)), .ref (ad (8, i1, j1))] sg (ms_X2_giveUp P sg i1 j1) := by
  refine Met.ofW (cc := cX2_giveUp) (maxL := 2) (ret := none) (by decide) rfl ?_
  intro p e s m args below meth c s₁ B hml hv
  obtain ⟨rfl, hz, hH, hK⟩ := hv
  have hx := B.exec
  have hb := B.bytes
  have hr := B.returns
  have hlocks := B.notSynchronized
  have hts : ∀ w ∈ wk_B, w.before _ s = true := fun w hw => atoms_spec (ws := Cond.code yX2_giveUp cX2_giveUp 2 none :: wk_B) B.pre w (List.mem_cons_of_mem _ hw)
  have X : wk_C p m c cX2_giveUp 2 s _ RX2 D T := ⟨⟨hx, hb, hml, findClass_of_methodNamed B.named, hts⟩, hK⟩
  have hS : va_S (wk_A z0) s.heap s.heap [] := va_S.rf
  have hl := lv_entry ([.ref (ad (1, 0, 0)), .ref (ad (8, i1, j1))]) (n := 2) (Nat.le_of_ble_eq_true rfl)
  rw [lg_entry_eq]
  generalize (lg_sl ([.ref (ad (1, 0, 0)), .ref (ad (8, i1, j1))]) ++ List.replicate (2 - (lg_sl ([.ref (ad (1, 0, 0)), .ref (ad (8, i1, j1))])).length) Slot.unset).toArray = ls at hl ⊢
  have hl : lv_has ls 2 [(0, .ref (ad (1, 0, 0))), (1, .ref (ad (8, i1, j1)))] := hl
  unfold mg_X2_giveUp at hg
  refine lv_aload_n (pc := 0) hx hb dX2_giveUp_0 rfl (lv_at hl 1 rfl) ?_
  refine wk_ci (wk_rV (pc := 1) (As := []) (rest := []) X hH hS hz (sc_8 hSh hi1 hj1) rfl ok_X3_isNewerThanMemory (mk_X3_isNewerThanMemory (l := l) (P := P) hSh sg i1 j1 hi1 hj1 ) ml_X2_29 ⟨by decide, by decide, by decide, by decide⟩ rfl hl.1 rfl (Nat.le_of_ble_eq_true rfl) dX2_giveUp_1) hS (fun H locs hH hS => ?_)
  refine lv_if_eq (pc := 4) (tgt := 32) hx hb dX2_giveUp_4 (by decide) (fun h1 => ?_) (fun h1 => ?_)
  · have hg := hg.1 h1
    refine lv_aload_n (pc := 32) hx hb dX2_giveUp_32 rfl (lv_at hl 1 rfl) ?_
    refine lv_iconst (pc := 33) (v := 0) hx hb dX2_giveUp_33 (by decide) ?_
    refine wk_puti (pc := 34) X hH hS (8, i1, j1) 1 tyX3_ok nmX3 (sc_8 hSh hi1 hj1) rfl (by decide) rfl inX3 fl_X2_39 rfl rfl rfl dX2_giveUp_34 (fun H locs hH hS => ?_)
    refine lv_aload_n (pc := 37) hx hb dX2_giveUp_37 rfl (lv_at hl 1 rfl) ?_
    refine lv_iconst (pc := 38) (v := (-1)) hx hb dX2_giveUp_38 (by decide) ?_
    refine wk_puti (pc := 39) X hH hS (8, i1, j1) 2 tyX3_ok nmX3 (sc_8 hSh hi1 hj1) rfl (by decide) rfl inX3 fl_X2_36 rfl rfl rfl dX2_giveUp_39 (fun H locs hH hS => ?_)
    exact wk_vret (pc := 42) X hH hS hr hlocks (by rw [ms_X2_giveUp, if_pos h1]) dX2_giveUp_42
  · have hg := hg.2 h1
    refine lv_aload_n (pc := 7) hx hb dX2_giveUp_7 rfl (lv_at hl 1 rfl) ?_
    refine wk_getr (pc := 8) X hH (8, i1, j1) 0 (9, i1, j1) (sc_8 hSh hi1 hj1) rfl (by decide) rfl inX3 fl_X2_35 dX2_giveUp_8 ?_
    refine lv_iconst (pc := 11) (v := 0) hx hb dX2_giveUp_11 (by decide) ?_
    refine lv_aload_n (pc := 12) hx hb dX2_giveUp_12 rfl (lv_at hl 0 rfl) ?_
    refine wk_getr (pc := 13) X hH (1, 0, 0) 1 (2, 0, 0) (sc_1 hSh) rfl (by decide) rfl inX2 fl_X2_15 dX2_giveUp_13 ?_
    refine lv_aload_n (pc := 16) hx hb dX2_giveUp_16 rfl (lv_at hl 1 rfl) ?_
    refine wk_geti (pc := 17) X hH (8, i1, j1) 2 (sc_8 hSh hi1 hj1) rfl (by decide) rfl inX3 fl_X2_36 dX2_giveUp_17 ?_
    refine lv_aload_n (pc := 20) hx hb dX2_giveUp_20 rfl (lv_at hl 0 rfl) ?_
    refine wk_geti (pc := 21) X hH (1, 0, 0) 0 (sc_1 hSh) rfl (by decide) rfl inX2 fl_X2_9 dX2_giveUp_21 ?_
    refine lv_imul (pc := 24) hx hb dX2_giveUp_24 ?_
    refine lv_aload_n (pc := 25) hx hb dX2_giveUp_25 rfl (lv_at hl 0 rfl) ?_
    refine wk_geti (pc := 26) X hH (1, 0, 0) 0 (sc_1 hSh) rfl (by decide) rfl inX2 fl_X2_9 dX2_giveUp_26 ?_
    obtain ⟨o2, hg⟩ := hg
    refine wk_copy (pc := 29) (rest := []) X hl.1 hH hS ml_X2_23 ok_arraycopy (9, i1, j1) (2, 0, 0) (sc_9 hSh hi1 hj1) (sc_2 hSh) o2 ⟨by decide, Nat.le_of_ble_eq_true rfl⟩ dX2_giveUp_29 (fun H locs hH hS => ?_)
    refine lv_aload_n (pc := 32) hx hb dX2_giveUp_32 rfl (lv_at hl 1 rfl) ?_
    refine lv_iconst (pc := 33) (v := 0) hx hb dX2_giveUp_33 (by decide) ?_
    refine wk_puti (pc := 34) X hH hS (8, i1, j1) 1 tyX3_ok nmX3 (sc_8 hSh hi1 hj1) rfl (by decide) rfl inX3 fl_X2_39 rfl rfl rfl dX2_giveUp_34 (fun H locs hH hS => ?_)
    refine lv_aload_n (pc := 37) hx hb dX2_giveUp_37 rfl (lv_at hl 1 rfl) ?_
    refine lv_iconst (pc := 38) (v := (-1)) hx hb dX2_giveUp_38 (by decide) ?_
    refine wk_puti (pc := 39) X hH hS (8, i1, j1) 2 tyX3_ok nmX3 (sc_8 hSh hi1 hj1) rfl (by decide) rfl inX3 fl_X2_36 rfl rfl rfl dX2_giveUp_39 (fun H locs hH hS => ?_)
    exact wk_vret (pc := 42) X hH hS hr hlocks (by rw [ms_X2_giveUp, if_neg h1]) dX2_giveUp_42

def ms_X2_readLine (P : Nat → Nat) (sg : wk_Sg) (a1 : Int32) : wk_Sg := (wk_su sg (12, 0, 0) (va_cpy (sg (2, 0, 0)) (sg (12, 0, 0)) (Int32.toNatClampNeg (a1 * (sg (1, 0, 0) 0))) (Int32.toNatClampNeg 0) (Int32.toNatClampNeg (sg (1, 0, 0) 0))))
def mg_X2_readLine (P : Nat → Nat) (sg : wk_Sg) (a1 : Int32) : Prop := (wk_cp (a1 * (sg (1, 0, 0) 0)) 0 (sg (1, 0, 0) 0) (P 3) (P 2) ∧ True)
set_option maxHeartbeats 4000000 in
set_option maxRecDepth 100000 in
theorem mk_X2_readLine {l : Launch} {D : va_G} {T : wk_T} {z0 : Nat} {ad : wk_K3 → Nat} {sh : wk_Sh} {P : Nat → Nat} (hSh : sc_Sh T P sh) (sg : wk_Sg) (a1 : Int32)  (hg : mg_X2_readLine P sg a1) : wk_Mv l yX2_readLine cX2_readLine 3 none 1 26 D T z0 ad sh [.ref (ad (1, 0, 0)), .int a1, .ref (ad (12, 0, 0))] sg (ms_X2_readLine P sg a1) := by
  refine Met.ofW (cc := cX2_readLine) (maxL := 3) (ret := none) (by decide) rfl ?_
  intro p e s m args below meth c s₁ B hml hv
  obtain ⟨rfl, hz, hH, hK⟩ := hv
  have hx := B.exec
  have hb := B.bytes
  have hr := B.returns
  have hlocks := B.notSynchronized
  have hts : ∀ w ∈ wk_B, w.before _ s = true := fun w hw => atoms_spec (ws := Cond.code yX2_readLine cX2_readLine 3 none :: wk_B) B.pre w (List.mem_cons_of_mem _ hw)
  have X : wk_C p m c cX2_readLine 3 s _ RX2 D T := ⟨⟨hx, hb, hml, findClass_of_methodNamed B.named, hts⟩, hK⟩
  have hS : va_S (wk_A z0) s.heap s.heap [] := va_S.rf
  have hl := lv_entry ([.ref (ad (1, 0, 0)), .int a1, .ref (ad (12, 0, 0))]) (n := 3) (Nat.le_of_ble_eq_true rfl)
  rw [lg_entry_eq]
  generalize (lg_sl ([.ref (ad (1, 0, 0)), .int a1, .ref (ad (12, 0, 0))]) ++ List.replicate (3 - (lg_sl ([.ref (ad (1, 0, 0)), .int a1, .ref (ad (12, 0, 0))])).length) Slot.unset).toArray = ls at hl ⊢
  have hl : lv_has ls 3 [(0, .ref (ad (1, 0, 0))), (1, .int a1), (2, .ref (ad (12, 0, 0)))] := hl
  unfold mg_X2_readLine at hg
  refine lv_aload_n (pc := 0) hx hb dX2_readLine_0 rfl (lv_at hl 0 rfl) ?_
  refine wk_getr (pc := 1) X hH (1, 0, 0) 1 (2, 0, 0) (sc_1 hSh) rfl (by decide) rfl inX2 fl_X2_15 dX2_readLine_1 ?_
  refine lv_iload_n (pc := 4) hx hb dX2_readLine_4 rfl (lv_at hl 1 rfl) ?_
  refine lv_aload_n (pc := 5) hx hb dX2_readLine_5 rfl (lv_at hl 0 rfl) ?_
  refine wk_geti (pc := 6) X hH (1, 0, 0) 0 (sc_1 hSh) rfl (by decide) rfl inX2 fl_X2_9 dX2_readLine_6 ?_
  refine lv_imul (pc := 9) hx hb dX2_readLine_9 ?_
  refine lv_aload_n (pc := 10) hx hb dX2_readLine_10 rfl (lv_at hl 2 rfl) ?_
  refine lv_iconst (pc := 11) (v := 0) hx hb dX2_readLine_11 (by decide) ?_
  refine lv_aload_n (pc := 12) hx hb dX2_readLine_12 rfl (lv_at hl 0 rfl) ?_
  refine wk_geti (pc := 13) X hH (1, 0, 0) 0 (sc_1 hSh) rfl (by decide) rfl inX2 fl_X2_9 dX2_readLine_13 ?_
  obtain ⟨o1, hg⟩ := hg
  refine wk_copy (pc := 16) (rest := []) X hl.1 hH hS ml_X2_23 ok_arraycopy (2, 0, 0) (12, 0, 0) (sc_2 hSh) (sc_12 hSh) o1 ⟨by decide, Nat.le_of_ble_eq_true rfl⟩ dX2_readLine_16 (fun H locs hH hS => ?_)
  exact wk_vret (pc := 19) X hH hS hr hlocks (by rw [ms_X2_readLine]) dX2_readLine_19

def mr_X3_holds (P : Nat → Nat) (sg : wk_Sg) (i : Nat) (j : Nat) (a1 : Int32) : Int32 := (if (sg (8, i, j) 1) = 0 then 0 else (if (sg (8, i, j) 2) = a1 then 1 else 0))
theorem mz_X3_holds (P : Nat → Nat) (sg : wk_Sg) (i : Nat) (j : Nat) (a1 : Int32) : mr_X3_holds P sg i j a1 = 0 ∨ mr_X3_holds P sg i j a1 = 1 := by
  unfold mr_X3_holds
  repeat' split
  all_goals first | exact Or.inl rfl | exact Or.inr rfl
set_option maxHeartbeats 4000000 in
set_option maxRecDepth 100000 in
theorem mk_X3_holds {l : Launch} {D : va_G} {T : wk_T} {z0 : Nat} {ad : wk_K3 → Nat} {sh : wk_Sh} {P : Nat → Nat} (hSh : sc_Sh T P sh) (sg : wk_Sg) (i : Nat) (j : Nat) (a1 : Int32) (hi : i < P 0) (hj : j < P 1)  : wk_Mi l yX3_holds cX3_holds 2 (some .boolean) 0 0 D T z0 ad sh [.ref (ad (8, i, j)), .int a1] sg (mr_X3_holds P sg i j a1) sg := by
  refine Met.ofW (cc := cX3_holds) (maxL := 2) (ret := (some .boolean)) (by decide) rfl ?_
  intro p e s m args below meth c s₁ B hml hv
  obtain ⟨rfl, hz, hH, hK⟩ := hv
  have hx := B.exec
  have hb := B.bytes
  have hr := B.returns
  have hlocks := B.notSynchronized
  have hts : ∀ w ∈ wk_B, w.before _ s = true := fun w hw => atoms_spec (ws := Cond.code yX3_holds cX3_holds 2 (some .boolean) :: wk_B) B.pre w (List.mem_cons_of_mem _ hw)
  have X : wk_C p m c cX3_holds 2 s _ RX3 D T := ⟨⟨hx, hb, hml, findClass_of_methodNamed B.named, hts⟩, hK⟩
  have hS : va_S (wk_A z0) s.heap s.heap [] := va_S.rf
  have hl := lv_entry ([.ref (ad (8, i, j)), .int a1]) (n := 2) (Nat.le_of_ble_eq_true rfl)
  rw [lg_entry_eq]
  generalize (lg_sl ([.ref (ad (8, i, j)), .int a1]) ++ List.replicate (2 - (lg_sl ([.ref (ad (8, i, j)), .int a1])).length) Slot.unset).toArray = ls at hl ⊢
  have hl : lv_has ls 2 [(0, .ref (ad (8, i, j))), (1, .int a1)] := hl
  refine lv_aload_n (pc := 0) hx hb dX3_holds_0 rfl (lv_at hl 0 rfl) ?_
  refine wk_geti (pc := 1) X hH (8, i, j) 1 (sc_8 hSh hi hj) rfl (by decide) rfl inX3 fl_X3_9 dX3_holds_1 ?_
  refine lv_if_eq (pc := 4) (tgt := 19) hx hb dX3_holds_4 (by decide) (fun h1 => ?_) (fun h1 => ?_)
  · skip
    refine lv_iconst (pc := 19) (v := 0) hx hb dX3_holds_19 (by decide) ?_
    exact wk_zret (pc := 20) X hH hS hr hlocks (Or.inl rfl) (by rw [mr_X3_holds, if_pos h1]) (rfl) dX3_holds_20
  · skip
    refine lv_aload_n (pc := 7) hx hb dX3_holds_7 rfl (lv_at hl 0 rfl) ?_
    refine wk_geti (pc := 8) X hH (8, i, j) 2 (sc_8 hSh hi hj) rfl (by decide) rfl inX3 fl_X3_15 dX3_holds_8 ?_
    refine lv_iload_n (pc := 11) hx hb dX3_holds_11 rfl (lv_at hl 1 rfl) ?_
    refine lv_icmp_ne (pc := 12) (tgt := 19) hx hb dX3_holds_12 (by decide) (fun h2 => ?_) (fun h2 => ?_)
    · skip
      refine lv_iconst (pc := 19) (v := 0) hx hb dX3_holds_19 (by decide) ?_
      exact wk_zret (pc := 20) X hH hS hr hlocks (Or.inl rfl) (by rw [mr_X3_holds, if_neg h1, if_neg h2]) (rfl) dX3_holds_20
    · skip
      refine lv_iconst (pc := 15) (v := 1) hx hb dX3_holds_15 (by decide) ?_
      refine lv_goto (pc := 16) (tgt := 20) hx hb dX3_holds_16 (by decide) ?_
      exact wk_zret (pc := 20) X hH hS hr hlocks (Or.inr rfl) (by rw [mr_X3_holds, if_neg h1, if_pos h2]) (rfl) dX3_holds_20
