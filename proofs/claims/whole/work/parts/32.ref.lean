def ms_X5_empty_L16 : Nat → (Nat → Nat) → wk_Sg → Int32 → Int32 → wk_Sg
  | 0, _, sg, _, _ => sg
  | n + 1, P, sg, v1, v2 => (if 4 ≤ v2 then sg else (ms_X5_empty_L16 n P (wk_up sg (31, 0, 0) (Int32.toNatClampNeg (((4 : Int32) * v1) + v2)) 0)  v1 (v2 + 1)))
def mg_X5_empty_L16 : Nat → (Nat → Nat) → wk_Sg → Int32 → Int32 → Prop
  | 0, _, _, _, _ => False
  | n + 1, P, sg, v1, v2 => ((4 ≤ v2 → True) ∧ (¬ 4 ≤ v2 → (vp_in (((4 : Int32) * v1) + v2) 128 ∧ mg_X5_empty_L16 n P (wk_up sg (31, 0, 0) (Int32.toNatClampNeg (((4 : Int32) * v1) + v2)) 0)  v1 (v2 + 1))))
set_option maxHeartbeats 4000000 in
set_option maxRecDepth 100000 in
theorem mk_X5_empty_L16 {l : Launch} {D : va_G} {T : wk_T} {z0 : Nat} {ad : wk_K3 → Nat} {sh : wk_Sh} {P : Nat → Nat} (hSh : rf_Sh T sh)   {p : Program} {e : Env} {s : State} {m : MethodId} {args : Array Value} {below : List Frame} {meth : Method} {c : Code} (X : wk_C p m c cX5_empty 3 s args RX5 D T) (hz : z0 ≤ s.heap.size) (hr : meth.sig.returnType = none) (hlocks : meth.locks = false) :
    ∀ (n : Nat) (sg : wk_Sg) (v1 : Int32) (v2 : Int32) (sg0 : wk_Sg), ms_X5_empty_L16 n P sg  v1 v2 = sg0 → mg_X5_empty_L16 n P sg  v1 v2 → ∀ (ls : Array Slot) (H : Heap) (locs : List Loc), lv_has ls 3 [(0, .ref (ad (20, 0, 0))), (1, .int v1), (2, .int v2)] → wk_H D z0 ad sh sg H → va_S (wk_A z0) s.heap H locs → W p l e (wk_rm 0 0) s m args below meth c H locs 0 0 (MQ below (wk_Qv D z0 ad sh sg0) args s 0 0 (wk_A z0)) (F0 m 16 ls []) := by
  have hx := X.1.1
  have hb := X.1.2.1
  have hts := X.1.2.2.2.2
  intro n
  induction n with
  | zero =>
    intro sg v1 v2 sg0 hs0 hg ls H locs hl hH hS
    exact (show False from hg).elim
  | succ n ih =>
    intro sg v1 v2 sg0 hs0 hg ls H locs hl hH hS
    rw [mg_X5_empty_L16] at hg
    refine lv_iload_n (pc := 16) hx hb dX5_empty_16 rfl (lv_at hl 2 rfl) ?_
    refine lv_iconst (pc := 17) (v := 4) hx hb dX5_empty_17 (by decide) ?_
    refine lv_icmp_ge (pc := 18) (tgt := 38) hx hb dX5_empty_18 (by decide) (fun h3 => ?_) (fun h3 => ?_)
    · have hg := hg.1 h3
      exact wk_vret (pc := 38) X hH hS hr hlocks (by rw [← hs0, ms_X5_empty_L16, if_pos h3]) dX5_empty_38
    · have hg := hg.2 h3
      refine lv_aload_n (pc := 21) hx hb dX5_empty_21 rfl (lv_at hl 0 rfl) ?_
      refine wk_getr (pc := 22) X hH (20, 0, 0) 16 (31, 0, 0) (rf_20 hSh) rfl (by decide) rfl inX5 fl_X5_40 dX5_empty_22 ?_
      refine lv_iconst (pc := 25) (v := 4) hx hb dX5_empty_25 (by decide) ?_
      refine lv_iload_n (pc := 26) hx hb dX5_empty_26 rfl (lv_at hl 1 rfl) ?_
      refine lv_imul (pc := 27) hx hb dX5_empty_27 ?_
      refine lv_iload_n (pc := 28) hx hb dX5_empty_28 rfl (lv_at hl 2 rfl) ?_
      refine lv_iadd (pc := 29) hx hb dX5_empty_29 ?_
      refine lv_iconst (pc := 30) (v := 0) hx hb dX5_empty_30 (by decide) ?_
      obtain ⟨o4, hg⟩ := hg
      refine wk_iast (pc := 31) X hH hS (31, 0, 0) (rf_31 hSh) o4 dX5_empty_31 (fun H locs hH hS => ?_)
      refine lv_iinc (pc := 32) (k := 2) (v := (v2 + 1)) (lv' := [(2, .int (v2 + 1)), (0, .ref (ad (20, 0, 0))), (1, .int v1)]) hx hb dX5_empty_32 hl rfl rfl (by decide) rfl (fun ls hl => ?_)
      refine lv_goto (pc := 35) (tgt := 16) hx hb dX5_empty_35 (by decide) ?_
      exact ih (wk_up sg (31, 0, 0) (Int32.toNatClampNeg (((4 : Int32) * v1) + v2)) 0) v1 (v2 + 1) _ (by rw [← hs0, ms_X5_empty_L16, if_neg h3]) hg ls _ _ (lv_sub hl [1, 2, 0] rfl) hH hS
def ms_X5_empty (P : Nat → Nat) (sg : wk_Sg) (a1 : Int32) : wk_Sg := (ms_X5_empty_L16 5 P (wk_up (wk_up sg (29, 0, 0) (Int32.toNatClampNeg a1) 0) (30, 0, 0) (Int32.toNatClampNeg a1) (-1))  a1 0)
def mg_X5_empty (P : Nat → Nat) (sg : wk_Sg) (a1 : Int32) : Prop := (vp_in a1 32 ∧ (vp_in a1 32 ∧ mg_X5_empty_L16 5 P (wk_up (wk_up sg (29, 0, 0) (Int32.toNatClampNeg a1) 0) (30, 0, 0) (Int32.toNatClampNeg a1) (-1))  a1 0))
set_option maxHeartbeats 4000000 in
set_option maxRecDepth 100000 in
theorem mk_X5_empty {l : Launch} {D : va_G} {T : wk_T} {z0 : Nat} {ad : wk_K3 → Nat} {sh : wk_Sh} {P : Nat → Nat} (hSh : rf_Sh T sh) (sg : wk_Sg) (a1 : Int32)  (hg : mg_X5_empty P sg a1) : wk_Mv l yX5_empty cX5_empty 3 none 0 0 D T z0 ad sh [.ref (ad (20, 0, 0)), .int a1] sg (ms_X5_empty P sg a1) := by
  refine Met.ofW (cc := cX5_empty) (maxL := 3) (ret := none) (by decide) rfl ?_
  intro p e s m args below meth c s₁ B hml hv
  obtain ⟨rfl, hz, hH, hK⟩ := hv
  have hx := B.exec
  have hb := B.bytes
  have hr := B.returns
  have hlocks := B.notSynchronized
  have hts : ∀ w ∈ wk_B, w.before _ s = true := fun w hw => atoms_spec (ws := Cond.code yX5_empty cX5_empty 3 none :: wk_B) B.pre w (List.mem_cons_of_mem _ hw)
  have X : wk_C p m c cX5_empty 3 s _ RX5 D T := ⟨⟨hx, hb, hml, findClass_of_methodNamed B.named, hts⟩, hK⟩
  have hS : va_S (wk_A z0) s.heap s.heap [] := va_S.rf
  have hl := lv_entry ([.ref (ad (20, 0, 0)), .int a1]) (n := 3) (Nat.le_of_ble_eq_true rfl)
  rw [lg_entry_eq]
  generalize (lg_sl ([.ref (ad (20, 0, 0)), .int a1]) ++ List.replicate (3 - (lg_sl ([.ref (ad (20, 0, 0)), .int a1])).length) Slot.unset).toArray = ls at hl ⊢
  have hl : lv_has ls 3 [(0, .ref (ad (20, 0, 0))), (1, .int a1)] := hl
  unfold mg_X5_empty at hg
  refine lv_aload_n (pc := 0) hx hb dX5_empty_0 rfl (lv_at hl 0 rfl) ?_
  refine wk_getr (pc := 1) X hH (20, 0, 0) 14 (29, 0, 0) (rf_20 hSh) rfl (by decide) rfl inX5 fl_X5_34 dX5_empty_1 ?_
  refine lv_iload_n (pc := 4) hx hb dX5_empty_4 rfl (lv_at hl 1 rfl) ?_
  refine lv_iconst (pc := 5) (v := 0) hx hb dX5_empty_5 (by decide) ?_
  obtain ⟨o1, hg⟩ := hg
  refine wk_iast (pc := 6) X hH hS (29, 0, 0) (rf_29 hSh) o1 dX5_empty_6 (fun H locs hH hS => ?_)
  refine lv_aload_n (pc := 7) hx hb dX5_empty_7 rfl (lv_at hl 0 rfl) ?_
  refine wk_getr (pc := 8) X hH (20, 0, 0) 15 (30, 0, 0) (rf_20 hSh) rfl (by decide) rfl inX5 fl_X5_37 dX5_empty_8 ?_
  refine lv_iload_n (pc := 11) hx hb dX5_empty_11 rfl (lv_at hl 1 rfl) ?_
  refine lv_iconst (pc := 12) (v := (-1)) hx hb dX5_empty_12 (by decide) ?_
  obtain ⟨o2, hg⟩ := hg
  refine wk_iast (pc := 13) X hH hS (30, 0, 0) (rf_30 hSh) o2 dX5_empty_13 (fun H locs hH hS => ?_)
  refine lv_iconst (pc := 14) (v := 0) hx hb dX5_empty_14 (by decide) ?_
  refine lv_istore_n (pc := 15) (lv' := [(2, .int 0), (0, .ref (ad (20, 0, 0))), (1, .int a1)]) hx hb dX5_empty_15 rfl hl (by decide) rfl (fun ls hl => ?_)
  exact mk_X5_empty_L16 (P := P) hSh   X hz hr hlocks 5 (wk_up (wk_up sg (29, 0, 0) (Int32.toNatClampNeg a1) 0) (30, 0, 0) (Int32.toNatClampNeg a1) (-1)) a1 0 _ (by rw [ms_X5_empty]) hg ls _ _ (lv_sub hl [1, 2, 0] rfl) hH hS

def ms_X5_snoop_L93 : Nat → (Nat → Nat) → wk_Sg → Int32 → Int32 → Int32 → Int32 → wk_Sg
  | 0, _, sg, _, _, _, _ => sg
  | n + 1, P, sg, v1, v2, v3, v4 => (if (sg (20, 0, 0) 2) ≤ v4 then sg else (if (mr_X5_isDirty P sg v3) = 0 then sg else (ms_X5_snoop_L93 n P (wk_up sg (32, 0, 0) (Int32.toNatClampNeg v4) (sg (31, 0, 0) (Int32.toNatClampNeg (((4 : Int32) * v2) + v4))))  v1 v2 v3 (v4 + 1))))
def mg_X5_snoop_L93 : Nat → (Nat → Nat) → wk_Sg → Int32 → Int32 → Int32 → Int32 → Prop
  | 0, _, _, _, _, _, _ => False
  | n + 1, P, sg, v1, v2, v3, v4 => (((sg (20, 0, 0) 2) ≤ v4 → True) ∧ (¬ (sg (20, 0, 0) 2) ≤ v4 → (((mr_X5_isDirty P sg v3) = 0 → True) ∧ (¬ (mr_X5_isDirty P sg v3) = 0 → (vp_in (((4 : Int32) * v2) + v4) 128 ∧ (vp_in v4 4 ∧ mg_X5_snoop_L93 n P (wk_up sg (32, 0, 0) (Int32.toNatClampNeg v4) (sg (31, 0, 0) (Int32.toNatClampNeg (((4 : Int32) * v2) + v4))))  v1 v2 v3 (v4 + 1)))))))
set_option maxHeartbeats 4000000 in
set_option maxRecDepth 100000 in
theorem mk_X5_snoop_L93 {l : Launch} {D : va_G} {T : wk_T} {z0 : Nat} {ad : wk_K3 → Nat} {sh : wk_Sh} {P : Nat → Nat} (hSh : rf_Sh T sh)   {p : Program} {e : Env} {s : State} {m : MethodId} {args : Array Value} {below : List Frame} {meth : Method} {c : Code} {Q : State → Prop} (X : wk_C p m c cX5_snoop 5 s args RX5 D T) (hz : z0 ≤ s.heap.size) (hr : meth.sig.returnType = some .int) (hlocks : meth.locks = false) :
    ∀ (n : Nat) (sg : wk_Sg) (v1 : Int32) (v2 : Int32) (v3 : Int32) (v4 : Int32) (sg0 : wk_Sg), ms_X5_snoop_L93 n P sg  v1 v2 v3 v4 = sg0 → mg_X5_snoop_L93 n P sg  v1 v2 v3 v4 → ∀ (ls : Array Slot) (H : Heap) (locs : List Loc), lv_has ls 5 [(0, .ref (ad (20, 0, 0))), (1, .int v1), (2, .int v2), (3, .int v3), (4, .int v4)] → wk_H D z0 ad sh sg H → va_S (wk_A z0) s.heap H locs → (∀ (ls : Array Slot) (H : Heap) (locs : List Loc), lv_has ls 5 [(0, .ref (ad (20, 0, 0))), (1, .int v1), (2, .int v2), (3, .int v3)] → wk_H D z0 ad sh sg0 H → va_S (wk_A z0) s.heap H locs → W p l e (wk_rm 2 45) s m args below meth c H locs 0 0 Q (F0 m 133 ls [])) → W p l e (wk_rm 2 45) s m args below meth c H locs 0 0 Q (F0 m 93 ls []) := by
  have hx := X.1.1
  have hb := X.1.2.1
  have hts := X.1.2.2.2.2
  intro n
  induction n with
  | zero =>
    intro sg v1 v2 v3 v4 sg0 hs0 hg ls H locs hl hH hS hk
    exact (show False from hg).elim
  | succ n ih =>
    intro sg v1 v2 v3 v4 sg0 hs0 hg ls H locs hl hH hS hk
    rw [mg_X5_snoop_L93] at hg
    refine lv_iload (pc := 93) hx hb dX5_snoop_93 (lv_at hl 4 rfl) ?_
    refine lv_aload_n (pc := 95) hx hb dX5_snoop_95 rfl (lv_at hl 0 rfl) ?_
    refine wk_geti (pc := 96) X hH (20, 0, 0) 2 (rf_20 hSh) rfl (by decide) rfl inX5 fl_X5_60 dX5_snoop_96 ?_
    refine lv_icmp_ge (pc := 99) (tgt := 133) hx hb dX5_snoop_99 (by decide) (fun h8 => ?_) (fun h8 => ?_)
    · have hg := hg.1 h8
      exact hk ls _ _ (lv_sub hl [0, 1, 2, 3] rfl) (by rw [← hs0, ms_X5_snoop_L93, if_pos h8]; exact hH) hS
    · have hg := hg.2 h8
      refine lv_iload_n (pc := 102) hx hb dX5_snoop_102 rfl (lv_at hl 3 rfl) ?_
      refine wk_ci (wk_rS (pc := 103) (As := [.int v3]) (rest := []) X hH hS hz ok_X5_isDirty (mk_X5_isDirty (l := l) (P := P)  sg v3  ) ml_X5_118 ⟨by decide, by decide, by decide, by decide⟩ rfl hl.1 rfl (Nat.le_of_ble_eq_true rfl) dX5_snoop_103) hS (fun H locs hH hS => ?_)
      refine lv_if_eq (pc := 106) (tgt := 133) hx hb dX5_snoop_106 (by decide) (fun h9 => ?_) (fun h9 => ?_)
      · have hg := hg.1 h9
        exact hk ls _ _ (lv_sub hl [0, 1, 2, 3] rfl) (by rw [← hs0, ms_X5_snoop_L93, if_neg h8, if_pos h9]; exact hH) hS
      · have hg := hg.2 h9
        refine lv_aload_n (pc := 109) hx hb dX5_snoop_109 rfl (lv_at hl 0 rfl) ?_
        refine wk_getr (pc := 110) X hH (20, 0, 0) 22 (32, 0, 0) (rf_20 hSh) rfl (by decide) rfl inX5 fl_X5_43 dX5_snoop_110 ?_
        refine lv_iload (pc := 113) hx hb dX5_snoop_113 (lv_at hl 4 rfl) ?_
        refine lv_aload_n (pc := 115) hx hb dX5_snoop_115 rfl (lv_at hl 0 rfl) ?_
        refine wk_getr (pc := 116) X hH (20, 0, 0) 16 (31, 0, 0) (rf_20 hSh) rfl (by decide) rfl inX5 fl_X5_40 dX5_snoop_116 ?_
        refine lv_iconst (pc := 119) (v := 4) hx hb dX5_snoop_119 (by decide) ?_
        refine lv_iload_n (pc := 120) hx hb dX5_snoop_120 rfl (lv_at hl 2 rfl) ?_
        refine lv_imul (pc := 121) hx hb dX5_snoop_121 ?_
        refine lv_iload (pc := 122) hx hb dX5_snoop_122 (lv_at hl 4 rfl) ?_
        refine lv_iadd (pc := 124) hx hb dX5_snoop_124 ?_
        obtain ⟨o10, hg⟩ := hg
        refine wk_iald (pc := 125) X hH (31, 0, 0) (rf_31 hSh) o10 dX5_snoop_125 ?_
        obtain ⟨o11, hg⟩ := hg
        refine wk_iast (pc := 126) X hH hS (32, 0, 0) (rf_32 hSh) o11 dX5_snoop_126 (fun H locs hH hS => ?_)
        refine lv_iinc (pc := 127) (k := 4) (v := (v4 + 1)) (lv' := [(4, .int (v4 + 1)), (0, .ref (ad (20, 0, 0))), (1, .int v1), (2, .int v2), (3, .int v3)]) hx hb dX5_snoop_127 hl rfl rfl (by decide) rfl (fun ls hl => ?_)
        refine lv_goto (pc := 130) (tgt := 93) hx hb dX5_snoop_130 (by decide) ?_
        exact ih (wk_up sg (32, 0, 0) (Int32.toNatClampNeg v4) (sg (31, 0, 0) (Int32.toNatClampNeg (((4 : Int32) * v2) + v4)))) v1 v2 v3 (v4 + 1) _ (by rw [← hs0, ms_X5_snoop_L93, if_neg h8, if_neg h9]) hg ls _ _ (lv_sub hl [1, 2, 3, 4, 0] rfl) hH hS hk
def mr_X5_snoop_L45 : Nat → (Nat → Nat) → wk_Sg → Int32 → Int32
  | 0, _, _, _ => 0
  | n + 1, P, sg, v1 => (if (sg (20, 0, 0) 0) ≤ v1 then (mr_X5_phase P sg 3) else (if v1 = (sg (20, 0, 0) 18) then (mr_X5_snoop_L45 n P sg  (v1 + 1)) else (if (mr_X5_stateOf P sg v1 (sg (20, 0, 0) 20)) = 0 then (mr_X5_snoop_L45 n P sg  (v1 + 1)) else (if ((ms_X5_snoop_L93 5 P (wk_up sg (20, 0, 0) 21 1)  v1 (mr_X5_slotOf P sg v1 (sg (20, 0, 0) 20)) (mr_X5_stateOf P sg v1 (sg (20, 0, 0) 20)) 0) (20, 0, 0) 19) = 2 then (if (mr_X5_isDirty P (ms_X5_snoop_L93 5 P (wk_up sg (20, 0, 0) 21 1)  v1 (mr_X5_slotOf P sg v1 (sg (20, 0, 0) 20)) (mr_X5_stateOf P sg v1 (sg (20, 0, 0) 20)) 0) (mr_X5_stateOf P sg v1 (sg (20, 0, 0) 20))) = 0 then (mr_X5_snoop_L45 n P (ms_X5_empty P (ms_X5_snoop_L93 5 P (wk_up sg (20, 0, 0) 21 1)  v1 (mr_X5_slotOf P sg v1 (sg (20, 0, 0) 20)) (mr_X5_stateOf P sg v1 (sg (20, 0, 0) 20)) 0) (mr_X5_slotOf P sg v1 (sg (20, 0, 0) 20)))  (v1 + 1)) else (if ((ms_X5_writeBack P (ms_X5_snoop_L93 5 P (wk_up sg (20, 0, 0) 21 1)  v1 (mr_X5_slotOf P sg v1 (sg (20, 0, 0) 20)) (mr_X5_stateOf P sg v1 (sg (20, 0, 0) 20)) 0) (mr_X5_slotOf P sg v1 (sg (20, 0, 0) 20))) (20, 0, 0) 19) = 2 then (mr_X5_snoop_L45 n P (ms_X5_empty P (ms_X5_writeBack P (ms_X5_snoop_L93 5 P (wk_up sg (20, 0, 0) 21 1)  v1 (mr_X5_slotOf P sg v1 (sg (20, 0, 0) 20)) (mr_X5_stateOf P sg v1 (sg (20, 0, 0) 20)) 0) (mr_X5_slotOf P sg v1 (sg (20, 0, 0) 20))) (mr_X5_slotOf P sg v1 (sg (20, 0, 0) 20)))  (v1 + 1)) else (if (mr_X5_stateOf P sg v1 (sg (20, 0, 0) 20)) = 4 then (mr_X5_snoop_L45 n P (wk_up (ms_X5_writeBack P (ms_X5_snoop_L93 5 P (wk_up sg (20, 0, 0) 21 1)  v1 (mr_X5_slotOf P sg v1 (sg (20, 0, 0) 20)) (mr_X5_stateOf P sg v1 (sg (20, 0, 0) 20)) 0) (mr_X5_slotOf P sg v1 (sg (20, 0, 0) 20))) (29, 0, 0) (Int32.toNatClampNeg (mr_X5_slotOf P sg v1 (sg (20, 0, 0) 20))) 3)  (v1 + 1)) else (if (mr_X5_stateOf P sg v1 (sg (20, 0, 0) 20)) = 2 then (mr_X5_snoop_L45 n P (wk_up (ms_X5_writeBack P (ms_X5_snoop_L93 5 P (wk_up sg (20, 0, 0) 21 1)  v1 (mr_X5_slotOf P sg v1 (sg (20, 0, 0) 20)) (mr_X5_stateOf P sg v1 (sg (20, 0, 0) 20)) 0) (mr_X5_slotOf P sg v1 (sg (20, 0, 0) 20))) (29, 0, 0) (Int32.toNatClampNeg (mr_X5_slotOf P sg v1 (sg (20, 0, 0) 20))) 1)  (v1 + 1)) else (mr_X5_snoop_L45 n P (wk_up (ms_X5_writeBack P (ms_X5_snoop_L93 5 P (wk_up sg (20, 0, 0) 21 1)  v1 (mr_X5_slotOf P sg v1 (sg (20, 0, 0) 20)) (mr_X5_stateOf P sg v1 (sg (20, 0, 0) 20)) 0) (mr_X5_slotOf P sg v1 (sg (20, 0, 0) 20))) (29, 0, 0) (Int32.toNatClampNeg (mr_X5_slotOf P sg v1 (sg (20, 0, 0) 20))) (mr_X5_stateOf P sg v1 (sg (20, 0, 0) 20)))  (v1 + 1)))))) else (if (mr_X5_stateOf P sg v1 (sg (20, 0, 0) 20)) = 4 then (mr_X5_snoop_L45 n P (wk_up (ms_X5_snoop_L93 5 P (wk_up sg (20, 0, 0) 21 1)  v1 (mr_X5_slotOf P sg v1 (sg (20, 0, 0) 20)) (mr_X5_stateOf P sg v1 (sg (20, 0, 0) 20)) 0) (29, 0, 0) (Int32.toNatClampNeg (mr_X5_slotOf P sg v1 (sg (20, 0, 0) 20))) 3)  (v1 + 1)) else (if (mr_X5_stateOf P sg v1 (sg (20, 0, 0) 20)) = 2 then (mr_X5_snoop_L45 n P (wk_up (ms_X5_snoop_L93 5 P (wk_up sg (20, 0, 0) 21 1)  v1 (mr_X5_slotOf P sg v1 (sg (20, 0, 0) 20)) (mr_X5_stateOf P sg v1 (sg (20, 0, 0) 20)) 0) (29, 0, 0) (Int32.toNatClampNeg (mr_X5_slotOf P sg v1 (sg (20, 0, 0) 20))) 1)  (v1 + 1)) else (mr_X5_snoop_L45 n P (wk_up (ms_X5_snoop_L93 5 P (wk_up sg (20, 0, 0) 21 1)  v1 (mr_X5_slotOf P sg v1 (sg (20, 0, 0) 20)) (mr_X5_stateOf P sg v1 (sg (20, 0, 0) 20)) 0) (29, 0, 0) (Int32.toNatClampNeg (mr_X5_slotOf P sg v1 (sg (20, 0, 0) 20))) (mr_X5_stateOf P sg v1 (sg (20, 0, 0) 20)))  (v1 + 1))))))))
def ms_X5_snoop_L45 : Nat → (Nat → Nat) → wk_Sg → Int32 → wk_Sg
  | 0, _, sg, _ => sg
  | n + 1, P, sg, v1 => (if (sg (20, 0, 0) 0) ≤ v1 then (ms_X5_phase P sg 3) else (if v1 = (sg (20, 0, 0) 18) then (ms_X5_snoop_L45 n P sg  (v1 + 1)) else (if (mr_X5_stateOf P sg v1 (sg (20, 0, 0) 20)) = 0 then (ms_X5_snoop_L45 n P sg  (v1 + 1)) else (if ((ms_X5_snoop_L93 5 P (wk_up sg (20, 0, 0) 21 1)  v1 (mr_X5_slotOf P sg v1 (sg (20, 0, 0) 20)) (mr_X5_stateOf P sg v1 (sg (20, 0, 0) 20)) 0) (20, 0, 0) 19) = 2 then (if (mr_X5_isDirty P (ms_X5_snoop_L93 5 P (wk_up sg (20, 0, 0) 21 1)  v1 (mr_X5_slotOf P sg v1 (sg (20, 0, 0) 20)) (mr_X5_stateOf P sg v1 (sg (20, 0, 0) 20)) 0) (mr_X5_stateOf P sg v1 (sg (20, 0, 0) 20))) = 0 then (ms_X5_snoop_L45 n P (ms_X5_empty P (ms_X5_snoop_L93 5 P (wk_up sg (20, 0, 0) 21 1)  v1 (mr_X5_slotOf P sg v1 (sg (20, 0, 0) 20)) (mr_X5_stateOf P sg v1 (sg (20, 0, 0) 20)) 0) (mr_X5_slotOf P sg v1 (sg (20, 0, 0) 20)))  (v1 + 1)) else (if ((ms_X5_writeBack P (ms_X5_snoop_L93 5 P (wk_up sg (20, 0, 0) 21 1)  v1 (mr_X5_slotOf P sg v1 (sg (20, 0, 0) 20)) (mr_X5_stateOf P sg v1 (sg (20, 0, 0) 20)) 0) (mr_X5_slotOf P sg v1 (sg (20, 0, 0) 20))) (20, 0, 0) 19) = 2 then (ms_X5_snoop_L45 n P (ms_X5_empty P (ms_X5_writeBack P (ms_X5_snoop_L93 5 P (wk_up sg (20, 0, 0) 21 1)  v1 (mr_X5_slotOf P sg v1 (sg (20, 0, 0) 20)) (mr_X5_stateOf P sg v1 (sg (20, 0, 0) 20)) 0) (mr_X5_slotOf P sg v1 (sg (20, 0, 0) 20))) (mr_X5_slotOf P sg v1 (sg (20, 0, 0) 20)))  (v1 + 1)) else (if (mr_X5_stateOf P sg v1 (sg (20, 0, 0) 20)) = 4 then (ms_X5_snoop_L45 n P (wk_up (ms_X5_writeBack P (ms_X5_snoop_L93 5 P (wk_up sg (20, 0, 0) 21 1)  v1 (mr_X5_slotOf P sg v1 (sg (20, 0, 0) 20)) (mr_X5_stateOf P sg v1 (sg (20, 0, 0) 20)) 0) (mr_X5_slotOf P sg v1 (sg (20, 0, 0) 20))) (29, 0, 0) (Int32.toNatClampNeg (mr_X5_slotOf P sg v1 (sg (20, 0, 0) 20))) 3)  (v1 + 1)) else (if (mr_X5_stateOf P sg v1 (sg (20, 0, 0) 20)) = 2 then (ms_X5_snoop_L45 n P (wk_up (ms_X5_writeBack P (ms_X5_snoop_L93 5 P (wk_up sg (20, 0, 0) 21 1)  v1 (mr_X5_slotOf P sg v1 (sg (20, 0, 0) 20)) (mr_X5_stateOf P sg v1 (sg (20, 0, 0) 20)) 0) (mr_X5_slotOf P sg v1 (sg (20, 0, 0) 20))) (29, 0, 0) (Int32.toNatClampNeg (mr_X5_slotOf P sg v1 (sg (20, 0, 0) 20))) 1)  (v1 + 1)) else (ms_X5_snoop_L45 n P (wk_up (ms_X5_writeBack P (ms_X5_snoop_L93 5 P (wk_up sg (20, 0, 0) 21 1)  v1 (mr_X5_slotOf P sg v1 (sg (20, 0, 0) 20)) (mr_X5_stateOf P sg v1 (sg (20, 0, 0) 20)) 0) (mr_X5_slotOf P sg v1 (sg (20, 0, 0) 20))) (29, 0, 0) (Int32.toNatClampNeg (mr_X5_slotOf P sg v1 (sg (20, 0, 0) 20))) (mr_X5_stateOf P sg v1 (sg (20, 0, 0) 20)))  (v1 + 1)))))) else (if (mr_X5_stateOf P sg v1 (sg (20, 0, 0) 20)) = 4 then (ms_X5_snoop_L45 n P (wk_up (ms_X5_snoop_L93 5 P (wk_up sg (20, 0, 0) 21 1)  v1 (mr_X5_slotOf P sg v1 (sg (20, 0, 0) 20)) (mr_X5_stateOf P sg v1 (sg (20, 0, 0) 20)) 0) (29, 0, 0) (Int32.toNatClampNeg (mr_X5_slotOf P sg v1 (sg (20, 0, 0) 20))) 3)  (v1 + 1)) else (if (mr_X5_stateOf P sg v1 (sg (20, 0, 0) 20)) = 2 then (ms_X5_snoop_L45 n P (wk_up (ms_X5_snoop_L93 5 P (wk_up sg (20, 0, 0) 21 1)  v1 (mr_X5_slotOf P sg v1 (sg (20, 0, 0) 20)) (mr_X5_stateOf P sg v1 (sg (20, 0, 0) 20)) 0) (29, 0, 0) (Int32.toNatClampNeg (mr_X5_slotOf P sg v1 (sg (20, 0, 0) 20))) 1)  (v1 + 1)) else (ms_X5_snoop_L45 n P (wk_up (ms_X5_snoop_L93 5 P (wk_up sg (20, 0, 0) 21 1)  v1 (mr_X5_slotOf P sg v1 (sg (20, 0, 0) 20)) (mr_X5_stateOf P sg v1 (sg (20, 0, 0) 20)) 0) (29, 0, 0) (Int32.toNatClampNeg (mr_X5_slotOf P sg v1 (sg (20, 0, 0) 20))) (mr_X5_stateOf P sg v1 (sg (20, 0, 0) 20)))  (v1 + 1))))))))
def mg_X5_snoop_L45 : Nat → (Nat → Nat) → wk_Sg → Int32 → Prop
  | 0, _, _, _ => False
  | n + 1, P, sg, v1 => (((sg (20, 0, 0) 0) ≤ v1 → (mg_X5_phase P sg 3 ∧ True)) ∧ (¬ (sg (20, 0, 0) 0) ≤ v1 → (mg_X5_slotOf P sg v1 (sg (20, 0, 0) 20) ∧ (mg_X5_stateOf P sg v1 (sg (20, 0, 0) 20) ∧ ((v1 = (sg (20, 0, 0) 18) → mg_X5_snoop_L45 n P sg  (v1 + 1)) ∧ (¬ v1 = (sg (20, 0, 0) 18) → (((mr_X5_stateOf P sg v1 (sg (20, 0, 0) 20)) = 0 → mg_X5_snoop_L45 n P sg  (v1 + 1)) ∧ (¬ (mr_X5_stateOf P sg v1 (sg (20, 0, 0) 20)) = 0 → (mg_X5_snoop_L93 5 P (wk_up sg (20, 0, 0) 21 1)  v1 (mr_X5_slotOf P sg v1 (sg (20, 0, 0) 20)) (mr_X5_stateOf P sg v1 (sg (20, 0, 0) 20)) 0 ∧ ((((ms_X5_snoop_L93 5 P (wk_up sg (20, 0, 0) 21 1)  v1 (mr_X5_slotOf P sg v1 (sg (20, 0, 0) 20)) (mr_X5_stateOf P sg v1 (sg (20, 0, 0) 20)) 0) (20, 0, 0) 19) = 2 → (((mr_X5_isDirty P (ms_X5_snoop_L93 5 P (wk_up sg (20, 0, 0) 21 1)  v1 (mr_X5_slotOf P sg v1 (sg (20, 0, 0) 20)) (mr_X5_stateOf P sg v1 (sg (20, 0, 0) 20)) 0) (mr_X5_stateOf P sg v1 (sg (20, 0, 0) 20))) = 0 → (mg_X5_empty P (ms_X5_snoop_L93 5 P (wk_up sg (20, 0, 0) 21 1)  v1 (mr_X5_slotOf P sg v1 (sg (20, 0, 0) 20)) (mr_X5_stateOf P sg v1 (sg (20, 0, 0) 20)) 0) (mr_X5_slotOf P sg v1 (sg (20, 0, 0) 20)) ∧ mg_X5_snoop_L45 n P (ms_X5_empty P (ms_X5_snoop_L93 5 P (wk_up sg (20, 0, 0) 21 1)  v1 (mr_X5_slotOf P sg v1 (sg (20, 0, 0) 20)) (mr_X5_stateOf P sg v1 (sg (20, 0, 0) 20)) 0) (mr_X5_slotOf P sg v1 (sg (20, 0, 0) 20)))  (v1 + 1))) ∧ (¬ (mr_X5_isDirty P (ms_X5_snoop_L93 5 P (wk_up sg (20, 0, 0) 21 1)  v1 (mr_X5_slotOf P sg v1 (sg (20, 0, 0) 20)) (mr_X5_stateOf P sg v1 (sg (20, 0, 0) 20)) 0) (mr_X5_stateOf P sg v1 (sg (20, 0, 0) 20))) = 0 → (mg_X5_writeBack P (ms_X5_snoop_L93 5 P (wk_up sg (20, 0, 0) 21 1)  v1 (mr_X5_slotOf P sg v1 (sg (20, 0, 0) 20)) (mr_X5_stateOf P sg v1 (sg (20, 0, 0) 20)) 0) (mr_X5_slotOf P sg v1 (sg (20, 0, 0) 20)) ∧ ((((ms_X5_writeBack P (ms_X5_snoop_L93 5 P (wk_up sg (20, 0, 0) 21 1)  v1 (mr_X5_slotOf P sg v1 (sg (20, 0, 0) 20)) (mr_X5_stateOf P sg v1 (sg (20, 0, 0) 20)) 0) (mr_X5_slotOf P sg v1 (sg (20, 0, 0) 20))) (20, 0, 0) 19) = 2 → (mg_X5_empty P (ms_X5_writeBack P (ms_X5_snoop_L93 5 P (wk_up sg (20, 0, 0) 21 1)  v1 (mr_X5_slotOf P sg v1 (sg (20, 0, 0) 20)) (mr_X5_stateOf P sg v1 (sg (20, 0, 0) 20)) 0) (mr_X5_slotOf P sg v1 (sg (20, 0, 0) 20))) (mr_X5_slotOf P sg v1 (sg (20, 0, 0) 20)) ∧ mg_X5_snoop_L45 n P (ms_X5_empty P (ms_X5_writeBack P (ms_X5_snoop_L93 5 P (wk_up sg (20, 0, 0) 21 1)  v1 (mr_X5_slotOf P sg v1 (sg (20, 0, 0) 20)) (mr_X5_stateOf P sg v1 (sg (20, 0, 0) 20)) 0) (mr_X5_slotOf P sg v1 (sg (20, 0, 0) 20))) (mr_X5_slotOf P sg v1 (sg (20, 0, 0) 20)))  (v1 + 1))) ∧ (¬ ((ms_X5_writeBack P (ms_X5_snoop_L93 5 P (wk_up sg (20, 0, 0) 21 1)  v1 (mr_X5_slotOf P sg v1 (sg (20, 0, 0) 20)) (mr_X5_stateOf P sg v1 (sg (20, 0, 0) 20)) 0) (mr_X5_slotOf P sg v1 (sg (20, 0, 0) 20))) (20, 0, 0) 19) = 2 → (((mr_X5_stateOf P sg v1 (sg (20, 0, 0) 20)) = 4 → (vp_in (mr_X5_slotOf P sg v1 (sg (20, 0, 0) 20)) 32 ∧ mg_X5_snoop_L45 n P (wk_up (ms_X5_writeBack P (ms_X5_snoop_L93 5 P (wk_up sg (20, 0, 0) 21 1)  v1 (mr_X5_slotOf P sg v1 (sg (20, 0, 0) 20)) (mr_X5_stateOf P sg v1 (sg (20, 0, 0) 20)) 0) (mr_X5_slotOf P sg v1 (sg (20, 0, 0) 20))) (29, 0, 0) (Int32.toNatClampNeg (mr_X5_slotOf P sg v1 (sg (20, 0, 0) 20))) 3)  (v1 + 1))) ∧ (¬ (mr_X5_stateOf P sg v1 (sg (20, 0, 0) 20)) = 4 → (((mr_X5_stateOf P sg v1 (sg (20, 0, 0) 20)) = 2 → (vp_in (mr_X5_slotOf P sg v1 (sg (20, 0, 0) 20)) 32 ∧ mg_X5_snoop_L45 n P (wk_up (ms_X5_writeBack P (ms_X5_snoop_L93 5 P (wk_up sg (20, 0, 0) 21 1)  v1 (mr_X5_slotOf P sg v1 (sg (20, 0, 0) 20)) (mr_X5_stateOf P sg v1 (sg (20, 0, 0) 20)) 0) (mr_X5_slotOf P sg v1 (sg (20, 0, 0) 20))) (29, 0, 0) (Int32.toNatClampNeg (mr_X5_slotOf P sg v1 (sg (20, 0, 0) 20))) 1)  (v1 + 1))) ∧ (¬ (mr_X5_stateOf P sg v1 (sg (20, 0, 0) 20)) = 2 → (vp_in (mr_X5_slotOf P sg v1 (sg (20, 0, 0) 20)) 32 ∧ mg_X5_snoop_L45 n P (wk_up (ms_X5_writeBack P (ms_X5_snoop_L93 5 P (wk_up sg (20, 0, 0) 21 1)  v1 (mr_X5_slotOf P sg v1 (sg (20, 0, 0) 20)) (mr_X5_stateOf P sg v1 (sg (20, 0, 0) 20)) 0) (mr_X5_slotOf P sg v1 (sg (20, 0, 0) 20))) (29, 0, 0) (Int32.toNatClampNeg (mr_X5_slotOf P sg v1 (sg (20, 0, 0) 20))) (mr_X5_stateOf P sg v1 (sg (20, 0, 0) 20)))  (v1 + 1)))))))))))) ∧ (¬ ((ms_X5_snoop_L93 5 P (wk_up sg (20, 0, 0) 21 1)  v1 (mr_X5_slotOf P sg v1 (sg (20, 0, 0) 20)) (mr_X5_stateOf P sg v1 (sg (20, 0, 0) 20)) 0) (20, 0, 0) 19) = 2 → (((mr_X5_stateOf P sg v1 (sg (20, 0, 0) 20)) = 4 → (vp_in (mr_X5_slotOf P sg v1 (sg (20, 0, 0) 20)) 32 ∧ mg_X5_snoop_L45 n P (wk_up (ms_X5_snoop_L93 5 P (wk_up sg (20, 0, 0) 21 1)  v1 (mr_X5_slotOf P sg v1 (sg (20, 0, 0) 20)) (mr_X5_stateOf P sg v1 (sg (20, 0, 0) 20)) 0) (29, 0, 0) (Int32.toNatClampNeg (mr_X5_slotOf P sg v1 (sg (20, 0, 0) 20))) 3)  (v1 + 1))) ∧ (¬ (mr_X5_stateOf P sg v1 (sg (20, 0, 0) 20)) = 4 → (((mr_X5_stateOf P sg v1 (sg (20, 0, 0) 20)) = 2 → (vp_in (mr_X5_slotOf P sg v1 (sg (20, 0, 0) 20)) 32 ∧ mg_X5_snoop_L45 n P (wk_up (ms_X5_snoop_L93 5 P (wk_up sg (20, 0, 0) 21 1)  v1 (mr_X5_slotOf P sg v1 (sg (20, 0, 0) 20)) (mr_X5_stateOf P sg v1 (sg (20, 0, 0) 20)) 0) (29, 0, 0) (Int32.toNatClampNeg (mr_X5_slotOf P sg v1 (sg (20, 0, 0) 20))) 1)  (v1 + 1))) ∧ (¬ (mr_X5_stateOf P sg v1 (sg (20, 0, 0) 20)) = 2 → (vp_in (mr_X5_slotOf P sg v1 (sg (20, 0, 0) 20)) 32 ∧ mg_X5_snoop_L45 n P (wk_up (ms_X5_snoop_L93 5 P (wk_up sg (20, 0, 0) 21 1)  v1 (mr_X5_slotOf P sg v1 (sg (20, 0, 0) 20)) (mr_X5_stateOf P sg v1 (sg (20, 0, 0) 20)) 0) (29, 0, 0) (Int32.toNatClampNeg (mr_X5_slotOf P sg v1 (sg (20, 0, 0) 20))) (mr_X5_stateOf P sg v1 (sg (20, 0, 0) 20)))  (v1 + 1)))))))))))))))))
set_option maxHeartbeats 4000000 in
set_option maxRecDepth 100000 in
theorem mk_X5_snoop_L45 {l : Launch} {D : va_G} {T : wk_T} {z0 : Nat} {ad : wk_K3 → Nat} {sh : wk_Sh} {P : Nat → Nat} (hSh : rf_Sh T sh)   {p : Program} {e : Env} {s : State} {m : MethodId} {args : Array Value} {below : List Frame} {meth : Method} {c : Code} (X : wk_C p m c cX5_snoop 5 s args RX5 D T) (hz : z0 ≤ s.heap.size) (hr : meth.sig.returnType = some .int) (hlocks : meth.locks = false) :
    ∀ (n : Nat) (sg : wk_Sg) (v1 : Int32) (r0 : Int32) (sg0 : wk_Sg), mr_X5_snoop_L45 n P sg  v1 = r0 → ms_X5_snoop_L45 n P sg  v1 = sg0 → mg_X5_snoop_L45 n P sg  v1 → ∀ (ls : Array Slot) (H : Heap) (locs : List Loc), lv_has ls 5 [(0, .ref (ad (20, 0, 0))), (1, .int v1)] → wk_H D z0 ad sh sg H → va_S (wk_A z0) s.heap H locs → W p l e (wk_rm 2 45) s m args below meth c H locs 0 0 (MQ below (wk_Qi D z0 ad sh r0 sg0) args s 0 0 (wk_A z0)) (F0 m 45 ls []) := by
  have hx := X.1.1
  have hb := X.1.2.1
  have hts := X.1.2.2.2.2
  intro n
  induction n with
  | zero =>
    intro sg v1 r0 sg0 hr0 hs0 hg ls H locs hl hH hS
    exact (show False from hg).elim
  | succ n ih =>
    intro sg v1 r0 sg0 hr0 hs0 hg ls H locs hl hH hS
    rw [mg_X5_snoop_L45] at hg
    refine lv_iload_n (pc := 45) hx hb dX5_snoop_45 rfl (lv_at hl 1 rfl) ?_
    refine lv_aload_n (pc := 46) hx hb dX5_snoop_46 rfl (lv_at hl 0 rfl) ?_
    refine wk_geti (pc := 47) X hH (20, 0, 0) 0 (rf_20 hSh) rfl (by decide) rfl inX5 fl_X5_53 dX5_snoop_47 ?_
    refine lv_icmp_ge (pc := 50) (tgt := 200) hx hb dX5_snoop_50 (by decide) (fun h2 => ?_) (fun h2 => ?_)
    · have hg := hg.1 h2
      refine lv_aload_n (pc := 200) hx hb dX5_snoop_200 rfl (lv_at hl 0 rfl) ?_
      refine lv_iconst (pc := 201) (v := 3) hx hb dX5_snoop_201 (by decide) ?_
      obtain ⟨o3, hg⟩ := hg
      refine wk_ci (wk_rV (pc := 202) (As := [.int 3]) (rest := []) X hH hS hz (rf_20 hSh) rfl ok_X5_phase (mk_X5_phase (l := l) (P := P) hSh sg 3  o3) ml_X5_113 ⟨by decide, by decide, by decide, by decide⟩ rfl hl.1 rfl (Nat.le_of_ble_eq_true rfl) dX5_snoop_202) hS (fun H locs hH hS => ?_)
      exact wk_iret (pc := 205) X hH hS hr hlocks (by rw [← hr0, mr_X5_snoop_L45, if_pos h2]) (by rw [← hs0, ms_X5_snoop_L45, if_pos h2]) dX5_snoop_205
    · have hg := hg.2 h2
      refine lv_aload_n (pc := 53) hx hb dX5_snoop_53 rfl (lv_at hl 0 rfl) ?_
      refine lv_iload_n (pc := 54) hx hb dX5_snoop_54 rfl (lv_at hl 1 rfl) ?_
      refine lv_aload_n (pc := 55) hx hb dX5_snoop_55 rfl (lv_at hl 0 rfl) ?_
      refine wk_geti (pc := 56) X hH (20, 0, 0) 20 (rf_20 hSh) rfl (by decide) rfl inX5 fl_X5_72 dX5_snoop_56 ?_
      obtain ⟨o4, hg⟩ := hg
      refine wk_ci (wk_rV (pc := 59) (As := [.int v1, .int (sg (20, 0, 0) 20)]) (rest := []) X hH hS hz (rf_20 hSh) rfl ok_X5_slotOf (mk_X5_slotOf (l := l) (P := P) hSh sg v1 (sg (20, 0, 0) 20)  o4) ml_X5_86 ⟨by decide, by decide, by decide, by decide⟩ rfl hl.1 rfl (Nat.le_of_ble_eq_true rfl) dX5_snoop_59) hS (fun H locs hH hS => ?_)
      refine lv_istore_n (pc := 62) (lv' := [(2, .int (mr_X5_slotOf P sg v1 (sg (20, 0, 0) 20))), (0, .ref (ad (20, 0, 0))), (1, .int v1)]) hx hb dX5_snoop_62 rfl hl (by decide) rfl (fun ls hl => ?_)
      refine lv_aload_n (pc := 63) hx hb dX5_snoop_63 rfl (lv_at hl 1 rfl) ?_
      refine lv_iload_n (pc := 64) hx hb dX5_snoop_64 rfl (lv_at hl 2 rfl) ?_
      refine lv_aload_n (pc := 65) hx hb dX5_snoop_65 rfl (lv_at hl 1 rfl) ?_
      refine wk_geti (pc := 66) X hH (20, 0, 0) 20 (rf_20 hSh) rfl (by decide) rfl inX5 fl_X5_72 dX5_snoop_66 ?_
      obtain ⟨o5, hg⟩ := hg
      refine wk_ci (wk_rV (pc := 69) (As := [.int v1, .int (sg (20, 0, 0) 20)]) (rest := []) X hH hS hz (rf_20 hSh) rfl ok_X5_stateOf (mk_X5_stateOf (l := l) (P := P) hSh sg v1 (sg (20, 0, 0) 20)  o5) ml_X5_94 ⟨by decide, by decide, by decide, by decide⟩ rfl hl.1 rfl (Nat.le_of_ble_eq_true rfl) dX5_snoop_69) hS (fun H locs hH hS => ?_)
      refine lv_istore_n (pc := 72) (lv' := [(3, .int (mr_X5_stateOf P sg v1 (sg (20, 0, 0) 20))), (2, .int (mr_X5_slotOf P sg v1 (sg (20, 0, 0) 20))), (0, .ref (ad (20, 0, 0))), (1, .int v1)]) hx hb dX5_snoop_72 rfl hl (by decide) rfl (fun ls hl => ?_)
      refine lv_iload_n (pc := 73) hx hb dX5_snoop_73 rfl (lv_at hl 3 rfl) ?_
      refine lv_aload_n (pc := 74) hx hb dX5_snoop_74 rfl (lv_at hl 2 rfl) ?_
      refine wk_geti (pc := 75) X hH (20, 0, 0) 18 (rf_20 hSh) rfl (by decide) rfl inX5 fl_X5_69 dX5_snoop_75 ?_
      refine lv_icmp_eq (pc := 78) (tgt := 194) hx hb dX5_snoop_78 (by decide) (fun h6 => ?_) (fun h6 => ?_)
      · have hg := hg.1 h6
        refine lv_iinc (pc := 194) (k := 3) (v := (v1 + 1)) (lv' := [(1, .int (v1 + 1)), (3, .int (mr_X5_stateOf P sg v1 (sg (20, 0, 0) 20))), (2, .int (mr_X5_slotOf P sg v1 (sg (20, 0, 0) 20))), (0, .ref (ad (20, 0, 0)))]) hx hb dX5_snoop_194 hl rfl rfl (by decide) rfl (fun ls hl => ?_)
        refine lv_goto (pc := 197) (tgt := 45) hx hb dX5_snoop_197 (by decide) ?_
        exact ih sg (v1 + 1) _ _ (by rw [← hr0, mr_X5_snoop_L45, if_neg h2, if_pos h6]) (by rw [← hs0, ms_X5_snoop_L45, if_neg h2, if_pos h6]) hg ls _ _ (lv_sub hl [3, 0] rfl) hH hS
      · have hg := hg.2 h6
        refine lv_iload_n (pc := 81) hx hb dX5_snoop_81 rfl (lv_at hl 0 rfl) ?_
        refine lv_if_eq (pc := 82) (tgt := 194) hx hb dX5_snoop_82 (by decide) (fun h7 => ?_) (fun h7 => ?_)
        · have hg := hg.1 h7
          refine lv_iinc (pc := 194) (k := 3) (v := (v1 + 1)) (lv' := [(1, .int (v1 + 1)), (3, .int (mr_X5_stateOf P sg v1 (sg (20, 0, 0) 20))), (2, .int (mr_X5_slotOf P sg v1 (sg (20, 0, 0) 20))), (0, .ref (ad (20, 0, 0)))]) hx hb dX5_snoop_194 hl rfl rfl (by decide) rfl (fun ls hl => ?_)
          refine lv_goto (pc := 197) (tgt := 45) hx hb dX5_snoop_197 (by decide) ?_
          exact ih sg (v1 + 1) _ _ (by rw [← hr0, mr_X5_snoop_L45, if_neg h2, if_neg h6, if_pos h7]) (by rw [← hs0, ms_X5_snoop_L45, if_neg h2, if_neg h6, if_pos h7]) hg ls _ _ (lv_sub hl [3, 0] rfl) hH hS
        · have hg := hg.2 h7
          refine lv_aload_n (pc := 85) hx hb dX5_snoop_85 rfl (lv_at hl 2 rfl) ?_
          refine lv_iconst (pc := 86) (v := 1) hx hb dX5_snoop_86 (by decide) ?_
          refine wk_puti (pc := 87) X hH hS (20, 0, 0) 21 tyX5_ok nmX5 (rf_20 hSh) rfl (by decide) rfl inX5 fl_X5_115 rfl rfl rfl dX5_snoop_87 (fun H locs hH hS => ?_)
          refine lv_iconst (pc := 90) (v := 0) hx hb dX5_snoop_90 (by decide) ?_
          refine lv_istore (pc := 91) (lv' := [(4, .int 0), (3, .int (mr_X5_stateOf P sg v1 (sg (20, 0, 0) 20))), (2, .int (mr_X5_slotOf P sg v1 (sg (20, 0, 0) 20))), (0, .ref (ad (20, 0, 0))), (1, .int v1)]) hx hb dX5_snoop_91 hl (by decide) rfl (fun ls hl => ?_)
          obtain ⟨o12, hg⟩ := hg
          refine mk_X5_snoop_L93 (P := P) hSh   X hz hr hlocks 5 (wk_up sg (20, 0, 0) 21 1) v1 (mr_X5_slotOf P sg v1 (sg (20, 0, 0) 20)) (mr_X5_stateOf P sg v1 (sg (20, 0, 0) 20)) 0 _ rfl o12 ls _ _ (lv_sub hl [3, 4, 2, 1, 0] rfl) hH hS (fun ls H locs hl hH hS => ?_)
          refine lv_aload_n (pc := 133) hx hb dX5_snoop_133 rfl (lv_at hl 0 rfl) ?_
          refine wk_geti (pc := 134) X hH (20, 0, 0) 19 (rf_20 hSh) rfl (by decide) rfl inX5 fl_X5_110 dX5_snoop_134 ?_
          refine lv_iconst (pc := 137) (v := 2) hx hb dX5_snoop_137 (by decide) ?_
          refine lv_icmp_ne (pc := 138) (tgt := 153) hx hb dX5_snoop_138 (by decide) (fun h13 => ?_) (fun h13 => ?_)
          · have hg := hg.2 h13
            refine lv_aload_n (pc := 153) hx hb dX5_snoop_153 rfl (lv_at hl 0 rfl) ?_
            refine wk_geti (pc := 154) X hH (20, 0, 0) 19 (rf_20 hSh) rfl (by decide) rfl inX5 fl_X5_110 dX5_snoop_154 ?_
            refine lv_iconst (pc := 157) (v := 2) hx hb dX5_snoop_157 (by decide) ?_
            refine lv_icmp_ne (pc := 158) (tgt := 169) hx hb dX5_snoop_158 (by decide) (fun _ => ?_) (fun h14 => absurd h14 h13)
            refine lv_aload_n (pc := 169) hx hb dX5_snoop_169 rfl (lv_at hl 0 rfl) ?_
            refine wk_getr (pc := 170) X hH (20, 0, 0) 14 (29, 0, 0) (rf_20 hSh) rfl (by decide) rfl inX5 fl_X5_34 dX5_snoop_170 ?_
            refine lv_iload_n (pc := 173) hx hb dX5_snoop_173 rfl (lv_at hl 2 rfl) ?_
            refine lv_iload_n (pc := 174) hx hb dX5_snoop_174 rfl (lv_at hl 3 rfl) ?_
            refine lv_iconst (pc := 175) (v := 4) hx hb dX5_snoop_175 (by decide) ?_
            refine lv_icmp_ne (pc := 176) (tgt := 183) hx hb dX5_snoop_176 (by decide) (fun h15 => ?_) (fun h15 => ?_)
            · have hg := hg.2 h15
              refine lv_iload_n (pc := 183) hx hb dX5_snoop_183 rfl (lv_at hl 3 rfl) ?_
              refine lv_iconst (pc := 184) (v := 2) hx hb dX5_snoop_184 (by decide) ?_
              refine lv_icmp_ne (pc := 185) (tgt := 192) hx hb dX5_snoop_185 (by decide) (fun h16 => ?_) (fun h16 => ?_)
              · have hg := hg.2 h16
                refine lv_iload_n (pc := 192) hx hb dX5_snoop_192 rfl (lv_at hl 3 rfl) ?_
                obtain ⟨o17, hg⟩ := hg
                refine wk_iast (pc := 193) X hH hS (29, 0, 0) (rf_29 hSh) o17 dX5_snoop_193 (fun H locs hH hS => ?_)
                refine lv_iinc (pc := 194) (k := 1) (v := (v1 + 1)) (lv' := [(1, .int (v1 + 1)), (0, .ref (ad (20, 0, 0))), (2, .int (mr_X5_slotOf P sg v1 (sg (20, 0, 0) 20))), (3, .int (mr_X5_stateOf P sg v1 (sg (20, 0, 0) 20)))]) hx hb dX5_snoop_194 hl rfl rfl (by decide) rfl (fun ls hl => ?_)
                refine lv_goto (pc := 197) (tgt := 45) hx hb dX5_snoop_197 (by decide) ?_
                exact ih (wk_up (ms_X5_snoop_L93 5 P (wk_up sg (20, 0, 0) 21 1)  v1 (mr_X5_slotOf P sg v1 (sg (20, 0, 0) 20)) (mr_X5_stateOf P sg v1 (sg (20, 0, 0) 20)) 0) (29, 0, 0) (Int32.toNatClampNeg (mr_X5_slotOf P sg v1 (sg (20, 0, 0) 20))) (mr_X5_stateOf P sg v1 (sg (20, 0, 0) 20))) (v1 + 1) _ _ (by rw [← hr0, mr_X5_snoop_L45, if_neg h2, if_neg h6, if_neg h7, if_neg h13, if_neg h15, if_neg h16]) (by rw [← hs0, ms_X5_snoop_L45, if_neg h2, if_neg h6, if_neg h7, if_neg h13, if_neg h15, if_neg h16]) hg ls _ _ (lv_sub hl [1, 0] rfl) hH hS
              · have hg := hg.1 h16
                refine lv_iconst (pc := 188) (v := 1) hx hb dX5_snoop_188 (by decide) ?_
                refine lv_goto (pc := 189) (tgt := 193) hx hb dX5_snoop_189 (by decide) ?_
                obtain ⟨o18, hg⟩ := hg
                refine wk_iast (pc := 193) X hH hS (29, 0, 0) (rf_29 hSh) o18 dX5_snoop_193 (fun H locs hH hS => ?_)
                refine lv_iinc (pc := 194) (k := 1) (v := (v1 + 1)) (lv' := [(1, .int (v1 + 1)), (0, .ref (ad (20, 0, 0))), (2, .int (mr_X5_slotOf P sg v1 (sg (20, 0, 0) 20))), (3, .int (mr_X5_stateOf P sg v1 (sg (20, 0, 0) 20)))]) hx hb dX5_snoop_194 hl rfl rfl (by decide) rfl (fun ls hl => ?_)
                refine lv_goto (pc := 197) (tgt := 45) hx hb dX5_snoop_197 (by decide) ?_
                exact ih (wk_up (ms_X5_snoop_L93 5 P (wk_up sg (20, 0, 0) 21 1)  v1 (mr_X5_slotOf P sg v1 (sg (20, 0, 0) 20)) (mr_X5_stateOf P sg v1 (sg (20, 0, 0) 20)) 0) (29, 0, 0) (Int32.toNatClampNeg (mr_X5_slotOf P sg v1 (sg (20, 0, 0) 20))) 1) (v1 + 1) _ _ (by rw [← hr0, mr_X5_snoop_L45, if_neg h2, if_neg h6, if_neg h7, if_neg h13, if_neg h15, if_pos h16]) (by rw [← hs0, ms_X5_snoop_L45, if_neg h2, if_neg h6, if_neg h7, if_neg h13, if_neg h15, if_pos h16]) hg ls _ _ (lv_sub hl [1, 0] rfl) hH hS
            · have hg := hg.1 h15
              refine lv_iconst (pc := 179) (v := 3) hx hb dX5_snoop_179 (by decide) ?_
              refine lv_goto (pc := 180) (tgt := 193) hx hb dX5_snoop_180 (by decide) ?_
              obtain ⟨o19, hg⟩ := hg
              refine wk_iast (pc := 193) X hH hS (29, 0, 0) (rf_29 hSh) o19 dX5_snoop_193 (fun H locs hH hS => ?_)
              refine lv_iinc (pc := 194) (k := 1) (v := (v1 + 1)) (lv' := [(1, .int (v1 + 1)), (0, .ref (ad (20, 0, 0))), (2, .int (mr_X5_slotOf P sg v1 (sg (20, 0, 0) 20))), (3, .int (mr_X5_stateOf P sg v1 (sg (20, 0, 0) 20)))]) hx hb dX5_snoop_194 hl rfl rfl (by decide) rfl (fun ls hl => ?_)
              refine lv_goto (pc := 197) (tgt := 45) hx hb dX5_snoop_197 (by decide) ?_
              exact ih (wk_up (ms_X5_snoop_L93 5 P (wk_up sg (20, 0, 0) 21 1)  v1 (mr_X5_slotOf P sg v1 (sg (20, 0, 0) 20)) (mr_X5_stateOf P sg v1 (sg (20, 0, 0) 20)) 0) (29, 0, 0) (Int32.toNatClampNeg (mr_X5_slotOf P sg v1 (sg (20, 0, 0) 20))) 3) (v1 + 1) _ _ (by rw [← hr0, mr_X5_snoop_L45, if_neg h2, if_neg h6, if_neg h7, if_neg h13, if_pos h15]) (by rw [← hs0, ms_X5_snoop_L45, if_neg h2, if_neg h6, if_neg h7, if_neg h13, if_pos h15]) hg ls _ _ (lv_sub hl [1, 0] rfl) hH hS
          · have hg := hg.1 h13
            refine lv_iload_n (pc := 141) hx hb dX5_snoop_141 rfl (lv_at hl 3 rfl) ?_
            refine wk_ci (wk_rS (pc := 142) (As := [.int (mr_X5_stateOf P sg v1 (sg (20, 0, 0) 20))]) (rest := []) X hH hS hz ok_X5_isDirty (mk_X5_isDirty (l := l) (P := P)  (ms_X5_snoop_L93 5 P (wk_up sg (20, 0, 0) 21 1)  v1 (mr_X5_slotOf P sg v1 (sg (20, 0, 0) 20)) (mr_X5_stateOf P sg v1 (sg (20, 0, 0) 20)) 0) (mr_X5_stateOf P sg v1 (sg (20, 0, 0) 20))  ) ml_X5_118 ⟨by decide, by decide, by decide, by decide⟩ rfl hl.1 rfl (Nat.le_of_ble_eq_true rfl) dX5_snoop_142) hS (fun H locs hH hS => ?_)
            refine lv_if_eq (pc := 145) (tgt := 153) hx hb dX5_snoop_145 (by decide) (fun h20 => ?_) (fun h20 => ?_)
            · have hg := hg.1 h20
              refine lv_aload_n (pc := 153) hx hb dX5_snoop_153 rfl (lv_at hl 0 rfl) ?_
              refine wk_geti (pc := 154) X hH (20, 0, 0) 19 (rf_20 hSh) rfl (by decide) rfl inX5 fl_X5_110 dX5_snoop_154 ?_
              refine lv_iconst (pc := 157) (v := 2) hx hb dX5_snoop_157 (by decide) ?_
              refine lv_icmp_ne (pc := 158) (tgt := 169) hx hb dX5_snoop_158 (by decide) (fun h21 => absurd h13 h21) (fun _ => ?_)
              refine lv_aload_n (pc := 161) hx hb dX5_snoop_161 rfl (lv_at hl 0 rfl) ?_
              refine lv_iload_n (pc := 162) hx hb dX5_snoop_162 rfl (lv_at hl 2 rfl) ?_
              obtain ⟨o22, hg⟩ := hg
              refine wk_cv (wk_rV (pc := 163) (As := [.int (mr_X5_slotOf P sg v1 (sg (20, 0, 0) 20))]) (rest := []) X hH hS hz (rf_20 hSh) rfl ok_X5_empty (mk_X5_empty (l := l) (P := P) hSh (ms_X5_snoop_L93 5 P (wk_up sg (20, 0, 0) 21 1)  v1 (mr_X5_slotOf P sg v1 (sg (20, 0, 0) 20)) (mr_X5_stateOf P sg v1 (sg (20, 0, 0) 20)) 0) (mr_X5_slotOf P sg v1 (sg (20, 0, 0) 20))  o22) ml_X5_125 ⟨by decide, by decide, by decide, by decide⟩ rfl hl.1 rfl (Nat.le_of_ble_eq_true rfl) dX5_snoop_163) hS (fun H locs hH hS => ?_)
              refine lv_goto (pc := 166) (tgt := 194) hx hb dX5_snoop_166 (by decide) ?_
              refine lv_iinc (pc := 194) (k := 1) (v := (v1 + 1)) (lv' := [(1, .int (v1 + 1)), (0, .ref (ad (20, 0, 0))), (2, .int (mr_X5_slotOf P sg v1 (sg (20, 0, 0) 20))), (3, .int (mr_X5_stateOf P sg v1 (sg (20, 0, 0) 20)))]) hx hb dX5_snoop_194 hl rfl rfl (by decide) rfl (fun ls hl => ?_)
              refine lv_goto (pc := 197) (tgt := 45) hx hb dX5_snoop_197 (by decide) ?_
              exact ih (ms_X5_empty P (ms_X5_snoop_L93 5 P (wk_up sg (20, 0, 0) 21 1)  v1 (mr_X5_slotOf P sg v1 (sg (20, 0, 0) 20)) (mr_X5_stateOf P sg v1 (sg (20, 0, 0) 20)) 0) (mr_X5_slotOf P sg v1 (sg (20, 0, 0) 20))) (v1 + 1) _ _ (by rw [← hr0, mr_X5_snoop_L45, if_neg h2, if_neg h6, if_neg h7, if_pos h13, if_pos h20]) (by rw [← hs0, ms_X5_snoop_L45, if_neg h2, if_neg h6, if_neg h7, if_pos h13, if_pos h20]) hg ls _ _ (lv_sub hl [1, 0] rfl) hH hS
            · have hg := hg.2 h20
              refine lv_aload_n (pc := 148) hx hb dX5_snoop_148 rfl (lv_at hl 0 rfl) ?_
              refine lv_iload_n (pc := 149) hx hb dX5_snoop_149 rfl (lv_at hl 2 rfl) ?_
              obtain ⟨o23, hg⟩ := hg
              refine wk_cv (wk_rV (pc := 150) (As := [.int (mr_X5_slotOf P sg v1 (sg (20, 0, 0) 20))]) (rest := []) X hH hS hz (rf_20 hSh) rfl ok_X5_writeBack (mk_X5_writeBack (l := l) (P := P) hSh (ms_X5_snoop_L93 5 P (wk_up sg (20, 0, 0) 21 1)  v1 (mr_X5_slotOf P sg v1 (sg (20, 0, 0) 20)) (mr_X5_stateOf P sg v1 (sg (20, 0, 0) 20)) 0) (mr_X5_slotOf P sg v1 (sg (20, 0, 0) 20))  o23) ml_X5_121 ⟨by decide, by decide, by decide, by decide⟩ rfl hl.1 rfl (Nat.le_of_ble_eq_true rfl) dX5_snoop_150) hS (fun H locs hH hS => ?_)
              refine lv_aload_n (pc := 153) hx hb dX5_snoop_153 rfl (lv_at hl 0 rfl) ?_
              refine wk_geti (pc := 154) X hH (20, 0, 0) 19 (rf_20 hSh) rfl (by decide) rfl inX5 fl_X5_110 dX5_snoop_154 ?_
              refine lv_iconst (pc := 157) (v := 2) hx hb dX5_snoop_157 (by decide) ?_
              refine lv_icmp_ne (pc := 158) (tgt := 169) hx hb dX5_snoop_158 (by decide) (fun h24 => ?_) (fun h24 => ?_)
              · have hg := hg.2 h24
                refine lv_aload_n (pc := 169) hx hb dX5_snoop_169 rfl (lv_at hl 0 rfl) ?_
                refine wk_getr (pc := 170) X hH (20, 0, 0) 14 (29, 0, 0) (rf_20 hSh) rfl (by decide) rfl inX5 fl_X5_34 dX5_snoop_170 ?_
                refine lv_iload_n (pc := 173) hx hb dX5_snoop_173 rfl (lv_at hl 2 rfl) ?_
                refine lv_iload_n (pc := 174) hx hb dX5_snoop_174 rfl (lv_at hl 3 rfl) ?_
                refine lv_iconst (pc := 175) (v := 4) hx hb dX5_snoop_175 (by decide) ?_
                refine lv_icmp_ne (pc := 176) (tgt := 183) hx hb dX5_snoop_176 (by decide) (fun h25 => ?_) (fun h25 => ?_)
                · have hg := hg.2 h25
                  refine lv_iload_n (pc := 183) hx hb dX5_snoop_183 rfl (lv_at hl 3 rfl) ?_
                  refine lv_iconst (pc := 184) (v := 2) hx hb dX5_snoop_184 (by decide) ?_
                  refine lv_icmp_ne (pc := 185) (tgt := 192) hx hb dX5_snoop_185 (by decide) (fun h26 => ?_) (fun h26 => ?_)
                  · have hg := hg.2 h26
                    refine lv_iload_n (pc := 192) hx hb dX5_snoop_192 rfl (lv_at hl 3 rfl) ?_
                    obtain ⟨o27, hg⟩ := hg
                    refine wk_iast (pc := 193) X hH hS (29, 0, 0) (rf_29 hSh) o27 dX5_snoop_193 (fun H locs hH hS => ?_)
                    refine lv_iinc (pc := 194) (k := 1) (v := (v1 + 1)) (lv' := [(1, .int (v1 + 1)), (0, .ref (ad (20, 0, 0))), (2, .int (mr_X5_slotOf P sg v1 (sg (20, 0, 0) 20))), (3, .int (mr_X5_stateOf P sg v1 (sg (20, 0, 0) 20)))]) hx hb dX5_snoop_194 hl rfl rfl (by decide) rfl (fun ls hl => ?_)
                    refine lv_goto (pc := 197) (tgt := 45) hx hb dX5_snoop_197 (by decide) ?_
                    exact ih (wk_up (ms_X5_writeBack P (ms_X5_snoop_L93 5 P (wk_up sg (20, 0, 0) 21 1)  v1 (mr_X5_slotOf P sg v1 (sg (20, 0, 0) 20)) (mr_X5_stateOf P sg v1 (sg (20, 0, 0) 20)) 0) (mr_X5_slotOf P sg v1 (sg (20, 0, 0) 20))) (29, 0, 0) (Int32.toNatClampNeg (mr_X5_slotOf P sg v1 (sg (20, 0, 0) 20))) (mr_X5_stateOf P sg v1 (sg (20, 0, 0) 20))) (v1 + 1) _ _ (by rw [← hr0, mr_X5_snoop_L45, if_neg h2, if_neg h6, if_neg h7, if_pos h13, if_neg h20, if_neg h24, if_neg h25, if_neg h26]) (by rw [← hs0, ms_X5_snoop_L45, if_neg h2, if_neg h6, if_neg h7, if_pos h13, if_neg h20, if_neg h24, if_neg h25, if_neg h26]) hg ls _ _ (lv_sub hl [1, 0] rfl) hH hS
                  · have hg := hg.1 h26
                    refine lv_iconst (pc := 188) (v := 1) hx hb dX5_snoop_188 (by decide) ?_
                    refine lv_goto (pc := 189) (tgt := 193) hx hb dX5_snoop_189 (by decide) ?_
                    obtain ⟨o28, hg⟩ := hg
                    refine wk_iast (pc := 193) X hH hS (29, 0, 0) (rf_29 hSh) o28 dX5_snoop_193 (fun H locs hH hS => ?_)
                    refine lv_iinc (pc := 194) (k := 1) (v := (v1 + 1)) (lv' := [(1, .int (v1 + 1)), (0, .ref (ad (20, 0, 0))), (2, .int (mr_X5_slotOf P sg v1 (sg (20, 0, 0) 20))), (3, .int (mr_X5_stateOf P sg v1 (sg (20, 0, 0) 20)))]) hx hb dX5_snoop_194 hl rfl rfl (by decide) rfl (fun ls hl => ?_)
                    refine lv_goto (pc := 197) (tgt := 45) hx hb dX5_snoop_197 (by decide) ?_
                    exact ih (wk_up (ms_X5_writeBack P (ms_X5_snoop_L93 5 P (wk_up sg (20, 0, 0) 21 1)  v1 (mr_X5_slotOf P sg v1 (sg (20, 0, 0) 20)) (mr_X5_stateOf P sg v1 (sg (20, 0, 0) 20)) 0) (mr_X5_slotOf P sg v1 (sg (20, 0, 0) 20))) (29, 0, 0) (Int32.toNatClampNeg (mr_X5_slotOf P sg v1 (sg (20, 0, 0) 20))) 1) (v1 + 1) _ _ (by rw [← hr0, mr_X5_snoop_L45, if_neg h2, if_neg h6, if_neg h7, if_pos h13, if_neg h20, if_neg h24, if_neg h25, if_pos h26]) (by rw [← hs0, ms_X5_snoop_L45, if_neg h2, if_neg h6, if_neg h7, if_pos h13, if_neg h20, if_neg h24, if_neg h25, if_pos h26]) hg ls _ _ (lv_sub hl [1, 0] rfl) hH hS
                · have hg := hg.1 h25
                  refine lv_iconst (pc := 179) (v := 3) hx hb dX5_snoop_179 (by decide) ?_
                  refine lv_goto (pc := 180) (tgt := 193) hx hb dX5_snoop_180 (by decide) ?_
                  obtain ⟨o29, hg⟩ := hg
                  refine wk_iast (pc := 193) X hH hS (29, 0, 0) (rf_29 hSh) o29 dX5_snoop_193 (fun H locs hH hS => ?_)
                  refine lv_iinc (pc := 194) (k := 1) (v := (v1 + 1)) (lv' := [(1, .int (v1 + 1)), (0, .ref (ad (20, 0, 0))), (2, .int (mr_X5_slotOf P sg v1 (sg (20, 0, 0) 20))), (3, .int (mr_X5_stateOf P sg v1 (sg (20, 0, 0) 20)))]) hx hb dX5_snoop_194 hl rfl rfl (by decide) rfl (fun ls hl => ?_)
                  refine lv_goto (pc := 197) (tgt := 45) hx hb dX5_snoop_197 (by decide) ?_
                  exact ih (wk_up (ms_X5_writeBack P (ms_X5_snoop_L93 5 P (wk_up sg (20, 0, 0) 21 1)  v1 (mr_X5_slotOf P sg v1 (sg (20, 0, 0) 20)) (mr_X5_stateOf P sg v1 (sg (20, 0, 0) 20)) 0) (mr_X5_slotOf P sg v1 (sg (20, 0, 0) 20))) (29, 0, 0) (Int32.toNatClampNeg (mr_X5_slotOf P sg v1 (sg (20, 0, 0) 20))) 3) (v1 + 1) _ _ (by rw [← hr0, mr_X5_snoop_L45, if_neg h2, if_neg h6, if_neg h7, if_pos h13, if_neg h20, if_neg h24, if_pos h25]) (by rw [← hs0, ms_X5_snoop_L45, if_neg h2, if_neg h6, if_neg h7, if_pos h13, if_neg h20, if_neg h24, if_pos h25]) hg ls _ _ (lv_sub hl [1, 0] rfl) hH hS
              · have hg := hg.1 h24
                refine lv_aload_n (pc := 161) hx hb dX5_snoop_161 rfl (lv_at hl 0 rfl) ?_
                refine lv_iload_n (pc := 162) hx hb dX5_snoop_162 rfl (lv_at hl 2 rfl) ?_
                obtain ⟨o30, hg⟩ := hg
                refine wk_cv (wk_rV (pc := 163) (As := [.int (mr_X5_slotOf P sg v1 (sg (20, 0, 0) 20))]) (rest := []) X hH hS hz (rf_20 hSh) rfl ok_X5_empty (mk_X5_empty (l := l) (P := P) hSh (ms_X5_writeBack P (ms_X5_snoop_L93 5 P (wk_up sg (20, 0, 0) 21 1)  v1 (mr_X5_slotOf P sg v1 (sg (20, 0, 0) 20)) (mr_X5_stateOf P sg v1 (sg (20, 0, 0) 20)) 0) (mr_X5_slotOf P sg v1 (sg (20, 0, 0) 20))) (mr_X5_slotOf P sg v1 (sg (20, 0, 0) 20))  o30) ml_X5_125 ⟨by decide, by decide, by decide, by decide⟩ rfl hl.1 rfl (Nat.le_of_ble_eq_true rfl) dX5_snoop_163) hS (fun H locs hH hS => ?_)
                refine lv_goto (pc := 166) (tgt := 194) hx hb dX5_snoop_166 (by decide) ?_
                refine lv_iinc (pc := 194) (k := 1) (v := (v1 + 1)) (lv' := [(1, .int (v1 + 1)), (0, .ref (ad (20, 0, 0))), (2, .int (mr_X5_slotOf P sg v1 (sg (20, 0, 0) 20))), (3, .int (mr_X5_stateOf P sg v1 (sg (20, 0, 0) 20)))]) hx hb dX5_snoop_194 hl rfl rfl (by decide) rfl (fun ls hl => ?_)
                refine lv_goto (pc := 197) (tgt := 45) hx hb dX5_snoop_197 (by decide) ?_
                exact ih (ms_X5_empty P (ms_X5_writeBack P (ms_X5_snoop_L93 5 P (wk_up sg (20, 0, 0) 21 1)  v1 (mr_X5_slotOf P sg v1 (sg (20, 0, 0) 20)) (mr_X5_stateOf P sg v1 (sg (20, 0, 0) 20)) 0) (mr_X5_slotOf P sg v1 (sg (20, 0, 0) 20))) (mr_X5_slotOf P sg v1 (sg (20, 0, 0) 20))) (v1 + 1) _ _ (by rw [← hr0, mr_X5_snoop_L45, if_neg h2, if_neg h6, if_neg h7, if_pos h13, if_neg h20, if_pos h24]) (by rw [← hs0, ms_X5_snoop_L45, if_neg h2, if_neg h6, if_neg h7, if_pos h13, if_neg h20, if_pos h24]) hg ls _ _ (lv_sub hl [1, 0] rfl) hH hS
def mr_X5_snoop_L7 : Nat → (Nat → Nat) → wk_Sg → Int32 → Int32
  | 0, _, _, _ => 0
  | n + 1, P, sg, v1 => (if (sg (20, 0, 0) 2) ≤ v1 then (mr_X5_snoop_L45 5 P sg  0) else (mr_X5_snoop_L7 n P (wk_up sg (32, 0, 0) (Int32.toNatClampNeg v1) (sg (21, 0, 0) (Int32.toNatClampNeg (((sg (20, 0, 0) 2) * (sg (20, 0, 0) 20)) + v1))))  (v1 + 1)))
def ms_X5_snoop_L7 : Nat → (Nat → Nat) → wk_Sg → Int32 → wk_Sg
  | 0, _, sg, _ => sg
  | n + 1, P, sg, v1 => (if (sg (20, 0, 0) 2) ≤ v1 then (ms_X5_snoop_L45 5 P sg  0) else (ms_X5_snoop_L7 n P (wk_up sg (32, 0, 0) (Int32.toNatClampNeg v1) (sg (21, 0, 0) (Int32.toNatClampNeg (((sg (20, 0, 0) 2) * (sg (20, 0, 0) 20)) + v1))))  (v1 + 1)))
def mg_X5_snoop_L7 : Nat → (Nat → Nat) → wk_Sg → Int32 → Prop
  | 0, _, _, _ => False
  | n + 1, P, sg, v1 => (((sg (20, 0, 0) 2) ≤ v1 → mg_X5_snoop_L45 5 P sg  0) ∧ (¬ (sg (20, 0, 0) 2) ≤ v1 → (vp_in (((sg (20, 0, 0) 2) * (sg (20, 0, 0) 20)) + v1) 64 ∧ (vp_in v1 4 ∧ mg_X5_snoop_L7 n P (wk_up sg (32, 0, 0) (Int32.toNatClampNeg v1) (sg (21, 0, 0) (Int32.toNatClampNeg (((sg (20, 0, 0) 2) * (sg (20, 0, 0) 20)) + v1))))  (v1 + 1)))))
set_option maxHeartbeats 4000000 in
set_option maxRecDepth 100000 in
theorem mk_X5_snoop_L7 {l : Launch} {D : va_G} {T : wk_T} {z0 : Nat} {ad : wk_K3 → Nat} {sh : wk_Sh} {P : Nat → Nat} (hSh : rf_Sh T sh)   {p : Program} {e : Env} {s : State} {m : MethodId} {args : Array Value} {below : List Frame} {meth : Method} {c : Code} (X : wk_C p m c cX5_snoop 5 s args RX5 D T) (hz : z0 ≤ s.heap.size) (hr : meth.sig.returnType = some .int) (hlocks : meth.locks = false) :
    ∀ (n : Nat) (sg : wk_Sg) (v1 : Int32) (r0 : Int32) (sg0 : wk_Sg), mr_X5_snoop_L7 n P sg  v1 = r0 → ms_X5_snoop_L7 n P sg  v1 = sg0 → mg_X5_snoop_L7 n P sg  v1 → ∀ (ls : Array Slot) (H : Heap) (locs : List Loc), lv_has ls 5 [(0, .ref (ad (20, 0, 0))), (1, .int v1)] → wk_H D z0 ad sh sg H → va_S (wk_A z0) s.heap H locs → W p l e (wk_rm 2 45) s m args below meth c H locs 0 0 (MQ below (wk_Qi D z0 ad sh r0 sg0) args s 0 0 (wk_A z0)) (F0 m 7 ls []) := by
  have hx := X.1.1
  have hb := X.1.2.1
  have hts := X.1.2.2.2.2
  intro n
  induction n with
  | zero =>
    intro sg v1 r0 sg0 hr0 hs0 hg ls H locs hl hH hS
    exact (show False from hg).elim
  | succ n ih =>
    intro sg v1 r0 sg0 hr0 hs0 hg ls H locs hl hH hS
    rw [mg_X5_snoop_L7] at hg
    refine lv_iload_n (pc := 7) hx hb dX5_snoop_7 rfl (lv_at hl 1 rfl) ?_
    refine lv_aload_n (pc := 8) hx hb dX5_snoop_8 rfl (lv_at hl 0 rfl) ?_
    refine wk_geti (pc := 9) X hH (20, 0, 0) 2 (rf_20 hSh) rfl (by decide) rfl inX5 fl_X5_60 dX5_snoop_9 ?_
    refine lv_icmp_ge (pc := 12) (tgt := 43) hx hb dX5_snoop_12 (by decide) (fun h1 => ?_) (fun h1 => ?_)
    · have hg := hg.1 h1
      refine lv_iconst (pc := 43) (v := 0) hx hb dX5_snoop_43 (by decide) ?_
      refine lv_istore_n (pc := 44) (lv' := [(1, .int 0), (0, .ref (ad (20, 0, 0)))]) hx hb dX5_snoop_44 rfl hl (by decide) rfl (fun ls hl => ?_)
      exact mk_X5_snoop_L45 (P := P) hSh   X hz hr hlocks 5 sg 0 _ _ (by rw [← hr0, mr_X5_snoop_L7, if_pos h1]) (by rw [← hs0, ms_X5_snoop_L7, if_pos h1]) hg ls _ _ (lv_sub hl [1, 0] rfl) hH hS
    · have hg := hg.2 h1
      refine lv_aload_n (pc := 15) hx hb dX5_snoop_15 rfl (lv_at hl 0 rfl) ?_
      refine wk_getr (pc := 16) X hH (20, 0, 0) 22 (32, 0, 0) (rf_20 hSh) rfl (by decide) rfl inX5 fl_X5_43 dX5_snoop_16 ?_
      refine lv_iload_n (pc := 19) hx hb dX5_snoop_19 rfl (lv_at hl 1 rfl) ?_
      refine lv_aload_n (pc := 20) hx hb dX5_snoop_20 rfl (lv_at hl 0 rfl) ?_
      refine wk_getr (pc := 21) X hH (20, 0, 0) 5 (21, 0, 0) (rf_20 hSh) rfl (by decide) rfl inX5 fl_X5_7 dX5_snoop_21 ?_
      refine lv_aload_n (pc := 24) hx hb dX5_snoop_24 rfl (lv_at hl 0 rfl) ?_
      refine wk_geti (pc := 25) X hH (20, 0, 0) 2 (rf_20 hSh) rfl (by decide) rfl inX5 fl_X5_60 dX5_snoop_25 ?_
      refine lv_aload_n (pc := 28) hx hb dX5_snoop_28 rfl (lv_at hl 0 rfl) ?_
      refine wk_geti (pc := 29) X hH (20, 0, 0) 20 (rf_20 hSh) rfl (by decide) rfl inX5 fl_X5_72 dX5_snoop_29 ?_
      refine lv_imul (pc := 32) hx hb dX5_snoop_32 ?_
      refine lv_iload_n (pc := 33) hx hb dX5_snoop_33 rfl (lv_at hl 1 rfl) ?_
      refine lv_iadd (pc := 34) hx hb dX5_snoop_34 ?_
      obtain ⟨o31, hg⟩ := hg
      refine wk_iald (pc := 35) X hH (21, 0, 0) (rf_21 hSh) o31 dX5_snoop_35 ?_
      obtain ⟨o32, hg⟩ := hg
      refine wk_iast (pc := 36) X hH hS (32, 0, 0) (rf_32 hSh) o32 dX5_snoop_36 (fun H locs hH hS => ?_)
      refine lv_iinc (pc := 37) (k := 1) (v := (v1 + 1)) (lv' := [(1, .int (v1 + 1)), (0, .ref (ad (20, 0, 0)))]) hx hb dX5_snoop_37 hl rfl rfl (by decide) rfl (fun ls hl => ?_)
      refine lv_goto (pc := 40) (tgt := 7) hx hb dX5_snoop_40 (by decide) ?_
      exact ih (wk_up sg (32, 0, 0) (Int32.toNatClampNeg v1) (sg (21, 0, 0) (Int32.toNatClampNeg (((sg (20, 0, 0) 2) * (sg (20, 0, 0) 20)) + v1)))) (v1 + 1) _ _ (by rw [← hr0, mr_X5_snoop_L7, if_neg h1]) (by rw [← hs0, ms_X5_snoop_L7, if_neg h1]) hg ls _ _ (lv_sub hl [1, 0] rfl) hH hS
def mr_X5_snoop (P : Nat → Nat) (sg : wk_Sg)  : Int32 := (mr_X5_snoop_L7 5 P (wk_up sg (20, 0, 0) 21 0)  0)
def ms_X5_snoop (P : Nat → Nat) (sg : wk_Sg)  : wk_Sg := (ms_X5_snoop_L7 5 P (wk_up sg (20, 0, 0) 21 0)  0)
def mg_X5_snoop (P : Nat → Nat) (sg : wk_Sg)  : Prop := mg_X5_snoop_L7 5 P (wk_up sg (20, 0, 0) 21 0)  0
set_option maxHeartbeats 4000000 in
set_option maxRecDepth 100000 in
theorem mk_X5_snoop {l : Launch} {D : va_G} {T : wk_T} {z0 : Nat} {ad : wk_K3 → Nat} {sh : wk_Sh} {P : Nat → Nat} (hSh : rf_Sh T sh) (sg : wk_Sg)   (hg : mg_X5_snoop P sg ) : wk_Mi l yX5_snoop cX5_snoop 5 (some .int) 2 45 D T z0 ad sh [.ref (ad (20, 0, 0))] sg (mr_X5_snoop P sg ) (ms_X5_snoop P sg ) := by
  refine Met.ofW (cc := cX5_snoop) (maxL := 5) (ret := (some .int)) (by decide) rfl ?_
  intro p e s m args below meth c s₁ B hml hv
  obtain ⟨rfl, hz, hH, hK⟩ := hv
  have hx := B.exec
  have hb := B.bytes
  have hr := B.returns
  have hlocks := B.notSynchronized
  have hts : ∀ w ∈ wk_B, w.before _ s = true := fun w hw => atoms_spec (ws := Cond.code yX5_snoop cX5_snoop 5 (some .int) :: wk_B) B.pre w (List.mem_cons_of_mem _ hw)
  have X : wk_C p m c cX5_snoop 5 s _ RX5 D T := ⟨⟨hx, hb, hml, findClass_of_methodNamed B.named, hts⟩, hK⟩
  have hS : va_S (wk_A z0) s.heap s.heap [] := va_S.rf
  have hl := lv_entry ([.ref (ad (20, 0, 0))]) (n := 5) (Nat.le_of_ble_eq_true rfl)
  rw [lg_entry_eq]
  generalize (lg_sl ([.ref (ad (20, 0, 0))]) ++ List.replicate (5 - (lg_sl ([.ref (ad (20, 0, 0))])).length) Slot.unset).toArray = ls at hl ⊢
  have hl : lv_has ls 5 [(0, .ref (ad (20, 0, 0)))] := hl
  unfold mg_X5_snoop at hg
  refine lv_aload_n (pc := 0) hx hb dX5_snoop_0 rfl (lv_at hl 0 rfl) ?_
  refine lv_iconst (pc := 1) (v := 0) hx hb dX5_snoop_1 (by decide) ?_
  refine wk_puti (pc := 2) X hH hS (20, 0, 0) 21 tyX5_ok nmX5 (rf_20 hSh) rfl (by decide) rfl inX5 fl_X5_115 rfl rfl rfl dX5_snoop_2 (fun H locs hH hS => ?_)
  refine lv_iconst (pc := 5) (v := 0) hx hb dX5_snoop_5 (by decide) ?_
  refine lv_istore_n (pc := 6) (lv' := [(1, .int 0), (0, .ref (ad (20, 0, 0)))]) hx hb dX5_snoop_6 rfl hl (by decide) rfl (fun ls hl => ?_)
  exact mk_X5_snoop_L7 (P := P) hSh   X hz hr hlocks 5 (wk_up sg (20, 0, 0) 21 0) 0 _ _ (by rw [mr_X5_snoop]) (by rw [ms_X5_snoop]) hg ls _ _ (lv_sub hl [1, 0] rfl) hH hS
