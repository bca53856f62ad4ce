def mr_X5_supply_L38 : Nat → (Nat → Nat) → wk_Sg → Int32 → Int32 → Int32
  | 0, _, _, _, _ => 0
  | n + 1, P, sg, v1, v2 => (if (sg (20, 0, 0) 2) ≤ v2 then (if ((wk_up sg (30, 0, 0) (Int32.toNatClampNeg v1) (sg (20, 0, 0) 20)) (20, 0, 0) 19) = 2 then (mr_X5_phase P (wk_up (wk_up (wk_up (wk_up (wk_up (wk_up sg (30, 0, 0) (Int32.toNatClampNeg v1) (sg (20, 0, 0) 20)) (29, 0, 0) (Int32.toNatClampNeg v1) 4) (25, 0, 0) (Int32.toNatClampNeg ((wk_up (wk_up sg (30, 0, 0) (Int32.toNatClampNeg v1) (sg (20, 0, 0) 20)) (29, 0, 0) (Int32.toNatClampNeg v1) 4) (20, 0, 0) 18)) 0) (20, 0, 0) 18 (-1)) (20, 0, 0) 19 0) (20, 0, 0) 20 (-1)) 4) else (if ((wk_up sg (30, 0, 0) (Int32.toNatClampNeg v1) (sg (20, 0, 0) 20)) (20, 0, 0) 21) = 0 then (mr_X5_phase P (wk_up (wk_up (wk_up (wk_up (wk_up (wk_up sg (30, 0, 0) (Int32.toNatClampNeg v1) (sg (20, 0, 0) 20)) (29, 0, 0) (Int32.toNatClampNeg v1) 2) (25, 0, 0) (Int32.toNatClampNeg ((wk_up (wk_up sg (30, 0, 0) (Int32.toNatClampNeg v1) (sg (20, 0, 0) 20)) (29, 0, 0) (Int32.toNatClampNeg v1) 2) (20, 0, 0) 18)) 0) (20, 0, 0) 18 (-1)) (20, 0, 0) 19 0) (20, 0, 0) 20 (-1)) 4) else (mr_X5_phase P (wk_up (wk_up (wk_up (wk_up (wk_up (wk_up sg (30, 0, 0) (Int32.toNatClampNeg v1) (sg (20, 0, 0) 20)) (29, 0, 0) (Int32.toNatClampNeg v1) 1) (25, 0, 0) (Int32.toNatClampNeg ((wk_up (wk_up sg (30, 0, 0) (Int32.toNatClampNeg v1) (sg (20, 0, 0) 20)) (29, 0, 0) (Int32.toNatClampNeg v1) 1) (20, 0, 0) 18)) 0) (20, 0, 0) 18 (-1)) (20, 0, 0) 19 0) (20, 0, 0) 20 (-1)) 4))) else (mr_X5_supply_L38 n P (wk_up sg (31, 0, 0) (Int32.toNatClampNeg (((4 : Int32) * v1) + v2)) (sg (32, 0, 0) (Int32.toNatClampNeg v2)))  v1 (v2 + 1)))
def ms_X5_supply_L38 : Nat → (Nat → Nat) → wk_Sg → Int32 → Int32 → wk_Sg
  | 0, _, sg, _, _ => sg
  | n + 1, P, sg, v1, v2 => (if (sg (20, 0, 0) 2) ≤ v2 then (if ((wk_up sg (30, 0, 0) (Int32.toNatClampNeg v1) (sg (20, 0, 0) 20)) (20, 0, 0) 19) = 2 then (ms_X5_phase P (wk_up (wk_up (wk_up (wk_up (wk_up (wk_up sg (30, 0, 0) (Int32.toNatClampNeg v1) (sg (20, 0, 0) 20)) (29, 0, 0) (Int32.toNatClampNeg v1) 4) (25, 0, 0) (Int32.toNatClampNeg ((wk_up (wk_up sg (30, 0, 0) (Int32.toNatClampNeg v1) (sg (20, 0, 0) 20)) (29, 0, 0) (Int32.toNatClampNeg v1) 4) (20, 0, 0) 18)) 0) (20, 0, 0) 18 (-1)) (20, 0, 0) 19 0) (20, 0, 0) 20 (-1)) 4) else (if ((wk_up sg (30, 0, 0) (Int32.toNatClampNeg v1) (sg (20, 0, 0) 20)) (20, 0, 0) 21) = 0 then (ms_X5_phase P (wk_up (wk_up (wk_up (wk_up (wk_up (wk_up sg (30, 0, 0) (Int32.toNatClampNeg v1) (sg (20, 0, 0) 20)) (29, 0, 0) (Int32.toNatClampNeg v1) 2) (25, 0, 0) (Int32.toNatClampNeg ((wk_up (wk_up sg (30, 0, 0) (Int32.toNatClampNeg v1) (sg (20, 0, 0) 20)) (29, 0, 0) (Int32.toNatClampNeg v1) 2) (20, 0, 0) 18)) 0) (20, 0, 0) 18 (-1)) (20, 0, 0) 19 0) (20, 0, 0) 20 (-1)) 4) else (ms_X5_phase P (wk_up (wk_up (wk_up (wk_up (wk_up (wk_up sg (30, 0, 0) (Int32.toNatClampNeg v1) (sg (20, 0, 0) 20)) (29, 0, 0) (Int32.toNatClampNeg v1) 1) (25, 0, 0) (Int32.toNatClampNeg ((wk_up (wk_up sg (30, 0, 0) (Int32.toNatClampNeg v1) (sg (20, 0, 0) 20)) (29, 0, 0) (Int32.toNatClampNeg v1) 1) (20, 0, 0) 18)) 0) (20, 0, 0) 18 (-1)) (20, 0, 0) 19 0) (20, 0, 0) 20 (-1)) 4))) else (ms_X5_supply_L38 n P (wk_up sg (31, 0, 0) (Int32.toNatClampNeg (((4 : Int32) * v1) + v2)) (sg (32, 0, 0) (Int32.toNatClampNeg v2)))  v1 (v2 + 1)))
def mg_X5_supply_L38 : Nat → (Nat → Nat) → wk_Sg → Int32 → Int32 → Prop
  | 0, _, _, _, _ => False
  | n + 1, P, sg, v1, v2 => (((sg (20, 0, 0) 2) ≤ v2 → (vp_in v1 32 ∧ ((((wk_up sg (30, 0, 0) (Int32.toNatClampNeg v1) (sg (20, 0, 0) 20)) (20, 0, 0) 19) = 2 → (vp_in v1 32 ∧ (vp_in ((wk_up (wk_up sg (30, 0, 0) (Int32.toNatClampNeg v1) (sg (20, 0, 0) 20)) (29, 0, 0) (Int32.toNatClampNeg v1) 4) (20, 0, 0) 18) 4 ∧ (mg_X5_phase P (wk_up (wk_up (wk_up (wk_up (wk_up (wk_up sg (30, 0, 0) (Int32.toNatClampNeg v1) (sg (20, 0, 0) 20)) (29, 0, 0) (Int32.toNatClampNeg v1) 4) (25, 0, 0) (Int32.toNatClampNeg ((wk_up (wk_up sg (30, 0, 0) (Int32.toNatClampNeg v1) (sg (20, 0, 0) 20)) (29, 0, 0) (Int32.toNatClampNeg v1) 4) (20, 0, 0) 18)) 0) (20, 0, 0) 18 (-1)) (20, 0, 0) 19 0) (20, 0, 0) 20 (-1)) 4 ∧ True)))) ∧ (¬ ((wk_up sg (30, 0, 0) (Int32.toNatClampNeg v1) (sg (20, 0, 0) 20)) (20, 0, 0) 19) = 2 → ((((wk_up sg (30, 0, 0) (Int32.toNatClampNeg v1) (sg (20, 0, 0) 20)) (20, 0, 0) 21) = 0 → (vp_in v1 32 ∧ (vp_in ((wk_up (wk_up sg (30, 0, 0) (Int32.toNatClampNeg v1) (sg (20, 0, 0) 20)) (29, 0, 0) (Int32.toNatClampNeg v1) 2) (20, 0, 0) 18) 4 ∧ (mg_X5_phase P (wk_up (wk_up (wk_up (wk_up (wk_up (wk_up sg (30, 0, 0) (Int32.toNatClampNeg v1) (sg (20, 0, 0) 20)) (29, 0, 0) (Int32.toNatClampNeg v1) 2) (25, 0, 0) (Int32.toNatClampNeg ((wk_up (wk_up sg (30, 0, 0) (Int32.toNatClampNeg v1) (sg (20, 0, 0) 20)) (29, 0, 0) (Int32.toNatClampNeg v1) 2) (20, 0, 0) 18)) 0) (20, 0, 0) 18 (-1)) (20, 0, 0) 19 0) (20, 0, 0) 20 (-1)) 4 ∧ True)))) ∧ (¬ ((wk_up sg (30, 0, 0) (Int32.toNatClampNeg v1) (sg (20, 0, 0) 20)) (20, 0, 0) 21) = 0 → (vp_in v1 32 ∧ (vp_in ((wk_up (wk_up sg (30, 0, 0) (Int32.toNatClampNeg v1) (sg (20, 0, 0) 20)) (29, 0, 0) (Int32.toNatClampNeg v1) 1) (20, 0, 0) 18) 4 ∧ (mg_X5_phase P (wk_up (wk_up (wk_up (wk_up (wk_up (wk_up sg (30, 0, 0) (Int32.toNatClampNeg v1) (sg (20, 0, 0) 20)) (29, 0, 0) (Int32.toNatClampNeg v1) 1) (25, 0, 0) (Int32.toNatClampNeg ((wk_up (wk_up sg (30, 0, 0) (Int32.toNatClampNeg v1) (sg (20, 0, 0) 20)) (29, 0, 0) (Int32.toNatClampNeg v1) 1) (20, 0, 0) 18)) 0) (20, 0, 0) 18 (-1)) (20, 0, 0) 19 0) (20, 0, 0) 20 (-1)) 4 ∧ True))))))))) ∧ (¬ (sg (20, 0, 0) 2) ≤ v2 → (vp_in v2 4 ∧ (vp_in (((4 : Int32) * v1) + v2) 128 ∧ mg_X5_supply_L38 n P (wk_up sg (31, 0, 0) (Int32.toNatClampNeg (((4 : Int32) * v1) + v2)) (sg (32, 0, 0) (Int32.toNatClampNeg v2)))  v1 (v2 + 1)))))
set_option maxHeartbeats 4000000 in
set_option maxRecDepth 100000 in
theorem mk_X5_supply_L38 {l : Launch} {D : va_G} {T : wk_T} {z0 : Nat} {ad : wk_K3 → Nat} {sh : wk_Sh} {P : Nat → Nat} (hSh : rf_Sh T sh)   {p : Program} {e : Env} {s : State} {m : MethodId} {args : Array Value} {below : List Frame} {meth : Method} {c : Code} (X : wk_C p m c cX5_supply 3 s args RX5 D T) (hz : z0 ≤ s.heap.size) (hr : meth.sig.returnType = some .int) (hlocks : meth.locks = false) :
    ∀ (n : Nat) (sg : wk_Sg) (v1 : Int32) (v2 : Int32) (r0 : Int32) (sg0 : wk_Sg), mr_X5_supply_L38 n P sg  v1 v2 = r0 → ms_X5_supply_L38 n P sg  v1 v2 = sg0 → mg_X5_supply_L38 n P sg  v1 v2 → ∀ (ls : Array Slot) (H : Heap) (locs : List Loc), lv_has ls 3 [(0, .ref (ad (20, 0, 0))), (1, .int v1), (2, .int v2)] → wk_H D z0 ad sh sg H → va_S (wk_A z0) s.heap H locs → W p l e (wk_rm 2 45) s m args below meth c H locs 0 0 (MQ below (wk_Qi D z0 ad sh r0 sg0) args s 0 0 (wk_A z0)) (F0 m 38 ls []) := by
  have hx := X.1.1
  have hb := X.1.2.1
  have hts := X.1.2.2.2.2
  intro n
  induction n with
  | zero =>
    intro sg v1 v2 r0 sg0 hr0 hs0 hg ls H locs hl hH hS
    exact (show False from hg).elim
  | succ n ih =>
    intro sg v1 v2 r0 sg0 hr0 hs0 hg ls H locs hl hH hS
    rw [mg_X5_supply_L38] at hg
    refine lv_iload_n (pc := 38) hx hb dX5_supply_38 rfl (lv_at hl 2 rfl) ?_
    refine lv_aload_n (pc := 39) hx hb dX5_supply_39 rfl (lv_at hl 0 rfl) ?_
    refine wk_geti (pc := 40) X hH (20, 0, 0) 2 (rf_20 hSh) rfl (by decide) rfl inX5 fl_X5_60 dX5_supply_40 ?_
    refine lv_icmp_ge (pc := 43) (tgt := 68) hx hb dX5_supply_43 (by decide) (fun h3 => ?_) (fun h3 => ?_)
    · have hg := hg.1 h3
      refine lv_aload_n (pc := 68) hx hb dX5_supply_68 rfl (lv_at hl 0 rfl) ?_
      refine wk_getr (pc := 69) X hH (20, 0, 0) 15 (30, 0, 0) (rf_20 hSh) rfl (by decide) rfl inX5 fl_X5_37 dX5_supply_69 ?_
      refine lv_iload_n (pc := 72) hx hb dX5_supply_72 rfl (lv_at hl 1 rfl) ?_
      refine lv_aload_n (pc := 73) hx hb dX5_supply_73 rfl (lv_at hl 0 rfl) ?_
      refine wk_geti (pc := 74) X hH (20, 0, 0) 20 (rf_20 hSh) rfl (by decide) rfl inX5 fl_X5_72 dX5_supply_74 ?_
      obtain ⟨o4, hg⟩ := hg
      refine wk_iast (pc := 77) X hH hS (30, 0, 0) (rf_30 hSh) o4 dX5_supply_77 (fun H locs hH hS => ?_)
      refine lv_aload_n (pc := 78) hx hb dX5_supply_78 rfl (lv_at hl 0 rfl) ?_
      refine wk_getr (pc := 79) X hH (20, 0, 0) 14 (29, 0, 0) (rf_20 hSh) rfl (by decide) rfl inX5 fl_X5_34 dX5_supply_79 ?_
      refine lv_iload_n (pc := 82) hx hb dX5_supply_82 rfl (lv_at hl 1 rfl) ?_
      refine lv_aload_n (pc := 83) hx hb dX5_supply_83 rfl (lv_at hl 0 rfl) ?_
      refine wk_geti (pc := 84) X hH (20, 0, 0) 19 (rf_20 hSh) rfl (by decide) rfl inX5 fl_X5_110 dX5_supply_84 ?_
      refine lv_iconst (pc := 87) (v := 2) hx hb dX5_supply_87 (by decide) ?_
      refine lv_icmp_ne (pc := 88) (tgt := 95) hx hb dX5_supply_88 (by decide) (fun h5 => ?_) (fun h5 => ?_)
      · have hg := hg.2 h5
        refine lv_aload_n (pc := 95) hx hb dX5_supply_95 rfl (lv_at hl 0 rfl) ?_
        refine wk_geti (pc := 96) X hH (20, 0, 0) 21 (rf_20 hSh) rfl (by decide) rfl inX5 fl_X5_115 dX5_supply_96 ?_
        refine lv_if_eq (pc := 99) (tgt := 106) hx hb dX5_supply_99 (by decide) (fun h6 => ?_) (fun h6 => ?_)
        · have hg := hg.1 h6
          refine lv_iconst (pc := 106) (v := 2) hx hb dX5_supply_106 (by decide) ?_
          obtain ⟨o7, hg⟩ := hg
          refine wk_iast (pc := 107) X hH hS (29, 0, 0) (rf_29 hSh) o7 dX5_supply_107 (fun H locs hH hS => ?_)
          refine lv_aload_n (pc := 108) hx hb dX5_supply_108 rfl (lv_at hl 0 rfl) ?_
          refine wk_getr (pc := 109) X hH (20, 0, 0) 10 (25, 0, 0) (rf_20 hSh) rfl (by decide) rfl inX5 fl_X5_22 dX5_supply_109 ?_
          refine lv_aload_n (pc := 112) hx hb dX5_supply_112 rfl (lv_at hl 0 rfl) ?_
          refine wk_geti (pc := 113) X hH (20, 0, 0) 18 (rf_20 hSh) rfl (by decide) rfl inX5 fl_X5_69 dX5_supply_113 ?_
          refine lv_iconst (pc := 116) (v := 0) hx hb dX5_supply_116 (by decide) ?_
          obtain ⟨o8, hg⟩ := hg
          refine wk_iast (pc := 117) X hH hS (25, 0, 0) (rf_25 hSh) o8 dX5_supply_117 (fun H locs hH hS => ?_)
          refine lv_aload_n (pc := 118) hx hb dX5_supply_118 rfl (lv_at hl 0 rfl) ?_
          refine lv_iconst (pc := 119) (v := (-1)) hx hb dX5_supply_119 (by decide) ?_
          refine wk_puti (pc := 120) X hH hS (20, 0, 0) 18 tyX5_ok nmX5 (rf_20 hSh) rfl (by decide) rfl inX5 fl_X5_69 rfl rfl rfl dX5_supply_120 (fun H locs hH hS => ?_)
          refine lv_aload_n (pc := 123) hx hb dX5_supply_123 rfl (lv_at hl 0 rfl) ?_
          refine lv_iconst (pc := 124) (v := 0) hx hb dX5_supply_124 (by decide) ?_
          refine wk_puti (pc := 125) X hH hS (20, 0, 0) 19 tyX5_ok nmX5 (rf_20 hSh) rfl (by decide) rfl inX5 fl_X5_110 rfl rfl rfl dX5_supply_125 (fun H locs hH hS => ?_)
          refine lv_aload_n (pc := 128) hx hb dX5_supply_128 rfl (lv_at hl 0 rfl) ?_
          refine lv_iconst (pc := 129) (v := (-1)) hx hb dX5_supply_129 (by decide) ?_
          refine wk_puti (pc := 130) X hH hS (20, 0, 0) 20 tyX5_ok nmX5 (rf_20 hSh) rfl (by decide) rfl inX5 fl_X5_72 rfl rfl rfl dX5_supply_130 (fun H locs hH hS => ?_)
          refine lv_aload_n (pc := 133) hx hb dX5_supply_133 rfl (lv_at hl 0 rfl) ?_
          refine lv_iconst (pc := 134) (v := 4) hx hb dX5_supply_134 (by decide) ?_
          obtain ⟨o9, hg⟩ := hg
          refine wk_ci (wk_rV (pc := 135) (As := [.int 4]) (rest := []) X hH hS hz (rf_20 hSh) rfl ok_X5_phase (mk_X5_phase (l := l) (P := P) hSh (wk_up (wk_up (wk_up (wk_up (wk_up (wk_up sg (30, 0, 0) (Int32.toNatClampNeg v1) (sg (20, 0, 0) 20)) (29, 0, 0) (Int32.toNatClampNeg v1) 2) (25, 0, 0) (Int32.toNatClampNeg ((wk_up (wk_up sg (30, 0, 0) (Int32.toNatClampNeg v1) (sg (20, 0, 0) 20)) (29, 0, 0) (Int32.toNatClampNeg v1) 2) (20, 0, 0) 18)) 0) (20, 0, 0) 18 (-1)) (20, 0, 0) 19 0) (20, 0, 0) 20 (-1)) 4  o9) ml_X5_113 ⟨by decide, by decide, by decide, by decide⟩ rfl hl.1 rfl (Nat.le_of_ble_eq_true rfl) dX5_supply_135) hS (fun H locs hH hS => ?_)
          exact wk_iret (pc := 138) X hH hS hr hlocks (by rw [← hr0, mr_X5_supply_L38, if_pos h3, if_neg h5, if_pos h6]) (by rw [← hs0, ms_X5_supply_L38, if_pos h3, if_neg h5, if_pos h6]) dX5_supply_138
        · have hg := hg.2 h6
          refine lv_iconst (pc := 102) (v := 1) hx hb dX5_supply_102 (by decide) ?_
          refine lv_goto (pc := 103) (tgt := 107) hx hb dX5_supply_103 (by decide) ?_
          obtain ⟨o10, hg⟩ := hg
          refine wk_iast (pc := 107) X hH hS (29, 0, 0) (rf_29 hSh) o10 dX5_supply_107 (fun H locs hH hS => ?_)
          refine lv_aload_n (pc := 108) hx hb dX5_supply_108 rfl (lv_at hl 0 rfl) ?_
          refine wk_getr (pc := 109) X hH (20, 0, 0) 10 (25, 0, 0) (rf_20 hSh) rfl (by decide) rfl inX5 fl_X5_22 dX5_supply_109 ?_
          refine lv_aload_n (pc := 112) hx hb dX5_supply_112 rfl (lv_at hl 0 rfl) ?_
          refine wk_geti (pc := 113) X hH (20, 0, 0) 18 (rf_20 hSh) rfl (by decide) rfl inX5 fl_X5_69 dX5_supply_113 ?_
          refine lv_iconst (pc := 116) (v := 0) hx hb dX5_supply_116 (by decide) ?_
          obtain ⟨o11, hg⟩ := hg
          refine wk_iast (pc := 117) X hH hS (25, 0, 0) (rf_25 hSh) o11 dX5_supply_117 (fun H locs hH hS => ?_)
          refine lv_aload_n (pc := 118) hx hb dX5_supply_118 rfl (lv_at hl 0 rfl) ?_
          refine lv_iconst (pc := 119) (v := (-1)) hx hb dX5_supply_119 (by decide) ?_
          refine wk_puti (pc := 120) X hH hS (20, 0, 0) 18 tyX5_ok nmX5 (rf_20 hSh) rfl (by decide) rfl inX5 fl_X5_69 rfl rfl rfl dX5_supply_120 (fun H locs hH hS => ?_)
          refine lv_aload_n (pc := 123) hx hb dX5_supply_123 rfl (lv_at hl 0 rfl) ?_
          refine lv_iconst (pc := 124) (v := 0) hx hb dX5_supply_124 (by decide) ?_
          refine wk_puti (pc := 125) X hH hS (20, 0, 0) 19 tyX5_ok nmX5 (rf_20 hSh) rfl (by decide) rfl inX5 fl_X5_110 rfl rfl rfl dX5_supply_125 (fun H locs hH hS => ?_)
          refine lv_aload_n (pc := 128) hx hb dX5_supply_128 rfl (lv_at hl 0 rfl) ?_
          refine lv_iconst (pc := 129) (v := (-1)) hx hb dX5_supply_129 (by decide) ?_
          refine wk_puti (pc := 130) X hH hS (20, 0, 0) 20 tyX5_ok nmX5 (rf_20 hSh) rfl (by decide) rfl inX5 fl_X5_72 rfl rfl rfl dX5_supply_130 (fun H locs hH hS => ?_)
          refine lv_aload_n (pc := 133) hx hb dX5_supply_133 rfl (lv_at hl 0 rfl) ?_
          refine lv_iconst (pc := 134) (v := 4) hx hb dX5_supply_134 (by decide) ?_
          obtain ⟨o12, hg⟩ := hg
          refine wk_ci (wk_rV (pc := 135) (As := [.int 4]) (rest := []) X hH hS hz (rf_20 hSh) rfl ok_X5_phase (mk_X5_phase (l := l) (P := P) hSh (wk_up (wk_up (wk_up (wk_up (wk_up (wk_up sg (30, 0, 0) (Int32.toNatClampNeg v1) (sg (20, 0, 0) 20)) (29, 0, 0) (Int32.toNatClampNeg v1) 1) (25, 0, 0) (Int32.toNatClampNeg ((wk_up (wk_up sg (30, 0, 0) (Int32.toNatClampNeg v1) (sg (20, 0, 0) 20)) (29, 0, 0) (Int32.toNatClampNeg v1) 1) (20, 0, 0) 18)) 0) (20, 0, 0) 18 (-1)) (20, 0, 0) 19 0) (20, 0, 0) 20 (-1)) 4  o12) ml_X5_113 ⟨by decide, by decide, by decide, by decide⟩ rfl hl.1 rfl (Nat.le_of_ble_eq_true rfl) dX5_supply_135) hS (fun H locs hH hS => ?_)
          exact wk_iret (pc := 138) X hH hS hr hlocks (by rw [← hr0, mr_X5_supply_L38, if_pos h3, if_neg h5, if_neg h6]) (by rw [← hs0, ms_X5_supply_L38, if_pos h3, if_neg h5, if_neg h6]) dX5_supply_138
      · have hg := hg.1 h5
        refine lv_iconst (pc := 91) (v := 4) hx hb dX5_supply_91 (by decide) ?_
        refine lv_goto (pc := 92) (tgt := 107) hx hb dX5_supply_92 (by decide) ?_
        obtain ⟨o13, hg⟩ := hg
        refine wk_iast (pc := 107) X hH hS (29, 0, 0) (rf_29 hSh) o13 dX5_supply_107 (fun H locs hH hS => ?_)
        refine lv_aload_n (pc := 108) hx hb dX5_supply_108 rfl (lv_at hl 0 rfl) ?_
        refine wk_getr (pc := 109) X hH (20, 0, 0) 10 (25, 0, 0) (rf_20 hSh) rfl (by decide) rfl inX5 fl_X5_22 dX5_supply_109 ?_
        refine lv_aload_n (pc := 112) hx hb dX5_supply_112 rfl (lv_at hl 0 rfl) ?_
        refine wk_geti (pc := 113) X hH (20, 0, 0) 18 (rf_20 hSh) rfl (by decide) rfl inX5 fl_X5_69 dX5_supply_113 ?_
        refine lv_iconst (pc := 116) (v := 0) hx hb dX5_supply_116 (by decide) ?_
        obtain ⟨o14, hg⟩ := hg
        refine wk_iast (pc := 117) X hH hS (25, 0, 0) (rf_25 hSh) o14 dX5_supply_117 (fun H locs hH hS => ?_)
        refine lv_aload_n (pc := 118) hx hb dX5_supply_118 rfl (lv_at hl 0 rfl) ?_
        refine lv_iconst (pc := 119) (v := (-1)) hx hb dX5_supply_119 (by decide) ?_
        refine wk_puti (pc := 120) X hH hS (20, 0, 0) 18 tyX5_ok nmX5 (rf_20 hSh) rfl (by decide) rfl inX5 fl_X5_69 rfl rfl rfl dX5_supply_120 (fun H locs hH hS => ?_)
        refine lv_aload_n (pc := 123) hx hb dX5_supply_123 rfl (lv_at hl 0 rfl) ?_
        refine lv_iconst (pc := 124) (v := 0) hx hb dX5_supply_124 (by decide) ?_
        refine wk_puti (pc := 125) X hH hS (20, 0, 0) 19 tyX5_ok nmX5 (rf_20 hSh) rfl (by decide) rfl inX5 fl_X5_110 rfl rfl rfl dX5_supply_125 (fun H locs hH hS => ?_)
        refine lv_aload_n (pc := 128) hx hb dX5_supply_128 rfl (lv_at hl 0 rfl) ?_
        refine lv_iconst (pc := 129) (v := (-1)) hx hb dX5_supply_129 (by decide) ?_
        refine wk_puti (pc := 130) X hH hS (20, 0, 0) 20 tyX5_ok nmX5 (rf_20 hSh) rfl (by decide) rfl inX5 fl_X5_72 rfl rfl rfl dX5_supply_130 (fun H locs hH hS => ?_)
        refine lv_aload_n (pc := 133) hx hb dX5_supply_133 rfl (lv_at hl 0 rfl) ?_
        refine lv_iconst (pc := 134) (v := 4) hx hb dX5_supply_134 (by decide) ?_
        obtain ⟨o15, hg⟩ := hg
        refine wk_ci (wk_rV (pc := 135) (As := [.int 4]) (rest := []) X hH hS hz (rf_20 hSh) rfl ok_X5_phase (mk_X5_phase (l := l) (P := P) hSh (wk_up (wk_up (wk_up (wk_up (wk_up (wk_up sg (30, 0, 0) (Int32.toNatClampNeg v1) (sg (20, 0, 0) 20)) (29, 0, 0) (Int32.toNatClampNeg v1) 4) (25, 0, 0) (Int32.toNatClampNeg ((wk_up (wk_up sg (30, 0, 0) (Int32.toNatClampNeg v1) (sg (20, 0, 0) 20)) (29, 0, 0) (Int32.toNatClampNeg v1) 4) (20, 0, 0) 18)) 0) (20, 0, 0) 18 (-1)) (20, 0, 0) 19 0) (20, 0, 0) 20 (-1)) 4  o15) ml_X5_113 ⟨by decide, by decide, by decide, by decide⟩ rfl hl.1 rfl (Nat.le_of_ble_eq_true rfl) dX5_supply_135) hS (fun H locs hH hS => ?_)
        exact wk_iret (pc := 138) X hH hS hr hlocks (by rw [← hr0, mr_X5_supply_L38, if_pos h3, if_pos h5]) (by rw [← hs0, ms_X5_supply_L38, if_pos h3, if_pos h5]) dX5_supply_138
    · have hg := hg.2 h3
      refine lv_aload_n (pc := 46) hx hb dX5_supply_46 rfl (lv_at hl 0 rfl) ?_
      refine wk_getr (pc := 47) X hH (20, 0, 0) 16 (31, 0, 0) (rf_20 hSh) rfl (by decide) rfl inX5 fl_X5_40 dX5_supply_47 ?_
      refine lv_iconst (pc := 50) (v := 4) hx hb dX5_supply_50 (by decide) ?_
      refine lv_iload_n (pc := 51) hx hb dX5_supply_51 rfl (lv_at hl 1 rfl) ?_
      refine lv_imul (pc := 52) hx hb dX5_supply_52 ?_
      refine lv_iload_n (pc := 53) hx hb dX5_supply_53 rfl (lv_at hl 2 rfl) ?_
      refine lv_iadd (pc := 54) hx hb dX5_supply_54 ?_
      refine lv_aload_n (pc := 55) hx hb dX5_supply_55 rfl (lv_at hl 0 rfl) ?_
      refine wk_getr (pc := 56) X hH (20, 0, 0) 22 (32, 0, 0) (rf_20 hSh) rfl (by decide) rfl inX5 fl_X5_43 dX5_supply_56 ?_
      refine lv_iload_n (pc := 59) hx hb dX5_supply_59 rfl (lv_at hl 2 rfl) ?_
      obtain ⟨o16, hg⟩ := hg
      refine wk_iald (pc := 60) X hH (32, 0, 0) (rf_32 hSh) o16 dX5_supply_60 ?_
      obtain ⟨o17, hg⟩ := hg
      refine wk_iast (pc := 61) X hH hS (31, 0, 0) (rf_31 hSh) o17 dX5_supply_61 (fun H locs hH hS => ?_)
      refine lv_iinc (pc := 62) (k := 2) (v := (v2 + 1)) (lv' := [(2, .int (v2 + 1)), (0, .ref (ad (20, 0, 0))), (1, .int v1)]) hx hb dX5_supply_62 hl rfl rfl (by decide) rfl (fun ls hl => ?_)
      refine lv_goto (pc := 65) (tgt := 38) hx hb dX5_supply_65 (by decide) ?_
      exact ih (wk_up sg (31, 0, 0) (Int32.toNatClampNeg (((4 : Int32) * v1) + v2)) (sg (32, 0, 0) (Int32.toNatClampNeg v2))) v1 (v2 + 1) _ _ (by rw [← hr0, mr_X5_supply_L38, if_neg h3]) (by rw [← hs0, ms_X5_supply_L38, if_neg h3]) hg ls _ _ (lv_sub hl [1, 2, 0] rfl) hH hS
def mr_X5_supply (P : Nat → Nat) (sg : wk_Sg)  : Int32 := (if (sg (20, 0, 0) 19) = 1 then (mr_X5_supply_L38 5 P sg  (mr_X5_slotOf P sg (sg (20, 0, 0) 18) (sg (20, 0, 0) 20)) 0) else (if (mr_X5_stateOf P sg (sg (20, 0, 0) 18) (sg (20, 0, 0) 20)) = 0 then (mr_X5_supply_L38 5 P sg  (mr_X5_slotOf P sg (sg (20, 0, 0) 18) (sg (20, 0, 0) 20)) 0) else (if ((wk_up sg (30, 0, 0) (Int32.toNatClampNeg (mr_X5_slotOf P sg (sg (20, 0, 0) 18) (sg (20, 0, 0) 20))) (sg (20, 0, 0) 20)) (20, 0, 0) 19) = 2 then (mr_X5_phase P (wk_up (wk_up (wk_up (wk_up (wk_up (wk_up sg (30, 0, 0) (Int32.toNatClampNeg (mr_X5_slotOf P sg (sg (20, 0, 0) 18) (sg (20, 0, 0) 20))) (sg (20, 0, 0) 20)) (29, 0, 0) (Int32.toNatClampNeg (mr_X5_slotOf P sg (sg (20, 0, 0) 18) (sg (20, 0, 0) 20))) 4) (25, 0, 0) (Int32.toNatClampNeg ((wk_up (wk_up sg (30, 0, 0) (Int32.toNatClampNeg (mr_X5_slotOf P sg (sg (20, 0, 0) 18) (sg (20, 0, 0) 20))) (sg (20, 0, 0) 20)) (29, 0, 0) (Int32.toNatClampNeg (mr_X5_slotOf P sg (sg (20, 0, 0) 18) (sg (20, 0, 0) 20))) 4) (20, 0, 0) 18)) 0) (20, 0, 0) 18 (-1)) (20, 0, 0) 19 0) (20, 0, 0) 20 (-1)) 4) else (if ((wk_up sg (30, 0, 0) (Int32.toNatClampNeg (mr_X5_slotOf P sg (sg (20, 0, 0) 18) (sg (20, 0, 0) 20))) (sg (20, 0, 0) 20)) (20, 0, 0) 21) = 0 then (mr_X5_phase P (wk_up (wk_up (wk_up (wk_up (wk_up (wk_up sg (30, 0, 0) (Int32.toNatClampNeg (mr_X5_slotOf P sg (sg (20, 0, 0) 18) (sg (20, 0, 0) 20))) (sg (20, 0, 0) 20)) (29, 0, 0) (Int32.toNatClampNeg (mr_X5_slotOf P sg (sg (20, 0, 0) 18) (sg (20, 0, 0) 20))) 2) (25, 0, 0) (Int32.toNatClampNeg ((wk_up (wk_up sg (30, 0, 0) (Int32.toNatClampNeg (mr_X5_slotOf P sg (sg (20, 0, 0) 18) (sg (20, 0, 0) 20))) (sg (20, 0, 0) 20)) (29, 0, 0) (Int32.toNatClampNeg (mr_X5_slotOf P sg (sg (20, 0, 0) 18) (sg (20, 0, 0) 20))) 2) (20, 0, 0) 18)) 0) (20, 0, 0) 18 (-1)) (20, 0, 0) 19 0) (20, 0, 0) 20 (-1)) 4) else (mr_X5_phase P (wk_up (wk_up (wk_up (wk_up (wk_up (wk_up sg (30, 0, 0) (Int32.toNatClampNeg (mr_X5_slotOf P sg (sg (20, 0, 0) 18) (sg (20, 0, 0) 20))) (sg (20, 0, 0) 20)) (29, 0, 0) (Int32.toNatClampNeg (mr_X5_slotOf P sg (sg (20, 0, 0) 18) (sg (20, 0, 0) 20))) 1) (25, 0, 0) (Int32.toNatClampNeg ((wk_up (wk_up sg (30, 0, 0) (Int32.toNatClampNeg (mr_X5_slotOf P sg (sg (20, 0, 0) 18) (sg (20, 0, 0) 20))) (sg (20, 0, 0) 20)) (29, 0, 0) (Int32.toNatClampNeg (mr_X5_slotOf P sg (sg (20, 0, 0) 18) (sg (20, 0, 0) 20))) 1) (20, 0, 0) 18)) 0) (20, 0, 0) 18 (-1)) (20, 0, 0) 19 0) (20, 0, 0) 20 (-1)) 4)))))
def ms_X5_supply (P : Nat → Nat) (sg : wk_Sg)  : wk_Sg := (if (sg (20, 0, 0) 19) = 1 then (ms_X5_supply_L38 5 P sg  (mr_X5_slotOf P sg (sg (20, 0, 0) 18) (sg (20, 0, 0) 20)) 0) else (if (mr_X5_stateOf P sg (sg (20, 0, 0) 18) (sg (20, 0, 0) 20)) = 0 then (ms_X5_supply_L38 5 P sg  (mr_X5_slotOf P sg (sg (20, 0, 0) 18) (sg (20, 0, 0) 20)) 0) else (if ((wk_up sg (30, 0, 0) (Int32.toNatClampNeg (mr_X5_slotOf P sg (sg (20, 0, 0) 18) (sg (20, 0, 0) 20))) (sg (20, 0, 0) 20)) (20, 0, 0) 19) = 2 then (ms_X5_phase P (wk_up (wk_up (wk_up (wk_up (wk_up (wk_up sg (30, 0, 0) (Int32.toNatClampNeg (mr_X5_slotOf P sg (sg (20, 0, 0) 18) (sg (20, 0, 0) 20))) (sg (20, 0, 0) 20)) (29, 0, 0) (Int32.toNatClampNeg (mr_X5_slotOf P sg (sg (20, 0, 0) 18) (sg (20, 0, 0) 20))) 4) (25, 0, 0) (Int32.toNatClampNeg ((wk_up (wk_up sg (30, 0, 0) (Int32.toNatClampNeg (mr_X5_slotOf P sg (sg (20, 0, 0) 18) (sg (20, 0, 0) 20))) (sg (20, 0, 0) 20)) (29, 0, 0) (Int32.toNatClampNeg (mr_X5_slotOf P sg (sg (20, 0, 0) 18) (sg (20, 0, 0) 20))) 4) (20, 0, 0) 18)) 0) (20, 0, 0) 18 (-1)) (20, 0, 0) 19 0) (20, 0, 0) 20 (-1)) 4) else (if ((wk_up sg (30, 0, 0) (Int32.toNatClampNeg (mr_X5_slotOf P sg (sg (20, 0, 0) 18) (sg (20, 0, 0) 20))) (sg (20, 0, 0) 20)) (20, 0, 0) 21) = 0 then (ms_X5_phase P (wk_up (wk_up (wk_up (wk_up (wk_up (wk_up sg (30, 0, 0) (Int32.toNatClampNeg (mr_X5_slotOf P sg (sg (20, 0, 0) 18) (sg (20, 0, 0) 20))) (sg (20, 0, 0) 20)) (29, 0, 0) (Int32.toNatClampNeg (mr_X5_slotOf P sg (sg (20, 0, 0) 18) (sg (20, 0, 0) 20))) 2) (25, 0, 0) (Int32.toNatClampNeg ((wk_up (wk_up sg (30, 0, 0) (Int32.toNatClampNeg (mr_X5_slotOf P sg (sg (20, 0, 0) 18) (sg (20, 0, 0) 20))) (sg (20, 0, 0) 20)) (29, 0, 0) (Int32.toNatClampNeg (mr_X5_slotOf P sg (sg (20, 0, 0) 18) (sg (20, 0, 0) 20))) 2) (20, 0, 0) 18)) 0) (20, 0, 0) 18 (-1)) (20, 0, 0) 19 0) (20, 0, 0) 20 (-1)) 4) else (ms_X5_phase P (wk_up (wk_up (wk_up (wk_up (wk_up (wk_up sg (30, 0, 0) (Int32.toNatClampNeg (mr_X5_slotOf P sg (sg (20, 0, 0) 18) (sg (20, 0, 0) 20))) (sg (20, 0, 0) 20)) (29, 0, 0) (Int32.toNatClampNeg (mr_X5_slotOf P sg (sg (20, 0, 0) 18) (sg (20, 0, 0) 20))) 1) (25, 0, 0) (Int32.toNatClampNeg ((wk_up (wk_up sg (30, 0, 0) (Int32.toNatClampNeg (mr_X5_slotOf P sg (sg (20, 0, 0) 18) (sg (20, 0, 0) 20))) (sg (20, 0, 0) 20)) (29, 0, 0) (Int32.toNatClampNeg (mr_X5_slotOf P sg (sg (20, 0, 0) 18) (sg (20, 0, 0) 20))) 1) (20, 0, 0) 18)) 0) (20, 0, 0) 18 (-1)) (20, 0, 0) 19 0) (20, 0, 0) 20 (-1)) 4)))))
def mg_X5_supply (P : Nat → Nat) (sg : wk_Sg)  : Prop := (mg_X5_slotOf P sg (sg (20, 0, 0) 18) (sg (20, 0, 0) 20) ∧ (((sg (20, 0, 0) 19) = 1 → mg_X5_supply_L38 5 P sg  (mr_X5_slotOf P sg (sg (20, 0, 0) 18) (sg (20, 0, 0) 20)) 0) ∧ (¬ (sg (20, 0, 0) 19) = 1 → (mg_X5_stateOf P sg (sg (20, 0, 0) 18) (sg (20, 0, 0) 20) ∧ (((mr_X5_stateOf P sg (sg (20, 0, 0) 18) (sg (20, 0, 0) 20)) = 0 → mg_X5_supply_L38 5 P sg  (mr_X5_slotOf P sg (sg (20, 0, 0) 18) (sg (20, 0, 0) 20)) 0) ∧ (¬ (mr_X5_stateOf P sg (sg (20, 0, 0) 18) (sg (20, 0, 0) 20)) = 0 → (vp_in (mr_X5_slotOf P sg (sg (20, 0, 0) 18) (sg (20, 0, 0) 20)) 32 ∧ ((((wk_up sg (30, 0, 0) (Int32.toNatClampNeg (mr_X5_slotOf P sg (sg (20, 0, 0) 18) (sg (20, 0, 0) 20))) (sg (20, 0, 0) 20)) (20, 0, 0) 19) = 2 → (vp_in (mr_X5_slotOf P sg (sg (20, 0, 0) 18) (sg (20, 0, 0) 20)) 32 ∧ (vp_in ((wk_up (wk_up sg (30, 0, 0) (Int32.toNatClampNeg (mr_X5_slotOf P sg (sg (20, 0, 0) 18) (sg (20, 0, 0) 20))) (sg (20, 0, 0) 20)) (29, 0, 0) (Int32.toNatClampNeg (mr_X5_slotOf P sg (sg (20, 0, 0) 18) (sg (20, 0, 0) 20))) 4) (20, 0, 0) 18) 4 ∧ (mg_X5_phase P (wk_up (wk_up (wk_up (wk_up (wk_up (wk_up sg (30, 0, 0) (Int32.toNatClampNeg (mr_X5_slotOf P sg (sg (20, 0, 0) 18) (sg (20, 0, 0) 20))) (sg (20, 0, 0) 20)) (29, 0, 0) (Int32.toNatClampNeg (mr_X5_slotOf P sg (sg (20, 0, 0) 18) (sg (20, 0, 0) 20))) 4) (25, 0, 0) (Int32.toNatClampNeg ((wk_up (wk_up sg (30, 0, 0) (Int32.toNatClampNeg (mr_X5_slotOf P sg (sg (20, 0, 0) 18) (sg (20, 0, 0) 20))) (sg (20, 0, 0) 20)) (29, 0, 0) (Int32.toNatClampNeg (mr_X5_slotOf P sg (sg (20, 0, 0) 18) (sg (20, 0, 0) 20))) 4) (20, 0, 0) 18)) 0) (20, 0, 0) 18 (-1)) (20, 0, 0) 19 0) (20, 0, 0) 20 (-1)) 4 ∧ True)))) ∧ (¬ ((wk_up sg (30, 0, 0) (Int32.toNatClampNeg (mr_X5_slotOf P sg (sg (20, 0, 0) 18) (sg (20, 0, 0) 20))) (sg (20, 0, 0) 20)) (20, 0, 0) 19) = 2 → ((((wk_up sg (30, 0, 0) (Int32.toNatClampNeg (mr_X5_slotOf P sg (sg (20, 0, 0) 18) (sg (20, 0, 0) 20))) (sg (20, 0, 0) 20)) (20, 0, 0) 21) = 0 → (vp_in (mr_X5_slotOf P sg (sg (20, 0, 0) 18) (sg (20, 0, 0) 20)) 32 ∧ (vp_in ((wk_up (wk_up sg (30, 0, 0) (Int32.toNatClampNeg (mr_X5_slotOf P sg (sg (20, 0, 0) 18) (sg (20, 0, 0) 20))) (sg (20, 0, 0) 20)) (29, 0, 0) (Int32.toNatClampNeg (mr_X5_slotOf P sg (sg (20, 0, 0) 18) (sg (20, 0, 0) 20))) 2) (20, 0, 0) 18) 4 ∧ (mg_X5_phase P (wk_up (wk_up (wk_up (wk_up (wk_up (wk_up sg (30, 0, 0) (Int32.toNatClampNeg (mr_X5_slotOf P sg (sg (20, 0, 0) 18) (sg (20, 0, 0) 20))) (sg (20, 0, 0) 20)) (29, 0, 0) (Int32.toNatClampNeg (mr_X5_slotOf P sg (sg (20, 0, 0) 18) (sg (20, 0, 0) 20))) 2) (25, 0, 0) (Int32.toNatClampNeg ((wk_up (wk_up sg (30, 0, 0) (Int32.toNatClampNeg (mr_X5_slotOf P sg (sg (20, 0, 0) 18) (sg (20, 0, 0) 20))) (sg (20, 0, 0) 20)) (29, 0, 0) (Int32.toNatClampNeg (mr_X5_slotOf P sg (sg (20, 0, 0) 18) (sg (20, 0, 0) 20))) 2) (20, 0, 0) 18)) 0) (20, 0, 0) 18 (-1)) (20, 0, 0) 19 0) (20, 0, 0) 20 (-1)) 4 ∧ True)))) ∧ (¬ ((wk_up sg (30, 0, 0) (Int32.toNatClampNeg (mr_X5_slotOf P sg (sg (20, 0, 0) 18) (sg (20, 0, 0) 20))) (sg (20, 0, 0) 20)) (20, 0, 0) 21) = 0 → (vp_in (mr_X5_slotOf P sg (sg (20, 0, 0) 18) (sg (20, 0, 0) 20)) 32 ∧ (vp_in ((wk_up (wk_up sg (30, 0, 0) (Int32.toNatClampNeg (mr_X5_slotOf P sg (sg (20, 0, 0) 18) (sg (20, 0, 0) 20))) (sg (20, 0, 0) 20)) (29, 0, 0) (Int32.toNatClampNeg (mr_X5_slotOf P sg (sg (20, 0, 0) 18) (sg (20, 0, 0) 20))) 1) (20, 0, 0) 18) 4 ∧ (mg_X5_phase P (wk_up (wk_up (wk_up (wk_up (wk_up (wk_up sg (30, 0, 0) (Int32.toNatClampNeg (mr_X5_slotOf P sg (sg (20, 0, 0) 18) (sg (20, 0, 0) 20))) (sg (20, 0, 0) 20)) (29, 0, 0) (Int32.toNatClampNeg (mr_X5_slotOf P sg (sg (20, 0, 0) 18) (sg (20, 0, 0) 20))) 1) (25, 0, 0) (Int32.toNatClampNeg ((wk_up (wk_up sg (30, 0, 0) (Int32.toNatClampNeg (mr_X5_slotOf P sg (sg (20, 0, 0) 18) (sg (20, 0, 0) 20))) (sg (20, 0, 0) 20)) (29, 0, 0) (Int32.toNatClampNeg (mr_X5_slotOf P sg (sg (20, 0, 0) 18) (sg (20, 0, 0) 20))) 1) (20, 0, 0) 18)) 0) (20, 0, 0) 18 (-1)) (20, 0, 0) 19 0) (20, 0, 0) 20 (-1)) 4 ∧ True))))))))))))))
set_option maxHeartbeats 4000000 in
set_option maxRecDepth 100000 in
theorem mk_X5_supply {l : Launch} {D : va_G} {T : wk_T} {z0 : Nat} {ad : wk_K3 → Nat} {sh : wk_Sh} {P : Nat → Nat} (hSh : rf_Sh T sh) (sg : wk_Sg)   (hg : mg_X5_supply P sg ) : wk_Mi l yX5_supply cX5_supply 3 (some .int) 2 45 D T z0 ad sh [.ref (ad (20, 0, 0))] sg (mr_X5_supply P sg ) (ms_X5_supply P sg ) := by
  refine Met.ofW (cc := cX5_supply) (maxL := 3) (ret := (some .int)) (by decide) rfl ?_
  intro p e s m args below meth c s₁ B hml hv
  obtain ⟨rfl, hz, hH, hK⟩ := hv
  have hx := B.exec
  have hb := B.bytes
  have hr := B.returns
  have hlocks := B.notSynchronized
  have hts : ∀ w ∈ wk_B, w.before _ s = true := fun w hw => atoms_spec (ws := Cond.code yX5_supply cX5_supply 3 (some .int) :: wk_B) B.pre w (List.mem_cons_of_mem _ hw)
  have X : wk_C p m c cX5_supply 3 s _ RX5 D T := ⟨⟨hx, hb, hml, findClass_of_methodNamed B.named, hts⟩, hK⟩
  have hS : va_S (wk_A z0) s.heap s.heap [] := va_S.rf
  have hl := lv_entry ([.ref (ad (20, 0, 0))]) (n := 3) (Nat.le_of_ble_eq_true rfl)
  rw [lg_entry_eq]
  generalize (lg_sl ([.ref (ad (20, 0, 0))]) ++ List.replicate (3 - (lg_sl ([.ref (ad (20, 0, 0))])).length) Slot.unset).toArray = ls at hl ⊢
  have hl : lv_has ls 3 [(0, .ref (ad (20, 0, 0)))] := hl
  unfold mg_X5_supply at hg
  refine lv_aload_n (pc := 0) hx hb dX5_supply_0 rfl (lv_at hl 0 rfl) ?_
  refine lv_aload_n (pc := 1) hx hb dX5_supply_1 rfl (lv_at hl 0 rfl) ?_
  refine wk_geti (pc := 2) X hH (20, 0, 0) 18 (rf_20 hSh) rfl (by decide) rfl inX5 fl_X5_69 dX5_supply_2 ?_
  refine lv_aload_n (pc := 5) hx hb dX5_supply_5 rfl (lv_at hl 0 rfl) ?_
  refine wk_geti (pc := 6) X hH (20, 0, 0) 20 (rf_20 hSh) rfl (by decide) rfl inX5 fl_X5_72 dX5_supply_6 ?_
  obtain ⟨o1, hg⟩ := hg
  refine wk_ci (wk_rV (pc := 9) (As := [.int (sg (20, 0, 0) 18), .int (sg (20, 0, 0) 20)]) (rest := []) X hH hS hz (rf_20 hSh) rfl ok_X5_slotOf (mk_X5_slotOf (l := l) (P := P) hSh sg (sg (20, 0, 0) 18) (sg (20, 0, 0) 20)  o1) ml_X5_86 ⟨by decide, by decide, by decide, by decide⟩ rfl hl.1 rfl (Nat.le_of_ble_eq_true rfl) dX5_supply_9) hS (fun H locs hH hS => ?_)
  refine lv_istore_n (pc := 12) (lv' := [(1, .int (mr_X5_slotOf P sg (sg (20, 0, 0) 18) (sg (20, 0, 0) 20))), (0, .ref (ad (20, 0, 0)))]) hx hb dX5_supply_12 rfl hl (by decide) rfl (fun ls hl => ?_)
  refine lv_aload_n (pc := 13) hx hb dX5_supply_13 rfl (lv_at hl 1 rfl) ?_
  refine wk_geti (pc := 14) X hH (20, 0, 0) 19 (rf_20 hSh) rfl (by decide) rfl inX5 fl_X5_110 dX5_supply_14 ?_
  refine lv_iconst (pc := 17) (v := 1) hx hb dX5_supply_17 (by decide) ?_
  refine lv_icmp_eq (pc := 18) (tgt := 36) hx hb dX5_supply_18 (by decide) (fun h2 => ?_) (fun h2 => ?_)
  · have hg := hg.1 h2
    refine lv_iconst (pc := 36) (v := 0) hx hb dX5_supply_36 (by decide) ?_
    refine lv_istore_n (pc := 37) (lv' := [(2, .int 0), (1, .int (mr_X5_slotOf P sg (sg (20, 0, 0) 18) (sg (20, 0, 0) 20))), (0, .ref (ad (20, 0, 0)))]) hx hb dX5_supply_37 rfl hl (by decide) rfl (fun ls hl => ?_)
    exact mk_X5_supply_L38 (P := P) hSh   X hz hr hlocks 5 sg (mr_X5_slotOf P sg (sg (20, 0, 0) 18) (sg (20, 0, 0) 20)) 0 _ _ (by rw [mr_X5_supply, if_pos h2]) (by rw [ms_X5_supply, if_pos h2]) hg ls _ _ (lv_sub hl [2, 1, 0] rfl) hH hS
  · have hg := hg.2 h2
    refine lv_aload_n (pc := 21) hx hb dX5_supply_21 rfl (lv_at hl 1 rfl) ?_
    refine lv_aload_n (pc := 22) hx hb dX5_supply_22 rfl (lv_at hl 1 rfl) ?_
    refine wk_geti (pc := 23) X hH (20, 0, 0) 18 (rf_20 hSh) rfl (by decide) rfl inX5 fl_X5_69 dX5_supply_23 ?_
    refine lv_aload_n (pc := 26) hx hb dX5_supply_26 rfl (lv_at hl 1 rfl) ?_
    refine wk_geti (pc := 27) X hH (20, 0, 0) 20 (rf_20 hSh) rfl (by decide) rfl inX5 fl_X5_72 dX5_supply_27 ?_
    obtain ⟨o18, hg⟩ := hg
    refine wk_ci (wk_rV (pc := 30) (As := [.int (sg (20, 0, 0) 18), .int (sg (20, 0, 0) 20)]) (rest := []) X hH hS hz (rf_20 hSh) rfl ok_X5_stateOf (mk_X5_stateOf (l := l) (P := P) hSh sg (sg (20, 0, 0) 18) (sg (20, 0, 0) 20)  o18) ml_X5_94 ⟨by decide, by decide, by decide, by decide⟩ rfl hl.1 rfl (Nat.le_of_ble_eq_true rfl) dX5_supply_30) hS (fun H locs hH hS => ?_)
    refine lv_if_ne (pc := 33) (tgt := 68) hx hb dX5_supply_33 (by decide) (fun h19 => ?_) (fun h19 => ?_)
    · have hg := hg.2 h19
      refine lv_aload_n (pc := 68) hx hb dX5_supply_68 rfl (lv_at hl 1 rfl) ?_
      refine wk_getr (pc := 69) X hH (20, 0, 0) 15 (30, 0, 0) (rf_20 hSh) rfl (by decide) rfl inX5 fl_X5_37 dX5_supply_69 ?_
      refine lv_iload_n (pc := 72) hx hb dX5_supply_72 rfl (lv_at hl 0 rfl) ?_
      refine lv_aload_n (pc := 73) hx hb dX5_supply_73 rfl (lv_at hl 1 rfl) ?_
      refine wk_geti (pc := 74) X hH (20, 0, 0) 20 (rf_20 hSh) rfl (by decide) rfl inX5 fl_X5_72 dX5_supply_74 ?_
      obtain ⟨o20, hg⟩ := hg
      refine wk_iast (pc := 77) X hH hS (30, 0, 0) (rf_30 hSh) o20 dX5_supply_77 (fun H locs hH hS => ?_)
      refine lv_aload_n (pc := 78) hx hb dX5_supply_78 rfl (lv_at hl 1 rfl) ?_
      refine wk_getr (pc := 79) X hH (20, 0, 0) 14 (29, 0, 0) (rf_20 hSh) rfl (by decide) rfl inX5 fl_X5_34 dX5_supply_79 ?_
      refine lv_iload_n (pc := 82) hx hb dX5_supply_82 rfl (lv_at hl 0 rfl) ?_
      refine lv_aload_n (pc := 83) hx hb dX5_supply_83 rfl (lv_at hl 1 rfl) ?_
      refine wk_geti (pc := 84) X hH (20, 0, 0) 19 (rf_20 hSh) rfl (by decide) rfl inX5 fl_X5_110 dX5_supply_84 ?_
      refine lv_iconst (pc := 87) (v := 2) hx hb dX5_supply_87 (by decide) ?_
      refine lv_icmp_ne (pc := 88) (tgt := 95) hx hb dX5_supply_88 (by decide) (fun h21 => ?_) (fun h21 => ?_)
      · have hg := hg.2 h21
        refine lv_aload_n (pc := 95) hx hb dX5_supply_95 rfl (lv_at hl 1 rfl) ?_
        refine wk_geti (pc := 96) X hH (20, 0, 0) 21 (rf_20 hSh) rfl (by decide) rfl inX5 fl_X5_115 dX5_supply_96 ?_
        refine lv_if_eq (pc := 99) (tgt := 106) hx hb dX5_supply_99 (by decide) (fun h22 => ?_) (fun h22 => ?_)
        · have hg := hg.1 h22
          refine lv_iconst (pc := 106) (v := 2) hx hb dX5_supply_106 (by decide) ?_
          obtain ⟨o23, hg⟩ := hg
          refine wk_iast (pc := 107) X hH hS (29, 0, 0) (rf_29 hSh) o23 dX5_supply_107 (fun H locs hH hS => ?_)
          refine lv_aload_n (pc := 108) hx hb dX5_supply_108 rfl (lv_at hl 1 rfl) ?_
          refine wk_getr (pc := 109) X hH (20, 0, 0) 10 (25, 0, 0) (rf_20 hSh) rfl (by decide) rfl inX5 fl_X5_22 dX5_supply_109 ?_
          refine lv_aload_n (pc := 112) hx hb dX5_supply_112 rfl (lv_at hl 1 rfl) ?_
          refine wk_geti (pc := 113) X hH (20, 0, 0) 18 (rf_20 hSh) rfl (by decide) rfl inX5 fl_X5_69 dX5_supply_113 ?_
          refine lv_iconst (pc := 116) (v := 0) hx hb dX5_supply_116 (by decide) ?_
          obtain ⟨o24, hg⟩ := hg
          refine wk_iast (pc := 117) X hH hS (25, 0, 0) (rf_25 hSh) o24 dX5_supply_117 (fun H locs hH hS => ?_)
          refine lv_aload_n (pc := 118) hx hb dX5_supply_118 rfl (lv_at hl 1 rfl) ?_
          refine lv_iconst (pc := 119) (v := (-1)) hx hb dX5_supply_119 (by decide) ?_
          refine wk_puti (pc := 120) X hH hS (20, 0, 0) 18 tyX5_ok nmX5 (rf_20 hSh) rfl (by decide) rfl inX5 fl_X5_69 rfl rfl rfl dX5_supply_120 (fun H locs hH hS => ?_)
          refine lv_aload_n (pc := 123) hx hb dX5_supply_123 rfl (lv_at hl 1 rfl) ?_
          refine lv_iconst (pc := 124) (v := 0) hx hb dX5_supply_124 (by decide) ?_
          refine wk_puti (pc := 125) X hH hS (20, 0, 0) 19 tyX5_ok nmX5 (rf_20 hSh) rfl (by decide) rfl inX5 fl_X5_110 rfl rfl rfl dX5_supply_125 (fun H locs hH hS => ?_)
          refine lv_aload_n (pc := 128) hx hb dX5_supply_128 rfl (lv_at hl 1 rfl) ?_
          refine lv_iconst (pc := 129) (v := (-1)) hx hb dX5_supply_129 (by decide) ?_
          refine wk_puti (pc := 130) X hH hS (20, 0, 0) 20 tyX5_ok nmX5 (rf_20 hSh) rfl (by decide) rfl inX5 fl_X5_72 rfl rfl rfl dX5_supply_130 (fun H locs hH hS => ?_)
          refine lv_aload_n (pc := 133) hx hb dX5_supply_133 rfl (lv_at hl 1 rfl) ?_
          refine lv_iconst (pc := 134) (v := 4) hx hb dX5_supply_134 (by decide) ?_
          obtain ⟨o25, hg⟩ := hg
          refine wk_ci (wk_rV (pc := 135) (As := [.int 4]) (rest := []) X hH hS hz (rf_20 hSh) rfl ok_X5_phase (mk_X5_phase (l := l) (P := P) hSh (wk_up (wk_up (wk_up (wk_up (wk_up (wk_up sg (30, 0, 0) (Int32.toNatClampNeg (mr_X5_slotOf P sg (sg (20, 0, 0) 18) (sg (20, 0, 0) 20))) (sg (20, 0, 0) 20)) (29, 0, 0) (Int32.toNatClampNeg (mr_X5_slotOf P sg (sg (20, 0, 0) 18) (sg (20, 0, 0) 20))) 2) (25, 0, 0) (Int32.toNatClampNeg ((wk_up (wk_up sg (30, 0, 0) (Int32.toNatClampNeg (mr_X5_slotOf P sg (sg (20, 0, 0) 18) (sg (20, 0, 0) 20))) (sg (20, 0, 0) 20)) (29, 0, 0) (Int32.toNatClampNeg (mr_X5_slotOf P sg (sg (20, 0, 0) 18) (sg (20, 0, 0) 20))) 2) (20, 0, 0) 18)) 0) (20, 0, 0) 18 (-1)) (20, 0, 0) 19 0) (20, 0, 0) 20 (-1)) 4  o25) ml_X5_113 ⟨by decide, by decide, by decide, by decide⟩ rfl hl.1 rfl (Nat.le_of_ble_eq_true rfl) dX5_supply_135) hS (fun H locs hH hS => ?_)
          exact wk_iret (pc := 138) X hH hS hr hlocks (by rw [mr_X5_supply, if_neg h2, if_neg h19, if_neg h21, if_pos h22]) (by rw [ms_X5_supply, if_neg h2, if_neg h19, if_neg h21, if_pos h22]) dX5_supply_138
        · have hg := hg.2 h22
          refine lv_iconst (pc := 102) (v := 1) hx hb dX5_supply_102 (by decide) ?_
          refine lv_goto (pc := 103) (tgt := 107) hx hb dX5_supply_103 (by decide) ?_
          obtain ⟨o26, hg⟩ := hg
          refine wk_iast (pc := 107) X hH hS (29, 0, 0) (rf_29 hSh) o26 dX5_supply_107 (fun H locs hH hS => ?_)
          refine lv_aload_n (pc := 108) hx hb dX5_supply_108 rfl (lv_at hl 1 rfl) ?_
          refine wk_getr (pc := 109) X hH (20, 0, 0) 10 (25, 0, 0) (rf_20 hSh) rfl (by decide) rfl inX5 fl_X5_22 dX5_supply_109 ?_
          refine lv_aload_n (pc := 112) hx hb dX5_supply_112 rfl (lv_at hl 1 rfl) ?_
          refine wk_geti (pc := 113) X hH (20, 0, 0) 18 (rf_20 hSh) rfl (by decide) rfl inX5 fl_X5_69 dX5_supply_113 ?_
          refine lv_iconst (pc := 116) (v := 0) hx hb dX5_supply_116 (by decide) ?_
          obtain ⟨o27, hg⟩ := hg
          refine wk_iast (pc := 117) X hH hS (25, 0, 0) (rf_25 hSh) o27 dX5_supply_117 (fun H locs hH hS => ?_)
          refine lv_aload_n (pc := 118) hx hb dX5_supply_118 rfl (lv_at hl 1 rfl) ?_
          refine lv_iconst (pc := 119) (v := (-1)) hx hb dX5_supply_119 (by decide) ?_
          refine wk_puti (pc := 120) X hH hS (20, 0, 0) 18 tyX5_ok nmX5 (rf_20 hSh) rfl (by decide) rfl inX5 fl_X5_69 rfl rfl rfl dX5_supply_120 (fun H locs hH hS => ?_)
          refine lv_aload_n (pc := 123) hx hb dX5_supply_123 rfl (lv_at hl 1 rfl) ?_
          refine lv_iconst (pc := 124) (v := 0) hx hb dX5_supply_124 (by decide) ?_
          refine wk_puti (pc := 125) X hH hS (20, 0, 0) 19 tyX5_ok nmX5 (rf_20 hSh) rfl (by decide) rfl inX5 fl_X5_110 rfl rfl rfl dX5_supply_125 (fun H locs hH hS => ?_)
          refine lv_aload_n (pc := 128) hx hb dX5_supply_128 rfl (lv_at hl 1 rfl) ?_
          refine lv_iconst (pc := 129) (v := (-1)) hx hb dX5_supply_129 (by decide) ?_
          refine wk_puti (pc := 130) X hH hS (20, 0, 0) 20 tyX5_ok nmX5 (rf_20 hSh) rfl (by decide) rfl inX5 fl_X5_72 rfl rfl rfl dX5_supply_130 (fun H locs hH hS => ?_)
          refine lv_aload_n (pc := 133) hx hb dX5_supply_133 rfl (lv_at hl 1 rfl) ?_
          refine lv_iconst (pc := 134) (v := 4) hx hb dX5_supply_134 (by decide) ?_
          obtain ⟨o28, hg⟩ := hg
          refine wk_ci (wk_rV (pc := 135) (As := [.int 4]) (rest := []) X hH hS hz (rf_20 hSh) rfl ok_X5_phase (mk_X5_phase (l := l) (P := P) hSh (wk_up (wk_up (wk_up (wk_up (wk_up (wk_up sg (30, 0, 0) (Int32.toNatClampNeg (mr_X5_slotOf P sg (sg (20, 0, 0) 18) (sg (20, 0, 0) 20))) (sg (20, 0, 0) 20)) (29, 0, 0) (Int32.toNatClampNeg (mr_X5_slotOf P sg (sg (20, 0, 0) 18) (sg (20, 0, 0) 20))) 1) (25, 0, 0) (Int32.toNatClampNeg ((wk_up (wk_up sg (30, 0, 0) (Int32.toNatClampNeg (mr_X5_slotOf P sg (sg (20, 0, 0) 18) (sg (20, 0, 0) 20))) (sg (20, 0, 0) 20)) (29, 0, 0) (Int32.toNatClampNeg (mr_X5_slotOf P sg (sg (20, 0, 0) 18) (sg (20, 0, 0) 20))) 1) (20, 0, 0) 18)) 0) (20, 0, 0) 18 (-1)) (20, 0, 0) 19 0) (20, 0, 0) 20 (-1)) 4  o28) ml_X5_113 ⟨by decide, by decide, by decide, by decide⟩ rfl hl.1 rfl (Nat.le_of_ble_eq_true rfl) dX5_supply_135) hS (fun H locs hH hS => ?_)
          exact wk_iret (pc := 138) X hH hS hr hlocks (by rw [mr_X5_supply, if_neg h2, if_neg h19, if_neg h21, if_neg h22]) (by rw [ms_X5_supply, if_neg h2, if_neg h19, if_neg h21, if_neg h22]) dX5_supply_138
      · have hg := hg.1 h21
        refine lv_iconst (pc := 91) (v := 4) hx hb dX5_supply_91 (by decide) ?_
        refine lv_goto (pc := 92) (tgt := 107) hx hb dX5_supply_92 (by decide) ?_
        obtain ⟨o29, hg⟩ := hg
        refine wk_iast (pc := 107) X hH hS (29, 0, 0) (rf_29 hSh) o29 dX5_supply_107 (fun H locs hH hS => ?_)
        refine lv_aload_n (pc := 108) hx hb dX5_supply_108 rfl (lv_at hl 1 rfl) ?_
        refine wk_getr (pc := 109) X hH (20, 0, 0) 10 (25, 0, 0) (rf_20 hSh) rfl (by decide) rfl inX5 fl_X5_22 dX5_supply_109 ?_
        refine lv_aload_n (pc := 112) hx hb dX5_supply_112 rfl (lv_at hl 1 rfl) ?_
        refine wk_geti (pc := 113) X hH (20, 0, 0) 18 (rf_20 hSh) rfl (by decide) rfl inX5 fl_X5_69 dX5_supply_113 ?_
        refine lv_iconst (pc := 116) (v := 0) hx hb dX5_supply_116 (by decide) ?_
        obtain ⟨o30, hg⟩ := hg
        refine wk_iast (pc := 117) X hH hS (25, 0, 0) (rf_25 hSh) o30 dX5_supply_117 (fun H locs hH hS => ?_)
        refine lv_aload_n (pc := 118) hx hb dX5_supply_118 rfl (lv_at hl 1 rfl) ?_
        refine lv_iconst (pc := 119) (v := (-1)) hx hb dX5_supply_119 (by decide) ?_
        refine wk_puti (pc := 120) X hH hS (20, 0, 0) 18 tyX5_ok nmX5 (rf_20 hSh) rfl (by decide) rfl inX5 fl_X5_69 rfl rfl rfl dX5_supply_120 (fun H locs hH hS => ?_)
        refine lv_aload_n (pc := 123) hx hb dX5_supply_123 rfl (lv_at hl 1 rfl) ?_
        refine lv_iconst (pc := 124) (v := 0) hx hb dX5_supply_124 (by decide) ?_
        refine wk_puti (pc := 125) X hH hS (20, 0, 0) 19 tyX5_ok nmX5 (rf_20 hSh) rfl (by decide) rfl inX5 fl_X5_110 rfl rfl rfl dX5_supply_125 (fun H locs hH hS => ?_)
        refine lv_aload_n (pc := 128) hx hb dX5_supply_128 rfl (lv_at hl 1 rfl) ?_
        refine lv_iconst (pc := 129) (v := (-1)) hx hb dX5_supply_129 (by decide) ?_
        refine wk_puti (pc := 130) X hH hS (20, 0, 0) 20 tyX5_ok nmX5 (rf_20 hSh) rfl (by decide) rfl inX5 fl_X5_72 rfl rfl rfl dX5_supply_130 (fun H locs hH hS => ?_)
        refine lv_aload_n (pc := 133) hx hb dX5_supply_133 rfl (lv_at hl 1 rfl) ?_
        refine lv_iconst (pc := 134) (v := 4) hx hb dX5_supply_134 (by decide) ?_
        obtain ⟨o31, hg⟩ := hg
        refine wk_ci (wk_rV (pc := 135) (As := [.int 4]) (rest := []) X hH hS hz (rf_20 hSh) rfl ok_X5_phase (mk_X5_phase (l := l) (P := P) hSh (wk_up (wk_up (wk_up (wk_up (wk_up (wk_up sg (30, 0, 0) (Int32.toNatClampNeg (mr_X5_slotOf P sg (sg (20, 0, 0) 18) (sg (20, 0, 0) 20))) (sg (20, 0, 0) 20)) (29, 0, 0) (Int32.toNatClampNeg (mr_X5_slotOf P sg (sg (20, 0, 0) 18) (sg (20, 0, 0) 20))) 4) (25, 0, 0) (Int32.toNatClampNeg ((wk_up (wk_up sg (30, 0, 0) (Int32.toNatClampNeg (mr_X5_slotOf P sg (sg (20, 0, 0) 18) (sg (20, 0, 0) 20))) (sg (20, 0, 0) 20)) (29, 0, 0) (Int32.toNatClampNeg (mr_X5_slotOf P sg (sg (20, 0, 0) 18) (sg (20, 0, 0) 20))) 4) (20, 0, 0) 18)) 0) (20, 0, 0) 18 (-1)) (20, 0, 0) 19 0) (20, 0, 0) 20 (-1)) 4  o31) ml_X5_113 ⟨by decide, by decide, by decide, by decide⟩ rfl hl.1 rfl (Nat.le_of_ble_eq_true rfl) dX5_supply_135) hS (fun H locs hH hS => ?_)
        exact wk_iret (pc := 138) X hH hS hr hlocks (by rw [mr_X5_supply, if_neg h2, if_neg h19, if_pos h21]) (by rw [ms_X5_supply, if_neg h2, if_neg h19, if_pos h21]) dX5_supply_138
    · have hg := hg.1 h19
      refine lv_iconst (pc := 36) (v := 0) hx hb dX5_supply_36 (by decide) ?_
      refine lv_istore_n (pc := 37) (lv' := [(2, .int 0), (1, .int (mr_X5_slotOf P sg (sg (20, 0, 0) 18) (sg (20, 0, 0) 20))), (0, .ref (ad (20, 0, 0)))]) hx hb dX5_supply_37 rfl hl (by decide) rfl (fun ls hl => ?_)
      exact mk_X5_supply_L38 (P := P) hSh   X hz hr hlocks 5 sg (mr_X5_slotOf P sg (sg (20, 0, 0) 18) (sg (20, 0, 0) 20)) 0 _ _ (by rw [mr_X5_supply, if_neg h2, if_pos h19]) (by rw [ms_X5_supply, if_neg h2, if_pos h19]) hg ls _ _ (lv_sub hl [2, 1, 0] rfl) hH hS

def mr_X5_isDirty (P : Nat → Nat) (sg : wk_Sg) (a1 : Int32) : Int32 := (if a1 = 3 then 1 else (if a1 = 4 then 1 else 0))
theorem mz_X5_isDirty (P : Nat → Nat) (sg : wk_Sg) (a1 : Int32) : mr_X5_isDirty P sg a1 = 0 ∨ mr_X5_isDirty P sg a1 = 1 := by
  unfold mr_X5_isDirty
  repeat' split
  all_goals first | exact Or.inl rfl | exact Or.inr rfl
set_option maxHeartbeats 4000000 in
set_option maxRecDepth 100000 in
theorem mk_X5_isDirty {l : Launch} {D : va_G} {T : wk_T} {z0 : Nat} {ad : wk_K3 → Nat} {sh : wk_Sh} {P : Nat → Nat} (sg : wk_Sg) (a1 : Int32)   : wk_Mi l yX5_isDirty cX5_isDirty 1 (some .boolean) 0 0 D T z0 ad sh [.int a1] sg (mr_X5_isDirty P sg a1) sg := by
  refine Met.ofW (cc := cX5_isDirty) (maxL := 1) (ret := (some .boolean)) (by decide) rfl ?_
  intro p e s m args below meth c s₁ B hml hv
  obtain ⟨rfl, hz, hH, hK⟩ := hv
  have hx := B.exec
  have hb := B.bytes
  have hr := B.returns
  have hlocks := B.notSynchronized
  have hts : ∀ w ∈ wk_B, w.before _ s = true := fun w hw => atoms_spec (ws := Cond.code yX5_isDirty cX5_isDirty 1 (some .boolean) :: wk_B) B.pre w (List.mem_cons_of_mem _ hw)
  have X : wk_C p m c cX5_isDirty 1 s _ RX5 D T := ⟨⟨hx, hb, hml, findClass_of_methodNamed B.named, hts⟩, hK⟩
  have hS : va_S (wk_A z0) s.heap s.heap [] := va_S.rf
  have hl := lv_entry ([.int a1]) (n := 1) (Nat.le_of_ble_eq_true rfl)
  rw [lg_entry_eq]
  generalize (lg_sl ([.int a1]) ++ List.replicate (1 - (lg_sl ([.int a1])).length) Slot.unset).toArray = ls at hl ⊢
  have hl : lv_has ls 1 [(0, .int a1)] := hl
  refine lv_iload_n (pc := 0) hx hb dX5_isDirty_0 rfl (lv_at hl 0 rfl) ?_
  refine lv_iconst (pc := 1) (v := 3) hx hb dX5_isDirty_1 (by decide) ?_
  refine lv_icmp_eq (pc := 2) (tgt := 10) hx hb dX5_isDirty_2 (by decide) (fun h1 => ?_) (fun h1 => ?_)
  · skip
    refine lv_iconst (pc := 10) (v := 1) hx hb dX5_isDirty_10 (by decide) ?_
    refine lv_goto (pc := 11) (tgt := 15) hx hb dX5_isDirty_11 (by decide) ?_
    exact wk_zret (pc := 15) X hH hS hr hlocks (Or.inr rfl) (by rw [mr_X5_isDirty, if_pos h1]) (rfl) dX5_isDirty_15
  · skip
    refine lv_iload_n (pc := 5) hx hb dX5_isDirty_5 rfl (lv_at hl 0 rfl) ?_
    refine lv_iconst (pc := 6) (v := 4) hx hb dX5_isDirty_6 (by decide) ?_
    refine lv_icmp_ne (pc := 7) (tgt := 14) hx hb dX5_isDirty_7 (by decide) (fun h2 => ?_) (fun h2 => ?_)
    · skip
      refine lv_iconst (pc := 14) (v := 0) hx hb dX5_isDirty_14 (by decide) ?_
      exact wk_zret (pc := 15) X hH hS hr hlocks (Or.inl rfl) (by rw [mr_X5_isDirty, if_neg h1, if_neg h2]) (rfl) dX5_isDirty_15
    · skip
      refine lv_iconst (pc := 10) (v := 1) hx hb dX5_isDirty_10 (by decide) ?_
      refine lv_goto (pc := 11) (tgt := 15) hx hb dX5_isDirty_11 (by decide) ?_
      exact wk_zret (pc := 15) X hH hS hr hlocks (Or.inr rfl) (by rw [mr_X5_isDirty, if_neg h1, if_pos h2]) (rfl) dX5_isDirty_15

def ms_X5_writeBack_L2 : Nat → (Nat → Nat) → wk_Sg → Int32 → Int32 → wk_Sg
  | 0, _, sg, _, _ => sg
  | n + 1, P, sg, v1, v2 => (if (sg (20, 0, 0) 2) ≤ v2 then sg else (ms_X5_writeBack_L2 n P (wk_up sg (21, 0, 0) (Int32.toNatClampNeg (((sg (20, 0, 0) 2) * (sg (30, 0, 0) (Int32.toNatClampNeg v1))) + v2)) (sg (31, 0, 0) (Int32.toNatClampNeg (((4 : Int32) * v1) + v2))))  v1 (v2 + 1)))
def mg_X5_writeBack_L2 : Nat → (Nat → Nat) → wk_Sg → Int32 → Int32 → Prop
  | 0, _, _, _, _ => False
  | n + 1, P, sg, v1, v2 => (((sg (20, 0, 0) 2) ≤ v2 → True) ∧ (¬ (sg (20, 0, 0) 2) ≤ v2 → (vp_in v1 32 ∧ (vp_in (((4 : Int32) * v1) + v2) 128 ∧ (vp_in (((sg (20, 0, 0) 2) * (sg (30, 0, 0) (Int32.toNatClampNeg v1))) + v2) 64 ∧ mg_X5_writeBack_L2 n P (wk_up sg (21, 0, 0) (Int32.toNatClampNeg (((sg (20, 0, 0) 2) * (sg (30, 0, 0) (Int32.toNatClampNeg v1))) + v2)) (sg (31, 0, 0) (Int32.toNatClampNeg (((4 : Int32) * v1) + v2))))  v1 (v2 + 1))))))
set_option maxHeartbeats 4000000 in
set_option maxRecDepth 100000 in
theorem mk_X5_writeBack_L2 {l : Launch} {D : va_G} {T : wk_T} {z0 : Nat} {ad : wk_K3 → Nat} {sh : wk_Sh} {P : Nat → Nat} (hSh : rf_Sh T sh)   {p : Program} {e : Env} {s : State} {m : MethodId} {args : Array Value} {below : List Frame} {meth : Method} {c : Code} (X : wk_C p m c cX5_writeBack 3 s args RX5 D T) (hz : z0 ≤ s.heap.size) (hr : meth.sig.returnType = none) (hlocks : meth.locks = false) :
    ∀ (n : Nat) (sg : wk_Sg) (v1 : Int32) (v2 : Int32) (sg0 : wk_Sg), ms_X5_writeBack_L2 n P sg  v1 v2 = sg0 → mg_X5_writeBack_L2 n P sg  v1 v2 → ∀ (ls : Array Slot) (H : Heap) (locs : List Loc), lv_has ls 3 [(0, .ref (ad (20, 0, 0))), (1, .int v1), (2, .int v2)] → wk_H D z0 ad sh sg H → va_S (wk_A z0) s.heap H locs → W p l e (wk_rm 0 0) s m args below meth c H locs 0 0 (MQ below (wk_Qv D z0 ad sh sg0) args s 0 0 (wk_A z0)) (F0 m 2 ls []) := by
  have hx := X.1.1
  have hb := X.1.2.1
  have hts := X.1.2.2.2.2
  intro n
  induction n with
  | zero =>
    intro sg v1 v2 sg0 hs0 hg ls H locs hl hH hS
    exact (show False from hg).elim
  | succ n ih =>
    intro sg v1 v2 sg0 hs0 hg ls H locs hl hH hS
    rw [mg_X5_writeBack_L2] at hg
    refine lv_iload_n (pc := 2) hx hb dX5_writeBack_2 rfl (lv_at hl 2 rfl) ?_
    refine lv_aload_n (pc := 3) hx hb dX5_writeBack_3 rfl (lv_at hl 0 rfl) ?_
    refine wk_geti (pc := 4) X hH (20, 0, 0) 2 (rf_20 hSh) rfl (by decide) rfl inX5 fl_X5_60 dX5_writeBack_4 ?_
    refine lv_icmp_ge (pc := 7) (tgt := 44) hx hb dX5_writeBack_7 (by decide) (fun h1 => ?_) (fun h1 => ?_)
    · have hg := hg.1 h1
      exact wk_vret (pc := 44) X hH hS hr hlocks (by rw [← hs0, ms_X5_writeBack_L2, if_pos h1]) dX5_writeBack_44
    · have hg := hg.2 h1
      refine lv_aload_n (pc := 10) hx hb dX5_writeBack_10 rfl (lv_at hl 0 rfl) ?_
      refine wk_getr (pc := 11) X hH (20, 0, 0) 5 (21, 0, 0) (rf_20 hSh) rfl (by decide) rfl inX5 fl_X5_7 dX5_writeBack_11 ?_
      refine lv_aload_n (pc := 14) hx hb dX5_writeBack_14 rfl (lv_at hl 0 rfl) ?_
      refine wk_geti (pc := 15) X hH (20, 0, 0) 2 (rf_20 hSh) rfl (by decide) rfl inX5 fl_X5_60 dX5_writeBack_15 ?_
      refine lv_aload_n (pc := 18) hx hb dX5_writeBack_18 rfl (lv_at hl 0 rfl) ?_
      refine wk_getr (pc := 19) X hH (20, 0, 0) 15 (30, 0, 0) (rf_20 hSh) rfl (by decide) rfl inX5 fl_X5_37 dX5_writeBack_19 ?_
      refine lv_iload_n (pc := 22) hx hb dX5_writeBack_22 rfl (lv_at hl 1 rfl) ?_
      obtain ⟨o2, hg⟩ := hg
      refine wk_iald (pc := 23) X hH (30, 0, 0) (rf_30 hSh) o2 dX5_writeBack_23 ?_
      refine lv_imul (pc := 24) hx hb dX5_writeBack_24 ?_
      refine lv_iload_n (pc := 25) hx hb dX5_writeBack_25 rfl (lv_at hl 2 rfl) ?_
      refine lv_iadd (pc := 26) hx hb dX5_writeBack_26 ?_
      refine lv_aload_n (pc := 27) hx hb dX5_writeBack_27 rfl (lv_at hl 0 rfl) ?_
      refine wk_getr (pc := 28) X hH (20, 0, 0) 16 (31, 0, 0) (rf_20 hSh) rfl (by decide) rfl inX5 fl_X5_40 dX5_writeBack_28 ?_
      refine lv_iconst (pc := 31) (v := 4) hx hb dX5_writeBack_31 (by decide) ?_
      refine lv_iload_n (pc := 32) hx hb dX5_writeBack_32 rfl (lv_at hl 1 rfl) ?_
      refine lv_imul (pc := 33) hx hb dX5_writeBack_33 ?_
      refine lv_iload_n (pc := 34) hx hb dX5_writeBack_34 rfl (lv_at hl 2 rfl) ?_
      refine lv_iadd (pc := 35) hx hb dX5_writeBack_35 ?_
      obtain ⟨o3, hg⟩ := hg
      refine wk_iald (pc := 36) X hH (31, 0, 0) (rf_31 hSh) o3 dX5_writeBack_36 ?_
      obtain ⟨o4, hg⟩ := hg
      refine wk_iast (pc := 37) X hH hS (21, 0, 0) (rf_21 hSh) o4 dX5_writeBack_37 (fun H locs hH hS => ?_)
      refine lv_iinc (pc := 38) (k := 2) (v := (v2 + 1)) (lv' := [(2, .int (v2 + 1)), (0, .ref (ad (20, 0, 0))), (1, .int v1)]) hx hb dX5_writeBack_38 hl rfl rfl (by decide) rfl (fun ls hl => ?_)
      refine lv_goto (pc := 41) (tgt := 2) hx hb dX5_writeBack_41 (by decide) ?_
      exact ih (wk_up sg (21, 0, 0) (Int32.toNatClampNeg (((sg (20, 0, 0) 2) * (sg (30, 0, 0) (Int32.toNatClampNeg v1))) + v2)) (sg (31, 0, 0) (Int32.toNatClampNeg (((4 : Int32) * v1) + v2)))) v1 (v2 + 1) _ (by rw [← hs0, ms_X5_writeBack_L2, if_neg h1]) hg ls _ _ (lv_sub hl [1, 2, 0] rfl) hH hS
def ms_X5_writeBack (P : Nat → Nat) (sg : wk_Sg) (a1 : Int32) : wk_Sg := (ms_X5_writeBack_L2 5 P sg  a1 0)
def mg_X5_writeBack (P : Nat → Nat) (sg : wk_Sg) (a1 : Int32) : Prop := mg_X5_writeBack_L2 5 P sg  a1 0
set_option maxHeartbeats 4000000 in
set_option maxRecDepth 100000 in
theorem mk_X5_writeBack {l : Launch} {D : va_G} {T : wk_T} {z0 : Nat} {ad : wk_K3 → Nat} {sh : wk_Sh} {P : Nat → Nat} (hSh : rf_Sh T sh) (sg : wk_Sg) (a1 : Int32)  (hg : mg_X5_writeBack P sg a1) : wk_Mv l yX5_writeBack cX5_writeBack 3 none 0 0 D T z0 ad sh [.ref (ad (20, 0, 0)), .int a1] sg (ms_X5_writeBack P sg a1) := by
  refine Met.ofW (cc := cX5_writeBack) (maxL := 3) (ret := none) (by decide) rfl ?_
  intro p e s m args below meth c s₁ B hml hv
  obtain ⟨rfl, hz, hH, hK⟩ := hv
  have hx := B.exec
  have hb := B.bytes
  have hr := B.returns
  have hlocks := B.notSynchronized
  have hts : ∀ w ∈ wk_B, w.before _ s = true := fun w hw => atoms_spec (ws := Cond.code yX5_writeBack cX5_writeBack 3 none :: wk_B) B.pre w (List.mem_cons_of_mem _ hw)
  have X : wk_C p m c cX5_writeBack 3 s _ RX5 D T := ⟨⟨hx, hb, hml, findClass_of_methodNamed B.named, hts⟩, hK⟩
  have hS : va_S (wk_A z0) s.heap s.heap [] := va_S.rf
  have hl := lv_entry ([.ref (ad (20, 0, 0)), .int a1]) (n := 3) (Nat.le_of_ble_eq_true rfl)
  rw [lg_entry_eq]
  generalize (lg_sl ([.ref (ad (20, 0, 0)), .int a1]) ++ List.replicate (3 - (lg_sl ([.ref (ad (20, 0, 0)), .int a1])).length) Slot.unset).toArray = ls at hl ⊢
  have hl : lv_has ls 3 [(0, .ref (ad (20, 0, 0))), (1, .int a1)] := hl
  unfold mg_X5_writeBack at hg
  refine lv_iconst (pc := 0) (v := 0) hx hb dX5_writeBack_0 (by decide) ?_
  refine lv_istore_n (pc := 1) (lv' := [(2, .int 0), (0, .ref (ad (20, 0, 0))), (1, .int a1)]) hx hb dX5_writeBack_1 rfl hl (by decide) rfl (fun ls hl => ?_)
  exact mk_X5_writeBack_L2 (P := P) hSh   X hz hr hlocks 5 sg a1 0 _ (by rw [ms_X5_writeBack]) hg ls _ _ (lv_sub hl [1, 2, 0] rfl) hH hS
