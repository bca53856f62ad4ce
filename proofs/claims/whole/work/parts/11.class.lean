def ms_X3_letOthersRead (P : Nat → Nat) (sg : wk_Sg) (i : Nat) (j : Nat) : wk_Sg := (if (sg (8, i, j) 1) = 4 then (wk_up sg (8, i, j) 1 3) else (if (sg (8, i, j) 1) = 2 then (wk_up sg (8, i, j) 1 1) else sg))
set_option maxHeartbeats 4000000 in
set_option maxRecDepth 100000 in
theorem mk_X3_letOthersRead {l : Launch} {D : va_G} {T : wk_T} {z0 : Nat} {ad : wk_K3 → Nat} {sh : wk_Sh} {P : Nat → Nat} (hSh : sc_Sh T P sh) (sg : wk_Sg) (i : Nat) (j : Nat) (hi : i < P 0) (hj : j < P 1)  : wk_Mv l yX3_letOthersRead cX3_letOthersRead 1 none 0 0 D T z0 ad sh [.ref (ad (8, i, j))] sg (ms_X3_letOthersRead P sg i j) := by
  refine Met.ofW (cc := cX3_letOthersRead) (maxL := 1) (ret := none) (by decide) rfl ?_
  intro p e s m args below meth c s₁ B hml hv
  obtain ⟨rfl, hz, hH, hK⟩ := hv
  have hx := B.exec
  have hb := B.bytes
  have hr := B.returns
  have hlocks := B.notSynchronized
  have hts : ∀ w ∈ wk_B, w.before _ s = true := fun w hw => atoms_spec (ws := Cond.code yX3_letOthersRead cX3_letOthersRead 1 none :: wk_B) B.pre w (List.mem_cons_of_mem _ hw)
  have X : wk_C p m c cX3_letOthersRead 1 s _ RX3 D T := ⟨⟨hx, hb, hml, findClass_of_methodNamed B.named, hts⟩, hK⟩
  have hS : va_S (wk_A z0) s.heap s.heap [] := va_S.rf
  have hl := lv_entry ([.ref (ad (8, i, j))]) (n := 1) (Nat.le_of_ble_eq_true rfl)
  rw [lg_entry_eq]
  generalize (lg_sl ([.ref (ad (8, i, j))]) ++ List.replicate (1 - (lg_sl ([.ref (ad (8, i, j))])).length) Slot.unset).toArray = ls at hl ⊢
  have hl : lv_has ls 1 [(0, .ref (ad (8, i, j)))] := hl
  refine lv_aload_n (pc := 0) hx hb dX3_letOthersRead_0 rfl (lv_at hl 0 rfl) ?_
  refine wk_geti (pc := 1) X hH (8, i, j) 1 (sc_8 hSh hi hj) rfl (by decide) rfl inX3 fl_X3_9 dX3_letOthersRead_1 ?_
  refine lv_iconst (pc := 4) (v := 4) hx hb dX3_letOthersRead_4 (by decide) ?_
  refine lv_icmp_ne (pc := 5) (tgt := 16) hx hb dX3_letOthersRead_5 (by decide) (fun h1 => ?_) (fun h1 => ?_)
  · skip
    refine lv_aload_n (pc := 16) hx hb dX3_letOthersRead_16 rfl (lv_at hl 0 rfl) ?_
    refine wk_geti (pc := 17) X hH (8, i, j) 1 (sc_8 hSh hi hj) rfl (by decide) rfl inX3 fl_X3_9 dX3_letOthersRead_17 ?_
    refine lv_iconst (pc := 20) (v := 2) hx hb dX3_letOthersRead_20 (by decide) ?_
    refine lv_icmp_ne (pc := 21) (tgt := 29) hx hb dX3_letOthersRead_21 (by decide) (fun h2 => ?_) (fun h2 => ?_)
    · skip
      exact wk_vret (pc := 29) X hH hS hr hlocks (by rw [ms_X3_letOthersRead, if_neg h1, if_neg h2]) dX3_letOthersRead_29
    · skip
      refine lv_aload_n (pc := 24) hx hb dX3_letOthersRead_24 rfl (lv_at hl 0 rfl) ?_
      refine lv_iconst (pc := 25) (v := 1) hx hb dX3_letOthersRead_25 (by decide) ?_
      refine wk_puti (pc := 26) X hH hS (8, i, j) 1 tyX3_ok nmX3 (sc_8 hSh hi hj) rfl (by decide) rfl inX3 fl_X3_9 rfl rfl rfl dX3_letOthersRead_26 (fun H locs hH hS => ?_)
      exact wk_vret (pc := 29) X hH hS hr hlocks (by rw [ms_X3_letOthersRead, if_neg h1, if_pos h2]) dX3_letOthersRead_29
  · skip
    refine lv_aload_n (pc := 8) hx hb dX3_letOthersRead_8 rfl (lv_at hl 0 rfl) ?_
    refine lv_iconst (pc := 9) (v := 3) hx hb dX3_letOthersRead_9 (by decide) ?_
    refine wk_puti (pc := 10) X hH hS (8, i, j) 1 tyX3_ok nmX3 (sc_8 hSh hi hj) rfl (by decide) rfl inX3 fl_X3_9 rfl rfl rfl dX3_letOthersRead_10 (fun H locs hH hS => ?_)
    refine lv_goto (pc := 13) (tgt := 29) hx hb dX3_letOthersRead_13 (by decide) ?_
    exact wk_vret (pc := 29) X hH hS hr hlocks (by rw [ms_X3_letOthersRead, if_pos h1]) dX3_letOthersRead_29

def ms_X0_lookOn (P : Nat → Nat) (sg : wk_Sg) (i1 : Nat) (j1 : Nat) : wk_Sg := (if (mr_X3_isNewerThanMemory P (wk_up sg (10, 0, 0) 4 1) i1 j1) = 0 then (if ((wk_up sg (10, 0, 0) 4 1) (10, 0, 0) 7) = 1 then (ms_X3_letOthersRead P (wk_up sg (10, 0, 0) 4 1) i1 j1) else (ms_X2_giveUp P (wk_up sg (10, 0, 0) 4 1) i1 j1)) else (if ((wk_su (wk_up sg (10, 0, 0) 4 1) (12, 0, 0) (va_cpy ((wk_up sg (10, 0, 0) 4 1) (9, i1, j1)) ((wk_up sg (10, 0, 0) 4 1) (12, 0, 0)) (Int32.toNatClampNeg 0) (Int32.toNatClampNeg 0) (Int32.toNatClampNeg (nI (P 2))))) (10, 0, 0) 7) = 1 then (ms_X3_letOthersRead P (wk_su (wk_up sg (10, 0, 0) 4 1) (12, 0, 0) (va_cpy ((wk_up sg (10, 0, 0) 4 1) (9, i1, j1)) ((wk_up sg (10, 0, 0) 4 1) (12, 0, 0)) (Int32.toNatClampNeg 0) (Int32.toNatClampNeg 0) (Int32.toNatClampNeg (nI (P 2))))) i1 j1) else (ms_X2_giveUp P (wk_su (wk_up sg (10, 0, 0) 4 1) (12, 0, 0) (va_cpy ((wk_up sg (10, 0, 0) 4 1) (9, i1, j1)) ((wk_up sg (10, 0, 0) 4 1) (12, 0, 0)) (Int32.toNatClampNeg 0) (Int32.toNatClampNeg 0) (Int32.toNatClampNeg (nI (P 2))))) i1 j1)))
def mg_X0_lookOn (P : Nat → Nat) (sg : wk_Sg) (i1 : Nat) (j1 : Nat) : Prop := (((mr_X3_isNewerThanMemory P (wk_up sg (10, 0, 0) 4 1) i1 j1) = 0 → ((((wk_up sg (10, 0, 0) 4 1) (10, 0, 0) 7) = 1 → True) ∧ (¬ ((wk_up sg (10, 0, 0) 4 1) (10, 0, 0) 7) = 1 → (mg_X2_giveUp P (wk_up sg (10, 0, 0) 4 1) i1 j1 ∧ True)))) ∧ (¬ (mr_X3_isNewerThanMemory P (wk_up sg (10, 0, 0) 4 1) i1 j1) = 0 → (wk_cp 0 0 (nI (P 2)) (P 2) (P 2) ∧ ((((wk_su (wk_up sg (10, 0, 0) 4 1) (12, 0, 0) (va_cpy ((wk_up sg (10, 0, 0) 4 1) (9, i1, j1)) ((wk_up sg (10, 0, 0) 4 1) (12, 0, 0)) (Int32.toNatClampNeg 0) (Int32.toNatClampNeg 0) (Int32.toNatClampNeg (nI (P 2))))) (10, 0, 0) 7) = 1 → True) ∧ (¬ ((wk_su (wk_up sg (10, 0, 0) 4 1) (12, 0, 0) (va_cpy ((wk_up sg (10, 0, 0) 4 1) (9, i1, j1)) ((wk_up sg (10, 0, 0) 4 1) (12, 0, 0)) (Int32.toNatClampNeg 0) (Int32.toNatClampNeg 0) (Int32.toNatClampNeg (nI (P 2))))) (10, 0, 0) 7) = 1 → (mg_X2_giveUp P (wk_su (wk_up sg (10, 0, 0) 4 1) (12, 0, 0) (va_cpy ((wk_up sg (10, 0, 0) 4 1) (9, i1, j1)) ((wk_up sg (10, 0, 0) 4 1) (12, 0, 0)) (Int32.toNatClampNeg 0) (Int32.toNatClampNeg 0) (Int32.toNatClampNeg (nI (P 2))))) i1 j1 ∧ True))))))
set_option maxHeartbeats 4000000 in
set_option maxRecDepth 100000 in
theorem mk_X0_lookOn {l : Launch} {D : va_G} {T : wk_T} {z0 : Nat} {ad : wk_K3 → Nat} {sh : wk_Sh} {P : Nat → Nat} (hSh : sc_Sh T P sh) (sg : wk_Sg) (i1 : Nat) (j1 : Nat) (hi1 : i1 < P 0) (hj1 : j1 < P 1) (hg : mg_X0_lookOn P sg i1 j1) : wk_Mv l yX0_lookOn cX0_lookOn 2 none 2 47 D T z0 ad sh [.ref (ad (10, 0, 0)), .ref (ad (8, i1, j1))] sg (ms_X0_lookOn P sg i1 j1) := by
  refine Met.ofW (cc := cX0_lookOn) (maxL := 2) (ret := none) (by decide) rfl ?_
  intro p e s m args below meth c s₁ B hml hv
  obtain ⟨rfl, hz, hH, hK⟩ := hv
  have hx := B.exec
  have hb := B.bytes
  have hr := B.returns
  have hlocks := B.notSynchronized
  have hts : ∀ w ∈ wk_B, w.before _ s = true := fun w hw => atoms_spec (ws := Cond.code yX0_lookOn cX0_lookOn 2 none :: wk_B) B.pre w (List.mem_cons_of_mem _ hw)
  have X : wk_C p m c cX0_lookOn 2 s _ RX0 D T := ⟨⟨hx, hb, hml, findClass_of_methodNamed B.named, hts⟩, hK⟩
  have hS : va_S (wk_A z0) s.heap s.heap [] := va_S.rf
  have hl := lv_entry ([.ref (ad (10, 0, 0)), .ref (ad (8, i1, j1))]) (n := 2) (Nat.le_of_ble_eq_true rfl)
  rw [lg_entry_eq]
  generalize (lg_sl ([.ref (ad (10, 0, 0)), .ref (ad (8, i1, j1))]) ++ List.replicate (2 - (lg_sl ([.ref (ad (10, 0, 0)), .ref (ad (8, i1, j1))])).length) Slot.unset).toArray = ls at hl ⊢
  have hl : lv_has ls 2 [(0, .ref (ad (10, 0, 0))), (1, .ref (ad (8, i1, j1)))] := hl
  unfold mg_X0_lookOn at hg
  refine lv_aload_n (pc := 0) hx hb dX0_lookOn_0 rfl (lv_at hl 0 rfl) ?_
  refine lv_iconst (pc := 1) (v := 1) hx hb dX0_lookOn_1 (by decide) ?_
  refine wk_puti (pc := 2) X hH hS (10, 0, 0) 4 tyX0_ok nmX0 (sc_10 hSh) rfl (by decide) rfl inX0 fl_X0_15 rfl rfl rfl dX0_lookOn_2 (fun H locs hH hS => ?_)
  refine lv_aload_n (pc := 5) hx hb dX0_lookOn_5 rfl (lv_at hl 1 rfl) ?_
  refine wk_ci (wk_rV (pc := 6) (As := []) (rest := []) X hH hS hz (sc_8 hSh hi1 hj1) rfl ok_X3_isNewerThanMemory (mk_X3_isNewerThanMemory (l := l) (P := P) hSh (wk_up sg (10, 0, 0) 4 1) i1 j1 hi1 hj1 ) ml_X0_102 ⟨by decide, by decide, by decide, by decide⟩ rfl hl.1 rfl (Nat.le_of_ble_eq_true rfl) dX0_lookOn_6) hS (fun H locs hH hS => ?_)
  refine lv_if_eq (pc := 9) (tgt := 30) hx hb dX0_lookOn_9 (by decide) (fun h1 => ?_) (fun h1 => ?_)
  · have hg := hg.1 h1
    refine lv_aload_n (pc := 30) hx hb dX0_lookOn_30 rfl (lv_at hl 0 rfl) ?_
    refine wk_geti (pc := 31) X hH (10, 0, 0) 7 (sc_10 hSh) rfl (by decide) rfl inX0 fl_X0_26 dX0_lookOn_31 ?_
    refine lv_iconst (pc := 34) (v := 1) hx hb dX0_lookOn_34 (by decide) ?_
    refine lv_icmp_ne (pc := 35) (tgt := 45) hx hb dX0_lookOn_35 (by decide) (fun h2 => ?_) (fun h2 => ?_)
    · have hg := hg.2 h2
      refine lv_aload_n (pc := 45) hx hb dX0_lookOn_45 rfl (lv_at hl 0 rfl) ?_
      refine wk_getr (pc := 46) X hH (10, 0, 0) 1 (1, 0, 0) (sc_10 hSh) rfl (by decide) rfl inX0 fl_X0_36 dX0_lookOn_46 ?_
      refine lv_aload_n (pc := 49) hx hb dX0_lookOn_49 rfl (lv_at hl 1 rfl) ?_
      obtain ⟨o3, hg⟩ := hg
      refine wk_cv (wk_rV (pc := 50) (As := [.ref (ad (8, i1, j1))]) (rest := []) X hH hS hz (sc_1 hSh) rfl ok_X2_giveUp (mk_X2_giveUp (l := l) (P := P) hSh (wk_up sg (10, 0, 0) 4 1) i1 j1 hi1 hj1 o3) ml_X0_84 ⟨by decide, by decide, by decide, by decide⟩ rfl hl.1 rfl (Nat.le_of_ble_eq_true rfl) dX0_lookOn_50) hS (fun H locs hH hS => ?_)
      exact wk_vret (pc := 53) X hH hS hr hlocks (by rw [ms_X0_lookOn, if_pos h1, if_neg h2]) dX0_lookOn_53
    · have hg := hg.1 h2
      refine lv_aload_n (pc := 38) hx hb dX0_lookOn_38 rfl (lv_at hl 1 rfl) ?_
      refine wk_cv (wk_rV (pc := 39) (As := []) (rest := []) X hH hS hz (sc_8 hSh hi1 hj1) rfl ok_X3_letOthersRead (mk_X3_letOthersRead (l := l) (P := P) hSh (wk_up sg (10, 0, 0) 4 1) i1 j1 hi1 hj1 ) ml_X0_132 ⟨by decide, by decide, by decide, by decide⟩ rfl hl.1 rfl (Nat.le_of_ble_eq_true rfl) dX0_lookOn_39) hS (fun H locs hH hS => ?_)
      refine lv_goto (pc := 42) (tgt := 53) hx hb dX0_lookOn_42 (by decide) ?_
      exact wk_vret (pc := 53) X hH hS hr hlocks (by rw [ms_X0_lookOn, if_pos h1, if_pos h2]) dX0_lookOn_53
  · have hg := hg.2 h1
    refine lv_aload_n (pc := 12) hx hb dX0_lookOn_12 rfl (lv_at hl 1 rfl) ?_
    refine wk_getr (pc := 13) X hH (8, i1, j1) 0 (9, i1, j1) (sc_8 hSh hi1 hj1) rfl (by decide) rfl inX3 fl_X0_123 dX0_lookOn_13 ?_
    refine lv_iconst (pc := 16) (v := 0) hx hb dX0_lookOn_16 (by decide) ?_
    refine lv_aload_n (pc := 17) hx hb dX0_lookOn_17 rfl (lv_at hl 0 rfl) ?_
    refine wk_getr (pc := 18) X hH (10, 0, 0) 3 (12, 0, 0) (sc_10 hSh) rfl (by decide) rfl inX0 fl_X0_45 dX0_lookOn_18 ?_
    refine lv_iconst (pc := 21) (v := 0) hx hb dX0_lookOn_21 (by decide) ?_
    refine lv_aload_n (pc := 22) hx hb dX0_lookOn_22 rfl (lv_at hl 0 rfl) ?_
    refine wk_getr (pc := 23) X hH (10, 0, 0) 3 (12, 0, 0) (sc_10 hSh) rfl (by decide) rfl inX0 fl_X0_45 dX0_lookOn_23 ?_
    refine wk_alenI (pc := 26) X hH (12, 0, 0) (sc_12 hSh) dX0_lookOn_26 ?_
    obtain ⟨o4, hg⟩ := hg
    refine wk_copy (pc := 27) (rest := []) X hl.1 hH hS ml_X0_126 ok_arraycopy (9, i1, j1) (12, 0, 0) (sc_9 hSh hi1 hj1) (sc_12 hSh) o4 ⟨by decide, Nat.le_of_ble_eq_true rfl⟩ dX0_lookOn_27 (fun H locs hH hS => ?_)
    refine lv_aload_n (pc := 30) hx hb dX0_lookOn_30 rfl (lv_at hl 0 rfl) ?_
    refine wk_geti (pc := 31) X hH (10, 0, 0) 7 (sc_10 hSh) rfl (by decide) rfl inX0 fl_X0_26 dX0_lookOn_31 ?_
    refine lv_iconst (pc := 34) (v := 1) hx hb dX0_lookOn_34 (by decide) ?_
    refine lv_icmp_ne (pc := 35) (tgt := 45) hx hb dX0_lookOn_35 (by decide) (fun h5 => ?_) (fun h5 => ?_)
    · have hg := hg.2 h5
      refine lv_aload_n (pc := 45) hx hb dX0_lookOn_45 rfl (lv_at hl 0 rfl) ?_
      refine wk_getr (pc := 46) X hH (10, 0, 0) 1 (1, 0, 0) (sc_10 hSh) rfl (by decide) rfl inX0 fl_X0_36 dX0_lookOn_46 ?_
      refine lv_aload_n (pc := 49) hx hb dX0_lookOn_49 rfl (lv_at hl 1 rfl) ?_
      obtain ⟨o6, hg⟩ := hg
      refine wk_cv (wk_rV (pc := 50) (As := [.ref (ad (8, i1, j1))]) (rest := []) X hH hS hz (sc_1 hSh) rfl ok_X2_giveUp (mk_X2_giveUp (l := l) (P := P) hSh (wk_su (wk_up sg (10, 0, 0) 4 1) (12, 0, 0) (va_cpy ((wk_up sg (10, 0, 0) 4 1) (9, i1, j1)) ((wk_up sg (10, 0, 0) 4 1) (12, 0, 0)) (Int32.toNatClampNeg 0) (Int32.toNatClampNeg 0) (Int32.toNatClampNeg (nI (P 2))))) i1 j1 hi1 hj1 o6) ml_X0_84 ⟨by decide, by decide, by decide, by decide⟩ rfl hl.1 rfl (Nat.le_of_ble_eq_true rfl) dX0_lookOn_50) hS (fun H locs hH hS => ?_)
      exact wk_vret (pc := 53) X hH hS hr hlocks (by rw [ms_X0_lookOn, if_neg h1, if_neg h5]) dX0_lookOn_53
    · have hg := hg.1 h5
      refine lv_aload_n (pc := 38) hx hb dX0_lookOn_38 rfl (lv_at hl 1 rfl) ?_
      refine wk_cv (wk_rV (pc := 39) (As := []) (rest := []) X hH hS hz (sc_8 hSh hi1 hj1) rfl ok_X3_letOthersRead (mk_X3_letOthersRead (l := l) (P := P) hSh (wk_su (wk_up sg (10, 0, 0) 4 1) (12, 0, 0) (va_cpy ((wk_up sg (10, 0, 0) 4 1) (9, i1, j1)) ((wk_up sg (10, 0, 0) 4 1) (12, 0, 0)) (Int32.toNatClampNeg 0) (Int32.toNatClampNeg 0) (Int32.toNatClampNeg (nI (P 2))))) i1 j1 hi1 hj1 ) ml_X0_132 ⟨by decide, by decide, by decide, by decide⟩ rfl hl.1 rfl (Nat.le_of_ble_eq_true rfl) dX0_lookOn_39) hS (fun H locs hH hS => ?_)
      refine lv_goto (pc := 42) (tgt := 53) hx hb dX0_lookOn_42 (by decide) ?_
      exact wk_vret (pc := 53) X hH hS hr hlocks (by rw [ms_X0_lookOn, if_neg h1, if_pos h5]) dX0_lookOn_53

def ms_X0_snoop_L22 : Nat → (Nat → Nat) → wk_Sg → Int32 → wk_Sg
  | 0, _, sg, _ => sg
  | n + 1, P, sg, v1 => (if (nI (P 0)) ≤ v1 then sg else (if v1 = (sg (10, 0, 0) 6) then (ms_X0_snoop_L22 n P sg  (v1 + 1)) else (if (mr_X3_holds P sg (Int32.toNatClampNeg v1) (Int32.toNatClampNeg (mr_X1_indexFor P sg (Int32.toNatClampNeg v1) (sg (10, 0, 0) 8))) (sg (10, 0, 0) 8)) = 0 then (ms_X0_snoop_L22 n P sg  (v1 + 1)) else (ms_X0_snoop_L22 n P (ms_X0_lookOn P sg (Int32.toNatClampNeg v1) (Int32.toNatClampNeg (mr_X1_indexFor P sg (Int32.toNatClampNeg v1) (sg (10, 0, 0) 8))))  (v1 + 1)))))
def mg_X0_snoop_L22 : Nat → (Nat → Nat) → wk_Sg → Int32 → Prop
  | 0, _, _, _ => False
  | n + 1, P, sg, v1 => (((nI (P 0)) ≤ v1 → True) ∧ (¬ (nI (P 0)) ≤ v1 → (vp_in v1 (P 0) ∧ (mg_X1_slotFor P sg (Int32.toNatClampNeg v1) (sg (10, 0, 0) 8) ∧ ((v1 = (sg (10, 0, 0) 6) → mg_X0_snoop_L22 n P sg  (v1 + 1)) ∧ (¬ v1 = (sg (10, 0, 0) 6) → (((mr_X3_holds P sg (Int32.toNatClampNeg v1) (Int32.toNatClampNeg (mr_X1_indexFor P sg (Int32.toNatClampNeg v1) (sg (10, 0, 0) 8))) (sg (10, 0, 0) 8)) = 0 → mg_X0_snoop_L22 n P sg  (v1 + 1)) ∧ (¬ (mr_X3_holds P sg (Int32.toNatClampNeg v1) (Int32.toNatClampNeg (mr_X1_indexFor P sg (Int32.toNatClampNeg v1) (sg (10, 0, 0) 8))) (sg (10, 0, 0) 8)) = 0 → (mg_X0_lookOn P sg (Int32.toNatClampNeg v1) (Int32.toNatClampNeg (mr_X1_indexFor P sg (Int32.toNatClampNeg v1) (sg (10, 0, 0) 8))) ∧ mg_X0_snoop_L22 n P (ms_X0_lookOn P sg (Int32.toNatClampNeg v1) (Int32.toNatClampNeg (mr_X1_indexFor P sg (Int32.toNatClampNeg v1) (sg (10, 0, 0) 8))))  (v1 + 1))))))))))
set_option maxHeartbeats 4000000 in
set_option maxRecDepth 100000 in
theorem mk_X0_snoop_L22 {l : Launch} {D : va_G} {T : wk_T} {z0 : Nat} {ad : wk_K3 → Nat} {sh : wk_Sh} {P : Nat → Nat} (hSh : sc_Sh T P sh)   {p : Program} {e : Env} {s : State} {m : MethodId} {args : Array Value} {below : List Frame} {meth : Method} {c : Code} (X : wk_C p m c cX0_snoop 3 s args RX0 D T) (hz : z0 ≤ s.heap.size) (hr : meth.sig.returnType = none) (hlocks : meth.locks = false) :
    ∀ (n : Nat) (sg : wk_Sg) (v1 : Int32) (sg0 : wk_Sg), ms_X0_snoop_L22 n P sg  v1 = sg0 → mg_X0_snoop_L22 n P sg  v1 → ∀ (ls : Array Slot) (H : Heap) (locs : List Loc), lv_has ls 3 [(0, .ref (ad (10, 0, 0))), (1, .int v1)] → wk_H D z0 ad sh sg H → va_S (wk_A z0) s.heap H locs → W p l e (wk_rm 3 68) s m args below meth c H locs 0 0 (MQ below (wk_Qv D z0 ad sh sg0) args s 0 0 (wk_A z0)) (F0 m 22 ls []) := by
  have hx := X.1.1
  have hb := X.1.2.1
  have hts := X.1.2.2.2.2
  intro n
  induction n with
  | zero =>
    intro sg v1 sg0 hs0 hg ls H locs hl hH hS
    exact (show False from hg).elim
  | succ n ih =>
    intro sg v1 sg0 hs0 hg ls H locs hl hH hS
    rw [mg_X0_snoop_L22] at hg
    refine lv_iload_n (pc := 22) hx hb dX0_snoop_22 rfl (lv_at hl 1 rfl) ?_
    refine lv_aload_n (pc := 23) hx hb dX0_snoop_23 rfl (lv_at hl 0 rfl) ?_
    refine wk_getr (pc := 24) X hH (10, 0, 0) 0 (3, 0, 0) (sc_10 hSh) rfl (by decide) rfl inX0 fl_X0_32 dX0_snoop_24 ?_
    refine wk_alenR (pc := 27) X hH (3, 0, 0) 1 (sc_3 hSh) rfl dX0_snoop_27 ?_
    refine lv_icmp_ge (pc := 28) (tgt := 75) hx hb dX0_snoop_28 (by decide) (fun h2 => ?_) (fun h2 => ?_)
    · have hg := hg.1 h2
      exact wk_vret (pc := 75) X hH hS hr hlocks (by rw [← hs0, ms_X0_snoop_L22, if_pos h2]) dX0_snoop_75
    · have hg := hg.2 h2
      refine lv_aload_n (pc := 31) hx hb dX0_snoop_31 rfl (lv_at hl 0 rfl) ?_
      refine wk_getr (pc := 32) X hH (10, 0, 0) 0 (3, 0, 0) (sc_10 hSh) rfl (by decide) rfl inX0 fl_X0_32 dX0_snoop_32 ?_
      refine lv_iload_n (pc := 35) hx hb dX0_snoop_35 rfl (lv_at hl 1 rfl) ?_
      obtain ⟨o3, hg⟩ := hg
      have b4 := wk_inlt o3
      refine wk_aald (pc := 36) X hH (3, 0, 0) 1 (4, (Int32.toNatClampNeg v1), 0) (sc_3 hSh) rfl o3 (lk_3p b4) dX0_snoop_36 ?_
      refine lv_aload_n (pc := 37) hx hb dX0_snoop_37 rfl (lv_at hl 0 rfl) ?_
      refine wk_geti (pc := 38) X hH (10, 0, 0) 8 (sc_10 hSh) rfl (by decide) rfl inX0 fl_X0_29 dX0_snoop_38 ?_
      obtain ⟨o5, hg⟩ := hg
      refine wk_cr (wk_rV (pc := 41) (As := [.int (sg (10, 0, 0) 8)]) (rest := []) X hH hS hz (sc_4 hSh b4) rfl ok_X1_slotFor (mk_X1_slotFor (l := l) (P := P) hSh sg (Int32.toNatClampNeg v1) (sg (10, 0, 0) 8) b4 o5) ml_X0_80 ⟨by decide, by decide, by decide, by decide⟩ rfl hl.1 rfl (Nat.le_of_ble_eq_true rfl) dX0_snoop_41) hS (fun H locs hH hS => ?_)
      have b6 := mb_X1_slotFor P sg (Int32.toNatClampNeg v1) (sg (10, 0, 0) 8) o5
      refine lv_astore_n (pc := 44) (lv' := [(2, .ref (ad (8, (Int32.toNatClampNeg v1), (Int32.toNatClampNeg (mr_X1_indexFor P sg (Int32.toNatClampNeg v1) (sg (10, 0, 0) 8)))))), (0, .ref (ad (10, 0, 0))), (1, .int v1)]) hx hb dX0_snoop_44 rfl hl (by decide) rfl (fun ls hl => ?_)
      refine lv_iload_n (pc := 45) hx hb dX0_snoop_45 rfl (lv_at hl 2 rfl) ?_
      refine lv_aload_n (pc := 46) hx hb dX0_snoop_46 rfl (lv_at hl 1 rfl) ?_
      refine wk_geti (pc := 47) X hH (10, 0, 0) 6 (sc_10 hSh) rfl (by decide) rfl inX0 fl_X0_23 dX0_snoop_47 ?_
      refine lv_icmp_eq (pc := 50) (tgt := 69) hx hb dX0_snoop_50 (by decide) (fun h7 => ?_) (fun h7 => ?_)
      · have hg := hg.1 h7
        refine lv_iinc (pc := 69) (k := 2) (v := (v1 + 1)) (lv' := [(1, .int (v1 + 1)), (2, .ref (ad (8, (Int32.toNatClampNeg v1), (Int32.toNatClampNeg (mr_X1_indexFor P sg (Int32.toNatClampNeg v1) (sg (10, 0, 0) 8)))))), (0, .ref (ad (10, 0, 0)))]) hx hb dX0_snoop_69 hl rfl rfl (by decide) rfl (fun ls hl => ?_)
        refine lv_goto (pc := 72) (tgt := 22) hx hb dX0_snoop_72 (by decide) ?_
        exact ih sg (v1 + 1) _ (by rw [← hs0, ms_X0_snoop_L22, if_neg h2, if_pos h7]) hg ls _ _ (lv_sub hl [2, 0] rfl) hH hS
      · have hg := hg.2 h7
        refine lv_aload_n (pc := 53) hx hb dX0_snoop_53 rfl (lv_at hl 0 rfl) ?_
        refine lv_aload_n (pc := 54) hx hb dX0_snoop_54 rfl (lv_at hl 1 rfl) ?_
        refine wk_geti (pc := 55) X hH (10, 0, 0) 8 (sc_10 hSh) rfl (by decide) rfl inX0 fl_X0_29 dX0_snoop_55 ?_
        refine wk_ci (wk_rV (pc := 58) (As := [.int (sg (10, 0, 0) 8)]) (rest := []) X hH hS hz (sc_8 hSh b4 b6) rfl ok_X3_holds (mk_X3_holds (l := l) (P := P) hSh sg (Int32.toNatClampNeg v1) (Int32.toNatClampNeg (mr_X1_indexFor P sg (Int32.toNatClampNeg v1) (sg (10, 0, 0) 8))) (sg (10, 0, 0) 8) b4 b6 ) ml_X0_54 ⟨by decide, by decide, by decide, by decide⟩ rfl hl.1 rfl (Nat.le_of_ble_eq_true rfl) dX0_snoop_58) hS (fun H locs hH hS => ?_)
        refine lv_if_eq (pc := 61) (tgt := 69) hx hb dX0_snoop_61 (by decide) (fun h8 => ?_) (fun h8 => ?_)
        · have hg := hg.1 h8
          refine lv_iinc (pc := 69) (k := 2) (v := (v1 + 1)) (lv' := [(1, .int (v1 + 1)), (2, .ref (ad (8, (Int32.toNatClampNeg v1), (Int32.toNatClampNeg (mr_X1_indexFor P sg (Int32.toNatClampNeg v1) (sg (10, 0, 0) 8)))))), (0, .ref (ad (10, 0, 0)))]) hx hb dX0_snoop_69 hl rfl rfl (by decide) rfl (fun ls hl => ?_)
          refine lv_goto (pc := 72) (tgt := 22) hx hb dX0_snoop_72 (by decide) ?_
          exact ih sg (v1 + 1) _ (by rw [← hs0, ms_X0_snoop_L22, if_neg h2, if_neg h7, if_pos h8]) hg ls _ _ (lv_sub hl [2, 0] rfl) hH hS
        · have hg := hg.2 h8
          refine lv_aload_n (pc := 64) hx hb dX0_snoop_64 rfl (lv_at hl 1 rfl) ?_
          refine lv_aload_n (pc := 65) hx hb dX0_snoop_65 rfl (lv_at hl 0 rfl) ?_
          obtain ⟨o9, hg⟩ := hg
          refine wk_cv (wk_rV (pc := 66) (As := [.ref (ad (8, (Int32.toNatClampNeg v1), (Int32.toNatClampNeg (mr_X1_indexFor P sg (Int32.toNatClampNeg v1) (sg (10, 0, 0) 8)))))]) (rest := []) X hH hS hz (sc_10 hSh) rfl ok_X0_lookOn (mk_X0_lookOn (l := l) (P := P) hSh sg (Int32.toNatClampNeg v1) (Int32.toNatClampNeg (mr_X1_indexFor P sg (Int32.toNatClampNeg v1) (sg (10, 0, 0) 8))) b4 b6 o9) ml_X0_120 ⟨by decide, by decide, by decide, by decide⟩ rfl hl.1 rfl (Nat.le_of_ble_eq_true rfl) dX0_snoop_66) hS (fun H locs hH hS => ?_)
          refine lv_iinc (pc := 69) (k := 2) (v := (v1 + 1)) (lv' := [(1, .int (v1 + 1)), (2, .ref (ad (8, (Int32.toNatClampNeg v1), (Int32.toNatClampNeg (mr_X1_indexFor P sg (Int32.toNatClampNeg v1) (sg (10, 0, 0) 8)))))), (0, .ref (ad (10, 0, 0)))]) hx hb dX0_snoop_69 hl rfl rfl (by decide) rfl (fun ls hl => ?_)
          refine lv_goto (pc := 72) (tgt := 22) hx hb dX0_snoop_72 (by decide) ?_
          exact ih (ms_X0_lookOn P sg (Int32.toNatClampNeg v1) (Int32.toNatClampNeg (mr_X1_indexFor P sg (Int32.toNatClampNeg v1) (sg (10, 0, 0) 8)))) (v1 + 1) _ (by rw [← hs0, ms_X0_snoop_L22, if_neg h2, if_neg h7, if_neg h8]) hg ls _ _ (lv_sub hl [2, 0] rfl) hH hS
def ms_X0_snoop (P : Nat → Nat) (sg : wk_Sg)  : wk_Sg := (ms_X0_snoop_L22 5 P (wk_up (ms_X2_readLine P sg (sg (10, 0, 0) 8)) (10, 0, 0) 4 0)  0)
def mg_X0_snoop (P : Nat → Nat) (sg : wk_Sg)  : Prop := (mg_X2_readLine P sg (sg (10, 0, 0) 8) ∧ mg_X0_snoop_L22 5 P (wk_up (ms_X2_readLine P sg (sg (10, 0, 0) 8)) (10, 0, 0) 4 0)  0)
set_option maxHeartbeats 4000000 in
set_option maxRecDepth 100000 in
theorem mk_X0_snoop {l : Launch} {D : va_G} {T : wk_T} {z0 : Nat} {ad : wk_K3 → Nat} {sh : wk_Sh} {P : Nat → Nat} (hSh : sc_Sh T P sh) (sg : wk_Sg)   (hg : mg_X0_snoop P sg ) : wk_Mv l yX0_snoop cX0_snoop 3 none 3 68 D T z0 ad sh [.ref (ad (10, 0, 0))] sg (ms_X0_snoop P sg ) := by
  refine Met.ofW (cc := cX0_snoop) (maxL := 3) (ret := none) (by decide) rfl ?_
  intro p e s m args below meth c s₁ B hml hv
  obtain ⟨rfl, hz, hH, hK⟩ := hv
  have hx := B.exec
  have hb := B.bytes
  have hr := B.returns
  have hlocks := B.notSynchronized
  have hts : ∀ w ∈ wk_B, w.before _ s = true := fun w hw => atoms_spec (ws := Cond.code yX0_snoop cX0_snoop 3 none :: wk_B) B.pre w (List.mem_cons_of_mem _ hw)
  have X : wk_C p m c cX0_snoop 3 s _ RX0 D T := ⟨⟨hx, hb, hml, findClass_of_methodNamed B.named, hts⟩, hK⟩
  have hS : va_S (wk_A z0) s.heap s.heap [] := va_S.rf
  have hl := lv_entry ([.ref (ad (10, 0, 0))]) (n := 3) (Nat.le_of_ble_eq_true rfl)
  rw [lg_entry_eq]
  generalize (lg_sl ([.ref (ad (10, 0, 0))]) ++ List.replicate (3 - (lg_sl ([.ref (ad (10, 0, 0))])).length) Slot.unset).toArray = ls at hl ⊢
  have hl : lv_has ls 3 [(0, .ref (ad (10, 0, 0)))] := hl
  unfold mg_X0_snoop at hg
  refine lv_aload_n (pc := 0) hx hb dX0_snoop_0 rfl (lv_at hl 0 rfl) ?_
  refine wk_getr (pc := 1) X hH (10, 0, 0) 1 (1, 0, 0) (sc_10 hSh) rfl (by decide) rfl inX0 fl_X0_36 dX0_snoop_1 ?_
  refine lv_aload_n (pc := 4) hx hb dX0_snoop_4 rfl (lv_at hl 0 rfl) ?_
  refine wk_geti (pc := 5) X hH (10, 0, 0) 8 (sc_10 hSh) rfl (by decide) rfl inX0 fl_X0_29 dX0_snoop_5 ?_
  refine lv_aload_n (pc := 8) hx hb dX0_snoop_8 rfl (lv_at hl 0 rfl) ?_
  refine wk_getr (pc := 9) X hH (10, 0, 0) 3 (12, 0, 0) (sc_10 hSh) rfl (by decide) rfl inX0 fl_X0_45 dX0_snoop_9 ?_
  obtain ⟨o1, hg⟩ := hg
  refine wk_cv (wk_rV (pc := 12) (As := [.int (sg (10, 0, 0) 8), .ref (ad (12, 0, 0))]) (rest := []) X hH hS hz (sc_1 hSh) rfl ok_X2_readLine (mk_X2_readLine (l := l) (P := P) hSh sg (sg (10, 0, 0) 8)  o1) ml_X0_116 ⟨by decide, by decide, by decide, by decide⟩ rfl hl.1 rfl (Nat.le_of_ble_eq_true rfl) dX0_snoop_12) hS (fun H locs hH hS => ?_)
  refine lv_aload_n (pc := 15) hx hb dX0_snoop_15 rfl (lv_at hl 0 rfl) ?_
  refine lv_iconst (pc := 16) (v := 0) hx hb dX0_snoop_16 (by decide) ?_
  refine wk_puti (pc := 17) X hH hS (10, 0, 0) 4 tyX0_ok nmX0 (sc_10 hSh) rfl (by decide) rfl inX0 fl_X0_15 rfl rfl rfl dX0_snoop_17 (fun H locs hH hS => ?_)
  refine lv_iconst (pc := 20) (v := 0) hx hb dX0_snoop_20 (by decide) ?_
  refine lv_istore_n (pc := 21) (lv' := [(1, .int 0), (0, .ref (ad (10, 0, 0)))]) hx hb dX0_snoop_21 rfl hl (by decide) rfl (fun ls hl => ?_)
  exact mk_X0_snoop_L22 (P := P) hSh   X hz hr hlocks 5 (wk_up (ms_X2_readLine P sg (sg (10, 0, 0) 8)) (10, 0, 0) 4 0) 0 _ (by rw [ms_X0_snoop]) hg ls _ _ (lv_sub hl [1, 0] rfl) hH hS

def ms_X3_take (P : Nat → Nat) (sg : wk_Sg) (i : Nat) (j : Nat) (a1 : Int32) : wk_Sg := (wk_su (wk_up sg (8, i, j) 2 a1) (9, i, j) (va_cpy ((wk_up sg (8, i, j) 2 a1) (12, 0, 0)) ((wk_up sg (8, i, j) 2 a1) (9, i, j)) (Int32.toNatClampNeg 0) (Int32.toNatClampNeg 0) (Int32.toNatClampNeg (nI (P 2)))))
def mg_X3_take (P : Nat → Nat) (sg : wk_Sg) (i : Nat) (j : Nat) (a1 : Int32) : Prop := (wk_cp 0 0 (nI (P 2)) (P 2) (P 2) ∧ True)
set_option maxHeartbeats 4000000 in
set_option maxRecDepth 100000 in
theorem mk_X3_take {l : Launch} {D : va_G} {T : wk_T} {z0 : Nat} {ad : wk_K3 → Nat} {sh : wk_Sh} {P : Nat → Nat} (hSh : sc_Sh T P sh) (sg : wk_Sg) (i : Nat) (j : Nat) (a1 : Int32) (hi : i < P 0) (hj : j < P 1) (hg : mg_X3_take P sg i j a1) : wk_Mv l yX3_take cX3_take 3 none 1 26 D T z0 ad sh [.ref (ad (8, i, j)), .int a1, .ref (ad (12, 0, 0))] sg (ms_X3_take P sg i j a1) := by
  refine Met.ofW (cc := cX3_take) (maxL := 3) (ret := none) (by decide) rfl ?_
  intro p e s m args below meth c s₁ B hml hv
  obtain ⟨rfl, hz, hH, hK⟩ := hv
  have hx := B.exec
  have hb := B.bytes
  have hr := B.returns
  have hlocks := B.notSynchronized
  have hts : ∀ w ∈ wk_B, w.before _ s = true := fun w hw => atoms_spec (ws := Cond.code yX3_take cX3_take 3 none :: wk_B) B.pre w (List.mem_cons_of_mem _ hw)
  have X : wk_C p m c cX3_take 3 s _ RX3 D T := ⟨⟨hx, hb, hml, findClass_of_methodNamed B.named, hts⟩, hK⟩
  have hS : va_S (wk_A z0) s.heap s.heap [] := va_S.rf
  have hl := lv_entry ([.ref (ad (8, i, j)), .int a1, .ref (ad (12, 0, 0))]) (n := 3) (Nat.le_of_ble_eq_true rfl)
  rw [lg_entry_eq]
  generalize (lg_sl ([.ref (ad (8, i, j)), .int a1, .ref (ad (12, 0, 0))]) ++ List.replicate (3 - (lg_sl ([.ref (ad (8, i, j)), .int a1, .ref (ad (12, 0, 0))])).length) Slot.unset).toArray = ls at hl ⊢
  have hl : lv_has ls 3 [(0, .ref (ad (8, i, j))), (1, .int a1), (2, .ref (ad (12, 0, 0)))] := hl
  unfold mg_X3_take at hg
  refine lv_aload_n (pc := 0) hx hb dX3_take_0 rfl (lv_at hl 0 rfl) ?_
  refine lv_iload_n (pc := 1) hx hb dX3_take_1 rfl (lv_at hl 1 rfl) ?_
  refine wk_puti (pc := 2) X hH hS (8, i, j) 2 tyX3_ok nmX3 (sc_8 hSh hi hj) rfl (by decide) rfl inX3 fl_X3_15 rfl rfl rfl dX3_take_2 (fun H locs hH hS => ?_)
  refine lv_aload_n (pc := 5) hx hb dX3_take_5 rfl (lv_at hl 2 rfl) ?_
  refine lv_iconst (pc := 6) (v := 0) hx hb dX3_take_6 (by decide) ?_
  refine lv_aload_n (pc := 7) hx hb dX3_take_7 rfl (lv_at hl 0 rfl) ?_
  refine wk_getr (pc := 8) X hH (8, i, j) 0 (9, i, j) (sc_8 hSh hi hj) rfl (by decide) rfl inX3 fl_X3_18 dX3_take_8 ?_
  refine lv_iconst (pc := 11) (v := 0) hx hb dX3_take_11 (by decide) ?_
  refine lv_aload_n (pc := 12) hx hb dX3_take_12 rfl (lv_at hl 0 rfl) ?_
  refine wk_getr (pc := 13) X hH (8, i, j) 0 (9, i, j) (sc_8 hSh hi hj) rfl (by decide) rfl inX3 fl_X3_18 dX3_take_13 ?_
  refine wk_alenI (pc := 16) X hH (9, i, j) (sc_9 hSh hi hj) dX3_take_16 ?_
  obtain ⟨o1, hg⟩ := hg
  refine wk_copy (pc := 17) (rest := []) X hl.1 hH hS ml_X3_22 ok_arraycopy (12, 0, 0) (9, i, j) (sc_12 hSh) (sc_9 hSh hi hj) o1 ⟨by decide, Nat.le_of_ble_eq_true rfl⟩ dX3_take_17 (fun H locs hH hS => ?_)
  exact wk_vret (pc := 20) X hH hS hr hlocks (by rw [ms_X3_take]) dX3_take_20

def ms_X0_supply (P : Nat → Nat) (sg : wk_Sg) (i1 : Nat) : wk_Sg := (if (mr_X3_holds P sg i1 (Int32.toNatClampNeg (mr_X1_indexFor P sg i1 (sg (10, 0, 0) 8))) (sg (10, 0, 0) 8)) = 0 then (if ((ms_X3_take P sg i1 (Int32.toNatClampNeg (mr_X1_indexFor P sg i1 (sg (10, 0, 0) 8))) (sg (10, 0, 0) 8)) (10, 0, 0) 7) = 2 then (wk_up (wk_up (ms_X3_take P sg i1 (Int32.toNatClampNeg (mr_X1_indexFor P sg i1 (sg (10, 0, 0) 8))) (sg (10, 0, 0) 8)) (8, i1, (Int32.toNatClampNeg (mr_X1_indexFor P sg i1 (sg (10, 0, 0) 8)))) 1 4) (4, i1, 0) 6 0) else (if ((ms_X3_take P sg i1 (Int32.toNatClampNeg (mr_X1_indexFor P sg i1 (sg (10, 0, 0) 8))) (sg (10, 0, 0) 8)) (10, 0, 0) 4) = 0 then (wk_up (wk_up (ms_X3_take P sg i1 (Int32.toNatClampNeg (mr_X1_indexFor P sg i1 (sg (10, 0, 0) 8))) (sg (10, 0, 0) 8)) (8, i1, (Int32.toNatClampNeg (mr_X1_indexFor P sg i1 (sg (10, 0, 0) 8)))) 1 2) (4, i1, 0) 6 0) else (wk_up (wk_up (ms_X3_take P sg i1 (Int32.toNatClampNeg (mr_X1_indexFor P sg i1 (sg (10, 0, 0) 8))) (sg (10, 0, 0) 8)) (8, i1, (Int32.toNatClampNeg (mr_X1_indexFor P sg i1 (sg (10, 0, 0) 8)))) 1 1) (4, i1, 0) 6 0))) else (if (sg (10, 0, 0) 7) = 2 then (wk_up (wk_up sg (8, i1, (Int32.toNatClampNeg (mr_X1_indexFor P sg i1 (sg (10, 0, 0) 8)))) 1 4) (4, i1, 0) 6 0) else (if (sg (10, 0, 0) 4) = 0 then (wk_up (wk_up sg (8, i1, (Int32.toNatClampNeg (mr_X1_indexFor P sg i1 (sg (10, 0, 0) 8)))) 1 2) (4, i1, 0) 6 0) else (wk_up (wk_up sg (8, i1, (Int32.toNatClampNeg (mr_X1_indexFor P sg i1 (sg (10, 0, 0) 8)))) 1 1) (4, i1, 0) 6 0))))
def mg_X0_supply (P : Nat → Nat) (sg : wk_Sg) (i1 : Nat) : Prop := (mg_X1_slotFor P sg i1 (sg (10, 0, 0) 8) ∧ (((mr_X3_holds P sg i1 (Int32.toNatClampNeg (mr_X1_indexFor P sg i1 (sg (10, 0, 0) 8))) (sg (10, 0, 0) 8)) = 0 → (mg_X3_take P sg i1 (Int32.toNatClampNeg (mr_X1_indexFor P sg i1 (sg (10, 0, 0) 8))) (sg (10, 0, 0) 8) ∧ ((((ms_X3_take P sg i1 (Int32.toNatClampNeg (mr_X1_indexFor P sg i1 (sg (10, 0, 0) 8))) (sg (10, 0, 0) 8)) (10, 0, 0) 7) = 2 → True) ∧ (¬ ((ms_X3_take P sg i1 (Int32.toNatClampNeg (mr_X1_indexFor P sg i1 (sg (10, 0, 0) 8))) (sg (10, 0, 0) 8)) (10, 0, 0) 7) = 2 → ((((ms_X3_take P sg i1 (Int32.toNatClampNeg (mr_X1_indexFor P sg i1 (sg (10, 0, 0) 8))) (sg (10, 0, 0) 8)) (10, 0, 0) 4) = 0 → True) ∧ (¬ ((ms_X3_take P sg i1 (Int32.toNatClampNeg (mr_X1_indexFor P sg i1 (sg (10, 0, 0) 8))) (sg (10, 0, 0) 8)) (10, 0, 0) 4) = 0 → True)))))) ∧ (¬ (mr_X3_holds P sg i1 (Int32.toNatClampNeg (mr_X1_indexFor P sg i1 (sg (10, 0, 0) 8))) (sg (10, 0, 0) 8)) = 0 → (((sg (10, 0, 0) 7) = 2 → True) ∧ (¬ (sg (10, 0, 0) 7) = 2 → (((sg (10, 0, 0) 4) = 0 → True) ∧ (¬ (sg (10, 0, 0) 4) = 0 → True)))))))
set_option maxHeartbeats 4000000 in
set_option maxRecDepth 100000 in
theorem mk_X0_supply {l : Launch} {D : va_G} {T : wk_T} {z0 : Nat} {ad : wk_K3 → Nat} {sh : wk_Sh} {P : Nat → Nat} (hSh : sc_Sh T P sh) (sg : wk_Sg) (i1 : Nat) (hi1 : i1 < P 0) (hg : mg_X0_supply P sg i1) : wk_Mv l yX0_supply cX0_supply 3 none 2 48 D T z0 ad sh [.ref (ad (10, 0, 0)), .ref (ad (4, i1, 0))] sg (ms_X0_supply P sg i1) := by
  refine Met.ofW (cc := cX0_supply) (maxL := 3) (ret := none) (by decide) rfl ?_
  intro p e s m args below meth c s₁ B hml hv
  obtain ⟨rfl, hz, hH, hK⟩ := hv
  have hx := B.exec
  have hb := B.bytes
  have hr := B.returns
  have hlocks := B.notSynchronized
  have hts : ∀ w ∈ wk_B, w.before _ s = true := fun w hw => atoms_spec (ws := Cond.code yX0_supply cX0_supply 3 none :: wk_B) B.pre w (List.mem_cons_of_mem _ hw)
  have X : wk_C p m c cX0_supply 3 s _ RX0 D T := ⟨⟨hx, hb, hml, findClass_of_methodNamed B.named, hts⟩, hK⟩
  have hS : va_S (wk_A z0) s.heap s.heap [] := va_S.rf
  have hl := lv_entry ([.ref (ad (10, 0, 0)), .ref (ad (4, i1, 0))]) (n := 3) (Nat.le_of_ble_eq_true rfl)
  rw [lg_entry_eq]
  generalize (lg_sl ([.ref (ad (10, 0, 0)), .ref (ad (4, i1, 0))]) ++ List.replicate (3 - (lg_sl ([.ref (ad (10, 0, 0)), .ref (ad (4, i1, 0))])).length) Slot.unset).toArray = ls at hl ⊢
  have hl : lv_has ls 3 [(0, .ref (ad (10, 0, 0))), (1, .ref (ad (4, i1, 0)))] := hl
  unfold mg_X0_supply at hg
  refine lv_aload_n (pc := 0) hx hb dX0_supply_0 rfl (lv_at hl 1 rfl) ?_
  refine lv_aload_n (pc := 1) hx hb dX0_supply_1 rfl (lv_at hl 0 rfl) ?_
  refine wk_geti (pc := 2) X hH (10, 0, 0) 8 (sc_10 hSh) rfl (by decide) rfl inX0 fl_X0_29 dX0_supply_2 ?_
  obtain ⟨o1, hg⟩ := hg
  refine wk_cr (wk_rV (pc := 5) (As := [.int (sg (10, 0, 0) 8)]) (rest := []) X hH hS hz (sc_4 hSh hi1) rfl ok_X1_slotFor (mk_X1_slotFor (l := l) (P := P) hSh sg i1 (sg (10, 0, 0) 8) hi1 o1) ml_X0_80 ⟨by decide, by decide, by decide, by decide⟩ rfl hl.1 rfl (Nat.le_of_ble_eq_true rfl) dX0_supply_5) hS (fun H locs hH hS => ?_)
  have b2 := mb_X1_slotFor P sg i1 (sg (10, 0, 0) 8) o1
  refine lv_astore_n (pc := 8) (lv' := [(2, .ref (ad (8, i1, (Int32.toNatClampNeg (mr_X1_indexFor P sg i1 (sg (10, 0, 0) 8)))))), (0, .ref (ad (10, 0, 0))), (1, .ref (ad (4, i1, 0)))]) hx hb dX0_supply_8 rfl hl (by decide) rfl (fun ls hl => ?_)
  refine lv_aload_n (pc := 9) hx hb dX0_supply_9 rfl (lv_at hl 0 rfl) ?_
  refine lv_aload_n (pc := 10) hx hb dX0_supply_10 rfl (lv_at hl 1 rfl) ?_
  refine wk_geti (pc := 11) X hH (10, 0, 0) 8 (sc_10 hSh) rfl (by decide) rfl inX0 fl_X0_29 dX0_supply_11 ?_
  refine wk_ci (wk_rV (pc := 14) (As := [.int (sg (10, 0, 0) 8)]) (rest := []) X hH hS hz (sc_8 hSh hi1 b2) rfl ok_X3_holds (mk_X3_holds (l := l) (P := P) hSh sg i1 (Int32.toNatClampNeg (mr_X1_indexFor P sg i1 (sg (10, 0, 0) 8))) (sg (10, 0, 0) 8) hi1 b2 ) ml_X0_54 ⟨by decide, by decide, by decide, by decide⟩ rfl hl.1 rfl (Nat.le_of_ble_eq_true rfl) dX0_supply_14) hS (fun H locs hH hS => ?_)
  refine lv_if_ne (pc := 17) (tgt := 32) hx hb dX0_supply_17 (by decide) (fun h3 => ?_) (fun h3 => ?_)
  · have hg := hg.2 h3
    refine lv_aload_n (pc := 32) hx hb dX0_supply_32 rfl (lv_at hl 1 rfl) ?_
    refine wk_geti (pc := 33) X hH (10, 0, 0) 7 (sc_10 hSh) rfl (by decide) rfl inX0 fl_X0_26 dX0_supply_33 ?_
    refine lv_iconst (pc := 36) (v := 2) hx hb dX0_supply_36 (by decide) ?_
    refine lv_icmp_ne (pc := 37) (tgt := 48) hx hb dX0_supply_37 (by decide) (fun h4 => ?_) (fun h4 => ?_)
    · have hg := hg.2 h4
      refine lv_aload_n (pc := 48) hx hb dX0_supply_48 rfl (lv_at hl 0 rfl) ?_
      refine lv_aload_n (pc := 49) hx hb dX0_supply_49 rfl (lv_at hl 1 rfl) ?_
      refine wk_geti (pc := 50) X hH (10, 0, 0) 4 (sc_10 hSh) rfl (by decide) rfl inX0 fl_X0_15 dX0_supply_50 ?_
      refine lv_if_eq (pc := 53) (tgt := 60) hx hb dX0_supply_53 (by decide) (fun h5 => ?_) (fun h5 => ?_)
      · have hg := hg.1 h5
        refine lv_iconst (pc := 60) (v := 2) hx hb dX0_supply_60 (by decide) ?_
        refine wk_puti (pc := 61) X hH hS (8, i1, (Int32.toNatClampNeg (mr_X1_indexFor P sg i1 (sg (10, 0, 0) 8)))) 1 tyX3_ok nmX3 (sc_8 hSh hi1 b2) rfl (by decide) rfl inX3 fl_X0_138 rfl rfl rfl dX0_supply_61 (fun H locs hH hS => ?_)
        refine lv_aload_n (pc := 64) hx hb dX0_supply_64 rfl (lv_at hl 2 rfl) ?_
        refine lv_iconst (pc := 65) (v := 0) hx hb dX0_supply_65 (by decide) ?_
        refine wk_puti (pc := 66) X hH hS (4, i1, 0) 6 tyX1_ok nmX1 (sc_4 hSh hi1) rfl (by decide) rfl inX1 fl_X0_141 rfl rfl rfl dX0_supply_66 (fun H locs hH hS => ?_)
        exact wk_vret (pc := 69) X hH hS hr hlocks (by rw [ms_X0_supply, if_neg h3, if_neg h4, if_pos h5]) dX0_supply_69
      · have hg := hg.2 h5
        refine lv_iconst (pc := 56) (v := 1) hx hb dX0_supply_56 (by decide) ?_
        refine lv_goto (pc := 57) (tgt := 61) hx hb dX0_supply_57 (by decide) ?_
        refine wk_puti (pc := 61) X hH hS (8, i1, (Int32.toNatClampNeg (mr_X1_indexFor P sg i1 (sg (10, 0, 0) 8)))) 1 tyX3_ok nmX3 (sc_8 hSh hi1 b2) rfl (by decide) rfl inX3 fl_X0_138 rfl rfl rfl dX0_supply_61 (fun H locs hH hS => ?_)
        refine lv_aload_n (pc := 64) hx hb dX0_supply_64 rfl (lv_at hl 2 rfl) ?_
        refine lv_iconst (pc := 65) (v := 0) hx hb dX0_supply_65 (by decide) ?_
        refine wk_puti (pc := 66) X hH hS (4, i1, 0) 6 tyX1_ok nmX1 (sc_4 hSh hi1) rfl (by decide) rfl inX1 fl_X0_141 rfl rfl rfl dX0_supply_66 (fun H locs hH hS => ?_)
        exact wk_vret (pc := 69) X hH hS hr hlocks (by rw [ms_X0_supply, if_neg h3, if_neg h4, if_neg h5]) dX0_supply_69
    · have hg := hg.1 h4
      refine lv_aload_n (pc := 40) hx hb dX0_supply_40 rfl (lv_at hl 0 rfl) ?_
      refine lv_iconst (pc := 41) (v := 4) hx hb dX0_supply_41 (by decide) ?_
      refine wk_puti (pc := 42) X hH hS (8, i1, (Int32.toNatClampNeg (mr_X1_indexFor P sg i1 (sg (10, 0, 0) 8)))) 1 tyX3_ok nmX3 (sc_8 hSh hi1 b2) rfl (by decide) rfl inX3 fl_X0_138 rfl rfl rfl dX0_supply_42 (fun H locs hH hS => ?_)
      refine lv_goto (pc := 45) (tgt := 64) hx hb dX0_supply_45 (by decide) ?_
      refine lv_aload_n (pc := 64) hx hb dX0_supply_64 rfl (lv_at hl 2 rfl) ?_
      refine lv_iconst (pc := 65) (v := 0) hx hb dX0_supply_65 (by decide) ?_
      refine wk_puti (pc := 66) X hH hS (4, i1, 0) 6 tyX1_ok nmX1 (sc_4 hSh hi1) rfl (by decide) rfl inX1 fl_X0_141 rfl rfl rfl dX0_supply_66 (fun H locs hH hS => ?_)
      exact wk_vret (pc := 69) X hH hS hr hlocks (by rw [ms_X0_supply, if_neg h3, if_pos h4]) dX0_supply_69
  · have hg := hg.1 h3
    refine lv_aload_n (pc := 20) hx hb dX0_supply_20 rfl (lv_at hl 0 rfl) ?_
    refine lv_aload_n (pc := 21) hx hb dX0_supply_21 rfl (lv_at hl 1 rfl) ?_
    refine wk_geti (pc := 22) X hH (10, 0, 0) 8 (sc_10 hSh) rfl (by decide) rfl inX0 fl_X0_29 dX0_supply_22 ?_
    refine lv_aload_n (pc := 25) hx hb dX0_supply_25 rfl (lv_at hl 1 rfl) ?_
    refine wk_getr (pc := 26) X hH (10, 0, 0) 3 (12, 0, 0) (sc_10 hSh) rfl (by decide) rfl inX0 fl_X0_45 dX0_supply_26 ?_
    obtain ⟨o6, hg⟩ := hg
    refine wk_cv (wk_rV (pc := 29) (As := [.int (sg (10, 0, 0) 8), .ref (ad (12, 0, 0))]) (rest := []) X hH hS hz (sc_8 hSh hi1 b2) rfl ok_X3_take (mk_X3_take (l := l) (P := P) hSh sg i1 (Int32.toNatClampNeg (mr_X1_indexFor P sg i1 (sg (10, 0, 0) 8))) (sg (10, 0, 0) 8) hi1 b2 o6) ml_X0_135 ⟨by decide, by decide, by decide, by decide⟩ rfl hl.1 rfl (Nat.le_of_ble_eq_true rfl) dX0_supply_29) hS (fun H locs hH hS => ?_)
    refine lv_aload_n (pc := 32) hx hb dX0_supply_32 rfl (lv_at hl 1 rfl) ?_
    refine wk_geti (pc := 33) X hH (10, 0, 0) 7 (sc_10 hSh) rfl (by decide) rfl inX0 fl_X0_26 dX0_supply_33 ?_
    refine lv_iconst (pc := 36) (v := 2) hx hb dX0_supply_36 (by decide) ?_
    refine lv_icmp_ne (pc := 37) (tgt := 48) hx hb dX0_supply_37 (by decide) (fun h7 => ?_) (fun h7 => ?_)
    · have hg := hg.2 h7
      refine lv_aload_n (pc := 48) hx hb dX0_supply_48 rfl (lv_at hl 0 rfl) ?_
      refine lv_aload_n (pc := 49) hx hb dX0_supply_49 rfl (lv_at hl 1 rfl) ?_
      refine wk_geti (pc := 50) X hH (10, 0, 0) 4 (sc_10 hSh) rfl (by decide) rfl inX0 fl_X0_15 dX0_supply_50 ?_
      refine lv_if_eq (pc := 53) (tgt := 60) hx hb dX0_supply_53 (by decide) (fun h8 => ?_) (fun h8 => ?_)
      · have hg := hg.1 h8
        refine lv_iconst (pc := 60) (v := 2) hx hb dX0_supply_60 (by decide) ?_
        refine wk_puti (pc := 61) X hH hS (8, i1, (Int32.toNatClampNeg (mr_X1_indexFor P sg i1 (sg (10, 0, 0) 8)))) 1 tyX3_ok nmX3 (sc_8 hSh hi1 b2) rfl (by decide) rfl inX3 fl_X0_138 rfl rfl rfl dX0_supply_61 (fun H locs hH hS => ?_)
        refine lv_aload_n (pc := 64) hx hb dX0_supply_64 rfl (lv_at hl 2 rfl) ?_
        refine lv_iconst (pc := 65) (v := 0) hx hb dX0_supply_65 (by decide) ?_
        refine wk_puti (pc := 66) X hH hS (4, i1, 0) 6 tyX1_ok nmX1 (sc_4 hSh hi1) rfl (by decide) rfl inX1 fl_X0_141 rfl rfl rfl dX0_supply_66 (fun H locs hH hS => ?_)
        exact wk_vret (pc := 69) X hH hS hr hlocks (by rw [ms_X0_supply, if_pos h3, if_neg h7, if_pos h8]) dX0_supply_69
      · have hg := hg.2 h8
        refine lv_iconst (pc := 56) (v := 1) hx hb dX0_supply_56 (by decide) ?_
        refine lv_goto (pc := 57) (tgt := 61) hx hb dX0_supply_57 (by decide) ?_
        refine wk_puti (pc := 61) X hH hS (8, i1, (Int32.toNatClampNeg (mr_X1_indexFor P sg i1 (sg (10, 0, 0) 8)))) 1 tyX3_ok nmX3 (sc_8 hSh hi1 b2) rfl (by decide) rfl inX3 fl_X0_138 rfl rfl rfl dX0_supply_61 (fun H locs hH hS => ?_)
        refine lv_aload_n (pc := 64) hx hb dX0_supply_64 rfl (lv_at hl 2 rfl) ?_
        refine lv_iconst (pc := 65) (v := 0) hx hb dX0_supply_65 (by decide) ?_
        refine wk_puti (pc := 66) X hH hS (4, i1, 0) 6 tyX1_ok nmX1 (sc_4 hSh hi1) rfl (by decide) rfl inX1 fl_X0_141 rfl rfl rfl dX0_supply_66 (fun H locs hH hS => ?_)
        exact wk_vret (pc := 69) X hH hS hr hlocks (by rw [ms_X0_supply, if_pos h3, if_neg h7, if_neg h8]) dX0_supply_69
    · have hg := hg.1 h7
      refine lv_aload_n (pc := 40) hx hb dX0_supply_40 rfl (lv_at hl 0 rfl) ?_
      refine lv_iconst (pc := 41) (v := 4) hx hb dX0_supply_41 (by decide) ?_
      refine wk_puti (pc := 42) X hH hS (8, i1, (Int32.toNatClampNeg (mr_X1_indexFor P sg i1 (sg (10, 0, 0) 8)))) 1 tyX3_ok nmX3 (sc_8 hSh hi1 b2) rfl (by decide) rfl inX3 fl_X0_138 rfl rfl rfl dX0_supply_42 (fun H locs hH hS => ?_)
      refine lv_goto (pc := 45) (tgt := 64) hx hb dX0_supply_45 (by decide) ?_
      refine lv_aload_n (pc := 64) hx hb dX0_supply_64 rfl (lv_at hl 2 rfl) ?_
      refine lv_iconst (pc := 65) (v := 0) hx hb dX0_supply_65 (by decide) ?_
      refine wk_puti (pc := 66) X hH hS (4, i1, 0) 6 tyX1_ok nmX1 (sc_4 hSh hi1) rfl (by decide) rfl inX1 fl_X0_141 rfl rfl rfl dX0_supply_66 (fun H locs hH hS => ?_)
      exact wk_vret (pc := 69) X hH hS hr hlocks (by rw [ms_X0_supply, if_pos h3, if_pos h7]) dX0_supply_69

def ms_X0_end (P : Nat → Nat) (sg : wk_Sg)  : wk_Sg := (wk_up (wk_up (wk_up (wk_up sg (10, 0, 0) 5 0) (10, 0, 0) 6 (-1)) (10, 0, 0) 7 0) (10, 0, 0) 8 (-1))
set_option maxHeartbeats 4000000 in
set_option maxRecDepth 100000 in
theorem mk_X0_end {l : Launch} {D : va_G} {T : wk_T} {z0 : Nat} {ad : wk_K3 → Nat} {sh : wk_Sh} {P : Nat → Nat} (hSh : sc_Sh T P sh) (sg : wk_Sg)    : wk_Mv l yX0_end cX0_end 1 none 0 0 D T z0 ad sh [.ref (ad (10, 0, 0))] sg (ms_X0_end P sg ) := by
  refine Met.ofW (cc := cX0_end) (maxL := 1) (ret := none) (by decide) rfl ?_
  intro p e s m args below meth c s₁ B hml hv
  obtain ⟨rfl, hz, hH, hK⟩ := hv
  have hx := B.exec
  have hb := B.bytes
  have hr := B.returns
  have hlocks := B.notSynchronized
  have hts : ∀ w ∈ wk_B, w.before _ s = true := fun w hw => atoms_spec (ws := Cond.code yX0_end cX0_end 1 none :: wk_B) B.pre w (List.mem_cons_of_mem _ hw)
  have X : wk_C p m c cX0_end 1 s _ RX0 D T := ⟨⟨hx, hb, hml, findClass_of_methodNamed B.named, hts⟩, hK⟩
  have hS : va_S (wk_A z0) s.heap s.heap [] := va_S.rf
  have hl := lv_entry ([.ref (ad (10, 0, 0))]) (n := 1) (Nat.le_of_ble_eq_true rfl)
  rw [lg_entry_eq]
  generalize (lg_sl ([.ref (ad (10, 0, 0))]) ++ List.replicate (1 - (lg_sl ([.ref (ad (10, 0, 0))])).length) Slot.unset).toArray = ls at hl ⊢
  have hl : lv_has ls 1 [(0, .ref (ad (10, 0, 0)))] := hl
  refine lv_aload_n (pc := 0) hx hb dX0_end_0 rfl (lv_at hl 0 rfl) ?_
  refine lv_iconst (pc := 1) (v := 0) hx hb dX0_end_1 (by decide) ?_
  refine wk_puti (pc := 2) X hH hS (10, 0, 0) 5 tyX0_ok nmX0 (sc_10 hSh) rfl (by decide) rfl inX0 fl_X0_19 rfl rfl rfl dX0_end_2 (fun H locs hH hS => ?_)
  refine lv_aload_n (pc := 5) hx hb dX0_end_5 rfl (lv_at hl 0 rfl) ?_
  refine lv_iconst (pc := 6) (v := (-1)) hx hb dX0_end_6 (by decide) ?_
  refine wk_puti (pc := 7) X hH hS (10, 0, 0) 6 tyX0_ok nmX0 (sc_10 hSh) rfl (by decide) rfl inX0 fl_X0_23 rfl rfl rfl dX0_end_7 (fun H locs hH hS => ?_)
  refine lv_aload_n (pc := 10) hx hb dX0_end_10 rfl (lv_at hl 0 rfl) ?_
  refine lv_iconst (pc := 11) (v := 0) hx hb dX0_end_11 (by decide) ?_
  refine wk_puti (pc := 12) X hH hS (10, 0, 0) 7 tyX0_ok nmX0 (sc_10 hSh) rfl (by decide) rfl inX0 fl_X0_26 rfl rfl rfl dX0_end_12 (fun H locs hH hS => ?_)
  refine lv_aload_n (pc := 15) hx hb dX0_end_15 rfl (lv_at hl 0 rfl) ?_
  refine lv_iconst (pc := 16) (v := (-1)) hx hb dX0_end_16 (by decide) ?_
  refine wk_puti (pc := 17) X hH hS (10, 0, 0) 8 tyX0_ok nmX0 (sc_10 hSh) rfl (by decide) rfl inX0 fl_X0_29 rfl rfl rfl dX0_end_17 (fun H locs hH hS => ?_)
  exact wk_vret (pc := 20) X hH hS hr hlocks (by rw [ms_X0_end]) dX0_end_20
