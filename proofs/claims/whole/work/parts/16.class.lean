def mr_X4_cpu (P : Nat → Nat) (sg : wk_Sg) (a1 : Int32) (a2 : Int32) : Int32 := (if (mr_X4_hasCore P sg a1) = 0 then (-1) else (if a2 = 0 then (sg (4, (Int32.toNatClampNeg a1), 0) 5) else (if a2 = 1 then (sg (4, (Int32.toNatClampNeg a1), 0) 6) else (if a2 = 2 then (sg (4, (Int32.toNatClampNeg a1), 0) 7) else (if a2 = 3 then (sg (4, (Int32.toNatClampNeg a1), 0) 8) else (if a2 = 4 then (sg (4, (Int32.toNatClampNeg a1), 0) 9) else (-1)))))))
def mg_X4_cpu (P : Nat → Nat) (sg : wk_Sg) (a1 : Int32) (a2 : Int32) : Prop := (((mr_X4_hasCore P sg a1) = 0 → True) ∧ (¬ (mr_X4_hasCore P sg a1) = 0 → (vp_in a1 (P 0) ∧ ((a2 = 0 → True) ∧ (¬ a2 = 0 → ((a2 = 1 → True) ∧ (¬ a2 = 1 → ((a2 = 2 → True) ∧ (¬ a2 = 2 → ((a2 = 3 → True) ∧ (¬ a2 = 3 → ((a2 = 4 → True) ∧ (¬ a2 = 4 → True)))))))))))))
set_option maxHeartbeats 4000000 in
set_option maxRecDepth 100000 in
theorem mk_X4_cpu {l : Launch} {D : va_G} {T : wk_T} {z0 : Nat} {ad : wk_K3 → Nat} {sh : wk_Sh} {P : Nat → Nat} (hSh : sc_Sh T P sh) (sg : wk_Sg) (a1 : Int32) (a2 : Int32)  (hg : mg_X4_cpu P sg a1 a2) : wk_Mi l yX4_cpu cX4_cpu 4 (some .int) 2 42 D T z0 ad sh [.ref (ad (0, 0, 0)), .int a1, .int a2] sg (mr_X4_cpu P sg a1 a2) sg := by
  refine Met.ofW (cc := cX4_cpu) (maxL := 4) (ret := (some .int)) (by decide) rfl ?_
  intro p e s m args below meth c s₁ B hml hv
  obtain ⟨rfl, hz, hH, hK⟩ := hv
  have hx := B.exec
  have hb := B.bytes
  have hr := B.returns
  have hlocks := B.notSynchronized
  have hts : ∀ w ∈ wk_B, w.before _ s = true := fun w hw => atoms_spec (ws := Cond.code yX4_cpu cX4_cpu 4 (some .int) :: wk_B) B.pre w (List.mem_cons_of_mem _ hw)
  have X : wk_C p m c cX4_cpu 4 s _ RX4 D T := ⟨⟨hx, hb, hml, findClass_of_methodNamed B.named, hts⟩, hK⟩
  have hS : va_S (wk_A z0) s.heap s.heap [] := va_S.rf
  have hl := lv_entry ([.ref (ad (0, 0, 0)), .int a1, .int a2]) (n := 4) (Nat.le_of_ble_eq_true rfl)
  rw [lg_entry_eq]
  generalize (lg_sl ([.ref (ad (0, 0, 0)), .int a1, .int a2]) ++ List.replicate (4 - (lg_sl ([.ref (ad (0, 0, 0)), .int a1, .int a2])).length) Slot.unset).toArray = ls at hl ⊢
  have hl : lv_has ls 4 [(0, .ref (ad (0, 0, 0))), (1, .int a1), (2, .int a2)] := hl
  unfold mg_X4_cpu at hg
  refine lv_aload_n (pc := 0) hx hb dX4_cpu_0 rfl (lv_at hl 0 rfl) ?_
  refine lv_iload_n (pc := 1) hx hb dX4_cpu_1 rfl (lv_at hl 1 rfl) ?_
  refine wk_ci (wk_rV (pc := 2) (As := [.int a1]) (rest := []) X hH hS hz (sc_0 hSh) rfl ok_X4_hasCore (mk_X4_hasCore (l := l) (P := P) hSh sg a1  ) ml_X4_44 ⟨by decide, by decide, by decide, by decide⟩ rfl hl.1 rfl (Nat.le_of_ble_eq_true rfl) dX4_cpu_2) hS (fun H locs hH hS => ?_)
  refine lv_if_ne (pc := 5) (tgt := 10) hx hb dX4_cpu_5 (by decide) (fun h1 => ?_) (fun h1 => ?_)
  · have hg := hg.2 h1
    refine lv_aload_n (pc := 10) hx hb dX4_cpu_10 rfl (lv_at hl 0 rfl) ?_
    refine wk_getr (pc := 11) X hH (0, 0, 0) 1 (3, 0, 0) (sc_0 hSh) rfl (by decide) rfl inX4 fl_X4_28 dX4_cpu_11 ?_
    refine lv_iload_n (pc := 14) hx hb dX4_cpu_14 rfl (lv_at hl 1 rfl) ?_
    obtain ⟨o2, hg⟩ := hg
    have b3 := wk_inlt o2
    refine wk_aald (pc := 15) X hH (3, 0, 0) 1 (4, (Int32.toNatClampNeg a1), 0) (sc_3 hSh) rfl o2 (lk_3p b3) dX4_cpu_15 ?_
    refine lv_astore_n (pc := 16) (lv' := [(3, .ref (ad (4, (Int32.toNatClampNeg a1), 0))), (0, .ref (ad (0, 0, 0))), (1, .int a1), (2, .int a2)]) hx hb dX4_cpu_16 rfl hl (by decide) rfl (fun ls hl => ?_)
    refine lv_iload_n (pc := 17) hx hb dX4_cpu_17 rfl (lv_at hl 3 rfl) ?_
    by_cases w4 : a2 = 0
    · have hg := hg.1 w4
      refine wk_tin (pc := 18) (off := 34) (tgt := 52) X w4 dX4_cpu_18 (by decide) (by decide) (by decide) (by decide) ?_
      refine lv_aload_n (pc := 52) hx hb dX4_cpu_52 rfl (lv_at hl 0 rfl) ?_
      refine wk_geti (pc := 53) X hH (4, (Int32.toNatClampNeg a1), 0) 5 (sc_4 hSh b3) rfl (by decide) rfl inX1 fl_X4_95 dX4_cpu_53 ?_
      exact wk_iret (pc := 56) X hH hS hr hlocks (by rw [mr_X4_cpu, if_neg h1, if_pos w4]) (rfl) dX4_cpu_56
    · have hg := hg.2 w4
      by_cases w5 : a2 = 1
      · have hg := hg.1 w5
        refine wk_tin (pc := 18) (off := 39) (tgt := 57) X w5 dX4_cpu_18 (by decide) (by decide) (by decide) (by decide) ?_
        refine lv_aload_n (pc := 57) hx hb dX4_cpu_57 rfl (lv_at hl 0 rfl) ?_
        refine wk_geti (pc := 58) X hH (4, (Int32.toNatClampNeg a1), 0) 6 (sc_4 hSh b3) rfl (by decide) rfl inX1 fl_X4_65 dX4_cpu_58 ?_
        exact wk_iret (pc := 61) X hH hS hr hlocks (by rw [mr_X4_cpu, if_neg h1, if_neg w4, if_pos w5]) (rfl) dX4_cpu_61
      · have hg := hg.2 w5
        by_cases w6 : a2 = 2
        · have hg := hg.1 w6
          refine wk_tin (pc := 18) (off := 44) (tgt := 62) X w6 dX4_cpu_18 (by decide) (by decide) (by decide) (by decide) ?_
          refine lv_aload_n (pc := 62) hx hb dX4_cpu_62 rfl (lv_at hl 0 rfl) ?_
          refine wk_geti (pc := 63) X hH (4, (Int32.toNatClampNeg a1), 0) 7 (sc_4 hSh b3) rfl (by decide) rfl inX1 fl_X4_98 dX4_cpu_63 ?_
          exact wk_iret (pc := 66) X hH hS hr hlocks (by rw [mr_X4_cpu, if_neg h1, if_neg w4, if_neg w5, if_pos w6]) (rfl) dX4_cpu_66
        · have hg := hg.2 w6
          by_cases w7 : a2 = 3
          · have hg := hg.1 w7
            refine wk_tin (pc := 18) (off := 49) (tgt := 67) X w7 dX4_cpu_18 (by decide) (by decide) (by decide) (by decide) ?_
            refine lv_aload_n (pc := 67) hx hb dX4_cpu_67 rfl (lv_at hl 0 rfl) ?_
            refine wk_geti (pc := 68) X hH (4, (Int32.toNatClampNeg a1), 0) 8 (sc_4 hSh b3) rfl (by decide) rfl inX1 fl_X4_101 dX4_cpu_68 ?_
            exact wk_iret (pc := 71) X hH hS hr hlocks (by rw [mr_X4_cpu, if_neg h1, if_neg w4, if_neg w5, if_neg w6, if_pos w7]) (rfl) dX4_cpu_71
          · have hg := hg.2 w7
            by_cases w8 : a2 = 4
            · have hg := hg.1 w8
              refine wk_tin (pc := 18) (off := 54) (tgt := 72) X w8 dX4_cpu_18 (by decide) (by decide) (by decide) (by decide) ?_
              refine lv_aload_n (pc := 72) hx hb dX4_cpu_72 rfl (lv_at hl 0 rfl) ?_
              refine wk_geti (pc := 73) X hH (4, (Int32.toNatClampNeg a1), 0) 9 (sc_4 hSh b3) rfl (by decide) rfl inX1 fl_X4_104 dX4_cpu_73 ?_
              exact wk_iret (pc := 76) X hH hS hr hlocks (by rw [mr_X4_cpu, if_neg h1, if_neg w4, if_neg w5, if_neg w6, if_neg w7, if_pos w8]) (rfl) dX4_cpu_76
            · have hg := hg.2 w8
              refine lv_tableOut (pc := 18) (tgt := 77) hx hb dX4_cpu_18 (wk_tout (fun v h1 h2 hv => ?_)) (by decide) ?_
              · have n0 := lv_neT w4 (show Int32.toInt 0 = 0 from by decide); have n1 := lv_neT w5 (show Int32.toInt 1 = 1 from by decide); have n2 := lv_neT w6 (show Int32.toInt 2 = 2 from by decide); have n3 := lv_neT w7 (show Int32.toInt 3 = 3 from by decide); have n4 := lv_neT w8 (show Int32.toInt 4 = 4 from by decide); omega
              refine lv_iconst (pc := 77) (v := (-1)) hx hb dX4_cpu_77 (by decide) ?_
              exact wk_iret (pc := 78) X hH hS hr hlocks (by rw [mr_X4_cpu, if_neg h1, if_neg w4, if_neg w5, if_neg w6, if_neg w7, if_neg w8]) (rfl) dX4_cpu_78
  · have hg := hg.1 h1
    refine lv_iconst (pc := 8) (v := (-1)) hx hb dX4_cpu_8 (by decide) ?_
    exact wk_iret (pc := 9) X hH hS hr hlocks (by rw [mr_X4_cpu, if_pos h1]) (rfl) dX4_cpu_9

def mr_X4_hasSlot (P : Nat → Nat) (sg : wk_Sg) (a1 : Int32) (a2 : Int32) : Int32 := (if (mr_X4_hasCore P sg a1) = 0 then 0 else (if (mr_X4_within P sg a2 (nI (P 1))) = 0 then 0 else 1))
def mg_X4_hasSlot (P : Nat → Nat) (sg : wk_Sg) (a1 : Int32) (a2 : Int32) : Prop := (((mr_X4_hasCore P sg a1) = 0 → True) ∧ (¬ (mr_X4_hasCore P sg a1) = 0 → (vp_in a1 (P 0) ∧ (((mr_X4_within P sg a2 (nI (P 1))) = 0 → True) ∧ (¬ (mr_X4_within P sg a2 (nI (P 1))) = 0 → True)))))
theorem mz_X4_hasSlot (P : Nat → Nat) (sg : wk_Sg) (a1 : Int32) (a2 : Int32) : mr_X4_hasSlot P sg a1 a2 = 0 ∨ mr_X4_hasSlot P sg a1 a2 = 1 := by
  unfold mr_X4_hasSlot
  repeat' split
  all_goals first | exact Or.inl rfl | exact Or.inr rfl | apply mz_X4_hasCore | apply mz_X4_within
set_option maxHeartbeats 4000000 in
set_option maxRecDepth 100000 in
theorem mk_X4_hasSlot {l : Launch} {D : va_G} {T : wk_T} {z0 : Nat} {ad : wk_K3 → Nat} {sh : wk_Sh} {P : Nat → Nat} (hSh : sc_Sh T P sh) (sg : wk_Sg) (a1 : Int32) (a2 : Int32)  (hg : mg_X4_hasSlot P sg a1 a2) : wk_Mi l yX4_hasSlot cX4_hasSlot 3 (some .boolean) 2 42 D T z0 ad sh [.ref (ad (0, 0, 0)), .int a1, .int a2] sg (mr_X4_hasSlot P sg a1 a2) sg := by
  refine Met.ofW (cc := cX4_hasSlot) (maxL := 3) (ret := (some .boolean)) (by decide) rfl ?_
  intro p e s m args below meth c s₁ B hml hv
  obtain ⟨rfl, hz, hH, hK⟩ := hv
  have hx := B.exec
  have hb := B.bytes
  have hr := B.returns
  have hlocks := B.notSynchronized
  have hts : ∀ w ∈ wk_B, w.before _ s = true := fun w hw => atoms_spec (ws := Cond.code yX4_hasSlot cX4_hasSlot 3 (some .boolean) :: wk_B) B.pre w (List.mem_cons_of_mem _ hw)
  have X : wk_C p m c cX4_hasSlot 3 s _ RX4 D T := ⟨⟨hx, hb, hml, findClass_of_methodNamed B.named, hts⟩, hK⟩
  have hS : va_S (wk_A z0) s.heap s.heap [] := va_S.rf
  have hl := lv_entry ([.ref (ad (0, 0, 0)), .int a1, .int a2]) (n := 3) (Nat.le_of_ble_eq_true rfl)
  rw [lg_entry_eq]
  generalize (lg_sl ([.ref (ad (0, 0, 0)), .int a1, .int a2]) ++ List.replicate (3 - (lg_sl ([.ref (ad (0, 0, 0)), .int a1, .int a2])).length) Slot.unset).toArray = ls at hl ⊢
  have hl : lv_has ls 3 [(0, .ref (ad (0, 0, 0))), (1, .int a1), (2, .int a2)] := hl
  unfold mg_X4_hasSlot at hg
  refine lv_aload_n (pc := 0) hx hb dX4_hasSlot_0 rfl (lv_at hl 0 rfl) ?_
  refine lv_iload_n (pc := 1) hx hb dX4_hasSlot_1 rfl (lv_at hl 1 rfl) ?_
  refine wk_ci (wk_rV (pc := 2) (As := [.int a1]) (rest := []) X hH hS hz (sc_0 hSh) rfl ok_X4_hasCore (mk_X4_hasCore (l := l) (P := P) hSh sg a1  ) ml_X4_44 ⟨by decide, by decide, by decide, by decide⟩ rfl hl.1 rfl (Nat.le_of_ble_eq_true rfl) dX4_hasSlot_2) hS (fun H locs hH hS => ?_)
  refine lv_if_eq (pc := 5) (tgt := 29) hx hb dX4_hasSlot_5 (by decide) (fun h1 => ?_) (fun h1 => ?_)
  · have hg := hg.1 h1
    refine lv_iconst (pc := 29) (v := 0) hx hb dX4_hasSlot_29 (by decide) ?_
    exact wk_zret (pc := 30) X hH hS hr hlocks (Or.inl rfl) (by rw [mr_X4_hasSlot, if_pos h1]) (rfl) dX4_hasSlot_30
  · have hg := hg.2 h1
    refine lv_iload_n (pc := 8) hx hb dX4_hasSlot_8 rfl (lv_at hl 2 rfl) ?_
    refine lv_aload_n (pc := 9) hx hb dX4_hasSlot_9 rfl (lv_at hl 0 rfl) ?_
    refine wk_getr (pc := 10) X hH (0, 0, 0) 1 (3, 0, 0) (sc_0 hSh) rfl (by decide) rfl inX4 fl_X4_28 dX4_hasSlot_10 ?_
    refine lv_iload_n (pc := 13) hx hb dX4_hasSlot_13 rfl (lv_at hl 1 rfl) ?_
    obtain ⟨o2, hg⟩ := hg
    have b3 := wk_inlt o2
    refine wk_aald (pc := 14) X hH (3, 0, 0) 1 (4, (Int32.toNatClampNeg a1), 0) (sc_3 hSh) rfl o2 (lk_3p b3) dX4_hasSlot_14 ?_
    refine wk_getr (pc := 15) X hH (4, (Int32.toNatClampNeg a1), 0) 4 (7, (Int32.toNatClampNeg a1), 0) (sc_4 hSh b3) rfl (by decide) rfl inX1 fl_X4_76 dX4_hasSlot_15 ?_
    refine wk_alenR (pc := 18) X hH (7, (Int32.toNatClampNeg a1), 0) 2 (sc_7 hSh b3) rfl dX4_hasSlot_18 ?_
    refine wk_ci (wk_rS (pc := 19) (As := [.int a2, .int (nI (P 1))]) (rest := []) X hH hS hz ok_X4_within (mk_X4_within (l := l) (P := P)  sg a2 (nI (P 1))  ) ml_X4_52 ⟨by decide, by decide, by decide, by decide⟩ rfl hl.1 rfl (Nat.le_of_ble_eq_true rfl) dX4_hasSlot_19) hS (fun H locs hH hS => ?_)
    refine lv_if_eq (pc := 22) (tgt := 29) hx hb dX4_hasSlot_22 (by decide) (fun h4 => ?_) (fun h4 => ?_)
    · have hg := hg.1 h4
      refine lv_iconst (pc := 29) (v := 0) hx hb dX4_hasSlot_29 (by decide) ?_
      exact wk_zret (pc := 30) X hH hS hr hlocks (Or.inl rfl) (by rw [mr_X4_hasSlot, if_neg h1, if_pos h4]) (rfl) dX4_hasSlot_30
    · have hg := hg.2 h4
      refine lv_iconst (pc := 25) (v := 1) hx hb dX4_hasSlot_25 (by decide) ?_
      refine lv_goto (pc := 26) (tgt := 30) hx hb dX4_hasSlot_26 (by decide) ?_
      exact wk_zret (pc := 30) X hH hS hr hlocks (Or.inr rfl) (by rw [mr_X4_hasSlot, if_neg h1, if_neg h4]) (rfl) dX4_hasSlot_30

def mr_X4_evict (P : Nat → Nat) (sg : wk_Sg) (a1 : Int32) (a2 : Int32) : Int32 := (if (mr_X4_hasSlot P sg a1 a2) = 0 then (-1) else (if (mr_X0_needs P sg a1 a2) = 0 then (if (sg (8, (Int32.toNatClampNeg a1), (Int32.toNatClampNeg a2)) 1) = 0 then 0 else 1) else 2))
def ms_X4_evict (P : Nat → Nat) (sg : wk_Sg) (a1 : Int32) (a2 : Int32) : wk_Sg := (if (mr_X4_hasSlot P sg a1 a2) = 0 then sg else (if (mr_X0_needs P sg a1 a2) = 0 then (if (sg (8, (Int32.toNatClampNeg a1), (Int32.toNatClampNeg a2)) 1) = 0 then sg else (ms_X2_giveUp P sg (Int32.toNatClampNeg a1) (Int32.toNatClampNeg a2))) else sg))
def mg_X4_evict (P : Nat → Nat) (sg : wk_Sg) (a1 : Int32) (a2 : Int32) : Prop := (mg_X4_hasSlot P sg a1 a2 ∧ (((mr_X4_hasSlot P sg a1 a2) = 0 → True) ∧ (¬ (mr_X4_hasSlot P sg a1 a2) = 0 → (vp_in a1 (P 0) ∧ (vp_in a2 (P 1) ∧ (mg_X0_needs P sg a1 a2 ∧ (((mr_X0_needs P sg a1 a2) = 0 → (((sg (8, (Int32.toNatClampNeg a1), (Int32.toNatClampNeg a2)) 1) = 0 → True) ∧ (¬ (sg (8, (Int32.toNatClampNeg a1), (Int32.toNatClampNeg a2)) 1) = 0 → (mg_X2_giveUp P sg (Int32.toNatClampNeg a1) (Int32.toNatClampNeg a2) ∧ True)))) ∧ (¬ (mr_X0_needs P sg a1 a2) = 0 → True))))))))
set_option maxHeartbeats 4000000 in
set_option maxRecDepth 100000 in
theorem mk_X4_evict {l : Launch} {D : va_G} {T : wk_T} {z0 : Nat} {ad : wk_K3 → Nat} {sh : wk_Sh} {P : Nat → Nat} (hSh : sc_Sh T P sh) (sg : wk_Sg) (a1 : Int32) (a2 : Int32)  (hg : mg_X4_evict P sg a1 a2) : wk_Mi l yX4_evict cX4_evict 4 (some .int) 3 64 D T z0 ad sh [.ref (ad (0, 0, 0)), .int a1, .int a2] sg (mr_X4_evict P sg a1 a2) (ms_X4_evict P sg a1 a2) := by
  refine Met.ofW (cc := cX4_evict) (maxL := 4) (ret := (some .int)) (by decide) rfl ?_
  intro p e s m args below meth c s₁ B hml hv
  obtain ⟨rfl, hz, hH, hK⟩ := hv
  have hx := B.exec
  have hb := B.bytes
  have hr := B.returns
  have hlocks := B.notSynchronized
  have hts : ∀ w ∈ wk_B, w.before _ s = true := fun w hw => atoms_spec (ws := Cond.code yX4_evict cX4_evict 4 (some .int) :: wk_B) B.pre w (List.mem_cons_of_mem _ hw)
  have X : wk_C p m c cX4_evict 4 s _ RX4 D T := ⟨⟨hx, hb, hml, findClass_of_methodNamed B.named, hts⟩, hK⟩
  have hS : va_S (wk_A z0) s.heap s.heap [] := va_S.rf
  have hl := lv_entry ([.ref (ad (0, 0, 0)), .int a1, .int a2]) (n := 4) (Nat.le_of_ble_eq_true rfl)
  rw [lg_entry_eq]
  generalize (lg_sl ([.ref (ad (0, 0, 0)), .int a1, .int a2]) ++ List.replicate (4 - (lg_sl ([.ref (ad (0, 0, 0)), .int a1, .int a2])).length) Slot.unset).toArray = ls at hl ⊢
  have hl : lv_has ls 4 [(0, .ref (ad (0, 0, 0))), (1, .int a1), (2, .int a2)] := hl
  unfold mg_X4_evict at hg
  refine lv_aload_n (pc := 0) hx hb dX4_evict_0 rfl (lv_at hl 0 rfl) ?_
  refine lv_iload_n (pc := 1) hx hb dX4_evict_1 rfl (lv_at hl 1 rfl) ?_
  refine lv_iload_n (pc := 2) hx hb dX4_evict_2 rfl (lv_at hl 2 rfl) ?_
  obtain ⟨o1, hg⟩ := hg
  refine wk_ci (wk_rV (pc := 3) (As := [.int a1, .int a2]) (rest := []) X hH hS hz (sc_0 hSh) rfl ok_X4_hasSlot (mk_X4_hasSlot (l := l) (P := P) hSh sg a1 a2  o1) ml_X4_73 ⟨by decide, by decide, by decide, by decide⟩ rfl hl.1 rfl (Nat.le_of_ble_eq_true rfl) dX4_evict_3) hS (fun H locs hH hS => ?_)
  refine lv_if_ne (pc := 6) (tgt := 11) hx hb dX4_evict_6 (by decide) (fun h2 => ?_) (fun h2 => ?_)
  · have hg := hg.2 h2
    refine lv_aload_n (pc := 11) hx hb dX4_evict_11 rfl (lv_at hl 0 rfl) ?_
    refine wk_getr (pc := 12) X hH (0, 0, 0) 1 (3, 0, 0) (sc_0 hSh) rfl (by decide) rfl inX4 fl_X4_28 dX4_evict_12 ?_
    refine lv_iload_n (pc := 15) hx hb dX4_evict_15 rfl (lv_at hl 1 rfl) ?_
    obtain ⟨o3, hg⟩ := hg
    have b4 := wk_inlt o3
    refine wk_aald (pc := 16) X hH (3, 0, 0) 1 (4, (Int32.toNatClampNeg a1), 0) (sc_3 hSh) rfl o3 (lk_3p b4) dX4_evict_16 ?_
    refine wk_getr (pc := 17) X hH (4, (Int32.toNatClampNeg a1), 0) 4 (7, (Int32.toNatClampNeg a1), 0) (sc_4 hSh b4) rfl (by decide) rfl inX1 fl_X4_76 dX4_evict_17 ?_
    refine lv_iload_n (pc := 20) hx hb dX4_evict_20 rfl (lv_at hl 2 rfl) ?_
    obtain ⟨o5, hg⟩ := hg
    have b6 := wk_inlt o5
    refine wk_aald (pc := 21) X hH (7, (Int32.toNatClampNeg a1), 0) 2 (8, (Int32.toNatClampNeg a1), (Int32.toNatClampNeg a2)) (sc_7 hSh b4) rfl o5 (lk_7p b6) dX4_evict_21 ?_
    refine lv_astore_n (pc := 22) (lv' := [(3, .ref (ad (8, (Int32.toNatClampNeg a1), (Int32.toNatClampNeg a2)))), (0, .ref (ad (0, 0, 0))), (1, .int a1), (2, .int a2)]) hx hb dX4_evict_22 rfl hl (by decide) rfl (fun ls hl => ?_)
    refine lv_aload_n (pc := 23) hx hb dX4_evict_23 rfl (lv_at hl 1 rfl) ?_
    refine wk_getr (pc := 24) X hH (0, 0, 0) 2 (10, 0, 0) (sc_0 hSh) rfl (by decide) rfl inX4 fl_X4_40 dX4_evict_24 ?_
    refine lv_iload_n (pc := 27) hx hb dX4_evict_27 rfl (lv_at hl 2 rfl) ?_
    refine lv_iload_n (pc := 28) hx hb dX4_evict_28 rfl (lv_at hl 3 rfl) ?_
    obtain ⟨o7, hg⟩ := hg
    refine wk_ci (wk_rV (pc := 29) (As := [.int a1, .int a2]) (rest := []) X hH hS hz (sc_10 hSh) rfl ok_X0_needs (mk_X0_needs (l := l) (P := P) hSh sg a1 a2  o7) ml_X4_80 ⟨by decide, by decide, by decide, by decide⟩ rfl hl.1 rfl (Nat.le_of_ble_eq_true rfl) dX4_evict_29) hS (fun H locs hH hS => ?_)
    refine lv_if_eq (pc := 32) (tgt := 37) hx hb dX4_evict_32 (by decide) (fun h8 => ?_) (fun h8 => ?_)
    · have hg := hg.1 h8
      refine lv_aload_n (pc := 37) hx hb dX4_evict_37 rfl (lv_at hl 0 rfl) ?_
      refine wk_geti (pc := 38) X hH (8, (Int32.toNatClampNeg a1), (Int32.toNatClampNeg a2)) 1 (sc_8 hSh b4 b6) rfl (by decide) rfl inX3 fl_X4_83 dX4_evict_38 ?_
      refine lv_if_ne (pc := 41) (tgt := 46) hx hb dX4_evict_41 (by decide) (fun h9 => ?_) (fun h9 => ?_)
      · have hg := hg.2 h9
        refine lv_aload_n (pc := 46) hx hb dX4_evict_46 rfl (lv_at hl 1 rfl) ?_
        refine wk_getr (pc := 47) X hH (0, 0, 0) 0 (1, 0, 0) (sc_0 hSh) rfl (by decide) rfl inX4 fl_X4_22 dX4_evict_47 ?_
        refine lv_aload_n (pc := 50) hx hb dX4_evict_50 rfl (lv_at hl 0 rfl) ?_
        obtain ⟨o10, hg⟩ := hg
        refine wk_cv (wk_rV (pc := 51) (As := [.ref (ad (8, (Int32.toNatClampNeg a1), (Int32.toNatClampNeg a2)))]) (rest := []) X hH hS hz (sc_1 hSh) rfl ok_X2_giveUp (mk_X2_giveUp (l := l) (P := P) hSh sg (Int32.toNatClampNeg a1) (Int32.toNatClampNeg a2) b4 b6 o10) ml_X4_88 ⟨by decide, by decide, by decide, by decide⟩ rfl hl.1 rfl (Nat.le_of_ble_eq_true rfl) dX4_evict_51) hS (fun H locs hH hS => ?_)
        refine lv_iconst (pc := 54) (v := 1) hx hb dX4_evict_54 (by decide) ?_
        exact wk_iret (pc := 55) X hH hS hr hlocks (by rw [mr_X4_evict, if_neg h2, if_pos h8, if_neg h9]) (by rw [ms_X4_evict, if_neg h2, if_pos h8, if_neg h9]) dX4_evict_55
      · have hg := hg.1 h9
        refine lv_iconst (pc := 44) (v := 0) hx hb dX4_evict_44 (by decide) ?_
        exact wk_iret (pc := 45) X hH hS hr hlocks (by rw [mr_X4_evict, if_neg h2, if_pos h8, if_pos h9]) (by rw [ms_X4_evict, if_neg h2, if_pos h8, if_pos h9]) dX4_evict_45
    · have hg := hg.2 h8
      refine lv_iconst (pc := 35) (v := 2) hx hb dX4_evict_35 (by decide) ?_
      exact wk_iret (pc := 36) X hH hS hr hlocks (by rw [mr_X4_evict, if_neg h2, if_neg h8]) (by rw [ms_X4_evict, if_neg h2, if_neg h8]) dX4_evict_36
  · have hg := hg.1 h2
    refine lv_iconst (pc := 9) (v := (-1)) hx hb dX4_evict_9 (by decide) ?_
    exact wk_iret (pc := 10) X hH hS hr hlocks (by rw [mr_X4_evict, if_pos h2]) (by rw [ms_X4_evict, if_pos h2]) dX4_evict_10

def mr_X4_limited (P : Nat → Nat) (sg : wk_Sg) (a1 : Int32) (a2 : Int32) (a3 : Int32) : Int32 := (if a2 < (if a1 < a3 then a1 else a3) then (if a1 < a3 then a1 else a3) else a2)
set_option maxHeartbeats 4000000 in
set_option maxRecDepth 100000 in
theorem mk_X4_limited {l : Launch} {D : va_G} {T : wk_T} {z0 : Nat} {ad : wk_K3 → Nat} {sh : wk_Sh} {P : Nat → Nat} (sg : wk_Sg) (a1 : Int32) (a2 : Int32) (a3 : Int32)   : wk_Mi l yX4_limited cX4_limited 3 (some .int) 1 22 D T z0 ad sh [.int a1, .int a2, .int a3] sg (mr_X4_limited P sg a1 a2 a3) sg := by
  refine Met.ofW (cc := cX4_limited) (maxL := 3) (ret := (some .int)) (by decide) rfl ?_
  intro p e s m args below meth c s₁ B hml hv
  obtain ⟨rfl, hz, hH, hK⟩ := hv
  have hx := B.exec
  have hb := B.bytes
  have hr := B.returns
  have hlocks := B.notSynchronized
  have hts : ∀ w ∈ wk_B, w.before _ s = true := fun w hw => atoms_spec (ws := Cond.code yX4_limited cX4_limited 3 (some .int) :: wk_B) B.pre w (List.mem_cons_of_mem _ hw)
  have X : wk_C p m c cX4_limited 3 s _ RX4 D T := ⟨⟨hx, hb, hml, findClass_of_methodNamed B.named, hts⟩, hK⟩
  have hS : va_S (wk_A z0) s.heap s.heap [] := va_S.rf
  have hl := lv_entry ([.int a1, .int a2, .int a3]) (n := 3) (Nat.le_of_ble_eq_true rfl)
  rw [lg_entry_eq]
  generalize (lg_sl ([.int a1, .int a2, .int a3]) ++ List.replicate (3 - (lg_sl ([.int a1, .int a2, .int a3])).length) Slot.unset).toArray = ls at hl ⊢
  have hl : lv_has ls 3 [(0, .int a1), (1, .int a2), (2, .int a3)] := hl
  refine lv_iload_n (pc := 0) hx hb dX4_limited_0 rfl (lv_at hl 1 rfl) ?_
  refine lv_iload_n (pc := 1) hx hb dX4_limited_1 rfl (lv_at hl 2 rfl) ?_
  refine lv_iload_n (pc := 2) hx hb dX4_limited_2 rfl (lv_at hl 0 rfl) ?_
  refine va_mmin (pc := 3) hx hb (X.1.2.2.1.trans hl.1.symm) X.1.2.2.2.1 (hts _ ml_X4_143) (hts _ ok_min.1) (hts _ ok_min.2.1) (hts _ ok_min.2.2) (by decide) (Nat.le_of_ble_eq_true rfl) (by decide) (by decide) dX4_limited_3 ?_
  refine va_mmax (pc := 6) hx hb (X.1.2.2.1.trans hl.1.symm) X.1.2.2.2.1 (hts _ ml_X4_149) (hts _ ok_max.1) (hts _ ok_max.2.1) (hts _ ok_max.2.2) (by decide) (Nat.le_of_ble_eq_true rfl) (by decide) (by decide) dX4_limited_6 ?_
  exact wk_iret (pc := 9) X hH hS hr hlocks (by rw [mr_X4_limited]) (rfl) dX4_limited_9

def mr_X4_load (P : Nat → Nat) (sg : wk_Sg) (a1 : Int32) (a2 : Int32) (a3 : Int32) : Int32 := (if (sg (0, 0, 0) 3) = 0 then (if (mr_X4_hasCore P sg a1) = 0 then 0 else (if (mr_X4_within P sg a2 (nI (P 4))) = 0 then 0 else 1)) else 0)
def ms_X4_load (P : Nat → Nat) (sg : wk_Sg) (a1 : Int32) (a2 : Int32) (a3 : Int32) : wk_Sg := (if (sg (0, 0, 0) 3) = 0 then (if (mr_X4_hasCore P sg a1) = 0 then sg else (if (mr_X4_within P sg a2 (nI (P 4))) = 0 then sg else (wk_up sg (5, (Int32.toNatClampNeg a1), 0) (Int32.toNatClampNeg a2) a3))) else sg)
def mg_X4_load (P : Nat → Nat) (sg : wk_Sg) (a1 : Int32) (a2 : Int32) (a3 : Int32) : Prop := (((sg (0, 0, 0) 3) = 0 → (((mr_X4_hasCore P sg a1) = 0 → True) ∧ (¬ (mr_X4_hasCore P sg a1) = 0 → (vp_in a1 (P 0) ∧ (((mr_X4_within P sg a2 (nI (P 4))) = 0 → True) ∧ (¬ (mr_X4_within P sg a2 (nI (P 4))) = 0 → (vp_in a1 (P 0) ∧ (vp_in a2 (P 4) ∧ True)))))))) ∧ (¬ (sg (0, 0, 0) 3) = 0 → True))
theorem mz_X4_load (P : Nat → Nat) (sg : wk_Sg) (a1 : Int32) (a2 : Int32) (a3 : Int32) : mr_X4_load P sg a1 a2 a3 = 0 ∨ mr_X4_load P sg a1 a2 a3 = 1 := by
  unfold mr_X4_load
  repeat' split
  all_goals first | exact Or.inl rfl | exact Or.inr rfl | apply mz_X4_hasCore | apply mz_X4_within
set_option maxHeartbeats 4000000 in
set_option maxRecDepth 100000 in
theorem mk_X4_load {l : Launch} {D : va_G} {T : wk_T} {z0 : Nat} {ad : wk_K3 → Nat} {sh : wk_Sh} {P : Nat → Nat} (hSh : sc_Sh T P sh) (sg : wk_Sg) (a1 : Int32) (a2 : Int32) (a3 : Int32)  (hg : mg_X4_load P sg a1 a2 a3) : wk_Mi l yX4_load cX4_load 4 (some .boolean) 2 42 D T z0 ad sh [.ref (ad (0, 0, 0)), .int a1, .int a2, .int a3] sg (mr_X4_load P sg a1 a2 a3) (ms_X4_load P sg a1 a2 a3) := by
  refine Met.ofW (cc := cX4_load) (maxL := 4) (ret := (some .boolean)) (by decide) rfl ?_
  intro p e s m args below meth c s₁ B hml hv
  obtain ⟨rfl, hz, hH, hK⟩ := hv
  have hx := B.exec
  have hb := B.bytes
  have hr := B.returns
  have hlocks := B.notSynchronized
  have hts : ∀ w ∈ wk_B, w.before _ s = true := fun w hw => atoms_spec (ws := Cond.code yX4_load cX4_load 4 (some .boolean) :: wk_B) B.pre w (List.mem_cons_of_mem _ hw)
  have X : wk_C p m c cX4_load 4 s _ RX4 D T := ⟨⟨hx, hb, hml, findClass_of_methodNamed B.named, hts⟩, hK⟩
  have hS : va_S (wk_A z0) s.heap s.heap [] := va_S.rf
  have hl := lv_entry ([.ref (ad (0, 0, 0)), .int a1, .int a2, .int a3]) (n := 4) (Nat.le_of_ble_eq_true rfl)
  rw [lg_entry_eq]
  generalize (lg_sl ([.ref (ad (0, 0, 0)), .int a1, .int a2, .int a3]) ++ List.replicate (4 - (lg_sl ([.ref (ad (0, 0, 0)), .int a1, .int a2, .int a3])).length) Slot.unset).toArray = ls at hl ⊢
  have hl : lv_has ls 4 [(0, .ref (ad (0, 0, 0))), (1, .int a1), (2, .int a2), (3, .int a3)] := hl
  unfold mg_X4_load at hg
  refine lv_aload_n (pc := 0) hx hb dX4_load_0 rfl (lv_at hl 0 rfl) ?_
  refine wk_geti (pc := 1) X hH (0, 0, 0) 3 (sc_0 hSh) rfl (by decide) rfl inX4 fl_X4_7 dX4_load_1 ?_
  refine lv_if_ne (pc := 4) (tgt := 32) hx hb dX4_load_4 (by decide) (fun h1 => ?_) (fun h1 => ?_)
  · have hg := hg.2 h1
    refine lv_iconst (pc := 32) (v := 0) hx hb dX4_load_32 (by decide) ?_
    exact wk_zret (pc := 33) X hH hS hr hlocks (Or.inl rfl) (by rw [mr_X4_load, if_neg h1]) (by rw [ms_X4_load, if_neg h1]) dX4_load_33
  · have hg := hg.1 h1
    refine lv_aload_n (pc := 7) hx hb dX4_load_7 rfl (lv_at hl 0 rfl) ?_
    refine lv_iload_n (pc := 8) hx hb dX4_load_8 rfl (lv_at hl 1 rfl) ?_
    refine wk_ci (wk_rV (pc := 9) (As := [.int a1]) (rest := []) X hH hS hz (sc_0 hSh) rfl ok_X4_hasCore (mk_X4_hasCore (l := l) (P := P) hSh sg a1  ) ml_X4_44 ⟨by decide, by decide, by decide, by decide⟩ rfl hl.1 rfl (Nat.le_of_ble_eq_true rfl) dX4_load_9) hS (fun H locs hH hS => ?_)
    refine lv_if_eq (pc := 12) (tgt := 32) hx hb dX4_load_12 (by decide) (fun h2 => ?_) (fun h2 => ?_)
    · have hg := hg.1 h2
      refine lv_iconst (pc := 32) (v := 0) hx hb dX4_load_32 (by decide) ?_
      exact wk_zret (pc := 33) X hH hS hr hlocks (Or.inl rfl) (by rw [mr_X4_load, if_pos h1, if_pos h2]) (by rw [ms_X4_load, if_pos h1, if_pos h2]) dX4_load_33
    · have hg := hg.2 h2
      refine lv_iload_n (pc := 15) hx hb dX4_load_15 rfl (lv_at hl 2 rfl) ?_
      refine lv_aload_n (pc := 16) hx hb dX4_load_16 rfl (lv_at hl 0 rfl) ?_
      refine wk_getr (pc := 17) X hH (0, 0, 0) 1 (3, 0, 0) (sc_0 hSh) rfl (by decide) rfl inX4 fl_X4_28 dX4_load_17 ?_
      refine lv_iload_n (pc := 20) hx hb dX4_load_20 rfl (lv_at hl 1 rfl) ?_
      obtain ⟨o3, hg⟩ := hg
      have b4 := wk_inlt o3
      refine wk_aald (pc := 21) X hH (3, 0, 0) 1 (4, (Int32.toNatClampNeg a1), 0) (sc_3 hSh) rfl o3 (lk_3p b4) dX4_load_21 ?_
      refine wk_getr (pc := 22) X hH (4, (Int32.toNatClampNeg a1), 0) 2 (5, (Int32.toNatClampNeg a1), 0) (sc_4 hSh b4) rfl (by decide) rfl inX1 fl_X4_48 dX4_load_22 ?_
      refine wk_alenI (pc := 25) X hH (5, (Int32.toNatClampNeg a1), 0) (sc_5 hSh b4) dX4_load_25 ?_
      refine wk_ci (wk_rS (pc := 26) (As := [.int a2, .int (nI (P 4))]) (rest := []) X hH hS hz ok_X4_within (mk_X4_within (l := l) (P := P)  sg a2 (nI (P 4))  ) ml_X4_52 ⟨by decide, by decide, by decide, by decide⟩ rfl hl.1 rfl (Nat.le_of_ble_eq_true rfl) dX4_load_26) hS (fun H locs hH hS => ?_)
      refine lv_if_ne (pc := 29) (tgt := 34) hx hb dX4_load_29 (by decide) (fun h5 => ?_) (fun h5 => ?_)
      · have hg := hg.2 h5
        refine lv_aload_n (pc := 34) hx hb dX4_load_34 rfl (lv_at hl 0 rfl) ?_
        refine wk_getr (pc := 35) X hH (0, 0, 0) 1 (3, 0, 0) (sc_0 hSh) rfl (by decide) rfl inX4 fl_X4_28 dX4_load_35 ?_
        refine lv_iload_n (pc := 38) hx hb dX4_load_38 rfl (lv_at hl 1 rfl) ?_
        obtain ⟨o6, hg⟩ := hg
        have b7 := wk_inlt o6
        refine wk_aald (pc := 39) X hH (3, 0, 0) 1 (4, (Int32.toNatClampNeg a1), 0) (sc_3 hSh) rfl o6 (lk_3p b7) dX4_load_39 ?_
        refine wk_getr (pc := 40) X hH (4, (Int32.toNatClampNeg a1), 0) 2 (5, (Int32.toNatClampNeg a1), 0) (sc_4 hSh b7) rfl (by decide) rfl inX1 fl_X4_48 dX4_load_40 ?_
        refine lv_iload_n (pc := 43) hx hb dX4_load_43 rfl (lv_at hl 2 rfl) ?_
        refine lv_iload_n (pc := 44) hx hb dX4_load_44 rfl (lv_at hl 3 rfl) ?_
        obtain ⟨o8, hg⟩ := hg
        refine wk_iast (pc := 45) X hH hS (5, (Int32.toNatClampNeg a1), 0) (sc_5 hSh b7) o8 dX4_load_45 (fun H locs hH hS => ?_)
        refine lv_iconst (pc := 46) (v := 1) hx hb dX4_load_46 (by decide) ?_
        exact wk_zret (pc := 47) X hH hS hr hlocks (Or.inr rfl) (by rw [mr_X4_load, if_pos h1, if_neg h2, if_neg h5]) (by rw [ms_X4_load, if_pos h1, if_neg h2, if_neg h5]) dX4_load_47
      · have hg := hg.1 h5
        refine lv_iconst (pc := 32) (v := 0) hx hb dX4_load_32 (by decide) ?_
        exact wk_zret (pc := 33) X hH hS hr hlocks (Or.inl rfl) (by rw [mr_X4_load, if_pos h1, if_neg h2, if_pos h5]) (by rw [ms_X4_load, if_pos h1, if_neg h2, if_pos h5]) dX4_load_33

def mr_X4_memory (P : Nat → Nat) (sg : wk_Sg) (a1 : Int32) : Int32 := (if (mr_X2_has P sg a1) = 0 then 0 else (sg (2, 0, 0) (Int32.toNatClampNeg a1)))
def mg_X4_memory (P : Nat → Nat) (sg : wk_Sg) (a1 : Int32) : Prop := (((mr_X2_has P sg a1) = 0 → True) ∧ (¬ (mr_X2_has P sg a1) = 0 → (vp_in a1 (P 3) ∧ True)))
set_option maxHeartbeats 4000000 in
set_option maxRecDepth 100000 in
theorem mk_X4_memory {l : Launch} {D : va_G} {T : wk_T} {z0 : Nat} {ad : wk_K3 → Nat} {sh : wk_Sh} {P : Nat → Nat} (hSh : sc_Sh T P sh) (sg : wk_Sg) (a1 : Int32)  (hg : mg_X4_memory P sg a1) : wk_Mi l yX4_memory cX4_memory 2 (some .int) 2 42 D T z0 ad sh [.ref (ad (0, 0, 0)), .int a1] sg (mr_X4_memory P sg a1) sg := by
  refine Met.ofW (cc := cX4_memory) (maxL := 2) (ret := (some .int)) (by decide) rfl ?_
  intro p e s m args below meth c s₁ B hml hv
  obtain ⟨rfl, hz, hH, hK⟩ := hv
  have hx := B.exec
  have hb := B.bytes
  have hr := B.returns
  have hlocks := B.notSynchronized
  have hts : ∀ w ∈ wk_B, w.before _ s = true := fun w hw => atoms_spec (ws := Cond.code yX4_memory cX4_memory 2 (some .int) :: wk_B) B.pre w (List.mem_cons_of_mem _ hw)
  have X : wk_C p m c cX4_memory 2 s _ RX4 D T := ⟨⟨hx, hb, hml, findClass_of_methodNamed B.named, hts⟩, hK⟩
  have hS : va_S (wk_A z0) s.heap s.heap [] := va_S.rf
  have hl := lv_entry ([.ref (ad (0, 0, 0)), .int a1]) (n := 2) (Nat.le_of_ble_eq_true rfl)
  rw [lg_entry_eq]
  generalize (lg_sl ([.ref (ad (0, 0, 0)), .int a1]) ++ List.replicate (2 - (lg_sl ([.ref (ad (0, 0, 0)), .int a1])).length) Slot.unset).toArray = ls at hl ⊢
  have hl : lv_has ls 2 [(0, .ref (ad (0, 0, 0))), (1, .int a1)] := hl
  unfold mg_X4_memory at hg
  refine lv_aload_n (pc := 0) hx hb dX4_memory_0 rfl (lv_at hl 0 rfl) ?_
  refine wk_getr (pc := 1) X hH (0, 0, 0) 0 (1, 0, 0) (sc_0 hSh) rfl (by decide) rfl inX4 fl_X4_22 dX4_memory_1 ?_
  refine lv_iload_n (pc := 4) hx hb dX4_memory_4 rfl (lv_at hl 1 rfl) ?_
  refine wk_ci (wk_rV (pc := 5) (As := [.int a1]) (rest := []) X hH hS hz (sc_1 hSh) rfl ok_X2_has (mk_X2_has (l := l) (P := P) hSh sg a1  ) ml_X4_56 ⟨by decide, by decide, by decide, by decide⟩ rfl hl.1 rfl (Nat.le_of_ble_eq_true rfl) dX4_memory_5) hS (fun H locs hH hS => ?_)
  refine lv_if_eq (pc := 8) (tgt := 23) hx hb dX4_memory_8 (by decide) (fun h1 => ?_) (fun h1 => ?_)
  · have hg := hg.1 h1
    refine lv_iconst (pc := 23) (v := 0) hx hb dX4_memory_23 (by decide) ?_
    exact wk_iret (pc := 24) X hH hS hr hlocks (by rw [mr_X4_memory, if_pos h1]) (rfl) dX4_memory_24
  · have hg := hg.2 h1
    refine lv_aload_n (pc := 11) hx hb dX4_memory_11 rfl (lv_at hl 0 rfl) ?_
    refine wk_getr (pc := 12) X hH (0, 0, 0) 0 (1, 0, 0) (sc_0 hSh) rfl (by decide) rfl inX4 fl_X4_22 dX4_memory_12 ?_
    refine wk_getr (pc := 15) X hH (1, 0, 0) 1 (2, 0, 0) (sc_1 hSh) rfl (by decide) rfl inX2 fl_X4_59 dX4_memory_15 ?_
    refine lv_iload_n (pc := 18) hx hb dX4_memory_18 rfl (lv_at hl 1 rfl) ?_
    obtain ⟨o2, hg⟩ := hg
    refine wk_iald (pc := 19) X hH (2, 0, 0) (sc_2 hSh) o2 dX4_memory_19 ?_
    refine lv_goto (pc := 20) (tgt := 24) hx hb dX4_memory_20 (by decide) ?_
    exact wk_iret (pc := 24) X hH hS hr hlocks (by rw [mr_X4_memory, if_neg h1]) (rfl) dX4_memory_24

def mr_X4_peek_L24 : Nat → (Nat → Nat) → wk_Sg → Int32 → Int32 → Int32 → Int32
  | 0, _, _, _, _, _ => 0
  | n + 1, P, sg, v1, v2, v3 => (if (nI (P 0)) ≤ v3 then (sg (2, 0, 0) (Int32.toNatClampNeg v1)) else (if (mr_X3_holds P sg (Int32.toNatClampNeg v3) (Int32.toNatClampNeg (mr_X1_indexFor P sg (Int32.toNatClampNeg v3) v2)) v2) = 0 then (mr_X4_peek_L24 n P sg  v1 v2 (v3 + 1)) else (if (mr_X3_isNewerThanMemory P sg (Int32.toNatClampNeg v3) (Int32.toNatClampNeg (mr_X1_indexFor P sg (Int32.toNatClampNeg v3) v2))) = 0 then (mr_X4_peek_L24 n P sg  v1 v2 (v3 + 1)) else (sg (9, (Int32.toNatClampNeg v3), (Int32.toNatClampNeg (mr_X1_indexFor P sg (Int32.toNatClampNeg v3) v2))) (Int32.toNatClampNeg (mr_X2_offsetOf P sg v1))))))
def mg_X4_peek_L24 : Nat → (Nat → Nat) → wk_Sg → Int32 → Int32 → Int32 → Prop
  | 0, _, _, _, _, _ => False
  | n + 1, P, sg, v1, v2, v3 => (((nI (P 0)) ≤ v3 → (vp_in v1 (P 3) ∧ True)) ∧ (¬ (nI (P 0)) ≤ v3 → (vp_in v3 (P 0) ∧ (mg_X1_slotFor P sg (Int32.toNatClampNeg v3) v2 ∧ (((mr_X3_holds P sg (Int32.toNatClampNeg v3) (Int32.toNatClampNeg (mr_X1_indexFor P sg (Int32.toNatClampNeg v3) v2)) v2) = 0 → mg_X4_peek_L24 n P sg  v1 v2 (v3 + 1)) ∧ (¬ (mr_X3_holds P sg (Int32.toNatClampNeg v3) (Int32.toNatClampNeg (mr_X1_indexFor P sg (Int32.toNatClampNeg v3) v2)) v2) = 0 → (((mr_X3_isNewerThanMemory P sg (Int32.toNatClampNeg v3) (Int32.toNatClampNeg (mr_X1_indexFor P sg (Int32.toNatClampNeg v3) v2))) = 0 → mg_X4_peek_L24 n P sg  v1 v2 (v3 + 1)) ∧ (¬ (mr_X3_isNewerThanMemory P sg (Int32.toNatClampNeg v3) (Int32.toNatClampNeg (mr_X1_indexFor P sg (Int32.toNatClampNeg v3) v2))) = 0 → (mg_X2_offsetOf P sg v1 ∧ (vp_in (mr_X2_offsetOf P sg v1) (P 2) ∧ True))))))))))
set_option maxHeartbeats 4000000 in
set_option maxRecDepth 100000 in
theorem mk_X4_peek_L24 {l : Launch} {D : va_G} {T : wk_T} {z0 : Nat} {ad : wk_K3 → Nat} {sh : wk_Sh} {P : Nat → Nat} (hSh : sc_Sh T P sh)   {p : Program} {e : Env} {s : State} {m : MethodId} {args : Array Value} {below : List Frame} {meth : Method} {c : Code} (X : wk_C p m c cX4_peek 5 s args RX4 D T) (hz : z0 ≤ s.heap.size) (hr : meth.sig.returnType = some .int) (hlocks : meth.locks = false) :
    ∀ (n : Nat) (sg : wk_Sg) (v1 : Int32) (v2 : Int32) (v3 : Int32) (r0 : Int32), mr_X4_peek_L24 n P sg  v1 v2 v3 = r0 → mg_X4_peek_L24 n P sg  v1 v2 v3 → ∀ (ls : Array Slot) (H : Heap) (locs : List Loc), lv_has ls 5 [(0, .ref (ad (0, 0, 0))), (1, .int v1), (2, .int v2), (3, .int v3)] → wk_H D z0 ad sh sg H → va_S (wk_A z0) s.heap H locs → W p l e (wk_rm 2 42) s m args below meth c H locs 0 0 (MQ below (wk_Qi D z0 ad sh r0 sg) args s 0 0 (wk_A z0)) (F0 m 24 ls []) := by
  have hx := X.1.1
  have hb := X.1.2.1
  have hts := X.1.2.2.2.2
  intro n
  induction n with
  | zero =>
    intro sg v1 v2 v3 r0 hr0 hg ls H locs hl hH hS
    exact (show False from hg).elim
  | succ n ih =>
    intro sg v1 v2 v3 r0 hr0 hg ls H locs hl hH hS
    rw [mg_X4_peek_L24] at hg
    refine lv_iload_n (pc := 24) hx hb dX4_peek_24 rfl (lv_at hl 3 rfl) ?_
    refine lv_aload_n (pc := 25) hx hb dX4_peek_25 rfl (lv_at hl 0 rfl) ?_
    refine wk_getr (pc := 26) X hH (0, 0, 0) 1 (3, 0, 0) (sc_0 hSh) rfl (by decide) rfl inX4 fl_X4_28 dX4_peek_26 ?_
    refine wk_alenR (pc := 29) X hH (3, 0, 0) 1 (sc_3 hSh) rfl dX4_peek_29 ?_
    refine lv_icmp_ge (pc := 30) (tgt := 83) hx hb dX4_peek_30 (by decide) (fun h3 => ?_) (fun h3 => ?_)
    · have hg := hg.1 h3
      refine lv_aload_n (pc := 83) hx hb dX4_peek_83 rfl (lv_at hl 0 rfl) ?_
      refine wk_getr (pc := 84) X hH (0, 0, 0) 0 (1, 0, 0) (sc_0 hSh) rfl (by decide) rfl inX4 fl_X4_22 dX4_peek_84 ?_
      refine wk_getr (pc := 87) X hH (1, 0, 0) 1 (2, 0, 0) (sc_1 hSh) rfl (by decide) rfl inX2 fl_X4_59 dX4_peek_87 ?_
      refine lv_iload_n (pc := 90) hx hb dX4_peek_90 rfl (lv_at hl 1 rfl) ?_
      obtain ⟨o4, hg⟩ := hg
      refine wk_iald (pc := 91) X hH (2, 0, 0) (sc_2 hSh) o4 dX4_peek_91 ?_
      exact wk_iret (pc := 92) X hH hS hr hlocks (by rw [← hr0, mr_X4_peek_L24, if_pos h3]) (rfl) dX4_peek_92
    · have hg := hg.2 h3
      refine lv_aload_n (pc := 33) hx hb dX4_peek_33 rfl (lv_at hl 0 rfl) ?_
      refine wk_getr (pc := 34) X hH (0, 0, 0) 1 (3, 0, 0) (sc_0 hSh) rfl (by decide) rfl inX4 fl_X4_28 dX4_peek_34 ?_
      refine lv_iload_n (pc := 37) hx hb dX4_peek_37 rfl (lv_at hl 3 rfl) ?_
      obtain ⟨o5, hg⟩ := hg
      have b6 := wk_inlt o5
      refine wk_aald (pc := 38) X hH (3, 0, 0) 1 (4, (Int32.toNatClampNeg v3), 0) (sc_3 hSh) rfl o5 (lk_3p b6) dX4_peek_38 ?_
      refine lv_iload_n (pc := 39) hx hb dX4_peek_39 rfl (lv_at hl 2 rfl) ?_
      obtain ⟨o7, hg⟩ := hg
      refine wk_cr (wk_rV (pc := 40) (As := [.int v2]) (rest := []) X hH hS hz (sc_4 hSh b6) rfl ok_X1_slotFor (mk_X1_slotFor (l := l) (P := P) hSh sg (Int32.toNatClampNeg v3) v2 b6 o7) ml_X4_118 ⟨by decide, by decide, by decide, by decide⟩ rfl hl.1 rfl (Nat.le_of_ble_eq_true rfl) dX4_peek_40) hS (fun H locs hH hS => ?_)
      have b8 := mb_X1_slotFor P sg (Int32.toNatClampNeg v3) v2 o7
      refine lv_astore (pc := 43) (lv' := [(4, .ref (ad (8, (Int32.toNatClampNeg v3), (Int32.toNatClampNeg (mr_X1_indexFor P sg (Int32.toNatClampNeg v3) v2))))), (0, .ref (ad (0, 0, 0))), (1, .int v1), (2, .int v2), (3, .int v3)]) hx hb dX4_peek_43 hl (by decide) rfl (fun ls hl => ?_)
      refine lv_aload (pc := 45) hx hb dX4_peek_45 (lv_at hl 0 rfl) ?_
      refine lv_iload_n (pc := 47) hx hb dX4_peek_47 rfl (lv_at hl 3 rfl) ?_
      refine wk_ci (wk_rV (pc := 48) (As := [.int v2]) (rest := []) X hH hS hz (sc_8 hSh b6 b8) rfl ok_X3_holds (mk_X3_holds (l := l) (P := P) hSh sg (Int32.toNatClampNeg v3) (Int32.toNatClampNeg (mr_X1_indexFor P sg (Int32.toNatClampNeg v3) v2)) v2 b6 b8 ) ml_X4_122 ⟨by decide, by decide, by decide, by decide⟩ rfl hl.1 rfl (Nat.le_of_ble_eq_true rfl) dX4_peek_48) hS (fun H locs hH hS => ?_)
      refine lv_if_eq (pc := 51) (tgt := 77) hx hb dX4_peek_51 (by decide) (fun h9 => ?_) (fun h9 => ?_)
      · have hg := hg.1 h9
        refine lv_iinc (pc := 77) (k := 4) (v := (v3 + 1)) (lv' := [(3, .int (v3 + 1)), (4, .ref (ad (8, (Int32.toNatClampNeg v3), (Int32.toNatClampNeg (mr_X1_indexFor P sg (Int32.toNatClampNeg v3) v2))))), (0, .ref (ad (0, 0, 0))), (1, .int v1), (2, .int v2)]) hx hb dX4_peek_77 hl rfl rfl (by decide) rfl (fun ls hl => ?_)
        refine lv_goto (pc := 80) (tgt := 24) hx hb dX4_peek_80 (by decide) ?_
        exact ih sg v1 v2 (v3 + 1) _ (by rw [← hr0, mr_X4_peek_L24, if_neg h3, if_pos h9]) hg ls _ _ (lv_sub hl [2, 3, 4, 0] rfl) hH hS
      · have hg := hg.2 h9
        refine lv_aload (pc := 54) hx hb dX4_peek_54 (lv_at hl 0 rfl) ?_
        refine wk_ci (wk_rV (pc := 56) (As := []) (rest := []) X hH hS hz (sc_8 hSh b6 b8) rfl ok_X3_isNewerThanMemory (mk_X3_isNewerThanMemory (l := l) (P := P) hSh sg (Int32.toNatClampNeg v3) (Int32.toNatClampNeg (mr_X1_indexFor P sg (Int32.toNatClampNeg v3) v2)) b6 b8 ) ml_X4_125 ⟨by decide, by decide, by decide, by decide⟩ rfl hl.1 rfl (Nat.le_of_ble_eq_true rfl) dX4_peek_56) hS (fun H locs hH hS => ?_)
        refine lv_if_eq (pc := 59) (tgt := 77) hx hb dX4_peek_59 (by decide) (fun h10 => ?_) (fun h10 => ?_)
        · have hg := hg.1 h10
          refine lv_iinc (pc := 77) (k := 4) (v := (v3 + 1)) (lv' := [(3, .int (v3 + 1)), (4, .ref (ad (8, (Int32.toNatClampNeg v3), (Int32.toNatClampNeg (mr_X1_indexFor P sg (Int32.toNatClampNeg v3) v2))))), (0, .ref (ad (0, 0, 0))), (1, .int v1), (2, .int v2)]) hx hb dX4_peek_77 hl rfl rfl (by decide) rfl (fun ls hl => ?_)
          refine lv_goto (pc := 80) (tgt := 24) hx hb dX4_peek_80 (by decide) ?_
          exact ih sg v1 v2 (v3 + 1) _ (by rw [← hr0, mr_X4_peek_L24, if_neg h3, if_neg h9, if_pos h10]) hg ls _ _ (lv_sub hl [2, 3, 4, 0] rfl) hH hS
        · have hg := hg.2 h10
          refine lv_aload (pc := 62) hx hb dX4_peek_62 (lv_at hl 0 rfl) ?_
          refine wk_getr (pc := 64) X hH (8, (Int32.toNatClampNeg v3), (Int32.toNatClampNeg (mr_X1_indexFor P sg (Int32.toNatClampNeg v3) v2))) 0 (9, (Int32.toNatClampNeg v3), (Int32.toNatClampNeg (mr_X1_indexFor P sg (Int32.toNatClampNeg v3) v2))) (sc_8 hSh b6 b8) rfl (by decide) rfl inX3 fl_X4_113 dX4_peek_64 ?_
          refine lv_aload_n (pc := 67) hx hb dX4_peek_67 rfl (lv_at hl 1 rfl) ?_
          refine wk_getr (pc := 68) X hH (0, 0, 0) 0 (1, 0, 0) (sc_0 hSh) rfl (by decide) rfl inX4 fl_X4_22 dX4_peek_68 ?_
          refine lv_iload_n (pc := 71) hx hb dX4_peek_71 rfl (lv_at hl 2 rfl) ?_
          obtain ⟨o11, hg⟩ := hg
          refine wk_ci (wk_rV (pc := 72) (As := [.int v1]) (rest := [.ref (ad (9, (Int32.toNatClampNeg v3), (Int32.toNatClampNeg (mr_X1_indexFor P sg (Int32.toNatClampNeg v3) v2))))]) X hH hS hz (sc_1 hSh) rfl ok_X2_offsetOf (mk_X2_offsetOf (l := l) (P := P) hSh sg v1  o11) ml_X4_129 ⟨by decide, by decide, by decide, by decide⟩ rfl hl.1 rfl (Nat.le_of_ble_eq_true rfl) dX4_peek_72) hS (fun H locs hH hS => ?_)
          obtain ⟨o12, hg⟩ := hg
          refine wk_iald (pc := 75) X hH (9, (Int32.toNatClampNeg v3), (Int32.toNatClampNeg (mr_X1_indexFor P sg (Int32.toNatClampNeg v3) v2))) (sc_9 hSh b6 b8) o12 dX4_peek_75 ?_
          exact wk_iret (pc := 76) X hH hS hr hlocks (by rw [← hr0, mr_X4_peek_L24, if_neg h3, if_neg h9, if_neg h10]) (rfl) dX4_peek_76
def mr_X4_peek (P : Nat → Nat) (sg : wk_Sg) (a1 : Int32) : Int32 := (if (mr_X2_has P sg a1) = 0 then 0 else (mr_X4_peek_L24 5 P sg  a1 (mr_X2_lineOf P sg a1) 0))
def mg_X4_peek (P : Nat → Nat) (sg : wk_Sg) (a1 : Int32) : Prop := (((mr_X2_has P sg a1) = 0 → True) ∧ (¬ (mr_X2_has P sg a1) = 0 → (mg_X2_lineOf P sg a1 ∧ mg_X4_peek_L24 5 P sg  a1 (mr_X2_lineOf P sg a1) 0)))
set_option maxHeartbeats 4000000 in
set_option maxRecDepth 100000 in
theorem mk_X4_peek {l : Launch} {D : va_G} {T : wk_T} {z0 : Nat} {ad : wk_K3 → Nat} {sh : wk_Sh} {P : Nat → Nat} (hSh : sc_Sh T P sh) (sg : wk_Sg) (a1 : Int32)  (hg : mg_X4_peek P sg a1) : wk_Mi l yX4_peek cX4_peek 5 (some .int) 2 42 D T z0 ad sh [.ref (ad (0, 0, 0)), .int a1] sg (mr_X4_peek P sg a1) sg := by
  refine Met.ofW (cc := cX4_peek) (maxL := 5) (ret := (some .int)) (by decide) rfl ?_
  intro p e s m args below meth c s₁ B hml hv
  obtain ⟨rfl, hz, hH, hK⟩ := hv
  have hx := B.exec
  have hb := B.bytes
  have hr := B.returns
  have hlocks := B.notSynchronized
  have hts : ∀ w ∈ wk_B, w.before _ s = true := fun w hw => atoms_spec (ws := Cond.code yX4_peek cX4_peek 5 (some .int) :: wk_B) B.pre w (List.mem_cons_of_mem _ hw)
  have X : wk_C p m c cX4_peek 5 s _ RX4 D T := ⟨⟨hx, hb, hml, findClass_of_methodNamed B.named, hts⟩, hK⟩
  have hS : va_S (wk_A z0) s.heap s.heap [] := va_S.rf
  have hl := lv_entry ([.ref (ad (0, 0, 0)), .int a1]) (n := 5) (Nat.le_of_ble_eq_true rfl)
  rw [lg_entry_eq]
  generalize (lg_sl ([.ref (ad (0, 0, 0)), .int a1]) ++ List.replicate (5 - (lg_sl ([.ref (ad (0, 0, 0)), .int a1])).length) Slot.unset).toArray = ls at hl ⊢
  have hl : lv_has ls 5 [(0, .ref (ad (0, 0, 0))), (1, .int a1)] := hl
  unfold mg_X4_peek at hg
  refine lv_aload_n (pc := 0) hx hb dX4_peek_0 rfl (lv_at hl 0 rfl) ?_
  refine wk_getr (pc := 1) X hH (0, 0, 0) 0 (1, 0, 0) (sc_0 hSh) rfl (by decide) rfl inX4 fl_X4_22 dX4_peek_1 ?_
  refine lv_iload_n (pc := 4) hx hb dX4_peek_4 rfl (lv_at hl 1 rfl) ?_
  refine wk_ci (wk_rV (pc := 5) (As := [.int a1]) (rest := []) X hH hS hz (sc_1 hSh) rfl ok_X2_has (mk_X2_has (l := l) (P := P) hSh sg a1  ) ml_X4_56 ⟨by decide, by decide, by decide, by decide⟩ rfl hl.1 rfl (Nat.le_of_ble_eq_true rfl) dX4_peek_5) hS (fun H locs hH hS => ?_)
  refine lv_if_ne (pc := 8) (tgt := 13) hx hb dX4_peek_8 (by decide) (fun h1 => ?_) (fun h1 => ?_)
  · have hg := hg.2 h1
    refine lv_aload_n (pc := 13) hx hb dX4_peek_13 rfl (lv_at hl 0 rfl) ?_
    refine wk_getr (pc := 14) X hH (0, 0, 0) 0 (1, 0, 0) (sc_0 hSh) rfl (by decide) rfl inX4 fl_X4_22 dX4_peek_14 ?_
    refine lv_iload_n (pc := 17) hx hb dX4_peek_17 rfl (lv_at hl 1 rfl) ?_
    obtain ⟨o2, hg⟩ := hg
    refine wk_ci (wk_rV (pc := 18) (As := [.int a1]) (rest := []) X hH hS hz (sc_1 hSh) rfl ok_X2_lineOf (mk_X2_lineOf (l := l) (P := P) hSh sg a1  o2) ml_X4_114 ⟨by decide, by decide, by decide, by decide⟩ rfl hl.1 rfl (Nat.le_of_ble_eq_true rfl) dX4_peek_18) hS (fun H locs hH hS => ?_)
    refine lv_istore_n (pc := 21) (lv' := [(2, .int (mr_X2_lineOf P sg a1)), (0, .ref (ad (0, 0, 0))), (1, .int a1)]) hx hb dX4_peek_21 rfl hl (by decide) rfl (fun ls hl => ?_)
    refine lv_iconst (pc := 22) (v := 0) hx hb dX4_peek_22 (by decide) ?_
    refine lv_istore_n (pc := 23) (lv' := [(3, .int 0), (2, .int (mr_X2_lineOf P sg a1)), (0, .ref (ad (0, 0, 0))), (1, .int a1)]) hx hb dX4_peek_23 rfl hl (by decide) rfl (fun ls hl => ?_)
    exact mk_X4_peek_L24 (P := P) hSh   X hz hr hlocks 5 sg a1 (mr_X2_lineOf P sg a1) 0 _ (by rw [mr_X4_peek, if_neg h1]) hg ls _ _ (lv_sub hl [2, 3, 1, 0] rfl) hH hS
  · have hg := hg.1 h1
    refine lv_iconst (pc := 11) (v := 0) hx hb dX4_peek_11 (by decide) ?_
    exact wk_iret (pc := 12) X hH hS hr hlocks (by rw [mr_X4_peek, if_pos h1]) (rfl) dX4_peek_12
