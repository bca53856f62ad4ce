def ms_X1_tryInstruction (P : Nat → Nat) (sg : wk_Sg) (i : Nat) (a1 : Int32) : wk_Sg := (if (mr_X1_operation P sg a1) = 0 then (ms_X1_finish P (wk_up sg (4, i, 0) 6 2) i (((wk_up sg (4, i, 0) 6 2) (4, i, 0) 5) + (1 : Int32))) else (if (mr_X1_operation P sg a1) = 1 then (ms_X1_answer P sg i a1 (mr_X1_fieldN P sg a1)) else (if (mr_X1_operation P sg a1) = 2 then (ms_X1_answer P sg i a1 ((sg (6, i, 0) (Int32.toNatClampNeg (mr_X1_fieldB P sg a1))) + (sg (6, i, 0) (Int32.toNatClampNeg (mr_X1_fieldC P sg a1))))) else (if (mr_X1_operation P sg a1) = 3 then (ms_X1_answer P sg i a1 ((sg (6, i, 0) (Int32.toNatClampNeg (mr_X1_fieldB P sg a1))) - (sg (6, i, 0) (Int32.toNatClampNeg (mr_X1_fieldC P sg a1))))) else (if (mr_X1_operation P sg a1) = 4 then (ms_X1_answer P sg i a1 ((sg (6, i, 0) (Int32.toNatClampNeg (mr_X1_fieldB P sg a1))) * (sg (6, i, 0) (Int32.toNatClampNeg (mr_X1_fieldC P sg a1))))) else (if (mr_X1_operation P sg a1) = 5 then (ms_X1_answer P sg i a1 ((sg (6, i, 0) (Int32.toNatClampNeg (mr_X1_fieldB P sg a1))) + (mr_X1_fieldN P sg a1))) else (if (mr_X1_operation P sg a1) = 6 then (ms_X1_answer P sg i a1 (sg (4, i, 0) 0)) else (if (mr_X1_operation P sg a1) = 7 then (if (sg (6, i, 0) (Int32.toNatClampNeg (mr_X1_fieldA P sg a1))) = 0 then (ms_X1_finish P sg i (mr_X1_fieldN P sg a1)) else (ms_X1_finish P sg i ((sg (4, i, 0) 5) + (1 : Int32)))) else (if (mr_X1_operation P sg a1) = 8 then (ms_X1_finish P sg i (mr_X1_fieldN P sg a1)) else (if (mr_X1_operation P sg a1) = 9 then (ms_X1_tryAccess P sg i a1 ((sg (6, i, 0) (Int32.toNatClampNeg (mr_X1_fieldB P sg a1))) + (mr_X1_fieldN P sg a1))) else (if (mr_X1_operation P sg a1) = 10 then (ms_X1_tryAccess P sg i a1 ((sg (6, i, 0) (Int32.toNatClampNeg (mr_X1_fieldB P sg a1))) + (mr_X1_fieldN P sg a1))) else (if (mr_X1_operation P sg a1) = 11 then (ms_X1_tryAccess P sg i a1 ((sg (6, i, 0) (Int32.toNatClampNeg (mr_X1_fieldB P sg a1))) + (mr_X1_fieldN P sg a1))) else (wk_up sg (4, i, 0) 6 3)))))))))))))
def mg_X1_tryInstruction (P : Nat → Nat) (sg : wk_Sg) (i : Nat) (a1 : Int32) : Prop := (vp_in (mr_X1_fieldA P sg a1) 4 ∧ (vp_in (mr_X1_fieldB P sg a1) 4 ∧ (vp_in (mr_X1_fieldC P sg a1) 4 ∧ (((mr_X1_operation P sg a1) = 0 → True) ∧ (¬ (mr_X1_operation P sg a1) = 0 → (((mr_X1_operation P sg a1) = 1 → (mg_X1_answer P sg i a1 (mr_X1_fieldN P sg a1) ∧ True)) ∧ (¬ (mr_X1_operation P sg a1) = 1 → (((mr_X1_operation P sg a1) = 2 → (mg_X1_answer P sg i a1 ((sg (6, i, 0) (Int32.toNatClampNeg (mr_X1_fieldB P sg a1))) + (sg (6, i, 0) (Int32.toNatClampNeg (mr_X1_fieldC P sg a1)))) ∧ True)) ∧ (¬ (mr_X1_operation P sg a1) = 2 → (((mr_X1_operation P sg a1) = 3 → (mg_X1_answer P sg i a1 ((sg (6, i, 0) (Int32.toNatClampNeg (mr_X1_fieldB P sg a1))) - (sg (6, i, 0) (Int32.toNatClampNeg (mr_X1_fieldC P sg a1)))) ∧ True)) ∧ (¬ (mr_X1_operation P sg a1) = 3 → (((mr_X1_operation P sg a1) = 4 → (mg_X1_answer P sg i a1 ((sg (6, i, 0) (Int32.toNatClampNeg (mr_X1_fieldB P sg a1))) * (sg (6, i, 0) (Int32.toNatClampNeg (mr_X1_fieldC P sg a1)))) ∧ True)) ∧ (¬ (mr_X1_operation P sg a1) = 4 → (((mr_X1_operation P sg a1) = 5 → (mg_X1_answer P sg i a1 ((sg (6, i, 0) (Int32.toNatClampNeg (mr_X1_fieldB P sg a1))) + (mr_X1_fieldN P sg a1)) ∧ True)) ∧ (¬ (mr_X1_operation P sg a1) = 5 → (((mr_X1_operation P sg a1) = 6 → (mg_X1_answer P sg i a1 (sg (4, i, 0) 0) ∧ True)) ∧ (¬ (mr_X1_operation P sg a1) = 6 → (((mr_X1_operation P sg a1) = 7 → (((sg (6, i, 0) (Int32.toNatClampNeg (mr_X1_fieldA P sg a1))) = 0 → True) ∧ (¬ (sg (6, i, 0) (Int32.toNatClampNeg (mr_X1_fieldA P sg a1))) = 0 → True))) ∧ (¬ (mr_X1_operation P sg a1) = 7 → (((mr_X1_operation P sg a1) = 8 → True) ∧ (¬ (mr_X1_operation P sg a1) = 8 → (((mr_X1_operation P sg a1) = 9 → (mg_X1_tryAccess P sg i a1 ((sg (6, i, 0) (Int32.toNatClampNeg (mr_X1_fieldB P sg a1))) + (mr_X1_fieldN P sg a1)) ∧ True)) ∧ (¬ (mr_X1_operation P sg a1) = 9 → (((mr_X1_operation P sg a1) = 10 → (mg_X1_tryAccess P sg i a1 ((sg (6, i, 0) (Int32.toNatClampNeg (mr_X1_fieldB P sg a1))) + (mr_X1_fieldN P sg a1)) ∧ True)) ∧ (¬ (mr_X1_operation P sg a1) = 10 → (((mr_X1_operation P sg a1) = 11 → (mg_X1_tryAccess P sg i a1 ((sg (6, i, 0) (Int32.toNatClampNeg (mr_X1_fieldB P sg a1))) + (mr_X1_fieldN P sg a1)) ∧ True)) ∧ (¬ (mr_X1_operation P sg a1) = 11 → True)))))))))))))))))))))))))))
set_option maxHeartbeats 4000000 in
set_option maxRecDepth 100000 in
theorem mk_X1_tryInstruction {l : Launch} {D : va_G} {T : wk_T} {z0 : Nat} {ad : wk_K3 → Nat} {sh : wk_Sh} {P : Nat → Nat} (hSh : sc_Sh T P sh) (sg : wk_Sg) (i : Nat) (a1 : Int32) (hi : i < P 0) (hg : mg_X1_tryInstruction P sg i a1) : wk_Mv l yX1_tryInstruction cX1_tryInstruction 6 none 4 94 D T z0 ad sh [.ref (ad (4, i, 0)), .int a1] sg (ms_X1_tryInstruction P sg i a1) := by
  refine Met.ofW (cc := cX1_tryInstruction) (maxL := 6) (ret := none) (by decide) rfl ?_
  intro p e s m args below meth c s₁ B hml hv
  obtain ⟨rfl, hz, hH, hK⟩ := hv
  have hx := B.exec
  have hb := B.bytes
  have hr := B.returns
  have hlocks := B.notSynchronized
  have hts : ∀ w ∈ wk_B, w.before _ s = true := fun w hw => atoms_spec (ws := Cond.code yX1_tryInstruction cX1_tryInstruction 6 none :: wk_B) B.pre w (List.mem_cons_of_mem _ hw)
  have X : wk_C p m c cX1_tryInstruction 6 s _ RX1 D T := ⟨⟨hx, hb, hml, findClass_of_methodNamed B.named, hts⟩, hK⟩
  have hS : va_S (wk_A z0) s.heap s.heap [] := va_S.rf
  have hl := lv_entry ([.ref (ad (4, i, 0)), .int a1]) (n := 6) (Nat.le_of_ble_eq_true rfl)
  rw [lg_entry_eq]
  generalize (lg_sl ([.ref (ad (4, i, 0)), .int a1]) ++ List.replicate (6 - (lg_sl ([.ref (ad (4, i, 0)), .int a1])).length) Slot.unset).toArray = ls at hl ⊢
  have hl : lv_has ls 6 [(0, .ref (ad (4, i, 0))), (1, .int a1)] := hl
  unfold mg_X1_tryInstruction at hg
  refine lv_aload_n (pc := 0) hx hb dX1_tryInstruction_0 rfl (lv_at hl 0 rfl) ?_
  refine wk_getr (pc := 1) X hH (4, i, 0) 3 (6, i, 0) (sc_4 hSh hi) rfl (by decide) rfl inX1 fl_X1_9 dX1_tryInstruction_1 ?_
  refine lv_iload_n (pc := 4) hx hb dX1_tryInstruction_4 rfl (lv_at hl 1 rfl) ?_
  refine wk_ci (wk_rS (pc := 5) (As := [.int a1]) (rest := [.ref (ad (6, i, 0))]) X hH hS hz ok_X1_fieldA (mk_X1_fieldA (l := l) (P := P)  sg a1  ) ml_X1_66 ⟨by decide, by decide, by decide, by decide⟩ rfl hl.1 rfl (Nat.le_of_ble_eq_true rfl) dX1_tryInstruction_5) hS (fun H locs hH hS => ?_)
  obtain ⟨o1, hg⟩ := hg
  refine wk_iald (pc := 8) X hH (6, i, 0) (sc_6 hSh hi) o1 dX1_tryInstruction_8 ?_
  refine lv_istore_n (pc := 9) (lv' := [(2, .int (sg (6, i, 0) (Int32.toNatClampNeg (mr_X1_fieldA P sg a1)))), (0, .ref (ad (4, i, 0))), (1, .int a1)]) hx hb dX1_tryInstruction_9 rfl hl (by decide) rfl (fun ls hl => ?_)
  refine lv_aload_n (pc := 10) hx hb dX1_tryInstruction_10 rfl (lv_at hl 1 rfl) ?_
  refine wk_getr (pc := 11) X hH (4, i, 0) 3 (6, i, 0) (sc_4 hSh hi) rfl (by decide) rfl inX1 fl_X1_9 dX1_tryInstruction_11 ?_
  refine lv_iload_n (pc := 14) hx hb dX1_tryInstruction_14 rfl (lv_at hl 2 rfl) ?_
  refine wk_ci (wk_rS (pc := 15) (As := [.int a1]) (rest := [.ref (ad (6, i, 0))]) X hH hS hz ok_X1_fieldB (mk_X1_fieldB (l := l) (P := P)  sg a1  ) ml_X1_69 ⟨by decide, by decide, by decide, by decide⟩ rfl hl.1 rfl (Nat.le_of_ble_eq_true rfl) dX1_tryInstruction_15) hS (fun H locs hH hS => ?_)
  obtain ⟨o2, hg⟩ := hg
  refine wk_iald (pc := 18) X hH (6, i, 0) (sc_6 hSh hi) o2 dX1_tryInstruction_18 ?_
  refine lv_istore_n (pc := 19) (lv' := [(3, .int (sg (6, i, 0) (Int32.toNatClampNeg (mr_X1_fieldB P sg a1)))), (2, .int (sg (6, i, 0) (Int32.toNatClampNeg (mr_X1_fieldA P sg a1)))), (0, .ref (ad (4, i, 0))), (1, .int a1)]) hx hb dX1_tryInstruction_19 rfl hl (by decide) rfl (fun ls hl => ?_)
  refine lv_aload_n (pc := 20) hx hb dX1_tryInstruction_20 rfl (lv_at hl 2 rfl) ?_
  refine wk_getr (pc := 21) X hH (4, i, 0) 3 (6, i, 0) (sc_4 hSh hi) rfl (by decide) rfl inX1 fl_X1_9 dX1_tryInstruction_21 ?_
  refine lv_iload_n (pc := 24) hx hb dX1_tryInstruction_24 rfl (lv_at hl 3 rfl) ?_
  refine wk_ci (wk_rS (pc := 25) (As := [.int a1]) (rest := [.ref (ad (6, i, 0))]) X hH hS hz ok_X1_fieldC (mk_X1_fieldC (l := l) (P := P)  sg a1  ) ml_X1_72 ⟨by decide, by decide, by decide, by decide⟩ rfl hl.1 rfl (Nat.le_of_ble_eq_true rfl) dX1_tryInstruction_25) hS (fun H locs hH hS => ?_)
  obtain ⟨o3, hg⟩ := hg
  refine wk_iald (pc := 28) X hH (6, i, 0) (sc_6 hSh hi) o3 dX1_tryInstruction_28 ?_
  refine lv_istore (pc := 29) (lv' := [(4, .int (sg (6, i, 0) (Int32.toNatClampNeg (mr_X1_fieldC P sg a1)))), (3, .int (sg (6, i, 0) (Int32.toNatClampNeg (mr_X1_fieldB P sg a1)))), (2, .int (sg (6, i, 0) (Int32.toNatClampNeg (mr_X1_fieldA P sg a1)))), (0, .ref (ad (4, i, 0))), (1, .int a1)]) hx hb dX1_tryInstruction_29 hl (by decide) rfl (fun ls hl => ?_)
  refine lv_iload_n (pc := 31) hx hb dX1_tryInstruction_31 rfl (lv_at hl 4 rfl) ?_
  refine wk_ci (wk_rS (pc := 32) (As := [.int a1]) (rest := []) X hH hS hz ok_X1_fieldN (mk_X1_fieldN (l := l) (P := P)  sg a1  ) ml_X1_75 ⟨by decide, by decide, by decide, by decide⟩ rfl hl.1 rfl (Nat.le_of_ble_eq_true rfl) dX1_tryInstruction_32) hS (fun H locs hH hS => ?_)
  refine lv_istore (pc := 35) (lv' := [(5, .int (mr_X1_fieldN P sg a1)), (4, .int (sg (6, i, 0) (Int32.toNatClampNeg (mr_X1_fieldC P sg a1)))), (3, .int (sg (6, i, 0) (Int32.toNatClampNeg (mr_X1_fieldB P sg a1)))), (2, .int (sg (6, i, 0) (Int32.toNatClampNeg (mr_X1_fieldA P sg a1)))), (0, .ref (ad (4, i, 0))), (1, .int a1)]) hx hb dX1_tryInstruction_35 hl (by decide) rfl (fun ls hl => ?_)
  refine lv_iload_n (pc := 37) hx hb dX1_tryInstruction_37 rfl (lv_at hl 5 rfl) ?_
  refine wk_ci (wk_rS (pc := 38) (As := [.int a1]) (rest := []) X hH hS hz ok_X1_operation (mk_X1_operation (l := l) (P := P)  sg a1  ) ml_X1_78 ⟨by decide, by decide, by decide, by decide⟩ rfl hl.1 rfl (Nat.le_of_ble_eq_true rfl) dX1_tryInstruction_38) hS (fun H locs hH hS => ?_)
  by_cases w4 : (mr_X1_operation P sg a1) = 0
  · have hg := hg.1 w4
    refine wk_tin (pc := 41) (off := 63) (tgt := 104) X w4 dX1_tryInstruction_41 (by decide) (by decide) (by decide) (by decide) ?_
    refine lv_aload_n (pc := 104) hx hb dX1_tryInstruction_104 rfl (lv_at hl 4 rfl) ?_
    refine lv_iconst (pc := 105) (v := 2) hx hb dX1_tryInstruction_105 (by decide) ?_
    refine wk_puti (pc := 106) X hH hS (4, i, 0) 6 tyX1_ok nmX1 (sc_4 hSh hi) rfl (by decide) rfl inX1 fl_X1_19 rfl rfl rfl dX1_tryInstruction_106 (fun H locs hH hS => ?_)
    refine lv_aload_n (pc := 109) hx hb dX1_tryInstruction_109 rfl (lv_at hl 4 rfl) ?_
    refine lv_aload_n (pc := 110) hx hb dX1_tryInstruction_110 rfl (lv_at hl 4 rfl) ?_
    refine wk_geti (pc := 111) X hH (4, i, 0) 5 (sc_4 hSh hi) rfl (by decide) rfl inX1 fl_X1_15 dX1_tryInstruction_111 ?_
    refine lv_iconst (pc := 114) (v := 1) hx hb dX1_tryInstruction_114 (by decide) ?_
    refine lv_iadd (pc := 115) hx hb dX1_tryInstruction_115 ?_
    refine wk_cv (wk_rV (pc := 116) (As := [.int (((wk_up sg (4, i, 0) 6 2) (4, i, 0) 5) + (1 : Int32))]) (rest := []) X hH hS hz (sc_4 hSh hi) rfl ok_X1_finish (mk_X1_finish (l := l) (P := P) hSh (wk_up sg (4, i, 0) 6 2) i (((wk_up sg (4, i, 0) 6 2) (4, i, 0) 5) + (1 : Int32)) hi ) ml_X1_81 ⟨by decide, by decide, by decide, by decide⟩ rfl hl.1 rfl (Nat.le_of_ble_eq_true rfl) dX1_tryInstruction_116) hS (fun H locs hH hS => ?_)
    refine lv_goto (pc := 119) (tgt := 240) hx hb dX1_tryInstruction_119 (by decide) ?_
    exact wk_vret (pc := 240) X hH hS hr hlocks (by rw [ms_X1_tryInstruction, if_pos w4]) dX1_tryInstruction_240
  · have hg := hg.2 w4
    by_cases w5 : (mr_X1_operation P sg a1) = 1
    · have hg := hg.1 w5
      refine wk_tin (pc := 41) (off := 81) (tgt := 122) X w5 dX1_tryInstruction_41 (by decide) (by decide) (by decide) (by decide) ?_
      refine lv_aload_n (pc := 122) hx hb dX1_tryInstruction_122 rfl (lv_at hl 4 rfl) ?_
      refine lv_iload_n (pc := 123) hx hb dX1_tryInstruction_123 rfl (lv_at hl 5 rfl) ?_
      refine lv_iload (pc := 124) hx hb dX1_tryInstruction_124 (lv_at hl 0 rfl) ?_
      obtain ⟨o6, hg⟩ := hg
      refine wk_cv (wk_rV (pc := 126) (As := [.int a1, .int (mr_X1_fieldN P sg a1)]) (rest := []) X hH hS hz (sc_4 hSh hi) rfl ok_X1_answer (mk_X1_answer (l := l) (P := P) hSh sg i a1 (mr_X1_fieldN P sg a1) hi o6) ml_X1_84 ⟨by decide, by decide, by decide, by decide⟩ rfl hl.1 rfl (Nat.le_of_ble_eq_true rfl) dX1_tryInstruction_126) hS (fun H locs hH hS => ?_)
      refine lv_goto (pc := 129) (tgt := 240) hx hb dX1_tryInstruction_129 (by decide) ?_
      exact wk_vret (pc := 240) X hH hS hr hlocks (by rw [ms_X1_tryInstruction, if_neg w4, if_pos w5]) dX1_tryInstruction_240
    · have hg := hg.2 w5
      by_cases w7 : (mr_X1_operation P sg a1) = 2
      · have hg := hg.1 w7
        refine wk_tin (pc := 41) (off := 91) (tgt := 132) X w7 dX1_tryInstruction_41 (by decide) (by decide) (by decide) (by decide) ?_
        refine lv_aload_n (pc := 132) hx hb dX1_tryInstruction_132 rfl (lv_at hl 4 rfl) ?_
        refine lv_iload_n (pc := 133) hx hb dX1_tryInstruction_133 rfl (lv_at hl 5 rfl) ?_
        refine lv_iload_n (pc := 134) hx hb dX1_tryInstruction_134 rfl (lv_at hl 2 rfl) ?_
        refine lv_iload (pc := 135) hx hb dX1_tryInstruction_135 (lv_at hl 1 rfl) ?_
        refine lv_iadd (pc := 137) hx hb dX1_tryInstruction_137 ?_
        obtain ⟨o8, hg⟩ := hg
        refine wk_cv (wk_rV (pc := 138) (As := [.int a1, .int ((sg (6, i, 0) (Int32.toNatClampNeg (mr_X1_fieldB P sg a1))) + (sg (6, i, 0) (Int32.toNatClampNeg (mr_X1_fieldC P sg a1))))]) (rest := []) X hH hS hz (sc_4 hSh hi) rfl ok_X1_answer (mk_X1_answer (l := l) (P := P) hSh sg i a1 ((sg (6, i, 0) (Int32.toNatClampNeg (mr_X1_fieldB P sg a1))) + (sg (6, i, 0) (Int32.toNatClampNeg (mr_X1_fieldC P sg a1)))) hi o8) ml_X1_84 ⟨by decide, by decide, by decide, by decide⟩ rfl hl.1 rfl (Nat.le_of_ble_eq_true rfl) dX1_tryInstruction_138) hS (fun H locs hH hS => ?_)
        refine lv_goto (pc := 141) (tgt := 240) hx hb dX1_tryInstruction_141 (by decide) ?_
        exact wk_vret (pc := 240) X hH hS hr hlocks (by rw [ms_X1_tryInstruction, if_neg w4, if_neg w5, if_pos w7]) dX1_tryInstruction_240
      · have hg := hg.2 w7
        by_cases w9 : (mr_X1_operation P sg a1) = 3
        · have hg := hg.1 w9
          refine wk_tin (pc := 41) (off := 103) (tgt := 144) X w9 dX1_tryInstruction_41 (by decide) (by decide) (by decide) (by decide) ?_
          refine lv_aload_n (pc := 144) hx hb dX1_tryInstruction_144 rfl (lv_at hl 4 rfl) ?_
          refine lv_iload_n (pc := 145) hx hb dX1_tryInstruction_145 rfl (lv_at hl 5 rfl) ?_
          refine lv_iload_n (pc := 146) hx hb dX1_tryInstruction_146 rfl (lv_at hl 2 rfl) ?_
          refine lv_iload (pc := 147) hx hb dX1_tryInstruction_147 (lv_at hl 1 rfl) ?_
          refine lv_isub (pc := 149) hx hb dX1_tryInstruction_149 ?_
          obtain ⟨o10, hg⟩ := hg
          refine wk_cv (wk_rV (pc := 150) (As := [.int a1, .int ((sg (6, i, 0) (Int32.toNatClampNeg (mr_X1_fieldB P sg a1))) - (sg (6, i, 0) (Int32.toNatClampNeg (mr_X1_fieldC P sg a1))))]) (rest := []) X hH hS hz (sc_4 hSh hi) rfl ok_X1_answer (mk_X1_answer (l := l) (P := P) hSh sg i a1 ((sg (6, i, 0) (Int32.toNatClampNeg (mr_X1_fieldB P sg a1))) - (sg (6, i, 0) (Int32.toNatClampNeg (mr_X1_fieldC P sg a1)))) hi o10) ml_X1_84 ⟨by decide, by decide, by decide, by decide⟩ rfl hl.1 rfl (Nat.le_of_ble_eq_true rfl) dX1_tryInstruction_150) hS (fun H locs hH hS => ?_)
          refine lv_goto (pc := 153) (tgt := 240) hx hb dX1_tryInstruction_153 (by decide) ?_
          exact wk_vret (pc := 240) X hH hS hr hlocks (by rw [ms_X1_tryInstruction, if_neg w4, if_neg w5, if_neg w7, if_pos w9]) dX1_tryInstruction_240
        · have hg := hg.2 w9
          by_cases w11 : (mr_X1_operation P sg a1) = 4
          · have hg := hg.1 w11
            refine wk_tin (pc := 41) (off := 115) (tgt := 156) X w11 dX1_tryInstruction_41 (by decide) (by decide) (by decide) (by decide) ?_
            refine lv_aload_n (pc := 156) hx hb dX1_tryInstruction_156 rfl (lv_at hl 4 rfl) ?_
            refine lv_iload_n (pc := 157) hx hb dX1_tryInstruction_157 rfl (lv_at hl 5 rfl) ?_
            refine lv_iload_n (pc := 158) hx hb dX1_tryInstruction_158 rfl (lv_at hl 2 rfl) ?_
            refine lv_iload (pc := 159) hx hb dX1_tryInstruction_159 (lv_at hl 1 rfl) ?_
            refine lv_imul (pc := 161) hx hb dX1_tryInstruction_161 ?_
            obtain ⟨o12, hg⟩ := hg
            refine wk_cv (wk_rV (pc := 162) (As := [.int a1, .int ((sg (6, i, 0) (Int32.toNatClampNeg (mr_X1_fieldB P sg a1))) * (sg (6, i, 0) (Int32.toNatClampNeg (mr_X1_fieldC P sg a1))))]) (rest := []) X hH hS hz (sc_4 hSh hi) rfl ok_X1_answer (mk_X1_answer (l := l) (P := P) hSh sg i a1 ((sg (6, i, 0) (Int32.toNatClampNeg (mr_X1_fieldB P sg a1))) * (sg (6, i, 0) (Int32.toNatClampNeg (mr_X1_fieldC P sg a1)))) hi o12) ml_X1_84 ⟨by decide, by decide, by decide, by decide⟩ rfl hl.1 rfl (Nat.le_of_ble_eq_true rfl) dX1_tryInstruction_162) hS (fun H locs hH hS => ?_)
            refine lv_goto (pc := 165) (tgt := 240) hx hb dX1_tryInstruction_165 (by decide) ?_
            exact wk_vret (pc := 240) X hH hS hr hlocks (by rw [ms_X1_tryInstruction, if_neg w4, if_neg w5, if_neg w7, if_neg w9, if_pos w11]) dX1_tryInstruction_240
          · have hg := hg.2 w11
            by_cases w13 : (mr_X1_operation P sg a1) = 5
            · have hg := hg.1 w13
              refine wk_tin (pc := 41) (off := 127) (tgt := 168) X w13 dX1_tryInstruction_41 (by decide) (by decide) (by decide) (by decide) ?_
              refine lv_aload_n (pc := 168) hx hb dX1_tryInstruction_168 rfl (lv_at hl 4 rfl) ?_
              refine lv_iload_n (pc := 169) hx hb dX1_tryInstruction_169 rfl (lv_at hl 5 rfl) ?_
              refine lv_iload_n (pc := 170) hx hb dX1_tryInstruction_170 rfl (lv_at hl 2 rfl) ?_
              refine lv_iload (pc := 171) hx hb dX1_tryInstruction_171 (lv_at hl 0 rfl) ?_
              refine lv_iadd (pc := 173) hx hb dX1_tryInstruction_173 ?_
              obtain ⟨o14, hg⟩ := hg
              refine wk_cv (wk_rV (pc := 174) (As := [.int a1, .int ((sg (6, i, 0) (Int32.toNatClampNeg (mr_X1_fieldB P sg a1))) + (mr_X1_fieldN P sg a1))]) (rest := []) X hH hS hz (sc_4 hSh hi) rfl ok_X1_answer (mk_X1_answer (l := l) (P := P) hSh sg i a1 ((sg (6, i, 0) (Int32.toNatClampNeg (mr_X1_fieldB P sg a1))) + (mr_X1_fieldN P sg a1)) hi o14) ml_X1_84 ⟨by decide, by decide, by decide, by decide⟩ rfl hl.1 rfl (Nat.le_of_ble_eq_true rfl) dX1_tryInstruction_174) hS (fun H locs hH hS => ?_)
              refine lv_goto (pc := 177) (tgt := 240) hx hb dX1_tryInstruction_177 (by decide) ?_
              exact wk_vret (pc := 240) X hH hS hr hlocks (by rw [ms_X1_tryInstruction, if_neg w4, if_neg w5, if_neg w7, if_neg w9, if_neg w11, if_pos w13]) dX1_tryInstruction_240
            · have hg := hg.2 w13
              by_cases w15 : (mr_X1_operation P sg a1) = 6
              · have hg := hg.1 w15
                refine wk_tin (pc := 41) (off := 139) (tgt := 180) X w15 dX1_tryInstruction_41 (by decide) (by decide) (by decide) (by decide) ?_
                refine lv_aload_n (pc := 180) hx hb dX1_tryInstruction_180 rfl (lv_at hl 4 rfl) ?_
                refine lv_iload_n (pc := 181) hx hb dX1_tryInstruction_181 rfl (lv_at hl 5 rfl) ?_
                refine lv_aload_n (pc := 182) hx hb dX1_tryInstruction_182 rfl (lv_at hl 4 rfl) ?_
                refine wk_geti (pc := 183) X hH (4, i, 0) 0 (sc_4 hSh hi) rfl (by decide) rfl inX1 fl_X1_31 dX1_tryInstruction_183 ?_
                obtain ⟨o16, hg⟩ := hg
                refine wk_cv (wk_rV (pc := 186) (As := [.int a1, .int (sg (4, i, 0) 0)]) (rest := []) X hH hS hz (sc_4 hSh hi) rfl ok_X1_answer (mk_X1_answer (l := l) (P := P) hSh sg i a1 (sg (4, i, 0) 0) hi o16) ml_X1_84 ⟨by decide, by decide, by decide, by decide⟩ rfl hl.1 rfl (Nat.le_of_ble_eq_true rfl) dX1_tryInstruction_186) hS (fun H locs hH hS => ?_)
                refine lv_goto (pc := 189) (tgt := 240) hx hb dX1_tryInstruction_189 (by decide) ?_
                exact wk_vret (pc := 240) X hH hS hr hlocks (by rw [ms_X1_tryInstruction, if_neg w4, if_neg w5, if_neg w7, if_neg w9, if_neg w11, if_neg w13, if_pos w15]) dX1_tryInstruction_240
              · have hg := hg.2 w15
                by_cases w17 : (mr_X1_operation P sg a1) = 7
                · have hg := hg.1 w17
                  refine wk_tin (pc := 41) (off := 151) (tgt := 192) X w17 dX1_tryInstruction_41 (by decide) (by decide) (by decide) (by decide) ?_
                  refine lv_aload_n (pc := 192) hx hb dX1_tryInstruction_192 rfl (lv_at hl 4 rfl) ?_
                  refine lv_iload_n (pc := 193) hx hb dX1_tryInstruction_193 rfl (lv_at hl 3 rfl) ?_
                  refine lv_if_ne (pc := 194) (tgt := 202) hx hb dX1_tryInstruction_194 (by decide) (fun h18 => ?_) (fun h18 => ?_)
                  · have hg := hg.2 h18
                    refine lv_aload_n (pc := 202) hx hb dX1_tryInstruction_202 rfl (lv_at hl 4 rfl) ?_
                    refine wk_geti (pc := 203) X hH (4, i, 0) 5 (sc_4 hSh hi) rfl (by decide) rfl inX1 fl_X1_15 dX1_tryInstruction_203 ?_
                    refine lv_iconst (pc := 206) (v := 1) hx hb dX1_tryInstruction_206 (by decide) ?_
                    refine lv_iadd (pc := 207) hx hb dX1_tryInstruction_207 ?_
                    refine wk_cv (wk_rV (pc := 208) (As := [.int ((sg (4, i, 0) 5) + (1 : Int32))]) (rest := []) X hH hS hz (sc_4 hSh hi) rfl ok_X1_finish (mk_X1_finish (l := l) (P := P) hSh sg i ((sg (4, i, 0) 5) + (1 : Int32)) hi ) ml_X1_81 ⟨by decide, by decide, by decide, by decide⟩ rfl hl.1 rfl (Nat.le_of_ble_eq_true rfl) dX1_tryInstruction_208) hS (fun H locs hH hS => ?_)
                    refine lv_goto (pc := 211) (tgt := 240) hx hb dX1_tryInstruction_211 (by decide) ?_
                    exact wk_vret (pc := 240) X hH hS hr hlocks (by rw [ms_X1_tryInstruction, if_neg w4, if_neg w5, if_neg w7, if_neg w9, if_neg w11, if_neg w13, if_neg w15, if_pos w17, if_neg h18]) dX1_tryInstruction_240
                  · have hg := hg.1 h18
                    refine lv_iload (pc := 197) hx hb dX1_tryInstruction_197 (lv_at hl 0 rfl) ?_
                    refine lv_goto (pc := 199) (tgt := 208) hx hb dX1_tryInstruction_199 (by decide) ?_
                    refine wk_cv (wk_rV (pc := 208) (As := [.int (mr_X1_fieldN P sg a1)]) (rest := []) X hH hS hz (sc_4 hSh hi) rfl ok_X1_finish (mk_X1_finish (l := l) (P := P) hSh sg i (mr_X1_fieldN P sg a1) hi ) ml_X1_81 ⟨by decide, by decide, by decide, by decide⟩ rfl hl.1 rfl (Nat.le_of_ble_eq_true rfl) dX1_tryInstruction_208) hS (fun H locs hH hS => ?_)
                    refine lv_goto (pc := 211) (tgt := 240) hx hb dX1_tryInstruction_211 (by decide) ?_
                    exact wk_vret (pc := 240) X hH hS hr hlocks (by rw [ms_X1_tryInstruction, if_neg w4, if_neg w5, if_neg w7, if_neg w9, if_neg w11, if_neg w13, if_neg w15, if_pos w17, if_pos h18]) dX1_tryInstruction_240
                · have hg := hg.2 w17
                  by_cases w19 : (mr_X1_operation P sg a1) = 8
                  · have hg := hg.1 w19
                    refine wk_tin (pc := 41) (off := 173) (tgt := 214) X w19 dX1_tryInstruction_41 (by decide) (by decide) (by decide) (by decide) ?_
                    refine lv_aload_n (pc := 214) hx hb dX1_tryInstruction_214 rfl (lv_at hl 4 rfl) ?_
                    refine lv_iload (pc := 215) hx hb dX1_tryInstruction_215 (lv_at hl 0 rfl) ?_
                    refine wk_cv (wk_rV (pc := 217) (As := [.int (mr_X1_fieldN P sg a1)]) (rest := []) X hH hS hz (sc_4 hSh hi) rfl ok_X1_finish (mk_X1_finish (l := l) (P := P) hSh sg i (mr_X1_fieldN P sg a1) hi ) ml_X1_81 ⟨by decide, by decide, by decide, by decide⟩ rfl hl.1 rfl (Nat.le_of_ble_eq_true rfl) dX1_tryInstruction_217) hS (fun H locs hH hS => ?_)
                    refine lv_goto (pc := 220) (tgt := 240) hx hb dX1_tryInstruction_220 (by decide) ?_
                    exact wk_vret (pc := 240) X hH hS hr hlocks (by rw [ms_X1_tryInstruction, if_neg w4, if_neg w5, if_neg w7, if_neg w9, if_neg w11, if_neg w13, if_neg w15, if_neg w17, if_pos w19]) dX1_tryInstruction_240
                  · have hg := hg.2 w19
                    by_cases w20 : (mr_X1_operation P sg a1) = 9
                    · have hg := hg.1 w20
                      refine wk_tin (pc := 41) (off := 182) (tgt := 223) X w20 dX1_tryInstruction_41 (by decide) (by decide) (by decide) (by decide) ?_
                      refine lv_aload_n (pc := 223) hx hb dX1_tryInstruction_223 rfl (lv_at hl 4 rfl) ?_
                      refine lv_iload_n (pc := 224) hx hb dX1_tryInstruction_224 rfl (lv_at hl 5 rfl) ?_
                      refine lv_iload_n (pc := 225) hx hb dX1_tryInstruction_225 rfl (lv_at hl 2 rfl) ?_
                      refine lv_iload (pc := 226) hx hb dX1_tryInstruction_226 (lv_at hl 0 rfl) ?_
                      refine lv_iadd (pc := 228) hx hb dX1_tryInstruction_228 ?_
                      obtain ⟨o21, hg⟩ := hg
                      refine wk_cv (wk_rV (pc := 229) (As := [.int a1, .int ((sg (6, i, 0) (Int32.toNatClampNeg (mr_X1_fieldB P sg a1))) + (mr_X1_fieldN P sg a1))]) (rest := []) X hH hS hz (sc_4 hSh hi) rfl ok_X1_tryAccess (mk_X1_tryAccess (l := l) (P := P) hSh sg i a1 ((sg (6, i, 0) (Int32.toNatClampNeg (mr_X1_fieldB P sg a1))) + (mr_X1_fieldN P sg a1)) hi o21) ml_X1_88 ⟨by decide, by decide, by decide, by decide⟩ rfl hl.1 rfl (Nat.le_of_ble_eq_true rfl) dX1_tryInstruction_229) hS (fun H locs hH hS => ?_)
                      refine lv_goto (pc := 232) (tgt := 240) hx hb dX1_tryInstruction_232 (by decide) ?_
                      exact wk_vret (pc := 240) X hH hS hr hlocks (by rw [ms_X1_tryInstruction, if_neg w4, if_neg w5, if_neg w7, if_neg w9, if_neg w11, if_neg w13, if_neg w15, if_neg w17, if_neg w19, if_pos w20]) dX1_tryInstruction_240
                    · have hg := hg.2 w20
                      by_cases w22 : (mr_X1_operation P sg a1) = 10
                      · have hg := hg.1 w22
                        refine wk_tin (pc := 41) (off := 182) (tgt := 223) X w22 dX1_tryInstruction_41 (by decide) (by decide) (by decide) (by decide) ?_
                        refine lv_aload_n (pc := 223) hx hb dX1_tryInstruction_223 rfl (lv_at hl 4 rfl) ?_
                        refine lv_iload_n (pc := 224) hx hb dX1_tryInstruction_224 rfl (lv_at hl 5 rfl) ?_
                        refine lv_iload_n (pc := 225) hx hb dX1_tryInstruction_225 rfl (lv_at hl 2 rfl) ?_
                        refine lv_iload (pc := 226) hx hb dX1_tryInstruction_226 (lv_at hl 0 rfl) ?_
                        refine lv_iadd (pc := 228) hx hb dX1_tryInstruction_228 ?_
                        obtain ⟨o23, hg⟩ := hg
                        refine wk_cv (wk_rV (pc := 229) (As := [.int a1, .int ((sg (6, i, 0) (Int32.toNatClampNeg (mr_X1_fieldB P sg a1))) + (mr_X1_fieldN P sg a1))]) (rest := []) X hH hS hz (sc_4 hSh hi) rfl ok_X1_tryAccess (mk_X1_tryAccess (l := l) (P := P) hSh sg i a1 ((sg (6, i, 0) (Int32.toNatClampNeg (mr_X1_fieldB P sg a1))) + (mr_X1_fieldN P sg a1)) hi o23) ml_X1_88 ⟨by decide, by decide, by decide, by decide⟩ rfl hl.1 rfl (Nat.le_of_ble_eq_true rfl) dX1_tryInstruction_229) hS (fun H locs hH hS => ?_)
                        refine lv_goto (pc := 232) (tgt := 240) hx hb dX1_tryInstruction_232 (by decide) ?_
                        exact wk_vret (pc := 240) X hH hS hr hlocks (by rw [ms_X1_tryInstruction, if_neg w4, if_neg w5, if_neg w7, if_neg w9, if_neg w11, if_neg w13, if_neg w15, if_neg w17, if_neg w19, if_neg w20, if_pos w22]) dX1_tryInstruction_240
                      · have hg := hg.2 w22
                        by_cases w24 : (mr_X1_operation P sg a1) = 11
                        · have hg := hg.1 w24
                          refine wk_tin (pc := 41) (off := 182) (tgt := 223) X w24 dX1_tryInstruction_41 (by decide) (by decide) (by decide) (by decide) ?_
                          refine lv_aload_n (pc := 223) hx hb dX1_tryInstruction_223 rfl (lv_at hl 4 rfl) ?_
                          refine lv_iload_n (pc := 224) hx hb dX1_tryInstruction_224 rfl (lv_at hl 5 rfl) ?_
                          refine lv_iload_n (pc := 225) hx hb dX1_tryInstruction_225 rfl (lv_at hl 2 rfl) ?_
                          refine lv_iload (pc := 226) hx hb dX1_tryInstruction_226 (lv_at hl 0 rfl) ?_
                          refine lv_iadd (pc := 228) hx hb dX1_tryInstruction_228 ?_
                          obtain ⟨o25, hg⟩ := hg
                          refine wk_cv (wk_rV (pc := 229) (As := [.int a1, .int ((sg (6, i, 0) (Int32.toNatClampNeg (mr_X1_fieldB P sg a1))) + (mr_X1_fieldN P sg a1))]) (rest := []) X hH hS hz (sc_4 hSh hi) rfl ok_X1_tryAccess (mk_X1_tryAccess (l := l) (P := P) hSh sg i a1 ((sg (6, i, 0) (Int32.toNatClampNeg (mr_X1_fieldB P sg a1))) + (mr_X1_fieldN P sg a1)) hi o25) ml_X1_88 ⟨by decide, by decide, by decide, by decide⟩ rfl hl.1 rfl (Nat.le_of_ble_eq_true rfl) dX1_tryInstruction_229) hS (fun H locs hH hS => ?_)
                          refine lv_goto (pc := 232) (tgt := 240) hx hb dX1_tryInstruction_232 (by decide) ?_
                          exact wk_vret (pc := 240) X hH hS hr hlocks (by rw [ms_X1_tryInstruction, if_neg w4, if_neg w5, if_neg w7, if_neg w9, if_neg w11, if_neg w13, if_neg w15, if_neg w17, if_neg w19, if_neg w20, if_neg w22, if_pos w24]) dX1_tryInstruction_240
                        · have hg := hg.2 w24
                          refine lv_tableOut (pc := 41) (tgt := 235) hx hb dX1_tryInstruction_41 (wk_tout (fun v h1 h2 hv => ?_)) (by decide) ?_
                          · have n0 := lv_neT w4 (show Int32.toInt 0 = 0 from by decide); have n1 := lv_neT w5 (show Int32.toInt 1 = 1 from by decide); have n2 := lv_neT w7 (show Int32.toInt 2 = 2 from by decide); have n3 := lv_neT w9 (show Int32.toInt 3 = 3 from by decide); have n4 := lv_neT w11 (show Int32.toInt 4 = 4 from by decide); have n5 := lv_neT w13 (show Int32.toInt 5 = 5 from by decide); have n6 := lv_neT w15 (show Int32.toInt 6 = 6 from by decide); have n7 := lv_neT w17 (show Int32.toInt 7 = 7 from by decide); have n8 := lv_neT w19 (show Int32.toInt 8 = 8 from by decide); have n9 := lv_neT w20 (show Int32.toInt 9 = 9 from by decide); have n10 := lv_neT w22 (show Int32.toInt 10 = 10 from by decide); have n11 := lv_neT w24 (show Int32.toInt 11 = 11 from by decide); omega
                          refine lv_aload_n (pc := 235) hx hb dX1_tryInstruction_235 rfl (lv_at hl 4 rfl) ?_
                          refine lv_iconst (pc := 236) (v := 3) hx hb dX1_tryInstruction_236 (by decide) ?_
                          refine wk_puti (pc := 237) X hH hS (4, i, 0) 6 tyX1_ok nmX1 (sc_4 hSh hi) rfl (by decide) rfl inX1 fl_X1_19 rfl rfl rfl dX1_tryInstruction_237 (fun H locs hH hS => ?_)
                          exact wk_vret (pc := 240) X hH hS hr hlocks (by rw [ms_X1_tryInstruction, if_neg w4, if_neg w5, if_neg w7, if_neg w9, if_neg w11, if_neg w13, if_neg w15, if_neg w17, if_neg w19, if_neg w20, if_neg w22, if_neg w24]) dX1_tryInstruction_240

def ms_X1_goOn (P : Nat → Nat) (sg : wk_Sg) (i : Nat) : wk_Sg := (if (sg (4, i, 0) 6) = 0 then (if (mr_X4_within P sg (sg (4, i, 0) 5) (nI (P 4))) = 0 then (wk_up sg (4, i, 0) 6 3) else (ms_X1_tryInstruction P sg i (sg (5, i, 0) (Int32.toNatClampNeg (sg (4, i, 0) 5))))) else sg)
def mg_X1_goOn (P : Nat → Nat) (sg : wk_Sg) (i : Nat) : Prop := (((sg (4, i, 0) 6) = 0 → (((mr_X4_within P sg (sg (4, i, 0) 5) (nI (P 4))) = 0 → True) ∧ (¬ (mr_X4_within P sg (sg (4, i, 0) 5) (nI (P 4))) = 0 → (vp_in (sg (4, i, 0) 5) (P 4) ∧ (mg_X1_tryInstruction P sg i (sg (5, i, 0) (Int32.toNatClampNeg (sg (4, i, 0) 5))) ∧ True))))) ∧ (¬ (sg (4, i, 0) 6) = 0 → True))
set_option maxHeartbeats 4000000 in
set_option maxRecDepth 100000 in
theorem mk_X1_goOn {l : Launch} {D : va_G} {T : wk_T} {z0 : Nat} {ad : wk_K3 → Nat} {sh : wk_Sh} {P : Nat → Nat} (hSh : sc_Sh T P sh) (sg : wk_Sg) (i : Nat) (hi : i < P 0) (hg : mg_X1_goOn P sg i) : wk_Mv l yX1_goOn cX1_goOn 1 none 5 119 D T z0 ad sh [.ref (ad (4, i, 0))] sg (ms_X1_goOn P sg i) := by
  refine Met.ofW (cc := cX1_goOn) (maxL := 1) (ret := none) (by decide) rfl ?_
  intro p e s m args below meth c s₁ B hml hv
  obtain ⟨rfl, hz, hH, hK⟩ := hv
  have hx := B.exec
  have hb := B.bytes
  have hr := B.returns
  have hlocks := B.notSynchronized
  have hts : ∀ w ∈ wk_B, w.before _ s = true := fun w hw => atoms_spec (ws := Cond.code yX1_goOn cX1_goOn 1 none :: wk_B) B.pre w (List.mem_cons_of_mem _ hw)
  have X : wk_C p m c cX1_goOn 1 s _ RX1 D T := ⟨⟨hx, hb, hml, findClass_of_methodNamed B.named, hts⟩, hK⟩
  have hS : va_S (wk_A z0) s.heap s.heap [] := va_S.rf
  have hl := lv_entry ([.ref (ad (4, i, 0))]) (n := 1) (Nat.le_of_ble_eq_true rfl)
  rw [lg_entry_eq]
  generalize (lg_sl ([.ref (ad (4, i, 0))]) ++ List.replicate (1 - (lg_sl ([.ref (ad (4, i, 0))])).length) Slot.unset).toArray = ls at hl ⊢
  have hl : lv_has ls 1 [(0, .ref (ad (4, i, 0)))] := hl
  unfold mg_X1_goOn at hg
  refine lv_aload_n (pc := 0) hx hb dX1_goOn_0 rfl (lv_at hl 0 rfl) ?_
  refine wk_geti (pc := 1) X hH (4, i, 0) 6 (sc_4 hSh hi) rfl (by decide) rfl inX1 fl_X1_19 dX1_goOn_1 ?_
  refine lv_if_eq (pc := 4) (tgt := 8) hx hb dX1_goOn_4 (by decide) (fun h1 => ?_) (fun h1 => ?_)
  · have hg := hg.1 h1
    refine lv_aload_n (pc := 8) hx hb dX1_goOn_8 rfl (lv_at hl 0 rfl) ?_
    refine wk_geti (pc := 9) X hH (4, i, 0) 5 (sc_4 hSh hi) rfl (by decide) rfl inX1 fl_X1_15 dX1_goOn_9 ?_
    refine lv_aload_n (pc := 12) hx hb dX1_goOn_12 rfl (lv_at hl 0 rfl) ?_
    refine wk_getr (pc := 13) X hH (4, i, 0) 2 (5, i, 0) (sc_4 hSh hi) rfl (by decide) rfl inX1 fl_X1_38 dX1_goOn_13 ?_
    refine wk_alenI (pc := 16) X hH (5, i, 0) (sc_5 hSh hi) dX1_goOn_16 ?_
    refine wk_ci (wk_rN (pc := 17) (As := [.int (sg (4, i, 0) 5), .int (nI (P 4))]) (rest := []) X hH hS hz ok_X4_within (mk_X4_within (l := l) (P := P)  sg (sg (4, i, 0) 5) (nI (P 4))  ) nl_X1_59 ⟨by decide, by decide, by decide, by decide⟩ rfl hl.1 rfl (Nat.le_of_ble_eq_true rfl) dX1_goOn_17) hS (fun H locs hH hS => ?_)
    refine lv_if_eq (pc := 20) (tgt := 39) hx hb dX1_goOn_20 (by decide) (fun h2 => ?_) (fun h2 => ?_)
    · have hg := hg.1 h2
      refine lv_aload_n (pc := 39) hx hb dX1_goOn_39 rfl (lv_at hl 0 rfl) ?_
      refine lv_iconst (pc := 40) (v := 3) hx hb dX1_goOn_40 (by decide) ?_
      refine wk_puti (pc := 41) X hH hS (4, i, 0) 6 tyX1_ok nmX1 (sc_4 hSh hi) rfl (by decide) rfl inX1 fl_X1_19 rfl rfl rfl dX1_goOn_41 (fun H locs hH hS => ?_)
      exact wk_vret (pc := 44) X hH hS hr hlocks (by rw [ms_X1_goOn, if_pos h1, if_pos h2]) dX1_goOn_44
    · have hg := hg.2 h2
      refine lv_aload_n (pc := 23) hx hb dX1_goOn_23 rfl (lv_at hl 0 rfl) ?_
      refine lv_aload_n (pc := 24) hx hb dX1_goOn_24 rfl (lv_at hl 0 rfl) ?_
      refine wk_getr (pc := 25) X hH (4, i, 0) 2 (5, i, 0) (sc_4 hSh hi) rfl (by decide) rfl inX1 fl_X1_38 dX1_goOn_25 ?_
      refine lv_aload_n (pc := 28) hx hb dX1_goOn_28 rfl (lv_at hl 0 rfl) ?_
      refine wk_geti (pc := 29) X hH (4, i, 0) 5 (sc_4 hSh hi) rfl (by decide) rfl inX1 fl_X1_15 dX1_goOn_29 ?_
      obtain ⟨o3, hg⟩ := hg
      refine wk_iald (pc := 32) X hH (5, i, 0) (sc_5 hSh hi) o3 dX1_goOn_32 ?_
      obtain ⟨o4, hg⟩ := hg
      refine wk_cv (wk_rV (pc := 33) (As := [.int (sg (5, i, 0) (Int32.toNatClampNeg (sg (4, i, 0) 5)))]) (rest := []) X hH hS hz (sc_4 hSh hi) rfl ok_X1_tryInstruction (mk_X1_tryInstruction (l := l) (P := P) hSh sg i (sg (5, i, 0) (Int32.toNatClampNeg (sg (4, i, 0) 5))) hi o4) ml_X1_63 ⟨by decide, by decide, by decide, by decide⟩ rfl hl.1 rfl (Nat.le_of_ble_eq_true rfl) dX1_goOn_33) hS (fun H locs hH hS => ?_)
      refine lv_goto (pc := 36) (tgt := 44) hx hb dX1_goOn_36 (by decide) ?_
      exact wk_vret (pc := 44) X hH hS hr hlocks (by rw [ms_X1_goOn, if_pos h1, if_neg h2]) dX1_goOn_44
  · have hg := hg.2 h1
    exact wk_vret (pc := 7) X hH hS hr hlocks (by rw [ms_X1_goOn, if_neg h1]) dX1_goOn_7

def mr_X4_bus (P : Nat → Nat) (sg : wk_Sg)  : Int32 := (mr_X0_doNextPhase P sg)
def ms_X4_bus (P : Nat → Nat) (sg : wk_Sg)  : wk_Sg := (ms_X0_doNextPhase P sg)
def mg_X4_bus (P : Nat → Nat) (sg : wk_Sg)  : Prop := (mg_X0_doNextPhase P sg ∧ True)
set_option maxHeartbeats 4000000 in
set_option maxRecDepth 100000 in
theorem mk_X4_bus {l : Launch} {D : va_G} {T : wk_T} {z0 : Nat} {ad : wk_K3 → Nat} {sh : wk_Sh} {P : Nat → Nat} (hSh : sc_Sh T P sh) (sg : wk_Sg)   (hg : mg_X4_bus P sg ) : wk_Mi l yX4_bus cX4_bus 1 (some .int) 5 113 D T z0 ad sh [.ref (ad (0, 0, 0))] sg (mr_X4_bus P sg ) (ms_X4_bus P sg ) := by
  refine Met.ofW (cc := cX4_bus) (maxL := 1) (ret := (some .int)) (by decide) rfl ?_
  intro p e s m args below meth c s₁ B hml hv
  obtain ⟨rfl, hz, hH, hK⟩ := hv
  have hx := B.exec
  have hb := B.bytes
  have hr := B.returns
  have hlocks := B.notSynchronized
  have hts : ∀ w ∈ wk_B, w.before _ s = true := fun w hw => atoms_spec (ws := Cond.code yX4_bus cX4_bus 1 (some .int) :: wk_B) B.pre w (List.mem_cons_of_mem _ hw)
  have X : wk_C p m c cX4_bus 1 s _ RX4 D T := ⟨⟨hx, hb, hml, findClass_of_methodNamed B.named, hts⟩, hK⟩
  have hS : va_S (wk_A z0) s.heap s.heap [] := va_S.rf
  have hl := lv_entry ([.ref (ad (0, 0, 0))]) (n := 1) (Nat.le_of_ble_eq_true rfl)
  rw [lg_entry_eq]
  generalize (lg_sl ([.ref (ad (0, 0, 0))]) ++ List.replicate (1 - (lg_sl ([.ref (ad (0, 0, 0))])).length) Slot.unset).toArray = ls at hl ⊢
  have hl : lv_has ls 1 [(0, .ref (ad (0, 0, 0)))] := hl
  unfold mg_X4_bus at hg
  refine lv_aload_n (pc := 0) hx hb dX4_bus_0 rfl (lv_at hl 0 rfl) ?_
  refine wk_getr (pc := 1) X hH (0, 0, 0) 2 (10, 0, 0) (sc_0 hSh) rfl (by decide) rfl inX4 fl_X4_40 dX4_bus_1 ?_
  obtain ⟨o1, hg⟩ := hg
  refine wk_ci (wk_rV (pc := 4) (As := []) (rest := []) X hH hS hz (sc_10 hSh) rfl ok_X0_doNextPhase (mk_X0_doNextPhase (l := l) (P := P) hSh sg  o1) ml_X4_69 ⟨by decide, by decide, by decide, by decide⟩ rfl hl.1 rfl (Nat.le_of_ble_eq_true rfl) dX4_bus_4) hS (fun H locs hH hS => ?_)
  exact wk_iret (pc := 7) X hH hS hr hlocks (by rw [mr_X4_bus]) (by rw [ms_X4_bus]) dX4_bus_7

def mr_X4_hasCore (P : Nat → Nat) (sg : wk_Sg) (a1 : Int32) : Int32 := (mr_X4_within P sg a1 (nI (P 0)))
theorem mz_X4_hasCore (P : Nat → Nat) (sg : wk_Sg) (a1 : Int32) : mr_X4_hasCore P sg a1 = 0 ∨ mr_X4_hasCore P sg a1 = 1 := by
  unfold mr_X4_hasCore
  first | exact Or.inl rfl | exact Or.inr rfl | apply mz_X4_within
set_option maxHeartbeats 4000000 in
set_option maxRecDepth 100000 in
theorem mk_X4_hasCore {l : Launch} {D : va_G} {T : wk_T} {z0 : Nat} {ad : wk_K3 → Nat} {sh : wk_Sh} {P : Nat → Nat} (hSh : sc_Sh T P sh) (sg : wk_Sg) (a1 : Int32)   : wk_Mi l yX4_hasCore cX4_hasCore 2 (some .boolean) 1 21 D T z0 ad sh [.ref (ad (0, 0, 0)), .int a1] sg (mr_X4_hasCore P sg a1) sg := by
  refine Met.ofW (cc := cX4_hasCore) (maxL := 2) (ret := (some .boolean)) (by decide) rfl ?_
  intro p e s m args below meth c s₁ B hml hv
  obtain ⟨rfl, hz, hH, hK⟩ := hv
  have hx := B.exec
  have hb := B.bytes
  have hr := B.returns
  have hlocks := B.notSynchronized
  have hts : ∀ w ∈ wk_B, w.before _ s = true := fun w hw => atoms_spec (ws := Cond.code yX4_hasCore cX4_hasCore 2 (some .boolean) :: wk_B) B.pre w (List.mem_cons_of_mem _ hw)
  have X : wk_C p m c cX4_hasCore 2 s _ RX4 D T := ⟨⟨hx, hb, hml, findClass_of_methodNamed B.named, hts⟩, hK⟩
  have hS : va_S (wk_A z0) s.heap s.heap [] := va_S.rf
  have hl := lv_entry ([.ref (ad (0, 0, 0)), .int a1]) (n := 2) (Nat.le_of_ble_eq_true rfl)
  rw [lg_entry_eq]
  generalize (lg_sl ([.ref (ad (0, 0, 0)), .int a1]) ++ List.replicate (2 - (lg_sl ([.ref (ad (0, 0, 0)), .int a1])).length) Slot.unset).toArray = ls at hl ⊢
  have hl : lv_has ls 2 [(0, .ref (ad (0, 0, 0))), (1, .int a1)] := hl
  refine lv_iload_n (pc := 0) hx hb dX4_hasCore_0 rfl (lv_at hl 1 rfl) ?_
  refine lv_aload_n (pc := 1) hx hb dX4_hasCore_1 rfl (lv_at hl 0 rfl) ?_
  refine wk_getr (pc := 2) X hH (0, 0, 0) 1 (3, 0, 0) (sc_0 hSh) rfl (by decide) rfl inX4 fl_X4_28 dX4_hasCore_2 ?_
  refine wk_alenR (pc := 5) X hH (3, 0, 0) 1 (sc_3 hSh) rfl dX4_hasCore_5 ?_
  refine wk_ci (wk_rS (pc := 6) (As := [.int a1, .int (nI (P 0))]) (rest := []) X hH hS hz ok_X4_within (mk_X4_within (l := l) (P := P)  sg a1 (nI (P 0))  ) ml_X4_52 ⟨by decide, by decide, by decide, by decide⟩ rfl hl.1 rfl (Nat.le_of_ble_eq_true rfl) dX4_hasCore_6) hS (fun H locs hH hS => ?_)
  exact wk_zret (pc := 9) X hH hS hr hlocks (mz_X4_within P sg a1 (nI (P 0))) (by rw [mr_X4_hasCore]) (rfl) dX4_hasCore_9
