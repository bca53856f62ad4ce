def mr_X0_needs (P : Nat → Nat) (sg : wk_Sg) (a1 : Int32) (a2 : Int32) : Int32 := (if (sg (10, 0, 0) 5) = 0 then 0 else (if (mr_X3_holds P sg (Int32.toNatClampNeg a1) (Int32.toNatClampNeg a2) (sg (10, 0, 0) 8)) = 0 then (if a1 = (sg (10, 0, 0) 6) then (if a2 = (mr_X1_indexFor P sg (Int32.toNatClampNeg a1) (sg (10, 0, 0) 8)) then 1 else 0) else 0) else 1))
def mg_X0_needs (P : Nat → Nat) (sg : wk_Sg) (a1 : Int32) (a2 : Int32) : Prop := (((sg (10, 0, 0) 5) = 0 → True) ∧ (¬ (sg (10, 0, 0) 5) = 0 → (vp_in a1 (P 0) ∧ (vp_in a2 (P 1) ∧ (((mr_X3_holds P sg (Int32.toNatClampNeg a1) (Int32.toNatClampNeg a2) (sg (10, 0, 0) 8)) = 0 → ((a1 = (sg (10, 0, 0) 6) → (mg_X1_indexFor P sg (Int32.toNatClampNeg a1) (sg (10, 0, 0) 8) ∧ ((a2 = (mr_X1_indexFor P sg (Int32.toNatClampNeg a1) (sg (10, 0, 0) 8)) → True) ∧ (¬ a2 = (mr_X1_indexFor P sg (Int32.toNatClampNeg a1) (sg (10, 0, 0) 8)) → True)))) ∧ (¬ a1 = (sg (10, 0, 0) 6) → True))) ∧ (¬ (mr_X3_holds P sg (Int32.toNatClampNeg a1) (Int32.toNatClampNeg a2) (sg (10, 0, 0) 8)) = 0 → True))))))
theorem mz_X0_needs (P : Nat → Nat) (sg : wk_Sg) (a1 : Int32) (a2 : Int32) : mr_X0_needs P sg a1 a2 = 0 ∨ mr_X0_needs P sg a1 a2 = 1 := by
  unfold mr_X0_needs
  repeat' split
  all_goals first | exact Or.inl rfl | exact Or.inr rfl | apply mz_X3_holds
set_option maxHeartbeats 4000000 in
set_option maxRecDepth 100000 in
theorem mk_X0_needs {l : Launch} {D : va_G} {T : wk_T} {z0 : Nat} {ad : wk_K3 → Nat} {sh : wk_Sh} {P : Nat → Nat} (hSh : sc_Sh T P sh) (sg : wk_Sg) (a1 : Int32) (a2 : Int32)  (hg : mg_X0_needs P sg a1 a2) : wk_Mi l yX0_needs cX0_needs 4 (some .boolean) 1 21 D T z0 ad sh [.ref (ad (10, 0, 0)), .int a1, .int a2] sg (mr_X0_needs P sg a1 a2) sg := by
  refine Met.ofW (cc := cX0_needs) (maxL := 4) (ret := (some .boolean)) (by decide) rfl ?_
  intro p e s m args below meth c s₁ B hml hv
  obtain ⟨rfl, hz, hH, hK⟩ := hv
  have hx := B.exec
  have hb := B.bytes
  have hr := B.returns
  have hlocks := B.notSynchronized
  have hts : ∀ w ∈ wk_B, w.before _ s = true := fun w hw => atoms_spec (ws := Cond.code yX0_needs cX0_needs 4 (some .boolean) :: wk_B) B.pre w (List.mem_cons_of_mem _ hw)
  have X : wk_C p m c cX0_needs 4 s _ RX0 D T := ⟨⟨hx, hb, hml, findClass_of_methodNamed B.named, hts⟩, hK⟩
  have hS : va_S (wk_A z0) s.heap s.heap [] := va_S.rf
  have hl := lv_entry ([.ref (ad (10, 0, 0)), .int a1, .int a2]) (n := 4) (Nat.le_of_ble_eq_true rfl)
  rw [lg_entry_eq]
  generalize (lg_sl ([.ref (ad (10, 0, 0)), .int a1, .int a2]) ++ List.replicate (4 - (lg_sl ([.ref (ad (10, 0, 0)), .int a1, .int a2])).length) Slot.unset).toArray = ls at hl ⊢
  have hl : lv_has ls 4 [(0, .ref (ad (10, 0, 0))), (1, .int a1), (2, .int a2)] := hl
  unfold mg_X0_needs at hg
  refine lv_aload_n (pc := 0) hx hb dX0_needs_0 rfl (lv_at hl 0 rfl) ?_
  refine wk_geti (pc := 1) X hH (10, 0, 0) 5 (sc_10 hSh) rfl (by decide) rfl inX0 fl_X0_19 dX0_needs_1 ?_
  refine lv_if_ne (pc := 4) (tgt := 9) hx hb dX0_needs_4 (by decide) (fun h1 => ?_) (fun h1 => ?_)
  · have hg := hg.2 h1
    refine lv_aload_n (pc := 9) hx hb dX0_needs_9 rfl (lv_at hl 0 rfl) ?_
    refine wk_getr (pc := 10) X hH (10, 0, 0) 0 (3, 0, 0) (sc_10 hSh) rfl (by decide) rfl inX0 fl_X0_32 dX0_needs_10 ?_
    refine lv_iload_n (pc := 13) hx hb dX0_needs_13 rfl (lv_at hl 1 rfl) ?_
    obtain ⟨o2, hg⟩ := hg
    have b3 := wk_inlt o2
    refine wk_aald (pc := 14) X hH (3, 0, 0) 1 (4, (Int32.toNatClampNeg a1), 0) (sc_3 hSh) rfl o2 (lk_3p b3) dX0_needs_14 ?_
    refine lv_astore_n (pc := 15) (lv' := [(3, .ref (ad (4, (Int32.toNatClampNeg a1), 0))), (0, .ref (ad (10, 0, 0))), (1, .int a1), (2, .int a2)]) hx hb dX0_needs_15 rfl hl (by decide) rfl (fun ls hl => ?_)
    refine lv_aload_n (pc := 16) hx hb dX0_needs_16 rfl (lv_at hl 0 rfl) ?_
    refine wk_getr (pc := 17) X hH (4, (Int32.toNatClampNeg a1), 0) 4 (7, (Int32.toNatClampNeg a1), 0) (sc_4 hSh b3) rfl (by decide) rfl inX1 fl_X0_48 dX0_needs_17 ?_
    refine lv_iload_n (pc := 20) hx hb dX0_needs_20 rfl (lv_at hl 3 rfl) ?_
    obtain ⟨o4, hg⟩ := hg
    have b5 := wk_inlt o4
    refine wk_aald (pc := 21) X hH (7, (Int32.toNatClampNeg a1), 0) 2 (8, (Int32.toNatClampNeg a1), (Int32.toNatClampNeg a2)) (sc_7 hSh b3) rfl o4 (lk_7p b5) dX0_needs_21 ?_
    refine lv_aload_n (pc := 22) hx hb dX0_needs_22 rfl (lv_at hl 1 rfl) ?_
    refine wk_geti (pc := 23) X hH (10, 0, 0) 8 (sc_10 hSh) rfl (by decide) rfl inX0 fl_X0_29 dX0_needs_23 ?_
    refine wk_ci (wk_rV (pc := 26) (As := [.int (sg (10, 0, 0) 8)]) (rest := []) X hH hS hz (sc_8 hSh b3 b5) rfl ok_X3_holds (mk_X3_holds (l := l) (P := P) hSh sg (Int32.toNatClampNeg a1) (Int32.toNatClampNeg a2) (sg (10, 0, 0) 8) b3 b5 ) ml_X0_54 ⟨by decide, by decide, by decide, by decide⟩ rfl hl.1 rfl (Nat.le_of_ble_eq_true rfl) dX0_needs_26) hS (fun H locs hH hS => ?_)
    refine lv_if_ne (pc := 29) (tgt := 52) hx hb dX0_needs_29 (by decide) (fun h6 => ?_) (fun h6 => ?_)
    · have hg := hg.2 h6
      refine lv_iconst (pc := 52) (v := 1) hx hb dX0_needs_52 (by decide) ?_
      refine lv_goto (pc := 53) (tgt := 57) hx hb dX0_needs_53 (by decide) ?_
      exact wk_zret (pc := 57) X hH hS hr hlocks (Or.inr rfl) (by rw [mr_X0_needs, if_neg h1, if_neg h6]) (rfl) dX0_needs_57
    · have hg := hg.1 h6
      refine lv_iload_n (pc := 32) hx hb dX0_needs_32 rfl (lv_at hl 2 rfl) ?_
      refine lv_aload_n (pc := 33) hx hb dX0_needs_33 rfl (lv_at hl 1 rfl) ?_
      refine wk_geti (pc := 34) X hH (10, 0, 0) 6 (sc_10 hSh) rfl (by decide) rfl inX0 fl_X0_23 dX0_needs_34 ?_
      refine lv_icmp_ne (pc := 37) (tgt := 56) hx hb dX0_needs_37 (by decide) (fun h7 => ?_) (fun h7 => ?_)
      · have hg := hg.2 h7
        refine lv_iconst (pc := 56) (v := 0) hx hb dX0_needs_56 (by decide) ?_
        exact wk_zret (pc := 57) X hH hS hr hlocks (Or.inl rfl) (by rw [mr_X0_needs, if_neg h1, if_pos h6, if_neg h7]) (rfl) dX0_needs_57
      · have hg := hg.1 h7
        refine lv_iload_n (pc := 40) hx hb dX0_needs_40 rfl (lv_at hl 3 rfl) ?_
        refine lv_aload_n (pc := 41) hx hb dX0_needs_41 rfl (lv_at hl 0 rfl) ?_
        refine lv_aload_n (pc := 42) hx hb dX0_needs_42 rfl (lv_at hl 1 rfl) ?_
        refine wk_geti (pc := 43) X hH (10, 0, 0) 8 (sc_10 hSh) rfl (by decide) rfl inX0 fl_X0_29 dX0_needs_43 ?_
        obtain ⟨o8, hg⟩ := hg
        refine wk_ci (wk_rV (pc := 46) (As := [.int (sg (10, 0, 0) 8)]) (rest := [.int a2]) X hH hS hz (sc_4 hSh b3) rfl ok_X1_indexFor (mk_X1_indexFor (l := l) (P := P) hSh sg (Int32.toNatClampNeg a1) (sg (10, 0, 0) 8) b3 o8) ml_X0_60 ⟨by decide, by decide, by decide, by decide⟩ rfl hl.1 rfl (Nat.le_of_ble_eq_true rfl) dX0_needs_46) hS (fun H locs hH hS => ?_)
        refine lv_icmp_ne (pc := 49) (tgt := 56) hx hb dX0_needs_49 (by decide) (fun h9 => ?_) (fun h9 => ?_)
        · have hg := hg.2 h9
          refine lv_iconst (pc := 56) (v := 0) hx hb dX0_needs_56 (by decide) ?_
          exact wk_zret (pc := 57) X hH hS hr hlocks (Or.inl rfl) (by rw [mr_X0_needs, if_neg h1, if_pos h6, if_pos h7, if_neg h9]) (rfl) dX0_needs_57
        · have hg := hg.1 h9
          refine lv_iconst (pc := 52) (v := 1) hx hb dX0_needs_52 (by decide) ?_
          refine lv_goto (pc := 53) (tgt := 57) hx hb dX0_needs_53 (by decide) ?_
          exact wk_zret (pc := 57) X hH hS hr hlocks (Or.inr rfl) (by rw [mr_X0_needs, if_neg h1, if_pos h6, if_pos h7, if_pos h9]) (rfl) dX0_needs_57
  · have hg := hg.1 h1
    refine lv_iconst (pc := 7) (v := 0) hx hb dX0_needs_7 (by decide) ?_
    exact wk_zret (pc := 8) X hH hS hr hlocks (Or.inl rfl) (by rw [mr_X0_needs, if_pos h1]) (rfl) dX0_needs_8

def mr_X1_fieldA (P : Nat → Nat) (sg : wk_Sg) (a1 : Int32) : Int32 := ((a1 >>> ((4 : Int32) &&& 31)) &&& (3 : Int32))
set_option maxHeartbeats 4000000 in
set_option maxRecDepth 100000 in
theorem mk_X1_fieldA {l : Launch} {D : va_G} {T : wk_T} {z0 : Nat} {ad : wk_K3 → Nat} {sh : wk_Sh} {P : Nat → Nat} (sg : wk_Sg) (a1 : Int32)   : wk_Mi l yX1_fieldA cX1_fieldA 1 (some .int) 0 0 D T z0 ad sh [.int a1] sg (mr_X1_fieldA P sg a1) sg := by
  refine Met.ofW (cc := cX1_fieldA) (maxL := 1) (ret := (some .int)) (by decide) rfl ?_
  intro p e s m args below meth c s₁ B hml hv
  obtain ⟨rfl, hz, hH, hK⟩ := hv
  have hx := B.exec
  have hb := B.bytes
  have hr := B.returns
  have hlocks := B.notSynchronized
  have hts : ∀ w ∈ wk_B, w.before _ s = true := fun w hw => atoms_spec (ws := Cond.code yX1_fieldA cX1_fieldA 1 (some .int) :: wk_B) B.pre w (List.mem_cons_of_mem _ hw)
  have X : wk_C p m c cX1_fieldA 1 s _ RX1 D T := ⟨⟨hx, hb, hml, findClass_of_methodNamed B.named, hts⟩, hK⟩
  have hS : va_S (wk_A z0) s.heap s.heap [] := va_S.rf
  have hl := lv_entry ([.int a1]) (n := 1) (Nat.le_of_ble_eq_true rfl)
  rw [lg_entry_eq]
  generalize (lg_sl ([.int a1]) ++ List.replicate (1 - (lg_sl ([.int a1])).length) Slot.unset).toArray = ls at hl ⊢
  have hl : lv_has ls 1 [(0, .int a1)] := hl
  refine lv_iload_n (pc := 0) hx hb dX1_fieldA_0 rfl (lv_at hl 0 rfl) ?_
  refine lv_iconst (pc := 1) (v := 4) hx hb dX1_fieldA_1 (by decide) ?_
  refine lv_ishr (pc := 2) hx hb dX1_fieldA_2 ?_
  refine lv_iconst (pc := 3) (v := 3) hx hb dX1_fieldA_3 (by decide) ?_
  refine lv_iand (pc := 4) hx hb dX1_fieldA_4 ?_
  exact wk_iret (pc := 5) X hH hS hr hlocks (by rw [mr_X1_fieldA]) (rfl) dX1_fieldA_5

def mr_X1_operation (P : Nat → Nat) (sg : wk_Sg) (a1 : Int32) : Int32 := (a1 &&& (15 : Int32))
set_option maxHeartbeats 4000000 in
set_option maxRecDepth 100000 in
theorem mk_X1_operation {l : Launch} {D : va_G} {T : wk_T} {z0 : Nat} {ad : wk_K3 → Nat} {sh : wk_Sh} {P : Nat → Nat} (sg : wk_Sg) (a1 : Int32)   : wk_Mi l yX1_operation cX1_operation 1 (some .int) 0 0 D T z0 ad sh [.int a1] sg (mr_X1_operation P sg a1) sg := by
  refine Met.ofW (cc := cX1_operation) (maxL := 1) (ret := (some .int)) (by decide) rfl ?_
  intro p e s m args below meth c s₁ B hml hv
  obtain ⟨rfl, hz, hH, hK⟩ := hv
  have hx := B.exec
  have hb := B.bytes
  have hr := B.returns
  have hlocks := B.notSynchronized
  have hts : ∀ w ∈ wk_B, w.before _ s = true := fun w hw => atoms_spec (ws := Cond.code yX1_operation cX1_operation 1 (some .int) :: wk_B) B.pre w (List.mem_cons_of_mem _ hw)
  have X : wk_C p m c cX1_operation 1 s _ RX1 D T := ⟨⟨hx, hb, hml, findClass_of_methodNamed B.named, hts⟩, hK⟩
  have hS : va_S (wk_A z0) s.heap s.heap [] := va_S.rf
  have hl := lv_entry ([.int a1]) (n := 1) (Nat.le_of_ble_eq_true rfl)
  rw [lg_entry_eq]
  generalize (lg_sl ([.int a1]) ++ List.replicate (1 - (lg_sl ([.int a1])).length) Slot.unset).toArray = ls at hl ⊢
  have hl : lv_has ls 1 [(0, .int a1)] := hl
  refine lv_iload_n (pc := 0) hx hb dX1_operation_0 rfl (lv_at hl 0 rfl) ?_
  refine lv_bipush (pc := 1) (v := 15) hx hb dX1_operation_1 (by decide) ?_
  refine lv_iand (pc := 3) hx hb dX1_operation_3 ?_
  exact wk_iret (pc := 4) X hH hS hr hlocks (by rw [mr_X1_operation]) (rfl) dX1_operation_4

def ms_X1_finish (P : Nat → Nat) (sg : wk_Sg) (i : Nat) (a1 : Int32) : wk_Sg := (wk_up (wk_up sg (4, i, 0) 5 a1) (4, i, 0) 7 (((wk_up sg (4, i, 0) 5 a1) (4, i, 0) 7) + (1 : Int32)))
set_option maxHeartbeats 4000000 in
set_option maxRecDepth 100000 in
theorem mk_X1_finish {l : Launch} {D : va_G} {T : wk_T} {z0 : Nat} {ad : wk_K3 → Nat} {sh : wk_Sh} {P : Nat → Nat} (hSh : sc_Sh T P sh) (sg : wk_Sg) (i : Nat) (a1 : Int32) (hi : i < P 0)  : wk_Mv l yX1_finish cX1_finish 2 none 0 0 D T z0 ad sh [.ref (ad (4, i, 0)), .int a1] sg (ms_X1_finish P sg i a1) := by
  refine Met.ofW (cc := cX1_finish) (maxL := 2) (ret := none) (by decide) rfl ?_
  intro p e s m args below meth c s₁ B hml hv
  obtain ⟨rfl, hz, hH, hK⟩ := hv
  have hx := B.exec
  have hb := B.bytes
  have hr := B.returns
  have hlocks := B.notSynchronized
  have hts : ∀ w ∈ wk_B, w.before _ s = true := fun w hw => atoms_spec (ws := Cond.code yX1_finish cX1_finish 2 none :: wk_B) B.pre w (List.mem_cons_of_mem _ hw)
  have X : wk_C p m c cX1_finish 2 s _ RX1 D T := ⟨⟨hx, hb, hml, findClass_of_methodNamed B.named, hts⟩, hK⟩
  have hS : va_S (wk_A z0) s.heap s.heap [] := va_S.rf
  have hl := lv_entry ([.ref (ad (4, i, 0)), .int a1]) (n := 2) (Nat.le_of_ble_eq_true rfl)
  rw [lg_entry_eq]
  generalize (lg_sl ([.ref (ad (4, i, 0)), .int a1]) ++ List.replicate (2 - (lg_sl ([.ref (ad (4, i, 0)), .int a1])).length) Slot.unset).toArray = ls at hl ⊢
  have hl : lv_has ls 2 [(0, .ref (ad (4, i, 0))), (1, .int a1)] := hl
  refine lv_aload_n (pc := 0) hx hb dX1_finish_0 rfl (lv_at hl 0 rfl) ?_
  refine lv_iload_n (pc := 1) hx hb dX1_finish_1 rfl (lv_at hl 1 rfl) ?_
  refine wk_puti (pc := 2) X hH hS (4, i, 0) 5 tyX1_ok nmX1 (sc_4 hSh hi) rfl (by decide) rfl inX1 fl_X1_15 rfl rfl rfl dX1_finish_2 (fun H locs hH hS => ?_)
  refine lv_aload_n (pc := 5) hx hb dX1_finish_5 rfl (lv_at hl 0 rfl) ?_
  refine lv_dup (pc := 6) hx hb dX1_finish_6 rfl ?_
  refine wk_geti (pc := 7) X hH (4, i, 0) 7 (sc_4 hSh hi) rfl (by decide) rfl inX1 fl_X1_22 dX1_finish_7 ?_
  refine lv_iconst (pc := 10) (v := 1) hx hb dX1_finish_10 (by decide) ?_
  refine lv_iadd (pc := 11) hx hb dX1_finish_11 ?_
  refine wk_puti (pc := 12) X hH hS (4, i, 0) 7 tyX1_ok nmX1 (sc_4 hSh hi) rfl (by decide) rfl inX1 fl_X1_22 rfl rfl rfl dX1_finish_12 (fun H locs hH hS => ?_)
  exact wk_vret (pc := 15) X hH hS hr hlocks (by rw [ms_X1_finish]) dX1_finish_15

def ms_X1_answer (P : Nat → Nat) (sg : wk_Sg) (i : Nat) (a1 : Int32) (a2 : Int32) : wk_Sg := (ms_X1_finish P (wk_up sg (6, i, 0) (Int32.toNatClampNeg (mr_X1_fieldA P sg a1)) a2) i (((wk_up sg (6, i, 0) (Int32.toNatClampNeg (mr_X1_fieldA P sg a1)) a2) (4, i, 0) 5) + (1 : Int32)))
def mg_X1_answer (P : Nat → Nat) (sg : wk_Sg) (i : Nat) (a1 : Int32) (a2 : Int32) : Prop := (vp_in (mr_X1_fieldA P sg a1) 4 ∧ True)
set_option maxHeartbeats 4000000 in
set_option maxRecDepth 100000 in
theorem mk_X1_answer {l : Launch} {D : va_G} {T : wk_T} {z0 : Nat} {ad : wk_K3 → Nat} {sh : wk_Sh} {P : Nat → Nat} (hSh : sc_Sh T P sh) (sg : wk_Sg) (i : Nat) (a1 : Int32) (a2 : Int32) (hi : i < P 0) (hg : mg_X1_answer P sg i a1 a2) : wk_Mv l yX1_answer cX1_answer 3 none 1 21 D T z0 ad sh [.ref (ad (4, i, 0)), .int a1, .int a2] sg (ms_X1_answer P sg i a1 a2) := by
  refine Met.ofW (cc := cX1_answer) (maxL := 3) (ret := none) (by decide) rfl ?_
  intro p e s m args below meth c s₁ B hml hv
  obtain ⟨rfl, hz, hH, hK⟩ := hv
  have hx := B.exec
  have hb := B.bytes
  have hr := B.returns
  have hlocks := B.notSynchronized
  have hts : ∀ w ∈ wk_B, w.before _ s = true := fun w hw => atoms_spec (ws := Cond.code yX1_answer cX1_answer 3 none :: wk_B) B.pre w (List.mem_cons_of_mem _ hw)
  have X : wk_C p m c cX1_answer 3 s _ RX1 D T := ⟨⟨hx, hb, hml, findClass_of_methodNamed B.named, hts⟩, hK⟩
  have hS : va_S (wk_A z0) s.heap s.heap [] := va_S.rf
  have hl := lv_entry ([.ref (ad (4, i, 0)), .int a1, .int a2]) (n := 3) (Nat.le_of_ble_eq_true rfl)
  rw [lg_entry_eq]
  generalize (lg_sl ([.ref (ad (4, i, 0)), .int a1, .int a2]) ++ List.replicate (3 - (lg_sl ([.ref (ad (4, i, 0)), .int a1, .int a2])).length) Slot.unset).toArray = ls at hl ⊢
  have hl : lv_has ls 3 [(0, .ref (ad (4, i, 0))), (1, .int a1), (2, .int a2)] := hl
  unfold mg_X1_answer at hg
  refine lv_aload_n (pc := 0) hx hb dX1_answer_0 rfl (lv_at hl 0 rfl) ?_
  refine wk_getr (pc := 1) X hH (4, i, 0) 3 (6, i, 0) (sc_4 hSh hi) rfl (by decide) rfl inX1 fl_X1_9 dX1_answer_1 ?_
  refine lv_iload_n (pc := 4) hx hb dX1_answer_4 rfl (lv_at hl 1 rfl) ?_
  refine wk_ci (wk_rS (pc := 5) (As := [.int a1]) (rest := [.ref (ad (6, i, 0))]) X hH hS hz ok_X1_fieldA (mk_X1_fieldA (l := l) (P := P)  sg a1  ) ml_X1_66 ⟨by decide, by decide, by decide, by decide⟩ rfl hl.1 rfl (Nat.le_of_ble_eq_true rfl) dX1_answer_5) hS (fun H locs hH hS => ?_)
  refine lv_iload_n (pc := 8) hx hb dX1_answer_8 rfl (lv_at hl 2 rfl) ?_
  obtain ⟨o1, hg⟩ := hg
  refine wk_iast (pc := 9) X hH hS (6, i, 0) (sc_6 hSh hi) o1 dX1_answer_9 (fun H locs hH hS => ?_)
  refine lv_aload_n (pc := 10) hx hb dX1_answer_10 rfl (lv_at hl 0 rfl) ?_
  refine lv_aload_n (pc := 11) hx hb dX1_answer_11 rfl (lv_at hl 0 rfl) ?_
  refine wk_geti (pc := 12) X hH (4, i, 0) 5 (sc_4 hSh hi) rfl (by decide) rfl inX1 fl_X1_15 dX1_answer_12 ?_
  refine lv_iconst (pc := 15) (v := 1) hx hb dX1_answer_15 (by decide) ?_
  refine lv_iadd (pc := 16) hx hb dX1_answer_16 ?_
  refine wk_cv (wk_rV (pc := 17) (As := [.int (((wk_up sg (6, i, 0) (Int32.toNatClampNeg (mr_X1_fieldA P sg a1)) a2) (4, i, 0) 5) + (1 : Int32))]) (rest := []) X hH hS hz (sc_4 hSh hi) rfl ok_X1_finish (mk_X1_finish (l := l) (P := P) hSh (wk_up sg (6, i, 0) (Int32.toNatClampNeg (mr_X1_fieldA P sg a1)) a2) i (((wk_up sg (6, i, 0) (Int32.toNatClampNeg (mr_X1_fieldA P sg a1)) a2) (4, i, 0) 5) + (1 : Int32)) hi ) ml_X1_81 ⟨by decide, by decide, by decide, by decide⟩ rfl hl.1 rfl (Nat.le_of_ble_eq_true rfl) dX1_answer_17) hS (fun H locs hH hS => ?_)
  exact wk_vret (pc := 20) X hH hS hr hlocks (by rw [ms_X1_answer]) dX1_answer_20

def ms_X3_setWord (P : Nat → Nat) (sg : wk_Sg) (i : Nat) (j : Nat) (a1 : Int32) (a2 : Int32) : wk_Sg := (wk_up (wk_up sg (9, i, j) (Int32.toNatClampNeg a1) a2) (8, i, j) 1 4)
def mg_X3_setWord (P : Nat → Nat) (sg : wk_Sg) (i : Nat) (j : Nat) (a1 : Int32) (a2 : Int32) : Prop := (vp_in a1 (P 2) ∧ True)
set_option maxHeartbeats 4000000 in
set_option maxRecDepth 100000 in
theorem mk_X3_setWord {l : Launch} {D : va_G} {T : wk_T} {z0 : Nat} {ad : wk_K3 → Nat} {sh : wk_Sh} {P : Nat → Nat} (hSh : sc_Sh T P sh) (sg : wk_Sg) (i : Nat) (j : Nat) (a1 : Int32) (a2 : Int32) (hi : i < P 0) (hj : j < P 1) (hg : mg_X3_setWord P sg i j a1 a2) : wk_Mv l yX3_setWord cX3_setWord 3 none 0 0 D T z0 ad sh [.ref (ad (8, i, j)), .int a1, .int a2] sg (ms_X3_setWord P sg i j a1 a2) := by
  refine Met.ofW (cc := cX3_setWord) (maxL := 3) (ret := none) (by decide) rfl ?_
  intro p e s m args below meth c s₁ B hml hv
  obtain ⟨rfl, hz, hH, hK⟩ := hv
  have hx := B.exec
  have hb := B.bytes
  have hr := B.returns
  have hlocks := B.notSynchronized
  have hts : ∀ w ∈ wk_B, w.before _ s = true := fun w hw => atoms_spec (ws := Cond.code yX3_setWord cX3_setWord 3 none :: wk_B) B.pre w (List.mem_cons_of_mem _ hw)
  have X : wk_C p m c cX3_setWord 3 s _ RX3 D T := ⟨⟨hx, hb, hml, findClass_of_methodNamed B.named, hts⟩, hK⟩
  have hS : va_S (wk_A z0) s.heap s.heap [] := va_S.rf
  have hl := lv_entry ([.ref (ad (8, i, j)), .int a1, .int a2]) (n := 3) (Nat.le_of_ble_eq_true rfl)
  rw [lg_entry_eq]
  generalize (lg_sl ([.ref (ad (8, i, j)), .int a1, .int a2]) ++ List.replicate (3 - (lg_sl ([.ref (ad (8, i, j)), .int a1, .int a2])).length) Slot.unset).toArray = ls at hl ⊢
  have hl : lv_has ls 3 [(0, .ref (ad (8, i, j))), (1, .int a1), (2, .int a2)] := hl
  unfold mg_X3_setWord at hg
  refine lv_aload_n (pc := 0) hx hb dX3_setWord_0 rfl (lv_at hl 0 rfl) ?_
  refine wk_getr (pc := 1) X hH (8, i, j) 0 (9, i, j) (sc_8 hSh hi hj) rfl (by decide) rfl inX3 fl_X3_18 dX3_setWord_1 ?_
  refine lv_iload_n (pc := 4) hx hb dX3_setWord_4 rfl (lv_at hl 1 rfl) ?_
  refine lv_iload_n (pc := 5) hx hb dX3_setWord_5 rfl (lv_at hl 2 rfl) ?_
  obtain ⟨o1, hg⟩ := hg
  refine wk_iast (pc := 6) X hH hS (9, i, j) (sc_9 hSh hi hj) o1 dX3_setWord_6 (fun H locs hH hS => ?_)
  refine lv_aload_n (pc := 7) hx hb dX3_setWord_7 rfl (lv_at hl 0 rfl) ?_
  refine lv_iconst (pc := 8) (v := 4) hx hb dX3_setWord_8 (by decide) ?_
  refine wk_puti (pc := 9) X hH hS (8, i, j) 1 tyX3_ok nmX3 (sc_8 hSh hi hj) rfl (by decide) rfl inX3 fl_X3_9 rfl rfl rfl dX3_setWord_9 (fun H locs hH hS => ?_)
  exact wk_vret (pc := 12) X hH hS hr hlocks (by rw [ms_X3_setWord]) dX3_setWord_12

def mr_X1_fieldC (P : Nat → Nat) (sg : wk_Sg) (a1 : Int32) : Int32 := ((a1 >>> ((8 : Int32) &&& 31)) &&& (3 : Int32))
set_option maxHeartbeats 4000000 in
set_option maxRecDepth 100000 in
theorem mk_X1_fieldC {l : Launch} {D : va_G} {T : wk_T} {z0 : Nat} {ad : wk_K3 → Nat} {sh : wk_Sh} {P : Nat → Nat} (sg : wk_Sg) (a1 : Int32)   : wk_Mi l yX1_fieldC cX1_fieldC 1 (some .int) 0 0 D T z0 ad sh [.int a1] sg (mr_X1_fieldC P sg a1) sg := by
  refine Met.ofW (cc := cX1_fieldC) (maxL := 1) (ret := (some .int)) (by decide) rfl ?_
  intro p e s m args below meth c s₁ B hml hv
  obtain ⟨rfl, hz, hH, hK⟩ := hv
  have hx := B.exec
  have hb := B.bytes
  have hr := B.returns
  have hlocks := B.notSynchronized
  have hts : ∀ w ∈ wk_B, w.before _ s = true := fun w hw => atoms_spec (ws := Cond.code yX1_fieldC cX1_fieldC 1 (some .int) :: wk_B) B.pre w (List.mem_cons_of_mem _ hw)
  have X : wk_C p m c cX1_fieldC 1 s _ RX1 D T := ⟨⟨hx, hb, hml, findClass_of_methodNamed B.named, hts⟩, hK⟩
  have hS : va_S (wk_A z0) s.heap s.heap [] := va_S.rf
  have hl := lv_entry ([.int a1]) (n := 1) (Nat.le_of_ble_eq_true rfl)
  rw [lg_entry_eq]
  generalize (lg_sl ([.int a1]) ++ List.replicate (1 - (lg_sl ([.int a1])).length) Slot.unset).toArray = ls at hl ⊢
  have hl : lv_has ls 1 [(0, .int a1)] := hl
  refine lv_iload_n (pc := 0) hx hb dX1_fieldC_0 rfl (lv_at hl 0 rfl) ?_
  refine lv_bipush (pc := 1) (v := 8) hx hb dX1_fieldC_1 (by decide) ?_
  refine lv_ishr (pc := 3) hx hb dX1_fieldC_3 ?_
  refine lv_iconst (pc := 4) (v := 3) hx hb dX1_fieldC_4 (by decide) ?_
  refine lv_iand (pc := 5) hx hb dX1_fieldC_5 ?_
  exact wk_iret (pc := 6) X hH hS hr hlocks (by rw [mr_X1_fieldC]) (rfl) dX1_fieldC_6

def ms_X1_access (P : Nat → Nat) (sg : wk_Sg) (i : Nat) (a1 : Int32) (i2 : Nat) (j2 : Nat) (a3 : Int32) : wk_Sg := (if (mr_X1_operation P sg a1) = 9 then (ms_X1_answer P sg i a1 (sg (9, i2, j2) (Int32.toNatClampNeg a3))) else (if (mr_X1_operation P sg a1) = 10 then (ms_X1_finish P (ms_X3_setWord P sg i2 j2 a3 (sg (6, i, 0) (Int32.toNatClampNeg (mr_X1_fieldA P sg a1)))) i (((ms_X3_setWord P sg i2 j2 a3 (sg (6, i, 0) (Int32.toNatClampNeg (mr_X1_fieldA P sg a1)))) (4, i, 0) 5) + (1 : Int32))) else (if (sg (9, i2, j2) (Int32.toNatClampNeg a3)) = (sg (6, i, 0) (Int32.toNatClampNeg (mr_X1_fieldC P sg a1))) then (ms_X1_answer P (ms_X3_setWord P sg i2 j2 a3 (sg (6, i, 0) (Int32.toNatClampNeg (mr_X1_fieldA P sg a1)))) i a1 1) else (ms_X1_answer P (ms_X3_setWord P sg i2 j2 a3 (sg (9, i2, j2) (Int32.toNatClampNeg a3))) i a1 0))))
def mg_X1_access (P : Nat → Nat) (sg : wk_Sg) (i : Nat) (a1 : Int32) (i2 : Nat) (j2 : Nat) (a3 : Int32) : Prop := (vp_in (mr_X1_fieldA P sg a1) 4 ∧ (vp_in a3 (P 2) ∧ (((mr_X1_operation P sg a1) = 9 → (mg_X1_answer P sg i a1 (sg (9, i2, j2) (Int32.toNatClampNeg a3)) ∧ True)) ∧ (¬ (mr_X1_operation P sg a1) = 9 → (((mr_X1_operation P sg a1) = 10 → (mg_X3_setWord P sg i2 j2 a3 (sg (6, i, 0) (Int32.toNatClampNeg (mr_X1_fieldA P sg a1))) ∧ True)) ∧ (¬ (mr_X1_operation P sg a1) = 10 → (vp_in (mr_X1_fieldC P sg a1) 4 ∧ (((sg (9, i2, j2) (Int32.toNatClampNeg a3)) = (sg (6, i, 0) (Int32.toNatClampNeg (mr_X1_fieldC P sg a1))) → (mg_X3_setWord P sg i2 j2 a3 (sg (6, i, 0) (Int32.toNatClampNeg (mr_X1_fieldA P sg a1))) ∧ (mg_X1_answer P (ms_X3_setWord P sg i2 j2 a3 (sg (6, i, 0) (Int32.toNatClampNeg (mr_X1_fieldA P sg a1)))) i a1 1 ∧ True))) ∧ (¬ (sg (9, i2, j2) (Int32.toNatClampNeg a3)) = (sg (6, i, 0) (Int32.toNatClampNeg (mr_X1_fieldC P sg a1))) → (mg_X3_setWord P sg i2 j2 a3 (sg (9, i2, j2) (Int32.toNatClampNeg a3)) ∧ (mg_X1_answer P (ms_X3_setWord P sg i2 j2 a3 (sg (9, i2, j2) (Int32.toNatClampNeg a3))) i a1 0 ∧ True)))))))))))
set_option maxHeartbeats 4000000 in
set_option maxRecDepth 100000 in
theorem mk_X1_access {l : Launch} {D : va_G} {T : wk_T} {z0 : Nat} {ad : wk_K3 → Nat} {sh : wk_Sh} {P : Nat → Nat} (hSh : sc_Sh T P sh) (sg : wk_Sg) (i : Nat) (a1 : Int32) (i2 : Nat) (j2 : Nat) (a3 : Int32) (hi : i < P 0) (hi2 : i2 < P 0) (hj2 : j2 < P 1) (hg : mg_X1_access P sg i a1 i2 j2 a3) : wk_Mv l yX1_access cX1_access 7 none 2 43 D T z0 ad sh [.ref (ad (4, i, 0)), .int a1, .ref (ad (8, i2, j2)), .int a3] sg (ms_X1_access P sg i a1 i2 j2 a3) := by
  refine Met.ofW (cc := cX1_access) (maxL := 7) (ret := none) (by decide) rfl ?_
  intro p e s m args below meth c s₁ B hml hv
  obtain ⟨rfl, hz, hH, hK⟩ := hv
  have hx := B.exec
  have hb := B.bytes
  have hr := B.returns
  have hlocks := B.notSynchronized
  have hts : ∀ w ∈ wk_B, w.before _ s = true := fun w hw => atoms_spec (ws := Cond.code yX1_access cX1_access 7 none :: wk_B) B.pre w (List.mem_cons_of_mem _ hw)
  have X : wk_C p m c cX1_access 7 s _ RX1 D T := ⟨⟨hx, hb, hml, findClass_of_methodNamed B.named, hts⟩, hK⟩
  have hS : va_S (wk_A z0) s.heap s.heap [] := va_S.rf
  have hl := lv_entry ([.ref (ad (4, i, 0)), .int a1, .ref (ad (8, i2, j2)), .int a3]) (n := 7) (Nat.le_of_ble_eq_true rfl)
  rw [lg_entry_eq]
  generalize (lg_sl ([.ref (ad (4, i, 0)), .int a1, .ref (ad (8, i2, j2)), .int a3]) ++ List.replicate (7 - (lg_sl ([.ref (ad (4, i, 0)), .int a1, .ref (ad (8, i2, j2)), .int a3])).length) Slot.unset).toArray = ls at hl ⊢
  have hl : lv_has ls 7 [(0, .ref (ad (4, i, 0))), (1, .int a1), (2, .ref (ad (8, i2, j2))), (3, .int a3)] := hl
  unfold mg_X1_access at hg
  refine lv_aload_n (pc := 0) hx hb dX1_access_0 rfl (lv_at hl 0 rfl) ?_
  refine wk_getr (pc := 1) X hH (4, i, 0) 3 (6, i, 0) (sc_4 hSh hi) rfl (by decide) rfl inX1 fl_X1_9 dX1_access_1 ?_
  refine lv_iload_n (pc := 4) hx hb dX1_access_4 rfl (lv_at hl 1 rfl) ?_
  refine wk_ci (wk_rS (pc := 5) (As := [.int a1]) (rest := [.ref (ad (6, i, 0))]) X hH hS hz ok_X1_fieldA (mk_X1_fieldA (l := l) (P := P)  sg a1  ) ml_X1_66 ⟨by decide, by decide, by decide, by decide⟩ rfl hl.1 rfl (Nat.le_of_ble_eq_true rfl) dX1_access_5) hS (fun H locs hH hS => ?_)
  obtain ⟨o1, hg⟩ := hg
  refine wk_iald (pc := 8) X hH (6, i, 0) (sc_6 hSh hi) o1 dX1_access_8 ?_
  refine lv_istore (pc := 9) (lv' := [(4, .int (sg (6, i, 0) (Int32.toNatClampNeg (mr_X1_fieldA P sg a1)))), (0, .ref (ad (4, i, 0))), (1, .int a1), (2, .ref (ad (8, i2, j2))), (3, .int a3)]) hx hb dX1_access_9 hl (by decide) rfl (fun ls hl => ?_)
  refine lv_aload_n (pc := 11) hx hb dX1_access_11 rfl (lv_at hl 3 rfl) ?_
  refine wk_getr (pc := 12) X hH (8, i2, j2) 0 (9, i2, j2) (sc_8 hSh hi2 hj2) rfl (by decide) rfl inX3 fl_X1_119 dX1_access_12 ?_
  refine lv_iload_n (pc := 15) hx hb dX1_access_15 rfl (lv_at hl 4 rfl) ?_
  obtain ⟨o2, hg⟩ := hg
  refine wk_iald (pc := 16) X hH (9, i2, j2) (sc_9 hSh hi2 hj2) o2 dX1_access_16 ?_
  refine lv_istore (pc := 17) (lv' := [(5, .int (sg (9, i2, j2) (Int32.toNatClampNeg a3))), (4, .int (sg (6, i, 0) (Int32.toNatClampNeg (mr_X1_fieldA P sg a1)))), (0, .ref (ad (4, i, 0))), (1, .int a1), (2, .ref (ad (8, i2, j2))), (3, .int a3)]) hx hb dX1_access_17 hl (by decide) rfl (fun ls hl => ?_)
  refine lv_iload_n (pc := 19) hx hb dX1_access_19 rfl (lv_at hl 3 rfl) ?_
  refine wk_ci (wk_rS (pc := 20) (As := [.int a1]) (rest := []) X hH hS hz ok_X1_operation (mk_X1_operation (l := l) (P := P)  sg a1  ) ml_X1_78 ⟨by decide, by decide, by decide, by decide⟩ rfl hl.1 rfl (Nat.le_of_ble_eq_true rfl) dX1_access_20) hS (fun H locs hH hS => ?_)
  by_cases w3 : (mr_X1_operation P sg a1) = 9
  · have hg := hg.1 w3
    refine wk_lin (pc := 23) (off := 25) (tgt := 48) X w3 dX1_access_23 (by decide) (by decide) (by decide) ?_
    refine lv_aload_n (pc := 48) hx hb dX1_access_48 rfl (lv_at hl 2 rfl) ?_
    refine lv_iload_n (pc := 49) hx hb dX1_access_49 rfl (lv_at hl 3 rfl) ?_
    refine lv_iload (pc := 50) hx hb dX1_access_50 (lv_at hl 0 rfl) ?_
    obtain ⟨o4, hg⟩ := hg
    refine wk_cv (wk_rV (pc := 52) (As := [.int a1, .int (sg (9, i2, j2) (Int32.toNatClampNeg a3))]) (rest := []) X hH hS hz (sc_4 hSh hi) rfl ok_X1_answer (mk_X1_answer (l := l) (P := P) hSh sg i a1 (sg (9, i2, j2) (Int32.toNatClampNeg a3)) hi o4) ml_X1_84 ⟨by decide, by decide, by decide, by decide⟩ rfl hl.1 rfl (Nat.le_of_ble_eq_true rfl) dX1_access_52) hS (fun H locs hH hS => ?_)
    refine lv_goto (pc := 55) (tgt := 131) hx hb dX1_access_55 (by decide) ?_
    exact wk_vret (pc := 131) X hH hS hr hlocks (by rw [ms_X1_access, if_pos w3]) dX1_access_131
  · have hg := hg.2 w3
    by_cases w5 : (mr_X1_operation P sg a1) = 10
    · have hg := hg.1 w5
      refine wk_lin (pc := 23) (off := 35) (tgt := 58) X w5 dX1_access_23 (by decide) (by decide) (by decide) ?_
      refine lv_aload_n (pc := 58) hx hb dX1_access_58 rfl (lv_at hl 4 rfl) ?_
      refine lv_iload_n (pc := 59) hx hb dX1_access_59 rfl (lv_at hl 5 rfl) ?_
      refine lv_iload (pc := 60) hx hb dX1_access_60 (lv_at hl 1 rfl) ?_
      obtain ⟨o6, hg⟩ := hg
      refine wk_cv (wk_rV (pc := 62) (As := [.int a3, .int (sg (6, i, 0) (Int32.toNatClampNeg (mr_X1_fieldA P sg a1)))]) (rest := []) X hH hS hz (sc_8 hSh hi2 hj2) rfl ok_X3_setWord (mk_X3_setWord (l := l) (P := P) hSh sg i2 j2 a3 (sg (6, i, 0) (Int32.toNatClampNeg (mr_X1_fieldA P sg a1))) hi2 hj2 o6) ml_X1_122 ⟨by decide, by decide, by decide, by decide⟩ rfl hl.1 rfl (Nat.le_of_ble_eq_true rfl) dX1_access_62) hS (fun H locs hH hS => ?_)
      refine lv_aload_n (pc := 65) hx hb dX1_access_65 rfl (lv_at hl 2 rfl) ?_
      refine lv_aload_n (pc := 66) hx hb dX1_access_66 rfl (lv_at hl 2 rfl) ?_
      refine wk_geti (pc := 67) X hH (4, i, 0) 5 (sc_4 hSh hi) rfl (by decide) rfl inX1 fl_X1_15 dX1_access_67 ?_
      refine lv_iconst (pc := 70) (v := 1) hx hb dX1_access_70 (by decide) ?_
      refine lv_iadd (pc := 71) hx hb dX1_access_71 ?_
      refine wk_cv (wk_rV (pc := 72) (As := [.int (((ms_X3_setWord P sg i2 j2 a3 (sg (6, i, 0) (Int32.toNatClampNeg (mr_X1_fieldA P sg a1)))) (4, i, 0) 5) + (1 : Int32))]) (rest := []) X hH hS hz (sc_4 hSh hi) rfl ok_X1_finish (mk_X1_finish (l := l) (P := P) hSh (ms_X3_setWord P sg i2 j2 a3 (sg (6, i, 0) (Int32.toNatClampNeg (mr_X1_fieldA P sg a1)))) i (((ms_X3_setWord P sg i2 j2 a3 (sg (6, i, 0) (Int32.toNatClampNeg (mr_X1_fieldA P sg a1)))) (4, i, 0) 5) + (1 : Int32)) hi ) ml_X1_81 ⟨by decide, by decide, by decide, by decide⟩ rfl hl.1 rfl (Nat.le_of_ble_eq_true rfl) dX1_access_72) hS (fun H locs hH hS => ?_)
      refine lv_goto (pc := 75) (tgt := 131) hx hb dX1_access_75 (by decide) ?_
      exact wk_vret (pc := 131) X hH hS hr hlocks (by rw [ms_X1_access, if_neg w3, if_pos w5]) dX1_access_131
    · have hg := hg.2 w5
      refine lv_lookup (pc := 23) (off := 55) (tgt := 78) hx hb dX1_access_23 (by decide) (by rw [show (#[(9, 25), (10, 35)] : Array (Int × Int)).toList = _ from rfl]; rw [lv_osw w3 (show Int32.toInt 9 = 9 from by decide)]; rw [lv_osw w5 (show Int32.toInt 10 = 10 from by decide)]; rfl) (by decide) ?_
      refine lv_iload (pc := 78) hx hb dX1_access_78 (lv_at hl 0 rfl) ?_
      refine lv_aload_n (pc := 80) hx hb dX1_access_80 rfl (lv_at hl 2 rfl) ?_
      refine wk_getr (pc := 81) X hH (4, i, 0) 3 (6, i, 0) (sc_4 hSh hi) rfl (by decide) rfl inX1 fl_X1_9 dX1_access_81 ?_
      refine lv_iload_n (pc := 84) hx hb dX1_access_84 rfl (lv_at hl 3 rfl) ?_
      refine wk_ci (wk_rS (pc := 85) (As := [.int a1]) (rest := [.ref (ad (6, i, 0)), .int (sg (9, i2, j2) (Int32.toNatClampNeg a3))]) X hH hS hz ok_X1_fieldC (mk_X1_fieldC (l := l) (P := P)  sg a1  ) ml_X1_72 ⟨by decide, by decide, by decide, by decide⟩ rfl hl.1 rfl (Nat.le_of_ble_eq_true rfl) dX1_access_85) hS (fun H locs hH hS => ?_)
      obtain ⟨o7, hg⟩ := hg
      refine wk_iald (pc := 88) X hH (6, i, 0) (sc_6 hSh hi) o7 dX1_access_88 ?_
      refine lv_icmp_ne (pc := 89) (tgt := 96) hx hb dX1_access_89 (by decide) (fun h8 => ?_) (fun h8 => ?_)
      · have hg := hg.2 h8
        refine lv_iconst (pc := 96) (v := 0) hx hb dX1_access_96 (by decide) ?_
        refine lv_istore (pc := 97) (lv' := [(6, .int 0), (5, .int (sg (9, i2, j2) (Int32.toNatClampNeg a3))), (4, .int (sg (6, i, 0) (Int32.toNatClampNeg (mr_X1_fieldA P sg a1)))), (0, .ref (ad (4, i, 0))), (1, .int a1), (2, .ref (ad (8, i2, j2))), (3, .int a3)]) hx hb dX1_access_97 hl (by decide) rfl (fun ls hl => ?_)
        refine lv_aload_n (pc := 99) hx hb dX1_access_99 rfl (lv_at hl 5 rfl) ?_
        refine lv_iload_n (pc := 100) hx hb dX1_access_100 rfl (lv_at hl 6 rfl) ?_
        refine lv_iload (pc := 101) hx hb dX1_access_101 (lv_at hl 0 rfl) ?_
        refine lv_if_eq (pc := 103) (tgt := 111) hx hb dX1_access_103 (by decide) (fun _ => ?_) (fun h9 => absurd (by decide) h9)
        refine lv_iload (pc := 111) hx hb dX1_access_111 (lv_at hl 1 rfl) ?_
        obtain ⟨o10, hg⟩ := hg
        refine wk_cv (wk_rV (pc := 113) (As := [.int a3, .int (sg (9, i2, j2) (Int32.toNatClampNeg a3))]) (rest := []) X hH hS hz (sc_8 hSh hi2 hj2) rfl ok_X3_setWord (mk_X3_setWord (l := l) (P := P) hSh sg i2 j2 a3 (sg (9, i2, j2) (Int32.toNatClampNeg a3)) hi2 hj2 o10) ml_X1_122 ⟨by decide, by decide, by decide, by decide⟩ rfl hl.1 rfl (Nat.le_of_ble_eq_true rfl) dX1_access_113) hS (fun H locs hH hS => ?_)
        refine lv_aload_n (pc := 116) hx hb dX1_access_116 rfl (lv_at hl 3 rfl) ?_
        refine lv_iload_n (pc := 117) hx hb dX1_access_117 rfl (lv_at hl 4 rfl) ?_
        refine lv_iload (pc := 118) hx hb dX1_access_118 (lv_at hl 0 rfl) ?_
        refine lv_if_eq (pc := 120) (tgt := 127) hx hb dX1_access_120 (by decide) (fun _ => ?_) (fun h11 => absurd (by decide) h11)
        refine lv_iconst (pc := 127) (v := 0) hx hb dX1_access_127 (by decide) ?_
        obtain ⟨o12, hg⟩ := hg
        refine wk_cv (wk_rV (pc := 128) (As := [.int a1, .int 0]) (rest := []) X hH hS hz (sc_4 hSh hi) rfl ok_X1_answer (mk_X1_answer (l := l) (P := P) hSh (ms_X3_setWord P sg i2 j2 a3 (sg (9, i2, j2) (Int32.toNatClampNeg a3))) i a1 0 hi o12) ml_X1_84 ⟨by decide, by decide, by decide, by decide⟩ rfl hl.1 rfl (Nat.le_of_ble_eq_true rfl) dX1_access_128) hS (fun H locs hH hS => ?_)
        exact wk_vret (pc := 131) X hH hS hr hlocks (by rw [ms_X1_access, if_neg w3, if_neg w5, if_neg h8]) dX1_access_131
      · have hg := hg.1 h8
        refine lv_iconst (pc := 92) (v := 1) hx hb dX1_access_92 (by decide) ?_
        refine lv_goto (pc := 93) (tgt := 97) hx hb dX1_access_93 (by decide) ?_
        refine lv_istore (pc := 97) (lv' := [(6, .int 1), (5, .int (sg (9, i2, j2) (Int32.toNatClampNeg a3))), (4, .int (sg (6, i, 0) (Int32.toNatClampNeg (mr_X1_fieldA P sg a1)))), (0, .ref (ad (4, i, 0))), (1, .int a1), (2, .ref (ad (8, i2, j2))), (3, .int a3)]) hx hb dX1_access_97 hl (by decide) rfl (fun ls hl => ?_)
        refine lv_aload_n (pc := 99) hx hb dX1_access_99 rfl (lv_at hl 5 rfl) ?_
        refine lv_iload_n (pc := 100) hx hb dX1_access_100 rfl (lv_at hl 6 rfl) ?_
        refine lv_iload (pc := 101) hx hb dX1_access_101 (lv_at hl 0 rfl) ?_
        refine lv_if_eq (pc := 103) (tgt := 111) hx hb dX1_access_103 (by decide) (fun h13 => absurd h13 (by decide)) (fun _ => ?_)
        refine lv_iload (pc := 106) hx hb dX1_access_106 (lv_at hl 2 rfl) ?_
        refine lv_goto (pc := 108) (tgt := 113) hx hb dX1_access_108 (by decide) ?_
        obtain ⟨o14, hg⟩ := hg
        refine wk_cv (wk_rV (pc := 113) (As := [.int a3, .int (sg (6, i, 0) (Int32.toNatClampNeg (mr_X1_fieldA P sg a1)))]) (rest := []) X hH hS hz (sc_8 hSh hi2 hj2) rfl ok_X3_setWord (mk_X3_setWord (l := l) (P := P) hSh sg i2 j2 a3 (sg (6, i, 0) (Int32.toNatClampNeg (mr_X1_fieldA P sg a1))) hi2 hj2 o14) ml_X1_122 ⟨by decide, by decide, by decide, by decide⟩ rfl hl.1 rfl (Nat.le_of_ble_eq_true rfl) dX1_access_113) hS (fun H locs hH hS => ?_)
        refine lv_aload_n (pc := 116) hx hb dX1_access_116 rfl (lv_at hl 3 rfl) ?_
        refine lv_iload_n (pc := 117) hx hb dX1_access_117 rfl (lv_at hl 4 rfl) ?_
        refine lv_iload (pc := 118) hx hb dX1_access_118 (lv_at hl 0 rfl) ?_
        refine lv_if_eq (pc := 120) (tgt := 127) hx hb dX1_access_120 (by decide) (fun h15 => absurd h15 (by decide)) (fun _ => ?_)
        refine lv_iconst (pc := 123) (v := 1) hx hb dX1_access_123 (by decide) ?_
        refine lv_goto (pc := 124) (tgt := 128) hx hb dX1_access_124 (by decide) ?_
        obtain ⟨o16, hg⟩ := hg
        refine wk_cv (wk_rV (pc := 128) (As := [.int a1, .int 1]) (rest := []) X hH hS hz (sc_4 hSh hi) rfl ok_X1_answer (mk_X1_answer (l := l) (P := P) hSh (ms_X3_setWord P sg i2 j2 a3 (sg (6, i, 0) (Int32.toNatClampNeg (mr_X1_fieldA P sg a1)))) i a1 1 hi o16) ml_X1_84 ⟨by decide, by decide, by decide, by decide⟩ rfl hl.1 rfl (Nat.le_of_ble_eq_true rfl) dX1_access_128) hS (fun H locs hH hS => ?_)
        exact wk_vret (pc := 131) X hH hS hr hlocks (by rw [ms_X1_access, if_neg w3, if_neg w5, if_pos h8]) dX1_access_131

def ms_X1_ask (P : Nat → Nat) (sg : wk_Sg) (i : Nat) (a1 : Int32) (a2 : Int32) : wk_Sg := (wk_up (wk_up (wk_up sg (4, i, 0) 6 1) (4, i, 0) 8 a1) (4, i, 0) 9 a2)
set_option maxHeartbeats 4000000 in
set_option maxRecDepth 100000 in
theorem mk_X1_ask {l : Launch} {D : va_G} {T : wk_T} {z0 : Nat} {ad : wk_K3 → Nat} {sh : wk_Sh} {P : Nat → Nat} (hSh : sc_Sh T P sh) (sg : wk_Sg) (i : Nat) (a1 : Int32) (a2 : Int32) (hi : i < P 0)  : wk_Mv l yX1_ask cX1_ask 3 none 0 0 D T z0 ad sh [.ref (ad (4, i, 0)), .int a1, .int a2] sg (ms_X1_ask P sg i a1 a2) := by
  refine Met.ofW (cc := cX1_ask) (maxL := 3) (ret := none) (by decide) rfl ?_
  intro p e s m args below meth c s₁ B hml hv
  obtain ⟨rfl, hz, hH, hK⟩ := hv
  have hx := B.exec
  have hb := B.bytes
  have hr := B.returns
  have hlocks := B.notSynchronized
  have hts : ∀ w ∈ wk_B, w.before _ s = true := fun w hw => atoms_spec (ws := Cond.code yX1_ask cX1_ask 3 none :: wk_B) B.pre w (List.mem_cons_of_mem _ hw)
  have X : wk_C p m c cX1_ask 3 s _ RX1 D T := ⟨⟨hx, hb, hml, findClass_of_methodNamed B.named, hts⟩, hK⟩
  have hS : va_S (wk_A z0) s.heap s.heap [] := va_S.rf
  have hl := lv_entry ([.ref (ad (4, i, 0)), .int a1, .int a2]) (n := 3) (Nat.le_of_ble_eq_true rfl)
  rw [lg_entry_eq]
  generalize (lg_sl ([.ref (ad (4, i, 0)), .int a1, .int a2]) ++ List.replicate (3 - (lg_sl ([.ref (ad (4, i, 0)), .int a1, .int a2])).length) Slot.unset).toArray = ls at hl ⊢
  have hl : lv_has ls 3 [(0, .ref (ad (4, i, 0))), (1, .int a1), (2, .int a2)] := hl
  refine lv_aload_n (pc := 0) hx hb dX1_ask_0 rfl (lv_at hl 0 rfl) ?_
  refine lv_iconst (pc := 1) (v := 1) hx hb dX1_ask_1 (by decide) ?_
  refine wk_puti (pc := 2) X hH hS (4, i, 0) 6 tyX1_ok nmX1 (sc_4 hSh hi) rfl (by decide) rfl inX1 fl_X1_19 rfl rfl rfl dX1_ask_2 (fun H locs hH hS => ?_)
  refine lv_aload_n (pc := 5) hx hb dX1_ask_5 rfl (lv_at hl 0 rfl) ?_
  refine lv_iload_n (pc := 6) hx hb dX1_ask_6 rfl (lv_at hl 1 rfl) ?_
  refine wk_puti (pc := 7) X hH hS (4, i, 0) 8 tyX1_ok nmX1 (sc_4 hSh hi) rfl (by decide) rfl inX1 fl_X1_25 rfl rfl rfl dX1_ask_7 (fun H locs hH hS => ?_)
  refine lv_aload_n (pc := 10) hx hb dX1_ask_10 rfl (lv_at hl 0 rfl) ?_
  refine lv_iload_n (pc := 11) hx hb dX1_ask_11 rfl (lv_at hl 2 rfl) ?_
  refine wk_puti (pc := 12) X hH hS (4, i, 0) 9 tyX1_ok nmX1 (sc_4 hSh hi) rfl (by decide) rfl inX1 fl_X1_28 rfl rfl rfl dX1_ask_12 (fun H locs hH hS => ?_)
  exact wk_vret (pc := 15) X hH hS hr hlocks (by rw [ms_X1_ask]) dX1_ask_15

def mr_X1_fieldB (P : Nat → Nat) (sg : wk_Sg) (a1 : Int32) : Int32 := ((a1 >>> ((6 : Int32) &&& 31)) &&& (3 : Int32))
set_option maxHeartbeats 4000000 in
set_option maxRecDepth 100000 in
theorem mk_X1_fieldB {l : Launch} {D : va_G} {T : wk_T} {z0 : Nat} {ad : wk_K3 → Nat} {sh : wk_Sh} {P : Nat → Nat} (sg : wk_Sg) (a1 : Int32)   : wk_Mi l yX1_fieldB cX1_fieldB 1 (some .int) 0 0 D T z0 ad sh [.int a1] sg (mr_X1_fieldB P sg a1) sg := by
  refine Met.ofW (cc := cX1_fieldB) (maxL := 1) (ret := (some .int)) (by decide) rfl ?_
  intro p e s m args below meth c s₁ B hml hv
  obtain ⟨rfl, hz, hH, hK⟩ := hv
  have hx := B.exec
  have hb := B.bytes
  have hr := B.returns
  have hlocks := B.notSynchronized
  have hts : ∀ w ∈ wk_B, w.before _ s = true := fun w hw => atoms_spec (ws := Cond.code yX1_fieldB cX1_fieldB 1 (some .int) :: wk_B) B.pre w (List.mem_cons_of_mem _ hw)
  have X : wk_C p m c cX1_fieldB 1 s _ RX1 D T := ⟨⟨hx, hb, hml, findClass_of_methodNamed B.named, hts⟩, hK⟩
  have hS : va_S (wk_A z0) s.heap s.heap [] := va_S.rf
  have hl := lv_entry ([.int a1]) (n := 1) (Nat.le_of_ble_eq_true rfl)
  rw [lg_entry_eq]
  generalize (lg_sl ([.int a1]) ++ List.replicate (1 - (lg_sl ([.int a1])).length) Slot.unset).toArray = ls at hl ⊢
  have hl : lv_has ls 1 [(0, .int a1)] := hl
  refine lv_iload_n (pc := 0) hx hb dX1_fieldB_0 rfl (lv_at hl 0 rfl) ?_
  refine lv_bipush (pc := 1) (v := 6) hx hb dX1_fieldB_1 (by decide) ?_
  refine lv_ishr (pc := 3) hx hb dX1_fieldB_3 ?_
  refine lv_iconst (pc := 4) (v := 3) hx hb dX1_fieldB_4 (by decide) ?_
  refine lv_iand (pc := 5) hx hb dX1_fieldB_5 ?_
  exact wk_iret (pc := 6) X hH hS hr hlocks (by rw [mr_X1_fieldB]) (rfl) dX1_fieldB_6

def mr_X1_fieldN (P : Nat → Nat) (sg : wk_Sg) (a1 : Int32) : Int32 := (a1 >>> ((10 : Int32) &&& 31))
set_option maxHeartbeats 4000000 in
set_option maxRecDepth 100000 in
theorem mk_X1_fieldN {l : Launch} {D : va_G} {T : wk_T} {z0 : Nat} {ad : wk_K3 → Nat} {sh : wk_Sh} {P : Nat → Nat} (sg : wk_Sg) (a1 : Int32)   : wk_Mi l yX1_fieldN cX1_fieldN 1 (some .int) 0 0 D T z0 ad sh [.int a1] sg (mr_X1_fieldN P sg a1) sg := by
  refine Met.ofW (cc := cX1_fieldN) (maxL := 1) (ret := (some .int)) (by decide) rfl ?_
  intro p e s m args below meth c s₁ B hml hv
  obtain ⟨rfl, hz, hH, hK⟩ := hv
  have hx := B.exec
  have hb := B.bytes
  have hr := B.returns
  have hlocks := B.notSynchronized
  have hts : ∀ w ∈ wk_B, w.before _ s = true := fun w hw => atoms_spec (ws := Cond.code yX1_fieldN cX1_fieldN 1 (some .int) :: wk_B) B.pre w (List.mem_cons_of_mem _ hw)
  have X : wk_C p m c cX1_fieldN 1 s _ RX1 D T := ⟨⟨hx, hb, hml, findClass_of_methodNamed B.named, hts⟩, hK⟩
  have hS : va_S (wk_A z0) s.heap s.heap [] := va_S.rf
  have hl := lv_entry ([.int a1]) (n := 1) (Nat.le_of_ble_eq_true rfl)
  rw [lg_entry_eq]
  generalize (lg_sl ([.int a1]) ++ List.replicate (1 - (lg_sl ([.int a1])).length) Slot.unset).toArray = ls at hl ⊢
  have hl : lv_has ls 1 [(0, .int a1)] := hl
  refine lv_iload_n (pc := 0) hx hb dX1_fieldN_0 rfl (lv_at hl 0 rfl) ?_
  refine lv_bipush (pc := 1) (v := 10) hx hb dX1_fieldN_1 (by decide) ?_
  refine lv_ishr (pc := 3) hx hb dX1_fieldN_3 ?_
  exact wk_iret (pc := 4) X hH hS hr hlocks (by rw [mr_X1_fieldN]) (rfl) dX1_fieldN_4

def mr_X2_has (P : Nat → Nat) (sg : wk_Sg) (a1 : Int32) : Int32 := (mr_X4_within P sg a1 (nI (P 3)))
theorem mz_X2_has (P : Nat → Nat) (sg : wk_Sg) (a1 : Int32) : mr_X2_has P sg a1 = 0 ∨ mr_X2_has P sg a1 = 1 := by
  unfold mr_X2_has
  first | exact Or.inl rfl | exact Or.inr rfl | apply mz_X4_within
set_option maxHeartbeats 4000000 in
set_option maxRecDepth 100000 in
theorem mk_X2_has {l : Launch} {D : va_G} {T : wk_T} {z0 : Nat} {ad : wk_K3 → Nat} {sh : wk_Sh} {P : Nat → Nat} (hSh : sc_Sh T P sh) (sg : wk_Sg) (a1 : Int32)   : wk_Mi l yX2_has cX2_has 2 (some .boolean) 1 21 D T z0 ad sh [.ref (ad (1, 0, 0)), .int a1] sg (mr_X2_has P sg a1) sg := by
  refine Met.ofW (cc := cX2_has) (maxL := 2) (ret := (some .boolean)) (by decide) rfl ?_
  intro p e s m args below meth c s₁ B hml hv
  obtain ⟨rfl, hz, hH, hK⟩ := hv
  have hx := B.exec
  have hb := B.bytes
  have hr := B.returns
  have hlocks := B.notSynchronized
  have hts : ∀ w ∈ wk_B, w.before _ s = true := fun w hw => atoms_spec (ws := Cond.code yX2_has cX2_has 2 (some .boolean) :: wk_B) B.pre w (List.mem_cons_of_mem _ hw)
  have X : wk_C p m c cX2_has 2 s _ RX2 D T := ⟨⟨hx, hb, hml, findClass_of_methodNamed B.named, hts⟩, hK⟩
  have hS : va_S (wk_A z0) s.heap s.heap [] := va_S.rf
  have hl := lv_entry ([.ref (ad (1, 0, 0)), .int a1]) (n := 2) (Nat.le_of_ble_eq_true rfl)
  rw [lg_entry_eq]
  generalize (lg_sl ([.ref (ad (1, 0, 0)), .int a1]) ++ List.replicate (2 - (lg_sl ([.ref (ad (1, 0, 0)), .int a1])).length) Slot.unset).toArray = ls at hl ⊢
  have hl : lv_has ls 2 [(0, .ref (ad (1, 0, 0))), (1, .int a1)] := hl
  refine lv_iload_n (pc := 0) hx hb dX2_has_0 rfl (lv_at hl 1 rfl) ?_
  refine lv_aload_n (pc := 1) hx hb dX2_has_1 rfl (lv_at hl 0 rfl) ?_
  refine wk_getr (pc := 2) X hH (1, 0, 0) 1 (2, 0, 0) (sc_1 hSh) rfl (by decide) rfl inX2 fl_X2_15 dX2_has_2 ?_
  refine wk_alenI (pc := 5) X hH (2, 0, 0) (sc_2 hSh) dX2_has_5 ?_
  refine wk_ci (wk_rN (pc := 6) (As := [.int a1, .int (nI (P 3))]) (rest := []) X hH hS hz ok_X4_within (mk_X4_within (l := l) (P := P)  sg a1 (nI (P 3))  ) nl_X2_19 ⟨by decide, by decide, by decide, by decide⟩ rfl hl.1 rfl (Nat.le_of_ble_eq_true rfl) dX2_has_6) hS (fun H locs hH hS => ?_)
  exact wk_zret (pc := 9) X hH hS hr hlocks (mz_X4_within P sg a1 (nI (P 3))) (by rw [mr_X2_has]) (rfl) dX2_has_9
