def mr_X2_lineOf (P : Nat → Nat) (sg : wk_Sg) (a1 : Int32) : Int32 := (a1 / (sg (1, 0, 0) 0))
def mg_X2_lineOf (P : Nat → Nat) (sg : wk_Sg) (a1 : Int32) : Prop := (¬ (sg (1, 0, 0) 0) = 0 ∧ True)
set_option maxHeartbeats 4000000 in
set_option maxRecDepth 100000 in
theorem mk_X2_lineOf {l : Launch} {D : va_G} {T : wk_T} {z0 : Nat} {ad : wk_K3 → Nat} {sh : wk_Sh} {P : Nat → Nat} (hSh : sc_Sh T P sh) (sg : wk_Sg) (a1 : Int32)  (hg : mg_X2_lineOf P sg a1) : wk_Mi l yX2_lineOf cX2_lineOf 2 (some .int) 0 0 D T z0 ad sh [.ref (ad (1, 0, 0)), .int a1] sg (mr_X2_lineOf P sg a1) sg := by
  refine Met.ofW (cc := cX2_lineOf) (maxL := 2) (ret := (some .int)) (by decide) rfl ?_
  intro p e s m args below meth c s₁ B hml hv
  obtain ⟨rfl, hz, hH, hK⟩ := hv
  have hx := B.exec
  have hb := B.bytes
  have hr := B.returns
  have hlocks := B.notSynchronized
  have hts : ∀ w ∈ wk_B, w.before _ s = true := fun w hw => atoms_spec (ws := Cond.code yX2_lineOf cX2_lineOf 2 (some .int) :: wk_B) B.pre w (List.mem_cons_of_mem _ hw)
  have X : wk_C p m c cX2_lineOf 2 s _ RX2 D T := ⟨⟨hx, hb, hml, findClass_of_methodNamed B.named, hts⟩, hK⟩
  have hS : va_S (wk_A z0) s.heap s.heap [] := va_S.rf
  have hl := lv_entry ([.ref (ad (1, 0, 0)), .int a1]) (n := 2) (Nat.le_of_ble_eq_true rfl)
  rw [lg_entry_eq]
  generalize (lg_sl ([.ref (ad (1, 0, 0)), .int a1]) ++ List.replicate (2 - (lg_sl ([.ref (ad (1, 0, 0)), .int a1])).length) Slot.unset).toArray = ls at hl ⊢
  have hl : lv_has ls 2 [(0, .ref (ad (1, 0, 0))), (1, .int a1)] := hl
  unfold mg_X2_lineOf at hg
  refine lv_iload_n (pc := 0) hx hb dX2_lineOf_0 rfl (lv_at hl 1 rfl) ?_
  refine lv_aload_n (pc := 1) hx hb dX2_lineOf_1 rfl (lv_at hl 0 rfl) ?_
  refine wk_geti (pc := 2) X hH (1, 0, 0) 0 (sc_1 hSh) rfl (by decide) rfl inX2 fl_X2_9 dX2_lineOf_2 ?_
  obtain ⟨o1, hg⟩ := hg
  refine lv_idiv (pc := 5) hx hb dX2_lineOf_5 o1 ?_
  exact wk_iret (pc := 6) X hH hS hr hlocks (by rw [mr_X2_lineOf]) (rfl) dX2_lineOf_6

def mr_X3_maySetWords (P : Nat → Nat) (sg : wk_Sg) (i : Nat) (j : Nat) : Int32 := (if (sg (8, i, j) 1) = 2 then 1 else (if (sg (8, i, j) 1) = 4 then 1 else 0))
theorem mz_X3_maySetWords (P : Nat → Nat) (sg : wk_Sg) (i : Nat) (j : Nat) : mr_X3_maySetWords P sg i j = 0 ∨ mr_X3_maySetWords P sg i j = 1 := by
  unfold mr_X3_maySetWords
  repeat' split
  all_goals first | exact Or.inl rfl | exact Or.inr rfl
set_option maxHeartbeats 4000000 in
set_option maxRecDepth 100000 in
theorem mk_X3_maySetWords {l : Launch} {D : va_G} {T : wk_T} {z0 : Nat} {ad : wk_K3 → Nat} {sh : wk_Sh} {P : Nat → Nat} (hSh : sc_Sh T P sh) (sg : wk_Sg) (i : Nat) (j : Nat) (hi : i < P 0) (hj : j < P 1)  : wk_Mi l yX3_maySetWords cX3_maySetWords 1 (some .boolean) 0 0 D T z0 ad sh [.ref (ad (8, i, j))] sg (mr_X3_maySetWords P sg i j) sg := by
  refine Met.ofW (cc := cX3_maySetWords) (maxL := 1) (ret := (some .boolean)) (by decide) rfl ?_
  intro p e s m args below meth c s₁ B hml hv
  obtain ⟨rfl, hz, hH, hK⟩ := hv
  have hx := B.exec
  have hb := B.bytes
  have hr := B.returns
  have hlocks := B.notSynchronized
  have hts : ∀ w ∈ wk_B, w.before _ s = true := fun w hw => atoms_spec (ws := Cond.code yX3_maySetWords cX3_maySetWords 1 (some .boolean) :: wk_B) B.pre w (List.mem_cons_of_mem _ hw)
  have X : wk_C p m c cX3_maySetWords 1 s _ RX3 D T := ⟨⟨hx, hb, hml, findClass_of_methodNamed B.named, hts⟩, hK⟩
  have hS : va_S (wk_A z0) s.heap s.heap [] := va_S.rf
  have hl := lv_entry ([.ref (ad (8, i, j))]) (n := 1) (Nat.le_of_ble_eq_true rfl)
  rw [lg_entry_eq]
  generalize (lg_sl ([.ref (ad (8, i, j))]) ++ List.replicate (1 - (lg_sl ([.ref (ad (8, i, j))])).length) Slot.unset).toArray = ls at hl ⊢
  have hl : lv_has ls 1 [(0, .ref (ad (8, i, j)))] := hl
  refine lv_aload_n (pc := 0) hx hb dX3_maySetWords_0 rfl (lv_at hl 0 rfl) ?_
  refine wk_geti (pc := 1) X hH (8, i, j) 1 (sc_8 hSh hi hj) rfl (by decide) rfl inX3 fl_X3_9 dX3_maySetWords_1 ?_
  refine lv_iconst (pc := 4) (v := 2) hx hb dX3_maySetWords_4 (by decide) ?_
  refine lv_icmp_eq (pc := 5) (tgt := 16) hx hb dX3_maySetWords_5 (by decide) (fun h1 => ?_) (fun h1 => ?_)
  · skip
    refine lv_iconst (pc := 16) (v := 1) hx hb dX3_maySetWords_16 (by decide) ?_
    refine lv_goto (pc := 17) (tgt := 21) hx hb dX3_maySetWords_17 (by decide) ?_
    exact wk_zret (pc := 21) X hH hS hr hlocks (Or.inr rfl) (by rw [mr_X3_maySetWords, if_pos h1]) (rfl) dX3_maySetWords_21
  · skip
    refine lv_aload_n (pc := 8) hx hb dX3_maySetWords_8 rfl (lv_at hl 0 rfl) ?_
    refine wk_geti (pc := 9) X hH (8, i, j) 1 (sc_8 hSh hi hj) rfl (by decide) rfl inX3 fl_X3_9 dX3_maySetWords_9 ?_
    refine lv_iconst (pc := 12) (v := 4) hx hb dX3_maySetWords_12 (by decide) ?_
    refine lv_icmp_ne (pc := 13) (tgt := 20) hx hb dX3_maySetWords_13 (by decide) (fun h2 => ?_) (fun h2 => ?_)
    · skip
      refine lv_iconst (pc := 20) (v := 0) hx hb dX3_maySetWords_20 (by decide) ?_
      exact wk_zret (pc := 21) X hH hS hr hlocks (Or.inl rfl) (by rw [mr_X3_maySetWords, if_neg h1, if_neg h2]) (rfl) dX3_maySetWords_21
    · skip
      refine lv_iconst (pc := 16) (v := 1) hx hb dX3_maySetWords_16 (by decide) ?_
      refine lv_goto (pc := 17) (tgt := 21) hx hb dX3_maySetWords_17 (by decide) ?_
      exact wk_zret (pc := 21) X hH hS hr hlocks (Or.inr rfl) (by rw [mr_X3_maySetWords, if_neg h1, if_pos h2]) (rfl) dX3_maySetWords_21

def mr_X2_offsetOf (P : Nat → Nat) (sg : wk_Sg) (a1 : Int32) : Int32 := (a1 - a1 / (sg (1, 0, 0) 0) * (sg (1, 0, 0) 0))
def mg_X2_offsetOf (P : Nat → Nat) (sg : wk_Sg) (a1 : Int32) : Prop := (¬ (sg (1, 0, 0) 0) = 0 ∧ True)
set_option maxHeartbeats 4000000 in
set_option maxRecDepth 100000 in
theorem mk_X2_offsetOf {l : Launch} {D : va_G} {T : wk_T} {z0 : Nat} {ad : wk_K3 → Nat} {sh : wk_Sh} {P : Nat → Nat} (hSh : sc_Sh T P sh) (sg : wk_Sg) (a1 : Int32)  (hg : mg_X2_offsetOf P sg a1) : wk_Mi l yX2_offsetOf cX2_offsetOf 2 (some .int) 0 0 D T z0 ad sh [.ref (ad (1, 0, 0)), .int a1] sg (mr_X2_offsetOf P sg a1) sg := by
  refine Met.ofW (cc := cX2_offsetOf) (maxL := 2) (ret := (some .int)) (by decide) rfl ?_
  intro p e s m args below meth c s₁ B hml hv
  obtain ⟨rfl, hz, hH, hK⟩ := hv
  have hx := B.exec
  have hb := B.bytes
  have hr := B.returns
  have hlocks := B.notSynchronized
  have hts : ∀ w ∈ wk_B, w.before _ s = true := fun w hw => atoms_spec (ws := Cond.code yX2_offsetOf cX2_offsetOf 2 (some .int) :: wk_B) B.pre w (List.mem_cons_of_mem _ hw)
  have X : wk_C p m c cX2_offsetOf 2 s _ RX2 D T := ⟨⟨hx, hb, hml, findClass_of_methodNamed B.named, hts⟩, hK⟩
  have hS : va_S (wk_A z0) s.heap s.heap [] := va_S.rf
  have hl := lv_entry ([.ref (ad (1, 0, 0)), .int a1]) (n := 2) (Nat.le_of_ble_eq_true rfl)
  rw [lg_entry_eq]
  generalize (lg_sl ([.ref (ad (1, 0, 0)), .int a1]) ++ List.replicate (2 - (lg_sl ([.ref (ad (1, 0, 0)), .int a1])).length) Slot.unset).toArray = ls at hl ⊢
  have hl : lv_has ls 2 [(0, .ref (ad (1, 0, 0))), (1, .int a1)] := hl
  unfold mg_X2_offsetOf at hg
  refine lv_iload_n (pc := 0) hx hb dX2_offsetOf_0 rfl (lv_at hl 1 rfl) ?_
  refine lv_aload_n (pc := 1) hx hb dX2_offsetOf_1 rfl (lv_at hl 0 rfl) ?_
  refine wk_geti (pc := 2) X hH (1, 0, 0) 0 (sc_1 hSh) rfl (by decide) rfl inX2 fl_X2_9 dX2_offsetOf_2 ?_
  obtain ⟨o1, hg⟩ := hg
  refine lv_irem (pc := 5) hx hb dX2_offsetOf_5 o1 ?_
  exact wk_iret (pc := 6) X hH hS hr hlocks (by rw [mr_X2_offsetOf]) (rfl) dX2_offsetOf_6

def ms_X1_tryAccess (P : Nat → Nat) (sg : wk_Sg) (i : Nat) (a1 : Int32) (a2 : Int32) : wk_Sg := (if (mr_X2_has P sg a2) = 0 then (wk_up sg (4, i, 0) 6 3) else (if (mr_X1_operation P sg a1) = 9 then (if (mr_X3_holds P sg i (Int32.toNatClampNeg (mr_X1_indexFor P sg i (mr_X2_lineOf P sg a2))) (mr_X2_lineOf P sg a2)) = 0 then (ms_X1_ask P sg i 1 (mr_X2_lineOf P sg a2)) else (ms_X1_access P sg i a1 i (Int32.toNatClampNeg (mr_X1_indexFor P sg i (mr_X2_lineOf P sg a2))) (mr_X2_offsetOf P sg a2))) else (if (mr_X3_holds P sg i (Int32.toNatClampNeg (mr_X1_indexFor P sg i (mr_X2_lineOf P sg a2))) (mr_X2_lineOf P sg a2)) = 0 then (ms_X1_ask P sg i 2 (mr_X2_lineOf P sg a2)) else (if (mr_X3_maySetWords P sg i (Int32.toNatClampNeg (mr_X1_indexFor P sg i (mr_X2_lineOf P sg a2)))) = 0 then (ms_X1_ask P sg i 2 (mr_X2_lineOf P sg a2)) else (ms_X1_access P sg i a1 i (Int32.toNatClampNeg (mr_X1_indexFor P sg i (mr_X2_lineOf P sg a2))) (mr_X2_offsetOf P sg a2))))))
def mg_X1_tryAccess (P : Nat → Nat) (sg : wk_Sg) (i : Nat) (a1 : Int32) (a2 : Int32) : Prop := (((mr_X2_has P sg a2) = 0 → True) ∧ (¬ (mr_X2_has P sg a2) = 0 → (mg_X2_lineOf P sg a2 ∧ (mg_X1_slotFor P sg i (mr_X2_lineOf P sg a2) ∧ (((mr_X1_operation P sg a1) = 9 → (((mr_X3_holds P sg i (Int32.toNatClampNeg (mr_X1_indexFor P sg i (mr_X2_lineOf P sg a2))) (mr_X2_lineOf P sg a2)) = 0 → True) ∧ (¬ (mr_X3_holds P sg i (Int32.toNatClampNeg (mr_X1_indexFor P sg i (mr_X2_lineOf P sg a2))) (mr_X2_lineOf P sg a2)) = 0 → (mg_X2_offsetOf P sg a2 ∧ (mg_X1_access P sg i a1 i (Int32.toNatClampNeg (mr_X1_indexFor P sg i (mr_X2_lineOf P sg a2))) (mr_X2_offsetOf P sg a2) ∧ True))))) ∧ (¬ (mr_X1_operation P sg a1) = 9 → (((mr_X3_holds P sg i (Int32.toNatClampNeg (mr_X1_indexFor P sg i (mr_X2_lineOf P sg a2))) (mr_X2_lineOf P sg a2)) = 0 → True) ∧ (¬ (mr_X3_holds P sg i (Int32.toNatClampNeg (mr_X1_indexFor P sg i (mr_X2_lineOf P sg a2))) (mr_X2_lineOf P sg a2)) = 0 → (((mr_X3_maySetWords P sg i (Int32.toNatClampNeg (mr_X1_indexFor P sg i (mr_X2_lineOf P sg a2)))) = 0 → True) ∧ (¬ (mr_X3_maySetWords P sg i (Int32.toNatClampNeg (mr_X1_indexFor P sg i (mr_X2_lineOf P sg a2)))) = 0 → (mg_X2_offsetOf P sg a2 ∧ (mg_X1_access P sg i a1 i (Int32.toNatClampNeg (mr_X1_indexFor P sg i (mr_X2_lineOf P sg a2))) (mr_X2_offsetOf P sg a2) ∧ True))))))))))))
set_option maxHeartbeats 4000000 in
set_option maxRecDepth 100000 in
theorem mk_X1_tryAccess {l : Launch} {D : va_G} {T : wk_T} {z0 : Nat} {ad : wk_K3 → Nat} {sh : wk_Sh} {P : Nat → Nat} (hSh : sc_Sh T P sh) (sg : wk_Sg) (i : Nat) (a1 : Int32) (a2 : Int32) (hi : i < P 0) (hg : mg_X1_tryAccess P sg i a1 a2) : wk_Mv l yX1_tryAccess cX1_tryAccess 6 none 3 69 D T z0 ad sh [.ref (ad (4, i, 0)), .int a1, .int a2] sg (ms_X1_tryAccess P sg i a1 a2) := by
  refine Met.ofW (cc := cX1_tryAccess) (maxL := 6) (ret := none) (by decide) rfl ?_
  intro p e s m args below meth c s₁ B hml hv
  obtain ⟨rfl, hz, hH, hK⟩ := hv
  have hx := B.exec
  have hb := B.bytes
  have hr := B.returns
  have hlocks := B.notSynchronized
  have hts : ∀ w ∈ wk_B, w.before _ s = true := fun w hw => atoms_spec (ws := Cond.code yX1_tryAccess cX1_tryAccess 6 none :: wk_B) B.pre w (List.mem_cons_of_mem _ hw)
  have X : wk_C p m c cX1_tryAccess 6 s _ RX1 D T := ⟨⟨hx, hb, hml, findClass_of_methodNamed B.named, hts⟩, hK⟩
  have hS : va_S (wk_A z0) s.heap s.heap [] := va_S.rf
  have hl := lv_entry ([.ref (ad (4, i, 0)), .int a1, .int a2]) (n := 6) (Nat.le_of_ble_eq_true rfl)
  rw [lg_entry_eq]
  generalize (lg_sl ([.ref (ad (4, i, 0)), .int a1, .int a2]) ++ List.replicate (6 - (lg_sl ([.ref (ad (4, i, 0)), .int a1, .int a2])).length) Slot.unset).toArray = ls at hl ⊢
  have hl : lv_has ls 6 [(0, .ref (ad (4, i, 0))), (1, .int a1), (2, .int a2)] := hl
  unfold mg_X1_tryAccess at hg
  refine lv_aload_n (pc := 0) hx hb dX1_tryAccess_0 rfl (lv_at hl 0 rfl) ?_
  refine wk_getr (pc := 1) X hH (4, i, 0) 1 (1, 0, 0) (sc_4 hSh hi) rfl (by decide) rfl inX1 fl_X1_34 dX1_tryAccess_1 ?_
  refine lv_iload_n (pc := 4) hx hb dX1_tryAccess_4 rfl (lv_at hl 2 rfl) ?_
  refine wk_ci (wk_rV (pc := 5) (As := [.int a2]) (rest := []) X hH hS hz (sc_1 hSh) rfl ok_X2_has (mk_X2_has (l := l) (P := P) hSh sg a2  ) ml_X1_91 ⟨by decide, by decide, by decide, by decide⟩ rfl hl.1 rfl (Nat.le_of_ble_eq_true rfl) dX1_tryAccess_5) hS (fun H locs hH hS => ?_)
  refine lv_if_ne (pc := 8) (tgt := 17) hx hb dX1_tryAccess_8 (by decide) (fun h1 => ?_) (fun h1 => ?_)
  · have hg := hg.2 h1
    refine lv_aload_n (pc := 17) hx hb dX1_tryAccess_17 rfl (lv_at hl 0 rfl) ?_
    refine wk_getr (pc := 18) X hH (4, i, 0) 1 (1, 0, 0) (sc_4 hSh hi) rfl (by decide) rfl inX1 fl_X1_34 dX1_tryAccess_18 ?_
    refine lv_iload_n (pc := 21) hx hb dX1_tryAccess_21 rfl (lv_at hl 2 rfl) ?_
    obtain ⟨o2, hg⟩ := hg
    refine wk_ci (wk_rV (pc := 22) (As := [.int a2]) (rest := []) X hH hS hz (sc_1 hSh) rfl ok_X2_lineOf (mk_X2_lineOf (l := l) (P := P) hSh sg a2  o2) ml_X1_95 ⟨by decide, by decide, by decide, by decide⟩ rfl hl.1 rfl (Nat.le_of_ble_eq_true rfl) dX1_tryAccess_22) hS (fun H locs hH hS => ?_)
    refine lv_istore_n (pc := 25) (lv' := [(3, .int (mr_X2_lineOf P sg a2)), (0, .ref (ad (4, i, 0))), (1, .int a1), (2, .int a2)]) hx hb dX1_tryAccess_25 rfl hl (by decide) rfl (fun ls hl => ?_)
    refine lv_aload_n (pc := 26) hx hb dX1_tryAccess_26 rfl (lv_at hl 1 rfl) ?_
    refine lv_iload_n (pc := 27) hx hb dX1_tryAccess_27 rfl (lv_at hl 0 rfl) ?_
    obtain ⟨o3, hg⟩ := hg
    refine wk_cr (wk_rV (pc := 28) (As := [.int (mr_X2_lineOf P sg a2)]) (rest := []) X hH hS hz (sc_4 hSh hi) rfl ok_X1_slotFor (mk_X1_slotFor (l := l) (P := P) hSh sg i (mr_X2_lineOf P sg a2) hi o3) ml_X1_98 ⟨by decide, by decide, by decide, by decide⟩ rfl hl.1 rfl (Nat.le_of_ble_eq_true rfl) dX1_tryAccess_28) hS (fun H locs hH hS => ?_)
    have b4 := mb_X1_slotFor P sg i (mr_X2_lineOf P sg a2) o3
    refine lv_astore (pc := 31) (lv' := [(4, .ref (ad (8, i, (Int32.toNatClampNeg (mr_X1_indexFor P sg i (mr_X2_lineOf P sg a2)))))), (3, .int (mr_X2_lineOf P sg a2)), (0, .ref (ad (4, i, 0))), (1, .int a1), (2, .int a2)]) hx hb dX1_tryAccess_31 hl (by decide) rfl (fun ls hl => ?_)
    refine lv_iload_n (pc := 33) hx hb dX1_tryAccess_33 rfl (lv_at hl 3 rfl) ?_
    refine wk_ci (wk_rS (pc := 34) (As := [.int a1]) (rest := []) X hH hS hz ok_X1_operation (mk_X1_operation (l := l) (P := P)  sg a1  ) ml_X1_78 ⟨by decide, by decide, by decide, by decide⟩ rfl hl.1 rfl (Nat.le_of_ble_eq_true rfl) dX1_tryAccess_34) hS (fun H locs hH hS => ?_)
    refine lv_bipush (pc := 37) (v := 9) hx hb dX1_tryAccess_37 (by decide) ?_
    refine lv_icmp_ne (pc := 39) (tgt := 46) hx hb dX1_tryAccess_39 (by decide) (fun h5 => ?_) (fun h5 => ?_)
    · have hg := hg.2 h5
      refine lv_iconst (pc := 46) (v := 0) hx hb dX1_tryAccess_46 (by decide) ?_
      refine lv_istore (pc := 47) (lv' := [(5, .int 0), (4, .ref (ad (8, i, (Int32.toNatClampNeg (mr_X1_indexFor P sg i (mr_X2_lineOf P sg a2)))))), (3, .int (mr_X2_lineOf P sg a2)), (0, .ref (ad (4, i, 0))), (1, .int a1), (2, .int a2)]) hx hb dX1_tryAccess_47 hl (by decide) rfl (fun ls hl => ?_)
      refine lv_aload (pc := 49) hx hb dX1_tryAccess_49 (lv_at hl 1 rfl) ?_
      refine lv_iload_n (pc := 51) hx hb dX1_tryAccess_51 rfl (lv_at hl 2 rfl) ?_
      refine wk_ci (wk_rV (pc := 52) (As := [.int (mr_X2_lineOf P sg a2)]) (rest := []) X hH hS hz (sc_8 hSh hi b4) rfl ok_X3_holds (mk_X3_holds (l := l) (P := P) hSh sg i (Int32.toNatClampNeg (mr_X1_indexFor P sg i (mr_X2_lineOf P sg a2))) (mr_X2_lineOf P sg a2) hi b4 ) ml_X1_102 ⟨by decide, by decide, by decide, by decide⟩ rfl hl.1 rfl (Nat.le_of_ble_eq_true rfl) dX1_tryAccess_52) hS (fun H locs hH hS => ?_)
      refine lv_if_eq (pc := 55) (tgt := 89) hx hb dX1_tryAccess_55 (by decide) (fun h6 => ?_) (fun h6 => ?_)
      · have hg := hg.1 h6
        refine lv_aload_n (pc := 89) hx hb dX1_tryAccess_89 rfl (lv_at hl 3 rfl) ?_
        refine lv_iload (pc := 90) hx hb dX1_tryAccess_90 (lv_at hl 0 rfl) ?_
        refine lv_if_eq (pc := 92) (tgt := 99) hx hb dX1_tryAccess_92 (by decide) (fun _ => ?_) (fun h7 => absurd (by decide) h7)
        refine lv_iconst (pc := 99) (v := 2) hx hb dX1_tryAccess_99 (by decide) ?_
        refine lv_iload_n (pc := 100) hx hb dX1_tryAccess_100 rfl (lv_at hl 2 rfl) ?_
        refine wk_cv (wk_rV (pc := 101) (As := [.int 2, .int (mr_X2_lineOf P sg a2)]) (rest := []) X hH hS hz (sc_4 hSh hi) rfl ok_X1_ask (mk_X1_ask (l := l) (P := P) hSh sg i 2 (mr_X2_lineOf P sg a2) hi ) ml_X1_116 ⟨by decide, by decide, by decide, by decide⟩ rfl hl.1 rfl (Nat.le_of_ble_eq_true rfl) dX1_tryAccess_101) hS (fun H locs hH hS => ?_)
        exact wk_vret (pc := 104) X hH hS hr hlocks (by rw [ms_X1_tryAccess, if_neg h1, if_neg h5, if_pos h6]) dX1_tryAccess_104
      · have hg := hg.2 h6
        refine lv_iload (pc := 58) hx hb dX1_tryAccess_58 (lv_at hl 0 rfl) ?_
        refine lv_if_ne (pc := 60) (tgt := 71) hx hb dX1_tryAccess_60 (by decide) (fun h8 => absurd (by decide) h8) (fun _ => ?_)
        refine lv_aload (pc := 63) hx hb dX1_tryAccess_63 (lv_at hl 1 rfl) ?_
        refine wk_ci (wk_rV (pc := 65) (As := []) (rest := []) X hH hS hz (sc_8 hSh hi b4) rfl ok_X3_maySetWords (mk_X3_maySetWords (l := l) (P := P) hSh sg i (Int32.toNatClampNeg (mr_X1_indexFor P sg i (mr_X2_lineOf P sg a2))) hi b4 ) ml_X1_105 ⟨by decide, by decide, by decide, by decide⟩ rfl hl.1 rfl (Nat.le_of_ble_eq_true rfl) dX1_tryAccess_65) hS (fun H locs hH hS => ?_)
        refine lv_if_eq (pc := 68) (tgt := 89) hx hb dX1_tryAccess_68 (by decide) (fun h9 => ?_) (fun h9 => ?_)
        · have hg := hg.1 h9
          refine lv_aload_n (pc := 89) hx hb dX1_tryAccess_89 rfl (lv_at hl 3 rfl) ?_
          refine lv_iload (pc := 90) hx hb dX1_tryAccess_90 (lv_at hl 0 rfl) ?_
          refine lv_if_eq (pc := 92) (tgt := 99) hx hb dX1_tryAccess_92 (by decide) (fun _ => ?_) (fun h10 => absurd (by decide) h10)
          refine lv_iconst (pc := 99) (v := 2) hx hb dX1_tryAccess_99 (by decide) ?_
          refine lv_iload_n (pc := 100) hx hb dX1_tryAccess_100 rfl (lv_at hl 2 rfl) ?_
          refine wk_cv (wk_rV (pc := 101) (As := [.int 2, .int (mr_X2_lineOf P sg a2)]) (rest := []) X hH hS hz (sc_4 hSh hi) rfl ok_X1_ask (mk_X1_ask (l := l) (P := P) hSh sg i 2 (mr_X2_lineOf P sg a2) hi ) ml_X1_116 ⟨by decide, by decide, by decide, by decide⟩ rfl hl.1 rfl (Nat.le_of_ble_eq_true rfl) dX1_tryAccess_101) hS (fun H locs hH hS => ?_)
          exact wk_vret (pc := 104) X hH hS hr hlocks (by rw [ms_X1_tryAccess, if_neg h1, if_neg h5, if_neg h6, if_pos h9]) dX1_tryAccess_104
        · have hg := hg.2 h9
          refine lv_aload_n (pc := 71) hx hb dX1_tryAccess_71 rfl (lv_at hl 3 rfl) ?_
          refine lv_iload_n (pc := 72) hx hb dX1_tryAccess_72 rfl (lv_at hl 4 rfl) ?_
          refine lv_aload (pc := 73) hx hb dX1_tryAccess_73 (lv_at hl 1 rfl) ?_
          refine lv_aload_n (pc := 75) hx hb dX1_tryAccess_75 rfl (lv_at hl 3 rfl) ?_
          refine wk_getr (pc := 76) X hH (4, i, 0) 1 (1, 0, 0) (sc_4 hSh hi) rfl (by decide) rfl inX1 fl_X1_34 dX1_tryAccess_76 ?_
          refine lv_iload_n (pc := 79) hx hb dX1_tryAccess_79 rfl (lv_at hl 5 rfl) ?_
          obtain ⟨o11, hg⟩ := hg
          refine wk_ci (wk_rV (pc := 80) (As := [.int a2]) (rest := [.ref (ad (8, i, (Int32.toNatClampNeg (mr_X1_indexFor P sg i (mr_X2_lineOf P sg a2))))), .int a1, .ref (ad (4, i, 0))]) X hH hS hz (sc_1 hSh) rfl ok_X2_offsetOf (mk_X2_offsetOf (l := l) (P := P) hSh sg a2  o11) ml_X1_109 ⟨by decide, by decide, by decide, by decide⟩ rfl hl.1 rfl (Nat.le_of_ble_eq_true rfl) dX1_tryAccess_80) hS (fun H locs hH hS => ?_)
          obtain ⟨o12, hg⟩ := hg
          refine wk_cv (wk_rV (pc := 83) (As := [.int a1, .ref (ad (8, i, (Int32.toNatClampNeg (mr_X1_indexFor P sg i (mr_X2_lineOf P sg a2))))), .int (mr_X2_offsetOf P sg a2)]) (rest := []) X hH hS hz (sc_4 hSh hi) rfl ok_X1_access (mk_X1_access (l := l) (P := P) hSh sg i a1 i (Int32.toNatClampNeg (mr_X1_indexFor P sg i (mr_X2_lineOf P sg a2))) (mr_X2_offsetOf P sg a2) hi hi b4 o12) ml_X1_112 ⟨by decide, by decide, by decide, by decide⟩ rfl hl.1 rfl (Nat.le_of_ble_eq_true rfl) dX1_tryAccess_83) hS (fun H locs hH hS => ?_)
          refine lv_goto (pc := 86) (tgt := 104) hx hb dX1_tryAccess_86 (by decide) ?_
          exact wk_vret (pc := 104) X hH hS hr hlocks (by rw [ms_X1_tryAccess, if_neg h1, if_neg h5, if_neg h6, if_neg h9]) dX1_tryAccess_104
    · have hg := hg.1 h5
      refine lv_iconst (pc := 42) (v := 1) hx hb dX1_tryAccess_42 (by decide) ?_
      refine lv_goto (pc := 43) (tgt := 47) hx hb dX1_tryAccess_43 (by decide) ?_
      refine lv_istore (pc := 47) (lv' := [(5, .int 1), (4, .ref (ad (8, i, (Int32.toNatClampNeg (mr_X1_indexFor P sg i (mr_X2_lineOf P sg a2)))))), (3, .int (mr_X2_lineOf P sg a2)), (0, .ref (ad (4, i, 0))), (1, .int a1), (2, .int a2)]) hx hb dX1_tryAccess_47 hl (by decide) rfl (fun ls hl => ?_)
      refine lv_aload (pc := 49) hx hb dX1_tryAccess_49 (lv_at hl 1 rfl) ?_
      refine lv_iload_n (pc := 51) hx hb dX1_tryAccess_51 rfl (lv_at hl 2 rfl) ?_
      refine wk_ci (wk_rV (pc := 52) (As := [.int (mr_X2_lineOf P sg a2)]) (rest := []) X hH hS hz (sc_8 hSh hi b4) rfl ok_X3_holds (mk_X3_holds (l := l) (P := P) hSh sg i (Int32.toNatClampNeg (mr_X1_indexFor P sg i (mr_X2_lineOf P sg a2))) (mr_X2_lineOf P sg a2) hi b4 ) ml_X1_102 ⟨by decide, by decide, by decide, by decide⟩ rfl hl.1 rfl (Nat.le_of_ble_eq_true rfl) dX1_tryAccess_52) hS (fun H locs hH hS => ?_)
      refine lv_if_eq (pc := 55) (tgt := 89) hx hb dX1_tryAccess_55 (by decide) (fun h13 => ?_) (fun h13 => ?_)
      · have hg := hg.1 h13
        refine lv_aload_n (pc := 89) hx hb dX1_tryAccess_89 rfl (lv_at hl 3 rfl) ?_
        refine lv_iload (pc := 90) hx hb dX1_tryAccess_90 (lv_at hl 0 rfl) ?_
        refine lv_if_eq (pc := 92) (tgt := 99) hx hb dX1_tryAccess_92 (by decide) (fun h14 => absurd h14 (by decide)) (fun _ => ?_)
        refine lv_iconst (pc := 95) (v := 1) hx hb dX1_tryAccess_95 (by decide) ?_
        refine lv_goto (pc := 96) (tgt := 100) hx hb dX1_tryAccess_96 (by decide) ?_
        refine lv_iload_n (pc := 100) hx hb dX1_tryAccess_100 rfl (lv_at hl 2 rfl) ?_
        refine wk_cv (wk_rV (pc := 101) (As := [.int 1, .int (mr_X2_lineOf P sg a2)]) (rest := []) X hH hS hz (sc_4 hSh hi) rfl ok_X1_ask (mk_X1_ask (l := l) (P := P) hSh sg i 1 (mr_X2_lineOf P sg a2) hi ) ml_X1_116 ⟨by decide, by decide, by decide, by decide⟩ rfl hl.1 rfl (Nat.le_of_ble_eq_true rfl) dX1_tryAccess_101) hS (fun H locs hH hS => ?_)
        exact wk_vret (pc := 104) X hH hS hr hlocks (by rw [ms_X1_tryAccess, if_neg h1, if_pos h5, if_pos h13]) dX1_tryAccess_104
      · have hg := hg.2 h13
        refine lv_iload (pc := 58) hx hb dX1_tryAccess_58 (lv_at hl 0 rfl) ?_
        refine lv_if_ne (pc := 60) (tgt := 71) hx hb dX1_tryAccess_60 (by decide) (fun _ => ?_) (fun h15 => absurd h15 (by decide))
        refine lv_aload_n (pc := 71) hx hb dX1_tryAccess_71 rfl (lv_at hl 3 rfl) ?_
        refine lv_iload_n (pc := 72) hx hb dX1_tryAccess_72 rfl (lv_at hl 4 rfl) ?_
        refine lv_aload (pc := 73) hx hb dX1_tryAccess_73 (lv_at hl 1 rfl) ?_
        refine lv_aload_n (pc := 75) hx hb dX1_tryAccess_75 rfl (lv_at hl 3 rfl) ?_
        refine wk_getr (pc := 76) X hH (4, i, 0) 1 (1, 0, 0) (sc_4 hSh hi) rfl (by decide) rfl inX1 fl_X1_34 dX1_tryAccess_76 ?_
        refine lv_iload_n (pc := 79) hx hb dX1_tryAccess_79 rfl (lv_at hl 5 rfl) ?_
        obtain ⟨o16, hg⟩ := hg
        refine wk_ci (wk_rV (pc := 80) (As := [.int a2]) (rest := [.ref (ad (8, i, (Int32.toNatClampNeg (mr_X1_indexFor P sg i (mr_X2_lineOf P sg a2))))), .int a1, .ref (ad (4, i, 0))]) X hH hS hz (sc_1 hSh) rfl ok_X2_offsetOf (mk_X2_offsetOf (l := l) (P := P) hSh sg a2  o16) ml_X1_109 ⟨by decide, by decide, by decide, by decide⟩ rfl hl.1 rfl (Nat.le_of_ble_eq_true rfl) dX1_tryAccess_80) hS (fun H locs hH hS => ?_)
        obtain ⟨o17, hg⟩ := hg
        refine wk_cv (wk_rV (pc := 83) (As := [.int a1, .ref (ad (8, i, (Int32.toNatClampNeg (mr_X1_indexFor P sg i (mr_X2_lineOf P sg a2))))), .int (mr_X2_offsetOf P sg a2)]) (rest := []) X hH hS hz (sc_4 hSh hi) rfl ok_X1_access (mk_X1_access (l := l) (P := P) hSh sg i a1 i (Int32.toNatClampNeg (mr_X1_indexFor P sg i (mr_X2_lineOf P sg a2))) (mr_X2_offsetOf P sg a2) hi hi b4 o17) ml_X1_112 ⟨by decide, by decide, by decide, by decide⟩ rfl hl.1 rfl (Nat.le_of_ble_eq_true rfl) dX1_tryAccess_83) hS (fun H locs hH hS => ?_)
        refine lv_goto (pc := 86) (tgt := 104) hx hb dX1_tryAccess_86 (by decide) ?_
        exact wk_vret (pc := 104) X hH hS hr hlocks (by rw [ms_X1_tryAccess, if_neg h1, if_pos h5, if_neg h13]) dX1_tryAccess_104
  · have hg := hg.1 h1
    refine lv_aload_n (pc := 11) hx hb dX1_tryAccess_11 rfl (lv_at hl 0 rfl) ?_
    refine lv_iconst (pc := 12) (v := 3) hx hb dX1_tryAccess_12 (by decide) ?_
    refine wk_puti (pc := 13) X hH hS (4, i, 0) 6 tyX1_ok nmX1 (sc_4 hSh hi) rfl (by decide) rfl inX1 fl_X1_19 rfl rfl rfl dX1_tryAccess_13 (fun H locs hH hS => ?_)
    exact wk_vret (pc := 16) X hH hS hr hlocks (by rw [ms_X1_tryAccess, if_pos h1]) dX1_tryAccess_16
