def mr_X5_isAddress (P : Nat → Nat) (sg : wk_Sg) (a1 : Int32) : Int32 := (if a1 < 0 then 0 else (if (sg (20, 0, 0) 3) ≤ a1 then 0 else 1))
theorem mz_X5_isAddress (P : Nat → Nat) (sg : wk_Sg) (a1 : Int32) : mr_X5_isAddress P sg a1 = 0 ∨ mr_X5_isAddress P sg a1 = 1 := by
  unfold mr_X5_isAddress
  repeat' split
  all_goals first | exact Or.inl rfl | exact Or.inr rfl
set_option maxHeartbeats 4000000 in
set_option maxRecDepth 100000 in
theorem mk_X5_isAddress {l : Launch} {D : va_G} {T : wk_T} {z0 : Nat} {ad : wk_K3 → Nat} {sh : wk_Sh} {P : Nat → Nat} (hSh : rf_Sh T sh) (sg : wk_Sg) (a1 : Int32)   : wk_Mi l yX5_isAddress cX5_isAddress 2 (some .boolean) 0 0 D T z0 ad sh [.ref (ad (20, 0, 0)), .int a1] sg (mr_X5_isAddress P sg a1) sg := by
  refine Met.ofW (cc := cX5_isAddress) (maxL := 2) (ret := (some .boolean)) (by decide) rfl ?_
  intro p e s m args below meth c s₁ B hml hv
  obtain ⟨rfl, hz, hH, hK⟩ := hv
  have hx := B.exec
  have hb := B.bytes
  have hr := B.returns
  have hlocks := B.notSynchronized
  have hts : ∀ w ∈ wk_B, w.before _ s = true := fun w hw => atoms_spec (ws := Cond.code yX5_isAddress cX5_isAddress 2 (some .boolean) :: wk_B) B.pre w (List.mem_cons_of_mem _ hw)
  have X : wk_C p m c cX5_isAddress 2 s _ RX5 D T := ⟨⟨hx, hb, hml, findClass_of_methodNamed B.named, hts⟩, hK⟩
  have hS : va_S (wk_A z0) s.heap s.heap [] := va_S.rf
  have hl := lv_entry ([.ref (ad (20, 0, 0)), .int a1]) (n := 2) (Nat.le_of_ble_eq_true rfl)
  rw [lg_entry_eq]
  generalize (lg_sl ([.ref (ad (20, 0, 0)), .int a1]) ++ List.replicate (2 - (lg_sl ([.ref (ad (20, 0, 0)), .int a1])).length) Slot.unset).toArray = ls at hl ⊢
  have hl : lv_has ls 2 [(0, .ref (ad (20, 0, 0))), (1, .int a1)] := hl
  refine lv_iload_n (pc := 0) hx hb dX5_isAddress_0 rfl (lv_at hl 1 rfl) ?_
  refine lv_if_lt (pc := 1) (tgt := 16) hx hb dX5_isAddress_1 (by decide) (fun h1 => ?_) (fun h1 => ?_)
  · skip
    refine lv_iconst (pc := 16) (v := 0) hx hb dX5_isAddress_16 (by decide) ?_
    exact wk_zret (pc := 17) X hH hS hr hlocks (Or.inl rfl) (by rw [mr_X5_isAddress, if_pos h1]) (rfl) dX5_isAddress_17
  · skip
    refine lv_iload_n (pc := 4) hx hb dX5_isAddress_4 rfl (lv_at hl 1 rfl) ?_
    refine lv_aload_n (pc := 5) hx hb dX5_isAddress_5 rfl (lv_at hl 0 rfl) ?_
    refine wk_geti (pc := 6) X hH (20, 0, 0) 3 (rf_20 hSh) rfl (by decide) rfl inX5 fl_X5_63 dX5_isAddress_6 ?_
    refine lv_icmp_ge (pc := 9) (tgt := 16) hx hb dX5_isAddress_9 (by decide) (fun h2 => ?_) (fun h2 => ?_)
    · skip
      refine lv_iconst (pc := 16) (v := 0) hx hb dX5_isAddress_16 (by decide) ?_
      exact wk_zret (pc := 17) X hH hS hr hlocks (Or.inl rfl) (by rw [mr_X5_isAddress, if_neg h1, if_pos h2]) (rfl) dX5_isAddress_17
    · skip
      refine lv_iconst (pc := 12) (v := 1) hx hb dX5_isAddress_12 (by decide) ?_
      refine lv_goto (pc := 13) (tgt := 17) hx hb dX5_isAddress_13 (by decide) ?_
      exact wk_zret (pc := 17) X hH hS hr hlocks (Or.inr rfl) (by rw [mr_X5_isAddress, if_neg h1, if_neg h2]) (rfl) dX5_isAddress_17

def mr_X5_load (P : Nat → Nat) (sg : wk_Sg) (a1 : Int32) (a2 : Int32) (a3 : Int32) : Int32 := (if (mr_X5_isCpu P sg a1) = 0 then 0 else (if a2 < 0 then 0 else (if (sg (20, 0, 0) 4) ≤ a2 then 0 else (if (sg (20, 0, 0) 7) = 0 then 1 else 0))))
def ms_X5_load (P : Nat → Nat) (sg : wk_Sg) (a1 : Int32) (a2 : Int32) (a3 : Int32) : wk_Sg := (if (mr_X5_isCpu P sg a1) = 0 then sg else (if a2 < 0 then sg else (if (sg (20, 0, 0) 4) ≤ a2 then sg else (if (sg (20, 0, 0) 7) = 0 then (wk_up sg (22, 0, 0) (Int32.toNatClampNeg (((32 : Int32) * a1) + a2)) a3) else sg))))
def mg_X5_load (P : Nat → Nat) (sg : wk_Sg) (a1 : Int32) (a2 : Int32) (a3 : Int32) : Prop := (((mr_X5_isCpu P sg a1) = 0 → True) ∧ (¬ (mr_X5_isCpu P sg a1) = 0 → ((a2 < 0 → True) ∧ (¬ a2 < 0 → (((sg (20, 0, 0) 4) ≤ a2 → True) ∧ (¬ (sg (20, 0, 0) 4) ≤ a2 → (((sg (20, 0, 0) 7) = 0 → (vp_in (((32 : Int32) * a1) + a2) 128 ∧ True)) ∧ (¬ (sg (20, 0, 0) 7) = 0 → True))))))))
theorem mz_X5_load (P : Nat → Nat) (sg : wk_Sg) (a1 : Int32) (a2 : Int32) (a3 : Int32) : mr_X5_load P sg a1 a2 a3 = 0 ∨ mr_X5_load P sg a1 a2 a3 = 1 := by
  unfold mr_X5_load
  repeat' split
  all_goals first | exact Or.inl rfl | exact Or.inr rfl | apply mz_X5_isCpu
set_option maxHeartbeats 4000000 in
set_option maxRecDepth 100000 in
theorem mk_X5_load {l : Launch} {D : va_G} {T : wk_T} {z0 : Nat} {ad : wk_K3 → Nat} {sh : wk_Sh} {P : Nat → Nat} (hSh : rf_Sh T sh) (sg : wk_Sg) (a1 : Int32) (a2 : Int32) (a3 : Int32)  (hg : mg_X5_load P sg a1 a2 a3) : wk_Mi l yX5_load cX5_load 4 (some .boolean) 1 21 D T z0 ad sh [.ref (ad (20, 0, 0)), .int a1, .int a2, .int a3] sg (mr_X5_load P sg a1 a2 a3) (ms_X5_load P sg a1 a2 a3) := by
  refine Met.ofW (cc := cX5_load) (maxL := 4) (ret := (some .boolean)) (by decide) rfl ?_
  intro p e s m args below meth c s₁ B hml hv
  obtain ⟨rfl, hz, hH, hK⟩ := hv
  have hx := B.exec
  have hb := B.bytes
  have hr := B.returns
  have hlocks := B.notSynchronized
  have hts : ∀ w ∈ wk_B, w.before _ s = true := fun w hw => atoms_spec (ws := Cond.code yX5_load cX5_load 4 (some .boolean) :: wk_B) B.pre w (List.mem_cons_of_mem _ hw)
  have X : wk_C p m c cX5_load 4 s _ RX5 D T := ⟨⟨hx, hb, hml, findClass_of_methodNamed B.named, hts⟩, hK⟩
  have hS : va_S (wk_A z0) s.heap s.heap [] := va_S.rf
  have hl := lv_entry ([.ref (ad (20, 0, 0)), .int a1, .int a2, .int a3]) (n := 4) (Nat.le_of_ble_eq_true rfl)
  rw [lg_entry_eq]
  generalize (lg_sl ([.ref (ad (20, 0, 0)), .int a1, .int a2, .int a3]) ++ List.replicate (4 - (lg_sl ([.ref (ad (20, 0, 0)), .int a1, .int a2, .int a3])).length) Slot.unset).toArray = ls at hl ⊢
  have hl : lv_has ls 4 [(0, .ref (ad (20, 0, 0))), (1, .int a1), (2, .int a2), (3, .int a3)] := hl
  unfold mg_X5_load at hg
  refine lv_aload_n (pc := 0) hx hb dX5_load_0 rfl (lv_at hl 0 rfl) ?_
  refine lv_iload_n (pc := 1) hx hb dX5_load_1 rfl (lv_at hl 1 rfl) ?_
  refine wk_ci (wk_rV (pc := 2) (As := [.int a1]) (rest := []) X hH hS hz (rf_20 hSh) rfl ok_X5_isCpu (mk_X5_isCpu (l := l) (P := P) hSh sg a1  ) ml_X5_75 ⟨by decide, by decide, by decide, by decide⟩ rfl hl.1 rfl (Nat.le_of_ble_eq_true rfl) dX5_load_2) hS (fun H locs hH hS => ?_)
  refine lv_if_eq (pc := 5) (tgt := 27) hx hb dX5_load_5 (by decide) (fun h1 => ?_) (fun h1 => ?_)
  · have hg := hg.1 h1
    refine lv_iconst (pc := 27) (v := 0) hx hb dX5_load_27 (by decide) ?_
    exact wk_zret (pc := 28) X hH hS hr hlocks (Or.inl rfl) (by rw [mr_X5_load, if_pos h1]) (by rw [ms_X5_load, if_pos h1]) dX5_load_28
  · have hg := hg.2 h1
    refine lv_iload_n (pc := 8) hx hb dX5_load_8 rfl (lv_at hl 2 rfl) ?_
    refine lv_if_lt (pc := 9) (tgt := 27) hx hb dX5_load_9 (by decide) (fun h2 => ?_) (fun h2 => ?_)
    · have hg := hg.1 h2
      refine lv_iconst (pc := 27) (v := 0) hx hb dX5_load_27 (by decide) ?_
      exact wk_zret (pc := 28) X hH hS hr hlocks (Or.inl rfl) (by rw [mr_X5_load, if_neg h1, if_pos h2]) (by rw [ms_X5_load, if_neg h1, if_pos h2]) dX5_load_28
    · have hg := hg.2 h2
      refine lv_iload_n (pc := 12) hx hb dX5_load_12 rfl (lv_at hl 2 rfl) ?_
      refine lv_aload_n (pc := 13) hx hb dX5_load_13 rfl (lv_at hl 0 rfl) ?_
      refine wk_geti (pc := 14) X hH (20, 0, 0) 4 (rf_20 hSh) rfl (by decide) rfl inX5 fl_X5_66 dX5_load_14 ?_
      refine lv_icmp_ge (pc := 17) (tgt := 27) hx hb dX5_load_17 (by decide) (fun h3 => ?_) (fun h3 => ?_)
      · have hg := hg.1 h3
        refine lv_iconst (pc := 27) (v := 0) hx hb dX5_load_27 (by decide) ?_
        exact wk_zret (pc := 28) X hH hS hr hlocks (Or.inl rfl) (by rw [mr_X5_load, if_neg h1, if_neg h2, if_pos h3]) (by rw [ms_X5_load, if_neg h1, if_neg h2, if_pos h3]) dX5_load_28
      · have hg := hg.2 h3
        refine lv_aload_n (pc := 20) hx hb dX5_load_20 rfl (lv_at hl 0 rfl) ?_
        refine wk_geti (pc := 21) X hH (20, 0, 0) 7 (rf_20 hSh) rfl (by decide) rfl inX5 fl_X5_79 dX5_load_21 ?_
        refine lv_if_eq (pc := 24) (tgt := 29) hx hb dX5_load_24 (by decide) (fun h4 => ?_) (fun h4 => ?_)
        · have hg := hg.1 h4
          refine lv_aload_n (pc := 29) hx hb dX5_load_29 rfl (lv_at hl 0 rfl) ?_
          refine wk_getr (pc := 30) X hH (20, 0, 0) 6 (22, 0, 0) (rf_20 hSh) rfl (by decide) rfl inX5 fl_X5_13 dX5_load_30 ?_
          refine lv_bipush (pc := 33) (v := 32) hx hb dX5_load_33 (by decide) ?_
          refine lv_iload_n (pc := 35) hx hb dX5_load_35 rfl (lv_at hl 1 rfl) ?_
          refine lv_imul (pc := 36) hx hb dX5_load_36 ?_
          refine lv_iload_n (pc := 37) hx hb dX5_load_37 rfl (lv_at hl 2 rfl) ?_
          refine lv_iadd (pc := 38) hx hb dX5_load_38 ?_
          refine lv_iload_n (pc := 39) hx hb dX5_load_39 rfl (lv_at hl 3 rfl) ?_
          obtain ⟨o5, hg⟩ := hg
          refine wk_iast (pc := 40) X hH hS (22, 0, 0) (rf_22 hSh) o5 dX5_load_40 (fun H locs hH hS => ?_)
          refine lv_iconst (pc := 41) (v := 1) hx hb dX5_load_41 (by decide) ?_
          exact wk_zret (pc := 42) X hH hS hr hlocks (Or.inr rfl) (by rw [mr_X5_load, if_neg h1, if_neg h2, if_neg h3, if_pos h4]) (by rw [ms_X5_load, if_neg h1, if_neg h2, if_neg h3, if_pos h4]) dX5_load_42
        · have hg := hg.2 h4
          refine lv_iconst (pc := 27) (v := 0) hx hb dX5_load_27 (by decide) ?_
          exact wk_zret (pc := 28) X hH hS hr hlocks (Or.inl rfl) (by rw [mr_X5_load, if_neg h1, if_neg h2, if_neg h3, if_neg h4]) (by rw [ms_X5_load, if_neg h1, if_neg h2, if_neg h3, if_neg h4]) dX5_load_28

def mr_X5_memory (P : Nat → Nat) (sg : wk_Sg) (a1 : Int32) : Int32 := (if (mr_X5_isAddress P sg a1) = 0 then 0 else (sg (21, 0, 0) (Int32.toNatClampNeg a1)))
def mg_X5_memory (P : Nat → Nat) (sg : wk_Sg) (a1 : Int32) : Prop := (((mr_X5_isAddress P sg a1) = 0 → True) ∧ (¬ (mr_X5_isAddress P sg a1) = 0 → (vp_in a1 64 ∧ True)))
set_option maxHeartbeats 4000000 in
set_option maxRecDepth 100000 in
theorem mk_X5_memory {l : Launch} {D : va_G} {T : wk_T} {z0 : Nat} {ad : wk_K3 → Nat} {sh : wk_Sh} {P : Nat → Nat} (hSh : rf_Sh T sh) (sg : wk_Sg) (a1 : Int32)  (hg : mg_X5_memory P sg a1) : wk_Mi l yX5_memory cX5_memory 2 (some .int) 1 21 D T z0 ad sh [.ref (ad (20, 0, 0)), .int a1] sg (mr_X5_memory P sg a1) sg := by
  refine Met.ofW (cc := cX5_memory) (maxL := 2) (ret := (some .int)) (by decide) rfl ?_
  intro p e s m args below meth c s₁ B hml hv
  obtain ⟨rfl, hz, hH, hK⟩ := hv
  have hx := B.exec
  have hb := B.bytes
  have hr := B.returns
  have hlocks := B.notSynchronized
  have hts : ∀ w ∈ wk_B, w.before _ s = true := fun w hw => atoms_spec (ws := Cond.code yX5_memory cX5_memory 2 (some .int) :: wk_B) B.pre w (List.mem_cons_of_mem _ hw)
  have X : wk_C p m c cX5_memory 2 s _ RX5 D T := ⟨⟨hx, hb, hml, findClass_of_methodNamed B.named, hts⟩, hK⟩
  have hS : va_S (wk_A z0) s.heap s.heap [] := va_S.rf
  have hl := lv_entry ([.ref (ad (20, 0, 0)), .int a1]) (n := 2) (Nat.le_of_ble_eq_true rfl)
  rw [lg_entry_eq]
  generalize (lg_sl ([.ref (ad (20, 0, 0)), .int a1]) ++ List.replicate (2 - (lg_sl ([.ref (ad (20, 0, 0)), .int a1])).length) Slot.unset).toArray = ls at hl ⊢
  have hl : lv_has ls 2 [(0, .ref (ad (20, 0, 0))), (1, .int a1)] := hl
  unfold mg_X5_memory at hg
  refine lv_aload_n (pc := 0) hx hb dX5_memory_0 rfl (lv_at hl 0 rfl) ?_
  refine lv_iload_n (pc := 1) hx hb dX5_memory_1 rfl (lv_at hl 1 rfl) ?_
  refine wk_ci (wk_rV (pc := 2) (As := [.int a1]) (rest := []) X hH hS hz (rf_20 hSh) rfl ok_X5_isAddress (mk_X5_isAddress (l := l) (P := P) hSh sg a1  ) ml_X5_83 ⟨by decide, by decide, by decide, by decide⟩ rfl hl.1 rfl (Nat.le_of_ble_eq_true rfl) dX5_memory_2) hS (fun H locs hH hS => ?_)
  refine lv_if_eq (pc := 5) (tgt := 17) hx hb dX5_memory_5 (by decide) (fun h1 => ?_) (fun h1 => ?_)
  · have hg := hg.1 h1
    refine lv_iconst (pc := 17) (v := 0) hx hb dX5_memory_17 (by decide) ?_
    exact wk_iret (pc := 18) X hH hS hr hlocks (by rw [mr_X5_memory, if_pos h1]) (rfl) dX5_memory_18
  · have hg := hg.2 h1
    refine lv_aload_n (pc := 8) hx hb dX5_memory_8 rfl (lv_at hl 0 rfl) ?_
    refine wk_getr (pc := 9) X hH (20, 0, 0) 5 (21, 0, 0) (rf_20 hSh) rfl (by decide) rfl inX5 fl_X5_7 dX5_memory_9 ?_
    refine lv_iload_n (pc := 12) hx hb dX5_memory_12 rfl (lv_at hl 1 rfl) ?_
    obtain ⟨o2, hg⟩ := hg
    refine wk_iald (pc := 13) X hH (21, 0, 0) (rf_21 hSh) o2 dX5_memory_13 ?_
    refine lv_goto (pc := 14) (tgt := 18) hx hb dX5_memory_14 (by decide) ?_
    exact wk_iret (pc := 18) X hH hS hr hlocks (by rw [mr_X5_memory, if_neg h1]) (rfl) dX5_memory_18

def mr_X5_trap (P : Nat → Nat) (sg : wk_Sg) (a1 : Int32) : Int32 := 4
def ms_X5_trap (P : Nat → Nat) (sg : wk_Sg) (a1 : Int32) : wk_Sg := (wk_up sg (25, 0, 0) (Int32.toNatClampNeg a1) 3)
def mg_X5_trap (P : Nat → Nat) (sg : wk_Sg) (a1 : Int32) : Prop := (vp_in a1 4 ∧ True)
set_option maxHeartbeats 4000000 in
set_option maxRecDepth 100000 in
theorem mk_X5_trap {l : Launch} {D : va_G} {T : wk_T} {z0 : Nat} {ad : wk_K3 → Nat} {sh : wk_Sh} {P : Nat → Nat} (hSh : rf_Sh T sh) (sg : wk_Sg) (a1 : Int32)  (hg : mg_X5_trap P sg a1) : wk_Mi l yX5_trap cX5_trap 2 (some .int) 0 0 D T z0 ad sh [.ref (ad (20, 0, 0)), .int a1] sg (mr_X5_trap P sg a1) (ms_X5_trap P sg a1) := by
  refine Met.ofW (cc := cX5_trap) (maxL := 2) (ret := (some .int)) (by decide) rfl ?_
  intro p e s m args below meth c s₁ B hml hv
  obtain ⟨rfl, hz, hH, hK⟩ := hv
  have hx := B.exec
  have hb := B.bytes
  have hr := B.returns
  have hlocks := B.notSynchronized
  have hts : ∀ w ∈ wk_B, w.before _ s = true := fun w hw => atoms_spec (ws := Cond.code yX5_trap cX5_trap 2 (some .int) :: wk_B) B.pre w (List.mem_cons_of_mem _ hw)
  have X : wk_C p m c cX5_trap 2 s _ RX5 D T := ⟨⟨hx, hb, hml, findClass_of_methodNamed B.named, hts⟩, hK⟩
  have hS : va_S (wk_A z0) s.heap s.heap [] := va_S.rf
  have hl := lv_entry ([.ref (ad (20, 0, 0)), .int a1]) (n := 2) (Nat.le_of_ble_eq_true rfl)
  rw [lg_entry_eq]
  generalize (lg_sl ([.ref (ad (20, 0, 0)), .int a1]) ++ List.replicate (2 - (lg_sl ([.ref (ad (20, 0, 0)), .int a1])).length) Slot.unset).toArray = ls at hl ⊢
  have hl : lv_has ls 2 [(0, .ref (ad (20, 0, 0))), (1, .int a1)] := hl
  unfold mg_X5_trap at hg
  refine lv_aload_n (pc := 0) hx hb dX5_trap_0 rfl (lv_at hl 0 rfl) ?_
  refine wk_getr (pc := 1) X hH (20, 0, 0) 10 (25, 0, 0) (rf_20 hSh) rfl (by decide) rfl inX5 fl_X5_22 dX5_trap_1 ?_
  refine lv_iload_n (pc := 4) hx hb dX5_trap_4 rfl (lv_at hl 1 rfl) ?_
  refine lv_iconst (pc := 5) (v := 3) hx hb dX5_trap_5 (by decide) ?_
  obtain ⟨o1, hg⟩ := hg
  refine wk_iast (pc := 6) X hH hS (25, 0, 0) (rf_25 hSh) o1 dX5_trap_6 (fun H locs hH hS => ?_)
  refine lv_iconst (pc := 7) (v := 4) hx hb dX5_trap_7 (by decide) ?_
  exact wk_iret (pc := 8) X hH hS hr hlocks (by rw [mr_X5_trap]) (by rw [ms_X5_trap]) dX5_trap_8
