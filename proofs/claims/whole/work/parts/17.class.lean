def mr_X4_poke (P : Nat → Nat) (sg : wk_Sg) (a1 : Int32) (a2 : Int32) : Int32 := (if (sg (0, 0, 0) 3) = 0 then (if (mr_X2_has P sg a1) = 0 then 0 else 1) else 0)
def ms_X4_poke (P : Nat → Nat) (sg : wk_Sg) (a1 : Int32) (a2 : Int32) : wk_Sg := (if (sg (0, 0, 0) 3) = 0 then (if (mr_X2_has P sg a1) = 0 then sg else (wk_up sg (2, 0, 0) (Int32.toNatClampNeg a1) a2)) else sg)
def mg_X4_poke (P : Nat → Nat) (sg : wk_Sg) (a1 : Int32) (a2 : Int32) : Prop := (((sg (0, 0, 0) 3) = 0 → (((mr_X2_has P sg a1) = 0 → True) ∧ (¬ (mr_X2_has P sg a1) = 0 → (vp_in a1 (P 3) ∧ True)))) ∧ (¬ (sg (0, 0, 0) 3) = 0 → True))
theorem mz_X4_poke (P : Nat → Nat) (sg : wk_Sg) (a1 : Int32) (a2 : Int32) : mr_X4_poke P sg a1 a2 = 0 ∨ mr_X4_poke P sg a1 a2 = 1 := by
  unfold mr_X4_poke
  repeat' split
  all_goals first | exact Or.inl rfl | exact Or.inr rfl | apply mz_X2_has
set_option maxHeartbeats 4000000 in
set_option maxRecDepth 100000 in
theorem mk_X4_poke {l : Launch} {D : va_G} {T : wk_T} {z0 : Nat} {ad : wk_K3 → Nat} {sh : wk_Sh} {P : Nat → Nat} (hSh : sc_Sh T P sh) (sg : wk_Sg) (a1 : Int32) (a2 : Int32)  (hg : mg_X4_poke P sg a1 a2) : wk_Mi l yX4_poke cX4_poke 3 (some .boolean) 2 42 D T z0 ad sh [.ref (ad (0, 0, 0)), .int a1, .int a2] sg (mr_X4_poke P sg a1 a2) (ms_X4_poke P sg a1 a2) := by
  refine Met.ofW (cc := cX4_poke) (maxL := 3) (ret := (some .boolean)) (by decide) rfl ?_
  intro p e s m args below meth c s₁ B hml hv
  obtain ⟨rfl, hz, hH, hK⟩ := hv
  have hx := B.exec
  have hb := B.bytes
  have hr := B.returns
  have hlocks := B.notSynchronized
  have hts : ∀ w ∈ wk_B, w.before _ s = true := fun w hw => atoms_spec (ws := Cond.code yX4_poke cX4_poke 3 (some .boolean) :: wk_B) B.pre w (List.mem_cons_of_mem _ hw)
  have X : wk_C p m c cX4_poke 3 s _ RX4 D T := ⟨⟨hx, hb, hml, findClass_of_methodNamed B.named, hts⟩, hK⟩
  have hS : va_S (wk_A z0) s.heap s.heap [] := va_S.rf
  have hl := lv_entry ([.ref (ad (0, 0, 0)), .int a1, .int a2]) (n := 3) (Nat.le_of_ble_eq_true rfl)
  rw [lg_entry_eq]
  generalize (lg_sl ([.ref (ad (0, 0, 0)), .int a1, .int a2]) ++ List.replicate (3 - (lg_sl ([.ref (ad (0, 0, 0)), .int a1, .int a2])).length) Slot.unset).toArray = ls at hl ⊢
  have hl : lv_has ls 3 [(0, .ref (ad (0, 0, 0))), (1, .int a1), (2, .int a2)] := hl
  unfold mg_X4_poke at hg
  refine lv_aload_n (pc := 0) hx hb dX4_poke_0 rfl (lv_at hl 0 rfl) ?_
  refine wk_geti (pc := 1) X hH (0, 0, 0) 3 (sc_0 hSh) rfl (by decide) rfl inX4 fl_X4_7 dX4_poke_1 ?_
  refine lv_if_ne (pc := 4) (tgt := 18) hx hb dX4_poke_4 (by decide) (fun h1 => ?_) (fun h1 => ?_)
  · have hg := hg.2 h1
    refine lv_iconst (pc := 18) (v := 0) hx hb dX4_poke_18 (by decide) ?_
    exact wk_zret (pc := 19) X hH hS hr hlocks (Or.inl rfl) (by rw [mr_X4_poke, if_neg h1]) (by rw [ms_X4_poke, if_neg h1]) dX4_poke_19
  · have hg := hg.1 h1
    refine lv_aload_n (pc := 7) hx hb dX4_poke_7 rfl (lv_at hl 0 rfl) ?_
    refine wk_getr (pc := 8) X hH (0, 0, 0) 0 (1, 0, 0) (sc_0 hSh) rfl (by decide) rfl inX4 fl_X4_22 dX4_poke_8 ?_
    refine lv_iload_n (pc := 11) hx hb dX4_poke_11 rfl (lv_at hl 1 rfl) ?_
    refine wk_ci (wk_rV (pc := 12) (As := [.int a1]) (rest := []) X hH hS hz (sc_1 hSh) rfl ok_X2_has (mk_X2_has (l := l) (P := P) hSh sg a1  ) ml_X4_56 ⟨by decide, by decide, by decide, by decide⟩ rfl hl.1 rfl (Nat.le_of_ble_eq_true rfl) dX4_poke_12) hS (fun H locs hH hS => ?_)
    refine lv_if_ne (pc := 15) (tgt := 20) hx hb dX4_poke_15 (by decide) (fun h2 => ?_) (fun h2 => ?_)
    · have hg := hg.2 h2
      refine lv_aload_n (pc := 20) hx hb dX4_poke_20 rfl (lv_at hl 0 rfl) ?_
      refine wk_getr (pc := 21) X hH (0, 0, 0) 0 (1, 0, 0) (sc_0 hSh) rfl (by decide) rfl inX4 fl_X4_22 dX4_poke_21 ?_
      refine wk_getr (pc := 24) X hH (1, 0, 0) 1 (2, 0, 0) (sc_1 hSh) rfl (by decide) rfl inX2 fl_X4_59 dX4_poke_24 ?_
      refine lv_iload_n (pc := 27) hx hb dX4_poke_27 rfl (lv_at hl 1 rfl) ?_
      refine lv_iload_n (pc := 28) hx hb dX4_poke_28 rfl (lv_at hl 2 rfl) ?_
      obtain ⟨o3, hg⟩ := hg
      refine wk_iast (pc := 29) X hH hS (2, 0, 0) (sc_2 hSh) o3 dX4_poke_29 (fun H locs hH hS => ?_)
      refine lv_iconst (pc := 30) (v := 1) hx hb dX4_poke_30 (by decide) ?_
      exact wk_zret (pc := 31) X hH hS hr hlocks (Or.inr rfl) (by rw [mr_X4_poke, if_pos h1, if_neg h2]) (by rw [ms_X4_poke, if_pos h1, if_neg h2]) dX4_poke_31
    · have hg := hg.1 h2
      refine lv_iconst (pc := 18) (v := 0) hx hb dX4_poke_18 (by decide) ?_
      exact wk_zret (pc := 19) X hH hS hr hlocks (Or.inl rfl) (by rw [mr_X4_poke, if_pos h1, if_pos h2]) (by rw [ms_X4_poke, if_pos h1, if_pos h2]) dX4_poke_19

def mr_X4_register (P : Nat → Nat) (sg : wk_Sg) (a1 : Int32) (a2 : Int32) : Int32 := (if (mr_X4_hasCore P sg a1) = 0 then 0 else (if (mr_X4_within P sg a2 4) = 0 then 0 else (sg (6, (Int32.toNatClampNeg a1), 0) (Int32.toNatClampNeg a2))))
def mg_X4_register (P : Nat → Nat) (sg : wk_Sg) (a1 : Int32) (a2 : Int32) : Prop := (((mr_X4_hasCore P sg a1) = 0 → True) ∧ (¬ (mr_X4_hasCore P sg a1) = 0 → (((mr_X4_within P sg a2 4) = 0 → True) ∧ (¬ (mr_X4_within P sg a2 4) = 0 → (vp_in a1 (P 0) ∧ (vp_in a2 4 ∧ True))))))
set_option maxHeartbeats 4000000 in
set_option maxRecDepth 100000 in
theorem mk_X4_register {l : Launch} {D : va_G} {T : wk_T} {z0 : Nat} {ad : wk_K3 → Nat} {sh : wk_Sh} {P : Nat → Nat} (hSh : sc_Sh T P sh) (sg : wk_Sg) (a1 : Int32) (a2 : Int32)  (hg : mg_X4_register P sg a1 a2) : wk_Mi l yX4_register cX4_register 3 (some .int) 2 42 D T z0 ad sh [.ref (ad (0, 0, 0)), .int a1, .int a2] sg (mr_X4_register P sg a1 a2) sg := by
  refine Met.ofW (cc := cX4_register) (maxL := 3) (ret := (some .int)) (by decide) rfl ?_
  intro p e s m args below meth c s₁ B hml hv
  obtain ⟨rfl, hz, hH, hK⟩ := hv
  have hx := B.exec
  have hb := B.bytes
  have hr := B.returns
  have hlocks := B.notSynchronized
  have hts : ∀ w ∈ wk_B, w.before _ s = true := fun w hw => atoms_spec (ws := Cond.code yX4_register cX4_register 3 (some .int) :: wk_B) B.pre w (List.mem_cons_of_mem _ hw)
  have X : wk_C p m c cX4_register 3 s _ RX4 D T := ⟨⟨hx, hb, hml, findClass_of_methodNamed B.named, hts⟩, hK⟩
  have hS : va_S (wk_A z0) s.heap s.heap [] := va_S.rf
  have hl := lv_entry ([.ref (ad (0, 0, 0)), .int a1, .int a2]) (n := 3) (Nat.le_of_ble_eq_true rfl)
  rw [lg_entry_eq]
  generalize (lg_sl ([.ref (ad (0, 0, 0)), .int a1, .int a2]) ++ List.replicate (3 - (lg_sl ([.ref (ad (0, 0, 0)), .int a1, .int a2])).length) Slot.unset).toArray = ls at hl ⊢
  have hl : lv_has ls 3 [(0, .ref (ad (0, 0, 0))), (1, .int a1), (2, .int a2)] := hl
  unfold mg_X4_register at hg
  refine lv_aload_n (pc := 0) hx hb dX4_register_0 rfl (lv_at hl 0 rfl) ?_
  refine lv_iload_n (pc := 1) hx hb dX4_register_1 rfl (lv_at hl 1 rfl) ?_
  refine wk_ci (wk_rV (pc := 2) (As := [.int a1]) (rest := []) X hH hS hz (sc_0 hSh) rfl ok_X4_hasCore (mk_X4_hasCore (l := l) (P := P) hSh sg a1  ) ml_X4_44 ⟨by decide, by decide, by decide, by decide⟩ rfl hl.1 rfl (Nat.le_of_ble_eq_true rfl) dX4_register_2) hS (fun H locs hH hS => ?_)
  refine lv_if_eq (pc := 5) (tgt := 16) hx hb dX4_register_5 (by decide) (fun h1 => ?_) (fun h1 => ?_)
  · have hg := hg.1 h1
    refine lv_iconst (pc := 16) (v := 0) hx hb dX4_register_16 (by decide) ?_
    exact wk_iret (pc := 17) X hH hS hr hlocks (by rw [mr_X4_register, if_pos h1]) (rfl) dX4_register_17
  · have hg := hg.2 h1
    refine lv_iload_n (pc := 8) hx hb dX4_register_8 rfl (lv_at hl 2 rfl) ?_
    refine lv_iconst (pc := 9) (v := 4) hx hb dX4_register_9 (by decide) ?_
    refine wk_ci (wk_rS (pc := 10) (As := [.int a2, .int 4]) (rest := []) X hH hS hz ok_X4_within (mk_X4_within (l := l) (P := P)  sg a2 4  ) ml_X4_52 ⟨by decide, by decide, by decide, by decide⟩ rfl hl.1 rfl (Nat.le_of_ble_eq_true rfl) dX4_register_10) hS (fun H locs hH hS => ?_)
    refine lv_if_ne (pc := 13) (tgt := 18) hx hb dX4_register_13 (by decide) (fun h2 => ?_) (fun h2 => ?_)
    · have hg := hg.2 h2
      refine lv_aload_n (pc := 18) hx hb dX4_register_18 rfl (lv_at hl 0 rfl) ?_
      refine wk_getr (pc := 19) X hH (0, 0, 0) 1 (3, 0, 0) (sc_0 hSh) rfl (by decide) rfl inX4 fl_X4_28 dX4_register_19 ?_
      refine lv_iload_n (pc := 22) hx hb dX4_register_22 rfl (lv_at hl 1 rfl) ?_
      obtain ⟨o3, hg⟩ := hg
      have b4 := wk_inlt o3
      refine wk_aald (pc := 23) X hH (3, 0, 0) 1 (4, (Int32.toNatClampNeg a1), 0) (sc_3 hSh) rfl o3 (lk_3p b4) dX4_register_23 ?_
      refine wk_getr (pc := 24) X hH (4, (Int32.toNatClampNeg a1), 0) 3 (6, (Int32.toNatClampNeg a1), 0) (sc_4 hSh b4) rfl (by decide) rfl inX1 fl_X4_92 dX4_register_24 ?_
      refine lv_iload_n (pc := 27) hx hb dX4_register_27 rfl (lv_at hl 2 rfl) ?_
      obtain ⟨o5, hg⟩ := hg
      refine wk_iald (pc := 28) X hH (6, (Int32.toNatClampNeg a1), 0) (sc_6 hSh b4) o5 dX4_register_28 ?_
      exact wk_iret (pc := 29) X hH hS hr hlocks (by rw [mr_X4_register, if_neg h1, if_neg h2]) (rfl) dX4_register_29
    · have hg := hg.1 h2
      refine lv_iconst (pc := 16) (v := 0) hx hb dX4_register_16 (by decide) ?_
      exact wk_iret (pc := 17) X hH hS hr hlocks (by rw [mr_X4_register, if_neg h1, if_pos h2]) (rfl) dX4_register_17

def mr_X4_slot (P : Nat → Nat) (sg : wk_Sg) (a1 : Int32) (a2 : Int32) (a3 : Int32) : Int32 := (if (mr_X4_hasSlot P sg a1 a2) = 0 then (-1) else (if (mr_X4_within P sg a3 ((2 : Int32) + (sg (1, 0, 0) 0))) = 0 then (-1) else (if a3 = 0 then (sg (8, (Int32.toNatClampNeg a1), (Int32.toNatClampNeg a2)) 1) else (if a3 = 1 then (sg (8, (Int32.toNatClampNeg a1), (Int32.toNatClampNeg a2)) 2) else (if (sg (8, (Int32.toNatClampNeg a1), (Int32.toNatClampNeg a2)) 1) = 0 then 0 else (sg (9, (Int32.toNatClampNeg a1), (Int32.toNatClampNeg a2)) (Int32.toNatClampNeg (a3 - (2 : Int32)))))))))
def mg_X4_slot (P : Nat → Nat) (sg : wk_Sg) (a1 : Int32) (a2 : Int32) (a3 : Int32) : Prop := (mg_X4_hasSlot P sg a1 a2 ∧ (((mr_X4_hasSlot P sg a1 a2) = 0 → True) ∧ (¬ (mr_X4_hasSlot P sg a1 a2) = 0 → (((mr_X4_within P sg a3 ((2 : Int32) + (sg (1, 0, 0) 0))) = 0 → True) ∧ (¬ (mr_X4_within P sg a3 ((2 : Int32) + (sg (1, 0, 0) 0))) = 0 → (vp_in a1 (P 0) ∧ (vp_in a2 (P 1) ∧ ((a3 = 0 → True) ∧ (¬ a3 = 0 → ((a3 = 1 → True) ∧ (¬ a3 = 1 → (((sg (8, (Int32.toNatClampNeg a1), (Int32.toNatClampNeg a2)) 1) = 0 → True) ∧ (¬ (sg (8, (Int32.toNatClampNeg a1), (Int32.toNatClampNeg a2)) 1) = 0 → (vp_in (a3 - (2 : Int32)) (P 2) ∧ True))))))))))))))
set_option maxHeartbeats 4000000 in
set_option maxRecDepth 100000 in
theorem mk_X4_slot {l : Launch} {D : va_G} {T : wk_T} {z0 : Nat} {ad : wk_K3 → Nat} {sh : wk_Sh} {P : Nat → Nat} (hSh : sc_Sh T P sh) (sg : wk_Sg) (a1 : Int32) (a2 : Int32) (a3 : Int32)  (hg : mg_X4_slot P sg a1 a2 a3) : wk_Mi l yX4_slot cX4_slot 5 (some .int) 3 64 D T z0 ad sh [.ref (ad (0, 0, 0)), .int a1, .int a2, .int a3] sg (mr_X4_slot P sg a1 a2 a3) sg := by
  refine Met.ofW (cc := cX4_slot) (maxL := 5) (ret := (some .int)) (by decide) rfl ?_
  intro p e s m args below meth c s₁ B hml hv
  obtain ⟨rfl, hz, hH, hK⟩ := hv
  have hx := B.exec
  have hb := B.bytes
  have hr := B.returns
  have hlocks := B.notSynchronized
  have hts : ∀ w ∈ wk_B, w.before _ s = true := fun w hw => atoms_spec (ws := Cond.code yX4_slot cX4_slot 5 (some .int) :: wk_B) B.pre w (List.mem_cons_of_mem _ hw)
  have X : wk_C p m c cX4_slot 5 s _ RX4 D T := ⟨⟨hx, hb, hml, findClass_of_methodNamed B.named, hts⟩, hK⟩
  have hS : va_S (wk_A z0) s.heap s.heap [] := va_S.rf
  have hl := lv_entry ([.ref (ad (0, 0, 0)), .int a1, .int a2, .int a3]) (n := 5) (Nat.le_of_ble_eq_true rfl)
  rw [lg_entry_eq]
  generalize (lg_sl ([.ref (ad (0, 0, 0)), .int a1, .int a2, .int a3]) ++ List.replicate (5 - (lg_sl ([.ref (ad (0, 0, 0)), .int a1, .int a2, .int a3])).length) Slot.unset).toArray = ls at hl ⊢
  have hl : lv_has ls 5 [(0, .ref (ad (0, 0, 0))), (1, .int a1), (2, .int a2), (3, .int a3)] := hl
  unfold mg_X4_slot at hg
  refine lv_aload_n (pc := 0) hx hb dX4_slot_0 rfl (lv_at hl 0 rfl) ?_
  refine lv_iload_n (pc := 1) hx hb dX4_slot_1 rfl (lv_at hl 1 rfl) ?_
  refine lv_iload_n (pc := 2) hx hb dX4_slot_2 rfl (lv_at hl 2 rfl) ?_
  obtain ⟨o1, hg⟩ := hg
  refine wk_ci (wk_rV (pc := 3) (As := [.int a1, .int a2]) (rest := []) X hH hS hz (sc_0 hSh) rfl ok_X4_hasSlot (mk_X4_hasSlot (l := l) (P := P) hSh sg a1 a2  o1) ml_X4_73 ⟨by decide, by decide, by decide, by decide⟩ rfl hl.1 rfl (Nat.le_of_ble_eq_true rfl) dX4_slot_3) hS (fun H locs hH hS => ?_)
  refine lv_if_eq (pc := 6) (tgt := 25) hx hb dX4_slot_6 (by decide) (fun h2 => ?_) (fun h2 => ?_)
  · have hg := hg.1 h2
    refine lv_iconst (pc := 25) (v := (-1)) hx hb dX4_slot_25 (by decide) ?_
    exact wk_iret (pc := 26) X hH hS hr hlocks (by rw [mr_X4_slot, if_pos h2]) (rfl) dX4_slot_26
  · have hg := hg.2 h2
    refine lv_iload_n (pc := 9) hx hb dX4_slot_9 rfl (lv_at hl 3 rfl) ?_
    refine lv_iconst (pc := 10) (v := 2) hx hb dX4_slot_10 (by decide) ?_
    refine lv_aload_n (pc := 11) hx hb dX4_slot_11 rfl (lv_at hl 0 rfl) ?_
    refine wk_getr (pc := 12) X hH (0, 0, 0) 0 (1, 0, 0) (sc_0 hSh) rfl (by decide) rfl inX4 fl_X4_22 dX4_slot_12 ?_
    refine wk_geti (pc := 15) X hH (1, 0, 0) 0 (sc_1 hSh) rfl (by decide) rfl inX2 fl_X4_107 dX4_slot_15 ?_
    refine lv_iadd (pc := 18) hx hb dX4_slot_18 ?_
    refine wk_ci (wk_rS (pc := 19) (As := [.int a3, .int ((2 : Int32) + (sg (1, 0, 0) 0))]) (rest := []) X hH hS hz ok_X4_within (mk_X4_within (l := l) (P := P)  sg a3 ((2 : Int32) + (sg (1, 0, 0) 0))  ) ml_X4_52 ⟨by decide, by decide, by decide, by decide⟩ rfl hl.1 rfl (Nat.le_of_ble_eq_true rfl) dX4_slot_19) hS (fun H locs hH hS => ?_)
    refine lv_if_ne (pc := 22) (tgt := 27) hx hb dX4_slot_22 (by decide) (fun h3 => ?_) (fun h3 => ?_)
    · have hg := hg.2 h3
      refine lv_aload_n (pc := 27) hx hb dX4_slot_27 rfl (lv_at hl 0 rfl) ?_
      refine wk_getr (pc := 28) X hH (0, 0, 0) 1 (3, 0, 0) (sc_0 hSh) rfl (by decide) rfl inX4 fl_X4_28 dX4_slot_28 ?_
      refine lv_iload_n (pc := 31) hx hb dX4_slot_31 rfl (lv_at hl 1 rfl) ?_
      obtain ⟨o4, hg⟩ := hg
      have b5 := wk_inlt o4
      refine wk_aald (pc := 32) X hH (3, 0, 0) 1 (4, (Int32.toNatClampNeg a1), 0) (sc_3 hSh) rfl o4 (lk_3p b5) dX4_slot_32 ?_
      refine wk_getr (pc := 33) X hH (4, (Int32.toNatClampNeg a1), 0) 4 (7, (Int32.toNatClampNeg a1), 0) (sc_4 hSh b5) rfl (by decide) rfl inX1 fl_X4_76 dX4_slot_33 ?_
      refine lv_iload_n (pc := 36) hx hb dX4_slot_36 rfl (lv_at hl 2 rfl) ?_
      obtain ⟨o6, hg⟩ := hg
      have b7 := wk_inlt o6
      refine wk_aald (pc := 37) X hH (7, (Int32.toNatClampNeg a1), 0) 2 (8, (Int32.toNatClampNeg a1), (Int32.toNatClampNeg a2)) (sc_7 hSh b5) rfl o6 (lk_7p b7) dX4_slot_37 ?_
      refine lv_astore (pc := 38) (lv' := [(4, .ref (ad (8, (Int32.toNatClampNeg a1), (Int32.toNatClampNeg a2)))), (0, .ref (ad (0, 0, 0))), (1, .int a1), (2, .int a2), (3, .int a3)]) hx hb dX4_slot_38 hl (by decide) rfl (fun ls hl => ?_)
      refine lv_iload_n (pc := 40) hx hb dX4_slot_40 rfl (lv_at hl 4 rfl) ?_
      by_cases w8 : a3 = 0
      · have hg := hg.1 w8
        refine wk_lin (pc := 41) (off := 27) (tgt := 68) X w8 dX4_slot_41 (by decide) (by decide) (by decide) ?_
        refine lv_aload (pc := 68) hx hb dX4_slot_68 (lv_at hl 0 rfl) ?_
        refine wk_geti (pc := 70) X hH (8, (Int32.toNatClampNeg a1), (Int32.toNatClampNeg a2)) 1 (sc_8 hSh b5 b7) rfl (by decide) rfl inX3 fl_X4_83 dX4_slot_70 ?_
        exact wk_iret (pc := 73) X hH hS hr hlocks (by rw [mr_X4_slot, if_neg h2, if_neg h3, if_pos w8]) (rfl) dX4_slot_73
      · have hg := hg.2 w8
        by_cases w9 : a3 = 1
        · have hg := hg.1 w9
          refine wk_lin (pc := 41) (off := 33) (tgt := 74) X w9 dX4_slot_41 (by decide) (by decide) (by decide) ?_
          refine lv_aload (pc := 74) hx hb dX4_slot_74 (lv_at hl 0 rfl) ?_
          refine wk_geti (pc := 76) X hH (8, (Int32.toNatClampNeg a1), (Int32.toNatClampNeg a2)) 2 (sc_8 hSh b5 b7) rfl (by decide) rfl inX3 fl_X4_110 dX4_slot_76 ?_
          exact wk_iret (pc := 79) X hH hS hr hlocks (by rw [mr_X4_slot, if_neg h2, if_neg h3, if_neg w8, if_pos w9]) (rfl) dX4_slot_79
        · have hg := hg.2 w9
          refine lv_lookup (pc := 41) (off := 39) (tgt := 80) hx hb dX4_slot_41 (by decide) (by rw [show (#[(0, 27), (1, 33)] : Array (Int × Int)).toList = _ from rfl]; rw [lv_osw w8 (show Int32.toInt 0 = 0 from by decide)]; rw [lv_osw w9 (show Int32.toInt 1 = 1 from by decide)]; rfl) (by decide) ?_
          refine lv_aload (pc := 80) hx hb dX4_slot_80 (lv_at hl 0 rfl) ?_
          refine wk_geti (pc := 82) X hH (8, (Int32.toNatClampNeg a1), (Int32.toNatClampNeg a2)) 1 (sc_8 hSh b5 b7) rfl (by decide) rfl inX3 fl_X4_83 dX4_slot_82 ?_
          refine lv_if_ne (pc := 85) (tgt := 92) hx hb dX4_slot_85 (by decide) (fun h10 => ?_) (fun h10 => ?_)
          · have hg := hg.2 h10
            refine lv_aload (pc := 92) hx hb dX4_slot_92 (lv_at hl 0 rfl) ?_
            refine wk_getr (pc := 94) X hH (8, (Int32.toNatClampNeg a1), (Int32.toNatClampNeg a2)) 0 (9, (Int32.toNatClampNeg a1), (Int32.toNatClampNeg a2)) (sc_8 hSh b5 b7) rfl (by decide) rfl inX3 fl_X4_113 dX4_slot_94 ?_
            refine lv_iload_n (pc := 97) hx hb dX4_slot_97 rfl (lv_at hl 4 rfl) ?_
            refine lv_iconst (pc := 98) (v := 2) hx hb dX4_slot_98 (by decide) ?_
            refine lv_isub (pc := 99) hx hb dX4_slot_99 ?_
            obtain ⟨o11, hg⟩ := hg
            refine wk_iald (pc := 100) X hH (9, (Int32.toNatClampNeg a1), (Int32.toNatClampNeg a2)) (sc_9 hSh b5 b7) o11 dX4_slot_100 ?_
            exact wk_iret (pc := 101) X hH hS hr hlocks (by rw [mr_X4_slot, if_neg h2, if_neg h3, if_neg w8, if_neg w9, if_neg h10]) (rfl) dX4_slot_101
          · have hg := hg.1 h10
            refine lv_iconst (pc := 88) (v := 0) hx hb dX4_slot_88 (by decide) ?_
            refine lv_goto (pc := 89) (tgt := 101) hx hb dX4_slot_89 (by decide) ?_
            exact wk_iret (pc := 101) X hH hS hr hlocks (by rw [mr_X4_slot, if_neg h2, if_neg h3, if_neg w8, if_neg w9, if_pos h10]) (rfl) dX4_slot_101
    · have hg := hg.1 h3
      refine lv_iconst (pc := 25) (v := (-1)) hx hb dX4_slot_25 (by decide) ?_
      exact wk_iret (pc := 26) X hH hS hr hlocks (by rw [mr_X4_slot, if_neg h2, if_pos h3]) (rfl) dX4_slot_26

def mr_X4_state (P : Nat → Nat) (sg : wk_Sg) (a1 : Int32) : Int32 := (if a1 = 0 then (sg (10, 0, 0) 5) else (if a1 = 1 then (sg (10, 0, 0) 6) else (if a1 = 2 then (sg (10, 0, 0) 7) else (if a1 = 3 then (sg (10, 0, 0) 8) else (if (mr_X4_within P sg (a1 - (4 : Int32)) 4) = 0 then (-1) else (sg (11, 0, 0) (Int32.toNatClampNeg (a1 - (4 : Int32)))))))))
def mg_X4_state (P : Nat → Nat) (sg : wk_Sg) (a1 : Int32) : Prop := ((a1 = 0 → True) ∧ (¬ a1 = 0 → ((a1 = 1 → True) ∧ (¬ a1 = 1 → ((a1 = 2 → True) ∧ (¬ a1 = 2 → ((a1 = 3 → True) ∧ (¬ a1 = 3 → (((mr_X4_within P sg (a1 - (4 : Int32)) 4) = 0 → True) ∧ (¬ (mr_X4_within P sg (a1 - (4 : Int32)) 4) = 0 → (vp_in (a1 - (4 : Int32)) 4 ∧ True)))))))))))
set_option maxHeartbeats 4000000 in
set_option maxRecDepth 100000 in
theorem mk_X4_state {l : Launch} {D : va_G} {T : wk_T} {z0 : Nat} {ad : wk_K3 → Nat} {sh : wk_Sh} {P : Nat → Nat} (hSh : sc_Sh T P sh) (sg : wk_Sg) (a1 : Int32)  (hg : mg_X4_state P sg a1) : wk_Mi l yX4_state cX4_state 2 (some .int) 1 21 D T z0 ad sh [.ref (ad (0, 0, 0)), .int a1] sg (mr_X4_state P sg a1) sg := by
  refine Met.ofW (cc := cX4_state) (maxL := 2) (ret := (some .int)) (by decide) rfl ?_
  intro p e s m args below meth c s₁ B hml hv
  obtain ⟨rfl, hz, hH, hK⟩ := hv
  have hx := B.exec
  have hb := B.bytes
  have hr := B.returns
  have hlocks := B.notSynchronized
  have hts : ∀ w ∈ wk_B, w.before _ s = true := fun w hw => atoms_spec (ws := Cond.code yX4_state cX4_state 2 (some .int) :: wk_B) B.pre w (List.mem_cons_of_mem _ hw)
  have X : wk_C p m c cX4_state 2 s _ RX4 D T := ⟨⟨hx, hb, hml, findClass_of_methodNamed B.named, hts⟩, hK⟩
  have hS : va_S (wk_A z0) s.heap s.heap [] := va_S.rf
  have hl := lv_entry ([.ref (ad (0, 0, 0)), .int a1]) (n := 2) (Nat.le_of_ble_eq_true rfl)
  rw [lg_entry_eq]
  generalize (lg_sl ([.ref (ad (0, 0, 0)), .int a1]) ++ List.replicate (2 - (lg_sl ([.ref (ad (0, 0, 0)), .int a1])).length) Slot.unset).toArray = ls at hl ⊢
  have hl : lv_has ls 2 [(0, .ref (ad (0, 0, 0))), (1, .int a1)] := hl
  unfold mg_X4_state at hg
  refine lv_iload_n (pc := 0) hx hb dX4_state_0 rfl (lv_at hl 1 rfl) ?_
  by_cases w1 : a1 = 0
  · have hg := hg.1 w1
    refine wk_tin (pc := 1) (off := 31) (tgt := 32) X w1 dX4_state_1 (by decide) (by decide) (by decide) (by decide) ?_
    refine lv_aload_n (pc := 32) hx hb dX4_state_32 rfl (lv_at hl 0 rfl) ?_
    refine wk_getr (pc := 33) X hH (0, 0, 0) 2 (10, 0, 0) (sc_0 hSh) rfl (by decide) rfl inX4 fl_X4_40 dX4_state_33 ?_
    refine wk_geti (pc := 36) X hH (10, 0, 0) 5 (sc_10 hSh) rfl (by decide) rfl inX0 fl_X4_132 dX4_state_36 ?_
    exact wk_iret (pc := 39) X hH hS hr hlocks (by rw [mr_X4_state, if_pos w1]) (rfl) dX4_state_39
  · have hg := hg.2 w1
    by_cases w2 : a1 = 1
    · have hg := hg.1 w2
      refine wk_tin (pc := 1) (off := 39) (tgt := 40) X w2 dX4_state_1 (by decide) (by decide) (by decide) (by decide) ?_
      refine lv_aload_n (pc := 40) hx hb dX4_state_40 rfl (lv_at hl 0 rfl) ?_
      refine wk_getr (pc := 41) X hH (0, 0, 0) 2 (10, 0, 0) (sc_0 hSh) rfl (by decide) rfl inX4 fl_X4_40 dX4_state_41 ?_
      refine wk_geti (pc := 44) X hH (10, 0, 0) 6 (sc_10 hSh) rfl (by decide) rfl inX0 fl_X4_135 dX4_state_44 ?_
      exact wk_iret (pc := 47) X hH hS hr hlocks (by rw [mr_X4_state, if_neg w1, if_pos w2]) (rfl) dX4_state_47
    · have hg := hg.2 w2
      by_cases w3 : a1 = 2
      · have hg := hg.1 w3
        refine wk_tin (pc := 1) (off := 47) (tgt := 48) X w3 dX4_state_1 (by decide) (by decide) (by decide) (by decide) ?_
        refine lv_aload_n (pc := 48) hx hb dX4_state_48 rfl (lv_at hl 0 rfl) ?_
        refine wk_getr (pc := 49) X hH (0, 0, 0) 2 (10, 0, 0) (sc_0 hSh) rfl (by decide) rfl inX4 fl_X4_40 dX4_state_49 ?_
        refine wk_geti (pc := 52) X hH (10, 0, 0) 7 (sc_10 hSh) rfl (by decide) rfl inX0 fl_X4_138 dX4_state_52 ?_
        exact wk_iret (pc := 55) X hH hS hr hlocks (by rw [mr_X4_state, if_neg w1, if_neg w2, if_pos w3]) (rfl) dX4_state_55
      · have hg := hg.2 w3
        by_cases w4 : a1 = 3
        · have hg := hg.1 w4
          refine wk_tin (pc := 1) (off := 55) (tgt := 56) X w4 dX4_state_1 (by decide) (by decide) (by decide) (by decide) ?_
          refine lv_aload_n (pc := 56) hx hb dX4_state_56 rfl (lv_at hl 0 rfl) ?_
          refine wk_getr (pc := 57) X hH (0, 0, 0) 2 (10, 0, 0) (sc_0 hSh) rfl (by decide) rfl inX4 fl_X4_40 dX4_state_57 ?_
          refine wk_geti (pc := 60) X hH (10, 0, 0) 8 (sc_10 hSh) rfl (by decide) rfl inX0 fl_X4_139 dX4_state_60 ?_
          exact wk_iret (pc := 63) X hH hS hr hlocks (by rw [mr_X4_state, if_neg w1, if_neg w2, if_neg w3, if_pos w4]) (rfl) dX4_state_63
        · have hg := hg.2 w4
          refine lv_tableOut (pc := 1) (tgt := 64) hx hb dX4_state_1 (wk_tout (fun v h1 h2 hv => ?_)) (by decide) ?_
          · have n0 := lv_neT w1 (show Int32.toInt 0 = 0 from by decide); have n1 := lv_neT w2 (show Int32.toInt 1 = 1 from by decide); have n2 := lv_neT w3 (show Int32.toInt 2 = 2 from by decide); have n3 := lv_neT w4 (show Int32.toInt 3 = 3 from by decide); omega
          refine lv_iload_n (pc := 64) hx hb dX4_state_64 rfl (lv_at hl 1 rfl) ?_
          refine lv_iconst (pc := 65) (v := 4) hx hb dX4_state_65 (by decide) ?_
          refine lv_isub (pc := 66) hx hb dX4_state_66 ?_
          refine lv_iconst (pc := 67) (v := 4) hx hb dX4_state_67 (by decide) ?_
          refine wk_ci (wk_rS (pc := 68) (As := [.int (a1 - (4 : Int32)), .int 4]) (rest := []) X hH hS hz ok_X4_within (mk_X4_within (l := l) (P := P)  sg (a1 - (4 : Int32)) 4  ) ml_X4_52 ⟨by decide, by decide, by decide, by decide⟩ rfl hl.1 rfl (Nat.le_of_ble_eq_true rfl) dX4_state_68) hS (fun H locs hH hS => ?_)
          refine lv_if_eq (pc := 71) (tgt := 88) hx hb dX4_state_71 (by decide) (fun h5 => ?_) (fun h5 => ?_)
          · have hg := hg.1 h5
            refine lv_iconst (pc := 88) (v := (-1)) hx hb dX4_state_88 (by decide) ?_
            exact wk_iret (pc := 89) X hH hS hr hlocks (by rw [mr_X4_state, if_neg w1, if_neg w2, if_neg w3, if_neg w4, if_pos h5]) (rfl) dX4_state_89
          · have hg := hg.2 h5
            refine lv_aload_n (pc := 74) hx hb dX4_state_74 rfl (lv_at hl 0 rfl) ?_
            refine wk_getr (pc := 75) X hH (0, 0, 0) 2 (10, 0, 0) (sc_0 hSh) rfl (by decide) rfl inX4 fl_X4_40 dX4_state_75 ?_
            refine wk_getr (pc := 78) X hH (10, 0, 0) 2 (11, 0, 0) (sc_10 hSh) rfl (by decide) rfl inX0 fl_X4_140 dX4_state_78 ?_
            refine lv_iload_n (pc := 81) hx hb dX4_state_81 rfl (lv_at hl 1 rfl) ?_
            refine lv_iconst (pc := 82) (v := 4) hx hb dX4_state_82 (by decide) ?_
            refine lv_isub (pc := 83) hx hb dX4_state_83 ?_
            obtain ⟨o6, hg⟩ := hg
            refine wk_iald (pc := 84) X hH (11, 0, 0) (sc_11 hSh) o6 dX4_state_84 ?_
            refine lv_goto (pc := 85) (tgt := 89) hx hb dX4_state_85 (by decide) ?_
            exact wk_iret (pc := 89) X hH hS hr hlocks (by rw [mr_X4_state, if_neg w1, if_neg w2, if_neg w3, if_neg w4, if_neg h5]) (rfl) dX4_state_89

def mr_X4_step (P : Nat → Nat) (sg : wk_Sg) (a1 : Int32) : Int32 := (if (mr_X4_hasCore P sg a1) = 0 then (-1) else (if ((ms_X1_goOn P (wk_up sg (0, 0, 0) 3 1) (Int32.toNatClampNeg a1)) (4, (Int32.toNatClampNeg a1), 0) 6) = 1 then 2 else (if ((ms_X1_goOn P (wk_up sg (0, 0, 0) 3 1) (Int32.toNatClampNeg a1)) (4, (Int32.toNatClampNeg a1), 0) 6) = 2 then 3 else (if ((ms_X1_goOn P (wk_up sg (0, 0, 0) 3 1) (Int32.toNatClampNeg a1)) (4, (Int32.toNatClampNeg a1), 0) 6) = 3 then 4 else 1))))
def ms_X4_step (P : Nat → Nat) (sg : wk_Sg) (a1 : Int32) : wk_Sg := (if (mr_X4_hasCore P sg a1) = 0 then sg else (if ((ms_X1_goOn P (wk_up sg (0, 0, 0) 3 1) (Int32.toNatClampNeg a1)) (4, (Int32.toNatClampNeg a1), 0) 6) = 1 then (ms_X1_goOn P (wk_up sg (0, 0, 0) 3 1) (Int32.toNatClampNeg a1)) else (if ((ms_X1_goOn P (wk_up sg (0, 0, 0) 3 1) (Int32.toNatClampNeg a1)) (4, (Int32.toNatClampNeg a1), 0) 6) = 2 then (ms_X1_goOn P (wk_up sg (0, 0, 0) 3 1) (Int32.toNatClampNeg a1)) else (if ((ms_X1_goOn P (wk_up sg (0, 0, 0) 3 1) (Int32.toNatClampNeg a1)) (4, (Int32.toNatClampNeg a1), 0) 6) = 3 then (ms_X1_goOn P (wk_up sg (0, 0, 0) 3 1) (Int32.toNatClampNeg a1)) else (ms_X1_goOn P (wk_up sg (0, 0, 0) 3 1) (Int32.toNatClampNeg a1))))))
def mg_X4_step (P : Nat → Nat) (sg : wk_Sg) (a1 : Int32) : Prop := (((mr_X4_hasCore P sg a1) = 0 → True) ∧ (¬ (mr_X4_hasCore P sg a1) = 0 → (vp_in a1 (P 0) ∧ (mg_X1_goOn P (wk_up sg (0, 0, 0) 3 1) (Int32.toNatClampNeg a1) ∧ ((((ms_X1_goOn P (wk_up sg (0, 0, 0) 3 1) (Int32.toNatClampNeg a1)) (4, (Int32.toNatClampNeg a1), 0) 6) = 1 → True) ∧ (¬ ((ms_X1_goOn P (wk_up sg (0, 0, 0) 3 1) (Int32.toNatClampNeg a1)) (4, (Int32.toNatClampNeg a1), 0) 6) = 1 → ((((ms_X1_goOn P (wk_up sg (0, 0, 0) 3 1) (Int32.toNatClampNeg a1)) (4, (Int32.toNatClampNeg a1), 0) 6) = 2 → True) ∧ (¬ ((ms_X1_goOn P (wk_up sg (0, 0, 0) 3 1) (Int32.toNatClampNeg a1)) (4, (Int32.toNatClampNeg a1), 0) 6) = 2 → ((((ms_X1_goOn P (wk_up sg (0, 0, 0) 3 1) (Int32.toNatClampNeg a1)) (4, (Int32.toNatClampNeg a1), 0) 6) = 3 → True) ∧ (¬ ((ms_X1_goOn P (wk_up sg (0, 0, 0) 3 1) (Int32.toNatClampNeg a1)) (4, (Int32.toNatClampNeg a1), 0) 6) = 3 → True))))))))))
set_option maxHeartbeats 4000000 in
set_option maxRecDepth 100000 in
theorem mk_X4_step {l : Launch} {D : va_G} {T : wk_T} {z0 : Nat} {ad : wk_K3 → Nat} {sh : wk_Sh} {P : Nat → Nat} (hSh : sc_Sh T P sh) (sg : wk_Sg) (a1 : Int32)  (hg : mg_X4_step P sg a1) : wk_Mi l yX4_step cX4_step 3 (some .int) 6 139 D T z0 ad sh [.ref (ad (0, 0, 0)), .int a1] sg (mr_X4_step P sg a1) (ms_X4_step P sg a1) := by
  refine Met.ofW (cc := cX4_step) (maxL := 3) (ret := (some .int)) (by decide) rfl ?_
  intro p e s m args below meth c s₁ B hml hv
  obtain ⟨rfl, hz, hH, hK⟩ := hv
  have hx := B.exec
  have hb := B.bytes
  have hr := B.returns
  have hlocks := B.notSynchronized
  have hts : ∀ w ∈ wk_B, w.before _ s = true := fun w hw => atoms_spec (ws := Cond.code yX4_step cX4_step 3 (some .int) :: wk_B) B.pre w (List.mem_cons_of_mem _ hw)
  have X : wk_C p m c cX4_step 3 s _ RX4 D T := ⟨⟨hx, hb, hml, findClass_of_methodNamed B.named, hts⟩, hK⟩
  have hS : va_S (wk_A z0) s.heap s.heap [] := va_S.rf
  have hl := lv_entry ([.ref (ad (0, 0, 0)), .int a1]) (n := 3) (Nat.le_of_ble_eq_true rfl)
  rw [lg_entry_eq]
  generalize (lg_sl ([.ref (ad (0, 0, 0)), .int a1]) ++ List.replicate (3 - (lg_sl ([.ref (ad (0, 0, 0)), .int a1])).length) Slot.unset).toArray = ls at hl ⊢
  have hl : lv_has ls 3 [(0, .ref (ad (0, 0, 0))), (1, .int a1)] := hl
  unfold mg_X4_step at hg
  refine lv_aload_n (pc := 0) hx hb dX4_step_0 rfl (lv_at hl 0 rfl) ?_
  refine lv_iload_n (pc := 1) hx hb dX4_step_1 rfl (lv_at hl 1 rfl) ?_
  refine wk_ci (wk_rV (pc := 2) (As := [.int a1]) (rest := []) X hH hS hz (sc_0 hSh) rfl ok_X4_hasCore (mk_X4_hasCore (l := l) (P := P) hSh sg a1  ) ml_X4_44 ⟨by decide, by decide, by decide, by decide⟩ rfl hl.1 rfl (Nat.le_of_ble_eq_true rfl) dX4_step_2) hS (fun H locs hH hS => ?_)
  refine lv_if_ne (pc := 5) (tgt := 10) hx hb dX4_step_5 (by decide) (fun h1 => ?_) (fun h1 => ?_)
  · have hg := hg.2 h1
    refine lv_aload_n (pc := 10) hx hb dX4_step_10 rfl (lv_at hl 0 rfl) ?_
    refine lv_iconst (pc := 11) (v := 1) hx hb dX4_step_11 (by decide) ?_
    refine wk_puti (pc := 12) X hH hS (0, 0, 0) 3 tyX4_ok nmX4 (sc_0 hSh) rfl (by decide) rfl inX4 fl_X4_7 rfl rfl rfl dX4_step_12 (fun H locs hH hS => ?_)
    refine lv_aload_n (pc := 15) hx hb dX4_step_15 rfl (lv_at hl 0 rfl) ?_
    refine wk_getr (pc := 16) X hH (0, 0, 0) 1 (3, 0, 0) (sc_0 hSh) rfl (by decide) rfl inX4 fl_X4_28 dX4_step_16 ?_
    refine lv_iload_n (pc := 19) hx hb dX4_step_19 rfl (lv_at hl 1 rfl) ?_
    obtain ⟨o2, hg⟩ := hg
    have b3 := wk_inlt o2
    refine wk_aald (pc := 20) X hH (3, 0, 0) 1 (4, (Int32.toNatClampNeg a1), 0) (sc_3 hSh) rfl o2 (lk_3p b3) dX4_step_20 ?_
    refine lv_astore_n (pc := 21) (lv' := [(2, .ref (ad (4, (Int32.toNatClampNeg a1), 0))), (0, .ref (ad (0, 0, 0))), (1, .int a1)]) hx hb dX4_step_21 rfl hl (by decide) rfl (fun ls hl => ?_)
    refine lv_aload_n (pc := 22) hx hb dX4_step_22 rfl (lv_at hl 0 rfl) ?_
    obtain ⟨o4, hg⟩ := hg
    refine wk_cv (wk_rV (pc := 23) (As := []) (rest := []) X hH hS hz (sc_4 hSh b3) rfl ok_X1_goOn (mk_X1_goOn (l := l) (P := P) hSh (wk_up sg (0, 0, 0) 3 1) (Int32.toNatClampNeg a1) b3 o4) ml_X4_62 ⟨by decide, by decide, by decide, by decide⟩ rfl hl.1 rfl (Nat.le_of_ble_eq_true rfl) dX4_step_23) hS (fun H locs hH hS => ?_)
    refine lv_aload_n (pc := 26) hx hb dX4_step_26 rfl (lv_at hl 0 rfl) ?_
    refine wk_geti (pc := 27) X hH (4, (Int32.toNatClampNeg a1), 0) 6 (sc_4 hSh b3) rfl (by decide) rfl inX1 fl_X4_65 dX4_step_27 ?_
    by_cases w5 : ((ms_X1_goOn P (wk_up sg (0, 0, 0) 3 1) (Int32.toNatClampNeg a1)) (4, (Int32.toNatClampNeg a1), 0) 6) = 1
    · have hg := hg.1 w5
      refine wk_tin (pc := 30) (off := 26) (tgt := 56) X w5 dX4_step_30 (by decide) (by decide) (by decide) (by decide) ?_
      refine lv_iconst (pc := 56) (v := 2) hx hb dX4_step_56 (by decide) ?_
      exact wk_iret (pc := 57) X hH hS hr hlocks (by rw [mr_X4_step, if_neg h1, if_pos w5]) (by rw [ms_X4_step, if_neg h1, if_pos w5]) dX4_step_57
    · have hg := hg.2 w5
      by_cases w6 : ((ms_X1_goOn P (wk_up sg (0, 0, 0) 3 1) (Int32.toNatClampNeg a1)) (4, (Int32.toNatClampNeg a1), 0) 6) = 2
      · have hg := hg.1 w6
        refine wk_tin (pc := 30) (off := 28) (tgt := 58) X w6 dX4_step_30 (by decide) (by decide) (by decide) (by decide) ?_
        refine lv_iconst (pc := 58) (v := 3) hx hb dX4_step_58 (by decide) ?_
        exact wk_iret (pc := 59) X hH hS hr hlocks (by rw [mr_X4_step, if_neg h1, if_neg w5, if_pos w6]) (by rw [ms_X4_step, if_neg h1, if_neg w5, if_pos w6]) dX4_step_59
      · have hg := hg.2 w6
        by_cases w7 : ((ms_X1_goOn P (wk_up sg (0, 0, 0) 3 1) (Int32.toNatClampNeg a1)) (4, (Int32.toNatClampNeg a1), 0) 6) = 3
        · have hg := hg.1 w7
          refine wk_tin (pc := 30) (off := 30) (tgt := 60) X w7 dX4_step_30 (by decide) (by decide) (by decide) (by decide) ?_
          refine lv_iconst (pc := 60) (v := 4) hx hb dX4_step_60 (by decide) ?_
          exact wk_iret (pc := 61) X hH hS hr hlocks (by rw [mr_X4_step, if_neg h1, if_neg w5, if_neg w6, if_pos w7]) (by rw [ms_X4_step, if_neg h1, if_neg w5, if_neg w6, if_pos w7]) dX4_step_61
        · have hg := hg.2 w7
          refine lv_tableOut (pc := 30) (tgt := 62) hx hb dX4_step_30 (wk_tout (fun v h1 h2 hv => ?_)) (by decide) ?_
          · have n0 := lv_neT w5 (show Int32.toInt 1 = 1 from by decide); have n1 := lv_neT w6 (show Int32.toInt 2 = 2 from by decide); have n2 := lv_neT w7 (show Int32.toInt 3 = 3 from by decide); omega
          refine lv_iconst (pc := 62) (v := 1) hx hb dX4_step_62 (by decide) ?_
          exact wk_iret (pc := 63) X hH hS hr hlocks (by rw [mr_X4_step, if_neg h1, if_neg w5, if_neg w6, if_neg w7]) (by rw [ms_X4_step, if_neg h1, if_neg w5, if_neg w6, if_neg w7]) dX4_step_63
  · have hg := hg.1 h1
    refine lv_iconst (pc := 8) (v := (-1)) hx hb dX4_step_8 (by decide) ?_
    exact wk_iret (pc := 9) X hH hS hr hlocks (by rw [mr_X4_step, if_pos h1]) (by rw [ms_X4_step, if_pos h1]) dX4_step_9
