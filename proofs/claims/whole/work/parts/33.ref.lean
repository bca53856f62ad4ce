def mr_X5_bus (P : Nat → Nat) (sg : wk_Sg)  : Int32 := (if (sg (20, 0, 0) 17) = 0 then (mr_X5_take P sg) else (if (sg (20, 0, 0) 17) = 3 then (mr_X5_supply P sg) else (if (sg (20, 0, 0) 17) = 1 then (if (sg (30, 0, 0) (Int32.toNatClampNeg (mr_X5_slotOf P sg (sg (20, 0, 0) 18) (sg (20, 0, 0) 20)))) = (sg (20, 0, 0) 20) then (mr_X5_snoop P sg) else (if (mr_X5_isDirty P sg (sg (29, 0, 0) (Int32.toNatClampNeg (mr_X5_slotOf P sg (sg (20, 0, 0) 18) (sg (20, 0, 0) 20))))) = 0 then (mr_X5_snoop P sg) else (mr_X5_phase P (ms_X5_empty P (ms_X5_writeBack P sg (mr_X5_slotOf P sg (sg (20, 0, 0) 18) (sg (20, 0, 0) 20))) (mr_X5_slotOf P sg (sg (20, 0, 0) 18) (sg (20, 0, 0) 20))) 2))) else (mr_X5_snoop P sg))))
def ms_X5_bus (P : Nat → Nat) (sg : wk_Sg)  : wk_Sg := (if (sg (20, 0, 0) 17) = 0 then (ms_X5_take P sg) else (if (sg (20, 0, 0) 17) = 3 then (ms_X5_supply P sg) else (if (sg (20, 0, 0) 17) = 1 then (if (sg (30, 0, 0) (Int32.toNatClampNeg (mr_X5_slotOf P sg (sg (20, 0, 0) 18) (sg (20, 0, 0) 20)))) = (sg (20, 0, 0) 20) then (ms_X5_snoop P sg) else (if (mr_X5_isDirty P sg (sg (29, 0, 0) (Int32.toNatClampNeg (mr_X5_slotOf P sg (sg (20, 0, 0) 18) (sg (20, 0, 0) 20))))) = 0 then (ms_X5_snoop P sg) else (ms_X5_phase P (ms_X5_empty P (ms_X5_writeBack P sg (mr_X5_slotOf P sg (sg (20, 0, 0) 18) (sg (20, 0, 0) 20))) (mr_X5_slotOf P sg (sg (20, 0, 0) 18) (sg (20, 0, 0) 20))) 2))) else (ms_X5_snoop P sg))))
def mg_X5_bus (P : Nat → Nat) (sg : wk_Sg)  : Prop := (((sg (20, 0, 0) 17) = 0 → (mg_X5_take P sg ∧ True)) ∧ (¬ (sg (20, 0, 0) 17) = 0 → (((sg (20, 0, 0) 17) = 3 → (mg_X5_supply P sg ∧ True)) ∧ (¬ (sg (20, 0, 0) 17) = 3 → (mg_X5_slotOf P sg (sg (20, 0, 0) 18) (sg (20, 0, 0) 20) ∧ (((sg (20, 0, 0) 17) = 1 → (vp_in (mr_X5_slotOf P sg (sg (20, 0, 0) 18) (sg (20, 0, 0) 20)) 32 ∧ (((sg (30, 0, 0) (Int32.toNatClampNeg (mr_X5_slotOf P sg (sg (20, 0, 0) 18) (sg (20, 0, 0) 20)))) = (sg (20, 0, 0) 20) → (mg_X5_snoop P sg ∧ True)) ∧ (¬ (sg (30, 0, 0) (Int32.toNatClampNeg (mr_X5_slotOf P sg (sg (20, 0, 0) 18) (sg (20, 0, 0) 20)))) = (sg (20, 0, 0) 20) → (vp_in (mr_X5_slotOf P sg (sg (20, 0, 0) 18) (sg (20, 0, 0) 20)) 32 ∧ (((mr_X5_isDirty P sg (sg (29, 0, 0) (Int32.toNatClampNeg (mr_X5_slotOf P sg (sg (20, 0, 0) 18) (sg (20, 0, 0) 20))))) = 0 → (mg_X5_snoop P sg ∧ True)) ∧ (¬ (mr_X5_isDirty P sg (sg (29, 0, 0) (Int32.toNatClampNeg (mr_X5_slotOf P sg (sg (20, 0, 0) 18) (sg (20, 0, 0) 20))))) = 0 → (mg_X5_writeBack P sg (mr_X5_slotOf P sg (sg (20, 0, 0) 18) (sg (20, 0, 0) 20)) ∧ (mg_X5_empty P (ms_X5_writeBack P sg (mr_X5_slotOf P sg (sg (20, 0, 0) 18) (sg (20, 0, 0) 20))) (mr_X5_slotOf P sg (sg (20, 0, 0) 18) (sg (20, 0, 0) 20)) ∧ (mg_X5_phase P (ms_X5_empty P (ms_X5_writeBack P sg (mr_X5_slotOf P sg (sg (20, 0, 0) 18) (sg (20, 0, 0) 20))) (mr_X5_slotOf P sg (sg (20, 0, 0) 18) (sg (20, 0, 0) 20))) 2 ∧ True)))))))))) ∧ (¬ (sg (20, 0, 0) 17) = 1 → (mg_X5_snoop P sg ∧ True))))))))
set_option maxHeartbeats 4000000 in
set_option maxRecDepth 100000 in
theorem mk_X5_bus {l : Launch} {D : va_G} {T : wk_T} {z0 : Nat} {ad : wk_K3 → Nat} {sh : wk_Sh} {P : Nat → Nat} (hSh : rf_Sh T sh) (sg : wk_Sg)   (hg : mg_X5_bus P sg ) : wk_Mi l yX5_bus cX5_bus 2 (some .int) 3 69 D T z0 ad sh [.ref (ad (20, 0, 0))] sg (mr_X5_bus P sg ) (ms_X5_bus P sg ) := by
  refine Met.ofW (cc := cX5_bus) (maxL := 2) (ret := (some .int)) (by decide) rfl ?_
  intro p e s m args below meth c s₁ B hml hv
  obtain ⟨rfl, hz, hH, hK⟩ := hv
  have hx := B.exec
  have hb := B.bytes
  have hr := B.returns
  have hlocks := B.notSynchronized
  have hts : ∀ w ∈ wk_B, w.before _ s = true := fun w hw => atoms_spec (ws := Cond.code yX5_bus cX5_bus 2 (some .int) :: wk_B) B.pre w (List.mem_cons_of_mem _ hw)
  have X : wk_C p m c cX5_bus 2 s _ RX5 D T := ⟨⟨hx, hb, hml, findClass_of_methodNamed B.named, hts⟩, hK⟩
  have hS : va_S (wk_A z0) s.heap s.heap [] := va_S.rf
  have hl := lv_entry ([.ref (ad (20, 0, 0))]) (n := 2) (Nat.le_of_ble_eq_true rfl)
  rw [lg_entry_eq]
  generalize (lg_sl ([.ref (ad (20, 0, 0))]) ++ List.replicate (2 - (lg_sl ([.ref (ad (20, 0, 0))])).length) Slot.unset).toArray = ls at hl ⊢
  have hl : lv_has ls 2 [(0, .ref (ad (20, 0, 0)))] := hl
  unfold mg_X5_bus at hg
  refine lv_aload_n (pc := 0) hx hb dX5_bus_0 rfl (lv_at hl 0 rfl) ?_
  refine wk_geti (pc := 1) X hH (20, 0, 0) 17 (rf_20 hSh) rfl (by decide) rfl inX5 fl_X5_107 dX5_bus_1 ?_
  refine lv_if_ne (pc := 4) (tgt := 12) hx hb dX5_bus_4 (by decide) (fun h1 => ?_) (fun h1 => ?_)
  · have hg := hg.2 h1
    refine lv_aload_n (pc := 12) hx hb dX5_bus_12 rfl (lv_at hl 0 rfl) ?_
    refine wk_geti (pc := 13) X hH (20, 0, 0) 17 (rf_20 hSh) rfl (by decide) rfl inX5 fl_X5_107 dX5_bus_13 ?_
    refine lv_iconst (pc := 16) (v := 3) hx hb dX5_bus_16 (by decide) ?_
    refine lv_icmp_ne (pc := 17) (tgt := 25) hx hb dX5_bus_17 (by decide) (fun h2 => ?_) (fun h2 => ?_)
    · have hg := hg.2 h2
      refine lv_aload_n (pc := 25) hx hb dX5_bus_25 rfl (lv_at hl 0 rfl) ?_
      refine lv_aload_n (pc := 26) hx hb dX5_bus_26 rfl (lv_at hl 0 rfl) ?_
      refine wk_geti (pc := 27) X hH (20, 0, 0) 18 (rf_20 hSh) rfl (by decide) rfl inX5 fl_X5_69 dX5_bus_27 ?_
      refine lv_aload_n (pc := 30) hx hb dX5_bus_30 rfl (lv_at hl 0 rfl) ?_
      refine wk_geti (pc := 31) X hH (20, 0, 0) 20 (rf_20 hSh) rfl (by decide) rfl inX5 fl_X5_72 dX5_bus_31 ?_
      obtain ⟨o3, hg⟩ := hg
      refine wk_ci (wk_rV (pc := 34) (As := [.int (sg (20, 0, 0) 18), .int (sg (20, 0, 0) 20)]) (rest := []) X hH hS hz (rf_20 hSh) rfl ok_X5_slotOf (mk_X5_slotOf (l := l) (P := P) hSh sg (sg (20, 0, 0) 18) (sg (20, 0, 0) 20)  o3) ml_X5_86 ⟨by decide, by decide, by decide, by decide⟩ rfl hl.1 rfl (Nat.le_of_ble_eq_true rfl) dX5_bus_34) hS (fun H locs hH hS => ?_)
      refine lv_istore_n (pc := 37) (lv' := [(1, .int (mr_X5_slotOf P sg (sg (20, 0, 0) 18) (sg (20, 0, 0) 20))), (0, .ref (ad (20, 0, 0)))]) hx hb dX5_bus_37 rfl hl (by decide) rfl (fun ls hl => ?_)
      refine lv_aload_n (pc := 38) hx hb dX5_bus_38 rfl (lv_at hl 1 rfl) ?_
      refine wk_geti (pc := 39) X hH (20, 0, 0) 17 (rf_20 hSh) rfl (by decide) rfl inX5 fl_X5_107 dX5_bus_39 ?_
      refine lv_iconst (pc := 42) (v := 1) hx hb dX5_bus_42 (by decide) ?_
      refine lv_icmp_ne (pc := 43) (tgt := 87) hx hb dX5_bus_43 (by decide) (fun h4 => ?_) (fun h4 => ?_)
      · have hg := hg.2 h4
        refine lv_aload_n (pc := 87) hx hb dX5_bus_87 rfl (lv_at hl 1 rfl) ?_
        obtain ⟨o5, hg⟩ := hg
        refine wk_ci (wk_rV (pc := 88) (As := []) (rest := []) X hH hS hz (rf_20 hSh) rfl ok_X5_snoop (mk_X5_snoop (l := l) (P := P) hSh sg  o5) ml_X5_135 ⟨by decide, by decide, by decide, by decide⟩ rfl hl.1 rfl (Nat.le_of_ble_eq_true rfl) dX5_bus_88) hS (fun H locs hH hS => ?_)
        exact wk_iret (pc := 91) X hH hS hr hlocks (by rw [mr_X5_bus, if_neg h1, if_neg h2, if_neg h4]) (by rw [ms_X5_bus, if_neg h1, if_neg h2, if_neg h4]) dX5_bus_91
      · have hg := hg.1 h4
        refine lv_aload_n (pc := 46) hx hb dX5_bus_46 rfl (lv_at hl 1 rfl) ?_
        refine wk_getr (pc := 47) X hH (20, 0, 0) 15 (30, 0, 0) (rf_20 hSh) rfl (by decide) rfl inX5 fl_X5_37 dX5_bus_47 ?_
        refine lv_iload_n (pc := 50) hx hb dX5_bus_50 rfl (lv_at hl 0 rfl) ?_
        obtain ⟨o6, hg⟩ := hg
        refine wk_iald (pc := 51) X hH (30, 0, 0) (rf_30 hSh) o6 dX5_bus_51 ?_
        refine lv_aload_n (pc := 52) hx hb dX5_bus_52 rfl (lv_at hl 1 rfl) ?_
        refine wk_geti (pc := 53) X hH (20, 0, 0) 20 (rf_20 hSh) rfl (by decide) rfl inX5 fl_X5_72 dX5_bus_53 ?_
        refine lv_icmp_eq (pc := 56) (tgt := 87) hx hb dX5_bus_56 (by decide) (fun h7 => ?_) (fun h7 => ?_)
        · have hg := hg.1 h7
          refine lv_aload_n (pc := 87) hx hb dX5_bus_87 rfl (lv_at hl 1 rfl) ?_
          obtain ⟨o8, hg⟩ := hg
          refine wk_ci (wk_rV (pc := 88) (As := []) (rest := []) X hH hS hz (rf_20 hSh) rfl ok_X5_snoop (mk_X5_snoop (l := l) (P := P) hSh sg  o8) ml_X5_135 ⟨by decide, by decide, by decide, by decide⟩ rfl hl.1 rfl (Nat.le_of_ble_eq_true rfl) dX5_bus_88) hS (fun H locs hH hS => ?_)
          exact wk_iret (pc := 91) X hH hS hr hlocks (by rw [mr_X5_bus, if_neg h1, if_neg h2, if_pos h4, if_pos h7]) (by rw [ms_X5_bus, if_neg h1, if_neg h2, if_pos h4, if_pos h7]) dX5_bus_91
        · have hg := hg.2 h7
          refine lv_aload_n (pc := 59) hx hb dX5_bus_59 rfl (lv_at hl 1 rfl) ?_
          refine wk_getr (pc := 60) X hH (20, 0, 0) 14 (29, 0, 0) (rf_20 hSh) rfl (by decide) rfl inX5 fl_X5_34 dX5_bus_60 ?_
          refine lv_iload_n (pc := 63) hx hb dX5_bus_63 rfl (lv_at hl 0 rfl) ?_
          obtain ⟨o9, hg⟩ := hg
          refine wk_iald (pc := 64) X hH (29, 0, 0) (rf_29 hSh) o9 dX5_bus_64 ?_
          refine wk_ci (wk_rS (pc := 65) (As := [.int (sg (29, 0, 0) (Int32.toNatClampNeg (mr_X5_slotOf P sg (sg (20, 0, 0) 18) (sg (20, 0, 0) 20))))]) (rest := []) X hH hS hz ok_X5_isDirty (mk_X5_isDirty (l := l) (P := P)  sg (sg (29, 0, 0) (Int32.toNatClampNeg (mr_X5_slotOf P sg (sg (20, 0, 0) 18) (sg (20, 0, 0) 20))))  ) ml_X5_118 ⟨by decide, by decide, by decide, by decide⟩ rfl hl.1 rfl (Nat.le_of_ble_eq_true rfl) dX5_bus_65) hS (fun H locs hH hS => ?_)
          refine lv_if_eq (pc := 68) (tgt := 87) hx hb dX5_bus_68 (by decide) (fun h10 => ?_) (fun h10 => ?_)
          · have hg := hg.1 h10
            refine lv_aload_n (pc := 87) hx hb dX5_bus_87 rfl (lv_at hl 1 rfl) ?_
            obtain ⟨o11, hg⟩ := hg
            refine wk_ci (wk_rV (pc := 88) (As := []) (rest := []) X hH hS hz (rf_20 hSh) rfl ok_X5_snoop (mk_X5_snoop (l := l) (P := P) hSh sg  o11) ml_X5_135 ⟨by decide, by decide, by decide, by decide⟩ rfl hl.1 rfl (Nat.le_of_ble_eq_true rfl) dX5_bus_88) hS (fun H locs hH hS => ?_)
            exact wk_iret (pc := 91) X hH hS hr hlocks (by rw [mr_X5_bus, if_neg h1, if_neg h2, if_pos h4, if_neg h7, if_pos h10]) (by rw [ms_X5_bus, if_neg h1, if_neg h2, if_pos h4, if_neg h7, if_pos h10]) dX5_bus_91
          · have hg := hg.2 h10
            refine lv_aload_n (pc := 71) hx hb dX5_bus_71 rfl (lv_at hl 1 rfl) ?_
            refine lv_iload_n (pc := 72) hx hb dX5_bus_72 rfl (lv_at hl 0 rfl) ?_
            obtain ⟨o12, hg⟩ := hg
            refine wk_cv (wk_rV (pc := 73) (As := [.int (mr_X5_slotOf P sg (sg (20, 0, 0) 18) (sg (20, 0, 0) 20))]) (rest := []) X hH hS hz (rf_20 hSh) rfl ok_X5_writeBack (mk_X5_writeBack (l := l) (P := P) hSh sg (mr_X5_slotOf P sg (sg (20, 0, 0) 18) (sg (20, 0, 0) 20))  o12) ml_X5_121 ⟨by decide, by decide, by decide, by decide⟩ rfl hl.1 rfl (Nat.le_of_ble_eq_true rfl) dX5_bus_73) hS (fun H locs hH hS => ?_)
            refine lv_aload_n (pc := 76) hx hb dX5_bus_76 rfl (lv_at hl 1 rfl) ?_
            refine lv_iload_n (pc := 77) hx hb dX5_bus_77 rfl (lv_at hl 0 rfl) ?_
            obtain ⟨o13, hg⟩ := hg
            refine wk_cv (wk_rV (pc := 78) (As := [.int (mr_X5_slotOf P sg (sg (20, 0, 0) 18) (sg (20, 0, 0) 20))]) (rest := []) X hH hS hz (rf_20 hSh) rfl ok_X5_empty (mk_X5_empty (l := l) (P := P) hSh (ms_X5_writeBack P sg (mr_X5_slotOf P sg (sg (20, 0, 0) 18) (sg (20, 0, 0) 20))) (mr_X5_slotOf P sg (sg (20, 0, 0) 18) (sg (20, 0, 0) 20))  o13) ml_X5_125 ⟨by decide, by decide, by decide, by decide⟩ rfl hl.1 rfl (Nat.le_of_ble_eq_true rfl) dX5_bus_78) hS (fun H locs hH hS => ?_)
            refine lv_aload_n (pc := 81) hx hb dX5_bus_81 rfl (lv_at hl 1 rfl) ?_
            refine lv_iconst (pc := 82) (v := 2) hx hb dX5_bus_82 (by decide) ?_
            obtain ⟨o14, hg⟩ := hg
            refine wk_ci (wk_rV (pc := 83) (As := [.int 2]) (rest := []) X hH hS hz (rf_20 hSh) rfl ok_X5_phase (mk_X5_phase (l := l) (P := P) hSh (ms_X5_empty P (ms_X5_writeBack P sg (mr_X5_slotOf P sg (sg (20, 0, 0) 18) (sg (20, 0, 0) 20))) (mr_X5_slotOf P sg (sg (20, 0, 0) 18) (sg (20, 0, 0) 20))) 2  o14) ml_X5_113 ⟨by decide, by decide, by decide, by decide⟩ rfl hl.1 rfl (Nat.le_of_ble_eq_true rfl) dX5_bus_83) hS (fun H locs hH hS => ?_)
            exact wk_iret (pc := 86) X hH hS hr hlocks (by rw [mr_X5_bus, if_neg h1, if_neg h2, if_pos h4, if_neg h7, if_neg h10]) (by rw [ms_X5_bus, if_neg h1, if_neg h2, if_pos h4, if_neg h7, if_neg h10]) dX5_bus_86
    · have hg := hg.1 h2
      refine lv_aload_n (pc := 20) hx hb dX5_bus_20 rfl (lv_at hl 0 rfl) ?_
      obtain ⟨o15, hg⟩ := hg
      refine wk_ci (wk_rV (pc := 21) (As := []) (rest := []) X hH hS hz (rf_20 hSh) rfl ok_X5_supply (mk_X5_supply (l := l) (P := P) hSh sg  o15) ml_X5_132 ⟨by decide, by decide, by decide, by decide⟩ rfl hl.1 rfl (Nat.le_of_ble_eq_true rfl) dX5_bus_21) hS (fun H locs hH hS => ?_)
      exact wk_iret (pc := 24) X hH hS hr hlocks (by rw [mr_X5_bus, if_neg h1, if_pos h2]) (by rw [ms_X5_bus, if_neg h1, if_pos h2]) dX5_bus_24
  · have hg := hg.1 h1
    refine lv_aload_n (pc := 7) hx hb dX5_bus_7 rfl (lv_at hl 0 rfl) ?_
    obtain ⟨o16, hg⟩ := hg
    refine wk_ci (wk_rV (pc := 8) (As := []) (rest := []) X hH hS hz (rf_20 hSh) rfl ok_X5_take (mk_X5_take (l := l) (P := P) hSh sg  o16) ml_X5_128 ⟨by decide, by decide, by decide, by decide⟩ rfl hl.1 rfl (Nat.le_of_ble_eq_true rfl) dX5_bus_8) hS (fun H locs hH hS => ?_)
    exact wk_iret (pc := 11) X hH hS hr hlocks (by rw [mr_X5_bus, if_pos h1]) (by rw [ms_X5_bus, if_pos h1]) dX5_bus_11

def mr_X5_clamp (P : Nat → Nat) (sg : wk_Sg) (a1 : Int32) (a2 : Int32) (a3 : Int32) : Int32 := (if a2 ≤ a1 then (if a1 ≤ a3 then a1 else a3) else a2)
set_option maxHeartbeats 4000000 in
set_option maxRecDepth 100000 in
theorem mk_X5_clamp {l : Launch} {D : va_G} {T : wk_T} {z0 : Nat} {ad : wk_K3 → Nat} {sh : wk_Sh} {P : Nat → Nat} (sg : wk_Sg) (a1 : Int32) (a2 : Int32) (a3 : Int32)   : wk_Mi l yX5_clamp cX5_clamp 3 (some .int) 0 0 D T z0 ad sh [.int a1, .int a2, .int a3] sg (mr_X5_clamp P sg a1 a2 a3) sg := by
  refine Met.ofW (cc := cX5_clamp) (maxL := 3) (ret := (some .int)) (by decide) rfl ?_
  intro p e s m args below meth c s₁ B hml hv
  obtain ⟨rfl, hz, hH, hK⟩ := hv
  have hx := B.exec
  have hb := B.bytes
  have hr := B.returns
  have hlocks := B.notSynchronized
  have hts : ∀ w ∈ wk_B, w.before _ s = true := fun w hw => atoms_spec (ws := Cond.code yX5_clamp cX5_clamp 3 (some .int) :: wk_B) B.pre w (List.mem_cons_of_mem _ hw)
  have X : wk_C p m c cX5_clamp 3 s _ RX5 D T := ⟨⟨hx, hb, hml, findClass_of_methodNamed B.named, hts⟩, hK⟩
  have hS : va_S (wk_A z0) s.heap s.heap [] := va_S.rf
  have hl := lv_entry ([.int a1, .int a2, .int a3]) (n := 3) (Nat.le_of_ble_eq_true rfl)
  rw [lg_entry_eq]
  generalize (lg_sl ([.int a1, .int a2, .int a3]) ++ List.replicate (3 - (lg_sl ([.int a1, .int a2, .int a3])).length) Slot.unset).toArray = ls at hl ⊢
  have hl : lv_has ls 3 [(0, .int a1), (1, .int a2), (2, .int a3)] := hl
  refine lv_iload_n (pc := 0) hx hb dX5_clamp_0 rfl (lv_at hl 0 rfl) ?_
  refine lv_iload_n (pc := 1) hx hb dX5_clamp_1 rfl (lv_at hl 1 rfl) ?_
  refine lv_icmp_ge (pc := 2) (tgt := 9) hx hb dX5_clamp_2 (by decide) (fun h1 => ?_) (fun h1 => ?_)
  · skip
    refine lv_iload_n (pc := 9) hx hb dX5_clamp_9 rfl (lv_at hl 0 rfl) ?_
    refine lv_iload_n (pc := 10) hx hb dX5_clamp_10 rfl (lv_at hl 2 rfl) ?_
    refine lv_icmp_le (pc := 11) (tgt := 18) hx hb dX5_clamp_11 (by decide) (fun h2 => ?_) (fun h2 => ?_)
    · skip
      refine lv_iload_n (pc := 18) hx hb dX5_clamp_18 rfl (lv_at hl 0 rfl) ?_
      exact wk_iret (pc := 19) X hH hS hr hlocks (by rw [mr_X5_clamp, if_pos h1, if_pos h2]) (rfl) dX5_clamp_19
    · skip
      refine lv_iload_n (pc := 14) hx hb dX5_clamp_14 rfl (lv_at hl 2 rfl) ?_
      refine lv_goto (pc := 15) (tgt := 19) hx hb dX5_clamp_15 (by decide) ?_
      exact wk_iret (pc := 19) X hH hS hr hlocks (by rw [mr_X5_clamp, if_pos h1, if_neg h2]) (rfl) dX5_clamp_19
  · skip
    refine lv_iload_n (pc := 5) hx hb dX5_clamp_5 rfl (lv_at hl 1 rfl) ?_
    refine lv_goto (pc := 6) (tgt := 19) hx hb dX5_clamp_6 (by decide) ?_
    exact wk_iret (pc := 19) X hH hS hr hlocks (by rw [mr_X5_clamp, if_neg h1]) (rfl) dX5_clamp_19

def mr_X5_isCpu (P : Nat → Nat) (sg : wk_Sg) (a1 : Int32) : Int32 := (if a1 < 0 then 0 else (if (sg (20, 0, 0) 0) ≤ a1 then 0 else 1))
theorem mz_X5_isCpu (P : Nat → Nat) (sg : wk_Sg) (a1 : Int32) : mr_X5_isCpu P sg a1 = 0 ∨ mr_X5_isCpu P sg a1 = 1 := by
  unfold mr_X5_isCpu
  repeat' split
  all_goals first | exact Or.inl rfl | exact Or.inr rfl
set_option maxHeartbeats 4000000 in
set_option maxRecDepth 100000 in
theorem mk_X5_isCpu {l : Launch} {D : va_G} {T : wk_T} {z0 : Nat} {ad : wk_K3 → Nat} {sh : wk_Sh} {P : Nat → Nat} (hSh : rf_Sh T sh) (sg : wk_Sg) (a1 : Int32)   : wk_Mi l yX5_isCpu cX5_isCpu 2 (some .boolean) 0 0 D T z0 ad sh [.ref (ad (20, 0, 0)), .int a1] sg (mr_X5_isCpu P sg a1) sg := by
  refine Met.ofW (cc := cX5_isCpu) (maxL := 2) (ret := (some .boolean)) (by decide) rfl ?_
  intro p e s m args below meth c s₁ B hml hv
  obtain ⟨rfl, hz, hH, hK⟩ := hv
  have hx := B.exec
  have hb := B.bytes
  have hr := B.returns
  have hlocks := B.notSynchronized
  have hts : ∀ w ∈ wk_B, w.before _ s = true := fun w hw => atoms_spec (ws := Cond.code yX5_isCpu cX5_isCpu 2 (some .boolean) :: wk_B) B.pre w (List.mem_cons_of_mem _ hw)
  have X : wk_C p m c cX5_isCpu 2 s _ RX5 D T := ⟨⟨hx, hb, hml, findClass_of_methodNamed B.named, hts⟩, hK⟩
  have hS : va_S (wk_A z0) s.heap s.heap [] := va_S.rf
  have hl := lv_entry ([.ref (ad (20, 0, 0)), .int a1]) (n := 2) (Nat.le_of_ble_eq_true rfl)
  rw [lg_entry_eq]
  generalize (lg_sl ([.ref (ad (20, 0, 0)), .int a1]) ++ List.replicate (2 - (lg_sl ([.ref (ad (20, 0, 0)), .int a1])).length) Slot.unset).toArray = ls at hl ⊢
  have hl : lv_has ls 2 [(0, .ref (ad (20, 0, 0))), (1, .int a1)] := hl
  refine lv_iload_n (pc := 0) hx hb dX5_isCpu_0 rfl (lv_at hl 1 rfl) ?_
  refine lv_if_lt (pc := 1) (tgt := 16) hx hb dX5_isCpu_1 (by decide) (fun h1 => ?_) (fun h1 => ?_)
  · skip
    refine lv_iconst (pc := 16) (v := 0) hx hb dX5_isCpu_16 (by decide) ?_
    exact wk_zret (pc := 17) X hH hS hr hlocks (Or.inl rfl) (by rw [mr_X5_isCpu, if_pos h1]) (rfl) dX5_isCpu_17
  · skip
    refine lv_iload_n (pc := 4) hx hb dX5_isCpu_4 rfl (lv_at hl 1 rfl) ?_
    refine lv_aload_n (pc := 5) hx hb dX5_isCpu_5 rfl (lv_at hl 0 rfl) ?_
    refine wk_geti (pc := 6) X hH (20, 0, 0) 0 (rf_20 hSh) rfl (by decide) rfl inX5 fl_X5_53 dX5_isCpu_6 ?_
    refine lv_icmp_ge (pc := 9) (tgt := 16) hx hb dX5_isCpu_9 (by decide) (fun h2 => ?_) (fun h2 => ?_)
    · skip
      refine lv_iconst (pc := 16) (v := 0) hx hb dX5_isCpu_16 (by decide) ?_
      exact wk_zret (pc := 17) X hH hS hr hlocks (Or.inl rfl) (by rw [mr_X5_isCpu, if_neg h1, if_pos h2]) (rfl) dX5_isCpu_17
    · skip
      refine lv_iconst (pc := 12) (v := 1) hx hb dX5_isCpu_12 (by decide) ?_
      refine lv_goto (pc := 13) (tgt := 17) hx hb dX5_isCpu_13 (by decide) ?_
      exact wk_zret (pc := 17) X hH hS hr hlocks (Or.inr rfl) (by rw [mr_X5_isCpu, if_neg h1, if_neg h2]) (rfl) dX5_isCpu_17

def mr_X5_cpu (P : Nat → Nat) (sg : wk_Sg) (a1 : Int32) (a2 : Int32) : Int32 := (if (mr_X5_isCpu P sg a1) = 0 then (-1) else (if a2 = 0 then (sg (24, 0, 0) (Int32.toNatClampNeg a1)) else (if a2 = 1 then (sg (25, 0, 0) (Int32.toNatClampNeg a1)) else (if a2 = 2 then (sg (26, 0, 0) (Int32.toNatClampNeg a1)) else (if a2 = 3 then (sg (27, 0, 0) (Int32.toNatClampNeg a1)) else (if a2 = 4 then (sg (28, 0, 0) (Int32.toNatClampNeg a1)) else (-1)))))))
def mg_X5_cpu (P : Nat → Nat) (sg : wk_Sg) (a1 : Int32) (a2 : Int32) : Prop := (((mr_X5_isCpu P sg a1) = 0 → True) ∧ (¬ (mr_X5_isCpu P sg a1) = 0 → ((a2 = 0 → (vp_in a1 4 ∧ True)) ∧ (¬ a2 = 0 → ((a2 = 1 → (vp_in a1 4 ∧ True)) ∧ (¬ a2 = 1 → ((a2 = 2 → (vp_in a1 4 ∧ True)) ∧ (¬ a2 = 2 → ((a2 = 3 → (vp_in a1 4 ∧ True)) ∧ (¬ a2 = 3 → ((a2 = 4 → (vp_in a1 4 ∧ True)) ∧ (¬ a2 = 4 → True))))))))))))
set_option maxHeartbeats 4000000 in
set_option maxRecDepth 100000 in
theorem mk_X5_cpu {l : Launch} {D : va_G} {T : wk_T} {z0 : Nat} {ad : wk_K3 → Nat} {sh : wk_Sh} {P : Nat → Nat} (hSh : rf_Sh T sh) (sg : wk_Sg) (a1 : Int32) (a2 : Int32)  (hg : mg_X5_cpu P sg a1 a2) : wk_Mi l yX5_cpu cX5_cpu 3 (some .int) 1 21 D T z0 ad sh [.ref (ad (20, 0, 0)), .int a1, .int a2] sg (mr_X5_cpu P sg a1 a2) sg := by
  refine Met.ofW (cc := cX5_cpu) (maxL := 3) (ret := (some .int)) (by decide) rfl ?_
  intro p e s m args below meth c s₁ B hml hv
  obtain ⟨rfl, hz, hH, hK⟩ := hv
  have hx := B.exec
  have hb := B.bytes
  have hr := B.returns
  have hlocks := B.notSynchronized
  have hts : ∀ w ∈ wk_B, w.before _ s = true := fun w hw => atoms_spec (ws := Cond.code yX5_cpu cX5_cpu 3 (some .int) :: wk_B) B.pre w (List.mem_cons_of_mem _ hw)
  have X : wk_C p m c cX5_cpu 3 s _ RX5 D T := ⟨⟨hx, hb, hml, findClass_of_methodNamed B.named, hts⟩, hK⟩
  have hS : va_S (wk_A z0) s.heap s.heap [] := va_S.rf
  have hl := lv_entry ([.ref (ad (20, 0, 0)), .int a1, .int a2]) (n := 3) (Nat.le_of_ble_eq_true rfl)
  rw [lg_entry_eq]
  generalize (lg_sl ([.ref (ad (20, 0, 0)), .int a1, .int a2]) ++ List.replicate (3 - (lg_sl ([.ref (ad (20, 0, 0)), .int a1, .int a2])).length) Slot.unset).toArray = ls at hl ⊢
  have hl : lv_has ls 3 [(0, .ref (ad (20, 0, 0))), (1, .int a1), (2, .int a2)] := hl
  unfold mg_X5_cpu at hg
  refine lv_aload_n (pc := 0) hx hb dX5_cpu_0 rfl (lv_at hl 0 rfl) ?_
  refine lv_iload_n (pc := 1) hx hb dX5_cpu_1 rfl (lv_at hl 1 rfl) ?_
  refine wk_ci (wk_rV (pc := 2) (As := [.int a1]) (rest := []) X hH hS hz (rf_20 hSh) rfl ok_X5_isCpu (mk_X5_isCpu (l := l) (P := P) hSh sg a1  ) ml_X5_75 ⟨by decide, by decide, by decide, by decide⟩ rfl hl.1 rfl (Nat.le_of_ble_eq_true rfl) dX5_cpu_2) hS (fun H locs hH hS => ?_)
  refine lv_if_ne (pc := 5) (tgt := 10) hx hb dX5_cpu_5 (by decide) (fun h1 => ?_) (fun h1 => ?_)
  · have hg := hg.2 h1
    refine lv_iload_n (pc := 10) hx hb dX5_cpu_10 rfl (lv_at hl 2 rfl) ?_
    refine lv_if_ne (pc := 11) (tgt := 23) hx hb dX5_cpu_11 (by decide) (fun h2 => ?_) (fun h2 => ?_)
    · have hg := hg.2 h2
      refine lv_iload_n (pc := 23) hx hb dX5_cpu_23 rfl (lv_at hl 2 rfl) ?_
      refine lv_iconst (pc := 24) (v := 1) hx hb dX5_cpu_24 (by decide) ?_
      refine lv_icmp_ne (pc := 25) (tgt := 37) hx hb dX5_cpu_25 (by decide) (fun h3 => ?_) (fun h3 => ?_)
      · have hg := hg.2 h3
        refine lv_iload_n (pc := 37) hx hb dX5_cpu_37 rfl (lv_at hl 2 rfl) ?_
        refine lv_iconst (pc := 38) (v := 2) hx hb dX5_cpu_38 (by decide) ?_
        refine lv_icmp_ne (pc := 39) (tgt := 51) hx hb dX5_cpu_39 (by decide) (fun h4 => ?_) (fun h4 => ?_)
        · have hg := hg.2 h4
          refine lv_iload_n (pc := 51) hx hb dX5_cpu_51 rfl (lv_at hl 2 rfl) ?_
          refine lv_iconst (pc := 52) (v := 3) hx hb dX5_cpu_52 (by decide) ?_
          refine lv_icmp_ne (pc := 53) (tgt := 65) hx hb dX5_cpu_53 (by decide) (fun h5 => ?_) (fun h5 => ?_)
          · have hg := hg.2 h5
            refine lv_iload_n (pc := 65) hx hb dX5_cpu_65 rfl (lv_at hl 2 rfl) ?_
            refine lv_iconst (pc := 66) (v := 4) hx hb dX5_cpu_66 (by decide) ?_
            refine lv_icmp_ne (pc := 67) (tgt := 79) hx hb dX5_cpu_67 (by decide) (fun h6 => ?_) (fun h6 => ?_)
            · have hg := hg.2 h6
              refine lv_iconst (pc := 79) (v := (-1)) hx hb dX5_cpu_79 (by decide) ?_
              exact wk_iret (pc := 80) X hH hS hr hlocks (by rw [mr_X5_cpu, if_neg h1, if_neg h2, if_neg h3, if_neg h4, if_neg h5, if_neg h6]) (rfl) dX5_cpu_80
            · have hg := hg.1 h6
              refine lv_aload_n (pc := 70) hx hb dX5_cpu_70 rfl (lv_at hl 0 rfl) ?_
              refine wk_getr (pc := 71) X hH (20, 0, 0) 13 (28, 0, 0) (rf_20 hSh) rfl (by decide) rfl inX5 fl_X5_31 dX5_cpu_71 ?_
              refine lv_iload_n (pc := 74) hx hb dX5_cpu_74 rfl (lv_at hl 1 rfl) ?_
              obtain ⟨o7, hg⟩ := hg
              refine wk_iald (pc := 75) X hH (28, 0, 0) (rf_28 hSh) o7 dX5_cpu_75 ?_
              refine lv_goto (pc := 76) (tgt := 80) hx hb dX5_cpu_76 (by decide) ?_
              exact wk_iret (pc := 80) X hH hS hr hlocks (by rw [mr_X5_cpu, if_neg h1, if_neg h2, if_neg h3, if_neg h4, if_neg h5, if_pos h6]) (rfl) dX5_cpu_80
          · have hg := hg.1 h5
            refine lv_aload_n (pc := 56) hx hb dX5_cpu_56 rfl (lv_at hl 0 rfl) ?_
            refine wk_getr (pc := 57) X hH (20, 0, 0) 12 (27, 0, 0) (rf_20 hSh) rfl (by decide) rfl inX5 fl_X5_28 dX5_cpu_57 ?_
            refine lv_iload_n (pc := 60) hx hb dX5_cpu_60 rfl (lv_at hl 1 rfl) ?_
            obtain ⟨o8, hg⟩ := hg
            refine wk_iald (pc := 61) X hH (27, 0, 0) (rf_27 hSh) o8 dX5_cpu_61 ?_
            refine lv_goto (pc := 62) (tgt := 80) hx hb dX5_cpu_62 (by decide) ?_
            exact wk_iret (pc := 80) X hH hS hr hlocks (by rw [mr_X5_cpu, if_neg h1, if_neg h2, if_neg h3, if_neg h4, if_pos h5]) (rfl) dX5_cpu_80
        · have hg := hg.1 h4
          refine lv_aload_n (pc := 42) hx hb dX5_cpu_42 rfl (lv_at hl 0 rfl) ?_
          refine wk_getr (pc := 43) X hH (20, 0, 0) 11 (26, 0, 0) (rf_20 hSh) rfl (by decide) rfl inX5 fl_X5_25 dX5_cpu_43 ?_
          refine lv_iload_n (pc := 46) hx hb dX5_cpu_46 rfl (lv_at hl 1 rfl) ?_
          obtain ⟨o9, hg⟩ := hg
          refine wk_iald (pc := 47) X hH (26, 0, 0) (rf_26 hSh) o9 dX5_cpu_47 ?_
          refine lv_goto (pc := 48) (tgt := 80) hx hb dX5_cpu_48 (by decide) ?_
          exact wk_iret (pc := 80) X hH hS hr hlocks (by rw [mr_X5_cpu, if_neg h1, if_neg h2, if_neg h3, if_pos h4]) (rfl) dX5_cpu_80
      · have hg := hg.1 h3
        refine lv_aload_n (pc := 28) hx hb dX5_cpu_28 rfl (lv_at hl 0 rfl) ?_
        refine wk_getr (pc := 29) X hH (20, 0, 0) 10 (25, 0, 0) (rf_20 hSh) rfl (by decide) rfl inX5 fl_X5_22 dX5_cpu_29 ?_
        refine lv_iload_n (pc := 32) hx hb dX5_cpu_32 rfl (lv_at hl 1 rfl) ?_
        obtain ⟨o10, hg⟩ := hg
        refine wk_iald (pc := 33) X hH (25, 0, 0) (rf_25 hSh) o10 dX5_cpu_33 ?_
        refine lv_goto (pc := 34) (tgt := 80) hx hb dX5_cpu_34 (by decide) ?_
        exact wk_iret (pc := 80) X hH hS hr hlocks (by rw [mr_X5_cpu, if_neg h1, if_neg h2, if_pos h3]) (rfl) dX5_cpu_80
    · have hg := hg.1 h2
      refine lv_aload_n (pc := 14) hx hb dX5_cpu_14 rfl (lv_at hl 0 rfl) ?_
      refine wk_getr (pc := 15) X hH (20, 0, 0) 9 (24, 0, 0) (rf_20 hSh) rfl (by decide) rfl inX5 fl_X5_19 dX5_cpu_15 ?_
      refine lv_iload_n (pc := 18) hx hb dX5_cpu_18 rfl (lv_at hl 1 rfl) ?_
      obtain ⟨o11, hg⟩ := hg
      refine wk_iald (pc := 19) X hH (24, 0, 0) (rf_24 hSh) o11 dX5_cpu_19 ?_
      refine lv_goto (pc := 20) (tgt := 80) hx hb dX5_cpu_20 (by decide) ?_
      exact wk_iret (pc := 80) X hH hS hr hlocks (by rw [mr_X5_cpu, if_neg h1, if_pos h2]) (rfl) dX5_cpu_80
  · have hg := hg.1 h1
    refine lv_iconst (pc := 8) (v := (-1)) hx hb dX5_cpu_8 (by decide) ?_
    exact wk_iret (pc := 9) X hH hS hr hlocks (by rw [mr_X5_cpu, if_pos h1]) (rfl) dX5_cpu_9

def mr_X5_done (P : Nat → Nat) (sg : wk_Sg) (a1 : Int32) (a2 : Int32) : Int32 := 1
def ms_X5_done (P : Nat → Nat) (sg : wk_Sg) (a1 : Int32) (a2 : Int32) : wk_Sg := (wk_up (wk_up sg (24, 0, 0) (Int32.toNatClampNeg a1) a2) (26, 0, 0) (Int32.toNatClampNeg a1) (((wk_up sg (24, 0, 0) (Int32.toNatClampNeg a1) a2) (26, 0, 0) (Int32.toNatClampNeg a1)) + (1 : Int32)))
def mg_X5_done (P : Nat → Nat) (sg : wk_Sg) (a1 : Int32) (a2 : Int32) : Prop := (vp_in a1 4 ∧ (vp_in a1 4 ∧ (vp_in a1 4 ∧ True)))
set_option maxHeartbeats 4000000 in
set_option maxRecDepth 100000 in
theorem mk_X5_done {l : Launch} {D : va_G} {T : wk_T} {z0 : Nat} {ad : wk_K3 → Nat} {sh : wk_Sh} {P : Nat → Nat} (hSh : rf_Sh T sh) (sg : wk_Sg) (a1 : Int32) (a2 : Int32)  (hg : mg_X5_done P sg a1 a2) : wk_Mi l yX5_done cX5_done 3 (some .int) 0 0 D T z0 ad sh [.ref (ad (20, 0, 0)), .int a1, .int a2] sg (mr_X5_done P sg a1 a2) (ms_X5_done P sg a1 a2) := by
  refine Met.ofW (cc := cX5_done) (maxL := 3) (ret := (some .int)) (by decide) rfl ?_
  intro p e s m args below meth c s₁ B hml hv
  obtain ⟨rfl, hz, hH, hK⟩ := hv
  have hx := B.exec
  have hb := B.bytes
  have hr := B.returns
  have hlocks := B.notSynchronized
  have hts : ∀ w ∈ wk_B, w.before _ s = true := fun w hw => atoms_spec (ws := Cond.code yX5_done cX5_done 3 (some .int) :: wk_B) B.pre w (List.mem_cons_of_mem _ hw)
  have X : wk_C p m c cX5_done 3 s _ RX5 D T := ⟨⟨hx, hb, hml, findClass_of_methodNamed B.named, hts⟩, hK⟩
  have hS : va_S (wk_A z0) s.heap s.heap [] := va_S.rf
  have hl := lv_entry ([.ref (ad (20, 0, 0)), .int a1, .int a2]) (n := 3) (Nat.le_of_ble_eq_true rfl)
  rw [lg_entry_eq]
  generalize (lg_sl ([.ref (ad (20, 0, 0)), .int a1, .int a2]) ++ List.replicate (3 - (lg_sl ([.ref (ad (20, 0, 0)), .int a1, .int a2])).length) Slot.unset).toArray = ls at hl ⊢
  have hl : lv_has ls 3 [(0, .ref (ad (20, 0, 0))), (1, .int a1), (2, .int a2)] := hl
  unfold mg_X5_done at hg
  refine lv_aload_n (pc := 0) hx hb dX5_done_0 rfl (lv_at hl 0 rfl) ?_
  refine wk_getr (pc := 1) X hH (20, 0, 0) 9 (24, 0, 0) (rf_20 hSh) rfl (by decide) rfl inX5 fl_X5_19 dX5_done_1 ?_
  refine lv_iload_n (pc := 4) hx hb dX5_done_4 rfl (lv_at hl 1 rfl) ?_
  refine lv_iload_n (pc := 5) hx hb dX5_done_5 rfl (lv_at hl 2 rfl) ?_
  obtain ⟨o1, hg⟩ := hg
  refine wk_iast (pc := 6) X hH hS (24, 0, 0) (rf_24 hSh) o1 dX5_done_6 (fun H locs hH hS => ?_)
  refine lv_aload_n (pc := 7) hx hb dX5_done_7 rfl (lv_at hl 0 rfl) ?_
  refine wk_getr (pc := 8) X hH (20, 0, 0) 11 (26, 0, 0) (rf_20 hSh) rfl (by decide) rfl inX5 fl_X5_25 dX5_done_8 ?_
  refine lv_iload_n (pc := 11) hx hb dX5_done_11 rfl (lv_at hl 1 rfl) ?_
  refine lv_dup2_11 (pc := 12) hx hb dX5_done_12 rfl rfl ?_
  obtain ⟨o2, hg⟩ := hg
  refine wk_iald (pc := 13) X hH (26, 0, 0) (rf_26 hSh) o2 dX5_done_13 ?_
  refine lv_iconst (pc := 14) (v := 1) hx hb dX5_done_14 (by decide) ?_
  refine lv_iadd (pc := 15) hx hb dX5_done_15 ?_
  obtain ⟨o3, hg⟩ := hg
  refine wk_iast (pc := 16) X hH hS (26, 0, 0) (rf_26 hSh) o3 dX5_done_16 (fun H locs hH hS => ?_)
  refine lv_iconst (pc := 17) (v := 1) hx hb dX5_done_17 (by decide) ?_
  exact wk_iret (pc := 18) X hH hS hr hlocks (by rw [mr_X5_done]) (by rw [ms_X5_done]) dX5_done_18

def mr_X5_evict (P : Nat → Nat) (sg : wk_Sg) (a1 : Int32) (a2 : Int32) : Int32 := (if (mr_X5_isCpu P sg a1) = 0 then (-1) else (if a2 < 0 then (-1) else (if a2 < (sg (20, 0, 0) 1) then (if (sg (20, 0, 0) 17) ≤ 0 then (if (sg (29, 0, 0) (Int32.toNatClampNeg (((8 : Int32) * a1) + a2))) = 0 then 0 else (if (mr_X5_isDirty P sg (sg (29, 0, 0) (Int32.toNatClampNeg (((8 : Int32) * a1) + a2)))) = 0 then 1 else 1)) else (if (sg (20, 0, 0) 18) = a1 then (if ((sg (20, 0, 0) 20) - (sg (20, 0, 0) 20) / (sg (20, 0, 0) 1) * (sg (20, 0, 0) 1)) = a2 then 2 else (if (sg (20, 0, 0) 20) = (sg (30, 0, 0) (Int32.toNatClampNeg (((8 : Int32) * a1) + a2))) then 2 else (if (sg (29, 0, 0) (Int32.toNatClampNeg (((8 : Int32) * a1) + a2))) = 0 then 0 else (if (mr_X5_isDirty P sg (sg (29, 0, 0) (Int32.toNatClampNeg (((8 : Int32) * a1) + a2)))) = 0 then 1 else 1)))) else (if (sg (20, 0, 0) 20) = (sg (30, 0, 0) (Int32.toNatClampNeg (((8 : Int32) * a1) + a2))) then 2 else (if (sg (29, 0, 0) (Int32.toNatClampNeg (((8 : Int32) * a1) + a2))) = 0 then 0 else (if (mr_X5_isDirty P sg (sg (29, 0, 0) (Int32.toNatClampNeg (((8 : Int32) * a1) + a2)))) = 0 then 1 else 1))))) else (-1))))
def ms_X5_evict (P : Nat → Nat) (sg : wk_Sg) (a1 : Int32) (a2 : Int32) : wk_Sg := (if (mr_X5_isCpu P sg a1) = 0 then sg else (if a2 < 0 then sg else (if a2 < (sg (20, 0, 0) 1) then (if (sg (20, 0, 0) 17) ≤ 0 then (if (sg (29, 0, 0) (Int32.toNatClampNeg (((8 : Int32) * a1) + a2))) = 0 then sg else (if (mr_X5_isDirty P sg (sg (29, 0, 0) (Int32.toNatClampNeg (((8 : Int32) * a1) + a2)))) = 0 then (ms_X5_empty P sg (((8 : Int32) * a1) + a2)) else (ms_X5_empty P (ms_X5_writeBack P sg (((8 : Int32) * a1) + a2)) (((8 : Int32) * a1) + a2)))) else (if (sg (20, 0, 0) 18) = a1 then (if ((sg (20, 0, 0) 20) - (sg (20, 0, 0) 20) / (sg (20, 0, 0) 1) * (sg (20, 0, 0) 1)) = a2 then sg else (if (sg (20, 0, 0) 20) = (sg (30, 0, 0) (Int32.toNatClampNeg (((8 : Int32) * a1) + a2))) then sg else (if (sg (29, 0, 0) (Int32.toNatClampNeg (((8 : Int32) * a1) + a2))) = 0 then sg else (if (mr_X5_isDirty P sg (sg (29, 0, 0) (Int32.toNatClampNeg (((8 : Int32) * a1) + a2)))) = 0 then (ms_X5_empty P sg (((8 : Int32) * a1) + a2)) else (ms_X5_empty P (ms_X5_writeBack P sg (((8 : Int32) * a1) + a2)) (((8 : Int32) * a1) + a2)))))) else (if (sg (20, 0, 0) 20) = (sg (30, 0, 0) (Int32.toNatClampNeg (((8 : Int32) * a1) + a2))) then sg else (if (sg (29, 0, 0) (Int32.toNatClampNeg (((8 : Int32) * a1) + a2))) = 0 then sg else (if (mr_X5_isDirty P sg (sg (29, 0, 0) (Int32.toNatClampNeg (((8 : Int32) * a1) + a2)))) = 0 then (ms_X5_empty P sg (((8 : Int32) * a1) + a2)) else (ms_X5_empty P (ms_X5_writeBack P sg (((8 : Int32) * a1) + a2)) (((8 : Int32) * a1) + a2))))))) else sg)))
def mg_X5_evict (P : Nat → Nat) (sg : wk_Sg) (a1 : Int32) (a2 : Int32) : Prop := (((mr_X5_isCpu P sg a1) = 0 → True) ∧ (¬ (mr_X5_isCpu P sg a1) = 0 → ((a2 < 0 → True) ∧ (¬ a2 < 0 → ((a2 < (sg (20, 0, 0) 1) → (((sg (20, 0, 0) 17) ≤ 0 → (vp_in (((8 : Int32) * a1) + a2) 32 ∧ (((sg (29, 0, 0) (Int32.toNatClampNeg (((8 : Int32) * a1) + a2))) = 0 → True) ∧ (¬ (sg (29, 0, 0) (Int32.toNatClampNeg (((8 : Int32) * a1) + a2))) = 0 → (vp_in (((8 : Int32) * a1) + a2) 32 ∧ (((mr_X5_isDirty P sg (sg (29, 0, 0) (Int32.toNatClampNeg (((8 : Int32) * a1) + a2)))) = 0 → (mg_X5_empty P sg (((8 : Int32) * a1) + a2) ∧ True)) ∧ (¬ (mr_X5_isDirty P sg (sg (29, 0, 0) (Int32.toNatClampNeg (((8 : Int32) * a1) + a2)))) = 0 → (mg_X5_writeBack P sg (((8 : Int32) * a1) + a2) ∧ (mg_X5_empty P (ms_X5_writeBack P sg (((8 : Int32) * a1) + a2)) (((8 : Int32) * a1) + a2) ∧ True))))))))) ∧ (¬ (sg (20, 0, 0) 17) ≤ 0 → (((sg (20, 0, 0) 18) = a1 → (¬ (sg (20, 0, 0) 1) = 0 ∧ ((((sg (20, 0, 0) 20) - (sg (20, 0, 0) 20) / (sg (20, 0, 0) 1) * (sg (20, 0, 0) 1)) = a2 → True) ∧ (¬ ((sg (20, 0, 0) 20) - (sg (20, 0, 0) 20) / (sg (20, 0, 0) 1) * (sg (20, 0, 0) 1)) = a2 → (vp_in (((8 : Int32) * a1) + a2) 32 ∧ (((sg (20, 0, 0) 20) = (sg (30, 0, 0) (Int32.toNatClampNeg (((8 : Int32) * a1) + a2))) → True) ∧ (¬ (sg (20, 0, 0) 20) = (sg (30, 0, 0) (Int32.toNatClampNeg (((8 : Int32) * a1) + a2))) → (vp_in (((8 : Int32) * a1) + a2) 32 ∧ (((sg (29, 0, 0) (Int32.toNatClampNeg (((8 : Int32) * a1) + a2))) = 0 → True) ∧ (¬ (sg (29, 0, 0) (Int32.toNatClampNeg (((8 : Int32) * a1) + a2))) = 0 → (vp_in (((8 : Int32) * a1) + a2) 32 ∧ (((mr_X5_isDirty P sg (sg (29, 0, 0) (Int32.toNatClampNeg (((8 : Int32) * a1) + a2)))) = 0 → (mg_X5_empty P sg (((8 : Int32) * a1) + a2) ∧ True)) ∧ (¬ (mr_X5_isDirty P sg (sg (29, 0, 0) (Int32.toNatClampNeg (((8 : Int32) * a1) + a2)))) = 0 → (mg_X5_writeBack P sg (((8 : Int32) * a1) + a2) ∧ (mg_X5_empty P (ms_X5_writeBack P sg (((8 : Int32) * a1) + a2)) (((8 : Int32) * a1) + a2) ∧ True))))))))))))))) ∧ (¬ (sg (20, 0, 0) 18) = a1 → (vp_in (((8 : Int32) * a1) + a2) 32 ∧ (((sg (20, 0, 0) 20) = (sg (30, 0, 0) (Int32.toNatClampNeg (((8 : Int32) * a1) + a2))) → True) ∧ (¬ (sg (20, 0, 0) 20) = (sg (30, 0, 0) (Int32.toNatClampNeg (((8 : Int32) * a1) + a2))) → (vp_in (((8 : Int32) * a1) + a2) 32 ∧ (((sg (29, 0, 0) (Int32.toNatClampNeg (((8 : Int32) * a1) + a2))) = 0 → True) ∧ (¬ (sg (29, 0, 0) (Int32.toNatClampNeg (((8 : Int32) * a1) + a2))) = 0 → (vp_in (((8 : Int32) * a1) + a2) 32 ∧ (((mr_X5_isDirty P sg (sg (29, 0, 0) (Int32.toNatClampNeg (((8 : Int32) * a1) + a2)))) = 0 → (mg_X5_empty P sg (((8 : Int32) * a1) + a2) ∧ True)) ∧ (¬ (mr_X5_isDirty P sg (sg (29, 0, 0) (Int32.toNatClampNeg (((8 : Int32) * a1) + a2)))) = 0 → (mg_X5_writeBack P sg (((8 : Int32) * a1) + a2) ∧ (mg_X5_empty P (ms_X5_writeBack P sg (((8 : Int32) * a1) + a2)) (((8 : Int32) * a1) + a2) ∧ True)))))))))))))))) ∧ (¬ a2 < (sg (20, 0, 0) 1) → True))))))
set_option maxHeartbeats 4000000 in
set_option maxRecDepth 100000 in
theorem mk_X5_evict {l : Launch} {D : va_G} {T : wk_T} {z0 : Nat} {ad : wk_K3 → Nat} {sh : wk_Sh} {P : Nat → Nat} (hSh : rf_Sh T sh) (sg : wk_Sg) (a1 : Int32) (a2 : Int32)  (hg : mg_X5_evict P sg a1 a2) : wk_Mi l yX5_evict cX5_evict 4 (some .int) 1 22 D T z0 ad sh [.ref (ad (20, 0, 0)), .int a1, .int a2] sg (mr_X5_evict P sg a1 a2) (ms_X5_evict P sg a1 a2) := by
  refine Met.ofW (cc := cX5_evict) (maxL := 4) (ret := (some .int)) (by decide) rfl ?_
  intro p e s m args below meth c s₁ B hml hv
  obtain ⟨rfl, hz, hH, hK⟩ := hv
  have hx := B.exec
  have hb := B.bytes
  have hr := B.returns
  have hlocks := B.notSynchronized
  have hts : ∀ w ∈ wk_B, w.before _ s = true := fun w hw => atoms_spec (ws := Cond.code yX5_evict cX5_evict 4 (some .int) :: wk_B) B.pre w (List.mem_cons_of_mem _ hw)
  have X : wk_C p m c cX5_evict 4 s _ RX5 D T := ⟨⟨hx, hb, hml, findClass_of_methodNamed B.named, hts⟩, hK⟩
  have hS : va_S (wk_A z0) s.heap s.heap [] := va_S.rf
  have hl := lv_entry ([.ref (ad (20, 0, 0)), .int a1, .int a2]) (n := 4) (Nat.le_of_ble_eq_true rfl)
  rw [lg_entry_eq]
  generalize (lg_sl ([.ref (ad (20, 0, 0)), .int a1, .int a2]) ++ List.replicate (4 - (lg_sl ([.ref (ad (20, 0, 0)), .int a1, .int a2])).length) Slot.unset).toArray = ls at hl ⊢
  have hl : lv_has ls 4 [(0, .ref (ad (20, 0, 0))), (1, .int a1), (2, .int a2)] := hl
  unfold mg_X5_evict at hg
  refine lv_aload_n (pc := 0) hx hb dX5_evict_0 rfl (lv_at hl 0 rfl) ?_
  refine lv_iload_n (pc := 1) hx hb dX5_evict_1 rfl (lv_at hl 1 rfl) ?_
  refine wk_ci (wk_rV (pc := 2) (As := [.int a1]) (rest := []) X hH hS hz (rf_20 hSh) rfl ok_X5_isCpu (mk_X5_isCpu (l := l) (P := P) hSh sg a1  ) ml_X5_75 ⟨by decide, by decide, by decide, by decide⟩ rfl hl.1 rfl (Nat.le_of_ble_eq_true rfl) dX5_evict_2) hS (fun H locs hH hS => ?_)
  refine lv_if_eq (pc := 5) (tgt := 20) hx hb dX5_evict_5 (by decide) (fun h1 => ?_) (fun h1 => ?_)
  · have hg := hg.1 h1
    refine lv_iconst (pc := 20) (v := (-1)) hx hb dX5_evict_20 (by decide) ?_
    exact wk_iret (pc := 21) X hH hS hr hlocks (by rw [mr_X5_evict, if_pos h1]) (by rw [ms_X5_evict, if_pos h1]) dX5_evict_21
  · have hg := hg.2 h1
    refine lv_iload_n (pc := 8) hx hb dX5_evict_8 rfl (lv_at hl 2 rfl) ?_
    refine lv_if_lt (pc := 9) (tgt := 20) hx hb dX5_evict_9 (by decide) (fun h2 => ?_) (fun h2 => ?_)
    · have hg := hg.1 h2
      refine lv_iconst (pc := 20) (v := (-1)) hx hb dX5_evict_20 (by decide) ?_
      exact wk_iret (pc := 21) X hH hS hr hlocks (by rw [mr_X5_evict, if_neg h1, if_pos h2]) (by rw [ms_X5_evict, if_neg h1, if_pos h2]) dX5_evict_21
    · have hg := hg.2 h2
      refine lv_iload_n (pc := 12) hx hb dX5_evict_12 rfl (lv_at hl 2 rfl) ?_
      refine lv_aload_n (pc := 13) hx hb dX5_evict_13 rfl (lv_at hl 0 rfl) ?_
      refine wk_geti (pc := 14) X hH (20, 0, 0) 1 (rf_20 hSh) rfl (by decide) rfl inX5 fl_X5_57 dX5_evict_14 ?_
      refine lv_icmp_lt (pc := 17) (tgt := 22) hx hb dX5_evict_17 (by decide) (fun h3 => ?_) (fun h3 => ?_)
      · have hg := hg.1 h3
        refine lv_bipush (pc := 22) (v := 8) hx hb dX5_evict_22 (by decide) ?_
        refine lv_iload_n (pc := 24) hx hb dX5_evict_24 rfl (lv_at hl 1 rfl) ?_
        refine lv_imul (pc := 25) hx hb dX5_evict_25 ?_
        refine lv_iload_n (pc := 26) hx hb dX5_evict_26 rfl (lv_at hl 2 rfl) ?_
        refine lv_iadd (pc := 27) hx hb dX5_evict_27 ?_
        refine lv_istore_n (pc := 28) (lv' := [(3, .int (((8 : Int32) * a1) + a2)), (0, .ref (ad (20, 0, 0))), (1, .int a1), (2, .int a2)]) hx hb dX5_evict_28 rfl hl (by decide) rfl (fun ls hl => ?_)
        refine lv_aload_n (pc := 29) hx hb dX5_evict_29 rfl (lv_at hl 1 rfl) ?_
        refine wk_geti (pc := 30) X hH (20, 0, 0) 17 (rf_20 hSh) rfl (by decide) rfl inX5 fl_X5_107 dX5_evict_30 ?_
        refine lv_if_le (pc := 33) (tgt := 72) hx hb dX5_evict_33 (by decide) (fun h4 => ?_) (fun h4 => ?_)
        · have hg := hg.1 h4
          refine lv_aload_n (pc := 72) hx hb dX5_evict_72 rfl (lv_at hl 1 rfl) ?_
          refine wk_getr (pc := 73) X hH (20, 0, 0) 14 (29, 0, 0) (rf_20 hSh) rfl (by decide) rfl inX5 fl_X5_34 dX5_evict_73 ?_
          refine lv_iload_n (pc := 76) hx hb dX5_evict_76 rfl (lv_at hl 0 rfl) ?_
          obtain ⟨o5, hg⟩ := hg
          refine wk_iald (pc := 77) X hH (29, 0, 0) (rf_29 hSh) o5 dX5_evict_77 ?_
          refine lv_if_ne (pc := 78) (tgt := 83) hx hb dX5_evict_78 (by decide) (fun h6 => ?_) (fun h6 => ?_)
          · have hg := hg.2 h6
            refine lv_aload_n (pc := 83) hx hb dX5_evict_83 rfl (lv_at hl 1 rfl) ?_
            refine wk_getr (pc := 84) X hH (20, 0, 0) 14 (29, 0, 0) (rf_20 hSh) rfl (by decide) rfl inX5 fl_X5_34 dX5_evict_84 ?_
            refine lv_iload_n (pc := 87) hx hb dX5_evict_87 rfl (lv_at hl 0 rfl) ?_
            obtain ⟨o7, hg⟩ := hg
            refine wk_iald (pc := 88) X hH (29, 0, 0) (rf_29 hSh) o7 dX5_evict_88 ?_
            refine wk_ci (wk_rS (pc := 89) (As := [.int (sg (29, 0, 0) (Int32.toNatClampNeg (((8 : Int32) * a1) + a2)))]) (rest := []) X hH hS hz ok_X5_isDirty (mk_X5_isDirty (l := l) (P := P)  sg (sg (29, 0, 0) (Int32.toNatClampNeg (((8 : Int32) * a1) + a2)))  ) ml_X5_118 ⟨by decide, by decide, by decide, by decide⟩ rfl hl.1 rfl (Nat.le_of_ble_eq_true rfl) dX5_evict_89) hS (fun H locs hH hS => ?_)
            refine lv_if_eq (pc := 92) (tgt := 100) hx hb dX5_evict_92 (by decide) (fun h8 => ?_) (fun h8 => ?_)
            · have hg := hg.1 h8
              refine lv_aload_n (pc := 100) hx hb dX5_evict_100 rfl (lv_at hl 1 rfl) ?_
              refine lv_iload_n (pc := 101) hx hb dX5_evict_101 rfl (lv_at hl 0 rfl) ?_
              obtain ⟨o9, hg⟩ := hg
              refine wk_cv (wk_rV (pc := 102) (As := [.int (((8 : Int32) * a1) + a2)]) (rest := []) X hH hS hz (rf_20 hSh) rfl ok_X5_empty (mk_X5_empty (l := l) (P := P) hSh sg (((8 : Int32) * a1) + a2)  o9) ml_X5_125 ⟨by decide, by decide, by decide, by decide⟩ rfl hl.1 rfl (Nat.le_of_ble_eq_true rfl) dX5_evict_102) hS (fun H locs hH hS => ?_)
              refine lv_iconst (pc := 105) (v := 1) hx hb dX5_evict_105 (by decide) ?_
              exact wk_iret (pc := 106) X hH hS hr hlocks (by rw [mr_X5_evict, if_neg h1, if_neg h2, if_pos h3, if_pos h4, if_neg h6, if_pos h8]) (by rw [ms_X5_evict, if_neg h1, if_neg h2, if_pos h3, if_pos h4, if_neg h6, if_pos h8]) dX5_evict_106
            · have hg := hg.2 h8
              refine lv_aload_n (pc := 95) hx hb dX5_evict_95 rfl (lv_at hl 1 rfl) ?_
              refine lv_iload_n (pc := 96) hx hb dX5_evict_96 rfl (lv_at hl 0 rfl) ?_
              obtain ⟨o10, hg⟩ := hg
              refine wk_cv (wk_rV (pc := 97) (As := [.int (((8 : Int32) * a1) + a2)]) (rest := []) X hH hS hz (rf_20 hSh) rfl ok_X5_writeBack (mk_X5_writeBack (l := l) (P := P) hSh sg (((8 : Int32) * a1) + a2)  o10) ml_X5_121 ⟨by decide, by decide, by decide, by decide⟩ rfl hl.1 rfl (Nat.le_of_ble_eq_true rfl) dX5_evict_97) hS (fun H locs hH hS => ?_)
              refine lv_aload_n (pc := 100) hx hb dX5_evict_100 rfl (lv_at hl 1 rfl) ?_
              refine lv_iload_n (pc := 101) hx hb dX5_evict_101 rfl (lv_at hl 0 rfl) ?_
              obtain ⟨o11, hg⟩ := hg
              refine wk_cv (wk_rV (pc := 102) (As := [.int (((8 : Int32) * a1) + a2)]) (rest := []) X hH hS hz (rf_20 hSh) rfl ok_X5_empty (mk_X5_empty (l := l) (P := P) hSh (ms_X5_writeBack P sg (((8 : Int32) * a1) + a2)) (((8 : Int32) * a1) + a2)  o11) ml_X5_125 ⟨by decide, by decide, by decide, by decide⟩ rfl hl.1 rfl (Nat.le_of_ble_eq_true rfl) dX5_evict_102) hS (fun H locs hH hS => ?_)
              refine lv_iconst (pc := 105) (v := 1) hx hb dX5_evict_105 (by decide) ?_
              exact wk_iret (pc := 106) X hH hS hr hlocks (by rw [mr_X5_evict, if_neg h1, if_neg h2, if_pos h3, if_pos h4, if_neg h6, if_neg h8]) (by rw [ms_X5_evict, if_neg h1, if_neg h2, if_pos h3, if_pos h4, if_neg h6, if_neg h8]) dX5_evict_106
          · have hg := hg.1 h6
            refine lv_iconst (pc := 81) (v := 0) hx hb dX5_evict_81 (by decide) ?_
            exact wk_iret (pc := 82) X hH hS hr hlocks (by rw [mr_X5_evict, if_neg h1, if_neg h2, if_pos h3, if_pos h4, if_pos h6]) (by rw [ms_X5_evict, if_neg h1, if_neg h2, if_pos h3, if_pos h4, if_pos h6]) dX5_evict_82
        · have hg := hg.2 h4
          refine lv_aload_n (pc := 36) hx hb dX5_evict_36 rfl (lv_at hl 1 rfl) ?_
          refine wk_geti (pc := 37) X hH (20, 0, 0) 18 (rf_20 hSh) rfl (by decide) rfl inX5 fl_X5_69 dX5_evict_37 ?_
          refine lv_iload_n (pc := 40) hx hb dX5_evict_40 rfl (lv_at hl 2 rfl) ?_
          refine lv_icmp_ne (pc := 41) (tgt := 57) hx hb dX5_evict_41 (by decide) (fun h12 => ?_) (fun h12 => ?_)
          · have hg := hg.2 h12
            refine lv_aload_n (pc := 57) hx hb dX5_evict_57 rfl (lv_at hl 1 rfl) ?_
            refine wk_geti (pc := 58) X hH (20, 0, 0) 20 (rf_20 hSh) rfl (by decide) rfl inX5 fl_X5_72 dX5_evict_58 ?_
            refine lv_aload_n (pc := 61) hx hb dX5_evict_61 rfl (lv_at hl 1 rfl) ?_
            refine wk_getr (pc := 62) X hH (20, 0, 0) 15 (30, 0, 0) (rf_20 hSh) rfl (by decide) rfl inX5 fl_X5_37 dX5_evict_62 ?_
            refine lv_iload_n (pc := 65) hx hb dX5_evict_65 rfl (lv_at hl 0 rfl) ?_
            obtain ⟨o13, hg⟩ := hg
            refine wk_iald (pc := 66) X hH (30, 0, 0) (rf_30 hSh) o13 dX5_evict_66 ?_
            refine lv_icmp_ne (pc := 67) (tgt := 72) hx hb dX5_evict_67 (by decide) (fun h14 => ?_) (fun h14 => ?_)
            · have hg := hg.2 h14
              refine lv_aload_n (pc := 72) hx hb dX5_evict_72 rfl (lv_at hl 1 rfl) ?_
              refine wk_getr (pc := 73) X hH (20, 0, 0) 14 (29, 0, 0) (rf_20 hSh) rfl (by decide) rfl inX5 fl_X5_34 dX5_evict_73 ?_
              refine lv_iload_n (pc := 76) hx hb dX5_evict_76 rfl (lv_at hl 0 rfl) ?_
              obtain ⟨o15, hg⟩ := hg
              refine wk_iald (pc := 77) X hH (29, 0, 0) (rf_29 hSh) o15 dX5_evict_77 ?_
              refine lv_if_ne (pc := 78) (tgt := 83) hx hb dX5_evict_78 (by decide) (fun h16 => ?_) (fun h16 => ?_)
              · have hg := hg.2 h16
                refine lv_aload_n (pc := 83) hx hb dX5_evict_83 rfl (lv_at hl 1 rfl) ?_
                refine wk_getr (pc := 84) X hH (20, 0, 0) 14 (29, 0, 0) (rf_20 hSh) rfl (by decide) rfl inX5 fl_X5_34 dX5_evict_84 ?_
                refine lv_iload_n (pc := 87) hx hb dX5_evict_87 rfl (lv_at hl 0 rfl) ?_
                obtain ⟨o17, hg⟩ := hg
                refine wk_iald (pc := 88) X hH (29, 0, 0) (rf_29 hSh) o17 dX5_evict_88 ?_
                refine wk_ci (wk_rS (pc := 89) (As := [.int (sg (29, 0, 0) (Int32.toNatClampNeg (((8 : Int32) * a1) + a2)))]) (rest := []) X hH hS hz ok_X5_isDirty (mk_X5_isDirty (l := l) (P := P)  sg (sg (29, 0, 0) (Int32.toNatClampNeg (((8 : Int32) * a1) + a2)))  ) ml_X5_118 ⟨by decide, by decide, by decide, by decide⟩ rfl hl.1 rfl (Nat.le_of_ble_eq_true rfl) dX5_evict_89) hS (fun H locs hH hS => ?_)
                refine lv_if_eq (pc := 92) (tgt := 100) hx hb dX5_evict_92 (by decide) (fun h18 => ?_) (fun h18 => ?_)
                · have hg := hg.1 h18
                  refine lv_aload_n (pc := 100) hx hb dX5_evict_100 rfl (lv_at hl 1 rfl) ?_
                  refine lv_iload_n (pc := 101) hx hb dX5_evict_101 rfl (lv_at hl 0 rfl) ?_
                  obtain ⟨o19, hg⟩ := hg
                  refine wk_cv (wk_rV (pc := 102) (As := [.int (((8 : Int32) * a1) + a2)]) (rest := []) X hH hS hz (rf_20 hSh) rfl ok_X5_empty (mk_X5_empty (l := l) (P := P) hSh sg (((8 : Int32) * a1) + a2)  o19) ml_X5_125 ⟨by decide, by decide, by decide, by decide⟩ rfl hl.1 rfl (Nat.le_of_ble_eq_true rfl) dX5_evict_102) hS (fun H locs hH hS => ?_)
                  refine lv_iconst (pc := 105) (v := 1) hx hb dX5_evict_105 (by decide) ?_
                  exact wk_iret (pc := 106) X hH hS hr hlocks (by rw [mr_X5_evict, if_neg h1, if_neg h2, if_pos h3, if_neg h4, if_neg h12, if_neg h14, if_neg h16, if_pos h18]) (by rw [ms_X5_evict, if_neg h1, if_neg h2, if_pos h3, if_neg h4, if_neg h12, if_neg h14, if_neg h16, if_pos h18]) dX5_evict_106
                · have hg := hg.2 h18
                  refine lv_aload_n (pc := 95) hx hb dX5_evict_95 rfl (lv_at hl 1 rfl) ?_
                  refine lv_iload_n (pc := 96) hx hb dX5_evict_96 rfl (lv_at hl 0 rfl) ?_
                  obtain ⟨o20, hg⟩ := hg
                  refine wk_cv (wk_rV (pc := 97) (As := [.int (((8 : Int32) * a1) + a2)]) (rest := []) X hH hS hz (rf_20 hSh) rfl ok_X5_writeBack (mk_X5_writeBack (l := l) (P := P) hSh sg (((8 : Int32) * a1) + a2)  o20) ml_X5_121 ⟨by decide, by decide, by decide, by decide⟩ rfl hl.1 rfl (Nat.le_of_ble_eq_true rfl) dX5_evict_97) hS (fun H locs hH hS => ?_)
                  refine lv_aload_n (pc := 100) hx hb dX5_evict_100 rfl (lv_at hl 1 rfl) ?_
                  refine lv_iload_n (pc := 101) hx hb dX5_evict_101 rfl (lv_at hl 0 rfl) ?_
                  obtain ⟨o21, hg⟩ := hg
                  refine wk_cv (wk_rV (pc := 102) (As := [.int (((8 : Int32) * a1) + a2)]) (rest := []) X hH hS hz (rf_20 hSh) rfl ok_X5_empty (mk_X5_empty (l := l) (P := P) hSh (ms_X5_writeBack P sg (((8 : Int32) * a1) + a2)) (((8 : Int32) * a1) + a2)  o21) ml_X5_125 ⟨by decide, by decide, by decide, by decide⟩ rfl hl.1 rfl (Nat.le_of_ble_eq_true rfl) dX5_evict_102) hS (fun H locs hH hS => ?_)
                  refine lv_iconst (pc := 105) (v := 1) hx hb dX5_evict_105 (by decide) ?_
                  exact wk_iret (pc := 106) X hH hS hr hlocks (by rw [mr_X5_evict, if_neg h1, if_neg h2, if_pos h3, if_neg h4, if_neg h12, if_neg h14, if_neg h16, if_neg h18]) (by rw [ms_X5_evict, if_neg h1, if_neg h2, if_pos h3, if_neg h4, if_neg h12, if_neg h14, if_neg h16, if_neg h18]) dX5_evict_106
              · have hg := hg.1 h16
                refine lv_iconst (pc := 81) (v := 0) hx hb dX5_evict_81 (by decide) ?_
                exact wk_iret (pc := 82) X hH hS hr hlocks (by rw [mr_X5_evict, if_neg h1, if_neg h2, if_pos h3, if_neg h4, if_neg h12, if_neg h14, if_pos h16]) (by rw [ms_X5_evict, if_neg h1, if_neg h2, if_pos h3, if_neg h4, if_neg h12, if_neg h14, if_pos h16]) dX5_evict_82
            · have hg := hg.1 h14
              refine lv_iconst (pc := 70) (v := 2) hx hb dX5_evict_70 (by decide) ?_
              exact wk_iret (pc := 71) X hH hS hr hlocks (by rw [mr_X5_evict, if_neg h1, if_neg h2, if_pos h3, if_neg h4, if_neg h12, if_pos h14]) (by rw [ms_X5_evict, if_neg h1, if_neg h2, if_pos h3, if_neg h4, if_neg h12, if_pos h14]) dX5_evict_71
          · have hg := hg.1 h12
            refine lv_aload_n (pc := 44) hx hb dX5_evict_44 rfl (lv_at hl 1 rfl) ?_
            refine wk_geti (pc := 45) X hH (20, 0, 0) 20 (rf_20 hSh) rfl (by decide) rfl inX5 fl_X5_72 dX5_evict_45 ?_
            refine lv_aload_n (pc := 48) hx hb dX5_evict_48 rfl (lv_at hl 1 rfl) ?_
            refine wk_geti (pc := 49) X hH (20, 0, 0) 1 (rf_20 hSh) rfl (by decide) rfl inX5 fl_X5_57 dX5_evict_49 ?_
            obtain ⟨o22, hg⟩ := hg
            refine lv_irem (pc := 52) hx hb dX5_evict_52 o22 ?_
            refine lv_iload_n (pc := 53) hx hb dX5_evict_53 rfl (lv_at hl 3 rfl) ?_
            refine lv_icmp_eq (pc := 54) (tgt := 70) hx hb dX5_evict_54 (by decide) (fun h23 => ?_) (fun h23 => ?_)
            · have hg := hg.1 h23
              refine lv_iconst (pc := 70) (v := 2) hx hb dX5_evict_70 (by decide) ?_
              exact wk_iret (pc := 71) X hH hS hr hlocks (by rw [mr_X5_evict, if_neg h1, if_neg h2, if_pos h3, if_neg h4, if_pos h12, if_pos h23]) (by rw [ms_X5_evict, if_neg h1, if_neg h2, if_pos h3, if_neg h4, if_pos h12, if_pos h23]) dX5_evict_71
            · have hg := hg.2 h23
              refine lv_aload_n (pc := 57) hx hb dX5_evict_57 rfl (lv_at hl 1 rfl) ?_
              refine wk_geti (pc := 58) X hH (20, 0, 0) 20 (rf_20 hSh) rfl (by decide) rfl inX5 fl_X5_72 dX5_evict_58 ?_
              refine lv_aload_n (pc := 61) hx hb dX5_evict_61 rfl (lv_at hl 1 rfl) ?_
              refine wk_getr (pc := 62) X hH (20, 0, 0) 15 (30, 0, 0) (rf_20 hSh) rfl (by decide) rfl inX5 fl_X5_37 dX5_evict_62 ?_
              refine lv_iload_n (pc := 65) hx hb dX5_evict_65 rfl (lv_at hl 0 rfl) ?_
              obtain ⟨o24, hg⟩ := hg
              refine wk_iald (pc := 66) X hH (30, 0, 0) (rf_30 hSh) o24 dX5_evict_66 ?_
              refine lv_icmp_ne (pc := 67) (tgt := 72) hx hb dX5_evict_67 (by decide) (fun h25 => ?_) (fun h25 => ?_)
              · have hg := hg.2 h25
                refine lv_aload_n (pc := 72) hx hb dX5_evict_72 rfl (lv_at hl 1 rfl) ?_
                refine wk_getr (pc := 73) X hH (20, 0, 0) 14 (29, 0, 0) (rf_20 hSh) rfl (by decide) rfl inX5 fl_X5_34 dX5_evict_73 ?_
                refine lv_iload_n (pc := 76) hx hb dX5_evict_76 rfl (lv_at hl 0 rfl) ?_
                obtain ⟨o26, hg⟩ := hg
                refine wk_iald (pc := 77) X hH (29, 0, 0) (rf_29 hSh) o26 dX5_evict_77 ?_
                refine lv_if_ne (pc := 78) (tgt := 83) hx hb dX5_evict_78 (by decide) (fun h27 => ?_) (fun h27 => ?_)
                · have hg := hg.2 h27
                  refine lv_aload_n (pc := 83) hx hb dX5_evict_83 rfl (lv_at hl 1 rfl) ?_
                  refine wk_getr (pc := 84) X hH (20, 0, 0) 14 (29, 0, 0) (rf_20 hSh) rfl (by decide) rfl inX5 fl_X5_34 dX5_evict_84 ?_
                  refine lv_iload_n (pc := 87) hx hb dX5_evict_87 rfl (lv_at hl 0 rfl) ?_
                  obtain ⟨o28, hg⟩ := hg
                  refine wk_iald (pc := 88) X hH (29, 0, 0) (rf_29 hSh) o28 dX5_evict_88 ?_
                  refine wk_ci (wk_rS (pc := 89) (As := [.int (sg (29, 0, 0) (Int32.toNatClampNeg (((8 : Int32) * a1) + a2)))]) (rest := []) X hH hS hz ok_X5_isDirty (mk_X5_isDirty (l := l) (P := P)  sg (sg (29, 0, 0) (Int32.toNatClampNeg (((8 : Int32) * a1) + a2)))  ) ml_X5_118 ⟨by decide, by decide, by decide, by decide⟩ rfl hl.1 rfl (Nat.le_of_ble_eq_true rfl) dX5_evict_89) hS (fun H locs hH hS => ?_)
                  refine lv_if_eq (pc := 92) (tgt := 100) hx hb dX5_evict_92 (by decide) (fun h29 => ?_) (fun h29 => ?_)
                  · have hg := hg.1 h29
                    refine lv_aload_n (pc := 100) hx hb dX5_evict_100 rfl (lv_at hl 1 rfl) ?_
                    refine lv_iload_n (pc := 101) hx hb dX5_evict_101 rfl (lv_at hl 0 rfl) ?_
                    obtain ⟨o30, hg⟩ := hg
                    refine wk_cv (wk_rV (pc := 102) (As := [.int (((8 : Int32) * a1) + a2)]) (rest := []) X hH hS hz (rf_20 hSh) rfl ok_X5_empty (mk_X5_empty (l := l) (P := P) hSh sg (((8 : Int32) * a1) + a2)  o30) ml_X5_125 ⟨by decide, by decide, by decide, by decide⟩ rfl hl.1 rfl (Nat.le_of_ble_eq_true rfl) dX5_evict_102) hS (fun H locs hH hS => ?_)
                    refine lv_iconst (pc := 105) (v := 1) hx hb dX5_evict_105 (by decide) ?_
                    exact wk_iret (pc := 106) X hH hS hr hlocks (by rw [mr_X5_evict, if_neg h1, if_neg h2, if_pos h3, if_neg h4, if_pos h12, if_neg h23, if_neg h25, if_neg h27, if_pos h29]) (by rw [ms_X5_evict, if_neg h1, if_neg h2, if_pos h3, if_neg h4, if_pos h12, if_neg h23, if_neg h25, if_neg h27, if_pos h29]) dX5_evict_106
                  · have hg := hg.2 h29
                    refine lv_aload_n (pc := 95) hx hb dX5_evict_95 rfl (lv_at hl 1 rfl) ?_
                    refine lv_iload_n (pc := 96) hx hb dX5_evict_96 rfl (lv_at hl 0 rfl) ?_
                    obtain ⟨o31, hg⟩ := hg
                    refine wk_cv (wk_rV (pc := 97) (As := [.int (((8 : Int32) * a1) + a2)]) (rest := []) X hH hS hz (rf_20 hSh) rfl ok_X5_writeBack (mk_X5_writeBack (l := l) (P := P) hSh sg (((8 : Int32) * a1) + a2)  o31) ml_X5_121 ⟨by decide, by decide, by decide, by decide⟩ rfl hl.1 rfl (Nat.le_of_ble_eq_true rfl) dX5_evict_97) hS (fun H locs hH hS => ?_)
                    refine lv_aload_n (pc := 100) hx hb dX5_evict_100 rfl (lv_at hl 1 rfl) ?_
                    refine lv_iload_n (pc := 101) hx hb dX5_evict_101 rfl (lv_at hl 0 rfl) ?_
                    obtain ⟨o32, hg⟩ := hg
                    refine wk_cv (wk_rV (pc := 102) (As := [.int (((8 : Int32) * a1) + a2)]) (rest := []) X hH hS hz (rf_20 hSh) rfl ok_X5_empty (mk_X5_empty (l := l) (P := P) hSh (ms_X5_writeBack P sg (((8 : Int32) * a1) + a2)) (((8 : Int32) * a1) + a2)  o32) ml_X5_125 ⟨by decide, by decide, by decide, by decide⟩ rfl hl.1 rfl (Nat.le_of_ble_eq_true rfl) dX5_evict_102) hS (fun H locs hH hS => ?_)
                    refine lv_iconst (pc := 105) (v := 1) hx hb dX5_evict_105 (by decide) ?_
                    exact wk_iret (pc := 106) X hH hS hr hlocks (by rw [mr_X5_evict, if_neg h1, if_neg h2, if_pos h3, if_neg h4, if_pos h12, if_neg h23, if_neg h25, if_neg h27, if_neg h29]) (by rw [ms_X5_evict, if_neg h1, if_neg h2, if_pos h3, if_neg h4, if_pos h12, if_neg h23, if_neg h25, if_neg h27, if_neg h29]) dX5_evict_106
                · have hg := hg.1 h27
                  refine lv_iconst (pc := 81) (v := 0) hx hb dX5_evict_81 (by decide) ?_
                  exact wk_iret (pc := 82) X hH hS hr hlocks (by rw [mr_X5_evict, if_neg h1, if_neg h2, if_pos h3, if_neg h4, if_pos h12, if_neg h23, if_neg h25, if_pos h27]) (by rw [ms_X5_evict, if_neg h1, if_neg h2, if_pos h3, if_neg h4, if_pos h12, if_neg h23, if_neg h25, if_pos h27]) dX5_evict_82
              · have hg := hg.1 h25
                refine lv_iconst (pc := 70) (v := 2) hx hb dX5_evict_70 (by decide) ?_
                exact wk_iret (pc := 71) X hH hS hr hlocks (by rw [mr_X5_evict, if_neg h1, if_neg h2, if_pos h3, if_neg h4, if_pos h12, if_neg h23, if_pos h25]) (by rw [ms_X5_evict, if_neg h1, if_neg h2, if_pos h3, if_neg h4, if_pos h12, if_neg h23, if_pos h25]) dX5_evict_71
      · have hg := hg.2 h3
        refine lv_iconst (pc := 20) (v := (-1)) hx hb dX5_evict_20 (by decide) ?_
        exact wk_iret (pc := 21) X hH hS hr hlocks (by rw [mr_X5_evict, if_neg h1, if_neg h2, if_neg h3]) (by rw [ms_X5_evict, if_neg h1, if_neg h2, if_neg h3]) dX5_evict_21
