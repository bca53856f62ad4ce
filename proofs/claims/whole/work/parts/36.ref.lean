def mr_X5_peek_L19 : Nat → (Nat → Nat) → wk_Sg → Int32 → Int32 → Int32 → Int32
  | 0, _, _, _, _, _ => 0
  | n + 1, P, sg, v1, v2, v3 => (if (sg (20, 0, 0) 0) ≤ v3 then v2 else (if (mr_X5_isDirty P sg (mr_X5_stateOf P sg v3 (v1 / (sg (20, 0, 0) 2)))) = 0 then (mr_X5_peek_L19 n P sg  v1 v2 (v3 + 1)) else (mr_X5_peek_L19 n P sg  v1 (sg (31, 0, 0) (Int32.toNatClampNeg (((4 : Int32) * (mr_X5_slotOf P sg v3 (v1 / (sg (20, 0, 0) 2)))) + (v1 - v1 / (sg (20, 0, 0) 2) * (sg (20, 0, 0) 2))))) (v3 + 1))))
def mg_X5_peek_L19 : Nat → (Nat → Nat) → wk_Sg → Int32 → Int32 → Int32 → Prop
  | 0, _, _, _, _, _ => False
  | n + 1, P, sg, v1, v2, v3 => (((sg (20, 0, 0) 0) ≤ v3 → True) ∧ (¬ (sg (20, 0, 0) 0) ≤ v3 → (¬ (sg (20, 0, 0) 2) = 0 ∧ (mg_X5_slotOf P sg v3 (v1 / (sg (20, 0, 0) 2)) ∧ (¬ (sg (20, 0, 0) 2) = 0 ∧ (mg_X5_stateOf P sg v3 (v1 / (sg (20, 0, 0) 2)) ∧ (((mr_X5_isDirty P sg (mr_X5_stateOf P sg v3 (v1 / (sg (20, 0, 0) 2)))) = 0 → mg_X5_peek_L19 n P sg  v1 v2 (v3 + 1)) ∧ (¬ (mr_X5_isDirty P sg (mr_X5_stateOf P sg v3 (v1 / (sg (20, 0, 0) 2)))) = 0 → (¬ (sg (20, 0, 0) 2) = 0 ∧ (vp_in (((4 : Int32) * (mr_X5_slotOf P sg v3 (v1 / (sg (20, 0, 0) 2)))) + (v1 - v1 / (sg (20, 0, 0) 2) * (sg (20, 0, 0) 2))) 128 ∧ mg_X5_peek_L19 n P sg  v1 (sg (31, 0, 0) (Int32.toNatClampNeg (((4 : Int32) * (mr_X5_slotOf P sg v3 (v1 / (sg (20, 0, 0) 2)))) + (v1 - v1 / (sg (20, 0, 0) 2) * (sg (20, 0, 0) 2))))) (v3 + 1)))))))))))
set_option maxHeartbeats 4000000 in
set_option maxRecDepth 100000 in
theorem mk_X5_peek_L19 {l : Launch} {D : va_G} {T : wk_T} {z0 : Nat} {ad : wk_K3 → Nat} {sh : wk_Sh} {P : Nat → Nat} (hSh : rf_Sh T sh)   {p : Program} {e : Env} {s : State} {m : MethodId} {args : Array Value} {below : List Frame} {meth : Method} {c : Code} (X : wk_C p m c cX5_peek 5 s args RX5 D T) (hz : z0 ≤ s.heap.size) (hr : meth.sig.returnType = some .int) (hlocks : meth.locks = false) :
    ∀ (n : Nat) (sg : wk_Sg) (v1 : Int32) (v2 : Int32) (v3 : Int32) (r0 : Int32), mr_X5_peek_L19 n P sg  v1 v2 v3 = r0 → mg_X5_peek_L19 n P sg  v1 v2 v3 → ∀ (ls : Array Slot) (H : Heap) (locs : List Loc), lv_has ls 5 [(0, .ref (ad (20, 0, 0))), (1, .int v1), (2, .int v2), (3, .int v3)] → wk_H D z0 ad sh sg H → va_S (wk_A z0) s.heap H locs → W p l e (wk_rm 2 45) s m args below meth c H locs 0 0 (MQ below (wk_Qi D z0 ad sh r0 sg) args s 0 0 (wk_A z0)) (F0 m 19 ls []) := by
  have hx := X.1.1
  have hb := X.1.2.1
  have hts := X.1.2.2.2.2
  intro n
  induction n with
  | zero =>
    intro sg v1 v2 v3 r0 hr0 hg ls H locs hl hH hS
    exact (show False from hg).elim
  | succ n ih =>
    intro sg v1 v2 v3 r0 hr0 hg ls H locs hl hH hS
    rw [mg_X5_peek_L19] at hg
    refine lv_iload_n (pc := 19) hx hb dX5_peek_19 rfl (lv_at hl 3 rfl) ?_
    refine lv_aload_n (pc := 20) hx hb dX5_peek_20 rfl (lv_at hl 0 rfl) ?_
    refine wk_geti (pc := 21) X hH (20, 0, 0) 0 (rf_20 hSh) rfl (by decide) rfl inX5 fl_X5_53 dX5_peek_21 ?_
    refine lv_icmp_ge (pc := 24) (tgt := 84) hx hb dX5_peek_24 (by decide) (fun h3 => ?_) (fun h3 => ?_)
    · have hg := hg.1 h3
      refine lv_iload_n (pc := 84) hx hb dX5_peek_84 rfl (lv_at hl 2 rfl) ?_
      exact wk_iret (pc := 85) X hH hS hr hlocks (by rw [← hr0, mr_X5_peek_L19, if_pos h3]) (rfl) dX5_peek_85
    · have hg := hg.2 h3
      refine lv_aload_n (pc := 27) hx hb dX5_peek_27 rfl (lv_at hl 0 rfl) ?_
      refine lv_iload_n (pc := 28) hx hb dX5_peek_28 rfl (lv_at hl 3 rfl) ?_
      refine lv_iload_n (pc := 29) hx hb dX5_peek_29 rfl (lv_at hl 1 rfl) ?_
      refine lv_aload_n (pc := 30) hx hb dX5_peek_30 rfl (lv_at hl 0 rfl) ?_
      refine wk_geti (pc := 31) X hH (20, 0, 0) 2 (rf_20 hSh) rfl (by decide) rfl inX5 fl_X5_60 dX5_peek_31 ?_
      obtain ⟨o4, hg⟩ := hg
      refine lv_idiv (pc := 34) hx hb dX5_peek_34 o4 ?_
      obtain ⟨o5, hg⟩ := hg
      refine wk_ci (wk_rV (pc := 35) (As := [.int v3, .int (v1 / (sg (20, 0, 0) 2))]) (rest := []) X hH hS hz (rf_20 hSh) rfl ok_X5_slotOf (mk_X5_slotOf (l := l) (P := P) hSh sg v3 (v1 / (sg (20, 0, 0) 2))  o5) ml_X5_86 ⟨by decide, by decide, by decide, by decide⟩ rfl hl.1 rfl (Nat.le_of_ble_eq_true rfl) dX5_peek_35) hS (fun H locs hH hS => ?_)
      refine lv_istore (pc := 38) (lv' := [(4, .int (mr_X5_slotOf P sg v3 (v1 / (sg (20, 0, 0) 2)))), (0, .ref (ad (20, 0, 0))), (1, .int v1), (2, .int v2), (3, .int v3)]) hx hb dX5_peek_38 hl (by decide) rfl (fun ls hl => ?_)
      refine lv_aload_n (pc := 40) hx hb dX5_peek_40 rfl (lv_at hl 1 rfl) ?_
      refine lv_iload_n (pc := 41) hx hb dX5_peek_41 rfl (lv_at hl 4 rfl) ?_
      refine lv_iload_n (pc := 42) hx hb dX5_peek_42 rfl (lv_at hl 2 rfl) ?_
      refine lv_aload_n (pc := 43) hx hb dX5_peek_43 rfl (lv_at hl 1 rfl) ?_
      refine wk_geti (pc := 44) X hH (20, 0, 0) 2 (rf_20 hSh) rfl (by decide) rfl inX5 fl_X5_60 dX5_peek_44 ?_
      obtain ⟨o6, hg⟩ := hg
      refine lv_idiv (pc := 47) hx hb dX5_peek_47 o6 ?_
      obtain ⟨o7, hg⟩ := hg
      refine wk_ci (wk_rV (pc := 48) (As := [.int v3, .int (v1 / (sg (20, 0, 0) 2))]) (rest := []) X hH hS hz (rf_20 hSh) rfl ok_X5_stateOf (mk_X5_stateOf (l := l) (P := P) hSh sg v3 (v1 / (sg (20, 0, 0) 2))  o7) ml_X5_94 ⟨by decide, by decide, by decide, by decide⟩ rfl hl.1 rfl (Nat.le_of_ble_eq_true rfl) dX5_peek_48) hS (fun H locs hH hS => ?_)
      refine wk_ci (wk_rS (pc := 51) (As := [.int (mr_X5_stateOf P sg v3 (v1 / (sg (20, 0, 0) 2)))]) (rest := []) X hH hS hz ok_X5_isDirty (mk_X5_isDirty (l := l) (P := P)  sg (mr_X5_stateOf P sg v3 (v1 / (sg (20, 0, 0) 2)))  ) ml_X5_118 ⟨by decide, by decide, by decide, by decide⟩ rfl hl.1 rfl (Nat.le_of_ble_eq_true rfl) dX5_peek_51) hS (fun H locs hH hS => ?_)
      refine lv_if_eq (pc := 54) (tgt := 76) hx hb dX5_peek_54 (by decide) (fun h8 => ?_) (fun h8 => ?_)
      · have hg := hg.1 h8
        refine lv_iload_n (pc := 76) hx hb dX5_peek_76 rfl (lv_at hl 3 rfl) ?_
        refine lv_istore_n (pc := 77) (lv' := [(2, .int v2), (4, .int (mr_X5_slotOf P sg v3 (v1 / (sg (20, 0, 0) 2)))), (0, .ref (ad (20, 0, 0))), (1, .int v1), (3, .int v3)]) hx hb dX5_peek_77 rfl hl (by decide) rfl (fun ls hl => ?_)
        refine lv_iinc (pc := 78) (k := 4) (v := (v3 + 1)) (lv' := [(3, .int (v3 + 1)), (2, .int v2), (4, .int (mr_X5_slotOf P sg v3 (v1 / (sg (20, 0, 0) 2)))), (0, .ref (ad (20, 0, 0))), (1, .int v1)]) hx hb dX5_peek_78 hl rfl rfl (by decide) rfl (fun ls hl => ?_)
        refine lv_goto (pc := 81) (tgt := 19) hx hb dX5_peek_81 (by decide) ?_
        exact ih sg v1 v2 (v3 + 1) _ (by rw [← hr0, mr_X5_peek_L19, if_neg h3, if_pos h8]) hg ls _ _ (lv_sub hl [3, 4, 1, 0] rfl) hH hS
      · have hg := hg.2 h8
        refine lv_aload_n (pc := 57) hx hb dX5_peek_57 rfl (lv_at hl 1 rfl) ?_
        refine wk_getr (pc := 58) X hH (20, 0, 0) 16 (31, 0, 0) (rf_20 hSh) rfl (by decide) rfl inX5 fl_X5_40 dX5_peek_58 ?_
        refine lv_iconst (pc := 61) (v := 4) hx hb dX5_peek_61 (by decide) ?_
        refine lv_iload (pc := 62) hx hb dX5_peek_62 (lv_at hl 0 rfl) ?_
        refine lv_imul (pc := 64) hx hb dX5_peek_64 ?_
        refine lv_iload_n (pc := 65) hx hb dX5_peek_65 rfl (lv_at hl 2 rfl) ?_
        refine lv_aload_n (pc := 66) hx hb dX5_peek_66 rfl (lv_at hl 1 rfl) ?_
        refine wk_geti (pc := 67) X hH (20, 0, 0) 2 (rf_20 hSh) rfl (by decide) rfl inX5 fl_X5_60 dX5_peek_67 ?_
        obtain ⟨o9, hg⟩ := hg
        refine lv_irem (pc := 70) hx hb dX5_peek_70 o9 ?_
        refine lv_iadd (pc := 71) hx hb dX5_peek_71 ?_
        obtain ⟨o10, hg⟩ := hg
        refine wk_iald (pc := 72) X hH (31, 0, 0) (rf_31 hSh) o10 dX5_peek_72 ?_
        refine lv_goto (pc := 73) (tgt := 77) hx hb dX5_peek_73 (by decide) ?_
        refine lv_istore_n (pc := 77) (lv' := [(2, .int (sg (31, 0, 0) (Int32.toNatClampNeg (((4 : Int32) * (mr_X5_slotOf P sg v3 (v1 / (sg (20, 0, 0) 2)))) + (v1 - v1 / (sg (20, 0, 0) 2) * (sg (20, 0, 0) 2)))))), (4, .int (mr_X5_slotOf P sg v3 (v1 / (sg (20, 0, 0) 2)))), (0, .ref (ad (20, 0, 0))), (1, .int v1), (3, .int v3)]) hx hb dX5_peek_77 rfl hl (by decide) rfl (fun ls hl => ?_)
        refine lv_iinc (pc := 78) (k := 4) (v := (v3 + 1)) (lv' := [(3, .int (v3 + 1)), (2, .int (sg (31, 0, 0) (Int32.toNatClampNeg (((4 : Int32) * (mr_X5_slotOf P sg v3 (v1 / (sg (20, 0, 0) 2)))) + (v1 - v1 / (sg (20, 0, 0) 2) * (sg (20, 0, 0) 2)))))), (4, .int (mr_X5_slotOf P sg v3 (v1 / (sg (20, 0, 0) 2)))), (0, .ref (ad (20, 0, 0))), (1, .int v1)]) hx hb dX5_peek_78 hl rfl rfl (by decide) rfl (fun ls hl => ?_)
        refine lv_goto (pc := 81) (tgt := 19) hx hb dX5_peek_81 (by decide) ?_
        exact ih sg v1 (sg (31, 0, 0) (Int32.toNatClampNeg (((4 : Int32) * (mr_X5_slotOf P sg v3 (v1 / (sg (20, 0, 0) 2)))) + (v1 - v1 / (sg (20, 0, 0) 2) * (sg (20, 0, 0) 2))))) (v3 + 1) _ (by rw [← hr0, mr_X5_peek_L19, if_neg h3, if_neg h8]) hg ls _ _ (lv_sub hl [3, 4, 1, 0] rfl) hH hS
def mr_X5_peek (P : Nat → Nat) (sg : wk_Sg) (a1 : Int32) : Int32 := (if (mr_X5_isAddress P sg a1) = 0 then 0 else (mr_X5_peek_L19 5 P sg  a1 (sg (21, 0, 0) (Int32.toNatClampNeg a1)) 0))
def mg_X5_peek (P : Nat → Nat) (sg : wk_Sg) (a1 : Int32) : Prop := (((mr_X5_isAddress P sg a1) = 0 → True) ∧ (¬ (mr_X5_isAddress P sg a1) = 0 → (vp_in a1 64 ∧ mg_X5_peek_L19 5 P sg  a1 (sg (21, 0, 0) (Int32.toNatClampNeg a1)) 0)))
set_option maxHeartbeats 4000000 in
set_option maxRecDepth 100000 in
theorem mk_X5_peek {l : Launch} {D : va_G} {T : wk_T} {z0 : Nat} {ad : wk_K3 → Nat} {sh : wk_Sh} {P : Nat → Nat} (hSh : rf_Sh T sh) (sg : wk_Sg) (a1 : Int32)  (hg : mg_X5_peek P sg a1) : wk_Mi l yX5_peek cX5_peek 5 (some .int) 2 45 D T z0 ad sh [.ref (ad (20, 0, 0)), .int a1] sg (mr_X5_peek P sg a1) sg := by
  refine Met.ofW (cc := cX5_peek) (maxL := 5) (ret := (some .int)) (by decide) rfl ?_
  intro p e s m args below meth c s₁ B hml hv
  obtain ⟨rfl, hz, hH, hK⟩ := hv
  have hx := B.exec
  have hb := B.bytes
  have hr := B.returns
  have hlocks := B.notSynchronized
  have hts : ∀ w ∈ wk_B, w.before _ s = true := fun w hw => atoms_spec (ws := Cond.code yX5_peek cX5_peek 5 (some .int) :: wk_B) B.pre w (List.mem_cons_of_mem _ hw)
  have X : wk_C p m c cX5_peek 5 s _ RX5 D T := ⟨⟨hx, hb, hml, findClass_of_methodNamed B.named, hts⟩, hK⟩
  have hS : va_S (wk_A z0) s.heap s.heap [] := va_S.rf
  have hl := lv_entry ([.ref (ad (20, 0, 0)), .int a1]) (n := 5) (Nat.le_of_ble_eq_true rfl)
  rw [lg_entry_eq]
  generalize (lg_sl ([.ref (ad (20, 0, 0)), .int a1]) ++ List.replicate (5 - (lg_sl ([.ref (ad (20, 0, 0)), .int a1])).length) Slot.unset).toArray = ls at hl ⊢
  have hl : lv_has ls 5 [(0, .ref (ad (20, 0, 0))), (1, .int a1)] := hl
  unfold mg_X5_peek at hg
  refine lv_aload_n (pc := 0) hx hb dX5_peek_0 rfl (lv_at hl 0 rfl) ?_
  refine lv_iload_n (pc := 1) hx hb dX5_peek_1 rfl (lv_at hl 1 rfl) ?_
  refine wk_ci (wk_rV (pc := 2) (As := [.int a1]) (rest := []) X hH hS hz (rf_20 hSh) rfl ok_X5_isAddress (mk_X5_isAddress (l := l) (P := P) hSh sg a1  ) ml_X5_83 ⟨by decide, by decide, by decide, by decide⟩ rfl hl.1 rfl (Nat.le_of_ble_eq_true rfl) dX5_peek_2) hS (fun H locs hH hS => ?_)
  refine lv_if_ne (pc := 5) (tgt := 10) hx hb dX5_peek_5 (by decide) (fun h1 => ?_) (fun h1 => ?_)
  · have hg := hg.2 h1
    refine lv_aload_n (pc := 10) hx hb dX5_peek_10 rfl (lv_at hl 0 rfl) ?_
    refine wk_getr (pc := 11) X hH (20, 0, 0) 5 (21, 0, 0) (rf_20 hSh) rfl (by decide) rfl inX5 fl_X5_7 dX5_peek_11 ?_
    refine lv_iload_n (pc := 14) hx hb dX5_peek_14 rfl (lv_at hl 1 rfl) ?_
    obtain ⟨o2, hg⟩ := hg
    refine wk_iald (pc := 15) X hH (21, 0, 0) (rf_21 hSh) o2 dX5_peek_15 ?_
    refine lv_istore_n (pc := 16) (lv' := [(2, .int (sg (21, 0, 0) (Int32.toNatClampNeg a1))), (0, .ref (ad (20, 0, 0))), (1, .int a1)]) hx hb dX5_peek_16 rfl hl (by decide) rfl (fun ls hl => ?_)
    refine lv_iconst (pc := 17) (v := 0) hx hb dX5_peek_17 (by decide) ?_
    refine lv_istore_n (pc := 18) (lv' := [(3, .int 0), (2, .int (sg (21, 0, 0) (Int32.toNatClampNeg a1))), (0, .ref (ad (20, 0, 0))), (1, .int a1)]) hx hb dX5_peek_18 rfl hl (by decide) rfl (fun ls hl => ?_)
    exact mk_X5_peek_L19 (P := P) hSh   X hz hr hlocks 5 sg a1 (sg (21, 0, 0) (Int32.toNatClampNeg a1)) 0 _ (by rw [mr_X5_peek, if_neg h1]) hg ls _ _ (lv_sub hl [2, 3, 1, 0] rfl) hH hS
  · have hg := hg.1 h1
    refine lv_iconst (pc := 8) (v := 0) hx hb dX5_peek_8 (by decide) ?_
    exact wk_iret (pc := 9) X hH hS hr hlocks (by rw [mr_X5_peek, if_pos h1]) (rfl) dX5_peek_9

def mr_X5_poke (P : Nat → Nat) (sg : wk_Sg) (a1 : Int32) (a2 : Int32) : Int32 := (if (mr_X5_isAddress P sg a1) = 0 then 0 else (if (sg (20, 0, 0) 7) = 0 then 1 else 0))
def ms_X5_poke (P : Nat → Nat) (sg : wk_Sg) (a1 : Int32) (a2 : Int32) : wk_Sg := (if (mr_X5_isAddress P sg a1) = 0 then sg else (if (sg (20, 0, 0) 7) = 0 then (wk_up sg (21, 0, 0) (Int32.toNatClampNeg a1) a2) else sg))
def mg_X5_poke (P : Nat → Nat) (sg : wk_Sg) (a1 : Int32) (a2 : Int32) : Prop := (((mr_X5_isAddress P sg a1) = 0 → True) ∧ (¬ (mr_X5_isAddress P sg a1) = 0 → (((sg (20, 0, 0) 7) = 0 → (vp_in a1 64 ∧ True)) ∧ (¬ (sg (20, 0, 0) 7) = 0 → True))))
theorem mz_X5_poke (P : Nat → Nat) (sg : wk_Sg) (a1 : Int32) (a2 : Int32) : mr_X5_poke P sg a1 a2 = 0 ∨ mr_X5_poke P sg a1 a2 = 1 := by
  unfold mr_X5_poke
  repeat' split
  all_goals first | exact Or.inl rfl | exact Or.inr rfl | apply mz_X5_isAddress
set_option maxHeartbeats 4000000 in
set_option maxRecDepth 100000 in
theorem mk_X5_poke {l : Launch} {D : va_G} {T : wk_T} {z0 : Nat} {ad : wk_K3 → Nat} {sh : wk_Sh} {P : Nat → Nat} (hSh : rf_Sh T sh) (sg : wk_Sg) (a1 : Int32) (a2 : Int32)  (hg : mg_X5_poke P sg a1 a2) : wk_Mi l yX5_poke cX5_poke 3 (some .boolean) 1 21 D T z0 ad sh [.ref (ad (20, 0, 0)), .int a1, .int a2] sg (mr_X5_poke P sg a1 a2) (ms_X5_poke P sg a1 a2) := by
  refine Met.ofW (cc := cX5_poke) (maxL := 3) (ret := (some .boolean)) (by decide) rfl ?_
  intro p e s m args below meth c s₁ B hml hv
  obtain ⟨rfl, hz, hH, hK⟩ := hv
  have hx := B.exec
  have hb := B.bytes
  have hr := B.returns
  have hlocks := B.notSynchronized
  have hts : ∀ w ∈ wk_B, w.before _ s = true := fun w hw => atoms_spec (ws := Cond.code yX5_poke cX5_poke 3 (some .boolean) :: wk_B) B.pre w (List.mem_cons_of_mem _ hw)
  have X : wk_C p m c cX5_poke 3 s _ RX5 D T := ⟨⟨hx, hb, hml, findClass_of_methodNamed B.named, hts⟩, hK⟩
  have hS : va_S (wk_A z0) s.heap s.heap [] := va_S.rf
  have hl := lv_entry ([.ref (ad (20, 0, 0)), .int a1, .int a2]) (n := 3) (Nat.le_of_ble_eq_true rfl)
  rw [lg_entry_eq]
  generalize (lg_sl ([.ref (ad (20, 0, 0)), .int a1, .int a2]) ++ List.replicate (3 - (lg_sl ([.ref (ad (20, 0, 0)), .int a1, .int a2])).length) Slot.unset).toArray = ls at hl ⊢
  have hl : lv_has ls 3 [(0, .ref (ad (20, 0, 0))), (1, .int a1), (2, .int a2)] := hl
  unfold mg_X5_poke at hg
  refine lv_aload_n (pc := 0) hx hb dX5_poke_0 rfl (lv_at hl 0 rfl) ?_
  refine lv_iload_n (pc := 1) hx hb dX5_poke_1 rfl (lv_at hl 1 rfl) ?_
  refine wk_ci (wk_rV (pc := 2) (As := [.int a1]) (rest := []) X hH hS hz (rf_20 hSh) rfl ok_X5_isAddress (mk_X5_isAddress (l := l) (P := P) hSh sg a1  ) ml_X5_83 ⟨by decide, by decide, by decide, by decide⟩ rfl hl.1 rfl (Nat.le_of_ble_eq_true rfl) dX5_poke_2) hS (fun H locs hH hS => ?_)
  refine lv_if_eq (pc := 5) (tgt := 15) hx hb dX5_poke_5 (by decide) (fun h1 => ?_) (fun h1 => ?_)
  · have hg := hg.1 h1
    refine lv_iconst (pc := 15) (v := 0) hx hb dX5_poke_15 (by decide) ?_
    exact wk_zret (pc := 16) X hH hS hr hlocks (Or.inl rfl) (by rw [mr_X5_poke, if_pos h1]) (by rw [ms_X5_poke, if_pos h1]) dX5_poke_16
  · have hg := hg.2 h1
    refine lv_aload_n (pc := 8) hx hb dX5_poke_8 rfl (lv_at hl 0 rfl) ?_
    refine wk_geti (pc := 9) X hH (20, 0, 0) 7 (rf_20 hSh) rfl (by decide) rfl inX5 fl_X5_79 dX5_poke_9 ?_
    refine lv_if_eq (pc := 12) (tgt := 17) hx hb dX5_poke_12 (by decide) (fun h2 => ?_) (fun h2 => ?_)
    · have hg := hg.1 h2
      refine lv_aload_n (pc := 17) hx hb dX5_poke_17 rfl (lv_at hl 0 rfl) ?_
      refine wk_getr (pc := 18) X hH (20, 0, 0) 5 (21, 0, 0) (rf_20 hSh) rfl (by decide) rfl inX5 fl_X5_7 dX5_poke_18 ?_
      refine lv_iload_n (pc := 21) hx hb dX5_poke_21 rfl (lv_at hl 1 rfl) ?_
      refine lv_iload_n (pc := 22) hx hb dX5_poke_22 rfl (lv_at hl 2 rfl) ?_
      obtain ⟨o3, hg⟩ := hg
      refine wk_iast (pc := 23) X hH hS (21, 0, 0) (rf_21 hSh) o3 dX5_poke_23 (fun H locs hH hS => ?_)
      refine lv_iconst (pc := 24) (v := 1) hx hb dX5_poke_24 (by decide) ?_
      exact wk_zret (pc := 25) X hH hS hr hlocks (Or.inr rfl) (by rw [mr_X5_poke, if_neg h1, if_pos h2]) (by rw [ms_X5_poke, if_neg h1, if_pos h2]) dX5_poke_25
    · have hg := hg.2 h2
      refine lv_iconst (pc := 15) (v := 0) hx hb dX5_poke_15 (by decide) ?_
      exact wk_zret (pc := 16) X hH hS hr hlocks (Or.inl rfl) (by rw [mr_X5_poke, if_neg h1, if_neg h2]) (by rw [ms_X5_poke, if_neg h1, if_neg h2]) dX5_poke_16

def mr_X5_register (P : Nat → Nat) (sg : wk_Sg) (a1 : Int32) (a2 : Int32) : Int32 := (if (mr_X5_isCpu P sg a1) = 0 then 0 else (if a2 < 0 then 0 else (if 4 ≤ a2 then 0 else (sg (23, 0, 0) (Int32.toNatClampNeg (((4 : Int32) * a1) + a2))))))
def mg_X5_register (P : Nat → Nat) (sg : wk_Sg) (a1 : Int32) (a2 : Int32) : Prop := (((mr_X5_isCpu P sg a1) = 0 → True) ∧ (¬ (mr_X5_isCpu P sg a1) = 0 → ((a2 < 0 → True) ∧ (¬ a2 < 0 → ((4 ≤ a2 → True) ∧ (¬ 4 ≤ a2 → (vp_in (((4 : Int32) * a1) + a2) 16 ∧ True)))))))
set_option maxHeartbeats 4000000 in
set_option maxRecDepth 100000 in
theorem mk_X5_register {l : Launch} {D : va_G} {T : wk_T} {z0 : Nat} {ad : wk_K3 → Nat} {sh : wk_Sh} {P : Nat → Nat} (hSh : rf_Sh T sh) (sg : wk_Sg) (a1 : Int32) (a2 : Int32)  (hg : mg_X5_register P sg a1 a2) : wk_Mi l yX5_register cX5_register 3 (some .int) 1 21 D T z0 ad sh [.ref (ad (20, 0, 0)), .int a1, .int a2] sg (mr_X5_register P sg a1 a2) sg := by
  refine Met.ofW (cc := cX5_register) (maxL := 3) (ret := (some .int)) (by decide) rfl ?_
  intro p e s m args below meth c s₁ B hml hv
  obtain ⟨rfl, hz, hH, hK⟩ := hv
  have hx := B.exec
  have hb := B.bytes
  have hr := B.returns
  have hlocks := B.notSynchronized
  have hts : ∀ w ∈ wk_B, w.before _ s = true := fun w hw => atoms_spec (ws := Cond.code yX5_register cX5_register 3 (some .int) :: wk_B) B.pre w (List.mem_cons_of_mem _ hw)
  have X : wk_C p m c cX5_register 3 s _ RX5 D T := ⟨⟨hx, hb, hml, findClass_of_methodNamed B.named, hts⟩, hK⟩
  have hS : va_S (wk_A z0) s.heap s.heap [] := va_S.rf
  have hl := lv_entry ([.ref (ad (20, 0, 0)), .int a1, .int a2]) (n := 3) (Nat.le_of_ble_eq_true rfl)
  rw [lg_entry_eq]
  generalize (lg_sl ([.ref (ad (20, 0, 0)), .int a1, .int a2]) ++ List.replicate (3 - (lg_sl ([.ref (ad (20, 0, 0)), .int a1, .int a2])).length) Slot.unset).toArray = ls at hl ⊢
  have hl : lv_has ls 3 [(0, .ref (ad (20, 0, 0))), (1, .int a1), (2, .int a2)] := hl
  unfold mg_X5_register at hg
  refine lv_aload_n (pc := 0) hx hb dX5_register_0 rfl (lv_at hl 0 rfl) ?_
  refine lv_iload_n (pc := 1) hx hb dX5_register_1 rfl (lv_at hl 1 rfl) ?_
  refine wk_ci (wk_rV (pc := 2) (As := [.int a1]) (rest := []) X hH hS hz (rf_20 hSh) rfl ok_X5_isCpu (mk_X5_isCpu (l := l) (P := P) hSh sg a1  ) ml_X5_75 ⟨by decide, by decide, by decide, by decide⟩ rfl hl.1 rfl (Nat.le_of_ble_eq_true rfl) dX5_register_2) hS (fun H locs hH hS => ?_)
  refine lv_if_eq (pc := 5) (tgt := 30) hx hb dX5_register_5 (by decide) (fun h1 => ?_) (fun h1 => ?_)
  · have hg := hg.1 h1
    refine lv_iconst (pc := 30) (v := 0) hx hb dX5_register_30 (by decide) ?_
    exact wk_iret (pc := 31) X hH hS hr hlocks (by rw [mr_X5_register, if_pos h1]) (rfl) dX5_register_31
  · have hg := hg.2 h1
    refine lv_iload_n (pc := 8) hx hb dX5_register_8 rfl (lv_at hl 2 rfl) ?_
    refine lv_if_lt (pc := 9) (tgt := 30) hx hb dX5_register_9 (by decide) (fun h2 => ?_) (fun h2 => ?_)
    · have hg := hg.1 h2
      refine lv_iconst (pc := 30) (v := 0) hx hb dX5_register_30 (by decide) ?_
      exact wk_iret (pc := 31) X hH hS hr hlocks (by rw [mr_X5_register, if_neg h1, if_pos h2]) (rfl) dX5_register_31
    · have hg := hg.2 h2
      refine lv_iload_n (pc := 12) hx hb dX5_register_12 rfl (lv_at hl 2 rfl) ?_
      refine lv_iconst (pc := 13) (v := 4) hx hb dX5_register_13 (by decide) ?_
      refine lv_icmp_ge (pc := 14) (tgt := 30) hx hb dX5_register_14 (by decide) (fun h3 => ?_) (fun h3 => ?_)
      · have hg := hg.1 h3
        refine lv_iconst (pc := 30) (v := 0) hx hb dX5_register_30 (by decide) ?_
        exact wk_iret (pc := 31) X hH hS hr hlocks (by rw [mr_X5_register, if_neg h1, if_neg h2, if_pos h3]) (rfl) dX5_register_31
      · have hg := hg.2 h3
        refine lv_aload_n (pc := 17) hx hb dX5_register_17 rfl (lv_at hl 0 rfl) ?_
        refine wk_getr (pc := 18) X hH (20, 0, 0) 8 (23, 0, 0) (rf_20 hSh) rfl (by decide) rfl inX5 fl_X5_16 dX5_register_18 ?_
        refine lv_iconst (pc := 21) (v := 4) hx hb dX5_register_21 (by decide) ?_
        refine lv_iload_n (pc := 22) hx hb dX5_register_22 rfl (lv_at hl 1 rfl) ?_
        refine lv_imul (pc := 23) hx hb dX5_register_23 ?_
        refine lv_iload_n (pc := 24) hx hb dX5_register_24 rfl (lv_at hl 2 rfl) ?_
        refine lv_iadd (pc := 25) hx hb dX5_register_25 ?_
        obtain ⟨o4, hg⟩ := hg
        refine wk_iald (pc := 26) X hH (23, 0, 0) (rf_23 hSh) o4 dX5_register_26 ?_
        refine lv_goto (pc := 27) (tgt := 31) hx hb dX5_register_27 (by decide) ?_
        exact wk_iret (pc := 31) X hH hS hr hlocks (by rw [mr_X5_register, if_neg h1, if_neg h2, if_neg h3]) (rfl) dX5_register_31

def mr_X5_slot (P : Nat → Nat) (sg : wk_Sg) (a1 : Int32) (a2 : Int32) (a3 : Int32) : Int32 := (if (mr_X5_isCpu P sg a1) = 0 then (-1) else (if a2 < 0 then (-1) else (if (sg (20, 0, 0) 1) ≤ a2 then (-1) else (if a3 < 0 then (-1) else (if a3 < ((2 : Int32) + (sg (20, 0, 0) 2)) then (if a3 = 0 then (sg (29, 0, 0) (Int32.toNatClampNeg (((8 : Int32) * a1) + a2))) else (if a3 = 1 then (sg (30, 0, 0) (Int32.toNatClampNeg (((8 : Int32) * a1) + a2))) else (sg (31, 0, 0) (Int32.toNatClampNeg ((((4 : Int32) * (((8 : Int32) * a1) + a2)) + a3) - (2 : Int32)))))) else (-1))))))
def mg_X5_slot (P : Nat → Nat) (sg : wk_Sg) (a1 : Int32) (a2 : Int32) (a3 : Int32) : Prop := (((mr_X5_isCpu P sg a1) = 0 → True) ∧ (¬ (mr_X5_isCpu P sg a1) = 0 → ((a2 < 0 → True) ∧ (¬ a2 < 0 → (((sg (20, 0, 0) 1) ≤ a2 → True) ∧ (¬ (sg (20, 0, 0) 1) ≤ a2 → ((a3 < 0 → True) ∧ (¬ a3 < 0 → ((a3 < ((2 : Int32) + (sg (20, 0, 0) 2)) → ((a3 = 0 → (vp_in (((8 : Int32) * a1) + a2) 32 ∧ True)) ∧ (¬ a3 = 0 → ((a3 = 1 → (vp_in (((8 : Int32) * a1) + a2) 32 ∧ True)) ∧ (¬ a3 = 1 → (vp_in ((((4 : Int32) * (((8 : Int32) * a1) + a2)) + a3) - (2 : Int32)) 128 ∧ True)))))) ∧ (¬ a3 < ((2 : Int32) + (sg (20, 0, 0) 2)) → True))))))))))
set_option maxHeartbeats 4000000 in
set_option maxRecDepth 100000 in
theorem mk_X5_slot {l : Launch} {D : va_G} {T : wk_T} {z0 : Nat} {ad : wk_K3 → Nat} {sh : wk_Sh} {P : Nat → Nat} (hSh : rf_Sh T sh) (sg : wk_Sg) (a1 : Int32) (a2 : Int32) (a3 : Int32)  (hg : mg_X5_slot P sg a1 a2 a3) : wk_Mi l yX5_slot cX5_slot 5 (some .int) 1 21 D T z0 ad sh [.ref (ad (20, 0, 0)), .int a1, .int a2, .int a3] sg (mr_X5_slot P sg a1 a2 a3) sg := by
  refine Met.ofW (cc := cX5_slot) (maxL := 5) (ret := (some .int)) (by decide) rfl ?_
  intro p e s m args below meth c s₁ B hml hv
  obtain ⟨rfl, hz, hH, hK⟩ := hv
  have hx := B.exec
  have hb := B.bytes
  have hr := B.returns
  have hlocks := B.notSynchronized
  have hts : ∀ w ∈ wk_B, w.before _ s = true := fun w hw => atoms_spec (ws := Cond.code yX5_slot cX5_slot 5 (some .int) :: wk_B) B.pre w (List.mem_cons_of_mem _ hw)
  have X : wk_C p m c cX5_slot 5 s _ RX5 D T := ⟨⟨hx, hb, hml, findClass_of_methodNamed B.named, hts⟩, hK⟩
  have hS : va_S (wk_A z0) s.heap s.heap [] := va_S.rf
  have hl := lv_entry ([.ref (ad (20, 0, 0)), .int a1, .int a2, .int a3]) (n := 5) (Nat.le_of_ble_eq_true rfl)
  rw [lg_entry_eq]
  generalize (lg_sl ([.ref (ad (20, 0, 0)), .int a1, .int a2, .int a3]) ++ List.replicate (5 - (lg_sl ([.ref (ad (20, 0, 0)), .int a1, .int a2, .int a3])).length) Slot.unset).toArray = ls at hl ⊢
  have hl : lv_has ls 5 [(0, .ref (ad (20, 0, 0))), (1, .int a1), (2, .int a2), (3, .int a3)] := hl
  unfold mg_X5_slot at hg
  refine lv_aload_n (pc := 0) hx hb dX5_slot_0 rfl (lv_at hl 0 rfl) ?_
  refine lv_iload_n (pc := 1) hx hb dX5_slot_1 rfl (lv_at hl 1 rfl) ?_
  refine wk_ci (wk_rV (pc := 2) (As := [.int a1]) (rest := []) X hH hS hz (rf_20 hSh) rfl ok_X5_isCpu (mk_X5_isCpu (l := l) (P := P) hSh sg a1  ) ml_X5_75 ⟨by decide, by decide, by decide, by decide⟩ rfl hl.1 rfl (Nat.le_of_ble_eq_true rfl) dX5_slot_2) hS (fun H locs hH hS => ?_)
  refine lv_if_eq (pc := 5) (tgt := 34) hx hb dX5_slot_5 (by decide) (fun h1 => ?_) (fun h1 => ?_)
  · have hg := hg.1 h1
    refine lv_iconst (pc := 34) (v := (-1)) hx hb dX5_slot_34 (by decide) ?_
    exact wk_iret (pc := 35) X hH hS hr hlocks (by rw [mr_X5_slot, if_pos h1]) (rfl) dX5_slot_35
  · have hg := hg.2 h1
    refine lv_iload_n (pc := 8) hx hb dX5_slot_8 rfl (lv_at hl 2 rfl) ?_
    refine lv_if_lt (pc := 9) (tgt := 34) hx hb dX5_slot_9 (by decide) (fun h2 => ?_) (fun h2 => ?_)
    · have hg := hg.1 h2
      refine lv_iconst (pc := 34) (v := (-1)) hx hb dX5_slot_34 (by decide) ?_
      exact wk_iret (pc := 35) X hH hS hr hlocks (by rw [mr_X5_slot, if_neg h1, if_pos h2]) (rfl) dX5_slot_35
    · have hg := hg.2 h2
      refine lv_iload_n (pc := 12) hx hb dX5_slot_12 rfl (lv_at hl 2 rfl) ?_
      refine lv_aload_n (pc := 13) hx hb dX5_slot_13 rfl (lv_at hl 0 rfl) ?_
      refine wk_geti (pc := 14) X hH (20, 0, 0) 1 (rf_20 hSh) rfl (by decide) rfl inX5 fl_X5_57 dX5_slot_14 ?_
      refine lv_icmp_ge (pc := 17) (tgt := 34) hx hb dX5_slot_17 (by decide) (fun h3 => ?_) (fun h3 => ?_)
      · have hg := hg.1 h3
        refine lv_iconst (pc := 34) (v := (-1)) hx hb dX5_slot_34 (by decide) ?_
        exact wk_iret (pc := 35) X hH hS hr hlocks (by rw [mr_X5_slot, if_neg h1, if_neg h2, if_pos h3]) (rfl) dX5_slot_35
      · have hg := hg.2 h3
        refine lv_iload_n (pc := 20) hx hb dX5_slot_20 rfl (lv_at hl 3 rfl) ?_
        refine lv_if_lt (pc := 21) (tgt := 34) hx hb dX5_slot_21 (by decide) (fun h4 => ?_) (fun h4 => ?_)
        · have hg := hg.1 h4
          refine lv_iconst (pc := 34) (v := (-1)) hx hb dX5_slot_34 (by decide) ?_
          exact wk_iret (pc := 35) X hH hS hr hlocks (by rw [mr_X5_slot, if_neg h1, if_neg h2, if_neg h3, if_pos h4]) (rfl) dX5_slot_35
        · have hg := hg.2 h4
          refine lv_iload_n (pc := 24) hx hb dX5_slot_24 rfl (lv_at hl 3 rfl) ?_
          refine lv_iconst (pc := 25) (v := 2) hx hb dX5_slot_25 (by decide) ?_
          refine lv_aload_n (pc := 26) hx hb dX5_slot_26 rfl (lv_at hl 0 rfl) ?_
          refine wk_geti (pc := 27) X hH (20, 0, 0) 2 (rf_20 hSh) rfl (by decide) rfl inX5 fl_X5_60 dX5_slot_27 ?_
          refine lv_iadd (pc := 30) hx hb dX5_slot_30 ?_
          refine lv_icmp_lt (pc := 31) (tgt := 36) hx hb dX5_slot_31 (by decide) (fun h5 => ?_) (fun h5 => ?_)
          · have hg := hg.1 h5
            refine lv_bipush (pc := 36) (v := 8) hx hb dX5_slot_36 (by decide) ?_
            refine lv_iload_n (pc := 38) hx hb dX5_slot_38 rfl (lv_at hl 1 rfl) ?_
            refine lv_imul (pc := 39) hx hb dX5_slot_39 ?_
            refine lv_iload_n (pc := 40) hx hb dX5_slot_40 rfl (lv_at hl 2 rfl) ?_
            refine lv_iadd (pc := 41) hx hb dX5_slot_41 ?_
            refine lv_istore (pc := 42) (lv' := [(4, .int (((8 : Int32) * a1) + a2)), (0, .ref (ad (20, 0, 0))), (1, .int a1), (2, .int a2), (3, .int a3)]) hx hb dX5_slot_42 hl (by decide) rfl (fun ls hl => ?_)
            refine lv_iload_n (pc := 44) hx hb dX5_slot_44 rfl (lv_at hl 4 rfl) ?_
            refine lv_if_ne (pc := 45) (tgt := 58) hx hb dX5_slot_45 (by decide) (fun h6 => ?_) (fun h6 => ?_)
            · have hg := hg.2 h6
              refine lv_iload_n (pc := 58) hx hb dX5_slot_58 rfl (lv_at hl 4 rfl) ?_
              refine lv_iconst (pc := 59) (v := 1) hx hb dX5_slot_59 (by decide) ?_
              refine lv_icmp_ne (pc := 60) (tgt := 73) hx hb dX5_slot_60 (by decide) (fun h7 => ?_) (fun h7 => ?_)
              · have hg := hg.2 h7
                refine lv_aload_n (pc := 73) hx hb dX5_slot_73 rfl (lv_at hl 1 rfl) ?_
                refine wk_getr (pc := 74) X hH (20, 0, 0) 16 (31, 0, 0) (rf_20 hSh) rfl (by decide) rfl inX5 fl_X5_40 dX5_slot_74 ?_
                refine lv_iconst (pc := 77) (v := 4) hx hb dX5_slot_77 (by decide) ?_
                refine lv_iload (pc := 78) hx hb dX5_slot_78 (lv_at hl 0 rfl) ?_
                refine lv_imul (pc := 80) hx hb dX5_slot_80 ?_
                refine lv_iload_n (pc := 81) hx hb dX5_slot_81 rfl (lv_at hl 4 rfl) ?_
                refine lv_iadd (pc := 82) hx hb dX5_slot_82 ?_
                refine lv_iconst (pc := 83) (v := 2) hx hb dX5_slot_83 (by decide) ?_
                refine lv_isub (pc := 84) hx hb dX5_slot_84 ?_
                obtain ⟨o8, hg⟩ := hg
                refine wk_iald (pc := 85) X hH (31, 0, 0) (rf_31 hSh) o8 dX5_slot_85 ?_
                exact wk_iret (pc := 86) X hH hS hr hlocks (by rw [mr_X5_slot, if_neg h1, if_neg h2, if_neg h3, if_neg h4, if_pos h5, if_neg h6, if_neg h7]) (rfl) dX5_slot_86
              · have hg := hg.1 h7
                refine lv_aload_n (pc := 63) hx hb dX5_slot_63 rfl (lv_at hl 1 rfl) ?_
                refine wk_getr (pc := 64) X hH (20, 0, 0) 15 (30, 0, 0) (rf_20 hSh) rfl (by decide) rfl inX5 fl_X5_37 dX5_slot_64 ?_
                refine lv_iload (pc := 67) hx hb dX5_slot_67 (lv_at hl 0 rfl) ?_
                obtain ⟨o9, hg⟩ := hg
                refine wk_iald (pc := 69) X hH (30, 0, 0) (rf_30 hSh) o9 dX5_slot_69 ?_
                refine lv_goto (pc := 70) (tgt := 86) hx hb dX5_slot_70 (by decide) ?_
                exact wk_iret (pc := 86) X hH hS hr hlocks (by rw [mr_X5_slot, if_neg h1, if_neg h2, if_neg h3, if_neg h4, if_pos h5, if_neg h6, if_pos h7]) (rfl) dX5_slot_86
            · have hg := hg.1 h6
              refine lv_aload_n (pc := 48) hx hb dX5_slot_48 rfl (lv_at hl 1 rfl) ?_
              refine wk_getr (pc := 49) X hH (20, 0, 0) 14 (29, 0, 0) (rf_20 hSh) rfl (by decide) rfl inX5 fl_X5_34 dX5_slot_49 ?_
              refine lv_iload (pc := 52) hx hb dX5_slot_52 (lv_at hl 0 rfl) ?_
              obtain ⟨o10, hg⟩ := hg
              refine wk_iald (pc := 54) X hH (29, 0, 0) (rf_29 hSh) o10 dX5_slot_54 ?_
              refine lv_goto (pc := 55) (tgt := 86) hx hb dX5_slot_55 (by decide) ?_
              exact wk_iret (pc := 86) X hH hS hr hlocks (by rw [mr_X5_slot, if_neg h1, if_neg h2, if_neg h3, if_neg h4, if_pos h5, if_pos h6]) (rfl) dX5_slot_86
          · have hg := hg.2 h5
            refine lv_iconst (pc := 34) (v := (-1)) hx hb dX5_slot_34 (by decide) ?_
            exact wk_iret (pc := 35) X hH hS hr hlocks (by rw [mr_X5_slot, if_neg h1, if_neg h2, if_neg h3, if_neg h4, if_neg h5]) (rfl) dX5_slot_35

def mr_X5_state (P : Nat → Nat) (sg : wk_Sg) (a1 : Int32) : Int32 := (if a1 < 4 then (if a1 = 0 then (sg (20, 0, 0) 17) else (if a1 = 1 then (sg (20, 0, 0) 18) else (if a1 = 2 then (sg (20, 0, 0) 19) else (if a1 = 3 then (sg (20, 0, 0) 20) else (-1))))) else (if 7 < a1 then (if a1 = 0 then (sg (20, 0, 0) 17) else (if a1 = 1 then (sg (20, 0, 0) 18) else (if a1 = 2 then (sg (20, 0, 0) 19) else (if a1 = 3 then (sg (20, 0, 0) 20) else (-1))))) else (sg (33, 0, 0) (Int32.toNatClampNeg (a1 - (3 : Int32))))))
def mg_X5_state (P : Nat → Nat) (sg : wk_Sg) (a1 : Int32) : Prop := ((a1 < 4 → ((a1 = 0 → True) ∧ (¬ a1 = 0 → ((a1 = 1 → True) ∧ (¬ a1 = 1 → ((a1 = 2 → True) ∧ (¬ a1 = 2 → ((a1 = 3 → True) ∧ (¬ a1 = 3 → True))))))))) ∧ (¬ a1 < 4 → ((7 < a1 → ((a1 = 0 → True) ∧ (¬ a1 = 0 → ((a1 = 1 → True) ∧ (¬ a1 = 1 → ((a1 = 2 → True) ∧ (¬ a1 = 2 → ((a1 = 3 → True) ∧ (¬ a1 = 3 → True))))))))) ∧ (¬ 7 < a1 → (vp_in (a1 - (3 : Int32)) 5 ∧ True)))))
set_option maxHeartbeats 4000000 in
set_option maxRecDepth 100000 in
theorem mk_X5_state {l : Launch} {D : va_G} {T : wk_T} {z0 : Nat} {ad : wk_K3 → Nat} {sh : wk_Sh} {P : Nat → Nat} (hSh : rf_Sh T sh) (sg : wk_Sg) (a1 : Int32)  (hg : mg_X5_state P sg a1) : wk_Mi l yX5_state cX5_state 2 (some .int) 0 0 D T z0 ad sh [.ref (ad (20, 0, 0)), .int a1] sg (mr_X5_state P sg a1) sg := by
  refine Met.ofW (cc := cX5_state) (maxL := 2) (ret := (some .int)) (by decide) rfl ?_
  intro p e s m args below meth c s₁ B hml hv
  obtain ⟨rfl, hz, hH, hK⟩ := hv
  have hx := B.exec
  have hb := B.bytes
  have hr := B.returns
  have hlocks := B.notSynchronized
  have hts : ∀ w ∈ wk_B, w.before _ s = true := fun w hw => atoms_spec (ws := Cond.code yX5_state cX5_state 2 (some .int) :: wk_B) B.pre w (List.mem_cons_of_mem _ hw)
  have X : wk_C p m c cX5_state 2 s _ RX5 D T := ⟨⟨hx, hb, hml, findClass_of_methodNamed B.named, hts⟩, hK⟩
  have hS : va_S (wk_A z0) s.heap s.heap [] := va_S.rf
  have hl := lv_entry ([.ref (ad (20, 0, 0)), .int a1]) (n := 2) (Nat.le_of_ble_eq_true rfl)
  rw [lg_entry_eq]
  generalize (lg_sl ([.ref (ad (20, 0, 0)), .int a1]) ++ List.replicate (2 - (lg_sl ([.ref (ad (20, 0, 0)), .int a1])).length) Slot.unset).toArray = ls at hl ⊢
  have hl : lv_has ls 2 [(0, .ref (ad (20, 0, 0))), (1, .int a1)] := hl
  unfold mg_X5_state at hg
  refine lv_iload_n (pc := 0) hx hb dX5_state_0 rfl (lv_at hl 1 rfl) ?_
  refine lv_iconst (pc := 1) (v := 4) hx hb dX5_state_1 (by decide) ?_
  refine lv_icmp_lt (pc := 2) (tgt := 20) hx hb dX5_state_2 (by decide) (fun h1 => ?_) (fun h1 => ?_)
  · have hg := hg.1 h1
    refine lv_iload_n (pc := 20) hx hb dX5_state_20 rfl (lv_at hl 1 rfl) ?_
    refine lv_if_ne (pc := 21) (tgt := 31) hx hb dX5_state_21 (by decide) (fun h2 => ?_) (fun h2 => ?_)
    · have hg := hg.2 h2
      refine lv_iload_n (pc := 31) hx hb dX5_state_31 rfl (lv_at hl 1 rfl) ?_
      refine lv_iconst (pc := 32) (v := 1) hx hb dX5_state_32 (by decide) ?_
      refine lv_icmp_ne (pc := 33) (tgt := 43) hx hb dX5_state_33 (by decide) (fun h3 => ?_) (fun h3 => ?_)
      · have hg := hg.2 h3
        refine lv_iload_n (pc := 43) hx hb dX5_state_43 rfl (lv_at hl 1 rfl) ?_
        refine lv_iconst (pc := 44) (v := 2) hx hb dX5_state_44 (by decide) ?_
        refine lv_icmp_ne (pc := 45) (tgt := 55) hx hb dX5_state_45 (by decide) (fun h4 => ?_) (fun h4 => ?_)
        · have hg := hg.2 h4
          refine lv_iload_n (pc := 55) hx hb dX5_state_55 rfl (lv_at hl 1 rfl) ?_
          refine lv_iconst (pc := 56) (v := 3) hx hb dX5_state_56 (by decide) ?_
          refine lv_icmp_ne (pc := 57) (tgt := 67) hx hb dX5_state_57 (by decide) (fun h5 => ?_) (fun h5 => ?_)
          · have hg := hg.2 h5
            refine lv_iconst (pc := 67) (v := (-1)) hx hb dX5_state_67 (by decide) ?_
            exact wk_iret (pc := 68) X hH hS hr hlocks (by rw [mr_X5_state, if_pos h1, if_neg h2, if_neg h3, if_neg h4, if_neg h5]) (rfl) dX5_state_68
          · have hg := hg.1 h5
            refine lv_aload_n (pc := 60) hx hb dX5_state_60 rfl (lv_at hl 0 rfl) ?_
            refine wk_geti (pc := 61) X hH (20, 0, 0) 20 (rf_20 hSh) rfl (by decide) rfl inX5 fl_X5_72 dX5_state_61 ?_
            refine lv_goto (pc := 64) (tgt := 68) hx hb dX5_state_64 (by decide) ?_
            exact wk_iret (pc := 68) X hH hS hr hlocks (by rw [mr_X5_state, if_pos h1, if_neg h2, if_neg h3, if_neg h4, if_pos h5]) (rfl) dX5_state_68
        · have hg := hg.1 h4
          refine lv_aload_n (pc := 48) hx hb dX5_state_48 rfl (lv_at hl 0 rfl) ?_
          refine wk_geti (pc := 49) X hH (20, 0, 0) 19 (rf_20 hSh) rfl (by decide) rfl inX5 fl_X5_110 dX5_state_49 ?_
          refine lv_goto (pc := 52) (tgt := 68) hx hb dX5_state_52 (by decide) ?_
          exact wk_iret (pc := 68) X hH hS hr hlocks (by rw [mr_X5_state, if_pos h1, if_neg h2, if_neg h3, if_pos h4]) (rfl) dX5_state_68
      · have hg := hg.1 h3
        refine lv_aload_n (pc := 36) hx hb dX5_state_36 rfl (lv_at hl 0 rfl) ?_
        refine wk_geti (pc := 37) X hH (20, 0, 0) 18 (rf_20 hSh) rfl (by decide) rfl inX5 fl_X5_69 dX5_state_37 ?_
        refine lv_goto (pc := 40) (tgt := 68) hx hb dX5_state_40 (by decide) ?_
        exact wk_iret (pc := 68) X hH hS hr hlocks (by rw [mr_X5_state, if_pos h1, if_neg h2, if_pos h3]) (rfl) dX5_state_68
    · have hg := hg.1 h2
      refine lv_aload_n (pc := 24) hx hb dX5_state_24 rfl (lv_at hl 0 rfl) ?_
      refine wk_geti (pc := 25) X hH (20, 0, 0) 17 (rf_20 hSh) rfl (by decide) rfl inX5 fl_X5_107 dX5_state_25 ?_
      refine lv_goto (pc := 28) (tgt := 68) hx hb dX5_state_28 (by decide) ?_
      exact wk_iret (pc := 68) X hH hS hr hlocks (by rw [mr_X5_state, if_pos h1, if_pos h2]) (rfl) dX5_state_68
  · have hg := hg.2 h1
    refine lv_iload_n (pc := 5) hx hb dX5_state_5 rfl (lv_at hl 1 rfl) ?_
    refine lv_bipush (pc := 6) (v := 7) hx hb dX5_state_6 (by decide) ?_
    refine lv_icmp_gt (pc := 8) (tgt := 20) hx hb dX5_state_8 (by decide) (fun h6 => ?_) (fun h6 => ?_)
    · have hg := hg.1 h6
      refine lv_iload_n (pc := 20) hx hb dX5_state_20 rfl (lv_at hl 1 rfl) ?_
      refine lv_if_ne (pc := 21) (tgt := 31) hx hb dX5_state_21 (by decide) (fun h7 => ?_) (fun h7 => ?_)
      · have hg := hg.2 h7
        refine lv_iload_n (pc := 31) hx hb dX5_state_31 rfl (lv_at hl 1 rfl) ?_
        refine lv_iconst (pc := 32) (v := 1) hx hb dX5_state_32 (by decide) ?_
        refine lv_icmp_ne (pc := 33) (tgt := 43) hx hb dX5_state_33 (by decide) (fun h8 => ?_) (fun h8 => ?_)
        · have hg := hg.2 h8
          refine lv_iload_n (pc := 43) hx hb dX5_state_43 rfl (lv_at hl 1 rfl) ?_
          refine lv_iconst (pc := 44) (v := 2) hx hb dX5_state_44 (by decide) ?_
          refine lv_icmp_ne (pc := 45) (tgt := 55) hx hb dX5_state_45 (by decide) (fun h9 => ?_) (fun h9 => ?_)
          · have hg := hg.2 h9
            refine lv_iload_n (pc := 55) hx hb dX5_state_55 rfl (lv_at hl 1 rfl) ?_
            refine lv_iconst (pc := 56) (v := 3) hx hb dX5_state_56 (by decide) ?_
            refine lv_icmp_ne (pc := 57) (tgt := 67) hx hb dX5_state_57 (by decide) (fun h10 => ?_) (fun h10 => ?_)
            · have hg := hg.2 h10
              refine lv_iconst (pc := 67) (v := (-1)) hx hb dX5_state_67 (by decide) ?_
              exact wk_iret (pc := 68) X hH hS hr hlocks (by rw [mr_X5_state, if_neg h1, if_pos h6, if_neg h7, if_neg h8, if_neg h9, if_neg h10]) (rfl) dX5_state_68
            · have hg := hg.1 h10
              refine lv_aload_n (pc := 60) hx hb dX5_state_60 rfl (lv_at hl 0 rfl) ?_
              refine wk_geti (pc := 61) X hH (20, 0, 0) 20 (rf_20 hSh) rfl (by decide) rfl inX5 fl_X5_72 dX5_state_61 ?_
              refine lv_goto (pc := 64) (tgt := 68) hx hb dX5_state_64 (by decide) ?_
              exact wk_iret (pc := 68) X hH hS hr hlocks (by rw [mr_X5_state, if_neg h1, if_pos h6, if_neg h7, if_neg h8, if_neg h9, if_pos h10]) (rfl) dX5_state_68
          · have hg := hg.1 h9
            refine lv_aload_n (pc := 48) hx hb dX5_state_48 rfl (lv_at hl 0 rfl) ?_
            refine wk_geti (pc := 49) X hH (20, 0, 0) 19 (rf_20 hSh) rfl (by decide) rfl inX5 fl_X5_110 dX5_state_49 ?_
            refine lv_goto (pc := 52) (tgt := 68) hx hb dX5_state_52 (by decide) ?_
            exact wk_iret (pc := 68) X hH hS hr hlocks (by rw [mr_X5_state, if_neg h1, if_pos h6, if_neg h7, if_neg h8, if_pos h9]) (rfl) dX5_state_68
        · have hg := hg.1 h8
          refine lv_aload_n (pc := 36) hx hb dX5_state_36 rfl (lv_at hl 0 rfl) ?_
          refine wk_geti (pc := 37) X hH (20, 0, 0) 18 (rf_20 hSh) rfl (by decide) rfl inX5 fl_X5_69 dX5_state_37 ?_
          refine lv_goto (pc := 40) (tgt := 68) hx hb dX5_state_40 (by decide) ?_
          exact wk_iret (pc := 68) X hH hS hr hlocks (by rw [mr_X5_state, if_neg h1, if_pos h6, if_neg h7, if_pos h8]) (rfl) dX5_state_68
      · have hg := hg.1 h7
        refine lv_aload_n (pc := 24) hx hb dX5_state_24 rfl (lv_at hl 0 rfl) ?_
        refine wk_geti (pc := 25) X hH (20, 0, 0) 17 (rf_20 hSh) rfl (by decide) rfl inX5 fl_X5_107 dX5_state_25 ?_
        refine lv_goto (pc := 28) (tgt := 68) hx hb dX5_state_28 (by decide) ?_
        exact wk_iret (pc := 68) X hH hS hr hlocks (by rw [mr_X5_state, if_neg h1, if_pos h6, if_pos h7]) (rfl) dX5_state_68
    · have hg := hg.2 h6
      refine lv_aload_n (pc := 11) hx hb dX5_state_11 rfl (lv_at hl 0 rfl) ?_
      refine wk_getr (pc := 12) X hH (20, 0, 0) 23 (33, 0, 0) (rf_20 hSh) rfl (by decide) rfl inX5 fl_X5_46 dX5_state_12 ?_
      refine lv_iload_n (pc := 15) hx hb dX5_state_15 rfl (lv_at hl 1 rfl) ?_
      refine lv_iconst (pc := 16) (v := 3) hx hb dX5_state_16 (by decide) ?_
      refine lv_isub (pc := 17) hx hb dX5_state_17 ?_
      obtain ⟨o11, hg⟩ := hg
      refine wk_iald (pc := 18) X hH (33, 0, 0) (rf_33 hSh) o11 dX5_state_18 ?_
      exact wk_iret (pc := 19) X hH hS hr hlocks (by rw [mr_X5_state, if_neg h1, if_neg h6]) (rfl) dX5_state_19
