def ms_X5_empty_L16 : Nat → (Nat → Nat) → wk_Sg → Int32 → Int32 → wk_Sg
  | 0, _, _, _, _ => fun _ _ => 0
  | n + 1, P, sg, v1, v2 => (if 4 ≤ v2 then sg else (ms_X5_empty_L16 n P (wk_up sg (31, 0, 0) (Int32.toNatClampNeg ((4 * v1) + v2)) 0)  v1 (v2 + 1)))
def mg_X5_empty_L16 : Nat → (Nat → Nat) → wk_Sg → Int32 → Int32 → Prop
  | 0, _, _, _, _ => False
  | n + 1, P, sg, v1, v2 => ((4 ≤ v2 → True) ∧ (¬ 4 ≤ v2 → (vp_in ((4 * v1) + v2) 128 ∧ mg_X5_empty_L16 n P (wk_up sg (31, 0, 0) (Int32.toNatClampNeg ((4 * v1) + v2)) 0)  v1 (v2 + 1))))
set_option maxHeartbeats 4000000 in
set_option maxRecDepth 100000 in
theorem mk_X5_empty_L16 {l : Launch} {D : va_G} {T : wk_T} {z0 : Nat} {ad : wk_K3 → Nat} {sh : wk_Sh} {P : Nat → Nat} (hSh : rf_Sh T sh)   {p : Program} {e : Env} {s : State} {m : MethodId} {args : Array Value} {below : List Frame} {meth : Method} {c : Code} (X : wk_C p m c cX5_empty 3 s args RX5 D T) (hz : z0 ≤ s.heap.size) (hr : meth.sig.returnType = none) (hlocks : meth.locks = false) :
    ∀ (n : Nat) (sg : wk_Sg) (v1 : Int32) (v2 : Int32) (sg0 : wk_Sg), ms_X5_empty_L16 n P sg  v1 v2 = sg0 → mg_X5_empty_L16 n P sg  v1 v2 → ∀ (ls : Array Slot) (H : Heap) (locs : List Loc), lv_has ls 3 [(0, .ref (ad (20, 0, 0))), (1, .int v1), (2, .int v2)] → wk_H D z0 ad sh sg H → va_S (wk_A z0) s.heap H locs → W p l e (wk_rm 0 0) s m args below meth c H locs 0 0 (MQ below (wk_Qv D z0 ad sh sg0) args s 0 0 (wk_A z0)) (F0 m 16 ls []) := by
  have hx := X.1.1
  have hb := X.1.2.1
  have hts := X.1.2.2.2.2
  intro n
  induction n with
  | zero =>
    intro sg v1 v2 sg0 hs0 hg ls H locs hl hH hS
    exact (show False from hg).elim
  | succ n ih =>
    intro sg v1 v2 sg0 hs0 hg ls H locs hl hH hS
    rw [mg_X5_empty_L16] at hg
    refine lv_iload_n (pc := 16) hx hb dX5_empty_16 rfl (lv_at hl 2 rfl) ?_
    refine lv_iconst (pc := 17) (v := 4) hx hb dX5_empty_17 (by decide) ?_
    refine lv_icmp_ge (pc := 18) (tgt := 38) hx hb dX5_empty_18 (by decide) (fun h3 => ?_) (fun h3 => ?_)
    · have hg := hg.1 h3
      exact wk_vret (pc := 38) X hH hS hr hlocks (by rw [← hs0, ms_X5_empty_L16, if_pos h3]) dX5_empty_38
    · have hg := hg.2 h3
      refine lv_aload_n (pc := 21) hx hb dX5_empty_21 rfl (lv_at hl 0 rfl) ?_
      refine wk_getr (pc := 22) X hH (20, 0, 0) 16 (31, 0, 0) (rf_20 hSh) rfl (by decide) rfl inX5 fl_X5_40 dX5_empty_22 ?_
      refine lv_iconst (pc := 25) (v := 4) hx hb dX5_empty_25 (by decide) ?_
      refine lv_iload_n (pc := 26) hx hb dX5_empty_26 rfl (lv_at hl 1 rfl) ?_
      refine lv_imul (pc := 27) hx hb dX5_empty_27 ?_
      refine lv_iload_n (pc := 28) hx hb dX5_empty_28 rfl (lv_at hl 2 rfl) ?_
      refine lv_iadd (pc := 29) hx hb dX5_empty_29 ?_
      refine lv_iconst (pc := 30) (v := 0) hx hb dX5_empty_30 (by decide) ?_
      obtain ⟨o4, hg⟩ := hg
      refine wk_iast (pc := 31) X hH hS (31, 0, 0) (rf_31 hSh) o4 dX5_empty_31 (fun H locs hH hS => ?_)
      refine lv_iinc (pc := 32) (k := 2) (v := (v2 + 1)) (lv' := [(2, .int (v2 + 1)), (0, .ref (ad (20, 0, 0))), (1, .int v1)]) hx hb dX5_empty_32 hl rfl rfl (by decide) rfl (fun ls hl => ?_)
      refine lv_goto (pc := 35) (tgt := 16) hx hb dX5_empty_35 (by decide) ?_
      exact ih (wk_up sg (31, 0, 0) (Int32.toNatClampNeg ((4 * v1) + v2)) 0) v1 (v2 + 1) _ (by rw [← hs0, ms_X5_empty_L16, if_neg h3]) hg ls _ _ (lv_sub hl [1, 2, 0] rfl) hH hS
def ms_X5_empty (P : Nat → Nat) (sg : wk_Sg) (a1 : Int32) : wk_Sg := (ms_X5_empty_L16 5 P (wk_up (wk_up sg (29, 0, 0) (Int32.toNatClampNeg a1) 0) (30, 0, 0) (Int32.toNatClampNeg a1) (-1))  a1 0)
def mg_X5_empty (P : Nat → Nat) (sg : wk_Sg) (a1 : Int32) : Prop := (vp_in a1 32 ∧ (vp_in a1 32 ∧ mg_X5_empty_L16 5 P (wk_up (wk_up sg (29, 0, 0) (Int32.toNatClampNeg a1) 0) (30, 0, 0) (Int32.toNatClampNeg a1) (-1))  a1 0))
set_option maxHeartbeats 4000000 in
set_option maxRecDepth 100000 in
theorem mk_X5_empty {l : Launch} {D : va_G} {T : wk_T} {z0 : Nat} {ad : wk_K3 → Nat} {sh : wk_Sh} {P : Nat → Nat} (hSh : rf_Sh T sh) (sg : wk_Sg) (a1 : Int32)  (hg : mg_X5_empty P sg a1) : wk_Mv l yX5_empty cX5_empty 3 none 0 0 D T z0 ad sh [.ref (ad (20, 0, 0)), .int a1] sg (ms_X5_empty P sg a1) := by
  refine Met.ofW (cc := cX5_empty) (maxL := 3) (ret := none) (by decide) rfl ?_
  intro p e s m args below meth c s₁ B hml hv
  obtain ⟨rfl, hz, hH, hK⟩ := hv
  have hx := B.exec
  have hb := B.bytes
  have hr := B.returns
  have hlocks := B.notSynchronized
  have hts : ∀ w ∈ wk_B, w.before _ s = true := fun w hw => atoms_spec (ws := Cond.code yX5_empty cX5_empty 3 none :: wk_B) B.pre w (List.mem_cons_of_mem _ hw)
  have X : wk_C p m c cX5_empty 3 s _ RX5 D T := ⟨⟨hx, hb, hml, findClass_of_methodNamed B.named, hts⟩, hK⟩
  have hS : va_S (wk_A z0) s.heap s.heap [] := va_S.rf
  have hl := lv_entry ([.ref (ad (20, 0, 0)), .int a1]) (n := 3) (Nat.le_of_ble_eq_true rfl)
  rw [lg_entry_eq]
  generalize (lg_sl ([.ref (ad (20, 0, 0)), .int a1]) ++ List.replicate (3 - (lg_sl ([.ref (ad (20, 0, 0)), .int a1])).length) Slot.unset).toArray = ls at hl ⊢
  have hl : lv_has ls 3 [(0, .ref (ad (20, 0, 0))), (1, .int a1)] := hl
  unfold mg_X5_empty at hg
  refine lv_aload_n (pc := 0) hx hb dX5_empty_0 rfl (lv_at hl 0 rfl) ?_
  refine wk_getr (pc := 1) X hH (20, 0, 0) 14 (29, 0, 0) (rf_20 hSh) rfl (by decide) rfl inX5 fl_X5_34 dX5_empty_1 ?_
  refine lv_iload_n (pc := 4) hx hb dX5_empty_4 rfl (lv_at hl 1 rfl) ?_
  refine lv_iconst (pc := 5) (v := 0) hx hb dX5_empty_5 (by decide) ?_
  obtain ⟨o1, hg⟩ := hg
  refine wk_iast (pc := 6) X hH hS (29, 0, 0) (rf_29 hSh) o1 dX5_empty_6 (fun H locs hH hS => ?_)
  refine lv_aload_n (pc := 7) hx hb dX5_empty_7 rfl (lv_at hl 0 rfl) ?_
  refine wk_getr (pc := 8) X hH (20, 0, 0) 15 (30, 0, 0) (rf_20 hSh) rfl (by decide) rfl inX5 fl_X5_37 dX5_empty_8 ?_
  refine lv_iload_n (pc := 11) hx hb dX5_empty_11 rfl (lv_at hl 1 rfl) ?_
  refine lv_iconst (pc := 12) (v := (-1)) hx hb dX5_empty_12 (by decide) ?_
  obtain ⟨o2, hg⟩ := hg
  refine wk_iast (pc := 13) X hH hS (30, 0, 0) (rf_30 hSh) o2 dX5_empty_13 (fun H locs hH hS => ?_)
  refine lv_iconst (pc := 14) (v := 0) hx hb dX5_empty_14 (by decide) ?_
  refine lv_istore_n (pc := 15) (lv' := [(2, .int 0), (0, .ref (ad (20, 0, 0))), (1, .int a1)]) hx hb dX5_empty_15 rfl hl (by decide) rfl (fun ls hl => ?_)
  exact mk_X5_empty_L16 (P := P) hSh   X hz hr hlocks 5 (wk_up (wk_up sg (29, 0, 0) (Int32.toNatClampNeg a1) 0) (30, 0, 0) (Int32.toNatClampNeg a1) (-1)) a1 0 _ (by rw [ms_X5_empty]) hg ls _ _ (lv_sub hl [1, 2, 0] rfl) hH hS
