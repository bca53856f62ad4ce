/-- the component's ints in a new object -/
def sc_In (P : Nat → Nat) (sg : wk_Sg) : Prop := sg (0, 0, 0) 3 = 0 ∧ sg (1, 0, 0) 0 = nI (P 2) ∧ (∀ k, sg (2, 0, 0) k = 0) ∧ (∀ i, i < P 0 → (sg (4, i, 0) 0 = nI i ∧ sg (4, i, 0) 5 = 0 ∧ sg (4, i, 0) 6 = 0 ∧ sg (4, i, 0) 7 = 0 ∧ sg (4, i, 0) 8 = 0 ∧ sg (4, i, 0) 9 = -1) ∧ (∀ k, sg (5, i, 0) k = 0) ∧ (∀ k, sg (6, i, 0) k = 0) ∧ ∀ j, j < P 1 → sg (8, i, j) 1 = 0 ∧ sg (8, i, j) 2 = -1) ∧ (sg (10, 0, 0) 4 = 0 ∧ sg (10, 0, 0) 5 = 0 ∧ sg (10, 0, 0) 6 = -1 ∧ sg (10, 0, 0) 7 = 0 ∧ sg (10, 0, 0) 8 = -1) ∧ (∀ k, sg (11, 0, 0) k = 0) ∧ ∀ k, sg (12, 0, 0) k = 0
set_option maxHeartbeats 4000000 in
set_option maxRecDepth 100000 in
theorem nk_X4 {l : Launch} {D : va_G} {T : wk_T} {z0 : Nat} {ad : wk_K3 → Nat} {sh : wk_Sh} {sg : wk_Sg} {a1 a2 a3 a4 a5 : Int32} (h0 : sh (0, 0, 0) = some (.inr (4, 4, ln_0))) (hno : ∀ κ : wk_K3, κ.1 ≤ 12 → ¬ κ = (0, 0, 0) → sh κ = none) : wk_Mn l yX4_init cX4_init 10 3 58 86 527 D T z0 ad sh [.ref (ad (0, 0, 0)), .int a1, .int a2, .int a3, .int a4, .int a5] sg (fun ad' sh' sg' => wk_ext (fun κ => κ.1 ≤ 12) ad sh sg ad' sh' sg' ∧ ad' (0, 0, 0) = ad (0, 0, 0) ∧ sc_Sh T (dp a1 a2 a3 a4 a5) sh' ∧ sc_In (dp a1 a2 a3 a4 a5) sg') := by
  have n1 : sh (1, 0, 0) = none := hno _ (by simp) (by simp)
  have n2 : sh (2, 0, 0) = none := hno _ (by simp) (by simp)
  have n3 : sh (3, 0, 0) = none := hno _ (by simp) (by simp)
  obtain ⟨x1, y1, -⟩ := dm_in (a := a1) (lo := 1) (hi := 4) (by omega) (by omega)
  obtain ⟨x2, y2, -⟩ := dm_in (a := a2) (lo := 1) (hi := 8) (by omega) (by omega)
  obtain ⟨x3, y3, -⟩ := dm_in (a := a3) (lo := 1) (hi := 4) (by omega) (by omega)
  obtain ⟨x5, y5, -⟩ := dm_in (a := a5) (lo := 1) (hi := 32) (by omega) (by omega)
  obtain ⟨x4, y4, -⟩ := dm_in (a := a4) (lo := dm a3 1 4) (hi := 64) (by omega) (by omega)
  have hml64 : dm a3 1 4 * (dm a4 (dm a3 1 4) 64 / dm a3 1 4) ≤ 64 := Nat.le_trans (Nat.mul_div_le _ _) y4
  have em : nI (dm a4 (dm a3 1 4) 64) - (nI (dm a4 (dm a3 1 4) 64) - nI (dm a4 (dm a3 1 4) 64) / nI (dm a3 1 4) * nI (dm a3 1 4)) = nI ((dm a3 1 4) * ((dm a4 (dm a3 1 4) 64) / (dm a3 1 4))) := by
    rw [pn_rem (by omega) (by omega) (by omega)]
    have e1 : (dm a3 1 4) * ((dm a4 (dm a3 1 4) 64) / (dm a3 1 4)) + (dm a4 (dm a3 1 4) 64) % (dm a3 1 4) = (dm a4 (dm a3 1 4) 64) := Nat.div_add_mod _ _
    have e2 : nI (dm a4 (dm a3 1 4) 64) = nI ((dm a3 1 4) * ((dm a4 (dm a3 1 4) 64) / (dm a3 1 4))) + nI ((dm a4 (dm a3 1 4) 64) % (dm a3 1 4)) := by rw [nI_add, e1]
    rw [e2]
    exact Int32.add_sub_cancel _ _
  refine Met.ofW (cc := cX4_init) (maxL := 10) (ret := none) (by decide) rfl ?_
  intro p e s m args below meth c s₁ B hml hv
  obtain ⟨rfl, hz, hH, hK⟩ := hv
  have hx := B.exec
  have hb := B.bytes
  have hr := B.returns
  have hlocks := B.notSynchronized
  have hin : meth.name = "<init>" := (name_of_methodNamed B.named B.method).1
  have hts : ∀ w ∈ wk_B, w.before _ s = true := fun w hw => atoms_spec (ws := Cond.code yX4_init cX4_init 10 none :: wk_B) B.pre w (List.mem_cons_of_mem _ hw)
  have X : wk_C p m c cX4_init 10 s _ RX4 D T := ⟨⟨hx, hb, hml, findClass_of_methodNamed B.named, hts⟩, hK⟩
  have hS : va_S (wk_A z0) s.heap s.heap [] := va_S.rf
  have hl := lv_entry ([.ref (ad (0, 0, 0)), .int a1, .int a2, .int a3, .int a4, .int a5]) (n := 10) (Nat.le_of_ble_eq_true rfl)
  rw [lg_entry_eq]
  generalize (lg_sl ([.ref (ad (0, 0, 0)), .int a1, .int a2, .int a3, .int a4, .int a5]) ++ List.replicate (10 - (lg_sl ([.ref (ad (0, 0, 0)), .int a1, .int a2, .int a3, .int a4, .int a5])).length) Slot.unset).toArray = ls at hl ⊢
  have hl : lv_has ls 10 [(0, .ref (ad (0, 0, 0))), (1, .int a1), (2, .int a2), (3, .int a3), (4, .int a4), (5, .int a5)] := hl
  refine lv_aload_n (pc := 0) hx hb dX4_init_0 rfl (lv_at hl 0 rfl) ?_
  refine wk_obj (pc := 1) X ml_X4_1 ok_object hl.1 ⟨by decide, Nat.le_of_ble_eq_true rfl⟩ dX4_init_1 ?_
  refine lv_aload_n (pc := 4) hx hb dX4_init_4 rfl (lv_at hl 0 rfl) ?_
  refine lv_iconst (pc := 5) (v := 0) hx hb dX4_init_5 (by decide) ?_
  refine wk_puti (pc := 6) X hH hS (0, 0, 0) 3 tyX4_ok nmX4 (show sh (0, 0, 0) = some (.inr (4, 4, ln_0)) from by simp [wk_hu, h0, n1, n2, n3]) rfl (by decide) rfl inX4 fl_X4_7 rfl rfl rfl dX4_init_6 (fun H locs hH hS => ?_)
  refine lv_iload_n (pc := 9) hx hb dX4_init_9 rfl (lv_at hl 2 rfl) ?_
  refine lv_iconst (pc := 10) (v := 1) hx hb dX4_init_10 (by decide) ?_
  refine lv_bipush (pc := 11) (v := 8) hx hb dX4_init_11 (by decide) ?_
  refine wk_ci (wk_rS (pc := 13) (fr := 1) (lo := 22) (As := [.int a2, .int 1, .int 8]) (rest := []) X hH hS hz ok_X4_limited (mk_X4_limited (l := l) (P := fun _ => 0) (wk_up sg (0, 0, 0) 3 0) a2 1 8) ml_X4_13 ⟨by decide, by decide, by show 0 ≤ 86; omega, by show 0 ≤ 527; omega⟩ rfl hl.1 rfl (Nat.le_of_ble_eq_true rfl) dX4_init_13) hS (fun H locs hH hS => ?_)
  refine lv_topi (fun y1 ey1 => ?_)
  have ey1 := ey1.trans (show _ = nI (dm a2 1 8) from (dm_lim (lo := 1) (hi := 8) (by omega) (by omega)).1)
  subst ey1
  refine lv_istore (pc := 16) (lv' := [(6, .int (nI (dm a2 1 8))), (0, .ref (ad (0, 0, 0))), (1, .int a1), (2, .int a2), (3, .int a3), (4, .int a4), (5, .int a5)]) hx hb dX4_init_16 hl (by decide) rfl (fun ls hl => ?_)
  refine lv_iload_n (pc := 18) hx hb dX4_init_18 rfl (lv_at hl 4 rfl) ?_
  refine lv_iconst (pc := 19) (v := 1) hx hb dX4_init_19 (by decide) ?_
  refine lv_iconst (pc := 20) (v := 4) hx hb dX4_init_20 (by decide) ?_
  refine wk_ci (wk_rS (pc := 21) (fr := 1) (lo := 22) (As := [.int a3, .int 1, .int 4]) (rest := []) X hH hS hz ok_X4_limited (mk_X4_limited (l := l) (P := fun _ => 0) (wk_up sg (0, 0, 0) 3 0) a3 1 4) ml_X4_13 ⟨by decide, by decide, by show 0 ≤ 86; omega, by show 0 ≤ 527; omega⟩ rfl hl.1 rfl (Nat.le_of_ble_eq_true rfl) dX4_init_21) hS (fun H locs hH hS => ?_)
  refine lv_topi (fun y2 ey2 => ?_)
  have ey2 := ey2.trans (show _ = nI (dm a3 1 4) from (dm_lim (lo := 1) (hi := 4) (by omega) (by omega)).1)
  subst ey2
  refine lv_istore (pc := 24) (lv' := [(7, .int (nI (dm a3 1 4))), (6, .int (nI (dm a2 1 8))), (0, .ref (ad (0, 0, 0))), (1, .int a1), (2, .int a2), (3, .int a3), (4, .int a4), (5, .int a5)]) hx hb dX4_init_24 hl (by decide) rfl (fun ls hl => ?_)
  refine lv_iload (pc := 26) hx hb dX4_init_26 (lv_at hl 7 rfl) ?_
  refine lv_iconst (pc := 28) (v := 1) hx hb dX4_init_28 (by decide) ?_
  refine lv_bipush (pc := 29) (v := 32) hx hb dX4_init_29 (by decide) ?_
  refine wk_ci (wk_rS (pc := 31) (fr := 1) (lo := 22) (As := [.int a5, .int 1, .int 32]) (rest := []) X hH hS hz ok_X4_limited (mk_X4_limited (l := l) (P := fun _ => 0) (wk_up sg (0, 0, 0) 3 0) a5 1 32) ml_X4_13 ⟨by decide, by decide, by show 0 ≤ 86; omega, by show 0 ≤ 527; omega⟩ rfl hl.1 rfl (Nat.le_of_ble_eq_true rfl) dX4_init_31) hS (fun H locs hH hS => ?_)
  refine lv_topi (fun y3 ey3 => ?_)
  have ey3 := ey3.trans (show _ = nI (dm a5 1 32) from (dm_lim (lo := 1) (hi := 32) (by omega) (by omega)).1)
  subst ey3
  refine lv_istore (pc := 34) (lv' := [(8, .int (nI (dm a5 1 32))), (7, .int (nI (dm a3 1 4))), (6, .int (nI (dm a2 1 8))), (0, .ref (ad (0, 0, 0))), (1, .int a1), (2, .int a2), (3, .int a3), (4, .int a4), (5, .int a5)]) hx hb dX4_init_34 hl (by decide) rfl (fun ls hl => ?_)
  refine lv_aload_n (pc := 36) hx hb dX4_init_36 rfl (lv_at hl 3 rfl) ?_
  refine wk_new (pc := 37) (ci := 2) X hH hS hz (1, 0, 0) ln_1 tyX2_ok rfl n1 ln_no1 (nd_1 ad) inX2 cl_X4_17 isX2.1 isX2.2 (by show 0 + 1 ≤ 86; omega) (by show 0 + 2 ≤ 527; omega) dX4_init_37 (fun q1 H hH hS => ?_)
  refine lv_dup (pc := 40) hx hb dX4_init_40 rfl ?_
  refine lv_iload (pc := 41) hx hb dX4_init_41 (lv_at hl 1 rfl) ?_
  refine lv_iload (pc := 43) hx hb dX4_init_43 (lv_at hl 7 rfl) ?_
  refine lv_iload (pc := 45) hx hb dX4_init_45 (lv_at hl 1 rfl) ?_
  refine lv_bipush (pc := 47) (v := 64) hx hb dX4_init_47 (by decide) ?_
  refine wk_ci (wk_rS (pc := 49) (fr := 1) (lo := 22) (As := [.int a4, .int (nI (dm a3 1 4)), .int 64]) (rest := [.int (nI (dm a3 1 4)), .ref q1, .ref q1, .ref (ad (0, 0, 0))]) X hH hS hz ok_X4_limited (mk_X4_limited (l := l) (P := fun _ => 0) (wk_su (wk_up sg (0, 0, 0) 3 0) (1, 0, 0) (fun _ => 0)) a4 (nI (dm a3 1 4)) 64) ml_X4_13 ⟨by decide, by decide, by show (0 + 1) ≤ 86; omega, by show (0 + 2) ≤ 527; omega⟩ rfl hl.1 rfl (Nat.le_of_ble_eq_true rfl) dX4_init_49) hS (fun H locs hH hS => ?_)
  refine lv_topi (fun y4 ey4 => ?_)
  have ey4 := ey4.trans (show _ = nI (dm a4 ((dm a3 1 4)) 64) from (dm_lim (lo := (dm a3 1 4)) (hi := 64) (by omega) (by omega)).1)
  subst ey4
  refine wk_r2 (b := (wk_au ad (1, 0, 0) q1) (1, 0, 0)) (by simp [wk_au]) ?_
  refine wk_cn (wk_rI (pc := 52) (fr := 1) (lo := 12) (As := [.int (nI (dm a3 1 4)), .int (nI (dm a4 (dm a3 1 4) 64))]) (rest := [.ref q1, .ref (ad (0, 0, 0))]) X hH hS hz ok_X2_init (nk_X2 (N := (dm a3 1 4) * ((dm a4 (dm a3 1 4) 64) / (dm a3 1 4))) (wk_hu_self _ _ _) (by simp [wk_hu, n2]) (pn_ne0 (by omega) (by omega)) (by rw [em]; exact pn_nneg (by omega)) (by rw [em]; exact pn_clamp (by omega)) (by omega)) ml_X4_19 ⟨by decide, by decide, by show 0 + 1 + 1 ≤ 86; omega, by show 0 + 2 + 64 ≤ 527; omega⟩ rfl hl.1 rfl (Nat.le_of_ble_eq_true rfl) dX4_init_52) hS (fun H locs ad1 sh1 sg1 hM hH hS => ?_)
  obtain ⟨m1, m2, m3, m4, m5, m6⟩ := hM
  have u0 := m1 (0, 0, 0) (by simp)
  have u3 := m1 (3, 0, 0) (by simp)
  have k0 : sh1 (0, 0, 0) = some (.inr (4, 4, ln_0)) := by rw [u0.2.1]; simp [wk_hu, h0]
  have k3 : sh1 (3, 0, 0) = none := by rw [u3.2.1]; simp [wk_hu, n3]
  have v0 : ad (0, 0, 0) = ad1 (0, 0, 0) := by rw [u0.1]; simp [wk_au]
  refine wk_r0 (b := ad1 (1, 0, 0)) (by rw [m2]; simp [wk_au]) ?_
  refine wk_r1 (b := ad1 (0, 0, 0)) v0 ?_
  refine wk_putrF (pc := 55) X hH hS (0, 0, 0) 0 (κ' := (1, 0, 0)) tyX4_ok nmX4 k0 rfl (by decide) m3 inX4 fl_X4_22 rfl hin rfl rfl rfl dX4_init_55 (fun H locs hH hS => ?_)
  refine lv_aload_n (pc := 58) hx hb dX4_init_58 rfl (lv_at hl 3 rfl) ?_
  refine lv_iload_n (pc := 59) hx hb dX4_init_59 rfl (lv_at hl 4 rfl) ?_
  refine lv_iconst (pc := 60) (v := 1) hx hb dX4_init_60 (by decide) ?_
  refine lv_iconst (pc := 61) (v := 4) hx hb dX4_init_61 (by decide) ?_
  refine wk_ci (wk_rS (pc := 62) (fr := 1) (lo := 22) (As := [.int a1, .int 1, .int 4]) (rest := [.ref (ad (0, 0, 0))]) X hH hS hz ok_X4_limited (mk_X4_limited (l := l) (P := fun _ => 0) sg1 a1 1 4) ml_X4_13 ⟨by decide, by decide, by show (0 + 1 + 1) ≤ 86; omega, by show (0 + 2 + 64) ≤ 527; omega⟩ rfl hl.1 rfl (Nat.le_of_ble_eq_true rfl) dX4_init_62) hS (fun H locs hH hS => ?_)
  refine lv_topi (fun y11 ey11 => ?_)
  have ey11 := ey11.trans (show _ = nI (dm a1 1 4) from (dm_lim (lo := 1) (hi := 4) (by omega) (by omega)).1)
  subst ey11
  refine wk_newr (pc := 65) X hH hS hz (3, 0, 0) 1 rfl (show (wk_hu sh1 (0, 0, 0) (.inr (4, 4, (wk_lu ln_0 0 (1, 0, 0))))) (3, 0, 0) = none from by simp [wk_hu, k0, m3, k3]) cl_X4_26 X.2.2.2.1 (n := (nI (dm a1 1 4))) (N := (dm a1 1 4)) (pn_nneg (by omega)) (pn_clamp (by omega)) (by omega) (by show (0 + 1 + 1) + 1 ≤ 86; omega) (by show (0 + 2 + 64) + (dm a1 1 4) ≤ 527; omega) dX4_init_65 (fun q2 H hH hS => ?_)
  refine wk_r0 (b := (wk_au ad1 (3, 0, 0) q2) (3, 0, 0)) (by simp [wk_au, v0]) ?_
  refine wk_r1 (b := (wk_au ad1 (3, 0, 0) q2) (0, 0, 0)) (by simp [wk_au, v0]) ?_
  refine wk_putrF (pc := 68) X hH hS (0, 0, 0) 1 (κ' := (3, 0, 0)) tyX4_ok nmX4 (show (wk_hu (wk_hu sh1 (0, 0, 0) (.inr (4, 4, (wk_lu ln_0 0 (1, 0, 0))))) (3, 0, 0) (.inl (.inr (T.2.1, (dm a1 1 4), (fun _ => none))))) (0, 0, 0) = some (.inr (4, 4, (wk_lu ln_0 0 (1, 0, 0)))) from by simp [wk_hu, k0, m3, k3]) rfl (by decide) (show (wk_hu (wk_hu sh1 (0, 0, 0) (.inr (4, 4, (wk_lu ln_0 0 (1, 0, 0))))) (3, 0, 0) (.inl (.inr (T.2.1, (dm a1 1 4), (fun _ => none))))) (3, 0, 0) = some (.inl (.inr (T.2.1, (dm a1 1 4), (fun _ => none)))) from by simp [wk_hu, k0, m3, k3]) inX4 fl_X4_28 rfl hin rfl rfl rfl dX4_init_68 (fun H locs hH hS => ?_)
  refine lv_iconst (pc := 71) (v := 0) hx hb dX4_init_71 (by decide) ?_
  refine lv_istore (pc := 72) (lv' := [(9, .int 0), (8, .int (nI (dm a5 1 32))), (7, .int (nI (dm a3 1 4))), (6, .int (nI (dm a2 1 8))), (0, .ref (ad (0, 0, 0))), (1, .int a1), (2, .int a2), (3, .int a3), (4, .int a4), (5, .int a5)]) hx hb dX4_init_72 hl (by decide) rfl (fun ls hl => ?_)
  refine W.widen (k := 3 + 20 * 0) (n := 70 + 110 * 0) (by omega) (by omega) ?_
  have hl2 := lv_sub (l' := [(0, .ref (ad (0, 0, 0))), (6, .int (nI (dm a2 1 8))), (8, .int (nI (dm a5 1 32))), (9, .int (nI 0))]) hl [4, 3, 1, 0] rfl
  have w1 : sg1 (1, 0, 0) 0 = nI (dm a3 1 4) := m5
  have no' : ∀ κ : wk_K3, κ.1 ≤ 12 → ¬ κ = (0, 0, 0) → ¬ κ = (1, 0, 0) → ¬ κ = (2, 0, 0) → sh1 κ = none := fun κ e1 e2 e3 e4 => by
    rw [(m1 κ (by simp [e3, e4])).2.1]
    simp [wk_hu, e3, hno κ e1 e2]
  refine nl_X4 (N := dm a3 1 4) (nS := dm a2 1 8) (cd := dm a5 1 32) (nC := dm a1 1 4) X hz hr hlocks hin (ad := (wk_au ad1 (3, 0, 0) q2)) (sh := (wk_hu (wk_hu (wk_hu sh1 (0, 0, 0) (.inr (4, 4, (wk_lu ln_0 0 (1, 0, 0))))) (3, 0, 0) (.inl (.inr (T.2.1, (dm a1 1 4), (fun _ => none))))) (0, 0, 0) (.inr (4, 4, (wk_lu (wk_lu ln_0 0 (1, 0, 0)) 1 (3, 0, 0)))))) (sg := sg1) ?_ ?_ ?_ ?_ ?_ (by simp [wk_au, v0]) (by rw [w1]; exact pn_nneg (by omega)) (by rw [w1]; exact pn_clamp (by omega)) (by omega) (by omega) (by omega) (by omega) (fun ad2 sh2 sg2 ad' sh' sg' hJ q1 q2 q3 q4 q5 => ?_) (dm a1 1 4) 0 _ _ _ ls H locs (by omega) ?_ hl2 hH hS
  · simp [wk_hu]
  · simp [wk_hu, m3]
  · simp [wk_hu, no' (10, 0, 0)]
  · simp [wk_hu, no' (11, 0, 0)]
  · simp [wk_hu, no' (12, 0, 0)]
  · obtain ⟨j1, j2, j3, j4, j5⟩ := hJ
    obtain ⟨b1, b2, b3, b4, b5, b6⟩ := q5
    -- what stands of the earlier cells
    have low : ∀ κ : wk_K3, ¬ κ = (0, 0, 0) → κ.1 ≤ 2 → sh' κ = sh1 κ ∧ sg' κ = sg1 κ := fun κ e1 e2 => by
      have g1 := q1 κ (by simp [e1]; omega)
      have g2 := j1 κ (by omega)
      have e3 : ¬ κ = (3, 0, 0) := fun z => by rw [z] at e2; simp at e2
      exact ⟨by rw [g1.2.1, g2.2.1]; simp [wk_hu, e1, e3], by rw [g1.2.2, g2.2.2]⟩
    have mid : ∀ κ : wk_K3, 3 ≤ κ.1 → κ.1 ≤ 9 → sh' κ = sh2 κ ∧ sg' κ = sg2 κ := fun κ e1 e2 => by
      have g1 := q1 κ (by rintro (z | z); (rw [z] at e1; simp at e1); omega)
      exact ⟨g1.2.1, g1.2.2⟩
    have cf : ∀ i, i < dm a1 1 4 → cf_X1 T i (dm a3 1 4) (dm a2 1 8) (dm a5 1 32) sh' sg' := fun i hi => (j5 i hi).ext (fun κ _ e2 e3 => mid κ (by omega) e3)
    refine ⟨fun κ hκ => ?_, ?_, ⟨q3, ?_, ?_, ?_, ?_, ?_, ?_, ?_, ?_, ?_, b1, b2, b3⟩, ?_, ?_, ?_, fun i hi => ?_, b4, b5, b6⟩
    · have hκ : ¬ κ.1 ≤ 12 := hκ
      have e0 : ∀ t i j, t ≤ 12 → ¬ κ = (t, i, j) := fun t i j ht z => hκ (by rw [z]; exact ht)
      obtain ⟨z1, z2, z3⟩ := q1 κ (by rintro (z | z); exact e0 0 0 0 (by omega) z; omega)
      obtain ⟨w1', w2, w3⟩ := j1 κ (by omega)
      obtain ⟨t1, t2, t3⟩ := m1 κ (by simp [e0])
      refine ⟨by rw [z1, w1']; simp [wk_au, e0, t1], by rw [z2, w2]; simp [wk_hu, e0, t2], ?_⟩
      rw [z3, w3, t3]
      funext k
      simp [wk_up_at, wk_su_at, e0]
    · rw [q2, (j1 (0, 0, 0) (by simp)).1]
      simp [wk_au, v0]
    · rw [(low (1, 0, 0) (by simp) (by simp)).1]; exact m3
    · rw [(low (2, 0, 0) (by simp) (by simp)).1]; exact m4
    · rw [(mid (3, 0, 0) (by simp) (by simp)).1]; exact j3
    · exact fun i hi => (cf i hi).1
    · exact fun i hi => (cf i hi).2.1
    · exact fun i hi => (cf i hi).2.2.1
    · exact fun i hi => (cf i hi).2.2.2.1
    · exact fun i j hi hj => ((cf i hi).2.2.2.2.1 j hj).1
    · exact fun i j hi hj => ((cf i hi).2.2.2.2.1 j hj).2.1
    · rw [q4, (j1 (0, 0, 0) (by simp)).2.2, u0.2.2]
      simp [wk_up_at, wk_su_at]
    · rw [(low (1, 0, 0) (by simp) (by simp)).2]; exact w1
    · rw [(low (2, 0, 0) (by simp) (by simp)).2]; exact m6
    · obtain ⟨-, -, -, -, c5, c6, c7, c8⟩ := cf i hi
      exact ⟨c6, c7, c8, fun j hj => ⟨(c5 j hj).2.2.1, (c5 j hj).2.2.2.1⟩⟩
  · refine ⟨fun κ _ => ⟨rfl, rfl, rfl⟩, rfl, ?_, fun κ e1 e2 e3 => ?_, fun i hi => absurd hi (by omega)⟩
    · simp [wk_hu]
      funext j
      simp [lq_3]
    · have z0' : ¬ κ = (0, 0, 0) := fun z => by rw [z] at e2; simp at e2
      have z1 : ¬ κ = (1, 0, 0) := fun z => by rw [z] at e2; simp at e2
      have z2 : ¬ κ = (2, 0, 0) := fun z => by rw [z] at e2; simp at e2
      have z3 : ¬ κ = (3, 0, 0) := fun z => by rw [z] at e2; simp at e2
      simp [wk_hu, z0', z3, no' κ (by omega) z0' z1 z2]
