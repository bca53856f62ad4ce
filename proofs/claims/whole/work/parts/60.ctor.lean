def ln_0 : wk_L := fun k => match k with
  | 0 => some none
  | 1 => some none
  | 2 => some none
  | _ => none
def ln_1 : wk_L := fun k => match k with
  | 1 => some none
  | _ => none
def ln_4 : wk_L := fun k => match k with
  | 1 => some none
  | 2 => some none
  | 3 => some none
  | 4 => some none
  | _ => none
def ln_8 : wk_L := fun k => match k with
  | 0 => some none
  | _ => none
def ln_10 : wk_L := fun k => match k with
  | 0 => some none
  | 1 => some none
  | 2 => some none
  | 3 => some none
  | _ => none
def ln_20 : wk_L := fun k => match k with
  | 5 => some none
  | 6 => some none
  | 8 => some none
  | 9 => some none
  | 10 => some none
  | 11 => some none
  | 12 => some none
  | 13 => some none
  | 14 => some none
  | 15 => some none
  | 16 => some none
  | 22 => some none
  | 23 => some none
  | _ => none
theorem lu_8 (i j : Nat) : wk_lu ln_8 0 (9, i, j) = lk_8 i j := by
  funext k
  match k with
  | 0 => rfl
  | 1 => rfl
  | 2 => rfl
  | n + 3 => simp [wk_lu, lk_8, ln_8]
theorem lu_1 : wk_lu ln_1 1 (2, 0, 0) = lk_1 := by
  funext k
  match k with
  | 0 => rfl
  | 1 => rfl
  | n + 2 => simp [wk_lu, lk_1, ln_1]
theorem lu_10 : wk_lu (wk_lu (wk_lu (wk_lu ln_10 2 (11, 0, 0)) 0 (3, 0, 0)) 1 (1, 0, 0)) 3 (12, 0, 0) = lk_10 := by
  funext k
  match k with
  | 0 => rfl
  | 1 => rfl
  | 2 => rfl
  | 3 => rfl
  | 4 => rfl
  | 5 => rfl
  | 6 => rfl
  | 7 => rfl
  | 8 => rfl
  | n + 9 => simp [wk_lu, lk_10, ln_10]
theorem lu_4 (i : Nat) : wk_lu (wk_lu (wk_lu (wk_lu ln_4 3 (6, i, 0)) 1 (1, 0, 0)) 2 (5, i, 0)) 4 (7, i, 0) = lk_4 i := by
  funext k
  match k with
  | 0 => rfl
  | 1 => rfl
  | 2 => rfl
  | 3 => rfl
  | 4 => rfl
  | 5 => rfl
  | 6 => rfl
  | 7 => rfl
  | 8 => rfl
  | 9 => rfl
  | n + 10 => simp [wk_lu, lk_4, ln_4]
theorem lu_0 : wk_lu (wk_lu (wk_lu ln_0 0 (1, 0, 0)) 1 (3, 0, 0)) 2 (10, 0, 0) = lk_0 := by
  funext k
  match k with
  | 0 => rfl
  | 1 => rfl
  | 2 => rfl
  | 3 => rfl
  | n + 4 => simp [wk_lu, lk_0, ln_0]
theorem lu_20 : (wk_lu (wk_lu (wk_lu (wk_lu (wk_lu (wk_lu (wk_lu (wk_lu (wk_lu (wk_lu (wk_lu (wk_lu (wk_lu ln_20 5 (21, 0, 0)) 6 (22, 0, 0)) 8 (23, 0, 0)) 9 (24, 0, 0)) 10 (25, 0, 0)) 11 (26, 0, 0)) 12 (27, 0, 0)) 13 (28, 0, 0)) 14 (29, 0, 0)) 15 (30, 0, 0)) 16 (31, 0, 0)) 22 (32, 0, 0)) 23 (33, 0, 0)) = lk_20 := by
  funext k
  match k with
  | 0 => rfl
  | 1 => rfl
  | 2 => rfl
  | 3 => rfl
  | 4 => rfl
  | 5 => rfl
  | 6 => rfl
  | 7 => rfl
  | 8 => rfl
  | 9 => rfl
  | 10 => rfl
  | 11 => rfl
  | 12 => rfl
  | 13 => rfl
  | 14 => rfl
  | 15 => rfl
  | 16 => rfl
  | 17 => rfl
  | 18 => rfl
  | 19 => rfl
  | 20 => rfl
  | 21 => rfl
  | 22 => rfl
  | 23 => rfl
  | n + 24 => simp [wk_lu, lk_20, ln_20]
set_option maxHeartbeats 4000000 in
set_option maxRecDepth 100000 in
theorem nk_X3 {l : Launch} {D : va_G} {T : wk_T} {z0 : Nat} {ad : wk_K3 → Nat} {sh : wk_Sh} {sg : wk_Sg} {i j N : Nat} {a1 : Int32} (h8 : sh (8, i, j) = some (.inr (3, 3, ln_8))) (h9 : sh (9, i, j) = none) (hneg : ¬ a1 < 0) (hN : a1.toNatClampNeg = N) (hN4 : N ≤ 4) : wk_Mn l yX3_init cX3_init 2 1 12 1 4 D T z0 ad sh [.ref (ad (8, i, j)), .int a1] sg (fun ad' sh' sg' => wk_ext (fun κ => κ = (8, i, j) ∨ κ = (9, i, j)) ad sh sg ad' sh' sg' ∧ ad' (8, i, j) = ad (8, i, j) ∧ sh' (8, i, j) = some (.inr (3, 3, lk_8 i j)) ∧ sh' (9, i, j) = some (.inl (.inl (T.1, N))) ∧ sg' (8, i, j) 1 = 0 ∧ sg' (8, i, j) 2 = -1 ∧ ∀ k, sg' (9, i, j) k = 0) := by
  have hby : N * 4 ≤ 536870912 := by omega
  refine Met.ofW (cc := cX3_init) (maxL := 2) (ret := none) (by decide) rfl ?_
  intro p e s m args below meth c s₁ B hml hv
  obtain ⟨rfl, hz, hH, hK⟩ := hv
  have hx := B.exec
  have hb := B.bytes
  have hr := B.returns
  have hlocks := B.notSynchronized
  have hin : meth.name = "<init>" := (name_of_methodNamed B.named B.method).1
  have hts : ∀ w ∈ wk_B, w.before _ s = true := fun w hw => atoms_spec (ws := Cond.code yX3_init cX3_init 2 none :: wk_B) B.pre w (List.mem_cons_of_mem _ hw)
  have X : wk_C p m c cX3_init 2 s _ RX3 D T := ⟨⟨hx, hb, hml, findClass_of_methodNamed B.named, hts⟩, hK⟩
  have hS : va_S (wk_A z0) s.heap s.heap [] := va_S.rf
  have hl := lv_entry ([.ref (ad (8, i, j)), .int a1]) (n := 2) (Nat.le_of_ble_eq_true rfl)
  rw [lg_entry_eq]
  generalize (lg_sl ([.ref (ad (8, i, j)), .int a1]) ++ List.replicate (2 - (lg_sl ([.ref (ad (8, i, j)), .int a1])).length) Slot.unset).toArray = ls at hl ⊢
  have hl : lv_has ls 2 [(0, .ref (ad (8, i, j))), (1, .int a1)] := hl
  refine lv_aload_n (pc := 0) hx hb dX3_init_0 rfl (lv_at hl 0 rfl) ?_
  refine wk_obj (pc := 1) X ml_X3_3 ok_object hl.1 ⟨by decide, Nat.le_of_ble_eq_true rfl⟩ dX3_init_1 ?_
  refine lv_aload_n (pc := 4) hx hb dX3_init_4 rfl (lv_at hl 0 rfl) ?_
  refine lv_iconst (pc := 5) (v := 0) hx hb dX3_init_5 (by decide) ?_
  refine wk_puti (pc := 6) X hH hS (8, i, j) 1 tyX3_ok nmX3 (show sh (8, i, j) = some (.inr (3, 3, ln_8)) from by simp [wk_hu, h8, h9]) rfl (by decide) rfl inX3 fl_X3_9 rfl rfl rfl dX3_init_6 (fun H locs hH hS => ?_)
  refine lv_aload_n (pc := 9) hx hb dX3_init_9 rfl (lv_at hl 0 rfl) ?_
  refine lv_iconst (pc := 10) (v := (-1)) hx hb dX3_init_10 (by decide) ?_
  refine wk_puti (pc := 11) X hH hS (8, i, j) 2 tyX3_ok nmX3 (show sh (8, i, j) = some (.inr (3, 3, ln_8)) from by simp [wk_hu, h8, h9]) rfl (by decide) rfl inX3 fl_X3_15 rfl rfl rfl dX3_init_11 (fun H locs hH hS => ?_)
  refine lv_aload_n (pc := 14) hx hb dX3_init_14 rfl (lv_at hl 0 rfl) ?_
  refine lv_iload_n (pc := 15) hx hb dX3_init_15 rfl (lv_at hl 1 rfl) ?_
  refine wk_newi (pc := 16) X hH hS hz (9, i, j) (show sh (9, i, j) = none from by simp [wk_hu, h8, h9]) ac_int (n := a1) (N := N) hneg hN hby (by show 0 + 1 ≤ 1; omega) (by show 0 + N ≤ 4; omega) dX3_init_16 (fun q1 H hH hS => ?_)
  refine wk_r0 (b := (wk_au ad (9, i, j) q1) (9, i, j)) (by simp [wk_au]) ?_
  refine wk_r1 (b := (wk_au ad (9, i, j) q1) (8, i, j)) (by simp [wk_au]) ?_
  refine wk_putrF (pc := 18) X hH hS (8, i, j) 0 (κ' := (9, i, j)) tyX3_ok nmX3 (show (wk_hu sh (9, i, j) (.inl (.inl (T.1, N)))) (8, i, j) = some (.inr (3, 3, ln_8)) from by simp [wk_hu, h8, h9]) rfl (by decide) (show (wk_hu sh (9, i, j) (.inl (.inl (T.1, N)))) (9, i, j) = some (.inl (.inl (T.1, N))) from by simp [wk_hu, h8, h9]) inX3 fl_X3_18 rfl hin rfl rfl rfl dX3_init_18 (fun H locs hH hS => ?_)
  refine W.widen (k := 1) (n := 4) (by omega) (by omega) ?_
  refine wk_nret (pc := 21) X hH hS hr hlocks ⟨fun κ hκ => ?_, ?_, ?_, ?_, ?_, ?_, ?_⟩ dX3_init_21
  · obtain ⟨n1, n2⟩ := not_or.mp hκ
    refine ⟨by simp [wk_au, n2], by simp [wk_hu, n1, n2], ?_⟩
    funext k
    simp [wk_up_at, wk_su_at, n1, n2]
  · simp [wk_au]
  · simp [wk_hu, lu_8]
  · simp [wk_hu]
  · simp [wk_up_at, wk_su_at]
  · simp [wk_up_at, wk_su_at]
  · intro k; simp [wk_up_at, wk_su_at]
set_option maxHeartbeats 4000000 in
set_option maxRecDepth 100000 in
theorem nk_X2 {l : Launch} {D : va_G} {T : wk_T} {z0 : Nat} {ad : wk_K3 → Nat} {sh : wk_Sh} {sg : wk_Sg} {N : Nat} {a1 a2 : Int32} (h1 : sh (1, 0, 0) = some (.inr (2, 2, ln_1))) (h2 : sh (2, 0, 0) = none) (hnz : ¬ a1 = 0) (hneg : ¬ (a2 - (a2 - a2 / a1 * a1)) < 0) (hN : (a2 - (a2 - a2 / a1 * a1)).toNatClampNeg = N) (hN4 : N ≤ 64) : wk_Mn l yX2_init cX2_init 3 1 12 1 64 D T z0 ad sh [.ref (ad (1, 0, 0)), .int a1, .int a2] sg (fun ad' sh' sg' => wk_ext (fun κ => κ = (1, 0, 0) ∨ κ = (2, 0, 0)) ad sh sg ad' sh' sg' ∧ ad' (1, 0, 0) = ad (1, 0, 0) ∧ sh' (1, 0, 0) = some (.inr (2, 2, lk_1)) ∧ sh' (2, 0, 0) = some (.inl (.inl (T.1, N))) ∧ sg' (1, 0, 0) 0 = a1 ∧ ∀ k, sg' (2, 0, 0) k = 0) := by
  have hby : N * 4 ≤ 536870912 := by omega
  refine Met.ofW (cc := cX2_init) (maxL := 3) (ret := none) (by decide) rfl ?_
  intro p e s m args below meth c s₁ B hml hv
  obtain ⟨rfl, hz, hH, hK⟩ := hv
  have hx := B.exec
  have hb := B.bytes
  have hr := B.returns
  have hlocks := B.notSynchronized
  have hin : meth.name = "<init>" := (name_of_methodNamed B.named B.method).1
  have hts : ∀ w ∈ wk_B, w.before _ s = true := fun w hw => atoms_spec (ws := Cond.code yX2_init cX2_init 3 none :: wk_B) B.pre w (List.mem_cons_of_mem _ hw)
  have X : wk_C p m c cX2_init 3 s _ RX2 D T := ⟨⟨hx, hb, hml, findClass_of_methodNamed B.named, hts⟩, hK⟩
  have hS : va_S (wk_A z0) s.heap s.heap [] := va_S.rf
  have hl := lv_entry ([.ref (ad (1, 0, 0)), .int a1, .int a2]) (n := 3) (Nat.le_of_ble_eq_true rfl)
  rw [lg_entry_eq]
  generalize (lg_sl ([.ref (ad (1, 0, 0)), .int a1, .int a2]) ++ List.replicate (3 - (lg_sl ([.ref (ad (1, 0, 0)), .int a1, .int a2])).length) Slot.unset).toArray = ls at hl ⊢
  have hl : lv_has ls 3 [(0, .ref (ad (1, 0, 0))), (1, .int a1), (2, .int a2)] := hl
  refine lv_aload_n (pc := 0) hx hb dX2_init_0 rfl (lv_at hl 0 rfl) ?_
  refine wk_obj (pc := 1) X ml_X2_3 ok_object hl.1 ⟨by decide, Nat.le_of_ble_eq_true rfl⟩ dX2_init_1 ?_
  refine lv_aload_n (pc := 4) hx hb dX2_init_4 rfl (lv_at hl 0 rfl) ?_
  refine lv_iload_n (pc := 5) hx hb dX2_init_5 rfl (lv_at hl 1 rfl) ?_
  refine wk_putiF (pc := 6) X hH hS (1, 0, 0) 0 tyX2_ok nmX2 (show sh (1, 0, 0) = some (.inr (2, 2, ln_1)) from by simp [wk_hu, h1, h2]) rfl (by decide) rfl inX2 fl_X2_9 rfl hin rfl rfl rfl dX2_init_6 (fun H locs hH hS => ?_)
  refine lv_aload_n (pc := 9) hx hb dX2_init_9 rfl (lv_at hl 0 rfl) ?_
  refine lv_iload_n (pc := 10) hx hb dX2_init_10 rfl (lv_at hl 2 rfl) ?_
  refine lv_iload_n (pc := 11) hx hb dX2_init_11 rfl (lv_at hl 2 rfl) ?_
  refine lv_iload_n (pc := 12) hx hb dX2_init_12 rfl (lv_at hl 1 rfl) ?_
  refine lv_irem (pc := 13) hx hb dX2_init_13 hnz ?_
  refine lv_isub (pc := 14) hx hb dX2_init_14 ?_
  refine wk_newi (pc := 15) X hH hS hz (2, 0, 0) (show sh (2, 0, 0) = none from by simp [wk_hu, h1, h2]) ac_int (n := (a2 - (a2 - a2 / a1 * a1))) (N := N) hneg hN hby (by show 0 + 1 ≤ 1; omega) (by show 0 + N ≤ 64; omega) dX2_init_15 (fun q1 H hH hS => ?_)
  refine wk_r0 (b := (wk_au ad (2, 0, 0) q1) (2, 0, 0)) (by simp [wk_au]) ?_
  refine wk_r1 (b := (wk_au ad (2, 0, 0) q1) (1, 0, 0)) (by simp [wk_au]) ?_
  refine wk_putrF (pc := 17) X hH hS (1, 0, 0) 1 (κ' := (2, 0, 0)) tyX2_ok nmX2 (show (wk_hu sh (2, 0, 0) (.inl (.inl (T.1, N)))) (1, 0, 0) = some (.inr (2, 2, ln_1)) from by simp [wk_hu, h1, h2]) rfl (by decide) (show (wk_hu sh (2, 0, 0) (.inl (.inl (T.1, N)))) (2, 0, 0) = some (.inl (.inl (T.1, N))) from by simp [wk_hu, h1, h2]) inX2 fl_X2_15 rfl hin rfl rfl rfl dX2_init_17 (fun H locs hH hS => ?_)
  refine W.widen (k := 1) (n := 64) (by omega) (by omega) ?_
  refine wk_nret (pc := 20) X hH hS hr hlocks ⟨fun κ hκ => ?_, ?_, ?_, ?_, ?_, ?_⟩ dX2_init_20
  · obtain ⟨n1, n2⟩ := not_or.mp hκ
    refine ⟨by simp [wk_au, n2], by simp [wk_hu, n1, n2], ?_⟩
    funext k
    simp [wk_up_at, wk_su_at, n1, n2]
  · simp [wk_au]
  · simp [wk_hu, lu_1]
  · simp [wk_hu]
  · simp [wk_up_at, wk_su_at]
  · intro k; simp [wk_up_at, wk_su_at]
set_option maxHeartbeats 4000000 in
set_option maxRecDepth 100000 in
theorem nk_X0 {l : Launch} {D : va_G} {T : wk_T} {z0 : Nat} {ad : wk_K3 → Nat} {sh : wk_Sh} {sg : wk_Sg} {N N3 : Nat} {cA : ClassId} {lk3 : Nat → Option wk_K3} (h10 : sh (10, 0, 0) = some (.inr (0, 9, ln_10))) (h11 : sh (11, 0, 0) = none) (h12 : sh (12, 0, 0) = none) (h3 : sh (3, 0, 0) = some (.inl (.inr (cA, N3, lk3)))) (h1 : sh (1, 0, 0) = some (.inr (2, 2, lk_1))) (hneg : ¬ sg (1, 0, 0) 0 < 0) (hN : (sg (1, 0, 0) 0).toNatClampNeg = N) (hN4 : N ≤ 4) : wk_Mn l yX0_init cX0_init 3 1 12 2 8 D T z0 ad sh [.ref (ad (10, 0, 0)), .ref (ad (3, 0, 0)), .ref (ad (1, 0, 0))] sg (fun ad' sh' sg' => wk_ext (fun κ => κ = (10, 0, 0) ∨ κ = (11, 0, 0) ∨ κ = (12, 0, 0)) ad sh sg ad' sh' sg' ∧ ad' (10, 0, 0) = ad (10, 0, 0) ∧ sh' (10, 0, 0) = some (.inr (0, 9, lk_10)) ∧ sh' (11, 0, 0) = some (.inl (.inl (T.1, 4))) ∧ sh' (12, 0, 0) = some (.inl (.inl (T.1, N))) ∧ (sg' (10, 0, 0) 4 = 0 ∧ sg' (10, 0, 0) 5 = 0 ∧ sg' (10, 0, 0) 6 = -1 ∧ sg' (10, 0, 0) 7 = 0 ∧ sg' (10, 0, 0) 8 = -1) ∧ (∀ k, sg' (11, 0, 0) k = 0) ∧ ∀ k, sg' (12, 0, 0) k = 0) := by
  have hby : N * 4 ≤ 536870912 := by omega
  refine Met.ofW (cc := cX0_init) (maxL := 3) (ret := none) (by decide) rfl ?_
  intro p e s m args below meth c s₁ B hml hv
  obtain ⟨rfl, hz, hH, hK⟩ := hv
  have hx := B.exec
  have hb := B.bytes
  have hr := B.returns
  have hlocks := B.notSynchronized
  have hin : meth.name = "<init>" := (name_of_methodNamed B.named B.method).1
  have hts : ∀ w ∈ wk_B, w.before _ s = true := fun w hw => atoms_spec (ws := Cond.code yX0_init cX0_init 3 none :: wk_B) B.pre w (List.mem_cons_of_mem _ hw)
  have X : wk_C p m c cX0_init 3 s _ RX0 D T := ⟨⟨hx, hb, hml, findClass_of_methodNamed B.named, hts⟩, hK⟩
  have hS : va_S (wk_A z0) s.heap s.heap [] := va_S.rf
  have hl := lv_entry ([.ref (ad (10, 0, 0)), .ref (ad (3, 0, 0)), .ref (ad (1, 0, 0))]) (n := 3) (Nat.le_of_ble_eq_true rfl)
  rw [lg_entry_eq]
  generalize (lg_sl ([.ref (ad (10, 0, 0)), .ref (ad (3, 0, 0)), .ref (ad (1, 0, 0))]) ++ List.replicate (3 - (lg_sl ([.ref (ad (10, 0, 0)), .ref (ad (3, 0, 0)), .ref (ad (1, 0, 0))])).length) Slot.unset).toArray = ls at hl ⊢
  have hl : lv_has ls 3 [(0, .ref (ad (10, 0, 0))), (1, .ref (ad (3, 0, 0))), (2, .ref (ad (1, 0, 0)))] := hl
  refine lv_aload_n (pc := 0) hx hb dX0_init_0 rfl (lv_at hl 0 rfl) ?_
  refine wk_obj (pc := 1) X ml_X0_3 ok_object hl.1 ⟨by decide, Nat.le_of_ble_eq_true rfl⟩ dX0_init_1 ?_
  refine lv_aload_n (pc := 4) hx hb dX0_init_4 rfl (lv_at hl 0 rfl) ?_
  refine lv_iconst (pc := 5) (v := 4) hx hb dX0_init_5 (by decide) ?_
  refine wk_newi (pc := 6) X hH hS hz (11, 0, 0) (show sh (11, 0, 0) = none from by simp [wk_hu, h10, h11, h12, h3, h1]) ac_int (n := 4) (N := 4) (by decide) (by decide) (by decide) (by show 0 + 1 ≤ 2; omega) (by show 0 + 4 ≤ 8; omega) dX0_init_6 (fun q1 H hH hS => ?_)
  refine wk_r0 (b := (wk_au ad (11, 0, 0) q1) (11, 0, 0)) (by simp [wk_au]) ?_
  refine wk_r1 (b := (wk_au ad (11, 0, 0) q1) (10, 0, 0)) (by simp [wk_au]) ?_
  refine wk_putrF (pc := 8) X hH hS (10, 0, 0) 2 (κ' := (11, 0, 0)) tyX0_ok nmX0 (show (wk_hu sh (11, 0, 0) (.inl (.inl (T.1, 4)))) (10, 0, 0) = some (.inr (0, 9, ln_10)) from by simp [wk_hu, h10, h11, h12, h3, h1]) rfl (by decide) (show (wk_hu sh (11, 0, 0) (.inl (.inl (T.1, 4)))) (11, 0, 0) = some (.inl (.inl (T.1, 4))) from by simp [wk_hu, h10, h11, h12, h3, h1]) inX0 fl_X0_9 rfl hin rfl rfl rfl dX0_init_8 (fun H locs hH hS => ?_)
  refine lv_aload_n (pc := 11) hx hb dX0_init_11 rfl (lv_at hl 0 rfl) ?_
  refine lv_iconst (pc := 12) (v := 0) hx hb dX0_init_12 (by decide) ?_
  refine wk_r1 (b := (wk_au ad (11, 0, 0) q1) (10, 0, 0)) (by simp [wk_au]) ?_
  refine wk_puti (pc := 13) X hH hS (10, 0, 0) 4 tyX0_ok nmX0 (show (wk_hu (wk_hu sh (11, 0, 0) (.inl (.inl (T.1, 4)))) (10, 0, 0) (.inr (0, 9, (wk_lu ln_10 2 (11, 0, 0))))) (10, 0, 0) = some (.inr (0, 9, (wk_lu ln_10 2 (11, 0, 0)))) from by simp [wk_hu, h10, h11, h12, h3, h1]) rfl (by decide) rfl inX0 fl_X0_15 rfl rfl rfl dX0_init_13 (fun H locs hH hS => ?_)
  refine lv_aload_n (pc := 16) hx hb dX0_init_16 rfl (lv_at hl 0 rfl) ?_
  refine lv_iconst (pc := 17) (v := 0) hx hb dX0_init_17 (by decide) ?_
  refine wk_r1 (b := (wk_au ad (11, 0, 0) q1) (10, 0, 0)) (by simp [wk_au]) ?_
  refine wk_puti (pc := 18) X hH hS (10, 0, 0) 5 tyX0_ok nmX0 (show (wk_hu (wk_hu sh (11, 0, 0) (.inl (.inl (T.1, 4)))) (10, 0, 0) (.inr (0, 9, (wk_lu ln_10 2 (11, 0, 0))))) (10, 0, 0) = some (.inr (0, 9, (wk_lu ln_10 2 (11, 0, 0)))) from by simp [wk_hu, h10, h11, h12, h3, h1]) rfl (by decide) rfl inX0 fl_X0_19 rfl rfl rfl dX0_init_18 (fun H locs hH hS => ?_)
  refine lv_aload_n (pc := 21) hx hb dX0_init_21 rfl (lv_at hl 0 rfl) ?_
  refine lv_iconst (pc := 22) (v := (-1)) hx hb dX0_init_22 (by decide) ?_
  refine wk_r1 (b := (wk_au ad (11, 0, 0) q1) (10, 0, 0)) (by simp [wk_au]) ?_
  refine wk_puti (pc := 23) X hH hS (10, 0, 0) 6 tyX0_ok nmX0 (show (wk_hu (wk_hu sh (11, 0, 0) (.inl (.inl (T.1, 4)))) (10, 0, 0) (.inr (0, 9, (wk_lu ln_10 2 (11, 0, 0))))) (10, 0, 0) = some (.inr (0, 9, (wk_lu ln_10 2 (11, 0, 0)))) from by simp [wk_hu, h10, h11, h12, h3, h1]) rfl (by decide) rfl inX0 fl_X0_23 rfl rfl rfl dX0_init_23 (fun H locs hH hS => ?_)
  refine lv_aload_n (pc := 26) hx hb dX0_init_26 rfl (lv_at hl 0 rfl) ?_
  refine lv_iconst (pc := 27) (v := 0) hx hb dX0_init_27 (by decide) ?_
  refine wk_r1 (b := (wk_au ad (11, 0, 0) q1) (10, 0, 0)) (by simp [wk_au]) ?_
  refine wk_puti (pc := 28) X hH hS (10, 0, 0) 7 tyX0_ok nmX0 (show (wk_hu (wk_hu sh (11, 0, 0) (.inl (.inl (T.1, 4)))) (10, 0, 0) (.inr (0, 9, (wk_lu ln_10 2 (11, 0, 0))))) (10, 0, 0) = some (.inr (0, 9, (wk_lu ln_10 2 (11, 0, 0)))) from by simp [wk_hu, h10, h11, h12, h3, h1]) rfl (by decide) rfl inX0 fl_X0_26 rfl rfl rfl dX0_init_28 (fun H locs hH hS => ?_)
  refine lv_aload_n (pc := 31) hx hb dX0_init_31 rfl (lv_at hl 0 rfl) ?_
  refine lv_iconst (pc := 32) (v := (-1)) hx hb dX0_init_32 (by decide) ?_
  refine wk_r1 (b := (wk_au ad (11, 0, 0) q1) (10, 0, 0)) (by simp [wk_au]) ?_
  refine wk_puti (pc := 33) X hH hS (10, 0, 0) 8 tyX0_ok nmX0 (show (wk_hu (wk_hu sh (11, 0, 0) (.inl (.inl (T.1, 4)))) (10, 0, 0) (.inr (0, 9, (wk_lu ln_10 2 (11, 0, 0))))) (10, 0, 0) = some (.inr (0, 9, (wk_lu ln_10 2 (11, 0, 0)))) from by simp [wk_hu, h10, h11, h12, h3, h1]) rfl (by decide) rfl inX0 fl_X0_29 rfl rfl rfl dX0_init_33 (fun H locs hH hS => ?_)
  refine lv_aload_n (pc := 36) hx hb dX0_init_36 rfl (lv_at hl 0 rfl) ?_
  refine lv_aload_n (pc := 37) hx hb dX0_init_37 rfl (lv_at hl 1 rfl) ?_
  refine wk_r0 (b := (wk_au ad (11, 0, 0) q1) (3, 0, 0)) (by simp [wk_au]) ?_
  refine wk_r1 (b := (wk_au ad (11, 0, 0) q1) (10, 0, 0)) (by simp [wk_au]) ?_
  refine wk_putrF (pc := 38) X hH hS (10, 0, 0) 0 (κ' := (3, 0, 0)) tyX0_ok nmX0 (show (wk_hu (wk_hu sh (11, 0, 0) (.inl (.inl (T.1, 4)))) (10, 0, 0) (.inr (0, 9, (wk_lu ln_10 2 (11, 0, 0))))) (10, 0, 0) = some (.inr (0, 9, (wk_lu ln_10 2 (11, 0, 0)))) from by simp [wk_hu, h10, h11, h12, h3, h1]) rfl (by decide) (show (wk_hu (wk_hu sh (11, 0, 0) (.inl (.inl (T.1, 4)))) (10, 0, 0) (.inr (0, 9, (wk_lu ln_10 2 (11, 0, 0))))) (3, 0, 0) = some (.inl (.inr (cA, N3, lk3))) from by simp [wk_hu, h10, h11, h12, h3, h1]) inX0 fl_X0_32 rfl hin rfl rfl rfl dX0_init_38 (fun H locs hH hS => ?_)
  refine lv_aload_n (pc := 41) hx hb dX0_init_41 rfl (lv_at hl 0 rfl) ?_
  refine lv_aload_n (pc := 42) hx hb dX0_init_42 rfl (lv_at hl 2 rfl) ?_
  refine wk_r0 (b := (wk_au ad (11, 0, 0) q1) (1, 0, 0)) (by simp [wk_au]) ?_
  refine wk_r1 (b := (wk_au ad (11, 0, 0) q1) (10, 0, 0)) (by simp [wk_au]) ?_
  refine wk_putrF (pc := 43) X hH hS (10, 0, 0) 1 (κ' := (1, 0, 0)) tyX0_ok nmX0 (show (wk_hu (wk_hu (wk_hu sh (11, 0, 0) (.inl (.inl (T.1, 4)))) (10, 0, 0) (.inr (0, 9, (wk_lu ln_10 2 (11, 0, 0))))) (10, 0, 0) (.inr (0, 9, (wk_lu (wk_lu ln_10 2 (11, 0, 0)) 0 (3, 0, 0))))) (10, 0, 0) = some (.inr (0, 9, (wk_lu (wk_lu ln_10 2 (11, 0, 0)) 0 (3, 0, 0)))) from by simp [wk_hu, h10, h11, h12, h3, h1]) rfl (by decide) (show (wk_hu (wk_hu (wk_hu sh (11, 0, 0) (.inl (.inl (T.1, 4)))) (10, 0, 0) (.inr (0, 9, (wk_lu ln_10 2 (11, 0, 0))))) (10, 0, 0) (.inr (0, 9, (wk_lu (wk_lu ln_10 2 (11, 0, 0)) 0 (3, 0, 0))))) (1, 0, 0) = some (.inr (2, 2, lk_1)) from by simp [wk_hu, h10, h11, h12, h3, h1]) inX0 fl_X0_36 rfl hin rfl rfl rfl dX0_init_43 (fun H locs hH hS => ?_)
  refine lv_aload_n (pc := 46) hx hb dX0_init_46 rfl (lv_at hl 0 rfl) ?_
  refine lv_aload_n (pc := 47) hx hb dX0_init_47 rfl (lv_at hl 2 rfl) ?_
  refine wk_r0 (b := (wk_au ad (11, 0, 0) q1) (1, 0, 0)) (by simp [wk_au]) ?_
  refine wk_geti (pc := 48) X hH (1, 0, 0) 0 (show (wk_hu (wk_hu (wk_hu (wk_hu sh (11, 0, 0) (.inl (.inl (T.1, 4)))) (10, 0, 0) (.inr (0, 9, (wk_lu ln_10 2 (11, 0, 0))))) (10, 0, 0) (.inr (0, 9, (wk_lu (wk_lu ln_10 2 (11, 0, 0)) 0 (3, 0, 0))))) (10, 0, 0) (.inr (0, 9, (wk_lu (wk_lu (wk_lu ln_10 2 (11, 0, 0)) 0 (3, 0, 0)) 1 (1, 0, 0))))) (1, 0, 0) = some (.inr (2, 2, lk_1)) from by simp [wk_hu, h10, h11, h12, h3, h1]) rfl (by decide) rfl inX2 fl_X0_40 dX0_init_48 ?_
  refine wk_newi (pc := 51) X hH hS hz (12, 0, 0) (show (wk_hu (wk_hu (wk_hu (wk_hu sh (11, 0, 0) (.inl (.inl (T.1, 4)))) (10, 0, 0) (.inr (0, 9, (wk_lu ln_10 2 (11, 0, 0))))) (10, 0, 0) (.inr (0, 9, (wk_lu (wk_lu ln_10 2 (11, 0, 0)) 0 (3, 0, 0))))) (10, 0, 0) (.inr (0, 9, (wk_lu (wk_lu (wk_lu ln_10 2 (11, 0, 0)) 0 (3, 0, 0)) 1 (1, 0, 0))))) (12, 0, 0) = none from by simp [wk_hu, h10, h11, h12, h3, h1]) ac_int (n := ((wk_up (wk_up (wk_up (wk_up (wk_up (wk_su sg (11, 0, 0) (fun _ => 0)) (10, 0, 0) 4 0) (10, 0, 0) 5 0) (10, 0, 0) 6 (-1)) (10, 0, 0) 7 0) (10, 0, 0) 8 (-1)) (1, 0, 0) 0)) (N := N) (by simpa [wk_up_at, wk_su_at] using hneg) (by simpa [wk_up_at, wk_su_at] using hN) hby (by show (0 + 1) + 1 ≤ 2; omega) (by show (0 + 4) + N ≤ 8; omega) dX0_init_51 (fun q2 H hH hS => ?_)
  refine wk_r0 (b := (wk_au (wk_au ad (11, 0, 0) q1) (12, 0, 0) q2) (12, 0, 0)) (by simp [wk_au]) ?_
  refine wk_r1 (b := (wk_au (wk_au ad (11, 0, 0) q1) (12, 0, 0) q2) (10, 0, 0)) (by simp [wk_au]) ?_
  refine wk_putrF (pc := 53) X hH hS (10, 0, 0) 3 (κ' := (12, 0, 0)) tyX0_ok nmX0 (show (wk_hu (wk_hu (wk_hu (wk_hu (wk_hu sh (11, 0, 0) (.inl (.inl (T.1, 4)))) (10, 0, 0) (.inr (0, 9, (wk_lu ln_10 2 (11, 0, 0))))) (10, 0, 0) (.inr (0, 9, (wk_lu (wk_lu ln_10 2 (11, 0, 0)) 0 (3, 0, 0))))) (10, 0, 0) (.inr (0, 9, (wk_lu (wk_lu (wk_lu ln_10 2 (11, 0, 0)) 0 (3, 0, 0)) 1 (1, 0, 0))))) (12, 0, 0) (.inl (.inl (T.1, N)))) (10, 0, 0) = some (.inr (0, 9, (wk_lu (wk_lu (wk_lu ln_10 2 (11, 0, 0)) 0 (3, 0, 0)) 1 (1, 0, 0)))) from by simp [wk_hu, h10, h11, h12, h3, h1]) rfl (by decide) (show (wk_hu (wk_hu (wk_hu (wk_hu (wk_hu sh (11, 0, 0) (.inl (.inl (T.1, 4)))) (10, 0, 0) (.inr (0, 9, (wk_lu ln_10 2 (11, 0, 0))))) (10, 0, 0) (.inr (0, 9, (wk_lu (wk_lu ln_10 2 (11, 0, 0)) 0 (3, 0, 0))))) (10, 0, 0) (.inr (0, 9, (wk_lu (wk_lu (wk_lu ln_10 2 (11, 0, 0)) 0 (3, 0, 0)) 1 (1, 0, 0))))) (12, 0, 0) (.inl (.inl (T.1, N)))) (12, 0, 0) = some (.inl (.inl (T.1, N))) from by simp [wk_hu, h10, h11, h12, h3, h1]) inX0 fl_X0_45 rfl hin rfl rfl rfl dX0_init_53 (fun H locs hH hS => ?_)
  refine W.widen (k := 2) (n := 8) (by omega) (by omega) ?_
  refine wk_nret (pc := 56) X hH hS hr hlocks ⟨fun κ hκ => ?_, ?_, ?_, ?_, ?_, ?_, ?_, ?_⟩ dX0_init_56
  · obtain ⟨n1, n2⟩ := not_or.mp hκ
    obtain ⟨n2, n3⟩ := not_or.mp n2
    refine ⟨by simp [wk_au, n2, n3], by simp [wk_hu, n1, n2, n3], ?_⟩
    funext k
    simp [wk_up_at, wk_su_at, n1, n2, n3]
  · simp [wk_au]
  · simp [wk_hu, lu_10]
  · simp [wk_hu]
  · simp [wk_hu]
  · simp [wk_up_at, wk_su_at]
  · intro k; simp [wk_up_at, wk_su_at]
  · intro k; simp [wk_up_at, wk_su_at]
