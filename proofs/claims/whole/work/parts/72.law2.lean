/-! The law: its beginning. -/
set_option maxHeartbeats 4000000 in
set_option maxRecDepth 100000 in
theorem lw_begin {l : Launch} {D : va_G} {T : wk_T} {p : Program} {e : Env} {s : State} {m : MethodId} {args : Array Value} {below : List Frame} {meth : Method} {c : Code} {Q : State → Prop} {b L : Nat} {xs : Nat → Int32} (X : wk_C p m c cL_law 4 s args RL D T) (hXx : va_X b L xs s s.heap) (hbl : b < s.heap.size) (hL : L ≤ 2053) (hexit : ∀ (ls : Array Slot) (H : Heap), W p l e room_1 s m args below meth c H [] 600000 7302250 Q (F0 m 470 ls [.int 1])) {ls : Array Slot} (hl : lv_has ls 4 [(0, .ref b)]) : W p l e room_1 s m args below meth c s.heap [] 0 0 Q (F0 m 0 ls []) := by
  have hx := X.1.1
  have hb := X.1.2.1
  have hz : s.heap.size ≤ s.heap.size := Nat.le_refl _
  have hS : va_S (wk_A s.heap.size) s.heap s.heap [] := va_S.rf
  have hH : wk_H D s.heap.size (fun _ => 0) (fun _ => none) (fun _ _ => 0) s.heap := wk_H0
  refine wk_new (pc := 0) (ci := 4) X hH hS hz (0, 0, 0) ln_0 tyX4_ok rfl rfl ln_no0 (nd_0 _) inX4 cl_L_7 isX4.1 isX4.2 (by decide) (by decide) dL_law_0 (fun q1 H hH hS => ?_)
  refine lv_dup (pc := 3) hx hb dL_law_3 rfl ?_
  refine lv_aload_n (pc := 4) hx hb dL_law_4 rfl (lv_at hl 0 rfl) ?_
  refine lv_iconst (pc := 5) (v := nI 0) hx hb dL_law_5 (by decide) ?_
  refine lw_cell (pc := 6) (cells := 0 + 1) (slots := 0 + 4) X hH hS hz hXx hbl hL 0 (by omega) ml_L_9 ⟨by decide, by decide, by decide, by decide⟩ hl.1 (Nat.le_of_ble_eq_true rfl) dL_law_6 (fun H locs hH hS => ?_)
  refine lv_aload_n (pc := 9) hx hb dL_law_9 rfl (lv_at hl 0 rfl) ?_
  refine lv_iconst (pc := 10) (v := nI 1) hx hb dL_law_10 (by decide) ?_
  refine lw_cell (pc := 11) (cells := 0 + 1) (slots := 0 + 4) X hH hS hz hXx hbl hL 1 (by omega) ml_L_9 ⟨by decide, by decide, by decide, by decide⟩ hl.1 (Nat.le_of_ble_eq_true rfl) dL_law_11 (fun H locs hH hS => ?_)
  refine lv_aload_n (pc := 14) hx hb dL_law_14 rfl (lv_at hl 0 rfl) ?_
  refine lv_iconst (pc := 15) (v := nI 2) hx hb dL_law_15 (by decide) ?_
  refine lw_cell (pc := 16) (cells := 0 + 1) (slots := 0 + 4) X hH hS hz hXx hbl hL 2 (by omega) ml_L_9 ⟨by decide, by decide, by decide, by decide⟩ hl.1 (Nat.le_of_ble_eq_true rfl) dL_law_16 (fun H locs hH hS => ?_)
  refine lv_aload_n (pc := 19) hx hb dL_law_19 rfl (lv_at hl 0 rfl) ?_
  refine lv_iconst (pc := 20) (v := nI 3) hx hb dL_law_20 (by decide) ?_
  refine lw_cell (pc := 21) (cells := 0 + 1) (slots := 0 + 4) X hH hS hz hXx hbl hL 3 (by omega) ml_L_9 ⟨by decide, by decide, by decide, by decide⟩ hl.1 (Nat.le_of_ble_eq_true rfl) dL_law_21 (fun H locs hH hS => ?_)
  refine lv_aload_n (pc := 24) hx hb dL_law_24 rfl (lv_at hl 0 rfl) ?_
  refine lv_iconst (pc := 25) (v := nI 4) hx hb dL_law_25 (by decide) ?_
  refine lw_cell (pc := 26) (cells := 0 + 1) (slots := 0 + 4) X hH hS hz hXx hbl hL 4 (by omega) ml_L_9 ⟨by decide, by decide, by decide, by decide⟩ hl.1 (Nat.le_of_ble_eq_true rfl) dL_law_26 (fun H locs hH hS => ?_)
  refine wk_cn (wk_rI (pc := 29) (b := q1) (fr := 3) (lo := 58) (As := [.int (if 0 < L then xs 0 else 0), .int (if 1 < L then xs 1 else 0), .int (if 2 < L then xs 2 else 0), .int (if 3 < L then xs 3 else 0), .int (if 4 < L then xs 4 else 0)]) (rest := [.ref q1]) X hH hS hz ok_X4_init (by
    have M := nk_X4 (l := l) (D := D) (T := T) (z0 := s.heap.size) (ad := wk_au (fun _ => 0) (0, 0, 0) q1) (sh := wk_hu (fun _ => none) (0, 0, 0) (.inr (4, 4, ln_0))) (sg := wk_su (fun _ _ => 0) (0, 0, 0) (fun _ => 0)) (a1 := (if 0 < L then xs 0 else 0)) (a2 := (if 1 < L then xs 1 else 0)) (a3 := (if 2 < L then xs 2 else 0)) (a4 := (if 3 < L then xs 3 else 0)) (a5 := (if 4 < L then xs 4 else 0)) (wk_hu_self _ _ _) (fun κ _ e2 => by rw [wk_hu_ne _ _ e2])
    rw [wk_au_self] at M
    exact M) ml_L_15 ⟨by decide, by decide, by decide, by decide⟩ rfl hl.1 rfl (Nat.le_of_ble_eq_true rfl) dL_law_29) hS (fun H locs ad1 sh1 sg1 hM hH hS => ?_)
  obtain ⟨m1, m2, m3, m4⟩ := hM
  have s20 : ∀ t, 13 ≤ t → sh1 (t, 0, 0) = none := fun t ht => by
    rw [(m1 (t, 0, 0) (by show ¬ t ≤ 12; omega)).2.1, wk_hu_ne _ _ (by simp; omega)]
  refine lv_astore_n (pc := 32) (lv' := [(1, .ref q1), (0, .ref b)]) hx hb dL_law_32 rfl hl (by decide) rfl (fun ls hl => ?_)
  refine wk_new (pc := 33) (ci := 5) X hH hS hz (20, 0, 0) ln_20 tyX5_ok rfl (s20 20 (by omega)) ln_no20 (nd_20 _) inX5 cl_L_18 isX5.1 isX5.2 (by decide) (by decide) dL_law_33 (fun q2 H hH hS => ?_)
  refine lv_dup (pc := 36) hx hb dL_law_36 rfl ?_
  refine lv_aload_n (pc := 37) hx hb dL_law_37 rfl (lv_at hl 1 rfl) ?_
  refine lv_iconst (pc := 38) (v := nI 0) hx hb dL_law_38 (by decide) ?_
  refine lw_cell (pc := 39) (cells := 0 + 1 + 86 + 1) (slots := 0 + 4 + 527 + 24) X hH hS hz hXx hbl hL 0 (by omega) ml_L_9 ⟨by decide, by decide, by decide, by decide⟩ hl.1 (Nat.le_of_ble_eq_true rfl) dL_law_39 (fun H locs hH hS => ?_)
  refine lv_aload_n (pc := 42) hx hb dL_law_42 rfl (lv_at hl 1 rfl) ?_
  refine lv_iconst (pc := 43) (v := nI 1) hx hb dL_law_43 (by decide) ?_
  refine lw_cell (pc := 44) (cells := 0 + 1 + 86 + 1) (slots := 0 + 4 + 527 + 24) X hH hS hz hXx hbl hL 1 (by omega) ml_L_9 ⟨by decide, by decide, by decide, by decide⟩ hl.1 (Nat.le_of_ble_eq_true rfl) dL_law_44 (fun H locs hH hS => ?_)
  refine lv_aload_n (pc := 47) hx hb dL_law_47 rfl (lv_at hl 1 rfl) ?_
  refine lv_iconst (pc := 48) (v := nI 2) hx hb dL_law_48 (by decide) ?_
  refine lw_cell (pc := 49) (cells := 0 + 1 + 86 + 1) (slots := 0 + 4 + 527 + 24) X hH hS hz hXx hbl hL 2 (by omega) ml_L_9 ⟨by decide, by decide, by decide, by decide⟩ hl.1 (Nat.le_of_ble_eq_true rfl) dL_law_49 (fun H locs hH hS => ?_)
  refine lv_aload_n (pc := 52) hx hb dL_law_52 rfl (lv_at hl 1 rfl) ?_
  refine lv_iconst (pc := 53) (v := nI 3) hx hb dL_law_53 (by decide) ?_
  refine lw_cell (pc := 54) (cells := 0 + 1 + 86 + 1) (slots := 0 + 4 + 527 + 24) X hH hS hz hXx hbl hL 3 (by omega) ml_L_9 ⟨by decide, by decide, by decide, by decide⟩ hl.1 (Nat.le_of_ble_eq_true rfl) dL_law_54 (fun H locs hH hS => ?_)
  refine lv_aload_n (pc := 57) hx hb dL_law_57 rfl (lv_at hl 1 rfl) ?_
  refine lv_iconst (pc := 58) (v := nI 4) hx hb dL_law_58 (by decide) ?_
  refine lw_cell (pc := 59) (cells := 0 + 1 + 86 + 1) (slots := 0 + 4 + 527 + 24) X hH hS hz hXx hbl hL 4 (by omega) ml_L_9 ⟨by decide, by decide, by decide, by decide⟩ hl.1 (Nat.le_of_ble_eq_true rfl) dL_law_59 (fun H locs hH hS => ?_)
  refine wk_cn (wk_rI (pc := 62) (b := q2) (fr := 1) (lo := 22) (As := [.int (if 0 < L then xs 0 else 0), .int (if 1 < L then xs 1 else 0), .int (if 2 < L then xs 2 else 0), .int (if 3 < L then xs 3 else 0), .int (if 4 < L then xs 4 else 0)]) (rest := [.ref q2]) X hH hS hz ok_X5_init (by
    have M := nk_X5 (l := l) (D := D) (T := T) (z0 := s.heap.size) (ad := wk_au ad1 (20, 0, 0) q2) (sh := wk_hu sh1 (20, 0, 0) (.inr (5, 24, ln_20))) (sg := wk_su sg1 (20, 0, 0) (fun _ => 0)) (a1 := (if 0 < L then xs 0 else 0)) (a2 := (if 1 < L then xs 1 else 0)) (a3 := (if 2 < L then xs 2 else 0)) (a4 := (if 3 < L then xs 3 else 0)) (a5 := (if 4 < L then xs 4 else 0)) (wk_hu_self _ _ _) (fun t e1 e2 => by rw [wk_hu_ne _ _ (by simp; omega)]; exact s20 t (by omega)) (fun k => by rw [wk_su_self])
    rw [wk_au_self] at M
    exact M) ml_L_20 ⟨by decide, by decide, by decide, by decide⟩ rfl hl.1 rfl (Nat.le_of_ble_eq_true rfl) dL_law_62) hS (fun H locs ad2 sh2 sg2 hM hH hS => ?_)
  obtain ⟨r1, r2, r3, r4⟩ := hM
  refine lv_astore_n (pc := 65) (lv' := [(2, .ref q2), (1, .ref q1), (0, .ref b)]) hx hb dL_law_65 rfl hl (by decide) rfl (fun ls hl => ?_)
  refine lv_iconst (pc := 66) (v := nI 5) hx hb dL_law_66 (by decide) ?_
  refine lv_istore_n (pc := 67) (lv' := [(3, .int (nI 5)), (2, .ref q2), (1, .ref q1), (0, .ref b)]) hx hb dL_law_67 rfl hl (by decide) rfl (fun ls hl => ?_)
  -- the component's cells behind the reference's constructor
  have low : ∀ κ : wk_K3, κ.1 ≤ 12 → ad2 κ = ad1 κ ∧ sh2 κ = sh1 κ ∧ sg2 κ = sg1 κ := fun κ hκ => by
    obtain ⟨z1, z2, z3⟩ := r1 κ (by omega)
    have n20 : ¬ κ = (20, 0, 0) := fun z => by rw [z] at hκ; simp at hκ
    exact ⟨by rw [z1, wk_au_ne _ _ n20], by rw [z2, wk_hu_ne _ _ n20], by rw [z3, wk_su_ne _ _ n20]⟩
  have e1 : ad2 (0, 0, 0) = q1 := by rw [(low (0, 0, 0) (by simp)).1]; exact m2
  have e2 : ad2 (20, 0, 0) = q2 := r2
  have hSc : sc_Sh T (dp (if 0 < L then xs 0 else 0) (if 1 < L then xs 1 else 0) (if 2 < L then xs 2 else 0) (if 3 < L then xs 3 else 0) (if 4 < L then xs 4 else 0)) sh2 := by
    obtain ⟨a0, a1, a2, a3, a4, a5, a6, a7, a8, a9, a10, a11, a12⟩ := m3
    have w : ∀ t i j, t ≤ 12 → sh2 (t, i, j) = sh1 (t, i, j) := fun t i j ht => (low (t, i, j) ht).2.1
    refine ⟨?_, ?_, ?_, ?_, fun i hi => ?_, fun i hi => ?_, fun i hi => ?_, fun i hi => ?_, fun i j hi hj => ?_, fun i j hi hj => ?_, ?_, ?_, ?_⟩
    · rw [w _ _ _ (by omega)]; exact a0
    · rw [w _ _ _ (by omega)]; exact a1
    · rw [w _ _ _ (by omega)]; exact a2
    · rw [w _ _ _ (by omega)]; exact a3
    · rw [w _ _ _ (by omega)]; exact a4 i hi
    · rw [w _ _ _ (by omega)]; exact a5 i hi
    · rw [w _ _ _ (by omega)]; exact a6 i hi
    · rw [w _ _ _ (by omega)]; exact a7 i hi
    · rw [w _ _ _ (by omega)]; exact a8 i j hi hj
    · rw [w _ _ _ (by omega)]; exact a9 i j hi hj
    · rw [w _ _ _ (by omega)]; exact a10
    · rw [w _ _ _ (by omega)]; exact a11
    · rw [w _ _ _ (by omega)]; exact a12
  have hIn : sc_In (dp (if 0 < L then xs 0 else 0) (if 1 < L then xs 1 else 0) (if 2 < L then xs 2 else 0) (if 3 < L then xs 3 else 0) (if 4 < L then xs 4 else 0)) sg2 := by
    have w : ∀ t i j, t ≤ 12 → sg2 (t, i, j) = sg1 (t, i, j) := fun t i j ht => (low (t, i, j) ht).2.2
    obtain ⟨b0, b1, b2, b3, b4, b5, b6⟩ := m4
    refine ⟨?_, ?_, ?_, fun i hi => ?_, ?_, ?_, ?_⟩
    · rw [w _ _ _ (by omega)]; exact b0
    · rw [w _ _ _ (by omega)]; exact b1
    · rw [w _ _ _ (by omega)]; exact b2
    · rw [w 4 i 0 (by omega), w 5 i 0 (by omega), w 6 i 0 (by omega)]
      obtain ⟨c1, c2, c3, c4⟩ := b3 i hi
      exact ⟨c1, c2, c3, fun j hj => by rw [w 8 i j (by omega)]; exact c4 j hj⟩
    · rw [w _ _ _ (by omega)]; exact b4
    · rw [w _ _ _ (by omega)]; exact b5
    · rw [w _ _ _ (by omega)]; exact b6
  have hR := pm_start (dp_ok (if 0 < L then xs 0 else 0) (if 1 < L then xs 1 else 0) (if 2 < L then xs 2 else 0) (if 3 < L then xs 3 else 0) (if 4 < L then xs 4 else 0)) hIn r4
  refine W.widen (k := 200) (n := 2000) (by omega) (by omega) ?_
  have hl2 := lv_sub (l' := [(0, .ref b), (1, .ref q1), (2, .ref q2), (3, .int (nI 5))]) hl [3, 2, 1, 0] rfl
  rw [← e1, ← e2] at hl2
  exact lw_loop hSc r3 X hXx hbl hL hexit L 5 sg2 ls H locs (by omega) (by omega) hR hl2 hH hS
