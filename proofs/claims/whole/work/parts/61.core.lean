def lq_7 (i n : Nat) : Nat → Option wk_K3 := fun j => if j < n then some (8, i, j) else none
theorem ln_no8 : ∀ k κ', ln_8 k ≠ some (some κ') := fun k κ' => by
  match k with
  | 0 => simp [ln_8]
  | n + 1 => simp [ln_8]
theorem nd_8 (ad : wk_K3 → Nat) : ∀ j, j < 3 → defaultValue (tyX3 j) = wk_fv ad ln_8 (fun _ => 0) j := fun j hj => match j, hj with
  | 0, _ => rfl
  | 1, _ => rfl
  | 2, _ => rfl
  | n + 3, h => absurd h (by omega)
theorem lq_7s (i k : Nat) : wk_ru (lq_7 i k) k (8, i, k) = lq_7 i (k + 1) := by
  funext j
  unfold wk_ru lq_7
  by_cases h : j = k
  · subst h
    simp
  · rw [if_neg h]
    by_cases h2 : j < k
    · rw [if_pos h2, if_pos (by omega)]
    · rw [if_neg h2, if_neg (by omega)]
/-- the loop of Core's constructor: k slots stand -/
def nv_X1 (T : wk_T) (i N nS : Nat) (ad : wk_K3 → Nat) (sh : wk_Sh) (sg : wk_Sg) (k : Nat) (ad' : wk_K3 → Nat) (sh' : wk_Sh) (sg' : wk_Sg) : Prop :=
  wk_ext (fun κ => κ.2.1 = i ∧ 7 ≤ κ.1 ∧ κ.1 ≤ 9) ad sh sg ad' sh' sg' ∧ ad' (7, i, 0) = ad (7, i, 0) ∧ sh' (7, i, 0) = some (.inl (.inr (T.2.2, nS, lq_7 i k))) ∧ (∀ j, k ≤ j → sh' (8, i, j) = none ∧ sh' (9, i, j) = none) ∧ ∀ j, j < k → sh' (8, i, j) = some (.inr (3, 3, lk_8 i j)) ∧ sh' (9, i, j) = some (.inl (.inl (T.1, N))) ∧ sg' (8, i, j) 1 = 0 ∧ sg' (8, i, j) 2 = -1 ∧ ∀ q, sg' (9, i, j) q = 0
set_option maxHeartbeats 4000000 in
set_option maxRecDepth 100000 in
theorem nl_X1 {l : Launch} {D : va_G} {T : wk_T} {z0 : Nat} {ad : wk_K3 → Nat} {sh : wk_Sh} {sg : wk_Sg} {i N nS : Nat} {wv : Int32} {Φ : (wk_K3 → Nat) → wk_Sh → wk_Sg → Prop} {p : Program} {e : Env} {s : State} {m : MethodId} {args : Array Value} {below : List Frame} {meth : Method} {c : Code} (X : wk_C p m c cX1_init 6 s args RX1 D T) (hz : z0 ≤ s.heap.size) (hr : meth.sig.returnType = none) (hlocks : meth.locks = false)
    (h4 : sh (4, i, 0) = some (.inr (1, 10, lk_4 i))) (h1 : sh (1, 0, 0) = some (.inr (2, 2, lk_1))) (hw : sg (1, 0, 0) 0 = wv) (hneg : ¬ wv < 0) (hN : wv.toNatClampNeg = N) (hN4 : N ≤ 4) (hS8 : nS ≤ 8) (hfin : ∀ ad' sh' sg', nv_X1 T i N nS ad sh sg nS ad' sh' sg' → Φ ad' sh' sg') :
    ∀ (f k : Nat) (ad' : wk_K3 → Nat) (sh' : wk_Sh) (sg' : wk_Sg) (ls : Array Slot) (H : Heap) (locs : List Loc), k + f = nS → nv_X1 T i N nS ad sh sg k ad' sh' sg' → lv_has ls 6 [(0, .ref (ad (4, i, 0))), (2, .int (nI nS)), (4, .ref (ad (1, 0, 0))), (5, .int (nI k))] → wk_H D z0 ad' sh' sg' H → va_S (wk_A z0) s.heap H locs → W p l e { frames := 2, cells := 19, slots := 100, locals := 33 } s m args below meth c H locs (3 + 2 * k) (44 + 7 * k) (MQ below (wk_Qn D z0 Φ) args s 19 100 (wk_A z0)) (F0 m 65 ls []) := by
  have hx := X.1.1
  have hb := X.1.2.1
  intro f
  induction f with
  | zero =>
    intro k ad' sh' sg' ls H locs hk hJ hl hH hS
    have hk : k = nS := by omega
    subst hk
    refine lv_iload (pc := 65) hx hb dX1_init_65 (lv_at hl 3 rfl) ?_
    refine lv_iload_n (pc := 67) hx hb dX1_init_67 rfl (lv_at hl 1 rfl) ?_
    refine lv_icmp_ge (pc := 68) (tgt := 96) hx hb dX1_init_68 (by decide) (fun h => ?_) (fun h => absurd ((pn_le (by omega) (by omega)).mpr (Nat.le_refl _)) h)
    refine W.widen (k := 19) (n := 100) (by omega) (by omega) ?_
    exact wk_nret (pc := 96) X hH hS hr hlocks (hfin _ _ _ hJ) dX1_init_96
  | succ f ih =>
    intro k ad' sh' sg' ls H locs hk hJ hl hH hS
    obtain ⟨j1, j2, j3, j4, j5⟩ := hJ
    have x4 := j1 (4, i, 0) (by simp)
    have x1 := j1 (1, 0, 0) (by simp)
    refine lv_iload (pc := 65) hx hb dX1_init_65 (lv_at hl 3 rfl) ?_
    refine lv_iload_n (pc := 67) hx hb dX1_init_67 rfl (lv_at hl 1 rfl) ?_
    refine lv_icmp_ge (pc := 68) (tgt := 96) hx hb dX1_init_68 (by decide) (fun h => absurd ((pn_le (by omega) (by omega)).mp h) (by omega)) (fun h => ?_)
    refine lv_aload_n (pc := 71) hx hb dX1_init_71 rfl (lv_at hl 0 rfl) ?_
    refine wk_r0 (b := ad' (4, i, 0)) x4.1.symm ?_
    refine wk_getr (pc := 72) X hH (4, i, 0) 4 (7, i, 0) (x4.2.1.trans h4) rfl (by decide) rfl inX1 fl_X1_43 dX1_init_72 ?_
    refine lv_iload (pc := 75) hx hb dX1_init_75 (lv_at hl 3 rfl) ?_
    refine wk_new (pc := 77) (ci := 3) X hH hS hz (8, i, k) ln_8 tyX3_ok rfl (j4 k (Nat.le_refl _)).1 ln_no8 (nd_8 ad') inX3 cl_X1_41 isX3.1 isX3.2 (by show 3 + 2 * k + 1 ≤ 19; omega) (by show 44 + 7 * k + 3 ≤ 100; omega) dX1_init_77 (fun q H hH hS => ?_)
    refine lv_dup (pc := 80) hx hb dX1_init_80 rfl ?_
    refine lv_aload (pc := 81) hx hb dX1_init_81 (lv_at hl 2 rfl) ?_
    refine wk_r0 (b := wk_au ad' (8, i, k) q (1, 0, 0)) (by rw [wk_au_ne _ _ (by simp)]; exact x1.1.symm) ?_
    refine wk_geti (pc := 83) X hH (1, 0, 0) 0 (show wk_hu sh' (8, i, k) (.inr (3, 3, ln_8)) (1, 0, 0) = some (.inr (2, 2, lk_1)) from by rw [wk_hu_ne _ _ (by simp)]; exact x1.2.1.trans h1) rfl (by decide) rfl inX2 fl_X1_47 dX1_init_83 ?_
    have ew : wk_su sg' (8, i, k) (fun _ => 0) (1, 0, 0) 0 = wv := by rw [wk_su_ne _ _ (by simp), x1.2.2]; exact hw
    refine wk_r1 (b := wk_au ad' (8, i, k) q (8, i, k)) (wk_au_self _ _ _).symm ?_
    refine wk_cn (wk_rI (pc := 86) (fr := 1) (lo := 12) (As := [.int (wk_su sg' (8, i, k) (fun _ => 0) (1, 0, 0) 0)]) (rest := [.ref q, .int (nI k), .ref (ad' (7, i, 0))]) X hH hS hz ok_X3_init (nk_X3 (N := N) (wk_hu_self _ _ _) (by rw [wk_hu_ne _ _ (by simp)]; exact (j4 k (Nat.le_refl _)).2) (by rw [ew]; exact hneg) (by rw [ew]; exact hN) hN4) ml_X1_52 ⟨by decide, by decide, by show 3 + 2 * k + 1 + 1 ≤ 19; omega, by show 44 + 7 * k + 3 + 4 ≤ 100; omega⟩ rfl hl.1 rfl (Nat.le_of_ble_eq_true rfl) dX1_init_86) hS (fun H locs ad2 sh2 sg2 hΦ hH hS => ?_)
    obtain ⟨p1, p2, p3, p4, p5, p6, p7⟩ := hΦ
    have p2' : ad2 (8, i, k) = q := p2.trans (wk_au_self _ _ _)
    have y7 := p1 (7, i, 0) (by simp)
    have y7a : ad2 (7, i, 0) = ad' (7, i, 0) := by rw [y7.1, wk_au_ne _ _ (by simp)]
    have y7s : sh2 (7, i, 0) = some (.inl (.inr (T.2.2, nS, lq_7 i k))) := by rw [y7.2.1, wk_hu_ne _ _ (by simp)]; exact j3
    refine wk_r0 (b := ad2 (8, i, k)) p2'.symm ?_
    refine wk_r2 (b := ad2 (7, i, 0)) y7a.symm ?_
    refine wk_aast (pc := 89) (r := (RX3, TX3, 3)) X hH hS (7, i, 0) (8, i, k) 2 y7s p3 rfl rfl (pn_in (by omega) (by omega)) dX1_init_89 (fun H locs hH hS => ?_)
    rw [pn_clamp (show k < 4000 by omega), lq_7s] at hH
    refine lv_iinc (pc := 90) (k := 3) (v := nI (k + 1)) (lv' := [(5, .int (nI (k + 1))), (0, .ref (ad (4, i, 0))), (2, .int (nI nS)), (4, .ref (ad (1, 0, 0)))]) hx hb dX1_init_90 hl rfl (pn_inc k) (by decide) rfl (fun ls hl => ?_)
    refine lv_goto (pc := 93) (tgt := 65) hx hb dX1_init_93 (by decide) ?_
    refine W.widen (k := 3 + 2 * (k + 1)) (n := 44 + 7 * (k + 1)) (by omega) (by omega) ?_
    refine ih (k + 1) ad2 _ sg2 ls H locs (by omega) ⟨fun κ hκ => ?_, y7a.trans j2, wk_hu_self _ _ _, fun j hj => ?_, fun j hj => ?_⟩ (lv_sub hl [1, 2, 3, 0] rfl) hH hS
    · have n8 : ¬ κ = (8, i, k) := fun e => hκ (by rw [e]; simp)
      have n9 : ¬ κ = (9, i, k) := fun e => hκ (by rw [e]; simp)
      have n7 : ¬ κ = (7, i, 0) := fun e => hκ (by rw [e]; simp)
      obtain ⟨z1, z2, z3⟩ := p1 κ (fun h => h.elim n8 n9)
      obtain ⟨w1, w2, w3⟩ := j1 κ hκ
      refine ⟨by rw [z1, wk_au_ne _ _ n8, w1], by rw [wk_hu_ne _ _ n7, z2, wk_hu_ne _ _ n8, w2], by rw [z3, wk_su_ne _ _ n8, w3]⟩
    · obtain ⟨w1, w2⟩ := j4 j (by omega)
      have z8 := p1 (8, i, j) (by simp; omega)
      have z9 := p1 (9, i, j) (by simp; omega)
      refine ⟨by rw [wk_hu_ne _ _ (by simp), z8.2.1, wk_hu_ne _ _ (by simp; omega)]; exact w1, by rw [wk_hu_ne _ _ (by simp), z9.2.1, wk_hu_ne _ _ (by simp)]; exact w2⟩
    · by_cases e : j = k
      · subst e
        exact ⟨by rw [wk_hu_ne _ _ (by simp)]; exact p3, by rw [wk_hu_ne _ _ (by simp)]; exact p4, p5, p6, p7⟩
      · obtain ⟨w1, w2, w3, w4, w5⟩ := j5 j (by omega)
        have z8 := p1 (8, i, j) (by simp; omega)
        have z9 := p1 (9, i, j) (by simp; omega)
        refine ⟨by rw [wk_hu_ne _ _ (by simp), z8.2.1, wk_hu_ne _ _ (by simp; omega)]; exact w1, by rw [wk_hu_ne _ _ (by simp), z9.2.1, wk_hu_ne _ _ (by simp)]; exact w2, ?_, ?_, fun q' => ?_⟩
        · rw [z8.2.2, wk_su_ne _ _ (by simp; omega)]; exact w3
        · rw [z8.2.2, wk_su_ne _ _ (by simp; omega)]; exact w4
        · rw [z9.2.2, wk_su_ne _ _ (by simp)]; exact w5 q'
set_option maxHeartbeats 4000000 in
set_option maxRecDepth 100000 in
theorem nk_X1 {l : Launch} {D : va_G} {T : wk_T} {z0 : Nat} {ad : wk_K3 → Nat} {sh : wk_Sh} {sg : wk_Sg} {i N nS cd : Nat} {a1 wv : Int32} (h4 : sh (4, i, 0) = some (.inr (1, 10, ln_4))) (hno : ∀ κ : wk_K3, κ.2.1 = i → 4 ≤ κ.1 → κ.1 ≤ 9 → ¬ κ = (4, i, 0) → sh κ = none) (h1 : sh (1, 0, 0) = some (.inr (2, 2, lk_1))) (hw : sg (1, 0, 0) 0 = wv) (hneg : ¬ wv < 0) (hN : wv.toNatClampNeg = N) (hN4 : N ≤ 4) (hS8 : nS ≤ 8) (hcd : cd ≤ 32) : wk_Mn l yX1_init cX1_init 6 2 33 19 100 D T z0 ad sh [.ref (ad (4, i, 0)), .int a1, .int (nI nS), .int (nI cd), .ref (ad (1, 0, 0))] sg (fun ad' sh' sg' => wk_ext (fun κ => κ.2.1 = i ∧ 4 ≤ κ.1 ∧ κ.1 ≤ 9) ad sh sg ad' sh' sg' ∧ ad' (4, i, 0) = ad (4, i, 0) ∧ sh' (4, i, 0) = some (.inr (1, 10, lk_4 i)) ∧ sh' (5, i, 0) = some (.inl (.inl (T.1, cd))) ∧ sh' (6, i, 0) = some (.inl (.inl (T.1, 4))) ∧ sh' (7, i, 0) = some (.inl (.inr (T.2.2, nS, lq_7 i nS))) ∧ (∀ j, j < nS → sh' (8, i, j) = some (.inr (3, 3, lk_8 i j)) ∧ sh' (9, i, j) = some (.inl (.inl (T.1, N))) ∧ sg' (8, i, j) 1 = 0 ∧ sg' (8, i, j) 2 = -1 ∧ ∀ q, sg' (9, i, j) q = 0) ∧ (sg' (4, i, 0) 0 = a1 ∧ sg' (4, i, 0) 5 = 0 ∧ sg' (4, i, 0) 6 = 0 ∧ sg' (4, i, 0) 7 = 0 ∧ sg' (4, i, 0) 8 = 0 ∧ sg' (4, i, 0) 9 = -1) ∧ (∀ k, sg' (5, i, 0) k = 0) ∧ ∀ k, sg' (6, i, 0) k = 0) := by
  have h5 : sh (5, i, 0) = none := hno _ rfl (by simp) (by simp) (by simp)
  have h6 : sh (6, i, 0) = none := hno _ rfl (by simp) (by simp) (by simp)
  have h7 : sh (7, i, 0) = none := hno _ rfl (by simp) (by simp) (by simp)
  have h8 : ∀ j, sh (8, i, j) = none := fun j => hno _ rfl (by simp) (by simp) (by simp)
  have h9 : ∀ j, sh (9, i, j) = none := fun j => hno _ rfl (by simp) (by simp) (by simp)
  refine Met.ofW (cc := cX1_init) (maxL := 6) (ret := none) (by decide) rfl ?_
  intro p e s m args below meth c s₁ B hml hv
  obtain ⟨rfl, hz, hH, hK⟩ := hv
  have hx := B.exec
  have hb := B.bytes
  have hr := B.returns
  have hlocks := B.notSynchronized
  have hin : meth.name = "<init>" := (name_of_methodNamed B.named B.method).1
  have hts : ∀ w ∈ wk_B, w.before _ s = true := fun w hw => atoms_spec (ws := Cond.code yX1_init cX1_init 6 none :: wk_B) B.pre w (List.mem_cons_of_mem _ hw)
  have X : wk_C p m c cX1_init 6 s _ RX1 D T := ⟨⟨hx, hb, hml, findClass_of_methodNamed B.named, hts⟩, hK⟩
  have hS : va_S (wk_A z0) s.heap s.heap [] := va_S.rf
  have hl := lv_entry ([.ref (ad (4, i, 0)), .int a1, .int (nI nS), .int (nI cd), .ref (ad (1, 0, 0))]) (n := 6) (Nat.le_of_ble_eq_true rfl)
  rw [lg_entry_eq]
  generalize (lg_sl ([.ref (ad (4, i, 0)), .int a1, .int (nI nS), .int (nI cd), .ref (ad (1, 0, 0))]) ++ List.replicate (6 - (lg_sl ([.ref (ad (4, i, 0)), .int a1, .int (nI nS), .int (nI cd), .ref (ad (1, 0, 0))])).length) Slot.unset).toArray = ls at hl ⊢
  have hl : lv_has ls 6 [(0, .ref (ad (4, i, 0))), (1, .int a1), (2, .int (nI nS)), (3, .int (nI cd)), (4, .ref (ad (1, 0, 0)))] := hl
  refine lv_aload_n (pc := 0) hx hb dX1_init_0 rfl (lv_at hl 0 rfl) ?_
  refine wk_obj (pc := 1) X ml_X1_3 ok_object hl.1 ⟨by decide, Nat.le_of_ble_eq_true rfl⟩ dX1_init_1 ?_
  refine lv_aload_n (pc := 4) hx hb dX1_init_4 rfl (lv_at hl 0 rfl) ?_
  refine lv_iconst (pc := 5) (v := 4) hx hb dX1_init_5 (by decide) ?_
  refine wk_newi (pc := 6) X hH hS hz (6, i, 0) (show sh (6, i, 0) = none from by simp [wk_hu, h4, h5, h6, h7, h1]) ac_int (n := 4) (N := 4) (by decide) (by decide) (by decide) (by show 0 + 1 ≤ 19; omega) (by show 0 + 4 ≤ 100; omega) dX1_init_6 (fun q1 H hH hS => ?_)
  refine wk_r0 (b := (wk_au ad (6, i, 0) q1) (6, i, 0)) (by simp [wk_au]) ?_
  refine wk_r1 (b := (wk_au ad (6, i, 0) q1) (4, i, 0)) (by simp [wk_au]) ?_
  refine wk_putrF (pc := 8) X hH hS (4, i, 0) 3 (κ' := (6, i, 0)) tyX1_ok nmX1 (show (wk_hu sh (6, i, 0) (.inl (.inl (T.1, 4)))) (4, i, 0) = some (.inr (1, 10, ln_4)) from by simp [wk_hu, h4, h5, h6, h7, h1]) rfl (by decide) (show (wk_hu sh (6, i, 0) (.inl (.inl (T.1, 4)))) (6, i, 0) = some (.inl (.inl (T.1, 4))) from by simp [wk_hu, h4, h5, h6, h7, h1]) inX1 fl_X1_9 rfl hin rfl rfl rfl dX1_init_8 (fun H locs hH hS => ?_)
  refine lv_aload_n (pc := 11) hx hb dX1_init_11 rfl (lv_at hl 0 rfl) ?_
  refine lv_iconst (pc := 12) (v := 0) hx hb dX1_init_12 (by decide) ?_
  refine wk_r1 (b := (wk_au ad (6, i, 0) q1) (4, i, 0)) (by simp [wk_au]) ?_
  refine wk_puti (pc := 13) X hH hS (4, i, 0) 5 tyX1_ok nmX1 (show (wk_hu (wk_hu sh (6, i, 0) (.inl (.inl (T.1, 4)))) (4, i, 0) (.inr (1, 10, (wk_lu ln_4 3 (6, i, 0))))) (4, i, 0) = some (.inr (1, 10, (wk_lu ln_4 3 (6, i, 0)))) from by simp [wk_hu, h4, h5, h6, h7, h1]) rfl (by decide) rfl inX1 fl_X1_15 rfl rfl rfl dX1_init_13 (fun H locs hH hS => ?_)
  refine lv_aload_n (pc := 16) hx hb dX1_init_16 rfl (lv_at hl 0 rfl) ?_
  refine lv_iconst (pc := 17) (v := 0) hx hb dX1_init_17 (by decide) ?_
  refine wk_r1 (b := (wk_au ad (6, i, 0) q1) (4, i, 0)) (by simp [wk_au]) ?_
  refine wk_puti (pc := 18) X hH hS (4, i, 0) 6 tyX1_ok nmX1 (show (wk_hu (wk_hu sh (6, i, 0) (.inl (.inl (T.1, 4)))) (4, i, 0) (.inr (1, 10, (wk_lu ln_4 3 (6, i, 0))))) (4, i, 0) = some (.inr (1, 10, (wk_lu ln_4 3 (6, i, 0)))) from by simp [wk_hu, h4, h5, h6, h7, h1]) rfl (by decide) rfl inX1 fl_X1_19 rfl rfl rfl dX1_init_18 (fun H locs hH hS => ?_)
  refine lv_aload_n (pc := 21) hx hb dX1_init_21 rfl (lv_at hl 0 rfl) ?_
  refine lv_iconst (pc := 22) (v := 0) hx hb dX1_init_22 (by decide) ?_
  refine wk_r1 (b := (wk_au ad (6, i, 0) q1) (4, i, 0)) (by simp [wk_au]) ?_
  refine wk_puti (pc := 23) X hH hS (4, i, 0) 7 tyX1_ok nmX1 (show (wk_hu (wk_hu sh (6, i, 0) (.inl (.inl (T.1, 4)))) (4, i, 0) (.inr (1, 10, (wk_lu ln_4 3 (6, i, 0))))) (4, i, 0) = some (.inr (1, 10, (wk_lu ln_4 3 (6, i, 0)))) from by simp [wk_hu, h4, h5, h6, h7, h1]) rfl (by decide) rfl inX1 fl_X1_22 rfl rfl rfl dX1_init_23 (fun H locs hH hS => ?_)
  refine lv_aload_n (pc := 26) hx hb dX1_init_26 rfl (lv_at hl 0 rfl) ?_
  refine lv_iconst (pc := 27) (v := 0) hx hb dX1_init_27 (by decide) ?_
  refine wk_r1 (b := (wk_au ad (6, i, 0) q1) (4, i, 0)) (by simp [wk_au]) ?_
  refine wk_puti (pc := 28) X hH hS (4, i, 0) 8 tyX1_ok nmX1 (show (wk_hu (wk_hu sh (6, i, 0) (.inl (.inl (T.1, 4)))) (4, i, 0) (.inr (1, 10, (wk_lu ln_4 3 (6, i, 0))))) (4, i, 0) = some (.inr (1, 10, (wk_lu ln_4 3 (6, i, 0)))) from by simp [wk_hu, h4, h5, h6, h7, h1]) rfl (by decide) rfl inX1 fl_X1_25 rfl rfl rfl dX1_init_28 (fun H locs hH hS => ?_)
  refine lv_aload_n (pc := 31) hx hb dX1_init_31 rfl (lv_at hl 0 rfl) ?_
  refine lv_iconst (pc := 32) (v := (-1)) hx hb dX1_init_32 (by decide) ?_
  refine wk_r1 (b := (wk_au ad (6, i, 0) q1) (4, i, 0)) (by simp [wk_au]) ?_
  refine wk_puti (pc := 33) X hH hS (4, i, 0) 9 tyX1_ok nmX1 (show (wk_hu (wk_hu sh (6, i, 0) (.inl (.inl (T.1, 4)))) (4, i, 0) (.inr (1, 10, (wk_lu ln_4 3 (6, i, 0))))) (4, i, 0) = some (.inr (1, 10, (wk_lu ln_4 3 (6, i, 0)))) from by simp [wk_hu, h4, h5, h6, h7, h1]) rfl (by decide) rfl inX1 fl_X1_28 rfl rfl rfl dX1_init_33 (fun H locs hH hS => ?_)
  refine lv_aload_n (pc := 36) hx hb dX1_init_36 rfl (lv_at hl 0 rfl) ?_
  refine lv_iload_n (pc := 37) hx hb dX1_init_37 rfl (lv_at hl 1 rfl) ?_
  refine wk_r1 (b := (wk_au ad (6, i, 0) q1) (4, i, 0)) (by simp [wk_au]) ?_
  refine wk_putiF (pc := 38) X hH hS (4, i, 0) 0 tyX1_ok nmX1 (show (wk_hu (wk_hu sh (6, i, 0) (.inl (.inl (T.1, 4)))) (4, i, 0) (.inr (1, 10, (wk_lu ln_4 3 (6, i, 0))))) (4, i, 0) = some (.inr (1, 10, (wk_lu ln_4 3 (6, i, 0)))) from by simp [wk_hu, h4, h5, h6, h7, h1]) rfl (by decide) rfl inX1 fl_X1_31 rfl hin rfl rfl rfl dX1_init_38 (fun H locs hH hS => ?_)
  refine lv_aload_n (pc := 41) hx hb dX1_init_41 rfl (lv_at hl 0 rfl) ?_
  refine lv_aload (pc := 42) hx hb dX1_init_42 (lv_at hl 4 rfl) ?_
  refine wk_r0 (b := (wk_au ad (6, i, 0) q1) (1, 0, 0)) (by simp [wk_au]) ?_
  refine wk_r1 (b := (wk_au ad (6, i, 0) q1) (4, i, 0)) (by simp [wk_au]) ?_
  refine wk_putrF (pc := 44) X hH hS (4, i, 0) 1 (κ' := (1, 0, 0)) tyX1_ok nmX1 (show (wk_hu (wk_hu sh (6, i, 0) (.inl (.inl (T.1, 4)))) (4, i, 0) (.inr (1, 10, (wk_lu ln_4 3 (6, i, 0))))) (4, i, 0) = some (.inr (1, 10, (wk_lu ln_4 3 (6, i, 0)))) from by simp [wk_hu, h4, h5, h6, h7, h1]) rfl (by decide) (show (wk_hu (wk_hu sh (6, i, 0) (.inl (.inl (T.1, 4)))) (4, i, 0) (.inr (1, 10, (wk_lu ln_4 3 (6, i, 0))))) (1, 0, 0) = some (.inr (2, 2, lk_1)) from by simp [wk_hu, h4, h5, h6, h7, h1]) inX1 fl_X1_34 rfl hin rfl rfl rfl dX1_init_44 (fun H locs hH hS => ?_)
  refine lv_aload_n (pc := 47) hx hb dX1_init_47 rfl (lv_at hl 0 rfl) ?_
  refine lv_iload_n (pc := 48) hx hb dX1_init_48 rfl (lv_at hl 3 rfl) ?_
  refine wk_newi (pc := 49) X hH hS hz (5, i, 0) (show (wk_hu (wk_hu (wk_hu sh (6, i, 0) (.inl (.inl (T.1, 4)))) (4, i, 0) (.inr (1, 10, (wk_lu ln_4 3 (6, i, 0))))) (4, i, 0) (.inr (1, 10, (wk_lu (wk_lu ln_4 3 (6, i, 0)) 1 (1, 0, 0))))) (5, i, 0) = none from by simp [wk_hu, h4, h5, h6, h7, h1]) ac_int (n := (nI cd)) (N := cd) (pn_nneg (by omega)) (pn_clamp (by omega)) (by omega) (by show (0 + 1) + 1 ≤ 19; omega) (by show (0 + 4) + cd ≤ 100; omega) dX1_init_49 (fun q2 H hH hS => ?_)
  refine wk_r0 (b := (wk_au (wk_au ad (6, i, 0) q1) (5, i, 0) q2) (5, i, 0)) (by simp [wk_au]) ?_
  refine wk_r1 (b := (wk_au (wk_au ad (6, i, 0) q1) (5, i, 0) q2) (4, i, 0)) (by simp [wk_au]) ?_
  refine wk_putrF (pc := 51) X hH hS (4, i, 0) 2 (κ' := (5, i, 0)) tyX1_ok nmX1 (show (wk_hu (wk_hu (wk_hu (wk_hu sh (6, i, 0) (.inl (.inl (T.1, 4)))) (4, i, 0) (.inr (1, 10, (wk_lu ln_4 3 (6, i, 0))))) (4, i, 0) (.inr (1, 10, (wk_lu (wk_lu ln_4 3 (6, i, 0)) 1 (1, 0, 0))))) (5, i, 0) (.inl (.inl (T.1, cd)))) (4, i, 0) = some (.inr (1, 10, (wk_lu (wk_lu ln_4 3 (6, i, 0)) 1 (1, 0, 0)))) from by simp [wk_hu, h4, h5, h6, h7, h1]) rfl (by decide) (show (wk_hu (wk_hu (wk_hu (wk_hu sh (6, i, 0) (.inl (.inl (T.1, 4)))) (4, i, 0) (.inr (1, 10, (wk_lu ln_4 3 (6, i, 0))))) (4, i, 0) (.inr (1, 10, (wk_lu (wk_lu ln_4 3 (6, i, 0)) 1 (1, 0, 0))))) (5, i, 0) (.inl (.inl (T.1, cd)))) (5, i, 0) = some (.inl (.inl (T.1, cd))) from by simp [wk_hu, h4, h5, h6, h7, h1]) inX1 fl_X1_38 rfl hin rfl rfl rfl dX1_init_51 (fun H locs hH hS => ?_)
  refine lv_aload_n (pc := 54) hx hb dX1_init_54 rfl (lv_at hl 0 rfl) ?_
  refine lv_iload_n (pc := 55) hx hb dX1_init_55 rfl (lv_at hl 2 rfl) ?_
  refine wk_newr (pc := 56) X hH hS hz (7, i, 0) 2 rfl (show (wk_hu (wk_hu (wk_hu (wk_hu (wk_hu sh (6, i, 0) (.inl (.inl (T.1, 4)))) (4, i, 0) (.inr (1, 10, (wk_lu ln_4 3 (6, i, 0))))) (4, i, 0) (.inr (1, 10, (wk_lu (wk_lu ln_4 3 (6, i, 0)) 1 (1, 0, 0))))) (5, i, 0) (.inl (.inl (T.1, cd)))) (4, i, 0) (.inr (1, 10, (wk_lu (wk_lu (wk_lu ln_4 3 (6, i, 0)) 1 (1, 0, 0)) 2 (5, i, 0))))) (7, i, 0) = none from by simp [wk_hu, h4, h5, h6, h7, h1]) cl_X1_41 X.2.2.2.2 (n := (nI nS)) (N := nS) (pn_nneg (by omega)) (pn_clamp (by omega)) (by omega) (by show ((0 + 1) + 1) + 1 ≤ 19; omega) (by show ((0 + 4) + cd) + nS ≤ 100; omega) dX1_init_56 (fun q3 H hH hS => ?_)
  refine wk_r0 (b := (wk_au (wk_au (wk_au ad (6, i, 0) q1) (5, i, 0) q2) (7, i, 0) q3) (7, i, 0)) (by simp [wk_au]) ?_
  refine wk_r1 (b := (wk_au (wk_au (wk_au ad (6, i, 0) q1) (5, i, 0) q2) (7, i, 0) q3) (4, i, 0)) (by simp [wk_au]) ?_
  refine wk_putrF (pc := 59) X hH hS (4, i, 0) 4 (κ' := (7, i, 0)) tyX1_ok nmX1 (show (wk_hu (wk_hu (wk_hu (wk_hu (wk_hu (wk_hu sh (6, i, 0) (.inl (.inl (T.1, 4)))) (4, i, 0) (.inr (1, 10, (wk_lu ln_4 3 (6, i, 0))))) (4, i, 0) (.inr (1, 10, (wk_lu (wk_lu ln_4 3 (6, i, 0)) 1 (1, 0, 0))))) (5, i, 0) (.inl (.inl (T.1, cd)))) (4, i, 0) (.inr (1, 10, (wk_lu (wk_lu (wk_lu ln_4 3 (6, i, 0)) 1 (1, 0, 0)) 2 (5, i, 0))))) (7, i, 0) (.inl (.inr (T.2.2, nS, (fun _ => none))))) (4, i, 0) = some (.inr (1, 10, (wk_lu (wk_lu (wk_lu ln_4 3 (6, i, 0)) 1 (1, 0, 0)) 2 (5, i, 0)))) from by simp [wk_hu, h4, h5, h6, h7, h1]) rfl (by decide) (show (wk_hu (wk_hu (wk_hu (wk_hu (wk_hu (wk_hu sh (6, i, 0) (.inl (.inl (T.1, 4)))) (4, i, 0) (.inr (1, 10, (wk_lu ln_4 3 (6, i, 0))))) (4, i, 0) (.inr (1, 10, (wk_lu (wk_lu ln_4 3 (6, i, 0)) 1 (1, 0, 0))))) (5, i, 0) (.inl (.inl (T.1, cd)))) (4, i, 0) (.inr (1, 10, (wk_lu (wk_lu (wk_lu ln_4 3 (6, i, 0)) 1 (1, 0, 0)) 2 (5, i, 0))))) (7, i, 0) (.inl (.inr (T.2.2, nS, (fun _ => none))))) (7, i, 0) = some (.inl (.inr (T.2.2, nS, (fun _ => none)))) from by simp [wk_hu, h4, h5, h6, h7, h1]) inX1 fl_X1_43 rfl hin rfl rfl rfl dX1_init_59 (fun H locs hH hS => ?_)
  refine lv_iconst (pc := 62) (v := 0) hx hb dX1_init_62 (by decide) ?_
  refine lv_istore (pc := 63) (lv' := [(5, .int 0), (0, .ref (ad (4, i, 0))), (1, .int a1), (2, .int (nI nS)), (3, .int (nI cd)), (4, .ref (ad (1, 0, 0)))]) hx hb dX1_init_63 hl (by decide) rfl (fun ls hl => ?_)
  refine W.widen (k := 3 + 2 * 0) (n := 44 + 7 * 0) (by omega) (by omega) ?_
  have hl2 := lv_sub (l' := [(0, .ref (ad (4, i, 0))), (2, .int (nI nS)), (4, .ref (ad (1, 0, 0))), (5, .int (nI 0))]) hl [1, 3, 5, 0] rfl
  rw [show ad (4, i, 0) = (wk_au (wk_au (wk_au ad (6, i, 0) q1) (5, i, 0) q2) (7, i, 0) q3) (4, i, 0) from by simp [wk_au], show ad (1, 0, 0) = (wk_au (wk_au (wk_au ad (6, i, 0) q1) (5, i, 0) q2) (7, i, 0) q3) (1, 0, 0) from by simp [wk_au]] at hl2
  refine nl_X1 (N := N) (wv := wv) X hz hr hlocks (sh := (wk_hu (wk_hu (wk_hu (wk_hu (wk_hu (wk_hu (wk_hu sh (6, i, 0) (.inl (.inl (T.1, 4)))) (4, i, 0) (.inr (1, 10, (wk_lu ln_4 3 (6, i, 0))))) (4, i, 0) (.inr (1, 10, (wk_lu (wk_lu ln_4 3 (6, i, 0)) 1 (1, 0, 0))))) (5, i, 0) (.inl (.inl (T.1, cd)))) (4, i, 0) (.inr (1, 10, (wk_lu (wk_lu (wk_lu ln_4 3 (6, i, 0)) 1 (1, 0, 0)) 2 (5, i, 0))))) (7, i, 0) (.inl (.inr (T.2.2, nS, (fun _ => none))))) (4, i, 0) (.inr (1, 10, (wk_lu (wk_lu (wk_lu (wk_lu ln_4 3 (6, i, 0)) 1 (1, 0, 0)) 2 (5, i, 0)) 4 (7, i, 0)))))) (sg := (wk_su (wk_up (wk_up (wk_up (wk_up (wk_up (wk_up (wk_su sg (6, i, 0) (fun _ => 0)) (4, i, 0) 5 0) (4, i, 0) 6 0) (4, i, 0) 7 0) (4, i, 0) 8 0) (4, i, 0) 9 (-1)) (4, i, 0) 0 a1) (5, i, 0) (fun _ => 0))) ?_ ?_ ?_ hneg hN hN4 hS8 (fun ad' sh' sg' hJ => ?_) nS 0 _ _ _ ls H locs (by omega) ?_ hl2 hH hS
  · simp [wk_hu, lu_4]
  · simp [wk_hu, h1]
  · simpa [wk_up_at, wk_su_at] using hw
  · obtain ⟨j1, j2, j3, j4, j5⟩ := hJ
    have x4 := j1 (4, i, 0) (by simp)
    have x5 := j1 (5, i, 0) (by simp)
    have x6 := j1 (6, i, 0) (by simp)
    refine ⟨fun κ hκ => ?_, by rw [x4.1]; simp [wk_au], by rw [x4.2.1]; simp [wk_hu, lu_4], by rw [x5.2.1]; simp [wk_hu], by rw [x6.2.1]; simp [wk_hu], j3, j5, by rw [x4.2.2]; simp [wk_up_at, wk_su_at], fun k => by rw [x5.2.2]; simp [wk_up_at, wk_su_at], fun k => by rw [x6.2.2]; simp [wk_up_at, wk_su_at]⟩
    obtain ⟨z1, z2, z3⟩ := j1 κ (fun h => hκ ⟨h.1, by omega, h.2.2⟩)
    have n4 : ¬ κ = (4, i, 0) := fun e => hκ (by rw [e]; simp)
    have n5 : ¬ κ = (5, i, 0) := fun e => hκ (by rw [e]; simp)
    have n6 : ¬ κ = (6, i, 0) := fun e => hκ (by rw [e]; simp)
    have n7 : ¬ κ = (7, i, 0) := fun e => hκ (by rw [e]; simp)
    refine ⟨by rw [z1]; simp [wk_au, n5, n6, n7], by rw [z2]; simp [wk_hu, n4, n5, n6, n7], ?_⟩
    rw [z3]
    funext k
    simp [wk_up_at, wk_su_at, n4, n5, n6, n7]
  · refine ⟨fun κ _ => ⟨rfl, rfl, rfl⟩, rfl, ?_, fun j _ => ⟨by simp [wk_hu, h8], by simp [wk_hu, h9]⟩, fun j hj => absurd hj (by omega)⟩
    simp [wk_hu]
    funext j
    simp [lq_7]
