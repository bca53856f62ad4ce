/-! SnoopingCores(..): the parameters, the cores, the bus. -/
def dm (a : Int32) (lo hi : Nat) : Nat := if a < nI lo then lo else if nI hi < a then hi else a.toNatClampNeg
theorem dm_in {a : Int32} {lo hi : Nat} (h : lo ≤ hi) (hh : hi < 4000) : lo ≤ dm a lo hi ∧ dm a lo hi ≤ hi ∧ (a < nI lo ∨ nI hi < a ∨ a = nI (dm a lo hi)) := by
  unfold dm
  by_cases h1 : a < nI lo
  · rw [if_pos h1]; exact ⟨Nat.le_refl _, h, Or.inl h1⟩
  · by_cases h2 : nI hi < a
    · rw [if_neg h1, if_pos h2]; exact ⟨h, Nat.le_refl _, Or.inr (Or.inl h2)⟩
    · rw [if_neg h1, if_neg h2]
      have h3 : nI lo ≤ a := Int32.not_lt.mp h1
      have h4 : a ≤ nI hi := Int32.not_lt.mp h2
      have h5 : ¬ a < 0 := fun q => pn_nneg (n := lo) (by omega) (Int32.lt_of_le_of_lt h3 q)
      obtain ⟨j, hj, rfl⟩ := nI_of h5
      rw [nI_leI (by omega) hj] at h3
      rw [nI_leI hj (by omega)] at h4
      rw [nI_clamp hj]
      exact ⟨h3, h4, Or.inr (Or.inr rfl)⟩
theorem dm_lim {P : Nat → Nat} {sg : wk_Sg} {a : Int32} {lo hi : Nat} (h : lo ≤ hi) (hh : hi < 4000) : mr_X4_limited P sg a (nI lo) (nI hi) = nI (dm a lo hi) ∧ mr_X5_clamp P sg a (nI lo) (nI hi) = nI (dm a lo hi) := by
  have hlh : ¬ nI hi < nI lo := by rw [pn_lt (by omega) (by omega)]; omega
  unfold mr_X4_limited mr_X5_clamp
  by_cases h1 : a < nI lo
  · have e : dm a lo hi = lo := by unfold dm; rw [if_pos h1]
    have e1 : ¬ nI lo ≤ a := Int32.not_le.mpr h1
    have e2 : ¬ nI lo < (if a < nI hi then a else nI hi) := by
      split
      · exact fun q => absurd (Int32.lt_trans q h1) Int32.lt_irrefl
      · rw [pn_lt (by omega) (by omega)]; rename_i hq; exact absurd (Int32.lt_of_lt_of_le h1 ((pn_le (by omega) (by omega)).mpr h)) hq
    rw [e, if_neg e2, if_neg e1]
    exact ⟨rfl, rfl⟩
  · have e1 : nI lo ≤ a := Int32.not_lt.mp h1
    by_cases h2 : nI hi < a
    · have e : dm a lo hi = hi := by unfold dm; rw [if_neg h1, if_pos h2]
      have n1 : ¬ a < nI hi := fun q => absurd (Int32.lt_trans q h2) Int32.lt_irrefl
      have n2 : ¬ a ≤ nI hi := Int32.not_le.mpr h2
      rw [e, if_neg n1, if_pos e1, if_neg n2]
      refine ⟨?_, rfl⟩
      by_cases hl : lo < hi
      · rw [if_pos ((pn_lt (by omega) (by omega)).mpr hl)]
      · have : lo = hi := by omega
        subst this
        rw [if_neg Int32.lt_irrefl]
    · have e4 : a ≤ nI hi := Int32.not_lt.mp h2
      obtain ⟨-, -, h3⟩ := dm_in (a := a) h hh
      have e : a = nI (dm a lo hi) := by
        rcases h3 with h3 | h3 | h3
        · exact absurd h3 h1
        · exact absurd h3 h2
        · exact h3
      rw [if_pos e1, if_pos e4, ← e]
      refine ⟨?_, rfl⟩
      have hm : (if a < nI hi then a else nI hi) = a := by
        split
        · rfl
        · rename_i hq
          exact Int32.le_antisymm (Int32.not_lt.mp hq) e4
      rw [hm]
      by_cases hl : nI lo < a
      · rw [if_pos hl]
      · rw [if_neg hl]
        exact Int32.le_antisymm e1 (Int32.not_lt.mp hl)
/-- the parameters out of the arguments -/
def dp (a1 a2 a3 a4 a5 : Int32) : Nat → Nat := fun k => match k with
  | 0 => dm a1 1 4
  | 1 => dm a2 1 8
  | 2 => dm a3 1 4
  | 3 => dm a3 1 4 * (dm a4 (dm a3 1 4) 64 / dm a3 1 4)
  | 4 => dm a5 1 32
  | _ => dm a4 (dm a3 1 4) 64 / dm a3 1 4
theorem dp_ok (a1 a2 a3 a4 a5 : Int32) : pm_P (dp a1 a2 a3 a4 a5) := by
  obtain ⟨x1, y1, -⟩ := dm_in (a := a1) (lo := 1) (hi := 4) (by omega) (by omega)
  obtain ⟨x2, y2, -⟩ := dm_in (a := a2) (lo := 1) (hi := 8) (by omega) (by omega)
  obtain ⟨x3, y3, -⟩ := dm_in (a := a3) (lo := 1) (hi := 4) (by omega) (by omega)
  obtain ⟨x5, y5, -⟩ := dm_in (a := a5) (lo := 1) (hi := 32) (by omega) (by omega)
  obtain ⟨x4, y4, -⟩ := dm_in (a := a4) (lo := dm a3 1 4) (hi := 64) (by omega) (by omega)
  refine ⟨⟨x1, y1⟩, ⟨x2, y2⟩, ⟨x3, y3⟩, ⟨x5, y5⟩, rfl, ?_, ?_, ?_⟩
  · show dm a3 1 4 * (dm a4 (dm a3 1 4) 64 / dm a3 1 4) ≤ 64
    exact Nat.le_trans (Nat.mul_div_le _ _) y4
  · show 1 ≤ dm a4 (dm a3 1 4) 64 / dm a3 1 4
    exact (Nat.one_le_div_iff (by omega)).mpr x4
  · show dm a4 (dm a3 1 4) 64 / dm a3 1 4 ≤ 64
    exact Nat.le_trans (Nat.div_le_self _ _) y4
def lq_3 (n : Nat) : Nat → Option wk_K3 := fun j => if j < n then some (4, j, 0) else none
theorem lq_3s (k : Nat) : wk_ru (lq_3 k) k (4, k, 0) = lq_3 (k + 1) := by
  funext j
  unfold wk_ru lq_3
  by_cases h : j = k
  · subst h
    simp
  · rw [if_neg h]
    by_cases h2 : j < k
    · rw [if_pos h2, if_pos (by omega)]
    · rw [if_neg h2, if_neg (by omega)]
theorem ln_no1 : ∀ k κ', ln_1 k ≠ some (some κ') := fun k κ' => by
  match k with
  | 0 => simp [ln_1]
  | 1 => simp [ln_1]
  | n + 2 => simp [ln_1]
theorem nd_1 (ad : wk_K3 → Nat) : ∀ j, j < 2 → defaultValue (tyX2 j) = wk_fv ad ln_1 (fun _ => 0) j := fun j hj => match j, hj with
  | 0, _ => rfl
  | 1, _ => rfl
  | n + 2, h => absurd h (by omega)
theorem ln_no4 : ∀ k κ', ln_4 k ≠ some (some κ') := fun k κ' => by
  match k with
  | 0 => simp [ln_4]
  | 1 => simp [ln_4]
  | 2 => simp [ln_4]
  | 3 => simp [ln_4]
  | 4 => simp [ln_4]
  | 5 => simp [ln_4]
  | 6 => simp [ln_4]
  | 7 => simp [ln_4]
  | 8 => simp [ln_4]
  | 9 => simp [ln_4]
  | n + 10 => simp [ln_4]
theorem nd_4 (ad : wk_K3 → Nat) : ∀ j, j < 10 → defaultValue (tyX1 j) = wk_fv ad ln_4 (fun _ => 0) j := fun j hj => match j, hj with
  | 0, _ => rfl
  | 1, _ => rfl
  | 2, _ => rfl
  | 3, _ => rfl
  | 4, _ => rfl
  | 5, _ => rfl
  | 6, _ => rfl
  | 7, _ => rfl
  | 8, _ => rfl
  | 9, _ => rfl
  | n + 10, h => absurd h (by omega)
theorem ln_no10 : ∀ k κ', ln_10 k ≠ some (some κ') := fun k κ' => by
  match k with
  | 0 => simp [ln_10]
  | 1 => simp [ln_10]
  | 2 => simp [ln_10]
  | 3 => simp [ln_10]
  | 4 => simp [ln_10]
  | 5 => simp [ln_10]
  | 6 => simp [ln_10]
  | 7 => simp [ln_10]
  | 8 => simp [ln_10]
  | n + 9 => simp [ln_10]
theorem nd_10 (ad : wk_K3 → Nat) : ∀ j, j < 9 → defaultValue (tyX0 j) = wk_fv ad ln_10 (fun _ => 0) j := fun j hj => match j, hj with
  | 0, _ => rfl
  | 1, _ => rfl
  | 2, _ => rfl
  | 3, _ => rfl
  | 4, _ => rfl
  | 5, _ => rfl
  | 6, _ => rfl
  | 7, _ => rfl
  | 8, _ => rfl
  | n + 9, h => absurd h (by omega)
theorem ln_no0 : ∀ k κ', ln_0 k ≠ some (some κ') := fun k κ' => by
  match k with
  | 0 => simp [ln_0]
  | 1 => simp [ln_0]
  | 2 => simp [ln_0]
  | 3 => simp [ln_0]
  | n + 4 => simp [ln_0]
theorem nd_0 (ad : wk_K3 → Nat) : ∀ j, j < 4 → defaultValue (tyX4 j) = wk_fv ad ln_0 (fun _ => 0) j := fun j hj => match j, hj with
  | 0, _ => rfl
  | 1, _ => rfl
  | 2, _ => rfl
  | 3, _ => rfl
  | n + 4, h => absurd h (by omega)
theorem ln_no20 : ∀ k κ', ln_20 k ≠ some (some κ') := fun k κ' => by
  match k with
  | 0 => simp [ln_20]
  | 1 => simp [ln_20]
  | 2 => simp [ln_20]
  | 3 => simp [ln_20]
  | 4 => simp [ln_20]
  | 5 => simp [ln_20]
  | 6 => simp [ln_20]
  | 7 => simp [ln_20]
  | 8 => simp [ln_20]
  | 9 => simp [ln_20]
  | 10 => simp [ln_20]
  | 11 => simp [ln_20]
  | 12 => simp [ln_20]
  | 13 => simp [ln_20]
  | 14 => simp [ln_20]
  | 15 => simp [ln_20]
  | 16 => simp [ln_20]
  | 17 => simp [ln_20]
  | 18 => simp [ln_20]
  | 19 => simp [ln_20]
  | 20 => simp [ln_20]
  | 21 => simp [ln_20]
  | 22 => simp [ln_20]
  | 23 => simp [ln_20]
  | n + 24 => simp [ln_20]
theorem nd_20 (ad : wk_K3 → Nat) : ∀ j, j < 24 → defaultValue (tyX5 j) = wk_fv ad ln_20 (fun _ => 0) j := fun j hj => match j, hj with
  | 0, _ => rfl
  | 1, _ => rfl
  | 2, _ => rfl
  | 3, _ => rfl
  | 4, _ => rfl
  | 5, _ => rfl
  | 6, _ => rfl
  | 7, _ => rfl
  | 8, _ => rfl
  | 9, _ => rfl
  | 10, _ => rfl
  | 11, _ => rfl
  | 12, _ => rfl
  | 13, _ => rfl
  | 14, _ => rfl
  | 15, _ => rfl
  | 16, _ => rfl
  | 17, _ => rfl
  | 18, _ => rfl
  | 19, _ => rfl
  | 20, _ => rfl
  | 21, _ => rfl
  | 22, _ => rfl
  | 23, _ => rfl
  | n + 24, h => absurd h (by omega)
/-- the facts of a core that stands; of all that stands before the bus; of the bus -/
def cf_X1 (T : wk_T) (i N nS cd : Nat) (sh : wk_Sh) (sg : wk_Sg) : Prop := sh (4, i, 0) = some (.inr (1, 10, lk_4 i)) ∧ sh (5, i, 0) = some (.inl (.inl (T.1, cd))) ∧ sh (6, i, 0) = some (.inl (.inl (T.1, 4))) ∧ sh (7, i, 0) = some (.inl (.inr (T.2.2, nS, lq_7 i nS))) ∧ (∀ j, j < nS → sh (8, i, j) = some (.inr (3, 3, lk_8 i j)) ∧ sh (9, i, j) = some (.inl (.inl (T.1, N))) ∧ sg (8, i, j) 1 = 0 ∧ sg (8, i, j) 2 = -1 ∧ ∀ q, sg (9, i, j) q = 0) ∧ (sg (4, i, 0) 0 = nI i ∧ sg (4, i, 0) 5 = 0 ∧ sg (4, i, 0) 6 = 0 ∧ sg (4, i, 0) 7 = 0 ∧ sg (4, i, 0) 8 = 0 ∧ sg (4, i, 0) 9 = -1) ∧ (∀ k, sg (5, i, 0) k = 0) ∧ ∀ k, sg (6, i, 0) k = 0
theorem cf_X1.ext {T : wk_T} {i N nS cd : Nat} {sh sh' : wk_Sh} {sg sg' : wk_Sg} (h : cf_X1 T i N nS cd sh sg) (e : ∀ κ : wk_K3, κ.2.1 = i → 4 ≤ κ.1 → κ.1 ≤ 9 → sh' κ = sh κ ∧ sg' κ = sg κ) : cf_X1 T i N nS cd sh' sg' := by
  obtain ⟨a1, a2, a3, a4, a5, a6, a7, a8⟩ := h
  have e4 := e (4, i, 0) rfl (by simp) (by simp)
  have e5 := e (5, i, 0) rfl (by simp) (by simp)
  have e6 := e (6, i, 0) rfl (by simp) (by simp)
  have e7 := e (7, i, 0) rfl (by simp) (by simp)
  refine ⟨e4.1.trans a1, e5.1.trans a2, e6.1.trans a3, e7.1.trans a4, fun j hj => ?_, by rw [e4.2]; exact a6, by rw [e5.2]; exact a7, by rw [e6.2]; exact a8⟩
  have e8 := e (8, i, j) rfl (by simp) (by simp)
  have e9 := e (9, i, j) rfl (by simp) (by simp)
  rw [e8.1, e9.1, e8.2, e9.2]
  exact a5 j hj
def nv_X4 (T : wk_T) (N nS cd nC : Nat) (ad : wk_K3 → Nat) (sh : wk_Sh) (sg : wk_Sg) (k : Nat) (ad' : wk_K3 → Nat) (sh' : wk_Sh) (sg' : wk_Sg) : Prop :=
  wk_ext (fun κ => 3 ≤ κ.1 ∧ κ.1 ≤ 9) ad sh sg ad' sh' sg' ∧ ad' (3, 0, 0) = ad (3, 0, 0) ∧ sh' (3, 0, 0) = some (.inl (.inr (T.2.1, nC, lq_3 k))) ∧ (∀ κ : wk_K3, k ≤ κ.2.1 → 4 ≤ κ.1 → κ.1 ≤ 9 → sh' κ = none) ∧ ∀ i, i < k → cf_X1 T i N nS cd sh' sg'
def bf_X0 (T : wk_T) (N : Nat) (sh : wk_Sh) (sg : wk_Sg) : Prop := sh (10, 0, 0) = some (.inr (0, 9, lk_10)) ∧ sh (11, 0, 0) = some (.inl (.inl (T.1, 4))) ∧ sh (12, 0, 0) = some (.inl (.inl (T.1, N))) ∧ (sg (10, 0, 0) 4 = 0 ∧ sg (10, 0, 0) 5 = 0 ∧ sg (10, 0, 0) 6 = -1 ∧ sg (10, 0, 0) 7 = 0 ∧ sg (10, 0, 0) 8 = -1) ∧ (∀ k, sg (11, 0, 0) k = 0) ∧ ∀ k, sg (12, 0, 0) k = 0
set_option maxHeartbeats 4000000 in
set_option maxRecDepth 100000 in
theorem nb_X4 {l : Launch} {D : va_G} {T : wk_T} {z0 : Nat} {ad : wk_K3 → Nat} {sh : wk_Sh} {sg : wk_Sg} {N N3 b0 : Nat} {cA : ClassId} {lk3 : Nat → Option wk_K3} {Φ : (wk_K3 → Nat) → wk_Sh → wk_Sg → Prop} {p : Program} {e : Env} {s : State} {m : MethodId} {args : Array Value} {below : List Frame} {meth : Method} {c : Code} (X : wk_C p m c cX4_init 10 s args RX4 D T) (hz : z0 ≤ s.heap.size) (hr : meth.sig.returnType = none) (hlocks : meth.locks = false) (hin : meth.name = "<init>")
    (h0 : sh (0, 0, 0) = some (.inr (4, 4, wk_lu (wk_lu ln_0 0 (1, 0, 0)) 1 (3, 0, 0)))) (h1 : sh (1, 0, 0) = some (.inr (2, 2, lk_1))) (h3 : sh (3, 0, 0) = some (.inl (.inr (cA, N3, lk3)))) (h10 : sh (10, 0, 0) = none) (h11 : sh (11, 0, 0) = none) (h12 : sh (12, 0, 0) = none) (hb0 : b0 = ad (0, 0, 0)) (hneg : ¬ sg (1, 0, 0) 0 < 0) (hN : (sg (1, 0, 0) 0).toNatClampNeg = N) (hN4 : N ≤ 4)
    (hfin : ∀ ad' sh' sg', wk_ext (fun κ => κ = (0, 0, 0) ∨ (10 ≤ κ.1 ∧ κ.1 ≤ 12)) ad sh sg ad' sh' sg' → ad' (0, 0, 0) = ad (0, 0, 0) → sh' (0, 0, 0) = some (.inr (4, 4, lk_0)) → sg' (0, 0, 0) = sg (0, 0, 0) → bf_X0 T N sh' sg' → Φ ad' sh' sg')
    {ls : Array Slot} {H : Heap} {locs : List Loc} {cells slots : Nat} (hc : cells ≤ 83) (hs : slots ≤ 510) (hl : lv_has ls 10 [(0, .ref b0)]) (hH : wk_H D z0 ad sh sg H) (hS : va_S (wk_A z0) s.heap H locs) : W p l e { frames := 3, cells := 86, slots := 527, locals := 58 } s m args below meth c H locs cells slots (MQ below (wk_Qn D z0 Φ) args s 86 527 (wk_A z0)) (F0 m 114 ls []) := by
  have hx := X.1.1
  have hb := X.1.2.1
  subst hb0
  refine lv_aload_n (pc := 114) hx hb dX4_init_114 rfl (lv_at hl 0 rfl) ?_
  refine wk_new (pc := 115) (ci := 0) X hH hS hz (10, 0, 0) ln_10 tyX0_ok rfl h10 ln_no10 (nd_10 ad) inX0 cl_X4_35 isX0.1 isX0.2 (by show cells + 1 ≤ 86; omega) (by show slots + 9 ≤ 527; omega) dX4_init_115 (fun q H hH hS => ?_)
  refine lv_dup (pc := 118) hx hb dX4_init_118 rfl ?_
  refine lv_aload_n (pc := 119) hx hb dX4_init_119 rfl (lv_at hl 0 rfl) ?_
  refine wk_r0 (b := wk_au ad (10, 0, 0) q (0, 0, 0)) (by simp [wk_au]) ?_
  refine wk_getr (pc := 120) X hH (0, 0, 0) 1 (3, 0, 0) (show wk_hu sh (10, 0, 0) (.inr (0, 9, ln_10)) (0, 0, 0) = some (.inr (4, 4, wk_lu (wk_lu ln_0 0 (1, 0, 0)) 1 (3, 0, 0))) from by simp [wk_hu, h0]) rfl (by decide) rfl inX4 fl_X4_28 dX4_init_120 ?_
  refine lv_aload_n (pc := 123) hx hb dX4_init_123 rfl (lv_at hl 0 rfl) ?_
  refine wk_r0 (b := wk_au ad (10, 0, 0) q (0, 0, 0)) (by simp [wk_au]) ?_
  refine wk_getr (pc := 124) X hH (0, 0, 0) 0 (1, 0, 0) (show wk_hu sh (10, 0, 0) (.inr (0, 9, ln_10)) (0, 0, 0) = some (.inr (4, 4, wk_lu (wk_lu ln_0 0 (1, 0, 0)) 1 (3, 0, 0))) from by simp [wk_hu, h0]) rfl (by decide) rfl inX4 fl_X4_22 dX4_init_124 ?_
  refine wk_r2 (b := wk_au ad (10, 0, 0) q (10, 0, 0)) (by simp [wk_au]) ?_
  refine wk_cn (wk_rI (pc := 127) (fr := 1) (lo := 12) (As := [.ref (wk_au ad (10, 0, 0) q (3, 0, 0)), .ref (wk_au ad (10, 0, 0) q (1, 0, 0))]) (rest := [.ref q, .ref (ad (0, 0, 0))]) X hH hS hz ok_X0_init (nk_X0 (N := N) (wk_hu_self _ _ _) (by simp [wk_hu, h11]) (by simp [wk_hu, h12]) (show wk_hu sh (10, 0, 0) (.inr (0, 9, ln_10)) (3, 0, 0) = some (.inl (.inr (cA, N3, lk3))) from by simp [wk_hu, h3]) (by simp [wk_hu, h1]) (by rw [wk_su_ne _ _ (by simp)]; exact hneg) (by rw [wk_su_ne _ _ (by simp)]; exact hN) hN4) ml_X4_37 ⟨by decide, by decide, by show cells + 1 + 2 ≤ 86; omega, by show slots + 9 + 8 ≤ 527; omega⟩ rfl hl.1 rfl (Nat.le_of_ble_eq_true rfl) dX4_init_127) hS (fun H locs ad2 sh2 sg2 hΦ hH hS => ?_)
  obtain ⟨p1, p2, p3, p4, p5, p6, p7, p8⟩ := hΦ
  have p2' : ad2 (10, 0, 0) = q := p2.trans (wk_au_self _ _ _)
  have y0 := p1 (0, 0, 0) (by simp)
  have y0a : ad2 (0, 0, 0) = ad (0, 0, 0) := by rw [y0.1]; simp [wk_au]
  refine wk_r0 (b := ad2 (10, 0, 0)) p2'.symm ?_
  refine wk_r1 (b := ad2 (0, 0, 0)) y0a.symm ?_
  refine wk_putrF (pc := 130) X hH hS (0, 0, 0) 2 (κ' := (10, 0, 0)) tyX4_ok nmX4 (show sh2 (0, 0, 0) = some (.inr (4, 4, wk_lu (wk_lu ln_0 0 (1, 0, 0)) 1 (3, 0, 0))) from by rw [y0.2.1]; simp [wk_hu, h0]) rfl (by decide) p3 inX4 fl_X4_40 rfl hin rfl rfl rfl dX4_init_130 (fun H locs hH hS => ?_)
  refine W.widen (k := 86) (n := 527) (by omega) (by omega) ?_
  refine wk_nret (pc := 133) X hH hS hr hlocks (hfin _ _ _ (fun κ hκ => ?_) y0a ?_ ?_ ⟨?_, ?_, ?_, p6, p7, p8⟩) dX4_init_133
  · obtain ⟨n0, n1⟩ := not_or.mp hκ
    have m10 : ¬ κ = (10, 0, 0) := fun z => n1 (by rw [z]; simp)
    have m11 : ¬ κ = (11, 0, 0) := fun z => n1 (by rw [z]; simp)
    have m12 : ¬ κ = (12, 0, 0) := fun z => n1 (by rw [z]; simp)
    obtain ⟨z1, z2, z3⟩ := p1 κ (by simp [m10, m11, m12])
    exact ⟨by rw [z1, wk_au_ne _ _ m10], by rw [wk_hu_ne _ _ n0, z2, wk_hu_ne _ _ m10], by rw [z3, wk_su_ne _ _ m10]⟩
  · rw [wk_hu_self, lu_0]
  · rw [y0.2.2, wk_su_ne _ _ (by simp)]
  · rw [wk_hu_ne _ _ (by simp)]; exact p3
  · rw [wk_hu_ne _ _ (by simp)]; exact p4
  · rw [wk_hu_ne _ _ (by simp)]; exact p5
set_option maxHeartbeats 4000000 in
set_option maxRecDepth 100000 in
theorem nl_X4 {l : Launch} {D : va_G} {T : wk_T} {z0 : Nat} {ad : wk_K3 → Nat} {sh : wk_Sh} {sg : wk_Sg} {N nS cd nC b0 : Nat} {Φ : (wk_K3 → Nat) → wk_Sh → wk_Sg → Prop} {p : Program} {e : Env} {s : State} {m : MethodId} {args : Array Value} {below : List Frame} {meth : Method} {c : Code} (X : wk_C p m c cX4_init 10 s args RX4 D T) (hz : z0 ≤ s.heap.size) (hr : meth.sig.returnType = none) (hlocks : meth.locks = false) (hin : meth.name = "<init>")
    (h0 : sh (0, 0, 0) = some (.inr (4, 4, wk_lu (wk_lu ln_0 0 (1, 0, 0)) 1 (3, 0, 0)))) (h1 : sh (1, 0, 0) = some (.inr (2, 2, lk_1))) (h10 : sh (10, 0, 0) = none) (h11 : sh (11, 0, 0) = none) (h12 : sh (12, 0, 0) = none) (hb0 : b0 = ad (0, 0, 0)) (hneg : ¬ sg (1, 0, 0) 0 < 0) (hN : (sg (1, 0, 0) 0).toNatClampNeg = N) (hN4 : N ≤ 4) (hS8 : nS ≤ 8) (hcd : cd ≤ 32) (hC4 : nC ≤ 4)
    (hfin : ∀ ad1 sh1 sg1 ad' sh' sg', nv_X4 T N nS cd nC ad sh sg nC ad1 sh1 sg1 → wk_ext (fun κ => κ = (0, 0, 0) ∨ (10 ≤ κ.1 ∧ κ.1 ≤ 12)) ad1 sh1 sg1 ad' sh' sg' → ad' (0, 0, 0) = ad1 (0, 0, 0) → sh' (0, 0, 0) = some (.inr (4, 4, lk_0)) → sg' (0, 0, 0) = sg1 (0, 0, 0) → bf_X0 T N sh' sg' → Φ ad' sh' sg') :
    ∀ (f k : Nat) (ad' : wk_K3 → Nat) (sh' : wk_Sh) (sg' : wk_Sg) (ls : Array Slot) (H : Heap) (locs : List Loc), k + f = nC → nv_X4 T N nS cd nC ad sh sg k ad' sh' sg' → lv_has ls 10 [(0, .ref b0), (6, .int (nI nS)), (8, .int (nI cd)), (9, .int (nI k))] → wk_H D z0 ad' sh' sg' H → va_S (wk_A z0) s.heap H locs → W p l e { frames := 3, cells := 86, slots := 527, locals := 58 } s m args below meth c H locs (3 + 20 * k) (70 + 110 * k) (MQ below (wk_Qn D z0 Φ) args s 86 527 (wk_A z0)) (F0 m 74 ls []) := by
  have hx := X.1.1
  have hb := X.1.2.1
  intro f
  induction f with
  | zero =>
    intro k ad' sh' sg' ls H locs hk hJ hl hH hS
    have hk : k = nC := by omega
    subst hk
    obtain ⟨j1, j2, j3, j4, j5⟩ := hJ
    have x0 := j1 (0, 0, 0) (by simp)
    have x1 := j1 (1, 0, 0) (by simp)
    refine lv_iload (pc := 74) hx hb dX4_init_74 (lv_at hl 3 rfl) ?_
    refine lv_aload_n (pc := 76) hx hb dX4_init_76 rfl (lv_at hl 0 rfl) ?_
    refine wk_r0 (b := ad' (0, 0, 0)) (hb0.trans x0.1.symm) ?_
    refine wk_getr (pc := 77) X hH (0, 0, 0) 1 (3, 0, 0) (x0.2.1.trans h0) rfl (by decide) rfl inX4 fl_X4_28 dX4_init_77 ?_
    refine wk_alenR (pc := 80) X hH (3, 0, 0) 1 j3 rfl dX4_init_80 ?_
    refine lv_icmp_ge (pc := 81) (tgt := 114) hx hb dX4_init_81 (by decide) (fun h => ?_) (fun h => absurd ((pn_le (by omega) (by omega)).mpr (Nat.le_refl _)) h)
    exact nb_X4 (N := N) X hz hr hlocks hin (x0.2.1.trans h0) (x1.2.1.trans h1) j3 ((j1 (10, 0, 0) (by simp)).2.1.trans h10) ((j1 (11, 0, 0) (by simp)).2.1.trans h11) ((j1 (12, 0, 0) (by simp)).2.1.trans h12) (hb0.trans x0.1.symm) (by rw [x1.2.2]; exact hneg) (by rw [x1.2.2]; exact hN) hN4 (fun a b c q1 q2 q3 q4 q5 => hfin _ _ _ a b c ⟨j1, j2, j3, j4, j5⟩ q1 q2 q3 q4 q5) (by omega) (by omega) (lv_sub hl [0] rfl) hH hS
  | succ f ih =>
    intro k ad' sh' sg' ls H locs hk hJ hl hH hS
    obtain ⟨j1, j2, j3, j4, j5⟩ := hJ
    have x0 := j1 (0, 0, 0) (by simp)
    have x1 := j1 (1, 0, 0) (by simp)
    refine lv_iload (pc := 74) hx hb dX4_init_74 (lv_at hl 3 rfl) ?_
    refine lv_aload_n (pc := 76) hx hb dX4_init_76 rfl (lv_at hl 0 rfl) ?_
    refine wk_r0 (b := ad' (0, 0, 0)) (hb0.trans x0.1.symm) ?_
    refine wk_getr (pc := 77) X hH (0, 0, 0) 1 (3, 0, 0) (x0.2.1.trans h0) rfl (by decide) rfl inX4 fl_X4_28 dX4_init_77 ?_
    refine wk_alenR (pc := 80) X hH (3, 0, 0) 1 j3 rfl dX4_init_80 ?_
    refine lv_icmp_ge (pc := 81) (tgt := 114) hx hb dX4_init_81 (by decide) (fun h => absurd ((pn_le (by omega) (by omega)).mp h) (by omega)) (fun h => ?_)
    refine lv_aload_n (pc := 84) hx hb dX4_init_84 rfl (lv_at hl 0 rfl) ?_
    refine wk_r0 (b := ad' (0, 0, 0)) (hb0.trans x0.1.symm) ?_
    refine wk_getr (pc := 85) X hH (0, 0, 0) 1 (3, 0, 0) (x0.2.1.trans h0) rfl (by decide) rfl inX4 fl_X4_28 dX4_init_85 ?_
    refine lv_iload (pc := 88) hx hb dX4_init_88 (lv_at hl 3 rfl) ?_
    refine wk_new (pc := 90) (ci := 1) X hH hS hz (4, k, 0) ln_4 tyX1_ok rfl (j4 (4, k, 0) (Nat.le_refl _) (by simp) (by simp)) ln_no4 (nd_4 ad') inX1 cl_X4_26 isX1.1 isX1.2 (by show 3 + 20 * k + 1 ≤ 86; omega) (by show 70 + 110 * k + 10 ≤ 527; omega) dX4_init_90 (fun q H hH hS => ?_)
    refine lv_dup (pc := 93) hx hb dX4_init_93 rfl ?_
    refine lv_iload (pc := 94) hx hb dX4_init_94 (lv_at hl 3 rfl) ?_
    refine lv_iload (pc := 96) hx hb dX4_init_96 (lv_at hl 1 rfl) ?_
    refine lv_iload (pc := 98) hx hb dX4_init_98 (lv_at hl 2 rfl) ?_
    refine lv_aload_n (pc := 100) hx hb dX4_init_100 rfl (lv_at hl 0 rfl) ?_
    refine wk_r0 (b := wk_au ad' (4, k, 0) q (0, 0, 0)) (by rw [wk_au_ne _ _ (by simp)]; exact hb0.trans x0.1.symm) ?_
    refine wk_getr (pc := 101) X hH (0, 0, 0) 0 (1, 0, 0) (show wk_hu sh' (4, k, 0) (.inr (1, 10, ln_4)) (0, 0, 0) = some (.inr (4, 4, wk_lu (wk_lu ln_0 0 (1, 0, 0)) 1 (3, 0, 0))) from by rw [wk_hu_ne _ _ (by simp)]; exact x0.2.1.trans h0) rfl (by decide) rfl inX4 fl_X4_22 dX4_init_101 ?_
    have ew : wk_su sg' (4, k, 0) (fun _ => 0) (1, 0, 0) 0 = sg (1, 0, 0) 0 := by rw [wk_su_ne _ _ (by simp), x1.2.2]
    have hq : q = wk_au ad' (4, k, 0) q (4, k, 0) := (wk_au_self _ _ _).symm
    refine wk_cn (wk_rI (pc := 104) (b := q) (fr := 2) (lo := 33) (As := [.int (nI k), .int (nI nS), .int (nI cd), .ref (wk_au ad' (4, k, 0) q (1, 0, 0))]) (rest := [.ref q, .int (nI k), .ref (ad' (3, 0, 0))]) X hH hS hz ok_X1_init (by
      have M := nk_X1 (l := l) (D := D) (T := T) (z0 := z0) (ad := wk_au ad' (4, k, 0) q) (sh := wk_hu sh' (4, k, 0) (.inr (1, 10, ln_4))) (sg := wk_su sg' (4, k, 0) (fun _ => 0)) (i := k) (N := N) (nS := nS) (cd := cd) (a1 := nI k) (wv := sg (1, 0, 0) 0) (wk_hu_self _ _ _) (fun κ e1 e2 e3 e4 => by rw [wk_hu_ne _ _ e4]; exact j4 κ (by omega) e2 e3) (by rw [wk_hu_ne _ _ (by simp)]; exact x1.2.1.trans h1) ew hneg hN hN4 hS8 hcd
      rw [wk_au_self] at M
      exact M) ml_X4_32 ⟨by decide, by decide, by show 3 + 20 * k + 1 + 19 ≤ 86; omega, by show 70 + 110 * k + 10 + 100 ≤ 527; omega⟩ rfl hl.1 rfl (Nat.le_of_ble_eq_true rfl) dX4_init_104) hS (fun H locs ad2 sh2 sg2 hΦ hH hS => ?_)
    obtain ⟨p1, p2, pr⟩ := hΦ
    have y3 := p1 (3, 0, 0) (by simp)
    have y3a : ad2 (3, 0, 0) = ad' (3, 0, 0) := by rw [y3.1, wk_au_ne _ _ (by simp)]
    have y3s : sh2 (3, 0, 0) = some (.inl (.inr (T.2.1, nC, lq_3 k))) := by rw [y3.2.1, wk_hu_ne _ _ (by simp)]; exact j3
    refine wk_r0 (b := ad2 (4, k, 0)) p2.symm ?_
    refine wk_r2 (b := ad2 (3, 0, 0)) y3a.symm ?_
    refine wk_aast (pc := 107) (r := (RX1, TX1, 10)) X hH hS (3, 0, 0) (4, k, 0) 1 y3s pr.1 rfl rfl (pn_in (by omega) (by omega)) dX4_init_107 (fun H locs hH hS => ?_)
    rw [pn_clamp (show k < 4000 by omega), lq_3s] at hH
    refine lv_iinc (pc := 108) (k := 3) (v := nI (k + 1)) (lv' := [(9, .int (nI (k + 1))), (0, .ref b0), (6, .int (nI nS)), (8, .int (nI cd))]) hx hb dX4_init_108 hl rfl (pn_inc k) (by decide) rfl (fun ls hl => ?_)
    refine lv_goto (pc := 111) (tgt := 74) hx hb dX4_init_111 (by decide) ?_
    refine W.widen (k := 3 + 20 * (k + 1)) (n := 70 + 110 * (k + 1)) (by omega) (by omega) ?_
    refine ih (k + 1) ad2 _ sg2 ls H locs (by omega) ⟨fun κ hκ => ?_, y3a.trans j2, wk_hu_self _ _ _, fun κ e1 e2 e3 => ?_, fun i hi => ?_⟩ (lv_sub hl [1, 2, 3, 0] rfl) hH hS
    · have n4 : ¬ κ = (4, k, 0) := fun z => hκ (by rw [z]; simp)
      have n3 : ¬ κ = (3, 0, 0) := fun z => hκ (by rw [z]; simp)
      obtain ⟨z1, z2, z3⟩ := p1 κ (fun z => hκ ⟨by omega, z.2.2⟩)
      obtain ⟨w1, w2, w3⟩ := j1 κ hκ
      exact ⟨by rw [z1, wk_au_ne _ _ n4, w1], by rw [wk_hu_ne _ _ n3, z2, wk_hu_ne _ _ n4, w2], by rw [z3, wk_su_ne _ _ n4, w3]⟩
    · have n4 : ¬ κ = (4, k, 0) := fun z => by rw [z] at e1; simp at e1; omega
      have n3 : ¬ κ = (3, 0, 0) := fun z => by rw [z] at e2; simp at e2
      rw [wk_hu_ne _ _ n3, (p1 κ (fun z => by have := z.1; omega)).2.1, wk_hu_ne _ _ n4]
      exact j4 κ (by omega) e2 e3
    · by_cases z : i = k
      · subst z
        refine cf_X1.ext (sh := sh2) (sg := sg2) pr (fun κ e1 e2 e3 => ⟨?_, rfl⟩)
        have n3 : ¬ κ = (3, 0, 0) := fun z => by rw [z] at e2; simp at e2
        rw [wk_hu_ne _ _ n3]
      · refine cf_X1.ext (j5 i (by omega)) (fun κ e1 e2 e3 => ?_)
        have n4 : ¬ κ = (4, k, 0) := fun w => by rw [w] at e1; simp at e1; omega
        have n3 : ¬ κ = (3, 0, 0) := fun w => by rw [w] at e2; simp at e2
        obtain ⟨z1, z2, z3⟩ := p1 κ (fun w => by have := w.1; omega)
        exact ⟨by rw [wk_hu_ne _ _ n3, z2, wk_hu_ne _ _ n4], by rw [z3, wk_su_ne _ _ n4]⟩
