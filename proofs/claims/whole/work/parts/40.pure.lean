/-! Reading behind writing; small numbers. -/
theorem wk_up_self (sg : wk_Sg) (κ : wk_K3) (k : Nat) (x : Int32) : wk_up sg κ k x κ k = x := by simp [wk_up, wk_su, upd]
theorem wk_up_at (sg : wk_Sg) (κ κ' : wk_K3) (k k' : Nat) (x : Int32) : wk_up sg κ k x κ' k' = if κ' = κ ∧ k' = k then x else sg κ' k' := by
  unfold wk_up wk_su
  by_cases h : κ' = κ
  · subst h
    by_cases h2 : k' = k
    · subst h2; simp [upd]
    · simp [upd, h2]
  · simp [h]
theorem wk_up_ne (sg : wk_Sg) {κ κ' : wk_K3} (k : Nat) (x : Int32) (h : κ' ≠ κ) : wk_up sg κ k x κ' = sg κ' := by simp [wk_up, wk_su, h]
theorem wk_su_at (sg : wk_Sg) (κ κ' : wk_K3) (f : Nat → Int32) : wk_su sg κ f κ' = if κ' = κ then f else sg κ' := rfl
theorem pn_mul (a b : Nat) : nI a * nI b = nI (a * b) := (Int32.ofNat_mul a b).symm
theorem pn_clamp {n : Nat} (h : n < 4000) : (nI n).toNatClampNeg = n := nI_clamp (by omega)
theorem pn_in {a n : Nat} (h : a < n) (hn : n < 4000) : vp_in (nI a) n := nI_in h (by omega)
theorem pn_eq {a b : Nat} (ha : a < 4000) (hb : b < 4000) : nI a = nI b ↔ a = b := nI_eq (by omega) (by omega)
theorem pn_lt {a b : Nat} (ha : a < 4000) (hb : b < 4000) : nI a < nI b ↔ a < b := nI_ltI (by omega) (by omega)
theorem pn_le {a b : Nat} (ha : a < 4000) (hb : b < 4000) : nI a ≤ nI b ↔ a ≤ b := nI_leI (by omega) (by omega)
theorem pn_of {x : Int32} {n : Nat} (hn : n < 4000) (h : ¬ x < 0) (h2 : ¬ nI n ≤ x) : ∃ j : Nat, j < n ∧ x = nI j := by
  obtain ⟨j, hj, rfl⟩ := nI_of h
  refine ⟨j, ?_, rfl⟩
  rw [nI_leI (by omega) hj] at h2
  omega
theorem pn_div {a b : Nat} (ha : a < 4000) (hb : b < 4000) (h0 : 0 < b) : nI a / nI b = nI (a / b) := by
  apply Int32.toInt_inj.mp
  have h1 : a / b ≤ a := Nat.div_le_self a b
  rw [nI_toInt (by omega : a / b < 2 ^ 31), Int32.toInt_div_of_ne_right _ _ (by
    intro h
    have := congrArg Int32.toInt h
    rw [nI_toInt (by omega)] at this
    have h3 : (-1 : Int32).toInt = -1 := by decide
    rw [h3] at this
    omega), nI_toInt (by omega), nI_toInt (by omega), Int.ofNat_tdiv]
theorem pn_rem {a b : Nat} (ha : a < 4000) (hb : b < 4000) (h0 : 0 < b) : nI a - nI a / nI b * nI b = nI (a % b) := by
  rw [pn_div ha hb h0, pn_mul]
  have h1 : a / b * b + a % b = a := Nat.div_add_mod' a b
  have h2 : nI a = nI (a / b * b) + nI (a % b) := by rw [nI_add, h1]
  rw [h2]
  simp [Int32.add_comm]
/-! The parameters; the relation between the component's cells and the reference's; what always holds of the component's cells. P 0: cpus, P 1: slots, P 2: width, P 3: words of memory, P 4: places of code, P 5: lines. -/
def pm_P (P : Nat → Nat) : Prop := (1 ≤ P 0 ∧ P 0 ≤ 4) ∧ (1 ≤ P 1 ∧ P 1 ≤ 8) ∧ (1 ≤ P 2 ∧ P 2 ≤ 4) ∧ (1 ≤ P 4 ∧ P 4 ≤ 32) ∧ P 3 = P 2 * P 5 ∧ P 3 ≤ 64 ∧ 1 ≤ P 5 ∧ P 5 ≤ 64
def pm_hold (P : Nat → Nat) (C : wk_Sg) (i n : Nat) : Prop := ¬ C (8, i, n % P 1) 1 = 0 ∧ C (8, i, n % P 1) 2 = nI n
def pm_c1 (P : Nat → Nat) (C : wk_Sg) : Prop := C (1, 0, 0) 0 = nI (P 2) ∧ ∀ i, i < P 0 → C (4, i, 0) 0 = nI i
def pm_c2 (P : Nat → Nat) (R : wk_Sg) : Prop := R (20, 0, 0) 0 = nI (P 0) ∧ R (20, 0, 0) 1 = nI (P 1) ∧ R (20, 0, 0) 2 = nI (P 2) ∧ R (20, 0, 0) 3 = nI (P 3) ∧ R (20, 0, 0) 4 = nI (P 4)
def pm_mem (P : Nat → Nat) (C R : wk_Sg) : Prop := ∀ a, a < P 3 → C (2, 0, 0) a = R (21, 0, 0) a
def pm_code (P : Nat → Nat) (C R : wk_Sg) : Prop := ∀ i p, i < P 0 → p < P 4 → C (5, i, 0) p = R (22, 0, 0) (32 * i + p)
def pm_reg (P : Nat → Nat) (C R : wk_Sg) : Prop := ∀ i k, i < P 0 → k < 4 → C (6, i, 0) k = R (23, 0, 0) (4 * i + k)
def pm_cpu (P : Nat → Nat) (C R : wk_Sg) : Prop := ∀ i, i < P 0 → C (4, i, 0) 5 = R (24, 0, 0) i ∧ C (4, i, 0) 6 = R (25, 0, 0) i ∧ C (4, i, 0) 7 = R (26, 0, 0) i ∧ C (4, i, 0) 8 = R (27, 0, 0) i ∧ C (4, i, 0) 9 = R (28, 0, 0) i
def pm_slot (P : Nat → Nat) (C R : wk_Sg) : Prop := ∀ i j, i < P 0 → j < P 1 → C (8, i, j) 1 = R (29, 0, 0) (8 * i + j) ∧ C (8, i, j) 2 = R (30, 0, 0) (8 * i + j) ∧ ∀ k, k < P 2 → (C (8, i, j) 1 = 0 → R (31, 0, 0) (4 * (8 * i + j) + k) = 0) ∧ (¬ C (8, i, j) 1 = 0 → C (9, i, j) k = R (31, 0, 0) (4 * (8 * i + j) + k))
def pm_bus (C R : wk_Sg) : Prop := C (10, 0, 0) 5 = R (20, 0, 0) 17 ∧ C (10, 0, 0) 6 = R (20, 0, 0) 18 ∧ C (10, 0, 0) 7 = R (20, 0, 0) 19 ∧ C (10, 0, 0) 8 = R (20, 0, 0) 20 ∧ C (10, 0, 0) 4 = R (20, 0, 0) 21
def pm_kept (P : Nat → Nat) (C R : wk_Sg) : Prop := ∀ k, k < P 2 → C (12, 0, 0) k = R (32, 0, 0) k
def pm_done (C R : wk_Sg) : Prop := ∀ k, k < 4 → C (11, 0, 0) k = R (33, 0, 0) (k + 1)
def pm_D (P : Nat → Nat) (C R : wk_Sg) : Prop := C (0, 0, 0) 3 = R (20, 0, 0) 7 ∧ pm_c1 P C ∧ pm_c2 P R ∧ pm_mem P C R ∧ pm_code P C R ∧ pm_reg P C R ∧ pm_cpu P C R ∧ pm_slot P C R ∧ pm_bus C R ∧ pm_kept P C R ∧ pm_done C R
def pm_i1 (P : Nat → Nat) (C : wk_Sg) : Prop := ∀ i, i < P 0 → C (4, i, 0) 6 = 0 ∨ C (4, i, 0) 6 = 1 ∨ C (4, i, 0) 6 = 2 ∨ C (4, i, 0) 6 = 3
def pm_i2 (P : Nat → Nat) (C : wk_Sg) : Prop := ∀ i, i < P 0 → C (4, i, 0) 8 = 0 ∨ ((C (4, i, 0) 8 = 1 ∨ C (4, i, 0) 8 = 2) ∧ C (4, i, 0) 6 = 1 ∧ ∃ n, n < P 5 ∧ C (4, i, 0) 9 = nI n ∧ (C (4, i, 0) 8 = 1 → ¬ pm_hold P C i n))
def pm_i3 (P : Nat → Nat) (C : wk_Sg) : Prop := ∀ i j, i < P 0 → j < P 1 → (C (8, i, j) 1 = 0 ∧ C (8, i, j) 2 = -1) ∨ (¬ C (8, i, j) 1 = 0 ∧ ∃ n, n < P 5 ∧ C (8, i, j) 2 = nI n)
def pm_i4 (P : Nat → Nat) (C : wk_Sg) : Prop := C (10, 0, 0) 5 = 0 ∨ ((C (10, 0, 0) 5 = 1 ∨ C (10, 0, 0) 5 = 2 ∨ C (10, 0, 0) 5 = 3) ∧ (C (10, 0, 0) 7 = 1 ∨ C (10, 0, 0) 7 = 2) ∧ ∃ c n, c < P 0 ∧ n < P 5 ∧ C (10, 0, 0) 6 = nI c ∧ C (10, 0, 0) 8 = nI n ∧ C (4, c, 0) 6 = 1 ∧ C (4, c, 0) 8 = 0 ∧ (C (10, 0, 0) 7 = 1 → ¬ pm_hold P C c n) ∧ (C (10, 0, 0) 5 = 3 → ∀ i, i < P 0 → ¬ i = c → pm_hold P C i n → C (10, 0, 0) 7 = 1 ∧ ¬ C (10, 0, 0) 4 = 0 ∧ ¬ C (8, i, n % P 1) 1 = 2 ∧ ¬ C (8, i, n % P 1) 1 = 4))
def pm_i5 (P : Nat → Nat) (C : wk_Sg) : Prop := ∀ n i i', n < P 5 → i < P 0 → i' < P 0 → ¬ i = i' → pm_hold P C i n → pm_hold P C i' n → ¬ C (8, i, n % P 1) 1 = 2 ∧ ¬ C (8, i, n % P 1) 1 = 4 ∧ ¬ (C (8, i, n % P 1) 1 = 3 ∧ C (8, i', n % P 1) 1 = 3)
def pm_I (P : Nat → Nat) (C : wk_Sg) : Prop := pm_i1 P C ∧ pm_i2 P C ∧ pm_i3 P C ∧ pm_i4 P C ∧ pm_i5 P C
