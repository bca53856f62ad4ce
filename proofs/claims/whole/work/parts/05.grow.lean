/-! Worlds that grow (constructors): a new cell gets a code; a reference field or element is set. -/
def wk_au (ad : wk_K3 → Nat) (κ : wk_K3) (q : Nat) : wk_K3 → Nat := fun j => if j = κ then q else ad j
def wk_hu (sh : wk_Sh) (κ : wk_K3) (x : wk_X) : wk_Sh := fun j => if j = κ then some x else sh j
def wk_lu (lk : wk_L) (k : Nat) (κ : wk_K3) : wk_L := fun j => if j = k then some (some κ) else lk j
def wk_ru (lk : Nat → Option wk_K3) (k : Nat) (κ : wk_K3) : Nat → Option wk_K3 := fun j => if j = k then some κ else lk j
theorem wk_au_self (ad : wk_K3 → Nat) (κ : wk_K3) (q : Nat) : wk_au ad κ q κ = q := by simp [wk_au]
theorem wk_au_ne (ad : wk_K3 → Nat) {κ j : wk_K3} (q : Nat) (h : j ≠ κ) : wk_au ad κ q j = ad j := by simp [wk_au, h]
theorem wk_hu_self (sh : wk_Sh) (κ : wk_K3) (x : wk_X) : wk_hu sh κ x κ = some x := by simp [wk_hu]
theorem wk_hu_ne (sh : wk_Sh) {κ j : wk_K3} (x : wk_X) (h : j ≠ κ) : wk_hu sh κ x j = sh j := by simp [wk_hu, h]
theorem wk_cell_au {ad : wk_K3 → Nat} {κ : wk_K3} {q : Nat} {f : Nat → Int32} {x : wk_X} (h : ¬ wk_to x κ) : wk_cell (wk_au ad κ q) f x = wk_cell ad f x := by
  rcases x with ((⟨cA, n⟩ | ⟨cA, n, lk⟩) | ⟨ci, N, lk⟩)
  · rfl
  · have e : (fun j => (lk j).map (wk_au ad κ q)) = fun j => (lk j).map ad := by
      funext j
      cases hj : lk j with
      | none => rfl
      | some k2 =>
        have hne : k2 ≠ κ := fun z => h ⟨j, by rw [hj, z]⟩
        simp [wk_au, hne]
    simp only [wk_cell, e]
  · have e : (List.range N).map (wk_fv (wk_au ad κ q) lk f) = (List.range N).map (wk_fv ad lk f) := by
      apply List.map_congr_left
      intro k _
      unfold wk_fv
      cases hk : lk k with
      | none => rfl
      | some o =>
        cases o with
        | none => rfl
        | some k2 =>
          have hne : k2 ≠ κ := fun z => h ⟨k, by rw [hk, z]⟩
          simp [wk_au, hne]
    simp only [wk_cell, e]
theorem wk_fs_lnk {ad : wk_K3 → Nat} {lk : wk_L} {f : Nat → Int32} {N k : Nat} {κ : wk_K3} (hk : k < N) : ((List.range N).map (wk_fv ad lk f)).set k (.ref (ad κ)) = (List.range N).map (wk_fv ad (wk_lu lk k κ) f) := by
  apply List.ext_getElem?
  intro j
  by_cases hj : j = k
  · subst hj
    rw [List.getElem?_set_self (by simpa using hk), wk_fs_get hk]
    simp [wk_fv, wk_lu]
  · rw [List.getElem?_set_ne (Ne.symm hj), List.getElem?_map, List.getElem?_map]
    cases hr : (List.range N)[j]? with
    | none => rfl
    | some i =>
      have hi : i = j := by
        have := (List.getElem?_eq_some_iff.mp hr).2
        simpa using this.symm
      subst hi
      simp [wk_fv, wk_lu, hj]
theorem wk_H.grow {D : va_G} {z0 q : Nat} {ad : wk_K3 → Nat} {sh : wk_Sh} {sg : wk_Sg} {ws : va_W} {H1 : Heap} {κ : wk_K3} {x : wk_X} {f : Nat → Int32}
    (hm : ∀ κ x, sh κ = some x → (ad κ, wk_cell ad (sg κ) x) ∈ ws) (hi : ∀ κ κ' x x', sh κ = some x → sh κ' = some x' → ad κ = ad κ' → κ = κ') (hcl : ∀ κ x κ', sh κ = some x → wk_to x κ' → ∃ x', sh κ' = some x') (hn : sh κ = none) (hno : ∀ κ', ¬ wk_to x κ')
    (hP : va_P D wk_cl (ws ++ [(q, wk_cell ad f x)]) H1) (hD : va_D (fun q => z0 ≤ q) (ws ++ [(q, wk_cell ad f x)])) : wk_H D z0 (wk_au ad κ q) (wk_hu sh κ x) (wk_su sg κ f) H1 := by
  have hq : ∀ κ' x', sh κ' = some x' → ad κ' ≠ q := by
    intro κ' x' h e
    obtain ⟨i, hi'⟩ := List.getElem?_of_mem (hm κ' x' h)
    have hl := (List.getElem?_eq_some_iff.mp hi').1
    have h1 : (ws ++ [(q, wk_cell ad f x)])[i]? = some (ad κ', wk_cell ad (sg κ') x') := by rw [List.getElem?_append_left hl]; exact hi'
    have h2 : (ws ++ [(q, wk_cell ad f x)])[ws.length]? = some (q, wk_cell ad f x) := by rw [List.getElem?_append_right (Nat.le_refl _), Nat.sub_self]; rfl
    have h3 := hD.1 i ws.length _ _ h1 h2 e
    omega
  have old : ∀ κ' x', κ' ≠ κ → wk_hu sh κ x κ' = some x' → sh κ' = some x' := fun κ' x' hk h => by rwa [wk_hu_ne _ _ hk] at h
  refine ⟨_, hP, hD, fun κ' x' h => ?_, fun κ1 κ2 x1 x2 h1 h2 ha => ?_, fun κ1 x1 κ2 h1 h2 => ?_⟩
  · by_cases hk : κ' = κ
    · subst hk
      rw [wk_hu_self] at h
      cases h
      rw [wk_su_self, wk_au_self, wk_cell_au (hno _)]
      exact List.mem_append_right _ (List.mem_singleton.mpr rfl)
    · have h' := old κ' x' hk h
      have hnt : ¬ wk_to x' κ := fun ht => by
        obtain ⟨z, hz⟩ := hcl κ' x' κ h' ht
        rw [hn] at hz
        cases hz
      rw [wk_su_ne _ _ hk, wk_cell_au hnt, wk_au_ne _ _ hk]
      exact List.mem_append_left _ (hm κ' x' h')
  · by_cases hk1 : κ1 = κ <;> by_cases hk2 : κ2 = κ
    · rw [hk1, hk2]
    · subst hk1
      rw [wk_au_self, wk_au_ne _ _ hk2] at ha
      exact absurd ha.symm (hq κ2 x2 (old κ2 x2 hk2 h2))
    · subst hk2
      rw [wk_au_self, wk_au_ne _ _ hk1] at ha
      exact absurd ha (hq κ1 x1 (old κ1 x1 hk1 h1))
    · rw [wk_au_ne _ _ hk1, wk_au_ne _ _ hk2] at ha
      exact hi κ1 κ2 x1 x2 (old κ1 x1 hk1 h1) (old κ2 x2 hk2 h2) ha
  · by_cases hk1 : κ1 = κ
    · subst hk1
      rw [wk_hu_self] at h1
      cases h1
      exact absurd h2 (hno κ2)
    · obtain ⟨y, hy⟩ := hcl κ1 x1 κ2 (old κ1 x1 hk1 h1) h2
      by_cases hk2 : κ2 = κ
      · exact ⟨x, by rw [hk2, wk_hu_self]⟩
      · exact ⟨y, by rw [wk_hu_ne _ _ hk2]; exact hy⟩
theorem wk_H.link {D : va_G} {z0 p : Nat} {ad : wk_K3 → Nat} {sh : wk_Sh} {sg : wk_Sg} {ws : va_W} {H1 : Heap} {κ : wk_K3} {x x2 : wk_X} {e0 : va_E}
    (hm : ∀ κ x, sh κ = some x → (ad κ, wk_cell ad (sg κ) x) ∈ ws) (hi : ∀ κ κ' x x', sh κ = some x → sh κ' = some x' → ad κ = ad κ' → κ = κ') (hcl : ∀ κ x κ', sh κ = some x → wk_to x κ' → ∃ x', sh κ' = some x') (hx : sh κ = some x) (hp : ws[p]? = some (ad κ, e0)) (hto : ∀ κ', wk_to x2 κ' → ∃ y, sh κ' = some y)
    (hP : va_P D wk_cl (ws.set p (ad κ, wk_cell ad (sg κ) x2)) H1) (hD : va_D (fun q => z0 ≤ q) (ws.set p (ad κ, wk_cell ad (sg κ) x2))) : wk_H D z0 ad (wk_hu sh κ x2) sg H1 := by
  have hl := (List.getElem?_eq_some_iff.mp hp).1
  have old : ∀ κ' x', wk_hu sh κ x2 κ' = some x' → ∃ x'', sh κ' = some x'' := by
    intro κ' x' h
    by_cases hk : κ' = κ
    · exact ⟨x, by rw [hk]; exact hx⟩
    · exact ⟨x', by rwa [wk_hu_ne _ _ hk] at h⟩
  have new : ∀ κ', (∃ y, sh κ' = some y) → ∃ y, wk_hu sh κ x2 κ' = some y := by
    rintro κ' ⟨y, hy⟩
    by_cases hk : κ' = κ
    · exact ⟨x2, by rw [hk, wk_hu_self]⟩
    · exact ⟨y, by rw [wk_hu_ne _ _ hk]; exact hy⟩
  refine ⟨_, hP, hD, fun κ' x' h => ?_, fun κ1 κ2 x1 x2 h1 h2 ha => ?_, fun κ1 x1 κ2 h1 h2 => ?_⟩
  · by_cases hk : κ' = κ
    · subst hk
      rw [wk_hu_self] at h
      cases h
      exact List.mem_of_getElem? (List.getElem?_set_self hl)
    · have h' : sh κ' = some x' := by rwa [wk_hu_ne _ _ hk] at h
      obtain ⟨i, hi'⟩ := List.getElem?_of_mem (hm κ' x' h')
      have hip : i ≠ p := by
        intro q
        subst q
        rw [hp] at hi'
        have h2 := congrArg Prod.fst (Option.some.inj hi')
        exact hk (hi κ' κ x' x h' hx h2.symm)
      exact List.mem_of_getElem? (i := i) (by rw [List.getElem?_set_ne (Ne.symm hip)]; exact hi')
  · obtain ⟨y1, g1⟩ := old κ1 x1 h1
    obtain ⟨y2, g2⟩ := old κ2 _ h2
    exact hi κ1 κ2 y1 y2 g1 g2 ha
  · by_cases hk : κ1 = κ
    · subst hk
      rw [wk_hu_self] at h1
      cases h1
      exact new κ2 (hto κ2 h2)
    · exact new κ2 (hcl κ1 x1 κ2 (by rwa [wk_hu_ne _ _ hk] at h1) h2)
section WKG
variable {p : Program} {l : Launch} {e : Env} {R : Room} {s : State} {m : MethodId} {args : Array Value} {below : List Frame} {meth : Method} {c : Code} {H : Heap} {locs : List Loc} {cells slots : Nat} {Q : State → Prop}
variable {cc : ByteArray} {pc nL : Nat} {ls : Array Slot} {rest : List Value} {D : va_G} {T : wk_T} {H0 : Heap} {z0 : Nat} {ad : wk_K3 → Nat} {sh : wk_Sh} {sg : wk_Sg} {own : String}
theorem wk_new (X : wk_C p m c cc nL s args own D T) (hH : wk_H D z0 ad sh sg H) (hS : va_S (wk_A z0) H0 H locs) (hz : z0 ≤ H0.size) {C : String} {TT : u_T} {N ci index : Nat} (κ : wk_K3) (lk : wk_L) {ty0 : Nat → FieldType} (hty : ∀ k, k < N → parseFieldDescriptor (TT k).2.2.1 = some (ty0 k)) (hc : wk_cl[ci]? = some (C, TT, N)) (hn : sh κ = none) (hlk : ∀ k κ', lk k ≠ some (some κ')) (hdf : ∀ j, j < N → defaultValue (ty0 j) = wk_fv ad lk (fun _ => 0) j) (hin : ∀ w ∈ u_ws C TT N, w ∈ wk_B) (hcl : Cond.classLink own index C ∈ wk_B) (hinst : Cond.instantiable C N ∈ wk_B) (hini : Cond.initialized C ∈ wk_B) (hcells : cells + 1 ≤ R.cells) (hslots : slots + N ≤ R.slots) (hdg : decode cc pc = .ok (.new index, 3))
    (kk : ∀ (q : Nat) (H1 : Heap), wk_H D z0 (wk_au ad κ q) (wk_hu sh κ (.inr (ci, N, lk))) (wk_su sg κ (fun _ => 0)) H1 → va_S (wk_A z0) H0 H1 locs → W p l e R s m args below meth c H1 locs (cells + 1) (slots + N) Q (F0 m (pc + 3) ls (.ref q :: rest))) : W p l e R s m args below meth c H locs cells slots Q (F0 m pc ls rest) := by
  obtain ⟨⟨hx, hb, -, hown, hts⟩, hK, -⟩ := X
  obtain ⟨ws, hP, hD, hm, hi, hcl2⟩ := hH
  refine va_new (D := D) (fs := (List.range N).map (wk_fv ad lk (fun _ => 0))) hx hb hts hin ty0 hty hown (hts _ hcl) (hts _ hinst) (hts _ hini) hK hP hD hS (fun q h => Nat.le_trans hz h) hc (fun j hj => ?_) hcells hslots hdg (fun q H1 hP1 hD1 hS1 => kk q H1 ?_ hS1)
  · rw [hdf j hj, vp_V, List.getD_eq_getElem?_getD, wk_fs_get hj]
    rfl
  · exact wk_H.grow (x := .inr (ci, N, lk)) hm hi hcl2 hn (fun κ' h => by obtain ⟨k, h⟩ := h; exact hlk k κ' h) hP1 hD1
theorem wk_newi (X : wk_C p m c cc nL s args own D T) (hH : wk_H D z0 ad sh sg H) (hS : va_S (wk_A z0) H0 H locs) (hz : z0 ≤ H0.size) (κ : wk_K3) (hn : sh κ = none) (harr : Cond.arrayClass .int ∈ wk_B) {n : Int32} {N : Nat} (hneg : ¬ n < 0) (hN : n.toNatClampNeg = N) (hbytes : N * 4 ≤ 536870912) (hcells : cells + 1 ≤ R.cells) (hslots : slots + N ≤ R.slots) (hdg : decode cc pc = .ok (.newarray .int, 2))
    (kk : ∀ (q : Nat) (H1 : Heap), wk_H D z0 (wk_au ad κ q) (wk_hu sh κ (.inl (.inl (T.1, N)))) (wk_su sg κ (fun _ => 0)) H1 → va_S (wk_A z0) H0 H1 locs → W p l e R s m args below meth c H1 locs (cells + 1) (slots + N) Q (F0 m (pc + 2) ls (.ref q :: rest))) : W p l e R s m args below meth c H locs cells slots Q (F0 m pc ls (.int n :: rest)) := by
  obtain ⟨⟨hx, hb, -, hown, hts⟩, hK, -⟩ := X
  obtain ⟨ws, hP, hD, hm, hi, hcl2⟩ := hH
  refine va_newa (D := D) (atype := .int) (ty := .int) (a0 := (N, .inl (fun _ => 0))) hx hb (hts _ harr) rfl hK hP hD hS (fun q h => Nat.le_trans hz h) (fun _ => rfl) hneg hN hbytes hcells hslots hdg (fun q cA' H1 hK1 hP1 hD1 hS1 => ?_)
  have h1 : s.vm.findClass ("[" ++ FieldType.int.toString) = some T.1 := (hK.2 0 (T.1, .int) rfl).2
  have h2 : s.vm.findClass ("[" ++ FieldType.int.toString) = some cA' := (hK1.2 (wk_ty T).length (cA', .int) (by rw [List.getElem?_append_right (Nat.le_refl _), Nat.sub_self]; rfl)).2
  obtain rfl : T.1 = cA' := Option.some.inj (h1.symm.trans h2)
  exact kk q H1 (wk_H.grow (x := .inl (.inl (T.1, N))) hm hi hcl2 hn (fun _ h => h) hP1 hD1) hS1
theorem wk_newr (X : wk_C p m c cc nL s args own D T) (hH : wk_H D z0 ad sh sg H) (hS : va_S (wk_A z0) H0 H locs) (hz : z0 ≤ H0.size) (κ : wk_K3) (t0 : Nat) {cA : ClassId} {C : String} {index : Nat} (ht : (wk_ty T)[t0]? = some (cA, .object C)) (hn : sh κ = none) (hcl : Cond.classLink own index C ∈ wk_B) (hover : va_AO C s) {n : Int32} {N : Nat} (hneg : ¬ n < 0) (hN : n.toNatClampNeg = N) (hbytes : N * 4 ≤ 536870912) (hcells : cells + 1 ≤ R.cells) (hslots : slots + N ≤ R.slots) (hdg : decode cc pc = .ok (.anewarray index, 3))
    (kk : ∀ (q : Nat) (H1 : Heap), wk_H D z0 (wk_au ad κ q) (wk_hu sh κ (.inl (.inr (cA, N, fun _ => none)))) sg H1 → va_S (wk_A z0) H0 H1 locs → W p l e R s m args below meth c H1 locs (cells + 1) (slots + N) Q (F0 m (pc + 3) ls (.ref q :: rest))) : W p l e R s m args below meth c H locs cells slots Q (F0 m pc ls (.int n :: rest)) := by
  obtain ⟨⟨hx, hb, -, hown, hts⟩, hK, -⟩ := X
  obtain ⟨ws, hP, hD, hm, hi, hcl2⟩ := hH
  refine va_newq (D := D) hx hb hown (hts _ hcl) hover hK hP hD hS (fun q h => Nat.le_trans hz h) hneg hN hbytes hcells hslots hdg (fun q cA' H1 hK1 hP1 hD1 hS1 => ?_)
  obtain ⟨_, _, -, -, -, h1⟩ := (hK.2 t0 _ ht).2
  obtain ⟨_, _, -, -, -, h2⟩ := (hK1.2 (wk_ty T).length (cA', .object C) (by rw [List.getElem?_append_right (Nat.le_refl _), Nat.sub_self]; rfl)).2
  obtain rfl : cA = cA' := Option.some.inj (h1.symm.trans h2)
  have h3 := wk_H.grow (sg := sg) (f := sg κ) (x := .inl (.inr (cA, N, fun _ => none))) hm hi hcl2 hn (fun _ h => by obtain ⟨j, h⟩ := h; cases h) hP1 hD1
  have e : wk_su sg κ (sg κ) = sg := by
    funext j
    by_cases hj : j = κ
    · rw [hj, wk_su_self]
    · rw [wk_su_ne _ _ hj]
  rw [e] at h3
  exact kk q H1 h3 hS1
/-- putfield of a final int in the constructor -/
theorem wk_putiF (X : wk_C p m c cc nL s args own D T) (hH : wk_H D z0 ad sh sg H) (hS : va_S (wk_A z0) H0 H locs) {C : String} {TT : u_T} {N ci index : Nat} {lk : wk_L} (κ : wk_K3) (k : Nat) {ty0 : Nat → FieldType} (hty : ∀ k, k < N → parseFieldDescriptor (TT k).2.2.1 = some (ty0 k)) (hnm : ∀ a, a < N → ∀ b, b < N → a ≠ b → (TT a).2.1 ≠ (TT b).2.1) (he : sh κ = some (.inr (ci, N, lk))) (hc : wk_cl[ci]? = some (C, TT, N)) (hk : k < N) (hlk : lk k = none) (hin : ∀ w ∈ u_ws C TT N, w ∈ wk_B) (hlink : Cond.fieldLink own index (TT k).1 (TT k).2.1 (TT k).2.2.1 ∈ wk_B) (hfin : (TT k).2.2.2 = true) (hini : meth.name = "<init>") (hdecl : (TT k).1 = own) {x : Int32} (hn : narrow (ty0 k) (.int x) = .int x) (hfit : fits (ty0 k) (.int x) = true) (hdg : decode cc pc = .ok (.putfield index, 3))
    (kk : ∀ (H1 : Heap) (locs1 : List Loc), wk_H D z0 ad sh (wk_up sg κ k x) H1 → va_S (wk_A z0) H0 H1 locs1 → W p l e R s m args below meth c H1 locs1 cells slots Q (F0 m (pc + 3) ls rest)) : W p l e R s m args below meth c H locs cells slots Q (F0 m pc ls (.int x :: .ref (ad κ) :: rest)) := by
  obtain ⟨⟨hx, hb, -, hown, hts⟩, hK, -⟩ := X
  obtain ⟨ws, hP, hD, hm, hi, hcl⟩ := hH
  obtain ⟨q, hq⟩ := List.getElem?_of_mem (hm κ _ he)
  refine va_putF (D := D) hx hb hts hin ty0 hty hnm hown hK hP hD hS q hq hc k hk (hts _ hlink) (fun _ h => h) hfin hini hdecl (hty k hk) hn hfit (by simpa using hk) hdg (fun H1 locs1 hP1 hD1 hS1 => kk H1 locs1 ?_ hS1)
  rw [wk_fs_set hk hlk] at hP1 hD1
  exact wk_H.set hm hi hcl he hq hP1 hD1
/-- putfield of a final reference in the constructor -/
theorem wk_putrF (X : wk_C p m c cc nL s args own D T) (hH : wk_H D z0 ad sh sg H) (hS : va_S (wk_A z0) H0 H locs) {C : String} {TT : u_T} {N ci index : Nat} {lk : wk_L} (κ : wk_K3) (k : Nat) {κ' : wk_K3} {x' : wk_X} {ty0 : Nat → FieldType} (hty : ∀ k, k < N → parseFieldDescriptor (TT k).2.2.1 = some (ty0 k)) (hnm : ∀ a, a < N → ∀ b, b < N → a ≠ b → (TT a).2.1 ≠ (TT b).2.1) (he : sh κ = some (.inr (ci, N, lk))) (hc : wk_cl[ci]? = some (C, TT, N)) (hk : k < N) (he' : sh κ' = some x') (hin : ∀ w ∈ u_ws C TT N, w ∈ wk_B) (hlink : Cond.fieldLink own index (TT k).1 (TT k).2.1 (TT k).2.2.1 ∈ wk_B) (hfin : (TT k).2.2.2 = true) (hini : meth.name = "<init>") (hdecl : (TT k).1 = own) (hn : narrow (ty0 k) (.ref (ad κ')) = .ref (ad κ')) (hfit : fits (ty0 k) (.ref (ad κ')) = true) (hdg : decode cc pc = .ok (.putfield index, 3))
    (kk : ∀ (H1 : Heap) (locs1 : List Loc), wk_H D z0 ad (wk_hu sh κ (.inr (ci, N, wk_lu lk k κ'))) sg H1 → va_S (wk_A z0) H0 H1 locs1 → W p l e R s m args below meth c H1 locs1 cells slots Q (F0 m (pc + 3) ls rest)) : W p l e R s m args below meth c H locs cells slots Q (F0 m pc ls (.ref (ad κ') :: .ref (ad κ) :: rest)) := by
  obtain ⟨⟨hx, hb, -, hown, hts⟩, hK, -⟩ := X
  obtain ⟨ws, hP, hD, hm, hi, hcl⟩ := hH
  obtain ⟨q, hq⟩ := List.getElem?_of_mem (hm κ _ he)
  refine va_putF (D := D) hx hb hts hin ty0 hty hnm hown hK hP hD hS q hq hc k hk (hts _ hlink) (fun _ h => h) hfin hini hdecl (hty k hk) hn hfit (by simpa using hk) hdg (fun H1 locs1 hP1 hD1 hS1 => kk H1 locs1 ?_ hS1)
  rw [wk_fs_lnk hk] at hP1 hD1
  refine wk_H.link (x2 := .inr (ci, N, wk_lu lk k κ')) hm hi hcl he hq (fun κ2 h => ?_) hP1 hD1
  obtain ⟨j, h⟩ := h
  by_cases hj : j = k
  · simp only [wk_lu, hj, if_true] at h
    cases h
    exact ⟨x', he'⟩
  · simp only [wk_lu, hj, if_false] at h
    exact hcl κ _ κ2 he ⟨j, h⟩
/-- putfield of a reference, not final -/
theorem wk_putr (X : wk_C p m c cc nL s args own D T) (hH : wk_H D z0 ad sh sg H) (hS : va_S (wk_A z0) H0 H locs) {C : String} {TT : u_T} {N ci index : Nat} {lk : wk_L} (κ : wk_K3) (k : Nat) {κ' : wk_K3} {x' : wk_X} {ty0 : Nat → FieldType} (hty : ∀ k, k < N → parseFieldDescriptor (TT k).2.2.1 = some (ty0 k)) (hnm : ∀ a, a < N → ∀ b, b < N → a ≠ b → (TT a).2.1 ≠ (TT b).2.1) (he : sh κ = some (.inr (ci, N, lk))) (hc : wk_cl[ci]? = some (C, TT, N)) (hk : k < N) (he' : sh κ' = some x') (hin : ∀ w ∈ u_ws C TT N, w ∈ wk_B) (hlink : Cond.fieldLink own index (TT k).1 (TT k).2.1 (TT k).2.2.1 ∈ wk_B) (hfin : (TT k).2.2.2 = false) (hn : narrow (ty0 k) (.ref (ad κ')) = .ref (ad κ')) (hfit : fits (ty0 k) (.ref (ad κ')) = true) (hdg : decode cc pc = .ok (.putfield index, 3))
    (kk : ∀ (H1 : Heap) (locs1 : List Loc), wk_H D z0 ad (wk_hu sh κ (.inr (ci, N, wk_lu lk k κ'))) sg H1 → va_S (wk_A z0) H0 H1 locs1 → W p l e R s m args below meth c H1 locs1 cells slots Q (F0 m (pc + 3) ls rest)) : W p l e R s m args below meth c H locs cells slots Q (F0 m pc ls (.ref (ad κ') :: .ref (ad κ) :: rest)) := by
  obtain ⟨⟨hx, hb, -, hown, hts⟩, hK, -⟩ := X
  obtain ⟨ws, hP, hD, hm, hi, hcl⟩ := hH
  obtain ⟨q, hq⟩ := List.getElem?_of_mem (hm κ _ he)
  refine va_put (D := D) hx hb hts hin ty0 hty hnm hown hK hP hD hS q hq hc k hk (hts _ hlink) (fun _ h => h) hfin (hty k hk) hn hfit (by simpa using hk) hdg (fun H1 locs1 hP1 hD1 hS1 => kk H1 locs1 ?_ hS1)
  rw [wk_fs_lnk hk] at hP1 hD1
  refine wk_H.link (x2 := .inr (ci, N, wk_lu lk k κ')) hm hi hcl he hq (fun κ2 h => ?_) hP1 hD1
  obtain ⟨j, h⟩ := h
  by_cases hj : j = k
  · simp only [wk_lu, hj, if_true] at h
    cases h
    exact ⟨x', he'⟩
  · simp only [wk_lu, hj, if_false] at h
    exact hcl κ _ κ2 he ⟨j, h⟩
/-- an element of an array of references is set to an object of its very component -/
theorem wk_aast (X : wk_C p m c cc nL s args own D T) (hH : wk_H D z0 ad sh sg H) (hS : va_S (wk_A z0) H0 H locs) {cA : ClassId} {r : vw_C} {n ci N : Nat} {lk : Nat → Option wk_K3} {lk2 : wk_L} (κ κ' : wk_K3) (t0 : Nat) (he : sh κ = some (.inl (.inr (cA, n, lk)))) (he' : sh κ' = some (.inr (ci, N, lk2))) (ht : (wk_ty T)[t0]? = some (cA, .object r.1)) (hc : wk_cl[ci]? = some r) {i : Int32} (hin : vp_in i n) (hdg : decode cc pc = .ok (.aastore, 1))
    (kk : ∀ (H1 : Heap) (locs1 : List Loc), wk_H D z0 ad (wk_hu sh κ (.inl (.inr (cA, n, wk_ru lk i.toNatClampNeg κ')))) sg H1 → va_S (wk_A z0) H0 H1 locs1 → W p l e R s m args below meth c H1 locs1 cells slots Q (F0 m (pc + 1) ls rest)) : W p l e R s m args below meth c H locs cells slots Q (F0 m pc ls (.ref (ad κ') :: .int i :: .ref (ad κ) :: rest)) := by
  obtain ⟨⟨hx, hb, -, hown, hts⟩, hK, -⟩ := X
  obtain ⟨ws, hP, hD, hm, hi, hcl⟩ := hH
  obtain ⟨q, hq⟩ := List.getElem?_of_mem (hm κ _ he)
  obtain ⟨q', hq'⟩ := List.getElem?_of_mem (hm κ' _ he')
  refine va_astq hx hb hK hP hD hS q t0 q' ci hq ht hq' hc hin hdg (fun H1 locs1 hP1 hD1 hS1 => kk H1 locs1 ?_ hS1)
  have e : va_up (fun j => (lk j).map ad) i.toNatClampNeg (some (ad κ')) = fun j => (wk_ru lk i.toNatClampNeg κ' j).map ad := by
    funext j
    by_cases hj : j = i.toNatClampNeg
    · simp [va_up, wk_ru, hj]
    · simp [va_up, wk_ru, hj]
  rw [e] at hP1 hD1
  refine wk_H.link (x2 := .inl (.inr (cA, n, wk_ru lk i.toNatClampNeg κ'))) hm hi hcl he hq (fun κ2 h => ?_) hP1 hD1
  obtain ⟨j, h⟩ := h
  by_cases hj : j = i.toNatClampNeg
  · simp only [wk_ru, hj, if_true] at h
    cases h
    exact ⟨_, he'⟩
  · simp only [wk_ru, hj, if_false] at h
    exact hcl κ _ κ2 he ⟨j, h⟩
end WKG
/-! Constructors: their calls and their ends. -/
def wk_ext (F : wk_K3 → Prop) (ad : wk_K3 → Nat) (sh : wk_Sh) (sg : wk_Sg) (ad' : wk_K3 → Nat) (sh' : wk_Sh) (sg' : wk_Sg) : Prop := ∀ κ, ¬ F κ → ad' κ = ad κ ∧ sh' κ = sh κ ∧ sg' κ = sg κ
abbrev wk_U : Type := (wk_K3 → Nat) × wk_Sh × wk_Sg
abbrev wk_Qn (D : va_G) (z0 : Nat) (Φ : (wk_K3 → Nat) → wk_Sh → wk_Sg → Prop) : Array Value → State → Outcome → State → Prop := va_Qv (S := wk_U) (fun u => Φ u.1 u.2.1 u.2.2) (fun u t => wk_H D z0 u.1 u.2.1 u.2.2 t.heap) (wk_A z0)
abbrev wk_Mn (l : Launch) (y : MethodName) (bytes : ByteArray) (maxL : Nat) (fr lo mc ms : Nat) (D : va_G) (T : wk_T) (z0 : Nat) (ad : wk_K3 → Nat) (sh : wk_Sh) (av : List Value) (sg : wk_Sg) (Φ : (wk_K3 → Nat) → wk_Sh → wk_Sg → Prop) : Prop :=
  Met l y (Cond.code y bytes maxL none :: wk_B) { frames := fr, cells := mc, slots := ms, locals := lo } (va_Pc av (wk_Pre D T z0 ad sh sg)) (wk_Qn D z0 Φ) mc ms (wk_A z0)
def wk_OkI (y : MethodName) (bytes : ByteArray) (maxL : Nat) (n : Nat) : Prop := Cond.code y bytes maxL none ∈ wk_B ∧ Cond.initialized y.cls ∈ wk_B ∧ Cond.instanceMethod y ∈ wk_B ∧ y.name = "<init>" ∧ (y.cls ≠ "java/lang/invoke/MethodHandle" ∧ y.cls ≠ "java/lang/invoke/VarHandle" ∧ (parseMethodDescriptor y.desc).map (fun d => d.parameters.length) = some n)
section WKN
variable {p : Program} {l : Launch} {e : Env} {R : Room} {s : State} {m : MethodId} {args : Array Value} {below : List Frame} {meth : Method} {c : Code} {H : Heap} {locs : List Loc} {cells slots : Nat} {Q : State → Prop}
variable {cc : ByteArray} {pc nL : Nat} {ls : Array Slot} {rest st0 : List Value} {D : va_G} {T : wk_T} {H0 : Heap} {z0 : Nat} {ad : wk_K3 → Nat} {sh : wk_Sh} {sg : wk_Sg} {own : String} {Φ : (wk_K3 → Nat) → wk_Sh → wk_Sg → Prop}
theorem wk_nret (X : wk_C p m c cc nL s args own D T) (hH : wk_H D z0 ad sh sg H) (hS : va_S (wk_A z0) s.heap H locs) (hr : meth.sig.returnType = none) (hlocks : meth.locks = false) (hΦ : Φ ad sh sg) (hdg : decode cc pc = .ok (.return_, 1)) : W p l e R s m args below meth c H locs cells slots (MQ below (wk_Qn D z0 Φ) args s cells slots (wk_A z0)) (F0 m pc ls []) :=
  W.vret X.1.1 X.1.2.1 hr (fun t ht _ => ⟨⟨(ad, sh, sg), rfl, hΦ, by show wk_H D z0 ad sh _ t.heap; rw [ht]; exact hH⟩, hS.F ht⟩) hS.2.2 hdg hlocks
theorem wk_rI {y : MethodName} {bytes : ByteArray} {maxL n index fr lo mc ms : Nat} {b : Nat} {As : List Value} {Qc : Array Value → State → Outcome → State → Prop} (X : wk_C p m c cc nL s args own D T) (hH : wk_H D z0 ad sh sg H) (hS : va_S (wk_A z0) s.heap H locs) (hz : z0 ≤ s.heap.size) (ok : wk_OkI y bytes maxL n)
    (hM : Met l y (Cond.code y bytes maxL none :: wk_B) { frames := fr, cells := mc, slots := ms, locals := lo } (va_Pc (.ref b :: As) (wk_Pre D T z0 ad sh sg)) Qc mc ms (wk_A z0)) (hl : Cond.methodLink own index y ∈ wk_B) (hR : fr + 1 ≤ R.frames ∧ 8 + (maxL + 11) + lo ≤ R.locals ∧ cells + mc ≤ R.cells ∧ slots + ms ≤ R.slots) (hn : As.length = n) (hsz : ls.size = nL) (hst : st0 = As.reverse ++ .ref b :: rest) (hrm : (rest.map fun v => v.category).sum ≤ 8) (hdg : decode cc pc = .ok (.invokespecial index, 3)) :
    va_Run p l e R s m args below meth c H locs cells slots mc ms (F0 m pc ls st0) rest (Qc (Value.ref b :: As).toArray) (wk_A z0) := by
  obtain ⟨o1, o2, o3, o4, o5⟩ := ok
  have hts := X.1.2.2.2.2
  exact va_runI X.1 hM ⟨callB_of (ws' := wk_B) n hts (wk_good o1) rfl rfl rfl (hts _ o2) (hts _ hl) o5 ⟨hR.1, hR.2.1⟩, o4, hts _ o3⟩ (wk_preS X.2 hH (Nat.le_trans hz hS.1)) rfl hn hsz hst (lv_room hrm) hdg hR.2.2
theorem wk_cn {mc ms : Nat} {a : Array Value} (hr : va_Run p l e R s m args below meth c H locs cells slots mc ms (F0 m pc ls st0) rest (wk_Qn D z0 Φ a) (wk_A z0)) (hS : va_S (wk_A z0) H0 H locs)
    (kk : ∀ (H1 : Heap) (locs1 : List Loc) (ad' : wk_K3 → Nat) (sh' : wk_Sh) (sg' : wk_Sg), Φ ad' sh' sg' → wk_H D z0 ad' sh' sg' H1 → va_S (wk_A z0) H0 H1 locs1 → W p l e R s m args below meth c H1 locs1 (cells + mc) (slots + ms) Q (F0 m (pc + 3) ls rest)) : W p l e R s m args below meth c H locs cells slots Q (F0 m pc ls st0) :=
  va_callv hr hS (fun _ _ h => h) (fun _ h => h) (fun u _ H1 locs1 ht _ hΦ hB _ _ hS1 => kk H1 locs1 u.1 u.2.1 u.2.2 hΦ (ht ▸ hB) hS1)
theorem wk_obj (X : wk_C p m c cc nL s args own D T) {idx a : Nat} (hl : Cond.methodLink own idx objectInit ∈ wk_B) (hok : Cond.instanceMethod objectInit ∈ wk_B ∧ Cond.code objectInit ⟨#[0xb1]⟩ 1 none ∈ wk_B) (hsz : ls.size = nL) (hR : 1 ≤ R.frames ∧ (rest.map fun v => v.category).sum + 12 ≤ R.locals) (hd : decode cc pc = .ok (.invokespecial idx, 3)) (kk : W p l e R s m args below meth c H locs cells slots Q (F0 m (pc + 3) ls rest)) : W p l e R s m args below meth c H locs cells slots Q (F0 m pc ls (.ref a :: rest)) := by
  obtain ⟨⟨hx, hb, hml, hown, hts⟩, -⟩ := X
  refine W.objInit (rest := rest) hx hb hown (hts _ hl) (hts _ hok.1) (hts _ hok.2) rfl (hsz.trans hml.symm) rfl hd hR.1 ?_ (W.eq rfl kk)
  show 2 * 0 + _ + 12 ≤ _
  omega
/-- an address under another name -/
theorem wk_r0 {a b : Nat} (h : a = b) (k : W p l e R s m args below meth c H locs cells slots Q (F0 m pc ls (.ref b :: rest))) : W p l e R s m args below meth c H locs cells slots Q (F0 m pc ls (.ref a :: rest)) := h ▸ k
theorem wk_r1 {a b : Nat} {v : Value} (h : a = b) (k : W p l e R s m args below meth c H locs cells slots Q (F0 m pc ls (v :: .ref b :: rest))) : W p l e R s m args below meth c H locs cells slots Q (F0 m pc ls (v :: .ref a :: rest)) := h ▸ k
theorem wk_r2 {a b : Nat} {v w : Value} (h : a = b) (k : W p l e R s m args below meth c H locs cells slots Q (F0 m pc ls (v :: w :: .ref b :: rest))) : W p l e R s m args below meth c H locs cells slots Q (F0 m pc ls (v :: w :: .ref a :: rest)) := h ▸ k
end WKN
