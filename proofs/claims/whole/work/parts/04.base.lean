/-! Worlds by codes: a code (three numbers) names a cell; 'ad' says where it lies, 'sh' what it is (its shape), 'sg' which ints it holds. Fixed shape, moving ints. -/
abbrev wk_K3 : Type := Nat × Nat × Nat
abbrev wk_L : Type := Nat → Option (Option wk_K3)
abbrev wk_X : Type := ((ClassId × Nat) ⊕ (ClassId × Nat × (Nat → Option wk_K3))) ⊕ (Nat × Nat × wk_L)
abbrev wk_Sh : Type := wk_K3 → Option wk_X
abbrev wk_Sg : Type := wk_K3 → Nat → Int32
def wk_fv (ad : wk_K3 → Nat) (lk : wk_L) (f : Nat → Int32) (k : Nat) : Value := match lk k with
  | some (some κ) => .ref (ad κ)
  | some none => .null
  | none => .int (f k)
def wk_cell (ad : wk_K3 → Nat) (f : Nat → Int32) (x : wk_X) : va_E := match x with
  | .inl (.inl (cA, n)) => .inl (cA, n, .inl f)
  | .inl (.inr (cA, n, lk)) => .inl (cA, n, .inr (.inr (.inr (.inr (fun j => (lk j).map ad)))))
  | .inr (ci, N, lk) => .inr (ci, (List.range N).map (wk_fv ad lk f))
def wk_cp (sp dp n : Int32) (n0 n1 : Nat) : Prop := ¬ sp < 0 ∧ ¬ dp < 0 ∧ ¬ n < 0 ∧ sp.toNatClampNeg + n.toNatClampNeg ≤ n0 ∧ dp.toNatClampNeg + n.toNatClampNeg ≤ n1
def wk_su (sg : wk_Sg) (κ : wk_K3) (f : Nat → Int32) : wk_Sg := fun j => if j = κ then f else sg j
def wk_up (sg : wk_Sg) (κ : wk_K3) (k : Nat) (x : Int32) : wk_Sg := wk_su sg κ (upd (sg κ) k x)
theorem wk_su_self (sg : wk_Sg) (κ : wk_K3) (f : Nat → Int32) : wk_su sg κ f κ = f := by simp [wk_su]
theorem wk_su_ne (sg : wk_Sg) {κ j : wk_K3} (f : Nat → Int32) (h : j ≠ κ) : wk_su sg κ f j = sg j := by simp [wk_su, h]
/-- a cell's references -/
def wk_to (x : wk_X) (κ : wk_K3) : Prop := match x with
  | .inl (.inl _) => False
  | .inl (.inr (_, _, lk)) => ∃ j, lk j = some κ
  | .inr (_, _, lk) => ∃ k, lk k = some (some κ)
def wk_H (D : va_G) (z0 : Nat) (ad : wk_K3 → Nat) (sh : wk_Sh) (sg : wk_Sg) (H : Heap) : Prop :=
  ∃ ws : va_W, va_P D wk_cl ws H ∧ va_D (fun q => z0 ≤ q) ws ∧ (∀ κ x, sh κ = some x → (ad κ, wk_cell ad (sg κ) x) ∈ ws) ∧ (∀ κ κ' x x', sh κ = some x → sh κ' = some x' → ad κ = ad κ' → κ = κ') ∧ ∀ κ x κ', sh κ = some x → wk_to x κ' → ∃ x', sh κ' = some x'
theorem wk_fs_get {ad : wk_K3 → Nat} {lk : wk_L} {f : Nat → Int32} {N k : Nat} (hk : k < N) : ((List.range N).map (wk_fv ad lk f))[k]? = some (wk_fv ad lk f k) := by
  rw [List.getElem?_map, List.getElem?_range hk]; rfl
theorem wk_fs_set {ad : wk_K3 → Nat} {lk : wk_L} {f : Nat → Int32} {N k : Nat} {x : Int32} (hk : k < N) (hlk : lk k = none) : ((List.range N).map (wk_fv ad lk f)).set k (.int x) = (List.range N).map (wk_fv ad lk (upd f k x)) := by
  apply List.ext_getElem?
  intro j
  by_cases hj : j = k
  · subst hj
    rw [List.getElem?_set_self (by simpa using hk), wk_fs_get hk]
    simp [wk_fv, hlk, upd]
  · rw [List.getElem?_set_ne (Ne.symm hj), List.getElem?_map, List.getElem?_map]
    cases hr : (List.range N)[j]? with
    | none => rfl
    | some i =>
      have hi : i = j := by
        have := (List.getElem?_eq_some_iff.mp hr).2
        simpa using this.symm
      subst hi
      have e : upd f k x i = f i := by simp [upd, hj]
      simp only [Option.map_some, wk_fv, e]
/-- a cell is replaced: the others stay -/
theorem wk_H.set {D : va_G} {z0 p : Nat} {ad : wk_K3 → Nat} {sh : wk_Sh} {sg : wk_Sg} {ws : va_W} {H1 : Heap} {κ : wk_K3} {x : wk_X} {f : Nat → Int32} {e0 : va_E}
    (hm : ∀ κ x, sh κ = some x → (ad κ, wk_cell ad (sg κ) x) ∈ ws) (hi : ∀ κ κ' x x', sh κ = some x → sh κ' = some x' → ad κ = ad κ' → κ = κ') (hcl : ∀ κ x κ', sh κ = some x → wk_to x κ' → ∃ x', sh κ' = some x') (hx : sh κ = some x) (hp : ws[p]? = some (ad κ, e0))
    (hP : va_P D wk_cl (ws.set p (ad κ, wk_cell ad f x)) H1) (hD : va_D (fun q => z0 ≤ q) (ws.set p (ad κ, wk_cell ad f x))) : wk_H D z0 ad sh (wk_su sg κ f) H1 := by
  have hl := (List.getElem?_eq_some_iff.mp hp).1
  refine ⟨_, hP, hD, fun κ' x' h => ?_, hi, hcl⟩
  by_cases hk : κ' = κ
  · subst hk
    rw [hx] at h
    cases h
    rw [wk_su_self]
    exact List.mem_of_getElem? (List.getElem?_set_self hl)
  · rw [wk_su_ne _ _ hk]
    obtain ⟨i, hi'⟩ := List.getElem?_of_mem (hm κ' x' h)
    have hip : i ≠ p := by
      intro q
      subst q
      rw [hp] at hi'
      have h2 := congrArg Prod.fst (Option.some.inj hi')
      exact hk (hi κ' κ x' x h hx h2.symm)
    exact List.mem_of_getElem? (i := i) (by rw [List.getElem?_set_ne (Ne.symm hip)]; exact hi')
theorem wk_H.at {D : va_G} {z0 : Nat} {ad : wk_K3 → Nat} {sh : wk_Sh} {sg : wk_Sg} {H : Heap} {κ : wk_K3} {x : wk_X} (h : wk_H D z0 ad sh sg H) (hx : sh κ = some x) : va_P D wk_cl [(ad κ, wk_cell ad (sg κ) x)] H := by
  obtain ⟨ws, hP, -, hm, -, -⟩ := h
  obtain ⟨i, hi⟩ := List.getElem?_of_mem (hm κ x hx)
  exact hP.sub [i] (by simp [hi])
/-- what a walk holds fast: the machine, the code, the component, the words, the tables -/
def wk_K (D : va_G) (T : wk_T) (U : State) : Prop := va_K D wk_cl (wk_ty T) U ∧ (∀ w ∈ wk_N, va_Nw w U) ∧ va_AO RX1 U ∧ va_AO RX3 U
abbrev wk_C (p : Program) (m : MethodId) (c : Code) (cc : ByteArray) (nL : Nat) (s : State) (args : Array Value) (own : String) (D : va_G) (T : wk_T) : Prop := CallFix p m c cc nL s args wk_B own ∧ wk_K D T s
abbrev wk_A (z0 : Nat) : Nat → Prop := fun q => z0 ≤ q
def wk_Pre (D : va_G) (T : wk_T) (z0 : Nat) (ad : wk_K3 → Nat) (sh : wk_Sh) (sg : wk_Sg) (U : State) : Prop := z0 ≤ U.heap.size ∧ wk_H D z0 ad sh sg U.heap ∧ wk_K D T U
theorem wk_K.moved {D : va_G} {T : wk_T} {u U : State} (hW : u.WarmedH U.vm) (h : wk_K D T u) : wk_K D T U := by
  refine ⟨va_K.moved hW.alike h.1, fun w hw => ?_, va_AO.moved hW.alike h.2.2.1, va_AO.moved hW.alike h.2.2.2⟩
  have h2 := h.2.1 w hw
  simp only [wk_N, List.mem_cons, List.not_mem_nil, or_false] at hw
  rcases hw with rfl | rfl | rfl <;> exact va_Nw.warmM hW h2
theorem wk_K.same {D : va_G} {T : wk_T} {u U : State} (hW : u.vm = U.vm) (h : wk_K D T u) : wk_K D T U := by
  have ha : u.vm.Alike U.vm := by rw [hW]; exact Vm.Alike.refl _
  refine ⟨va_K.moved ha h.1, fun w hw => ?_, va_AO.moved ha h.2.2.1, va_AO.moved ha h.2.2.2⟩
  have h2 := h.2.1 w hw
  simp only [wk_N, List.mem_cons, List.not_mem_nil, or_false] at hw
  rcases hw with rfl | rfl | rfl <;> exact va_Nw.same rfl hW h2
theorem wk_good {w : Cond} (h : w ∈ wk_B) : GoodIn wk_B (w :: wk_B) := by
  have g : ∀ v ∈ wk_B, v ∈ wk_B ∧ ((v.onTables && v.keeps) = true ∨ ∃ ty, v = .arrayClass ty) := fun v hv => ⟨hv, good_of_word (List.mem_filter.mp hv).2⟩
  intro v hv
  rcases List.mem_cons.mp hv with rfl | hv
  · exact g _ h
  · exact g _ hv
def wk_OkV (C : String) (y : MethodName) (bytes : ByteArray) (maxL : Nat) (ret : Option FieldType) (n : Nat) : Prop := Cond.code y bytes maxL ret ∈ wk_B ∧ Cond.initialized y.cls ∈ wk_B ∧ Cond.instanceMethod y ∈ wk_B ∧ Cond.selects C y y ∈ wk_B ∧ (y.cls ≠ "java/lang/invoke/MethodHandle" ∧ y.cls ≠ "java/lang/invoke/VarHandle" ∧ (parseMethodDescriptor y.desc).map (fun d => d.parameters.length) = some n)
def wk_OkS (y : MethodName) (bytes : ByteArray) (maxL : Nat) (ret : Option FieldType) (n : Nat) : Prop := Cond.code y bytes maxL ret ∈ wk_B ∧ Cond.initialized y.cls ∈ wk_B ∧ Cond.static y ∈ wk_B ∧ (y.cls ≠ "java/lang/invoke/MethodHandle" ∧ y.cls ≠ "java/lang/invoke/VarHandle" ∧ (parseMethodDescriptor y.desc).map (fun d => d.parameters.length) = some n)
abbrev wk_rm (fr lo : Nat) : Room := { frames := fr, cells := 0, slots := 0, locals := lo }
/-- contracts of methods that make nothing: an int, nothing, a cell of the world -/
abbrev wk_Qi (D : va_G) (z0 : Nat) (ad : wk_K3 → Nat) (sh : wk_Sh) (r : Int32) (sg' : wk_Sg) : Array Value → State → Outcome → State → Prop := va_Qi (fun x (_ : Unit) => x = r) (fun _ t => wk_H D z0 ad sh sg' t.heap) (wk_A z0)
abbrev wk_Qv (D : va_G) (z0 : Nat) (ad : wk_K3 → Nat) (sh : wk_Sh) (sg' : wk_Sg) : Array Value → State → Outcome → State → Prop := va_Qv (fun (_ : Unit) => True) (fun _ t => wk_H D z0 ad sh sg' t.heap) (wk_A z0)
abbrev wk_Qr (D : va_G) (z0 : Nat) (ad : wk_K3 → Nat) (sh : wk_Sh) (κ' : wk_K3) (sg' : wk_Sg) : Array Value → State → Outcome → State → Prop := va_Qr (fun (_ : Unit) => True) (fun _ ra t => ra = ad κ' ∧ wk_H D z0 ad sh sg' t.heap) (wk_A z0)
abbrev wk_Mi (l : Launch) (y : MethodName) (bytes : ByteArray) (maxL : Nat) (ret : Option FieldType) (fr lo : Nat) (D : va_G) (T : wk_T) (z0 : Nat) (ad : wk_K3 → Nat) (sh : wk_Sh) (av : List Value) (sg : wk_Sg) (r : Int32) (sg' : wk_Sg) : Prop :=
  Met l y (Cond.code y bytes maxL ret :: wk_B) (wk_rm fr lo) (va_Pc av (wk_Pre D T z0 ad sh sg)) (wk_Qi D z0 ad sh r sg') 0 0 (wk_A z0)
abbrev wk_Mv (l : Launch) (y : MethodName) (bytes : ByteArray) (maxL : Nat) (ret : Option FieldType) (fr lo : Nat) (D : va_G) (T : wk_T) (z0 : Nat) (ad : wk_K3 → Nat) (sh : wk_Sh) (av : List Value) (sg : wk_Sg) (sg' : wk_Sg) : Prop :=
  Met l y (Cond.code y bytes maxL ret :: wk_B) (wk_rm fr lo) (va_Pc av (wk_Pre D T z0 ad sh sg)) (wk_Qv D z0 ad sh sg') 0 0 (wk_A z0)
abbrev wk_Mr (l : Launch) (y : MethodName) (bytes : ByteArray) (maxL : Nat) (ret : Option FieldType) (fr lo : Nat) (D : va_G) (T : wk_T) (z0 : Nat) (ad : wk_K3 → Nat) (sh : wk_Sh) (av : List Value) (sg : wk_Sg) (κ' : wk_K3) (sg' : wk_Sg) : Prop :=
  Met l y (Cond.code y bytes maxL ret :: wk_B) (wk_rm fr lo) (va_Pc av (wk_Pre D T z0 ad sh sg)) (wk_Qr D z0 ad sh κ' sg') 0 0 (wk_A z0)
section WKR
variable {p : Program} {l : Launch} {e : Env} {R : Room} {s : State} {m : MethodId} {args : Array Value} {below : List Frame} {meth : Method} {c : Code} {H : Heap} {locs : List Loc} {cells slots : Nat} {Q : State → Prop}
variable {cc : ByteArray} {pc nL : Nat} {ls : Array Slot} {rest : List Value} {D : va_G} {T : wk_T} {H0 : Heap} {z0 : Nat} {ad : wk_K3 → Nat} {sh : wk_Sh} {sg : wk_Sg} {own : String}
/-- getfield, an int -/
theorem wk_geti (X : wk_C p m c cc nL s args own D T) (hH : wk_H D z0 ad sh sg H) {C : String} {TT : u_T} {N ci index : Nat} {lk : wk_L} (κ : wk_K3) (k : Nat) (he : sh κ = some (.inr (ci, N, lk))) (hc : wk_cl[ci]? = some (C, TT, N)) (hk : k < N) (hlk : lk k = none) (hin : ∀ w ∈ u_ws C TT N, w ∈ wk_B) (hlink : Cond.fieldLink own index (TT k).1 (TT k).2.1 (TT k).2.2.1 ∈ wk_B) (hdg : decode cc pc = .ok (.getfield index, 3))
    (kk : W p l e R s m args below meth c H locs cells slots Q (F0 m (pc + 3) ls (.int (sg κ k) :: rest))) : W p l e R s m args below meth c H locs cells slots Q (F0 m pc ls (.ref (ad κ) :: rest)) := by
  obtain ⟨⟨hx, hb, -, hown, hts⟩, hK, -⟩ := X
  exact va_get (D := D) (v := .int (sg κ k)) hx hb hts hin hown hK (hH.at he) 0 rfl hc k hk (hts _ hlink) (fun _ h => h) (by rw [wk_fs_get hk]; simp only [wk_fv, hlk]) hdg kk
/-- getfield, a reference that is not null -/
theorem wk_getr (X : wk_C p m c cc nL s args own D T) (hH : wk_H D z0 ad sh sg H) {C : String} {TT : u_T} {N ci index : Nat} {lk : wk_L} (κ : wk_K3) (k : Nat) (κ' : wk_K3) (he : sh κ = some (.inr (ci, N, lk))) (hc : wk_cl[ci]? = some (C, TT, N)) (hk : k < N) (hlk : lk k = some (some κ')) (hin : ∀ w ∈ u_ws C TT N, w ∈ wk_B) (hlink : Cond.fieldLink own index (TT k).1 (TT k).2.1 (TT k).2.2.1 ∈ wk_B) (hdg : decode cc pc = .ok (.getfield index, 3))
    (kk : W p l e R s m args below meth c H locs cells slots Q (F0 m (pc + 3) ls (.ref (ad κ') :: rest))) : W p l e R s m args below meth c H locs cells slots Q (F0 m pc ls (.ref (ad κ) :: rest)) := by
  obtain ⟨⟨hx, hb, -, hown, hts⟩, hK, -⟩ := X
  exact va_get (D := D) (v := .ref (ad κ')) hx hb hts hin hown hK (hH.at he) 0 rfl hc k hk (hts _ hlink) (fun _ h => h) (by rw [wk_fs_get hk]; simp only [wk_fv, hlk]) hdg kk
/-- putfield of an int-like field that is not final -/
theorem wk_puti (X : wk_C p m c cc nL s args own D T) (hH : wk_H D z0 ad sh sg H) (hS : va_S (wk_A z0) H0 H locs) {C : String} {TT : u_T} {N ci index : Nat} {lk : wk_L} (κ : wk_K3) (k : Nat) {ty0 : Nat → FieldType} (hty : ∀ k, k < N → parseFieldDescriptor (TT k).2.2.1 = some (ty0 k)) (hnm : ∀ a, a < N → ∀ b, b < N → a ≠ b → (TT a).2.1 ≠ (TT b).2.1) (he : sh κ = some (.inr (ci, N, lk))) (hc : wk_cl[ci]? = some (C, TT, N)) (hk : k < N) (hlk : lk k = none) (hin : ∀ w ∈ u_ws C TT N, w ∈ wk_B) (hlink : Cond.fieldLink own index (TT k).1 (TT k).2.1 (TT k).2.2.1 ∈ wk_B) (hfin : (TT k).2.2.2 = false) {x : Int32} (hn : narrow (ty0 k) (.int x) = .int x) (hfit : fits (ty0 k) (.int x) = true) (hdg : decode cc pc = .ok (.putfield index, 3))
    (kk : ∀ (H1 : Heap) (locs1 : List Loc), wk_H D z0 ad sh (wk_up sg κ k x) H1 → va_S (wk_A z0) H0 H1 locs1 → W p l e R s m args below meth c H1 locs1 cells slots Q (F0 m (pc + 3) ls rest)) : W p l e R s m args below meth c H locs cells slots Q (F0 m pc ls (.int x :: .ref (ad κ) :: rest)) := by
  obtain ⟨⟨hx, hb, -, hown, hts⟩, hK, -⟩ := X
  obtain ⟨ws, hP, hD, hm, hi, hcl⟩ := hH
  obtain ⟨q, hq⟩ := List.getElem?_of_mem (hm κ _ he)
  refine va_put (D := D) hx hb hts hin ty0 hty hnm hown hK hP hD hS q hq hc k hk (hts _ hlink) (fun _ h => h) hfin (hty k hk) hn hfit (by simpa using hk) hdg (fun H1 locs1 hP1 hD1 hS1 => kk H1 locs1 ?_ hS1)
  rw [wk_fs_set hk hlk] at hP1 hD1
  exact wk_H.set hm hi hcl he hq hP1 hD1
/-- an element of an int array is read -/
theorem wk_iald (X : wk_C p m c cc nL s args own D T) (hH : wk_H D z0 ad sh sg H) {n : Nat} (κ : wk_K3) (he : sh κ = some (.inl (.inl (T.1, n)))) {i : Int32} (hin : vp_in i n) (hdg : decode cc pc = .ok (.iaload, 1))
    (kk : W p l e R s m args below meth c H locs cells slots Q (F0 m (pc + 1) ls (.int (sg κ i.toNatClampNeg) :: rest))) : W p l e R s m args below meth c H locs cells slots Q (F0 m pc ls (.int i :: .ref (ad κ) :: rest)) :=
  va_iald X.1.1 X.1.2.1 X.2.1 (hH.at he) 0 0 rfl rfl hin hdg kk
/-- and written -/
theorem wk_iast (X : wk_C p m c cc nL s args own D T) (hH : wk_H D z0 ad sh sg H) (hS : va_S (wk_A z0) H0 H locs) {n : Nat} (κ : wk_K3) (he : sh κ = some (.inl (.inl (T.1, n)))) {i x : Int32} (hin : vp_in i n) (hdg : decode cc pc = .ok (.iastore, 1))
    (kk : ∀ (H1 : Heap) (locs1 : List Loc), wk_H D z0 ad sh (wk_up sg κ i.toNatClampNeg x) H1 → va_S (wk_A z0) H0 H1 locs1 → W p l e R s m args below meth c H1 locs1 cells slots Q (F0 m (pc + 1) ls rest)) : W p l e R s m args below meth c H locs cells slots Q (F0 m pc ls (.int x :: .int i :: .ref (ad κ) :: rest)) := by
  obtain ⟨⟨hx, hb, -, hown, hts⟩, hK, -⟩ := X
  obtain ⟨ws, hP, hD, hm, hi, hcl⟩ := hH
  obtain ⟨q, hq⟩ := List.getElem?_of_mem (hm κ _ he)
  exact va_iast hx hb hK hP hD hS q 0 hq rfl hin hdg (fun H1 locs1 hP1 hD1 hS1 => kk H1 locs1 (wk_H.set hm hi hcl he hq hP1 hD1) hS1)
/-- an element of an array of references is read: it is there -/
theorem wk_aald (X : wk_C p m c cc nL s args own D T) (hH : wk_H D z0 ad sh sg H) {cA : ClassId} {C : String} {n : Nat} {lk : Nat → Option wk_K3} (κ : wk_K3) (t0 : Nat) (κ' : wk_K3) (he : sh κ = some (.inl (.inr (cA, n, lk)))) (ht : (wk_ty T)[t0]? = some (cA, .object C)) {i : Int32} (hin : vp_in i n) (hlk : lk i.toNatClampNeg = some κ') (hdg : decode cc pc = .ok (.aaload, 1))
    (kk : W p l e R s m args below meth c H locs cells slots Q (F0 m (pc + 1) ls (.ref (ad κ') :: rest))) : W p l e R s m args below meth c H locs cells slots Q (F0 m pc ls (.int i :: .ref (ad κ) :: rest)) := by
  refine va_aldq X.1.1 X.1.2.1 X.2.1 (hH.at he) 0 t0 rfl ht hin hdg ?_
  rw [hlk]
  exact kk
theorem wk_alenI (X : wk_C p m c cc nL s args own D T) (hH : wk_H D z0 ad sh sg H) {n : Nat} (κ : wk_K3) (he : sh κ = some (.inl (.inl (T.1, n)))) (hdg : decode cc pc = .ok (.arraylength, 1))
    (kk : W p l e R s m args below meth c H locs cells slots Q (F0 m (pc + 1) ls (.int (nI n) :: rest))) : W p l e R s m args below meth c H locs cells slots Q (F0 m pc ls (.ref (ad κ) :: rest)) :=
  va_alen X.1.1 X.1.2.1 X.2.1 (hH.at he) 0 0 rfl rfl rfl hdg kk
theorem wk_alenR (X : wk_C p m c cc nL s args own D T) (hH : wk_H D z0 ad sh sg H) {cA : ClassId} {n : Nat} {lk : Nat → Option wk_K3} (κ : wk_K3) (t0 : Nat) {ty : FieldType} (he : sh κ = some (.inl (.inr (cA, n, lk)))) (ht : (wk_ty T)[t0]? = some (cA, ty)) (hdg : decode cc pc = .ok (.arraylength, 1))
    (kk : W p l e R s m args below meth c H locs cells slots Q (F0 m (pc + 1) ls (.int (nI n) :: rest))) : W p l e R s m args below meth c H locs cells slots Q (F0 m pc ls (.ref (ad κ) :: rest)) :=
  va_alen X.1.1 X.1.2.1 X.2.1 (hH.at he) 0 t0 rfl ht rfl hdg kk
/-- System.arraycopy between int arrays of the world -/
theorem wk_copy (X : wk_C p m c cc nL s args own D T) (hsz : ls.size = nL) (hH : wk_H D z0 ad sh sg H) (hS : va_S (wk_A z0) H0 H locs) {index : Nat} (hlink : Cond.methodLink own index arraycopyName ∈ wk_B) (hok : Cond.native arraycopyName ∈ wk_B ∧ Cond.static arraycopyName ∈ wk_B ∧ Cond.initialized "java/lang/System" ∈ wk_B)
    {n0 n1 : Nat} (κ0 κ : wk_K3) (he0 : sh κ0 = some (.inl (.inl (T.1, n0)))) (he : sh κ = some (.inl (.inl (T.1, n1)))) {sp dp n : Int32} (ho : wk_cp sp dp n n0 n1)
    (hR : 1 ≤ R.frames ∧ (rest.map fun v => v.category).sum + (nativeFrameWords "java/lang/System" "arraycopy" 5 + 11) ≤ R.locals) (hdg : decode cc pc = .ok (.invokestatic index, 3))
    (kk : ∀ (H1 : Heap) (locs1 : List Loc), wk_H D z0 ad sh (wk_su sg κ (va_cpy (sg κ0) (sg κ) sp.toNatClampNeg dp.toNatClampNeg n.toNatClampNeg)) H1 → va_S (wk_A z0) H0 H1 locs1 → W p l e R s m args below meth c H1 locs1 cells slots Q (F0 m (pc + 3) ls rest)) : W p l e R s m args below meth c H locs cells slots Q (F0 m pc ls (.int n :: .int dp :: .ref (ad κ) :: .int sp :: .ref (ad κ0) :: rest)) := by
  obtain ⟨⟨hx, hb, hml, hown, hts⟩, hK, -⟩ := X
  obtain ⟨ws, hP, hD, hm, hi, hcl⟩ := hH
  obtain ⟨q, hq⟩ := List.getElem?_of_mem (hm κ _ he)
  obtain ⟨q0, hq0⟩ := List.getElem?_of_mem (hm κ0 _ he0)
  obtain ⟨h1, h2, h3, h4, h5⟩ := ho
  exact va_copyi hx hb (hml.trans hsz.symm) hown (hts _ hlink) (hts _ hok.1) (hts _ hok.2.1) (hts _ hok.2.2) hK hP hD hS q0 q 0 0 hq0 hq rfl rfl rfl h1 h2 h3 h4 h5 (fun _ _ => rfl) hR.1 hR.2 hdg (fun H1 locs1 hP1 hD1 hS1 => kk H1 locs1 (wk_H.set hm hi hcl he hq hP1 hD1) hS1)
/-- before a call on an object of the world; before a static call -/
theorem wk_blind {As : List Value} : FrameBlind (va_Pc As (wk_Pre D T z0 ad sh sg)) := fun a U g mk q => by
  obtain ⟨q0, q1, q2, q3⟩ := q
  exact ⟨q0, q1, q2, wk_K.same (u := U) (U := U.calling g mk a) rfl q3⟩
theorem wk_preV {κ : wk_K3} {ci N : Nat} {C : String} {TT : u_T} {lk : wk_L} {As : List Value} (hK : wk_K D T s) (hH : wk_H D z0 ad sh sg H) (hz : z0 ≤ H.size) (he : sh κ = some (.inr (ci, N, lk))) (hc : wk_cl[ci]? = some (C, TT, N)) : PreV s H C (ad κ) (va_Pc (.ref (ad κ) :: As) (wk_Pre D T z0 ad sh sg)) As :=
  ⟨wk_blind, va_recv (q0 := 0) hK.1 (hH.at he) hc rfl, fun U hU hW => ⟨rfl, by rw [hU]; exact hz, by rw [hU]; exact hH, hK.moved hW⟩⟩
theorem wk_preS {As : List Value} (hK : wk_K D T s) (hH : wk_H D z0 ad sh sg H) (hz : z0 ≤ H.size) : PreS s H (va_Pc As (wk_Pre D T z0 ad sh sg)) As :=
  ⟨wk_blind, fun U hU hW => ⟨rfl, by rw [hU]; exact hz, by rw [hU]; exact hH, hK.moved hW⟩⟩
variable {st0 : List Value} {a : Array Value} {sg' : wk_Sg}
/-- behind a call: an int, nothing, a cell of the world -/
theorem wk_ci {r : Int32} (hr : va_Run p l e R s m args below meth c H locs cells slots 0 0 (F0 m pc ls st0) rest (wk_Qi D z0 ad sh r sg' a) (wk_A z0)) (hS : va_S (wk_A z0) H0 H locs)
    (kk : ∀ (H1 : Heap) (locs1 : List Loc), wk_H D z0 ad sh sg' H1 → va_S (wk_A z0) H0 H1 locs1 → W p l e R s m args below meth c H1 locs1 cells slots Q (F0 m (pc + 3) ls (.int r :: rest))) : W p l e R s m args below meth c H locs cells slots Q (F0 m pc ls st0) := by
  refine va_calli hr hS (fun _ _ h => h) (fun _ h => h) (fun x u t H1 locs1 ht _ hx hB _ _ hS1 => ?_)
  subst hx
  exact kk H1 locs1 (ht ▸ hB) hS1
theorem wk_cv (hr : va_Run p l e R s m args below meth c H locs cells slots 0 0 (F0 m pc ls st0) rest (wk_Qv D z0 ad sh sg' a) (wk_A z0)) (hS : va_S (wk_A z0) H0 H locs)
    (kk : ∀ (H1 : Heap) (locs1 : List Loc), wk_H D z0 ad sh sg' H1 → va_S (wk_A z0) H0 H1 locs1 → W p l e R s m args below meth c H1 locs1 cells slots Q (F0 m (pc + 3) ls rest)) : W p l e R s m args below meth c H locs cells slots Q (F0 m pc ls st0) :=
  va_callv hr hS (fun _ _ h => h) (fun _ h => h) (fun _ _ H1 locs1 ht _ _ hB _ _ hS1 => kk H1 locs1 (ht ▸ hB) hS1)
theorem wk_cr {κ' : wk_K3} (hr : va_Run p l e R s m args below meth c H locs cells slots 0 0 (F0 m pc ls st0) rest (wk_Qr D z0 ad sh κ' sg' a) (wk_A z0)) (hS : va_S (wk_A z0) H0 H locs)
    (kk : ∀ (H1 : Heap) (locs1 : List Loc), wk_H D z0 ad sh sg' H1 → va_S (wk_A z0) H0 H1 locs1 → W p l e R s m args below meth c H1 locs1 cells slots Q (F0 m (pc + 3) ls (.ref (ad κ') :: rest))) : W p l e R s m args below meth c H locs cells slots Q (F0 m pc ls st0) := by
  refine va_callr hr hS (fun _ _ h => h) (fun _ h => h) (fun _ ra t H1 locs1 ht _ _ hB _ _ hS1 => ?_)
  obtain ⟨rfl, hB⟩ := hB
  exact kk H1 locs1 (ht ▸ hB) hS1
variable {y : MethodName} {bytes : ByteArray} {maxL n index fr lo : Nat} {ret : Option FieldType} {As : List Value} {Qc : Array Value → State → Outcome → State → Prop}
/-- the run of a virtual call, of a static one, of a nest mate's static one -/
theorem wk_rV {κ : wk_K3} {ci N : Nat} {C : String} {TT : u_T} {lk : wk_L} (X : wk_C p m c cc nL s args own D T) (hH : wk_H D z0 ad sh sg H) (hS : va_S (wk_A z0) s.heap H locs) (hz : z0 ≤ s.heap.size) (he : sh κ = some (.inr (ci, N, lk))) (hc : wk_cl[ci]? = some (C, TT, N)) (ok : wk_OkV C y bytes maxL ret n)
    (hM : Met l y (Cond.code y bytes maxL ret :: wk_B) (wk_rm fr lo) (va_Pc (.ref (ad κ) :: As) (wk_Pre D T z0 ad sh sg)) Qc 0 0 (wk_A z0)) (hl : Cond.methodLink own index y ∈ wk_B) (hR : fr + 1 ≤ R.frames ∧ 8 + (maxL + 11) + lo ≤ R.locals ∧ cells ≤ R.cells ∧ slots ≤ R.slots) (hn : As.length = n) (hsz : ls.size = nL) (hst : st0 = As.reverse ++ .ref (ad κ) :: rest) (hrm : (rest.map fun v => v.category).sum ≤ 8) (hdg : decode cc pc = .ok (.invokevirtual index, 3)) :
    va_Run p l e R s m args below meth c H locs cells slots 0 0 (F0 m pc ls st0) rest (Qc (Value.ref (ad κ) :: As).toArray) (wk_A z0) := by
  obtain ⟨o1, o2, o3, o4, o5⟩ := ok
  have hts := X.1.2.2.2.2
  exact va_runV X.1 hM ⟨callB_of (ws' := wk_B) n hts (wk_good o1) rfl rfl rfl (hts _ o2) (hts _ hl) o5 ⟨hR.1, hR.2.1⟩, hts _ o3, hts _ o4⟩ (wk_preV X.2 hH (Nat.le_trans hz hS.1) he hc) rfl hn hsz hst (lv_room hrm) hdg hR.2.2
theorem wk_rS (X : wk_C p m c cc nL s args own D T) (hH : wk_H D z0 ad sh sg H) (hS : va_S (wk_A z0) s.heap H locs) (hz : z0 ≤ s.heap.size) (ok : wk_OkS y bytes maxL ret n)
    (hM : Met l y (Cond.code y bytes maxL ret :: wk_B) (wk_rm fr lo) (va_Pc As (wk_Pre D T z0 ad sh sg)) Qc 0 0 (wk_A z0)) (hl : Cond.methodLink own index y ∈ wk_B) (hR : fr + 1 ≤ R.frames ∧ 8 + (maxL + 11) + lo ≤ R.locals ∧ cells ≤ R.cells ∧ slots ≤ R.slots) (hn : As.length = n) (hsz : ls.size = nL) (hst : st0 = As.reverse ++ rest) (hrm : (rest.map fun v => v.category).sum ≤ 8) (hdg : decode cc pc = .ok (.invokestatic index, 3)) :
    va_Run p l e R s m args below meth c H locs cells slots 0 0 (F0 m pc ls st0) rest (Qc As.toArray) (wk_A z0) := by
  obtain ⟨o1, o2, o3, o5⟩ := ok
  have hts := X.1.2.2.2.2
  exact va_runS X.1 hM ⟨callB_of (ws' := wk_B) n hts (wk_good o1) rfl rfl rfl (hts _ o2) (hts _ hl) o5 ⟨hR.1, hR.2.1⟩, hts _ o3⟩ (wk_preS X.2 hH (Nat.le_trans hz hS.1)) rfl hn hsz hst (lv_room hrm) hdg hR.2.2
theorem wk_rN {host : String} (X : wk_C p m c cc nL s args own D T) (hH : wk_H D z0 ad sh sg H) (hS : va_S (wk_A z0) s.heap H locs) (hz : z0 ≤ s.heap.size) (ok : wk_OkS y bytes maxL ret n)
    (hM : Met l y (Cond.code y bytes maxL ret :: wk_B) (wk_rm fr lo) (va_Pc As (wk_Pre D T z0 ad sh sg)) Qc 0 0 (wk_A z0)) (hl : Cond.methodLinkNest own index y host ∈ wk_N) (hR : fr + 1 ≤ R.frames ∧ 8 + (maxL + 11) + lo ≤ R.locals ∧ cells ≤ R.cells ∧ slots ≤ R.slots) (hn : As.length = n) (hsz : ls.size = nL) (hst : st0 = As.reverse ++ rest) (hrm : (rest.map fun v => v.category).sum ≤ 8) (hdg : decode cc pc = .ok (.invokestatic index, 3)) :
    va_Run p l e R s m args below meth c H locs cells slots 0 0 (F0 m pc ls st0) rest (Qc As.toArray) (wk_A z0) := by
  obtain ⟨o1, o2, o3, o5⟩ := ok
  have hts := X.1.2.2.2.2
  exact va_runSN X.1 hM ⟨va_cnB (ws' := wk_B) n hts (wk_good o1) rfl rfl rfl (X.2.2.1 _ hl) (hts _ o2) o5 ⟨hR.1, hR.2.1⟩, hts _ o3, trivial⟩ (wk_preS X.2 hH (Nat.le_trans hz hS.1)) rfl hn hsz hst (lv_room hrm) hdg hR.2.2
/-- answers -/
theorem wk_iret (X : wk_C p m c cc nL s args own D T) (hH : wk_H D z0 ad sh sg H) (hS : va_S (wk_A z0) s.heap H locs) (hr : meth.sig.returnType = some .int) (hlocks : meth.locks = false) {v r : Int32} (hv : v = r) (hsg : sg = sg') (hdg : decode cc pc = .ok (.ireturn, 1)) : W p l e R s m args below meth c H locs cells slots (MQ below (wk_Qi D z0 ad sh r sg') args s cells slots (wk_A z0)) (F0 m pc ls [.int v]) := by
  subst hv; subst hsg
  exact W.iret X.1.1 X.1.2.1 hr (fun t ht _ => ⟨⟨_, (), rfl, rfl, by show wk_H D z0 ad sh _ t.heap; rw [ht]; exact hH⟩, hS.F ht⟩) hS.2.2 hdg hlocks
theorem wk_zret (X : wk_C p m c cc nL s args own D T) (hH : wk_H D z0 ad sh sg H) (hS : va_S (wk_A z0) s.heap H locs) (hr : meth.sig.returnType = some .boolean) (hlocks : meth.locks = false) {v r : Int32} (h01 : v = 0 ∨ v = 1) (hv : v = r) (hsg : sg = sg') (hdg : decode cc pc = .ok (.ireturn, 1)) : W p l e R s m args below meth c H locs cells slots (MQ below (wk_Qi D z0 ad sh r sg') args s cells slots (wk_A z0)) (F0 m pc ls [.int v]) := by
  subst hv; subst hsg
  exact W.zret X.1.1 X.1.2.1 hr (by rcases h01 with h | h <;> rw [h] <;> decide) (fun t ht _ => ⟨⟨_, (), rfl, rfl, by show wk_H D z0 ad sh _ t.heap; rw [ht]; exact hH⟩, hS.F ht⟩) hS.2.2 hdg hlocks
theorem wk_vret (X : wk_C p m c cc nL s args own D T) (hH : wk_H D z0 ad sh sg H) (hS : va_S (wk_A z0) s.heap H locs) (hr : meth.sig.returnType = none) (hlocks : meth.locks = false) (hsg : sg = sg') (hdg : decode cc pc = .ok (.return_, 1)) : W p l e R s m args below meth c H locs cells slots (MQ below (wk_Qv D z0 ad sh sg') args s cells slots (wk_A z0)) (F0 m pc ls []) := by
  subst hsg
  exact W.vret X.1.1 X.1.2.1 hr (fun t ht _ => ⟨⟨(), rfl, trivial, by show wk_H D z0 ad sh _ t.heap; rw [ht]; exact hH⟩, hS.F ht⟩) hS.2.2 hdg hlocks
theorem wk_aret (X : wk_C p m c cc nL s args own D T) (hH : wk_H D z0 ad sh sg H) (hS : va_S (wk_A z0) s.heap H locs) {rt : String} (hr : meth.sig.returnType = some (.object rt)) (hlocks : meth.locks = false) {κ κ' : wk_K3} (hv : κ = κ') (hsg : sg = sg') (hdg : decode cc pc = .ok (.areturn, 1)) : W p l e R s m args below meth c H locs cells slots (MQ below (wk_Qr D z0 ad sh κ' sg') args s cells slots (wk_A z0)) (F0 m pc ls [.ref (ad κ)]) := by
  subst hv; subst hsg
  exact W.aret X.1.1 X.1.2.1 hr (Or.inl ⟨rt, rfl⟩) (Or.inr ⟨_, rfl⟩) (fun t ht _ => ⟨⟨(), _, rfl, trivial, rfl, by show wk_H D z0 ad sh _ t.heap; rw [ht]; exact hH⟩, hS.F ht⟩) hS.2.2 hdg hlocks
/-- a switch at a known value; beside its values -/
theorem wk_tin (X : wk_C p m c cc nL s args own D T) {dflt lw hg : Int} {offs : Array Int} {len : Nat} {x v : Int32} {off : Int} {tgt : Nat} (h : x = v) (hdg : decode cc pc = .ok (.tableswitch dflt lw hg offs, len)) (h1 : ¬ v.toInt < lw) (h2 : ¬ hg < v.toInt) (ho : offs[(v.toInt - lw).toNat]? = some off) (ht : (pc : Int) + off = (tgt : Int))
    (k : W p l e R s m args below meth c H locs cells slots Q (F0 m tgt ls rest)) : W p l e R s m args below meth c H locs cells slots Q (F0 m pc ls (.int x :: rest)) := by
  subst h
  exact lv_tableIn X.1.1 X.1.2.1 hdg h1 h2 ho ht k
theorem wk_lin (X : wk_C p m c cc nL s args own D T) {dflt : Int} {ps : Array (Int × Int)} {len : Nat} {x v : Int32} {off : Int} {tgt : Nat} (h : x = v) (hdg : decode cc pc = .ok (.lookupswitch dflt ps, len)) (hp : (ps.toList.zip (ps.toList.drop 1)).all (fun (a, next) => a.1 < next.1) = true) (ho : Op.lookupswitch.offset ps.toList dflt v.toInt = off) (ht : (pc : Int) + off = (tgt : Int))
    (k : W p l e R s m args below meth c H locs cells slots Q (F0 m tgt ls rest)) : W p l e R s m args below meth c H locs cells slots Q (F0 m pc ls (.int x :: rest)) := by
  subst h
  exact lv_lookup X.1.1 X.1.2.1 hdg hp ho ht k
end WKR
theorem wk_tout {x : Int32} {lw hg : Int} (h : ∀ v : Int, lw ≤ v → v ≤ hg → ¬ x.toInt = v) : x.toInt < lw ∨ hg < x.toInt := by
  rcases Int.lt_or_le x.toInt lw with h1 | h1
  · exact Or.inl h1
  · rcases Int.lt_or_le hg x.toInt with h2 | h2
    · exact Or.inr h2
    · exact absurd rfl (h _ h1 h2)
theorem wk_entry {B : Prop} (h : B) : B := h
