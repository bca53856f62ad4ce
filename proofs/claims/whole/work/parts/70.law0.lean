/-! The law: what it starts from, its helper. -/
theorem lw_nest {args : Array Value} {s : State} (hts : ∀ w ∈ lw_tbl, w.before args s = true) : (∀ w ∈ wk_N, va_Nw w s) ∧ va_AO RX1 s ∧ va_AO RX3 s := by
  have a : ∀ w ∈ wk_N, w ∈ lw_tbl := by
    intro w hw
    simp only [wk_N, List.mem_cons, List.not_mem_nil, or_false] at hw
    rcases hw with rfl | rfl | rfl
    · exact (List.mem_append_right _ (List.mem_of_getElem? (i := 283) (by decide +kernel)))
    · exact (List.mem_append_right _ (List.mem_of_getElem? (i := 202) (by decide +kernel)))
    · exact (List.mem_append_right _ (List.mem_of_getElem? (i := 193) (by decide +kernel)))
  refine ⟨fun w hw => ?_, va_AO.of (hts (Cond.arrayOver (.object RX1)) (List.mem_append_right _ (List.mem_of_getElem? (i := 45) (by decide +kernel)))), va_AO.of (hts (Cond.arrayOver (.object RX3)) (List.mem_append_right _ (List.mem_of_getElem? (i := 52) (by decide +kernel))))⟩
  have h := hts w (a w hw)
  simp only [wk_N, List.mem_cons, List.not_mem_nil, or_false] at hw
  rcases hw with rfl | rfl | rfl <;> exact va_Nw.of rfl h
theorem lw_K {args : Array Value} {s : State} (hts : ∀ w ∈ lw_tbl, w.before args s = true) : ∃ (D : va_G) (T : wk_T), wk_K D T s := by
  have hB : ∀ w ∈ wk_B, w.before args s = true := fun w hw => hts w (List.mem_filter.mp hw).1
  obtain ⟨c0, i0, k0⟩ := u_known hB inX0 (hB _ isX0.1)
  obtain ⟨c1, i1, k1⟩ := u_known hB inX1 (hB _ isX1.1)
  obtain ⟨c2, i2, k2⟩ := u_known hB inX2 (hB _ isX2.1)
  obtain ⟨c3, i3, k3⟩ := u_known hB inX3 (hB _ isX3.1)
  obtain ⟨c4, i4, k4⟩ := u_known hB inX4 (hB _ isX4.1)
  obtain ⟨c5, i5, k5⟩ := u_known hB inX5 (hB _ isX5.1)
  obtain ⟨n1, n2, n3⟩ := lw_nest hts
  obtain ⟨cI, kI, compI, a1, a2, a3⟩ := Cond.arrayClass_spec (hB _ ac_int)
  obtain ⟨compC, cC, kC, b1, -, b2, b3, b4⟩ := Cond.arrayOver_spec n2
  obtain ⟨compS, cS, kS, d1, -, d2, d3, d4⟩ := Cond.arrayOver_spec n3
  refine ⟨(fun c => match c with | 0 => c0 | 1 => c1 | 2 => c2 | 3 => c3 | 4 => c4 | _ => c5, fun c => match c with | 0 => i0 | 1 => i1 | 2 => i2 | 3 => i3 | 4 => i4 | _ => i5), (cI, cC, cS), ⟨fun c q hq => ?_, fun k q hq => ?_⟩, n1, n2, n3⟩
  · match c, hq with
    | 0, hq => cases hq; exact k0
    | 1, hq => cases hq; exact k1
    | 2, hq => cases hq; exact k2
    | 3, hq => cases hq; exact k3
    | 4, hq => cases hq; exact k4
    | 5, hq => cases hq; exact k5
    | n + 6, hq => simp at hq
  · match k, hq with
    | 0, hq => cases hq; exact ⟨fun n z => ⟨fun k h => (by cases h), kI, a2, compI, a3⟩, a1⟩
    | 1, hq => cases hq; exact ⟨fun n z => ⟨fun k h => (by cases h), kC, b2, compC, b3⟩, kC, compC, b2, b3, b1, b4⟩
    | 2, hq => cases hq; exact ⟨fun n z => ⟨fun k h => (by cases h), kS, d2, compS, d3⟩, kS, compS, d2, d3, d1, d4⟩
    | n + 3, hq => simp at hq
theorem wk_H0 {D : va_G} {z0 : Nat} {ad : wk_K3 → Nat} {sg : wk_Sg} {H : Heap} : wk_H D z0 ad (fun _ => none) sg H := by
  refine ⟨[], fun k q h => by simp at h, ⟨fun i j p q h => by simp at h, fun k q h => by simp at h⟩, fun κ x h => by simp at h, fun κ κ' x x' h => by simp at h, fun κ x κ' h => by simp at h⟩
set_option maxHeartbeats 4000000 in
set_option maxRecDepth 100000 in
theorem mk_L_cell {l : Launch} {D : va_G} {T : wk_T} {z0 : Nat} {ad : wk_K3 → Nat} {sh : wk_Sh} (sg : wk_Sg) {b L : Nat} {xs : Nat → Int32} {j : Nat} (hj : j < 4000) (hL : L ≤ 2053) (hb0 : b < z0) : Met l yL_cell (Cond.code yL_cell cL_cell 2 (some .int) :: wk_B) (wk_rm 0 0) (va_Pc [.ref b, .int (nI j)] (fun U => wk_Pre D T z0 ad sh sg U ∧ va_X b L xs U U.heap)) (wk_Qi D z0 ad sh (if j < L then xs j else 0) sg) 0 0 (wk_A z0) := by
  refine Met.ofW (cc := cL_cell) (maxL := 2) (ret := (some .int)) (by decide) rfl ?_
  intro p e s m args below meth c s₁ B hml hv
  obtain ⟨rfl, ⟨hz, hH, hK⟩, hXx⟩ := hv
  have hx := B.exec
  have hb := B.bytes
  have hr := B.returns
  have hlocks := B.notSynchronized
  have hts : ∀ w ∈ wk_B, w.before _ s = true := fun w hw => atoms_spec (ws := Cond.code yL_cell cL_cell 2 (some .int) :: wk_B) B.pre w (List.mem_cons_of_mem _ hw)
  have X : wk_C p m c cL_cell 2 s _ RL D T := ⟨⟨hx, hb, hml, findClass_of_methodNamed B.named, hts⟩, hK⟩
  have hS : va_S (wk_A z0) s.heap s.heap [] := va_S.rf
  have hl := lv_entry ([.ref b, .int (nI j)]) (n := 2) (Nat.le_of_ble_eq_true rfl)
  rw [lg_entry_eq]
  generalize (lg_sl ([.ref b, .int (nI j)]) ++ List.replicate (2 - (lg_sl ([.ref b, .int (nI j)])).length) Slot.unset).toArray = ls at hl ⊢
  have hl : lv_has ls 2 [(0, .ref b), (1, .int (nI j))] := hl
  have hbl : b < s.heap.size := by omega
  have hbA : ¬ wk_A z0 b := by show ¬ z0 ≤ b; omega
  refine lv_iload_n (pc := 0) hx hb dL_cell_0 rfl (lv_at hl 1 rfl) ?_
  refine lv_aload_n (pc := 1) hx hb dL_cell_1 rfl (lv_at hl 0 rfl) ?_
  refine va_slen (pc := 2) hx hb hXx hbl hbA hS dL_cell_2 ?_
  refine lv_icmp_ge (pc := 3) (tgt := 12) hx hb dL_cell_3 (by decide) (fun h => ?_) (fun h => ?_)
  · have h' : ¬ j < L := by
      have := (pn_le (a := L) (b := j) (by omega) hj).mp h
      omega
    refine lv_iconst (pc := 12) (v := 0) hx hb dL_cell_12 (by decide) ?_
    exact wk_iret (pc := 13) X hH hS hr hlocks (by rw [if_neg h']) rfl dL_cell_13
  · have h' : j < L := by
      by_cases z : j < L
      · exact z
      · exact absurd ((pn_le (a := L) (b := j) (by omega) hj).mpr (by omega)) h
    refine lv_aload_n (pc := 6) hx hb dL_cell_6 rfl (lv_at hl 0 rfl) ?_
    refine lv_iload_n (pc := 7) hx hb dL_cell_7 rfl (lv_at hl 1 rfl) ?_
    refine va_sld (pc := 8) hx hb hXx hbl hbA hS (pn_in h' (by omega)) dL_cell_8 ?_
    refine lv_goto (pc := 9) (tgt := 13) hx hb dL_cell_9 (by decide) ?_
    exact wk_iret (pc := 13) X hH hS hr hlocks (by rw [if_pos h', pn_clamp hj]) rfl dL_cell_13
section LWC
variable {p : Program} {l : Launch} {e : Env} {R : Room} {s : State} {m : MethodId} {args : Array Value} {below : List Frame} {meth : Method} {c : Code} {H : Heap} {locs : List Loc} {cells slots : Nat} {Q : State → Prop} {cc : ByteArray} {pc nL : Nat} {ls : Array Slot} {rest : List Value} {D : va_G} {T : wk_T} {z0 : Nat} {ad : wk_K3 → Nat} {sh : wk_Sh} {sg : wk_Sg} {own : String}
theorem lw_cell (X : wk_C p m c cc nL s args own D T) (hH : wk_H D z0 ad sh sg H) (hS : va_S (wk_A z0) s.heap H locs) (hz : z0 ≤ s.heap.size) {b L : Nat} {xs : Nat → Int32} (hXx : va_X b L xs s s.heap) (hb0 : b < z0) (hL : L ≤ 2053) (j : Nat) (hj : j < 4000) {index : Nat} (hl : Cond.methodLink own index yL_cell ∈ wk_B) (hR : 0 + 1 ≤ R.frames ∧ 8 + (2 + 11) + 0 ≤ R.locals ∧ cells ≤ R.cells ∧ slots ≤ R.slots) (hsz : ls.size = nL) (hrm : (rest.map fun v => v.category).sum ≤ 8) (hdg : decode cc pc = .ok (.invokestatic index, 3))
    (kk : ∀ (H1 : Heap) (locs1 : List Loc), wk_H D z0 ad sh sg H1 → va_S (wk_A z0) s.heap H1 locs1 → W p l e R s m args below meth c H1 locs1 cells slots Q (F0 m (pc + 3) ls (.int (if j < L then xs j else 0) :: rest))) : W p l e R s m args below meth c H locs cells slots Q (F0 m pc ls (.int (nI j) :: .ref b :: rest)) := by
  obtain ⟨o1, o2, o3, o5⟩ := ok_L_cell
  have hts := X.1.2.2.2.2
  have hbl : b < s.heap.size := by omega
  have hbA : ¬ wk_A z0 b := by show ¬ z0 ≤ b; omega
  refine wk_ci (va_runS (As := [.ref b, .int (nI j)]) X.1 (mk_L_cell (xs := xs) (ad := ad) (sh := sh) sg hj hL hb0) ⟨callB_of (ws' := wk_B) 2 hts (wk_good o1) rfl rfl rfl (hts _ o2) (hts _ hl) o5 ⟨hR.1, hR.2.1⟩, hts _ o3⟩ ⟨fun a U g mk q => ?_, fun U hU hW => ⟨rfl, ⟨by rw [hU]; exact Nat.le_trans hz hS.1, by rw [hU]; exact hH, X.2.moved hW⟩, by rw [hU]; exact (hXx.kept (hS.2.1 b hbl hbA)).moved hW.alike⟩⟩ rfl rfl hsz rfl (lv_room hrm) hdg hR.2.2) hS kk
  obtain ⟨q0, ⟨q1, q2, q3⟩, q4⟩ := q
  exact ⟨q0, ⟨q1, q2, wk_K.same (u := U) (U := U.calling g mk a) rfl q3⟩, va_X.moved (u := U) (U := U.calling g mk a) (Vm.Alike.refl U.vm) q4⟩
end LWC
theorem lw_cmp {L i : Nat} (hL : L ≤ 2053) (hi : i ≤ 2100) : (Int32.ofNat L - 4 < nI i) ↔ L < i + 4 := by
  show (nI L - 4 < nI i) ↔ L < i + 4
  by_cases h : 4 ≤ L
  · obtain ⟨k, rfl⟩ : ∃ k, L = k + 4 := ⟨L - 4, by omega⟩
    have e : nI (k + 4) - 4 = nI k := by rw [← nI_add]; exact Int32.add_sub_cancel _ _
    rw [e, pn_lt (by omega) (by omega)]
    omega
  · have hz : 0 ≤ nI i := nI_pos' (by omega)
    refine ⟨fun _ => by omega, fun _ => Int32.lt_of_lt_of_le ?_ hz⟩
    obtain rfl | rfl | rfl | rfl : L = 0 ∨ L = 1 ∨ L = 2 ∨ L = 3 := by omega
    all_goals decide
