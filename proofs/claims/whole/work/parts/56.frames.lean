/-! The component's methods leave the reference's cells alone (tags from 20 on), and the other way round. -/
theorem wk_up_fr {sg : wk_Sg} {κ : wk_K3} {t i j k : Nat} {x : Int32} (h : ¬ κ.1 = t) : wk_up sg (t, i, j) k x κ = sg κ := wk_up_ne _ _ _ (fun e => h (by rw [e]))
theorem wk_su_fr {sg : wk_Sg} {κ : wk_K3} {t i j : Nat} {f : Nat → Int32} (h : ¬ κ.1 = t) : wk_su sg (t, i, j) f κ = sg κ := wk_su_ne _ _ (fun e => h (by rw [e]))
theorem wk_if {c : Prop} [Decidable c] {f g : wk_Sg} {κ : wk_K3} {z : Nat → Int32} (h1 : f κ = z) (h2 : g κ = z) : (if c then f else g) κ = z := by split <;> assumption
set_option maxHeartbeats 4000000 in
theorem mf_X1_forgetRequest {P : Nat → Nat} (sg : wk_Sg) (i : Nat) {κ : wk_K3} (h : 20 ≤ κ.1) : ms_X1_forgetRequest P sg i κ = sg κ := by
  unfold ms_X1_forgetRequest
  repeat' split
  all_goals simp (disch := omega) only [wk_up_fr, wk_su_fr]
set_option maxHeartbeats 4000000 in
theorem mf_X0_begin {P : Nat → Nat} (sg : wk_Sg) (i1 : Nat) {κ : wk_K3} (h : 20 ≤ κ.1) : ms_X0_begin P sg i1 κ = sg κ := by
  unfold ms_X0_begin
  repeat' split
  all_goals simp (disch := omega) only [wk_up_fr, wk_su_fr, mf_X1_forgetRequest]
set_option maxHeartbeats 4000000 in
theorem mf_X2_giveUp {P : Nat → Nat} (sg : wk_Sg) (i1 : Nat) (j1 : Nat) {κ : wk_K3} (h : 20 ≤ κ.1) : ms_X2_giveUp P sg i1 j1 κ = sg κ := by
  unfold ms_X2_giveUp
  repeat' split
  all_goals simp (disch := omega) only [wk_up_fr, wk_su_fr]
set_option maxHeartbeats 4000000 in
theorem mf_X2_readLine {P : Nat → Nat} (sg : wk_Sg) (a1 : Int32) {κ : wk_K3} (h : 20 ≤ κ.1) : ms_X2_readLine P sg a1 κ = sg κ := by
  unfold ms_X2_readLine
  repeat' split
  all_goals simp (disch := omega) only [wk_up_fr, wk_su_fr]
set_option maxHeartbeats 4000000 in
theorem mf_X3_letOthersRead {P : Nat → Nat} (sg : wk_Sg) (i : Nat) (j : Nat) {κ : wk_K3} (h : 20 ≤ κ.1) : ms_X3_letOthersRead P sg i j κ = sg κ := by
  unfold ms_X3_letOthersRead
  repeat' split
  all_goals simp (disch := omega) only [wk_up_fr, wk_su_fr]
set_option maxHeartbeats 4000000 in
theorem mf_X0_lookOn {P : Nat → Nat} (sg : wk_Sg) (i1 : Nat) (j1 : Nat) {κ : wk_K3} (h : 20 ≤ κ.1) : ms_X0_lookOn P sg i1 j1 κ = sg κ := by
  unfold ms_X0_lookOn
  repeat' split
  all_goals simp (disch := omega) only [wk_up_fr, wk_su_fr, mf_X2_giveUp, mf_X3_letOthersRead]
set_option maxHeartbeats 4000000 in
theorem mf_X0_snoop_L22 {P : Nat → Nat} {κ : wk_K3} (h : 20 ≤ κ.1) : ∀ (n : Nat) (sg : wk_Sg) (u0 : Int32), ms_X0_snoop_L22 n P sg u0 κ = sg κ := by
  intro n
  induction n with
  | zero => intro sg u0; rfl
  | succ n ih =>
    intro sg u0
    rw [ms_X0_snoop_L22]
    repeat' split
    all_goals simp (disch := omega) only [wk_up_fr, wk_su_fr, mf_X0_lookOn, ih]
set_option maxHeartbeats 4000000 in
theorem mf_X0_snoop {P : Nat → Nat} (sg : wk_Sg)  {κ : wk_K3} (h : 20 ≤ κ.1) : ms_X0_snoop P sg κ = sg κ := by
  unfold ms_X0_snoop
  repeat' split
  all_goals simp (disch := omega) only [wk_up_fr, wk_su_fr, mf_X2_readLine, mf_X0_snoop_L22]
set_option maxHeartbeats 4000000 in
theorem mf_X3_take {P : Nat → Nat} (sg : wk_Sg) (i : Nat) (j : Nat) (a1 : Int32) {κ : wk_K3} (h : 20 ≤ κ.1) : ms_X3_take P sg i j a1 κ = sg κ := by
  unfold ms_X3_take
  repeat' split
  all_goals simp (disch := omega) only [wk_up_fr, wk_su_fr]
set_option maxHeartbeats 4000000 in
theorem mf_X0_supply {P : Nat → Nat} (sg : wk_Sg) (i1 : Nat) {κ : wk_K3} (h : 20 ≤ κ.1) : ms_X0_supply P sg i1 κ = sg κ := by
  unfold ms_X0_supply
  repeat' split
  all_goals simp (disch := omega) only [wk_up_fr, wk_su_fr, mf_X3_take]
set_option maxHeartbeats 4000000 in
theorem mf_X0_end {P : Nat → Nat} (sg : wk_Sg)  {κ : wk_K3} (h : 20 ≤ κ.1) : ms_X0_end P sg κ = sg κ := by
  unfold ms_X0_end
  repeat' split
  all_goals simp (disch := omega) only [wk_up_fr, wk_su_fr]
set_option maxHeartbeats 4000000 in
theorem mf_X0_doNextPhase {P : Nat → Nat} (sg : wk_Sg)  {κ : wk_K3} (h : 20 ≤ κ.1) : ms_X0_doNextPhase P sg κ = sg κ := by
  unfold ms_X0_doNextPhase
  repeat' split
  all_goals simp (disch := omega) only [wk_up_fr, wk_su_fr, mf_X0_begin, mf_X2_giveUp, mf_X0_snoop, mf_X0_supply, mf_X0_end]
set_option maxHeartbeats 4000000 in
theorem mf_X1_finish {P : Nat → Nat} (sg : wk_Sg) (i : Nat) (a1 : Int32) {κ : wk_K3} (h : 20 ≤ κ.1) : ms_X1_finish P sg i a1 κ = sg κ := by
  unfold ms_X1_finish
  repeat' split
  all_goals simp (disch := omega) only [wk_up_fr, wk_su_fr]
set_option maxHeartbeats 4000000 in
theorem mf_X1_answer {P : Nat → Nat} (sg : wk_Sg) (i : Nat) (a1 : Int32) (a2 : Int32) {κ : wk_K3} (h : 20 ≤ κ.1) : ms_X1_answer P sg i a1 a2 κ = sg κ := by
  unfold ms_X1_answer
  repeat' split
  all_goals simp (disch := omega) only [wk_up_fr, wk_su_fr, mf_X1_finish]
set_option maxHeartbeats 4000000 in
theorem mf_X3_setWord {P : Nat → Nat} (sg : wk_Sg) (i : Nat) (j : Nat) (a1 : Int32) (a2 : Int32) {κ : wk_K3} (h : 20 ≤ κ.1) : ms_X3_setWord P sg i j a1 a2 κ = sg κ := by
  unfold ms_X3_setWord
  repeat' split
  all_goals simp (disch := omega) only [wk_up_fr, wk_su_fr]
set_option maxHeartbeats 4000000 in
theorem mf_X1_access {P : Nat → Nat} (sg : wk_Sg) (i : Nat) (a1 : Int32) (i2 : Nat) (j2 : Nat) (a3 : Int32) {κ : wk_K3} (h : 20 ≤ κ.1) : ms_X1_access P sg i a1 i2 j2 a3 κ = sg κ := by
  unfold ms_X1_access
  repeat' split
  all_goals simp (disch := omega) only [wk_up_fr, wk_su_fr, mf_X1_finish, mf_X1_answer, mf_X3_setWord]
set_option maxHeartbeats 4000000 in
theorem mf_X1_ask {P : Nat → Nat} (sg : wk_Sg) (i : Nat) (a1 : Int32) (a2 : Int32) {κ : wk_K3} (h : 20 ≤ κ.1) : ms_X1_ask P sg i a1 a2 κ = sg κ := by
  unfold ms_X1_ask
  repeat' split
  all_goals simp (disch := omega) only [wk_up_fr, wk_su_fr]
set_option maxHeartbeats 4000000 in
theorem mf_X1_tryAccess {P : Nat → Nat} (sg : wk_Sg) (i : Nat) (a1 : Int32) (a2 : Int32) {κ : wk_K3} (h : 20 ≤ κ.1) : ms_X1_tryAccess P sg i a1 a2 κ = sg κ := by
  unfold ms_X1_tryAccess
  repeat' split
  all_goals simp (disch := omega) only [wk_up_fr, wk_su_fr, mf_X1_access, mf_X1_ask]
theorem mf_X1_tryInstruction {P : Nat → Nat} (sg : wk_Sg) (i : Nat) (a1 : Int32) {κ : wk_K3} (h : 20 ≤ κ.1) : ms_X1_tryInstruction P sg i a1 κ = sg κ := by
  unfold ms_X1_tryInstruction
  repeat' with_reducible apply wk_if
  all_goals first | rfl | exact wk_up_fr (by omega) | exact mf_X1_finish (h := h) .. | exact (mf_X1_finish (h := h) ..).trans (wk_up_fr (by omega)) | exact (mf_X1_finish (h := h) ..).trans ((wk_up_fr (by omega)).trans (wk_up_fr (by omega))) | exact mf_X1_answer (h := h) .. | exact (mf_X1_answer (h := h) ..).trans (wk_up_fr (by omega)) | exact (mf_X1_answer (h := h) ..).trans ((wk_up_fr (by omega)).trans (wk_up_fr (by omega))) | exact mf_X1_tryAccess (h := h) .. | exact (mf_X1_tryAccess (h := h) ..).trans (wk_up_fr (by omega)) | exact (mf_X1_tryAccess (h := h) ..).trans ((wk_up_fr (by omega)).trans (wk_up_fr (by omega)))
set_option maxHeartbeats 4000000 in
theorem mf_X1_goOn {P : Nat → Nat} (sg : wk_Sg) (i : Nat) {κ : wk_K3} (h : 20 ≤ κ.1) : ms_X1_goOn P sg i κ = sg κ := by
  unfold ms_X1_goOn
  repeat' split
  all_goals simp (disch := omega) only [wk_up_fr, wk_su_fr, mf_X1_tryInstruction]
set_option maxHeartbeats 4000000 in
theorem mf_X4_bus {P : Nat → Nat} (sg : wk_Sg)  {κ : wk_K3} (h : 20 ≤ κ.1) : ms_X4_bus P sg κ = sg κ := by
  unfold ms_X4_bus
  repeat' split
  all_goals simp (disch := omega) only [wk_up_fr, wk_su_fr, mf_X0_doNextPhase]
set_option maxHeartbeats 4000000 in
theorem mf_X4_evict {P : Nat → Nat} (sg : wk_Sg) (a1 : Int32) (a2 : Int32) {κ : wk_K3} (h : 20 ≤ κ.1) : ms_X4_evict P sg a1 a2 κ = sg κ := by
  unfold ms_X4_evict
  repeat' split
  all_goals simp (disch := omega) only [wk_up_fr, wk_su_fr, mf_X2_giveUp]
set_option maxHeartbeats 4000000 in
theorem mf_X4_load {P : Nat → Nat} (sg : wk_Sg) (a1 : Int32) (a2 : Int32) (a3 : Int32) {κ : wk_K3} (h : 20 ≤ κ.1) : ms_X4_load P sg a1 a2 a3 κ = sg κ := by
  unfold ms_X4_load
  repeat' split
  all_goals simp (disch := omega) only [wk_up_fr, wk_su_fr]
set_option maxHeartbeats 4000000 in
theorem mf_X4_poke {P : Nat → Nat} (sg : wk_Sg) (a1 : Int32) (a2 : Int32) {κ : wk_K3} (h : 20 ≤ κ.1) : ms_X4_poke P sg a1 a2 κ = sg κ := by
  unfold ms_X4_poke
  repeat' split
  all_goals simp (disch := omega) only [wk_up_fr, wk_su_fr]
set_option maxHeartbeats 4000000 in
theorem mf_X4_step {P : Nat → Nat} (sg : wk_Sg) (a1 : Int32) {κ : wk_K3} (h : 20 ≤ κ.1) : ms_X4_step P sg a1 κ = sg κ := by
  unfold ms_X4_step
  repeat' split
  all_goals simp (disch := omega) only [wk_up_fr, wk_su_fr, mf_X1_goOn]
set_option maxHeartbeats 4000000 in
theorem mf_X5_phase {P : Nat → Nat} (sg : wk_Sg) (a1 : Int32) {κ : wk_K3} (h : κ.1 < 20) : ms_X5_phase P sg a1 κ = sg κ := by
  unfold ms_X5_phase
  repeat' split
  all_goals simp (disch := omega) only [wk_up_fr, wk_su_fr]
set_option maxHeartbeats 4000000 in
theorem mf_X5_take_L2 {P : Nat → Nat} {κ : wk_K3} (h : κ.1 < 20) : ∀ (n : Nat) (sg : wk_Sg) (u0 : Int32), ms_X5_take_L2 n P sg u0 κ = sg κ := by
  intro n
  induction n with
  | zero => intro sg u0; rfl
  | succ n ih =>
    intro sg u0
    rw [ms_X5_take_L2]
    repeat' split
    all_goals simp (disch := omega) only [wk_up_fr, wk_su_fr, mf_X5_phase, ih]
set_option maxHeartbeats 4000000 in
theorem mf_X5_take {P : Nat → Nat} (sg : wk_Sg)  {κ : wk_K3} (h : κ.1 < 20) : ms_X5_take P sg κ = sg κ := by
  unfold ms_X5_take
  repeat' split
  all_goals simp (disch := omega) only [wk_up_fr, wk_su_fr, mf_X5_take_L2]
set_option maxHeartbeats 4000000 in
theorem mf_X5_supply_L38 {P : Nat → Nat} {κ : wk_K3} (h : κ.1 < 20) : ∀ (n : Nat) (sg : wk_Sg) (u0 : Int32) (u1 : Int32), ms_X5_supply_L38 n P sg u0 u1 κ = sg κ := by
  intro n
  induction n with
  | zero => intro sg u0 u1; rfl
  | succ n ih =>
    intro sg u0 u1
    rw [ms_X5_supply_L38]
    repeat' split
    all_goals simp (disch := omega) only [wk_up_fr, wk_su_fr, mf_X5_phase, ih]
set_option maxHeartbeats 4000000 in
theorem mf_X5_supply {P : Nat → Nat} (sg : wk_Sg)  {κ : wk_K3} (h : κ.1 < 20) : ms_X5_supply P sg κ = sg κ := by
  unfold ms_X5_supply
  repeat' split
  all_goals simp (disch := omega) only [wk_up_fr, wk_su_fr, mf_X5_phase, mf_X5_supply_L38]
set_option maxHeartbeats 4000000 in
theorem mf_X5_writeBack_L2 {P : Nat → Nat} {κ : wk_K3} (h : κ.1 < 20) : ∀ (n : Nat) (sg : wk_Sg) (u0 : Int32) (u1 : Int32), ms_X5_writeBack_L2 n P sg u0 u1 κ = sg κ := by
  intro n
  induction n with
  | zero => intro sg u0 u1; rfl
  | succ n ih =>
    intro sg u0 u1
    rw [ms_X5_writeBack_L2]
    repeat' split
    all_goals simp (disch := omega) only [wk_up_fr, wk_su_fr, ih]
set_option maxHeartbeats 4000000 in
theorem mf_X5_writeBack {P : Nat → Nat} (sg : wk_Sg) (a1 : Int32) {κ : wk_K3} (h : κ.1 < 20) : ms_X5_writeBack P sg a1 κ = sg κ := by
  unfold ms_X5_writeBack
  repeat' split
  all_goals simp (disch := omega) only [wk_up_fr, wk_su_fr, mf_X5_writeBack_L2]
set_option maxHeartbeats 4000000 in
theorem mf_X5_empty_L16 {P : Nat → Nat} {κ : wk_K3} (h : κ.1 < 20) : ∀ (n : Nat) (sg : wk_Sg) (u0 : Int32) (u1 : Int32), ms_X5_empty_L16 n P sg u0 u1 κ = sg κ := by
  intro n
  induction n with
  | zero => intro sg u0 u1; rfl
  | succ n ih =>
    intro sg u0 u1
    rw [ms_X5_empty_L16]
    repeat' split
    all_goals simp (disch := omega) only [wk_up_fr, wk_su_fr, ih]
set_option maxHeartbeats 4000000 in
theorem mf_X5_empty {P : Nat → Nat} (sg : wk_Sg) (a1 : Int32) {κ : wk_K3} (h : κ.1 < 20) : ms_X5_empty P sg a1 κ = sg κ := by
  unfold ms_X5_empty
  repeat' split
  all_goals simp (disch := omega) only [wk_up_fr, wk_su_fr, mf_X5_empty_L16]
set_option maxHeartbeats 4000000 in
theorem mf_X5_snoop_L93 {P : Nat → Nat} {κ : wk_K3} (h : κ.1 < 20) : ∀ (n : Nat) (sg : wk_Sg) (u0 : Int32) (u1 : Int32) (u2 : Int32) (u3 : Int32), ms_X5_snoop_L93 n P sg u0 u1 u2 u3 κ = sg κ := by
  intro n
  induction n with
  | zero => intro sg u0 u1 u2 u3; rfl
  | succ n ih =>
    intro sg u0 u1 u2 u3
    rw [ms_X5_snoop_L93]
    repeat' split
    all_goals simp (disch := omega) only [wk_up_fr, wk_su_fr, ih]
set_option maxHeartbeats 4000000 in
theorem mf_X5_snoop_L45 {P : Nat → Nat} {κ : wk_K3} (h : κ.1 < 20) : ∀ (n : Nat) (sg : wk_Sg) (u0 : Int32), ms_X5_snoop_L45 n P sg u0 κ = sg κ := by
  intro n
  induction n with
  | zero => intro sg u0; rfl
  | succ n ih =>
    intro sg u0
    rw [ms_X5_snoop_L45]
    repeat' split
    all_goals simp (disch := omega) only [wk_up_fr, wk_su_fr, mf_X5_phase, mf_X5_writeBack, mf_X5_empty, mf_X5_snoop_L93, ih]
set_option maxHeartbeats 4000000 in
theorem mf_X5_snoop_L7 {P : Nat → Nat} {κ : wk_K3} (h : κ.1 < 20) : ∀ (n : Nat) (sg : wk_Sg) (u0 : Int32), ms_X5_snoop_L7 n P sg u0 κ = sg κ := by
  intro n
  induction n with
  | zero => intro sg u0; rfl
  | succ n ih =>
    intro sg u0
    rw [ms_X5_snoop_L7]
    repeat' split
    all_goals simp (disch := omega) only [wk_up_fr, wk_su_fr, mf_X5_snoop_L45, ih]
set_option maxHeartbeats 4000000 in
theorem mf_X5_snoop {P : Nat → Nat} (sg : wk_Sg)  {κ : wk_K3} (h : κ.1 < 20) : ms_X5_snoop P sg κ = sg κ := by
  unfold ms_X5_snoop
  repeat' split
  all_goals simp (disch := omega) only [wk_up_fr, wk_su_fr, mf_X5_snoop_L7]
set_option maxHeartbeats 4000000 in
theorem mf_X5_bus {P : Nat → Nat} (sg : wk_Sg)  {κ : wk_K3} (h : κ.1 < 20) : ms_X5_bus P sg κ = sg κ := by
  unfold ms_X5_bus
  repeat' split
  all_goals simp (disch := omega) only [wk_up_fr, wk_su_fr, mf_X5_phase, mf_X5_take, mf_X5_supply, mf_X5_writeBack, mf_X5_empty, mf_X5_snoop]
set_option maxHeartbeats 4000000 in
theorem mf_X5_done {P : Nat → Nat} (sg : wk_Sg) (a1 : Int32) (a2 : Int32) {κ : wk_K3} (h : κ.1 < 20) : ms_X5_done P sg a1 a2 κ = sg κ := by
  unfold ms_X5_done
  repeat' split
  all_goals simp (disch := omega) only [wk_up_fr, wk_su_fr]
set_option maxHeartbeats 4000000 in
theorem mf_X5_evict {P : Nat → Nat} (sg : wk_Sg) (a1 : Int32) (a2 : Int32) {κ : wk_K3} (h : κ.1 < 20) : ms_X5_evict P sg a1 a2 κ = sg κ := by
  unfold ms_X5_evict
  repeat' split
  all_goals simp (disch := omega) only [wk_up_fr, wk_su_fr, mf_X5_writeBack, mf_X5_empty]
set_option maxHeartbeats 4000000 in
theorem mf_X5_load {P : Nat → Nat} (sg : wk_Sg) (a1 : Int32) (a2 : Int32) (a3 : Int32) {κ : wk_K3} (h : κ.1 < 20) : ms_X5_load P sg a1 a2 a3 κ = sg κ := by
  unfold ms_X5_load
  repeat' split
  all_goals simp (disch := omega) only [wk_up_fr, wk_su_fr]
set_option maxHeartbeats 4000000 in
theorem mf_X5_trap {P : Nat → Nat} (sg : wk_Sg) (a1 : Int32) {κ : wk_K3} (h : κ.1 < 20) : ms_X5_trap P sg a1 κ = sg κ := by
  unfold ms_X5_trap
  repeat' split
  all_goals simp (disch := omega) only [wk_up_fr, wk_su_fr]
set_option maxHeartbeats 4000000 in
theorem mf_X5_move {P : Nat → Nat} (sg : wk_Sg) (a1 : Int32) (a2 : Int32) (a3 : Int32) (a4 : Int32) (a5 : Int32) {κ : wk_K3} (h : κ.1 < 20) : ms_X5_move P sg a1 a2 a3 a4 a5 κ = sg κ := by
  unfold ms_X5_move
  repeat' split
  all_goals simp (disch := omega) only [wk_up_fr, wk_su_fr, mf_X5_done, mf_X5_trap]
set_option maxHeartbeats 4000000 in
theorem mf_X5_poke {P : Nat → Nat} (sg : wk_Sg) (a1 : Int32) (a2 : Int32) {κ : wk_K3} (h : κ.1 < 20) : ms_X5_poke P sg a1 a2 κ = sg κ := by
  unfold ms_X5_poke
  repeat' split
  all_goals simp (disch := omega) only [wk_up_fr, wk_su_fr]
theorem mf_X5_step {P : Nat → Nat} (sg : wk_Sg) (a1 : Int32) {κ : wk_K3} (h : κ.1 < 20) : ms_X5_step P sg a1 κ = sg κ := by
  unfold ms_X5_step
  repeat' with_reducible apply wk_if
  all_goals first | rfl | exact wk_up_fr (by omega) | exact mf_X5_done (h := h) .. | exact (mf_X5_done (h := h) ..).trans (wk_up_fr (by omega)) | exact (mf_X5_done (h := h) ..).trans ((wk_up_fr (by omega)).trans (wk_up_fr (by omega))) | exact mf_X5_trap (h := h) .. | exact (mf_X5_trap (h := h) ..).trans (wk_up_fr (by omega)) | exact (mf_X5_trap (h := h) ..).trans ((wk_up_fr (by omega)).trans (wk_up_fr (by omega))) | exact mf_X5_move (h := h) .. | exact (mf_X5_move (h := h) ..).trans (wk_up_fr (by omega)) | exact (mf_X5_move (h := h) ..).trans ((wk_up_fr (by omega)).trans (wk_up_fr (by omega)))
