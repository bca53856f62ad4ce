def lk_0 : wk_L := fun k => match k with
  | 0 => some (some (1, 0, 0))
  | 1 => some (some (3, 0, 0))
  | 2 => some (some (10, 0, 0))
  | _ => none
def lk_1 : wk_L := fun k => match k with
  | 1 => some (some (2, 0, 0))
  | _ => none
def lk_4 (i : Nat) : wk_L := fun k => match k with
  | 1 => some (some (1, 0, 0))
  | 2 => some (some (5, i, 0))
  | 3 => some (some (6, i, 0))
  | 4 => some (some (7, i, 0))
  | _ => none
def lk_8 (i : Nat) (j : Nat) : wk_L := fun k => match k with
  | 0 => some (some (9, i, j))
  | _ => none
def lk_10 : wk_L := fun k => match k with
  | 0 => some (some (3, 0, 0))
  | 1 => some (some (1, 0, 0))
  | 2 => some (some (11, 0, 0))
  | 3 => some (some (12, 0, 0))
  | _ => none
def lk_20 : wk_L := fun k => match k with
  | 5 => some (some (21, 0, 0))
  | 6 => some (some (22, 0, 0))
  | 8 => some (some (23, 0, 0))
  | 9 => some (some (24, 0, 0))
  | 10 => some (some (25, 0, 0))
  | 11 => some (some (26, 0, 0))
  | 12 => some (some (27, 0, 0))
  | 13 => some (some (28, 0, 0))
  | 14 => some (some (29, 0, 0))
  | 15 => some (some (30, 0, 0))
  | 16 => some (some (31, 0, 0))
  | 22 => some (some (32, 0, 0))
  | 23 => some (some (33, 0, 0))
  | _ => none
def lk_3 (P : Nat → Nat) : Nat → Option wk_K3 := fun i => if i < P 0 then some (4, i, 0) else none
def lk_7 (P : Nat → Nat) (i : Nat) : Nat → Option wk_K3 := fun j => if j < P 1 then some (8, i, j) else none
theorem lk_3p {P : Nat → Nat} {i : Nat} (h : i < P 0) : lk_3 P i = some (4, i, 0) := if_pos h
theorem lk_7p {P : Nat → Nat} {i j : Nat} (h : j < P 1) : lk_7 P i j = some (8, i, j) := if_pos h
theorem wk_inlt {i : Int32} {n : Nat} (h : vp_in i n) : i.toNatClampNeg < n := Nat.not_le.mp (fun q => h (Or.inr q))
def sc_Sh (T : wk_T) (P : Nat → Nat) (sh : wk_Sh) : Prop := sh (0, 0, 0) = some (.inr (4, 4, lk_0)) ∧ sh (1, 0, 0) = some (.inr (2, 2, lk_1)) ∧ sh (2, 0, 0) = some (.inl (.inl (T.1, P 3))) ∧ sh (3, 0, 0) = some (.inl (.inr (T.2.1, P 0, lk_3 P))) ∧ (∀ i, i < P 0 → sh (4, i, 0) = some (.inr (1, 10, lk_4 i))) ∧ (∀ i, i < P 0 → sh (5, i, 0) = some (.inl (.inl (T.1, P 4)))) ∧ (∀ i, i < P 0 → sh (6, i, 0) = some (.inl (.inl (T.1, 4)))) ∧ (∀ i, i < P 0 → sh (7, i, 0) = some (.inl (.inr (T.2.2, P 1, lk_7 P i)))) ∧ (∀ i j, i < P 0 → j < P 1 → sh (8, i, j) = some (.inr (3, 3, lk_8 i j))) ∧ (∀ i j, i < P 0 → j < P 1 → sh (9, i, j) = some (.inl (.inl (T.1, P 2)))) ∧ sh (10, 0, 0) = some (.inr (0, 9, lk_10)) ∧ sh (11, 0, 0) = some (.inl (.inl (T.1, 4))) ∧ sh (12, 0, 0) = some (.inl (.inl (T.1, P 2)))
theorem sc_0 {T : wk_T} {P : Nat → Nat} {sh : wk_Sh} (h : sc_Sh T P sh) : sh (0, 0, 0) = some (.inr (4, 4, lk_0)) := h.1
theorem sc_1 {T : wk_T} {P : Nat → Nat} {sh : wk_Sh} (h : sc_Sh T P sh) : sh (1, 0, 0) = some (.inr (2, 2, lk_1)) := h.2.1
theorem sc_2 {T : wk_T} {P : Nat → Nat} {sh : wk_Sh} (h : sc_Sh T P sh) : sh (2, 0, 0) = some (.inl (.inl (T.1, P 3))) := h.2.2.1
theorem sc_3 {T : wk_T} {P : Nat → Nat} {sh : wk_Sh} (h : sc_Sh T P sh) : sh (3, 0, 0) = some (.inl (.inr (T.2.1, P 0, lk_3 P))) := h.2.2.2.1
theorem sc_4 {T : wk_T} {P : Nat → Nat} {sh : wk_Sh} (h : sc_Sh T P sh) {i : Nat} (hi : i < P 0) : sh (4, i, 0) = some (.inr (1, 10, lk_4 i)) := h.2.2.2.2.1 i hi
theorem sc_5 {T : wk_T} {P : Nat → Nat} {sh : wk_Sh} (h : sc_Sh T P sh) {i : Nat} (hi : i < P 0) : sh (5, i, 0) = some (.inl (.inl (T.1, P 4))) := h.2.2.2.2.2.1 i hi
theorem sc_6 {T : wk_T} {P : Nat → Nat} {sh : wk_Sh} (h : sc_Sh T P sh) {i : Nat} (hi : i < P 0) : sh (6, i, 0) = some (.inl (.inl (T.1, 4))) := h.2.2.2.2.2.2.1 i hi
theorem sc_7 {T : wk_T} {P : Nat → Nat} {sh : wk_Sh} (h : sc_Sh T P sh) {i : Nat} (hi : i < P 0) : sh (7, i, 0) = some (.inl (.inr (T.2.2, P 1, lk_7 P i))) := h.2.2.2.2.2.2.2.1 i hi
theorem sc_8 {T : wk_T} {P : Nat → Nat} {sh : wk_Sh} (h : sc_Sh T P sh) {i j : Nat} (hi : i < P 0) (hj : j < P 1) : sh (8, i, j) = some (.inr (3, 3, lk_8 i j)) := h.2.2.2.2.2.2.2.2.1 i j hi hj
theorem sc_9 {T : wk_T} {P : Nat → Nat} {sh : wk_Sh} (h : sc_Sh T P sh) {i j : Nat} (hi : i < P 0) (hj : j < P 1) : sh (9, i, j) = some (.inl (.inl (T.1, P 2))) := h.2.2.2.2.2.2.2.2.2.1 i j hi hj
theorem sc_10 {T : wk_T} {P : Nat → Nat} {sh : wk_Sh} (h : sc_Sh T P sh) : sh (10, 0, 0) = some (.inr (0, 9, lk_10)) := h.2.2.2.2.2.2.2.2.2.2.1
theorem sc_11 {T : wk_T} {P : Nat → Nat} {sh : wk_Sh} (h : sc_Sh T P sh) : sh (11, 0, 0) = some (.inl (.inl (T.1, 4))) := h.2.2.2.2.2.2.2.2.2.2.2.1
theorem sc_12 {T : wk_T} {P : Nat → Nat} {sh : wk_Sh} (h : sc_Sh T P sh) : sh (12, 0, 0) = some (.inl (.inl (T.1, P 2))) := h.2.2.2.2.2.2.2.2.2.2.2.2
def rf_Sh (T : wk_T) (sh : wk_Sh) : Prop := sh (20, 0, 0) = some (.inr (5, 24, lk_20)) ∧ sh (21, 0, 0) = some (.inl (.inl (T.1, 64))) ∧ sh (22, 0, 0) = some (.inl (.inl (T.1, 128))) ∧ sh (23, 0, 0) = some (.inl (.inl (T.1, 16))) ∧ sh (24, 0, 0) = some (.inl (.inl (T.1, 4))) ∧ sh (25, 0, 0) = some (.inl (.inl (T.1, 4))) ∧ sh (26, 0, 0) = some (.inl (.inl (T.1, 4))) ∧ sh (27, 0, 0) = some (.inl (.inl (T.1, 4))) ∧ sh (28, 0, 0) = some (.inl (.inl (T.1, 4))) ∧ sh (29, 0, 0) = some (.inl (.inl (T.1, 32))) ∧ sh (30, 0, 0) = some (.inl (.inl (T.1, 32))) ∧ sh (31, 0, 0) = some (.inl (.inl (T.1, 128))) ∧ sh (32, 0, 0) = some (.inl (.inl (T.1, 4))) ∧ sh (33, 0, 0) = some (.inl (.inl (T.1, 5)))
theorem rf_20 {T : wk_T} {sh : wk_Sh} (h : rf_Sh T sh) : sh (20, 0, 0) = some (.inr (5, 24, lk_20)) := h.1
theorem rf_21 {T : wk_T} {sh : wk_Sh} (h : rf_Sh T sh) : sh (21, 0, 0) = some (.inl (.inl (T.1, 64))) := h.2.1
theorem rf_22 {T : wk_T} {sh : wk_Sh} (h : rf_Sh T sh) : sh (22, 0, 0) = some (.inl (.inl (T.1, 128))) := h.2.2.1
theorem rf_23 {T : wk_T} {sh : wk_Sh} (h : rf_Sh T sh) : sh (23, 0, 0) = some (.inl (.inl (T.1, 16))) := h.2.2.2.1
theorem rf_24 {T : wk_T} {sh : wk_Sh} (h : rf_Sh T sh) : sh (24, 0, 0) = some (.inl (.inl (T.1, 4))) := h.2.2.2.2.1
theorem rf_25 {T : wk_T} {sh : wk_Sh} (h : rf_Sh T sh) : sh (25, 0, 0) = some (.inl (.inl (T.1, 4))) := h.2.2.2.2.2.1
theorem rf_26 {T : wk_T} {sh : wk_Sh} (h : rf_Sh T sh) : sh (26, 0, 0) = some (.inl (.inl (T.1, 4))) := h.2.2.2.2.2.2.1
theorem rf_27 {T : wk_T} {sh : wk_Sh} (h : rf_Sh T sh) : sh (27, 0, 0) = some (.inl (.inl (T.1, 4))) := h.2.2.2.2.2.2.2.1
theorem rf_28 {T : wk_T} {sh : wk_Sh} (h : rf_Sh T sh) : sh (28, 0, 0) = some (.inl (.inl (T.1, 4))) := h.2.2.2.2.2.2.2.2.1
theorem rf_29 {T : wk_T} {sh : wk_Sh} (h : rf_Sh T sh) : sh (29, 0, 0) = some (.inl (.inl (T.1, 32))) := h.2.2.2.2.2.2.2.2.2.1
theorem rf_30 {T : wk_T} {sh : wk_Sh} (h : rf_Sh T sh) : sh (30, 0, 0) = some (.inl (.inl (T.1, 32))) := h.2.2.2.2.2.2.2.2.2.2.1
theorem rf_31 {T : wk_T} {sh : wk_Sh} (h : rf_Sh T sh) : sh (31, 0, 0) = some (.inl (.inl (T.1, 128))) := h.2.2.2.2.2.2.2.2.2.2.2.1
theorem rf_32 {T : wk_T} {sh : wk_Sh} (h : rf_Sh T sh) : sh (32, 0, 0) = some (.inl (.inl (T.1, 4))) := h.2.2.2.2.2.2.2.2.2.2.2.2.1
theorem rf_33 {T : wk_T} {sh : wk_Sh} (h : rf_Sh T sh) : sh (33, 0, 0) = some (.inl (.inl (T.1, 5))) := h.2.2.2.2.2.2.2.2.2.2.2.2.2
theorem ok_X4_init : wk_OkI yX4_init cX4_init 10 5 := ⟨wk_inT 13 (by decide +kernel) rfl, wk_inT 1 (by decide +kernel) rfl, wk_inT 12 (by decide +kernel) rfl, rfl, by decide +kernel⟩
theorem ok_X4_limited : wk_OkS yX4_limited cX4_limited 3 (some .int) 3 := ⟨wk_inT 19 (by decide +kernel) rfl, wk_inT 1 (by decide +kernel) rfl, wk_inT 18 (by decide +kernel) rfl, by decide +kernel⟩
theorem ok_X2_init : wk_OkI yX2_init cX2_init 3 2 := ⟨wk_inT 30 (by decide +kernel) rfl, wk_inT 3 (by decide +kernel) rfl, wk_inT 29 (by decide +kernel) rfl, rfl, by decide +kernel⟩
theorem ok_X1_init : wk_OkI yX1_init cX1_init 6 4 := ⟨wk_inT 49 (by decide +kernel) rfl, wk_inT 4 (by decide +kernel) rfl, wk_inT 48 (by decide +kernel) rfl, rfl, by decide +kernel⟩
theorem ok_X3_init : wk_OkI yX3_init cX3_init 2 1 := ⟨wk_inT 56 (by decide +kernel) rfl, wk_inT 5 (by decide +kernel) rfl, wk_inT 55 (by decide +kernel) rfl, rfl, by decide +kernel⟩
theorem ok_X0_init : wk_OkI yX0_init cX0_init 3 2 := ⟨wk_inT 126 (by decide +kernel) rfl, wk_inT 6 (by decide +kernel) rfl, wk_inT 125 (by decide +kernel) rfl, rfl, by decide +kernel⟩
theorem ok_X4_load : wk_OkV RX4 yX4_load cX4_load 4 (some .boolean) 3 := ⟨wk_inT 177 (by decide +kernel) rfl, wk_inT 1 (by decide +kernel) rfl, wk_inT 175 (by decide +kernel) rfl, wk_inT 176 (by decide +kernel) rfl, by decide +kernel⟩
theorem ok_X4_hasCore : wk_OkV RX4 yX4_hasCore cX4_hasCore 2 (some .boolean) 1 := ⟨wk_inT 181 (by decide +kernel) rfl, wk_inT 1 (by decide +kernel) rfl, wk_inT 180 (by decide +kernel) rfl, wk_inS 0 (y := yX4_hasCore) (n := 4) (by decide +kernel) rfl, by decide +kernel⟩
theorem ok_X4_within : wk_OkS yX4_within cX4_within 2 (some .boolean) 2 := ⟨wk_inT 184 (by decide +kernel) rfl, wk_inT 1 (by decide +kernel) rfl, wk_inT 183 (by decide +kernel) rfl, by decide +kernel⟩
theorem ok_X4_poke : wk_OkV RX4 yX4_poke cX4_poke 3 (some .boolean) 2 := ⟨wk_inT 188 (by decide +kernel) rfl, wk_inT 1 (by decide +kernel) rfl, wk_inT 186 (by decide +kernel) rfl, wk_inT 187 (by decide +kernel) rfl, by decide +kernel⟩
theorem ok_X2_has : wk_OkV RX2 yX2_has cX2_has 2 (some .boolean) 1 := ⟨wk_inT 192 (by decide +kernel) rfl, wk_inT 3 (by decide +kernel) rfl, wk_inT 190 (by decide +kernel) rfl, wk_inT 191 (by decide +kernel) rfl, by decide +kernel⟩
theorem ok_X4_step : wk_OkV RX4 yX4_step cX4_step 3 (some .int) 1 := ⟨wk_inT 197 (by decide +kernel) rfl, wk_inT 1 (by decide +kernel) rfl, wk_inT 195 (by decide +kernel) rfl, wk_inT 196 (by decide +kernel) rfl, by decide +kernel⟩
theorem ok_X1_goOn : wk_OkV RX1 yX1_goOn cX1_goOn 1 none 0 := ⟨wk_inT 201 (by decide +kernel) rfl, wk_inT 4 (by decide +kernel) rfl, wk_inT 199 (by decide +kernel) rfl, wk_inT 200 (by decide +kernel) rfl, by decide +kernel⟩
theorem ok_X1_tryInstruction : wk_OkV RX1 yX1_tryInstruction cX1_tryInstruction 6 none 1 := ⟨wk_inT 206 (by decide +kernel) rfl, wk_inT 4 (by decide +kernel) rfl, wk_inT 205 (by decide +kernel) rfl, wk_inS 1 (y := yX1_tryInstruction) (n := 10) (by decide +kernel) rfl, by decide +kernel⟩
theorem ok_X1_fieldA : wk_OkS yX1_fieldA cX1_fieldA 1 (some .int) 1 := ⟨wk_inT 209 (by decide +kernel) rfl, wk_inT 4 (by decide +kernel) rfl, wk_inT 208 (by decide +kernel) rfl, by decide +kernel⟩
theorem ok_X1_fieldB : wk_OkS yX1_fieldB cX1_fieldB 1 (some .int) 1 := ⟨wk_inT 212 (by decide +kernel) rfl, wk_inT 4 (by decide +kernel) rfl, wk_inT 211 (by decide +kernel) rfl, by decide +kernel⟩
theorem ok_X1_fieldC : wk_OkS yX1_fieldC cX1_fieldC 1 (some .int) 1 := ⟨wk_inT 215 (by decide +kernel) rfl, wk_inT 4 (by decide +kernel) rfl, wk_inT 214 (by decide +kernel) rfl, by decide +kernel⟩
theorem ok_X1_fieldN : wk_OkS yX1_fieldN cX1_fieldN 1 (some .int) 1 := ⟨wk_inT 218 (by decide +kernel) rfl, wk_inT 4 (by decide +kernel) rfl, wk_inT 217 (by decide +kernel) rfl, by decide +kernel⟩
theorem ok_X1_operation : wk_OkS yX1_operation cX1_operation 1 (some .int) 1 := ⟨wk_inT 221 (by decide +kernel) rfl, wk_inT 4 (by decide +kernel) rfl, wk_inT 220 (by decide +kernel) rfl, by decide +kernel⟩
theorem ok_X1_finish : wk_OkV RX1 yX1_finish cX1_finish 2 none 1 := ⟨wk_inT 225 (by decide +kernel) rfl, wk_inT 4 (by decide +kernel) rfl, wk_inT 224 (by decide +kernel) rfl, wk_inS 2 (y := yX1_finish) (n := 10) (by decide +kernel) rfl, by decide +kernel⟩
theorem ok_X1_answer : wk_OkV RX1 yX1_answer cX1_answer 3 none 2 := ⟨wk_inT 229 (by decide +kernel) rfl, wk_inT 4 (by decide +kernel) rfl, wk_inT 228 (by decide +kernel) rfl, wk_inS 3 (y := yX1_answer) (n := 10) (by decide +kernel) rfl, by decide +kernel⟩
theorem ok_X1_tryAccess : wk_OkV RX1 yX1_tryAccess cX1_tryAccess 6 none 2 := ⟨wk_inT 233 (by decide +kernel) rfl, wk_inT 4 (by decide +kernel) rfl, wk_inT 232 (by decide +kernel) rfl, wk_inS 4 (y := yX1_tryAccess) (n := 10) (by decide +kernel) rfl, by decide +kernel⟩
theorem ok_X2_lineOf : wk_OkV RX2 yX2_lineOf cX2_lineOf 2 (some .int) 1 := ⟨wk_inT 238 (by decide +kernel) rfl, wk_inT 3 (by decide +kernel) rfl, wk_inT 236 (by decide +kernel) rfl, wk_inT 237 (by decide +kernel) rfl, by decide +kernel⟩
theorem ok_X1_slotFor : wk_OkV RX1 yX1_slotFor cX1_slotFor 2 (some (.object "SnoopingCores$Slot")) 1 := ⟨wk_inT 242 (by decide +kernel) rfl, wk_inT 4 (by decide +kernel) rfl, wk_inT 240 (by decide +kernel) rfl, wk_inT 241 (by decide +kernel) rfl, by decide +kernel⟩
theorem ok_X1_indexFor : wk_OkV RX1 yX1_indexFor cX1_indexFor 2 (some .int) 1 := ⟨wk_inT 246 (by decide +kernel) rfl, wk_inT 4 (by decide +kernel) rfl, wk_inT 244 (by decide +kernel) rfl, wk_inT 245 (by decide +kernel) rfl, by decide +kernel⟩
theorem ok_X3_holds : wk_OkV RX3 yX3_holds cX3_holds 2 (some .boolean) 1 := ⟨wk_inT 250 (by decide +kernel) rfl, wk_inT 5 (by decide +kernel) rfl, wk_inT 248 (by decide +kernel) rfl, wk_inT 249 (by decide +kernel) rfl, by decide +kernel⟩
theorem ok_X3_maySetWords : wk_OkV RX3 yX3_maySetWords cX3_maySetWords 1 (some .boolean) 0 := ⟨wk_inT 254 (by decide +kernel) rfl, wk_inT 5 (by decide +kernel) rfl, wk_inT 252 (by decide +kernel) rfl, wk_inT 253 (by decide +kernel) rfl, by decide +kernel⟩
theorem ok_X2_offsetOf : wk_OkV RX2 yX2_offsetOf cX2_offsetOf 2 (some .int) 1 := ⟨wk_inT 258 (by decide +kernel) rfl, wk_inT 3 (by decide +kernel) rfl, wk_inT 256 (by decide +kernel) rfl, wk_inT 257 (by decide +kernel) rfl, by decide +kernel⟩
theorem ok_X1_access : wk_OkV RX1 yX1_access cX1_access 7 none 3 := ⟨wk_inT 262 (by decide +kernel) rfl, wk_inT 4 (by decide +kernel) rfl, wk_inT 261 (by decide +kernel) rfl, wk_inS 5 (y := yX1_access) (n := 10) (by decide +kernel) rfl, by decide +kernel⟩
theorem ok_X3_setWord : wk_OkV RX3 yX3_setWord cX3_setWord 3 none 2 := ⟨wk_inT 266 (by decide +kernel) rfl, wk_inT 5 (by decide +kernel) rfl, wk_inT 264 (by decide +kernel) rfl, wk_inT 265 (by decide +kernel) rfl, by decide +kernel⟩
theorem ok_X1_ask : wk_OkV RX1 yX1_ask cX1_ask 3 none 2 := ⟨wk_inT 270 (by decide +kernel) rfl, wk_inT 4 (by decide +kernel) rfl, wk_inT 269 (by decide +kernel) rfl, wk_inS 6 (y := yX1_ask) (n := 10) (by decide +kernel) rfl, by decide +kernel⟩
theorem ok_X4_bus : wk_OkV RX4 yX4_bus cX4_bus 1 (some .int) 0 := ⟨wk_inT 274 (by decide +kernel) rfl, wk_inT 1 (by decide +kernel) rfl, wk_inT 272 (by decide +kernel) rfl, wk_inT 273 (by decide +kernel) rfl, by decide +kernel⟩
theorem ok_X0_doNextPhase : wk_OkV RX0 yX0_doNextPhase cX0_doNextPhase 4 (some .int) 0 := ⟨wk_inT 278 (by decide +kernel) rfl, wk_inT 6 (by decide +kernel) rfl, wk_inT 276 (by decide +kernel) rfl, wk_inT 277 (by decide +kernel) rfl, by decide +kernel⟩
theorem ok_X0_lowestWithRequest : wk_OkV RX0 yX0_lowestWithRequest cX0_lowestWithRequest 2 (some .int) 0 := ⟨wk_inT 282 (by decide +kernel) rfl, wk_inT 6 (by decide +kernel) rfl, wk_inT 281 (by decide +kernel) rfl, wk_inS 7 (y := yX0_lowestWithRequest) (n := 9) (by decide +kernel) rfl, by decide +kernel⟩
theorem ok_X0_phaseAfter : wk_OkV RX0 yX0_phaseAfter cX0_phaseAfter 3 (some .int) 2 := ⟨wk_inT 287 (by decide +kernel) rfl, wk_inT 6 (by decide +kernel) rfl, wk_inT 286 (by decide +kernel) rfl, wk_inS 8 (y := yX0_phaseAfter) (n := 9) (by decide +kernel) rfl, by decide +kernel⟩
theorem ok_X0_mustWriteBack : wk_OkV RX0 yX0_mustWriteBack cX0_mustWriteBack 2 (some .boolean) 1 := ⟨wk_inT 292 (by decide +kernel) rfl, wk_inT 6 (by decide +kernel) rfl, wk_inT 291 (by decide +kernel) rfl, wk_inS 9 (y := yX0_mustWriteBack) (n := 9) (by decide +kernel) rfl, by decide +kernel⟩
theorem ok_X3_isNewerThanMemory : wk_OkV RX3 yX3_isNewerThanMemory cX3_isNewerThanMemory 1 (some .boolean) 0 := ⟨wk_inT 296 (by decide +kernel) rfl, wk_inT 5 (by decide +kernel) rfl, wk_inT 294 (by decide +kernel) rfl, wk_inT 295 (by decide +kernel) rfl, by decide +kernel⟩
theorem ok_X0_begin : wk_OkV RX0 yX0_begin cX0_begin 2 none 1 := ⟨wk_inT 300 (by decide +kernel) rfl, wk_inT 6 (by decide +kernel) rfl, wk_inT 299 (by decide +kernel) rfl, wk_inS 10 (y := yX0_begin) (n := 9) (by decide +kernel) rfl, by decide +kernel⟩
theorem ok_X1_forgetRequest : wk_OkV RX1 yX1_forgetRequest cX1_forgetRequest 1 none 0 := ⟨wk_inT 304 (by decide +kernel) rfl, wk_inT 4 (by decide +kernel) rfl, wk_inT 302 (by decide +kernel) rfl, wk_inT 303 (by decide +kernel) rfl, by decide +kernel⟩
theorem ok_X2_giveUp : wk_OkV RX2 yX2_giveUp cX2_giveUp 2 none 1 := ⟨wk_inT 308 (by decide +kernel) rfl, wk_inT 3 (by decide +kernel) rfl, wk_inT 306 (by decide +kernel) rfl, wk_inT 307 (by decide +kernel) rfl, by decide +kernel⟩
theorem ok_X0_snoop : wk_OkV RX0 yX0_snoop cX0_snoop 3 none 0 := ⟨wk_inT 316 (by decide +kernel) rfl, wk_inT 6 (by decide +kernel) rfl, wk_inT 315 (by decide +kernel) rfl, wk_inS 11 (y := yX0_snoop) (n := 9) (by decide +kernel) rfl, by decide +kernel⟩
theorem ok_X2_readLine : wk_OkV RX2 yX2_readLine cX2_readLine 3 none 2 := ⟨wk_inT 320 (by decide +kernel) rfl, wk_inT 3 (by decide +kernel) rfl, wk_inT 318 (by decide +kernel) rfl, wk_inT 319 (by decide +kernel) rfl, by decide +kernel⟩
theorem ok_X0_lookOn : wk_OkV RX0 yX0_lookOn cX0_lookOn 2 none 1 := ⟨wk_inT 325 (by decide +kernel) rfl, wk_inT 6 (by decide +kernel) rfl, wk_inT 324 (by decide +kernel) rfl, wk_inS 12 (y := yX0_lookOn) (n := 9) (by decide +kernel) rfl, by decide +kernel⟩
theorem ok_X3_letOthersRead : wk_OkV RX3 yX3_letOthersRead cX3_letOthersRead 1 none 0 := ⟨wk_inT 330 (by decide +kernel) rfl, wk_inT 5 (by decide +kernel) rfl, wk_inT 328 (by decide +kernel) rfl, wk_inT 329 (by decide +kernel) rfl, by decide +kernel⟩
theorem ok_X0_supply : wk_OkV RX0 yX0_supply cX0_supply 3 none 1 := ⟨wk_inT 334 (by decide +kernel) rfl, wk_inT 6 (by decide +kernel) rfl, wk_inT 333 (by decide +kernel) rfl, wk_inS 13 (y := yX0_supply) (n := 9) (by decide +kernel) rfl, by decide +kernel⟩
theorem ok_X3_take : wk_OkV RX3 yX3_take cX3_take 3 none 2 := ⟨wk_inT 338 (by decide +kernel) rfl, wk_inT 5 (by decide +kernel) rfl, wk_inT 336 (by decide +kernel) rfl, wk_inT 337 (by decide +kernel) rfl, by decide +kernel⟩
theorem ok_X0_end : wk_OkV RX0 yX0_end cX0_end 1 none 0 := ⟨wk_inT 343 (by decide +kernel) rfl, wk_inT 6 (by decide +kernel) rfl, wk_inT 342 (by decide +kernel) rfl, wk_inS 14 (y := yX0_end) (n := 9) (by decide +kernel) rfl, by decide +kernel⟩
theorem ok_X4_evict : wk_OkV RX4 yX4_evict cX4_evict 4 (some .int) 2 := ⟨wk_inT 347 (by decide +kernel) rfl, wk_inT 1 (by decide +kernel) rfl, wk_inT 345 (by decide +kernel) rfl, wk_inT 346 (by decide +kernel) rfl, by decide +kernel⟩
theorem ok_X4_hasSlot : wk_OkV RX4 yX4_hasSlot cX4_hasSlot 3 (some .boolean) 2 := ⟨wk_inT 351 (by decide +kernel) rfl, wk_inT 1 (by decide +kernel) rfl, wk_inT 350 (by decide +kernel) rfl, wk_inS 15 (y := yX4_hasSlot) (n := 4) (by decide +kernel) rfl, by decide +kernel⟩
theorem ok_X0_needs : wk_OkV RX0 yX0_needs cX0_needs 4 (some .boolean) 2 := ⟨wk_inT 355 (by decide +kernel) rfl, wk_inT 6 (by decide +kernel) rfl, wk_inT 353 (by decide +kernel) rfl, wk_inT 354 (by decide +kernel) rfl, by decide +kernel⟩
theorem ok_X4_register : wk_OkV RX4 yX4_register cX4_register 3 (some .int) 2 := ⟨wk_inT 361 (by decide +kernel) rfl, wk_inT 1 (by decide +kernel) rfl, wk_inT 359 (by decide +kernel) rfl, wk_inT 360 (by decide +kernel) rfl, by decide +kernel⟩
theorem ok_X4_cpu : wk_OkV RX4 yX4_cpu cX4_cpu 4 (some .int) 2 := ⟨wk_inT 365 (by decide +kernel) rfl, wk_inT 1 (by decide +kernel) rfl, wk_inT 363 (by decide +kernel) rfl, wk_inT 364 (by decide +kernel) rfl, by decide +kernel⟩
theorem ok_X4_slot : wk_OkV RX4 yX4_slot cX4_slot 5 (some .int) 3 := ⟨wk_inT 369 (by decide +kernel) rfl, wk_inT 1 (by decide +kernel) rfl, wk_inT 367 (by decide +kernel) rfl, wk_inT 368 (by decide +kernel) rfl, by decide +kernel⟩
theorem ok_X4_peek : wk_OkV RX4 yX4_peek cX4_peek 5 (some .int) 1 := ⟨wk_inT 373 (by decide +kernel) rfl, wk_inT 1 (by decide +kernel) rfl, wk_inT 371 (by decide +kernel) rfl, wk_inT 372 (by decide +kernel) rfl, by decide +kernel⟩
theorem ok_X4_memory : wk_OkV RX4 yX4_memory cX4_memory 2 (some .int) 1 := ⟨wk_inT 382 (by decide +kernel) rfl, wk_inT 1 (by decide +kernel) rfl, wk_inT 380 (by decide +kernel) rfl, wk_inT 381 (by decide +kernel) rfl, by decide +kernel⟩
theorem ok_X4_state : wk_OkV RX4 yX4_state cX4_state 2 (some .int) 1 := ⟨wk_inT 386 (by decide +kernel) rfl, wk_inT 1 (by decide +kernel) rfl, wk_inT 384 (by decide +kernel) rfl, wk_inT 385 (by decide +kernel) rfl, by decide +kernel⟩
theorem ok_L_cell : wk_OkS yL_cell cL_cell 2 (some .int) 2 := ⟨wk_inT 389 (by decide +kernel) rfl, wk_inT 0 (by decide +kernel) rfl, wk_inT 388 (by decide +kernel) rfl, by decide +kernel⟩
theorem ok_X5_init : wk_OkI yX5_init cX5_init 7 5 := ⟨wk_inT 394 (by decide +kernel) rfl, wk_inT 7 (by decide +kernel) rfl, wk_inT 393 (by decide +kernel) rfl, rfl, by decide +kernel⟩
theorem ok_X5_clamp : wk_OkS yX5_clamp cX5_clamp 3 (some .int) 3 := ⟨wk_inT 398 (by decide +kernel) rfl, wk_inT 7 (by decide +kernel) rfl, wk_inT 397 (by decide +kernel) rfl, by decide +kernel⟩
theorem ok_X5_load : wk_OkV RX5 yX5_load cX5_load 4 (some .boolean) 3 := ⟨wk_inT 475 (by decide +kernel) rfl, wk_inT 7 (by decide +kernel) rfl, wk_inT 473 (by decide +kernel) rfl, wk_inT 474 (by decide +kernel) rfl, by decide +kernel⟩
theorem ok_X5_isCpu : wk_OkV RX5 yX5_isCpu cX5_isCpu 2 (some .boolean) 1 := ⟨wk_inT 479 (by decide +kernel) rfl, wk_inT 7 (by decide +kernel) rfl, wk_inT 478 (by decide +kernel) rfl, wk_inS 16 (y := yX5_isCpu) (n := 24) (by decide +kernel) rfl, by decide +kernel⟩
theorem ok_X5_poke : wk_OkV RX5 yX5_poke cX5_poke 3 (some .boolean) 2 := ⟨wk_inT 483 (by decide +kernel) rfl, wk_inT 7 (by decide +kernel) rfl, wk_inT 481 (by decide +kernel) rfl, wk_inT 482 (by decide +kernel) rfl, by decide +kernel⟩
theorem ok_X5_isAddress : wk_OkV RX5 yX5_isAddress cX5_isAddress 2 (some .boolean) 1 := ⟨wk_inT 487 (by decide +kernel) rfl, wk_inT 7 (by decide +kernel) rfl, wk_inT 486 (by decide +kernel) rfl, wk_inS 17 (y := yX5_isAddress) (n := 24) (by decide +kernel) rfl, by decide +kernel⟩
theorem ok_X5_step : wk_OkV RX5 yX5_step cX5_step 10 (some .int) 1 := ⟨wk_inT 491 (by decide +kernel) rfl, wk_inT 7 (by decide +kernel) rfl, wk_inT 489 (by decide +kernel) rfl, wk_inT 490 (by decide +kernel) rfl, by decide +kernel⟩
theorem ok_X5_answer : wk_OkV RX5 yX5_answer cX5_answer 2 (some .int) 1 := ⟨wk_inT 495 (by decide +kernel) rfl, wk_inT 7 (by decide +kernel) rfl, wk_inT 494 (by decide +kernel) rfl, wk_inS 18 (y := yX5_answer) (n := 24) (by decide +kernel) rfl, by decide +kernel⟩
theorem ok_X5_trap : wk_OkV RX5 yX5_trap cX5_trap 2 (some .int) 1 := ⟨wk_inT 499 (by decide +kernel) rfl, wk_inT 7 (by decide +kernel) rfl, wk_inT 498 (by decide +kernel) rfl, wk_inS 19 (y := yX5_trap) (n := 24) (by decide +kernel) rfl, by decide +kernel⟩
theorem ok_X5_done : wk_OkV RX5 yX5_done cX5_done 3 (some .int) 2 := ⟨wk_inT 503 (by decide +kernel) rfl, wk_inT 7 (by decide +kernel) rfl, wk_inT 502 (by decide +kernel) rfl, wk_inS 20 (y := yX5_done) (n := 24) (by decide +kernel) rfl, by decide +kernel⟩
theorem ok_X5_move : wk_OkV RX5 yX5_move cX5_move 11 (some .int) 5 := ⟨wk_inT 507 (by decide +kernel) rfl, wk_inT 7 (by decide +kernel) rfl, wk_inT 506 (by decide +kernel) rfl, wk_inS 21 (y := yX5_move) (n := 24) (by decide +kernel) rfl, by decide +kernel⟩
theorem ok_X5_stateOf : wk_OkV RX5 yX5_stateOf cX5_stateOf 4 (some .int) 2 := ⟨wk_inT 511 (by decide +kernel) rfl, wk_inT 7 (by decide +kernel) rfl, wk_inT 510 (by decide +kernel) rfl, wk_inS 22 (y := yX5_stateOf) (n := 24) (by decide +kernel) rfl, by decide +kernel⟩
theorem ok_X5_slotOf : wk_OkV RX5 yX5_slotOf cX5_slotOf 3 (some .int) 2 := ⟨wk_inT 515 (by decide +kernel) rfl, wk_inT 7 (by decide +kernel) rfl, wk_inT 514 (by decide +kernel) rfl, wk_inS 23 (y := yX5_slotOf) (n := 24) (by decide +kernel) rfl, by decide +kernel⟩
theorem ok_X5_bus : wk_OkV RX5 yX5_bus cX5_bus 2 (some .int) 0 := ⟨wk_inT 519 (by decide +kernel) rfl, wk_inT 7 (by decide +kernel) rfl, wk_inT 517 (by decide +kernel) rfl, wk_inT 518 (by decide +kernel) rfl, by decide +kernel⟩
theorem ok_X5_take : wk_OkV RX5 yX5_take cX5_take 2 (some .int) 0 := ⟨wk_inT 523 (by decide +kernel) rfl, wk_inT 7 (by decide +kernel) rfl, wk_inT 522 (by decide +kernel) rfl, wk_inS 24 (y := yX5_take) (n := 24) (by decide +kernel) rfl, by decide +kernel⟩
theorem ok_X5_phase : wk_OkV RX5 yX5_phase cX5_phase 2 (some .int) 1 := ⟨wk_inT 527 (by decide +kernel) rfl, wk_inT 7 (by decide +kernel) rfl, wk_inT 526 (by decide +kernel) rfl, wk_inS 25 (y := yX5_phase) (n := 24) (by decide +kernel) rfl, by decide +kernel⟩
theorem ok_X5_supply : wk_OkV RX5 yX5_supply cX5_supply 3 (some .int) 0 := ⟨wk_inT 531 (by decide +kernel) rfl, wk_inT 7 (by decide +kernel) rfl, wk_inT 530 (by decide +kernel) rfl, wk_inS 26 (y := yX5_supply) (n := 24) (by decide +kernel) rfl, by decide +kernel⟩
theorem ok_X5_isDirty : wk_OkS yX5_isDirty cX5_isDirty 1 (some .boolean) 1 := ⟨wk_inT 534 (by decide +kernel) rfl, wk_inT 7 (by decide +kernel) rfl, wk_inT 533 (by decide +kernel) rfl, by decide +kernel⟩
theorem ok_X5_writeBack : wk_OkV RX5 yX5_writeBack cX5_writeBack 3 none 1 := ⟨wk_inT 538 (by decide +kernel) rfl, wk_inT 7 (by decide +kernel) rfl, wk_inT 537 (by decide +kernel) rfl, wk_inS 27 (y := yX5_writeBack) (n := 24) (by decide +kernel) rfl, by decide +kernel⟩
theorem ok_X5_empty : wk_OkV RX5 yX5_empty cX5_empty 3 none 1 := ⟨wk_inT 542 (by decide +kernel) rfl, wk_inT 7 (by decide +kernel) rfl, wk_inT 541 (by decide +kernel) rfl, wk_inS 28 (y := yX5_empty) (n := 24) (by decide +kernel) rfl, by decide +kernel⟩
theorem ok_X5_snoop : wk_OkV RX5 yX5_snoop cX5_snoop 5 (some .int) 0 := ⟨wk_inT 546 (by decide +kernel) rfl, wk_inT 7 (by decide +kernel) rfl, wk_inT 545 (by decide +kernel) rfl, wk_inS 29 (y := yX5_snoop) (n := 24) (by decide +kernel) rfl, by decide +kernel⟩
theorem ok_X5_evict : wk_OkV RX5 yX5_evict cX5_evict 4 (some .int) 2 := ⟨wk_inT 550 (by decide +kernel) rfl, wk_inT 7 (by decide +kernel) rfl, wk_inT 548 (by decide +kernel) rfl, wk_inT 549 (by decide +kernel) rfl, by decide +kernel⟩
theorem ok_X5_register : wk_OkV RX5 yX5_register cX5_register 3 (some .int) 2 := ⟨wk_inT 554 (by decide +kernel) rfl, wk_inT 7 (by decide +kernel) rfl, wk_inT 552 (by decide +kernel) rfl, wk_inT 553 (by decide +kernel) rfl, by decide +kernel⟩
theorem ok_X5_cpu : wk_OkV RX5 yX5_cpu cX5_cpu 3 (some .int) 2 := ⟨wk_inT 558 (by decide +kernel) rfl, wk_inT 7 (by decide +kernel) rfl, wk_inT 556 (by decide +kernel) rfl, wk_inT 557 (by decide +kernel) rfl, by decide +kernel⟩
theorem ok_X5_slot : wk_OkV RX5 yX5_slot cX5_slot 5 (some .int) 3 := ⟨wk_inT 562 (by decide +kernel) rfl, wk_inT 7 (by decide +kernel) rfl, wk_inT 560 (by decide +kernel) rfl, wk_inT 561 (by decide +kernel) rfl, by decide +kernel⟩
theorem ok_X5_peek : wk_OkV RX5 yX5_peek cX5_peek 5 (some .int) 1 := ⟨wk_inT 566 (by decide +kernel) rfl, wk_inT 7 (by decide +kernel) rfl, wk_inT 564 (by decide +kernel) rfl, wk_inT 565 (by decide +kernel) rfl, by decide +kernel⟩
theorem ok_X5_memory : wk_OkV RX5 yX5_memory cX5_memory 2 (some .int) 1 := ⟨wk_inT 570 (by decide +kernel) rfl, wk_inT 7 (by decide +kernel) rfl, wk_inT 568 (by decide +kernel) rfl, wk_inT 569 (by decide +kernel) rfl, by decide +kernel⟩
theorem ok_X5_state : wk_OkV RX5 yX5_state cX5_state 2 (some .int) 1 := ⟨wk_inT 574 (by decide +kernel) rfl, wk_inT 7 (by decide +kernel) rfl, wk_inT 572 (by decide +kernel) rfl, wk_inT 573 (by decide +kernel) rfl, by decide +kernel⟩
