/-! The law: its loop. -/
set_option maxHeartbeats 4000000 in
set_option maxRecDepth 100000 in
theorem lw_loop {l : Launch} {D : va_G} {T : wk_T} {ad : wk_K3 → Nat} {sh : wk_Sh} {P : Nat → Nat} (hSc : sc_Sh T P sh) (hRf : rf_Sh T sh) {p : Program} {e : Env} {s : State} {m : MethodId} {args : Array Value} {below : List Frame} {meth : Method} {c : Code} {Q : State → Prop} {b L : Nat} {xs : Nat → Int32} (X : wk_C p m c cL_law 4 s args RL D T) (hXx : va_X b L xs s s.heap) (hbl : b < s.heap.size) (hL : L ≤ 2053) (hexit : ∀ (ls : Array Slot) (H : Heap), W p l e room_1 s m args below meth c H [] 600000 7302250 Q (F0 m 470 ls [.int 1])) :
    ∀ (f i : Nat) (sg : wk_Sg) (ls : Array Slot) (H : Heap) (locs : List Loc), L < i + 4 * f → i ≤ L + 5 → pm_R P sg → lv_has ls 4 [(0, .ref b), (1, .ref (ad (0, 0, 0))), (2, .ref (ad (20, 0, 0))), (3, .int (nI i))] → wk_H D s.heap.size ad sh sg H → va_S (wk_A s.heap.size) s.heap H locs → W p l e room_1 s m args below meth c H locs 200 2000 Q (F0 m 68 ls []) := by
  have hx := X.1.1
  have hb := X.1.2.1
  have hz : s.heap.size ≤ s.heap.size := Nat.le_refl _
  have hbA : ¬ wk_A s.heap.size b := by show ¬ s.heap.size ≤ b; omega
  intro f
  induction f with
  | zero =>
    intro i sg ls H locs hf hi hR hl hH hS
    refine lv_iload_n (pc := 68) hx hb dL_law_68 rfl (lv_at hl 3 rfl) ?_
    refine lv_aload_n (pc := 69) hx hb dL_law_69 rfl (lv_at hl 0 rfl) ?_
    refine va_slen (pc := 70) hx hb hXx hbl hbA hS dL_law_70 ?_
    refine lv_iconst (pc := 71) (v := 4) hx hb dL_law_71 (by decide) ?_
    refine lv_isub (pc := 72) hx hb dL_law_72 ?_
    refine lv_icmp_gt (pc := 73) (tgt := 469) hx hb dL_law_73 (by decide) (fun h => ?_) (fun h => absurd ((lw_cmp hL (by omega)).mpr (by omega)) h)
    refine lv_iconst (pc := 469) (v := 1) hx hb dL_law_469 (by decide) ?_
    refine va_forget (fun q hq => hS.2.2 q hq) ?_
    refine W.widen (k := 600000) (n := 7302250) (by omega) (by omega) ?_
    exact hexit _ _
  | succ f ih =>
    intro i sg ls H locs hf hi hR hl hH hS
    refine lv_iload_n (pc := 68) hx hb dL_law_68 rfl (lv_at hl 3 rfl) ?_
    refine lv_aload_n (pc := 69) hx hb dL_law_69 rfl (lv_at hl 0 rfl) ?_
    refine va_slen (pc := 70) hx hb hXx hbl hbA hS dL_law_70 ?_
    refine lv_iconst (pc := 71) (v := 4) hx hb dL_law_71 (by decide) ?_
    refine lv_isub (pc := 72) hx hb dL_law_72 ?_
    refine lv_icmp_gt (pc := 73) (tgt := 469) hx hb dL_law_73 (by decide) (fun h => ?_) (fun h => ?_)
    · refine lv_iconst (pc := 469) (v := 1) hx hb dL_law_469 (by decide) ?_
      refine va_forget (fun q hq => hS.2.2 q hq) ?_
      refine W.widen (k := 600000) (n := 7302250) (by omega) (by omega) ?_
      exact hexit _ _
    · have hiL : i + 4 ≤ L := by
        by_cases z : L < i + 4
        · exact absurd ((lw_cmp hL (by omega)).mpr z) h
        · omega
      -- the next round
      have next : ∀ (sg : wk_Sg) (ls : Array Slot) (H : Heap) (locs : List Loc), pm_R P sg → lv_has ls 4 [(0, .ref b), (1, .ref (ad (0, 0, 0))), (2, .ref (ad (20, 0, 0))), (3, .int (nI i))] → wk_H D s.heap.size ad sh sg H → va_S (wk_A s.heap.size) s.heap H locs → W p l e room_1 s m args below meth c H locs 200 2000 Q (F0 m 463 ls []) := by
        intro sg ls H locs hR hl hH hS
        refine lv_iinc (pc := 463) (k := 3) (v := nI (i + 4)) (lv' := [(3, .int (nI (i + 4))), (0, .ref b), (1, .ref (ad (0, 0, 0))), (2, .ref (ad (20, 0, 0)))]) hx hb dL_law_463 hl rfl (nI_add i 4) (by decide) rfl (fun ls hl => ?_)
        refine lv_goto (pc := 466) (tgt := 68) hx hb dL_law_466 (by decide) ?_
        exact ih (i + 4) sg ls H locs (by omega) (by omega) hR (lv_sub hl [1, 2, 3, 0] rfl) hH hS
      have v0 : vp_in (nI i) L := pn_in (by omega) (by omega)
      have v1 : vp_in (nI i + 1) L := by rw [show nI i + 1 = nI (i + 1) from nI_add i 1]; exact pn_in (by omega) (by omega)
      have v2 : vp_in (nI i + 2) L := by rw [show nI i + 2 = nI (i + 2) from nI_add i 2]; exact pn_in (by omega) (by omega)
      have v3 : vp_in (nI i + 3) L := by rw [show nI i + 3 = nI (i + 3) from nI_add i 3]; exact pn_in (by omega) (by omega)
      refine lv_aload_n (pc := 76) hx hb dL_law_76 rfl (lv_at hl 0 rfl) ?_
      refine lv_iload_n (pc := 77) hx hb dL_law_77 rfl (lv_at hl 3 rfl) ?_
      refine va_sld (pc := 78) hx hb hXx hbl hbA hS v0 dL_law_78 ?_
      refine lv_bipush (pc := 79) (v := 15) hx hb dL_law_79 (by decide) ?_
      refine lv_iand (pc := 81) hx hb dL_law_81 ?_
      refine lv_topi (fun w ew => ?_)
      clear ew
      by_cases w0 : w = 0
      · refine wk_tin (pc := 82) (off := 58) (tgt := 140) X w0 dL_law_82 (by decide) (by decide) (by decide) (by decide) ?_
        refine lv_aload_n (pc := 140) hx hb dL_law_140 rfl (lv_at hl 1 rfl) ?_
        refine lv_aload_n (pc := 141) hx hb dL_law_141 rfl (lv_at hl 0 rfl) ?_
        refine lv_iload_n (pc := 142) hx hb dL_law_142 rfl (lv_at hl 3 rfl) ?_
        refine lv_iconst (pc := 143) (v := 1) hx hb dL_law_143 (by decide) ?_
        refine lv_iadd (pc := 144) hx hb dL_law_144 ?_
        refine va_sld (pc := 145) hx hb hXx hbl hbA hS v1 dL_law_145 ?_
        refine lv_aload_n (pc := 146) hx hb dL_law_146 rfl (lv_at hl 0 rfl) ?_
        refine lv_iload_n (pc := 147) hx hb dL_law_147 rfl (lv_at hl 3 rfl) ?_
        refine lv_iconst (pc := 148) (v := 2) hx hb dL_law_148 (by decide) ?_
        refine lv_iadd (pc := 149) hx hb dL_law_149 ?_
        refine va_sld (pc := 150) hx hb hXx hbl hbA hS v2 dL_law_150 ?_
        refine lv_aload_n (pc := 151) hx hb dL_law_151 rfl (lv_at hl 0 rfl) ?_
        refine lv_iload_n (pc := 152) hx hb dL_law_152 rfl (lv_at hl 3 rfl) ?_
        refine lv_iconst (pc := 153) (v := 3) hx hb dL_law_153 (by decide) ?_
        refine lv_iadd (pc := 154) hx hb dL_law_154 ?_
        refine va_sld (pc := 155) hx hb hXx hbl hbA hS v3 dL_law_155 ?_
        have HH := pw_load (sg := sg) hR (xs (nI i + 1).toNatClampNeg) (xs (nI i + 2).toNatClampNeg) (xs (nI i + 3).toNatClampNeg)
        obtain ⟨g1, g2, g3, hR⟩ := HH
        refine wk_ci (wk_rV (pc := 156) (As := [.int (xs (nI i + 1).toNatClampNeg), .int (xs (nI i + 2).toNatClampNeg), .int (xs (nI i + 3).toNatClampNeg)]) (rest := []) X hH hS hz (sc_0 hSc) rfl ok_X4_load (mk_X4_load (l := l) (P := P) hSc sg (xs (nI i + 1).toNatClampNeg) (xs (nI i + 2).toNatClampNeg) (xs (nI i + 3).toNatClampNeg) g1) ml_L_21 ⟨by decide, by decide, by decide, by decide⟩ rfl hl.1 rfl (Nat.le_of_ble_eq_true rfl) dL_law_156) hS (fun H locs hH hS => ?_)
        refine lv_aload_n (pc := 159) hx hb dL_law_159 rfl (lv_at hl 2 rfl) ?_
        refine lv_aload_n (pc := 160) hx hb dL_law_160 rfl (lv_at hl 0 rfl) ?_
        refine lv_iload_n (pc := 161) hx hb dL_law_161 rfl (lv_at hl 3 rfl) ?_
        refine lv_iconst (pc := 162) (v := 1) hx hb dL_law_162 (by decide) ?_
        refine lv_iadd (pc := 163) hx hb dL_law_163 ?_
        refine va_sld (pc := 164) hx hb hXx hbl hbA hS v1 dL_law_164 ?_
        refine lv_aload_n (pc := 165) hx hb dL_law_165 rfl (lv_at hl 0 rfl) ?_
        refine lv_iload_n (pc := 166) hx hb dL_law_166 rfl (lv_at hl 3 rfl) ?_
        refine lv_iconst (pc := 167) (v := 2) hx hb dL_law_167 (by decide) ?_
        refine lv_iadd (pc := 168) hx hb dL_law_168 ?_
        refine va_sld (pc := 169) hx hb hXx hbl hbA hS v2 dL_law_169 ?_
        refine lv_aload_n (pc := 170) hx hb dL_law_170 rfl (lv_at hl 0 rfl) ?_
        refine lv_iload_n (pc := 171) hx hb dL_law_171 rfl (lv_at hl 3 rfl) ?_
        refine lv_iconst (pc := 172) (v := 3) hx hb dL_law_172 (by decide) ?_
        refine lv_iadd (pc := 173) hx hb dL_law_173 ?_
        refine va_sld (pc := 174) hx hb hXx hbl hbA hS v3 dL_law_174 ?_
        refine wk_ci (wk_rV (pc := 175) (As := [.int (xs (nI i + 1).toNatClampNeg), .int (xs (nI i + 2).toNatClampNeg), .int (xs (nI i + 3).toNatClampNeg)]) (rest := [.int (mr_X4_load P sg (xs (nI i + 1).toNatClampNeg) (xs (nI i + 2).toNatClampNeg) (xs (nI i + 3).toNatClampNeg))]) X hH hS hz (rf_20 hRf) rfl ok_X5_load (mk_X5_load (l := l) (P := P) hRf (ms_X4_load P sg (xs (nI i + 1).toNatClampNeg) (xs (nI i + 2).toNatClampNeg) (xs (nI i + 3).toNatClampNeg)) (xs (nI i + 1).toNatClampNeg) (xs (nI i + 2).toNatClampNeg) (xs (nI i + 3).toNatClampNeg) g2) ml_L_25 ⟨by decide, by decide, by decide, by decide⟩ rfl hl.1 rfl (Nat.le_of_ble_eq_true rfl) dL_law_175) hS (fun H locs hH hS => ?_)
        refine lv_icmp_eq (pc := 178) (tgt := 463) hx hb dL_law_178 (by decide) (fun _ => ?_) (fun h => absurd g3 h)
        exact next _ ls H locs hR hl hH hS
      · skip
        by_cases w1 : w = 1
        · refine wk_tin (pc := 82) (off := 101) (tgt := 183) X w1 dL_law_82 (by decide) (by decide) (by decide) (by decide) ?_
          refine lv_aload_n (pc := 183) hx hb dL_law_183 rfl (lv_at hl 1 rfl) ?_
          refine lv_aload_n (pc := 184) hx hb dL_law_184 rfl (lv_at hl 0 rfl) ?_
          refine lv_iload_n (pc := 185) hx hb dL_law_185 rfl (lv_at hl 3 rfl) ?_
          refine lv_iconst (pc := 186) (v := 1) hx hb dL_law_186 (by decide) ?_
          refine lv_iadd (pc := 187) hx hb dL_law_187 ?_
          refine va_sld (pc := 188) hx hb hXx hbl hbA hS v1 dL_law_188 ?_
          refine lv_aload_n (pc := 189) hx hb dL_law_189 rfl (lv_at hl 0 rfl) ?_
          refine lv_iload_n (pc := 190) hx hb dL_law_190 rfl (lv_at hl 3 rfl) ?_
          refine lv_iconst (pc := 191) (v := 2) hx hb dL_law_191 (by decide) ?_
          refine lv_iadd (pc := 192) hx hb dL_law_192 ?_
          refine va_sld (pc := 193) hx hb hXx hbl hbA hS v2 dL_law_193 ?_
          have HH := pw_poke (sg := sg) hR (xs (nI i + 1).toNatClampNeg) (xs (nI i + 2).toNatClampNeg)
          obtain ⟨g1, g2, g3, hR⟩ := HH
          refine wk_ci (wk_rV (pc := 194) (As := [.int (xs (nI i + 1).toNatClampNeg), .int (xs (nI i + 2).toNatClampNeg)]) (rest := []) X hH hS hz (sc_0 hSc) rfl ok_X4_poke (mk_X4_poke (l := l) (P := P) hSc sg (xs (nI i + 1).toNatClampNeg) (xs (nI i + 2).toNatClampNeg) g1) ml_L_26 ⟨by decide, by decide, by decide, by decide⟩ rfl hl.1 rfl (Nat.le_of_ble_eq_true rfl) dL_law_194) hS (fun H locs hH hS => ?_)
          refine lv_aload_n (pc := 197) hx hb dL_law_197 rfl (lv_at hl 2 rfl) ?_
          refine lv_aload_n (pc := 198) hx hb dL_law_198 rfl (lv_at hl 0 rfl) ?_
          refine lv_iload_n (pc := 199) hx hb dL_law_199 rfl (lv_at hl 3 rfl) ?_
          refine lv_iconst (pc := 200) (v := 1) hx hb dL_law_200 (by decide) ?_
          refine lv_iadd (pc := 201) hx hb dL_law_201 ?_
          refine va_sld (pc := 202) hx hb hXx hbl hbA hS v1 dL_law_202 ?_
          refine lv_aload_n (pc := 203) hx hb dL_law_203 rfl (lv_at hl 0 rfl) ?_
          refine lv_iload_n (pc := 204) hx hb dL_law_204 rfl (lv_at hl 3 rfl) ?_
          refine lv_iconst (pc := 205) (v := 2) hx hb dL_law_205 (by decide) ?_
          refine lv_iadd (pc := 206) hx hb dL_law_206 ?_
          refine va_sld (pc := 207) hx hb hXx hbl hbA hS v2 dL_law_207 ?_
          refine wk_ci (wk_rV (pc := 208) (As := [.int (xs (nI i + 1).toNatClampNeg), .int (xs (nI i + 2).toNatClampNeg)]) (rest := [.int (mr_X4_poke P sg (xs (nI i + 1).toNatClampNeg) (xs (nI i + 2).toNatClampNeg))]) X hH hS hz (rf_20 hRf) rfl ok_X5_poke (mk_X5_poke (l := l) (P := P) hRf (ms_X4_poke P sg (xs (nI i + 1).toNatClampNeg) (xs (nI i + 2).toNatClampNeg)) (xs (nI i + 1).toNatClampNeg) (xs (nI i + 2).toNatClampNeg) g2) ml_L_30 ⟨by decide, by decide, by decide, by decide⟩ rfl hl.1 rfl (Nat.le_of_ble_eq_true rfl) dL_law_208) hS (fun H locs hH hS => ?_)
          refine lv_icmp_eq (pc := 211) (tgt := 463) hx hb dL_law_211 (by decide) (fun _ => ?_) (fun h => absurd g3 h)
          exact next _ ls H locs hR hl hH hS
        · skip
          by_cases w2 : w = 2
          · refine wk_tin (pc := 82) (off := 134) (tgt := 216) X w2 dL_law_82 (by decide) (by decide) (by decide) (by decide) ?_
            refine lv_aload_n (pc := 216) hx hb dL_law_216 rfl (lv_at hl 1 rfl) ?_
            refine lv_aload_n (pc := 217) hx hb dL_law_217 rfl (lv_at hl 0 rfl) ?_
            refine lv_iload_n (pc := 218) hx hb dL_law_218 rfl (lv_at hl 3 rfl) ?_
            refine lv_iconst (pc := 219) (v := 1) hx hb dL_law_219 (by decide) ?_
            refine lv_iadd (pc := 220) hx hb dL_law_220 ?_
            refine va_sld (pc := 221) hx hb hXx hbl hbA hS v1 dL_law_221 ?_
            have HH := pw_step (sg := sg) hR (xs (nI i + 1).toNatClampNeg)
            obtain ⟨g1, g2, g3, hR⟩ := HH
            refine wk_ci (wk_rV (pc := 222) (As := [.int (xs (nI i + 1).toNatClampNeg)]) (rest := []) X hH hS hz (sc_0 hSc) rfl ok_X4_step (mk_X4_step (l := l) (P := P) hSc sg (xs (nI i + 1).toNatClampNeg) g1) ml_L_31 ⟨by decide, by decide, by decide, by decide⟩ rfl hl.1 rfl (Nat.le_of_ble_eq_true rfl) dL_law_222) hS (fun H locs hH hS => ?_)
            refine lv_aload_n (pc := 225) hx hb dL_law_225 rfl (lv_at hl 2 rfl) ?_
            refine lv_aload_n (pc := 226) hx hb dL_law_226 rfl (lv_at hl 0 rfl) ?_
            refine lv_iload_n (pc := 227) hx hb dL_law_227 rfl (lv_at hl 3 rfl) ?_
            refine lv_iconst (pc := 228) (v := 1) hx hb dL_law_228 (by decide) ?_
            refine lv_iadd (pc := 229) hx hb dL_law_229 ?_
            refine va_sld (pc := 230) hx hb hXx hbl hbA hS v1 dL_law_230 ?_
            refine wk_ci (wk_rV (pc := 231) (As := [.int (xs (nI i + 1).toNatClampNeg)]) (rest := [.int (mr_X4_step P sg (xs (nI i + 1).toNatClampNeg))]) X hH hS hz (rf_20 hRf) rfl ok_X5_step (mk_X5_step (l := l) (P := P) hRf (ms_X4_step P sg (xs (nI i + 1).toNatClampNeg)) (xs (nI i + 1).toNatClampNeg) g2) ml_L_35 ⟨by decide, by decide, by decide, by decide⟩ rfl hl.1 rfl (Nat.le_of_ble_eq_true rfl) dL_law_231) hS (fun H locs hH hS => ?_)
            refine lv_icmp_eq (pc := 234) (tgt := 463) hx hb dL_law_234 (by decide) (fun _ => ?_) (fun h => absurd g3 h)
            exact next _ ls H locs hR hl hH hS
          · skip
            by_cases w3 : w = 3
            · refine wk_tin (pc := 82) (off := 157) (tgt := 239) X w3 dL_law_82 (by decide) (by decide) (by decide) (by decide) ?_
              refine lv_aload_n (pc := 239) hx hb dL_law_239 rfl (lv_at hl 1 rfl) ?_
              have HH := pw_bus (sg := sg) hR 
              obtain ⟨g1, g2, g3, hR⟩ := HH
              refine wk_ci (wk_rV (pc := 240) (As := []) (rest := []) X hH hS hz (sc_0 hSc) rfl ok_X4_bus (mk_X4_bus (l := l) (P := P) hSc sg  g1) ml_L_36 ⟨by decide, by decide, by decide, by decide⟩ rfl hl.1 rfl (Nat.le_of_ble_eq_true rfl) dL_law_240) hS (fun H locs hH hS => ?_)
              refine lv_aload_n (pc := 243) hx hb dL_law_243 rfl (lv_at hl 2 rfl) ?_
              refine wk_ci (wk_rV (pc := 244) (As := []) (rest := [.int (mr_X4_bus P sg )]) X hH hS hz (rf_20 hRf) rfl ok_X5_bus (mk_X5_bus (l := l) (P := P) hRf (ms_X4_bus P sg )  g2) ml_L_40 ⟨by decide, by decide, by decide, by decide⟩ rfl hl.1 rfl (Nat.le_of_ble_eq_true rfl) dL_law_244) hS (fun H locs hH hS => ?_)
              refine lv_icmp_eq (pc := 247) (tgt := 463) hx hb dL_law_247 (by decide) (fun _ => ?_) (fun h => absurd g3 h)
              exact next _ ls H locs hR hl hH hS
            · skip
              by_cases w4 : w = 4
              · refine wk_tin (pc := 82) (off := 170) (tgt := 252) X w4 dL_law_82 (by decide) (by decide) (by decide) (by decide) ?_
                refine lv_aload_n (pc := 252) hx hb dL_law_252 rfl (lv_at hl 1 rfl) ?_
                refine lv_aload_n (pc := 253) hx hb dL_law_253 rfl (lv_at hl 0 rfl) ?_
                refine lv_iload_n (pc := 254) hx hb dL_law_254 rfl (lv_at hl 3 rfl) ?_
                refine lv_iconst (pc := 255) (v := 1) hx hb dL_law_255 (by decide) ?_
                refine lv_iadd (pc := 256) hx hb dL_law_256 ?_
                refine va_sld (pc := 257) hx hb hXx hbl hbA hS v1 dL_law_257 ?_
                refine lv_aload_n (pc := 258) hx hb dL_law_258 rfl (lv_at hl 0 rfl) ?_
                refine lv_iload_n (pc := 259) hx hb dL_law_259 rfl (lv_at hl 3 rfl) ?_
                refine lv_iconst (pc := 260) (v := 2) hx hb dL_law_260 (by decide) ?_
                refine lv_iadd (pc := 261) hx hb dL_law_261 ?_
                refine va_sld (pc := 262) hx hb hXx hbl hbA hS v2 dL_law_262 ?_
                have HH := pw_evict (sg := sg) hR (xs (nI i + 1).toNatClampNeg) (xs (nI i + 2).toNatClampNeg)
                obtain ⟨g1, g2, g3, hR⟩ := HH
                refine wk_ci (wk_rV (pc := 263) (As := [.int (xs (nI i + 1).toNatClampNeg), .int (xs (nI i + 2).toNatClampNeg)]) (rest := []) X hH hS hz (sc_0 hSc) rfl ok_X4_evict (mk_X4_evict (l := l) (P := P) hSc sg (xs (nI i + 1).toNatClampNeg) (xs (nI i + 2).toNatClampNeg) g1) ml_L_41 ⟨by decide, by decide, by decide, by decide⟩ rfl hl.1 rfl (Nat.le_of_ble_eq_true rfl) dL_law_263) hS (fun H locs hH hS => ?_)
                refine lv_aload_n (pc := 266) hx hb dL_law_266 rfl (lv_at hl 2 rfl) ?_
                refine lv_aload_n (pc := 267) hx hb dL_law_267 rfl (lv_at hl 0 rfl) ?_
                refine lv_iload_n (pc := 268) hx hb dL_law_268 rfl (lv_at hl 3 rfl) ?_
                refine lv_iconst (pc := 269) (v := 1) hx hb dL_law_269 (by decide) ?_
                refine lv_iadd (pc := 270) hx hb dL_law_270 ?_
                refine va_sld (pc := 271) hx hb hXx hbl hbA hS v1 dL_law_271 ?_
                refine lv_aload_n (pc := 272) hx hb dL_law_272 rfl (lv_at hl 0 rfl) ?_
                refine lv_iload_n (pc := 273) hx hb dL_law_273 rfl (lv_at hl 3 rfl) ?_
                refine lv_iconst (pc := 274) (v := 2) hx hb dL_law_274 (by decide) ?_
                refine lv_iadd (pc := 275) hx hb dL_law_275 ?_
                refine va_sld (pc := 276) hx hb hXx hbl hbA hS v2 dL_law_276 ?_
                refine wk_ci (wk_rV (pc := 277) (As := [.int (xs (nI i + 1).toNatClampNeg), .int (xs (nI i + 2).toNatClampNeg)]) (rest := [.int (mr_X4_evict P sg (xs (nI i + 1).toNatClampNeg) (xs (nI i + 2).toNatClampNeg))]) X hH hS hz (rf_20 hRf) rfl ok_X5_evict (mk_X5_evict (l := l) (P := P) hRf (ms_X4_evict P sg (xs (nI i + 1).toNatClampNeg) (xs (nI i + 2).toNatClampNeg)) (xs (nI i + 1).toNatClampNeg) (xs (nI i + 2).toNatClampNeg) g2) ml_L_45 ⟨by decide, by decide, by decide, by decide⟩ rfl hl.1 rfl (Nat.le_of_ble_eq_true rfl) dL_law_277) hS (fun H locs hH hS => ?_)
                refine lv_icmp_eq (pc := 280) (tgt := 463) hx hb dL_law_280 (by decide) (fun _ => ?_) (fun h => absurd g3 h)
                exact next _ ls H locs hR hl hH hS
              · skip
                by_cases w5 : w = 5
                · refine wk_tin (pc := 82) (off := 203) (tgt := 285) X w5 dL_law_82 (by decide) (by decide) (by decide) (by decide) ?_
                  refine lv_aload_n (pc := 285) hx hb dL_law_285 rfl (lv_at hl 1 rfl) ?_
                  refine lv_aload_n (pc := 286) hx hb dL_law_286 rfl (lv_at hl 0 rfl) ?_
                  refine lv_iload_n (pc := 287) hx hb dL_law_287 rfl (lv_at hl 3 rfl) ?_
                  refine lv_iconst (pc := 288) (v := 1) hx hb dL_law_288 (by decide) ?_
                  refine lv_iadd (pc := 289) hx hb dL_law_289 ?_
                  refine va_sld (pc := 290) hx hb hXx hbl hbA hS v1 dL_law_290 ?_
                  refine lv_aload_n (pc := 291) hx hb dL_law_291 rfl (lv_at hl 0 rfl) ?_
                  refine lv_iload_n (pc := 292) hx hb dL_law_292 rfl (lv_at hl 3 rfl) ?_
                  refine lv_iconst (pc := 293) (v := 2) hx hb dL_law_293 (by decide) ?_
                  refine lv_iadd (pc := 294) hx hb dL_law_294 ?_
                  refine va_sld (pc := 295) hx hb hXx hbl hbA hS v2 dL_law_295 ?_
                  have HH := pw_register (sg := sg) hR (xs (nI i + 1).toNatClampNeg) (xs (nI i + 2).toNatClampNeg)
                  obtain ⟨g1, g2, g3⟩ := HH
                  refine wk_ci (wk_rV (pc := 296) (As := [.int (xs (nI i + 1).toNatClampNeg), .int (xs (nI i + 2).toNatClampNeg)]) (rest := []) X hH hS hz (sc_0 hSc) rfl ok_X4_register (mk_X4_register (l := l) (P := P) hSc sg (xs (nI i + 1).toNatClampNeg) (xs (nI i + 2).toNatClampNeg) g1) ml_L_46 ⟨by decide, by decide, by decide, by decide⟩ rfl hl.1 rfl (Nat.le_of_ble_eq_true rfl) dL_law_296) hS (fun H locs hH hS => ?_)
                  refine lv_aload_n (pc := 299) hx hb dL_law_299 rfl (lv_at hl 2 rfl) ?_
                  refine lv_aload_n (pc := 300) hx hb dL_law_300 rfl (lv_at hl 0 rfl) ?_
                  refine lv_iload_n (pc := 301) hx hb dL_law_301 rfl (lv_at hl 3 rfl) ?_
                  refine lv_iconst (pc := 302) (v := 1) hx hb dL_law_302 (by decide) ?_
                  refine lv_iadd (pc := 303) hx hb dL_law_303 ?_
                  refine va_sld (pc := 304) hx hb hXx hbl hbA hS v1 dL_law_304 ?_
                  refine lv_aload_n (pc := 305) hx hb dL_law_305 rfl (lv_at hl 0 rfl) ?_
                  refine lv_iload_n (pc := 306) hx hb dL_law_306 rfl (lv_at hl 3 rfl) ?_
                  refine lv_iconst (pc := 307) (v := 2) hx hb dL_law_307 (by decide) ?_
                  refine lv_iadd (pc := 308) hx hb dL_law_308 ?_
                  refine va_sld (pc := 309) hx hb hXx hbl hbA hS v2 dL_law_309 ?_
                  refine wk_ci (wk_rV (pc := 310) (As := [.int (xs (nI i + 1).toNatClampNeg), .int (xs (nI i + 2).toNatClampNeg)]) (rest := [.int (mr_X4_register P sg (xs (nI i + 1).toNatClampNeg) (xs (nI i + 2).toNatClampNeg))]) X hH hS hz (rf_20 hRf) rfl ok_X5_register (mk_X5_register (l := l) (P := P) hRf sg (xs (nI i + 1).toNatClampNeg) (xs (nI i + 2).toNatClampNeg) g2) ml_L_49 ⟨by decide, by decide, by decide, by decide⟩ rfl hl.1 rfl (Nat.le_of_ble_eq_true rfl) dL_law_310) hS (fun H locs hH hS => ?_)
                  refine lv_icmp_eq (pc := 313) (tgt := 463) hx hb dL_law_313 (by decide) (fun _ => ?_) (fun h => absurd g3 h)
                  exact next _ ls H locs hR hl hH hS
                · skip
                  by_cases w6 : w = 6
                  · refine wk_tin (pc := 82) (off := 236) (tgt := 318) X w6 dL_law_82 (by decide) (by decide) (by decide) (by decide) ?_
                    refine lv_aload_n (pc := 318) hx hb dL_law_318 rfl (lv_at hl 1 rfl) ?_
                    refine lv_aload_n (pc := 319) hx hb dL_law_319 rfl (lv_at hl 0 rfl) ?_
                    refine lv_iload_n (pc := 320) hx hb dL_law_320 rfl (lv_at hl 3 rfl) ?_
                    refine lv_iconst (pc := 321) (v := 1) hx hb dL_law_321 (by decide) ?_
                    refine lv_iadd (pc := 322) hx hb dL_law_322 ?_
                    refine va_sld (pc := 323) hx hb hXx hbl hbA hS v1 dL_law_323 ?_
                    refine lv_aload_n (pc := 324) hx hb dL_law_324 rfl (lv_at hl 0 rfl) ?_
                    refine lv_iload_n (pc := 325) hx hb dL_law_325 rfl (lv_at hl 3 rfl) ?_
                    refine lv_iconst (pc := 326) (v := 2) hx hb dL_law_326 (by decide) ?_
                    refine lv_iadd (pc := 327) hx hb dL_law_327 ?_
                    refine va_sld (pc := 328) hx hb hXx hbl hbA hS v2 dL_law_328 ?_
                    have HH := pw_cpu (sg := sg) hR (xs (nI i + 1).toNatClampNeg) (xs (nI i + 2).toNatClampNeg)
                    obtain ⟨g1, g2, g3⟩ := HH
                    refine wk_ci (wk_rV (pc := 329) (As := [.int (xs (nI i + 1).toNatClampNeg), .int (xs (nI i + 2).toNatClampNeg)]) (rest := []) X hH hS hz (sc_0 hSc) rfl ok_X4_cpu (mk_X4_cpu (l := l) (P := P) hSc sg (xs (nI i + 1).toNatClampNeg) (xs (nI i + 2).toNatClampNeg) g1) ml_L_50 ⟨by decide, by decide, by decide, by decide⟩ rfl hl.1 rfl (Nat.le_of_ble_eq_true rfl) dL_law_329) hS (fun H locs hH hS => ?_)
                    refine lv_aload_n (pc := 332) hx hb dL_law_332 rfl (lv_at hl 2 rfl) ?_
                    refine lv_aload_n (pc := 333) hx hb dL_law_333 rfl (lv_at hl 0 rfl) ?_
                    refine lv_iload_n (pc := 334) hx hb dL_law_334 rfl (lv_at hl 3 rfl) ?_
                    refine lv_iconst (pc := 335) (v := 1) hx hb dL_law_335 (by decide) ?_
                    refine lv_iadd (pc := 336) hx hb dL_law_336 ?_
                    refine va_sld (pc := 337) hx hb hXx hbl hbA hS v1 dL_law_337 ?_
                    refine lv_aload_n (pc := 338) hx hb dL_law_338 rfl (lv_at hl 0 rfl) ?_
                    refine lv_iload_n (pc := 339) hx hb dL_law_339 rfl (lv_at hl 3 rfl) ?_
                    refine lv_iconst (pc := 340) (v := 2) hx hb dL_law_340 (by decide) ?_
                    refine lv_iadd (pc := 341) hx hb dL_law_341 ?_
                    refine va_sld (pc := 342) hx hb hXx hbl hbA hS v2 dL_law_342 ?_
                    refine wk_ci (wk_rV (pc := 343) (As := [.int (xs (nI i + 1).toNatClampNeg), .int (xs (nI i + 2).toNatClampNeg)]) (rest := [.int (mr_X4_cpu P sg (xs (nI i + 1).toNatClampNeg) (xs (nI i + 2).toNatClampNeg))]) X hH hS hz (rf_20 hRf) rfl ok_X5_cpu (mk_X5_cpu (l := l) (P := P) hRf sg (xs (nI i + 1).toNatClampNeg) (xs (nI i + 2).toNatClampNeg) g2) ml_L_53 ⟨by decide, by decide, by decide, by decide⟩ rfl hl.1 rfl (Nat.le_of_ble_eq_true rfl) dL_law_343) hS (fun H locs hH hS => ?_)
                    refine lv_icmp_eq (pc := 346) (tgt := 463) hx hb dL_law_346 (by decide) (fun _ => ?_) (fun h => absurd g3 h)
                    exact next _ ls H locs hR hl hH hS
                  · skip
                    by_cases w7 : w = 7
                    · refine wk_tin (pc := 82) (off := 269) (tgt := 351) X w7 dL_law_82 (by decide) (by decide) (by decide) (by decide) ?_
                      refine lv_aload_n (pc := 351) hx hb dL_law_351 rfl (lv_at hl 1 rfl) ?_
                      refine lv_aload_n (pc := 352) hx hb dL_law_352 rfl (lv_at hl 0 rfl) ?_
                      refine lv_iload_n (pc := 353) hx hb dL_law_353 rfl (lv_at hl 3 rfl) ?_
                      refine lv_iconst (pc := 354) (v := 1) hx hb dL_law_354 (by decide) ?_
                      refine lv_iadd (pc := 355) hx hb dL_law_355 ?_
                      refine va_sld (pc := 356) hx hb hXx hbl hbA hS v1 dL_law_356 ?_
                      refine lv_aload_n (pc := 357) hx hb dL_law_357 rfl (lv_at hl 0 rfl) ?_
                      refine lv_iload_n (pc := 358) hx hb dL_law_358 rfl (lv_at hl 3 rfl) ?_
                      refine lv_iconst (pc := 359) (v := 2) hx hb dL_law_359 (by decide) ?_
                      refine lv_iadd (pc := 360) hx hb dL_law_360 ?_
                      refine va_sld (pc := 361) hx hb hXx hbl hbA hS v2 dL_law_361 ?_
                      refine lv_aload_n (pc := 362) hx hb dL_law_362 rfl (lv_at hl 0 rfl) ?_
                      refine lv_iload_n (pc := 363) hx hb dL_law_363 rfl (lv_at hl 3 rfl) ?_
                      refine lv_iconst (pc := 364) (v := 3) hx hb dL_law_364 (by decide) ?_
                      refine lv_iadd (pc := 365) hx hb dL_law_365 ?_
                      refine va_sld (pc := 366) hx hb hXx hbl hbA hS v3 dL_law_366 ?_
                      have HH := pw_slot (sg := sg) hR (xs (nI i + 1).toNatClampNeg) (xs (nI i + 2).toNatClampNeg) (xs (nI i + 3).toNatClampNeg)
                      obtain ⟨g1, g2, g3⟩ := HH
                      refine wk_ci (wk_rV (pc := 367) (As := [.int (xs (nI i + 1).toNatClampNeg), .int (xs (nI i + 2).toNatClampNeg), .int (xs (nI i + 3).toNatClampNeg)]) (rest := []) X hH hS hz (sc_0 hSc) rfl ok_X4_slot (mk_X4_slot (l := l) (P := P) hSc sg (xs (nI i + 1).toNatClampNeg) (xs (nI i + 2).toNatClampNeg) (xs (nI i + 3).toNatClampNeg) g1) ml_L_54 ⟨by decide, by decide, by decide, by decide⟩ rfl hl.1 rfl (Nat.le_of_ble_eq_true rfl) dL_law_367) hS (fun H locs hH hS => ?_)
                      refine lv_aload_n (pc := 370) hx hb dL_law_370 rfl (lv_at hl 2 rfl) ?_
                      refine lv_aload_n (pc := 371) hx hb dL_law_371 rfl (lv_at hl 0 rfl) ?_
                      refine lv_iload_n (pc := 372) hx hb dL_law_372 rfl (lv_at hl 3 rfl) ?_
                      refine lv_iconst (pc := 373) (v := 1) hx hb dL_law_373 (by decide) ?_
                      refine lv_iadd (pc := 374) hx hb dL_law_374 ?_
                      refine va_sld (pc := 375) hx hb hXx hbl hbA hS v1 dL_law_375 ?_
                      refine lv_aload_n (pc := 376) hx hb dL_law_376 rfl (lv_at hl 0 rfl) ?_
                      refine lv_iload_n (pc := 377) hx hb dL_law_377 rfl (lv_at hl 3 rfl) ?_
                      refine lv_iconst (pc := 378) (v := 2) hx hb dL_law_378 (by decide) ?_
                      refine lv_iadd (pc := 379) hx hb dL_law_379 ?_
                      refine va_sld (pc := 380) hx hb hXx hbl hbA hS v2 dL_law_380 ?_
                      refine lv_aload_n (pc := 381) hx hb dL_law_381 rfl (lv_at hl 0 rfl) ?_
                      refine lv_iload_n (pc := 382) hx hb dL_law_382 rfl (lv_at hl 3 rfl) ?_
                      refine lv_iconst (pc := 383) (v := 3) hx hb dL_law_383 (by decide) ?_
                      refine lv_iadd (pc := 384) hx hb dL_law_384 ?_
                      refine va_sld (pc := 385) hx hb hXx hbl hbA hS v3 dL_law_385 ?_
                      refine wk_ci (wk_rV (pc := 386) (As := [.int (xs (nI i + 1).toNatClampNeg), .int (xs (nI i + 2).toNatClampNeg), .int (xs (nI i + 3).toNatClampNeg)]) (rest := [.int (mr_X4_slot P sg (xs (nI i + 1).toNatClampNeg) (xs (nI i + 2).toNatClampNeg) (xs (nI i + 3).toNatClampNeg))]) X hH hS hz (rf_20 hRf) rfl ok_X5_slot (mk_X5_slot (l := l) (P := P) hRf sg (xs (nI i + 1).toNatClampNeg) (xs (nI i + 2).toNatClampNeg) (xs (nI i + 3).toNatClampNeg) g2) ml_L_58 ⟨by decide, by decide, by decide, by decide⟩ rfl hl.1 rfl (Nat.le_of_ble_eq_true rfl) dL_law_386) hS (fun H locs hH hS => ?_)
                      refine lv_icmp_eq (pc := 389) (tgt := 463) hx hb dL_law_389 (by decide) (fun _ => ?_) (fun h => absurd g3 h)
                      exact next _ ls H locs hR hl hH hS
                    · skip
                      by_cases w8 : w = 8
                      · refine wk_tin (pc := 82) (off := 312) (tgt := 394) X w8 dL_law_82 (by decide) (by decide) (by decide) (by decide) ?_
                        refine lv_aload_n (pc := 394) hx hb dL_law_394 rfl (lv_at hl 1 rfl) ?_
                        refine lv_aload_n (pc := 395) hx hb dL_law_395 rfl (lv_at hl 0 rfl) ?_
                        refine lv_iload_n (pc := 396) hx hb dL_law_396 rfl (lv_at hl 3 rfl) ?_
                        refine lv_iconst (pc := 397) (v := 1) hx hb dL_law_397 (by decide) ?_
                        refine lv_iadd (pc := 398) hx hb dL_law_398 ?_
                        refine va_sld (pc := 399) hx hb hXx hbl hbA hS v1 dL_law_399 ?_
                        have HH := pw_peek (sg := sg) hR (xs (nI i + 1).toNatClampNeg)
                        obtain ⟨g1, g2, g3⟩ := HH
                        refine wk_ci (wk_rV (pc := 400) (As := [.int (xs (nI i + 1).toNatClampNeg)]) (rest := []) X hH hS hz (sc_0 hSc) rfl ok_X4_peek (mk_X4_peek (l := l) (P := P) hSc sg (xs (nI i + 1).toNatClampNeg) g1) ml_L_59 ⟨by decide, by decide, by decide, by decide⟩ rfl hl.1 rfl (Nat.le_of_ble_eq_true rfl) dL_law_400) hS (fun H locs hH hS => ?_)
                        refine lv_aload_n (pc := 403) hx hb dL_law_403 rfl (lv_at hl 2 rfl) ?_
                        refine lv_aload_n (pc := 404) hx hb dL_law_404 rfl (lv_at hl 0 rfl) ?_
                        refine lv_iload_n (pc := 405) hx hb dL_law_405 rfl (lv_at hl 3 rfl) ?_
                        refine lv_iconst (pc := 406) (v := 1) hx hb dL_law_406 (by decide) ?_
                        refine lv_iadd (pc := 407) hx hb dL_law_407 ?_
                        refine va_sld (pc := 408) hx hb hXx hbl hbA hS v1 dL_law_408 ?_
                        refine wk_ci (wk_rV (pc := 409) (As := [.int (xs (nI i + 1).toNatClampNeg)]) (rest := [.int (mr_X4_peek P sg (xs (nI i + 1).toNatClampNeg))]) X hH hS hz (rf_20 hRf) rfl ok_X5_peek (mk_X5_peek (l := l) (P := P) hRf sg (xs (nI i + 1).toNatClampNeg) g2) ml_L_62 ⟨by decide, by decide, by decide, by decide⟩ rfl hl.1 rfl (Nat.le_of_ble_eq_true rfl) dL_law_409) hS (fun H locs hH hS => ?_)
                        refine lv_icmp_eq (pc := 412) (tgt := 463) hx hb dL_law_412 (by decide) (fun _ => ?_) (fun h => absurd g3 h)
                        exact next _ ls H locs hR hl hH hS
                      · skip
                        by_cases w9 : w = 9
                        · refine wk_tin (pc := 82) (off := 335) (tgt := 417) X w9 dL_law_82 (by decide) (by decide) (by decide) (by decide) ?_
                          refine lv_aload_n (pc := 417) hx hb dL_law_417 rfl (lv_at hl 1 rfl) ?_
                          refine lv_aload_n (pc := 418) hx hb dL_law_418 rfl (lv_at hl 0 rfl) ?_
                          refine lv_iload_n (pc := 419) hx hb dL_law_419 rfl (lv_at hl 3 rfl) ?_
                          refine lv_iconst (pc := 420) (v := 1) hx hb dL_law_420 (by decide) ?_
                          refine lv_iadd (pc := 421) hx hb dL_law_421 ?_
                          refine va_sld (pc := 422) hx hb hXx hbl hbA hS v1 dL_law_422 ?_
                          have HH := pw_memory (sg := sg) hR (xs (nI i + 1).toNatClampNeg)
                          obtain ⟨g1, g2, g3⟩ := HH
                          refine wk_ci (wk_rV (pc := 423) (As := [.int (xs (nI i + 1).toNatClampNeg)]) (rest := []) X hH hS hz (sc_0 hSc) rfl ok_X4_memory (mk_X4_memory (l := l) (P := P) hSc sg (xs (nI i + 1).toNatClampNeg) g1) ml_L_63 ⟨by decide, by decide, by decide, by decide⟩ rfl hl.1 rfl (Nat.le_of_ble_eq_true rfl) dL_law_423) hS (fun H locs hH hS => ?_)
                          refine lv_aload_n (pc := 426) hx hb dL_law_426 rfl (lv_at hl 2 rfl) ?_
                          refine lv_aload_n (pc := 427) hx hb dL_law_427 rfl (lv_at hl 0 rfl) ?_
                          refine lv_iload_n (pc := 428) hx hb dL_law_428 rfl (lv_at hl 3 rfl) ?_
                          refine lv_iconst (pc := 429) (v := 1) hx hb dL_law_429 (by decide) ?_
                          refine lv_iadd (pc := 430) hx hb dL_law_430 ?_
                          refine va_sld (pc := 431) hx hb hXx hbl hbA hS v1 dL_law_431 ?_
                          refine wk_ci (wk_rV (pc := 432) (As := [.int (xs (nI i + 1).toNatClampNeg)]) (rest := [.int (mr_X4_memory P sg (xs (nI i + 1).toNatClampNeg))]) X hH hS hz (rf_20 hRf) rfl ok_X5_memory (mk_X5_memory (l := l) (P := P) hRf sg (xs (nI i + 1).toNatClampNeg) g2) ml_L_66 ⟨by decide, by decide, by decide, by decide⟩ rfl hl.1 rfl (Nat.le_of_ble_eq_true rfl) dL_law_432) hS (fun H locs hH hS => ?_)
                          refine lv_icmp_eq (pc := 435) (tgt := 463) hx hb dL_law_435 (by decide) (fun _ => ?_) (fun h => absurd g3 h)
                          exact next _ ls H locs hR hl hH hS
                        · skip
                          by_cases w10 : w = 10
                          · refine wk_tin (pc := 82) (off := 358) (tgt := 440) X w10 dL_law_82 (by decide) (by decide) (by decide) (by decide) ?_
                            refine lv_aload_n (pc := 440) hx hb dL_law_440 rfl (lv_at hl 1 rfl) ?_
                            refine lv_aload_n (pc := 441) hx hb dL_law_441 rfl (lv_at hl 0 rfl) ?_
                            refine lv_iload_n (pc := 442) hx hb dL_law_442 rfl (lv_at hl 3 rfl) ?_
                            refine lv_iconst (pc := 443) (v := 1) hx hb dL_law_443 (by decide) ?_
                            refine lv_iadd (pc := 444) hx hb dL_law_444 ?_
                            refine va_sld (pc := 445) hx hb hXx hbl hbA hS v1 dL_law_445 ?_
                            have HH := pw_state (sg := sg) hR (xs (nI i + 1).toNatClampNeg)
                            obtain ⟨g1, g2, g3⟩ := HH
                            refine wk_ci (wk_rV (pc := 446) (As := [.int (xs (nI i + 1).toNatClampNeg)]) (rest := []) X hH hS hz (sc_0 hSc) rfl ok_X4_state (mk_X4_state (l := l) (P := P) hSc sg (xs (nI i + 1).toNatClampNeg) g1) ml_L_67 ⟨by decide, by decide, by decide, by decide⟩ rfl hl.1 rfl (Nat.le_of_ble_eq_true rfl) dL_law_446) hS (fun H locs hH hS => ?_)
                            refine lv_aload_n (pc := 449) hx hb dL_law_449 rfl (lv_at hl 2 rfl) ?_
                            refine lv_aload_n (pc := 450) hx hb dL_law_450 rfl (lv_at hl 0 rfl) ?_
                            refine lv_iload_n (pc := 451) hx hb dL_law_451 rfl (lv_at hl 3 rfl) ?_
                            refine lv_iconst (pc := 452) (v := 1) hx hb dL_law_452 (by decide) ?_
                            refine lv_iadd (pc := 453) hx hb dL_law_453 ?_
                            refine va_sld (pc := 454) hx hb hXx hbl hbA hS v1 dL_law_454 ?_
                            refine wk_ci (wk_rV (pc := 455) (As := [.int (xs (nI i + 1).toNatClampNeg)]) (rest := [.int (mr_X4_state P sg (xs (nI i + 1).toNatClampNeg))]) X hH hS hz (rf_20 hRf) rfl ok_X5_state (mk_X5_state (l := l) (P := P) hRf sg (xs (nI i + 1).toNatClampNeg) g2) ml_L_70 ⟨by decide, by decide, by decide, by decide⟩ rfl hl.1 rfl (Nat.le_of_ble_eq_true rfl) dL_law_455) hS (fun H locs hH hS => ?_)
                            refine lv_icmp_eq (pc := 458) (tgt := 463) hx hb dL_law_458 (by decide) (fun _ => ?_) (fun h => absurd g3 h)
                            exact next _ ls H locs hR hl hH hS
                          · skip
                            refine lv_tableOut (pc := 82) (tgt := 463) hx hb dL_law_82 (wk_tout (fun v h1 h2 hv => ?_)) (by decide) ?_
                            · have n0 := lv_neT w0 (show Int32.toInt 0 = 0 from by decide); have n1 := lv_neT w1 (show Int32.toInt 1 = 1 from by decide); have n2 := lv_neT w2 (show Int32.toInt 2 = 2 from by decide); have n3 := lv_neT w3 (show Int32.toInt 3 = 3 from by decide); have n4 := lv_neT w4 (show Int32.toInt 4 = 4 from by decide); have n5 := lv_neT w5 (show Int32.toInt 5 = 5 from by decide); have n6 := lv_neT w6 (show Int32.toInt 6 = 6 from by decide); have n7 := lv_neT w7 (show Int32.toInt 7 = 7 from by decide); have n8 := lv_neT w8 (show Int32.toInt 8 = 8 from by decide); have n9 := lv_neT w9 (show Int32.toInt 9 = 9 from by decide); have n10 := lv_neT w10 (show Int32.toInt 10 = 10 from by decide); omega
                            exact next _ ls H locs hR hl hH hS
