set_option maxRecDepth 100000 in
theorem jm_best (l : Launch) (g : jG) (hgt : Nat) {S : jS} {b : Nat} {ad : Nat → Nat} {Y : XS} {h k : Nat} {Q : Option Value → jS → Prop} (hW : WM S b ad Y) (hO : xOK Y) (hA : ∀ m, m < 48 → xV Y 24 m < 2 ^ 31) (hh8 : h < 8) (hh : 2 ≤ hgt)
    (kk : J l g mX10_receive hgt 0 0 Q 193 [(3, .int (oI (x_best Y h (xV Y 1 0)))), (2, .int (nI k)), (0, .ref b), (1, .int (nI h))] [] S 0 0) : J l g mX10_receive hgt 0 0 Q 123 [(2, .int (nI k)), (0, .ref b), (1, .int (nI h))] [] S 0 0 := by
  have h48 : xV Y 1 0 ≤ 48 := hO.many
  refine J_iconst (pc := 123) (v := (-1)) dX10_receive_123 (by decide) ?_
  refine J_istore_n (pc := 124) dX10_receive_124 rfl (by decide) ?_
  refine J_iconst (pc := 125) (v := nI 0) dX10_receive_125 (by decide) ?_
  refine J_istore (pc := 126) dX10_receive_126 (by decide) ?_
  have loop : ∀ i, i ≤ xV Y 1 0 → J l g mX10_receive hgt 0 0 Q 128 [(4, .int (nI i)), (3, .int (oI (x_best Y h i))), (2, .int (nI k)), (0, .ref b), (1, .int (nI h))] [] S 0 0 := by
    refine down _ ?_ ?_
    · refine J_iload (pc := 128) dX10_receive_128 rfl ?_
      refine J_aload_n (pc := 130) dX10_receive_130 rfl rfl ?_
      refine J_geti (pc := 131) (i := 2) cl8 hW.o (by decide) rfl hW.2.2.1.2.1 kX10_138 dX10_receive_131 ?_
      refine J_icmp_geN (pc := 134) (tgt := 193) dX10_receive_134 rfl (by omega) (by omega) (fun h0 => ?_) (fun h0 => ?_)
      · exact J_lvk kk ⟨rfl, rfl, rfl, rfl, trivial⟩
      · omega
    · intro i hi ih
      have h1 := hO.msg (m := i) (by omega)
      have hs : x_best Y h (i + 1) = if xV Y 9 i = h ∧ xV Y 19 i = 1 ∧ x_chosen Y h i = false ∧ (∀ y, x_best Y h i = some y → x_ahead Y i y = true) then some i else x_best Y h i := rfl
      have next : J l g mX10_receive hgt 0 0 Q 187 [(4, .int (nI i)), (3, .int (oI (x_best Y h (i + 1)))), (2, .int (nI k)), (0, .ref b), (1, .int (nI h))] [] S 0 0 := by
        refine J_iinc (pc := 187) dX10_receive_187 rfl (inc1 _) (by decide) ?_
        refine J_goto (pc := 190) (tgt := 128) dX10_receive_190 rfl ?_
        exact J_lvk ih ⟨rfl, rfl, rfl, rfl, rfl, trivial⟩
      have nxno : ¬ (xV Y 9 i = h ∧ xV Y 19 i = 1 ∧ x_chosen Y h i = false ∧ (∀ y, x_best Y h i = some y → x_ahead Y i y = true)) → J l g mX10_receive hgt 0 0 Q 187 [(4, .int (nI i)), (3, .int (oI (x_best Y h i))), (2, .int (nI k)), (0, .ref b), (1, .int (nI h))] [] S 0 0 := by
        intro z
        rw [if_neg z] at hs
        rw [hs] at next
        exact next
      refine J_iload (pc := 128) dX10_receive_128 rfl ?_
      refine J_aload_n (pc := 130) dX10_receive_130 rfl rfl ?_
      refine J_geti (pc := 131) (i := 2) cl8 hW.o (by decide) rfl hW.2.2.1.2.1 kX10_138 dX10_receive_131 ?_
      refine J_icmp_geN (pc := 134) (tgt := 193) dX10_receive_134 rfl (by omega) (by omega) (fun h0 => ?_) (fun h0 => ?_)
      · omega
      · refine J_aload_n (pc := 137) dX10_receive_137 rfl rfl ?_
        refine J_getr (pc := 138) (i := 17) cl8 hW.o (by decide) rfl (hW.r 17 rfl) kX10_47 dX10_receive_138 ?_
        refine J_iload (pc := 141) dX10_receive_141 rfl ?_
        refine J_mld (pc := 143) hW 9 rfl rfl (by show _ < 48; omega) dX10_receive_143 ?_
        refine J_iload_n (pc := 144) dX10_receive_144 rfl rfl ?_
        refine J_icmp_neN (pc := 145) (tgt := 187) dX10_receive_145 rfl (by omega) (by omega) (fun h2 => ?_) (fun h2 => ?_)
        · exact nxno (fun z => h2 z.1)
        · refine J_aload_n (pc := 148) dX10_receive_148 rfl rfl ?_
          refine J_getr (pc := 149) (i := 28) cl8 hW.o (by decide) rfl (hW.r 28 rfl) kX10_80 dX10_receive_149 ?_
          refine J_iload (pc := 152) dX10_receive_152 rfl ?_
          refine J_mld (pc := 154) hW 19 rfl rfl (by show _ < 48; omega) dX10_receive_154 ?_
          refine J_iconst (pc := 155) (v := nI 1) dX10_receive_155 (by decide) ?_
          refine J_icmp_neN (pc := 156) (tgt := 187) dX10_receive_156 rfl (by omega) (by omega) (fun h3 => ?_) (fun h3 => ?_)
          · exact nxno (fun z => h3 z.2.1)
          · refine J_aload_n (pc := 159) dX10_receive_159 rfl rfl ?_
            refine J_iload_n (pc := 160) dX10_receive_160 rfl rfl ?_
            refine J_iload (pc := 161) dX10_receive_161 rfl ?_
            refine J_callV (pc := 163) (cm_isChosen l g (hgt - 1) hW hO hh8 (show i < 48 by omega)) qX10_isChosen vX10_isChosen cl8 rfl hW.o kX10_187 dX10_receive_163 rfl rfl (Nat.le_of_ble_eq_true rfl) (by omega) (by omega) (by omega) ?_
            rintro _ _ ⟨rfl, rfl⟩
            refine J_if_neB (pc := 166) (tgt := 187) dX10_receive_166 rfl (fun h4 => ?_) (fun h4 => ?_)
            · exact nxno (fun z => by rw [h4] at z; cases z.2.2.1)
            · refine J_iload_n (pc := 169) dX10_receive_169 rfl rfl ?_
              refine J_iconst (pc := 170) (v := (-1)) dX10_receive_170 (by decide) ?_
              have take : (∀ y, x_best Y h i = some y → x_ahead Y i y = true) → J l g mX10_receive hgt 0 0 Q 184 [(4, .int (nI i)), (3, .int (oI (x_best Y h i))), (2, .int (nI k)), (0, .ref b), (1, .int (nI h))] [] S 0 0 := by
                intro z
                rw [if_pos ⟨h2, h3, h4, z⟩] at hs
                rw [hs] at next
                refine J_iload (pc := 184) dX10_receive_184 rfl ?_
                refine J_istore_n (pc := 186) dX10_receive_186 rfl (by decide) ?_
                exact J_lvk next ⟨rfl, rfl, rfl, rfl, rfl, trivial⟩
              refine J_icmp_eq (pc := 171) (tgt := 184) dX10_receive_171 rfl (fun h5 => ?_) (fun h5 => ?_)
              · have h5 := (oI_m1 (fun x hx => by have := x_best_lt hx; omega)).mp h5
                exact take (fun y hy => by rw [h5] at hy; cases hy)
              · cases hb : x_best Y h i with
                | none => rw [hb] at h5; exact absurd rfl h5
                | some y =>
                  have hy := x_best_lt hb
                  rw [hb] at take nxno
                  refine J_aload_n (pc := 174) dX10_receive_174 rfl rfl ?_
                  refine J_iload (pc := 175) dX10_receive_175 rfl ?_
                  refine J_iload_n (pc := 177) dX10_receive_177 rfl rfl ?_
                  refine J_callV (pc := 178) (cm_isAhead l g (hgt - 1) hW hO (show i < 48 by omega) (show y < 48 by omega) (hA i (by omega)) (hA y (by omega)) (by omega)) qX10_isAhead vX10_isAhead cl8 rfl hW.o kX10_191 dX10_receive_178 rfl rfl (Nat.le_of_ble_eq_true rfl) (by omega) (by omega) (by omega) ?_
                  rintro _ _ ⟨rfl, rfl⟩
                  refine J_if_eqB (pc := 181) (tgt := 187) dX10_receive_181 rfl (fun h6 => ?_) (fun h6 => ?_)
                  · exact nxno (fun z => by have := z.2.2.2 y rfl; rw [h6] at this; cases this)
                  · exact take (fun y' hy' => by cases hy'; exact h6)
  exact J_lvk (loop 0 (Nat.zero_le _)) ⟨rfl, rfl, rfl, rfl, rfl, trivial⟩
set_option maxRecDepth 100000 in
theorem jm_picks (l : Launch) (g : jG) (hgt : Nat) {S : jS} {b : Nat} {ad : Nat → Nat} {X : XS} {h : Nat} (hW : WM S b ad X) (hI : ∀ k, k ≤ 3 → xOK (x_picks X h k) ∧ xSm X (x_picks X h k) ∧ ∀ m, m < 48 → xV (x_picks X h k) 24 m < 2 ^ 31) (hh8 : h < 8) (hh : 2 ≤ hgt) : J l g mX10_receive hgt 0 0 (mPost b ad (x_picks X h 3)) 118 [(2, .int (nI 0)), (0, .ref b), (1, .int (nI h))] [] S 0 0 := by
  have loop : ∀ k, k ≤ 3 → ∀ S, WM S b ad (x_picks X h k) → J l g mX10_receive hgt 0 0 (mPost b ad (x_picks X h 3)) 118 [(2, .int (nI k)), (0, .ref b), (1, .int (nI h))] [] S 0 0 := by
    refine down _ ?_ ?_
    · intro S hW
      refine J_iload_n (pc := 118) dX10_receive_118 rfl rfl ?_
      refine J_iconst (pc := 119) (v := nI 3) dX10_receive_119 (by decide) ?_
      refine J_icmp_geN (pc := 120) (tgt := 307) dX10_receive_120 rfl (by omega) (by omega) (fun h0 => ?_) (fun h0 => ?_)
      · refine J_vret (pc := 307) dX10_receive_307 rfl (by omega) (by omega) ?_
        exact ⟨rfl, hW⟩
      · omega
    · intro k hk ih S hW
      obtain ⟨hO, hN, hA⟩ := hI k (by omega)
      have hN1 : xV (x_picks X h k) 1 0 = xV X 1 0 := congrFun hN.1 0
      have hs : x_picks X h (k + 1) = (match x_best (x_picks X h k) h (xV X 1 0) with
        | none => x_picks X h k
        | some m => x_pick (x_picks X h k) h k m) := rfl
      have hstop := x_picks_stop (X := X) (h := h) (k := k)
      rw [← hN1] at hs hstop
      refine J_iload_n (pc := 118) dX10_receive_118 rfl rfl ?_
      refine J_iconst (pc := 119) (v := nI 3) dX10_receive_119 (by decide) ?_
      refine J_icmp_geN (pc := 120) (tgt := 307) dX10_receive_120 rfl (by omega) (by omega) (fun h0 => ?_) (fun h0 => ?_)
      · omega
      · refine jm_best l g hgt hW hO hA hh8 hh ?_
        have h48 : xV (x_picks X h k) 1 0 ≤ 48 := hO.many
        refine J_iload_n (pc := 193) dX10_receive_193 rfl rfl ?_
        refine J_iconst (pc := 194) (v := (-1)) dX10_receive_194 (by decide) ?_
        refine J_icmp_ne (pc := 195) (tgt := 199) dX10_receive_195 rfl (fun h5 => ?_) (fun h5 => ?_)
        · cases hb : x_best (x_picks X h k) h (xV (x_picks X h k) 1 0) with
          | none => rw [hb] at h5; exact absurd rfl h5
          | some m =>
            have hm := x_best_lt hb
            have h1 := hO.msg (m := m) (by omega)
            rw [hb] at hs
            have hs : x_picks X h (k + 1) = x_pick (x_picks X h k) h k m := hs
            have hc3 := (hO.host hh8).1
            clear hstop hb hN hN1 hA
            generalize x_picks X h k = Y at hW hO h1 hs hm h48 hc3
            have hmis : x_missing Y m ≤ xV Y 10 m := cnt_le _ _
            refine J_aload_n (pc := 199) dX10_receive_199 rfl rfl ?_
            refine J_getr (pc := 200) (i := 42) cl8 hW.o (by decide) rfl (hW.r 42 rfl) kX10_122 dX10_receive_200 ?_
            refine J_iconst (pc := 203) (v := nI 3) dX10_receive_203 (by decide) ?_
            refine J_iload_n (pc := 204) dX10_receive_204 rfl rfl ?_
            first | refine J_imulN (pc := 205) dX10_receive_205 ?_ | refine J_imul (pc := 205) dX10_receive_205 ?_
            refine J_iload_n (pc := 206) dX10_receive_206 rfl rfl ?_
            first | refine J_iaddN (pc := 207) dX10_receive_207 ?_ | refine J_iadd (pc := 207) dX10_receive_207 ?_
            refine J_iload_n (pc := 208) dX10_receive_208 rfl rfl ?_
            refine J_mst (pc := 209) hW 29 rfl rfl (by show _ < 24; omega) rfl dX10_receive_209 (fun hW => ?_)
            refine J_aload_n (pc := 210) dX10_receive_210 rfl rfl ?_
            refine J_getr (pc := 211) (i := 43) cl8 hW.o (by decide) rfl (hW.r 43 rfl) kX10_125 dX10_receive_211 ?_
            refine J_iload_n (pc := 214) dX10_receive_214 rfl rfl ?_
            refine J_dup2_11 (pc := 215) dX10_receive_215 rfl rfl ?_
            refine J_mld (pc := 216) hW 28 rfl rfl (by show _ < 8; omega) dX10_receive_216 ?_
            refine J_iconst (pc := 217) (v := nI 1) dX10_receive_217 (by decide) ?_
            first | refine J_iaddN (pc := 218) dX10_receive_218 ?_ | refine J_iadd (pc := 218) dX10_receive_218 ?_
            refine J_mst (pc := 219) hW 28 rfl rfl (by show _ < 8; omega) rfl dX10_receive_219 (fun hW => ?_)
            simp only [xV_yV, xV_yL, xV_yB, xV_yC, xL_yV, xL_yL, xL_yB, xL_yC, xB_yV, xB_yL, xB_yB, xB_yC, true_and, and_true, and_self, false_and, and_false, reduceIte, Nat.reduceEqDiff, if_true, if_false, reduceCtorEq] at hW ⊢
            refine J_aload_n (pc := 220) dX10_receive_220 rfl rfl ?_
            refine J_getr (pc := 221) (i := 18) cl8 hW.o (by decide) rfl (hW.r 18 rfl) kX10_50 dX10_receive_221 ?_
            refine J_iload_n (pc := 224) dX10_receive_224 rfl rfl ?_
            refine J_mld (pc := 225) hW 10 rfl rfl (by show _ < 48; omega) dX10_receive_225 ?_
            refine J_aload_n (pc := 226) dX10_receive_226 rfl rfl ?_
            refine J_iload_n (pc := 227) dX10_receive_227 rfl rfl ?_
            simp only [xV_yV, xV_yL, xV_yB, xV_yC, xL_yV, xL_yL, xL_yB, xL_yC, xB_yV, xB_yL, xB_yB, xB_yC, true_and, and_true, and_self, false_and, and_false, reduceIte, Nat.reduceEqDiff, if_true, if_false, reduceCtorEq] 
            refine J_callV (pc := 228) (cm_missing l g (hgt - 1) hW (by simp only [xV_yV]; simp; omega) (show m < 48 by omega)) qX10_missing vX10_missing cl8 rfl hW.o kX10_173 dX10_receive_228 rfl rfl (Nat.le_of_ble_eq_true rfl) (by omega) (by omega) (by omega) ?_
            rintro _ _ ⟨rfl, rfl⟩
            have em : x_missing (yV (yV Y 29 (3 * h + k) m) 28 h (xV Y 28 h + 1)) m = x_missing Y m := by
              unfold x_missing
              rw [xB_yV, xB_yV, xV_nf (by decide), xV_nf (by decide)]
            rw [em]
            first | refine J_isubN (pc := 231) dX10_receive_231 (by omega) ?_ | refine J_isub (pc := 231) dX10_receive_231 ?_
            refine J_istore (pc := 232) dX10_receive_232 (by decide) ?_
            refine J_iload (pc := 234) dX10_receive_234 rfl ?_
            refine J_bipush (pc := 236) (v := nI 6) dX10_receive_236 (by decide) ?_
            first | refine J_iaddN (pc := 238) dX10_receive_238 ?_ | refine J_iadd (pc := 238) dX10_receive_238 ?_
            refine J_aload_n (pc := 239) dX10_receive_239 rfl rfl ?_
            refine J_getr (pc := 240) (i := 18) cl8 hW.o (by decide) rfl (hW.r 18 rfl) kX10_50 dX10_receive_240 ?_
            refine J_iload_n (pc := 243) dX10_receive_243 rfl rfl ?_
            refine J_mld (pc := 244) hW 10 rfl rfl (by show _ < 48; omega) dX10_receive_244 ?_
            simp only [xV_yV, xV_yL, xV_yB, xV_yC, xL_yV, xL_yL, xL_yB, xL_yC, xB_yV, xB_yL, xB_yB, xB_yC, true_and, and_true, and_self, false_and, and_false, reduceIte, Nat.reduceEqDiff, if_true, if_false, reduceCtorEq] 
            have tgt : ∀ v, v = x_target Y m → J l g mX10_receive hgt 0 0 (mPost b ad (x_picks X h 3)) 262 [(4, .int (nI (xV Y 10 m - x_missing Y m))), (3, .int (nI m)), (2, .int (nI k)), (0, .ref b), (1, .int (nI h))] [.int (nI v)] (uI (uI S 9 (ad (mK 29)) (3 * h + k) (nI m)) 9 (ad (mK 28)) h (nI (xV Y 28 h + 1))) 0 0 := by
              intro v hv
              have hv60 : v ≤ 60 := by
                rw [hv]
                unfold x_target
                split <;> omega
              refine J_istore (pc := 262) dX10_receive_262 (by decide) ?_
              refine J_iload (pc := 264) dX10_receive_264 rfl ?_
              refine J_aload_n (pc := 266) dX10_receive_266 rfl rfl ?_
              refine J_getr (pc := 267) (i := 30) cl8 hW.o (by decide) rfl (hW.r 30 rfl) kX10_86 dX10_receive_267 ?_
              refine J_iload_n (pc := 270) dX10_receive_270 rfl rfl ?_
              refine J_mld (pc := 271) hW 21 rfl rfl (by show _ < 48; omega) dX10_receive_271 ?_
              simp only [xV_yV, xV_yL, xV_yB, xV_yC, xL_yV, xL_yL, xL_yB, xL_yC, xB_yV, xB_yL, xB_yB, xB_yC, true_and, and_true, and_self, false_and, and_false, reduceIte, Nat.reduceEqDiff, if_true, if_false, reduceCtorEq] 
              refine J_icmp_gtN (pc := 272) (tgt := 278) dX10_receive_272 rfl (by omega) (by omega) (fun h6 => ?_) (fun h6 => ?_)
              · refine J_aload_n (pc := 278) dX10_receive_278 rfl rfl ?_
                refine J_getr (pc := 279) (i := 30) cl8 hW.o (by decide) rfl (hW.r 30 rfl) kX10_86 dX10_receive_279 ?_
                refine J_iload_n (pc := 282) dX10_receive_282 rfl rfl ?_
                refine J_iload (pc := 283) dX10_receive_283 rfl ?_
                refine J_mst (pc := 285) hW 21 rfl rfl (by show _ < 48; omega) rfl dX10_receive_285 (fun hW => ?_)
                refine J_aload_n (pc := 286) dX10_receive_286 rfl rfl ?_
                refine J_iload_n (pc := 287) dX10_receive_287 rfl rfl ?_
                refine J_iconst (pc := 288) (v := nI 1) dX10_receive_288 (by decide) ?_
                refine J_iload_n (pc := 289) dX10_receive_289 rfl rfl ?_
                refine J_iconst (pc := 290) (v := nI 4) dX10_receive_290 (by decide) ?_
                refine J_iload (pc := 291) dX10_receive_291 rfl ?_
                first | refine J_imulN (pc := 293) dX10_receive_293 ?_ | refine J_imul (pc := 293) dX10_receive_293 ?_
                refine J_iconst (pc := 294) (v := nI 1) dX10_receive_294 (by decide) ?_
                first | refine J_iaddN (pc := 295) dX10_receive_295 ?_ | refine J_iadd (pc := 295) dX10_receive_295 ?_
                refine J_iload_n (pc := 296) dX10_receive_296 rfl rfl ?_
                first | refine J_iaddN (pc := 297) dX10_receive_297 ?_ | refine J_iadd (pc := 297) dX10_receive_297 ?_
                refine J_callV (pc := 298) (cm_becomeDue l g (hgt - 1) (k := 1) (m := m) (c := 4 * v + 1 + k) hW hh8) qX10_becomeDue vX10_becomeDue cl8 rfl hW.o kX10_169 dX10_receive_298 rfl rfl (Nat.le_of_ble_eq_true rfl) (by omega) (by omega) (by omega) ?_
                rintro _ S' ⟨rfl, hW⟩
                refine J_iinc (pc := 301) dX10_receive_301 rfl (inc1 _) (by decide) ?_
                refine J_goto (pc := 304) (tgt := 118) dX10_receive_304 rfl ?_
                refine J_lvk (ih S' ?_) ⟨rfl, rfl, rfl, trivial⟩
                rw [hs, x_pick, ← hv, if_neg (by omega)]
                exact hW
              · refine J_goto (pc := 275) (tgt := 301) dX10_receive_275 rfl ?_
                refine J_iinc (pc := 301) dX10_receive_301 rfl (inc1 _) (by decide) ?_
                refine J_goto (pc := 304) (tgt := 118) dX10_receive_304 rfl ?_
                refine J_lvk (ih _ ?_) ⟨rfl, rfl, rfl, trivial⟩
                rw [hs, x_pick, ← hv, if_pos (by omega)]
                exact hW
            refine J_icmp_geN (pc := 245) (tgt := 256) dX10_receive_245 rfl (by omega) (by omega) (fun h6 => ?_) (fun h6 => ?_)
            · refine J_aload_n (pc := 256) dX10_receive_256 rfl rfl ?_
              refine J_getr (pc := 257) (i := 18) cl8 hW.o (by decide) rfl (hW.r 18 rfl) kX10_50 dX10_receive_257 ?_
              refine J_iload_n (pc := 260) dX10_receive_260 rfl rfl ?_
              refine J_mld (pc := 261) hW 10 rfl rfl (by show _ < 48; omega) dX10_receive_261 ?_
              simp only [xV_yV, xV_yL, xV_yB, xV_yC, xL_yV, xL_yL, xL_yB, xL_yC, xB_yV, xB_yL, xB_yB, xB_yC, true_and, and_true, and_self, false_and, and_false, reduceIte, Nat.reduceEqDiff, if_true, if_false, reduceCtorEq] 
              exact J_lvk (tgt _ (by rw [x_target, if_neg (by omega)])) ⟨rfl, rfl, rfl, rfl, rfl, trivial⟩
            · refine J_iload (pc := 248) dX10_receive_248 rfl ?_
              refine J_bipush (pc := 250) (v := nI 6) dX10_receive_250 (by decide) ?_
              first | refine J_iaddN (pc := 252) dX10_receive_252 ?_ | refine J_iadd (pc := 252) dX10_receive_252 ?_
              refine J_goto (pc := 253) (tgt := 262) dX10_receive_253 rfl ?_
              exact J_lvk (tgt _ (by rw [x_target, if_pos (by omega)])) ⟨rfl, rfl, rfl, rfl, rfl, trivial⟩
        · have h5 := (oI_m1 (fun x hx => by have := x_best_lt hx; omega)).mp h5
          refine J_vret (pc := 198) dX10_receive_198 rfl (by omega) (by omega) ?_
          refine ⟨rfl, ?_⟩
          have := hstop h5 (3 - k)
          rw [show k + (3 - k) = 3 by omega] at this
          rw [this]
          exact hW
  exact loop 0 (by omega) S hW
/-- what has to hold on the way through a host's work as a receiver -/
def okReceive (X : XS) (h : Nat) : Prop := (∀ i, i ≤ xV X 1 0 → xOK (x_listens X h i) ∧ xSm X (x_listens X h i)) ∧ (∀ i, i ≤ xV X 1 0 → xOK (x_forgets (x_listens X h (xV X 1 0)) h i) ∧ xSm X (x_forgets (x_listens X h (xV X 1 0)) h i)) ∧ (∀ k, k ≤ 3 → xOK (x_picks (yV (x_forgets (x_listens X h (xV X 1 0)) h (xV X 1 0)) 28 h 0) h k) ∧ xSm X (x_picks (yV (x_forgets (x_listens X h (xV X 1 0)) h (xV X 1 0)) 28 h 0) h k) ∧ ∀ m, m < 48 → xV (x_picks (yV (x_forgets (x_listens X h (xV X 1 0)) h (xV X 1 0)) 28 h 0) h k) 24 m < 2 ^ 31)
theorem xSm.tr {X Y Z : XS} (h1 : xSm X Y) (h2 : xSm X Z) : xSm Y Z := ⟨h2.1.trans h1.1.symm, h2.2.1.trans h1.2.1.symm, h2.2.2.1.trans h1.2.2.1.symm, h2.2.2.2.1.trans h1.2.2.2.1.symm, h2.2.2.2.2.trans h1.2.2.2.2.symm⟩
set_option maxRecDepth 100000 in
theorem cm_receive (l : Launch) (g : jG) (hgt : Nat) {S : jS} {b : Nat} {ad : Nat → Nat} {X : XS} {h : Nat} (hW : WM S b ad X) (hI : okReceive X h) (hh8 : h < 8) (hh : 2 ≤ hgt) : CT l g mX10_receive hgt 0 0 [.ref b, .int (nI h)] S (mPost b ad (x_receive X h)) := by
  refine CT_of qX10_receive (Nat.le_of_ble_eq_true rfl) ?_
  have e1 : xV (x_listens X h (xV X 1 0)) 1 0 = xV X 1 0 := congrFun (hI.1 _ (Nat.le_refl _)).2.1 0
  refine jm_listens l g hgt hW hI.1 hh8 hh (fun S1 hW1 => ?_)
  refine jm_forgets l g hgt hW1 (fun i hi => ?_) hh8 hh (fun S2 hW2 => ?_)
  · rw [e1] at hi
    exact ⟨(hI.2.1 i hi).1, (hI.1 _ (Nat.le_refl _)).2.tr (hI.2.1 i hi).2⟩
  · rw [e1] at hW2
    have hW := hW2
    refine J_aload_n (pc := 109) dX10_receive_109 rfl rfl ?_
    refine J_getr (pc := 110) (i := 43) cl8 hW.o (by decide) rfl (hW.r 43 rfl) kX10_125 dX10_receive_110 ?_
    refine J_iload_n (pc := 113) dX10_receive_113 rfl rfl ?_
    refine J_iconst (pc := 114) (v := nI 0) dX10_receive_114 (by decide) ?_
    refine J_mst (pc := 115) hW 28 rfl rfl (by show _ < 8; omega) rfl dX10_receive_115 (fun hW => ?_)
    refine J_iconst (pc := 116) (v := nI 0) dX10_receive_116 (by decide) ?_
    refine J_istore_n (pc := 117) dX10_receive_117 rfl (by decide) ?_
    have hp := jm_picks l g hgt hW (fun k hk => ⟨(hI.2.2 k hk).1, (hI.2.2 0 (by omega)).2.1.tr (hI.2.2 k hk).2.1, (hI.2.2 k hk).2.2⟩) hh8 hh
    exact J_lvk hp ⟨rfl, rfl, rfl, trivial⟩
