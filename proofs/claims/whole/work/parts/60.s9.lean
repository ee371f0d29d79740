theorem pw_sld {l : Launch} {g : Geo} {own : String} {cc : ByteArray} {rm : Room} {nL : Nat} {ret : Option FieldType} {fin : Option Value → WD → Prop} {X : Nat → Nat → (Nat → Int32) → Prop} {P : PT} (hX : Gd l g own cc rm nL ret fin X P) {w : WD} {pc q : Nat} {lv : List (Option Value)} {st : List Value} {b L : Nat} {xs : Nat → Int32} (hb0 : X b L xs) {i : Int32} (hin : vp_in i L) (hd : decode cc pc = .ok (.iaload, 1)) (hq : pc + 1 = q) (kk : P w q lv (.int (xs i.toNatClampNeg) :: st)) : P w pc lv (.int i :: .ref b :: st) := by
  obtain ⟨p, e, s, m, args, below, meth, c, cells, slots, Q, A, rfl, hx, hb, hml, hown, hTB, hNL, hK, hG, hcs, hScr, hri, hrv⟩ := hX
  subst hq
  obtain ⟨x1, x2, x3⟩ := hScr _ _ _ hb0
  intro H locs ls hP hS hl
  exact va_sld hx hb x3 x1 x2 hS hin hd (kk H locs ls hP hS hl)
theorem pw_slen {l : Launch} {g : Geo} {own : String} {cc : ByteArray} {rm : Room} {nL : Nat} {ret : Option FieldType} {fin : Option Value → WD → Prop} {X : Nat → Nat → (Nat → Int32) → Prop} {P : PT} (hX : Gd l g own cc rm nL ret fin X P) {w : WD} {pc q : Nat} {lv : List (Option Value)} {st : List Value} {b L : Nat} {xs : Nat → Int32} (hb0 : X b L xs) (hd : decode cc pc = .ok (.arraylength, 1)) (hq : pc + 1 = q) (kk : P w q lv (.int (nI L) :: st)) : P w pc lv (.ref b :: st) := by
  obtain ⟨p, e, s, m, args, below, meth, c, cells, slots, Q, A, rfl, hx, hb, hml, hown, hTB, hNL, hK, hG, hcs, hScr, hri, hrv⟩ := hX
  subst hq
  obtain ⟨x1, x2, x3⟩ := hScr _ _ _ hb0
  intro H locs ls hP hS hl
  exact va_slen hx hb x3 x1 x2 hS hd (kk H locs ls hP hS hl)
set_option maxHeartbeats 800000 in
set_option maxRecDepth 20000 in
theorem lc_0 {l : Launch} {g : Geo} {X : Nat → Nat → (Nat → Int32) → Prop} {P : PT} (hX : Gd l g RL cL_law room_1 4 (some .boolean) (fun r _ => r = some (.int 1)) X P) {b L : Nat} {xs : Nat → Int32} (hb0 : X b L xs) (hL : L ≤ 2560) {i N : Nat} {w : WD} (hi : i + 5 ≤ L) (hR : RW w N) (hN : N ≤ 2 ^ 26 - 200) (kk : ∀ z, RW z (N + 60) → P z 729 [some (.ref b), some (.ref (g_ad g 10 0)), some (.ref (g_ad g 9 0)), some (.int (nI i))] []) : P w 140 [some (.ref b), some (.ref (g_ad g 10 0)), some (.ref (g_ad g 9 0)), some (.int (nI i))] [] := by
  obtain ⟨r, w1, Z, s1, s2, s3⟩ := st_villager (l := l) (g := g) hR hN
  refine pw_aload_n hX rfl dL_law_140 (q := 141) rfl ?_
  refine pw_cvI0 hX dL_law_141 (q := 144) rfl mi_X3_villager ml_L_13 rcR ⟨rfl, rfl, by decide, by decide⟩ rfl (Nat.le_of_ble_eq_true rfl) s1 ?_
  refine pw_aload_n hX rfl dL_law_144 (q := 145) rfl ?_
  refine pw_cvE0 hX dL_law_145 (q := 148) rfl mi_X4_villager ml_L_17 rcM ⟨rfl, rfl, by decide, by decide⟩ rfl (Nat.le_of_ble_eq_true rfl) s2 (fun z hz => ?_)
  refine pw_icmp_eq hX (tgt := 729) dL_law_148 (q := 151) rfl (by decide) (fun _ => ?_) (fun hne => absurd rfl hne)
  exact kk z (s3 z hz)
set_option maxHeartbeats 800000 in
set_option maxRecDepth 20000 in
theorem lc_1 {l : Launch} {g : Geo} {X : Nat → Nat → (Nat → Int32) → Prop} {P : PT} (hX : Gd l g RL cL_law room_1 4 (some .boolean) (fun r _ => r = some (.int 1)) X P) {b L : Nat} {xs : Nat → Int32} (hb0 : X b L xs) (hL : L ≤ 2560) {i N : Nat} {w : WD} (hi : i + 5 ≤ L) (hR : RW w N) (hN : N ≤ 2 ^ 26 - 200) (kk : ∀ z, RW z (N + 60) → P z 729 [some (.ref b), some (.ref (g_ad g 10 0)), some (.ref (g_ad g 9 0)), some (.int (nI i))] []) : P w 153 [some (.ref b), some (.ref (g_ad g 10 0)), some (.ref (g_ad g 9 0)), some (.int (nI i))] [] := by
  obtain ⟨r, w1, Z, s1, s2, s3⟩ := st_sleep (l := l) (g := g) hR hN (xs (nI (i + 1)).toNatClampNeg)
  refine pw_aload_n hX rfl dL_law_153 (q := 154) rfl ?_
  refine pw_aload_n hX rfl dL_law_154 (q := 155) rfl ?_
  refine pw_iload_n hX rfl dL_law_155 (q := 156) rfl ?_
  refine pw_iconst hX (k := 1) rfl (by decide) dL_law_156 (q := 157) rfl ?_
  refine pw_iaddN hX dL_law_157 (q := 158) rfl ?_
  refine pw_sld hX hb0 (vp_in_nI (by omega) (by omega)) dL_law_158 (q := 159) rfl ?_
  refine pw_cvI1 hX dL_law_159 (q := 162) rfl mi_X3_sleep ml_L_18 rcR ⟨rfl, rfl, by decide, by decide⟩ rfl (Nat.le_of_ble_eq_true rfl) s1 ?_
  refine pw_aload_n hX rfl dL_law_162 (q := 163) rfl ?_
  refine pw_aload_n hX rfl dL_law_163 (q := 164) rfl ?_
  refine pw_iload_n hX rfl dL_law_164 (q := 165) rfl ?_
  refine pw_iconst hX (k := 1) rfl (by decide) dL_law_165 (q := 166) rfl ?_
  refine pw_iaddN hX dL_law_166 (q := 167) rfl ?_
  refine pw_sld hX hb0 (vp_in_nI (by omega) (by omega)) dL_law_167 (q := 168) rfl ?_
  refine pw_cvE1 hX dL_law_168 (q := 171) rfl mi_X4_sleep ml_L_22 rcM ⟨rfl, rfl, by decide, by decide⟩ rfl (Nat.le_of_ble_eq_true rfl) s2 (fun z hz => ?_)
  refine pw_icmp_eq hX (tgt := 729) dL_law_171 (q := 174) rfl (by decide) (fun _ => ?_) (fun hne => absurd rfl hne)
  exact kk z (s3 z hz)
set_option maxHeartbeats 800000 in
set_option maxRecDepth 20000 in
theorem lc_2 {l : Launch} {g : Geo} {X : Nat → Nat → (Nat → Int32) → Prop} {P : PT} (hX : Gd l g RL cL_law room_1 4 (some .boolean) (fun r _ => r = some (.int 1)) X P) {b L : Nat} {xs : Nat → Int32} (hb0 : X b L xs) (hL : L ≤ 2560) {i N : Nat} {w : WD} (hi : i + 5 ≤ L) (hR : RW w N) (hN : N ≤ 2 ^ 26 - 200) (kk : ∀ z, RW z (N + 60) → P z 729 [some (.ref b), some (.ref (g_ad g 10 0)), some (.ref (g_ad g 9 0)), some (.int (nI i))] []) : P w 176 [some (.ref b), some (.ref (g_ad g 10 0)), some (.ref (g_ad g 9 0)), some (.int (nI i))] [] := by
  obtain ⟨r, w1, Z, s1, s2, s3⟩ := st_wake (l := l) (g := g) hR hN (xs (nI (i + 1)).toNatClampNeg)
  refine pw_aload_n hX rfl dL_law_176 (q := 177) rfl ?_
  refine pw_aload_n hX rfl dL_law_177 (q := 178) rfl ?_
  refine pw_iload_n hX rfl dL_law_178 (q := 179) rfl ?_
  refine pw_iconst hX (k := 1) rfl (by decide) dL_law_179 (q := 180) rfl ?_
  refine pw_iaddN hX dL_law_180 (q := 181) rfl ?_
  refine pw_sld hX hb0 (vp_in_nI (by omega) (by omega)) dL_law_181 (q := 182) rfl ?_
  refine pw_cvI1 hX dL_law_182 (q := 185) rfl mi_X3_wake ml_L_23 rcR ⟨rfl, rfl, by decide, by decide⟩ rfl (Nat.le_of_ble_eq_true rfl) s1 ?_
  refine pw_aload_n hX rfl dL_law_185 (q := 186) rfl ?_
  refine pw_aload_n hX rfl dL_law_186 (q := 187) rfl ?_
  refine pw_iload_n hX rfl dL_law_187 (q := 188) rfl ?_
  refine pw_iconst hX (k := 1) rfl (by decide) dL_law_188 (q := 189) rfl ?_
  refine pw_iaddN hX dL_law_189 (q := 190) rfl ?_
  refine pw_sld hX hb0 (vp_in_nI (by omega) (by omega)) dL_law_190 (q := 191) rfl ?_
  refine pw_cvE1 hX dL_law_191 (q := 194) rfl mi_X4_wake ml_L_26 rcM ⟨rfl, rfl, by decide, by decide⟩ rfl (Nat.le_of_ble_eq_true rfl) s2 (fun z hz => ?_)
  refine pw_icmp_eq hX (tgt := 729) dL_law_194 (q := 197) rfl (by decide) (fun _ => ?_) (fun hne => absurd rfl hne)
  exact kk z (s3 z hz)
set_option maxHeartbeats 800000 in
set_option maxRecDepth 20000 in
theorem lc_3 {l : Launch} {g : Geo} {X : Nat → Nat → (Nat → Int32) → Prop} {P : PT} (hX : Gd l g RL cL_law room_1 4 (some .boolean) (fun r _ => r = some (.int 1)) X P) {b L : Nat} {xs : Nat → Int32} (hb0 : X b L xs) (hL : L ≤ 2560) {i N : Nat} {w : WD} (hi : i + 5 ≤ L) (hR : RW w N) (hN : N ≤ 2 ^ 26 - 200) (kk : ∀ z, RW z (N + 60) → P z 729 [some (.ref b), some (.ref (g_ad g 10 0)), some (.ref (g_ad g 9 0)), some (.int (nI i))] []) : P w 199 [some (.ref b), some (.ref (g_ad g 10 0)), some (.ref (g_ad g 9 0)), some (.int (nI i))] [] := by
  obtain ⟨r, w1, Z, s1, s2, s3⟩ := st_leave (l := l) (g := g) hR hN (xs (nI (i + 1)).toNatClampNeg)
  refine pw_aload_n hX rfl dL_law_199 (q := 200) rfl ?_
  refine pw_aload_n hX rfl dL_law_200 (q := 201) rfl ?_
  refine pw_iload_n hX rfl dL_law_201 (q := 202) rfl ?_
  refine pw_iconst hX (k := 1) rfl (by decide) dL_law_202 (q := 203) rfl ?_
  refine pw_iaddN hX dL_law_203 (q := 204) rfl ?_
  refine pw_sld hX hb0 (vp_in_nI (by omega) (by omega)) dL_law_204 (q := 205) rfl ?_
  refine pw_cvI1 hX dL_law_205 (q := 208) rfl mi_X3_leave ml_L_27 rcR ⟨rfl, rfl, by decide, by decide⟩ rfl (Nat.le_of_ble_eq_true rfl) s1 ?_
  refine pw_aload_n hX rfl dL_law_208 (q := 209) rfl ?_
  refine pw_aload_n hX rfl dL_law_209 (q := 210) rfl ?_
  refine pw_iload_n hX rfl dL_law_210 (q := 211) rfl ?_
  refine pw_iconst hX (k := 1) rfl (by decide) dL_law_211 (q := 212) rfl ?_
  refine pw_iaddN hX dL_law_212 (q := 213) rfl ?_
  refine pw_sld hX hb0 (vp_in_nI (by omega) (by omega)) dL_law_213 (q := 214) rfl ?_
  refine pw_cvE1 hX dL_law_214 (q := 217) rfl mi_X4_leave ml_L_30 rcM ⟨rfl, rfl, by decide, by decide⟩ rfl (Nat.le_of_ble_eq_true rfl) s2 (fun z hz => ?_)
  refine pw_icmp_eq hX (tgt := 729) dL_law_217 (q := 220) rfl (by decide) (fun _ => ?_) (fun hne => absurd rfl hne)
  exact kk z (s3 z hz)
set_option maxHeartbeats 800000 in
set_option maxRecDepth 20000 in
theorem lc_4 {l : Launch} {g : Geo} {X : Nat → Nat → (Nat → Int32) → Prop} {P : PT} (hX : Gd l g RL cL_law room_1 4 (some .boolean) (fun r _ => r = some (.int 1)) X P) {b L : Nat} {xs : Nat → Int32} (hb0 : X b L xs) (hL : L ≤ 2560) {i N : Nat} {w : WD} (hi : i + 5 ≤ L) (hR : RW w N) (hN : N ≤ 2 ^ 26 - 200) (kk : ∀ z, RW z (N + 60) → P z 729 [some (.ref b), some (.ref (g_ad g 10 0)), some (.ref (g_ad g 9 0)), some (.int (nI i))] []) : P w 222 [some (.ref b), some (.ref (g_ad g 10 0)), some (.ref (g_ad g 9 0)), some (.int (nI i))] [] := by
  obtain ⟨r, w1, Z, s1, s2, s3⟩ := st_watch (l := l) (g := g) hR hN (xs (nI (i + 1)).toNatClampNeg)
  refine pw_aload_n hX rfl dL_law_222 (q := 223) rfl ?_
  refine pw_aload_n hX rfl dL_law_223 (q := 224) rfl ?_
  refine pw_iload_n hX rfl dL_law_224 (q := 225) rfl ?_
  refine pw_iconst hX (k := 1) rfl (by decide) dL_law_225 (q := 226) rfl ?_
  refine pw_iaddN hX dL_law_226 (q := 227) rfl ?_
  refine pw_sld hX hb0 (vp_in_nI (by omega) (by omega)) dL_law_227 (q := 228) rfl ?_
  refine pw_cvI1 hX dL_law_228 (q := 231) rfl mi_X3_watch ml_L_31 rcR ⟨rfl, rfl, by decide, by decide⟩ rfl (Nat.le_of_ble_eq_true rfl) s1 ?_
  refine pw_aload_n hX rfl dL_law_231 (q := 232) rfl ?_
  refine pw_aload_n hX rfl dL_law_232 (q := 233) rfl ?_
  refine pw_iload_n hX rfl dL_law_233 (q := 234) rfl ?_
  refine pw_iconst hX (k := 1) rfl (by decide) dL_law_234 (q := 235) rfl ?_
  refine pw_iaddN hX dL_law_235 (q := 236) rfl ?_
  refine pw_sld hX hb0 (vp_in_nI (by omega) (by omega)) dL_law_236 (q := 237) rfl ?_
  refine pw_cvE1 hX dL_law_237 (q := 240) rfl mi_X4_watch ml_L_34 rcM ⟨rfl, rfl, by decide, by decide⟩ rfl (Nat.le_of_ble_eq_true rfl) s2 (fun z hz => ?_)
  refine pw_icmp_eq hX (tgt := 729) dL_law_240 (q := 243) rfl (by decide) (fun _ => ?_) (fun hne => absurd rfl hne)
  exact kk z (s3 z hz)
set_option maxHeartbeats 800000 in
set_option maxRecDepth 20000 in
theorem lc_5 {l : Launch} {g : Geo} {X : Nat → Nat → (Nat → Int32) → Prop} {P : PT} (hX : Gd l g RL cL_law room_1 4 (some .boolean) (fun r _ => r = some (.int 1)) X P) {b L : Nat} {xs : Nat → Int32} (hb0 : X b L xs) (hL : L ≤ 2560) {i N : Nat} {w : WD} (hi : i + 5 ≤ L) (hR : RW w N) (hN : N ≤ 2 ^ 26 - 200) (kk : ∀ z, RW z (N + 60) → P z 729 [some (.ref b), some (.ref (g_ad g 10 0)), some (.ref (g_ad g 9 0)), some (.int (nI i))] []) : P w 245 [some (.ref b), some (.ref (g_ad g 10 0)), some (.ref (g_ad g 9 0)), some (.int (nI i))] [] := by
  obtain ⟨r, w1, Z, s1, s2, s3⟩ := st_villagerOf (l := l) (g := g) hR hN (xs (nI (i + 1)).toNatClampNeg) (xs (nI (i + 2)).toNatClampNeg)
  refine pw_aload_n hX rfl dL_law_245 (q := 246) rfl ?_
  refine pw_aload_n hX rfl dL_law_246 (q := 247) rfl ?_
  refine pw_iload_n hX rfl dL_law_247 (q := 248) rfl ?_
  refine pw_iconst hX (k := 1) rfl (by decide) dL_law_248 (q := 249) rfl ?_
  refine pw_iaddN hX dL_law_249 (q := 250) rfl ?_
  refine pw_sld hX hb0 (vp_in_nI (by omega) (by omega)) dL_law_250 (q := 251) rfl ?_
  refine pw_aload_n hX rfl dL_law_251 (q := 252) rfl ?_
  refine pw_iload_n hX rfl dL_law_252 (q := 253) rfl ?_
  refine pw_iconst hX (k := 2) rfl (by decide) dL_law_253 (q := 254) rfl ?_
  refine pw_iaddN hX dL_law_254 (q := 255) rfl ?_
  refine pw_sld hX hb0 (vp_in_nI (by omega) (by omega)) dL_law_255 (q := 256) rfl ?_
  refine pw_cvI2 hX dL_law_256 (q := 259) rfl mi_X3_villagerOf ml_L_35 rcR ⟨rfl, rfl, by decide, by decide⟩ rfl (Nat.le_of_ble_eq_true rfl) s1 ?_
  refine pw_aload_n hX rfl dL_law_259 (q := 260) rfl ?_
  refine pw_aload_n hX rfl dL_law_260 (q := 261) rfl ?_
  refine pw_iload_n hX rfl dL_law_261 (q := 262) rfl ?_
  refine pw_iconst hX (k := 1) rfl (by decide) dL_law_262 (q := 263) rfl ?_
  refine pw_iaddN hX dL_law_263 (q := 264) rfl ?_
  refine pw_sld hX hb0 (vp_in_nI (by omega) (by omega)) dL_law_264 (q := 265) rfl ?_
  refine pw_aload_n hX rfl dL_law_265 (q := 266) rfl ?_
  refine pw_iload_n hX rfl dL_law_266 (q := 267) rfl ?_
  refine pw_iconst hX (k := 2) rfl (by decide) dL_law_267 (q := 268) rfl ?_
  refine pw_iaddN hX dL_law_268 (q := 269) rfl ?_
  refine pw_sld hX hb0 (vp_in_nI (by omega) (by omega)) dL_law_269 (q := 270) rfl ?_
  refine pw_cvE2 hX dL_law_270 (q := 273) rfl mi_X4_villagerOf ml_L_39 rcM ⟨rfl, rfl, by decide, by decide⟩ rfl (Nat.le_of_ble_eq_true rfl) s2 (fun z hz => ?_)
  refine pw_icmp_eq hX (tgt := 729) dL_law_273 (q := 276) rfl (by decide) (fun _ => ?_) (fun hne => absurd rfl hne)
  exact kk z (s3 z hz)
set_option maxHeartbeats 800000 in
set_option maxRecDepth 20000 in
theorem lc_6 {l : Launch} {g : Geo} {X : Nat → Nat → (Nat → Int32) → Prop} {P : PT} (hX : Gd l g RL cL_law room_1 4 (some .boolean) (fun r _ => r = some (.int 1)) X P) {b L : Nat} {xs : Nat → Int32} (hb0 : X b L xs) (hL : L ≤ 2560) {i N : Nat} {w : WD} (hi : i + 5 ≤ L) (hR : RW w N) (hN : N ≤ 2 ^ 26 - 200) (kk : ∀ z, RW z (N + 60) → P z 729 [some (.ref b), some (.ref (g_ad g 10 0)), some (.ref (g_ad g 9 0)), some (.int (nI i))] []) : P w 278 [some (.ref b), some (.ref (g_ad g 10 0)), some (.ref (g_ad g 9 0)), some (.int (nI i))] [] := by
  obtain ⟨r, w1, Z, s1, s2, s3⟩ := st_tell (l := l) (g := g) hR hN (xs (nI (i + 1)).toNatClampNeg) (xs (nI (i + 2)).toNatClampNeg) (xs (nI (i + 3)).toNatClampNeg) (xs (nI (i + 4)).toNatClampNeg)
  refine pw_aload_n hX rfl dL_law_278 (q := 279) rfl ?_
  refine pw_aload_n hX rfl dL_law_279 (q := 280) rfl ?_
  refine pw_iload_n hX rfl dL_law_280 (q := 281) rfl ?_
  refine pw_iconst hX (k := 1) rfl (by decide) dL_law_281 (q := 282) rfl ?_
  refine pw_iaddN hX dL_law_282 (q := 283) rfl ?_
  refine pw_sld hX hb0 (vp_in_nI (by omega) (by omega)) dL_law_283 (q := 284) rfl ?_
  refine pw_aload_n hX rfl dL_law_284 (q := 285) rfl ?_
  refine pw_iload_n hX rfl dL_law_285 (q := 286) rfl ?_
  refine pw_iconst hX (k := 2) rfl (by decide) dL_law_286 (q := 287) rfl ?_
  refine pw_iaddN hX dL_law_287 (q := 288) rfl ?_
  refine pw_sld hX hb0 (vp_in_nI (by omega) (by omega)) dL_law_288 (q := 289) rfl ?_
  refine pw_aload_n hX rfl dL_law_289 (q := 290) rfl ?_
  refine pw_iload_n hX rfl dL_law_290 (q := 291) rfl ?_
  refine pw_iconst hX (k := 3) rfl (by decide) dL_law_291 (q := 292) rfl ?_
  refine pw_iaddN hX dL_law_292 (q := 293) rfl ?_
  refine pw_sld hX hb0 (vp_in_nI (by omega) (by omega)) dL_law_293 (q := 294) rfl ?_
  refine pw_aload_n hX rfl dL_law_294 (q := 295) rfl ?_
  refine pw_iload_n hX rfl dL_law_295 (q := 296) rfl ?_
  refine pw_iconst hX (k := 4) rfl (by decide) dL_law_296 (q := 297) rfl ?_
  refine pw_iaddN hX dL_law_297 (q := 298) rfl ?_
  refine pw_sld hX hb0 (vp_in_nI (by omega) (by omega)) dL_law_298 (q := 299) rfl ?_
  refine pw_cvI4 hX dL_law_299 (q := 302) rfl mi_X3_tell ml_L_40 rcR ⟨rfl, rfl, by decide, by decide⟩ rfl (Nat.le_of_ble_eq_true rfl) s1 ?_
  refine pw_aload_n hX rfl dL_law_302 (q := 303) rfl ?_
  refine pw_aload_n hX rfl dL_law_303 (q := 304) rfl ?_
  refine pw_iload_n hX rfl dL_law_304 (q := 305) rfl ?_
  refine pw_iconst hX (k := 1) rfl (by decide) dL_law_305 (q := 306) rfl ?_
  refine pw_iaddN hX dL_law_306 (q := 307) rfl ?_
  refine pw_sld hX hb0 (vp_in_nI (by omega) (by omega)) dL_law_307 (q := 308) rfl ?_
  refine pw_aload_n hX rfl dL_law_308 (q := 309) rfl ?_
  refine pw_iload_n hX rfl dL_law_309 (q := 310) rfl ?_
  refine pw_iconst hX (k := 2) rfl (by decide) dL_law_310 (q := 311) rfl ?_
  refine pw_iaddN hX dL_law_311 (q := 312) rfl ?_
  refine pw_sld hX hb0 (vp_in_nI (by omega) (by omega)) dL_law_312 (q := 313) rfl ?_
  refine pw_aload_n hX rfl dL_law_313 (q := 314) rfl ?_
  refine pw_iload_n hX rfl dL_law_314 (q := 315) rfl ?_
  refine pw_iconst hX (k := 3) rfl (by decide) dL_law_315 (q := 316) rfl ?_
  refine pw_iaddN hX dL_law_316 (q := 317) rfl ?_
  refine pw_sld hX hb0 (vp_in_nI (by omega) (by omega)) dL_law_317 (q := 318) rfl ?_
  refine pw_aload_n hX rfl dL_law_318 (q := 319) rfl ?_
  refine pw_iload_n hX rfl dL_law_319 (q := 320) rfl ?_
  refine pw_iconst hX (k := 4) rfl (by decide) dL_law_320 (q := 321) rfl ?_
  refine pw_iaddN hX dL_law_321 (q := 322) rfl ?_
  refine pw_sld hX hb0 (vp_in_nI (by omega) (by omega)) dL_law_322 (q := 323) rfl ?_
  refine pw_cvE4 hX dL_law_323 (q := 326) rfl mi_X4_tell ml_L_44 rcM ⟨rfl, rfl, by decide, by decide⟩ rfl (Nat.le_of_ble_eq_true rfl) s2 (fun z hz => ?_)
  refine pw_icmp_eq hX (tgt := 729) dL_law_326 (q := 329) rfl (by decide) (fun _ => ?_) (fun hne => absurd rfl hne)
  exact kk z (s3 z hz)
set_option maxHeartbeats 800000 in
set_option maxRecDepth 20000 in
theorem lc_7 {l : Launch} {g : Geo} {X : Nat → Nat → (Nat → Int32) → Prop} {P : PT} (hX : Gd l g RL cL_law room_1 4 (some .boolean) (fun r _ => r = some (.int 1)) X P) {b L : Nat} {xs : Nat → Int32} (hb0 : X b L xs) (hL : L ≤ 2560) {i N : Nat} {w : WD} (hi : i + 5 ≤ L) (hR : RW w N) (hN : N ≤ 2 ^ 26 - 200) (kk : ∀ z, RW z (N + 60) → P z 729 [some (.ref b), some (.ref (g_ad g 10 0)), some (.ref (g_ad g 9 0)), some (.int (nI i))] []) : P w 331 [some (.ref b), some (.ref (g_ad g 10 0)), some (.ref (g_ad g 9 0)), some (.int (nI i))] [] := by
  obtain ⟨r, w1, Z, s1, s2, s3⟩ := st_bury (l := l) (g := g) hR hN (xs (nI (i + 1)).toNatClampNeg) (xs (nI (i + 2)).toNatClampNeg)
  refine pw_aload_n hX rfl dL_law_331 (q := 332) rfl ?_
  refine pw_aload_n hX rfl dL_law_332 (q := 333) rfl ?_
  refine pw_iload_n hX rfl dL_law_333 (q := 334) rfl ?_
  refine pw_iconst hX (k := 1) rfl (by decide) dL_law_334 (q := 335) rfl ?_
  refine pw_iaddN hX dL_law_335 (q := 336) rfl ?_
  refine pw_sld hX hb0 (vp_in_nI (by omega) (by omega)) dL_law_336 (q := 337) rfl ?_
  refine pw_aload_n hX rfl dL_law_337 (q := 338) rfl ?_
  refine pw_iload_n hX rfl dL_law_338 (q := 339) rfl ?_
  refine pw_iconst hX (k := 2) rfl (by decide) dL_law_339 (q := 340) rfl ?_
  refine pw_iaddN hX dL_law_340 (q := 341) rfl ?_
  refine pw_sld hX hb0 (vp_in_nI (by omega) (by omega)) dL_law_341 (q := 342) rfl ?_
  refine pw_cvI2 hX dL_law_342 (q := 345) rfl mi_X3_bury ml_L_45 rcR ⟨rfl, rfl, by decide, by decide⟩ rfl (Nat.le_of_ble_eq_true rfl) s1 ?_
  refine pw_aload_n hX rfl dL_law_345 (q := 346) rfl ?_
  refine pw_aload_n hX rfl dL_law_346 (q := 347) rfl ?_
  refine pw_iload_n hX rfl dL_law_347 (q := 348) rfl ?_
  refine pw_iconst hX (k := 1) rfl (by decide) dL_law_348 (q := 349) rfl ?_
  refine pw_iaddN hX dL_law_349 (q := 350) rfl ?_
  refine pw_sld hX hb0 (vp_in_nI (by omega) (by omega)) dL_law_350 (q := 351) rfl ?_
  refine pw_aload_n hX rfl dL_law_351 (q := 352) rfl ?_
  refine pw_iload_n hX rfl dL_law_352 (q := 353) rfl ?_
  refine pw_iconst hX (k := 2) rfl (by decide) dL_law_353 (q := 354) rfl ?_
  refine pw_iaddN hX dL_law_354 (q := 355) rfl ?_
  refine pw_sld hX hb0 (vp_in_nI (by omega) (by omega)) dL_law_355 (q := 356) rfl ?_
  refine pw_cvE2 hX dL_law_356 (q := 359) rfl mi_X4_bury ml_L_48 rcM ⟨rfl, rfl, by decide, by decide⟩ rfl (Nat.le_of_ble_eq_true rfl) s2 (fun z hz => ?_)
  refine pw_icmp_eq hX (tgt := 729) dL_law_359 (q := 362) rfl (by decide) (fun _ => ?_) (fun hne => absurd rfl hne)
  exact kk z (s3 z hz)
set_option maxHeartbeats 800000 in
set_option maxRecDepth 20000 in
theorem lc_8 {l : Launch} {g : Geo} {X : Nat → Nat → (Nat → Int32) → Prop} {P : PT} (hX : Gd l g RL cL_law room_1 4 (some .boolean) (fun r _ => r = some (.int 1)) X P) {b L : Nat} {xs : Nat → Int32} (hb0 : X b L xs) (hL : L ≤ 2560) {i N : Nat} {w : WD} (hi : i + 5 ≤ L) (hR : RW w N) (hN : N ≤ 2 ^ 26 - 200) (kk : ∀ z, RW z (N + 60) → P z 729 [some (.ref b), some (.ref (g_ad g 10 0)), some (.ref (g_ad g 9 0)), some (.int (nI i))] []) : P w 364 [some (.ref b), some (.ref (g_ad g 10 0)), some (.ref (g_ad g 9 0)), some (.int (nI i))] [] := by
  obtain ⟨r, w1, Z, s1, s2, s3⟩ := st_meet (l := l) (g := g) hR hN (xs (nI (i + 1)).toNatClampNeg) (xs (nI (i + 2)).toNatClampNeg)
  refine pw_aload_n hX rfl dL_law_364 (q := 365) rfl ?_
  refine pw_aload_n hX rfl dL_law_365 (q := 366) rfl ?_
  refine pw_iload_n hX rfl dL_law_366 (q := 367) rfl ?_
  refine pw_iconst hX (k := 1) rfl (by decide) dL_law_367 (q := 368) rfl ?_
  refine pw_iaddN hX dL_law_368 (q := 369) rfl ?_
  refine pw_sld hX hb0 (vp_in_nI (by omega) (by omega)) dL_law_369 (q := 370) rfl ?_
  refine pw_aload_n hX rfl dL_law_370 (q := 371) rfl ?_
  refine pw_iload_n hX rfl dL_law_371 (q := 372) rfl ?_
  refine pw_iconst hX (k := 2) rfl (by decide) dL_law_372 (q := 373) rfl ?_
  refine pw_iaddN hX dL_law_373 (q := 374) rfl ?_
  refine pw_sld hX hb0 (vp_in_nI (by omega) (by omega)) dL_law_374 (q := 375) rfl ?_
  refine pw_cvI2 hX dL_law_375 (q := 378) rfl mi_X3_meet ml_L_49 rcR ⟨rfl, rfl, by decide, by decide⟩ rfl (Nat.le_of_ble_eq_true rfl) s1 ?_
  refine pw_aload_n hX rfl dL_law_378 (q := 379) rfl ?_
  refine pw_aload_n hX rfl dL_law_379 (q := 380) rfl ?_
  refine pw_iload_n hX rfl dL_law_380 (q := 381) rfl ?_
  refine pw_iconst hX (k := 1) rfl (by decide) dL_law_381 (q := 382) rfl ?_
  refine pw_iaddN hX dL_law_382 (q := 383) rfl ?_
  refine pw_sld hX hb0 (vp_in_nI (by omega) (by omega)) dL_law_383 (q := 384) rfl ?_
  refine pw_aload_n hX rfl dL_law_384 (q := 385) rfl ?_
  refine pw_iload_n hX rfl dL_law_385 (q := 386) rfl ?_
  refine pw_iconst hX (k := 2) rfl (by decide) dL_law_386 (q := 387) rfl ?_
  refine pw_iaddN hX dL_law_387 (q := 388) rfl ?_
  refine pw_sld hX hb0 (vp_in_nI (by omega) (by omega)) dL_law_388 (q := 389) rfl ?_
  refine pw_cvE2 hX dL_law_389 (q := 392) rfl mi_X4_meet ml_L_52 rcM ⟨rfl, rfl, by decide, by decide⟩ rfl (Nat.le_of_ble_eq_true rfl) s2 (fun z hz => ?_)
  refine pw_icmp_eq hX (tgt := 729) dL_law_392 (q := 395) rfl (by decide) (fun _ => ?_) (fun hne => absurd rfl hne)
  exact kk z (s3 z hz)
set_option maxHeartbeats 800000 in
set_option maxRecDepth 20000 in
theorem lc_9 {l : Launch} {g : Geo} {X : Nat → Nat → (Nat → Int32) → Prop} {P : PT} (hX : Gd l g RL cL_law room_1 4 (some .boolean) (fun r _ => r = some (.int 1)) X P) {b L : Nat} {xs : Nat → Int32} (hb0 : X b L xs) (hL : L ≤ 2560) {i N : Nat} {w : WD} (hi : i + 5 ≤ L) (hR : RW w N) (hN : N ≤ 2 ^ 26 - 200) (kk : ∀ z, RW z (N + 60) → P z 729 [some (.ref b), some (.ref (g_ad g 10 0)), some (.ref (g_ad g 9 0)), some (.int (nI i))] []) : P w 397 [some (.ref b), some (.ref (g_ad g 10 0)), some (.ref (g_ad g 9 0)), some (.int (nI i))] [] := by
  obtain ⟨r, w1, Z, s1, s2, s3⟩ := st_entryOf (l := l) (g := g) hR hN (xs (nI (i + 1)).toNatClampNeg) (xs (nI (i + 2)).toNatClampNeg) (xs (nI (i + 3)).toNatClampNeg)
  refine pw_aload_n hX rfl dL_law_397 (q := 398) rfl ?_
  refine pw_aload_n hX rfl dL_law_398 (q := 399) rfl ?_
  refine pw_iload_n hX rfl dL_law_399 (q := 400) rfl ?_
  refine pw_iconst hX (k := 1) rfl (by decide) dL_law_400 (q := 401) rfl ?_
  refine pw_iaddN hX dL_law_401 (q := 402) rfl ?_
  refine pw_sld hX hb0 (vp_in_nI (by omega) (by omega)) dL_law_402 (q := 403) rfl ?_
  refine pw_aload_n hX rfl dL_law_403 (q := 404) rfl ?_
  refine pw_iload_n hX rfl dL_law_404 (q := 405) rfl ?_
  refine pw_iconst hX (k := 2) rfl (by decide) dL_law_405 (q := 406) rfl ?_
  refine pw_iaddN hX dL_law_406 (q := 407) rfl ?_
  refine pw_sld hX hb0 (vp_in_nI (by omega) (by omega)) dL_law_407 (q := 408) rfl ?_
  refine pw_aload_n hX rfl dL_law_408 (q := 409) rfl ?_
  refine pw_iload_n hX rfl dL_law_409 (q := 410) rfl ?_
  refine pw_iconst hX (k := 3) rfl (by decide) dL_law_410 (q := 411) rfl ?_
  refine pw_iaddN hX dL_law_411 (q := 412) rfl ?_
  refine pw_sld hX hb0 (vp_in_nI (by omega) (by omega)) dL_law_412 (q := 413) rfl ?_
  refine pw_cvI3 hX dL_law_413 (q := 416) rfl mi_X3_entryOf ml_L_53 rcR ⟨rfl, rfl, by decide, by decide⟩ rfl (Nat.le_of_ble_eq_true rfl) s1 ?_
  refine pw_aload_n hX rfl dL_law_416 (q := 417) rfl ?_
  refine pw_aload_n hX rfl dL_law_417 (q := 418) rfl ?_
  refine pw_iload_n hX rfl dL_law_418 (q := 419) rfl ?_
  refine pw_iconst hX (k := 1) rfl (by decide) dL_law_419 (q := 420) rfl ?_
  refine pw_iaddN hX dL_law_420 (q := 421) rfl ?_
  refine pw_sld hX hb0 (vp_in_nI (by omega) (by omega)) dL_law_421 (q := 422) rfl ?_
  refine pw_aload_n hX rfl dL_law_422 (q := 423) rfl ?_
  refine pw_iload_n hX rfl dL_law_423 (q := 424) rfl ?_
  refine pw_iconst hX (k := 2) rfl (by decide) dL_law_424 (q := 425) rfl ?_
  refine pw_iaddN hX dL_law_425 (q := 426) rfl ?_
  refine pw_sld hX hb0 (vp_in_nI (by omega) (by omega)) dL_law_426 (q := 427) rfl ?_
  refine pw_aload_n hX rfl dL_law_427 (q := 428) rfl ?_
  refine pw_iload_n hX rfl dL_law_428 (q := 429) rfl ?_
  refine pw_iconst hX (k := 3) rfl (by decide) dL_law_429 (q := 430) rfl ?_
  refine pw_iaddN hX dL_law_430 (q := 431) rfl ?_
  refine pw_sld hX hb0 (vp_in_nI (by omega) (by omega)) dL_law_431 (q := 432) rfl ?_
  refine pw_cvE3 hX dL_law_432 (q := 435) rfl mi_X4_entryOf ml_L_57 rcM ⟨rfl, rfl, by decide, by decide⟩ rfl (Nat.le_of_ble_eq_true rfl) s2 (fun z hz => ?_)
  refine pw_icmp_eq hX (tgt := 729) dL_law_435 (q := 438) rfl (by decide) (fun _ => ?_) (fun hne => absurd rfl hne)
  exact kk z (s3 z hz)
set_option maxHeartbeats 800000 in
set_option maxRecDepth 20000 in
theorem lc_10 {l : Launch} {g : Geo} {X : Nat → Nat → (Nat → Int32) → Prop} {P : PT} (hX : Gd l g RL cL_law room_1 4 (some .boolean) (fun r _ => r = some (.int 1)) X P) {b L : Nat} {xs : Nat → Int32} (hb0 : X b L xs) (hL : L ≤ 2560) {i N : Nat} {w : WD} (hi : i + 5 ≤ L) (hR : RW w N) (hN : N ≤ 2 ^ 26 - 200) (kk : ∀ z, RW z (N + 60) → P z 729 [some (.ref b), some (.ref (g_ad g 10 0)), some (.ref (g_ad g 9 0)), some (.int (nI i))] []) : P w 440 [some (.ref b), some (.ref (g_ad g 10 0)), some (.ref (g_ad g 9 0)), some (.int (nI i))] [] := by
  obtain ⟨r, w1, Z, s1, s2, s3⟩ := st_tick (l := l) (g := g) hR hN (xs (nI (i + 1)).toNatClampNeg)
  refine pw_aload_n hX rfl dL_law_440 (q := 441) rfl ?_
  refine pw_aload_n hX rfl dL_law_441 (q := 442) rfl ?_
  refine pw_iload_n hX rfl dL_law_442 (q := 443) rfl ?_
  refine pw_iconst hX (k := 1) rfl (by decide) dL_law_443 (q := 444) rfl ?_
  refine pw_iaddN hX dL_law_444 (q := 445) rfl ?_
  refine pw_sld hX hb0 (vp_in_nI (by omega) (by omega)) dL_law_445 (q := 446) rfl ?_
  refine pw_cvI1 hX dL_law_446 (q := 449) rfl mi_X3_tick ml_L_58 rcR ⟨rfl, rfl, by decide, by decide⟩ rfl (Nat.le_of_ble_eq_true rfl) s1 ?_
  refine pw_aload_n hX rfl dL_law_449 (q := 450) rfl ?_
  refine pw_aload_n hX rfl dL_law_450 (q := 451) rfl ?_
  refine pw_iload_n hX rfl dL_law_451 (q := 452) rfl ?_
  refine pw_iconst hX (k := 1) rfl (by decide) dL_law_452 (q := 453) rfl ?_
  refine pw_iaddN hX dL_law_453 (q := 454) rfl ?_
  refine pw_sld hX hb0 (vp_in_nI (by omega) (by omega)) dL_law_454 (q := 455) rfl ?_
  refine pw_cvE1 hX dL_law_455 (q := 458) rfl mi_X4_tick ml_L_61 rcM ⟨rfl, rfl, by decide, by decide⟩ rfl (Nat.le_of_ble_eq_true rfl) s2 (fun z hz => ?_)
  refine pw_icmp_eq hX (tgt := 729) dL_law_458 (q := 461) rfl (by decide) (fun _ => ?_) (fun hne => absurd rfl hne)
  exact kk z (s3 z hz)
set_option maxHeartbeats 800000 in
set_option maxRecDepth 20000 in
theorem lc_11 {l : Launch} {g : Geo} {X : Nat → Nat → (Nat → Int32) → Prop} {P : PT} (hX : Gd l g RL cL_law room_1 4 (some .boolean) (fun r _ => r = some (.int 1)) X P) {b L : Nat} {xs : Nat → Int32} (hb0 : X b L xs) (hL : L ≤ 2560) {i N : Nat} {w : WD} (hi : i + 5 ≤ L) (hR : RW w N) (hN : N ≤ 2 ^ 26 - 200) (kk : ∀ z, RW z (N + 60) → P z 729 [some (.ref b), some (.ref (g_ad g 10 0)), some (.ref (g_ad g 9 0)), some (.int (nI i))] []) : P w 463 [some (.ref b), some (.ref (g_ad g 10 0)), some (.ref (g_ad g 9 0)), some (.int (nI i))] [] := by
  obtain ⟨r, w1, Z, s1, s2, s3⟩ := st_newest (l := l) (g := g) hR hN (xs (nI (i + 1)).toNatClampNeg)
  refine pw_aload_n hX rfl dL_law_463 (q := 464) rfl ?_
  refine pw_aload_n hX rfl dL_law_464 (q := 465) rfl ?_
  refine pw_iload_n hX rfl dL_law_465 (q := 466) rfl ?_
  refine pw_iconst hX (k := 1) rfl (by decide) dL_law_466 (q := 467) rfl ?_
  refine pw_iaddN hX dL_law_467 (q := 468) rfl ?_
  refine pw_sld hX hb0 (vp_in_nI (by omega) (by omega)) dL_law_468 (q := 469) rfl ?_
  refine pw_cvI1 hX dL_law_469 (q := 472) rfl mi_X3_newest ml_L_62 rcR ⟨rfl, rfl, by decide, by decide⟩ rfl (Nat.le_of_ble_eq_true rfl) s1 ?_
  refine pw_aload_n hX rfl dL_law_472 (q := 473) rfl ?_
  refine pw_aload_n hX rfl dL_law_473 (q := 474) rfl ?_
  refine pw_iload_n hX rfl dL_law_474 (q := 475) rfl ?_
  refine pw_iconst hX (k := 1) rfl (by decide) dL_law_475 (q := 476) rfl ?_
  refine pw_iaddN hX dL_law_476 (q := 477) rfl ?_
  refine pw_sld hX hb0 (vp_in_nI (by omega) (by omega)) dL_law_477 (q := 478) rfl ?_
  refine pw_cvE1 hX dL_law_478 (q := 481) rfl mi_X4_newest ml_L_65 rcM ⟨rfl, rfl, by decide, by decide⟩ rfl (Nat.le_of_ble_eq_true rfl) s2 (fun z hz => ?_)
  refine pw_icmp_eq hX (tgt := 729) dL_law_481 (q := 484) rfl (by decide) (fun _ => ?_) (fun hne => absurd rfl hne)
  exact kk z (s3 z hz)
set_option maxHeartbeats 800000 in
set_option maxRecDepth 20000 in
theorem lc_12 {l : Launch} {g : Geo} {X : Nat → Nat → (Nat → Int32) → Prop} {P : PT} (hX : Gd l g RL cL_law room_1 4 (some .boolean) (fun r _ => r = some (.int 1)) X P) {b L : Nat} {xs : Nat → Int32} (hb0 : X b L xs) (hL : L ≤ 2560) {i N : Nat} {w : WD} (hi : i + 5 ≤ L) (hR : RW w N) (hN : N ≤ 2 ^ 26 - 200) (kk : ∀ z, RW z (N + 60) → P z 729 [some (.ref b), some (.ref (g_ad g 10 0)), some (.ref (g_ad g 9 0)), some (.int (nI i))] []) : P w 486 [some (.ref b), some (.ref (g_ad g 10 0)), some (.ref (g_ad g 9 0)), some (.int (nI i))] [] := by
  obtain ⟨r, w1, Z, s1, s2, s3⟩ := st_unlike (l := l) (g := g) hR hN (xs (nI (i + 1)).toNatClampNeg) (xs (nI (i + 2)).toNatClampNeg)
  refine pw_aload_n hX rfl dL_law_486 (q := 487) rfl ?_
  refine pw_aload_n hX rfl dL_law_487 (q := 488) rfl ?_
  refine pw_iload_n hX rfl dL_law_488 (q := 489) rfl ?_
  refine pw_iconst hX (k := 1) rfl (by decide) dL_law_489 (q := 490) rfl ?_
  refine pw_iaddN hX dL_law_490 (q := 491) rfl ?_
  refine pw_sld hX hb0 (vp_in_nI (by omega) (by omega)) dL_law_491 (q := 492) rfl ?_
  refine pw_aload_n hX rfl dL_law_492 (q := 493) rfl ?_
  refine pw_iload_n hX rfl dL_law_493 (q := 494) rfl ?_
  refine pw_iconst hX (k := 2) rfl (by decide) dL_law_494 (q := 495) rfl ?_
  refine pw_iaddN hX dL_law_495 (q := 496) rfl ?_
  refine pw_sld hX hb0 (vp_in_nI (by omega) (by omega)) dL_law_496 (q := 497) rfl ?_
  refine pw_cvI2 hX dL_law_497 (q := 500) rfl mi_X3_unlike ml_L_66 rcR ⟨rfl, rfl, by decide, by decide⟩ rfl (Nat.le_of_ble_eq_true rfl) s1 ?_
  refine pw_aload_n hX rfl dL_law_500 (q := 501) rfl ?_
  refine pw_aload_n hX rfl dL_law_501 (q := 502) rfl ?_
  refine pw_iload_n hX rfl dL_law_502 (q := 503) rfl ?_
  refine pw_iconst hX (k := 1) rfl (by decide) dL_law_503 (q := 504) rfl ?_
  refine pw_iaddN hX dL_law_504 (q := 505) rfl ?_
  refine pw_sld hX hb0 (vp_in_nI (by omega) (by omega)) dL_law_505 (q := 506) rfl ?_
  refine pw_aload_n hX rfl dL_law_506 (q := 507) rfl ?_
  refine pw_iload_n hX rfl dL_law_507 (q := 508) rfl ?_
  refine pw_iconst hX (k := 2) rfl (by decide) dL_law_508 (q := 509) rfl ?_
  refine pw_iaddN hX dL_law_509 (q := 510) rfl ?_
  refine pw_sld hX hb0 (vp_in_nI (by omega) (by omega)) dL_law_510 (q := 511) rfl ?_
  refine pw_cvE2 hX dL_law_511 (q := 514) rfl mi_X4_unlike ml_L_69 rcM ⟨rfl, rfl, by decide, by decide⟩ rfl (Nat.le_of_ble_eq_true rfl) s2 (fun z hz => ?_)
  refine pw_icmp_eq hX (tgt := 729) dL_law_514 (q := 517) rfl (by decide) (fun _ => ?_) (fun hne => absurd rfl hne)
  exact kk z (s3 z hz)
set_option maxHeartbeats 800000 in
set_option maxRecDepth 20000 in
theorem lc_13 {l : Launch} {g : Geo} {X : Nat → Nat → (Nat → Int32) → Prop} {P : PT} (hX : Gd l g RL cL_law room_1 4 (some .boolean) (fun r _ => r = some (.int 1)) X P) {b L : Nat} {xs : Nat → Int32} (hb0 : X b L xs) (hL : L ≤ 2560) {i N : Nat} {w : WD} (hi : i + 5 ≤ L) (hR : RW w N) (hN : N ≤ 2 ^ 26 - 200) (kk : ∀ z, RW z (N + 60) → P z 729 [some (.ref b), some (.ref (g_ad g 10 0)), some (.ref (g_ad g 9 0)), some (.int (nI i))] []) : P w 519 [some (.ref b), some (.ref (g_ad g 10 0)), some (.ref (g_ad g 9 0)), some (.int (nI i))] [] := by
  obtain ⟨r, w1, Z, s1, s2, s3⟩ := st_dead (l := l) (g := g) hR hN (xs (nI (i + 1)).toNatClampNeg)
  refine pw_aload_n hX rfl dL_law_519 (q := 520) rfl ?_
  refine pw_aload_n hX rfl dL_law_520 (q := 521) rfl ?_
  refine pw_iload_n hX rfl dL_law_521 (q := 522) rfl ?_
  refine pw_iconst hX (k := 1) rfl (by decide) dL_law_522 (q := 523) rfl ?_
  refine pw_iaddN hX dL_law_523 (q := 524) rfl ?_
  refine pw_sld hX hb0 (vp_in_nI (by omega) (by omega)) dL_law_524 (q := 525) rfl ?_
  refine pw_cvI1 hX dL_law_525 (q := 528) rfl mi_X3_dead ml_L_70 rcR ⟨rfl, rfl, by decide, by decide⟩ rfl (Nat.le_of_ble_eq_true rfl) s1 ?_
  refine pw_aload_n hX rfl dL_law_528 (q := 529) rfl ?_
  refine pw_aload_n hX rfl dL_law_529 (q := 530) rfl ?_
  refine pw_iload_n hX rfl dL_law_530 (q := 531) rfl ?_
  refine pw_iconst hX (k := 1) rfl (by decide) dL_law_531 (q := 532) rfl ?_
  refine pw_iaddN hX dL_law_532 (q := 533) rfl ?_
  refine pw_sld hX hb0 (vp_in_nI (by omega) (by omega)) dL_law_533 (q := 534) rfl ?_
  refine pw_cvE1 hX dL_law_534 (q := 537) rfl mi_X4_dead ml_L_73 rcM ⟨rfl, rfl, by decide, by decide⟩ rfl (Nat.le_of_ble_eq_true rfl) s2 (fun z hz => ?_)
  refine pw_icmp_eq hX (tgt := 729) dL_law_537 (q := 540) rfl (by decide) (fun _ => ?_) (fun hne => absurd rfl hne)
  exact kk z (s3 z hz)
set_option maxHeartbeats 800000 in
set_option maxRecDepth 20000 in
theorem lc_14 {l : Launch} {g : Geo} {X : Nat → Nat → (Nat → Int32) → Prop} {P : PT} (hX : Gd l g RL cL_law room_1 4 (some .boolean) (fun r _ => r = some (.int 1)) X P) {b L : Nat} {xs : Nat → Int32} (hb0 : X b L xs) (hL : L ≤ 2560) {i N : Nat} {w : WD} (hi : i + 5 ≤ L) (hR : RW w N) (hN : N ≤ 2 ^ 26 - 200) (kk : ∀ z, RW z (N + 60) → P z 729 [some (.ref b), some (.ref (g_ad g 10 0)), some (.ref (g_ad g 9 0)), some (.int (nI i))] []) : P w 542 [some (.ref b), some (.ref (g_ad g 10 0)), some (.ref (g_ad g 9 0)), some (.int (nI i))] [] := by
  obtain ⟨r, w1, Z, s1, s2, s3⟩ := st_ghosts (l := l) (g := g) hR hN (xs (nI (i + 1)).toNatClampNeg) (xs (nI (i + 2)).toNatClampNeg) (xs (nI (i + 3)).toNatClampNeg)
  refine pw_aload_n hX rfl dL_law_542 (q := 543) rfl ?_
  refine pw_aload_n hX rfl dL_law_543 (q := 544) rfl ?_
  refine pw_iload_n hX rfl dL_law_544 (q := 545) rfl ?_
  refine pw_iconst hX (k := 1) rfl (by decide) dL_law_545 (q := 546) rfl ?_
  refine pw_iaddN hX dL_law_546 (q := 547) rfl ?_
  refine pw_sld hX hb0 (vp_in_nI (by omega) (by omega)) dL_law_547 (q := 548) rfl ?_
  refine pw_aload_n hX rfl dL_law_548 (q := 549) rfl ?_
  refine pw_iload_n hX rfl dL_law_549 (q := 550) rfl ?_
  refine pw_iconst hX (k := 2) rfl (by decide) dL_law_550 (q := 551) rfl ?_
  refine pw_iaddN hX dL_law_551 (q := 552) rfl ?_
  refine pw_sld hX hb0 (vp_in_nI (by omega) (by omega)) dL_law_552 (q := 553) rfl ?_
  refine pw_aload_n hX rfl dL_law_553 (q := 554) rfl ?_
  refine pw_iload_n hX rfl dL_law_554 (q := 555) rfl ?_
  refine pw_iconst hX (k := 3) rfl (by decide) dL_law_555 (q := 556) rfl ?_
  refine pw_iaddN hX dL_law_556 (q := 557) rfl ?_
  refine pw_sld hX hb0 (vp_in_nI (by omega) (by omega)) dL_law_557 (q := 558) rfl ?_
  refine pw_cvI3 hX dL_law_558 (q := 561) rfl mi_X3_ghosts ml_L_74 rcR ⟨rfl, rfl, by decide, by decide⟩ rfl (Nat.le_of_ble_eq_true rfl) s1 ?_
  refine pw_aload_n hX rfl dL_law_561 (q := 562) rfl ?_
  refine pw_aload_n hX rfl dL_law_562 (q := 563) rfl ?_
  refine pw_iload_n hX rfl dL_law_563 (q := 564) rfl ?_
  refine pw_iconst hX (k := 1) rfl (by decide) dL_law_564 (q := 565) rfl ?_
  refine pw_iaddN hX dL_law_565 (q := 566) rfl ?_
  refine pw_sld hX hb0 (vp_in_nI (by omega) (by omega)) dL_law_566 (q := 567) rfl ?_
  refine pw_aload_n hX rfl dL_law_567 (q := 568) rfl ?_
  refine pw_iload_n hX rfl dL_law_568 (q := 569) rfl ?_
  refine pw_iconst hX (k := 2) rfl (by decide) dL_law_569 (q := 570) rfl ?_
  refine pw_iaddN hX dL_law_570 (q := 571) rfl ?_
  refine pw_sld hX hb0 (vp_in_nI (by omega) (by omega)) dL_law_571 (q := 572) rfl ?_
  refine pw_aload_n hX rfl dL_law_572 (q := 573) rfl ?_
  refine pw_iload_n hX rfl dL_law_573 (q := 574) rfl ?_
  refine pw_iconst hX (k := 3) rfl (by decide) dL_law_574 (q := 575) rfl ?_
  refine pw_iaddN hX dL_law_575 (q := 576) rfl ?_
  refine pw_sld hX hb0 (vp_in_nI (by omega) (by omega)) dL_law_576 (q := 577) rfl ?_
  refine pw_cvE3 hX dL_law_577 (q := 580) rfl mi_X4_ghosts ml_L_77 rcM ⟨rfl, rfl, by decide, by decide⟩ rfl (Nat.le_of_ble_eq_true rfl) s2 (fun z hz => ?_)
  refine pw_icmp_eq hX (tgt := 729) dL_law_580 (q := 583) rfl (by decide) (fun _ => ?_) (fun hne => absurd rfl hne)
  exact kk z (s3 z hz)
set_option maxHeartbeats 800000 in
set_option maxRecDepth 20000 in
theorem lc_15 {l : Launch} {g : Geo} {X : Nat → Nat → (Nat → Int32) → Prop} {P : PT} (hX : Gd l g RL cL_law room_1 4 (some .boolean) (fun r _ => r = some (.int 1)) X P) {b L : Nat} {xs : Nat → Int32} (hb0 : X b L xs) (hL : L ≤ 2560) {i N : Nat} {w : WD} (hi : i + 5 ≤ L) (hR : RW w N) (hN : N ≤ 2 ^ 26 - 200) (kk : ∀ z, RW z (N + 60) → P z 729 [some (.ref b), some (.ref (g_ad g 10 0)), some (.ref (g_ad g 9 0)), some (.int (nI i))] []) : P w 585 [some (.ref b), some (.ref (g_ad g 10 0)), some (.ref (g_ad g 9 0)), some (.int (nI i))] [] := by
  obtain ⟨r, w1, Z, s1, s2, s3⟩ := st_bestMeeting (l := l) (g := g) hR hN (xs (nI (i + 1)).toNatClampNeg)
  refine pw_aload_n hX rfl dL_law_585 (q := 586) rfl ?_
  refine pw_aload_n hX rfl dL_law_586 (q := 587) rfl ?_
  refine pw_iload_n hX rfl dL_law_587 (q := 588) rfl ?_
  refine pw_iconst hX (k := 1) rfl (by decide) dL_law_588 (q := 589) rfl ?_
  refine pw_iaddN hX dL_law_589 (q := 590) rfl ?_
  refine pw_sld hX hb0 (vp_in_nI (by omega) (by omega)) dL_law_590 (q := 591) rfl ?_
  refine pw_cvI1 hX dL_law_591 (q := 594) rfl mi_X3_bestMeeting ml_L_78 rcR ⟨rfl, rfl, by decide, by decide⟩ rfl (Nat.le_of_ble_eq_true rfl) s1 ?_
  refine pw_aload_n hX rfl dL_law_594 (q := 595) rfl ?_
  refine pw_aload_n hX rfl dL_law_595 (q := 596) rfl ?_
  refine pw_iload_n hX rfl dL_law_596 (q := 597) rfl ?_
  refine pw_iconst hX (k := 1) rfl (by decide) dL_law_597 (q := 598) rfl ?_
  refine pw_iaddN hX dL_law_598 (q := 599) rfl ?_
  refine pw_sld hX hb0 (vp_in_nI (by omega) (by omega)) dL_law_599 (q := 600) rfl ?_
  refine pw_cvE1 hX dL_law_600 (q := 603) rfl mi_X4_bestMeeting ml_L_81 rcM ⟨rfl, rfl, by decide, by decide⟩ rfl (Nat.le_of_ble_eq_true rfl) s2 (fun z hz => ?_)
  refine pw_icmp_eq hX (tgt := 729) dL_law_603 (q := 606) rfl (by decide) (fun _ => ?_) (fun hne => absurd rfl hne)
  exact kk z (s3 z hz)
set_option maxHeartbeats 800000 in
set_option maxRecDepth 20000 in
theorem lc_16 {l : Launch} {g : Geo} {X : Nat → Nat → (Nat → Int32) → Prop} {P : PT} (hX : Gd l g RL cL_law room_1 4 (some .boolean) (fun r _ => r = some (.int 1)) X P) {b L : Nat} {xs : Nat → Int32} (hb0 : X b L xs) (hL : L ≤ 2560) {i N : Nat} {w : WD} (hi : i + 5 ≤ L) (hR : RW w N) (hN : N ≤ 2 ^ 26 - 200) (kk : ∀ z, RW z (N + 60) → P z 729 [some (.ref b), some (.ref (g_ad g 10 0)), some (.ref (g_ad g 9 0)), some (.int (nI i))] []) : P w 608 [some (.ref b), some (.ref (g_ad g 10 0)), some (.ref (g_ad g 9 0)), some (.int (nI i))] [] := by
  obtain ⟨r, w1, Z, s1, s2, s3⟩ := st_rounds (l := l) (g := g) hR hN
  refine pw_aload_n hX rfl dL_law_608 (q := 609) rfl ?_
  refine pw_cvI0 hX dL_law_609 (q := 612) rfl mi_X3_rounds ml_L_82 rcR ⟨rfl, rfl, by decide, by decide⟩ rfl (Nat.le_of_ble_eq_true rfl) s1 ?_
  refine pw_aload_n hX rfl dL_law_612 (q := 613) rfl ?_
  refine pw_cvE0 hX dL_law_613 (q := 616) rfl mi_X4_rounds ml_L_85 rcM ⟨rfl, rfl, by decide, by decide⟩ rfl (Nat.le_of_ble_eq_true rfl) s2 (fun z hz => ?_)
  refine pw_icmp_eq hX (tgt := 729) dL_law_616 (q := 619) rfl (by decide) (fun _ => ?_) (fun hne => absurd rfl hne)
  exact kk z (s3 z hz)
set_option maxHeartbeats 800000 in
set_option maxRecDepth 20000 in
theorem lc_17 {l : Launch} {g : Geo} {X : Nat → Nat → (Nat → Int32) → Prop} {P : PT} (hX : Gd l g RL cL_law room_1 4 (some .boolean) (fun r _ => r = some (.int 1)) X P) {b L : Nat} {xs : Nat → Int32} (hb0 : X b L xs) (hL : L ≤ 2560) {i N : Nat} {w : WD} (hi : i + 5 ≤ L) (hR : RW w N) (hN : N ≤ 2 ^ 26 - 200) (kk : ∀ z, RW z (N + 60) → P z 729 [some (.ref b), some (.ref (g_ad g 10 0)), some (.ref (g_ad g 9 0)), some (.int (nI i))] []) : P w 621 [some (.ref b), some (.ref (g_ad g 10 0)), some (.ref (g_ad g 9 0)), some (.int (nI i))] [] := by
  obtain ⟨r, w1, Z, s1, s2, s3⟩ := st_count (l := l) (g := g) hR hN (xs (nI (i + 1)).toNatClampNeg)
  refine pw_aload_n hX rfl dL_law_621 (q := 622) rfl ?_
  refine pw_aload_n hX rfl dL_law_622 (q := 623) rfl ?_
  refine pw_iload_n hX rfl dL_law_623 (q := 624) rfl ?_
  refine pw_iconst hX (k := 1) rfl (by decide) dL_law_624 (q := 625) rfl ?_
  refine pw_iaddN hX dL_law_625 (q := 626) rfl ?_
  refine pw_sld hX hb0 (vp_in_nI (by omega) (by omega)) dL_law_626 (q := 627) rfl ?_
  refine pw_cvI1 hX dL_law_627 (q := 630) rfl mi_X3_count ml_L_86 rcR ⟨rfl, rfl, by decide, by decide⟩ rfl (Nat.le_of_ble_eq_true rfl) s1 ?_
  refine pw_aload_n hX rfl dL_law_630 (q := 631) rfl ?_
  refine pw_aload_n hX rfl dL_law_631 (q := 632) rfl ?_
  refine pw_iload_n hX rfl dL_law_632 (q := 633) rfl ?_
  refine pw_iconst hX (k := 1) rfl (by decide) dL_law_633 (q := 634) rfl ?_
  refine pw_iaddN hX dL_law_634 (q := 635) rfl ?_
  refine pw_sld hX hb0 (vp_in_nI (by omega) (by omega)) dL_law_635 (q := 636) rfl ?_
  refine pw_cvE1 hX dL_law_636 (q := 639) rfl mi_X4_count ml_L_89 rcM ⟨rfl, rfl, by decide, by decide⟩ rfl (Nat.le_of_ble_eq_true rfl) s2 (fun z hz => ?_)
  refine pw_icmp_eq hX (tgt := 729) dL_law_639 (q := 642) rfl (by decide) (fun _ => ?_) (fun hne => absurd rfl hne)
  exact kk z (s3 z hz)
set_option maxHeartbeats 800000 in
set_option maxRecDepth 20000 in
theorem lc_18 {l : Launch} {g : Geo} {X : Nat → Nat → (Nat → Int32) → Prop} {P : PT} (hX : Gd l g RL cL_law room_1 4 (some .boolean) (fun r _ => r = some (.int 1)) X P) {b L : Nat} {xs : Nat → Int32} (hb0 : X b L xs) (hL : L ≤ 2560) {i N : Nat} {w : WD} (hi : i + 5 ≤ L) (hR : RW w N) (hN : N ≤ 2 ^ 26 - 200) (kk : ∀ z, RW z (N + 60) → P z 729 [some (.ref b), some (.ref (g_ad g 10 0)), some (.ref (g_ad g 9 0)), some (.int (nI i))] []) : P w 644 [some (.ref b), some (.ref (g_ad g 10 0)), some (.ref (g_ad g 9 0)), some (.int (nI i))] [] := by
  obtain ⟨r, w1, Z, s1, s2, s3⟩ := st_undo (l := l) (g := g) hR hN
  refine pw_aload_n hX rfl dL_law_644 (q := 645) rfl ?_
  refine pw_cvI0 hX dL_law_645 (q := 648) rfl mi_X3_undo ml_L_90 rcR ⟨rfl, rfl, by decide, by decide⟩ rfl (Nat.le_of_ble_eq_true rfl) s1 ?_
  refine pw_aload_n hX rfl dL_law_648 (q := 649) rfl ?_
  refine pw_cvE0 hX dL_law_649 (q := 652) rfl mi_X4_undo ml_L_93 rcM ⟨rfl, rfl, by decide, by decide⟩ rfl (Nat.le_of_ble_eq_true rfl) s2 (fun z hz => ?_)
  refine pw_icmp_eq hX (tgt := 729) dL_law_652 (q := 655) rfl (by decide) (fun _ => ?_) (fun hne => absurd rfl hne)
  exact kk z (s3 z hz)
set_option maxHeartbeats 800000 in
set_option maxRecDepth 20000 in
theorem lc_19 {l : Launch} {g : Geo} {X : Nat → Nat → (Nat → Int32) → Prop} {P : PT} (hX : Gd l g RL cL_law room_1 4 (some .boolean) (fun r _ => r = some (.int 1)) X P) {b L : Nat} {xs : Nat → Int32} (hb0 : X b L xs) (hL : L ≤ 2560) {i N : Nat} {w : WD} (hi : i + 5 ≤ L) (hR : RW w N) (hN : N ≤ 2 ^ 26 - 200) (kk : ∀ z, RW z (N + 60) → P z 729 [some (.ref b), some (.ref (g_ad g 10 0)), some (.ref (g_ad g 9 0)), some (.int (nI i))] []) : P w 657 [some (.ref b), some (.ref (g_ad g 10 0)), some (.ref (g_ad g 9 0)), some (.int (nI i))] [] := by
  obtain ⟨r, w1, Z, s1, s2, s3⟩ := st_type (l := l) (g := g) hR hN (xs (nI (i + 1)).toNatClampNeg)
  refine pw_aload_n hX rfl dL_law_657 (q := 658) rfl ?_
  refine pw_aload_n hX rfl dL_law_658 (q := 659) rfl ?_
  refine pw_iload_n hX rfl dL_law_659 (q := 660) rfl ?_
  refine pw_iconst hX (k := 1) rfl (by decide) dL_law_660 (q := 661) rfl ?_
  refine pw_iaddN hX dL_law_661 (q := 662) rfl ?_
  refine pw_sld hX hb0 (vp_in_nI (by omega) (by omega)) dL_law_662 (q := 663) rfl ?_
  refine pw_cvI1 hX dL_law_663 (q := 666) rfl mi_X3_type ml_L_94 rcR ⟨rfl, rfl, by decide, by decide⟩ rfl (Nat.le_of_ble_eq_true rfl) s1 ?_
  refine pw_aload_n hX rfl dL_law_666 (q := 667) rfl ?_
  refine pw_aload_n hX rfl dL_law_667 (q := 668) rfl ?_
  refine pw_iload_n hX rfl dL_law_668 (q := 669) rfl ?_
  refine pw_iconst hX (k := 1) rfl (by decide) dL_law_669 (q := 670) rfl ?_
  refine pw_iaddN hX dL_law_670 (q := 671) rfl ?_
  refine pw_sld hX hb0 (vp_in_nI (by omega) (by omega)) dL_law_671 (q := 672) rfl ?_
  refine pw_cvE1 hX dL_law_672 (q := 675) rfl mi_X4_type ml_L_97 rcM ⟨rfl, rfl, by decide, by decide⟩ rfl (Nat.le_of_ble_eq_true rfl) s2 (fun z hz => ?_)
  refine pw_icmp_eq hX (tgt := 729) dL_law_675 (q := 678) rfl (by decide) (fun _ => ?_) (fun hne => absurd rfl hne)
  exact kk z (s3 z hz)
set_option maxHeartbeats 800000 in
set_option maxRecDepth 20000 in
theorem lc_20 {l : Launch} {g : Geo} {X : Nat → Nat → (Nat → Int32) → Prop} {P : PT} (hX : Gd l g RL cL_law room_1 4 (some .boolean) (fun r _ => r = some (.int 1)) X P) {b L : Nat} {xs : Nat → Int32} (hb0 : X b L xs) (hL : L ≤ 2560) {i N : Nat} {w : WD} (hi : i + 5 ≤ L) (hR : RW w N) (hN : N ≤ 2 ^ 26 - 200) (kk : ∀ z, RW z (N + 60) → P z 729 [some (.ref b), some (.ref (g_ad g 10 0)), some (.ref (g_ad g 9 0)), some (.int (nI i))] []) : P w 680 [some (.ref b), some (.ref (g_ad g 10 0)), some (.ref (g_ad g 9 0)), some (.int (nI i))] [] := by
  obtain ⟨r, w1, Z, s1, s2, s3⟩ := st_clearText (l := l) (g := g) hR hN
  refine pw_aload_n hX rfl dL_law_680 (q := 681) rfl ?_
  refine pw_cvI0 hX dL_law_681 (q := 684) rfl mi_X3_clearText ml_L_98 rcR ⟨rfl, rfl, by decide, by decide⟩ rfl (Nat.le_of_ble_eq_true rfl) s1 ?_
  refine pw_aload_n hX rfl dL_law_684 (q := 685) rfl ?_
  refine pw_cvE0 hX dL_law_685 (q := 688) rfl mi_X4_clearText ml_L_101 rcM ⟨rfl, rfl, by decide, by decide⟩ rfl (Nat.le_of_ble_eq_true rfl) s2 (fun z hz => ?_)
  refine pw_icmp_eq hX (tgt := 729) dL_law_688 (q := 691) rfl (by decide) (fun _ => ?_) (fun hne => absurd rfl hne)
  exact kk z (s3 z hz)
set_option maxHeartbeats 800000 in
set_option maxRecDepth 20000 in
theorem lc_21 {l : Launch} {g : Geo} {X : Nat → Nat → (Nat → Int32) → Prop} {P : PT} (hX : Gd l g RL cL_law room_1 4 (some .boolean) (fun r _ => r = some (.int 1)) X P) {b L : Nat} {xs : Nat → Int32} (hb0 : X b L xs) (hL : L ≤ 2560) {i N : Nat} {w : WD} (hi : i + 5 ≤ L) (hR : RW w N) (hN : N ≤ 2 ^ 26 - 200) (kk : ∀ z, RW z (N + 60) → P z 729 [some (.ref b), some (.ref (g_ad g 10 0)), some (.ref (g_ad g 9 0)), some (.int (nI i))] []) : P w 693 [some (.ref b), some (.ref (g_ad g 10 0)), some (.ref (g_ad g 9 0)), some (.int (nI i))] [] := by
  obtain ⟨r, w1, Z, s1, s2, s3⟩ := st_fault (l := l) (g := g) hR hN (xs (nI (i + 1)).toNatClampNeg)
  refine pw_aload_n hX rfl dL_law_693 (q := 694) rfl ?_
  refine pw_aload_n hX rfl dL_law_694 (q := 695) rfl ?_
  refine pw_iload_n hX rfl dL_law_695 (q := 696) rfl ?_
  refine pw_iconst hX (k := 1) rfl (by decide) dL_law_696 (q := 697) rfl ?_
  refine pw_iaddN hX dL_law_697 (q := 698) rfl ?_
  refine pw_sld hX hb0 (vp_in_nI (by omega) (by omega)) dL_law_698 (q := 699) rfl ?_
  refine pw_cvI1 hX dL_law_699 (q := 702) rfl mi_X3_fault ml_L_102 rcR ⟨rfl, rfl, by decide, by decide⟩ rfl (Nat.le_of_ble_eq_true rfl) s1 ?_
  refine pw_aload_n hX rfl dL_law_702 (q := 703) rfl ?_
  refine pw_aload_n hX rfl dL_law_703 (q := 704) rfl ?_
  refine pw_iload_n hX rfl dL_law_704 (q := 705) rfl ?_
  refine pw_iconst hX (k := 1) rfl (by decide) dL_law_705 (q := 706) rfl ?_
  refine pw_iaddN hX dL_law_706 (q := 707) rfl ?_
  refine pw_sld hX hb0 (vp_in_nI (by omega) (by omega)) dL_law_707 (q := 708) rfl ?_
  refine pw_cvE1 hX dL_law_708 (q := 711) rfl mi_X4_fault ml_L_105 rcM ⟨rfl, rfl, by decide, by decide⟩ rfl (Nat.le_of_ble_eq_true rfl) s2 (fun z hz => ?_)
  refine pw_icmp_eq hX (tgt := 729) dL_law_711 (q := 714) rfl (by decide) (fun _ => ?_) (fun hne => absurd rfl hne)
  exact kk z (s3 z hz)
set_option maxHeartbeats 800000 in
set_option maxRecDepth 20000 in
theorem lc_22 {l : Launch} {g : Geo} {X : Nat → Nat → (Nat → Int32) → Prop} {P : PT} (hX : Gd l g RL cL_law room_1 4 (some .boolean) (fun r _ => r = some (.int 1)) X P) {b L : Nat} {xs : Nat → Int32} (hb0 : X b L xs) (hL : L ≤ 2560) {i N : Nat} {w : WD} (hi : i + 5 ≤ L) (hR : RW w N) (hN : N ≤ 2 ^ 26 - 200) (kk : ∀ z, RW z (N + 60) → P z 729 [some (.ref b), some (.ref (g_ad g 10 0)), some (.ref (g_ad g 9 0)), some (.int (nI i))] []) : P w 716 [some (.ref b), some (.ref (g_ad g 10 0)), some (.ref (g_ad g 9 0)), some (.int (nI i))] [] := by
  obtain ⟨r, w1, Z, s1, s2, s3⟩ := st_play (l := l) (g := g) hR hN
  refine pw_aload_n hX rfl dL_law_716 (q := 717) rfl ?_
  refine pw_cvI0 hX dL_law_717 (q := 720) rfl mi_X3_play ml_L_106 rcR ⟨rfl, rfl, by decide, by decide⟩ rfl (Nat.le_of_ble_eq_true rfl) s1 ?_
  refine pw_aload_n hX rfl dL_law_720 (q := 721) rfl ?_
  refine pw_cvE0 hX dL_law_721 (q := 724) rfl mi_X4_play ml_L_109 rcM ⟨rfl, rfl, by decide, by decide⟩ rfl (Nat.le_of_ble_eq_true rfl) s2 (fun z hz => ?_)
  refine pw_icmp_eq hX (tgt := 729) dL_law_724 (q := 727) rfl (by decide) (fun _ => ?_) (fun hne => absurd rfl hne)
  exact kk z (s3 z hz)
