/-! the law's loop -/
set_option maxHeartbeats 4000000 in
set_option maxRecDepth 100000 in
theorem law_loop {Z : nO} {b L : Nat} {xs : Nat → Int32} {nm : String} {YC YM : gY} (hL : L ≤ 3072) (C : nC Z cL_law RL nm 4 room_1) (X : lX Z b L xs) (E : lE Z b) (hYC : YC.1 = Z.1 ∧ YC.2.2.1 = Z.2.1 ∧ YC.2.2.2 = wC) (hYM : YM.1 = Z.1 ∧ YM.2.2.1 = Z.2.1 ∧ YM.2.2.2 = wM) : ∀ (k0 i : Nat) (GC GM : gS), k0 = L - i → i ≤ L → RR GC GM → NW Z 18 [some (.ref b), some (.ref (YC.2.1 0)), some (.ref (YM.2.1 100)), some (.int (nI i))] [] (gw YC GC ++ (gw YM GM ++ [])) 114 73740 := by
  intro k0
  induction k0 using Nat.strongRecOn with
  | _ k0 ih =>
    intro i GC GM hk0 hi hRR
    have hL31 : L < 2 ^ 31 := by omega
    refine n_iload (pc := 18) C dL_law_18 rfl ?_
    refine n_aload (pc := 19) C dL_law_19 rfl ?_
    refine n_slen (pc := 20) C X dL_law_20 ?_
    refine n_bipush (pc := 21) (v := nI 6) C dL_law_21 (by decide) ?_
    refine n_isub (pc := 23) C dL_law_23 ?_
    refine n_icmp_gt (pc := 24) 818 C dL_law_24 (by decide) (fun _ => ?_) (fun c24 => ?_)
    · refine n_iconst (pc := 818) (v := 1) C dL_law_818 (by decide) ?_
      exact n_lawret (pc := 819) C E dL_law_819 (by decide) (by decide)
    have hi6 := law_cmp hi hL c24
    have hnext : ∀ GC' GM', RR GC' GM' → NW Z 812 [some (.ref b), some (.ref (YC.2.1 0)), some (.ref (YM.2.1 100)), some (.int (nI i))] [] (gw YC GC' ++ (gw YM GM' ++ [])) 114 73740 := by
      intro GC' GM' hR
      refine n_iinc3 (pc := 812) (x' := nI (i + 6)) C dL_law_812 (by rw [show Int32.ofInt 6 = nI 6 by decide, nI_add]) rfl ?_
      refine n_goto (pc := 815) 18 C dL_law_815 (by decide) ?_
      exact ih (L - (i + 6)) (by omega) (i + 6) GC' GM' rfl hi6 hR
    refine n_aload (pc := 27) C dL_law_27 rfl ?_
    refine n_iload (pc := 28) C dL_law_28 rfl ?_
    refine n_sld (pc := 29) i C X dL_law_29 rfl (by omega) hL31 ?_
    refine n_bipush (pc := 30) (v := nI 31) C dL_law_30 (by decide) ?_
    refine n_iand (pc := 32) C dL_law_32 ?_
    by_cases s_0 : xs i &&& nI 31 = nI 0
    · refine n_eqi s_0 ?_
      refine n_tableIn (pc := 33) 136 C dL_law_33 (by decide) (by decide) (off := 103) rfl (by decide) ?_
      obtain ⟨PC, PM, hpc, hpm, hpp⟩ := pr_feed hRR hYC.2.2 hYM.2.2 (xs (i + 1)) (xs (i + 2)) (xs (i + 3)) (xs (i + 4)) (xs (i + 5))
      refine n_aload (pc := 136) C dL_law_136 rfl ?_
      refine n_aload (pc := 137) C dL_law_137 rfl ?_
      refine n_iload (pc := 138) C dL_law_138 rfl ?_
      refine n_iconst (pc := 139) (v := nI 1) C dL_law_139 (by decide) ?_
      refine n_iadd (pc := 140) C dL_law_140 ?_
      refine n_sld (pc := 141) (i + 1) C X dL_law_141 (nI_add i 1) (by omega) hL31 ?_
      refine n_aload (pc := 142) C dL_law_142 rfl ?_
      refine n_iload (pc := 143) C dL_law_143 rfl ?_
      refine n_iconst (pc := 144) (v := nI 2) C dL_law_144 (by decide) ?_
      refine n_iadd (pc := 145) C dL_law_145 ?_
      refine n_sld (pc := 146) (i + 2) C X dL_law_146 (nI_add i 2) (by omega) hL31 ?_
      refine n_aload (pc := 147) C dL_law_147 rfl ?_
      refine n_iload (pc := 148) C dL_law_148 rfl ?_
      refine n_iconst (pc := 149) (v := nI 3) C dL_law_149 (by decide) ?_
      refine n_iadd (pc := 150) C dL_law_150 ?_
      refine n_sld (pc := 151) (i + 3) C X dL_law_151 (nI_add i 3) (by omega) hL31 ?_
      refine n_aload (pc := 152) C dL_law_152 rfl ?_
      refine n_iload (pc := 153) C dL_law_153 rfl ?_
      refine n_iconst (pc := 154) (v := nI 4) C dL_law_154 (by decide) ?_
      refine n_iadd (pc := 155) C dL_law_155 ?_
      refine n_sld (pc := 156) (i + 4) C X dL_law_156 (nI_add i 4) (by omega) hL31 ?_
      refine n_aload (pc := 157) C dL_law_157 rfl ?_
      refine n_iload (pc := 158) C dL_law_158 rfl ?_
      refine n_iconst (pc := 159) (v := nI 5) C dL_law_159 (by decide) ?_
      refine n_iadd (pc := 160) C dL_law_160 ?_
      refine n_sld (pc := 161) (i + 5) C X dL_law_161 (nI_add i 5) (by omega) hL31 ?_
      refine l_callC (pc := 162) C rfl dL_law_162 kL_13 rfl hYC hpc rfl rfl (Nat.le_of_ble_eq_true rfl) (by decide) (by decide) (by decide) (fun x1 GC1 h1 => ?_)
      refine n_aload (pc := 165) C dL_law_165 rfl ?_
      refine n_aload (pc := 166) C dL_law_166 rfl ?_
      refine n_iload (pc := 167) C dL_law_167 rfl ?_
      refine n_iconst (pc := 168) (v := nI 1) C dL_law_168 (by decide) ?_
      refine n_iadd (pc := 169) C dL_law_169 ?_
      refine n_sld (pc := 170) (i + 1) C X dL_law_170 (nI_add i 1) (by omega) hL31 ?_
      refine n_aload (pc := 171) C dL_law_171 rfl ?_
      refine n_iload (pc := 172) C dL_law_172 rfl ?_
      refine n_iconst (pc := 173) (v := nI 2) C dL_law_173 (by decide) ?_
      refine n_iadd (pc := 174) C dL_law_174 ?_
      refine n_sld (pc := 175) (i + 2) C X dL_law_175 (nI_add i 2) (by omega) hL31 ?_
      refine n_aload (pc := 176) C dL_law_176 rfl ?_
      refine n_iload (pc := 177) C dL_law_177 rfl ?_
      refine n_iconst (pc := 178) (v := nI 3) C dL_law_178 (by decide) ?_
      refine n_iadd (pc := 179) C dL_law_179 ?_
      refine n_sld (pc := 180) (i + 3) C X dL_law_180 (nI_add i 3) (by omega) hL31 ?_
      refine n_aload (pc := 181) C dL_law_181 rfl ?_
      refine n_iload (pc := 182) C dL_law_182 rfl ?_
      refine n_iconst (pc := 183) (v := nI 4) C dL_law_183 (by decide) ?_
      refine n_iadd (pc := 184) C dL_law_184 ?_
      refine n_sld (pc := 185) (i + 4) C X dL_law_185 (nI_add i 4) (by omega) hL31 ?_
      refine n_aload (pc := 186) C dL_law_186 rfl ?_
      refine n_iload (pc := 187) C dL_law_187 rfl ?_
      refine n_iconst (pc := 188) (v := nI 5) C dL_law_188 (by decide) ?_
      refine n_iadd (pc := 189) C dL_law_189 ?_
      refine n_sld (pc := 190) (i + 5) C X dL_law_190 (nI_add i 5) (by omega) hL31 ?_
      refine l_callM (pc := 191) C rfl dL_law_191 kL_17 rfl hYM hpm rfl rfl (Nat.le_of_ble_eq_true rfl) (by decide) (by decide) (by decide) (fun y1 GM1 h2 => ?_)
      obtain ⟨e1, hR1⟩ := hpp _ _ _ _ h1 h2
      exact n_icmp_eq (pc := 194) 812 C dL_law_194 (by decide) (fun _ => hnext GC1 GM1 hR1) (fun c => absurd e1 c)
    by_cases s_1 : xs i &&& nI 31 = nI 1
    · refine n_eqi s_1 ?_
      refine n_tableIn (pc := 33) 199 C dL_law_33 (by decide) (by decide) (off := 166) rfl (by decide) ?_
      obtain ⟨PC, PM, hpc, hpm, hpp⟩ := pr_back hRR hYC.2.2 hYM.2.2 (xs (i + 1))
      refine n_aload (pc := 199) C dL_law_199 rfl ?_
      refine n_aload (pc := 200) C dL_law_200 rfl ?_
      refine n_iload (pc := 201) C dL_law_201 rfl ?_
      refine n_iconst (pc := 202) (v := nI 1) C dL_law_202 (by decide) ?_
      refine n_iadd (pc := 203) C dL_law_203 ?_
      refine n_sld (pc := 204) (i + 1) C X dL_law_204 (nI_add i 1) (by omega) hL31 ?_
      refine l_callC (pc := 205) C rfl dL_law_205 kL_18 rfl hYC hpc rfl rfl (Nat.le_of_ble_eq_true rfl) (by decide) (by decide) (by decide) (fun x1 GC1 h1 => ?_)
      refine n_aload (pc := 208) C dL_law_208 rfl ?_
      refine n_aload (pc := 209) C dL_law_209 rfl ?_
      refine n_iload (pc := 210) C dL_law_210 rfl ?_
      refine n_iconst (pc := 211) (v := nI 1) C dL_law_211 (by decide) ?_
      refine n_iadd (pc := 212) C dL_law_212 ?_
      refine n_sld (pc := 213) (i + 1) C X dL_law_213 (nI_add i 1) (by omega) hL31 ?_
      refine l_callM (pc := 214) C rfl dL_law_214 kL_22 rfl hYM hpm rfl rfl (Nat.le_of_ble_eq_true rfl) (by decide) (by decide) (by decide) (fun y1 GM1 h2 => ?_)
      obtain ⟨e1, hR1⟩ := hpp _ _ _ _ h1 h2
      exact n_icmp_eq (pc := 217) 812 C dL_law_217 (by decide) (fun _ => hnext GC1 GM1 hR1) (fun c => absurd e1 c)
    by_cases s_2 : xs i &&& nI 31 = nI 2
    · refine n_eqi s_2 ?_
      refine n_tableIn (pc := 33) 222 C dL_law_33 (by decide) (by decide) (off := 189) rfl (by decide) ?_
      obtain ⟨PC, PM, hpc, hpm, hpp⟩ := pr_read hRR hYC.2.2 hYM.2.2 (xs (i + 1))
      refine n_aload (pc := 222) C dL_law_222 rfl ?_
      refine n_aload (pc := 223) C dL_law_223 rfl ?_
      refine n_iload (pc := 224) C dL_law_224 rfl ?_
      refine n_iconst (pc := 225) (v := nI 1) C dL_law_225 (by decide) ?_
      refine n_iadd (pc := 226) C dL_law_226 ?_
      refine n_sld (pc := 227) (i + 1) C X dL_law_227 (nI_add i 1) (by omega) hL31 ?_
      refine l_callC (pc := 228) C rfl dL_law_228 kL_23 rfl hYC hpc rfl rfl (Nat.le_of_ble_eq_true rfl) (by decide) (by decide) (by decide) (fun x1 GC1 h1 => ?_)
      refine n_aload (pc := 231) C dL_law_231 rfl ?_
      refine n_aload (pc := 232) C dL_law_232 rfl ?_
      refine n_iload (pc := 233) C dL_law_233 rfl ?_
      refine n_iconst (pc := 234) (v := nI 1) C dL_law_234 (by decide) ?_
      refine n_iadd (pc := 235) C dL_law_235 ?_
      refine n_sld (pc := 236) (i + 1) C X dL_law_236 (nI_add i 1) (by omega) hL31 ?_
      refine l_callM (pc := 237) C rfl dL_law_237 kL_26 rfl hYM hpm rfl rfl (Nat.le_of_ble_eq_true rfl) (by decide) (by decide) (by decide) (fun y1 GM1 h2 => ?_)
      obtain ⟨e1, hR1⟩ := hpp _ _ _ _ h1 h2
      exact n_icmp_eq (pc := 240) 812 C dL_law_240 (by decide) (fun _ => hnext GC1 GM1 hR1) (fun c => absurd e1 c)
    by_cases s_3 : xs i &&& nI 31 = nI 3
    · refine n_eqi s_3 ?_
      refine n_tableIn (pc := 33) 245 C dL_law_33 (by decide) (by decide) (off := 212) rfl (by decide) ?_
      obtain ⟨PC, PM, hpc, hpm, hpp⟩ := pr_place hRR hYC.2.2 hYM.2.2
      refine n_aload (pc := 245) C dL_law_245 rfl ?_
      refine l_callC (pc := 246) C rfl dL_law_246 kL_27 rfl hYC hpc rfl rfl (Nat.le_of_ble_eq_true rfl) (by decide) (by decide) (by decide) (fun x1 GC1 h1 => ?_)
      refine n_aload (pc := 249) C dL_law_249 rfl ?_
      refine l_callM (pc := 250) C rfl dL_law_250 kL_31 rfl hYM hpm rfl rfl (Nat.le_of_ble_eq_true rfl) (by decide) (by decide) (by decide) (fun y1 GM1 h2 => ?_)
      obtain ⟨e1, hR1⟩ := hpp _ _ _ _ h1 h2
      exact n_icmp_eq (pc := 253) 812 C dL_law_253 (by decide) (fun _ => hnext GC1 GM1 hR1) (fun c => absurd e1 c)
    by_cases s_4 : xs i &&& nI 31 = nI 4
    · refine n_eqi s_4 ?_
      refine n_tableIn (pc := 33) 258 C dL_law_33 (by decide) (by decide) (off := 225) rfl (by decide) ?_
      obtain ⟨PC, PM, hpc, hpm, hpp⟩ := pr_machine hRR hYC.2.2 hYM.2.2 (xs (i + 1)) (xs (i + 2)) (xs (i + 3))
      refine n_aload (pc := 258) C dL_law_258 rfl ?_
      refine n_aload (pc := 259) C dL_law_259 rfl ?_
      refine n_iload (pc := 260) C dL_law_260 rfl ?_
      refine n_iconst (pc := 261) (v := nI 1) C dL_law_261 (by decide) ?_
      refine n_iadd (pc := 262) C dL_law_262 ?_
      refine n_sld (pc := 263) (i + 1) C X dL_law_263 (nI_add i 1) (by omega) hL31 ?_
      refine n_aload (pc := 264) C dL_law_264 rfl ?_
      refine n_iload (pc := 265) C dL_law_265 rfl ?_
      refine n_iconst (pc := 266) (v := nI 2) C dL_law_266 (by decide) ?_
      refine n_iadd (pc := 267) C dL_law_267 ?_
      refine n_sld (pc := 268) (i + 2) C X dL_law_268 (nI_add i 2) (by omega) hL31 ?_
      refine n_aload (pc := 269) C dL_law_269 rfl ?_
      refine n_iload (pc := 270) C dL_law_270 rfl ?_
      refine n_iconst (pc := 271) (v := nI 3) C dL_law_271 (by decide) ?_
      refine n_iadd (pc := 272) C dL_law_272 ?_
      refine n_sld (pc := 273) (i + 3) C X dL_law_273 (nI_add i 3) (by omega) hL31 ?_
      refine l_callC (pc := 274) C rfl dL_law_274 kL_32 rfl hYC hpc rfl rfl (Nat.le_of_ble_eq_true rfl) (by decide) (by decide) (by decide) (fun x1 GC1 h1 => ?_)
      refine n_aload (pc := 277) C dL_law_277 rfl ?_
      refine n_aload (pc := 278) C dL_law_278 rfl ?_
      refine n_iload (pc := 279) C dL_law_279 rfl ?_
      refine n_iconst (pc := 280) (v := nI 1) C dL_law_280 (by decide) ?_
      refine n_iadd (pc := 281) C dL_law_281 ?_
      refine n_sld (pc := 282) (i + 1) C X dL_law_282 (nI_add i 1) (by omega) hL31 ?_
      refine n_aload (pc := 283) C dL_law_283 rfl ?_
      refine n_iload (pc := 284) C dL_law_284 rfl ?_
      refine n_iconst (pc := 285) (v := nI 2) C dL_law_285 (by decide) ?_
      refine n_iadd (pc := 286) C dL_law_286 ?_
      refine n_sld (pc := 287) (i + 2) C X dL_law_287 (nI_add i 2) (by omega) hL31 ?_
      refine n_aload (pc := 288) C dL_law_288 rfl ?_
      refine n_iload (pc := 289) C dL_law_289 rfl ?_
      refine n_iconst (pc := 290) (v := nI 3) C dL_law_290 (by decide) ?_
      refine n_iadd (pc := 291) C dL_law_291 ?_
      refine n_sld (pc := 292) (i + 3) C X dL_law_292 (nI_add i 3) (by omega) hL31 ?_
      refine l_callM (pc := 293) C rfl dL_law_293 kL_36 rfl hYM hpm rfl rfl (Nat.le_of_ble_eq_true rfl) (by decide) (by decide) (by decide) (fun y1 GM1 h2 => ?_)
      obtain ⟨e1, hR1⟩ := hpp _ _ _ _ h1 h2
      exact n_icmp_eq (pc := 296) 812 C dL_law_296 (by decide) (fun _ => hnext GC1 GM1 hR1) (fun c => absurd e1 c)
    by_cases s_5 : xs i &&& nI 31 = nI 5
    · refine n_eqi s_5 ?_
      refine n_tableIn (pc := 33) 301 C dL_law_33 (by decide) (by decide) (off := 268) rfl (by decide) ?_
      obtain ⟨PC, PM, hpc, hpm, hpp⟩ := pr_file hRR hYC.2.2 hYM.2.2 (xs (i + 1)) (xs (i + 2))
      refine n_aload (pc := 301) C dL_law_301 rfl ?_
      refine n_aload (pc := 302) C dL_law_302 rfl ?_
      refine n_iload (pc := 303) C dL_law_303 rfl ?_
      refine n_iconst (pc := 304) (v := nI 1) C dL_law_304 (by decide) ?_
      refine n_iadd (pc := 305) C dL_law_305 ?_
      refine n_sld (pc := 306) (i + 1) C X dL_law_306 (nI_add i 1) (by omega) hL31 ?_
      refine n_aload (pc := 307) C dL_law_307 rfl ?_
      refine n_iload (pc := 308) C dL_law_308 rfl ?_
      refine n_iconst (pc := 309) (v := nI 2) C dL_law_309 (by decide) ?_
      refine n_iadd (pc := 310) C dL_law_310 ?_
      refine n_sld (pc := 311) (i + 2) C X dL_law_311 (nI_add i 2) (by omega) hL31 ?_
      refine l_callC (pc := 312) C rfl dL_law_312 kL_37 rfl hYC hpc rfl rfl (Nat.le_of_ble_eq_true rfl) (by decide) (by decide) (by decide) (fun x1 GC1 h1 => ?_)
      refine n_aload (pc := 315) C dL_law_315 rfl ?_
      refine n_aload (pc := 316) C dL_law_316 rfl ?_
      refine n_iload (pc := 317) C dL_law_317 rfl ?_
      refine n_iconst (pc := 318) (v := nI 1) C dL_law_318 (by decide) ?_
      refine n_iadd (pc := 319) C dL_law_319 ?_
      refine n_sld (pc := 320) (i + 1) C X dL_law_320 (nI_add i 1) (by omega) hL31 ?_
      refine n_aload (pc := 321) C dL_law_321 rfl ?_
      refine n_iload (pc := 322) C dL_law_322 rfl ?_
      refine n_iconst (pc := 323) (v := nI 2) C dL_law_323 (by decide) ?_
      refine n_iadd (pc := 324) C dL_law_324 ?_
      refine n_sld (pc := 325) (i + 2) C X dL_law_325 (nI_add i 2) (by omega) hL31 ?_
      refine l_callM (pc := 326) C rfl dL_law_326 kL_41 rfl hYM hpm rfl rfl (Nat.le_of_ble_eq_true rfl) (by decide) (by decide) (by decide) (fun y1 GM1 h2 => ?_)
      obtain ⟨e1, hR1⟩ := hpp _ _ _ _ h1 h2
      exact n_icmp_eq (pc := 329) 812 C dL_law_329 (by decide) (fun _ => hnext GC1 GM1 hR1) (fun c => absurd e1 c)
    by_cases s_6 : xs i &&& nI 31 = nI 6
    · refine n_eqi s_6 ?_
      refine n_tableIn (pc := 33) 334 C dL_law_33 (by decide) (by decide) (off := 301) rfl (by decide) ?_
      obtain ⟨PC, PM, hpc, hpm, hpp⟩ := pr_width hRR hYC.2.2 hYM.2.2 (xs (i + 1))
      refine n_aload (pc := 334) C dL_law_334 rfl ?_
      refine n_aload (pc := 335) C dL_law_335 rfl ?_
      refine n_iload (pc := 336) C dL_law_336 rfl ?_
      refine n_iconst (pc := 337) (v := nI 1) C dL_law_337 (by decide) ?_
      refine n_iadd (pc := 338) C dL_law_338 ?_
      refine n_sld (pc := 339) (i + 1) C X dL_law_339 (nI_add i 1) (by omega) hL31 ?_
      refine l_callC (pc := 340) C rfl dL_law_340 kL_42 rfl hYC hpc rfl rfl (Nat.le_of_ble_eq_true rfl) (by decide) (by decide) (by decide) (fun x1 GC1 h1 => ?_)
      refine n_aload (pc := 343) C dL_law_343 rfl ?_
      refine n_aload (pc := 344) C dL_law_344 rfl ?_
      refine n_iload (pc := 345) C dL_law_345 rfl ?_
      refine n_iconst (pc := 346) (v := nI 1) C dL_law_346 (by decide) ?_
      refine n_iadd (pc := 347) C dL_law_347 ?_
      refine n_sld (pc := 348) (i + 1) C X dL_law_348 (nI_add i 1) (by omega) hL31 ?_
      refine l_callM (pc := 349) C rfl dL_law_349 kL_46 rfl hYM hpm rfl rfl (Nat.le_of_ble_eq_true rfl) (by decide) (by decide) (by decide) (fun y1 GM1 h2 => ?_)
      obtain ⟨e1, hR1⟩ := hpp _ _ _ _ h1 h2
      exact n_icmp_eq (pc := 352) 812 C dL_law_352 (by decide) (fun _ => hnext GC1 GM1 hR1) (fun c => absurd e1 c)
    by_cases s_7 : xs i &&& nI 31 = nI 7
    · refine n_eqi s_7 ?_
      refine n_tableIn (pc := 33) 357 C dL_law_33 (by decide) (by decide) (off := 324) rfl (by decide) ?_
      obtain ⟨PC, PM, hpc, hpm, hpp⟩ := pr_wake hRR hYC.2.2 hYM.2.2 (xs (i + 1)) (xs (i + 2))
      refine n_aload (pc := 357) C dL_law_357 rfl ?_
      refine n_aload (pc := 358) C dL_law_358 rfl ?_
      refine n_iload (pc := 359) C dL_law_359 rfl ?_
      refine n_iconst (pc := 360) (v := nI 1) C dL_law_360 (by decide) ?_
      refine n_iadd (pc := 361) C dL_law_361 ?_
      refine n_sld (pc := 362) (i + 1) C X dL_law_362 (nI_add i 1) (by omega) hL31 ?_
      refine n_aload (pc := 363) C dL_law_363 rfl ?_
      refine n_iload (pc := 364) C dL_law_364 rfl ?_
      refine n_iconst (pc := 365) (v := nI 2) C dL_law_365 (by decide) ?_
      refine n_iadd (pc := 366) C dL_law_366 ?_
      refine n_sld (pc := 367) (i + 2) C X dL_law_367 (nI_add i 2) (by omega) hL31 ?_
      refine l_callC (pc := 368) C rfl dL_law_368 kL_47 rfl hYC hpc rfl rfl (Nat.le_of_ble_eq_true rfl) (by decide) (by decide) (by decide) (fun x1 GC1 h1 => ?_)
      refine n_aload (pc := 371) C dL_law_371 rfl ?_
      refine n_aload (pc := 372) C dL_law_372 rfl ?_
      refine n_iload (pc := 373) C dL_law_373 rfl ?_
      refine n_iconst (pc := 374) (v := nI 1) C dL_law_374 (by decide) ?_
      refine n_iadd (pc := 375) C dL_law_375 ?_
      refine n_sld (pc := 376) (i + 1) C X dL_law_376 (nI_add i 1) (by omega) hL31 ?_
      refine n_aload (pc := 377) C dL_law_377 rfl ?_
      refine n_iload (pc := 378) C dL_law_378 rfl ?_
      refine n_iconst (pc := 379) (v := nI 2) C dL_law_379 (by decide) ?_
      refine n_iadd (pc := 380) C dL_law_380 ?_
      refine n_sld (pc := 381) (i + 2) C X dL_law_381 (nI_add i 2) (by omega) hL31 ?_
      refine l_callM (pc := 382) C rfl dL_law_382 kL_51 rfl hYM hpm rfl rfl (Nat.le_of_ble_eq_true rfl) (by decide) (by decide) (by decide) (fun y1 GM1 h2 => ?_)
      obtain ⟨e1, hR1⟩ := hpp _ _ _ _ h1 h2
      exact n_icmp_eq (pc := 385) 812 C dL_law_385 (by decide) (fun _ => hnext GC1 GM1 hR1) (fun c => absurd e1 c)
    by_cases s_8 : xs i &&& nI 31 = nI 8
    · refine n_eqi s_8 ?_
      refine n_tableIn (pc := 33) 390 C dL_law_33 (by decide) (by decide) (off := 357) rfl (by decide) ?_
      obtain ⟨PC, PM, hpc, hpm, hpp⟩ := pr_lose hRR hYC.2.2 hYM.2.2 (xs (i + 1)) (xs (i + 2))
      refine n_aload (pc := 390) C dL_law_390 rfl ?_
      refine n_aload (pc := 391) C dL_law_391 rfl ?_
      refine n_iload (pc := 392) C dL_law_392 rfl ?_
      refine n_iconst (pc := 393) (v := nI 1) C dL_law_393 (by decide) ?_
      refine n_iadd (pc := 394) C dL_law_394 ?_
      refine n_sld (pc := 395) (i + 1) C X dL_law_395 (nI_add i 1) (by omega) hL31 ?_
      refine n_aload (pc := 396) C dL_law_396 rfl ?_
      refine n_iload (pc := 397) C dL_law_397 rfl ?_
      refine n_iconst (pc := 398) (v := nI 2) C dL_law_398 (by decide) ?_
      refine n_iadd (pc := 399) C dL_law_399 ?_
      refine n_sld (pc := 400) (i + 2) C X dL_law_400 (nI_add i 2) (by omega) hL31 ?_
      refine l_callC (pc := 401) C rfl dL_law_401 kL_52 rfl hYC hpc rfl rfl (Nat.le_of_ble_eq_true rfl) (by decide) (by decide) (by decide) (fun x1 GC1 h1 => ?_)
      refine n_aload (pc := 404) C dL_law_404 rfl ?_
      refine n_aload (pc := 405) C dL_law_405 rfl ?_
      refine n_iload (pc := 406) C dL_law_406 rfl ?_
      refine n_iconst (pc := 407) (v := nI 1) C dL_law_407 (by decide) ?_
      refine n_iadd (pc := 408) C dL_law_408 ?_
      refine n_sld (pc := 409) (i + 1) C X dL_law_409 (nI_add i 1) (by omega) hL31 ?_
      refine n_aload (pc := 410) C dL_law_410 rfl ?_
      refine n_iload (pc := 411) C dL_law_411 rfl ?_
      refine n_iconst (pc := 412) (v := nI 2) C dL_law_412 (by decide) ?_
      refine n_iadd (pc := 413) C dL_law_413 ?_
      refine n_sld (pc := 414) (i + 2) C X dL_law_414 (nI_add i 2) (by omega) hL31 ?_
      refine l_callM (pc := 415) C rfl dL_law_415 kL_55 rfl hYM hpm rfl rfl (Nat.le_of_ble_eq_true rfl) (by decide) (by decide) (by decide) (fun y1 GM1 h2 => ?_)
      obtain ⟨e1, hR1⟩ := hpp _ _ _ _ h1 h2
      exact n_icmp_eq (pc := 418) 812 C dL_law_418 (by decide) (fun _ => hnext GC1 GM1 hR1) (fun c => absurd e1 c)
    by_cases s_9 : xs i &&& nI 31 = nI 9
    · refine n_eqi s_9 ?_
      refine n_tableIn (pc := 33) 423 C dL_law_33 (by decide) (by decide) (off := 390) rfl (by decide) ?_
      obtain ⟨PC, PM, hpc, hpm, hpp⟩ := pr_spoil hRR hYC.2.2 hYM.2.2 (xs (i + 1)) (xs (i + 2)) (xs (i + 3))
      refine n_aload (pc := 423) C dL_law_423 rfl ?_
      refine n_aload (pc := 424) C dL_law_424 rfl ?_
      refine n_iload (pc := 425) C dL_law_425 rfl ?_
      refine n_iconst (pc := 426) (v := nI 1) C dL_law_426 (by decide) ?_
      refine n_iadd (pc := 427) C dL_law_427 ?_
      refine n_sld (pc := 428) (i + 1) C X dL_law_428 (nI_add i 1) (by omega) hL31 ?_
      refine n_aload (pc := 429) C dL_law_429 rfl ?_
      refine n_iload (pc := 430) C dL_law_430 rfl ?_
      refine n_iconst (pc := 431) (v := nI 2) C dL_law_431 (by decide) ?_
      refine n_iadd (pc := 432) C dL_law_432 ?_
      refine n_sld (pc := 433) (i + 2) C X dL_law_433 (nI_add i 2) (by omega) hL31 ?_
      refine n_aload (pc := 434) C dL_law_434 rfl ?_
      refine n_iload (pc := 435) C dL_law_435 rfl ?_
      refine n_iconst (pc := 436) (v := nI 3) C dL_law_436 (by decide) ?_
      refine n_iadd (pc := 437) C dL_law_437 ?_
      refine n_sld (pc := 438) (i + 3) C X dL_law_438 (nI_add i 3) (by omega) hL31 ?_
      refine l_callC (pc := 439) C rfl dL_law_439 kL_56 rfl hYC hpc rfl rfl (Nat.le_of_ble_eq_true rfl) (by decide) (by decide) (by decide) (fun x1 GC1 h1 => ?_)
      refine n_aload (pc := 442) C dL_law_442 rfl ?_
      refine n_aload (pc := 443) C dL_law_443 rfl ?_
      refine n_iload (pc := 444) C dL_law_444 rfl ?_
      refine n_iconst (pc := 445) (v := nI 1) C dL_law_445 (by decide) ?_
      refine n_iadd (pc := 446) C dL_law_446 ?_
      refine n_sld (pc := 447) (i + 1) C X dL_law_447 (nI_add i 1) (by omega) hL31 ?_
      refine n_aload (pc := 448) C dL_law_448 rfl ?_
      refine n_iload (pc := 449) C dL_law_449 rfl ?_
      refine n_iconst (pc := 450) (v := nI 2) C dL_law_450 (by decide) ?_
      refine n_iadd (pc := 451) C dL_law_451 ?_
      refine n_sld (pc := 452) (i + 2) C X dL_law_452 (nI_add i 2) (by omega) hL31 ?_
      refine n_aload (pc := 453) C dL_law_453 rfl ?_
      refine n_iload (pc := 454) C dL_law_454 rfl ?_
      refine n_iconst (pc := 455) (v := nI 3) C dL_law_455 (by decide) ?_
      refine n_iadd (pc := 456) C dL_law_456 ?_
      refine n_sld (pc := 457) (i + 3) C X dL_law_457 (nI_add i 3) (by omega) hL31 ?_
      refine l_callM (pc := 458) C rfl dL_law_458 kL_59 rfl hYM hpm rfl rfl (Nat.le_of_ble_eq_true rfl) (by decide) (by decide) (by decide) (fun y1 GM1 h2 => ?_)
      obtain ⟨e1, hR1⟩ := hpp _ _ _ _ h1 h2
      exact n_icmp_eq (pc := 461) 812 C dL_law_461 (by decide) (fun _ => hnext GC1 GM1 hR1) (fun c => absurd e1 c)
    by_cases s_10 : xs i &&& nI 31 = nI 10
    · refine n_eqi s_10 ?_
      refine n_tableIn (pc := 33) 466 C dL_law_33 (by decide) (by decide) (off := 433) rfl (by decide) ?_
      obtain ⟨PC, PM, hpc, hpm, hpp⟩ := pr_down hRR hYC.2.2 hYM.2.2 (xs (i + 1)) (xs (i + 2)) (xs (i + 3))
      refine n_aload (pc := 466) C dL_law_466 rfl ?_
      refine n_aload (pc := 467) C dL_law_467 rfl ?_
      refine n_iload (pc := 468) C dL_law_468 rfl ?_
      refine n_iconst (pc := 469) (v := nI 1) C dL_law_469 (by decide) ?_
      refine n_iadd (pc := 470) C dL_law_470 ?_
      refine n_sld (pc := 471) (i + 1) C X dL_law_471 (nI_add i 1) (by omega) hL31 ?_
      refine n_aload (pc := 472) C dL_law_472 rfl ?_
      refine n_iload (pc := 473) C dL_law_473 rfl ?_
      refine n_iconst (pc := 474) (v := nI 2) C dL_law_474 (by decide) ?_
      refine n_iadd (pc := 475) C dL_law_475 ?_
      refine n_sld (pc := 476) (i + 2) C X dL_law_476 (nI_add i 2) (by omega) hL31 ?_
      refine n_aload (pc := 477) C dL_law_477 rfl ?_
      refine n_iload (pc := 478) C dL_law_478 rfl ?_
      refine n_iconst (pc := 479) (v := nI 3) C dL_law_479 (by decide) ?_
      refine n_iadd (pc := 480) C dL_law_480 ?_
      refine n_sld (pc := 481) (i + 3) C X dL_law_481 (nI_add i 3) (by omega) hL31 ?_
      refine l_callC (pc := 482) C rfl dL_law_482 kL_60 rfl hYC hpc rfl rfl (Nat.le_of_ble_eq_true rfl) (by decide) (by decide) (by decide) (fun x1 GC1 h1 => ?_)
      refine n_aload (pc := 485) C dL_law_485 rfl ?_
      refine n_aload (pc := 486) C dL_law_486 rfl ?_
      refine n_iload (pc := 487) C dL_law_487 rfl ?_
      refine n_iconst (pc := 488) (v := nI 1) C dL_law_488 (by decide) ?_
      refine n_iadd (pc := 489) C dL_law_489 ?_
      refine n_sld (pc := 490) (i + 1) C X dL_law_490 (nI_add i 1) (by omega) hL31 ?_
      refine n_aload (pc := 491) C dL_law_491 rfl ?_
      refine n_iload (pc := 492) C dL_law_492 rfl ?_
      refine n_iconst (pc := 493) (v := nI 2) C dL_law_493 (by decide) ?_
      refine n_iadd (pc := 494) C dL_law_494 ?_
      refine n_sld (pc := 495) (i + 2) C X dL_law_495 (nI_add i 2) (by omega) hL31 ?_
      refine n_aload (pc := 496) C dL_law_496 rfl ?_
      refine n_iload (pc := 497) C dL_law_497 rfl ?_
      refine n_iconst (pc := 498) (v := nI 3) C dL_law_498 (by decide) ?_
      refine n_iadd (pc := 499) C dL_law_499 ?_
      refine n_sld (pc := 500) (i + 3) C X dL_law_500 (nI_add i 3) (by omega) hL31 ?_
      refine l_callM (pc := 501) C rfl dL_law_501 kL_63 rfl hYM hpm rfl rfl (Nat.le_of_ble_eq_true rfl) (by decide) (by decide) (by decide) (fun y1 GM1 h2 => ?_)
      obtain ⟨e1, hR1⟩ := hpp _ _ _ _ h1 h2
      exact n_icmp_eq (pc := 504) 812 C dL_law_504 (by decide) (fun _ => hnext GC1 GM1 hR1) (fun c => absurd e1 c)
    by_cases s_11 : xs i &&& nI 31 = nI 11
    · refine n_eqi s_11 ?_
      refine n_tableIn (pc := 33) 509 C dL_law_33 (by decide) (by decide) (off := 476) rfl (by decide) ?_
      obtain ⟨PC, PM, hpc, hpm, hpp⟩ := pr_cut hRR hYC.2.2 hYM.2.2 (xs (i + 1)) (xs (i + 2))
      refine n_aload (pc := 509) C dL_law_509 rfl ?_
      refine n_aload (pc := 510) C dL_law_510 rfl ?_
      refine n_iload (pc := 511) C dL_law_511 rfl ?_
      refine n_iconst (pc := 512) (v := nI 1) C dL_law_512 (by decide) ?_
      refine n_iadd (pc := 513) C dL_law_513 ?_
      refine n_sld (pc := 514) (i + 1) C X dL_law_514 (nI_add i 1) (by omega) hL31 ?_
      refine n_aload (pc := 515) C dL_law_515 rfl ?_
      refine n_iload (pc := 516) C dL_law_516 rfl ?_
      refine n_iconst (pc := 517) (v := nI 2) C dL_law_517 (by decide) ?_
      refine n_iadd (pc := 518) C dL_law_518 ?_
      refine n_sld (pc := 519) (i + 2) C X dL_law_519 (nI_add i 2) (by omega) hL31 ?_
      refine l_callC (pc := 520) C rfl dL_law_520 kL_64 rfl hYC hpc rfl rfl (Nat.le_of_ble_eq_true rfl) (by decide) (by decide) (by decide) (fun x1 GC1 h1 => ?_)
      refine n_aload (pc := 523) C dL_law_523 rfl ?_
      refine n_aload (pc := 524) C dL_law_524 rfl ?_
      refine n_iload (pc := 525) C dL_law_525 rfl ?_
      refine n_iconst (pc := 526) (v := nI 1) C dL_law_526 (by decide) ?_
      refine n_iadd (pc := 527) C dL_law_527 ?_
      refine n_sld (pc := 528) (i + 1) C X dL_law_528 (nI_add i 1) (by omega) hL31 ?_
      refine n_aload (pc := 529) C dL_law_529 rfl ?_
      refine n_iload (pc := 530) C dL_law_530 rfl ?_
      refine n_iconst (pc := 531) (v := nI 2) C dL_law_531 (by decide) ?_
      refine n_iadd (pc := 532) C dL_law_532 ?_
      refine n_sld (pc := 533) (i + 2) C X dL_law_533 (nI_add i 2) (by omega) hL31 ?_
      refine l_callM (pc := 534) C rfl dL_law_534 kL_67 rfl hYM hpm rfl rfl (Nat.le_of_ble_eq_true rfl) (by decide) (by decide) (by decide) (fun y1 GM1 h2 => ?_)
      obtain ⟨e1, hR1⟩ := hpp _ _ _ _ h1 h2
      exact n_icmp_eq (pc := 537) 812 C dL_law_537 (by decide) (fun _ => hnext GC1 GM1 hR1) (fun c => absurd e1 c)
    by_cases s_12 : xs i &&& nI 31 = nI 12
    · refine n_eqi s_12 ?_
      refine n_tableIn (pc := 33) 542 C dL_law_33 (by decide) (by decide) (off := 509) rfl (by decide) ?_
      obtain ⟨PC, PM, hpc, hpm, hpp⟩ := pr_answer hRR hYC.2.2 hYM.2.2 (xs (i + 1)) (xs (i + 2)) (xs (i + 3))
      refine n_aload (pc := 542) C dL_law_542 rfl ?_
      refine n_aload (pc := 543) C dL_law_543 rfl ?_
      refine n_iload (pc := 544) C dL_law_544 rfl ?_
      refine n_iconst (pc := 545) (v := nI 1) C dL_law_545 (by decide) ?_
      refine n_iadd (pc := 546) C dL_law_546 ?_
      refine n_sld (pc := 547) (i + 1) C X dL_law_547 (nI_add i 1) (by omega) hL31 ?_
      refine n_aload (pc := 548) C dL_law_548 rfl ?_
      refine n_iload (pc := 549) C dL_law_549 rfl ?_
      refine n_iconst (pc := 550) (v := nI 2) C dL_law_550 (by decide) ?_
      refine n_iadd (pc := 551) C dL_law_551 ?_
      refine n_sld (pc := 552) (i + 2) C X dL_law_552 (nI_add i 2) (by omega) hL31 ?_
      refine n_aload (pc := 553) C dL_law_553 rfl ?_
      refine n_iload (pc := 554) C dL_law_554 rfl ?_
      refine n_iconst (pc := 555) (v := nI 3) C dL_law_555 (by decide) ?_
      refine n_iadd (pc := 556) C dL_law_556 ?_
      refine n_sld (pc := 557) (i + 3) C X dL_law_557 (nI_add i 3) (by omega) hL31 ?_
      refine l_callC (pc := 558) C rfl dL_law_558 kL_68 rfl hYC hpc rfl rfl (Nat.le_of_ble_eq_true rfl) (by decide) (by decide) (by decide) (fun x1 GC1 h1 => ?_)
      refine n_aload (pc := 561) C dL_law_561 rfl ?_
      refine n_aload (pc := 562) C dL_law_562 rfl ?_
      refine n_iload (pc := 563) C dL_law_563 rfl ?_
      refine n_iconst (pc := 564) (v := nI 1) C dL_law_564 (by decide) ?_
      refine n_iadd (pc := 565) C dL_law_565 ?_
      refine n_sld (pc := 566) (i + 1) C X dL_law_566 (nI_add i 1) (by omega) hL31 ?_
      refine n_aload (pc := 567) C dL_law_567 rfl ?_
      refine n_iload (pc := 568) C dL_law_568 rfl ?_
      refine n_iconst (pc := 569) (v := nI 2) C dL_law_569 (by decide) ?_
      refine n_iadd (pc := 570) C dL_law_570 ?_
      refine n_sld (pc := 571) (i + 2) C X dL_law_571 (nI_add i 2) (by omega) hL31 ?_
      refine n_aload (pc := 572) C dL_law_572 rfl ?_
      refine n_iload (pc := 573) C dL_law_573 rfl ?_
      refine n_iconst (pc := 574) (v := nI 3) C dL_law_574 (by decide) ?_
      refine n_iadd (pc := 575) C dL_law_575 ?_
      refine n_sld (pc := 576) (i + 3) C X dL_law_576 (nI_add i 3) (by omega) hL31 ?_
      refine l_callM (pc := 577) C rfl dL_law_577 kL_71 rfl hYM hpm rfl rfl (Nat.le_of_ble_eq_true rfl) (by decide) (by decide) (by decide) (fun y1 GM1 h2 => ?_)
      obtain ⟨e1, hR1⟩ := hpp _ _ _ _ h1 h2
      exact n_icmp_eq (pc := 580) 812 C dL_law_580 (by decide) (fun _ => hnext GC1 GM1 hR1) (fun c => absurd e1 c)
    by_cases s_13 : xs i &&& nI 31 = nI 13
    · refine n_eqi s_13 ?_
      refine n_tableIn (pc := 33) 585 C dL_law_33 (by decide) (by decide) (off := 552) rfl (by decide) ?_
      obtain ⟨PC, PM, hpc, hpm, hpp⟩ := pr_state hRR hYC.2.2 hYM.2.2 (xs (i + 1)) (xs (i + 2)) (xs (i + 3))
      refine n_aload (pc := 585) C dL_law_585 rfl ?_
      refine n_aload (pc := 586) C dL_law_586 rfl ?_
      refine n_iload (pc := 587) C dL_law_587 rfl ?_
      refine n_iconst (pc := 588) (v := nI 1) C dL_law_588 (by decide) ?_
      refine n_iadd (pc := 589) C dL_law_589 ?_
      refine n_sld (pc := 590) (i + 1) C X dL_law_590 (nI_add i 1) (by omega) hL31 ?_
      refine n_aload (pc := 591) C dL_law_591 rfl ?_
      refine n_iload (pc := 592) C dL_law_592 rfl ?_
      refine n_iconst (pc := 593) (v := nI 2) C dL_law_593 (by decide) ?_
      refine n_iadd (pc := 594) C dL_law_594 ?_
      refine n_sld (pc := 595) (i + 2) C X dL_law_595 (nI_add i 2) (by omega) hL31 ?_
      refine n_aload (pc := 596) C dL_law_596 rfl ?_
      refine n_iload (pc := 597) C dL_law_597 rfl ?_
      refine n_iconst (pc := 598) (v := nI 3) C dL_law_598 (by decide) ?_
      refine n_iadd (pc := 599) C dL_law_599 ?_
      refine n_sld (pc := 600) (i + 3) C X dL_law_600 (nI_add i 3) (by omega) hL31 ?_
      refine l_callC (pc := 601) C rfl dL_law_601 kL_72 rfl hYC hpc rfl rfl (Nat.le_of_ble_eq_true rfl) (by decide) (by decide) (by decide) (fun x1 GC1 h1 => ?_)
      refine n_aload (pc := 604) C dL_law_604 rfl ?_
      refine n_aload (pc := 605) C dL_law_605 rfl ?_
      refine n_iload (pc := 606) C dL_law_606 rfl ?_
      refine n_iconst (pc := 607) (v := nI 1) C dL_law_607 (by decide) ?_
      refine n_iadd (pc := 608) C dL_law_608 ?_
      refine n_sld (pc := 609) (i + 1) C X dL_law_609 (nI_add i 1) (by omega) hL31 ?_
      refine n_aload (pc := 610) C dL_law_610 rfl ?_
      refine n_iload (pc := 611) C dL_law_611 rfl ?_
      refine n_iconst (pc := 612) (v := nI 2) C dL_law_612 (by decide) ?_
      refine n_iadd (pc := 613) C dL_law_613 ?_
      refine n_sld (pc := 614) (i + 2) C X dL_law_614 (nI_add i 2) (by omega) hL31 ?_
      refine n_aload (pc := 615) C dL_law_615 rfl ?_
      refine n_iload (pc := 616) C dL_law_616 rfl ?_
      refine n_iconst (pc := 617) (v := nI 3) C dL_law_617 (by decide) ?_
      refine n_iadd (pc := 618) C dL_law_618 ?_
      refine n_sld (pc := 619) (i + 3) C X dL_law_619 (nI_add i 3) (by omega) hL31 ?_
      refine l_callM (pc := 620) C rfl dL_law_620 kL_75 rfl hYM hpm rfl rfl (Nat.le_of_ble_eq_true rfl) (by decide) (by decide) (by decide) (fun y1 GM1 h2 => ?_)
      obtain ⟨e1, hR1⟩ := hpp _ _ _ _ h1 h2
      exact n_icmp_eq (pc := 623) 812 C dL_law_623 (by decide) (fun _ => hnext GC1 GM1 hR1) (fun c => absurd e1 c)
    by_cases s_14 : xs i &&& nI 31 = nI 14
    · refine n_eqi s_14 ?_
      refine n_tableIn (pc := 33) 628 C dL_law_33 (by decide) (by decide) (off := 595) rfl (by decide) ?_
      obtain ⟨PC, PM, hpc, hpm, hpp⟩ := pr_sends hRR hYC.2.2 hYM.2.2 (xs (i + 1))
      refine n_aload (pc := 628) C dL_law_628 rfl ?_
      refine n_aload (pc := 629) C dL_law_629 rfl ?_
      refine n_iload (pc := 630) C dL_law_630 rfl ?_
      refine n_iconst (pc := 631) (v := nI 1) C dL_law_631 (by decide) ?_
      refine n_iadd (pc := 632) C dL_law_632 ?_
      refine n_sld (pc := 633) (i + 1) C X dL_law_633 (nI_add i 1) (by omega) hL31 ?_
      refine l_callC (pc := 634) C rfl dL_law_634 kL_76 rfl hYC hpc rfl rfl (Nat.le_of_ble_eq_true rfl) (by decide) (by decide) (by decide) (fun x1 GC1 h1 => ?_)
      refine n_aload (pc := 637) C dL_law_637 rfl ?_
      refine n_aload (pc := 638) C dL_law_638 rfl ?_
      refine n_iload (pc := 639) C dL_law_639 rfl ?_
      refine n_iconst (pc := 640) (v := nI 1) C dL_law_640 (by decide) ?_
      refine n_iadd (pc := 641) C dL_law_641 ?_
      refine n_sld (pc := 642) (i + 1) C X dL_law_642 (nI_add i 1) (by omega) hL31 ?_
      refine l_callM (pc := 643) C rfl dL_law_643 kL_79 rfl hYM hpm rfl rfl (Nat.le_of_ble_eq_true rfl) (by decide) (by decide) (by decide) (fun y1 GM1 h2 => ?_)
      obtain ⟨e1, hR1⟩ := hpp _ _ _ _ h1 h2
      exact n_icmp_eq (pc := 646) 812 C dL_law_646 (by decide) (fun _ => hnext GC1 GM1 hR1) (fun c => absurd e1 c)
    by_cases s_15 : xs i &&& nI 31 = nI 15
    · refine n_eqi s_15 ?_
      refine n_tableIn (pc := 33) 651 C dL_law_33 (by decide) (by decide) (off := 618) rfl (by decide) ?_
      obtain ⟨PC, PM, hpc, hpm, hpp⟩ := pr_sent hRR hYC.2.2 hYM.2.2 (xs (i + 1)) (xs (i + 2))
      refine n_aload (pc := 651) C dL_law_651 rfl ?_
      refine n_aload (pc := 652) C dL_law_652 rfl ?_
      refine n_iload (pc := 653) C dL_law_653 rfl ?_
      refine n_iconst (pc := 654) (v := nI 1) C dL_law_654 (by decide) ?_
      refine n_iadd (pc := 655) C dL_law_655 ?_
      refine n_sld (pc := 656) (i + 1) C X dL_law_656 (nI_add i 1) (by omega) hL31 ?_
      refine n_aload (pc := 657) C dL_law_657 rfl ?_
      refine n_iload (pc := 658) C dL_law_658 rfl ?_
      refine n_iconst (pc := 659) (v := nI 2) C dL_law_659 (by decide) ?_
      refine n_iadd (pc := 660) C dL_law_660 ?_
      refine n_sld (pc := 661) (i + 2) C X dL_law_661 (nI_add i 2) (by omega) hL31 ?_
      refine l_callC (pc := 662) C rfl dL_law_662 kL_80 rfl hYC hpc rfl rfl (Nat.le_of_ble_eq_true rfl) (by decide) (by decide) (by decide) (fun x1 GC1 h1 => ?_)
      refine n_aload (pc := 665) C dL_law_665 rfl ?_
      refine n_aload (pc := 666) C dL_law_666 rfl ?_
      refine n_iload (pc := 667) C dL_law_667 rfl ?_
      refine n_iconst (pc := 668) (v := nI 1) C dL_law_668 (by decide) ?_
      refine n_iadd (pc := 669) C dL_law_669 ?_
      refine n_sld (pc := 670) (i + 1) C X dL_law_670 (nI_add i 1) (by omega) hL31 ?_
      refine n_aload (pc := 671) C dL_law_671 rfl ?_
      refine n_iload (pc := 672) C dL_law_672 rfl ?_
      refine n_iconst (pc := 673) (v := nI 2) C dL_law_673 (by decide) ?_
      refine n_iadd (pc := 674) C dL_law_674 ?_
      refine n_sld (pc := 675) (i + 2) C X dL_law_675 (nI_add i 2) (by omega) hL31 ?_
      refine l_callM (pc := 676) C rfl dL_law_676 kL_83 rfl hYM hpm rfl rfl (Nat.le_of_ble_eq_true rfl) (by decide) (by decide) (by decide) (fun y1 GM1 h2 => ?_)
      obtain ⟨e1, hR1⟩ := hpp _ _ _ _ h1 h2
      exact n_icmp_eq (pc := 679) 812 C dL_law_679 (by decide) (fun _ => hnext GC1 GM1 hR1) (fun c => absurd e1 c)
    by_cases s_16 : xs i &&& nI 31 = nI 16
    · refine n_eqi s_16 ?_
      refine n_tableIn (pc := 33) 684 C dL_law_33 (by decide) (by decide) (off := 651) rfl (by decide) ?_
      obtain ⟨PC, PM, hpc, hpm, hpp⟩ := pr_ends hRR hYC.2.2 hYM.2.2
      refine n_aload (pc := 684) C dL_law_684 rfl ?_
      refine l_callC (pc := 685) C rfl dL_law_685 kL_84 rfl hYC hpc rfl rfl (Nat.le_of_ble_eq_true rfl) (by decide) (by decide) (by decide) (fun x1 GC1 h1 => ?_)
      refine n_aload (pc := 688) C dL_law_688 rfl ?_
      refine l_callM (pc := 689) C rfl dL_law_689 kL_87 rfl hYM hpm rfl rfl (Nat.le_of_ble_eq_true rfl) (by decide) (by decide) (by decide) (fun y1 GM1 h2 => ?_)
      obtain ⟨e1, hR1⟩ := hpp _ _ _ _ h1 h2
      exact n_icmp_eq (pc := 692) 812 C dL_law_692 (by decide) (fun _ => hnext GC1 GM1 hR1) (fun c => absurd e1 c)
    by_cases s_17 : xs i &&& nI 31 = nI 17
    · refine n_eqi s_17 ?_
      refine n_tableIn (pc := 33) 697 C dL_law_33 (by decide) (by decide) (off := 664) rfl (by decide) ?_
      obtain ⟨PC, PM, hpc, hpm, hpp⟩ := pr_up hRR hYC.2.2 hYM.2.2
      refine n_aload (pc := 697) C dL_law_697 rfl ?_
      refine l_callC (pc := 698) C rfl dL_law_698 kL_88 rfl hYC hpc rfl rfl (Nat.le_of_ble_eq_true rfl) (by decide) (by decide) (by decide) (fun x1 GC1 h1 => ?_)
      refine n_aload (pc := 701) C dL_law_701 rfl ?_
      refine l_callM (pc := 702) C rfl dL_law_702 kL_91 rfl hYM hpm rfl rfl (Nat.le_of_ble_eq_true rfl) (by decide) (by decide) (by decide) (fun y1 GM1 h2 => ?_)
      obtain ⟨e1, hR1⟩ := hpp _ _ _ _ h1 h2
      exact n_icmp_eq (pc := 705) 812 C dL_law_705 (by decide) (fun _ => hnext GC1 GM1 hR1) (fun c => absurd e1 c)
    by_cases s_18 : xs i &&& nI 31 = nI 18
    · refine n_eqi s_18 ?_
      refine n_tableIn (pc := 33) 710 C dL_law_33 (by decide) (by decide) (off := 677) rfl (by decide) ?_
      obtain ⟨PC, PM, hpc, hpm, hpp⟩ := pr_log hRR hYC.2.2 hYM.2.2 (xs (i + 1)) (xs (i + 2))
      refine n_aload (pc := 710) C dL_law_710 rfl ?_
      refine n_aload (pc := 711) C dL_law_711 rfl ?_
      refine n_iload (pc := 712) C dL_law_712 rfl ?_
      refine n_iconst (pc := 713) (v := nI 1) C dL_law_713 (by decide) ?_
      refine n_iadd (pc := 714) C dL_law_714 ?_
      refine n_sld (pc := 715) (i + 1) C X dL_law_715 (nI_add i 1) (by omega) hL31 ?_
      refine n_aload (pc := 716) C dL_law_716 rfl ?_
      refine n_iload (pc := 717) C dL_law_717 rfl ?_
      refine n_iconst (pc := 718) (v := nI 2) C dL_law_718 (by decide) ?_
      refine n_iadd (pc := 719) C dL_law_719 ?_
      refine n_sld (pc := 720) (i + 2) C X dL_law_720 (nI_add i 2) (by omega) hL31 ?_
      refine l_callC (pc := 721) C rfl dL_law_721 kL_92 rfl hYC hpc rfl rfl (Nat.le_of_ble_eq_true rfl) (by decide) (by decide) (by decide) (fun x1 GC1 h1 => ?_)
      refine n_aload (pc := 724) C dL_law_724 rfl ?_
      refine n_aload (pc := 725) C dL_law_725 rfl ?_
      refine n_iload (pc := 726) C dL_law_726 rfl ?_
      refine n_iconst (pc := 727) (v := nI 1) C dL_law_727 (by decide) ?_
      refine n_iadd (pc := 728) C dL_law_728 ?_
      refine n_sld (pc := 729) (i + 1) C X dL_law_729 (nI_add i 1) (by omega) hL31 ?_
      refine n_aload (pc := 730) C dL_law_730 rfl ?_
      refine n_iload (pc := 731) C dL_law_731 rfl ?_
      refine n_iconst (pc := 732) (v := nI 2) C dL_law_732 (by decide) ?_
      refine n_iadd (pc := 733) C dL_law_733 ?_
      refine n_sld (pc := 734) (i + 2) C X dL_law_734 (nI_add i 2) (by omega) hL31 ?_
      refine l_callM (pc := 735) C rfl dL_law_735 kL_95 rfl hYM hpm rfl rfl (Nat.le_of_ble_eq_true rfl) (by decide) (by decide) (by decide) (fun y1 GM1 h2 => ?_)
      obtain ⟨e1, hR1⟩ := hpp _ _ _ _ h1 h2
      exact n_icmp_eq (pc := 738) 812 C dL_law_738 (by decide) (fun _ => hnext GC1 GM1 hR1) (fun c => absurd e1 c)
    by_cases s_19 : xs i &&& nI 31 = nI 19
    · refine n_eqi s_19 ?_
      refine n_tableIn (pc := 33) 743 C dL_law_33 (by decide) (by decide) (off := 710) rfl (by decide) ?_
      obtain ⟨PC, PM, hpc, hpm, hpp⟩ := pr_plan hRR hYC.2.2 hYM.2.2 (xs (i + 1))
      refine n_aload (pc := 743) C dL_law_743 rfl ?_
      refine n_aload (pc := 744) C dL_law_744 rfl ?_
      refine n_iload (pc := 745) C dL_law_745 rfl ?_
      refine n_iconst (pc := 746) (v := nI 1) C dL_law_746 (by decide) ?_
      refine n_iadd (pc := 747) C dL_law_747 ?_
      refine n_sld (pc := 748) (i + 1) C X dL_law_748 (nI_add i 1) (by omega) hL31 ?_
      refine l_callC (pc := 749) C rfl dL_law_749 kL_96 rfl hYC hpc rfl rfl (Nat.le_of_ble_eq_true rfl) (by decide) (by decide) (by decide) (fun x1 GC1 h1 => ?_)
      refine n_aload (pc := 752) C dL_law_752 rfl ?_
      refine n_aload (pc := 753) C dL_law_753 rfl ?_
      refine n_iload (pc := 754) C dL_law_754 rfl ?_
      refine n_iconst (pc := 755) (v := nI 1) C dL_law_755 (by decide) ?_
      refine n_iadd (pc := 756) C dL_law_756 ?_
      refine n_sld (pc := 757) (i + 1) C X dL_law_757 (nI_add i 1) (by omega) hL31 ?_
      refine l_callM (pc := 758) C rfl dL_law_758 kL_99 rfl hYM hpm rfl rfl (Nat.le_of_ble_eq_true rfl) (by decide) (by decide) (by decide) (fun y1 GM1 h2 => ?_)
      obtain ⟨e1, hR1⟩ := hpp _ _ _ _ h1 h2
      exact n_icmp_eq (pc := 761) 812 C dL_law_761 (by decide) (fun _ => hnext GC1 GM1 hR1) (fun c => absurd e1 c)
    by_cases s_20 : xs i &&& nI 31 = nI 20
    · refine n_eqi s_20 ?_
      refine n_tableIn (pc := 33) 766 C dL_law_33 (by decide) (by decide) (off := 733) rfl (by decide) ?_
      obtain ⟨PC, PM, hpc, hpm, hpp⟩ := pr_wakes hRR hYC.2.2 hYM.2.2 (xs (i + 1))
      refine n_aload (pc := 766) C dL_law_766 rfl ?_
      refine n_aload (pc := 767) C dL_law_767 rfl ?_
      refine n_iload (pc := 768) C dL_law_768 rfl ?_
      refine n_iconst (pc := 769) (v := nI 1) C dL_law_769 (by decide) ?_
      refine n_iadd (pc := 770) C dL_law_770 ?_
      refine n_sld (pc := 771) (i + 1) C X dL_law_771 (nI_add i 1) (by omega) hL31 ?_
      refine l_callC (pc := 772) C rfl dL_law_772 kL_100 rfl hYC hpc rfl rfl (Nat.le_of_ble_eq_true rfl) (by decide) (by decide) (by decide) (fun x1 GC1 h1 => ?_)
      refine n_aload (pc := 775) C dL_law_775 rfl ?_
      refine n_aload (pc := 776) C dL_law_776 rfl ?_
      refine n_iload (pc := 777) C dL_law_777 rfl ?_
      refine n_iconst (pc := 778) (v := nI 1) C dL_law_778 (by decide) ?_
      refine n_iadd (pc := 779) C dL_law_779 ?_
      refine n_sld (pc := 780) (i + 1) C X dL_law_780 (nI_add i 1) (by omega) hL31 ?_
      refine l_callM (pc := 781) C rfl dL_law_781 kL_103 rfl hYM hpm rfl rfl (Nat.le_of_ble_eq_true rfl) (by decide) (by decide) (by decide) (fun y1 GM1 h2 => ?_)
      obtain ⟨e1, hR1⟩ := hpp _ _ _ _ h1 h2
      exact n_icmp_eq (pc := 784) 812 C dL_law_784 (by decide) (fun _ => hnext GC1 GM1 hR1) (fun c => absurd e1 c)
    by_cases s_21 : xs i &&& nI 31 = nI 21
    · refine n_eqi s_21 ?_
      refine n_tableIn (pc := 33) 789 C dL_law_33 (by decide) (by decide) (off := 756) rfl (by decide) ?_
      obtain ⟨PC, PM, hpc, hpm, hpp⟩ := pr_count hRR hYC.2.2 hYM.2.2 (xs (i + 1))
      refine n_aload (pc := 789) C dL_law_789 rfl ?_
      refine n_aload (pc := 790) C dL_law_790 rfl ?_
      refine n_iload (pc := 791) C dL_law_791 rfl ?_
      refine n_iconst (pc := 792) (v := nI 1) C dL_law_792 (by decide) ?_
      refine n_iadd (pc := 793) C dL_law_793 ?_
      refine n_sld (pc := 794) (i + 1) C X dL_law_794 (nI_add i 1) (by omega) hL31 ?_
      refine l_callC (pc := 795) C rfl dL_law_795 kL_104 rfl hYC hpc rfl rfl (Nat.le_of_ble_eq_true rfl) (by decide) (by decide) (by decide) (fun x1 GC1 h1 => ?_)
      refine n_aload (pc := 798) C dL_law_798 rfl ?_
      refine n_aload (pc := 799) C dL_law_799 rfl ?_
      refine n_iload (pc := 800) C dL_law_800 rfl ?_
      refine n_iconst (pc := 801) (v := nI 1) C dL_law_801 (by decide) ?_
      refine n_iadd (pc := 802) C dL_law_802 ?_
      refine n_sld (pc := 803) (i + 1) C X dL_law_803 (nI_add i 1) (by omega) hL31 ?_
      refine l_callM (pc := 804) C rfl dL_law_804 kL_107 rfl hYM hpm rfl rfl (Nat.le_of_ble_eq_true rfl) (by decide) (by decide) (by decide) (fun y1 GM1 h2 => ?_)
      obtain ⟨e1, hR1⟩ := hpp _ _ _ _ h1 h2
      exact n_icmp_eq (pc := 807) 812 C dL_law_807 (by decide) (fun _ => hnext GC1 GM1 hR1) (fun c => absurd e1 c)
    refine n_tableOut (pc := 33) 812 C dL_law_33 (tsw_o 0 21 (fun v a b => by rcases (show v = 0 ∨ v = 1 ∨ v = 2 ∨ v = 3 ∨ v = 4 ∨ v = 5 ∨ v = 6 ∨ v = 7 ∨ v = 8 ∨ v = 9 ∨ v = 10 ∨ v = 11 ∨ v = 12 ∨ v = 13 ∨ v = 14 ∨ v = 15 ∨ v = 16 ∨ v = 17 ∨ v = 18 ∨ v = 19 ∨ v = 20 ∨ v = 21 by omega) with rfl | rfl | rfl | rfl | rfl | rfl | rfl | rfl | rfl | rfl | rfl | rfl | rfl | rfl | rfl | rfl | rfl | rfl | rfl | rfl | rfl | rfl <;> assumption) (by decide)) (by decide) ?_
    exact hnext GC GM hRR
