/-! 11b: the law: its fourteen cases, its loop -/
set_option maxRecDepth 100000 in
set_option maxHeartbeats 4000000 in
theorem lw_c0 {p : Program} {l : Launch} {e : Env} {s : State} {m : MethodId} {args : Array Value} {below : List Frame} {meth : Method} {c : Code} {G : xg_G} {O : Heap} {Q : State → Prop} {t : xT} {b Ls i : Nat} {xs : Nat → Int32} (X : xg_X p m c cL_law 4 s args RL G) (hX : va_X b Ls xs s O) (hbl : b < O.size) (hL : Ls ≤ 3072) (hi : i + 6 ≤ Ls) (hR : okR t) (kk : ∀ t2, okR t2 → gl p l e s m args below meth c G O Q t2 [some (.ref b), some (.ref (O.size + 0)), some (.ref (O.size + 76)), some (.int (nI i))] 606 []) : gl p l e s m args below meth c G O Q t [some (.ref b), some (.ref (O.size + 0)), some (.ref (O.size + 76)), some (.int (nI i))] 104 [] := by
  obtain ⟨nt, nl, nh, nj, pr, R⟩ := hR
  refine g_aload_n (pc := 104) X dL_law_104 rfl rfl ?_
  refine g_aload_n (pc := 105) X dL_law_105 rfl rfl ?_
  refine g_iload_n (pc := 106) X dL_law_106 rfl rfl ?_
  refine g_iconst (pc := 107) (v := 1) X dL_law_107 (by decide) ?_
  refine g_iadd (pc := 108) X dL_law_108 ?_
  refine g_sld (pc := 109) X hX hbl hL (i + 1) (nI_add i 1) (by omega) dL_law_109 ?_
  refine g_aload_n (pc := 110) X dL_law_110 rfl rfl ?_
  refine g_iload_n (pc := 111) X dL_law_111 rfl rfl ?_
  refine g_iconst (pc := 112) (v := 2) X dL_law_112 (by decide) ?_
  refine g_iadd (pc := 113) X dL_law_113 ?_
  refine g_sld (pc := 114) X hX hbl hL (i + 2) (nI_add i 2) (by omega) dL_law_114 ?_
  refine g_aload_n (pc := 115) X dL_law_115 rfl rfl ?_
  refine g_iload_n (pc := 116) X dL_law_116 rfl rfl ?_
  refine g_iconst (pc := 117) (v := 3) X dL_law_117 (by decide) ?_
  refine g_iadd (pc := 118) X dL_law_118 ?_
  refine g_sld (pc := 119) X hX hbl hL (i + 3) (nI_add i 3) (by omega) dL_law_119 ?_
  refine g_aload_n (pc := 120) X dL_law_120 rfl rfl ?_
  refine g_iload_n (pc := 121) X dL_law_121 rfl rfl ?_
  refine g_iconst (pc := 122) (v := 4) X dL_law_122 (by decide) ?_
  refine g_iadd (pc := 123) X dL_law_123 ?_
  refine g_sld (pc := 124) X hX hbl hL (i + 4) (nI_add i 4) (by omega) dL_law_124 ?_
  refine g_aload_n (pc := 125) X dL_law_125 rfl rfl ?_
  refine g_iload_n (pc := 126) X dL_law_126 rfl rfl ?_
  refine g_iconst (pc := 127) (v := 5) X dL_law_127 (by decide) ?_
  refine g_iadd (pc := 128) X dL_law_128 ?_
  refine g_sld (pc := 129) X hX hbl hL (i + 5) (nI_add i 5) (by omega) dL_law_129 ?_
  refine gl_Vi (pc := 130) X 8 xc_L_13 (c_feed l G O t nt (xs (i + 1)) (xs (i + 2)) (xs (i + 3)) (xs (i + 4)) (xs (i + 5)) R.T.le R.T.c) dL_law_130 rfl (by decide) rfl rfl rfl (by decide) (Nat.le_of_ble_eq_true rfl) (fun v1 t1 h1 => ?_)
  have F := f_feed (t := t) (nt := nt) (nl := nl) (nh := nh) (nj := nj) (pr := pr) (xs (i + 1)) (xs (i + 2)) (xs (i + 3)) (xs (i + 4)) (xs (i + 5))  h1
  refine g_aload_n (pc := 133) X dL_law_133 rfl rfl ?_
  refine g_aload_n (pc := 134) X dL_law_134 rfl rfl ?_
  refine g_iload_n (pc := 135) X dL_law_135 rfl rfl ?_
  refine g_iconst (pc := 136) (v := 1) X dL_law_136 (by decide) ?_
  refine g_iadd (pc := 137) X dL_law_137 ?_
  refine g_sld (pc := 138) X hX hbl hL (i + 1) (nI_add i 1) (by omega) dL_law_138 ?_
  refine g_aload_n (pc := 139) X dL_law_139 rfl rfl ?_
  refine g_iload_n (pc := 140) X dL_law_140 rfl rfl ?_
  refine g_iconst (pc := 141) (v := 2) X dL_law_141 (by decide) ?_
  refine g_iadd (pc := 142) X dL_law_142 ?_
  refine g_sld (pc := 143) X hX hbl hL (i + 2) (nI_add i 2) (by omega) dL_law_143 ?_
  refine g_aload_n (pc := 144) X dL_law_144 rfl rfl ?_
  refine g_iload_n (pc := 145) X dL_law_145 rfl rfl ?_
  refine g_iconst (pc := 146) (v := 3) X dL_law_146 (by decide) ?_
  refine g_iadd (pc := 147) X dL_law_147 ?_
  refine g_sld (pc := 148) X hX hbl hL (i + 3) (nI_add i 3) (by omega) dL_law_148 ?_
  refine g_aload_n (pc := 149) X dL_law_149 rfl rfl ?_
  refine g_iload_n (pc := 150) X dL_law_150 rfl rfl ?_
  refine g_iconst (pc := 151) (v := 4) X dL_law_151 (by decide) ?_
  refine g_iadd (pc := 152) X dL_law_152 ?_
  refine g_sld (pc := 153) X hX hbl hL (i + 4) (nI_add i 4) (by omega) dL_law_153 ?_
  refine g_aload_n (pc := 154) X dL_law_154 rfl rfl ?_
  refine g_iload_n (pc := 155) X dL_law_155 rfl rfl ?_
  refine g_iconst (pc := 156) (v := 5) X dL_law_156 (by decide) ?_
  refine g_iadd (pc := 157) X dL_law_157 ?_
  refine g_sld (pc := 158) X hX hbl hL (i + 5) (nI_add i 5) (by omega) dL_law_158 ?_
  refine gl_Vi (pc := 159) (rest := [.int v1]) X 9 xc_L_17 (m_feed l G O t1 nt (xs (i + 1)) (xs (i + 2)) (xs (i + 3)) (xs (i + 4)) (xs (i + 5)) R.T.le ((F 76 2 (by decide)).trans R.T.m)) dL_law_159 rfl (by decide) rfl rfl rfl (by decide) (Nat.le_of_ble_eq_true rfl) (fun v2 t2 h2 => ?_)
  obtain ⟨hv, hok⟩ := s_feed (xs (i + 1)) (xs (i + 2)) (xs (i + 3)) (xs (i + 4)) (xs (i + 5)) R h1 h2
  exact g_icmp_eq (pc := 162) (tgt := 606) X dL_law_162 (by decide) (fun _ => kk t2 hok) (fun q => absurd hv q)
set_option maxRecDepth 100000 in
set_option maxHeartbeats 4000000 in
theorem lw_c1 {p : Program} {l : Launch} {e : Env} {s : State} {m : MethodId} {args : Array Value} {below : List Frame} {meth : Method} {c : Code} {G : xg_G} {O : Heap} {Q : State → Prop} {t : xT} {b Ls i : Nat} {xs : Nat → Int32} (X : xg_X p m c cL_law 4 s args RL G) (hX : va_X b Ls xs s O) (hbl : b < O.size) (hL : Ls ≤ 3072) (hi : i + 6 ≤ Ls) (hR : okR t) (kk : ∀ t2, okR t2 → gl p l e s m args below meth c G O Q t2 [some (.ref b), some (.ref (O.size + 0)), some (.ref (O.size + 76)), some (.int (nI i))] 606 []) : gl p l e s m args below meth c G O Q t [some (.ref b), some (.ref (O.size + 0)), some (.ref (O.size + 76)), some (.int (nI i))] 167 [] := by
  obtain ⟨nt, nl, nh, nj, pr, R⟩ := hR
  refine g_aload_n (pc := 167) X dL_law_167 rfl rfl ?_
  refine g_aload_n (pc := 168) X dL_law_168 rfl rfl ?_
  refine g_iload_n (pc := 169) X dL_law_169 rfl rfl ?_
  refine g_iconst (pc := 170) (v := 1) X dL_law_170 (by decide) ?_
  refine g_iadd (pc := 171) X dL_law_171 ?_
  refine g_sld (pc := 172) X hX hbl hL (i + 1) (nI_add i 1) (by omega) dL_law_172 ?_
  refine gl_Vi (pc := 173) X 8 xc_L_18 (c_work l G O t nt (xs (i + 1)) R.T.le R.T.c) dL_law_173 rfl (by decide) rfl rfl rfl (by decide) (Nat.le_of_ble_eq_true rfl) (fun v1 t1 h1 => ?_)
  have F := f_work (t := t) (nt := nt) (nl := nl) (nh := nh) (nj := nj) (pr := pr) (xs (i + 1)) R.T.le h1
  refine g_aload_n (pc := 176) X dL_law_176 rfl rfl ?_
  refine g_aload_n (pc := 177) X dL_law_177 rfl rfl ?_
  refine g_iload_n (pc := 178) X dL_law_178 rfl rfl ?_
  refine g_iconst (pc := 179) (v := 1) X dL_law_179 (by decide) ?_
  refine g_iadd (pc := 180) X dL_law_180 ?_
  refine g_sld (pc := 181) X hX hbl hL (i + 1) (nI_add i 1) (by omega) dL_law_181 ?_
  refine gl_Vi (pc := 182) (rest := [.int v1]) X 9 xc_L_22 (m_work l G O t1 nt (xs (i + 1)) R.T.le ((F 76 2 (by decide)).trans R.T.m)) dL_law_182 rfl (by decide) rfl rfl rfl (by decide) (Nat.le_of_ble_eq_true rfl) (fun v2 t2 h2 => ?_)
  obtain ⟨hv, hok⟩ := s_work (xs (i + 1)) R h1 h2
  exact g_icmp_eq (pc := 185) (tgt := 606) X dL_law_185 (by decide) (fun _ => kk t2 hok) (fun q => absurd hv q)
set_option maxRecDepth 100000 in
set_option maxHeartbeats 4000000 in
theorem lw_c2 {p : Program} {l : Launch} {e : Env} {s : State} {m : MethodId} {args : Array Value} {below : List Frame} {meth : Method} {c : Code} {G : xg_G} {O : Heap} {Q : State → Prop} {t : xT} {b Ls i : Nat} {xs : Nat → Int32} (X : xg_X p m c cL_law 4 s args RL G) (hX : va_X b Ls xs s O) (hbl : b < O.size) (hL : Ls ≤ 3072) (hi : i + 6 ≤ Ls) (hR : okR t) (kk : ∀ t2, okR t2 → gl p l e s m args below meth c G O Q t2 [some (.ref b), some (.ref (O.size + 0)), some (.ref (O.size + 76)), some (.int (nI i))] 606 []) : gl p l e s m args below meth c G O Q t [some (.ref b), some (.ref (O.size + 0)), some (.ref (O.size + 76)), some (.int (nI i))] 190 [] := by
  obtain ⟨nt, nl, nh, nj, pr, R⟩ := hR
  refine g_aload_n (pc := 190) X dL_law_190 rfl rfl ?_
  refine g_aload_n (pc := 191) X dL_law_191 rfl rfl ?_
  refine g_iload_n (pc := 192) X dL_law_192 rfl rfl ?_
  refine g_iconst (pc := 193) (v := 1) X dL_law_193 (by decide) ?_
  refine g_iadd (pc := 194) X dL_law_194 ?_
  refine g_sld (pc := 195) X hX hbl hL (i + 1) (nI_add i 1) (by omega) dL_law_195 ?_
  refine gl_Vi (pc := 196) X 8 xc_L_23 (c_fault l G O t  (xs (i + 1)) ) dL_law_196 rfl (by decide) rfl rfl rfl (by decide) (Nat.le_of_ble_eq_true rfl) (fun v1 t1 h1 => ?_)
  have F := f_fault (t := t) (nt := nt) (nl := nl) (nh := nh) (nj := nj) (pr := pr) (xs (i + 1))  h1
  refine g_aload_n (pc := 199) X dL_law_199 rfl rfl ?_
  refine g_aload_n (pc := 200) X dL_law_200 rfl rfl ?_
  refine g_iload_n (pc := 201) X dL_law_201 rfl rfl ?_
  refine g_iconst (pc := 202) (v := 1) X dL_law_202 (by decide) ?_
  refine g_iadd (pc := 203) X dL_law_203 ?_
  refine g_sld (pc := 204) X hX hbl hL (i + 1) (nI_add i 1) (by omega) dL_law_204 ?_
  refine gl_Vi (pc := 205) (rest := [.int v1]) X 9 xc_L_26 (m_fault l G O t1  (xs (i + 1)) ) dL_law_205 rfl (by decide) rfl rfl rfl (by decide) (Nat.le_of_ble_eq_true rfl) (fun v2 t2 h2 => ?_)
  obtain ⟨hv, hok⟩ := s_fault (xs (i + 1)) R h1 h2
  exact g_icmp_eq (pc := 208) (tgt := 606) X dL_law_208 (by decide) (fun _ => kk t2 hok) (fun q => absurd hv q)
set_option maxRecDepth 100000 in
set_option maxHeartbeats 4000000 in
theorem lw_c3 {p : Program} {l : Launch} {e : Env} {s : State} {m : MethodId} {args : Array Value} {below : List Frame} {meth : Method} {c : Code} {G : xg_G} {O : Heap} {Q : State → Prop} {t : xT} {b Ls i : Nat} {xs : Nat → Int32} (X : xg_X p m c cL_law 4 s args RL G) (hX : va_X b Ls xs s O) (hbl : b < O.size) (hL : Ls ≤ 3072) (hi : i + 6 ≤ Ls) (hR : okR t) (kk : ∀ t2, okR t2 → gl p l e s m args below meth c G O Q t2 [some (.ref b), some (.ref (O.size + 0)), some (.ref (O.size + 76)), some (.int (nI i))] 606 []) : gl p l e s m args below meth c G O Q t [some (.ref b), some (.ref (O.size + 0)), some (.ref (O.size + 76)), some (.int (nI i))] 213 [] := by
  obtain ⟨nt, nl, nh, nj, pr, R⟩ := hR
  refine g_aload_n (pc := 213) X dL_law_213 rfl rfl ?_
  refine g_aload_n (pc := 214) X dL_law_214 rfl rfl ?_
  refine g_iload_n (pc := 215) X dL_law_215 rfl rfl ?_
  refine g_iconst (pc := 216) (v := 1) X dL_law_216 (by decide) ?_
  refine g_iadd (pc := 217) X dL_law_217 ?_
  refine g_sld (pc := 218) X hX hbl hL (i + 1) (nI_add i 1) (by omega) dL_law_218 ?_
  refine g_aload_n (pc := 219) X dL_law_219 rfl rfl ?_
  refine g_iload_n (pc := 220) X dL_law_220 rfl rfl ?_
  refine g_iconst (pc := 221) (v := 2) X dL_law_221 (by decide) ?_
  refine g_iadd (pc := 222) X dL_law_222 ?_
  refine g_sld (pc := 223) X hX hbl hL (i + 2) (nI_add i 2) (by omega) dL_law_223 ?_
  refine g_aload_n (pc := 224) X dL_law_224 rfl rfl ?_
  refine g_iload_n (pc := 225) X dL_law_225 rfl rfl ?_
  refine g_iconst (pc := 226) (v := 3) X dL_law_226 (by decide) ?_
  refine g_iadd (pc := 227) X dL_law_227 ?_
  refine g_sld (pc := 228) X hX hbl hL (i + 3) (nI_add i 3) (by omega) dL_law_228 ?_
  refine gl_Vi (pc := 229) X 8 xc_L_27 (c_half l G O t nh (xs (i + 1)) (xs (i + 2)) (xs (i + 3)) R.H.le R.H.c) dL_law_229 rfl (by decide) rfl rfl rfl (by decide) (Nat.le_of_ble_eq_true rfl) (fun v1 t1 h1 => ?_)
  have F := f_half (t := t) (nt := nt) (nl := nl) (nh := nh) (nj := nj) (pr := pr) (xs (i + 1)) (xs (i + 2)) (xs (i + 3))  h1
  refine g_aload_n (pc := 232) X dL_law_232 rfl rfl ?_
  refine g_aload_n (pc := 233) X dL_law_233 rfl rfl ?_
  refine g_iload_n (pc := 234) X dL_law_234 rfl rfl ?_
  refine g_iconst (pc := 235) (v := 1) X dL_law_235 (by decide) ?_
  refine g_iadd (pc := 236) X dL_law_236 ?_
  refine g_sld (pc := 237) X hX hbl hL (i + 1) (nI_add i 1) (by omega) dL_law_237 ?_
  refine g_aload_n (pc := 238) X dL_law_238 rfl rfl ?_
  refine g_iload_n (pc := 239) X dL_law_239 rfl rfl ?_
  refine g_iconst (pc := 240) (v := 2) X dL_law_240 (by decide) ?_
  refine g_iadd (pc := 241) X dL_law_241 ?_
  refine g_sld (pc := 242) X hX hbl hL (i + 2) (nI_add i 2) (by omega) dL_law_242 ?_
  refine g_aload_n (pc := 243) X dL_law_243 rfl rfl ?_
  refine g_iload_n (pc := 244) X dL_law_244 rfl rfl ?_
  refine g_iconst (pc := 245) (v := 3) X dL_law_245 (by decide) ?_
  refine g_iadd (pc := 246) X dL_law_246 ?_
  refine g_sld (pc := 247) X hX hbl hL (i + 3) (nI_add i 3) (by omega) dL_law_247 ?_
  refine gl_Vi (pc := 248) (rest := [.int v1]) X 9 xc_L_31 (m_half l G O t1 nh (xs (i + 1)) (xs (i + 2)) (xs (i + 3)) R.H.le ((F 76 7 (by decide)).trans R.H.m)) dL_law_248 rfl (by decide) rfl rfl rfl (by decide) (Nat.le_of_ble_eq_true rfl) (fun v2 t2 h2 => ?_)
  obtain ⟨hv, hok⟩ := s_half (xs (i + 1)) (xs (i + 2)) (xs (i + 3)) R h1 h2
  exact g_icmp_eq (pc := 251) (tgt := 606) X dL_law_251 (by decide) (fun _ => kk t2 hok) (fun q => absurd hv q)
set_option maxRecDepth 100000 in
set_option maxHeartbeats 4000000 in
theorem lw_c4 {p : Program} {l : Launch} {e : Env} {s : State} {m : MethodId} {args : Array Value} {below : List Frame} {meth : Method} {c : Code} {G : xg_G} {O : Heap} {Q : State → Prop} {t : xT} {b Ls i : Nat} {xs : Nat → Int32} (X : xg_X p m c cL_law 4 s args RL G) (hX : va_X b Ls xs s O) (hbl : b < O.size) (hL : Ls ≤ 3072) (hi : i + 6 ≤ Ls) (hR : okR t) (kk : ∀ t2, okR t2 → gl p l e s m args below meth c G O Q t2 [some (.ref b), some (.ref (O.size + 0)), some (.ref (O.size + 76)), some (.int (nI i))] 606 []) : gl p l e s m args below meth c G O Q t [some (.ref b), some (.ref (O.size + 0)), some (.ref (O.size + 76)), some (.int (nI i))] 256 [] := by
  obtain ⟨nt, nl, nh, nj, pr, R⟩ := hR
  refine g_aload_n (pc := 256) X dL_law_256 rfl rfl ?_
  refine g_aload_n (pc := 257) X dL_law_257 rfl rfl ?_
  refine g_iload_n (pc := 258) X dL_law_258 rfl rfl ?_
  refine g_iconst (pc := 259) (v := 1) X dL_law_259 (by decide) ?_
  refine g_iadd (pc := 260) X dL_law_260 ?_
  refine g_sld (pc := 261) X hX hbl hL (i + 1) (nI_add i 1) (by omega) dL_law_261 ?_
  refine g_aload_n (pc := 262) X dL_law_262 rfl rfl ?_
  refine g_iload_n (pc := 263) X dL_law_263 rfl rfl ?_
  refine g_iconst (pc := 264) (v := 2) X dL_law_264 (by decide) ?_
  refine g_iadd (pc := 265) X dL_law_265 ?_
  refine g_sld (pc := 266) X hX hbl hL (i + 2) (nI_add i 2) (by omega) dL_law_266 ?_
  refine g_aload_n (pc := 267) X dL_law_267 rfl rfl ?_
  refine g_iload_n (pc := 268) X dL_law_268 rfl rfl ?_
  refine g_iconst (pc := 269) (v := 3) X dL_law_269 (by decide) ?_
  refine g_iadd (pc := 270) X dL_law_270 ?_
  refine g_sld (pc := 271) X hX hbl hL (i + 3) (nI_add i 3) (by omega) dL_law_271 ?_
  refine g_aload_n (pc := 272) X dL_law_272 rfl rfl ?_
  refine g_iload_n (pc := 273) X dL_law_273 rfl rfl ?_
  refine g_iconst (pc := 274) (v := 4) X dL_law_274 (by decide) ?_
  refine g_iadd (pc := 275) X dL_law_275 ?_
  refine g_sld (pc := 276) X hX hbl hL (i + 4) (nI_add i 4) (by omega) dL_law_276 ?_
  refine gl_Vi (pc := 277) X 8 xc_L_32 (c_light l G O t nh (xs (i + 1)) (xs (i + 2)) (xs (i + 3)) (xs (i + 4)) R.H.le R.H.c) dL_law_277 rfl (by decide) rfl rfl rfl (by decide) (Nat.le_of_ble_eq_true rfl) (fun v1 t1 h1 => ?_)
  have F := f_light (t := t) (nt := nt) (nl := nl) (nh := nh) (nj := nj) (pr := pr) (xs (i + 1)) (xs (i + 2)) (xs (i + 3)) (xs (i + 4)) R.H.le h1
  refine g_aload_n (pc := 280) X dL_law_280 rfl rfl ?_
  refine g_aload_n (pc := 281) X dL_law_281 rfl rfl ?_
  refine g_iload_n (pc := 282) X dL_law_282 rfl rfl ?_
  refine g_iconst (pc := 283) (v := 1) X dL_law_283 (by decide) ?_
  refine g_iadd (pc := 284) X dL_law_284 ?_
  refine g_sld (pc := 285) X hX hbl hL (i + 1) (nI_add i 1) (by omega) dL_law_285 ?_
  refine g_aload_n (pc := 286) X dL_law_286 rfl rfl ?_
  refine g_iload_n (pc := 287) X dL_law_287 rfl rfl ?_
  refine g_iconst (pc := 288) (v := 2) X dL_law_288 (by decide) ?_
  refine g_iadd (pc := 289) X dL_law_289 ?_
  refine g_sld (pc := 290) X hX hbl hL (i + 2) (nI_add i 2) (by omega) dL_law_290 ?_
  refine g_aload_n (pc := 291) X dL_law_291 rfl rfl ?_
  refine g_iload_n (pc := 292) X dL_law_292 rfl rfl ?_
  refine g_iconst (pc := 293) (v := 3) X dL_law_293 (by decide) ?_
  refine g_iadd (pc := 294) X dL_law_294 ?_
  refine g_sld (pc := 295) X hX hbl hL (i + 3) (nI_add i 3) (by omega) dL_law_295 ?_
  refine g_aload_n (pc := 296) X dL_law_296 rfl rfl ?_
  refine g_iload_n (pc := 297) X dL_law_297 rfl rfl ?_
  refine g_iconst (pc := 298) (v := 4) X dL_law_298 (by decide) ?_
  refine g_iadd (pc := 299) X dL_law_299 ?_
  refine g_sld (pc := 300) X hX hbl hL (i + 4) (nI_add i 4) (by omega) dL_law_300 ?_
  refine gl_Vi (pc := 301) (rest := [.int v1]) X 9 xc_L_36 (m_light l G O t1 nh (xs (i + 1)) (xs (i + 2)) (xs (i + 3)) (xs (i + 4)) R.H.le ((F 76 7 (by decide)).trans R.H.m)) dL_law_301 rfl (by decide) rfl rfl rfl (by decide) (Nat.le_of_ble_eq_true rfl) (fun v2 t2 h2 => ?_)
  obtain ⟨hv, hok⟩ := s_light (xs (i + 1)) (xs (i + 2)) (xs (i + 3)) (xs (i + 4)) R h1 h2
  exact g_icmp_eq (pc := 304) (tgt := 606) X dL_law_304 (by decide) (fun _ => kk t2 hok) (fun q => absurd hv q)
set_option maxRecDepth 100000 in
set_option maxHeartbeats 4000000 in
theorem lw_c5 {p : Program} {l : Launch} {e : Env} {s : State} {m : MethodId} {args : Array Value} {below : List Frame} {meth : Method} {c : Code} {G : xg_G} {O : Heap} {Q : State → Prop} {t : xT} {b Ls i : Nat} {xs : Nat → Int32} (X : xg_X p m c cL_law 4 s args RL G) (hX : va_X b Ls xs s O) (hbl : b < O.size) (hL : Ls ≤ 3072) (hi : i + 6 ≤ Ls) (hR : okR t) (kk : ∀ t2, okR t2 → gl p l e s m args below meth c G O Q t2 [some (.ref b), some (.ref (O.size + 0)), some (.ref (O.size + 76)), some (.int (nI i))] 606 []) : gl p l e s m args below meth c G O Q t [some (.ref b), some (.ref (O.size + 0)), some (.ref (O.size + 76)), some (.int (nI i))] 309 [] := by
  obtain ⟨nt, nl, nh, nj, pr, R⟩ := hR
  refine g_aload_n (pc := 309) X dL_law_309 rfl rfl ?_
  refine g_aload_n (pc := 310) X dL_law_310 rfl rfl ?_
  refine g_iload_n (pc := 311) X dL_law_311 rfl rfl ?_
  refine g_iconst (pc := 312) (v := 1) X dL_law_312 (by decide) ?_
  refine g_iadd (pc := 313) X dL_law_313 ?_
  refine g_sld (pc := 314) X hX hbl hL (i + 1) (nI_add i 1) (by omega) dL_law_314 ?_
  refine g_aload_n (pc := 315) X dL_law_315 rfl rfl ?_
  refine g_iload_n (pc := 316) X dL_law_316 rfl rfl ?_
  refine g_iconst (pc := 317) (v := 2) X dL_law_317 (by decide) ?_
  refine g_iadd (pc := 318) X dL_law_318 ?_
  refine g_sld (pc := 319) X hX hbl hL (i + 2) (nI_add i 2) (by omega) dL_law_319 ?_
  refine g_aload_n (pc := 320) X dL_law_320 rfl rfl ?_
  refine g_iload_n (pc := 321) X dL_law_321 rfl rfl ?_
  refine g_iconst (pc := 322) (v := 3) X dL_law_322 (by decide) ?_
  refine g_iadd (pc := 323) X dL_law_323 ?_
  refine g_sld (pc := 324) X hX hbl hL (i + 3) (nI_add i 3) (by omega) dL_law_324 ?_
  refine gl_Vi (pc := 325) X 8 xc_L_37 (c_list l G O t nh (xs (i + 1)) (xs (i + 2)) (xs (i + 3)) R.H.le R.H.c) dL_law_325 rfl (by decide) rfl rfl rfl (by decide) (Nat.le_of_ble_eq_true rfl) (fun v1 t1 h1 => ?_)
  have F := f_list (t := t) (nt := nt) (nl := nl) (nh := nh) (nj := nj) (pr := pr) (xs (i + 1)) (xs (i + 2)) (xs (i + 3))  h1
  refine g_aload_n (pc := 328) X dL_law_328 rfl rfl ?_
  refine g_aload_n (pc := 329) X dL_law_329 rfl rfl ?_
  refine g_iload_n (pc := 330) X dL_law_330 rfl rfl ?_
  refine g_iconst (pc := 331) (v := 1) X dL_law_331 (by decide) ?_
  refine g_iadd (pc := 332) X dL_law_332 ?_
  refine g_sld (pc := 333) X hX hbl hL (i + 1) (nI_add i 1) (by omega) dL_law_333 ?_
  refine g_aload_n (pc := 334) X dL_law_334 rfl rfl ?_
  refine g_iload_n (pc := 335) X dL_law_335 rfl rfl ?_
  refine g_iconst (pc := 336) (v := 2) X dL_law_336 (by decide) ?_
  refine g_iadd (pc := 337) X dL_law_337 ?_
  refine g_sld (pc := 338) X hX hbl hL (i + 2) (nI_add i 2) (by omega) dL_law_338 ?_
  refine g_aload_n (pc := 339) X dL_law_339 rfl rfl ?_
  refine g_iload_n (pc := 340) X dL_law_340 rfl rfl ?_
  refine g_iconst (pc := 341) (v := 3) X dL_law_341 (by decide) ?_
  refine g_iadd (pc := 342) X dL_law_342 ?_
  refine g_sld (pc := 343) X hX hbl hL (i + 3) (nI_add i 3) (by omega) dL_law_343 ?_
  refine gl_Vi (pc := 344) (rest := [.int v1]) X 9 xc_L_40 (m_list l G O t1 nh (xs (i + 1)) (xs (i + 2)) (xs (i + 3)) R.H.le ((F 76 7 (by decide)).trans R.H.m)) dL_law_344 rfl (by decide) rfl rfl rfl (by decide) (Nat.le_of_ble_eq_true rfl) (fun v2 t2 h2 => ?_)
  obtain ⟨hv, hok⟩ := s_list (xs (i + 1)) (xs (i + 2)) (xs (i + 3)) R h1 h2
  exact g_icmp_eq (pc := 347) (tgt := 606) X dL_law_347 (by decide) (fun _ => kk t2 hok) (fun q => absurd hv q)
set_option maxRecDepth 100000 in
set_option maxHeartbeats 4000000 in
theorem lw_c6 {p : Program} {l : Launch} {e : Env} {s : State} {m : MethodId} {args : Array Value} {below : List Frame} {meth : Method} {c : Code} {G : xg_G} {O : Heap} {Q : State → Prop} {t : xT} {b Ls i : Nat} {xs : Nat → Int32} (X : xg_X p m c cL_law 4 s args RL G) (hX : va_X b Ls xs s O) (hbl : b < O.size) (hL : Ls ≤ 3072) (hi : i + 6 ≤ Ls) (hR : okR t) (kk : ∀ t2, okR t2 → gl p l e s m args below meth c G O Q t2 [some (.ref b), some (.ref (O.size + 0)), some (.ref (O.size + 76)), some (.int (nI i))] 606 []) : gl p l e s m args below meth c G O Q t [some (.ref b), some (.ref (O.size + 0)), some (.ref (O.size + 76)), some (.int (nI i))] 352 [] := by
  obtain ⟨nt, nl, nh, nj, pr, R⟩ := hR
  refine g_aload_n (pc := 352) X dL_law_352 rfl rfl ?_
  refine g_aload_n (pc := 353) X dL_law_353 rfl rfl ?_
  refine g_iload_n (pc := 354) X dL_law_354 rfl rfl ?_
  refine g_iconst (pc := 355) (v := 1) X dL_law_355 (by decide) ?_
  refine g_iadd (pc := 356) X dL_law_356 ?_
  refine g_sld (pc := 357) X hX hbl hL (i + 1) (nI_add i 1) (by omega) dL_law_357 ?_
  refine g_aload_n (pc := 358) X dL_law_358 rfl rfl ?_
  refine g_iload_n (pc := 359) X dL_law_359 rfl rfl ?_
  refine g_iconst (pc := 360) (v := 2) X dL_law_360 (by decide) ?_
  refine g_iadd (pc := 361) X dL_law_361 ?_
  refine g_sld (pc := 362) X hX hbl hL (i + 2) (nI_add i 2) (by omega) dL_law_362 ?_
  refine g_aload_n (pc := 363) X dL_law_363 rfl rfl ?_
  refine g_iload_n (pc := 364) X dL_law_364 rfl rfl ?_
  refine g_iconst (pc := 365) (v := 3) X dL_law_365 (by decide) ?_
  refine g_iadd (pc := 366) X dL_law_366 ?_
  refine g_sld (pc := 367) X hX hbl hL (i + 3) (nI_add i 3) (by omega) dL_law_367 ?_
  refine gl_Vi (pc := 368) X 8 xc_L_41 (c_quarrels l G O t nl nh (xs (i + 1)) (xs (i + 2)) (xs (i + 3)) R.W.le R.W.c R.W.r R.H.le R.H.c) dL_law_368 rfl (by decide) rfl rfl rfl (by decide) (Nat.le_of_ble_eq_true rfl) (fun v1 t1 h1 => ?_)
  have F := f_quarrels (t := t) (nt := nt) (nl := nl) (nh := nh) (nj := nj) (pr := pr) (xs (i + 1)) (xs (i + 2)) (xs (i + 3))  h1
  refine g_aload_n (pc := 371) X dL_law_371 rfl rfl ?_
  refine g_aload_n (pc := 372) X dL_law_372 rfl rfl ?_
  refine g_iload_n (pc := 373) X dL_law_373 rfl rfl ?_
  refine g_iconst (pc := 374) (v := 1) X dL_law_374 (by decide) ?_
  refine g_iadd (pc := 375) X dL_law_375 ?_
  refine g_sld (pc := 376) X hX hbl hL (i + 1) (nI_add i 1) (by omega) dL_law_376 ?_
  refine g_aload_n (pc := 377) X dL_law_377 rfl rfl ?_
  refine g_iload_n (pc := 378) X dL_law_378 rfl rfl ?_
  refine g_iconst (pc := 379) (v := 2) X dL_law_379 (by decide) ?_
  refine g_iadd (pc := 380) X dL_law_380 ?_
  refine g_sld (pc := 381) X hX hbl hL (i + 2) (nI_add i 2) (by omega) dL_law_381 ?_
  refine g_aload_n (pc := 382) X dL_law_382 rfl rfl ?_
  refine g_iload_n (pc := 383) X dL_law_383 rfl rfl ?_
  refine g_iconst (pc := 384) (v := 3) X dL_law_384 (by decide) ?_
  refine g_iadd (pc := 385) X dL_law_385 ?_
  refine g_sld (pc := 386) X hX hbl hL (i + 3) (nI_add i 3) (by omega) dL_law_386 ?_
  refine gl_Vi (pc := 387) (rest := [.int v1]) X 9 xc_L_44 (m_quarrels l G O t1 nl nh (xs (i + 1)) (xs (i + 2)) (xs (i + 3)) R.W.le ((F 76 4 (by decide)).trans R.W.m) R.H.le ((F 76 7 (by decide)).trans R.H.m)) dL_law_387 rfl (by decide) rfl rfl rfl (by decide) (Nat.le_of_ble_eq_true rfl) (fun v2 t2 h2 => ?_)
  obtain ⟨hv, hok⟩ := s_quarrels (xs (i + 1)) (xs (i + 2)) (xs (i + 3)) R h1 h2
  exact g_icmp_eq (pc := 390) (tgt := 606) X dL_law_390 (by decide) (fun _ => kk t2 hok) (fun q => absurd hv q)
set_option maxRecDepth 100000 in
set_option maxHeartbeats 4000000 in
theorem lw_c7 {p : Program} {l : Launch} {e : Env} {s : State} {m : MethodId} {args : Array Value} {below : List Frame} {meth : Method} {c : Code} {G : xg_G} {O : Heap} {Q : State → Prop} {t : xT} {b Ls i : Nat} {xs : Nat → Int32} (X : xg_X p m c cL_law 4 s args RL G) (hX : va_X b Ls xs s O) (hbl : b < O.size) (hL : Ls ≤ 3072) (hi : i + 6 ≤ Ls) (hR : okR t) (kk : ∀ t2, okR t2 → gl p l e s m args below meth c G O Q t2 [some (.ref b), some (.ref (O.size + 0)), some (.ref (O.size + 76)), some (.int (nI i))] 606 []) : gl p l e s m args below meth c G O Q t [some (.ref b), some (.ref (O.size + 0)), some (.ref (O.size + 76)), some (.int (nI i))] 395 [] := by
  obtain ⟨nt, nl, nh, nj, pr, R⟩ := hR
  refine g_aload_n (pc := 395) X dL_law_395 rfl rfl ?_
  refine g_aload_n (pc := 396) X dL_law_396 rfl rfl ?_
  refine g_iload_n (pc := 397) X dL_law_397 rfl rfl ?_
  refine g_iconst (pc := 398) (v := 1) X dL_law_398 (by decide) ?_
  refine g_iadd (pc := 399) X dL_law_399 ?_
  refine g_sld (pc := 400) X hX hbl hL (i + 1) (nI_add i 1) (by omega) dL_law_400 ?_
  refine g_aload_n (pc := 401) X dL_law_401 rfl rfl ?_
  refine g_iload_n (pc := 402) X dL_law_402 rfl rfl ?_
  refine g_iconst (pc := 403) (v := 2) X dL_law_403 (by decide) ?_
  refine g_iadd (pc := 404) X dL_law_404 ?_
  refine g_sld (pc := 405) X hX hbl hL (i + 2) (nI_add i 2) (by omega) dL_law_405 ?_
  refine g_aload_n (pc := 406) X dL_law_406 rfl rfl ?_
  refine g_iload_n (pc := 407) X dL_law_407 rfl rfl ?_
  refine g_iconst (pc := 408) (v := 3) X dL_law_408 (by decide) ?_
  refine g_iadd (pc := 409) X dL_law_409 ?_
  refine g_sld (pc := 410) X hX hbl hL (i + 3) (nI_add i 3) (by omega) dL_law_410 ?_
  refine gl_Vi (pc := 411) X 8 xc_L_45 (c_best l G O t nl nh (xs (i + 1)) (xs (i + 2)) (xs (i + 3)) R.W.le R.W.c R.W.r R.H.le R.H.c R.Z) dL_law_411 rfl (by decide) rfl rfl rfl (by decide) (Nat.le_of_ble_eq_true rfl) (fun v1 t1 h1 => ?_)
  have F := f_best (t := t) (nt := nt) (nl := nl) (nh := nh) (nj := nj) (pr := pr) (xs (i + 1)) (xs (i + 2)) (xs (i + 3))  h1
  refine g_aload_n (pc := 414) X dL_law_414 rfl rfl ?_
  refine g_aload_n (pc := 415) X dL_law_415 rfl rfl ?_
  refine g_iload_n (pc := 416) X dL_law_416 rfl rfl ?_
  refine g_iconst (pc := 417) (v := 1) X dL_law_417 (by decide) ?_
  refine g_iadd (pc := 418) X dL_law_418 ?_
  refine g_sld (pc := 419) X hX hbl hL (i + 1) (nI_add i 1) (by omega) dL_law_419 ?_
  refine g_aload_n (pc := 420) X dL_law_420 rfl rfl ?_
  refine g_iload_n (pc := 421) X dL_law_421 rfl rfl ?_
  refine g_iconst (pc := 422) (v := 2) X dL_law_422 (by decide) ?_
  refine g_iadd (pc := 423) X dL_law_423 ?_
  refine g_sld (pc := 424) X hX hbl hL (i + 2) (nI_add i 2) (by omega) dL_law_424 ?_
  refine g_aload_n (pc := 425) X dL_law_425 rfl rfl ?_
  refine g_iload_n (pc := 426) X dL_law_426 rfl rfl ?_
  refine g_iconst (pc := 427) (v := 3) X dL_law_427 (by decide) ?_
  refine g_iadd (pc := 428) X dL_law_428 ?_
  refine g_sld (pc := 429) X hX hbl hL (i + 3) (nI_add i 3) (by omega) dL_law_429 ?_
  refine gl_Vi (pc := 430) (rest := [.int v1]) X 9 xc_L_48 (m_best l G O t1 nl nh (xs (i + 1)) (xs (i + 2)) (xs (i + 3)) R.W.le ((F 76 4 (by decide)).trans R.W.m) R.H.le ((F 76 7 (by decide)).trans R.H.m)) dL_law_430 rfl (by decide) rfl rfl rfl (by decide) (Nat.le_of_ble_eq_true rfl) (fun v2 t2 h2 => ?_)
  obtain ⟨hv, hok⟩ := s_best (xs (i + 1)) (xs (i + 2)) (xs (i + 3)) R h1 h2
  exact g_icmp_eq (pc := 433) (tgt := 606) X dL_law_433 (by decide) (fun _ => kk t2 hok) (fun q => absurd hv q)
set_option maxRecDepth 100000 in
set_option maxHeartbeats 4000000 in
theorem lw_c8 {p : Program} {l : Launch} {e : Env} {s : State} {m : MethodId} {args : Array Value} {below : List Frame} {meth : Method} {c : Code} {G : xg_G} {O : Heap} {Q : State → Prop} {t : xT} {b Ls i : Nat} {xs : Nat → Int32} (X : xg_X p m c cL_law 4 s args RL G) (hX : va_X b Ls xs s O) (hbl : b < O.size) (hL : Ls ≤ 3072) (hi : i + 6 ≤ Ls) (hR : okR t) (kk : ∀ t2, okR t2 → gl p l e s m args below meth c G O Q t2 [some (.ref b), some (.ref (O.size + 0)), some (.ref (O.size + 76)), some (.int (nI i))] 606 []) : gl p l e s m args below meth c G O Q t [some (.ref b), some (.ref (O.size + 0)), some (.ref (O.size + 76)), some (.int (nI i))] 438 [] := by
  obtain ⟨nt, nl, nh, nj, pr, R⟩ := hR
  refine g_aload_n (pc := 438) X dL_law_438 rfl rfl ?_
  refine g_aload_n (pc := 439) X dL_law_439 rfl rfl ?_
  refine g_iload_n (pc := 440) X dL_law_440 rfl rfl ?_
  refine g_iconst (pc := 441) (v := 1) X dL_law_441 (by decide) ?_
  refine g_iadd (pc := 442) X dL_law_442 ?_
  refine g_sld (pc := 443) X hX hbl hL (i + 1) (nI_add i 1) (by omega) dL_law_443 ?_
  refine gl_Vi (pc := 444) X 8 xc_L_49 (c_price l G O t  (xs (i + 1)) ) dL_law_444 rfl (by decide) rfl rfl rfl (by decide) (Nat.le_of_ble_eq_true rfl) (fun v1 t1 h1 => ?_)
  have F := f_price (t := t) (nt := nt) (nl := nl) (nh := nh) (nj := nj) (pr := pr) (xs (i + 1))  h1
  refine g_aload_n (pc := 447) X dL_law_447 rfl rfl ?_
  refine g_aload_n (pc := 448) X dL_law_448 rfl rfl ?_
  refine g_iload_n (pc := 449) X dL_law_449 rfl rfl ?_
  refine g_iconst (pc := 450) (v := 1) X dL_law_450 (by decide) ?_
  refine g_iadd (pc := 451) X dL_law_451 ?_
  refine g_sld (pc := 452) X hX hbl hL (i + 1) (nI_add i 1) (by omega) dL_law_452 ?_
  refine gl_Vi (pc := 453) (rest := [.int v1]) X 9 xc_L_53 (m_price l G O t1  (xs (i + 1)) ) dL_law_453 rfl (by decide) rfl rfl rfl (by decide) (Nat.le_of_ble_eq_true rfl) (fun v2 t2 h2 => ?_)
  obtain ⟨hv, hok⟩ := s_price (xs (i + 1)) R h1 h2
  exact g_icmp_eq (pc := 456) (tgt := 606) X dL_law_456 (by decide) (fun _ => kk t2 hok) (fun q => absurd hv q)
set_option maxRecDepth 100000 in
set_option maxHeartbeats 4000000 in
theorem lw_c9 {p : Program} {l : Launch} {e : Env} {s : State} {m : MethodId} {args : Array Value} {below : List Frame} {meth : Method} {c : Code} {G : xg_G} {O : Heap} {Q : State → Prop} {t : xT} {b Ls i : Nat} {xs : Nat → Int32} (X : xg_X p m c cL_law 4 s args RL G) (hX : va_X b Ls xs s O) (hbl : b < O.size) (hL : Ls ≤ 3072) (hi : i + 6 ≤ Ls) (hR : okR t) (kk : ∀ t2, okR t2 → gl p l e s m args below meth c G O Q t2 [some (.ref b), some (.ref (O.size + 0)), some (.ref (O.size + 76)), some (.int (nI i))] 606 []) : gl p l e s m args below meth c G O Q t [some (.ref b), some (.ref (O.size + 0)), some (.ref (O.size + 76)), some (.int (nI i))] 461 [] := by
  obtain ⟨nt, nl, nh, nj, pr, R⟩ := hR
  refine g_aload_n (pc := 461) X dL_law_461 rfl rfl ?_
  refine gl_Vi (pc := 462) X 8 xc_L_54 (c_join l G O t nl nh pr  R.W.le R.W.c R.W.r R.H.le R.H.c R.Z R.P.le R.P.c R.H.pr) dL_law_462 rfl (by decide) rfl rfl rfl (by decide) (Nat.le_of_ble_eq_true rfl) (fun v1 t1 h1 => ?_)
  have F := f_join (t := t) (nt := nt) (nl := nl) (nh := nh) (nj := nj) (pr := pr)   h1
  refine g_aload_n (pc := 465) X dL_law_465 rfl rfl ?_
  refine gl_Vi (pc := 466) (rest := [.int v1]) X 9 xc_L_58 (m_join l G O t1 nl nh pr  R.W.le ((F 76 4 (by decide)).trans R.W.m) R.H.le ((F 76 7 (by decide)).trans R.H.m) R.P.le ((F 76 17 (by decide)).trans R.P.m) (fun a ha => by rw [F 79 a (by decide), R.H.p a ha]; exact R.H.pr a ha)) dL_law_466 rfl (by decide) rfl rfl rfl (by decide) (Nat.le_of_ble_eq_true rfl) (fun v2 t2 h2 => ?_)
  obtain ⟨hv, hok⟩ := s_join  R h1 h2
  exact g_icmp_eq (pc := 469) (tgt := 606) X dL_law_469 (by decide) (fun _ => kk t2 hok) (fun q => absurd hv q)
set_option maxRecDepth 100000 in
set_option maxHeartbeats 4000000 in
theorem lw_c10 {p : Program} {l : Launch} {e : Env} {s : State} {m : MethodId} {args : Array Value} {below : List Frame} {meth : Method} {c : Code} {G : xg_G} {O : Heap} {Q : State → Prop} {t : xT} {b Ls i : Nat} {xs : Nat → Int32} (X : xg_X p m c cL_law 4 s args RL G) (hX : va_X b Ls xs s O) (hbl : b < O.size) (hL : Ls ≤ 3072) (hi : i + 6 ≤ Ls) (hR : okR t) (kk : ∀ t2, okR t2 → gl p l e s m args below meth c G O Q t2 [some (.ref b), some (.ref (O.size + 0)), some (.ref (O.size + 76)), some (.int (nI i))] 606 []) : gl p l e s m args below meth c G O Q t [some (.ref b), some (.ref (O.size + 0)), some (.ref (O.size + 76)), some (.int (nI i))] 474 [] := by
  obtain ⟨nt, nl, nh, nj, pr, R⟩ := hR
  refine g_aload_n (pc := 474) X dL_law_474 rfl rfl ?_
  refine g_aload_n (pc := 475) X dL_law_475 rfl rfl ?_
  refine g_iload_n (pc := 476) X dL_law_476 rfl rfl ?_
  refine g_iconst (pc := 477) (v := 1) X dL_law_477 (by decide) ?_
  refine g_iadd (pc := 478) X dL_law_478 ?_
  refine g_sld (pc := 479) X hX hbl hL (i + 1) (nI_add i 1) (by omega) dL_law_479 ?_
  refine g_aload_n (pc := 480) X dL_law_480 rfl rfl ?_
  refine g_iload_n (pc := 481) X dL_law_481 rfl rfl ?_
  refine g_iconst (pc := 482) (v := 2) X dL_law_482 (by decide) ?_
  refine g_iadd (pc := 483) X dL_law_483 ?_
  refine g_sld (pc := 484) X hX hbl hL (i + 2) (nI_add i 2) (by omega) dL_law_484 ?_
  refine gl_Vi (pc := 485) X 8 xc_L_59 (c_leaf l G O t nj (xs (i + 1)) (xs (i + 2)) R.J.le R.J.c) dL_law_485 rfl (by decide) rfl rfl rfl (by decide) (Nat.le_of_ble_eq_true rfl) (fun v1 t1 h1 => ?_)
  have F := f_leaf (t := t) (nt := nt) (nl := nl) (nh := nh) (nj := nj) (pr := pr) (xs (i + 1)) (xs (i + 2))  h1
  refine g_aload_n (pc := 488) X dL_law_488 rfl rfl ?_
  refine g_aload_n (pc := 489) X dL_law_489 rfl rfl ?_
  refine g_iload_n (pc := 490) X dL_law_490 rfl rfl ?_
  refine g_iconst (pc := 491) (v := 1) X dL_law_491 (by decide) ?_
  refine g_iadd (pc := 492) X dL_law_492 ?_
  refine g_sld (pc := 493) X hX hbl hL (i + 1) (nI_add i 1) (by omega) dL_law_493 ?_
  refine g_aload_n (pc := 494) X dL_law_494 rfl rfl ?_
  refine g_iload_n (pc := 495) X dL_law_495 rfl rfl ?_
  refine g_iconst (pc := 496) (v := 2) X dL_law_496 (by decide) ?_
  refine g_iadd (pc := 497) X dL_law_497 ?_
  refine g_sld (pc := 498) X hX hbl hL (i + 2) (nI_add i 2) (by omega) dL_law_498 ?_
  refine gl_Vi (pc := 499) (rest := [.int v1]) X 9 xc_L_63 (m_leaf l G O t1 nj (xs (i + 1)) (xs (i + 2)) R.J.le ((F 76 21 (by decide)).trans R.J.m)) dL_law_499 rfl (by decide) rfl rfl rfl (by decide) (Nat.le_of_ble_eq_true rfl) (fun v2 t2 h2 => ?_)
  obtain ⟨hv, hok⟩ := s_leaf (xs (i + 1)) (xs (i + 2)) R h1 h2
  exact g_icmp_eq (pc := 502) (tgt := 606) X dL_law_502 (by decide) (fun _ => kk t2 hok) (fun q => absurd hv q)
set_option maxRecDepth 100000 in
set_option maxHeartbeats 4000000 in
theorem lw_c11 {p : Program} {l : Launch} {e : Env} {s : State} {m : MethodId} {args : Array Value} {below : List Frame} {meth : Method} {c : Code} {G : xg_G} {O : Heap} {Q : State → Prop} {t : xT} {b Ls i : Nat} {xs : Nat → Int32} (X : xg_X p m c cL_law 4 s args RL G) (hX : va_X b Ls xs s O) (hbl : b < O.size) (hL : Ls ≤ 3072) (hi : i + 6 ≤ Ls) (hR : okR t) (kk : ∀ t2, okR t2 → gl p l e s m args below meth c G O Q t2 [some (.ref b), some (.ref (O.size + 0)), some (.ref (O.size + 76)), some (.int (nI i))] 606 []) : gl p l e s m args below meth c G O Q t [some (.ref b), some (.ref (O.size + 0)), some (.ref (O.size + 76)), some (.int (nI i))] 507 [] := by
  obtain ⟨nt, nl, nh, nj, pr, R⟩ := hR
  refine g_aload_n (pc := 507) X dL_law_507 rfl rfl ?_
  refine g_aload_n (pc := 508) X dL_law_508 rfl rfl ?_
  refine g_iload_n (pc := 509) X dL_law_509 rfl rfl ?_
  refine g_iconst (pc := 510) (v := 1) X dL_law_510 (by decide) ?_
  refine g_iadd (pc := 511) X dL_law_511 ?_
  refine g_sld (pc := 512) X hX hbl hL (i + 1) (nI_add i 1) (by omega) dL_law_512 ?_
  refine g_aload_n (pc := 513) X dL_law_513 rfl rfl ?_
  refine g_iload_n (pc := 514) X dL_law_514 rfl rfl ?_
  refine g_iconst (pc := 515) (v := 2) X dL_law_515 (by decide) ?_
  refine g_iadd (pc := 516) X dL_law_516 ?_
  refine g_sld (pc := 517) X hX hbl hL (i + 2) (nI_add i 2) (by omega) dL_law_517 ?_
  refine gl_Vi (pc := 518) X 8 xc_L_64 (c_book l G O t nj (xs (i + 1)) (xs (i + 2)) R.J.le R.J.c R.J.r) dL_law_518 rfl (by decide) rfl rfl rfl (by decide) (Nat.le_of_ble_eq_true rfl) (fun v1 t1 h1 => ?_)
  have F := f_book (t := t) (nt := nt) (nl := nl) (nh := nh) (nj := nj) (pr := pr) (xs (i + 1)) (xs (i + 2))  h1
  refine g_aload_n (pc := 521) X dL_law_521 rfl rfl ?_
  refine g_aload_n (pc := 522) X dL_law_522 rfl rfl ?_
  refine g_iload_n (pc := 523) X dL_law_523 rfl rfl ?_
  refine g_iconst (pc := 524) (v := 1) X dL_law_524 (by decide) ?_
  refine g_iadd (pc := 525) X dL_law_525 ?_
  refine g_sld (pc := 526) X hX hbl hL (i + 1) (nI_add i 1) (by omega) dL_law_526 ?_
  refine g_aload_n (pc := 527) X dL_law_527 rfl rfl ?_
  refine g_iload_n (pc := 528) X dL_law_528 rfl rfl ?_
  refine g_iconst (pc := 529) (v := 2) X dL_law_529 (by decide) ?_
  refine g_iadd (pc := 530) X dL_law_530 ?_
  refine g_sld (pc := 531) X hX hbl hL (i + 2) (nI_add i 2) (by omega) dL_law_531 ?_
  refine gl_Vi (pc := 532) (rest := [.int v1]) X 9 xc_L_67 (m_book l G O t1 nj (xs (i + 1)) (xs (i + 2)) R.J.le ((F 76 21 (by decide)).trans R.J.m) (fun k hk => by rw [F 93 k (by decide), R.J.o k hk]; exact R.J.r k hk) (fun j hj => by obtain ⟨h, k1, k2, k3⟩ := R.J.sd j hj; exact ⟨h, by have := R.H.le; omega, by rw [F 85 j (by decide), F 86 j (by decide)]; exact k2⟩)) dL_law_532 rfl (by decide) rfl rfl rfl (by decide) (Nat.le_of_ble_eq_true rfl) (fun v2 t2 h2 => ?_)
  obtain ⟨hv, hok⟩ := s_book (xs (i + 1)) (xs (i + 2)) R h1 h2
  exact g_icmp_eq (pc := 535) (tgt := 606) X dL_law_535 (by decide) (fun _ => kk t2 hok) (fun q => absurd hv q)
set_option maxRecDepth 100000 in
set_option maxHeartbeats 4000000 in
theorem lw_c12 {p : Program} {l : Launch} {e : Env} {s : State} {m : MethodId} {args : Array Value} {below : List Frame} {meth : Method} {c : Code} {G : xg_G} {O : Heap} {Q : State → Prop} {t : xT} {b Ls i : Nat} {xs : Nat → Int32} (X : xg_X p m c cL_law 4 s args RL G) (hX : va_X b Ls xs s O) (hbl : b < O.size) (hL : Ls ≤ 3072) (hi : i + 6 ≤ Ls) (hR : okR t) (kk : ∀ t2, okR t2 → gl p l e s m args below meth c G O Q t2 [some (.ref b), some (.ref (O.size + 0)), some (.ref (O.size + 76)), some (.int (nI i))] 606 []) : gl p l e s m args below meth c G O Q t [some (.ref b), some (.ref (O.size + 0)), some (.ref (O.size + 76)), some (.int (nI i))] 540 [] := by
  obtain ⟨nt, nl, nh, nj, pr, R⟩ := hR
  refine g_aload_n (pc := 540) X dL_law_540 rfl rfl ?_
  refine g_aload_n (pc := 541) X dL_law_541 rfl rfl ?_
  refine g_iload_n (pc := 542) X dL_law_542 rfl rfl ?_
  refine g_iconst (pc := 543) (v := 1) X dL_law_543 (by decide) ?_
  refine g_iadd (pc := 544) X dL_law_544 ?_
  refine g_sld (pc := 545) X hX hbl hL (i + 1) (nI_add i 1) (by omega) dL_law_545 ?_
  refine g_aload_n (pc := 546) X dL_law_546 rfl rfl ?_
  refine g_iload_n (pc := 547) X dL_law_547 rfl rfl ?_
  refine g_iconst (pc := 548) (v := 2) X dL_law_548 (by decide) ?_
  refine g_iadd (pc := 549) X dL_law_549 ?_
  refine g_sld (pc := 550) X hX hbl hL (i + 2) (nI_add i 2) (by omega) dL_law_550 ?_
  refine g_aload_n (pc := 551) X dL_law_551 rfl rfl ?_
  refine g_iload_n (pc := 552) X dL_law_552 rfl rfl ?_
  refine g_iconst (pc := 553) (v := 3) X dL_law_553 (by decide) ?_
  refine g_iadd (pc := 554) X dL_law_554 ?_
  refine g_sld (pc := 555) X hX hbl hL (i + 3) (nI_add i 3) (by omega) dL_law_555 ?_
  refine gl_Vi (pc := 556) X 8 xc_L_68 (c_led l G O t nl nh nj (xs (i + 1)) (xs (i + 2)) (xs (i + 3)) R.W.le R.W.c R.W.r R.H.le R.H.c R.J.le R.J.c (fun h hh => by
      rcases R.L h hh with ⟨k1, -⟩ | ⟨-, -, j, q, k1, k2, k3, k4, -⟩
      · exact Or.inl k1
      · exact Or.inr ⟨j, q, k1, k2, k3, k4⟩)) dL_law_556 rfl (by decide) rfl rfl rfl (by decide) (Nat.le_of_ble_eq_true rfl) (fun v1 t1 h1 => ?_)
  have F := f_led (t := t) (nt := nt) (nl := nl) (nh := nh) (nj := nj) (pr := pr) (xs (i + 1)) (xs (i + 2)) (xs (i + 3))  h1
  refine g_aload_n (pc := 559) X dL_law_559 rfl rfl ?_
  refine g_aload_n (pc := 560) X dL_law_560 rfl rfl ?_
  refine g_iload_n (pc := 561) X dL_law_561 rfl rfl ?_
  refine g_iconst (pc := 562) (v := 1) X dL_law_562 (by decide) ?_
  refine g_iadd (pc := 563) X dL_law_563 ?_
  refine g_sld (pc := 564) X hX hbl hL (i + 1) (nI_add i 1) (by omega) dL_law_564 ?_
  refine g_aload_n (pc := 565) X dL_law_565 rfl rfl ?_
  refine g_iload_n (pc := 566) X dL_law_566 rfl rfl ?_
  refine g_iconst (pc := 567) (v := 2) X dL_law_567 (by decide) ?_
  refine g_iadd (pc := 568) X dL_law_568 ?_
  refine g_sld (pc := 569) X hX hbl hL (i + 2) (nI_add i 2) (by omega) dL_law_569 ?_
  refine g_aload_n (pc := 570) X dL_law_570 rfl rfl ?_
  refine g_iload_n (pc := 571) X dL_law_571 rfl rfl ?_
  refine g_iconst (pc := 572) (v := 3) X dL_law_572 (by decide) ?_
  refine g_iadd (pc := 573) X dL_law_573 ?_
  refine g_sld (pc := 574) X hX hbl hL (i + 3) (nI_add i 3) (by omega) dL_law_574 ?_
  refine gl_Vi (pc := 575) (rest := [.int v1]) X 9 xc_L_71 (m_led l G O t1 nh (xs (i + 1)) (xs (i + 2)) (xs (i + 3)) R.H.le ((F 76 7 (by decide)).trans R.H.m)) dL_law_575 rfl (by decide) rfl rfl rfl (by decide) (Nat.le_of_ble_eq_true rfl) (fun v2 t2 h2 => ?_)
  obtain ⟨hv, hok⟩ := s_led (xs (i + 1)) (xs (i + 2)) (xs (i + 3)) R h1 h2
  exact g_icmp_eq (pc := 578) (tgt := 606) X dL_law_578 (by decide) (fun _ => kk t2 hok) (fun q => absurd hv q)
set_option maxRecDepth 100000 in
set_option maxHeartbeats 4000000 in
theorem lw_c13 {p : Program} {l : Launch} {e : Env} {s : State} {m : MethodId} {args : Array Value} {below : List Frame} {meth : Method} {c : Code} {G : xg_G} {O : Heap} {Q : State → Prop} {t : xT} {b Ls i : Nat} {xs : Nat → Int32} (X : xg_X p m c cL_law 4 s args RL G) (hX : va_X b Ls xs s O) (hbl : b < O.size) (hL : Ls ≤ 3072) (hi : i + 6 ≤ Ls) (hR : okR t) (kk : ∀ t2, okR t2 → gl p l e s m args below meth c G O Q t2 [some (.ref b), some (.ref (O.size + 0)), some (.ref (O.size + 76)), some (.int (nI i))] 606 []) : gl p l e s m args below meth c G O Q t [some (.ref b), some (.ref (O.size + 0)), some (.ref (O.size + 76)), some (.int (nI i))] 583 [] := by
  obtain ⟨nt, nl, nh, nj, pr, R⟩ := hR
  refine g_aload_n (pc := 583) X dL_law_583 rfl rfl ?_
  refine g_aload_n (pc := 584) X dL_law_584 rfl rfl ?_
  refine g_iload_n (pc := 585) X dL_law_585 rfl rfl ?_
  refine g_iconst (pc := 586) (v := 1) X dL_law_586 (by decide) ?_
  refine g_iadd (pc := 587) X dL_law_587 ?_
  refine g_sld (pc := 588) X hX hbl hL (i + 1) (nI_add i 1) (by omega) dL_law_588 ?_
  refine gl_Vi (pc := 589) X 8 xc_L_72 (c_count l G O t nj (xs (i + 1)) R.J.le R.J.c R.J.r) dL_law_589 rfl (by decide) rfl rfl rfl (by decide) (Nat.le_of_ble_eq_true rfl) (fun v1 t1 h1 => ?_)
  have F := f_count (t := t) (nt := nt) (nl := nl) (nh := nh) (nj := nj) (pr := pr) (xs (i + 1))  h1
  refine g_aload_n (pc := 592) X dL_law_592 rfl rfl ?_
  refine g_aload_n (pc := 593) X dL_law_593 rfl rfl ?_
  refine g_iload_n (pc := 594) X dL_law_594 rfl rfl ?_
  refine g_iconst (pc := 595) (v := 1) X dL_law_595 (by decide) ?_
  refine g_iadd (pc := 596) X dL_law_596 ?_
  refine g_sld (pc := 597) X hX hbl hL (i + 1) (nI_add i 1) (by omega) dL_law_597 ?_
  refine gl_Vi (pc := 598) (rest := [.int v1]) X 9 xc_L_75 (m_count l G O t1 nj (xs (i + 1)) R.J.le ((F 76 21 (by decide)).trans R.J.m) (fun k hk => by rw [F 93 k (by decide), R.J.o k hk]; exact R.J.r k hk) (fun j hj => by obtain ⟨h, k1, k2, k3⟩ := R.J.sd j hj; exact ⟨h, by have := R.H.le; omega, by rw [F 85 j (by decide), F 86 j (by decide)]; exact k2⟩)) dL_law_598 rfl (by decide) rfl rfl rfl (by decide) (Nat.le_of_ble_eq_true rfl) (fun v2 t2 h2 => ?_)
  obtain ⟨hv, hok⟩ := s_count (xs (i + 1)) R h1 h2
  exact g_icmp_eq (pc := 601) (tgt := 606) X dL_law_601 (by decide) (fun _ => kk t2 hok) (fun q => absurd hv q)
set_option maxRecDepth 100000 in
set_option maxHeartbeats 4000000 in
theorem lw_loop {p : Program} {l : Launch} {e : Env} {s : State} {m : MethodId} {args : Array Value} {below : List Frame} {meth : Method} {c : Code} {G : xg_G} {O : Heap} {Q : State → Prop} {b Ls : Nat} {xs : Nat → Int32} (X : xg_X p m c cL_law 4 s args RL G) (hX : va_X b Ls xs s O) (hbl : b < O.size) (hL : Ls ≤ 3072) (kE : ∀ (t : xT) (L : List (Option Value)), gl p l e s m args below meth c G O Q t L 612 []) : ∀ (z9 i : Nat) (t : xT), Ls < i + z9 → i ≤ 4000 → okR t → gl p l e s m args below meth c G O Q t [some (.ref b), some (.ref (O.size + 0)), some (.ref (O.size + 76)), some (.int (nI i))] 18 [] := by
  intro z9
  induction z9 with
  | zero =>
    intro i t h9 hi hR
    refine g_iload_n (pc := 18) X dL_law_18 rfl rfl ?_
    refine g_aload_n (pc := 19) X dL_law_19 rfl rfl ?_
    refine g_slen (pc := 20) X hX hbl dL_law_20 ?_
    refine g_bipush (pc := 21) (v := 6) X dL_law_21 (by decide) ?_
    refine g_isub (pc := 23) X dL_law_23 ?_
    refine g_icmp_gt (pc := 24) (tgt := 612) X dL_law_24 (by decide) (fun _ => kE _ _) (fun hq => ?_)
    exact absurd (lx_end hL hi hq) (by omega)
  | succ z9 ih =>
    intro i t h9 hi hR
    refine g_iload_n (pc := 18) X dL_law_18 rfl rfl ?_
    refine g_aload_n (pc := 19) X dL_law_19 rfl rfl ?_
    refine g_slen (pc := 20) X hX hbl dL_law_20 ?_
    refine g_bipush (pc := 21) (v := 6) X dL_law_21 (by decide) ?_
    refine g_isub (pc := 23) X dL_law_23 ?_
    refine g_icmp_gt (pc := 24) (tgt := 612) X dL_law_24 (by decide) (fun _ => kE _ _) (fun hq => ?_)
    have hi6 := lx_end hL hi hq
    have kk : ∀ t2, okR t2 → gl p l e s m args below meth c G O Q t2 [some (.ref b), some (.ref (O.size + 0)), some (.ref (O.size + 76)), some (.int (nI i))] 606 [] := by
      intro t2 h2
      refine g_inc (pc := 606) (kv := 6) X dL_law_606 (by decide) rfl (by decide) ?_
      refine g_goto (pc := 609) (tgt := 18) X dL_law_609 (by decide) ?_
      refine g_eq (L2 := [some (.ref b), some (.ref (O.size + 0)), some (.ref (O.size + 76)), some (.int (nI (i + 6)))]) rfl ?_ rfl (ih (i + 6) t2 (by omega) (by omega) h2)
      rw [← nI_add i 6]; rfl
    refine g_aload_n (pc := 27) X dL_law_27 rfl rfl ?_
    refine g_iload_n (pc := 28) X dL_law_28 rfl rfl ?_
    refine g_sld (pc := 29) X hX hbl hL i rfl (by omega) dL_law_29 ?_
    refine g_bipush (pc := 30) (v := 15) X dL_law_30 (by decide) ?_
    refine g_iand (pc := 32) X dL_law_32 ?_
    by_cases q0 : xs i &&& 15 = nI 0
    · refine g_swIn (pc := 33) (tgt := 104) X 0 dL_law_33 q0 (by decide) rfl (by decide) rfl (by decide) ?_
      exact lw_c0 X hX hbl hL hi6 hR kk
    by_cases q1 : xs i &&& 15 = nI 1
    · refine g_swIn (pc := 33) (tgt := 167) X 1 dL_law_33 q1 (by decide) rfl (by decide) rfl (by decide) ?_
      exact lw_c1 X hX hbl hL hi6 hR kk
    by_cases q2 : xs i &&& 15 = nI 2
    · refine g_swIn (pc := 33) (tgt := 190) X 2 dL_law_33 q2 (by decide) rfl (by decide) rfl (by decide) ?_
      exact lw_c2 X hX hbl hL hi6 hR kk
    by_cases q3 : xs i &&& 15 = nI 3
    · refine g_swIn (pc := 33) (tgt := 213) X 3 dL_law_33 q3 (by decide) rfl (by decide) rfl (by decide) ?_
      exact lw_c3 X hX hbl hL hi6 hR kk
    by_cases q4 : xs i &&& 15 = nI 4
    · refine g_swIn (pc := 33) (tgt := 256) X 4 dL_law_33 q4 (by decide) rfl (by decide) rfl (by decide) ?_
      exact lw_c4 X hX hbl hL hi6 hR kk
    by_cases q5 : xs i &&& 15 = nI 5
    · refine g_swIn (pc := 33) (tgt := 309) X 5 dL_law_33 q5 (by decide) rfl (by decide) rfl (by decide) ?_
      exact lw_c5 X hX hbl hL hi6 hR kk
    by_cases q6 : xs i &&& 15 = nI 6
    · refine g_swIn (pc := 33) (tgt := 352) X 6 dL_law_33 q6 (by decide) rfl (by decide) rfl (by decide) ?_
      exact lw_c6 X hX hbl hL hi6 hR kk
    by_cases q7 : xs i &&& 15 = nI 7
    · refine g_swIn (pc := 33) (tgt := 395) X 7 dL_law_33 q7 (by decide) rfl (by decide) rfl (by decide) ?_
      exact lw_c7 X hX hbl hL hi6 hR kk
    by_cases q8 : xs i &&& 15 = nI 8
    · refine g_swIn (pc := 33) (tgt := 438) X 8 dL_law_33 q8 (by decide) rfl (by decide) rfl (by decide) ?_
      exact lw_c8 X hX hbl hL hi6 hR kk
    by_cases q9 : xs i &&& 15 = nI 9
    · refine g_swIn (pc := 33) (tgt := 461) X 9 dL_law_33 q9 (by decide) rfl (by decide) rfl (by decide) ?_
      exact lw_c9 X hX hbl hL hi6 hR kk
    by_cases q10 : xs i &&& 15 = nI 10
    · refine g_swIn (pc := 33) (tgt := 474) X 10 dL_law_33 q10 (by decide) rfl (by decide) rfl (by decide) ?_
      exact lw_c10 X hX hbl hL hi6 hR kk
    by_cases q11 : xs i &&& 15 = nI 11
    · refine g_swIn (pc := 33) (tgt := 507) X 11 dL_law_33 q11 (by decide) rfl (by decide) rfl (by decide) ?_
      exact lw_c11 X hX hbl hL hi6 hR kk
    by_cases q12 : xs i &&& 15 = nI 12
    · refine g_swIn (pc := 33) (tgt := 540) X 12 dL_law_33 q12 (by decide) rfl (by decide) rfl (by decide) ?_
      exact lw_c12 X hX hbl hL hi6 hR kk
    by_cases q13 : xs i &&& 15 = nI 13
    · refine g_swIn (pc := 33) (tgt := 583) X 13 dL_law_33 q13 (by decide) rfl (by decide) rfl (by decide) ?_
      exact lw_c13 X hX hbl hL hi6 hR kk
    refine g_swOut (pc := 33) (tgt := 606) X 13 dL_law_33 rfl rfl (by decide) (fun k hk => ?_) (by decide) (kk t hR)
    match k, hk with
    | 0, _ => exact q0
    | 1, _ => exact q1
    | 2, _ => exact q2
    | 3, _ => exact q3
    | 4, _ => exact q4
    | 5, _ => exact q5
    | 6, _ => exact q6
    | 7, _ => exact q7
    | 8, _ => exact q8
    | 9, _ => exact q9
    | 10, _ => exact q10
    | 11, _ => exact q11
    | 12, _ => exact q12
    | 13, _ => exact q13
    | k + 14, h => omega
