/-! THE LAW'S CASES, by program (wip/whole/gen/p37.py) -/
theorem kl_cmp {x : Int64} : lg_cmp x x = 0 := by simp [lg_cmp]
theorem kl_pd {C M : ja_S} {t k : Nat} (h : rr C M t k) : jp_pd C k := by
  obtain ⟨-, -, -, -, -, -, hh, hp, -⟩ := h
  intro i hi
  obtain ⟨-, -, u, hu, e1⟩ := hp.2.2.2.2 i hi
  refine ⟨u, hu, e1, fun e2 => ?_⟩
  rcases (hh u hu).2 with z | ⟨-, z | z⟩
  · rw [z.1] at e2; exact absurd e2 (by decide)
  · obtain ⟨-, -, j, hj, q1, -⟩ := z; exact ⟨j, hj, q1⟩
  · rw [z.1] at e2; exact absurd e2 (by decide)
theorem kl_pm {C M : ja_S} {t k : Nat} (h : rr C M t k) : jp_pm M k := by
  obtain ⟨-, -, -, -, -, -, hh, hp, -⟩ := h
  intro i hi
  obtain ⟨q1, -, u, hu, e1⟩ := hp.2.2.2.2 i hi
  refine ⟨u, hu, q1.trans e1, fun e2 => ?_⟩
  rcases (hh u hu).2 with z | ⟨-, z | z⟩
  · rw [z.2] at e2; exact absurd e2 (by decide)
  · obtain ⟨-, -, j, hj, -, q2⟩ := z; exact ⟨j, hj, q2⟩
  · rw [z.2] at e2; exact absurd e2 (by decide)
theorem kl_KM {S : ja_S} {F : Int32 × Int32 × ja_S} {v n : Nat → Nat} (hF : hi S F.2.2) (h : jm_KM S v n) : jm_KM (jl_w F) v n := by
  have h1 : jm_KM F.2.2 v n := by
    unfold jm_KM
    rw [hF 50 (by decide), hF 51 (by decide)]
    exact h
  unfold jl_w; split
  · exact h1
  · exact h1
abbrev kl_L (b : Nat) (ad : Nat → Nat) (n : Nat) : List (Nat × Value) := [(4, .int (nI (4 * n))), (3, .ref (ad 37)), (2, .ref (ad 7)), (1, .ref (ad 0)), (0, .ref b)]
section KLC
variable {p : Program} {l : Launch} {e : Env} {s : State} {m : MethodId} {args : Array Value} {below : List Frame} {meth : Method} {c : Code} {G : jb_Gt} {ad : Nat → Nat} {a0 : Array Value} {b N n : Nat} {xs : Nat → Int32} {Q : State → Prop} {S : ja_S}
set_option maxRecDepth 100000
theorem kl_c0 (O : CallFix p m c jc_L_law 7 s args ja_T "CashMachineLaw" ∧ jb_X s s G ad) (K : jo_G s a0 G ad) (hfl : l.stackTraces = false) (hX : va_X b N xs s s.heap) (hb : b < s.heap.size) (hN : N ≤ 2048) (hn : 4 * n + 4 ≤ N) (hr : rS S) (kk : ∀ S', rS S' → ja_V p l e room_1 s m args below meth c (jb_W G ad) s.heap.size 7 (90 + n + 1) (6057 + 6 * n + 6) Q S' 1125 (kl_L b ad n) []) : ja_V p l e room_1 s m args below meth c (jb_W G ad) s.heap.size 7 (90 + n) (6057 + 6 * n) Q S 124 (kl_L b ad n) [] := by
  obtain ⟨t, k, h⟩ := hr
  refine ja_aload_n O (q := 125) jd_L_law_124 rfl rfl rfl ?_
  refine ja_aload_n O (q := 126) jd_L_law_125 rfl rfl rfl ?_
  refine ja_iload O (q := 128) jd_L_law_126 rfl rfl ?_
  refine ja_iconst O (q := 129) (v := 1) jd_L_law_128 rfl (by decide) ?_
  refine ja_iadd O (q := 130) jd_L_law_129 rfl ?_
  refine kl_ld O (q := 131) (k := 4 * n + 1) hX hb (nI_add (4 * n) 1) (by omega) (by omega) jd_L_law_130 rfl ?_
  refine ja_aload_n O (q := 132) jd_L_law_131 rfl rfl rfl ?_
  refine ja_iload O (q := 134) jd_L_law_132 rfl rfl ?_
  refine ja_iconst O (q := 135) (v := 2) jd_L_law_134 rfl (by decide) ?_
  refine ja_iadd O (q := 136) jd_L_law_135 rfl ?_
  refine kl_ld O (q := 137) (k := 4 * n + 2) hX hb (nI_add (4 * n) 2) (by omega) (by omega) jd_L_law_136 rfl ?_
  refine ja_aload_n O (q := 138) jd_L_law_137 rfl rfl rfl ?_
  refine ja_iload O (q := 140) jd_L_law_138 rfl rfl ?_
  refine ja_iconst O (q := 141) (v := 3) jd_L_law_140 rfl (by decide) ?_
  refine ja_iadd O (q := 142) jd_L_law_141 rfl ?_
  refine kl_ld O (q := 143) (k := 4 * n + 3) hX hb (nI_add (4 * n) 3) (by omega) (by omega) jd_L_law_142 rfl ?_
  refine ja_aload_n O (q := 144) jd_L_law_143 rfl rfl rfl ?_
  refine kl_S O (q := 147) (k := 5) (As := [.ref (ad 0), .int (xs (4 * n + 1)), .int (xs (4 * n + 2)), .int (xs (4 * n + 3)), .ref (ad 37)]) (st := []) (co_L_open K hfl (xs (4 * n + 1)) (xs (4 * n + 2)) (xs (4 * n + 3))) jw_265 jw_267 jw_0 ⟨by decide, by decide, by decide +kernel⟩ rfl jw_266 ⟨by decide, by decide⟩ (by decide) ⟨by show 90 + n + 1 ≤ 601024; omega, by show 6057 + 6 * n + 6 ≤ 7293034; omega⟩ jd_L_law_144 rfl ?_
  rintro _ _ ⟨F, hF, rfl, rfl⟩
  have hFh : hi S F.2.2 := by rw [hF]; exact hi_open (xs (4 * n + 1)) (xs (4 * n + 2)) (xs (4 * n + 3))
  have h' : rr S (jl_w F) t k := kl_mid h hFh
  refine ja_istore O (q := 149) jd_L_law_147 rfl (by decide) ?_
  refine ja_aload_n O (q := 150) jd_L_law_149 rfl rfl rfl ?_
  refine ja_aload_n O (q := 151) jd_L_law_150 rfl rfl rfl ?_
  refine ja_iload O (q := 153) jd_L_law_151 rfl rfl ?_
  refine ja_iconst O (q := 154) (v := 1) jd_L_law_153 rfl (by decide) ?_
  refine ja_iadd O (q := 155) jd_L_law_154 rfl ?_
  refine kl_ld O (q := 156) (k := 4 * n + 1) hX hb (nI_add (4 * n) 1) (by omega) (by omega) jd_L_law_155 rfl ?_
  refine ja_aload_n O (q := 157) jd_L_law_156 rfl rfl rfl ?_
  refine ja_iload O (q := 159) jd_L_law_157 rfl rfl ?_
  refine ja_iconst O (q := 160) (v := 2) jd_L_law_159 rfl (by decide) ?_
  refine ja_iadd O (q := 161) jd_L_law_160 rfl ?_
  refine kl_ld O (q := 162) (k := 4 * n + 2) hX hb (nI_add (4 * n) 2) (by omega) (by omega) jd_L_law_161 rfl ?_
  refine ja_aload_n O (q := 163) jd_L_law_162 rfl rfl rfl ?_
  refine ja_iload O (q := 165) jd_L_law_163 rfl rfl ?_
  refine ja_iconst O (q := 166) (v := 3) jd_L_law_165 rfl (by decide) ?_
  refine ja_iadd O (q := 167) jd_L_law_166 rfl ?_
  refine kl_ld O (q := 168) (k := 4 * n + 3) hX hb (nI_add (4 * n) 3) (by omega) (by omega) jd_L_law_167 rfl ?_
  refine jm_L_83 O (q := 171) ⟨by decide, by decide⟩ (by decide) ⟨by show 90 + n + 1 ≤ 601024; omega, by show 6057 + 6 * n + 6 ≤ 7293034; omega⟩ (co_M_open K (xs (4 * n + 1)) (xs (4 * n + 2)) (xs (4 * n + 3))) jd_L_law_168 rfl ?_
  intro r2 S2 hr2
  obtain ⟨g, hg⟩ : ∃ g, g = mp_open (jl_w F) (xs (4 * n + 1)) (xs (4 * n + 2)) (xs (4 * n + 3)) := ⟨_, rfl⟩
  rw [show mp_open (jl_w F) (xs (4 * n + 1)) (xs (4 * n + 2)) (xs (4 * n + 3)) = g from hg.symm] at hr2
  have hq := sm_open h' (xs (4 * n + 1)) (xs (4 * n + 2)) (xs (4 * n + 3))
  rw [← hF, ← hg] at hq
  have hlo : lo (jl_w F) g.2.2 := by rw [hg]; exact lo_open (xs (4 * n + 1)) (xs (4 * n + 2)) (xs (4 * n + 3))
  obtain ⟨hS2, h32, h62⟩ := kl_end hq hr2.2 hlo
  have hr3 := hr2.1
  clear hr2 hlo hq hg
  refine ja_istore O (q := 173) jd_L_law_171 rfl (by decide) ?_
  refine ja_aload_n O (q := 174) jd_L_law_173 rfl rfl rfl ?_
  refine jm_L_84 O (q := 177) ⟨by decide, by decide⟩ (by decide) ⟨by show 90 + n + 1 ≤ 601024; omega, by show 6057 + 6 * n + 6 ≤ 7293034; omega⟩ (co_M_thrown K) jd_L_law_174 rfl ?_
  rintro r5 S5 ⟨h5, h6⟩
  rw [h5, h6, h32]
  refine ja_iload O (q := 179) jd_L_law_177 rfl rfl ?_
  refine ja_icmp_eq O (g := 184) (q := 182) jd_L_law_179 (by decide) rfl (fun _ => ?_) (fun z => absurd rfl z)
  refine ja_iload O (q := 186) jd_L_law_184 rfl rfl ?_
  refine ja_if_ne O (g := 201) (q := 189) jd_L_law_186 (by decide) rfl (fun _ => ja_goto O (g := 1125) jd_L_law_201 (by decide) (ja_less (L' := kl_L b ad n) ⟨rfl, rfl, rfl, rfl, rfl, trivial⟩ (kk S2 hS2))) (fun h0 => ?_)
  refine ja_aload_n O (q := 190) jd_L_law_189 rfl rfl rfl ?_
  refine ja_iconst O (q := 191) (v := nI 0) jd_L_law_190 rfl (by decide) ?_
  refine jl_37 O (q := 192) (k := 0) rfl (by decide) jd_L_law_191 rfl ?_
  refine ja_iload O (q := 194) jd_L_law_192 rfl rfl ?_
  refine ja_i2l O (q := 195) jd_L_law_194 rfl ?_
  rw [h62 h0, hr3]
  refine ja_lcmp O (q := 196) jd_L_law_195 rfl ?_
  exact ja_if_eq O (g := 201) (q := 199) jd_L_law_196 (by decide) rfl (fun _ => ja_goto O (g := 1125) jd_L_law_201 (by decide) (ja_less (L' := kl_L b ad n) ⟨rfl, rfl, rfl, rfl, rfl, trivial⟩ (kk S2 hS2))) (fun z => absurd kl_cmp z)
theorem kl_c1 (O : CallFix p m c jc_L_law 7 s args ja_T "CashMachineLaw" ∧ jb_X s s G ad) (K : jo_G s a0 G ad) (hfl : l.stackTraces = false) (hX : va_X b N xs s s.heap) (hb : b < s.heap.size) (hN : N ≤ 2048) (hn : 4 * n + 4 ≤ N) (hr : rS S) (kk : ∀ S', rS S' → ja_V p l e room_1 s m args below meth c (jb_W G ad) s.heap.size 7 (90 + n + 1) (6057 + 6 * n + 6) Q S' 1125 (kl_L b ad n) []) : ja_V p l e room_1 s m args below meth c (jb_W G ad) s.heap.size 7 (90 + n) (6057 + 6 * n) Q S 204 (kl_L b ad n) [] := by
  obtain ⟨t, k, h⟩ := hr
  refine ja_aload_n O (q := 205) jd_L_law_204 rfl rfl rfl ?_
  refine ja_aload_n O (q := 206) jd_L_law_205 rfl rfl rfl ?_
  refine ja_iload O (q := 208) jd_L_law_206 rfl rfl ?_
  refine ja_iconst O (q := 209) (v := 1) jd_L_law_208 rfl (by decide) ?_
  refine ja_iadd O (q := 210) jd_L_law_209 rfl ?_
  refine kl_ld O (q := 211) (k := 4 * n + 1) hX hb (nI_add (4 * n) 1) (by omega) (by omega) jd_L_law_210 rfl ?_
  refine ja_aload_n O (q := 212) jd_L_law_211 rfl rfl rfl ?_
  refine ja_iload O (q := 214) jd_L_law_212 rfl rfl ?_
  refine ja_iconst O (q := 215) (v := 2) jd_L_law_214 rfl (by decide) ?_
  refine ja_iadd O (q := 216) jd_L_law_215 rfl ?_
  refine kl_ld O (q := 217) (k := 4 * n + 2) hX hb (nI_add (4 * n) 2) (by omega) (by omega) jd_L_law_216 rfl ?_
  refine ja_aload_n O (q := 218) jd_L_law_217 rfl rfl rfl ?_
  refine ja_iload O (q := 220) jd_L_law_218 rfl rfl ?_
  refine ja_iconst O (q := 221) (v := 3) jd_L_law_220 rfl (by decide) ?_
  refine ja_iadd O (q := 222) jd_L_law_221 rfl ?_
  refine kl_ld O (q := 223) (k := 4 * n + 3) hX hb (nI_add (4 * n) 3) (by omega) (by omega) jd_L_law_222 rfl ?_
  refine ja_aload_n O (q := 224) jd_L_law_223 rfl rfl rfl ?_
  refine kl_S O (q := 227) (k := 5) (As := [.ref (ad 0), .int (xs (4 * n + 1)), .int (xs (4 * n + 2)), .int (xs (4 * n + 3)), .ref (ad 37)]) (st := []) (co_L_load K hfl (xs (4 * n + 1)) (xs (4 * n + 2)) (xs (4 * n + 3))) jw_371 jw_373 jw_0 ⟨by decide, by decide, by decide +kernel⟩ rfl jw_372 ⟨by decide, by decide⟩ (by decide) ⟨by show 90 + n + 1 ≤ 601024; omega, by show 6057 + 6 * n + 6 ≤ 7293034; omega⟩ jd_L_law_224 rfl ?_
  rintro _ _ ⟨F, hF, rfl, rfl⟩
  have hFh : hi S F.2.2 := by rw [hF]; exact hi_load (xs (4 * n + 1)) (xs (4 * n + 2)) (xs (4 * n + 3))
  have h' : rr S (jl_w F) t k := kl_mid h hFh
  refine ja_istore O (q := 229) jd_L_law_227 rfl (by decide) ?_
  refine ja_aload_n O (q := 230) jd_L_law_229 rfl rfl rfl ?_
  refine ja_aload_n O (q := 231) jd_L_law_230 rfl rfl rfl ?_
  refine ja_iload O (q := 233) jd_L_law_231 rfl rfl ?_
  refine ja_iconst O (q := 234) (v := 1) jd_L_law_233 rfl (by decide) ?_
  refine ja_iadd O (q := 235) jd_L_law_234 rfl ?_
  refine kl_ld O (q := 236) (k := 4 * n + 1) hX hb (nI_add (4 * n) 1) (by omega) (by omega) jd_L_law_235 rfl ?_
  refine ja_aload_n O (q := 237) jd_L_law_236 rfl rfl rfl ?_
  refine ja_iload O (q := 239) jd_L_law_237 rfl rfl ?_
  refine ja_iconst O (q := 240) (v := 2) jd_L_law_239 rfl (by decide) ?_
  refine ja_iadd O (q := 241) jd_L_law_240 rfl ?_
  refine kl_ld O (q := 242) (k := 4 * n + 2) hX hb (nI_add (4 * n) 2) (by omega) (by omega) jd_L_law_241 rfl ?_
  refine ja_aload_n O (q := 243) jd_L_law_242 rfl rfl rfl ?_
  refine ja_iload O (q := 245) jd_L_law_243 rfl rfl ?_
  refine ja_iconst O (q := 246) (v := 3) jd_L_law_245 rfl (by decide) ?_
  refine ja_iadd O (q := 247) jd_L_law_246 rfl ?_
  refine kl_ld O (q := 248) (k := 4 * n + 3) hX hb (nI_add (4 * n) 3) (by omega) (by omega) jd_L_law_247 rfl ?_
  refine jm_L_89 O (q := 251) ⟨by decide, by decide⟩ (by decide) ⟨by show 90 + n + 1 ≤ 601024; omega, by show 6057 + 6 * n + 6 ≤ 7293034; omega⟩ (co_M_load K (xs (4 * n + 1)) (xs (4 * n + 2)) (xs (4 * n + 3))) jd_L_law_248 rfl ?_
  intro r2 S2 hr2
  obtain ⟨g, hg⟩ : ∃ g, g = mp_load (jl_w F) (xs (4 * n + 1)) (xs (4 * n + 2)) (xs (4 * n + 3)) := ⟨_, rfl⟩
  rw [show mp_load (jl_w F) (xs (4 * n + 1)) (xs (4 * n + 2)) (xs (4 * n + 3)) = g from hg.symm] at hr2
  have hq := sm_load h' (xs (4 * n + 1)) (xs (4 * n + 2)) (xs (4 * n + 3))
  rw [← hF, ← hg] at hq
  have hlo : lo (jl_w F) g.2.2 := by rw [hg]; exact lo_load (xs (4 * n + 1)) (xs (4 * n + 2)) (xs (4 * n + 3))
  obtain ⟨hS2, h32, h62⟩ := kl_end hq hr2.2 hlo
  have hr3 := hr2.1
  clear hr2 hlo hq hg
  refine ja_istore O (q := 253) jd_L_law_251 rfl (by decide) ?_
  refine ja_aload_n O (q := 254) jd_L_law_253 rfl rfl rfl ?_
  refine jm_L_84 O (q := 257) ⟨by decide, by decide⟩ (by decide) ⟨by show 90 + n + 1 ≤ 601024; omega, by show 6057 + 6 * n + 6 ≤ 7293034; omega⟩ (co_M_thrown K) jd_L_law_254 rfl ?_
  rintro r5 S5 ⟨h5, h6⟩
  rw [h5, h6, h32]
  refine ja_iload O (q := 259) jd_L_law_257 rfl rfl ?_
  refine ja_icmp_eq O (g := 264) (q := 262) jd_L_law_259 (by decide) rfl (fun _ => ?_) (fun z => absurd rfl z)
  refine ja_iload O (q := 266) jd_L_law_264 rfl rfl ?_
  refine ja_if_ne O (g := 281) (q := 269) jd_L_law_266 (by decide) rfl (fun _ => ja_goto O (g := 1125) jd_L_law_281 (by decide) (ja_less (L' := kl_L b ad n) ⟨rfl, rfl, rfl, rfl, rfl, trivial⟩ (kk S2 hS2))) (fun h0 => ?_)
  refine ja_aload_n O (q := 270) jd_L_law_269 rfl rfl rfl ?_
  refine ja_iconst O (q := 271) (v := nI 0) jd_L_law_270 rfl (by decide) ?_
  refine jl_37 O (q := 272) (k := 0) rfl (by decide) jd_L_law_271 rfl ?_
  refine ja_iload O (q := 274) jd_L_law_272 rfl rfl ?_
  refine ja_i2l O (q := 275) jd_L_law_274 rfl ?_
  rw [h62 h0, hr3]
  refine ja_lcmp O (q := 276) jd_L_law_275 rfl ?_
  exact ja_if_eq O (g := 281) (q := 279) jd_L_law_276 (by decide) rfl (fun _ => ja_goto O (g := 1125) jd_L_law_281 (by decide) (ja_less (L' := kl_L b ad n) ⟨rfl, rfl, rfl, rfl, rfl, trivial⟩ (kk S2 hS2))) (fun z => absurd kl_cmp z)
theorem kl_c2 (O : CallFix p m c jc_L_law 7 s args ja_T "CashMachineLaw" ∧ jb_X s s G ad) (K : jo_G s a0 G ad) (hfl : l.stackTraces = false) (hX : va_X b N xs s s.heap) (hb : b < s.heap.size) (hN : N ≤ 2048) (hn : 4 * n + 4 ≤ N) (hr : rS S) (kk : ∀ S', rS S' → ja_V p l e room_1 s m args below meth c (jb_W G ad) s.heap.size 7 (90 + n + 1) (6057 + 6 * n + 6) Q S' 1125 (kl_L b ad n) []) : ja_V p l e room_1 s m args below meth c (jb_W G ad) s.heap.size 7 (90 + n) (6057 + 6 * n) Q S 284 (kl_L b ad n) [] := by
  obtain ⟨t, k, h⟩ := hr
  refine ja_aload_n O (q := 285) jd_L_law_284 rfl rfl rfl ?_
  refine ja_aload_n O (q := 286) jd_L_law_285 rfl rfl rfl ?_
  refine ja_iload O (q := 288) jd_L_law_286 rfl rfl ?_
  refine ja_iconst O (q := 289) (v := 1) jd_L_law_288 rfl (by decide) ?_
  refine ja_iadd O (q := 290) jd_L_law_289 rfl ?_
  refine kl_ld O (q := 291) (k := 4 * n + 1) hX hb (nI_add (4 * n) 1) (by omega) (by omega) jd_L_law_290 rfl ?_
  refine ja_aload_n O (q := 292) jd_L_law_291 rfl rfl rfl ?_
  refine kl_S O (q := 295) (k := 3) (As := [.ref (ad 0), .int (xs (4 * n + 1)), .ref (ad 37)]) (st := []) (co_L_insert K hfl (xs (4 * n + 1))) jw_382 jw_384 jw_0 ⟨by decide, by decide, by decide +kernel⟩ rfl jw_383 ⟨by decide, by decide⟩ (by decide) ⟨by show 90 + n + 1 ≤ 601024; omega, by show 6057 + 6 * n + 6 ≤ 7293034; omega⟩ jd_L_law_292 rfl ?_
  rintro _ _ ⟨F, hF, rfl, rfl⟩
  have hFh : hi S F.2.2 := by rw [hF]; exact hi_ins (xs (4 * n + 1))
  have h' : rr S (jl_w F) t k := kl_mid h hFh
  refine ja_istore O (q := 297) jd_L_law_295 rfl (by decide) ?_
  refine ja_aload_n O (q := 298) jd_L_law_297 rfl rfl rfl ?_
  refine ja_aload_n O (q := 299) jd_L_law_298 rfl rfl rfl ?_
  refine ja_iload O (q := 301) jd_L_law_299 rfl rfl ?_
  refine ja_iconst O (q := 302) (v := 1) jd_L_law_301 rfl (by decide) ?_
  refine ja_iadd O (q := 303) jd_L_law_302 rfl ?_
  refine kl_ld O (q := 304) (k := 4 * n + 1) hX hb (nI_add (4 * n) 1) (by omega) (by omega) jd_L_law_303 rfl ?_
  refine jm_L_93 O (q := 307) ⟨by decide, by decide⟩ (by decide) ⟨by show 90 + n + 1 ≤ 601024; omega, by show 6057 + 6 * n + 6 ≤ 7293034; omega⟩ (co_M_insert K (xs (4 * n + 1))) jd_L_law_304 rfl ?_
  intro r2 S2 hr2
  obtain ⟨g, hg⟩ : ∃ g, g = mp_ins (jl_w F) (xs (4 * n + 1)) := ⟨_, rfl⟩
  rw [show mp_ins (jl_w F) (xs (4 * n + 1)) = g from hg.symm] at hr2
  have hq := sm_ins h' (xs (4 * n + 1))
  rw [← hF, ← hg] at hq
  have hlo : lo (jl_w F) g.2.2 := by rw [hg]; exact lo_ins (xs (4 * n + 1))
  obtain ⟨hS2, h32, h62⟩ := kl_end hq hr2.2 hlo
  have hr3 := hr2.1
  clear hr2 hlo hq hg
  refine ja_istore O (q := 309) jd_L_law_307 rfl (by decide) ?_
  refine ja_aload_n O (q := 310) jd_L_law_309 rfl rfl rfl ?_
  refine jm_L_84 O (q := 313) ⟨by decide, by decide⟩ (by decide) ⟨by show 90 + n + 1 ≤ 601024; omega, by show 6057 + 6 * n + 6 ≤ 7293034; omega⟩ (co_M_thrown K) jd_L_law_310 rfl ?_
  rintro r5 S5 ⟨h5, h6⟩
  rw [h5, h6, h32]
  refine ja_iload O (q := 315) jd_L_law_313 rfl rfl ?_
  refine ja_icmp_eq O (g := 320) (q := 318) jd_L_law_315 (by decide) rfl (fun _ => ?_) (fun z => absurd rfl z)
  refine ja_iload O (q := 322) jd_L_law_320 rfl rfl ?_
  refine ja_if_ne O (g := 337) (q := 325) jd_L_law_322 (by decide) rfl (fun _ => ja_goto O (g := 1125) jd_L_law_337 (by decide) (ja_less (L' := kl_L b ad n) ⟨rfl, rfl, rfl, rfl, rfl, trivial⟩ (kk S2 hS2))) (fun h0 => ?_)
  refine ja_aload_n O (q := 326) jd_L_law_325 rfl rfl rfl ?_
  refine ja_iconst O (q := 327) (v := nI 0) jd_L_law_326 rfl (by decide) ?_
  refine jl_37 O (q := 328) (k := 0) rfl (by decide) jd_L_law_327 rfl ?_
  refine ja_iload O (q := 330) jd_L_law_328 rfl rfl ?_
  refine ja_i2l O (q := 331) jd_L_law_330 rfl ?_
  rw [h62 h0, hr3]
  refine ja_lcmp O (q := 332) jd_L_law_331 rfl ?_
  exact ja_if_eq O (g := 337) (q := 335) jd_L_law_332 (by decide) rfl (fun _ => ja_goto O (g := 1125) jd_L_law_337 (by decide) (ja_less (L' := kl_L b ad n) ⟨rfl, rfl, rfl, rfl, rfl, trivial⟩ (kk S2 hS2))) (fun z => absurd kl_cmp z)
theorem kl_c3 (O : CallFix p m c jc_L_law 7 s args ja_T "CashMachineLaw" ∧ jb_X s s G ad) (K : jo_G s a0 G ad) (hfl : l.stackTraces = false) (hX : va_X b N xs s s.heap) (hb : b < s.heap.size) (hN : N ≤ 2048) (hn : 4 * n + 4 ≤ N) (hr : rS S) (kk : ∀ S', rS S' → ja_V p l e room_1 s m args below meth c (jb_W G ad) s.heap.size 7 (90 + n + 1) (6057 + 6 * n + 6) Q S' 1125 (kl_L b ad n) []) : ja_V p l e room_1 s m args below meth c (jb_W G ad) s.heap.size 7 (90 + n) (6057 + 6 * n) Q S 340 (kl_L b ad n) [] := by
  obtain ⟨t, k, h⟩ := hr
  have hw : S 1 0 = -1 ∨ ∃ j, j < 8 ∧ S 1 0 = nI j := by
    rcases h.2.1 with z | ⟨j, z1, z2, -⟩
    · exact Or.inl z
    · exact Or.inr ⟨j, z1, z2⟩
  refine ja_aload_n O (q := 341) jd_L_law_340 rfl rfl rfl ?_
  refine ja_aload_n O (q := 342) jd_L_law_341 rfl rfl rfl ?_
  refine ja_iload O (q := 344) jd_L_law_342 rfl rfl ?_
  refine ja_iconst O (q := 345) (v := 1) jd_L_law_344 rfl (by decide) ?_
  refine ja_iadd O (q := 346) jd_L_law_345 rfl ?_
  refine kl_ld O (q := 347) (k := 4 * n + 1) hX hb (nI_add (4 * n) 1) (by omega) (by omega) jd_L_law_346 rfl ?_
  refine ja_aload_n O (q := 348) jd_L_law_347 rfl rfl rfl ?_
  refine kl_S O (q := 351) (k := 3) (As := [.ref (ad 0), .int (xs (4 * n + 1)), .ref (ad 37)]) (st := []) (co_L_pin K hfl (xs (4 * n + 1)) hw) jw_421 jw_423 jw_0 ⟨by decide, by decide, by decide +kernel⟩ rfl jw_422 ⟨by decide, by decide⟩ (by decide) ⟨by show 90 + n + 1 ≤ 601024; omega, by show 6057 + 6 * n + 6 ≤ 7293034; omega⟩ jd_L_law_348 rfl ?_
  rintro _ _ ⟨F, hF, rfl, rfl⟩
  have hFh : hi S F.2.2 := by rw [hF]; exact hi_pin (xs (4 * n + 1))
  have h' : rr S (jl_w F) t k := kl_mid h hFh
  refine ja_istore O (q := 353) jd_L_law_351 rfl (by decide) ?_
  refine ja_aload_n O (q := 354) jd_L_law_353 rfl rfl rfl ?_
  refine ja_aload_n O (q := 355) jd_L_law_354 rfl rfl rfl ?_
  refine ja_iload O (q := 357) jd_L_law_355 rfl rfl ?_
  refine ja_iconst O (q := 358) (v := 1) jd_L_law_357 rfl (by decide) ?_
  refine ja_iadd O (q := 359) jd_L_law_358 rfl ?_
  refine kl_ld O (q := 360) (k := 4 * n + 1) hX hb (nI_add (4 * n) 1) (by omega) (by omega) jd_L_law_359 rfl ?_
  have hm : jl_w F 34 0 < 0 ∨ ∃ j, j < 8 ∧ jl_w F 34 0 = nI j := by
    rw [h'.1.2.1]
    rcases hw with z | z
    · exact Or.inl (by rw [z]; decide)
    · exact Or.inr z
  refine jm_L_96 O (q := 363) ⟨by decide, by decide⟩ (by decide) ⟨by show 90 + n + 1 ≤ 601024; omega, by show 6057 + 6 * n + 6 ≤ 7293034; omega⟩ (co_M_pin K (xs (4 * n + 1)) hm) jd_L_law_360 rfl ?_
  intro r2 S2 hr2
  obtain ⟨g, hg⟩ : ∃ g, g = mp_pin (jl_w F) (xs (4 * n + 1)) := ⟨_, rfl⟩
  rw [show mp_pin (jl_w F) (xs (4 * n + 1)) = g from hg.symm] at hr2
  have hq := sm_pin h' (xs (4 * n + 1))
  rw [← hF, ← hg] at hq
  have hlo : lo (jl_w F) g.2.2 := by rw [hg]; exact lo_pin (xs (4 * n + 1))
  obtain ⟨hS2, h32, h62⟩ := kl_end hq hr2.2 hlo
  have hr3 := hr2.1
  clear hr2 hlo hq hg
  refine ja_istore O (q := 365) jd_L_law_363 rfl (by decide) ?_
  refine ja_aload_n O (q := 366) jd_L_law_365 rfl rfl rfl ?_
  refine jm_L_84 O (q := 369) ⟨by decide, by decide⟩ (by decide) ⟨by show 90 + n + 1 ≤ 601024; omega, by show 6057 + 6 * n + 6 ≤ 7293034; omega⟩ (co_M_thrown K) jd_L_law_366 rfl ?_
  rintro r5 S5 ⟨h5, h6⟩
  rw [h5, h6, h32]
  refine ja_iload O (q := 371) jd_L_law_369 rfl rfl ?_
  refine ja_icmp_eq O (g := 376) (q := 374) jd_L_law_371 (by decide) rfl (fun _ => ?_) (fun z => absurd rfl z)
  refine ja_iload O (q := 378) jd_L_law_376 rfl rfl ?_
  refine ja_if_ne O (g := 393) (q := 381) jd_L_law_378 (by decide) rfl (fun _ => ja_goto O (g := 1125) jd_L_law_393 (by decide) (ja_less (L' := kl_L b ad n) ⟨rfl, rfl, rfl, rfl, rfl, trivial⟩ (kk S2 hS2))) (fun h0 => ?_)
  refine ja_aload_n O (q := 382) jd_L_law_381 rfl rfl rfl ?_
  refine ja_iconst O (q := 383) (v := nI 0) jd_L_law_382 rfl (by decide) ?_
  refine jl_37 O (q := 384) (k := 0) rfl (by decide) jd_L_law_383 rfl ?_
  refine ja_iload O (q := 386) jd_L_law_384 rfl rfl ?_
  refine ja_i2l O (q := 387) jd_L_law_386 rfl ?_
  rw [h62 h0, hr3]
  refine ja_lcmp O (q := 388) jd_L_law_387 rfl ?_
  exact ja_if_eq O (g := 393) (q := 391) jd_L_law_388 (by decide) rfl (fun _ => ja_goto O (g := 1125) jd_L_law_393 (by decide) (ja_less (L' := kl_L b ad n) ⟨rfl, rfl, rfl, rfl, rfl, trivial⟩ (kk S2 hS2))) (fun z => absurd kl_cmp z)
theorem kl_c4 (O : CallFix p m c jc_L_law 7 s args ja_T "CashMachineLaw" ∧ jb_X s s G ad) (K : jo_G s a0 G ad) (hfl : l.stackTraces = false) (hX : va_X b N xs s s.heap) (hb : b < s.heap.size) (hN : N ≤ 2048) (hn : 4 * n + 4 ≤ N) (hr : rS S) (kk : ∀ S', rS S' → ja_V p l e room_1 s m args below meth c (jb_W G ad) s.heap.size 7 (90 + n + 1) (6057 + 6 * n + 6) Q S' 1125 (kl_L b ad n) []) : ja_V p l e room_1 s m args below meth c (jb_W G ad) s.heap.size 7 (90 + n) (6057 + 6 * n) Q S 396 (kl_L b ad n) [] := by
  obtain ⟨t, k, h⟩ := hr
  refine ja_aload_n O (q := 397) jd_L_law_396 rfl rfl rfl ?_
  refine ja_aload_n O (q := 398) jd_L_law_397 rfl rfl rfl ?_
  refine kl_S O (q := 401) (k := 2) (As := [.ref (ad 0), .ref (ad 37)]) (st := []) (co_L_eject K hfl) jw_436 jw_438 jw_0 ⟨by decide, by decide, by decide +kernel⟩ rfl jw_437 ⟨by decide, by decide⟩ (by decide) ⟨by show 90 + n + 1 ≤ 601024; omega, by show 6057 + 6 * n + 6 ≤ 7293034; omega⟩ jd_L_law_398 rfl ?_
  rintro _ _ ⟨F, hF, rfl, rfl⟩
  have hFh : hi S F.2.2 := by rw [hF]; exact hi_eject
  have h' : rr S (jl_w F) t k := kl_mid h hFh
  refine ja_istore O (q := 403) jd_L_law_401 rfl (by decide) ?_
  refine ja_aload_n O (q := 404) jd_L_law_403 rfl rfl rfl ?_
  refine jm_L_100 O (q := 407) ⟨by decide, by decide⟩ (by decide) ⟨by show 90 + n + 1 ≤ 601024; omega, by show 6057 + 6 * n + 6 ≤ 7293034; omega⟩ (co_M_eject K) jd_L_law_404 rfl ?_
  intro r2 S2 hr2
  obtain ⟨g, hg⟩ : ∃ g, g = mp_eject (jl_w F) := ⟨_, rfl⟩
  rw [show mp_eject (jl_w F) = g from hg.symm] at hr2
  have hq := sm_eject h'
  rw [← hF, ← hg] at hq
  have hlo : lo (jl_w F) g.2.2 := by rw [hg]; exact lo_eject
  obtain ⟨hS2, h32, h62⟩ := kl_end hq hr2.2 hlo
  have hr3 := hr2.1
  clear hr2 hlo hq hg
  refine ja_istore O (q := 409) jd_L_law_407 rfl (by decide) ?_
  refine ja_aload_n O (q := 410) jd_L_law_409 rfl rfl rfl ?_
  refine jm_L_84 O (q := 413) ⟨by decide, by decide⟩ (by decide) ⟨by show 90 + n + 1 ≤ 601024; omega, by show 6057 + 6 * n + 6 ≤ 7293034; omega⟩ (co_M_thrown K) jd_L_law_410 rfl ?_
  rintro r5 S5 ⟨h5, h6⟩
  rw [h5, h6, h32]
  refine ja_iload O (q := 415) jd_L_law_413 rfl rfl ?_
  refine ja_icmp_eq O (g := 420) (q := 418) jd_L_law_415 (by decide) rfl (fun _ => ?_) (fun z => absurd rfl z)
  refine ja_iload O (q := 422) jd_L_law_420 rfl rfl ?_
  refine ja_if_ne O (g := 437) (q := 425) jd_L_law_422 (by decide) rfl (fun _ => ja_goto O (g := 1125) jd_L_law_437 (by decide) (ja_less (L' := kl_L b ad n) ⟨rfl, rfl, rfl, rfl, rfl, trivial⟩ (kk S2 hS2))) (fun h0 => ?_)
  refine ja_aload_n O (q := 426) jd_L_law_425 rfl rfl rfl ?_
  refine ja_iconst O (q := 427) (v := nI 0) jd_L_law_426 rfl (by decide) ?_
  refine jl_37 O (q := 428) (k := 0) rfl (by decide) jd_L_law_427 rfl ?_
  refine ja_iload O (q := 430) jd_L_law_428 rfl rfl ?_
  refine ja_i2l O (q := 431) jd_L_law_430 rfl ?_
  rw [h62 h0, hr3]
  refine ja_lcmp O (q := 432) jd_L_law_431 rfl ?_
  exact ja_if_eq O (g := 437) (q := 435) jd_L_law_432 (by decide) rfl (fun _ => ja_goto O (g := 1125) jd_L_law_437 (by decide) (ja_less (L' := kl_L b ad n) ⟨rfl, rfl, rfl, rfl, rfl, trivial⟩ (kk S2 hS2))) (fun z => absurd kl_cmp z)
theorem kl_c5 (O : CallFix p m c jc_L_law 7 s args ja_T "CashMachineLaw" ∧ jb_X s s G ad) (K : jo_G s a0 G ad) (hfl : l.stackTraces = false) (hX : va_X b N xs s s.heap) (hb : b < s.heap.size) (hN : N ≤ 2048) (hn : 4 * n + 4 ≤ N) (hr : rS S) (kk : ∀ S', rS S' → ja_V p l e room_1 s m args below meth c (jb_W G ad) s.heap.size 7 (90 + n + 1) (6057 + 6 * n + 6) Q S' 1125 (kl_L b ad n) []) : ja_V p l e room_1 s m args below meth c (jb_W G ad) s.heap.size 7 (90 + n) (6057 + 6 * n) Q S 440 (kl_L b ad n) [] := by
  obtain ⟨t, k, h⟩ := hr
  obtain ⟨v, n9, hK, hKM⟩ := id h.2.2.2.2.1
  have ht := h.2.2.2.2.2.1
  have hp := h.2.2.2.2.2.2.2.1
  obtain ⟨n8, w1, w2, -, -⟩ := id h.2.2.1
  obtain ⟨j, hj, hs1⟩ : ∃ j, j < 8 ∧ (S 1 0 = -1 ∨ S 1 0 = nI j) := by
    rcases h.2.1 with z | ⟨j, z1, z2, -⟩
    · exact ⟨0, by decide, Or.inl z⟩
    · exact ⟨j, z1, Or.inr z2⟩
  refine ja_aload_n O (q := 441) jd_L_law_440 rfl rfl rfl ?_
  refine ja_aload_n O (q := 442) jd_L_law_441 rfl rfl rfl ?_
  refine ja_iload O (q := 444) jd_L_law_442 rfl rfl ?_
  refine ja_iconst O (q := 445) (v := 1) jd_L_law_444 rfl (by decide) ?_
  refine ja_iadd O (q := 446) jd_L_law_445 rfl ?_
  refine kl_ld O (q := 447) (k := 4 * n + 1) hX hb (nI_add (4 * n) 1) (by omega) (by omega) jd_L_law_446 rfl ?_
  refine ja_aload_n O (q := 448) jd_L_law_447 rfl rfl rfl ?_
  refine kl_S O (q := 451) (k := 3) (As := [.ref (ad 0), .int (xs (4 * n + 1)), .ref (ad 37)]) (st := []) (co_L_withdraw K hfl (xs (4 * n + 1)) v n9 hK t n8 k ht.1 ht.2.1 w1 w2 hp.1 hp.2.2.1 h.1.2.2.2.2.2.2.2 (fun e9 z => (ht.2.2.2.2 e9 z).2) j hj hs1) jw_443 jw_445 jw_0 ⟨by decide, by decide, by decide +kernel⟩ rfl jw_444 ⟨by decide, by decide⟩ (by decide) ⟨by show 90 + n + 1 ≤ 601024; omega, by show 6057 + 6 * n + 6 ≤ 7293034; omega⟩ jd_L_law_448 rfl ?_
  rintro _ _ ⟨F, ⟨f9, g9, x9, hfd, hF⟩, rfl, rfl⟩
  have hFh : hi S F.2.2 := by rw [hF]; exact hi_wd t j (xs (4 * n + 1)) f9 g9 x9
  have h' : rr S (jl_w F) t k := kl_mid h hFh
  refine ja_istore O (q := 453) jd_L_law_451 rfl (by decide) ?_
  refine ja_aload_n O (q := 454) jd_L_law_453 rfl rfl rfl ?_
  refine ja_aload_n O (q := 455) jd_L_law_454 rfl rfl rfl ?_
  refine ja_iload O (q := 457) jd_L_law_455 rfl rfl ?_
  refine ja_iconst O (q := 458) (v := 1) jd_L_law_457 rfl (by decide) ?_
  refine ja_iadd O (q := 459) jd_L_law_458 rfl ?_
  refine kl_ld O (q := 460) (k := 4 * n + 1) hX hb (nI_add (4 * n) 1) (by omega) (by omega) jd_L_law_459 rfl ?_
  have ht' := h'.2.2.2.2.2.1
  have hp' := h'.2.2.2.2.2.2.2.1
  obtain ⟨n7, v1, -, v2, -⟩ := id h'.2.2.1
  have hm : jl_w F 34 0 < 0 ∨ jl_w F 34 0 = nI j := by
    rw [h'.1.2.1]
    rcases hs1 with z | z
    · exact Or.inl (by rw [z]; decide)
    · exact Or.inr z
  refine jm_L_103 O (q := 463) ⟨by decide, by decide⟩ (by decide) ⟨by show 90 + n + 1 ≤ 601024; omega, by show 6057 + 6 * n + 6 ≤ 7293034; omega⟩ (co_M_withdraw K (xs (4 * n + 1)) v n9 (kl_KM hFh hKM) t n7 k j ht.1 ht'.2.2.1 v1 v2 hp'.2.1 (by have := hp.2.2.1; have := ht.1; omega) hj hm) jd_L_law_460 rfl ?_
  rintro r2 S2 ⟨g8, x8, hfe, hr2⟩
  obtain ⟨g, hg⟩ : ∃ g, g = mp_wd (jl_w F) t j (xs (4 * n + 1)) g8 x8 := ⟨_, rfl⟩
  rw [show mp_wd (jl_w F) t j (xs (4 * n + 1)) g8 x8 = g from hg.symm] at hr2
  have hq := sm_wd h' hK hj hs1 (xs (4 * n + 1)) (f := f9) hfd hfe
  rw [← hF, ← hg] at hq
  have hlo : lo (jl_w F) g.2.2 := by rw [hg]; exact lo_wd t j (xs (4 * n + 1)) g8 x8
  obtain ⟨hS2, h32, h62⟩ := kl_end hq hr2.2 hlo
  have hr3 := hr2.1
  clear hr2 hlo hq hg
  refine ja_istore O (q := 465) jd_L_law_463 rfl (by decide) ?_
  refine ja_aload_n O (q := 466) jd_L_law_465 rfl rfl rfl ?_
  refine jm_L_84 O (q := 469) ⟨by decide, by decide⟩ (by decide) ⟨by show 90 + n + 1 ≤ 601024; omega, by show 6057 + 6 * n + 6 ≤ 7293034; omega⟩ (co_M_thrown K) jd_L_law_466 rfl ?_
  rintro r5 S5 ⟨h5, h6⟩
  rw [h5, h6, h32]
  refine ja_iload O (q := 471) jd_L_law_469 rfl rfl ?_
  refine ja_icmp_eq O (g := 476) (q := 474) jd_L_law_471 (by decide) rfl (fun _ => ?_) (fun z => absurd rfl z)
  refine ja_iload O (q := 478) jd_L_law_476 rfl rfl ?_
  refine ja_if_ne O (g := 493) (q := 481) jd_L_law_478 (by decide) rfl (fun _ => ja_goto O (g := 1125) jd_L_law_493 (by decide) (ja_less (L' := kl_L b ad n) ⟨rfl, rfl, rfl, rfl, rfl, trivial⟩ (kk S2 hS2))) (fun h0 => ?_)
  refine ja_aload_n O (q := 482) jd_L_law_481 rfl rfl rfl ?_
  refine ja_iconst O (q := 483) (v := nI 0) jd_L_law_482 rfl (by decide) ?_
  refine jl_37 O (q := 484) (k := 0) rfl (by decide) jd_L_law_483 rfl ?_
  refine ja_iload O (q := 486) jd_L_law_484 rfl rfl ?_
  refine ja_i2l O (q := 487) jd_L_law_486 rfl ?_
  rw [h62 h0, hr3]
  refine ja_lcmp O (q := 488) jd_L_law_487 rfl ?_
  exact ja_if_eq O (g := 493) (q := 491) jd_L_law_488 (by decide) rfl (fun _ => ja_goto O (g := 1125) jd_L_law_493 (by decide) (ja_less (L' := kl_L b ad n) ⟨rfl, rfl, rfl, rfl, rfl, trivial⟩ (kk S2 hS2))) (fun z => absurd kl_cmp z)
theorem kl_c6 (O : CallFix p m c jc_L_law 7 s args ja_T "CashMachineLaw" ∧ jb_X s s G ad) (K : jo_G s a0 G ad) (hfl : l.stackTraces = false) (hX : va_X b N xs s s.heap) (hb : b < s.heap.size) (hN : N ≤ 2048) (hn : 4 * n + 4 ≤ N) (hr : rS S) (kk : ∀ S', rS S' → ja_V p l e room_1 s m args below meth c (jb_W G ad) s.heap.size 7 (90 + n + 1) (6057 + 6 * n + 6) Q S' 1125 (kl_L b ad n) []) : ja_V p l e room_1 s m args below meth c (jb_W G ad) s.heap.size 7 (90 + n) (6057 + 6 * n) Q S 496 (kl_L b ad n) [] := by
  obtain ⟨t, k, h⟩ := hr
  obtain ⟨v, n9, hK, hKM⟩ := id h.2.2.2.2.1
  refine ja_aload_n O (q := 497) jd_L_law_496 rfl rfl rfl ?_
  refine ja_aload_n O (q := 498) jd_L_law_497 rfl rfl rfl ?_
  refine ja_iload O (q := 500) jd_L_law_498 rfl rfl ?_
  refine ja_iconst O (q := 501) (v := 1) jd_L_law_500 rfl (by decide) ?_
  refine ja_iadd O (q := 502) jd_L_law_501 rfl ?_
  refine kl_ld O (q := 503) (k := 4 * n + 1) hX hb (nI_add (4 * n) 1) (by omega) (by omega) jd_L_law_502 rfl ?_
  refine ja_aload_n O (q := 504) jd_L_law_503 rfl rfl rfl ?_
  refine ja_iload O (q := 506) jd_L_law_504 rfl rfl ?_
  refine ja_iconst O (q := 507) (v := 2) jd_L_law_506 rfl (by decide) ?_
  refine ja_iadd O (q := 508) jd_L_law_507 rfl ?_
  refine kl_ld O (q := 509) (k := 4 * n + 2) hX hb (nI_add (4 * n) 2) (by omega) (by omega) jd_L_law_508 rfl ?_
  refine ja_aload_n O (q := 510) jd_L_law_509 rfl rfl rfl ?_
  refine kl_S O (q := 513) (k := 4) (As := [.ref (ad 0), .int (xs (4 * n + 1)), .int (xs (4 * n + 2)), .ref (ad 37)]) (st := []) (co_L_mix K hfl (xs (4 * n + 1)) (xs (4 * n + 2)) v n9 hK) jw_544 jw_546 jw_0 ⟨by decide, by decide, by decide +kernel⟩ rfl jw_545 ⟨by decide, by decide⟩ (by decide) ⟨by show 90 + n + 1 ≤ 601024; omega, by show 6057 + 6 * n + 6 ≤ 7293034; omega⟩ jd_L_law_510 rfl ?_
  rintro _ _ ⟨F, ⟨f9, g9, x9, hfd, hF⟩, rfl, rfl⟩
  have hFh : hi S F.2.2 := by rw [hF]; exact hi_mix (xs (4 * n + 1)) (xs (4 * n + 2)) f9 g9 x9
  have h' : rr S (jl_w F) t k := kl_mid h hFh
  refine ja_istore O (q := 515) jd_L_law_513 rfl (by decide) ?_
  refine ja_aload_n O (q := 516) jd_L_law_515 rfl rfl rfl ?_
  refine ja_aload_n O (q := 517) jd_L_law_516 rfl rfl rfl ?_
  refine ja_iload O (q := 519) jd_L_law_517 rfl rfl ?_
  refine ja_iconst O (q := 520) (v := 1) jd_L_law_519 rfl (by decide) ?_
  refine ja_iadd O (q := 521) jd_L_law_520 rfl ?_
  refine kl_ld O (q := 522) (k := 4 * n + 1) hX hb (nI_add (4 * n) 1) (by omega) (by omega) jd_L_law_521 rfl ?_
  refine ja_aload_n O (q := 523) jd_L_law_522 rfl rfl rfl ?_
  refine ja_iload O (q := 525) jd_L_law_523 rfl rfl ?_
  refine ja_iconst O (q := 526) (v := 2) jd_L_law_525 rfl (by decide) ?_
  refine ja_iadd O (q := 527) jd_L_law_526 rfl ?_
  refine kl_ld O (q := 528) (k := 4 * n + 2) hX hb (nI_add (4 * n) 2) (by omega) (by omega) jd_L_law_527 rfl ?_
  refine jm_L_107 O (q := 531) ⟨by decide, by decide⟩ (by decide) ⟨by show 90 + n + 1 ≤ 601024; omega, by show 6057 + 6 * n + 6 ≤ 7293034; omega⟩ (co_M_mix K (xs (4 * n + 1)) (xs (4 * n + 2)) v n9 (kl_KM hFh hKM)) jd_L_law_528 rfl ?_
  rintro r2 S2 ⟨g8, x8, hfe, hr2⟩
  obtain ⟨g, hg⟩ : ∃ g, g = mp_mix (jl_w F) (xs (4 * n + 1)) (xs (4 * n + 2)) g8 x8 := ⟨_, rfl⟩
  rw [show mp_mix (jl_w F) (xs (4 * n + 1)) (xs (4 * n + 2)) g8 x8 = g from hg.symm] at hr2
  have hq := sm_mix h' (xs (4 * n + 1)) (xs (4 * n + 2)) (f := f9) hfd hfe
  rw [← hF, ← hg] at hq
  have hlo : lo (jl_w F) g.2.2 := by rw [hg]; exact lo_mix (xs (4 * n + 1)) (xs (4 * n + 2)) g8 x8
  obtain ⟨hS2, h32, h62⟩ := kl_end hq hr2.2 hlo
  have hr3 := hr2.1
  clear hr2 hlo hq hg
  refine ja_istore O (q := 533) jd_L_law_531 rfl (by decide) ?_
  refine ja_aload_n O (q := 534) jd_L_law_533 rfl rfl rfl ?_
  refine jm_L_84 O (q := 537) ⟨by decide, by decide⟩ (by decide) ⟨by show 90 + n + 1 ≤ 601024; omega, by show 6057 + 6 * n + 6 ≤ 7293034; omega⟩ (co_M_thrown K) jd_L_law_534 rfl ?_
  rintro r5 S5 ⟨h5, h6⟩
  rw [h5, h6, h32]
  refine ja_iload O (q := 539) jd_L_law_537 rfl rfl ?_
  refine ja_icmp_eq O (g := 544) (q := 542) jd_L_law_539 (by decide) rfl (fun _ => ?_) (fun z => absurd rfl z)
  refine ja_iload O (q := 546) jd_L_law_544 rfl rfl ?_
  refine ja_if_ne O (g := 561) (q := 549) jd_L_law_546 (by decide) rfl (fun _ => ja_goto O (g := 1125) jd_L_law_561 (by decide) (ja_less (L' := kl_L b ad n) ⟨rfl, rfl, rfl, rfl, rfl, trivial⟩ (kk S2 hS2))) (fun h0 => ?_)
  refine ja_aload_n O (q := 550) jd_L_law_549 rfl rfl rfl ?_
  refine ja_iconst O (q := 551) (v := nI 0) jd_L_law_550 rfl (by decide) ?_
  refine jl_37 O (q := 552) (k := 0) rfl (by decide) jd_L_law_551 rfl ?_
  refine ja_iload O (q := 554) jd_L_law_552 rfl rfl ?_
  refine ja_i2l O (q := 555) jd_L_law_554 rfl ?_
  rw [h62 h0, hr3]
  refine ja_lcmp O (q := 556) jd_L_law_555 rfl ?_
  exact ja_if_eq O (g := 561) (q := 559) jd_L_law_556 (by decide) rfl (fun _ => ja_goto O (g := 1125) jd_L_law_561 (by decide) (ja_less (L' := kl_L b ad n) ⟨rfl, rfl, rfl, rfl, rfl, trivial⟩ (kk S2 hS2))) (fun z => absurd kl_cmp z)
theorem kl_c7 (O : CallFix p m c jc_L_law 7 s args ja_T "CashMachineLaw" ∧ jb_X s s G ad) (K : jo_G s a0 G ad) (hfl : l.stackTraces = false) (hX : va_X b N xs s s.heap) (hb : b < s.heap.size) (hN : N ≤ 2048) (hn : 4 * n + 4 ≤ N) (hr : rS S) (kk : ∀ S', rS S' → ja_V p l e room_1 s m args below meth c (jb_W G ad) s.heap.size 7 (90 + n + 1) (6057 + 6 * n + 6) Q S' 1125 (kl_L b ad n) []) : ja_V p l e room_1 s m args below meth c (jb_W G ad) s.heap.size 7 (90 + n) (6057 + 6 * n) Q S 564 (kl_L b ad n) [] := by
  obtain ⟨t, k, h⟩ := hr
  obtain ⟨n9, w1, w2, -, -⟩ := id h.2.2.1
  refine ja_aload_n O (q := 565) jd_L_law_564 rfl rfl rfl ?_
  refine ja_aload_n O (q := 566) jd_L_law_565 rfl rfl rfl ?_
  refine ja_iload O (q := 568) jd_L_law_566 rfl rfl ?_
  refine ja_iconst O (q := 569) (v := 1) jd_L_law_568 rfl (by decide) ?_
  refine ja_iadd O (q := 570) jd_L_law_569 rfl ?_
  refine kl_ld O (q := 571) (k := 4 * n + 1) hX hb (nI_add (4 * n) 1) (by omega) (by omega) jd_L_law_570 rfl ?_
  refine ja_aload_n O (q := 572) jd_L_law_571 rfl rfl rfl ?_
  refine kl_S O (q := 575) (k := 3) (As := [.ref (ad 0), .int (xs (4 * n + 1)), .ref (ad 37)]) (st := []) (co_L_line K hfl (xs (4 * n + 1)) n9 w1 w2) jw_551 jw_553 jw_0 ⟨by decide, by decide, by decide +kernel⟩ rfl jw_552 ⟨by decide, by decide⟩ (by decide) ⟨by show 90 + n + 1 ≤ 601024; omega, by show 6057 + 6 * n + 6 ≤ 7293034; omega⟩ jd_L_law_572 rfl ?_
  rintro _ _ ⟨F, hF, rfl, rfl⟩
  have hFh : hi S F.2.2 := by rw [hF]; exact hi_line (xs (4 * n + 1))
  have h' : rr S (jl_w F) t k := kl_mid h hFh
  refine ja_istore O (q := 577) jd_L_law_575 rfl (by decide) ?_
  refine ja_aload_n O (q := 578) jd_L_law_577 rfl rfl rfl ?_
  refine ja_aload_n O (q := 579) jd_L_law_578 rfl rfl rfl ?_
  refine ja_iload O (q := 581) jd_L_law_579 rfl rfl ?_
  refine ja_iconst O (q := 582) (v := 1) jd_L_law_581 rfl (by decide) ?_
  refine ja_iadd O (q := 583) jd_L_law_582 rfl ?_
  refine kl_ld O (q := 584) (k := 4 * n + 1) hX hb (nI_add (4 * n) 1) (by omega) (by omega) jd_L_law_583 rfl ?_
  obtain ⟨n8, v1, -, v2, -⟩ := id h'.2.2.1
  refine jm_L_110 O (q := 587) ⟨by decide, by decide⟩ (by decide) ⟨by show 90 + n + 1 ≤ 601024; omega, by show 6057 + 6 * n + 6 ≤ 7293034; omega⟩ (co_M_line K (xs (4 * n + 1)) n8 v1 v2) jd_L_law_584 rfl ?_
  intro r2 S2 hr2
  obtain ⟨g, hg⟩ : ∃ g, g = mp_line (jl_w F) (xs (4 * n + 1)) := ⟨_, rfl⟩
  rw [show mp_line (jl_w F) (xs (4 * n + 1)) = g from hg.symm] at hr2
  have hq := sm_line h' (xs (4 * n + 1))
  rw [← hF, ← hg] at hq
  have hlo : lo (jl_w F) g.2.2 := by rw [hg]; exact lo_line (xs (4 * n + 1))
  obtain ⟨hS2, h32, h62⟩ := kl_end hq hr2.2 hlo
  have hr3 := hr2.1
  clear hr2 hlo hq hg
  refine ja_istore O (q := 589) jd_L_law_587 rfl (by decide) ?_
  refine ja_aload_n O (q := 590) jd_L_law_589 rfl rfl rfl ?_
  refine jm_L_84 O (q := 593) ⟨by decide, by decide⟩ (by decide) ⟨by show 90 + n + 1 ≤ 601024; omega, by show 6057 + 6 * n + 6 ≤ 7293034; omega⟩ (co_M_thrown K) jd_L_law_590 rfl ?_
  rintro r5 S5 ⟨h5, h6⟩
  rw [h5, h6, h32]
  refine ja_iload O (q := 595) jd_L_law_593 rfl rfl ?_
  refine ja_icmp_eq O (g := 600) (q := 598) jd_L_law_595 (by decide) rfl (fun _ => ?_) (fun z => absurd rfl z)
  refine ja_iload O (q := 602) jd_L_law_600 rfl rfl ?_
  refine ja_if_ne O (g := 617) (q := 605) jd_L_law_602 (by decide) rfl (fun _ => ja_goto O (g := 1125) jd_L_law_617 (by decide) (ja_less (L' := kl_L b ad n) ⟨rfl, rfl, rfl, rfl, rfl, trivial⟩ (kk S2 hS2))) (fun h0 => ?_)
  refine ja_aload_n O (q := 606) jd_L_law_605 rfl rfl rfl ?_
  refine ja_iconst O (q := 607) (v := nI 0) jd_L_law_606 rfl (by decide) ?_
  refine jl_37 O (q := 608) (k := 0) rfl (by decide) jd_L_law_607 rfl ?_
  refine ja_iload O (q := 610) jd_L_law_608 rfl rfl ?_
  refine ja_i2l O (q := 611) jd_L_law_610 rfl ?_
  rw [h62 h0, hr3]
  refine ja_lcmp O (q := 612) jd_L_law_611 rfl ?_
  exact ja_if_eq O (g := 617) (q := 615) jd_L_law_612 (by decide) rfl (fun _ => ja_goto O (g := 1125) jd_L_law_617 (by decide) (ja_less (L' := kl_L b ad n) ⟨rfl, rfl, rfl, rfl, rfl, trivial⟩ (kk S2 hS2))) (fun z => absurd kl_cmp z)
theorem kl_c8 (O : CallFix p m c jc_L_law 7 s args ja_T "CashMachineLaw" ∧ jb_X s s G ad) (K : jo_G s a0 G ad) (hfl : l.stackTraces = false) (hX : va_X b N xs s s.heap) (hb : b < s.heap.size) (hN : N ≤ 2048) (hn : 4 * n + 4 ≤ N) (hr : rS S) (kk : ∀ S', rS S' → ja_V p l e room_1 s m args below meth c (jb_W G ad) s.heap.size 7 (90 + n + 1) (6057 + 6 * n + 6) Q S' 1125 (kl_L b ad n) []) : ja_V p l e room_1 s m args below meth c (jb_W G ad) s.heap.size 7 (90 + n) (6057 + 6 * n) Q S 620 (kl_L b ad n) [] := by
  obtain ⟨t, k, h⟩ := hr
  refine ja_aload_n O (q := 621) jd_L_law_620 rfl rfl rfl ?_
  refine ja_aload_n O (q := 622) jd_L_law_621 rfl rfl rfl ?_
  refine ja_iload O (q := 624) jd_L_law_622 rfl rfl ?_
  refine ja_iconst O (q := 625) (v := 1) jd_L_law_624 rfl (by decide) ?_
  refine ja_iadd O (q := 626) jd_L_law_625 rfl ?_
  refine kl_ld O (q := 627) (k := 4 * n + 1) hX hb (nI_add (4 * n) 1) (by omega) (by omega) jd_L_law_626 rfl ?_
  refine ja_aload_n O (q := 628) jd_L_law_627 rfl rfl rfl ?_
  refine kl_S O (q := 631) (k := 3) (As := [.ref (ad 0), .int (xs (4 * n + 1)), .ref (ad 37)]) (st := []) (co_L_jam K hfl (xs (4 * n + 1))) jw_562 jw_564 jw_0 ⟨by decide, by decide, by decide +kernel⟩ rfl jw_563 ⟨by decide, by decide⟩ (by decide) ⟨by show 90 + n + 1 ≤ 601024; omega, by show 6057 + 6 * n + 6 ≤ 7293034; omega⟩ jd_L_law_628 rfl ?_
  rintro _ _ ⟨F, hF, rfl, rfl⟩
  have hFh : hi S F.2.2 := by rw [hF]; exact hi_jam (xs (4 * n + 1))
  have h' : rr S (jl_w F) t k := kl_mid h hFh
  refine ja_istore O (q := 633) jd_L_law_631 rfl (by decide) ?_
  refine ja_aload_n O (q := 634) jd_L_law_633 rfl rfl rfl ?_
  refine ja_aload_n O (q := 635) jd_L_law_634 rfl rfl rfl ?_
  refine ja_iload O (q := 637) jd_L_law_635 rfl rfl ?_
  refine ja_iconst O (q := 638) (v := 1) jd_L_law_637 rfl (by decide) ?_
  refine ja_iadd O (q := 639) jd_L_law_638 rfl ?_
  refine kl_ld O (q := 640) (k := 4 * n + 1) hX hb (nI_add (4 * n) 1) (by omega) (by omega) jd_L_law_639 rfl ?_
  refine jm_L_113 O (q := 643) ⟨by decide, by decide⟩ (by decide) ⟨by show 90 + n + 1 ≤ 601024; omega, by show 6057 + 6 * n + 6 ≤ 7293034; omega⟩ (co_M_jam K (xs (4 * n + 1))) jd_L_law_640 rfl ?_
  intro r2 S2 hr2
  obtain ⟨g, hg⟩ : ∃ g, g = mp_jam (jl_w F) (xs (4 * n + 1)) := ⟨_, rfl⟩
  rw [show mp_jam (jl_w F) (xs (4 * n + 1)) = g from hg.symm] at hr2
  have hq := sm_jam h' (xs (4 * n + 1))
  rw [← hF, ← hg] at hq
  have hlo : lo (jl_w F) g.2.2 := by rw [hg]; exact lo_jam (xs (4 * n + 1))
  obtain ⟨hS2, h32, h62⟩ := kl_end hq hr2.2 hlo
  have hr3 := hr2.1
  clear hr2 hlo hq hg
  refine ja_istore O (q := 645) jd_L_law_643 rfl (by decide) ?_
  refine ja_aload_n O (q := 646) jd_L_law_645 rfl rfl rfl ?_
  refine jm_L_84 O (q := 649) ⟨by decide, by decide⟩ (by decide) ⟨by show 90 + n + 1 ≤ 601024; omega, by show 6057 + 6 * n + 6 ≤ 7293034; omega⟩ (co_M_thrown K) jd_L_law_646 rfl ?_
  rintro r5 S5 ⟨h5, h6⟩
  rw [h5, h6, h32]
  refine ja_iload O (q := 651) jd_L_law_649 rfl rfl ?_
  refine ja_icmp_eq O (g := 656) (q := 654) jd_L_law_651 (by decide) rfl (fun _ => ?_) (fun z => absurd rfl z)
  refine ja_iload O (q := 658) jd_L_law_656 rfl rfl ?_
  refine ja_if_ne O (g := 673) (q := 661) jd_L_law_658 (by decide) rfl (fun _ => ja_goto O (g := 1125) jd_L_law_673 (by decide) (ja_less (L' := kl_L b ad n) ⟨rfl, rfl, rfl, rfl, rfl, trivial⟩ (kk S2 hS2))) (fun h0 => ?_)
  refine ja_aload_n O (q := 662) jd_L_law_661 rfl rfl rfl ?_
  refine ja_iconst O (q := 663) (v := nI 0) jd_L_law_662 rfl (by decide) ?_
  refine jl_37 O (q := 664) (k := 0) rfl (by decide) jd_L_law_663 rfl ?_
  refine ja_iload O (q := 666) jd_L_law_664 rfl rfl ?_
  refine ja_i2l O (q := 667) jd_L_law_666 rfl ?_
  rw [h62 h0, hr3]
  refine ja_lcmp O (q := 668) jd_L_law_667 rfl ?_
  exact ja_if_eq O (g := 673) (q := 671) jd_L_law_668 (by decide) rfl (fun _ => ja_goto O (g := 1125) jd_L_law_673 (by decide) (ja_less (L' := kl_L b ad n) ⟨rfl, rfl, rfl, rfl, rfl, trivial⟩ (kk S2 hS2))) (fun z => absurd kl_cmp z)
theorem kl_c9 (O : CallFix p m c jc_L_law 7 s args ja_T "CashMachineLaw" ∧ jb_X s s G ad) (K : jo_G s a0 G ad) (hfl : l.stackTraces = false) (hX : va_X b N xs s s.heap) (hb : b < s.heap.size) (hN : N ≤ 2048) (hn : 4 * n + 4 ≤ N) (hr : rS S) (kk : ∀ S', rS S' → ja_V p l e room_1 s m args below meth c (jb_W G ad) s.heap.size 7 (90 + n + 1) (6057 + 6 * n + 6) Q S' 1125 (kl_L b ad n) []) : ja_V p l e room_1 s m args below meth c (jb_W G ad) s.heap.size 7 (90 + n) (6057 + 6 * n) Q S 676 (kl_L b ad n) [] := by
  obtain ⟨t, k, h⟩ := hr
  refine ja_aload_n O (q := 677) jd_L_law_676 rfl rfl rfl ?_
  refine ja_aload_n O (q := 678) jd_L_law_677 rfl rfl rfl ?_
  refine ja_iload O (q := 680) jd_L_law_678 rfl rfl ?_
  refine ja_iconst O (q := 681) (v := 1) jd_L_law_680 rfl (by decide) ?_
  refine ja_iadd O (q := 682) jd_L_law_681 rfl ?_
  refine kl_ld O (q := 683) (k := 4 * n + 1) hX hb (nI_add (4 * n) 1) (by omega) (by omega) jd_L_law_682 rfl ?_
  refine ja_aload_n O (q := 684) jd_L_law_683 rfl rfl rfl ?_
  refine kl_S O (q := 687) (k := 3) (As := [.ref (ad 0), .int (xs (4 * n + 1)), .ref (ad 37)]) (st := []) (co_L_power K hfl (xs (4 * n + 1))) jw_569 jw_571 jw_0 ⟨by decide, by decide, by decide +kernel⟩ rfl jw_570 ⟨by decide, by decide⟩ (by decide) ⟨by show 90 + n + 1 ≤ 601024; omega, by show 6057 + 6 * n + 6 ≤ 7293034; omega⟩ jd_L_law_684 rfl ?_
  rintro _ _ ⟨F, hF, rfl, rfl⟩
  have hFh : hi S F.2.2 := by rw [hF]; exact hi_pow (xs (4 * n + 1))
  have h' : rr S (jl_w F) t k := kl_mid h hFh
  refine ja_istore O (q := 689) jd_L_law_687 rfl (by decide) ?_
  refine ja_aload_n O (q := 690) jd_L_law_689 rfl rfl rfl ?_
  refine ja_aload_n O (q := 691) jd_L_law_690 rfl rfl rfl ?_
  refine ja_iload O (q := 693) jd_L_law_691 rfl rfl ?_
  refine ja_iconst O (q := 694) (v := 1) jd_L_law_693 rfl (by decide) ?_
  refine ja_iadd O (q := 695) jd_L_law_694 rfl ?_
  refine kl_ld O (q := 696) (k := 4 * n + 1) hX hb (nI_add (4 * n) 1) (by omega) (by omega) jd_L_law_695 rfl ?_
  refine jm_L_116 O (q := 699) ⟨by decide, by decide⟩ (by decide) ⟨by show 90 + n + 1 ≤ 601024; omega, by show 6057 + 6 * n + 6 ≤ 7293034; omega⟩ (co_M_power K (xs (4 * n + 1))) jd_L_law_696 rfl ?_
  intro r2 S2 hr2
  obtain ⟨g, hg⟩ : ∃ g, g = mp_pow (jl_w F) (xs (4 * n + 1)) := ⟨_, rfl⟩
  rw [show mp_pow (jl_w F) (xs (4 * n + 1)) = g from hg.symm] at hr2
  have hq := sm_pow h' (xs (4 * n + 1))
  rw [← hF, ← hg] at hq
  have hlo : lo (jl_w F) g.2.2 := by rw [hg]; exact lo_pow (xs (4 * n + 1))
  obtain ⟨hS2, h32, h62⟩ := kl_end hq hr2.2 hlo
  have hr3 := hr2.1
  clear hr2 hlo hq hg
  refine ja_istore O (q := 701) jd_L_law_699 rfl (by decide) ?_
  refine ja_aload_n O (q := 702) jd_L_law_701 rfl rfl rfl ?_
  refine jm_L_84 O (q := 705) ⟨by decide, by decide⟩ (by decide) ⟨by show 90 + n + 1 ≤ 601024; omega, by show 6057 + 6 * n + 6 ≤ 7293034; omega⟩ (co_M_thrown K) jd_L_law_702 rfl ?_
  rintro r5 S5 ⟨h5, h6⟩
  rw [h5, h6, h32]
  refine ja_iload O (q := 707) jd_L_law_705 rfl rfl ?_
  refine ja_icmp_eq O (g := 712) (q := 710) jd_L_law_707 (by decide) rfl (fun _ => ?_) (fun z => absurd rfl z)
  refine ja_iload O (q := 714) jd_L_law_712 rfl rfl ?_
  refine ja_if_ne O (g := 729) (q := 717) jd_L_law_714 (by decide) rfl (fun _ => ja_goto O (g := 1125) jd_L_law_729 (by decide) (ja_less (L' := kl_L b ad n) ⟨rfl, rfl, rfl, rfl, rfl, trivial⟩ (kk S2 hS2))) (fun h0 => ?_)
  refine ja_aload_n O (q := 718) jd_L_law_717 rfl rfl rfl ?_
  refine ja_iconst O (q := 719) (v := nI 0) jd_L_law_718 rfl (by decide) ?_
  refine jl_37 O (q := 720) (k := 0) rfl (by decide) jd_L_law_719 rfl ?_
  refine ja_iload O (q := 722) jd_L_law_720 rfl rfl ?_
  refine ja_i2l O (q := 723) jd_L_law_722 rfl ?_
  rw [h62 h0, hr3]
  refine ja_lcmp O (q := 724) jd_L_law_723 rfl ?_
  exact ja_if_eq O (g := 729) (q := 727) jd_L_law_724 (by decide) rfl (fun _ => ja_goto O (g := 1125) jd_L_law_729 (by decide) (ja_less (L' := kl_L b ad n) ⟨rfl, rfl, rfl, rfl, rfl, trivial⟩ (kk S2 hS2))) (fun z => absurd kl_cmp z)
theorem kl_c10 (O : CallFix p m c jc_L_law 7 s args ja_T "CashMachineLaw" ∧ jb_X s s G ad) (K : jo_G s a0 G ad) (hfl : l.stackTraces = false) (hX : va_X b N xs s s.heap) (hb : b < s.heap.size) (hN : N ≤ 2048) (hn : 4 * n + 4 ≤ N) (hr : rS S) (kk : ∀ S', rS S' → ja_V p l e room_1 s m args below meth c (jb_W G ad) s.heap.size 7 (90 + n + 1) (6057 + 6 * n + 6) Q S' 1125 (kl_L b ad n) []) : ja_V p l e room_1 s m args below meth c (jb_W G ad) s.heap.size 7 (90 + n) (6057 + 6 * n) Q S 732 (kl_L b ad n) [] := by
  obtain ⟨t, k, h⟩ := hr
  have ht := h.2.2.2.2.2.1
  have hp := h.2.2.2.2.2.2.2.1
  refine ja_aload_n O (q := 733) jd_L_law_732 rfl rfl rfl ?_
  refine ja_aload_n O (q := 734) jd_L_law_733 rfl rfl rfl ?_
  refine kl_S O (q := 737) (k := 2) (As := [.ref (ad 0), .ref (ad 37)]) (st := []) (co_L_boot K hfl t k ht.1 ht.2.1 hp.1 (fun e9 z1 z2 => Nat.lt_of_lt_of_le (hp.2.2.2.1 e9 z1 z2) ht.1)) jw_576 jw_578 jw_0 ⟨by decide, by decide, by decide +kernel⟩ rfl jw_577 ⟨by decide, by decide⟩ (by decide) ⟨by show 90 + n + 1 ≤ 601024; omega, by show 6057 + 6 * n + 6 ≤ 7293034; omega⟩ jd_L_law_734 rfl ?_
  rintro _ _ ⟨F, hF, rfl, rfl⟩
  have hFh : hi S F.2.2 := by rw [hF]; exact hi_boot
  have h' : rr S (jl_w F) t k := kl_mid h hFh
  refine ja_istore O (q := 739) jd_L_law_737 rfl (by decide) ?_
  refine ja_aload_n O (q := 740) jd_L_law_739 rfl rfl rfl ?_
  have ht' := h'.2.2.2.2.2.1
  have hp' := h'.2.2.2.2.2.2.2.1
  refine jm_L_119 O (q := 743) ⟨by decide, by decide⟩ (by decide) ⟨by show 90 + n + 1 ≤ 601024; omega, by show 6057 + 6 * n + 6 ≤ 7293034; omega⟩ (co_M_boot K t k ht.1 ht'.2.2.1 hp'.2.1 (by have := hp.2.2.1; have := ht.1; omega)) jd_L_law_740 rfl ?_
  intro r2 S2 hr2
  obtain ⟨g, hg⟩ : ∃ g, g = mp_boot (jl_w F) := ⟨_, rfl⟩
  rw [show mp_boot (jl_w F) = g from hg.symm] at hr2
  have hq := sm_boot h'
  rw [← hF, ← hg] at hq
  have hlo : lo (jl_w F) g.2.2 := by rw [hg]; exact lo_boot
  obtain ⟨hS2, h32, h62⟩ := kl_end hq hr2.2 hlo
  have hr3 := hr2.1
  clear hr2 hlo hq hg
  refine ja_istore O (q := 745) jd_L_law_743 rfl (by decide) ?_
  refine ja_aload_n O (q := 746) jd_L_law_745 rfl rfl rfl ?_
  refine jm_L_84 O (q := 749) ⟨by decide, by decide⟩ (by decide) ⟨by show 90 + n + 1 ≤ 601024; omega, by show 6057 + 6 * n + 6 ≤ 7293034; omega⟩ (co_M_thrown K) jd_L_law_746 rfl ?_
  rintro r5 S5 ⟨h5, h6⟩
  rw [h5, h6, h32]
  refine ja_iload O (q := 751) jd_L_law_749 rfl rfl ?_
  refine ja_icmp_eq O (g := 756) (q := 754) jd_L_law_751 (by decide) rfl (fun _ => ?_) (fun z => absurd rfl z)
  refine ja_iload O (q := 758) jd_L_law_756 rfl rfl ?_
  refine ja_if_ne O (g := 773) (q := 761) jd_L_law_758 (by decide) rfl (fun _ => ja_goto O (g := 1125) jd_L_law_773 (by decide) (ja_less (L' := kl_L b ad n) ⟨rfl, rfl, rfl, rfl, rfl, trivial⟩ (kk S2 hS2))) (fun h0 => ?_)
  refine ja_aload_n O (q := 762) jd_L_law_761 rfl rfl rfl ?_
  refine ja_iconst O (q := 763) (v := nI 0) jd_L_law_762 rfl (by decide) ?_
  refine jl_37 O (q := 764) (k := 0) rfl (by decide) jd_L_law_763 rfl ?_
  refine ja_iload O (q := 766) jd_L_law_764 rfl rfl ?_
  refine ja_i2l O (q := 767) jd_L_law_766 rfl ?_
  rw [h62 h0, hr3]
  refine ja_lcmp O (q := 768) jd_L_law_767 rfl ?_
  exact ja_if_eq O (g := 773) (q := 771) jd_L_law_768 (by decide) rfl (fun _ => ja_goto O (g := 1125) jd_L_law_773 (by decide) (ja_less (L' := kl_L b ad n) ⟨rfl, rfl, rfl, rfl, rfl, trivial⟩ (kk S2 hS2))) (fun z => absurd kl_cmp z)
theorem kl_c11 (O : CallFix p m c jc_L_law 7 s args ja_T "CashMachineLaw" ∧ jb_X s s G ad) (K : jo_G s a0 G ad) (hfl : l.stackTraces = false) (hX : va_X b N xs s s.heap) (hb : b < s.heap.size) (hN : N ≤ 2048) (hn : 4 * n + 4 ≤ N) (hr : rS S) (kk : ∀ S', rS S' → ja_V p l e room_1 s m args below meth c (jb_W G ad) s.heap.size 7 (90 + n + 1) (6057 + 6 * n + 6) Q S' 1125 (kl_L b ad n) []) : ja_V p l e room_1 s m args below meth c (jb_W G ad) s.heap.size 7 (90 + n) (6057 + 6 * n) Q S 776 (kl_L b ad n) [] := by
  obtain ⟨t, k, h⟩ := hr
  have ht := h.2.2.2.2.2.1
  have hp := h.2.2.2.2.2.2.2.1
  obtain ⟨n9, w1, w2, -, -⟩ := id h.2.2.1
  refine ja_aload_n O (q := 777) jd_L_law_776 rfl rfl rfl ?_
  refine ja_aload_n O (q := 778) jd_L_law_777 rfl rfl rfl ?_
  refine kl_S O (q := 781) (k := 2) (As := [.ref (ad 0), .ref (ad 37)]) (st := []) (co_L_settle K hfl k n9 (Nat.le_trans hp.2.2.1 ht.1) w1 w2 hp.1 (kl_pd h)) jw_595 jw_597 jw_0 ⟨by decide, by decide, by decide +kernel⟩ rfl jw_596 ⟨by decide, by decide⟩ (by decide) ⟨by show 90 + n + 1 ≤ 601024; omega, by show 6057 + 6 * n + 6 ≤ 7293034; omega⟩ jd_L_law_778 rfl ?_
  rintro _ _ ⟨F, hF, rfl, rfl⟩
  have hFh : hi S F.2.2 := by rw [hF]; exact hi_stl
  have h' : rr S (jl_w F) t k := kl_mid h hFh
  refine ja_istore O (q := 783) jd_L_law_781 rfl (by decide) ?_
  refine ja_aload_n O (q := 784) jd_L_law_783 rfl rfl rfl ?_
  have hp' := h'.2.2.2.2.2.2.2.1
  obtain ⟨n8, v1, -, v2, -⟩ := id h'.2.2.1
  refine jm_L_122 O (q := 787) ⟨by decide, by decide⟩ (by decide) ⟨by show 90 + n + 1 ≤ 601024; omega, by show 6057 + 6 * n + 6 ≤ 7293034; omega⟩ (co_M_settle K k n8 (by have := hp.2.2.1; have := ht.1; omega) v1 v2 hp'.2.1 (kl_pm h')) jd_L_law_784 rfl ?_
  intro r2 S2 hr2
  obtain ⟨g, hg⟩ : ∃ g, g = mp_stl (jl_w F) := ⟨_, rfl⟩
  rw [show mp_stl (jl_w F) = g from hg.symm] at hr2
  have hq := sm_settle h'
  rw [← hF, ← hg] at hq
  have hlo : lo (jl_w F) g.2.2 := by rw [hg]; exact lo_stl
  obtain ⟨hS2, h32, h62⟩ := kl_end hq hr2.2 hlo
  have hr3 := hr2.1
  clear hr2 hlo hq hg
  refine ja_istore O (q := 789) jd_L_law_787 rfl (by decide) ?_
  refine ja_aload_n O (q := 790) jd_L_law_789 rfl rfl rfl ?_
  refine jm_L_84 O (q := 793) ⟨by decide, by decide⟩ (by decide) ⟨by show 90 + n + 1 ≤ 601024; omega, by show 6057 + 6 * n + 6 ≤ 7293034; omega⟩ (co_M_thrown K) jd_L_law_790 rfl ?_
  rintro r5 S5 ⟨h5, h6⟩
  rw [h5, h6, h32]
  refine ja_iload O (q := 795) jd_L_law_793 rfl rfl ?_
  refine ja_icmp_eq O (g := 800) (q := 798) jd_L_law_795 (by decide) rfl (fun _ => ?_) (fun z => absurd rfl z)
  refine ja_iload O (q := 802) jd_L_law_800 rfl rfl ?_
  refine ja_if_ne O (g := 817) (q := 805) jd_L_law_802 (by decide) rfl (fun _ => ja_goto O (g := 1125) jd_L_law_817 (by decide) (ja_less (L' := kl_L b ad n) ⟨rfl, rfl, rfl, rfl, rfl, trivial⟩ (kk S2 hS2))) (fun h0 => ?_)
  refine ja_aload_n O (q := 806) jd_L_law_805 rfl rfl rfl ?_
  refine ja_iconst O (q := 807) (v := nI 0) jd_L_law_806 rfl (by decide) ?_
  refine jl_37 O (q := 808) (k := 0) rfl (by decide) jd_L_law_807 rfl ?_
  refine ja_iload O (q := 810) jd_L_law_808 rfl rfl ?_
  refine ja_i2l O (q := 811) jd_L_law_810 rfl ?_
  rw [h62 h0, hr3]
  refine ja_lcmp O (q := 812) jd_L_law_811 rfl ?_
  exact ja_if_eq O (g := 817) (q := 815) jd_L_law_812 (by decide) rfl (fun _ => ja_goto O (g := 1125) jd_L_law_817 (by decide) (ja_less (L' := kl_L b ad n) ⟨rfl, rfl, rfl, rfl, rfl, trivial⟩ (kk S2 hS2))) (fun z => absurd kl_cmp z)
theorem kl_c12 (O : CallFix p m c jc_L_law 7 s args ja_T "CashMachineLaw" ∧ jb_X s s G ad) (K : jo_G s a0 G ad) (hfl : l.stackTraces = false) (hX : va_X b N xs s s.heap) (hb : b < s.heap.size) (hN : N ≤ 2048) (hn : 4 * n + 4 ≤ N) (hr : rS S) (kk : ∀ S', rS S' → ja_V p l e room_1 s m args below meth c (jb_W G ad) s.heap.size 7 (90 + n + 1) (6057 + 6 * n + 6) Q S' 1125 (kl_L b ad n) []) : ja_V p l e room_1 s m args below meth c (jb_W G ad) s.heap.size 7 (90 + n) (6057 + 6 * n) Q S 820 (kl_L b ad n) [] := by
  obtain ⟨t, k, h⟩ := hr
  refine ja_aload_n O (q := 821) jd_L_law_820 rfl rfl rfl ?_
  refine ja_aload_n O (q := 822) jd_L_law_821 rfl rfl rfl ?_
  refine ja_iload O (q := 824) jd_L_law_822 rfl rfl ?_
  refine ja_iconst O (q := 825) (v := 1) jd_L_law_824 rfl (by decide) ?_
  refine ja_iadd O (q := 826) jd_L_law_825 rfl ?_
  refine kl_ld O (q := 827) (k := 4 * n + 1) hX hb (nI_add (4 * n) 1) (by omega) (by omega) jd_L_law_826 rfl ?_
  refine ja_aload_n O (q := 828) jd_L_law_827 rfl rfl rfl ?_
  refine kl_S O (q := 831) (k := 3) (As := [.ref (ad 0), .int (xs (4 * n + 1)), .ref (ad 37)]) (st := []) (co_L_balance K hfl (xs (4 * n + 1))) jw_615 jw_617 jw_0 ⟨by decide, by decide, by decide +kernel⟩ rfl jw_616 ⟨by decide, by decide⟩ (by decide) ⟨by show 90 + n + 1 ≤ 601024; omega, by show 6057 + 6 * n + 6 ≤ 7293034; omega⟩ jd_L_law_828 rfl ?_
  rintro _ _ ⟨F, hF, rfl, rfl⟩
  have hFh : hi S F.2.2 := by rw [hF]; exact hi_bal (xs (4 * n + 1))
  have h' : rr S (jl_w F) t k := kl_mid h hFh
  refine ja_istore O (q := 833) jd_L_law_831 rfl (by decide) ?_
  refine ja_aload_n O (q := 834) jd_L_law_833 rfl rfl rfl ?_
  refine ja_aload_n O (q := 835) jd_L_law_834 rfl rfl rfl ?_
  refine ja_iload O (q := 837) jd_L_law_835 rfl rfl ?_
  refine ja_iconst O (q := 838) (v := 1) jd_L_law_837 rfl (by decide) ?_
  refine ja_iadd O (q := 839) jd_L_law_838 rfl ?_
  refine kl_ld O (q := 840) (k := 4 * n + 1) hX hb (nI_add (4 * n) 1) (by omega) (by omega) jd_L_law_839 rfl ?_
  refine jm_L_125 O (q := 843) ⟨by decide, by decide⟩ (by decide) ⟨by show 90 + n + 1 ≤ 601024; omega, by show 6057 + 6 * n + 6 ≤ 7293034; omega⟩ (co_M_balance K (xs (4 * n + 1))) jd_L_law_840 rfl ?_
  intro r2 S2 hr2
  obtain ⟨g, hg⟩ : ∃ g, g = mp_bal (jl_w F) (xs (4 * n + 1)) := ⟨_, rfl⟩
  rw [show mp_bal (jl_w F) (xs (4 * n + 1)) = g from hg.symm] at hr2
  have hq := sm_bal h' (xs (4 * n + 1))
  rw [← hF, ← hg] at hq
  have hlo : lo (jl_w F) g.2.2 := by rw [hg]; exact lo_bal (xs (4 * n + 1))
  obtain ⟨hS2, h32, h62⟩ := kl_end hq hr2.2 hlo
  have hr3 := hr2.1
  clear hr2 hlo hq hg
  refine ja_istore O (q := 845) jd_L_law_843 rfl (by decide) ?_
  refine ja_aload_n O (q := 846) jd_L_law_845 rfl rfl rfl ?_
  refine jm_L_84 O (q := 849) ⟨by decide, by decide⟩ (by decide) ⟨by show 90 + n + 1 ≤ 601024; omega, by show 6057 + 6 * n + 6 ≤ 7293034; omega⟩ (co_M_thrown K) jd_L_law_846 rfl ?_
  rintro r5 S5 ⟨h5, h6⟩
  rw [h5, h6, h32]
  refine ja_iload O (q := 851) jd_L_law_849 rfl rfl ?_
  refine ja_icmp_eq O (g := 856) (q := 854) jd_L_law_851 (by decide) rfl (fun _ => ?_) (fun z => absurd rfl z)
  refine ja_iload O (q := 858) jd_L_law_856 rfl rfl ?_
  refine ja_if_ne O (g := 873) (q := 861) jd_L_law_858 (by decide) rfl (fun _ => ja_goto O (g := 1125) jd_L_law_873 (by decide) (ja_less (L' := kl_L b ad n) ⟨rfl, rfl, rfl, rfl, rfl, trivial⟩ (kk S2 hS2))) (fun h0 => ?_)
  refine ja_aload_n O (q := 862) jd_L_law_861 rfl rfl rfl ?_
  refine ja_iconst O (q := 863) (v := nI 0) jd_L_law_862 rfl (by decide) ?_
  refine jl_37 O (q := 864) (k := 0) rfl (by decide) jd_L_law_863 rfl ?_
  refine ja_iload O (q := 866) jd_L_law_864 rfl rfl ?_
  refine ja_i2l O (q := 867) jd_L_law_866 rfl ?_
  rw [h62 h0, hr3]
  refine ja_lcmp O (q := 868) jd_L_law_867 rfl ?_
  exact ja_if_eq O (g := 873) (q := 871) jd_L_law_868 (by decide) rfl (fun _ => ja_goto O (g := 1125) jd_L_law_873 (by decide) (ja_less (L' := kl_L b ad n) ⟨rfl, rfl, rfl, rfl, rfl, trivial⟩ (kk S2 hS2))) (fun z => absurd kl_cmp z)
theorem kl_c13 (O : CallFix p m c jc_L_law 7 s args ja_T "CashMachineLaw" ∧ jb_X s s G ad) (K : jo_G s a0 G ad) (hfl : l.stackTraces = false) (hX : va_X b N xs s s.heap) (hb : b < s.heap.size) (hN : N ≤ 2048) (hn : 4 * n + 4 ≤ N) (hr : rS S) (kk : ∀ S', rS S' → ja_V p l e room_1 s m args below meth c (jb_W G ad) s.heap.size 7 (90 + n + 1) (6057 + 6 * n + 6) Q S' 1125 (kl_L b ad n) []) : ja_V p l e room_1 s m args below meth c (jb_W G ad) s.heap.size 7 (90 + n) (6057 + 6 * n) Q S 876 (kl_L b ad n) [] := by
  obtain ⟨t, k, h⟩ := hr
  have ht := h.2.2.2.2.2.1
  refine ja_aload_n O (q := 877) jd_L_law_876 rfl rfl rfl ?_
  refine ja_aload_n O (q := 878) jd_L_law_877 rfl rfl rfl ?_
  refine ja_iload O (q := 880) jd_L_law_878 rfl rfl ?_
  refine ja_iconst O (q := 881) (v := 1) jd_L_law_880 rfl (by decide) ?_
  refine ja_iadd O (q := 882) jd_L_law_881 rfl ?_
  refine kl_ld O (q := 883) (k := 4 * n + 1) hX hb (nI_add (4 * n) 1) (by omega) (by omega) jd_L_law_882 rfl ?_
  refine ja_aload_n O (q := 884) jd_L_law_883 rfl rfl rfl ?_
  refine ja_iload O (q := 886) jd_L_law_884 rfl rfl ?_
  refine ja_iconst O (q := 887) (v := 2) jd_L_law_886 rfl (by decide) ?_
  refine ja_iadd O (q := 888) jd_L_law_887 rfl ?_
  refine kl_ld O (q := 889) (k := 4 * n + 2) hX hb (nI_add (4 * n) 2) (by omega) (by omega) jd_L_law_888 rfl ?_
  refine ja_aload_n O (q := 890) jd_L_law_889 rfl rfl rfl ?_
  refine kl_S O (q := 893) (k := 4) (As := [.ref (ad 0), .int (xs (4 * n + 1)), .int (xs (4 * n + 2)), .ref (ad 37)]) (st := []) (co_L_trace K hfl (xs (4 * n + 1)) (xs (4 * n + 2)) t ht.1 ht.2.1) jw_622 jw_624 jw_0 ⟨by decide, by decide, by decide +kernel⟩ rfl jw_623 ⟨by decide, by decide⟩ (by decide) ⟨by show 90 + n + 1 ≤ 601024; omega, by show 6057 + 6 * n + 6 ≤ 7293034; omega⟩ jd_L_law_890 rfl ?_
  rintro _ _ ⟨F, hF, rfl, rfl⟩
  have hFh : hi S F.2.2 := by rw [hF]; exact hi_tr (xs (4 * n + 1)) (xs (4 * n + 2))
  have h' : rr S (jl_w F) t k := kl_mid h hFh
  refine ja_istore O (q := 895) jd_L_law_893 rfl (by decide) ?_
  refine ja_aload_n O (q := 896) jd_L_law_895 rfl rfl rfl ?_
  refine ja_aload_n O (q := 897) jd_L_law_896 rfl rfl rfl ?_
  refine ja_iload O (q := 899) jd_L_law_897 rfl rfl ?_
  refine ja_iconst O (q := 900) (v := 1) jd_L_law_899 rfl (by decide) ?_
  refine ja_iadd O (q := 901) jd_L_law_900 rfl ?_
  refine kl_ld O (q := 902) (k := 4 * n + 1) hX hb (nI_add (4 * n) 1) (by omega) (by omega) jd_L_law_901 rfl ?_
  refine ja_aload_n O (q := 903) jd_L_law_902 rfl rfl rfl ?_
  refine ja_iload O (q := 905) jd_L_law_903 rfl rfl ?_
  refine ja_iconst O (q := 906) (v := 2) jd_L_law_905 rfl (by decide) ?_
  refine ja_iadd O (q := 907) jd_L_law_906 rfl ?_
  refine kl_ld O (q := 908) (k := 4 * n + 2) hX hb (nI_add (4 * n) 2) (by omega) (by omega) jd_L_law_907 rfl ?_
  have ht' := h'.2.2.2.2.2.1
  refine jm_L_128 O (q := 911) ⟨by decide, by decide⟩ (by decide) ⟨by show 90 + n + 1 ≤ 601024; omega, by show 6057 + 6 * n + 6 ≤ 7293034; omega⟩ (co_M_trace K (xs (4 * n + 1)) (xs (4 * n + 2)) t ht.1 ht'.2.2.1) jd_L_law_908 rfl ?_
  intro r2 S2 hr2
  obtain ⟨g, hg⟩ : ∃ g, g = mp_tr (jl_w F) (xs (4 * n + 1)) (xs (4 * n + 2)) := ⟨_, rfl⟩
  rw [show mp_tr (jl_w F) (xs (4 * n + 1)) (xs (4 * n + 2)) = g from hg.symm] at hr2
  have hq := sm_tr h' (xs (4 * n + 1)) (xs (4 * n + 2))
  rw [← hF, ← hg] at hq
  have hlo : lo (jl_w F) g.2.2 := by rw [hg]; exact lo_tr (xs (4 * n + 1)) (xs (4 * n + 2))
  obtain ⟨hS2, h32, h62⟩ := kl_end hq hr2.2 hlo
  have hr3 := hr2.1
  clear hr2 hlo hq hg
  refine ja_istore O (q := 913) jd_L_law_911 rfl (by decide) ?_
  refine ja_aload_n O (q := 914) jd_L_law_913 rfl rfl rfl ?_
  refine jm_L_84 O (q := 917) ⟨by decide, by decide⟩ (by decide) ⟨by show 90 + n + 1 ≤ 601024; omega, by show 6057 + 6 * n + 6 ≤ 7293034; omega⟩ (co_M_thrown K) jd_L_law_914 rfl ?_
  rintro r5 S5 ⟨h5, h6⟩
  rw [h5, h6, h32]
  refine ja_iload O (q := 919) jd_L_law_917 rfl rfl ?_
  refine ja_icmp_eq O (g := 924) (q := 922) jd_L_law_919 (by decide) rfl (fun _ => ?_) (fun z => absurd rfl z)
  refine ja_iload O (q := 926) jd_L_law_924 rfl rfl ?_
  refine ja_if_ne O (g := 941) (q := 929) jd_L_law_926 (by decide) rfl (fun _ => ja_goto O (g := 1125) jd_L_law_941 (by decide) (ja_less (L' := kl_L b ad n) ⟨rfl, rfl, rfl, rfl, rfl, trivial⟩ (kk S2 hS2))) (fun h0 => ?_)
  refine ja_aload_n O (q := 930) jd_L_law_929 rfl rfl rfl ?_
  refine ja_iconst O (q := 931) (v := nI 0) jd_L_law_930 rfl (by decide) ?_
  refine jl_37 O (q := 932) (k := 0) rfl (by decide) jd_L_law_931 rfl ?_
  refine ja_iload O (q := 934) jd_L_law_932 rfl rfl ?_
  refine ja_i2l O (q := 935) jd_L_law_934 rfl ?_
  rw [h62 h0, hr3]
  refine ja_lcmp O (q := 936) jd_L_law_935 rfl ?_
  exact ja_if_eq O (g := 941) (q := 939) jd_L_law_936 (by decide) rfl (fun _ => ja_goto O (g := 1125) jd_L_law_941 (by decide) (ja_less (L' := kl_L b ad n) ⟨rfl, rfl, rfl, rfl, rfl, trivial⟩ (kk S2 hS2))) (fun z => absurd kl_cmp z)
theorem kl_c14 (O : CallFix p m c jc_L_law 7 s args ja_T "CashMachineLaw" ∧ jb_X s s G ad) (K : jo_G s a0 G ad) (hfl : l.stackTraces = false) (hX : va_X b N xs s s.heap) (hb : b < s.heap.size) (hN : N ≤ 2048) (hn : 4 * n + 4 ≤ N) (hr : rS S) (kk : ∀ S', rS S' → ja_V p l e room_1 s m args below meth c (jb_W G ad) s.heap.size 7 (90 + n + 1) (6057 + 6 * n + 6) Q S' 1125 (kl_L b ad n) []) : ja_V p l e room_1 s m args below meth c (jb_W G ad) s.heap.size 7 (90 + n) (6057 + 6 * n) Q S 944 (kl_L b ad n) [] := by
  obtain ⟨t, k, h⟩ := hr
  have ht := h.2.2.2.2.2.1
  have hp := h.2.2.2.2.2.2.2.1
  refine ja_aload_n O (q := 945) jd_L_law_944 rfl rfl rfl ?_
  refine ja_aload_n O (q := 946) jd_L_law_945 rfl rfl rfl ?_
  refine ja_iload O (q := 948) jd_L_law_946 rfl rfl ?_
  refine ja_iconst O (q := 949) (v := 1) jd_L_law_948 rfl (by decide) ?_
  refine ja_iadd O (q := 950) jd_L_law_949 rfl ?_
  refine kl_ld O (q := 951) (k := 4 * n + 1) hX hb (nI_add (4 * n) 1) (by omega) (by omega) jd_L_law_950 rfl ?_
  refine ja_aload_n O (q := 952) jd_L_law_951 rfl rfl rfl ?_
  refine kl_S O (q := 955) (k := 3) (As := [.ref (ad 0), .int (xs (4 * n + 1)), .ref (ad 37)]) (st := []) (co_L_reversal K hfl (xs (4 * n + 1)) k (Nat.le_trans hp.2.2.1 ht.1) hp.1) jw_629 jw_631 jw_0 ⟨by decide, by decide, by decide +kernel⟩ rfl jw_630 ⟨by decide, by decide⟩ (by decide) ⟨by show 90 + n + 1 ≤ 601024; omega, by show 6057 + 6 * n + 6 ≤ 7293034; omega⟩ jd_L_law_952 rfl ?_
  rintro _ _ ⟨F, hF, rfl, rfl⟩
  have hFh : hi S F.2.2 := by rw [hF]; exact hi_revl (xs (4 * n + 1))
  have h' : rr S (jl_w F) t k := kl_mid h hFh
  refine ja_istore O (q := 957) jd_L_law_955 rfl (by decide) ?_
  refine ja_aload_n O (q := 958) jd_L_law_957 rfl rfl rfl ?_
  refine ja_aload_n O (q := 959) jd_L_law_958 rfl rfl rfl ?_
  refine ja_iload O (q := 961) jd_L_law_959 rfl rfl ?_
  refine ja_iconst O (q := 962) (v := 1) jd_L_law_961 rfl (by decide) ?_
  refine ja_iadd O (q := 963) jd_L_law_962 rfl ?_
  refine kl_ld O (q := 964) (k := 4 * n + 1) hX hb (nI_add (4 * n) 1) (by omega) (by omega) jd_L_law_963 rfl ?_
  have hp' := h'.2.2.2.2.2.2.2.1
  refine jm_L_131 O (q := 967) ⟨by decide, by decide⟩ (by decide) ⟨by show 90 + n + 1 ≤ 601024; omega, by show 6057 + 6 * n + 6 ≤ 7293034; omega⟩ (co_M_reversal K (xs (4 * n + 1)) k (by have := hp.2.2.1; have := ht.1; omega) hp'.2.1) jd_L_law_964 rfl ?_
  intro r2 S2 hr2
  obtain ⟨g, hg⟩ : ∃ g, g = mp_revl (jl_w F) (xs (4 * n + 1)) := ⟨_, rfl⟩
  rw [show mp_revl (jl_w F) (xs (4 * n + 1)) = g from hg.symm] at hr2
  have hq := sm_revl h' (xs (4 * n + 1))
  rw [← hF, ← hg] at hq
  have hlo : lo (jl_w F) g.2.2 := by rw [hg]; exact lo_revl (xs (4 * n + 1))
  obtain ⟨hS2, h32, h62⟩ := kl_end hq hr2.2 hlo
  have hr3 := hr2.1
  clear hr2 hlo hq hg
  refine ja_istore O (q := 969) jd_L_law_967 rfl (by decide) ?_
  refine ja_aload_n O (q := 970) jd_L_law_969 rfl rfl rfl ?_
  refine jm_L_84 O (q := 973) ⟨by decide, by decide⟩ (by decide) ⟨by show 90 + n + 1 ≤ 601024; omega, by show 6057 + 6 * n + 6 ≤ 7293034; omega⟩ (co_M_thrown K) jd_L_law_970 rfl ?_
  rintro r5 S5 ⟨h5, h6⟩
  rw [h5, h6, h32]
  refine ja_iload O (q := 975) jd_L_law_973 rfl rfl ?_
  refine ja_icmp_eq O (g := 980) (q := 978) jd_L_law_975 (by decide) rfl (fun _ => ?_) (fun z => absurd rfl z)
  refine ja_iload O (q := 982) jd_L_law_980 rfl rfl ?_
  refine ja_if_ne O (g := 997) (q := 985) jd_L_law_982 (by decide) rfl (fun _ => ja_goto O (g := 1125) jd_L_law_997 (by decide) (ja_less (L' := kl_L b ad n) ⟨rfl, rfl, rfl, rfl, rfl, trivial⟩ (kk S2 hS2))) (fun h0 => ?_)
  refine ja_aload_n O (q := 986) jd_L_law_985 rfl rfl rfl ?_
  refine ja_iconst O (q := 987) (v := nI 0) jd_L_law_986 rfl (by decide) ?_
  refine jl_37 O (q := 988) (k := 0) rfl (by decide) jd_L_law_987 rfl ?_
  refine ja_iload O (q := 990) jd_L_law_988 rfl rfl ?_
  refine ja_i2l O (q := 991) jd_L_law_990 rfl ?_
  rw [h62 h0, hr3]
  refine ja_lcmp O (q := 992) jd_L_law_991 rfl ?_
  exact ja_if_eq O (g := 997) (q := 995) jd_L_law_992 (by decide) rfl (fun _ => ja_goto O (g := 1125) jd_L_law_997 (by decide) (ja_less (L' := kl_L b ad n) ⟨rfl, rfl, rfl, rfl, rfl, trivial⟩ (kk S2 hS2))) (fun z => absurd kl_cmp z)
theorem kl_c15 (O : CallFix p m c jc_L_law 7 s args ja_T "CashMachineLaw" ∧ jb_X s s G ad) (K : jo_G s a0 G ad) (hfl : l.stackTraces = false) (hX : va_X b N xs s s.heap) (hb : b < s.heap.size) (hN : N ≤ 2048) (hn : 4 * n + 4 ≤ N) (hr : rS S) (kk : ∀ S', rS S' → ja_V p l e room_1 s m args below meth c (jb_W G ad) s.heap.size 7 (90 + n + 1) (6057 + 6 * n + 6) Q S' 1125 (kl_L b ad n) []) : ja_V p l e room_1 s m args below meth c (jb_W G ad) s.heap.size 7 (90 + n) (6057 + 6 * n) Q S 1000 (kl_L b ad n) [] := by
  obtain ⟨t, k, h⟩ := hr
  refine ja_aload_n O (q := 1001) jd_L_law_1000 rfl rfl rfl ?_
  refine ja_aload_n O (q := 1002) jd_L_law_1001 rfl rfl rfl ?_
  refine ja_iload O (q := 1004) jd_L_law_1002 rfl rfl ?_
  refine ja_iconst O (q := 1005) (v := 1) jd_L_law_1004 rfl (by decide) ?_
  refine ja_iadd O (q := 1006) jd_L_law_1005 rfl ?_
  refine kl_ld O (q := 1007) (k := 4 * n + 1) hX hb (nI_add (4 * n) 1) (by omega) (by omega) jd_L_law_1006 rfl ?_
  refine ja_aload_n O (q := 1008) jd_L_law_1007 rfl rfl rfl ?_
  refine kl_S O (q := 1011) (k := 3) (As := [.ref (ad 0), .int (xs (4 * n + 1)), .ref (ad 37)]) (st := []) (co_L_notes K hfl (xs (4 * n + 1))) jw_636 jw_638 jw_0 ⟨by decide, by decide, by decide +kernel⟩ rfl jw_637 ⟨by decide, by decide⟩ (by decide) ⟨by show 90 + n + 1 ≤ 601024; omega, by show 6057 + 6 * n + 6 ≤ 7293034; omega⟩ jd_L_law_1008 rfl ?_
  rintro _ _ ⟨F, hF, rfl, rfl⟩
  have hFh : hi S F.2.2 := by rw [hF]; exact hi_notes (xs (4 * n + 1))
  have h' : rr S (jl_w F) t k := kl_mid h hFh
  refine ja_istore O (q := 1013) jd_L_law_1011 rfl (by decide) ?_
  refine ja_aload_n O (q := 1014) jd_L_law_1013 rfl rfl rfl ?_
  refine ja_aload_n O (q := 1015) jd_L_law_1014 rfl rfl rfl ?_
  refine ja_iload O (q := 1017) jd_L_law_1015 rfl rfl ?_
  refine ja_iconst O (q := 1018) (v := 1) jd_L_law_1017 rfl (by decide) ?_
  refine ja_iadd O (q := 1019) jd_L_law_1018 rfl ?_
  refine kl_ld O (q := 1020) (k := 4 * n + 1) hX hb (nI_add (4 * n) 1) (by omega) (by omega) jd_L_law_1019 rfl ?_
  refine jm_L_134 O (q := 1023) ⟨by decide, by decide⟩ (by decide) ⟨by show 90 + n + 1 ≤ 601024; omega, by show 6057 + 6 * n + 6 ≤ 7293034; omega⟩ (co_M_notes K (xs (4 * n + 1))) jd_L_law_1020 rfl ?_
  intro r2 S2 hr2
  obtain ⟨g, hg⟩ : ∃ g, g = mp_notes (jl_w F) (xs (4 * n + 1)) := ⟨_, rfl⟩
  rw [show mp_notes (jl_w F) (xs (4 * n + 1)) = g from hg.symm] at hr2
  have hq := sm_notes h' (xs (4 * n + 1))
  rw [← hF, ← hg] at hq
  have hlo : lo (jl_w F) g.2.2 := by rw [hg]; exact lo_notes (xs (4 * n + 1))
  obtain ⟨hS2, h32, h62⟩ := kl_end hq hr2.2 hlo
  have hr3 := hr2.1
  clear hr2 hlo hq hg
  refine ja_istore O (q := 1025) jd_L_law_1023 rfl (by decide) ?_
  refine ja_aload_n O (q := 1026) jd_L_law_1025 rfl rfl rfl ?_
  refine jm_L_84 O (q := 1029) ⟨by decide, by decide⟩ (by decide) ⟨by show 90 + n + 1 ≤ 601024; omega, by show 6057 + 6 * n + 6 ≤ 7293034; omega⟩ (co_M_thrown K) jd_L_law_1026 rfl ?_
  rintro r5 S5 ⟨h5, h6⟩
  rw [h5, h6, h32]
  refine ja_iload O (q := 1031) jd_L_law_1029 rfl rfl ?_
  refine ja_icmp_eq O (g := 1036) (q := 1034) jd_L_law_1031 (by decide) rfl (fun _ => ?_) (fun z => absurd rfl z)
  refine ja_iload O (q := 1038) jd_L_law_1036 rfl rfl ?_
  refine ja_if_ne O (g := 1053) (q := 1041) jd_L_law_1038 (by decide) rfl (fun _ => ja_goto O (g := 1125) jd_L_law_1053 (by decide) (ja_less (L' := kl_L b ad n) ⟨rfl, rfl, rfl, rfl, rfl, trivial⟩ (kk S2 hS2))) (fun h0 => ?_)
  refine ja_aload_n O (q := 1042) jd_L_law_1041 rfl rfl rfl ?_
  refine ja_iconst O (q := 1043) (v := nI 0) jd_L_law_1042 rfl (by decide) ?_
  refine jl_37 O (q := 1044) (k := 0) rfl (by decide) jd_L_law_1043 rfl ?_
  refine ja_iload O (q := 1046) jd_L_law_1044 rfl rfl ?_
  refine ja_i2l O (q := 1047) jd_L_law_1046 rfl ?_
  rw [h62 h0, hr3]
  refine ja_lcmp O (q := 1048) jd_L_law_1047 rfl ?_
  exact ja_if_eq O (g := 1053) (q := 1051) jd_L_law_1048 (by decide) rfl (fun _ => ja_goto O (g := 1125) jd_L_law_1053 (by decide) (ja_less (L' := kl_L b ad n) ⟨rfl, rfl, rfl, rfl, rfl, trivial⟩ (kk S2 hS2))) (fun z => absurd kl_cmp z)
theorem kl_c17 (O : CallFix p m c jc_L_law 7 s args ja_T "CashMachineLaw" ∧ jb_X s s G ad) (K : jo_G s a0 G ad) (hfl : l.stackTraces = false) (hX : va_X b N xs s s.heap) (hb : b < s.heap.size) (hN : N ≤ 2048) (hn : 4 * n + 4 ≤ N) (hr : rS S) (kk : ∀ S', rS S' → ja_V p l e room_1 s m args below meth c (jb_W G ad) s.heap.size 7 (90 + n + 1) (6057 + 6 * n + 6) Q S' 1125 (kl_L b ad n) []) : ja_V p l e room_1 s m args below meth c (jb_W G ad) s.heap.size 7 (90 + n) (6057 + 6 * n) Q S 1069 (kl_L b ad n) [] := by
  obtain ⟨t, k, h⟩ := hr
  refine ja_aload_n O (q := 1070) jd_L_law_1069 rfl rfl rfl ?_
  refine ja_aload_n O (q := 1071) jd_L_law_1070 rfl rfl rfl ?_
  refine ja_iload O (q := 1073) jd_L_law_1071 rfl rfl ?_
  refine ja_iconst O (q := 1074) (v := 1) jd_L_law_1073 rfl (by decide) ?_
  refine ja_iadd O (q := 1075) jd_L_law_1074 rfl ?_
  refine kl_ld O (q := 1076) (k := 4 * n + 1) hX hb (nI_add (4 * n) 1) (by omega) (by omega) jd_L_law_1075 rfl ?_
  refine ja_aload_n O (q := 1077) jd_L_law_1076 rfl rfl rfl ?_
  refine kl_S O (q := 1080) (k := 3) (As := [.ref (ad 0), .int (xs (4 * n + 1)), .ref (ad 37)]) (st := []) (co_L_count K hfl (xs (4 * n + 1))) jw_643 jw_645 jw_0 ⟨by decide, by decide, by decide +kernel⟩ rfl jw_644 ⟨by decide, by decide⟩ (by decide) ⟨by show 90 + n + 1 ≤ 601024; omega, by show 6057 + 6 * n + 6 ≤ 7293034; omega⟩ jd_L_law_1077 rfl ?_
  rintro _ _ ⟨F, hF, rfl, rfl⟩
  have hFh : hi S F.2.2 := by rw [hF]; exact hi_ct (xs (4 * n + 1))
  have h' : rr S (jl_w F) t k := kl_mid h hFh
  refine ja_istore O (q := 1082) jd_L_law_1080 rfl (by decide) ?_
  refine ja_aload_n O (q := 1083) jd_L_law_1082 rfl rfl rfl ?_
  refine ja_aload_n O (q := 1084) jd_L_law_1083 rfl rfl rfl ?_
  refine ja_iload O (q := 1086) jd_L_law_1084 rfl rfl ?_
  refine ja_iconst O (q := 1087) (v := 1) jd_L_law_1086 rfl (by decide) ?_
  refine ja_iadd O (q := 1088) jd_L_law_1087 rfl ?_
  refine kl_ld O (q := 1089) (k := 4 * n + 1) hX hb (nI_add (4 * n) 1) (by omega) (by omega) jd_L_law_1088 rfl ?_
  refine jm_L_141 O (q := 1092) ⟨by decide, by decide⟩ (by decide) ⟨by show 90 + n + 1 ≤ 601024; omega, by show 6057 + 6 * n + 6 ≤ 7293034; omega⟩ (co_M_count K (xs (4 * n + 1))) jd_L_law_1089 rfl ?_
  intro r2 S2 hr2
  obtain ⟨g, hg⟩ : ∃ g, g = mp_ct (jl_w F) (xs (4 * n + 1)) := ⟨_, rfl⟩
  rw [show mp_ct (jl_w F) (xs (4 * n + 1)) = g from hg.symm] at hr2
  have hq := sm_ct h' (xs (4 * n + 1))
  rw [← hF, ← hg] at hq
  have hlo : lo (jl_w F) g.2.2 := by rw [hg]; exact lo_ct (xs (4 * n + 1))
  obtain ⟨hS2, h32, h62⟩ := kl_end hq hr2.2 hlo
  have hr3 := hr2.1
  clear hr2 hlo hq hg
  refine ja_istore O (q := 1094) jd_L_law_1092 rfl (by decide) ?_
  refine ja_aload_n O (q := 1095) jd_L_law_1094 rfl rfl rfl ?_
  refine jm_L_84 O (q := 1098) ⟨by decide, by decide⟩ (by decide) ⟨by show 90 + n + 1 ≤ 601024; omega, by show 6057 + 6 * n + 6 ≤ 7293034; omega⟩ (co_M_thrown K) jd_L_law_1095 rfl ?_
  rintro r5 S5 ⟨h5, h6⟩
  rw [h5, h6, h32]
  refine ja_iload O (q := 1100) jd_L_law_1098 rfl rfl ?_
  refine ja_icmp_eq O (g := 1105) (q := 1103) jd_L_law_1100 (by decide) rfl (fun _ => ?_) (fun z => absurd rfl z)
  refine ja_iload O (q := 1107) jd_L_law_1105 rfl rfl ?_
  refine ja_if_ne O (g := 1122) (q := 1110) jd_L_law_1107 (by decide) rfl (fun _ => ja_goto O (g := 1125) jd_L_law_1122 (by decide) (ja_less (L' := kl_L b ad n) ⟨rfl, rfl, rfl, rfl, rfl, trivial⟩ (kk S2 hS2))) (fun h0 => ?_)
  refine ja_aload_n O (q := 1111) jd_L_law_1110 rfl rfl rfl ?_
  refine ja_iconst O (q := 1112) (v := nI 0) jd_L_law_1111 rfl (by decide) ?_
  refine jl_37 O (q := 1113) (k := 0) rfl (by decide) jd_L_law_1112 rfl ?_
  refine ja_iload O (q := 1115) jd_L_law_1113 rfl rfl ?_
  refine ja_i2l O (q := 1116) jd_L_law_1115 rfl ?_
  rw [h62 h0, hr3]
  refine ja_lcmp O (q := 1117) jd_L_law_1116 rfl ?_
  exact ja_if_eq O (g := 1122) (q := 1120) jd_L_law_1117 (by decide) rfl (fun _ => ja_goto O (g := 1125) jd_L_law_1122 (by decide) (ja_less (L' := kl_L b ad n) ⟨rfl, rfl, rfl, rfl, rfl, trivial⟩ (kk S2 hS2))) (fun z => absurd kl_cmp z)
theorem kl_c16 (O : CallFix p m c jc_L_law 7 s args ja_T "CashMachineLaw" ∧ jb_X s s G ad) (K : jo_G s a0 G ad) (hn : 4 * n + 4 ≤ 2048) (hr : rS S) (kk : ∀ S', rS S' → ja_V p l e room_1 s m args below meth c (jb_W G ad) s.heap.size 7 (90 + n) (6057 + 6 * n) Q S' 1125 (kl_L b ad n) []) : ja_V p l e room_1 s m args below meth c (jb_W G ad) s.heap.size 7 (90 + n) (6057 + 6 * n) Q S 1056 (kl_L b ad n) [] := by
  obtain ⟨t, k, h⟩ := hr
  refine ja_aload_n O (q := 1057) jd_L_law_1056 rfl rfl rfl ?_
  refine jm_L_135 O (q := 1060) ⟨by decide, by decide⟩ (by decide) ⟨by show 90 + n ≤ 601024; omega, by show 6057 + 6 * n ≤ 7293034; omega⟩ (co_C_difference K) jd_L_law_1057 rfl ?_
  rintro r1 S1 ⟨h1, h2⟩
  rw [h1, h2]
  refine ja_aload_n O (q := 1061) jd_L_law_1060 rfl rfl rfl ?_
  refine jm_L_138 O (q := 1064) ⟨by decide, by decide⟩ (Nat.le_of_ble_eq_true rfl) ⟨by show 90 + n ≤ 601024; omega, by show 6057 + 6 * n ≤ 7293034; omega⟩ (co_M_difference K) jd_L_law_1061 rfl ?_
  rintro r2 S2 ⟨h3, h4⟩
  rw [h3, h4, sm_dif h]
  exact ja_icmp_eq O (g := 1125) (q := 1067) jd_L_law_1064 (by decide) rfl (fun _ => kk (mk_z S) ⟨t, k, h⟩) (fun z => absurd rfl z)
end KLC
