-- the law: each kind of call, the loop, the start (written by wip/whole/mklaw.py)
theorem eW_0 {nm : String} {n : Nat} {xs : Nat → Int32} {g : z_Gl} {γ ρ : z_Sg} {i : Int} {kc ks : Nat} {Q : Option Value → List va_E → Prop} (hn : n ≤ 3072) (J : zJ g γ ρ i) (i0 : 0 ≤ i) (i1 : i + 6 ≤ n) (K : ∀ (g : z_Gl) (γ ρ : z_Sg), zJ g γ ρ (i + 6) → z_Ev (mW nm n xs) (11, 438) kc ks 902 [.retAddr 0, .ref 0, .ref 12, zi i] [] (zH g γ ρ) Q) : z_Ev (mW nm n xs) (11, 438) (5 + kc) (27 + ks) 128 [.retAddr 0, .ref 0, .ref 12, zi i] [] (zH g γ ρ) Q := by
  refine ev_aload_n 1 (q := 129) dW_law_128 rfl (by rfl) rfl ?_
  refine ev_aload_nS 0 (q := 130) dW_law_129 rfl (by rfl) rfl ?_
  refine ev_iload_n 3 (q := 131) dW_law_130 rfl (by rfl) rfl ?_
  refine ev_iconst (v := iI 1) (q := 132) dW_law_131 rfl rfl ?_
  refine zr_iadd (q := 133) dW_law_132 rfl ?_
  refine zr_sld (q := 134) dW_law_133 hn ⟨by omega, by omega⟩ rfl ?_
  refine ev_aload_nS 0 (q := 135) dW_law_134 rfl (by rfl) rfl ?_
  refine ev_iload_n 3 (q := 136) dW_law_135 rfl (by rfl) rfl ?_
  refine ev_iconst (v := iI 2) (q := 137) dW_law_136 rfl rfl ?_
  refine zr_iadd (q := 138) dW_law_137 rfl ?_
  refine zr_sld (q := 139) dW_law_138 hn ⟨by omega, by omega⟩ rfl ?_
  refine ev_aload_nS 0 (q := 140) dW_law_139 rfl (by rfl) rfl ?_
  refine ev_iload_n 3 (q := 141) dW_law_140 rfl (by rfl) rfl ?_
  refine ev_iconst (v := iI 3) (q := 142) dW_law_141 rfl rfl ?_
  refine zr_iadd (q := 143) dW_law_142 rfl ?_
  refine zr_sld (q := 144) dW_law_143 hn ⟨by omega, by omega⟩ rfl ?_
  refine ev_aload_nS 0 (q := 145) dW_law_144 rfl (by rfl) rfl ?_
  refine ev_iload_n 3 (q := 146) dW_law_145 rfl (by rfl) rfl ?_
  refine ev_iconst (v := iI 4) (q := 147) dW_law_146 rfl rfl ?_
  refine zr_iadd (q := 148) dW_law_147 rfl ?_
  refine zr_sld (q := 149) dW_law_148 hn ⟨by omega, by omega⟩ rfl ?_
  refine ev_more (kc := 5 + kc) (ks := 27 + ks) (by omega) (by omega) ?_
  refine ev_callV (As := [_, _, _, _]) (q := 152) dW_law_149 kW_13.1 kW_13.2.1 kW_13.2.2.1 kW_13.2.2.2 at_H rfl rfl (Nat.le_of_ble_eq_true rfl) rfl rfl rfl (by decide) (sH_begin J.1 J.2.1 (zsx xs (i + 1)) (zsx xs (i + 2)) (zsx xs (i + 3)) (zsx xs (i + 4)) (zsx_rg _ _) (zsx_rg _ _) (zsx_rg _ _) (zsx_rg _ _)) ?_
  rintro r M' ⟨rfl, g', rfl, hc', hg'⟩
  show z_Ev (mW nm n xs) (11, 438) kc ks 152 [.retAddr 0, .ref 0, .ref 12, zi i] [zi (cH_begin γ (zsx xs (i + 1)) (zsx xs (i + 2)) (zsx xs (i + 3)) (zsx xs (i + 4))).1] (zH g' (cH_begin γ (zsx xs (i + 1)) (zsx xs (i + 2)) (zsx xs (i + 3)) (zsx xs (i + 4))).2 ρ) Q
  refine ev_aload_n 2 (q := 153) dW_law_152 rfl (by rfl) rfl ?_
  refine ev_aload_nS 0 (q := 154) dW_law_153 rfl (by rfl) rfl ?_
  refine ev_iload_n 3 (q := 155) dW_law_154 rfl (by rfl) rfl ?_
  refine ev_iconst (v := iI 1) (q := 156) dW_law_155 rfl rfl ?_
  refine zr_iadd (q := 157) dW_law_156 rfl ?_
  refine zr_sld (q := 158) dW_law_157 hn ⟨by omega, by omega⟩ rfl ?_
  refine ev_aload_nS 0 (q := 159) dW_law_158 rfl (by rfl) rfl ?_
  refine ev_iload_n 3 (q := 160) dW_law_159 rfl (by rfl) rfl ?_
  refine ev_iconst (v := iI 2) (q := 161) dW_law_160 rfl rfl ?_
  refine zr_iadd (q := 162) dW_law_161 rfl ?_
  refine zr_sld (q := 163) dW_law_162 hn ⟨by omega, by omega⟩ rfl ?_
  refine ev_aload_nS 0 (q := 164) dW_law_163 rfl (by rfl) rfl ?_
  refine ev_iload_n 3 (q := 165) dW_law_164 rfl (by rfl) rfl ?_
  refine ev_iconst (v := iI 3) (q := 166) dW_law_165 rfl rfl ?_
  refine zr_iadd (q := 167) dW_law_166 rfl ?_
  refine zr_sld (q := 168) dW_law_167 hn ⟨by omega, by omega⟩ rfl ?_
  refine ev_aload_nS 0 (q := 169) dW_law_168 rfl (by rfl) rfl ?_
  refine ev_iload_n 3 (q := 170) dW_law_169 rfl (by rfl) rfl ?_
  refine ev_iconst (v := iI 4) (q := 171) dW_law_170 rfl rfl ?_
  refine zr_iadd (q := 172) dW_law_171 rfl ?_
  refine zr_sld (q := 173) dW_law_172 hn ⟨by omega, by omega⟩ rfl ?_
  refine cv_V (As := [_, _, _, _]) (q := 176) dW_law_173 kW_17 atR rfl rfl (Nat.le_of_ble_eq_true rfl) rfl rfl rfl (by decide) (sR_begin J.2.2.1.1.1 (zsx xs (i + 1)) (zsx xs (i + 2)) (zsx xs (i + 3)) (zsx xs (i + 4)) (zsx_rg _ _) (zsx_rg _ _) (zsx_rg _ _) (zsx_rg _ _)) ?_
  have e := P_begin (nd := (zsx xs (i + 1))) (no := (zsx xs (i + 2))) (fr := (zsx xs (i + 3))) (un := (zsx xs (i + 4))) J.2.2.1 J.1 J.2.1
  refine ev_icmp_eq (t := 902) (q := 179) dW_law_176 (by decide) rfl (fun _ => K g' (cH_begin γ (zsx xs (i + 1)) (zsx xs (i + 2)) (zsx xs (i + 3)) (zsx xs (i + 4))).2 (rR_begin ρ (zsx xs (i + 1)) (zsx xs (i + 2)) (zsx xs (i + 3)) (zsx xs (i + 4))).2 ⟨hc', hg', e.2, by have q := J.2.2.2; rw [k1_begin]; omega⟩) (fun h => absurd (congrArg iI e.1) h)
theorem eW_1 {nm : String} {n : Nat} {xs : Nat → Int32} {g : z_Gl} {γ ρ : z_Sg} {i : Int} {kc ks : Nat} {Q : Option Value → List va_E → Prop} (hn : n ≤ 3072) (J : zJ g γ ρ i) (i0 : 0 ≤ i) (i1 : i + 6 ≤ n) (K : ∀ (g : z_Gl) (γ ρ : z_Sg), zJ g γ ρ (i + 6) → z_Ev (mW nm n xs) (11, 438) kc ks 902 [.retAddr 0, .ref 0, .ref 12, zi i] [] (zH g γ ρ) Q) : z_Ev (mW nm n xs) (11, 438) (5 + kc) (27 + ks) 181 [.retAddr 0, .ref 0, .ref 12, zi i] [] (zH g γ ρ) Q := by
  refine ev_aload_n 1 (q := 182) dW_law_181 rfl (by rfl) rfl ?_
  refine ev_aload_nS 0 (q := 183) dW_law_182 rfl (by rfl) rfl ?_
  refine ev_iload_n 3 (q := 184) dW_law_183 rfl (by rfl) rfl ?_
  refine ev_iconst (v := iI 1) (q := 185) dW_law_184 rfl rfl ?_
  refine zr_iadd (q := 186) dW_law_185 rfl ?_
  refine zr_sld (q := 187) dW_law_186 hn ⟨by omega, by omega⟩ rfl ?_
  refine ev_aload_nS 0 (q := 188) dW_law_187 rfl (by rfl) rfl ?_
  refine ev_iload_n 3 (q := 189) dW_law_188 rfl (by rfl) rfl ?_
  refine ev_iconst (v := iI 2) (q := 190) dW_law_189 rfl rfl ?_
  refine zr_iadd (q := 191) dW_law_190 rfl ?_
  refine zr_sld (q := 192) dW_law_191 hn ⟨by omega, by omega⟩ rfl ?_
  refine ev_aload_nS 0 (q := 193) dW_law_192 rfl (by rfl) rfl ?_
  refine ev_iload_n 3 (q := 194) dW_law_193 rfl (by rfl) rfl ?_
  refine ev_iconst (v := iI 3) (q := 195) dW_law_194 rfl rfl ?_
  refine zr_iadd (q := 196) dW_law_195 rfl ?_
  refine zr_sld (q := 197) dW_law_196 hn ⟨by omega, by omega⟩ rfl ?_
  refine ev_more (kc := kc) (ks := ks) (by omega) (by omega) ?_
  refine cv_V (As := [_, _, _]) (q := 200) dW_law_197 kW_18 at_H rfl rfl (Nat.le_of_ble_eq_true rfl) rfl rfl rfl (by decide) (sH_consume J.1 (zsx xs (i + 1)) (zsx xs (i + 2)) (zsx xs (i + 3)) (zsx_rg _ _) (zsx_rg _ _) (zsx_rg _ _)) ?_
  refine ev_aload_n 2 (q := 201) dW_law_200 rfl (by rfl) rfl ?_
  refine ev_aload_nS 0 (q := 202) dW_law_201 rfl (by rfl) rfl ?_
  refine ev_iload_n 3 (q := 203) dW_law_202 rfl (by rfl) rfl ?_
  refine ev_iconst (v := iI 1) (q := 204) dW_law_203 rfl rfl ?_
  refine zr_iadd (q := 205) dW_law_204 rfl ?_
  refine zr_sld (q := 206) dW_law_205 hn ⟨by omega, by omega⟩ rfl ?_
  refine ev_aload_nS 0 (q := 207) dW_law_206 rfl (by rfl) rfl ?_
  refine ev_iload_n 3 (q := 208) dW_law_207 rfl (by rfl) rfl ?_
  refine ev_iconst (v := iI 2) (q := 209) dW_law_208 rfl rfl ?_
  refine zr_iadd (q := 210) dW_law_209 rfl ?_
  refine zr_sld (q := 211) dW_law_210 hn ⟨by omega, by omega⟩ rfl ?_
  refine ev_aload_nS 0 (q := 212) dW_law_211 rfl (by rfl) rfl ?_
  refine ev_iload_n 3 (q := 213) dW_law_212 rfl (by rfl) rfl ?_
  refine ev_iconst (v := iI 3) (q := 214) dW_law_213 rfl rfl ?_
  refine zr_iadd (q := 215) dW_law_214 rfl ?_
  refine zr_sld (q := 216) dW_law_215 hn ⟨by omega, by omega⟩ rfl ?_
  refine cv_V (As := [_, _, _]) (q := 219) dW_law_216 kW_22 atR rfl rfl (Nat.le_of_ble_eq_true rfl) rfl rfl rfl (by decide) (sR_consume J.2.2.1.1.1 (zsx xs (i + 1)) (zsx xs (i + 2)) (zsx xs (i + 3)) (zsx_rg _ _) (zsx_rg _ _) (zsx_rg _ _)) ?_
  have e := P_consume (t := (zsx xs (i + 1))) (u := (zsx xs (i + 2))) (o := (zsx xs (i + 3))) J.2.2.1 J.1
  refine ev_icmp_eq (t := 902) (q := 222) dW_law_219 (by decide) rfl (fun _ => K g (cH_consume γ (zsx xs (i + 1)) (zsx xs (i + 2)) (zsx xs (i + 3))).2 (rR_consume ρ (zsx xs (i + 1)) (zsx xs (i + 2)) (zsx xs (i + 3))).2 ⟨(wH_consume J.1 (zsx xs (i + 1)) (zsx xs (i + 2)) (zsx xs (i + 3)) (zsx_rg _ _) (zsx_rg _ _) (zsx_rg _ _)), (zLog_consume J.2.1 (zsx xs (i + 1)) (zsx xs (i + 2)) (zsx xs (i + 3))), e.2, by have q := J.2.2.2; rw [kH_consume (zsx xs (i + 1)) (zsx xs (i + 2)) (zsx xs (i + 3)) (by decide) (by decide) (by decide)]; omega⟩) (fun h => absurd (congrArg iI e.1) h)
theorem eW_2 {nm : String} {n : Nat} {xs : Nat → Int32} {g : z_Gl} {γ ρ : z_Sg} {i : Int} {kc ks : Nat} {Q : Option Value → List va_E → Prop} (hn : n ≤ 3072) (J : zJ g γ ρ i) (i0 : 0 ≤ i) (i1 : i + 6 ≤ n) (K : ∀ (g : z_Gl) (γ ρ : z_Sg), zJ g γ ρ (i + 6) → z_Ev (mW nm n xs) (11, 438) kc ks 902 [.retAddr 0, .ref 0, .ref 12, zi i] [] (zH g γ ρ) Q) : z_Ev (mW nm n xs) (11, 438) (5 + kc) (27 + ks) 224 [.retAddr 0, .ref 0, .ref 12, zi i] [] (zH g γ ρ) Q := by
  refine ev_aload_n 1 (q := 225) dW_law_224 rfl (by rfl) rfl ?_
  refine ev_aload_nS 0 (q := 226) dW_law_225 rfl (by rfl) rfl ?_
  refine ev_iload_n 3 (q := 227) dW_law_226 rfl (by rfl) rfl ?_
  refine ev_iconst (v := iI 1) (q := 228) dW_law_227 rfl rfl ?_
  refine zr_iadd (q := 229) dW_law_228 rfl ?_
  refine zr_sld (q := 230) dW_law_229 hn ⟨by omega, by omega⟩ rfl ?_
  refine ev_aload_nS 0 (q := 231) dW_law_230 rfl (by rfl) rfl ?_
  refine ev_iload_n 3 (q := 232) dW_law_231 rfl (by rfl) rfl ?_
  refine ev_iconst (v := iI 2) (q := 233) dW_law_232 rfl rfl ?_
  refine zr_iadd (q := 234) dW_law_233 rfl ?_
  refine zr_sld (q := 235) dW_law_234 hn ⟨by omega, by omega⟩ rfl ?_
  refine ev_aload_nS 0 (q := 236) dW_law_235 rfl (by rfl) rfl ?_
  refine ev_iload_n 3 (q := 237) dW_law_236 rfl (by rfl) rfl ?_
  refine ev_iconst (v := iI 3) (q := 238) dW_law_237 rfl rfl ?_
  refine zr_iadd (q := 239) dW_law_238 rfl ?_
  refine zr_sld (q := 240) dW_law_239 hn ⟨by omega, by omega⟩ rfl ?_
  refine ev_aload_nS 0 (q := 241) dW_law_240 rfl (by rfl) rfl ?_
  refine ev_iload_n 3 (q := 242) dW_law_241 rfl (by rfl) rfl ?_
  refine ev_iconst (v := iI 4) (q := 243) dW_law_242 rfl rfl ?_
  refine zr_iadd (q := 244) dW_law_243 rfl ?_
  refine zr_sld (q := 245) dW_law_244 hn ⟨by omega, by omega⟩ rfl ?_
  refine ev_aload_nS 0 (q := 246) dW_law_245 rfl (by rfl) rfl ?_
  refine ev_iload_n 3 (q := 247) dW_law_246 rfl (by rfl) rfl ?_
  refine ev_iconst (v := iI 5) (q := 248) dW_law_247 rfl rfl ?_
  refine zr_iadd (q := 249) dW_law_248 rfl ?_
  refine zr_sld (q := 250) dW_law_249 hn ⟨by omega, by omega⟩ rfl ?_
  refine ev_more (kc := 1 + kc) (ks := 6 + ks) (by omega) (by omega) ?_
  refine ev_callV (As := [_, _, _, _, _]) (q := 253) dW_law_250 kW_23.1 kW_23.2.1 kW_23.2.2.1 kW_23.2.2.2 at_H rfl rfl (Nat.le_of_ble_eq_true rfl) rfl rfl rfl (by decide) (sH_produce J.1 J.2.1 (zsx xs (i + 1)) (zsx xs (i + 2)) (zsx xs (i + 3)) (zsx xs (i + 4)) (zsx xs (i + 5)) (zsx_rg _ _) (zsx_rg _ _) (zsx_rg _ _) (zsx_rg _ _) (zsx_rg _ _)) ?_
  rintro r M' ⟨rfl, g', rfl, hc', hg'⟩
  show z_Ev (mW nm n xs) (11, 438) kc ks 253 [.retAddr 0, .ref 0, .ref 12, zi i] [zi (cH_produce γ (zsx xs (i + 1)) (zsx xs (i + 2)) (zsx xs (i + 3)) (zsx xs (i + 4)) (zsx xs (i + 5))).1] (zH g' (cH_produce γ (zsx xs (i + 1)) (zsx xs (i + 2)) (zsx xs (i + 3)) (zsx xs (i + 4)) (zsx xs (i + 5))).2 ρ) Q
  refine ev_aload_n 2 (q := 254) dW_law_253 rfl (by rfl) rfl ?_
  refine ev_aload_nS 0 (q := 255) dW_law_254 rfl (by rfl) rfl ?_
  refine ev_iload_n 3 (q := 256) dW_law_255 rfl (by rfl) rfl ?_
  refine ev_iconst (v := iI 1) (q := 257) dW_law_256 rfl rfl ?_
  refine zr_iadd (q := 258) dW_law_257 rfl ?_
  refine zr_sld (q := 259) dW_law_258 hn ⟨by omega, by omega⟩ rfl ?_
  refine ev_aload_nS 0 (q := 260) dW_law_259 rfl (by rfl) rfl ?_
  refine ev_iload_n 3 (q := 261) dW_law_260 rfl (by rfl) rfl ?_
  refine ev_iconst (v := iI 2) (q := 262) dW_law_261 rfl rfl ?_
  refine zr_iadd (q := 263) dW_law_262 rfl ?_
  refine zr_sld (q := 264) dW_law_263 hn ⟨by omega, by omega⟩ rfl ?_
  refine ev_aload_nS 0 (q := 265) dW_law_264 rfl (by rfl) rfl ?_
  refine ev_iload_n 3 (q := 266) dW_law_265 rfl (by rfl) rfl ?_
  refine ev_iconst (v := iI 3) (q := 267) dW_law_266 rfl rfl ?_
  refine zr_iadd (q := 268) dW_law_267 rfl ?_
  refine zr_sld (q := 269) dW_law_268 hn ⟨by omega, by omega⟩ rfl ?_
  refine ev_aload_nS 0 (q := 270) dW_law_269 rfl (by rfl) rfl ?_
  refine ev_iload_n 3 (q := 271) dW_law_270 rfl (by rfl) rfl ?_
  refine ev_iconst (v := iI 4) (q := 272) dW_law_271 rfl rfl ?_
  refine zr_iadd (q := 273) dW_law_272 rfl ?_
  refine zr_sld (q := 274) dW_law_273 hn ⟨by omega, by omega⟩ rfl ?_
  refine ev_aload_nS 0 (q := 275) dW_law_274 rfl (by rfl) rfl ?_
  refine ev_iload_n 3 (q := 276) dW_law_275 rfl (by rfl) rfl ?_
  refine ev_iconst (v := iI 5) (q := 277) dW_law_276 rfl rfl ?_
  refine zr_iadd (q := 278) dW_law_277 rfl ?_
  refine zr_sld (q := 279) dW_law_278 hn ⟨by omega, by omega⟩ rfl ?_
  refine cv_V (As := [_, _, _, _, _]) (q := 282) dW_law_279 kW_27 atR rfl rfl (Nat.le_of_ble_eq_true rfl) rfl rfl rfl (by decide) (sR_produce J.2.2.1.1.1 (zsx xs (i + 1)) (zsx xs (i + 2)) (zsx xs (i + 3)) (zsx xs (i + 4)) (zsx xs (i + 5)) (zsx_rg _ _) (zsx_rg _ _) (zsx_rg _ _) (zsx_rg _ _) (zsx_rg _ _)) ?_
  have e := P_produce (t := (zsx xs (i + 1))) (kd := (zsx xs (i + 2))) (x := (zsx xs (i + 3))) (y := (zsx xs (i + 4))) (am := (zsx xs (i + 5))) J.2.2.1 J.1 J.2.1
  refine ev_icmp_eq (t := 902) (q := 285) dW_law_282 (by decide) rfl (fun _ => K g' (cH_produce γ (zsx xs (i + 1)) (zsx xs (i + 2)) (zsx xs (i + 3)) (zsx xs (i + 4)) (zsx xs (i + 5))).2 (rR_produce ρ (zsx xs (i + 1)) (zsx xs (i + 2)) (zsx xs (i + 3)) (zsx xs (i + 4)) (zsx xs (i + 5))).2 ⟨hc', hg', e.2, by have q := J.2.2.2; rw [k1_produce]; omega⟩) (fun h => absurd (congrArg iI e.1) h)
theorem eW_3 {nm : String} {n : Nat} {xs : Nat → Int32} {g : z_Gl} {γ ρ : z_Sg} {i : Int} {kc ks : Nat} {Q : Option Value → List va_E → Prop} (hn : n ≤ 3072) (J : zJ g γ ρ i) (i0 : 0 ≤ i) (i1 : i + 6 ≤ n) (K : ∀ (g : z_Gl) (γ ρ : z_Sg), zJ g γ ρ (i + 6) → z_Ev (mW nm n xs) (11, 438) kc ks 902 [.retAddr 0, .ref 0, .ref 12, zi i] [] (zH g γ ρ) Q) : z_Ev (mW nm n xs) (11, 438) (5 + kc) (27 + ks) 287 [.retAddr 0, .ref 0, .ref 12, zi i] [] (zH g γ ρ) Q := by
  refine ev_aload_n 1 (q := 288) dW_law_287 rfl (by rfl) rfl ?_
  refine ev_aload_nS 0 (q := 289) dW_law_288 rfl (by rfl) rfl ?_
  refine ev_iload_n 3 (q := 290) dW_law_289 rfl (by rfl) rfl ?_
  refine ev_iconst (v := iI 1) (q := 291) dW_law_290 rfl rfl ?_
  refine zr_iadd (q := 292) dW_law_291 rfl ?_
  refine zr_sld (q := 293) dW_law_292 hn ⟨by omega, by omega⟩ rfl ?_
  refine ev_aload_nS 0 (q := 294) dW_law_293 rfl (by rfl) rfl ?_
  refine ev_iload_n 3 (q := 295) dW_law_294 rfl (by rfl) rfl ?_
  refine ev_iconst (v := iI 2) (q := 296) dW_law_295 rfl rfl ?_
  refine zr_iadd (q := 297) dW_law_296 rfl ?_
  refine zr_sld (q := 298) dW_law_297 hn ⟨by omega, by omega⟩ rfl ?_
  refine ev_aload_nS 0 (q := 299) dW_law_298 rfl (by rfl) rfl ?_
  refine ev_iload_n 3 (q := 300) dW_law_299 rfl (by rfl) rfl ?_
  refine ev_iconst (v := iI 3) (q := 301) dW_law_300 rfl rfl ?_
  refine zr_iadd (q := 302) dW_law_301 rfl ?_
  refine zr_sld (q := 303) dW_law_302 hn ⟨by omega, by omega⟩ rfl ?_
  refine ev_more (kc := kc) (ks := ks) (by omega) (by omega) ?_
  refine cv_V (As := [_, _, _]) (q := 306) dW_law_303 kW_28 at_H rfl rfl (Nat.le_of_ble_eq_true rfl) rfl rfl rfl (by decide) (sH_bind J.1 (zsx xs (i + 1)) (zsx xs (i + 2)) (zsx xs (i + 3)) (zsx_rg _ _) (zsx_rg _ _) (zsx_rg _ _)) ?_
  refine ev_aload_n 2 (q := 307) dW_law_306 rfl (by rfl) rfl ?_
  refine ev_aload_nS 0 (q := 308) dW_law_307 rfl (by rfl) rfl ?_
  refine ev_iload_n 3 (q := 309) dW_law_308 rfl (by rfl) rfl ?_
  refine ev_iconst (v := iI 1) (q := 310) dW_law_309 rfl rfl ?_
  refine zr_iadd (q := 311) dW_law_310 rfl ?_
  refine zr_sld (q := 312) dW_law_311 hn ⟨by omega, by omega⟩ rfl ?_
  refine ev_aload_nS 0 (q := 313) dW_law_312 rfl (by rfl) rfl ?_
  refine ev_iload_n 3 (q := 314) dW_law_313 rfl (by rfl) rfl ?_
  refine ev_iconst (v := iI 2) (q := 315) dW_law_314 rfl rfl ?_
  refine zr_iadd (q := 316) dW_law_315 rfl ?_
  refine zr_sld (q := 317) dW_law_316 hn ⟨by omega, by omega⟩ rfl ?_
  refine ev_aload_nS 0 (q := 318) dW_law_317 rfl (by rfl) rfl ?_
  refine ev_iload_n 3 (q := 319) dW_law_318 rfl (by rfl) rfl ?_
  refine ev_iconst (v := iI 3) (q := 320) dW_law_319 rfl rfl ?_
  refine zr_iadd (q := 321) dW_law_320 rfl ?_
  refine zr_sld (q := 322) dW_law_321 hn ⟨by omega, by omega⟩ rfl ?_
  refine cv_V (As := [_, _, _]) (q := 325) dW_law_322 kW_31 atR rfl rfl (Nat.le_of_ble_eq_true rfl) rfl rfl rfl (by decide) (sR_bind J.2.2.1.1.1 (zsx xs (i + 1)) (zsx xs (i + 2)) (zsx xs (i + 3)) (zsx_rg _ _) (zsx_rg _ _) (zsx_rg _ _)) ?_
  have e := P_bind (t := (zsx xs (i + 1))) (o := (zsx xs (i + 2))) (p := (zsx xs (i + 3))) J.2.2.1
  refine ev_icmp_eq (t := 902) (q := 328) dW_law_325 (by decide) rfl (fun _ => K g (cH_bind γ (zsx xs (i + 1)) (zsx xs (i + 2)) (zsx xs (i + 3))).2 (rR_bind ρ (zsx xs (i + 1)) (zsx xs (i + 2)) (zsx xs (i + 3))).2 ⟨(wH_bind J.1 (zsx xs (i + 1)) (zsx xs (i + 2)) (zsx xs (i + 3)) (zsx_rg _ _) (zsx_rg _ _) (zsx_rg _ _)), (zLog_fr J.2.1 (k1_bind γ (zsx xs (i + 1)) (zsx xs (i + 2)) (zsx xs (i + 3)) (by decide)) (k1_bind γ (zsx xs (i + 1)) (zsx xs (i + 2)) (zsx xs (i + 3)) (by decide))), e.2, by have q := J.2.2.2; rw [k1_bind γ (zsx xs (i + 1)) (zsx xs (i + 2)) (zsx xs (i + 3)) (by decide)]; omega⟩) (fun h => absurd (congrArg iI e.1) h)
theorem eW_4 {nm : String} {n : Nat} {xs : Nat → Int32} {g : z_Gl} {γ ρ : z_Sg} {i : Int} {kc ks : Nat} {Q : Option Value → List va_E → Prop} (hn : n ≤ 3072) (J : zJ g γ ρ i) (i0 : 0 ≤ i) (i1 : i + 6 ≤ n) (K : ∀ (g : z_Gl) (γ ρ : z_Sg), zJ g γ ρ (i + 6) → z_Ev (mW nm n xs) (11, 438) kc ks 902 [.retAddr 0, .ref 0, .ref 12, zi i] [] (zH g γ ρ) Q) : z_Ev (mW nm n xs) (11, 438) (5 + kc) (27 + ks) 330 [.retAddr 0, .ref 0, .ref 12, zi i] [] (zH g γ ρ) Q := by
  refine ev_aload_n 1 (q := 331) dW_law_330 rfl (by rfl) rfl ?_
  refine ev_aload_nS 0 (q := 332) dW_law_331 rfl (by rfl) rfl ?_
  refine ev_iload_n 3 (q := 333) dW_law_332 rfl (by rfl) rfl ?_
  refine ev_iconst (v := iI 1) (q := 334) dW_law_333 rfl rfl ?_
  refine zr_iadd (q := 335) dW_law_334 rfl ?_
  refine zr_sld (q := 336) dW_law_335 hn ⟨by omega, by omega⟩ rfl ?_
  refine ev_aload_nS 0 (q := 337) dW_law_336 rfl (by rfl) rfl ?_
  refine ev_iload_n 3 (q := 338) dW_law_337 rfl (by rfl) rfl ?_
  refine ev_iconst (v := iI 2) (q := 339) dW_law_338 rfl rfl ?_
  refine zr_iadd (q := 340) dW_law_339 rfl ?_
  refine zr_sld (q := 341) dW_law_340 hn ⟨by omega, by omega⟩ rfl ?_
  refine ev_aload_nS 0 (q := 342) dW_law_341 rfl (by rfl) rfl ?_
  refine ev_iload_n 3 (q := 343) dW_law_342 rfl (by rfl) rfl ?_
  refine ev_iconst (v := iI 3) (q := 344) dW_law_343 rfl rfl ?_
  refine zr_iadd (q := 345) dW_law_344 rfl ?_
  refine zr_sld (q := 346) dW_law_345 hn ⟨by omega, by omega⟩ rfl ?_
  refine ev_aload_nS 0 (q := 347) dW_law_346 rfl (by rfl) rfl ?_
  refine ev_iload_n 3 (q := 348) dW_law_347 rfl (by rfl) rfl ?_
  refine ev_iconst (v := iI 4) (q := 349) dW_law_348 rfl rfl ?_
  refine zr_iadd (q := 350) dW_law_349 rfl ?_
  refine zr_sld (q := 351) dW_law_350 hn ⟨by omega, by omega⟩ rfl ?_
  refine ev_more (kc := 2 + kc) (ks := 12 + ks) (by omega) (by omega) ?_
  refine ev_callV (As := [_, _, _, _]) (q := 354) dW_law_351 kW_32.1 kW_32.2.1 kW_32.2.2.1 kW_32.2.2.2 at_H rfl rfl (Nat.le_of_ble_eq_true rfl) rfl rfl rfl (by decide) (sH_pay J.1 J.2.1 (zsx xs (i + 1)) (zsx xs (i + 2)) (zsx xs (i + 3)) (zsx xs (i + 4)) (zsx_rg _ _) (zsx_rg _ _) (zsx_rg _ _) (zsx_rg _ _)) ?_
  rintro r M' ⟨rfl, g', rfl, hc', hg'⟩
  show z_Ev (mW nm n xs) (11, 438) kc ks 354 [.retAddr 0, .ref 0, .ref 12, zi i] [zi (cH_pay γ (zsx xs (i + 1)) (zsx xs (i + 2)) (zsx xs (i + 3)) (zsx xs (i + 4))).1] (zH g' (cH_pay γ (zsx xs (i + 1)) (zsx xs (i + 2)) (zsx xs (i + 3)) (zsx xs (i + 4))).2 ρ) Q
  refine ev_aload_n 2 (q := 355) dW_law_354 rfl (by rfl) rfl ?_
  refine ev_aload_nS 0 (q := 356) dW_law_355 rfl (by rfl) rfl ?_
  refine ev_iload_n 3 (q := 357) dW_law_356 rfl (by rfl) rfl ?_
  refine ev_iconst (v := iI 1) (q := 358) dW_law_357 rfl rfl ?_
  refine zr_iadd (q := 359) dW_law_358 rfl ?_
  refine zr_sld (q := 360) dW_law_359 hn ⟨by omega, by omega⟩ rfl ?_
  refine ev_aload_nS 0 (q := 361) dW_law_360 rfl (by rfl) rfl ?_
  refine ev_iload_n 3 (q := 362) dW_law_361 rfl (by rfl) rfl ?_
  refine ev_iconst (v := iI 2) (q := 363) dW_law_362 rfl rfl ?_
  refine zr_iadd (q := 364) dW_law_363 rfl ?_
  refine zr_sld (q := 365) dW_law_364 hn ⟨by omega, by omega⟩ rfl ?_
  refine ev_aload_nS 0 (q := 366) dW_law_365 rfl (by rfl) rfl ?_
  refine ev_iload_n 3 (q := 367) dW_law_366 rfl (by rfl) rfl ?_
  refine ev_iconst (v := iI 3) (q := 368) dW_law_367 rfl rfl ?_
  refine zr_iadd (q := 369) dW_law_368 rfl ?_
  refine zr_sld (q := 370) dW_law_369 hn ⟨by omega, by omega⟩ rfl ?_
  refine ev_aload_nS 0 (q := 371) dW_law_370 rfl (by rfl) rfl ?_
  refine ev_iload_n 3 (q := 372) dW_law_371 rfl (by rfl) rfl ?_
  refine ev_iconst (v := iI 4) (q := 373) dW_law_372 rfl rfl ?_
  refine zr_iadd (q := 374) dW_law_373 rfl ?_
  refine zr_sld (q := 375) dW_law_374 hn ⟨by omega, by omega⟩ rfl ?_
  refine cv_V (As := [_, _, _, _]) (q := 378) dW_law_375 kW_35 atR rfl rfl (Nat.le_of_ble_eq_true rfl) rfl rfl rfl (by decide) (sR_pay J.2.2.1.1.1 (zsx xs (i + 1)) (zsx xs (i + 2)) (zsx xs (i + 3)) (zsx xs (i + 4)) (zsx_rg _ _) (zsx_rg _ _) (zsx_rg _ _) (zsx_rg _ _)) ?_
  have e := P_pay (t := (zsx xs (i + 1))) (iss := (zsx xs (i + 2))) (to := (zsx xs (i + 3))) (am := (zsx xs (i + 4))) J.2.2.1 J.1 J.2.1 (zsx_rg _ _) (zsx_rg _ _) (zsx_rg _ _) (zsx_rg _ _)
  refine ev_icmp_eq (t := 902) (q := 381) dW_law_378 (by decide) rfl (fun _ => K g' (cH_pay γ (zsx xs (i + 1)) (zsx xs (i + 2)) (zsx xs (i + 3)) (zsx xs (i + 4))).2 (rR_pay ρ (zsx xs (i + 1)) (zsx xs (i + 2)) (zsx xs (i + 3)) (zsx xs (i + 4))).2 ⟨hc', hg', e.2, by have q := J.2.2.2; rw [k1_pay]; omega⟩) (fun h => absurd (congrArg iI e.1) h)
theorem eW_5 {nm : String} {n : Nat} {xs : Nat → Int32} {g : z_Gl} {γ ρ : z_Sg} {i : Int} {kc ks : Nat} {Q : Option Value → List va_E → Prop} (hn : n ≤ 3072) (J : zJ g γ ρ i) (i0 : 0 ≤ i) (i1 : i + 6 ≤ n) (K : ∀ (g : z_Gl) (γ ρ : z_Sg), zJ g γ ρ (i + 6) → z_Ev (mW nm n xs) (11, 438) kc ks 902 [.retAddr 0, .ref 0, .ref 12, zi i] [] (zH g γ ρ) Q) : z_Ev (mW nm n xs) (11, 438) (5 + kc) (27 + ks) 383 [.retAddr 0, .ref 0, .ref 12, zi i] [] (zH g γ ρ) Q := by
  refine ev_aload_n 1 (q := 384) dW_law_383 rfl (by rfl) rfl ?_
  refine ev_aload_nS 0 (q := 385) dW_law_384 rfl (by rfl) rfl ?_
  refine ev_iload_n 3 (q := 386) dW_law_385 rfl (by rfl) rfl ?_
  refine ev_iconst (v := iI 1) (q := 387) dW_law_386 rfl rfl ?_
  refine zr_iadd (q := 388) dW_law_387 rfl ?_
  refine zr_sld (q := 389) dW_law_388 hn ⟨by omega, by omega⟩ rfl ?_
  refine ev_more (kc := kc) (ks := ks) (by omega) (by omega) ?_
  refine cv_V (As := [_]) (q := 392) dW_law_389 kW_36 at_H rfl rfl (Nat.le_of_ble_eq_true rfl) rfl rfl rfl (by decide) (sH_drop J.1 (zsx xs (i + 1)) (zsx_rg _ _)) ?_
  refine ev_aload_n 2 (q := 393) dW_law_392 rfl (by rfl) rfl ?_
  refine ev_aload_nS 0 (q := 394) dW_law_393 rfl (by rfl) rfl ?_
  refine ev_iload_n 3 (q := 395) dW_law_394 rfl (by rfl) rfl ?_
  refine ev_iconst (v := iI 1) (q := 396) dW_law_395 rfl rfl ?_
  refine zr_iadd (q := 397) dW_law_396 rfl ?_
  refine zr_sld (q := 398) dW_law_397 hn ⟨by omega, by omega⟩ rfl ?_
  refine cv_V (As := [_]) (q := 401) dW_law_398 kW_40 atR rfl rfl (Nat.le_of_ble_eq_true rfl) rfl rfl rfl (by decide) (sR_drop J.2.2.1.1.1 (zsx xs (i + 1)) (zsx_rg _ _)) ?_
  have e := P_drop (t := (zsx xs (i + 1))) J.2.2.1
  refine ev_icmp_eq (t := 902) (q := 404) dW_law_401 (by decide) rfl (fun _ => K g (cH_drop γ (zsx xs (i + 1))).2 (rR_drop ρ (zsx xs (i + 1))).2 ⟨(wH_drop J.1 (zsx xs (i + 1)) (zsx_rg _ _)), (zLog_fr J.2.1 (k1_drop γ (zsx xs (i + 1)) (by decide)) (k1_drop γ (zsx xs (i + 1)) (by decide))), e.2, by have q := J.2.2.2; rw [k1_drop γ (zsx xs (i + 1)) (by decide)]; omega⟩) (fun h => absurd (congrArg iI e.1) h)
theorem eW_6 {nm : String} {n : Nat} {xs : Nat → Int32} {g : z_Gl} {γ ρ : z_Sg} {i : Int} {kc ks : Nat} {Q : Option Value → List va_E → Prop} (hn : n ≤ 3072) (J : zJ g γ ρ i) (i0 : 0 ≤ i) (i1 : i + 6 ≤ n) (K : ∀ (g : z_Gl) (γ ρ : z_Sg), zJ g γ ρ (i + 6) → z_Ev (mW nm n xs) (11, 438) kc ks 902 [.retAddr 0, .ref 0, .ref 12, zi i] [] (zH g γ ρ) Q) : z_Ev (mW nm n xs) (11, 438) (5 + kc) (27 + ks) 406 [.retAddr 0, .ref 0, .ref 12, zi i] [] (zH g γ ρ) Q := by
  have hq : 0 ≤ (zsx xs (i + 1)) → (zsx xs (i + 1)) < ρ 0 0 → zcode 2 (ρ 1 (zsx xs (i + 1))) (ρ 2 (zsx xs (i + 1))) (zsx xs (i + 1)) 0 ∈ zPl ρ ∧ ∀ m : Int, 0 ≤ m → m ≤ 3 → m ≠ ρ 1 (zsx xs (i + 1)) → zcode 0 (ρ 1 (zsx xs (i + 1))) m (zsx xs (i + 1)) 0 ∈ zPl ρ := by
    intro a b
    have gm : 0 ≤ ρ 0 0 ∧ ρ 0 0 ≤ 20 := J.2.2.1.1.1 0 0 (by decide)
    exact ⟨zP_not a (by omega), fun m m0 m1 m2 => zP_ask J.2.2.1.1.1 a (by omega) ⟨m0, m1⟩ m2⟩
  refine ev_aload_n 1 (q := 407) dW_law_406 rfl (by rfl) rfl ?_
  refine ev_aload_nS 0 (q := 408) dW_law_407 rfl (by rfl) rfl ?_
  refine ev_iload_n 3 (q := 409) dW_law_408 rfl (by rfl) rfl ?_
  refine ev_iconst (v := iI 1) (q := 410) dW_law_409 rfl rfl ?_
  refine zr_iadd (q := 411) dW_law_410 rfl ?_
  refine zr_sld (q := 412) dW_law_411 hn ⟨by omega, by omega⟩ rfl ?_
  refine ev_aload_nS 0 (q := 413) dW_law_412 rfl (by rfl) rfl ?_
  refine ev_iload_n 3 (q := 414) dW_law_413 rfl (by rfl) rfl ?_
  refine ev_iconst (v := iI 2) (q := 415) dW_law_414 rfl rfl ?_
  refine zr_iadd (q := 416) dW_law_415 rfl ?_
  refine zr_sld (q := 417) dW_law_416 hn ⟨by omega, by omega⟩ rfl ?_
  refine ev_bool (q := 425) (zsx_rg _ _) dW_law_417 dW_law_420 dW_law_421 dW_law_424 rfl ?_
  refine ev_more (kc := kc) (ks := ks) (by omega) (by omega) ?_
  refine cv_V (As := [_, _]) (q := 428) dW_law_425 kW_41 at_H rfl rfl (Nat.le_of_ble_eq_true rfl) rfl rfl rfl (by decide) (sH_propose J.1 (zsx xs (i + 1)) (zbo (zsx xs (i + 2))) (zsx_rg _ _) (zbo_01 _)) ?_
  refine ev_aload_n 2 (q := 429) dW_law_428 rfl (by rfl) rfl ?_
  refine ev_aload_nS 0 (q := 430) dW_law_429 rfl (by rfl) rfl ?_
  refine ev_iload_n 3 (q := 431) dW_law_430 rfl (by rfl) rfl ?_
  refine ev_iconst (v := iI 1) (q := 432) dW_law_431 rfl rfl ?_
  refine zr_iadd (q := 433) dW_law_432 rfl ?_
  refine zr_sld (q := 434) dW_law_433 hn ⟨by omega, by omega⟩ rfl ?_
  refine ev_aload_nS 0 (q := 435) dW_law_434 rfl (by rfl) rfl ?_
  refine ev_iload_n 3 (q := 436) dW_law_435 rfl (by rfl) rfl ?_
  refine ev_iconst (v := iI 2) (q := 437) dW_law_436 rfl rfl ?_
  refine zr_iadd (q := 438) dW_law_437 rfl ?_
  refine zr_sld (q := 439) dW_law_438 hn ⟨by omega, by omega⟩ rfl ?_
  refine ev_bool (q := 447) (zsx_rg _ _) dW_law_439 dW_law_442 dW_law_443 dW_law_446 rfl ?_
  refine cv_V (As := [_, _]) (q := 450) dW_law_447 kW_45 atR rfl rfl (Nat.le_of_ble_eq_true rfl) rfl rfl rfl (by decide) (sR_propose J.2.2.1.1.1 (zsx xs (i + 1)) (zbo (zsx xs (i + 2))) (zsx_rg _ _) (zbo_01 _) (kW_Rm J.2.2.1.1.1 J.2.2.1.2.2.2.2.2.2.2.2.2) hq) ?_
  have e := P_propose (t := (zsx xs (i + 1))) (ha := (zbo (zsx xs (i + 2)))) J.2.2.1 (zbo_01 _)
  refine ev_icmp_eq (t := 902) (q := 453) dW_law_450 (by decide) rfl (fun _ => K g (cH_propose γ (zsx xs (i + 1)) (zbo (zsx xs (i + 2)))).2 (rR_propose ρ (zsx xs (i + 1)) (zbo (zsx xs (i + 2)))).2 ⟨(wH_propose J.1 (zsx xs (i + 1)) (zbo (zsx xs (i + 2))) (zsx_rg _ _) (zbo_01 _)), (zLog_fr J.2.1 (kH_propose (zsx xs (i + 1)) (zbo (zsx xs (i + 2))) (by decide) (by decide) (by decide) (by decide) (by decide) (by decide)) (kH_propose (zsx xs (i + 1)) (zbo (zsx xs (i + 2))) (by decide) (by decide) (by decide) (by decide) (by decide) (by decide))), e.2, by have q := J.2.2.2; rw [kH_propose (zsx xs (i + 1)) (zbo (zsx xs (i + 2))) (by decide) (by decide) (by decide) (by decide) (by decide) (by decide)]; omega⟩) (fun h => absurd (congrArg iI e.1) h)
theorem eW_7 {nm : String} {n : Nat} {xs : Nat → Int32} {g : z_Gl} {γ ρ : z_Sg} {i : Int} {kc ks : Nat} {Q : Option Value → List va_E → Prop} (hn : n ≤ 3072) (J : zJ g γ ρ i) (i0 : 0 ≤ i) (i1 : i + 6 ≤ n) (K : ∀ (g : z_Gl) (γ ρ : z_Sg), zJ g γ ρ (i + 6) → z_Ev (mW nm n xs) (11, 438) kc ks 902 [.retAddr 0, .ref 0, .ref 12, zi i] [] (zH g γ ρ) Q) : z_Ev (mW nm n xs) (11, 438) (5 + kc) (27 + ks) 455 [.retAddr 0, .ref 0, .ref 12, zi i] [] (zH g γ ρ) Q := by
  have hd : 0 ≤ (zsx xs (i + 1)) → (zsx xs (i + 1)) < γ 6 0 → cB_kindOf γ (γ 7 (zsx xs (i + 1))) = 1 → cB_senderOf γ (γ 7 (zsx xs (i + 1))) ≤ 3 := by
    intro a b
    have m := J.2.2.1.2.2.2.1
    rw [m.1] at b
    rw [m.2 _ a b]
    exact (K_Del J.2.2.1 a b).2
  refine ev_aload_n 1 (q := 456) dW_law_455 rfl (by rfl) rfl ?_
  refine ev_aload_nS 0 (q := 457) dW_law_456 rfl (by rfl) rfl ?_
  refine ev_iload_n 3 (q := 458) dW_law_457 rfl (by rfl) rfl ?_
  refine ev_iconst (v := iI 1) (q := 459) dW_law_458 rfl rfl ?_
  refine zr_iadd (q := 460) dW_law_459 rfl ?_
  refine zr_sld (q := 461) dW_law_460 hn ⟨by omega, by omega⟩ rfl ?_
  refine ev_aload_nS 0 (q := 462) dW_law_461 rfl (by rfl) rfl ?_
  refine ev_iload_n 3 (q := 463) dW_law_462 rfl (by rfl) rfl ?_
  refine ev_iconst (v := iI 2) (q := 464) dW_law_463 rfl rfl ?_
  refine zr_iadd (q := 465) dW_law_464 rfl ?_
  refine zr_sld (q := 466) dW_law_465 hn ⟨by omega, by omega⟩ rfl ?_
  refine ev_bool (q := 474) (zsx_rg _ _) dW_law_466 dW_law_469 dW_law_470 dW_law_473 rfl ?_
  refine ev_more (kc := kc) (ks := ks) (by omega) (by omega) ?_
  refine cv_V (As := [_, _]) (q := 477) dW_law_474 kW_46 at_H rfl rfl (Nat.le_of_ble_eq_true rfl) rfl rfl rfl (by decide) (sH_deliver J.1 (zsx xs (i + 1)) (zbo (zsx xs (i + 2))) (zsx_rg _ _) (zbo_01 _) hd) ?_
  refine ev_aload_n 2 (q := 478) dW_law_477 rfl (by rfl) rfl ?_
  refine ev_aload_nS 0 (q := 479) dW_law_478 rfl (by rfl) rfl ?_
  refine ev_iload_n 3 (q := 480) dW_law_479 rfl (by rfl) rfl ?_
  refine ev_iconst (v := iI 1) (q := 481) dW_law_480 rfl rfl ?_
  refine zr_iadd (q := 482) dW_law_481 rfl ?_
  refine zr_sld (q := 483) dW_law_482 hn ⟨by omega, by omega⟩ rfl ?_
  refine ev_aload_nS 0 (q := 484) dW_law_483 rfl (by rfl) rfl ?_
  refine ev_iload_n 3 (q := 485) dW_law_484 rfl (by rfl) rfl ?_
  refine ev_iconst (v := iI 2) (q := 486) dW_law_485 rfl rfl ?_
  refine zr_iadd (q := 487) dW_law_486 rfl ?_
  refine zr_sld (q := 488) dW_law_487 hn ⟨by omega, by omega⟩ rfl ?_
  refine ev_bool (q := 496) (zsx_rg _ _) dW_law_488 dW_law_491 dW_law_492 dW_law_495 rfl ?_
  refine cv_V (As := [_, _]) (q := 499) dW_law_496 kW_49 atR rfl rfl (Nat.le_of_ble_eq_true rfl) rfl rfl rfl (by decide) (sR_deliver J.2.2.1.1.1 (zsx xs (i + 1)) (zbo (zsx xs (i + 2))) (zsx_rg _ _) (zbo_01 _) (kW_Rm J.2.2.1.1.1 J.2.2.1.2.2.2.2.2.2.2.2.2) (fun a b => (K_Del J.2.2.1 a b).1)) ?_
  have e := P_deliver (k := (zsx xs (i + 1))) (fa := (zbo (zsx xs (i + 2)))) J.2.2.1
  refine ev_icmp_eq (t := 902) (q := 502) dW_law_499 (by decide) rfl (fun _ => K g (cH_deliver γ (zsx xs (i + 1)) (zbo (zsx xs (i + 2)))).2 (rR_deliver ρ (zsx xs (i + 1)) (zbo (zsx xs (i + 2)))).2 ⟨(wH_deliver J.1 (zsx xs (i + 1)) (zbo (zsx xs (i + 2))) (zsx_rg _ _) (zbo_01 _) hd), (zLog_fr J.2.1 (kH_deliver (zsx xs (i + 1)) (zbo (zsx xs (i + 2))) (by decide) (by decide) (by decide) (by decide) (by decide) (by decide) (by decide) (by decide) (by decide) (by decide) (by decide) ) (kH_deliver (zsx xs (i + 1)) (zbo (zsx xs (i + 2))) (by decide) (by decide) (by decide) (by decide) (by decide) (by decide) (by decide) (by decide) (by decide) (by decide) (by decide) )), e.2, by have q := J.2.2.2; rw [kH_deliver (zsx xs (i + 1)) (zbo (zsx xs (i + 2))) (by decide) (by decide) (by decide) (by decide) (by decide) (by decide) (by decide) (by decide) (by decide) (by decide) (by decide) ]; omega⟩) (fun h => absurd (congrArg iI e.1) h)
theorem eW_8 {nm : String} {n : Nat} {xs : Nat → Int32} {g : z_Gl} {γ ρ : z_Sg} {i : Int} {kc ks : Nat} {Q : Option Value → List va_E → Prop} (hn : n ≤ 3072) (J : zJ g γ ρ i) (i0 : 0 ≤ i) (i1 : i + 6 ≤ n) (K : ∀ (g : z_Gl) (γ ρ : z_Sg), zJ g γ ρ (i + 6) → z_Ev (mW nm n xs) (11, 438) kc ks 902 [.retAddr 0, .ref 0, .ref 12, zi i] [] (zH g γ ρ) Q) : z_Ev (mW nm n xs) (11, 438) (5 + kc) (27 + ks) 504 [.retAddr 0, .ref 0, .ref 12, zi i] [] (zH g γ ρ) Q := by
  refine ev_aload_n 1 (q := 505) dW_law_504 rfl (by rfl) rfl ?_
  refine ev_aload_nS 0 (q := 506) dW_law_505 rfl (by rfl) rfl ?_
  refine ev_iload_n 3 (q := 507) dW_law_506 rfl (by rfl) rfl ?_
  refine ev_iconst (v := iI 1) (q := 508) dW_law_507 rfl rfl ?_
  refine zr_iadd (q := 509) dW_law_508 rfl ?_
  refine zr_sld (q := 510) dW_law_509 hn ⟨by omega, by omega⟩ rfl ?_
  refine ev_more (kc := kc) (ks := ks) (by omega) (by omega) ?_
  refine cv_V (As := [_]) (q := 513) dW_law_510 kW_50 at_H rfl rfl (Nat.le_of_ble_eq_true rfl) rfl rfl rfl (by decide) (sH_message J.1 (zsx xs (i + 1)) (zsx_rg _ _)) ?_
  refine ev_aload_n 2 (q := 514) dW_law_513 rfl (by rfl) rfl ?_
  refine ev_aload_nS 0 (q := 515) dW_law_514 rfl (by rfl) rfl ?_
  refine ev_iload_n 3 (q := 516) dW_law_515 rfl (by rfl) rfl ?_
  refine ev_iconst (v := iI 1) (q := 517) dW_law_516 rfl rfl ?_
  refine zr_iadd (q := 518) dW_law_517 rfl ?_
  refine zr_sld (q := 519) dW_law_518 hn ⟨by omega, by omega⟩ rfl ?_
  refine cv_V (As := [_]) (q := 522) dW_law_519 kW_54 atR rfl rfl (Nat.le_of_ble_eq_true rfl) rfl rfl rfl (by decide) (sR_message J.2.2.1.1.1 (zsx xs (i + 1)) (zsx_rg _ _)) ?_
  have e := Q_message (k := (zsx xs (i + 1))) J.2.2.1
  refine ev_icmp_eq (t := 902) (q := 525) dW_law_522 (by decide) rfl (fun _ => K g γ ρ (zJ_next J)) (fun h => absurd (congrArg iI e) h)
theorem eW_9 {nm : String} {n : Nat} {xs : Nat → Int32} {g : z_Gl} {γ ρ : z_Sg} {i : Int} {kc ks : Nat} {Q : Option Value → List va_E → Prop} (hn : n ≤ 3072) (J : zJ g γ ρ i) (i0 : 0 ≤ i) (i1 : i + 6 ≤ n) (K : ∀ (g : z_Gl) (γ ρ : z_Sg), zJ g γ ρ (i + 6) → z_Ev (mW nm n xs) (11, 438) kc ks 902 [.retAddr 0, .ref 0, .ref 12, zi i] [] (zH g γ ρ) Q) : z_Ev (mW nm n xs) (11, 438) (5 + kc) (27 + ks) 527 [.retAddr 0, .ref 0, .ref 12, zi i] [] (zH g γ ρ) Q := by
  have hk : γ 1 0 ≤ 999000 := by have := J.2.2.2; omega
  have hk2 : ρ 24 0 ≤ 999000 := by rw [← kB_clock J.2.2.1.1]; exact hk
  refine ev_aload_n 1 (q := 528) dW_law_527 rfl (by rfl) rfl ?_
  refine ev_aload_nS 0 (q := 529) dW_law_528 rfl (by rfl) rfl ?_
  refine ev_iload_n 3 (q := 530) dW_law_529 rfl (by rfl) rfl ?_
  refine ev_iconst (v := iI 1) (q := 531) dW_law_530 rfl rfl ?_
  refine zr_iadd (q := 532) dW_law_531 rfl ?_
  refine zr_sld (q := 533) dW_law_532 hn ⟨by omega, by omega⟩ rfl ?_
  refine ev_more (kc := kc) (ks := ks) (by omega) (by omega) ?_
  refine cv_V (As := [_]) (q := 536) dW_law_533 kW_55 at_H rfl rfl (Nat.le_of_ble_eq_true rfl) rfl rfl rfl (by decide) (sH_tick J.1 (zsx xs (i + 1)) (zsx_rg _ _) hk) ?_
  refine ev_aload_n 2 (q := 537) dW_law_536 rfl (by rfl) rfl ?_
  refine ev_aload_nS 0 (q := 538) dW_law_537 rfl (by rfl) rfl ?_
  refine ev_iload_n 3 (q := 539) dW_law_538 rfl (by rfl) rfl ?_
  refine ev_iconst (v := iI 1) (q := 540) dW_law_539 rfl rfl ?_
  refine zr_iadd (q := 541) dW_law_540 rfl ?_
  refine zr_sld (q := 542) dW_law_541 hn ⟨by omega, by omega⟩ rfl ?_
  refine cv_V (As := [_]) (q := 545) dW_law_542 kW_58 atR rfl rfl (Nat.le_of_ble_eq_true rfl) rfl rfl rfl (by decide) (sR_tick J.2.2.1.1.1 (zsx xs (i + 1)) (zsx_rg _ _) hk2) ?_
  have e := P_tick (m := (zsx xs (i + 1))) J.2.2.1 hk2
  have hk3 : 6 * (cH_tick γ (zsx xs (i + 1))).2 1 0 ≤ 1000 * (i + 6) := by
    have q := J.2.2.2
    unfold cH_tick
    split
    · show 6 * γ 1 0 ≤ _; omega
    · split
      · show 6 * γ 1 0 ≤ _; omega
      · show 6 * z_up γ 1 0 (γ 1 0 + (zsx xs (i + 1))) 1 0 ≤ _
        rw [z_up_s, zup_s]; omega
  refine ev_icmp_eq (t := 902) (q := 548) dW_law_545 (by decide) rfl (fun _ => K g (cH_tick γ (zsx xs (i + 1))).2 (rR_tick ρ (zsx xs (i + 1))).2 ⟨(wH_tick J.1 (zsx xs (i + 1)) (zsx_rg _ _) hk), (zLog_fr J.2.1 (k1_tick γ (zsx xs (i + 1)) (by decide)) (k1_tick γ (zsx xs (i + 1)) (by decide))), e.2, by have q := J.2.2.2; exact hk3⟩) (fun h => absurd (congrArg iI e.1) h)
theorem eW_10 {nm : String} {n : Nat} {xs : Nat → Int32} {g : z_Gl} {γ ρ : z_Sg} {i : Int} {kc ks : Nat} {Q : Option Value → List va_E → Prop} (hn : n ≤ 3072) (J : zJ g γ ρ i) (i0 : 0 ≤ i) (i1 : i + 6 ≤ n) (K : ∀ (g : z_Gl) (γ ρ : z_Sg), zJ g γ ρ (i + 6) → z_Ev (mW nm n xs) (11, 438) kc ks 902 [.retAddr 0, .ref 0, .ref 12, zi i] [] (zH g γ ρ) Q) : z_Ev (mW nm n xs) (11, 438) (5 + kc) (27 + ks) 550 [.retAddr 0, .ref 0, .ref 12, zi i] [] (zH g γ ρ) Q := by
  refine ev_aload_n 1 (q := 551) dW_law_550 rfl (by rfl) rfl ?_
  refine ev_aload_nS 0 (q := 552) dW_law_551 rfl (by rfl) rfl ?_
  refine ev_iload_n 3 (q := 553) dW_law_552 rfl (by rfl) rfl ?_
  refine ev_iconst (v := iI 1) (q := 554) dW_law_553 rfl rfl ?_
  refine zr_iadd (q := 555) dW_law_554 rfl ?_
  refine zr_sld (q := 556) dW_law_555 hn ⟨by omega, by omega⟩ rfl ?_
  refine ev_aload_nS 0 (q := 557) dW_law_556 rfl (by rfl) rfl ?_
  refine ev_iload_n 3 (q := 558) dW_law_557 rfl (by rfl) rfl ?_
  refine ev_iconst (v := iI 2) (q := 559) dW_law_558 rfl rfl ?_
  refine zr_iadd (q := 560) dW_law_559 rfl ?_
  refine zr_sld (q := 561) dW_law_560 hn ⟨by omega, by omega⟩ rfl ?_
  refine ev_aload_nS 0 (q := 562) dW_law_561 rfl (by rfl) rfl ?_
  refine ev_iload_n 3 (q := 563) dW_law_562 rfl (by rfl) rfl ?_
  refine ev_iconst (v := iI 3) (q := 564) dW_law_563 rfl rfl ?_
  refine zr_iadd (q := 565) dW_law_564 rfl ?_
  refine zr_sld (q := 566) dW_law_565 hn ⟨by omega, by omega⟩ rfl ?_
  refine ev_bool (q := 574) (zsx_rg _ _) dW_law_566 dW_law_569 dW_law_570 dW_law_573 rfl ?_
  refine ev_more (kc := kc) (ks := ks) (by omega) (by omega) ?_
  refine cv_V (As := [_, _, _]) (q := 577) dW_law_574 kW_59 at_H rfl rfl (Nat.le_of_ble_eq_true rfl) rfl rfl rfl (by decide) (sH_consent J.1 (zsx xs (i + 1)) (zsx xs (i + 2)) (zbo (zsx xs (i + 3))) (zsx_rg _ _) (zsx_rg _ _) (zbo_01 _)) ?_
  refine ev_aload_n 2 (q := 578) dW_law_577 rfl (by rfl) rfl ?_
  refine ev_aload_nS 0 (q := 579) dW_law_578 rfl (by rfl) rfl ?_
  refine ev_iload_n 3 (q := 580) dW_law_579 rfl (by rfl) rfl ?_
  refine ev_iconst (v := iI 1) (q := 581) dW_law_580 rfl rfl ?_
  refine zr_iadd (q := 582) dW_law_581 rfl ?_
  refine zr_sld (q := 583) dW_law_582 hn ⟨by omega, by omega⟩ rfl ?_
  refine ev_aload_nS 0 (q := 584) dW_law_583 rfl (by rfl) rfl ?_
  refine ev_iload_n 3 (q := 585) dW_law_584 rfl (by rfl) rfl ?_
  refine ev_iconst (v := iI 2) (q := 586) dW_law_585 rfl rfl ?_
  refine zr_iadd (q := 587) dW_law_586 rfl ?_
  refine zr_sld (q := 588) dW_law_587 hn ⟨by omega, by omega⟩ rfl ?_
  refine ev_aload_nS 0 (q := 589) dW_law_588 rfl (by rfl) rfl ?_
  refine ev_iload_n 3 (q := 590) dW_law_589 rfl (by rfl) rfl ?_
  refine ev_iconst (v := iI 3) (q := 591) dW_law_590 rfl rfl ?_
  refine zr_iadd (q := 592) dW_law_591 rfl ?_
  refine zr_sld (q := 593) dW_law_592 hn ⟨by omega, by omega⟩ rfl ?_
  refine ev_bool (q := 601) (zsx_rg _ _) dW_law_593 dW_law_596 dW_law_597 dW_law_600 rfl ?_
  refine cv_V (As := [_, _, _]) (q := 604) dW_law_601 kW_63 atR rfl rfl (Nat.le_of_ble_eq_true rfl) rfl rfl rfl (by decide) (sR_consent J.2.2.1.1.1 (zsx xs (i + 1)) (zsx xs (i + 2)) (zbo (zsx xs (i + 3))) (zsx_rg _ _) (zsx_rg _ _) (zbo_01 _)) ?_
  have e := P_consent (n := (zsx xs (i + 1))) (ot := (zsx xs (i + 2))) (on := (zbo (zsx xs (i + 3)))) J.2.2.1
  refine ev_icmp_eq (t := 902) (q := 607) dW_law_604 (by decide) rfl (fun _ => K g (cH_consent γ (zsx xs (i + 1)) (zsx xs (i + 2)) (zbo (zsx xs (i + 3)))).2 (rR_consent ρ (zsx xs (i + 1)) (zsx xs (i + 2)) (zbo (zsx xs (i + 3)))).2 ⟨(wH_consent J.1 (zsx xs (i + 1)) (zsx xs (i + 2)) (zbo (zsx xs (i + 3))) (zsx_rg _ _) (zsx_rg _ _) (zbo_01 _)), (zLog_fr J.2.1 (kH_consent (zsx xs (i + 1)) (zsx xs (i + 2)) (zbo (zsx xs (i + 3))) (by decide)) (kH_consent (zsx xs (i + 1)) (zsx xs (i + 2)) (zbo (zsx xs (i + 3))) (by decide))), e.2, by have q := J.2.2.2; rw [kH_consent (zsx xs (i + 1)) (zsx xs (i + 2)) (zbo (zsx xs (i + 3))) (by decide)]; omega⟩) (fun h => absurd (congrArg iI e.1) h)
theorem eW_11 {nm : String} {n : Nat} {xs : Nat → Int32} {g : z_Gl} {γ ρ : z_Sg} {i : Int} {kc ks : Nat} {Q : Option Value → List va_E → Prop} (hn : n ≤ 3072) (J : zJ g γ ρ i) (i0 : 0 ≤ i) (i1 : i + 6 ≤ n) (K : ∀ (g : z_Gl) (γ ρ : z_Sg), zJ g γ ρ (i + 6) → z_Ev (mW nm n xs) (11, 438) kc ks 902 [.retAddr 0, .ref 0, .ref 12, zi i] [] (zH g γ ρ) Q) : z_Ev (mW nm n xs) (11, 438) (5 + kc) (27 + ks) 609 [.retAddr 0, .ref 0, .ref 12, zi i] [] (zH g γ ρ) Q := by
  refine ev_aload_n 1 (q := 610) dW_law_609 rfl (by rfl) rfl ?_
  refine ev_aload_nS 0 (q := 611) dW_law_610 rfl (by rfl) rfl ?_
  refine ev_iload_n 3 (q := 612) dW_law_611 rfl (by rfl) rfl ?_
  refine ev_iconst (v := iI 1) (q := 613) dW_law_612 rfl rfl ?_
  refine zr_iadd (q := 614) dW_law_613 rfl ?_
  refine zr_sld (q := 615) dW_law_614 hn ⟨by omega, by omega⟩ rfl ?_
  refine ev_more (kc := kc) (ks := ks) (by omega) (by omega) ?_
  refine cv_V (As := [_]) (q := 618) dW_law_615 kW_64 at_H rfl rfl (Nat.le_of_ble_eq_true rfl) rfl rfl rfl (by decide) (sH_stage J.1 (zsx xs (i + 1)) (zsx_rg _ _)) ?_
  refine ev_aload_n 2 (q := 619) dW_law_618 rfl (by rfl) rfl ?_
  refine ev_aload_nS 0 (q := 620) dW_law_619 rfl (by rfl) rfl ?_
  refine ev_iload_n 3 (q := 621) dW_law_620 rfl (by rfl) rfl ?_
  refine ev_iconst (v := iI 1) (q := 622) dW_law_621 rfl rfl ?_
  refine zr_iadd (q := 623) dW_law_622 rfl ?_
  refine zr_sld (q := 624) dW_law_623 hn ⟨by omega, by omega⟩ rfl ?_
  refine cv_V (As := [_]) (q := 627) dW_law_624 kW_67 atR rfl rfl (Nat.le_of_ble_eq_true rfl) rfl rfl rfl (by decide) (sR_stage J.2.2.1.1.1 (zsx xs (i + 1)) (zsx_rg _ _)) ?_
  have e := Q_stage (t := (zsx xs (i + 1))) J.2.2.1
  refine ev_icmp_eq (t := 902) (q := 630) dW_law_627 (by decide) rfl (fun _ => K g γ ρ (zJ_next J)) (fun h => absurd (congrArg iI e) h)
theorem eW_12 {nm : String} {n : Nat} {xs : Nat → Int32} {g : z_Gl} {γ ρ : z_Sg} {i : Int} {kc ks : Nat} {Q : Option Value → List va_E → Prop} (hn : n ≤ 3072) (J : zJ g γ ρ i) (i0 : 0 ≤ i) (i1 : i + 6 ≤ n) (K : ∀ (g : z_Gl) (γ ρ : z_Sg), zJ g γ ρ (i + 6) → z_Ev (mW nm n xs) (11, 438) kc ks 902 [.retAddr 0, .ref 0, .ref 12, zi i] [] (zH g γ ρ) Q) : z_Ev (mW nm n xs) (11, 438) (5 + kc) (27 + ks) 632 [.retAddr 0, .ref 0, .ref 12, zi i] [] (zH g γ ρ) Q := by
  refine ev_aload_n 1 (q := 633) dW_law_632 rfl (by rfl) rfl ?_
  refine ev_aload_nS 0 (q := 634) dW_law_633 rfl (by rfl) rfl ?_
  refine ev_iload_n 3 (q := 635) dW_law_634 rfl (by rfl) rfl ?_
  refine ev_iconst (v := iI 1) (q := 636) dW_law_635 rfl rfl ?_
  refine zr_iadd (q := 637) dW_law_636 rfl ?_
  refine zr_sld (q := 638) dW_law_637 hn ⟨by omega, by omega⟩ rfl ?_
  refine ev_aload_nS 0 (q := 639) dW_law_638 rfl (by rfl) rfl ?_
  refine ev_iload_n 3 (q := 640) dW_law_639 rfl (by rfl) rfl ?_
  refine ev_iconst (v := iI 2) (q := 641) dW_law_640 rfl rfl ?_
  refine zr_iadd (q := 642) dW_law_641 rfl ?_
  refine zr_sld (q := 643) dW_law_642 hn ⟨by omega, by omega⟩ rfl ?_
  refine ev_bool (q := 651) (zsx_rg _ _) dW_law_643 dW_law_646 dW_law_647 dW_law_650 rfl ?_
  refine ev_more (kc := kc) (ks := ks) (by omega) (by omega) ?_
  refine cv_V (As := [_, _]) (q := 654) dW_law_651 kW_68 at_H rfl rfl (Nat.le_of_ble_eq_true rfl) rfl rfl rfl (by decide) (sH_signatures J.1 (zsx xs (i + 1)) (zbo (zsx xs (i + 2))) (zsx_rg _ _) (zbo_01 _)) ?_
  refine ev_aload_n 2 (q := 655) dW_law_654 rfl (by rfl) rfl ?_
  refine ev_aload_nS 0 (q := 656) dW_law_655 rfl (by rfl) rfl ?_
  refine ev_iload_n 3 (q := 657) dW_law_656 rfl (by rfl) rfl ?_
  refine ev_iconst (v := iI 1) (q := 658) dW_law_657 rfl rfl ?_
  refine zr_iadd (q := 659) dW_law_658 rfl ?_
  refine zr_sld (q := 660) dW_law_659 hn ⟨by omega, by omega⟩ rfl ?_
  refine ev_aload_nS 0 (q := 661) dW_law_660 rfl (by rfl) rfl ?_
  refine ev_iload_n 3 (q := 662) dW_law_661 rfl (by rfl) rfl ?_
  refine ev_iconst (v := iI 2) (q := 663) dW_law_662 rfl rfl ?_
  refine zr_iadd (q := 664) dW_law_663 rfl ?_
  refine zr_sld (q := 665) dW_law_664 hn ⟨by omega, by omega⟩ rfl ?_
  refine ev_bool (q := 673) (zsx_rg _ _) dW_law_665 dW_law_668 dW_law_669 dW_law_672 rfl ?_
  refine cv_V (As := [_, _]) (q := 676) dW_law_673 kW_71 atR rfl rfl (Nat.le_of_ble_eq_true rfl) rfl rfl rfl (by decide) (sR_signatures J.2.2.1.1.1 (zsx xs (i + 1)) (zbo (zsx xs (i + 2))) (zsx_rg _ _) (zbo_01 _)) ?_
  have e := Q_signatures (t := (zsx xs (i + 1))) (nd := (zbo (zsx xs (i + 2)))) J.2.2.1
  refine ev_icmp_eq (t := 902) (q := 679) dW_law_676 (by decide) rfl (fun _ => K g γ ρ (zJ_next J)) (fun h => absurd (congrArg iI e) h)
theorem eW_13 {nm : String} {n : Nat} {xs : Nat → Int32} {g : z_Gl} {γ ρ : z_Sg} {i : Int} {kc ks : Nat} {Q : Option Value → List va_E → Prop} (hn : n ≤ 3072) (J : zJ g γ ρ i) (i0 : 0 ≤ i) (i1 : i + 6 ≤ n) (K : ∀ (g : z_Gl) (γ ρ : z_Sg), zJ g γ ρ (i + 6) → z_Ev (mW nm n xs) (11, 438) kc ks 902 [.retAddr 0, .ref 0, .ref 12, zi i] [] (zH g γ ρ) Q) : z_Ev (mW nm n xs) (11, 438) (5 + kc) (27 + ks) 681 [.retAddr 0, .ref 0, .ref 12, zi i] [] (zH g γ ρ) Q := by
  refine ev_aload_n 1 (q := 682) dW_law_681 rfl (by rfl) rfl ?_
  refine ev_aload_nS 0 (q := 683) dW_law_682 rfl (by rfl) rfl ?_
  refine ev_iload_n 3 (q := 684) dW_law_683 rfl (by rfl) rfl ?_
  refine ev_iconst (v := iI 1) (q := 685) dW_law_684 rfl rfl ?_
  refine zr_iadd (q := 686) dW_law_685 rfl ?_
  refine zr_sld (q := 687) dW_law_686 hn ⟨by omega, by omega⟩ rfl ?_
  refine ev_more (kc := kc) (ks := ks) (by omega) (by omega) ?_
  refine cv_V (As := [_]) (q := 690) dW_law_687 kW_72 at_H rfl rfl (Nat.le_of_ble_eq_true rfl) rfl rfl rfl (by decide) (sH_verdict J.1 (zsx xs (i + 1)) (zsx_rg _ _)) ?_
  refine ev_aload_n 2 (q := 691) dW_law_690 rfl (by rfl) rfl ?_
  refine ev_aload_nS 0 (q := 692) dW_law_691 rfl (by rfl) rfl ?_
  refine ev_iload_n 3 (q := 693) dW_law_692 rfl (by rfl) rfl ?_
  refine ev_iconst (v := iI 1) (q := 694) dW_law_693 rfl rfl ?_
  refine zr_iadd (q := 695) dW_law_694 rfl ?_
  refine zr_sld (q := 696) dW_law_695 hn ⟨by omega, by omega⟩ rfl ?_
  refine cv_V (As := [_]) (q := 699) dW_law_696 kW_75 atR rfl rfl (Nat.le_of_ble_eq_true rfl) rfl rfl rfl (by decide) (sR_verdict J.2.2.1.1.1 (zsx xs (i + 1)) (zsx_rg _ _)) ?_
  have e := Q_verdict (t := (zsx xs (i + 1))) J.2.2.1
  refine ev_icmp_eq (t := 902) (q := 702) dW_law_699 (by decide) rfl (fun _ => K g γ ρ (zJ_next J)) (fun h => absurd (congrArg iI e) h)
theorem eW_14 {nm : String} {n : Nat} {xs : Nat → Int32} {g : z_Gl} {γ ρ : z_Sg} {i : Int} {kc ks : Nat} {Q : Option Value → List va_E → Prop} (hn : n ≤ 3072) (J : zJ g γ ρ i) (i0 : 0 ≤ i) (i1 : i + 6 ≤ n) (K : ∀ (g : z_Gl) (γ ρ : z_Sg), zJ g γ ρ (i + 6) → z_Ev (mW nm n xs) (11, 438) kc ks 902 [.retAddr 0, .ref 0, .ref 12, zi i] [] (zH g γ ρ) Q) : z_Ev (mW nm n xs) (11, 438) (5 + kc) (27 + ks) 704 [.retAddr 0, .ref 0, .ref 12, zi i] [] (zH g γ ρ) Q := by
  refine ev_aload_n 1 (q := 705) dW_law_704 rfl (by rfl) rfl ?_
  refine ev_aload_nS 0 (q := 706) dW_law_705 rfl (by rfl) rfl ?_
  refine ev_iload_n 3 (q := 707) dW_law_706 rfl (by rfl) rfl ?_
  refine ev_iconst (v := iI 1) (q := 708) dW_law_707 rfl rfl ?_
  refine zr_iadd (q := 709) dW_law_708 rfl ?_
  refine zr_sld (q := 710) dW_law_709 hn ⟨by omega, by omega⟩ rfl ?_
  refine ev_aload_nS 0 (q := 711) dW_law_710 rfl (by rfl) rfl ?_
  refine ev_iload_n 3 (q := 712) dW_law_711 rfl (by rfl) rfl ?_
  refine ev_iconst (v := iI 2) (q := 713) dW_law_712 rfl rfl ?_
  refine zr_iadd (q := 714) dW_law_713 rfl ?_
  refine zr_sld (q := 715) dW_law_714 hn ⟨by omega, by omega⟩ rfl ?_
  refine ev_more (kc := kc) (ks := ks) (by omega) (by omega) ?_
  refine cv_V (As := [_, _]) (q := 718) dW_law_715 kW_76 at_H rfl rfl (Nat.le_of_ble_eq_true rfl) rfl rfl rfl (by decide) (sH_spender J.1 (zsx xs (i + 1)) (zsx xs (i + 2)) (zsx_rg _ _) (zsx_rg _ _)) ?_
  refine ev_aload_n 2 (q := 719) dW_law_718 rfl (by rfl) rfl ?_
  refine ev_aload_nS 0 (q := 720) dW_law_719 rfl (by rfl) rfl ?_
  refine ev_iload_n 3 (q := 721) dW_law_720 rfl (by rfl) rfl ?_
  refine ev_iconst (v := iI 1) (q := 722) dW_law_721 rfl rfl ?_
  refine zr_iadd (q := 723) dW_law_722 rfl ?_
  refine zr_sld (q := 724) dW_law_723 hn ⟨by omega, by omega⟩ rfl ?_
  refine ev_aload_nS 0 (q := 725) dW_law_724 rfl (by rfl) rfl ?_
  refine ev_iload_n 3 (q := 726) dW_law_725 rfl (by rfl) rfl ?_
  refine ev_iconst (v := iI 2) (q := 727) dW_law_726 rfl rfl ?_
  refine zr_iadd (q := 728) dW_law_727 rfl ?_
  refine zr_sld (q := 729) dW_law_728 hn ⟨by omega, by omega⟩ rfl ?_
  refine cv_V (As := [_, _]) (q := 732) dW_law_729 kW_80 atR rfl rfl (Nat.le_of_ble_eq_true rfl) rfl rfl rfl (by decide) (sR_spender J.2.2.1.1.1 (zsx xs (i + 1)) (zsx xs (i + 2)) (zsx_rg _ _) (zsx_rg _ _)) ?_
  have e := Q_spender (u := (zsx xs (i + 1))) (o := (zsx xs (i + 2))) J.2.2.1
  refine ev_icmp_eq (t := 902) (q := 735) dW_law_732 (by decide) rfl (fun _ => K g γ ρ (zJ_next J)) (fun h => absurd (congrArg iI e) h)
theorem eW_15 {nm : String} {n : Nat} {xs : Nat → Int32} {g : z_Gl} {γ ρ : z_Sg} {i : Int} {kc ks : Nat} {Q : Option Value → List va_E → Prop} (hn : n ≤ 3072) (J : zJ g γ ρ i) (i0 : 0 ≤ i) (i1 : i + 6 ≤ n) (K : ∀ (g : z_Gl) (γ ρ : z_Sg), zJ g γ ρ (i + 6) → z_Ev (mW nm n xs) (11, 438) kc ks 902 [.retAddr 0, .ref 0, .ref 12, zi i] [] (zH g γ ρ) Q) : z_Ev (mW nm n xs) (11, 438) (5 + kc) (27 + ks) 737 [.retAddr 0, .ref 0, .ref 12, zi i] [] (zH g γ ρ) Q := by
  refine ev_aload_n 1 (q := 738) dW_law_737 rfl (by rfl) rfl ?_
  refine ev_aload_nS 0 (q := 739) dW_law_738 rfl (by rfl) rfl ?_
  refine ev_iload_n 3 (q := 740) dW_law_739 rfl (by rfl) rfl ?_
  refine ev_iconst (v := iI 1) (q := 741) dW_law_740 rfl rfl ?_
  refine zr_iadd (q := 742) dW_law_741 rfl ?_
  refine zr_sld (q := 743) dW_law_742 hn ⟨by omega, by omega⟩ rfl ?_
  refine ev_aload_nS 0 (q := 744) dW_law_743 rfl (by rfl) rfl ?_
  refine ev_iload_n 3 (q := 745) dW_law_744 rfl (by rfl) rfl ?_
  refine ev_iconst (v := iI 2) (q := 746) dW_law_745 rfl rfl ?_
  refine zr_iadd (q := 747) dW_law_746 rfl ?_
  refine zr_sld (q := 748) dW_law_747 hn ⟨by omega, by omega⟩ rfl ?_
  refine ev_more (kc := kc) (ks := ks) (by omega) (by omega) ?_
  refine cv_V (As := [_, _]) (q := 751) dW_law_748 kW_81 at_H rfl rfl (Nat.le_of_ble_eq_true rfl) rfl rfl rfl (by decide) (sH_standing J.1 (zsx xs (i + 1)) (zsx xs (i + 2)) (zsx_rg _ _) (zsx_rg _ _)) ?_
  refine ev_aload_n 2 (q := 752) dW_law_751 rfl (by rfl) rfl ?_
  refine ev_aload_nS 0 (q := 753) dW_law_752 rfl (by rfl) rfl ?_
  refine ev_iload_n 3 (q := 754) dW_law_753 rfl (by rfl) rfl ?_
  refine ev_iconst (v := iI 1) (q := 755) dW_law_754 rfl rfl ?_
  refine zr_iadd (q := 756) dW_law_755 rfl ?_
  refine zr_sld (q := 757) dW_law_756 hn ⟨by omega, by omega⟩ rfl ?_
  refine ev_aload_nS 0 (q := 758) dW_law_757 rfl (by rfl) rfl ?_
  refine ev_iload_n 3 (q := 759) dW_law_758 rfl (by rfl) rfl ?_
  refine ev_iconst (v := iI 2) (q := 760) dW_law_759 rfl rfl ?_
  refine zr_iadd (q := 761) dW_law_760 rfl ?_
  refine zr_sld (q := 762) dW_law_761 hn ⟨by omega, by omega⟩ rfl ?_
  refine cv_V (As := [_, _]) (q := 765) dW_law_762 kW_84 atR rfl rfl (Nat.le_of_ble_eq_true rfl) rfl rfl rfl (by decide) (sR_standing J.2.2.1.1.1 (zsx xs (i + 1)) (zsx xs (i + 2)) (zsx_rg _ _) (zsx_rg _ _)) ?_
  have e := Q_standing (n := (zsx xs (i + 1))) (t := (zsx xs (i + 2))) J.2.2.1
  refine ev_icmp_eq (t := 902) (q := 768) dW_law_765 (by decide) rfl (fun _ => K g γ ρ (zJ_next J)) (fun h => absurd (congrArg iI e) h)
theorem eW_16 {nm : String} {n : Nat} {xs : Nat → Int32} {g : z_Gl} {γ ρ : z_Sg} {i : Int} {kc ks : Nat} {Q : Option Value → List va_E → Prop} (hn : n ≤ 3072) (J : zJ g γ ρ i) (i0 : 0 ≤ i) (i1 : i + 6 ≤ n) (K : ∀ (g : z_Gl) (γ ρ : z_Sg), zJ g γ ρ (i + 6) → z_Ev (mW nm n xs) (11, 438) kc ks 902 [.retAddr 0, .ref 0, .ref 12, zi i] [] (zH g γ ρ) Q) : z_Ev (mW nm n xs) (11, 438) (5 + kc) (27 + ks) 770 [.retAddr 0, .ref 0, .ref 12, zi i] [] (zH g γ ρ) Q := by
  refine ev_aload_n 1 (q := 771) dW_law_770 rfl (by rfl) rfl ?_
  refine ev_aload_nS 0 (q := 772) dW_law_771 rfl (by rfl) rfl ?_
  refine ev_iload_n 3 (q := 773) dW_law_772 rfl (by rfl) rfl ?_
  refine ev_iconst (v := iI 1) (q := 774) dW_law_773 rfl rfl ?_
  refine zr_iadd (q := 775) dW_law_774 rfl ?_
  refine zr_sld (q := 776) dW_law_775 hn ⟨by omega, by omega⟩ rfl ?_
  refine ev_aload_nS 0 (q := 777) dW_law_776 rfl (by rfl) rfl ?_
  refine ev_iload_n 3 (q := 778) dW_law_777 rfl (by rfl) rfl ?_
  refine ev_iconst (v := iI 2) (q := 779) dW_law_778 rfl rfl ?_
  refine zr_iadd (q := 780) dW_law_779 rfl ?_
  refine zr_sld (q := 781) dW_law_780 hn ⟨by omega, by omega⟩ rfl ?_
  refine ev_more (kc := kc) (ks := ks) (by omega) (by omega) ?_
  refine cv_V (As := [_, _]) (q := 784) dW_law_781 kW_85 at_H rfl rfl (Nat.le_of_ble_eq_true rfl) rfl rfl rfl (by decide) (sH_vault J.1 (zsx xs (i + 1)) (zsx xs (i + 2)) (zsx_rg _ _) (zsx_rg _ _)) ?_
  refine ev_aload_n 2 (q := 785) dW_law_784 rfl (by rfl) rfl ?_
  refine ev_aload_nS 0 (q := 786) dW_law_785 rfl (by rfl) rfl ?_
  refine ev_iload_n 3 (q := 787) dW_law_786 rfl (by rfl) rfl ?_
  refine ev_iconst (v := iI 1) (q := 788) dW_law_787 rfl rfl ?_
  refine zr_iadd (q := 789) dW_law_788 rfl ?_
  refine zr_sld (q := 790) dW_law_789 hn ⟨by omega, by omega⟩ rfl ?_
  refine ev_aload_nS 0 (q := 791) dW_law_790 rfl (by rfl) rfl ?_
  refine ev_iload_n 3 (q := 792) dW_law_791 rfl (by rfl) rfl ?_
  refine ev_iconst (v := iI 2) (q := 793) dW_law_792 rfl rfl ?_
  refine zr_iadd (q := 794) dW_law_793 rfl ?_
  refine zr_sld (q := 795) dW_law_794 hn ⟨by omega, by omega⟩ rfl ?_
  refine cv_V (As := [_, _]) (q := 798) dW_law_795 kW_88 atR rfl rfl (Nat.le_of_ble_eq_true rfl) rfl rfl rfl (by decide) (sR_vault J.2.2.1.1.1 (zsx xs (i + 1)) (zsx xs (i + 2)) (zsx_rg _ _) (zsx_rg _ _)) ?_
  have e := Q_vault (n := (zsx xs (i + 1))) (p := (zsx xs (i + 2))) J.2.2.1
  refine ev_icmp_eq (t := 902) (q := 801) dW_law_798 (by decide) rfl (fun _ => K g γ ρ (zJ_next J)) (fun h => absurd (congrArg iI e) h)
theorem eW_17 {nm : String} {n : Nat} {xs : Nat → Int32} {g : z_Gl} {γ ρ : z_Sg} {i : Int} {kc ks : Nat} {Q : Option Value → List va_E → Prop} (hn : n ≤ 3072) (J : zJ g γ ρ i) (i0 : 0 ≤ i) (i1 : i + 6 ≤ n) (K : ∀ (g : z_Gl) (γ ρ : z_Sg), zJ g γ ρ (i + 6) → z_Ev (mW nm n xs) (11, 438) kc ks 902 [.retAddr 0, .ref 0, .ref 12, zi i] [] (zH g γ ρ) Q) : z_Ev (mW nm n xs) (11, 438) (5 + kc) (27 + ks) 803 [.retAddr 0, .ref 0, .ref 12, zi i] [] (zH g γ ρ) Q := by
  refine ev_aload_n 1 (q := 804) dW_law_803 rfl (by rfl) rfl ?_
  refine ev_aload_nS 0 (q := 805) dW_law_804 rfl (by rfl) rfl ?_
  refine ev_iload_n 3 (q := 806) dW_law_805 rfl (by rfl) rfl ?_
  refine ev_iconst (v := iI 1) (q := 807) dW_law_806 rfl rfl ?_
  refine zr_iadd (q := 808) dW_law_807 rfl ?_
  refine zr_sld (q := 809) dW_law_808 hn ⟨by omega, by omega⟩ rfl ?_
  refine ev_aload_nS 0 (q := 810) dW_law_809 rfl (by rfl) rfl ?_
  refine ev_iload_n 3 (q := 811) dW_law_810 rfl (by rfl) rfl ?_
  refine ev_iconst (v := iI 2) (q := 812) dW_law_811 rfl rfl ?_
  refine zr_iadd (q := 813) dW_law_812 rfl ?_
  refine zr_sld (q := 814) dW_law_813 hn ⟨by omega, by omega⟩ rfl ?_
  refine ev_more (kc := kc) (ks := ks) (by omega) (by omega) ?_
  refine cv_V (As := [_, _]) (q := 817) dW_law_814 kW_89 at_H rfl rfl (Nat.le_of_ble_eq_true rfl) rfl rfl rfl (by decide) (sH_balance J.1 (zsx xs (i + 1)) (zsx xs (i + 2)) (zsx_rg _ _) (zsx_rg _ _)) ?_
  refine ev_aload_n 2 (q := 818) dW_law_817 rfl (by rfl) rfl ?_
  refine ev_aload_nS 0 (q := 819) dW_law_818 rfl (by rfl) rfl ?_
  refine ev_iload_n 3 (q := 820) dW_law_819 rfl (by rfl) rfl ?_
  refine ev_iconst (v := iI 1) (q := 821) dW_law_820 rfl rfl ?_
  refine zr_iadd (q := 822) dW_law_821 rfl ?_
  refine zr_sld (q := 823) dW_law_822 hn ⟨by omega, by omega⟩ rfl ?_
  refine ev_aload_nS 0 (q := 824) dW_law_823 rfl (by rfl) rfl ?_
  refine ev_iload_n 3 (q := 825) dW_law_824 rfl (by rfl) rfl ?_
  refine ev_iconst (v := iI 2) (q := 826) dW_law_825 rfl rfl ?_
  refine zr_iadd (q := 827) dW_law_826 rfl ?_
  refine zr_sld (q := 828) dW_law_827 hn ⟨by omega, by omega⟩ rfl ?_
  refine cv_V (As := [_, _]) (q := 831) dW_law_828 kW_92 atR rfl rfl (Nat.le_of_ble_eq_true rfl) rfl rfl rfl (by decide) (sR_balance J.2.2.1.1.1 (zsx xs (i + 1)) (zsx xs (i + 2)) (zsx_rg _ _) (zsx_rg _ _)) ?_
  have e := Q_balance (n := (zsx xs (i + 1))) (iss := (zsx xs (i + 2))) J.2.2.1
  refine ev_icmp_eq (t := 902) (q := 834) dW_law_831 (by decide) rfl (fun _ => K g γ ρ (zJ_next J)) (fun h => absurd (congrArg iI e) h)
theorem eW_18 {nm : String} {n : Nat} {xs : Nat → Int32} {g : z_Gl} {γ ρ : z_Sg} {i : Int} {kc ks : Nat} {Q : Option Value → List va_E → Prop} (hn : n ≤ 3072) (J : zJ g γ ρ i) (i0 : 0 ≤ i) (i1 : i + 6 ≤ n) (K : ∀ (g : z_Gl) (γ ρ : z_Sg), zJ g γ ρ (i + 6) → z_Ev (mW nm n xs) (11, 438) kc ks 902 [.retAddr 0, .ref 0, .ref 12, zi i] [] (zH g γ ρ) Q) : z_Ev (mW nm n xs) (11, 438) (5 + kc) (27 + ks) 836 [.retAddr 0, .ref 0, .ref 12, zi i] [] (zH g γ ρ) Q := by
  refine ev_aload_n 1 (q := 837) dW_law_836 rfl (by rfl) rfl ?_
  refine ev_aload_nS 0 (q := 838) dW_law_837 rfl (by rfl) rfl ?_
  refine ev_iload_n 3 (q := 839) dW_law_838 rfl (by rfl) rfl ?_
  refine ev_iconst (v := iI 1) (q := 840) dW_law_839 rfl rfl ?_
  refine zr_iadd (q := 841) dW_law_840 rfl ?_
  refine zr_sld (q := 842) dW_law_841 hn ⟨by omega, by omega⟩ rfl ?_
  refine ev_more (kc := kc) (ks := ks) (by omega) (by omega) ?_
  refine cv_V (As := [_]) (q := 845) dW_law_842 kW_93 at_H rfl rfl (Nat.le_of_ble_eq_true rfl) rfl rfl rfl (by decide) (sH_fetched J.1 (zsx xs (i + 1)) (zsx_rg _ _)) ?_
  refine ev_aload_n 2 (q := 846) dW_law_845 rfl (by rfl) rfl ?_
  refine ev_aload_nS 0 (q := 847) dW_law_846 rfl (by rfl) rfl ?_
  refine ev_iload_n 3 (q := 848) dW_law_847 rfl (by rfl) rfl ?_
  refine ev_iconst (v := iI 1) (q := 849) dW_law_848 rfl rfl ?_
  refine zr_iadd (q := 850) dW_law_849 rfl ?_
  refine zr_sld (q := 851) dW_law_850 hn ⟨by omega, by omega⟩ rfl ?_
  refine cv_V (As := [_]) (q := 854) dW_law_851 kW_96 atR rfl rfl (Nat.le_of_ble_eq_true rfl) rfl rfl rfl (by decide) (sR_fetched J.2.2.1.1.1 (zsx xs (i + 1)) (zsx_rg _ _)) ?_
  have e := Q_fetched (n := (zsx xs (i + 1))) J.2.2.1
  refine ev_icmp_eq (t := 902) (q := 857) dW_law_854 (by decide) rfl (fun _ => K g γ ρ (zJ_next J)) (fun h => absurd (congrArg iI e) h)
theorem eW_19 {nm : String} {n : Nat} {xs : Nat → Int32} {g : z_Gl} {γ ρ : z_Sg} {i : Int} {kc ks : Nat} {Q : Option Value → List va_E → Prop} (hn : n ≤ 3072) (J : zJ g γ ρ i) (i0 : 0 ≤ i) (i1 : i + 6 ≤ n) (K : ∀ (g : z_Gl) (γ ρ : z_Sg), zJ g γ ρ (i + 6) → z_Ev (mW nm n xs) (11, 438) kc ks 902 [.retAddr 0, .ref 0, .ref 12, zi i] [] (zH g γ ρ) Q) : z_Ev (mW nm n xs) (11, 438) (5 + kc) (27 + ks) 859 [.retAddr 0, .ref 0, .ref 12, zi i] [] (zH g γ ρ) Q := by
  refine ev_aload_n 1 (q := 860) dW_law_859 rfl (by rfl) rfl ?_
  refine ev_aload_nS 0 (q := 861) dW_law_860 rfl (by rfl) rfl ?_
  refine ev_iload_n 3 (q := 862) dW_law_861 rfl (by rfl) rfl ?_
  refine ev_iconst (v := iI 1) (q := 863) dW_law_862 rfl rfl ?_
  refine zr_iadd (q := 864) dW_law_863 rfl ?_
  refine zr_sld (q := 865) dW_law_864 hn ⟨by omega, by omega⟩ rfl ?_
  refine ev_aload_nS 0 (q := 866) dW_law_865 rfl (by rfl) rfl ?_
  refine ev_iload_n 3 (q := 867) dW_law_866 rfl (by rfl) rfl ?_
  refine ev_iconst (v := iI 2) (q := 868) dW_law_867 rfl rfl ?_
  refine zr_iadd (q := 869) dW_law_868 rfl ?_
  refine zr_sld (q := 870) dW_law_869 hn ⟨by omega, by omega⟩ rfl ?_
  refine ev_aload_nS 0 (q := 871) dW_law_870 rfl (by rfl) rfl ?_
  refine ev_iload_n 3 (q := 872) dW_law_871 rfl (by rfl) rfl ?_
  refine ev_iconst (v := iI 3) (q := 873) dW_law_872 rfl rfl ?_
  refine zr_iadd (q := 874) dW_law_873 rfl ?_
  refine zr_sld (q := 875) dW_law_874 hn ⟨by omega, by omega⟩ rfl ?_
  refine ev_more (kc := kc) (ks := ks) (by omega) (by omega) ?_
  refine cv_V (As := [_, _, _]) (q := 878) dW_law_875 kW_97 at_H rfl rfl (Nat.le_of_ble_eq_true rfl) rfl rfl rfl (by decide) (sH_tree J.1 (zsx xs (i + 1)) (zsx xs (i + 2)) (zsx xs (i + 3)) (zsx_rg _ _) (zsx_rg _ _) (zsx_rg _ _)) ?_
  refine ev_aload_n 2 (q := 879) dW_law_878 rfl (by rfl) rfl ?_
  refine ev_aload_nS 0 (q := 880) dW_law_879 rfl (by rfl) rfl ?_
  refine ev_iload_n 3 (q := 881) dW_law_880 rfl (by rfl) rfl ?_
  refine ev_iconst (v := iI 1) (q := 882) dW_law_881 rfl rfl ?_
  refine zr_iadd (q := 883) dW_law_882 rfl ?_
  refine zr_sld (q := 884) dW_law_883 hn ⟨by omega, by omega⟩ rfl ?_
  refine ev_aload_nS 0 (q := 885) dW_law_884 rfl (by rfl) rfl ?_
  refine ev_iload_n 3 (q := 886) dW_law_885 rfl (by rfl) rfl ?_
  refine ev_iconst (v := iI 2) (q := 887) dW_law_886 rfl rfl ?_
  refine zr_iadd (q := 888) dW_law_887 rfl ?_
  refine zr_sld (q := 889) dW_law_888 hn ⟨by omega, by omega⟩ rfl ?_
  refine ev_aload_nS 0 (q := 890) dW_law_889 rfl (by rfl) rfl ?_
  refine ev_iload_n 3 (q := 891) dW_law_890 rfl (by rfl) rfl ?_
  refine ev_iconst (v := iI 3) (q := 892) dW_law_891 rfl rfl ?_
  refine zr_iadd (q := 893) dW_law_892 rfl ?_
  refine zr_sld (q := 894) dW_law_893 hn ⟨by omega, by omega⟩ rfl ?_
  refine cv_V (As := [_, _, _]) (q := 897) dW_law_894 kW_100 atR rfl rfl (Nat.le_of_ble_eq_true rfl) rfl rfl rfl (by decide) (sR_tree J.2.2.1.1.1 (zsx xs (i + 1)) (zsx xs (i + 2)) (zsx xs (i + 3)) (zsx_rg _ _) (zsx_rg _ _) (zsx_rg _ _)) ?_
  have e := P_tree (t := (zsx xs (i + 1))) (h := (zsx xs (i + 2))) (i := (zsx xs (i + 3))) J.2.2.1 J.1 (zsx_rg _ _) (zsx_rg _ _) (zsx_rg _ _)
  refine ev_icmp_eq (t := 902) (q := 900) dW_law_897 (by decide) rfl (fun _ => K g (cH_tree γ (zsx xs (i + 1)) (zsx xs (i + 2)) (zsx xs (i + 3))).2 (rR_tree ρ (zsx xs (i + 1)) (zsx xs (i + 2)) (zsx xs (i + 3))).2 ⟨(wH_tree J.1 (zsx xs (i + 1)) (zsx xs (i + 2)) (zsx xs (i + 3)) (zsx_rg _ _) (zsx_rg _ _) (zsx_rg _ _)), (zLog_fr J.2.1 (kH_tree (zsx xs (i + 1)) (zsx xs (i + 2)) (zsx xs (i + 3)) (by decide)) (kH_tree (zsx xs (i + 1)) (zsx xs (i + 2)) (zsx xs (i + 3)) (by decide))), e.2, by have q := J.2.2.2; rw [kH_tree (zsx xs (i + 1)) (zsx xs (i + 2)) (zsx xs (i + 3)) (by decide)]; omega⟩) (fun h => absurd (congrArg iI e.1) h)
theorem eW_loop {nm : String} {n : Nat} {xs : Nat → Int32} (hn : n ≤ 3072) : ∀ (j : Nat) (i : Int) (g : z_Gl) (γ ρ : z_Sg), 0 ≤ i → i ≤ n → (n : Int) - 6 < i + 6 * j → zJ g γ ρ i → z_Ev (mW nm n xs) (11, 438) (5 * j) (27 * j) 18 [.retAddr 0, .ref 0, .ref 12, zi i] [] (zH g γ ρ) (fun r _ => r = some (zi 1)) := by
  intro j
  induction j with
  | zero =>
    intro i g γ ρ i0 i1 i2 J
    refine ev_iload_n 3 (q := 19) dW_law_18 rfl (by rfl) rfl ?_
    refine ev_aload_nS 0 (q := 20) dW_law_19 rfl (by rfl) rfl ?_
    refine zr_slen (q := 21) dW_law_20 rfl ?_
    refine ev_bipush (v := iI 6) (q := 23) dW_law_21 (by decide) rfl ?_
    refine zr_isub (q := 24) dW_law_23 rfl ?_
    refine zr_icmp_gt (t := 908) (q := 27) dW_law_24 (by decide) rfl ⟨by omega, by omega⟩ ⟨by omega, by omega⟩ (fun h => ?_) (fun h => ?_)
    · refine ev_iconst (v := iI 1) (q := 909) dW_law_908 rfl rfl ?_
      exact zr_zret (x := 1) dW_law_909 rfl (Or.inr rfl) rfl
    · omega
  | succ j ih =>
    intro i g γ ρ i0 i1 i2 J
    rw [show 5 * (j + 1) = 5 + 5 * j by omega, show 27 * (j + 1) = 27 + 27 * j by omega]
    refine ev_iload_n 3 (q := 19) dW_law_18 rfl (by rfl) rfl ?_
    refine ev_aload_nS 0 (q := 20) dW_law_19 rfl (by rfl) rfl ?_
    refine zr_slen (q := 21) dW_law_20 rfl ?_
    refine ev_bipush (v := iI 6) (q := 23) dW_law_21 (by decide) rfl ?_
    refine zr_isub (q := 24) dW_law_23 rfl ?_
    refine zr_icmp_gt (t := 908) (q := 27) dW_law_24 (by decide) rfl ⟨by omega, by omega⟩ ⟨by omega, by omega⟩ (fun h => ?_) (fun h => ?_)
    · refine ev_iconst (v := iI 1) (q := 909) dW_law_908 rfl rfl ?_
      exact zr_zret (x := 1) dW_law_909 rfl (Or.inr rfl) rfl
    have K : ∀ (g : z_Gl) (γ ρ : z_Sg), zJ g γ ρ (i + 6) → z_Ev (mW nm n xs) (11, 438) (5 * j) (27 * j) 902 [.retAddr 0, .ref 0, .ref 12, zi i] [] (zH g γ ρ) (fun r _ => r = some (zi 1)) := by
      intro g γ ρ J'
      refine zr_iinc (q := 905) dW_law_902 (by rfl) (show 3 < 4 by decide) rfl rfl ?_
      refine ev_goto (t := 18) (q := 18) dW_law_905 (by decide) rfl ?_
      exact ih (i + 6) g γ ρ (by omega) (by omega) (by omega) J'
    have i3 : i + 6 ≤ n := by omega
    refine ev_aload_nS 0 (q := 28) dW_law_27 rfl (by rfl) rfl ?_
    refine ev_iload_n 3 (q := 29) dW_law_28 rfl (by rfl) rfl ?_
    refine zr_sld (q := 30) dW_law_29 hn ⟨by omega, by omega⟩ rfl ?_
    refine ev_bipush (v := iI 31) (q := 32) dW_law_30 (by decide) rfl ?_
    refine zr_iand (q := 33) dW_law_32 rfl ?_
    have gz := zand_nn (a := 31) (b := zsx xs i) (by omega)
    rw [zand_comm] at gz
    generalize zand (zsx xs i) 31 = w at gz ⊢
    by_cases c : w ≤ 19
    · have hc : w = 0 ∨ w = 1 ∨ w = 2 ∨ w = 3 ∨ w = 4 ∨ w = 5 ∨ w = 6 ∨ w = 7 ∨ w = 8 ∨ w = 9 ∨ w = 10 ∨ w = 11 ∨ w = 12 ∨ w = 13 ∨ w = 14 ∨ w = 15 ∨ w = 16 ∨ w = 17 ∨ w = 18 ∨ w = 19 := by omega
      rcases hc with rfl | rfl | rfl | rfl | rfl | rfl | rfl | rfl | rfl | rfl | rfl | rfl | rfl | rfl | rfl | rfl | rfl | rfl | rfl | rfl
      · exact ev_tableIn (x := iI 0) (off := 95) (t := 128) (q := 128) dW_law_33 (by decide) (by decide) (by decide) (by decide) rfl (eW_0 hn J i0 i3 K)
      · exact ev_tableIn (x := iI 1) (off := 148) (t := 181) (q := 181) dW_law_33 (by decide) (by decide) (by decide) (by decide) rfl (eW_1 hn J i0 i3 K)
      · exact ev_tableIn (x := iI 2) (off := 191) (t := 224) (q := 224) dW_law_33 (by decide) (by decide) (by decide) (by decide) rfl (eW_2 hn J i0 i3 K)
      · exact ev_tableIn (x := iI 3) (off := 254) (t := 287) (q := 287) dW_law_33 (by decide) (by decide) (by decide) (by decide) rfl (eW_3 hn J i0 i3 K)
      · exact ev_tableIn (x := iI 4) (off := 297) (t := 330) (q := 330) dW_law_33 (by decide) (by decide) (by decide) (by decide) rfl (eW_4 hn J i0 i3 K)
      · exact ev_tableIn (x := iI 5) (off := 350) (t := 383) (q := 383) dW_law_33 (by decide) (by decide) (by decide) (by decide) rfl (eW_5 hn J i0 i3 K)
      · exact ev_tableIn (x := iI 6) (off := 373) (t := 406) (q := 406) dW_law_33 (by decide) (by decide) (by decide) (by decide) rfl (eW_6 hn J i0 i3 K)
      · exact ev_tableIn (x := iI 7) (off := 422) (t := 455) (q := 455) dW_law_33 (by decide) (by decide) (by decide) (by decide) rfl (eW_7 hn J i0 i3 K)
      · exact ev_tableIn (x := iI 8) (off := 471) (t := 504) (q := 504) dW_law_33 (by decide) (by decide) (by decide) (by decide) rfl (eW_8 hn J i0 i3 K)
      · exact ev_tableIn (x := iI 9) (off := 494) (t := 527) (q := 527) dW_law_33 (by decide) (by decide) (by decide) (by decide) rfl (eW_9 hn J i0 i3 K)
      · exact ev_tableIn (x := iI 10) (off := 517) (t := 550) (q := 550) dW_law_33 (by decide) (by decide) (by decide) (by decide) rfl (eW_10 hn J i0 i3 K)
      · exact ev_tableIn (x := iI 11) (off := 576) (t := 609) (q := 609) dW_law_33 (by decide) (by decide) (by decide) (by decide) rfl (eW_11 hn J i0 i3 K)
      · exact ev_tableIn (x := iI 12) (off := 599) (t := 632) (q := 632) dW_law_33 (by decide) (by decide) (by decide) (by decide) rfl (eW_12 hn J i0 i3 K)
      · exact ev_tableIn (x := iI 13) (off := 648) (t := 681) (q := 681) dW_law_33 (by decide) (by decide) (by decide) (by decide) rfl (eW_13 hn J i0 i3 K)
      · exact ev_tableIn (x := iI 14) (off := 671) (t := 704) (q := 704) dW_law_33 (by decide) (by decide) (by decide) (by decide) rfl (eW_14 hn J i0 i3 K)
      · exact ev_tableIn (x := iI 15) (off := 704) (t := 737) (q := 737) dW_law_33 (by decide) (by decide) (by decide) (by decide) rfl (eW_15 hn J i0 i3 K)
      · exact ev_tableIn (x := iI 16) (off := 737) (t := 770) (q := 770) dW_law_33 (by decide) (by decide) (by decide) (by decide) rfl (eW_16 hn J i0 i3 K)
      · exact ev_tableIn (x := iI 17) (off := 770) (t := 803) (q := 803) dW_law_33 (by decide) (by decide) (by decide) (by decide) rfl (eW_17 hn J i0 i3 K)
      · exact ev_tableIn (x := iI 18) (off := 803) (t := 836) (q := 836) dW_law_33 (by decide) (by decide) (by decide) (by decide) rfl (eW_18 hn J i0 i3 K)
      · exact ev_tableIn (x := iI 19) (off := 826) (t := 859) (q := 859) dW_law_33 (by decide) (by decide) (by decide) (by decide) rfl (eW_19 hn J i0 i3 K)
    · refine ev_tableOut (t := 902) (q := 902) dW_law_33 (Or.inr ?_) (by decide) rfl (ev_more (by omega) (by omega) (K g γ ρ (zJ_next J)))
      rw [iI_toInt ⟨by omega, by omega⟩]
      omega
theorem eW_start {nm : String} {n : Nat} {xs : Nat → Int32} (hn : n ≤ 3072) : z_Ev (mW nm n xs) (11, 438) 2637 15569 0 [.retAddr 0, .float 0, .float 0, .float 0] [] [] (fun r _ => r = some (zi 1)) := by
  refine ev_new (kc := 2636) (ks := 15561) (n := 8) (q := 3) dW_law_0 nW_7 rfl ?_
  refine ev_dup (q := 4) dW_law_3 rfl rfl ?_
  refine cv_I (mc := 11) (ms := 438) (kc := 2625) (ks := 15123) (k := 0) (As := []) (M1 := fixC c_0 g_0.1) (q := 7) dW_law_4 kW_9 rfl (Nat.le_of_ble_eq_true rfl) rfl rfl rfl rfl rfl (by decide) sH_init ?_
  refine ev_astore_n 1 (q := 8) dW_law_7 rfl (show 1 < 4 by decide) rfl rfl ?_
  refine ev_new (kc := 2624) (ks := 15096) (n := 27) (q := 11) dW_law_8 nW_10 rfl ?_
  refine ev_dup (q := 12) dW_law_11 rfl rfl ?_
  refine cv_I (mc := 24) (ms := 1196) (kc := 2600) (ks := 13900) (k := 12) (As := []) (M1 := zH g_0 c_0 (fun _ _ => 0)) (q := 15) dW_law_12 kW_12 rfl (Nat.le_of_ble_eq_true rfl) rfl rfl rfl rfl rfl (by decide) sR_init ?_
  refine ev_astore_n 2 (q := 16) dW_law_15 rfl (show 2 < 4 by decide) rfl rfl ?_
  refine ev_iconst (v := iI 0) (q := 17) dW_law_16 rfl rfl ?_
  refine ev_istore_n 3 (q := 18) dW_law_17 rfl (show 3 < 4 by decide) rfl rfl ?_
  exact ev_more (kc := 5 * 512) (ks := 27 * 512) (by decide) (by decide) (eW_loop hn 512 0 g_0 c_0 (fun _ _ => 0) (by omega) (by omega) (by omega) ⟨zC_0.1, zC_0.2, K_0, by show 6 * (0 : Int) ≤ 1000 * 0; decide⟩)
