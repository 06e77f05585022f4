/-! The law's cases: both answer alike -/
theorem zc_add {G : CX} {Q : State → Prop} {cl sl b L i : Nat} {xs : Nat → Int32} {D : va_G} {cI cZ cL cE : ClassId} {ax am : Nat → Nat} {w n c : Nat} {S : SS} {Mx Mr : MM} (Z : ZF G b L xs) (C : ZC G D cI cZ cL cE ax am w) (hcs : cl ≤ 600000 ∧ sl ≤ 7302250) (hi : i + 3 < L) (h : IZ w n S Mx Mr c) (hc : c + 120 < 2 ^ 31)
    (K : ∀ n' S' Mx' Mr' c', IZ w n' S' Mx' Mr' c' → c' ≤ c + 120 → wh G (AL G) 4 Q (PZ D cI cZ cL cE ax am w Mx' Mr') cl sl 559 (zl b (ax 0) (am 0) i) []) : wh G (AL G) 4 Q (PZ D cI cZ cL cE ax am w Mx Mr) cl sl 132 (zl b (ax 0) (am 0) i) [] := by
  obtain ⟨hX, hM, hI⟩ := h
  have hF := hI.1.1
  have hw := hF.w4
  have hn := hF.le
  have F := Z.1
  have hR := Z.2.1
  refine wh_aload_n F 2 dZ_law_132 rfl rfl ?_
  refine z_arg (j := 1) Z (by omega) dZ_law_133 dZ_law_134 dZ_law_135 dZ_law_136 dZ_law_137 (by decide) ?_
  refine z_arg (j := 2) Z (by omega) dZ_law_138 dZ_law_139 dZ_law_140 dZ_law_141 dZ_law_142 (by decide) ?_
  refine z_arg (j := 3) Z (by omega) dZ_law_143 dZ_law_144 dZ_law_145 dZ_law_146 dZ_law_147 (by decide) ?_
  refine z_callX (As := [.int (xs (i + 1)), .int (xs (i + 2)), .int (xs (i + 3))]) (rest := []) Z C hcs (kE_add C.2.2.1 Mx hX hF (xs (i + 1)) (xs (i + 2)) (xs (i + 3))) (cw_V F.2.2.2.2 lmZ_21 cbE_add (rm := rmE_add) rfl rfl (by rw [hR]; exact ⟨Nat.le_of_ble_eq_true rfl, Nat.le_of_ble_eq_true rfl⟩)) rfl rfl (Nat.le_of_ble_eq_true rfl) dZ_law_148 (fun r Mx' hx => ?_)
  refine wh_aload_n F 3 dZ_law_151 rfl rfl ?_
  refine z_arg (j := 1) Z (by omega) dZ_law_152 dZ_law_153 dZ_law_154 dZ_law_155 dZ_law_156 (by decide) ?_
  refine z_arg (j := 2) Z (by omega) dZ_law_157 dZ_law_158 dZ_law_159 dZ_law_160 dZ_law_161 (by decide) ?_
  refine z_arg (j := 3) Z (by omega) dZ_law_162 dZ_law_163 dZ_law_164 dZ_law_165 dZ_law_166 (by decide) ?_
  refine z_callM (As := [.int (xs (i + 1)), .int (xs (i + 2)), .int (xs (i + 3))]) (rest := [.int r]) Z C hcs (kR_add C.2.2.2.1 Mr hM hF.g hI.1.2.2.2 (xs (i + 1)) (xs (i + 2)) (xs (i + 3))) (cw_V F.2.2.2.2 lmZ_25 cbR_add (rm := rmR_add) rfl rfl (by rw [hR]; exact ⟨Nat.le_of_ble_eq_true rfl, Nat.le_of_ble_eq_true rfl⟩)) rfl rfl (Nat.le_of_ble_eq_true rfl) dZ_law_167 (fun r2 Mr' hm => ?_)
  refine wh_icmp_eq (tgt := 559) F dZ_law_170 (by decide) (fun _ => ?_) (fun q => absurd (hx.1.trans hm.1.symm) q)
  exact K _ _ Mx' Mr' c ⟨hx.2, hm.2, IA_add hI (xs (i + 1)) (xs (i + 2)) (xs (i + 3))⟩ (by omega)
theorem zc_edge {G : CX} {Q : State → Prop} {cl sl b L i : Nat} {xs : Nat → Int32} {D : va_G} {cI cZ cL cE : ClassId} {ax am : Nat → Nat} {w n c : Nat} {S : SS} {Mx Mr : MM} (Z : ZF G b L xs) (C : ZC G D cI cZ cL cE ax am w) (hcs : cl ≤ 600000 ∧ sl ≤ 7302250) (hi : i + 3 < L) (h : IZ w n S Mx Mr c) (hc : c + 120 < 2 ^ 31)
    (K : ∀ n' S' Mx' Mr' c', IZ w n' S' Mx' Mr' c' → c' ≤ c + 120 → wh G (AL G) 4 Q (PZ D cI cZ cL cE ax am w Mx' Mr') cl sl 559 (zl b (ax 0) (am 0) i) []) : wh G (AL G) 4 Q (PZ D cI cZ cL cE ax am w Mx Mr) cl sl 175 (zl b (ax 0) (am 0) i) [] := by
  obtain ⟨hX, hM, hI⟩ := h
  have hF := hI.1.1
  have hw := hF.w4
  have hn := hF.le
  have F := Z.1
  have hR := Z.2.1
  refine wh_aload_n F 2 dZ_law_175 rfl rfl ?_
  refine z_arg (j := 1) Z (by omega) dZ_law_176 dZ_law_177 dZ_law_178 dZ_law_179 dZ_law_180 (by decide) ?_
  refine z_arg (j := 2) Z (by omega) dZ_law_181 dZ_law_182 dZ_law_183 dZ_law_184 dZ_law_185 (by decide) ?_
  refine z_callX (As := [.int (xs (i + 1)), .int (xs (i + 2))]) (rest := []) Z C hcs (kE_edge C.2.2.1 Mx hX hF (xs (i + 1)) (xs (i + 2))) (cw_V F.2.2.2.2 lmZ_26 cbE_edge (rm := rmE_edge) rfl rfl (by rw [hR]; exact ⟨Nat.le_of_ble_eq_true rfl, Nat.le_of_ble_eq_true rfl⟩)) rfl rfl (Nat.le_of_ble_eq_true rfl) dZ_law_186 (fun r Mx' hx => ?_)
  refine wh_aload_n F 3 dZ_law_189 rfl rfl ?_
  refine z_arg (j := 1) Z (by omega) dZ_law_190 dZ_law_191 dZ_law_192 dZ_law_193 dZ_law_194 (by decide) ?_
  refine z_arg (j := 2) Z (by omega) dZ_law_195 dZ_law_196 dZ_law_197 dZ_law_198 dZ_law_199 (by decide) ?_
  refine z_callM (As := [.int (xs (i + 1)), .int (xs (i + 2))]) (rest := [.int r]) Z C hcs (kR_edge C.2.2.2.1 Mr hM hF.g (xs (i + 1)) (xs (i + 2))) (cw_V F.2.2.2.2 lmZ_30 cbR_edge (rm := rmR_edge) rfl rfl (by rw [hR]; exact ⟨Nat.le_of_ble_eq_true rfl, Nat.le_of_ble_eq_true rfl⟩)) rfl rfl (Nat.le_of_ble_eq_true rfl) dZ_law_200 (fun r2 Mr' hm => ?_)
  refine wh_icmp_eq (tgt := 559) F dZ_law_203 (by decide) (fun _ => ?_) (fun q => absurd (hx.1.trans hm.1.symm) q)
  exact K _ _ Mx' Mr' c ⟨hx.2, hm.2, IA_edge hI (xs (i + 1)) (xs (i + 2))⟩ (by omega)
theorem zc_capacity {G : CX} {Q : State → Prop} {cl sl b L i : Nat} {xs : Nat → Int32} {D : va_G} {cI cZ cL cE : ClassId} {ax am : Nat → Nat} {w n c : Nat} {S : SS} {Mx Mr : MM} (Z : ZF G b L xs) (C : ZC G D cI cZ cL cE ax am w) (hcs : cl ≤ 600000 ∧ sl ≤ 7302250) (hi : i + 3 < L) (h : IZ w n S Mx Mr c) (hc : c + 120 < 2 ^ 31)
    (K : ∀ n' S' Mx' Mr' c', IZ w n' S' Mx' Mr' c' → c' ≤ c + 120 → wh G (AL G) 4 Q (PZ D cI cZ cL cE ax am w Mx' Mr') cl sl 559 (zl b (ax 0) (am 0) i) []) : wh G (AL G) 4 Q (PZ D cI cZ cL cE ax am w Mx Mr) cl sl 208 (zl b (ax 0) (am 0) i) [] := by
  obtain ⟨hX, hM, hI⟩ := h
  have hF := hI.1.1
  have hw := hF.w4
  have hn := hF.le
  have F := Z.1
  have hR := Z.2.1
  refine wh_aload_n F 2 dZ_law_208 rfl rfl ?_
  refine z_arg (j := 1) Z (by omega) dZ_law_209 dZ_law_210 dZ_law_211 dZ_law_212 dZ_law_213 (by decide) ?_
  refine z_arg (j := 2) Z (by omega) dZ_law_214 dZ_law_215 dZ_law_216 dZ_law_217 dZ_law_218 (by decide) ?_
  refine z_callX (As := [.int (xs (i + 1)), .int (xs (i + 2))]) (rest := []) Z C hcs (kE_capacity C.2.2.1 hw Mx hX (xs (i + 1)) (xs (i + 2))) (cw_V F.2.2.2.2 lmZ_31 cbE_capacity (rm := rmE_capacity) rfl rfl (by rw [hR]; exact ⟨Nat.le_of_ble_eq_true rfl, Nat.le_of_ble_eq_true rfl⟩)) rfl rfl (Nat.le_of_ble_eq_true rfl) dZ_law_219 (fun r Mx' hx => ?_)
  refine wh_aload_n F 3 dZ_law_222 rfl rfl ?_
  refine z_arg (j := 1) Z (by omega) dZ_law_223 dZ_law_224 dZ_law_225 dZ_law_226 dZ_law_227 (by decide) ?_
  refine z_arg (j := 2) Z (by omega) dZ_law_228 dZ_law_229 dZ_law_230 dZ_law_231 dZ_law_232 (by decide) ?_
  refine z_callM (As := [.int (xs (i + 1)), .int (xs (i + 2))]) (rest := [.int r]) Z C hcs (kR_capacity C.2.2.2.1 Mr hM (xs (i + 1)) (xs (i + 2))) (cw_V F.2.2.2.2 lmZ_34 cbR_capacity (rm := rmR_capacity) rfl rfl (by rw [hR]; exact ⟨Nat.le_of_ble_eq_true rfl, Nat.le_of_ble_eq_true rfl⟩)) rfl rfl (Nat.le_of_ble_eq_true rfl) dZ_law_233 (fun r2 Mr' hm => ?_)
  refine wh_icmp_eq (tgt := 559) F dZ_law_236 (by decide) (fun _ => ?_) (fun q => absurd (hx.1.trans hm.1.symm) q)
  exact K _ _ Mx' Mr' c ⟨hx.2, hm.2, IA_cap hI (xs (i + 1)) (xs (i + 2))⟩ (by omega)
theorem zc_check {G : CX} {Q : State → Prop} {cl sl b L i : Nat} {xs : Nat → Int32} {D : va_G} {cI cZ cL cE : ClassId} {ax am : Nat → Nat} {w n c : Nat} {S : SS} {Mx Mr : MM} (Z : ZF G b L xs) (C : ZC G D cI cZ cL cE ax am w) (hcs : cl ≤ 600000 ∧ sl ≤ 7302250) (hi : i + 3 < L) (h : IZ w n S Mx Mr c) (hc : c + 120 < 2 ^ 31)
    (K : ∀ n' S' Mx' Mr' c', IZ w n' S' Mx' Mr' c' → c' ≤ c + 120 → wh G (AL G) 4 Q (PZ D cI cZ cL cE ax am w Mx' Mr') cl sl 559 (zl b (ax 0) (am 0) i) []) : wh G (AL G) 4 Q (PZ D cI cZ cL cE ax am w Mx Mr) cl sl 241 (zl b (ax 0) (am 0) i) [] := by
  obtain ⟨hX, hM, hI⟩ := h
  have hF := hI.1.1
  have hw := hF.w4
  have hn := hF.le
  have F := Z.1
  have hR := Z.2.1
  refine wh_aload_n F 2 dZ_law_241 rfl rfl ?_
  refine z_callX (As := []) (rest := []) Z C hcs (kE_check C.2.2.1 Mx hX hF ) (cw_V F.2.2.2.2 lmZ_35 cbE_check (rm := rmE_check) rfl rfl (by rw [hR]; exact ⟨Nat.le_of_ble_eq_true rfl, Nat.le_of_ble_eq_true rfl⟩)) rfl rfl (Nat.le_of_ble_eq_true rfl) dZ_law_242 (fun r Mx' hx => ?_)
  refine wh_aload_n F 3 dZ_law_245 rfl rfl ?_
  refine z_callM (As := []) (rest := [.int r]) Z C hcs (kR_check C.2.2.2.1 Mr hM.g hF.g ) (cw_V F.2.2.2.2 lmZ_39 cbR_check (rm := rmR_check) rfl rfl (by rw [hR]; exact ⟨Nat.le_of_ble_eq_true rfl, Nat.le_of_ble_eq_true rfl⟩)) rfl rfl (Nat.le_of_ble_eq_true rfl) dZ_law_246 (fun r2 Mr' hm => ?_)
  refine wh_icmp_eq (tgt := 559) F dZ_law_249 (by decide) (fun _ => ?_) (fun q => absurd (ckR_one (ckR_eq (R := Mx) (R' := S.1) (fun k _ hk => (hX.1 k (by omega)).symm) hn hx.2) hm.2) q)
  exact K n S Mx' Mr' c ⟨by rw [hx.1]; exact hX, RM_13 hM hm.1, hI⟩ (by omega)
theorem zc_start {G : CX} {Q : State → Prop} {cl sl b L i : Nat} {xs : Nat → Int32} {D : va_G} {cI cZ cL cE : ClassId} {ax am : Nat → Nat} {w n c : Nat} {S : SS} {Mx Mr : MM} (Z : ZF G b L xs) (C : ZC G D cI cZ cL cE ax am w) (hcs : cl ≤ 600000 ∧ sl ≤ 7302250) (hi : i + 3 < L) (h : IZ w n S Mx Mr c) (hc : c + 120 < 2 ^ 31)
    (K : ∀ n' S' Mx' Mr' c', IZ w n' S' Mx' Mr' c' → c' ≤ c + 120 → wh G (AL G) 4 Q (PZ D cI cZ cL cE ax am w Mx' Mr') cl sl 559 (zl b (ax 0) (am 0) i) []) : wh G (AL G) 4 Q (PZ D cI cZ cL cE ax am w Mx Mr) cl sl 254 (zl b (ax 0) (am 0) i) [] := by
  obtain ⟨hX, hM, hI⟩ := h
  have hF := hI.1.1
  have hw := hF.w4
  have hn := hF.le
  have F := Z.1
  have hR := Z.2.1
  refine wh_aload_n F 2 dZ_law_254 rfl rfl ?_
  refine z_arg (j := 1) Z (by omega) dZ_law_255 dZ_law_256 dZ_law_257 dZ_law_258 dZ_law_259 (by decide) ?_
  refine z_callX (As := [.int (xs (i + 1))]) (rest := []) Z C hcs (kE_start C.2.2.1 Mx hX hF (xs (i + 1))) (cw_V F.2.2.2.2 lmZ_40 cbE_start (rm := rmE_start) rfl rfl (by rw [hR]; exact ⟨Nat.le_of_ble_eq_true rfl, Nat.le_of_ble_eq_true rfl⟩)) rfl rfl (Nat.le_of_ble_eq_true rfl) dZ_law_260 (fun r Mx' hx => ?_)
  refine wh_aload_n F 3 dZ_law_263 rfl rfl ?_
  refine z_arg (j := 1) Z (by omega) dZ_law_264 dZ_law_265 dZ_law_266 dZ_law_267 dZ_law_268 (by decide) ?_
  refine z_callM (As := [.int (xs (i + 1))]) (rest := [.int r]) Z C hcs (kR_start C.2.2.2.1 Mr hM hI.1 hI.2.2.1 (by omega) (xs (i + 1))) (cw_V F.2.2.2.2 lmZ_44 cbR_start (rm := rmR_start) rfl rfl (by rw [hR]; exact ⟨Nat.le_of_ble_eq_true rfl, Nat.le_of_ble_eq_true rfl⟩)) rfl rfl (Nat.le_of_ble_eq_true rfl) dZ_law_269 (fun r2 Mr' hm => ?_)
  obtain ⟨ck, k1, k2, k3⟩ := hx
  obtain ⟨ck2, m1, m2, c', m3, m4, m5⟩ := hm
  have ee := ckR_one k1 m1
  subst ee
  refine wh_icmp_eq (tgt := 559) F dZ_law_272 (by decide) (fun _ => ?_) (fun q => absurd (k2.trans m2.symm) q)
  exact K _ _ Mx' Mr' c' ⟨k3, m5, IA_start hI (xs (i + 1)) ck⟩ (by omega)
theorem zc_begin {G : CX} {Q : State → Prop} {cl sl b L i : Nat} {xs : Nat → Int32} {D : va_G} {cI cZ cL cE : ClassId} {ax am : Nat → Nat} {w n c : Nat} {S : SS} {Mx Mr : MM} (Z : ZF G b L xs) (C : ZC G D cI cZ cL cE ax am w) (hcs : cl ≤ 600000 ∧ sl ≤ 7302250) (hi : i + 3 < L) (h : IZ w n S Mx Mr c) (hc : c + 120 < 2 ^ 31)
    (K : ∀ n' S' Mx' Mr' c', IZ w n' S' Mx' Mr' c' → c' ≤ c + 120 → wh G (AL G) 4 Q (PZ D cI cZ cL cE ax am w Mx' Mr') cl sl 559 (zl b (ax 0) (am 0) i) []) : wh G (AL G) 4 Q (PZ D cI cZ cL cE ax am w Mx Mr) cl sl 277 (zl b (ax 0) (am 0) i) [] := by
  obtain ⟨hX, hM, hI⟩ := h
  have hF := hI.1.1
  have hw := hF.w4
  have hn := hF.le
  have F := Z.1
  have hR := Z.2.1
  refine wh_aload_n F 2 dZ_law_277 rfl rfl ?_
  refine z_arg (j := 1) Z (by omega) dZ_law_278 dZ_law_279 dZ_law_280 dZ_law_281 dZ_law_282 (by decide) ?_
  refine z_callX (As := [.int (xs (i + 1))]) (rest := []) Z C hcs (kE_begin C.2.2.1 Mx hX hF (xs (i + 1))) (cw_V F.2.2.2.2 lmZ_45 cbE_begin (rm := rmE_begin) rfl rfl (by rw [hR]; exact ⟨Nat.le_of_ble_eq_true rfl, Nat.le_of_ble_eq_true rfl⟩)) rfl rfl (Nat.le_of_ble_eq_true rfl) dZ_law_283 (fun r Mx' hx => ?_)
  refine wh_aload_n F 3 dZ_law_286 rfl rfl ?_
  refine z_arg (j := 1) Z (by omega) dZ_law_287 dZ_law_288 dZ_law_289 dZ_law_290 dZ_law_291 (by decide) ?_
  refine z_callM (As := [.int (xs (i + 1))]) (rest := [.int r]) Z C hcs (kR_begin C.2.2.2.1 Mr hM hI.1 hI.2.1.1 hI.2.1.2.1 hI.2.1.2.2.1 (by omega) (xs (i + 1))) (cw_V F.2.2.2.2 lmZ_49 cbR_begin (rm := rmR_begin) rfl rfl (by rw [hR]; exact ⟨Nat.le_of_ble_eq_true rfl, Nat.le_of_ble_eq_true rfl⟩)) rfl rfl (Nat.le_of_ble_eq_true rfl) dZ_law_292 (fun r2 Mr' hm => ?_)
  obtain ⟨m2, ⟨c', m3, m4, m5⟩, -⟩ := hm
  refine wh_icmp_eq (tgt := 559) F dZ_law_295 (by decide) (fun _ => ?_) (fun q => absurd (hx.1.trans m2.symm) q)
  exact K _ _ Mx' Mr' c' ⟨hx.2, m5, IA_begin hI (xs (i + 1))⟩ (by omega)
theorem zc_finish {G : CX} {Q : State → Prop} {cl sl b L i : Nat} {xs : Nat → Int32} {D : va_G} {cI cZ cL cE : ClassId} {ax am : Nat → Nat} {w n c : Nat} {S : SS} {Mx Mr : MM} (Z : ZF G b L xs) (C : ZC G D cI cZ cL cE ax am w) (hcs : cl ≤ 600000 ∧ sl ≤ 7302250) (hi : i + 3 < L) (h : IZ w n S Mx Mr c) (hc : c + 120 < 2 ^ 31)
    (K : ∀ n' S' Mx' Mr' c', IZ w n' S' Mx' Mr' c' → c' ≤ c + 120 → wh G (AL G) 4 Q (PZ D cI cZ cL cE ax am w Mx' Mr') cl sl 559 (zl b (ax 0) (am 0) i) []) : wh G (AL G) 4 Q (PZ D cI cZ cL cE ax am w Mx Mr) cl sl 300 (zl b (ax 0) (am 0) i) [] := by
  obtain ⟨hX, hM, hI⟩ := h
  have hF := hI.1.1
  have hw := hF.w4
  have hn := hF.le
  have F := Z.1
  have hR := Z.2.1
  refine wh_aload_n F 2 dZ_law_300 rfl rfl ?_
  refine z_arg (j := 1) Z (by omega) dZ_law_301 dZ_law_302 dZ_law_303 dZ_law_304 dZ_law_305 (by decide) ?_
  refine z_arg (j := 2) Z (by omega) dZ_law_306 dZ_law_307 dZ_law_308 dZ_law_309 dZ_law_310 (by decide) ?_
  refine z_callX (As := [.int (xs (i + 1)), .int (xs (i + 2))]) (rest := []) Z C hcs (kE_finish C.2.2.1 Mx hX hI.1 (xs (i + 1)) (xs (i + 2))) (cw_V F.2.2.2.2 lmZ_50 cbE_finish (rm := rmE_finish) rfl rfl (by rw [hR]; exact ⟨Nat.le_of_ble_eq_true rfl, Nat.le_of_ble_eq_true rfl⟩)) rfl rfl (Nat.le_of_ble_eq_true rfl) dZ_law_311 (fun r Mx' hx => ?_)
  refine wh_aload_n F 3 dZ_law_314 rfl rfl ?_
  refine z_arg (j := 1) Z (by omega) dZ_law_315 dZ_law_316 dZ_law_317 dZ_law_318 dZ_law_319 (by decide) ?_
  refine z_arg (j := 2) Z (by omega) dZ_law_320 dZ_law_321 dZ_law_322 dZ_law_323 dZ_law_324 (by decide) ?_
  refine z_callM (As := [.int (xs (i + 1)), .int (xs (i + 2))]) (rest := [.int r]) Z C hcs (kR_finish C.2.2.2.1 Mr hM hI.1 hI.2.1 hc (xs (i + 1)) (xs (i + 2))) (cw_V F.2.2.2.2 lmZ_54 cbR_finish (rm := rmR_finish) rfl rfl (by rw [hR]; exact ⟨Nat.le_of_ble_eq_true rfl, Nat.le_of_ble_eq_true rfl⟩)) rfl rfl (Nat.le_of_ble_eq_true rfl) dZ_law_325 (fun r2 Mr' hm => ?_)
  obtain ⟨m2, c', m3, m4, m5⟩ := hm
  refine wh_icmp_eq (tgt := 559) F dZ_law_328 (by decide) (fun _ => ?_) (fun q => absurd (hx.1.trans m2.symm) q)
  exact K _ _ Mx' Mr' c' ⟨hx.2, m5, IA_finish hI (xs (i + 1)) (xs (i + 2))⟩ (by omega)
theorem zc_fail {G : CX} {Q : State → Prop} {cl sl b L i : Nat} {xs : Nat → Int32} {D : va_G} {cI cZ cL cE : ClassId} {ax am : Nat → Nat} {w n c : Nat} {S : SS} {Mx Mr : MM} (Z : ZF G b L xs) (C : ZC G D cI cZ cL cE ax am w) (hcs : cl ≤ 600000 ∧ sl ≤ 7302250) (hi : i + 3 < L) (h : IZ w n S Mx Mr c) (hc : c + 120 < 2 ^ 31)
    (K : ∀ n' S' Mx' Mr' c', IZ w n' S' Mx' Mr' c' → c' ≤ c + 120 → wh G (AL G) 4 Q (PZ D cI cZ cL cE ax am w Mx' Mr') cl sl 559 (zl b (ax 0) (am 0) i) []) : wh G (AL G) 4 Q (PZ D cI cZ cL cE ax am w Mx Mr) cl sl 333 (zl b (ax 0) (am 0) i) [] := by
  obtain ⟨hX, hM, hI⟩ := h
  have hF := hI.1.1
  have hw := hF.w4
  have hn := hF.le
  have F := Z.1
  have hR := Z.2.1
  refine wh_aload_n F 2 dZ_law_333 rfl rfl ?_
  refine z_arg (j := 1) Z (by omega) dZ_law_334 dZ_law_335 dZ_law_336 dZ_law_337 dZ_law_338 (by decide) ?_
  refine z_callX (As := [.int (xs (i + 1))]) (rest := []) Z C hcs (kE_fail C.2.2.1 Mx hX hI.1 (xs (i + 1))) (cw_V F.2.2.2.2 lmZ_55 cbE_fail (rm := rmE_fail) rfl rfl (by rw [hR]; exact ⟨Nat.le_of_ble_eq_true rfl, Nat.le_of_ble_eq_true rfl⟩)) rfl rfl (Nat.le_of_ble_eq_true rfl) dZ_law_339 (fun r Mx' hx => ?_)
  refine wh_aload_n F 3 dZ_law_342 rfl rfl ?_
  refine z_arg (j := 1) Z (by omega) dZ_law_343 dZ_law_344 dZ_law_345 dZ_law_346 dZ_law_347 (by decide) ?_
  refine z_callM (As := [.int (xs (i + 1))]) (rest := [.int r]) Z C hcs (kR_fail C.2.2.2.1 Mr hM hI.1 hI.2.1 hc (xs (i + 1))) (cw_V F.2.2.2.2 lmZ_58 cbR_fail (rm := rmR_fail) rfl rfl (by rw [hR]; exact ⟨Nat.le_of_ble_eq_true rfl, Nat.le_of_ble_eq_true rfl⟩)) rfl rfl (Nat.le_of_ble_eq_true rfl) dZ_law_348 (fun r2 Mr' hm => ?_)
  obtain ⟨m2, c', m3, m4, m5⟩ := hm
  refine wh_icmp_eq (tgt := 559) F dZ_law_351 (by decide) (fun _ => ?_) (fun q => absurd (hx.1.trans m2.symm) q)
  exact K _ _ Mx' Mr' c' ⟨hx.2, m5, IA_fail hI (xs (i + 1))⟩ (by omega)
theorem zc_cancel {G : CX} {Q : State → Prop} {cl sl b L i : Nat} {xs : Nat → Int32} {D : va_G} {cI cZ cL cE : ClassId} {ax am : Nat → Nat} {w n c : Nat} {S : SS} {Mx Mr : MM} (Z : ZF G b L xs) (C : ZC G D cI cZ cL cE ax am w) (hcs : cl ≤ 600000 ∧ sl ≤ 7302250) (hi : i + 3 < L) (h : IZ w n S Mx Mr c) (hc : c + 120 < 2 ^ 31)
    (K : ∀ n' S' Mx' Mr' c', IZ w n' S' Mx' Mr' c' → c' ≤ c + 120 → wh G (AL G) 4 Q (PZ D cI cZ cL cE ax am w Mx' Mr') cl sl 559 (zl b (ax 0) (am 0) i) []) : wh G (AL G) 4 Q (PZ D cI cZ cL cE ax am w Mx Mr) cl sl 356 (zl b (ax 0) (am 0) i) [] := by
  obtain ⟨hX, hM, hI⟩ := h
  have hF := hI.1.1
  have hw := hF.w4
  have hn := hF.le
  have F := Z.1
  have hR := Z.2.1
  refine wh_aload_n F 2 dZ_law_356 rfl rfl ?_
  refine z_callX (As := []) (rest := []) Z C hcs (kE_cancel C.2.2.1 Mx hX hI.1 ) (cw_V F.2.2.2.2 lmZ_59 cbE_cancel (rm := rmE_cancel) rfl rfl (by rw [hR]; exact ⟨Nat.le_of_ble_eq_true rfl, Nat.le_of_ble_eq_true rfl⟩)) rfl rfl (Nat.le_of_ble_eq_true rfl) dZ_law_357 (fun r Mx' hx => ?_)
  refine wh_aload_n F 3 dZ_law_360 rfl rfl ?_
  refine z_callM (As := []) (rest := [.int r]) Z C hcs (kR_cancel C.2.2.2.1 Mr hM hI.1 hI.2.1 (by omega) ) (cw_V F.2.2.2.2 lmZ_62 cbR_cancel (rm := rmR_cancel) rfl rfl (by rw [hR]; exact ⟨Nat.le_of_ble_eq_true rfl, Nat.le_of_ble_eq_true rfl⟩)) rfl rfl (Nat.le_of_ble_eq_true rfl) dZ_law_361 (fun r2 Mr' hm => ?_)
  obtain ⟨m2, c', m3, m4, m5⟩ := hm
  refine wh_icmp_eq (tgt := 559) F dZ_law_364 (by decide) (fun _ => ?_) (fun q => absurd (hx.1.trans m2.symm) q)
  exact K _ _ Mx' Mr' c' ⟨hx.2, m5, IA_cancel hI ⟩ (by omega)
theorem zc_state {G : CX} {Q : State → Prop} {cl sl b L i : Nat} {xs : Nat → Int32} {D : va_G} {cI cZ cL cE : ClassId} {ax am : Nat → Nat} {w n c : Nat} {S : SS} {Mx Mr : MM} (Z : ZF G b L xs) (C : ZC G D cI cZ cL cE ax am w) (hcs : cl ≤ 600000 ∧ sl ≤ 7302250) (hi : i + 3 < L) (h : IZ w n S Mx Mr c) (hc : c + 120 < 2 ^ 31)
    (K : ∀ n' S' Mx' Mr' c', IZ w n' S' Mx' Mr' c' → c' ≤ c + 120 → wh G (AL G) 4 Q (PZ D cI cZ cL cE ax am w Mx' Mr') cl sl 559 (zl b (ax 0) (am 0) i) []) : wh G (AL G) 4 Q (PZ D cI cZ cL cE ax am w Mx Mr) cl sl 369 (zl b (ax 0) (am 0) i) [] := by
  obtain ⟨hX, hM, hI⟩ := h
  have hF := hI.1.1
  have hw := hF.w4
  have hn := hF.le
  have F := Z.1
  have hR := Z.2.1
  refine wh_aload_n F 2 dZ_law_369 rfl rfl ?_
  refine z_callX (As := []) (rest := []) Z C hcs (kE_state C.2.2.1 hw Mx hX ) (cw_V F.2.2.2.2 lmZ_63 cbE_state (rm := rmE_state) rfl rfl (by rw [hR]; exact ⟨Nat.le_of_ble_eq_true rfl, Nat.le_of_ble_eq_true rfl⟩)) rfl rfl (Nat.le_of_ble_eq_true rfl) dZ_law_370 (fun r Mx' hx => ?_)
  refine wh_aload_n F 3 dZ_law_373 rfl rfl ?_
  refine z_callM (As := []) (rest := [.int r]) Z C hcs (kR_state C.2.2.2.1 Mr hM hI.2.1.2.2.2.1 hI.2.2.2 ) (cw_V F.2.2.2.2 lmZ_66 cbR_state (rm := rmR_state) rfl rfl (by rw [hR]; exact ⟨Nat.le_of_ble_eq_true rfl, Nat.le_of_ble_eq_true rfl⟩)) rfl rfl (Nat.le_of_ble_eq_true rfl) dZ_law_374 (fun r2 Mr' hm => ?_)
  refine wh_icmp_eq (tgt := 559) F dZ_law_377 (by decide) (fun _ => ?_) (fun q => absurd (hx.2.trans hm.2.symm) q)
  exact K n S Mx' Mr' c ⟨by rw [hx.1]; exact hX, by rw [hm.1]; exact hM, hI⟩ (by omega)
theorem zc_thrower {G : CX} {Q : State → Prop} {cl sl b L i : Nat} {xs : Nat → Int32} {D : va_G} {cI cZ cL cE : ClassId} {ax am : Nat → Nat} {w n c : Nat} {S : SS} {Mx Mr : MM} (Z : ZF G b L xs) (C : ZC G D cI cZ cL cE ax am w) (hcs : cl ≤ 600000 ∧ sl ≤ 7302250) (hi : i + 3 < L) (h : IZ w n S Mx Mr c) (hc : c + 120 < 2 ^ 31)
    (K : ∀ n' S' Mx' Mr' c', IZ w n' S' Mx' Mr' c' → c' ≤ c + 120 → wh G (AL G) 4 Q (PZ D cI cZ cL cE ax am w Mx' Mr') cl sl 559 (zl b (ax 0) (am 0) i) []) : wh G (AL G) 4 Q (PZ D cI cZ cL cE ax am w Mx Mr) cl sl 382 (zl b (ax 0) (am 0) i) [] := by
  obtain ⟨hX, hM, hI⟩ := h
  have hF := hI.1.1
  have hw := hF.w4
  have hn := hF.le
  have F := Z.1
  have hR := Z.2.1
  refine wh_aload_n F 2 dZ_law_382 rfl rfl ?_
  refine z_callX (As := []) (rest := []) Z C hcs (kE_thrower C.2.2.1 hw Mx hX ) (cw_V F.2.2.2.2 lmZ_67 cbE_thrower (rm := rmE_thrower) rfl rfl (by rw [hR]; exact ⟨Nat.le_of_ble_eq_true rfl, Nat.le_of_ble_eq_true rfl⟩)) rfl rfl (Nat.le_of_ble_eq_true rfl) dZ_law_383 (fun r Mx' hx => ?_)
  refine wh_aload_n F 3 dZ_law_386 rfl rfl ?_
  refine z_callM (As := []) (rest := [.int r]) Z C hcs (kR_thrower C.2.2.2.1 Mr hM ) (cw_V F.2.2.2.2 lmZ_70 cbR_thrower (rm := rmR_thrower) rfl rfl (by rw [hR]; exact ⟨Nat.le_of_ble_eq_true rfl, Nat.le_of_ble_eq_true rfl⟩)) rfl rfl (Nat.le_of_ble_eq_true rfl) dZ_law_387 (fun r2 Mr' hm => ?_)
  refine wh_icmp_eq (tgt := 559) F dZ_law_390 (by decide) (fun _ => ?_) (fun q => absurd (hx.2.trans hm.2.symm) q)
  exact K n S Mx' Mr' c ⟨by rw [hx.1]; exact hX, by rw [hm.1]; exact hM, hI⟩ (by omega)
theorem zc_round {G : CX} {Q : State → Prop} {cl sl b L i : Nat} {xs : Nat → Int32} {D : va_G} {cI cZ cL cE : ClassId} {ax am : Nat → Nat} {w n c : Nat} {S : SS} {Mx Mr : MM} (Z : ZF G b L xs) (C : ZC G D cI cZ cL cE ax am w) (hcs : cl ≤ 600000 ∧ sl ≤ 7302250) (hi : i + 3 < L) (h : IZ w n S Mx Mr c) (hc : c + 120 < 2 ^ 31)
    (K : ∀ n' S' Mx' Mr' c', IZ w n' S' Mx' Mr' c' → c' ≤ c + 120 → wh G (AL G) 4 Q (PZ D cI cZ cL cE ax am w Mx' Mr') cl sl 559 (zl b (ax 0) (am 0) i) []) : wh G (AL G) 4 Q (PZ D cI cZ cL cE ax am w Mx Mr) cl sl 395 (zl b (ax 0) (am 0) i) [] := by
  obtain ⟨hX, hM, hI⟩ := h
  have hF := hI.1.1
  have hw := hF.w4
  have hn := hF.le
  have F := Z.1
  have hR := Z.2.1
  refine wh_aload_n F 2 dZ_law_395 rfl rfl ?_
  refine z_callX (As := []) (rest := []) Z C hcs (kE_round C.2.2.1 hw Mx hX ) (cw_V F.2.2.2.2 lmZ_71 cbE_round (rm := rmE_round) rfl rfl (by rw [hR]; exact ⟨Nat.le_of_ble_eq_true rfl, Nat.le_of_ble_eq_true rfl⟩)) rfl rfl (Nat.le_of_ble_eq_true rfl) dZ_law_396 (fun r Mx' hx => ?_)
  refine wh_aload_n F 3 dZ_law_399 rfl rfl ?_
  refine z_callM (As := []) (rest := [.int r]) Z C hcs (kR_round C.2.2.2.1 Mr hM ) (cw_V F.2.2.2.2 lmZ_74 cbR_round (rm := rmR_round) rfl rfl (by rw [hR]; exact ⟨Nat.le_of_ble_eq_true rfl, Nat.le_of_ble_eq_true rfl⟩)) rfl rfl (Nat.le_of_ble_eq_true rfl) dZ_law_400 (fun r2 Mr' hm => ?_)
  refine wh_icmp_eq (tgt := 559) F dZ_law_403 (by decide) (fun _ => ?_) (fun q => absurd (hx.2.trans hm.2.symm) q)
  exact K n S Mx' Mr' c ⟨by rw [hx.1]; exact hX, by rw [hm.1]; exact hM, hI⟩ (by omega)
theorem zc_lost {G : CX} {Q : State → Prop} {cl sl b L i : Nat} {xs : Nat → Int32} {D : va_G} {cI cZ cL cE : ClassId} {ax am : Nat → Nat} {w n c : Nat} {S : SS} {Mx Mr : MM} (Z : ZF G b L xs) (C : ZC G D cI cZ cL cE ax am w) (hcs : cl ≤ 600000 ∧ sl ≤ 7302250) (hi : i + 3 < L) (h : IZ w n S Mx Mr c) (hc : c + 120 < 2 ^ 31)
    (K : ∀ n' S' Mx' Mr' c', IZ w n' S' Mx' Mr' c' → c' ≤ c + 120 → wh G (AL G) 4 Q (PZ D cI cZ cL cE ax am w Mx' Mr') cl sl 559 (zl b (ax 0) (am 0) i) []) : wh G (AL G) 4 Q (PZ D cI cZ cL cE ax am w Mx Mr) cl sl 408 (zl b (ax 0) (am 0) i) [] := by
  obtain ⟨hX, hM, hI⟩ := h
  have hF := hI.1.1
  have hw := hF.w4
  have hn := hF.le
  have F := Z.1
  have hR := Z.2.1
  refine wh_aload_n F 2 dZ_law_408 rfl rfl ?_
  refine z_callX (As := []) (rest := []) Z C hcs (kE_lost C.2.2.1 hw Mx hX ) (cw_V F.2.2.2.2 lmZ_75 cbE_lost (rm := rmE_lost) rfl rfl (by rw [hR]; exact ⟨Nat.le_of_ble_eq_true rfl, Nat.le_of_ble_eq_true rfl⟩)) rfl rfl (Nat.le_of_ble_eq_true rfl) dZ_law_409 (fun r Mx' hx => ?_)
  refine wh_aload_n F 3 dZ_law_412 rfl rfl ?_
  refine z_callM (As := []) (rest := [.int r]) Z C hcs (kR_lost C.2.2.2.1 Mr hM ) (cw_V F.2.2.2.2 lmZ_78 cbR_lost (rm := rmR_lost) rfl rfl (by rw [hR]; exact ⟨Nat.le_of_ble_eq_true rfl, Nat.le_of_ble_eq_true rfl⟩)) rfl rfl (Nat.le_of_ble_eq_true rfl) dZ_law_413 (fun r2 Mr' hm => ?_)
  refine wh_icmp_eq (tgt := 559) F dZ_law_416 (by decide) (fun _ => ?_) (fun q => absurd (hx.2.trans hm.2.symm) q)
  exact K n S Mx' Mr' c ⟨by rw [hx.1]; exact hX, by rw [hm.1]; exact hM, hI⟩ (by omega)
theorem zc_steals {G : CX} {Q : State → Prop} {cl sl b L i : Nat} {xs : Nat → Int32} {D : va_G} {cI cZ cL cE : ClassId} {ax am : Nat → Nat} {w n c : Nat} {S : SS} {Mx Mr : MM} (Z : ZF G b L xs) (C : ZC G D cI cZ cL cE ax am w) (hcs : cl ≤ 600000 ∧ sl ≤ 7302250) (hi : i + 3 < L) (h : IZ w n S Mx Mr c) (hc : c + 120 < 2 ^ 31)
    (K : ∀ n' S' Mx' Mr' c', IZ w n' S' Mx' Mr' c' → c' ≤ c + 120 → wh G (AL G) 4 Q (PZ D cI cZ cL cE ax am w Mx' Mr') cl sl 559 (zl b (ax 0) (am 0) i) []) : wh G (AL G) 4 Q (PZ D cI cZ cL cE ax am w Mx Mr) cl sl 421 (zl b (ax 0) (am 0) i) [] := by
  obtain ⟨hX, hM, hI⟩ := h
  have hF := hI.1.1
  have hw := hF.w4
  have hn := hF.le
  have F := Z.1
  have hR := Z.2.1
  refine wh_aload_n F 2 dZ_law_421 rfl rfl ?_
  refine z_callX (As := []) (rest := []) Z C hcs (kE_steals C.2.2.1 hw Mx hX ) (cw_V F.2.2.2.2 lmZ_79 cbE_steals (rm := rmE_steals) rfl rfl (by rw [hR]; exact ⟨Nat.le_of_ble_eq_true rfl, Nat.le_of_ble_eq_true rfl⟩)) rfl rfl (Nat.le_of_ble_eq_true rfl) dZ_law_422 (fun r Mx' hx => ?_)
  refine wh_aload_n F 3 dZ_law_425 rfl rfl ?_
  refine z_callM (As := []) (rest := [.int r]) Z C hcs (kR_steals C.2.2.2.1 Mr hM ) (cw_V F.2.2.2.2 lmZ_82 cbR_steals (rm := rmR_steals) rfl rfl (by rw [hR]; exact ⟨Nat.le_of_ble_eq_true rfl, Nat.le_of_ble_eq_true rfl⟩)) rfl rfl (Nat.le_of_ble_eq_true rfl) dZ_law_426 (fun r2 Mr' hm => ?_)
  refine wh_icmp_eq (tgt := 559) F dZ_law_429 (by decide) (fun _ => ?_) (fun q => absurd (hx.2.trans hm.2.symm) q)
  exact K n S Mx' Mr' c ⟨by rw [hx.1]; exact hX, by rw [hm.1]; exact hM, hI⟩ (by omega)
theorem zc_runs {G : CX} {Q : State → Prop} {cl sl b L i : Nat} {xs : Nat → Int32} {D : va_G} {cI cZ cL cE : ClassId} {ax am : Nat → Nat} {w n c : Nat} {S : SS} {Mx Mr : MM} (Z : ZF G b L xs) (C : ZC G D cI cZ cL cE ax am w) (hcs : cl ≤ 600000 ∧ sl ≤ 7302250) (hi : i + 3 < L) (h : IZ w n S Mx Mr c) (hc : c + 120 < 2 ^ 31)
    (K : ∀ n' S' Mx' Mr' c', IZ w n' S' Mx' Mr' c' → c' ≤ c + 120 → wh G (AL G) 4 Q (PZ D cI cZ cL cE ax am w Mx' Mr') cl sl 559 (zl b (ax 0) (am 0) i) []) : wh G (AL G) 4 Q (PZ D cI cZ cL cE ax am w Mx Mr) cl sl 434 (zl b (ax 0) (am 0) i) [] := by
  obtain ⟨hX, hM, hI⟩ := h
  have hF := hI.1.1
  have hw := hF.w4
  have hn := hF.le
  have F := Z.1
  have hR := Z.2.1
  refine wh_aload_n F 2 dZ_law_434 rfl rfl ?_
  refine z_arg (j := 1) Z (by omega) dZ_law_435 dZ_law_436 dZ_law_437 dZ_law_438 dZ_law_439 (by decide) ?_
  refine z_callX (As := [.int (xs (i + 1))]) (rest := []) Z C hcs (kE_runs C.2.2.1 Mx hX hF (xs (i + 1))) (cw_V F.2.2.2.2 lmZ_83 cbE_runs (rm := rmE_runs) rfl rfl (by rw [hR]; exact ⟨Nat.le_of_ble_eq_true rfl, Nat.le_of_ble_eq_true rfl⟩)) rfl rfl (Nat.le_of_ble_eq_true rfl) dZ_law_440 (fun r Mx' hx => ?_)
  refine wh_aload_n F 3 dZ_law_443 rfl rfl ?_
  refine z_arg (j := 1) Z (by omega) dZ_law_444 dZ_law_445 dZ_law_446 dZ_law_447 dZ_law_448 (by decide) ?_
  refine z_callM (As := [.int (xs (i + 1))]) (rest := [.int r]) Z C hcs (kR_runs C.2.2.2.1 Mr hM hn (xs (i + 1))) (cw_V F.2.2.2.2 lmZ_86 cbR_runs (rm := rmR_runs) rfl rfl (by rw [hR]; exact ⟨Nat.le_of_ble_eq_true rfl, Nat.le_of_ble_eq_true rfl⟩)) rfl rfl (Nat.le_of_ble_eq_true rfl) dZ_law_449 (fun r2 Mr' hm => ?_)
  refine wh_icmp_eq (tgt := 559) F dZ_law_452 (by decide) (fun _ => ?_) (fun q => absurd (hx.2.trans hm.2.symm) q)
  exact K n S Mx' Mr' c ⟨by rw [hx.1]; exact hX, by rw [hm.1]; exact hM, hI⟩ (by omega)
theorem zc_arrivals {G : CX} {Q : State → Prop} {cl sl b L i : Nat} {xs : Nat → Int32} {D : va_G} {cI cZ cL cE : ClassId} {ax am : Nat → Nat} {w n c : Nat} {S : SS} {Mx Mr : MM} (Z : ZF G b L xs) (C : ZC G D cI cZ cL cE ax am w) (hcs : cl ≤ 600000 ∧ sl ≤ 7302250) (hi : i + 3 < L) (h : IZ w n S Mx Mr c) (hc : c + 120 < 2 ^ 31)
    (K : ∀ n' S' Mx' Mr' c', IZ w n' S' Mx' Mr' c' → c' ≤ c + 120 → wh G (AL G) 4 Q (PZ D cI cZ cL cE ax am w Mx' Mr') cl sl 559 (zl b (ax 0) (am 0) i) []) : wh G (AL G) 4 Q (PZ D cI cZ cL cE ax am w Mx Mr) cl sl 457 (zl b (ax 0) (am 0) i) [] := by
  obtain ⟨hX, hM, hI⟩ := h
  have hF := hI.1.1
  have hw := hF.w4
  have hn := hF.le
  have F := Z.1
  have hR := Z.2.1
  refine wh_aload_n F 2 dZ_law_457 rfl rfl ?_
  refine z_arg (j := 1) Z (by omega) dZ_law_458 dZ_law_459 dZ_law_460 dZ_law_461 dZ_law_462 (by decide) ?_
  refine z_callX (As := [.int (xs (i + 1))]) (rest := []) Z C hcs (kE_arrivals C.2.2.1 Mx hX hF (xs (i + 1))) (cw_V F.2.2.2.2 lmZ_87 cbE_arrivals (rm := rmE_arrivals) rfl rfl (by rw [hR]; exact ⟨Nat.le_of_ble_eq_true rfl, Nat.le_of_ble_eq_true rfl⟩)) rfl rfl (Nat.le_of_ble_eq_true rfl) dZ_law_463 (fun r Mx' hx => ?_)
  refine wh_aload_n F 3 dZ_law_466 rfl rfl ?_
  refine z_arg (j := 1) Z (by omega) dZ_law_467 dZ_law_468 dZ_law_469 dZ_law_470 dZ_law_471 (by decide) ?_
  refine z_callM (As := [.int (xs (i + 1))]) (rest := [.int r]) Z C hcs (kR_arrivals C.2.2.2.1 Mr hM hn (xs (i + 1))) (cw_V F.2.2.2.2 lmZ_90 cbR_arrivals (rm := rmR_arrivals) rfl rfl (by rw [hR]; exact ⟨Nat.le_of_ble_eq_true rfl, Nat.le_of_ble_eq_true rfl⟩)) rfl rfl (Nat.le_of_ble_eq_true rfl) dZ_law_472 (fun r2 Mr' hm => ?_)
  refine wh_icmp_eq (tgt := 559) F dZ_law_475 (by decide) (fun _ => ?_) (fun q => absurd (hx.2.trans hm.2.symm) q)
  exact K n S Mx' Mr' c ⟨by rw [hx.1]; exact hX, by rw [hm.1]; exact hM, hI⟩ (by omega)
theorem zc_where {G : CX} {Q : State → Prop} {cl sl b L i : Nat} {xs : Nat → Int32} {D : va_G} {cI cZ cL cE : ClassId} {ax am : Nat → Nat} {w n c : Nat} {S : SS} {Mx Mr : MM} (Z : ZF G b L xs) (C : ZC G D cI cZ cL cE ax am w) (hcs : cl ≤ 600000 ∧ sl ≤ 7302250) (hi : i + 3 < L) (h : IZ w n S Mx Mr c) (hc : c + 120 < 2 ^ 31)
    (K : ∀ n' S' Mx' Mr' c', IZ w n' S' Mx' Mr' c' → c' ≤ c + 120 → wh G (AL G) 4 Q (PZ D cI cZ cL cE ax am w Mx' Mr') cl sl 559 (zl b (ax 0) (am 0) i) []) : wh G (AL G) 4 Q (PZ D cI cZ cL cE ax am w Mx Mr) cl sl 480 (zl b (ax 0) (am 0) i) [] := by
  obtain ⟨hX, hM, hI⟩ := h
  have hF := hI.1.1
  have hw := hF.w4
  have hn := hF.le
  have F := Z.1
  have hR := Z.2.1
  refine wh_aload_n F 2 dZ_law_480 rfl rfl ?_
  refine z_arg (j := 1) Z (by omega) dZ_law_481 dZ_law_482 dZ_law_483 dZ_law_484 dZ_law_485 (by decide) ?_
  refine z_callX (As := [.int (xs (i + 1))]) (rest := []) Z C hcs (kE_where C.2.2.1 Mx hX hF (xs (i + 1))) (cw_V F.2.2.2.2 lmZ_91 cbE_where (rm := rmE_where) rfl rfl (by rw [hR]; exact ⟨Nat.le_of_ble_eq_true rfl, Nat.le_of_ble_eq_true rfl⟩)) rfl rfl (Nat.le_of_ble_eq_true rfl) dZ_law_486 (fun r Mx' hx => ?_)
  refine wh_aload_n F 3 dZ_law_489 rfl rfl ?_
  refine z_arg (j := 1) Z (by omega) dZ_law_490 dZ_law_491 dZ_law_492 dZ_law_493 dZ_law_494 (by decide) ?_
  refine z_callM (As := [.int (xs (i + 1))]) (rest := [.int r]) Z C hcs (kR_where C.2.2.2.1 Mr hM hw hn (xs (i + 1))) (cw_V F.2.2.2.2 lmZ_94 cbR_where (rm := rmR_where) rfl rfl (by rw [hR]; exact ⟨Nat.le_of_ble_eq_true rfl, Nat.le_of_ble_eq_true rfl⟩)) rfl rfl (Nat.le_of_ble_eq_true rfl) dZ_law_495 (fun r2 Mr' hm => ?_)
  refine wh_icmp_eq (tgt := 559) F dZ_law_498 (by decide) (fun _ => ?_) (fun q => absurd (hx.2.trans hm.2.symm) q)
  exact K n S Mx' Mr' c ⟨by rw [hx.1]; exact hX, by rw [hm.1]; exact hM, hI⟩ (by omega)
theorem zc_lineAt {G : CX} {Q : State → Prop} {cl sl b L i : Nat} {xs : Nat → Int32} {D : va_G} {cI cZ cL cE : ClassId} {ax am : Nat → Nat} {w n c : Nat} {S : SS} {Mx Mr : MM} (Z : ZF G b L xs) (C : ZC G D cI cZ cL cE ax am w) (hcs : cl ≤ 600000 ∧ sl ≤ 7302250) (hi : i + 3 < L) (h : IZ w n S Mx Mr c) (hc : c + 120 < 2 ^ 31)
    (K : ∀ n' S' Mx' Mr' c', IZ w n' S' Mx' Mr' c' → c' ≤ c + 120 → wh G (AL G) 4 Q (PZ D cI cZ cL cE ax am w Mx' Mr') cl sl 559 (zl b (ax 0) (am 0) i) []) : wh G (AL G) 4 Q (PZ D cI cZ cL cE ax am w Mx Mr) cl sl 503 (zl b (ax 0) (am 0) i) [] := by
  obtain ⟨hX, hM, hI⟩ := h
  have hF := hI.1.1
  have hw := hF.w4
  have hn := hF.le
  have F := Z.1
  have hR := Z.2.1
  refine wh_aload_n F 2 dZ_law_503 rfl rfl ?_
  refine z_arg (j := 1) Z (by omega) dZ_law_504 dZ_law_505 dZ_law_506 dZ_law_507 dZ_law_508 (by decide) ?_
  refine z_arg (j := 2) Z (by omega) dZ_law_509 dZ_law_510 dZ_law_511 dZ_law_512 dZ_law_513 (by decide) ?_
  refine z_callX (As := [.int (xs (i + 1)), .int (xs (i + 2))]) (rest := []) Z C hcs (kE_lineAt C.2.2.1 Mx hX hF (xs (i + 1)) (xs (i + 2))) (cw_V F.2.2.2.2 lmZ_95 cbE_lineAt (rm := rmE_lineAt) rfl rfl (by rw [hR]; exact ⟨Nat.le_of_ble_eq_true rfl, Nat.le_of_ble_eq_true rfl⟩)) rfl rfl (Nat.le_of_ble_eq_true rfl) dZ_law_514 (fun r Mx' hx => ?_)
  refine wh_aload_n F 3 dZ_law_517 rfl rfl ?_
  refine z_arg (j := 1) Z (by omega) dZ_law_518 dZ_law_519 dZ_law_520 dZ_law_521 dZ_law_522 (by decide) ?_
  refine z_arg (j := 2) Z (by omega) dZ_law_523 dZ_law_524 dZ_law_525 dZ_law_526 dZ_law_527 (by decide) ?_
  refine z_callM (As := [.int (xs (i + 1)), .int (xs (i + 2))]) (rest := [.int r]) Z C hcs (kR_lineAt C.2.2.2.1 Mr hM hF (by omega) (xs (i + 1)) (xs (i + 2))) (cw_V F.2.2.2.2 lmZ_98 cbR_lineAt (rm := rmR_lineAt) rfl rfl (by rw [hR]; exact ⟨Nat.le_of_ble_eq_true rfl, Nat.le_of_ble_eq_true rfl⟩)) rfl rfl (Nat.le_of_ble_eq_true rfl) dZ_law_528 (fun r2 Mr' hm => ?_)
  refine wh_icmp_eq (tgt := 559) F dZ_law_531 (by decide) (fun _ => ?_) (fun q => absurd (hx.2.trans hm.2.symm) q)
  exact K n S Mx' Mr' c ⟨by rw [hx.1]; exact hX, by rw [hm.1]; exact hM, hI⟩ (by omega)
theorem zc_held {G : CX} {Q : State → Prop} {cl sl b L i : Nat} {xs : Nat → Int32} {D : va_G} {cI cZ cL cE : ClassId} {ax am : Nat → Nat} {w n c : Nat} {S : SS} {Mx Mr : MM} (Z : ZF G b L xs) (C : ZC G D cI cZ cL cE ax am w) (hcs : cl ≤ 600000 ∧ sl ≤ 7302250) (hi : i + 3 < L) (h : IZ w n S Mx Mr c) (hc : c + 120 < 2 ^ 31)
    (K : ∀ n' S' Mx' Mr' c', IZ w n' S' Mx' Mr' c' → c' ≤ c + 120 → wh G (AL G) 4 Q (PZ D cI cZ cL cE ax am w Mx' Mr') cl sl 559 (zl b (ax 0) (am 0) i) []) : wh G (AL G) 4 Q (PZ D cI cZ cL cE ax am w Mx Mr) cl sl 536 (zl b (ax 0) (am 0) i) [] := by
  obtain ⟨hX, hM, hI⟩ := h
  have hF := hI.1.1
  have hw := hF.w4
  have hn := hF.le
  have F := Z.1
  have hR := Z.2.1
  refine wh_aload_n F 2 dZ_law_536 rfl rfl ?_
  refine z_arg (j := 1) Z (by omega) dZ_law_537 dZ_law_538 dZ_law_539 dZ_law_540 dZ_law_541 (by decide) ?_
  refine z_callX (As := [.int (xs (i + 1))]) (rest := []) Z C hcs (kE_held C.2.2.1 hw Mx hX (xs (i + 1))) (cw_V F.2.2.2.2 lmZ_99 cbE_held (rm := rmE_held) rfl rfl (by rw [hR]; exact ⟨Nat.le_of_ble_eq_true rfl, Nat.le_of_ble_eq_true rfl⟩)) rfl rfl (Nat.le_of_ble_eq_true rfl) dZ_law_542 (fun r Mx' hx => ?_)
  refine wh_aload_n F 3 dZ_law_545 rfl rfl ?_
  refine z_arg (j := 1) Z (by omega) dZ_law_546 dZ_law_547 dZ_law_548 dZ_law_549 dZ_law_550 (by decide) ?_
  refine z_callM (As := [.int (xs (i + 1))]) (rest := [.int r]) Z C hcs (kR_held C.2.2.2.1 Mr hM hw hF.g hI.2.1.2.1 (xs (i + 1))) (cw_V F.2.2.2.2 lmZ_102 cbR_held (rm := rmR_held) rfl rfl (by rw [hR]; exact ⟨Nat.le_of_ble_eq_true rfl, Nat.le_of_ble_eq_true rfl⟩)) rfl rfl (Nat.le_of_ble_eq_true rfl) dZ_law_551 (fun r2 Mr' hm => ?_)
  refine wh_icmp_eq (tgt := 559) F dZ_law_554 (by decide) (fun _ => ?_) (fun q => absurd (hx.2.trans hm.2.symm) q)
  exact K n S Mx' Mr' c ⟨by rw [hx.1]; exact hX, by rw [hm.1]; exact hM, hI⟩ (by omega)
