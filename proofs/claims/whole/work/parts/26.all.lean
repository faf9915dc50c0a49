/-! all rows of all methods are well -/
def xRowsOk (g : XMe) : Prop := ∀ (pc : Nat) (e : XI), g.2.2.2.2.2.2 pc = some e → xDec g pc e ∧ xLk xprog xcl xfty xTs xSL xTL xNW g pc e
theorem xm_if {c : Prop} [Decidable c] {a b : XMe} (h1 : xRowsOk a) (h2 : xRowsOk b) : xRowsOk (if c then a else b) := by
  by_cases h : c
  · rw [if_pos h]; exact h1
  · rw [if_neg h]; exact h2
theorem xG_ok (μ : Nat) : xRowsOk (xprog μ) := xm_if (xm_if (xm_if (xm_if (xm_if (xm_if (xm_if (xm_if (xg_0) (xg_1)) (xm_if (xg_2) (xg_3))) (xm_if (xm_if (xg_4) (xg_5)) (xm_if (xg_6) (xm_if (xg_7) (xg_8))))) (xm_if (xm_if (xm_if (xg_9) (xg_10)) (xm_if (xg_11) (xg_12))) (xm_if (xm_if (xg_13) (xg_14)) (xm_if (xg_15) (xm_if (xg_16) (xg_17)))))) (xm_if (xm_if (xm_if (xm_if (xg_18) (xg_19)) (xm_if (xg_20) (xg_21))) (xm_if (xm_if (xg_22) (xg_23)) (xm_if (xg_24) (xm_if (xg_25) (xg_26))))) (xm_if (xm_if (xm_if (xg_27) (xg_28)) (xm_if (xg_29) (xg_30))) (xm_if (xm_if (xg_31) (xg_32)) (xm_if (xg_33) (xm_if (xg_34) (xg_35))))))) (xm_if (xm_if (xm_if (xm_if (xm_if (xg_36) (xg_37)) (xm_if (xg_38) (xg_39))) (xm_if (xm_if (xg_40) (xg_41)) (xm_if (xg_42) (xm_if (xg_43) (xg_44))))) (xm_if (xm_if (xm_if (xg_45) (xg_46)) (xm_if (xg_47) (xg_48))) (xm_if (xm_if (xg_49) (xg_50)) (xm_if (xg_51) (xm_if (xg_52) (xg_53)))))) (xm_if (xm_if (xm_if (xm_if (xg_54) (xg_55)) (xm_if (xg_56) (xg_57))) (xm_if (xm_if (xg_58) (xg_59)) (xm_if (xg_60) (xm_if (xg_61) (xg_62))))) (xm_if (xm_if (xm_if (xg_63) (xg_64)) (xm_if (xg_65) (xm_if (xg_66) (xg_67)))) (xm_if (xm_if (xg_68) (xg_69)) (xm_if (xg_70) (xm_if (xg_71) (xg_72)))))))) (xm_if (xm_if (xm_if (xm_if (xm_if (xm_if (xg_73) (xg_74)) (xm_if (xg_75) (xg_76))) (xm_if (xm_if (xg_77) (xg_78)) (xm_if (xg_79) (xm_if (xg_80) (xg_81))))) (xm_if (xm_if (xm_if (xg_82) (xg_83)) (xm_if (xg_84) (xg_85))) (xm_if (xm_if (xg_86) (xg_87)) (xm_if (xg_88) (xm_if (xg_89) (xg_90)))))) (xm_if (xm_if (xm_if (xm_if (xg_91) (xg_92)) (xm_if (xg_93) (xg_94))) (xm_if (xm_if (xg_95) (xg_96)) (xm_if (xg_97) (xm_if (xg_98) (xg_99))))) (xm_if (xm_if (xm_if (xg_100) (xg_101)) (xm_if (xg_102) (xm_if (xg_103) (xg_104)))) (xm_if (xm_if (xg_105) (xg_106)) (xm_if (xg_107) (xm_if (xg_108) (xg_109))))))) (xm_if (xm_if (xm_if (xm_if (xm_if (xg_110) (xg_111)) (xm_if (xg_112) (xg_113))) (xm_if (xm_if (xg_114) (xg_115)) (xm_if (xg_116) (xm_if (xg_117) (xg_118))))) (xm_if (xm_if (xm_if (xg_119) (xg_120)) (xm_if (xg_121) (xg_122))) (xm_if (xm_if (xg_123) (xg_124)) (xm_if (xg_125) (xm_if (xg_126) (xg_127)))))) (xm_if (xm_if (xm_if (xm_if (xg_128) (xg_129)) (xm_if (xg_130) (xg_131))) (xm_if (xm_if (xg_132) (xg_133)) (xm_if (xg_134) (xm_if (xg_135) (xg_136))))) (xm_if (xm_if (xm_if (xg_137) (xg_138)) (xm_if (xg_139) (xm_if (xg_140) (xg_141)))) (xm_if (xm_if (xg_142) (xg_143)) (xm_if (xg_144) (xm_if (xg_145) (xg_146))))))))) (xm_if (xm_if (xm_if (xm_if (xm_if (xm_if (xm_if (xg_147) (xg_148)) (xm_if (xg_149) (xg_150))) (xm_if (xm_if (xg_151) (xg_152)) (xm_if (xg_153) (xm_if (xg_154) (xg_155))))) (xm_if (xm_if (xm_if (xg_156) (xg_157)) (xm_if (xg_158) (xg_159))) (xm_if (xm_if (xg_160) (xg_161)) (xm_if (xg_162) (xm_if (xg_163) (xg_164)))))) (xm_if (xm_if (xm_if (xm_if (xg_165) (xg_166)) (xm_if (xg_167) (xg_168))) (xm_if (xm_if (xg_169) (xg_170)) (xm_if (xg_171) (xm_if (xg_172) (xg_173))))) (xm_if (xm_if (xm_if (xg_174) (xg_175)) (xm_if (xg_176) (xg_177))) (xm_if (xm_if (xg_178) (xg_179)) (xm_if (xg_180) (xm_if (xg_181) (xg_182))))))) (xm_if (xm_if (xm_if (xm_if (xm_if (xg_183) (xg_184)) (xm_if (xg_185) (xg_186))) (xm_if (xm_if (xg_187) (xg_188)) (xm_if (xg_189) (xm_if (xg_190) (xg_191))))) (xm_if (xm_if (xm_if (xg_192) (xg_193)) (xm_if (xg_194) (xg_195))) (xm_if (xm_if (xg_196) (xg_197)) (xm_if (xg_198) (xm_if (xg_199) (xg_200)))))) (xm_if (xm_if (xm_if (xm_if (xg_201) (xg_202)) (xm_if (xg_203) (xg_204))) (xm_if (xm_if (xg_205) (xg_206)) (xm_if (xg_207) (xm_if (xg_208) (xg_209))))) (xm_if (xm_if (xm_if (xg_210) (xg_211)) (xm_if (xg_212) (xm_if (xg_213) (xg_214)))) (xm_if (xm_if (xg_215) (xg_216)) (xm_if (xg_217) (xm_if (xg_218) (xg_219)))))))) (xm_if (xm_if (xm_if (xm_if (xm_if (xm_if (xg_220) (xg_221)) (xm_if (xg_222) (xg_223))) (xm_if (xm_if (xg_224) (xg_225)) (xm_if (xg_226) (xm_if (xg_227) (xg_228))))) (xm_if (xm_if (xm_if (xg_229) (xg_230)) (xm_if (xg_231) (xg_232))) (xm_if (xm_if (xg_233) (xg_234)) (xm_if (xg_235) (xm_if (xg_236) (xg_237)))))) (xm_if (xm_if (xm_if (xm_if (xg_238) (xg_239)) (xm_if (xg_240) (xg_241))) (xm_if (xm_if (xg_242) (xg_243)) (xm_if (xg_244) (xm_if (xg_245) (xg_246))))) (xm_if (xm_if (xm_if (xg_247) (xg_248)) (xm_if (xg_249) (xm_if (xg_250) (xg_251)))) (xm_if (xm_if (xg_252) (xg_253)) (xm_if (xg_254) (xm_if (xg_255) (xg_256))))))) (xm_if (xm_if (xm_if (xm_if (xm_if (xg_257) (xg_258)) (xm_if (xg_259) (xg_260))) (xm_if (xm_if (xg_261) (xg_262)) (xm_if (xg_263) (xm_if (xg_264) (xg_265))))) (xm_if (xm_if (xm_if (xg_266) (xg_267)) (xm_if (xg_268) (xg_269))) (xm_if (xm_if (xg_270) (xg_271)) (xm_if (xg_272) (xm_if (xg_273) (xg_274)))))) (xm_if (xm_if (xm_if (xm_if (xg_275) (xg_276)) (xm_if (xg_277) (xg_278))) (xm_if (xm_if (xg_279) (xg_280)) (xm_if (xg_281) (xm_if (xg_282) (xg_283))))) (xm_if (xm_if (xm_if (xg_284) (xg_285)) (xm_if (xg_286) (xm_if (xg_287) (xg_288)))) (xm_if (xm_if (xg_289) (xg_290)) (xm_if (xg_291) (xm_if (xg_292) (xg_293)))))))))
theorem xCls_ok : xCls xcl xfty xTs := by
  intro t r ht
  have h13 : t < 13 := (List.getElem?_eq_some_iff.mp ht).1
  have key : ∀ t, t < 13 → ∃ r : vw_C, xcl[t]? = some r ∧ (List.range r.2.2).all (fun k => xat ((xlay.getD t []).getD k 0) (u_lay r.1 r.2.1 k) && decide (parseFieldDescriptor (r.2.1 k).2.2.1 = some (xfty t k))) = true ∧ (List.range r.2.2).all (fun a => (List.range r.2.2).all (fun b => a == b || decide ((r.2.1 a).2.1 ≠ (r.2.1 b).2.1))) = true := by
    intro t ht
    match t, ht with
    | 0, _ => exact ⟨_, rfl, by decide +kernel, by decide +kernel⟩
    | 1, _ => exact ⟨_, rfl, by decide +kernel, by decide +kernel⟩
    | 2, _ => exact ⟨_, rfl, by decide +kernel, by decide +kernel⟩
    | 3, _ => exact ⟨_, rfl, by decide +kernel, by decide +kernel⟩
    | 4, _ => exact ⟨_, rfl, by decide +kernel, by decide +kernel⟩
    | 5, _ => exact ⟨_, rfl, by decide +kernel, by decide +kernel⟩
    | 6, _ => exact ⟨_, rfl, by decide +kernel, by decide +kernel⟩
    | 7, _ => exact ⟨_, rfl, by decide +kernel, by decide +kernel⟩
    | 8, _ => exact ⟨_, rfl, by decide +kernel, by decide +kernel⟩
    | 9, _ => exact ⟨_, rfl, by decide +kernel, by decide +kernel⟩
    | 10, _ => exact ⟨_, rfl, by decide +kernel, by decide +kernel⟩
    | 11, _ => exact ⟨_, rfl, by decide +kernel, by decide +kernel⟩
    | 12, _ => exact ⟨_, rfl, by decide +kernel, by decide +kernel⟩
  obtain ⟨r', hr', h1, h2⟩ := key t h13
  cases ht.symm.trans hr'
  refine ⟨fun w hw => ?_, fun k hk => ?_, fun a ha b hb hne => ?_⟩
  · unfold u_ws at hw
    obtain ⟨k, hk, rfl⟩ := List.mem_map.mp hw
    have := List.all_eq_true.mp h1 k hk
    rw [Bool.and_eq_true] at this
    exact xat_in this.1
  · have := List.all_eq_true.mp h1 k (List.mem_range.mpr hk)
    rw [Bool.and_eq_true, decide_eq_true_eq] at this
    exact this.2
  · have := List.all_eq_true.mp (List.all_eq_true.mp h2 a (List.mem_range.mpr ha)) b (List.mem_range.mpr hb)
    simp only [Bool.or_eq_true, beq_iff_eq, decide_eq_true_eq] at this
    exact this.resolve_left hne
