def allIdx {α : Type} (p : Nat → α → Prop) : List α → Nat → Prop
  | [], _ => True
  | x :: r, i => p i x ∧ allIdx p r (i + 1)
theorem allIdx_at {α : Type} {p : Nat → α → Prop} : ∀ {l : List α} {i : Nat}, allIdx p l i → ∀ {a : Nat} {x : α}, l[a]? = some x → p (i + a) x
  | [], _, _, _, _, h => by simp at h
  | y :: r, i, hp, 0, x, h => by
    rw [List.getElem?_cons_zero] at h
    cases h
    exact hp.1
  | y :: r, i, hp, a + 1, x, h => by
    rw [List.getElem?_cons_succ] at h
    have := allIdx_at hp.2 h
    rw [show i + (a + 1) = i + 1 + a by omega]
    exact this
set_option maxRecDepth 100000 in
theorem fCF_idx : allIdx (fun a t => cfok gP a t.1 t.2.1 t.2.2) tCF 0 := ⟨fCF_0, ⟨fCF_1, ⟨fCF_2, ⟨fCF_3, ⟨fCF_4, ⟨fCF_5, ⟨fCF_6, ⟨fCF_7, ⟨fCF_8, ⟨fCF_9, ⟨fCF_10, ⟨fCF_11, ⟨fCF_12, ⟨fCF_13, ⟨fCF_14, ⟨fCF_15, ⟨fCF_16, ⟨fCF_17, ⟨fCF_18, ⟨fCF_19, ⟨fCF_20, ⟨fCF_21, ⟨fCF_22, ⟨fCF_23, ⟨fCF_24, ⟨fCF_25, ⟨fCF_26, ⟨fCF_27, ⟨fCF_28, ⟨fCF_29, ⟨fCF_30, ⟨fCF_31, ⟨fCF_32, ⟨fCF_33, ⟨fCF_34, ⟨fCF_35, ⟨fCF_36, ⟨fCF_37, ⟨fCF_38, ⟨fCF_39, ⟨fCF_40, ⟨fCF_41, ⟨fCF_42, ⟨fCF_43, ⟨fCF_44, ⟨fCF_45, ⟨fCF_46, ⟨fCF_47, ⟨fCF_48, ⟨fCF_49, ⟨fCF_50, ⟨fCF_51, ⟨fCF_52, ⟨fCF_53, ⟨fCF_54, ⟨fCF_55, ⟨fCF_56, ⟨fCF_57, ⟨fCF_58, ⟨fCF_59, ⟨fCF_60, ⟨fCF_61, ⟨fCF_62, ⟨fCF_63, ⟨fCF_64, ⟨fCF_65, ⟨fCF_66, ⟨fCF_67, ⟨fCF_68, ⟨fCF_69, ⟨fCF_70, ⟨fCF_71, ⟨fCF_72, ⟨fCF_73, ⟨fCF_74, ⟨fCF_75, ⟨fCF_76, ⟨fCF_77, ⟨fCF_78, ⟨fCF_79, ⟨fCF_80, ⟨fCF_81, ⟨fCF_82, ⟨fCF_83, ⟨fCF_84, ⟨fCF_85, ⟨fCF_86, ⟨fCF_87, ⟨fCF_88, ⟨fCF_89, ⟨fCF_90, ⟨fCF_91, ⟨fCF_92, ⟨fCF_93, ⟨fCF_94, ⟨fCF_95, ⟨fCF_96, ⟨fCF_97, ⟨fCF_98, ⟨fCF_99, ⟨fCF_100, ⟨fCF_101, ⟨fCF_102, ⟨fCF_103, ⟨fCF_104, ⟨fCF_105, ⟨fCF_106, ⟨fCF_107, ⟨fCF_108, ⟨fCF_109, ⟨fCF_110, ⟨fCF_111, ⟨fCF_112, ⟨fCF_113, ⟨fCF_114, ⟨fCF_115, ⟨fCF_116, ⟨fCF_117, ⟨fCF_118, ⟨fCF_119, ⟨fCF_120, ⟨fCF_121, ⟨fCF_122, ⟨fCF_123, ⟨fCF_124, ⟨fCF_125, ⟨fCF_126, ⟨fCF_127, ⟨fCF_128, ⟨fCF_129, ⟨fCF_130, ⟨fCF_131, ⟨fCF_132, ⟨fCF_133, ⟨fCF_134, ⟨fCF_135, ⟨fCF_136, ⟨fCF_137, ⟨fCF_138, ⟨fCF_139, ⟨fCF_140, ⟨fCF_141, ⟨fCF_142, ⟨fCF_143, ⟨fCF_144, ⟨fCF_145, ⟨fCF_146, ⟨fCF_147, ⟨fCF_148, ⟨fCF_149, ⟨fCF_150, ⟨fCF_151, ⟨fCF_152, ⟨fCF_153, ⟨fCF_154, ⟨fCF_155, ⟨fCF_156, ⟨fCF_157, ⟨fCF_158, ⟨fCF_159, ⟨fCF_160, ⟨fCF_161, ⟨fCF_162, ⟨fCF_163, ⟨fCF_164, ⟨fCF_165, ⟨fCF_166, ⟨fCF_167, ⟨fCF_168, ⟨fCF_169, ⟨fCF_170, ⟨fCF_171, ⟨fCF_172, ⟨fCF_173, ⟨fCF_174, ⟨fCF_175, ⟨fCF_176, ⟨fCF_177, ⟨fCF_178, ⟨fCF_179, ⟨fCF_180, ⟨fCF_181, ⟨fCF_182, ⟨fCF_183, ⟨fCF_184, ⟨fCF_185, ⟨fCF_186, ⟨fCF_187, ⟨fCF_188, ⟨fCF_189, ⟨fCF_190, ⟨fCF_191, ⟨fCF_192, ⟨fCF_193, ⟨fCF_194, ⟨fCF_195, ⟨fCF_196, ⟨fCF_197, ⟨fCF_198, ⟨fCF_199, ⟨fCF_200, ⟨fCF_201, ⟨fCF_202, ⟨fCF_203, ⟨fCF_204, ⟨fCF_205, ⟨fCF_206, ⟨fCF_207, ⟨fCF_208, ⟨fCF_209, ⟨fCF_210, ⟨fCF_211, ⟨fCF_212, ⟨fCF_213, ⟨fCF_214, ⟨fCF_215, ⟨fCF_216, ⟨fCF_217, ⟨fCF_218, ⟨fCF_219, ⟨fCF_220, ⟨fCF_221, ⟨fCF_222, ⟨fCF_223, ⟨fCF_224, ⟨fCF_225, ⟨fCF_226, ⟨fCF_227, ⟨fCF_228, ⟨fCF_229, ⟨fCF_230, ⟨fCF_231, ⟨fCF_232, ⟨fCF_233, ⟨fCF_234, ⟨fCF_235, ⟨fCF_236, ⟨fCF_237, ⟨fCF_238, ⟨fCF_239, ⟨fCF_240, ⟨fCF_241, ⟨fCF_242, ⟨fCF_243, ⟨fCF_244, ⟨fCF_245, ⟨fCF_246, ⟨fCF_247, ⟨fCF_248, ⟨fCF_249, ⟨fCF_250, ⟨fCF_251, ⟨fCF_252, ⟨fCF_253, ⟨fCF_254, ⟨fCF_255, ⟨fCF_256, ⟨fCF_257, ⟨fCF_258, ⟨fCF_259, ⟨fCF_260, ⟨fCF_261, ⟨fCF_262, ⟨fCF_263, ⟨fCF_264, ⟨fCF_265, ⟨fCF_266, ⟨fCF_267, ⟨fCF_268, ⟨fCF_269, ⟨fCF_270, ⟨fCF_271, ⟨fCF_272, ⟨fCF_273, ⟨fCF_274, ⟨fCF_275, ⟨fCF_276, ⟨fCF_277, ⟨fCF_278, ⟨fCF_279, ⟨fCF_280, ⟨fCF_281, ⟨fCF_282, ⟨fCF_283, ⟨fCF_284, ⟨fCF_285, ⟨fCF_286, ⟨fCF_287, ⟨fCF_288, ⟨fCF_289, ⟨fCF_290, ⟨fCF_291, ⟨fCF_292, ⟨fCF_293, ⟨fCF_294, ⟨fCF_295, ⟨fCF_296, ⟨fCF_297, ⟨fCF_298, ⟨fCF_299, ⟨fCF_300, ⟨fCF_301, ⟨fCF_302, ⟨fCF_303, ⟨fCF_304, ⟨fCF_305, ⟨fCF_306, ⟨fCF_307, ⟨fCF_308, ⟨fCF_309, ⟨fCF_310, ⟨fCF_311, ⟨fCF_312, ⟨fCF_313, ⟨fCF_314, ⟨fCF_315, ⟨fCF_316, ⟨fCF_317, ⟨fCF_318, ⟨fCF_319, ⟨fCF_320, trivial⟩⟩⟩⟩⟩⟩⟩⟩⟩⟩⟩⟩⟩⟩⟩⟩⟩⟩⟩⟩⟩⟩⟩⟩⟩⟩⟩⟩⟩⟩⟩⟩⟩⟩⟩⟩⟩⟩⟩⟩⟩⟩⟩⟩⟩⟩⟩⟩⟩⟩⟩⟩⟩⟩⟩⟩⟩⟩⟩⟩⟩⟩⟩⟩⟩⟩⟩⟩⟩⟩⟩⟩⟩⟩⟩⟩⟩⟩⟩⟩⟩⟩⟩⟩⟩⟩⟩⟩⟩⟩⟩⟩⟩⟩⟩⟩⟩⟩⟩⟩⟩⟩⟩⟩⟩⟩⟩⟩⟩⟩⟩⟩⟩⟩⟩⟩⟩⟩⟩⟩⟩⟩⟩⟩⟩⟩⟩⟩⟩⟩⟩⟩⟩⟩⟩⟩⟩⟩⟩⟩⟩⟩⟩⟩⟩⟩⟩⟩⟩⟩⟩⟩⟩⟩⟩⟩⟩⟩⟩⟩⟩⟩⟩⟩⟩⟩⟩⟩⟩⟩⟩⟩⟩⟩⟩⟩⟩⟩⟩⟩⟩⟩⟩⟩⟩⟩⟩⟩⟩⟩⟩⟩⟩⟩⟩⟩⟩⟩⟩⟩⟩⟩⟩⟩⟩⟩⟩⟩⟩⟩⟩⟩⟩⟩⟩⟩⟩⟩⟩⟩⟩⟩⟩⟩⟩⟩⟩⟩⟩⟩⟩⟩⟩⟩⟩⟩⟩⟩⟩⟩⟩⟩⟩⟩⟩⟩⟩⟩⟩⟩⟩⟩⟩⟩⟩⟩⟩⟩⟩⟩⟩⟩⟩⟩⟩⟩⟩⟩⟩⟩⟩⟩⟩⟩⟩⟩⟩⟩⟩⟩⟩⟩⟩⟩⟩⟩⟩⟩⟩⟩⟩⟩⟩⟩⟩⟩⟩⟩⟩⟩⟩⟩⟩⟩⟩⟩⟩⟩⟩⟩⟩⟩⟩⟩⟩⟩⟩⟩⟩⟩⟩
theorem fCF_all : ∀ a ci n kd, tCF[a]? = some (ci, n, kd) → cfok gP a ci n kd := fun a ci n kd h => by
  have := allIdx_at fCF_idx h
  rw [Nat.zero_add] at this
  exact this
set_option maxRecDepth 100000 in
theorem fOI_all : ∀ t ∈ tOI, Cond.methodLink (cname t.1) t.2.1 objectInit ∈ lw_good := List.forall_mem_cons.mpr ⟨gm 344 (by decide +kernel), List.forall_mem_cons.mpr ⟨gm 525 (by decide +kernel), List.forall_mem_cons.mpr ⟨gm 582 (by decide +kernel), List.forall_mem_cons.mpr ⟨gm 322 (by decide +kernel), List.forall_mem_cons.mpr ⟨gm 182 (by decide +kernel), List.forall_mem_cons.mpr ⟨gm 553 (by decide +kernel), List.forall_mem_cons.mpr ⟨gm 460 (by decide +kernel), List.forall_mem_cons.mpr ⟨gm 295 (by decide +kernel), List.forall_mem_cons.mpr ⟨gm 269 (by decide +kernel), List.forall_mem_cons.mpr ⟨gm 289 (by decide +kernel), List.forall_mem_cons.mpr ⟨gm 506 (by decide +kernel), List.forall_mem_cons.mpr ⟨gm 174 (by decide +kernel), List.forall_mem_cons.mpr ⟨gm 1506 (by decide +kernel), (fun _ h => by cases h)⟩⟩⟩⟩⟩⟩⟩⟩⟩⟩⟩⟩⟩
set_option maxRecDepth 100000 in
theorem fAC_all : ∀ t ∈ tAC, Cond.methodLink (cname t.1) t.2.1 arraycopyName ∈ lw_good := List.forall_mem_cons.mpr ⟨gm 1310 (by decide +kernel), List.forall_mem_cons.mpr ⟨gm 1382 (by decide +kernel), List.forall_mem_cons.mpr ⟨gm 634 (by decide +kernel), List.forall_mem_cons.mpr ⟨gm 1339 (by decide +kernel), (fun _ h => by cases h)⟩⟩⟩⟩
set_option maxRecDepth 100000 in
theorem fSL_all : ∀ t ∈ tSL, (t.2.2 = 900 ∧ Cond.methodLink RX4 t.2.1 ⟨"java/lang/String", "length", "()I"⟩ ∈ lw_good) ∨ (t.2.2 = 901 ∧ Cond.methodLink RX4 t.2.1 ⟨"java/lang/String", "charAt", "(I)C"⟩ ∈ lw_good) ∨ (t.2.2 = 902 ∧ Cond.methodLink RX4 t.2.1 ⟨"java/lang/String", "indexOf", "(I)I"⟩ ∈ lw_good) := List.forall_mem_cons.mpr ⟨Or.inl ⟨rfl, gm 184 (by decide +kernel)⟩, List.forall_mem_cons.mpr ⟨Or.inr (Or.inl ⟨rfl, gm 194 (by decide +kernel)⟩), List.forall_mem_cons.mpr ⟨Or.inr (Or.inr ⟨rfl, gm 751 (by decide +kernel)⟩), (fun _ h => by cases h)⟩⟩⟩
set_option maxRecDepth 100000 in
theorem fMX_all : ∀ t ∈ tMX, (t.2.2 = 1 ∧ Cond.methodLink (cname t.1) t.2.1 Lib.Math.max.name ∈ lw_good ∧ Cond.static Lib.Math.max.name ∈ lw_good ∧ Cond.code Lib.Math.max.name Lib.Math.max.code 2 (some .int) ∈ lw_good) ∨ (t.2.2 = 2 ∧ Cond.methodLink (cname t.1) t.2.1 Lib.Math.min.name ∈ lw_good ∧ Cond.static Lib.Math.min.name ∈ lw_good ∧ Cond.code Lib.Math.min.name Lib.Math.min.code 2 (some .int) ∈ lw_good) := List.forall_mem_cons.mpr ⟨Or.inr ⟨rfl, gm 1315 (by decide +kernel), gm 770 (by decide +kernel), gm 771 (by decide +kernel)⟩, List.forall_mem_cons.mpr ⟨Or.inl ⟨rfl, gm 1441 (by decide +kernel), gm 767 (by decide +kernel), gm 768 (by decide +kernel)⟩, List.forall_mem_cons.mpr ⟨Or.inr ⟨rfl, gm 1173 (by decide +kernel), gm 770 (by decide +kernel), gm 771 (by decide +kernel)⟩, List.forall_mem_cons.mpr ⟨Or.inl ⟨rfl, gm 1174 (by decide +kernel), gm 767 (by decide +kernel), gm 768 (by decide +kernel)⟩, List.forall_mem_cons.mpr ⟨Or.inr ⟨rfl, gm 1338 (by decide +kernel), gm 770 (by decide +kernel), gm 771 (by decide +kernel)⟩, (fun _ h => by cases h)⟩⟩⟩⟩⟩
theorem fDC : ∀ ci q k, vwCl[ci]? = some q → k < q.2.2 → (q.2.1 k).1 = cname ci := by
  intro ci q k hq hk
  have hc : ci < 13 := (List.getElem?_eq_some_iff.mp hq).1
  have key : ∀ ci, ci < 13 → ∀ q, vwCl[ci]? = some q → ∀ k, k < q.2.2 → (q.2.1 k).1 = cname ci := by
    intro ci hci
    match ci, hci with
    | 0, _ => intro q hq; cases hq; decide +kernel
    | 1, _ => intro q hq; cases hq; decide +kernel
    | 2, _ => intro q hq; cases hq; decide +kernel
    | 3, _ => intro q hq; cases hq; decide +kernel
    | 4, _ => intro q hq; cases hq; decide +kernel
    | 5, _ => intro q hq; cases hq; decide +kernel
    | 6, _ => intro q hq; cases hq; decide +kernel
    | 7, _ => intro q hq; cases hq; decide +kernel
    | 8, _ => intro q hq; cases hq; decide +kernel
    | 9, _ => intro q hq; cases hq; decide +kernel
    | 10, _ => intro q hq; cases hq; decide +kernel
    | 11, _ => intro q hq; cases hq; decide +kernel
    | 12, _ => intro q hq; cases hq; decide +kernel
  exact key ci hc q hq k hk
set_option maxRecDepth 100000 in
theorem tabs_ok : tabs gP tFL tML tCF tKC tKL tCL tOI tAC tSL tMX := ⟨fFL_all, fML_all, fCF_all, fKC_all, fKL_all, fCL_all, ⟨fOI_all, gm 175 (by decide +kernel), gm 176 (by decide +kernel)⟩, ⟨fAC_all, gm 636 (by decide +kernel), gm 635 (by decide +kernel), gm 163 (by decide +kernel)⟩, fSL_all, ⟨gm 262 (by decide +kernel), gm 263 (by decide +kernel), gm 261 (by decide +kernel), gm 1777 (by decide +kernel)⟩, fDC, rfl, gm 166 (by decide +kernel), fMX_all⟩
