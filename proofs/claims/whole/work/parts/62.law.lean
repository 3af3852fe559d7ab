/-! the law's loop -/
theorem and31 (z : Int) : 0 ≤ bAnd z 31 ∧ bAnd z 31 ≤ 31 := by
  rw [bAnd_def]
  have e : (Int32.ofInt z &&& Int32.ofInt 31).toBitVec.toNat ≤ 31 := by
    show (Int32.ofInt z).toBitVec.toNat &&& 31 ≤ 31
    exact Nat.and_le_right
  rw [bv_I (by omega)]
  omega
theorem lCmp_rf (z : Int) : lCmp z z = 0 := by
  unfold lCmp
  rw [if_neg (by omega), if_pos rfl]
def SWL : List (Int × Nat) := [(0, 172), (1, 205), (2, 248), (3, 281), (4, 324), (5, 347), (6, 360), (7, 373), (8, 396), (9, 409), (10, 442), (11, 475), (12, 498), (13, 521), (14, 534), (15, 557), (16, 590), (17, 623), (18, 656), (19, 679), (20, 722), (21, 745), (22, 768), (23, 801), (24, 814), (25, 837), (26, 850), (27, 904), (28, 947), (29, 970), (30, 993)]
def goes (L : Nat) (x : Nat → Int) (b i pc : Nat) (σ : St) : Prop := ∃ σ2 d' cn' sg' im', run 148 pc [vS b, vR 1, vR 24, vI (i : Int)] [] σ = run 148 1016 [vS b, vR 1, vR 24, vI (i : Int)] [] σ2 ∧ TS L x σ2 d' cn' sg' im'
set_option maxRecDepth 100000 in
set_option maxHeartbeats 4000000 in
theorem c_case0 {L : Nat} {x : Nat → Int} {b i : Nat} {d : Dat} {cn : Nat} {sg : Nat → Int} {im : Nat → Option Dat} {σ : St} (h : TS L x σ d cn sg im) (hi : i + 5 ≤ L) (hL : L ≤ 2560) (hx32 : ∀ j, -2147483648 ≤ x j ∧ x j < 2147483648) : goes L x b i 172 σ := by
  obtain ⟨σ1, σ2, k1, k2, hs1, hl1, hx1, hts⟩ := both (c_Fbank (x (i + 1)) (x (i + 2)) d cn sg) (m_Mbank (x (i + 1)) (x (i + 2)) d cn sg) h
  have hs : shp σ := h.1.1.1
  have hl : sl σ = L := h.2.2.2.2.1
  have hxx : sx σ = x := h.2.2.2.2.2.1
  have w1 : wr ((i : Int) + 1) = ((i + 1 : Nat) : Int) := by rw [wr_id (by omega) (by omega)]; omega
  have p1 : 0 ≤ ((i + 1 : Nat) : Int) ∧ ((i + 1 : Nat) : Int) < (sl σ : Int) := by omega
  have q1 : 0 ≤ ((i + 1 : Nat) : Int) ∧ ((i + 1 : Nat) : Int) < (sl σ1 : Int) := by omega
  have w2 : wr ((i : Int) + 2) = ((i + 2 : Nat) : Int) := by rw [wr_id (by omega) (by omega)]; omega
  have p2 : 0 ≤ ((i + 2 : Nat) : Int) ∧ ((i + 2 : Nat) : Int) < (sl σ : Int) := by omega
  have q2 : 0 ≤ ((i + 2 : Nat) : Int) ∧ ((i + 2 : Nat) : Int) < (sl σ1 : Int) := by omega
  refine ⟨σ2, _, _, _, _, ?_, hts⟩
  simp (disch := first | assumption | (exact Nat.le_of_ble_eq_true rfl) | (exact shp_fok (by assumption) (by decide)) | (exact Or.inr rfl) | fail) only [e148_172, e148_173, e148_174, e148_175, e148_176, e148_177, e148_178, e148_179, e148_180, e148_181, e148_182, e148_183, e148_186, e148_187, e148_188, e148_189, e148_190, e148_191, e148_192, e148_193, e148_194, e148_195, e148_196, e148_197, e148_200, e148_203, e148_204, eq_self, ne_a, ne_b, ne_c, Nat.reduceEqDiff, lt0, bnd_ok, psh_I, psh_L, psh_R, psh_U, gt_sr, gr_sr, sk_sr, nn_sr, ↓reduceIte, Int.toNat_natCast, Int.reduceToNat, w1, w2, hxx, hx1, k1, k2]
set_option maxRecDepth 100000 in
set_option maxHeartbeats 4000000 in
theorem c_case1 {L : Nat} {x : Nat → Int} {b i : Nat} {d : Dat} {cn : Nat} {sg : Nat → Int} {im : Nat → Option Dat} {σ : St} (h : TS L x σ d cn sg im) (hi : i + 5 ≤ L) (hL : L ≤ 2560) (hx32 : ∀ j, -2147483648 ≤ x j ∧ x j < 2147483648) : goes L x b i 205 σ := by
  obtain ⟨σ1, σ2, k1, k2, hs1, hl1, hx1, hts⟩ := both (c_Fcell (x (i + 1)) (x (i + 2)) (x (i + 3)) d cn sg) (m_Mcell (x (i + 1)) (x (i + 2)) (x (i + 3)) d cn sg) h
  have hs : shp σ := h.1.1.1
  have hl : sl σ = L := h.2.2.2.2.1
  have hxx : sx σ = x := h.2.2.2.2.2.1
  have w1 : wr ((i : Int) + 1) = ((i + 1 : Nat) : Int) := by rw [wr_id (by omega) (by omega)]; omega
  have p1 : 0 ≤ ((i + 1 : Nat) : Int) ∧ ((i + 1 : Nat) : Int) < (sl σ : Int) := by omega
  have q1 : 0 ≤ ((i + 1 : Nat) : Int) ∧ ((i + 1 : Nat) : Int) < (sl σ1 : Int) := by omega
  have w2 : wr ((i : Int) + 2) = ((i + 2 : Nat) : Int) := by rw [wr_id (by omega) (by omega)]; omega
  have p2 : 0 ≤ ((i + 2 : Nat) : Int) ∧ ((i + 2 : Nat) : Int) < (sl σ : Int) := by omega
  have q2 : 0 ≤ ((i + 2 : Nat) : Int) ∧ ((i + 2 : Nat) : Int) < (sl σ1 : Int) := by omega
  have w3 : wr ((i : Int) + 3) = ((i + 3 : Nat) : Int) := by rw [wr_id (by omega) (by omega)]; omega
  have p3 : 0 ≤ ((i + 3 : Nat) : Int) ∧ ((i + 3 : Nat) : Int) < (sl σ : Int) := by omega
  have q3 : 0 ≤ ((i + 3 : Nat) : Int) ∧ ((i + 3 : Nat) : Int) < (sl σ1 : Int) := by omega
  refine ⟨σ2, _, _, _, _, ?_, hts⟩
  simp (disch := first | assumption | (exact Nat.le_of_ble_eq_true rfl) | (exact shp_fok (by assumption) (by decide)) | (exact Or.inr rfl) | fail) only [e148_205, e148_206, e148_207, e148_208, e148_209, e148_210, e148_211, e148_212, e148_213, e148_214, e148_215, e148_216, e148_217, e148_218, e148_219, e148_220, e148_221, e148_224, e148_225, e148_226, e148_227, e148_228, e148_229, e148_230, e148_231, e148_232, e148_233, e148_234, e148_235, e148_236, e148_237, e148_238, e148_239, e148_240, e148_243, e148_246, e148_247, eq_self, ne_a, ne_b, ne_c, Nat.reduceEqDiff, lt0, bnd_ok, psh_I, psh_L, psh_R, psh_U, gt_sr, gr_sr, sk_sr, nn_sr, ↓reduceIte, Int.toNat_natCast, Int.reduceToNat, w1, w2, w3, hxx, hx1, k1, k2]
set_option maxRecDepth 100000 in
set_option maxHeartbeats 4000000 in
theorem c_case2 {L : Nat} {x : Nat → Int} {b i : Nat} {d : Dat} {cn : Nat} {sg : Nat → Int} {im : Nat → Option Dat} {σ : St} (h : TS L x σ d cn sg im) (hi : i + 5 ≤ L) (hL : L ≤ 2560) (hx32 : ∀ j, -2147483648 ≤ x j ∧ x j < 2147483648) : goes L x b i 248 σ := by
  obtain ⟨σ1, σ2, k1, k2, hs1, hl1, hx1, hts⟩ := both (c_Fset (x (i + 1)) (x (i + 2)) d cn sg) (m_Mset (x (i + 1)) (x (i + 2)) d cn sg) h
  have hs : shp σ := h.1.1.1
  have hl : sl σ = L := h.2.2.2.2.1
  have hxx : sx σ = x := h.2.2.2.2.2.1
  have w1 : wr ((i : Int) + 1) = ((i + 1 : Nat) : Int) := by rw [wr_id (by omega) (by omega)]; omega
  have p1 : 0 ≤ ((i + 1 : Nat) : Int) ∧ ((i + 1 : Nat) : Int) < (sl σ : Int) := by omega
  have q1 : 0 ≤ ((i + 1 : Nat) : Int) ∧ ((i + 1 : Nat) : Int) < (sl σ1 : Int) := by omega
  have w2 : wr ((i : Int) + 2) = ((i + 2 : Nat) : Int) := by rw [wr_id (by omega) (by omega)]; omega
  have p2 : 0 ≤ ((i + 2 : Nat) : Int) ∧ ((i + 2 : Nat) : Int) < (sl σ : Int) := by omega
  have q2 : 0 ≤ ((i + 2 : Nat) : Int) ∧ ((i + 2 : Nat) : Int) < (sl σ1 : Int) := by omega
  refine ⟨σ2, _, _, _, _, ?_, hts⟩
  simp (disch := first | assumption | (exact Nat.le_of_ble_eq_true rfl) | (exact shp_fok (by assumption) (by decide)) | (exact Or.inr rfl) | fail) only [e148_248, e148_249, e148_250, e148_251, e148_252, e148_253, e148_254, e148_255, e148_256, e148_257, e148_258, e148_259, e148_262, e148_263, e148_264, e148_265, e148_266, e148_267, e148_268, e148_269, e148_270, e148_271, e148_272, e148_273, e148_276, e148_279, e148_280, eq_self, ne_a, ne_b, ne_c, Nat.reduceEqDiff, lt0, bnd_ok, psh_I, psh_L, psh_R, psh_U, gt_sr, gr_sr, sk_sr, nn_sr, ↓reduceIte, Int.toNat_natCast, Int.reduceToNat, w1, w2, hxx, hx1, k1, k2]
set_option maxRecDepth 100000 in
set_option maxHeartbeats 4000000 in
theorem c_case3 {L : Nat} {x : Nat → Int} {b i : Nat} {d : Dat} {cn : Nat} {sg : Nat → Int} {im : Nat → Option Dat} {σ : St} (h : TS L x σ d cn sg im) (hi : i + 5 ≤ L) (hL : L ≤ 2560) (hx32 : ∀ j, -2147483648 ≤ x j ∧ x j < 2147483648) : goes L x b i 281 σ := by
  obtain ⟨σ1, σ2, k1, k2, hs1, hl1, hx1, hts⟩ := both (c_Fshape (x (i + 1)) (x (i + 2)) (x (i + 3)) d cn sg) (m_Mshape (x (i + 1)) (x (i + 2)) (x (i + 3)) d cn sg) h
  have hs : shp σ := h.1.1.1
  have hl : sl σ = L := h.2.2.2.2.1
  have hxx : sx σ = x := h.2.2.2.2.2.1
  have w1 : wr ((i : Int) + 1) = ((i + 1 : Nat) : Int) := by rw [wr_id (by omega) (by omega)]; omega
  have p1 : 0 ≤ ((i + 1 : Nat) : Int) ∧ ((i + 1 : Nat) : Int) < (sl σ : Int) := by omega
  have q1 : 0 ≤ ((i + 1 : Nat) : Int) ∧ ((i + 1 : Nat) : Int) < (sl σ1 : Int) := by omega
  have w2 : wr ((i : Int) + 2) = ((i + 2 : Nat) : Int) := by rw [wr_id (by omega) (by omega)]; omega
  have p2 : 0 ≤ ((i + 2 : Nat) : Int) ∧ ((i + 2 : Nat) : Int) < (sl σ : Int) := by omega
  have q2 : 0 ≤ ((i + 2 : Nat) : Int) ∧ ((i + 2 : Nat) : Int) < (sl σ1 : Int) := by omega
  have w3 : wr ((i : Int) + 3) = ((i + 3 : Nat) : Int) := by rw [wr_id (by omega) (by omega)]; omega
  have p3 : 0 ≤ ((i + 3 : Nat) : Int) ∧ ((i + 3 : Nat) : Int) < (sl σ : Int) := by omega
  have q3 : 0 ≤ ((i + 3 : Nat) : Int) ∧ ((i + 3 : Nat) : Int) < (sl σ1 : Int) := by omega
  refine ⟨σ2, _, _, _, _, ?_, hts⟩
  simp (disch := first | assumption | (exact Nat.le_of_ble_eq_true rfl) | (exact shp_fok (by assumption) (by decide)) | (exact Or.inr rfl) | fail) only [e148_281, e148_282, e148_283, e148_284, e148_285, e148_286, e148_287, e148_288, e148_289, e148_290, e148_291, e148_292, e148_293, e148_294, e148_295, e148_296, e148_297, e148_300, e148_301, e148_302, e148_303, e148_304, e148_305, e148_306, e148_307, e148_308, e148_309, e148_310, e148_311, e148_312, e148_313, e148_314, e148_315, e148_316, e148_319, e148_322, e148_323, eq_self, ne_a, ne_b, ne_c, Nat.reduceEqDiff, lt0, bnd_ok, psh_I, psh_L, psh_R, psh_U, gt_sr, gr_sr, sk_sr, nn_sr, ↓reduceIte, Int.toNat_natCast, Int.reduceToNat, w1, w2, w3, hxx, hx1, k1, k2]
set_option maxRecDepth 100000 in
set_option maxHeartbeats 4000000 in
theorem c_case4 {L : Nat} {x : Nat → Int} {b i : Nat} {d : Dat} {cn : Nat} {sg : Nat → Int} {im : Nat → Option Dat} {σ : St} (h : TS L x σ d cn sg im) (hi : i + 5 ≤ L) (hL : L ≤ 2560) (hx32 : ∀ j, -2147483648 ≤ x j ∧ x j < 2147483648) : goes L x b i 324 σ := by
  obtain ⟨σ1, σ2, k1, k2, hs1, hl1, hx1, hts⟩ := both (c_Fsay (x (i + 1)) d cn sg) (m_Msay (x (i + 1)) d cn sg) h
  have hs : shp σ := h.1.1.1
  have hl : sl σ = L := h.2.2.2.2.1
  have hxx : sx σ = x := h.2.2.2.2.2.1
  have w1 : wr ((i : Int) + 1) = ((i + 1 : Nat) : Int) := by rw [wr_id (by omega) (by omega)]; omega
  have p1 : 0 ≤ ((i + 1 : Nat) : Int) ∧ ((i + 1 : Nat) : Int) < (sl σ : Int) := by omega
  have q1 : 0 ≤ ((i + 1 : Nat) : Int) ∧ ((i + 1 : Nat) : Int) < (sl σ1 : Int) := by omega
  refine ⟨σ2, _, _, _, _, ?_, hts⟩
  simp (disch := first | assumption | (exact Nat.le_of_ble_eq_true rfl) | (exact shp_fok (by assumption) (by decide)) | (exact Or.inr rfl) | fail) only [e148_324, e148_325, e148_326, e148_327, e148_328, e148_329, e148_330, e148_333, e148_334, e148_335, e148_336, e148_337, e148_338, e148_339, e148_342, e148_345, e148_346, eq_self, ne_a, ne_b, ne_c, Nat.reduceEqDiff, lt0, bnd_ok, psh_I, psh_L, psh_R, psh_U, gt_sr, gr_sr, sk_sr, nn_sr, ↓reduceIte, Int.toNat_natCast, Int.reduceToNat, w1, hxx, hx1, k1, k2]
set_option maxRecDepth 100000 in
set_option maxHeartbeats 4000000 in
theorem c_case5 {L : Nat} {x : Nat → Int} {b i : Nat} {d : Dat} {cn : Nat} {sg : Nat → Int} {im : Nat → Option Dat} {σ : St} (h : TS L x σ d cn sg im) (hi : i + 5 ≤ L) (hL : L ≤ 2560) (hx32 : ∀ j, -2147483648 ≤ x j ∧ x j < 2147483648) : goes L x b i 347 σ := by
  obtain ⟨σ1, σ2, k1, k2, hs1, hl1, hx1, hts⟩ := both (c_Fwipe  d cn sg) (m_Mwipe  d cn sg) h
  have hs : shp σ := h.1.1.1
  have hl : sl σ = L := h.2.2.2.2.1
  have hxx : sx σ = x := h.2.2.2.2.2.1
  refine ⟨σ2, _, _, _, _, ?_, hts⟩
  simp (disch := first | assumption | (exact Nat.le_of_ble_eq_true rfl) | (exact shp_fok (by assumption) (by decide)) | (exact Or.inr rfl) | fail) only [e148_347, e148_348, e148_351, e148_352, e148_355, e148_358, e148_359, eq_self, ne_a, ne_b, ne_c, Nat.reduceEqDiff, lt0, bnd_ok, psh_I, psh_L, psh_R, psh_U, gt_sr, gr_sr, sk_sr, nn_sr, ↓reduceIte, Int.toNat_natCast, Int.reduceToNat, hxx, hx1, k1, k2]
set_option maxRecDepth 100000 in
set_option maxHeartbeats 4000000 in
theorem c_case6 {L : Nat} {x : Nat → Int} {b i : Nat} {d : Dat} {cn : Nat} {sg : Nat → Int} {im : Nat → Option Dat} {σ : St} (h : TS L x σ d cn sg im) (hi : i + 5 ≤ L) (hL : L ≤ 2560) (hx32 : ∀ j, -2147483648 ≤ x j ∧ x j < 2147483648) : goes L x b i 360 σ := by
  obtain ⟨σ1, σ2, k1, k2, hs1, hl1, hx1, hts⟩ := both (c_Ffault  d cn sg) (m_Mfault  d cn sg) h
  have hs : shp σ := h.1.1.1
  have hl : sl σ = L := h.2.2.2.2.1
  have hxx : sx σ = x := h.2.2.2.2.2.1
  refine ⟨σ2, _, _, _, _, ?_, hts⟩
  simp (disch := first | assumption | (exact Nat.le_of_ble_eq_true rfl) | (exact shp_fok (by assumption) (by decide)) | (exact Or.inr rfl) | fail) only [e148_360, e148_361, e148_364, e148_365, e148_368, e148_371, e148_372, eq_self, ne_a, ne_b, ne_c, Nat.reduceEqDiff, lt0, bnd_ok, psh_I, psh_L, psh_R, psh_U, gt_sr, gr_sr, sk_sr, nn_sr, ↓reduceIte, Int.toNat_natCast, Int.reduceToNat, hxx, hx1, k1, k2]
set_option maxRecDepth 100000 in
set_option maxHeartbeats 4000000 in
theorem c_case7 {L : Nat} {x : Nat → Int} {b i : Nat} {d : Dat} {cn : Nat} {sg : Nat → Int} {im : Nat → Option Dat} {σ : St} (h : TS L x σ d cn sg im) (hi : i + 5 ≤ L) (hL : L ≤ 2560) (hx32 : ∀ j, -2147483648 ≤ x j ∧ x j < 2147483648) : goes L x b i 373 σ := by
  obtain ⟨σ1, σ2, k1, k2, hs1, hl1, hx1, hts⟩ := both (c_Fjudge (x (i + 1)) d cn sg) (m_Mjudge (x (i + 1)) d cn sg) h
  have hs : shp σ := h.1.1.1
  have hl : sl σ = L := h.2.2.2.2.1
  have hxx : sx σ = x := h.2.2.2.2.2.1
  have w1 : wr ((i : Int) + 1) = ((i + 1 : Nat) : Int) := by rw [wr_id (by omega) (by omega)]; omega
  have p1 : 0 ≤ ((i + 1 : Nat) : Int) ∧ ((i + 1 : Nat) : Int) < (sl σ : Int) := by omega
  have q1 : 0 ≤ ((i + 1 : Nat) : Int) ∧ ((i + 1 : Nat) : Int) < (sl σ1 : Int) := by omega
  refine ⟨σ2, _, _, _, _, ?_, hts⟩
  simp (disch := first | assumption | (exact Nat.le_of_ble_eq_true rfl) | (exact shp_fok (by assumption) (by decide)) | (exact Or.inr rfl) | fail) only [e148_373, e148_374, e148_375, e148_376, e148_377, e148_378, e148_379, e148_382, e148_383, e148_384, e148_385, e148_386, e148_387, e148_388, e148_391, e148_394, e148_395, eq_self, ne_a, ne_b, ne_c, Nat.reduceEqDiff, lt0, bnd_ok, psh_I, psh_L, psh_R, psh_U, gt_sr, gr_sr, sk_sr, nn_sr, ↓reduceIte, Int.toNat_natCast, Int.reduceToNat, w1, hxx, hx1, k1, k2]
set_option maxRecDepth 100000 in
set_option maxHeartbeats 4000000 in
theorem c_case8 {L : Nat} {x : Nat → Int} {b i : Nat} {d : Dat} {cn : Nat} {sg : Nat → Int} {im : Nat → Option Dat} {σ : St} (h : TS L x σ d cn sg im) (hi : i + 5 ≤ L) (hL : L ≤ 2560) (hx32 : ∀ j, -2147483648 ≤ x j ∧ x j < 2147483648) : goes L x b i 396 σ := by
  obtain ⟨σ1, σ2, k1, k2, hs1, hl1, hx1, hts⟩ := both (c_Fdone  d cn sg) (m_Mdone  d cn sg) h
  have hs : shp σ := h.1.1.1
  have hl : sl σ = L := h.2.2.2.2.1
  have hxx : sx σ = x := h.2.2.2.2.2.1
  refine ⟨σ2, _, _, _, _, ?_, hts⟩
  simp (disch := first | assumption | (exact Nat.le_of_ble_eq_true rfl) | (exact shp_fok (by assumption) (by decide)) | (exact Or.inr rfl) | fail) only [e148_396, e148_397, e148_400, e148_401, e148_404, e148_407, e148_408, eq_self, ne_a, ne_b, ne_c, Nat.reduceEqDiff, lt0, bnd_ok, psh_I, psh_L, psh_R, psh_U, gt_sr, gr_sr, sk_sr, nn_sr, ↓reduceIte, Int.toNat_natCast, Int.reduceToNat, hxx, hx1, k1, k2]
set_option maxRecDepth 100000 in
set_option maxHeartbeats 4000000 in
theorem c_case9 {L : Nat} {x : Nat → Int} {b i : Nat} {d : Dat} {cn : Nat} {sg : Nat → Int} {im : Nat → Option Dat} {σ : St} (h : TS L x σ d cn sg im) (hi : i + 5 ≤ L) (hL : L ≤ 2560) (hx32 : ∀ j, -2147483648 ≤ x j ∧ x j < 2147483648) : goes L x b i 409 σ := by
  obtain ⟨σ1, σ2, k1, k2, hs1, hl1, hx1, hts⟩ := both (c_Fstate (x (i + 1)) (x (i + 2)) d cn sg) (m_Mstate (x (i + 1)) (x (i + 2)) d cn sg) h
  have hs : shp σ := h.1.1.1
  have hl : sl σ = L := h.2.2.2.2.1
  have hxx : sx σ = x := h.2.2.2.2.2.1
  have w1 : wr ((i : Int) + 1) = ((i + 1 : Nat) : Int) := by rw [wr_id (by omega) (by omega)]; omega
  have p1 : 0 ≤ ((i + 1 : Nat) : Int) ∧ ((i + 1 : Nat) : Int) < (sl σ : Int) := by omega
  have q1 : 0 ≤ ((i + 1 : Nat) : Int) ∧ ((i + 1 : Nat) : Int) < (sl σ1 : Int) := by omega
  have w2 : wr ((i : Int) + 2) = ((i + 2 : Nat) : Int) := by rw [wr_id (by omega) (by omega)]; omega
  have p2 : 0 ≤ ((i + 2 : Nat) : Int) ∧ ((i + 2 : Nat) : Int) < (sl σ : Int) := by omega
  have q2 : 0 ≤ ((i + 2 : Nat) : Int) ∧ ((i + 2 : Nat) : Int) < (sl σ1 : Int) := by omega
  refine ⟨σ2, _, _, _, _, ?_, hts⟩
  simp (disch := first | assumption | (exact Nat.le_of_ble_eq_true rfl) | (exact shp_fok (by assumption) (by decide)) | (exact Or.inr rfl) | fail) only [e148_409, e148_410, e148_411, e148_412, e148_413, e148_414, e148_415, e148_416, e148_417, e148_418, e148_419, e148_420, e148_423, e148_424, e148_425, e148_426, e148_427, e148_428, e148_429, e148_430, e148_431, e148_432, e148_433, e148_434, e148_437, e148_440, e148_441, eq_self, ne_a, ne_b, ne_c, Nat.reduceEqDiff, lt0, bnd_ok, psh_I, psh_L, psh_R, psh_U, gt_sr, gr_sr, sk_sr, nn_sr, ↓reduceIte, Int.toNat_natCast, Int.reduceToNat, w1, w2, hxx, hx1, k1, k2]
set_option maxRecDepth 100000 in
set_option maxHeartbeats 4000000 in
theorem c_case10 {L : Nat} {x : Nat → Int} {b i : Nat} {d : Dat} {cn : Nat} {sg : Nat → Int} {im : Nat → Option Dat} {σ : St} (h : TS L x σ d cn sg im) (hi : i + 5 ≤ L) (hL : L ≤ 2560) (hx32 : ∀ j, -2147483648 ≤ x j ∧ x j < 2147483648) : goes L x b i 442 σ := by
  obtain ⟨σ1, σ2, k1, k2, hs1, hl1, hx1, hts⟩ := both (c_Fbehind (x (i + 1)) (x (i + 2)) d cn sg) (m_Mbehind (x (i + 1)) (x (i + 2)) d cn sg) h
  have hs : shp σ := h.1.1.1
  have hl : sl σ = L := h.2.2.2.2.1
  have hxx : sx σ = x := h.2.2.2.2.2.1
  have w1 : wr ((i : Int) + 1) = ((i + 1 : Nat) : Int) := by rw [wr_id (by omega) (by omega)]; omega
  have p1 : 0 ≤ ((i + 1 : Nat) : Int) ∧ ((i + 1 : Nat) : Int) < (sl σ : Int) := by omega
  have q1 : 0 ≤ ((i + 1 : Nat) : Int) ∧ ((i + 1 : Nat) : Int) < (sl σ1 : Int) := by omega
  have w2 : wr ((i : Int) + 2) = ((i + 2 : Nat) : Int) := by rw [wr_id (by omega) (by omega)]; omega
  have p2 : 0 ≤ ((i + 2 : Nat) : Int) ∧ ((i + 2 : Nat) : Int) < (sl σ : Int) := by omega
  have q2 : 0 ≤ ((i + 2 : Nat) : Int) ∧ ((i + 2 : Nat) : Int) < (sl σ1 : Int) := by omega
  refine ⟨σ2, _, _, _, _, ?_, hts⟩
  simp (disch := first | assumption | (exact Nat.le_of_ble_eq_true rfl) | (exact shp_fok (by assumption) (by decide)) | (exact Or.inr rfl) | fail) only [e148_442, e148_443, e148_444, e148_445, e148_446, e148_447, e148_448, e148_449, e148_450, e148_451, e148_452, e148_453, e148_456, e148_457, e148_458, e148_459, e148_460, e148_461, e148_462, e148_463, e148_464, e148_465, e148_466, e148_467, e148_470, e148_473, e148_474, eq_self, ne_a, ne_b, ne_c, Nat.reduceEqDiff, lt0, bnd_ok, psh_I, psh_L, psh_R, psh_U, gt_sr, gr_sr, sk_sr, nn_sr, ↓reduceIte, Int.toNat_natCast, Int.reduceToNat, w1, w2, hxx, hx1, k1, k2]
set_option maxRecDepth 100000 in
set_option maxHeartbeats 4000000 in
theorem c_case11 {L : Nat} {x : Nat → Int} {b i : Nat} {d : Dat} {cn : Nat} {sg : Nat → Int} {im : Nat → Option Dat} {σ : St} (h : TS L x σ d cn sg im) (hi : i + 5 ≤ L) (hL : L ≤ 2560) (hx32 : ∀ j, -2147483648 ≤ x j ∧ x j < 2147483648) : goes L x b i 475 σ := by
  obtain ⟨σ1, σ2, k1, k2, hs1, hl1, hx1, hts⟩ := both (c_Fstands (x (i + 1)) d cn sg) (m_Mstands (x (i + 1)) d cn sg) h
  have hs : shp σ := h.1.1.1
  have hl : sl σ = L := h.2.2.2.2.1
  have hxx : sx σ = x := h.2.2.2.2.2.1
  have w1 : wr ((i : Int) + 1) = ((i + 1 : Nat) : Int) := by rw [wr_id (by omega) (by omega)]; omega
  have p1 : 0 ≤ ((i + 1 : Nat) : Int) ∧ ((i + 1 : Nat) : Int) < (sl σ : Int) := by omega
  have q1 : 0 ≤ ((i + 1 : Nat) : Int) ∧ ((i + 1 : Nat) : Int) < (sl σ1 : Int) := by omega
  refine ⟨σ2, _, _, _, _, ?_, hts⟩
  simp (disch := first | assumption | (exact Nat.le_of_ble_eq_true rfl) | (exact shp_fok (by assumption) (by decide)) | (exact Or.inr rfl) | fail) only [e148_475, e148_476, e148_477, e148_478, e148_479, e148_480, e148_481, e148_484, e148_485, e148_486, e148_487, e148_488, e148_489, e148_490, e148_493, e148_496, e148_497, eq_self, ne_a, ne_b, ne_c, Nat.reduceEqDiff, lt0, bnd_ok, psh_I, psh_L, psh_R, psh_U, gt_sr, gr_sr, sk_sr, nn_sr, ↓reduceIte, Int.toNat_natCast, Int.reduceToNat, w1, hxx, hx1, k1, k2]
set_option maxRecDepth 100000 in
set_option maxHeartbeats 4000000 in
theorem c_case12 {L : Nat} {x : Nat → Int} {b i : Nat} {d : Dat} {cn : Nat} {sg : Nat → Int} {im : Nat → Option Dat} {σ : St} (h : TS L x σ d cn sg im) (hi : i + 5 ≤ L) (hL : L ≤ 2560) (hx32 : ∀ j, -2147483648 ≤ x j ∧ x j < 2147483648) : goes L x b i 498 σ := by
  obtain ⟨σ1, σ2, k1, k2, hs1, hl1, hx1, hts⟩ := both (c_Flost (x (i + 1)) d cn sg) (m_Mlost (x (i + 1)) d cn sg) h
  have hs : shp σ := h.1.1.1
  have hl : sl σ = L := h.2.2.2.2.1
  have hxx : sx σ = x := h.2.2.2.2.2.1
  have w1 : wr ((i : Int) + 1) = ((i + 1 : Nat) : Int) := by rw [wr_id (by omega) (by omega)]; omega
  have p1 : 0 ≤ ((i + 1 : Nat) : Int) ∧ ((i + 1 : Nat) : Int) < (sl σ : Int) := by omega
  have q1 : 0 ≤ ((i + 1 : Nat) : Int) ∧ ((i + 1 : Nat) : Int) < (sl σ1 : Int) := by omega
  refine ⟨σ2, _, _, _, _, ?_, hts⟩
  simp (disch := first | assumption | (exact Nat.le_of_ble_eq_true rfl) | (exact shp_fok (by assumption) (by decide)) | (exact Or.inr rfl) | fail) only [e148_498, e148_499, e148_500, e148_501, e148_502, e148_503, e148_504, e148_507, e148_508, e148_509, e148_510, e148_511, e148_512, e148_513, e148_516, e148_519, e148_520, eq_self, ne_a, ne_b, ne_c, Nat.reduceEqDiff, lt0, bnd_ok, psh_I, psh_L, psh_R, psh_U, gt_sr, gr_sr, sk_sr, nn_sr, ↓reduceIte, Int.toNat_natCast, Int.reduceToNat, w1, hxx, hx1, k1, k2]
set_option maxRecDepth 100000 in
set_option maxHeartbeats 4000000 in
theorem c_case13 {L : Nat} {x : Nat → Int} {b i : Nat} {d : Dat} {cn : Nat} {sg : Nat → Int} {im : Nat → Option Dat} {σ : St} (h : TS L x σ d cn sg im) (hi : i + 5 ≤ L) (hL : L ≤ 2560) (hx32 : ∀ j, -2147483648 ≤ x j ∧ x j < 2147483648) : goes L x b i 521 σ := by
  obtain ⟨σ1, σ2, k1, k2, hs1, hl1, hx1, hts⟩ := both (c_Fthrough  d cn sg) (m_Mthrough  d cn sg) h
  have hs : shp σ := h.1.1.1
  have hl : sl σ = L := h.2.2.2.2.1
  have hxx : sx σ = x := h.2.2.2.2.2.1
  refine ⟨σ2, _, _, _, _, ?_, hts⟩
  simp (disch := first | assumption | (exact Nat.le_of_ble_eq_true rfl) | (exact shp_fok (by assumption) (by decide)) | (exact Or.inr rfl) | fail) only [e148_521, e148_522, e148_525, e148_526, e148_529, e148_532, e148_533, eq_self, ne_a, ne_b, ne_c, Nat.reduceEqDiff, lt0, bnd_ok, psh_I, psh_L, psh_R, psh_U, gt_sr, gr_sr, sk_sr, nn_sr, ↓reduceIte, Int.toNat_natCast, Int.reduceToNat, hxx, hx1, k1, k2]
set_option maxRecDepth 100000 in
set_option maxHeartbeats 4000000 in
theorem c_case14 {L : Nat} {x : Nat → Int} {b i : Nat} {d : Dat} {cn : Nat} {sg : Nat → Int} {im : Nat → Option Dat} {σ : St} (h : TS L x σ d cn sg im) (hi : i + 5 ≤ L) (hL : L ≤ 2560) (hx32 : ∀ j, -2147483648 ≤ x j ∧ x j < 2147483648) : goes L x b i 534 σ := by
  obtain ⟨σ1, σ2, k1, k2, hs1, hl1, hx1, hts⟩ := both (c_Fcarved (x (i + 1)) d cn sg) (m_Mcarved (x (i + 1)) d cn sg) h
  have hs : shp σ := h.1.1.1
  have hl : sl σ = L := h.2.2.2.2.1
  have hxx : sx σ = x := h.2.2.2.2.2.1
  have w1 : wr ((i : Int) + 1) = ((i + 1 : Nat) : Int) := by rw [wr_id (by omega) (by omega)]; omega
  have p1 : 0 ≤ ((i + 1 : Nat) : Int) ∧ ((i + 1 : Nat) : Int) < (sl σ : Int) := by omega
  have q1 : 0 ≤ ((i + 1 : Nat) : Int) ∧ ((i + 1 : Nat) : Int) < (sl σ1 : Int) := by omega
  refine ⟨σ2, _, _, _, _, ?_, hts⟩
  simp (disch := first | assumption | (exact Nat.le_of_ble_eq_true rfl) | (exact shp_fok (by assumption) (by decide)) | (exact Or.inr rfl) | fail) only [e148_534, e148_535, e148_536, e148_537, e148_538, e148_539, e148_540, e148_543, e148_544, e148_545, e148_546, e148_547, e148_548, e148_549, e148_552, e148_555, e148_556, eq_self, ne_a, ne_b, ne_c, Nat.reduceEqDiff, lt0, bnd_ok, psh_I, psh_L, psh_R, psh_U, gt_sr, gr_sr, sk_sr, nn_sr, ↓reduceIte, Int.toNat_natCast, Int.reduceToNat, w1, hxx, hx1, k1, k2]
set_option maxRecDepth 100000 in
set_option maxHeartbeats 4000000 in
theorem c_case15 {L : Nat} {x : Nat → Int} {b i : Nat} {d : Dat} {cn : Nat} {sg : Nat → Int} {im : Nat → Option Dat} {σ : St} (h : TS L x σ d cn sg im) (hi : i + 5 ≤ L) (hL : L ≤ 2560) (hx32 : ∀ j, -2147483648 ≤ x j ∧ x j < 2147483648) : goes L x b i 557 σ := by
  obtain ⟨σ1, σ2, k1, k2, hs1, hl1, hx1, hts⟩ := both (c_FnowThen (x (i + 1)) (x (i + 2)) d cn sg) (m_MnowThen (x (i + 1)) (x (i + 2)) d cn sg) h
  have hs : shp σ := h.1.1.1
  have hl : sl σ = L := h.2.2.2.2.1
  have hxx : sx σ = x := h.2.2.2.2.2.1
  have w1 : wr ((i : Int) + 1) = ((i + 1 : Nat) : Int) := by rw [wr_id (by omega) (by omega)]; omega
  have p1 : 0 ≤ ((i + 1 : Nat) : Int) ∧ ((i + 1 : Nat) : Int) < (sl σ : Int) := by omega
  have q1 : 0 ≤ ((i + 1 : Nat) : Int) ∧ ((i + 1 : Nat) : Int) < (sl σ1 : Int) := by omega
  have w2 : wr ((i : Int) + 2) = ((i + 2 : Nat) : Int) := by rw [wr_id (by omega) (by omega)]; omega
  have p2 : 0 ≤ ((i + 2 : Nat) : Int) ∧ ((i + 2 : Nat) : Int) < (sl σ : Int) := by omega
  have q2 : 0 ≤ ((i + 2 : Nat) : Int) ∧ ((i + 2 : Nat) : Int) < (sl σ1 : Int) := by omega
  refine ⟨σ2, _, _, _, _, ?_, hts⟩
  simp (disch := first | assumption | (exact Nat.le_of_ble_eq_true rfl) | (exact shp_fok (by assumption) (by decide)) | (exact Or.inr rfl) | fail) only [e148_557, e148_558, e148_559, e148_560, e148_561, e148_562, e148_563, e148_564, e148_565, e148_566, e148_567, e148_568, e148_571, e148_572, e148_573, e148_574, e148_575, e148_576, e148_577, e148_578, e148_579, e148_580, e148_581, e148_582, e148_585, e148_588, e148_589, eq_self, ne_a, ne_b, ne_c, Nat.reduceEqDiff, lt0, bnd_ok, psh_I, psh_L, psh_R, psh_U, gt_sr, gr_sr, sk_sr, nn_sr, ↓reduceIte, Int.toNat_natCast, Int.reduceToNat, w1, w2, hxx, hx1, k1, k2]
set_option maxRecDepth 100000 in
set_option maxHeartbeats 4000000 in
theorem c_case16 {L : Nat} {x : Nat → Int} {b i : Nat} {d : Dat} {cn : Nat} {sg : Nat → Int} {im : Nat → Option Dat} {σ : St} (h : TS L x σ d cn sg im) (hi : i + 5 ≤ L) (hL : L ≤ 2560) (hx32 : ∀ j, -2147483648 ≤ x j ∧ x j < 2147483648) : goes L x b i 590 σ := by
  obtain ⟨σ1, σ2, k1, k2, hs1, hl1, hx1, hts⟩ := both (c_Fdark (x (i + 1)) (x (i + 2)) d cn sg) (m_Mdark (x (i + 1)) (x (i + 2)) d cn sg) h
  have hs : shp σ := h.1.1.1
  have hl : sl σ = L := h.2.2.2.2.1
  have hxx : sx σ = x := h.2.2.2.2.2.1
  have w1 : wr ((i : Int) + 1) = ((i + 1 : Nat) : Int) := by rw [wr_id (by omega) (by omega)]; omega
  have p1 : 0 ≤ ((i + 1 : Nat) : Int) ∧ ((i + 1 : Nat) : Int) < (sl σ : Int) := by omega
  have q1 : 0 ≤ ((i + 1 : Nat) : Int) ∧ ((i + 1 : Nat) : Int) < (sl σ1 : Int) := by omega
  have w2 : wr ((i : Int) + 2) = ((i + 2 : Nat) : Int) := by rw [wr_id (by omega) (by omega)]; omega
  have p2 : 0 ≤ ((i + 2 : Nat) : Int) ∧ ((i + 2 : Nat) : Int) < (sl σ : Int) := by omega
  have q2 : 0 ≤ ((i + 2 : Nat) : Int) ∧ ((i + 2 : Nat) : Int) < (sl σ1 : Int) := by omega
  refine ⟨σ2, _, _, _, _, ?_, hts⟩
  simp (disch := first | assumption | (exact Nat.le_of_ble_eq_true rfl) | (exact shp_fok (by assumption) (by decide)) | (exact Or.inr rfl) | fail) only [e148_590, e148_591, e148_592, e148_593, e148_594, e148_595, e148_596, e148_597, e148_598, e148_599, e148_600, e148_601, e148_604, e148_605, e148_606, e148_607, e148_608, e148_609, e148_610, e148_611, e148_612, e148_613, e148_614, e148_615, e148_618, e148_621, e148_622, eq_self, ne_a, ne_b, ne_c, Nat.reduceEqDiff, lt0, bnd_ok, psh_I, psh_L, psh_R, psh_U, gt_sr, gr_sr, sk_sr, nn_sr, ↓reduceIte, Int.toNat_natCast, Int.reduceToNat, w1, w2, hxx, hx1, k1, k2]
set_option maxRecDepth 100000 in
set_option maxHeartbeats 4000000 in
theorem c_case17 {L : Nat} {x : Nat → Int} {b i : Nat} {d : Dat} {cn : Nat} {sg : Nat → Int} {im : Nat → Option Dat} {σ : St} (h : TS L x σ d cn sg im) (hi : i + 5 ≤ L) (hL : L ≤ 2560) (hx32 : ∀ j, -2147483648 ≤ x j ∧ x j < 2147483648) : goes L x b i 623 σ := by
  obtain ⟨σ1, σ2, k1, k2, hs1, hl1, hx1, hts⟩ := both (c_Fmoved (x (i + 1)) (x (i + 2)) d cn sg) (m_Mmoved (x (i + 1)) (x (i + 2)) d cn sg) h
  have hs : shp σ := h.1.1.1
  have hl : sl σ = L := h.2.2.2.2.1
  have hxx : sx σ = x := h.2.2.2.2.2.1
  have w1 : wr ((i : Int) + 1) = ((i + 1 : Nat) : Int) := by rw [wr_id (by omega) (by omega)]; omega
  have p1 : 0 ≤ ((i + 1 : Nat) : Int) ∧ ((i + 1 : Nat) : Int) < (sl σ : Int) := by omega
  have q1 : 0 ≤ ((i + 1 : Nat) : Int) ∧ ((i + 1 : Nat) : Int) < (sl σ1 : Int) := by omega
  have w2 : wr ((i : Int) + 2) = ((i + 2 : Nat) : Int) := by rw [wr_id (by omega) (by omega)]; omega
  have p2 : 0 ≤ ((i + 2 : Nat) : Int) ∧ ((i + 2 : Nat) : Int) < (sl σ : Int) := by omega
  have q2 : 0 ≤ ((i + 2 : Nat) : Int) ∧ ((i + 2 : Nat) : Int) < (sl σ1 : Int) := by omega
  refine ⟨σ2, _, _, _, _, ?_, hts⟩
  simp (disch := first | assumption | (exact Nat.le_of_ble_eq_true rfl) | (exact shp_fok (by assumption) (by decide)) | (exact Or.inr rfl) | fail) only [e148_623, e148_624, e148_625, e148_626, e148_627, e148_628, e148_629, e148_630, e148_631, e148_632, e148_633, e148_634, e148_637, e148_638, e148_639, e148_640, e148_641, e148_642, e148_643, e148_644, e148_645, e148_646, e148_647, e148_648, e148_651, e148_654, e148_655, eq_self, ne_a, ne_b, ne_c, Nat.reduceEqDiff, lt0, bnd_ok, psh_I, psh_L, psh_R, psh_U, gt_sr, gr_sr, sk_sr, nn_sr, ↓reduceIte, Int.toNat_natCast, Int.reduceToNat, w1, w2, hxx, hx1, k1, k2]
set_option maxRecDepth 100000 in
set_option maxHeartbeats 4000000 in
theorem c_case18 {L : Nat} {x : Nat → Int} {b i : Nat} {d : Dat} {cn : Nat} {sg : Nat → Int} {im : Nat → Option Dat} {σ : St} (h : TS L x σ d cn sg im) (hi : i + 5 ≤ L) (hL : L ≤ 2560) (hx32 : ∀ j, -2147483648 ≤ x j ∧ x j < 2147483648) : goes L x b i 656 σ := by
  obtain ⟨σ1, σ2, k1, k2, hs1, hl1, hx1, hts⟩ := both (c_Fapart (x (i + 1)) d cn sg) (m_Mapart (x (i + 1)) d cn sg) h
  have hs : shp σ := h.1.1.1
  have hl : sl σ = L := h.2.2.2.2.1
  have hxx : sx σ = x := h.2.2.2.2.2.1
  have w1 : wr ((i : Int) + 1) = ((i + 1 : Nat) : Int) := by rw [wr_id (by omega) (by omega)]; omega
  have p1 : 0 ≤ ((i + 1 : Nat) : Int) ∧ ((i + 1 : Nat) : Int) < (sl σ : Int) := by omega
  have q1 : 0 ≤ ((i + 1 : Nat) : Int) ∧ ((i + 1 : Nat) : Int) < (sl σ1 : Int) := by omega
  refine ⟨σ2, _, _, _, _, ?_, hts⟩
  simp (disch := first | assumption | (exact Nat.le_of_ble_eq_true rfl) | (exact shp_fok (by assumption) (by decide)) | (exact Or.inr rfl) | fail) only [e148_656, e148_657, e148_658, e148_659, e148_660, e148_661, e148_662, e148_665, e148_666, e148_667, e148_668, e148_669, e148_670, e148_671, e148_674, e148_677, e148_678, eq_self, ne_a, ne_b, ne_c, Nat.reduceEqDiff, lt0, bnd_ok, psh_I, psh_L, psh_R, psh_U, gt_sr, gr_sr, sk_sr, nn_sr, ↓reduceIte, Int.toNat_natCast, Int.reduceToNat, w1, hxx, hx1, k1, k2]
set_option maxRecDepth 100000 in
set_option maxHeartbeats 4000000 in
theorem c_case19 {L : Nat} {x : Nat → Int} {b i : Nat} {d : Dat} {cn : Nat} {sg : Nat → Int} {im : Nat → Option Dat} {σ : St} (h : TS L x σ d cn sg im) (hi : i + 5 ≤ L) (hL : L ≤ 2560) (hx32 : ∀ j, -2147483648 ≤ x j ∧ x j < 2147483648) : goes L x b i 679 σ := by
  obtain ⟨σ1, σ2, k1, k2, hs1, hl1, hx1, hts⟩ := both (c_Fwalk (x (i + 1)) (x (i + 2)) (x (i + 3)) d cn sg) (m_Mwalk (x (i + 1)) (x (i + 2)) (x (i + 3)) d cn sg) h
  have hs : shp σ := h.1.1.1
  have hl : sl σ = L := h.2.2.2.2.1
  have hxx : sx σ = x := h.2.2.2.2.2.1
  have w1 : wr ((i : Int) + 1) = ((i + 1 : Nat) : Int) := by rw [wr_id (by omega) (by omega)]; omega
  have p1 : 0 ≤ ((i + 1 : Nat) : Int) ∧ ((i + 1 : Nat) : Int) < (sl σ : Int) := by omega
  have q1 : 0 ≤ ((i + 1 : Nat) : Int) ∧ ((i + 1 : Nat) : Int) < (sl σ1 : Int) := by omega
  have w2 : wr ((i : Int) + 2) = ((i + 2 : Nat) : Int) := by rw [wr_id (by omega) (by omega)]; omega
  have p2 : 0 ≤ ((i + 2 : Nat) : Int) ∧ ((i + 2 : Nat) : Int) < (sl σ : Int) := by omega
  have q2 : 0 ≤ ((i + 2 : Nat) : Int) ∧ ((i + 2 : Nat) : Int) < (sl σ1 : Int) := by omega
  have w3 : wr ((i : Int) + 3) = ((i + 3 : Nat) : Int) := by rw [wr_id (by omega) (by omega)]; omega
  have p3 : 0 ≤ ((i + 3 : Nat) : Int) ∧ ((i + 3 : Nat) : Int) < (sl σ : Int) := by omega
  have q3 : 0 ≤ ((i + 3 : Nat) : Int) ∧ ((i + 3 : Nat) : Int) < (sl σ1 : Int) := by omega
  refine ⟨σ2, _, _, _, _, ?_, hts⟩
  simp (disch := first | assumption | (exact Nat.le_of_ble_eq_true rfl) | (exact shp_fok (by assumption) (by decide)) | (exact Or.inr rfl) | fail) only [e148_679, e148_680, e148_681, e148_682, e148_683, e148_684, e148_685, e148_686, e148_687, e148_688, e148_689, e148_690, e148_691, e148_692, e148_693, e148_694, e148_695, e148_698, e148_699, e148_700, e148_701, e148_702, e148_703, e148_704, e148_705, e148_706, e148_707, e148_708, e148_709, e148_710, e148_711, e148_712, e148_713, e148_714, e148_717, e148_720, e148_721, eq_self, ne_a, ne_b, ne_c, Nat.reduceEqDiff, lt0, bnd_ok, psh_I, psh_L, psh_R, psh_U, gt_sr, gr_sr, sk_sr, nn_sr, ↓reduceIte, Int.toNat_natCast, Int.reduceToNat, w1, w2, w3, hxx, hx1, k1, k2]
set_option maxRecDepth 100000 in
set_option maxHeartbeats 4000000 in
theorem c_case20 {L : Nat} {x : Nat → Int} {b i : Nat} {d : Dat} {cn : Nat} {sg : Nat → Int} {im : Nat → Option Dat} {σ : St} (h : TS L x σ d cn sg im) (hi : i + 5 ≤ L) (hL : L ≤ 2560) (hx32 : ∀ j, -2147483648 ≤ x j ∧ x j < 2147483648) : goes L x b i 722 σ := by
  obtain ⟨σ1, σ2, k1, k2, hs1, hl1, hx1, hts⟩ := both (c_Fwins (x (i + 1)) d cn sg) (m_Mwins (x (i + 1)) d cn sg) h
  have hs : shp σ := h.1.1.1
  have hl : sl σ = L := h.2.2.2.2.1
  have hxx : sx σ = x := h.2.2.2.2.2.1
  have w1 : wr ((i : Int) + 1) = ((i + 1 : Nat) : Int) := by rw [wr_id (by omega) (by omega)]; omega
  have p1 : 0 ≤ ((i + 1 : Nat) : Int) ∧ ((i + 1 : Nat) : Int) < (sl σ : Int) := by omega
  have q1 : 0 ≤ ((i + 1 : Nat) : Int) ∧ ((i + 1 : Nat) : Int) < (sl σ1 : Int) := by omega
  refine ⟨σ2, _, _, _, _, ?_, hts⟩
  simp (disch := first | assumption | (exact Nat.le_of_ble_eq_true rfl) | (exact shp_fok (by assumption) (by decide)) | (exact Or.inr rfl) | fail) only [e148_722, e148_723, e148_724, e148_725, e148_726, e148_727, e148_728, e148_731, e148_732, e148_733, e148_734, e148_735, e148_736, e148_737, e148_740, e148_743, e148_744, eq_self, ne_a, ne_b, ne_c, Nat.reduceEqDiff, lt0, bnd_ok, psh_I, psh_L, psh_R, psh_U, gt_sr, gr_sr, sk_sr, nn_sr, ↓reduceIte, Int.toNat_natCast, Int.reduceToNat, w1, hxx, hx1, k1, k2]
set_option maxRecDepth 100000 in
set_option maxHeartbeats 4000000 in
theorem c_case21 {L : Nat} {x : Nat → Int} {b i : Nat} {d : Dat} {cn : Nat} {sg : Nat → Int} {im : Nat → Option Dat} {σ : St} (h : TS L x σ d cn sg im) (hi : i + 5 ≤ L) (hL : L ≤ 2560) (hx32 : ∀ j, -2147483648 ≤ x j ∧ x j < 2147483648) : goes L x b i 745 σ := by
  obtain ⟨σ1, σ2, k1, k2, hs1, hl1, hx1, hts⟩ := both (c_Fcut (x (i + 1)) d cn sg) (m_Mcut (x (i + 1)) d cn sg) h
  have hs : shp σ := h.1.1.1
  have hl : sl σ = L := h.2.2.2.2.1
  have hxx : sx σ = x := h.2.2.2.2.2.1
  have w1 : wr ((i : Int) + 1) = ((i + 1 : Nat) : Int) := by rw [wr_id (by omega) (by omega)]; omega
  have p1 : 0 ≤ ((i + 1 : Nat) : Int) ∧ ((i + 1 : Nat) : Int) < (sl σ : Int) := by omega
  have q1 : 0 ≤ ((i + 1 : Nat) : Int) ∧ ((i + 1 : Nat) : Int) < (sl σ1 : Int) := by omega
  refine ⟨σ2, _, _, _, _, ?_, hts⟩
  simp (disch := first | assumption | (exact Nat.le_of_ble_eq_true rfl) | (exact shp_fok (by assumption) (by decide)) | (exact Or.inr rfl) | fail) only [e148_745, e148_746, e148_747, e148_748, e148_749, e148_750, e148_751, e148_754, e148_755, e148_756, e148_757, e148_758, e148_759, e148_760, e148_763, e148_766, e148_767, eq_self, ne_a, ne_b, ne_c, Nat.reduceEqDiff, lt0, bnd_ok, psh_I, psh_L, psh_R, psh_U, gt_sr, gr_sr, sk_sr, nn_sr, ↓reduceIte, Int.toNat_natCast, Int.reduceToNat, w1, hxx, hx1, k1, k2]
set_option maxRecDepth 100000 in
set_option maxHeartbeats 4000000 in
theorem c_case22 {L : Nat} {x : Nat → Int} {b i : Nat} {d : Dat} {cn : Nat} {sg : Nat → Int} {im : Nat → Option Dat} {σ : St} (h : TS L x σ d cn sg im) (hi : i + 5 ≤ L) (hL : L ≤ 2560) (hx32 : ∀ j, -2147483648 ≤ x j ∧ x j < 2147483648) : goes L x b i 768 σ := by
  obtain ⟨σ1, σ2, k1, k2, hs1, hl1, hx1, hts⟩ := both (c_Fseen (x (i + 1)) (x (i + 2)) d cn sg) (m_Mseen (x (i + 1)) (x (i + 2)) d cn sg) h
  have hs : shp σ := h.1.1.1
  have hl : sl σ = L := h.2.2.2.2.1
  have hxx : sx σ = x := h.2.2.2.2.2.1
  have w1 : wr ((i : Int) + 1) = ((i + 1 : Nat) : Int) := by rw [wr_id (by omega) (by omega)]; omega
  have p1 : 0 ≤ ((i + 1 : Nat) : Int) ∧ ((i + 1 : Nat) : Int) < (sl σ : Int) := by omega
  have q1 : 0 ≤ ((i + 1 : Nat) : Int) ∧ ((i + 1 : Nat) : Int) < (sl σ1 : Int) := by omega
  have w2 : wr ((i : Int) + 2) = ((i + 2 : Nat) : Int) := by rw [wr_id (by omega) (by omega)]; omega
  have p2 : 0 ≤ ((i + 2 : Nat) : Int) ∧ ((i + 2 : Nat) : Int) < (sl σ : Int) := by omega
  have q2 : 0 ≤ ((i + 2 : Nat) : Int) ∧ ((i + 2 : Nat) : Int) < (sl σ1 : Int) := by omega
  refine ⟨σ2, _, _, _, _, ?_, hts⟩
  simp (disch := first | assumption | (exact Nat.le_of_ble_eq_true rfl) | (exact shp_fok (by assumption) (by decide)) | (exact Or.inr rfl) | fail) only [e148_768, e148_769, e148_770, e148_771, e148_772, e148_773, e148_774, e148_775, e148_776, e148_777, e148_778, e148_779, e148_782, e148_783, e148_784, e148_785, e148_786, e148_787, e148_788, e148_789, e148_790, e148_791, e148_792, e148_793, e148_796, e148_799, e148_800, eq_self, ne_a, ne_b, ne_c, Nat.reduceEqDiff, lt0, bnd_ok, psh_I, psh_L, psh_R, psh_U, gt_sr, gr_sr, sk_sr, nn_sr, ↓reduceIte, Int.toNat_natCast, Int.reduceToNat, w1, w2, hxx, hx1, k1, k2]
set_option maxRecDepth 100000 in
set_option maxHeartbeats 4000000 in
theorem c_case23 {L : Nat} {x : Nat → Int} {b i : Nat} {d : Dat} {cn : Nat} {sg : Nat → Int} {im : Nat → Option Dat} {σ : St} (h : TS L x σ d cn sg im) (hi : i + 5 ≤ L) (hL : L ≤ 2560) (hx32 : ∀ j, -2147483648 ≤ x j ∧ x j < 2147483648) : goes L x b i 801 σ := by
  obtain ⟨σ1, σ2, k1, k2, hs1, hl1, hx1, hts⟩ := both (c_Fforget  d cn sg) (m_Mforget  d cn sg) h
  have hs : shp σ := h.1.1.1
  have hl : sl σ = L := h.2.2.2.2.1
  have hxx : sx σ = x := h.2.2.2.2.2.1
  refine ⟨σ2, _, _, _, _, ?_, hts⟩
  simp (disch := first | assumption | (exact Nat.le_of_ble_eq_true rfl) | (exact shp_fok (by assumption) (by decide)) | (exact Or.inr rfl) | fail) only [e148_801, e148_802, e148_805, e148_806, e148_809, e148_812, e148_813, eq_self, ne_a, ne_b, ne_c, Nat.reduceEqDiff, lt0, bnd_ok, psh_I, psh_L, psh_R, psh_U, gt_sr, gr_sr, sk_sr, nn_sr, ↓reduceIte, Int.toNat_natCast, Int.reduceToNat, hxx, hx1, k1, k2]
set_option maxRecDepth 100000 in
set_option maxHeartbeats 4000000 in
theorem c_case24 {L : Nat} {x : Nat → Int} {b i : Nat} {d : Dat} {cn : Nat} {sg : Nat → Int} {im : Nat → Option Dat} {σ : St} (h : TS L x σ d cn sg im) (hi : i + 5 ≤ L) (hL : L ≤ 2560) (hx32 : ∀ j, -2147483648 ≤ x j ∧ x j < 2147483648) : goes L x b i 814 σ := by
  obtain ⟨σ1, σ2, k1, k2, hs1, hl1, hx1, hts⟩ := both (c_Fwhat (x (i + 1)) d cn sg) (m_Mwhat (x (i + 1)) d cn sg) h
  have hs : shp σ := h.1.1.1
  have hl : sl σ = L := h.2.2.2.2.1
  have hxx : sx σ = x := h.2.2.2.2.2.1
  have w1 : wr ((i : Int) + 1) = ((i + 1 : Nat) : Int) := by rw [wr_id (by omega) (by omega)]; omega
  have p1 : 0 ≤ ((i + 1 : Nat) : Int) ∧ ((i + 1 : Nat) : Int) < (sl σ : Int) := by omega
  have q1 : 0 ≤ ((i + 1 : Nat) : Int) ∧ ((i + 1 : Nat) : Int) < (sl σ1 : Int) := by omega
  refine ⟨σ2, _, _, _, _, ?_, hts⟩
  simp (disch := first | assumption | (exact Nat.le_of_ble_eq_true rfl) | (exact shp_fok (by assumption) (by decide)) | (exact Or.inr rfl) | fail) only [e148_814, e148_815, e148_816, e148_817, e148_818, e148_819, e148_820, e148_823, e148_824, e148_825, e148_826, e148_827, e148_828, e148_829, e148_832, e148_835, e148_836, eq_self, ne_a, ne_b, ne_c, Nat.reduceEqDiff, lt0, bnd_ok, psh_I, psh_L, psh_R, psh_U, gt_sr, gr_sr, sk_sr, nn_sr, ↓reduceIte, Int.toNat_natCast, Int.reduceToNat, w1, hxx, hx1, k1, k2]
set_option maxRecDepth 100000 in
set_option maxHeartbeats 4000000 in
theorem c_case25 {L : Nat} {x : Nat → Int} {b i : Nat} {d : Dat} {cn : Nat} {sg : Nat → Int} {im : Nat → Option Dat} {σ : St} (h : TS L x σ d cn sg im) (hi : i + 5 ≤ L) (hL : L ≤ 2560) (hx32 : ∀ j, -2147483648 ≤ x j ∧ x j < 2147483648) : goes L x b i 837 σ := by
  obtain ⟨σ1, σ2, k1, k2, hs1, hl1, hx1, hts⟩ := both (c_Fwhere  d cn sg) (m_Mwhere  d cn sg) h
  have hs : shp σ := h.1.1.1
  have hl : sl σ = L := h.2.2.2.2.1
  have hxx : sx σ = x := h.2.2.2.2.2.1
  refine ⟨σ2, _, _, _, _, ?_, hts⟩
  simp (disch := first | assumption | (exact Nat.le_of_ble_eq_true rfl) | (exact shp_fok (by assumption) (by decide)) | (exact Or.inr rfl) | fail) only [e148_837, e148_838, e148_841, e148_842, e148_845, e148_848, e148_849, eq_self, ne_a, ne_b, ne_c, Nat.reduceEqDiff, lt0, bnd_ok, psh_I, psh_L, psh_R, psh_U, gt_sr, gr_sr, sk_sr, nn_sr, ↓reduceIte, Int.toNat_natCast, Int.reduceToNat, hxx, hx1, k1, k2]
set_option maxRecDepth 100000 in
set_option maxHeartbeats 4000000 in
theorem c_case26 {L : Nat} {x : Nat → Int} {b i : Nat} {d : Dat} {cn : Nat} {sg : Nat → Int} {im : Nat → Option Dat} {σ : St} (h : TS L x σ d cn sg im) (hi : i + 5 ≤ L) (hL : L ≤ 2560) (hx32 : ∀ j, -2147483648 ≤ x j ∧ x j < 2147483648) : goes L x b i 850 σ := by
  obtain ⟨σ1, σ2, k1, k2, hs1, hl1, hx1, hts⟩ := both (c_Fchance (x (i + 1)) (x (i + 2)) (x (i + 3)) (x (i + 4)) d cn sg) (m_Mchance (x (i + 1)) (x (i + 2)) (x (i + 3)) (x (i + 4)) d cn sg) h
  have hs : shp σ := h.1.1.1
  have hl : sl σ = L := h.2.2.2.2.1
  have hxx : sx σ = x := h.2.2.2.2.2.1
  have w1 : wr ((i : Int) + 1) = ((i + 1 : Nat) : Int) := by rw [wr_id (by omega) (by omega)]; omega
  have p1 : 0 ≤ ((i + 1 : Nat) : Int) ∧ ((i + 1 : Nat) : Int) < (sl σ : Int) := by omega
  have q1 : 0 ≤ ((i + 1 : Nat) : Int) ∧ ((i + 1 : Nat) : Int) < (sl σ1 : Int) := by omega
  have w2 : wr ((i : Int) + 2) = ((i + 2 : Nat) : Int) := by rw [wr_id (by omega) (by omega)]; omega
  have p2 : 0 ≤ ((i + 2 : Nat) : Int) ∧ ((i + 2 : Nat) : Int) < (sl σ : Int) := by omega
  have q2 : 0 ≤ ((i + 2 : Nat) : Int) ∧ ((i + 2 : Nat) : Int) < (sl σ1 : Int) := by omega
  have w3 : wr ((i : Int) + 3) = ((i + 3 : Nat) : Int) := by rw [wr_id (by omega) (by omega)]; omega
  have p3 : 0 ≤ ((i + 3 : Nat) : Int) ∧ ((i + 3 : Nat) : Int) < (sl σ : Int) := by omega
  have q3 : 0 ≤ ((i + 3 : Nat) : Int) ∧ ((i + 3 : Nat) : Int) < (sl σ1 : Int) := by omega
  have w4 : wr ((i : Int) + 4) = ((i + 4 : Nat) : Int) := by rw [wr_id (by omega) (by omega)]; omega
  have p4 : 0 ≤ ((i + 4 : Nat) : Int) ∧ ((i + 4 : Nat) : Int) < (sl σ : Int) := by omega
  have q4 : 0 ≤ ((i + 4 : Nat) : Int) ∧ ((i + 4 : Nat) : Int) < (sl σ1 : Int) := by omega
  refine ⟨σ2, _, _, _, _, ?_, hts⟩
  simp (disch := first | assumption | (exact Nat.le_of_ble_eq_true rfl) | (exact shp_fok (by assumption) (by decide)) | (exact Or.inr rfl) | fail) only [e148_850, e148_851, e148_852, e148_853, e148_854, e148_855, e148_856, e148_857, e148_858, e148_859, e148_860, e148_861, e148_862, e148_863, e148_864, e148_865, e148_866, e148_867, e148_868, e148_869, e148_870, e148_871, e148_874, e148_875, e148_876, e148_877, e148_878, e148_879, e148_880, e148_881, e148_882, e148_883, e148_884, e148_885, e148_886, e148_887, e148_888, e148_889, e148_890, e148_891, e148_892, e148_893, e148_894, e148_895, e148_898, e148_899, e148_902, e148_903, eq_self, ne_a, ne_b, ne_c, Nat.reduceEqDiff, lt0, bnd_ok, psh_I, psh_L, psh_R, psh_U, gt_sr, gr_sr, sk_sr, nn_sr, ↓reduceIte, Int.toNat_natCast, Int.reduceToNat, w1, w2, w3, w4, hxx, hx1, k1, k2, lCmp_rf]
set_option maxRecDepth 100000 in
set_option maxHeartbeats 4000000 in
theorem c_case27 {L : Nat} {x : Nat → Int} {b i : Nat} {d : Dat} {cn : Nat} {sg : Nat → Int} {im : Nat → Option Dat} {σ : St} (h : TS L x σ d cn sg im) (hi : i + 5 ≤ L) (hL : L ≤ 2560) (hx32 : ∀ j, -2147483648 ≤ x j ∧ x j < 2147483648) : goes L x b i 904 σ := by
  obtain ⟨σ1, σ2, k1, k2, hs1, hl1, hx1, hts⟩ := both (c_Fyear (x (i + 1)) (x (i + 2)) (x (i + 3)) d cn sg) (m_Myear (x (i + 1)) (x (i + 2)) (x (i + 3)) d cn sg) h
  have hs : shp σ := h.1.1.1
  have hl : sl σ = L := h.2.2.2.2.1
  have hxx : sx σ = x := h.2.2.2.2.2.1
  have w1 : wr ((i : Int) + 1) = ((i + 1 : Nat) : Int) := by rw [wr_id (by omega) (by omega)]; omega
  have p1 : 0 ≤ ((i + 1 : Nat) : Int) ∧ ((i + 1 : Nat) : Int) < (sl σ : Int) := by omega
  have q1 : 0 ≤ ((i + 1 : Nat) : Int) ∧ ((i + 1 : Nat) : Int) < (sl σ1 : Int) := by omega
  have w2 : wr ((i : Int) + 2) = ((i + 2 : Nat) : Int) := by rw [wr_id (by omega) (by omega)]; omega
  have p2 : 0 ≤ ((i + 2 : Nat) : Int) ∧ ((i + 2 : Nat) : Int) < (sl σ : Int) := by omega
  have q2 : 0 ≤ ((i + 2 : Nat) : Int) ∧ ((i + 2 : Nat) : Int) < (sl σ1 : Int) := by omega
  have w3 : wr ((i : Int) + 3) = ((i + 3 : Nat) : Int) := by rw [wr_id (by omega) (by omega)]; omega
  have p3 : 0 ≤ ((i + 3 : Nat) : Int) ∧ ((i + 3 : Nat) : Int) < (sl σ : Int) := by omega
  have q3 : 0 ≤ ((i + 3 : Nat) : Int) ∧ ((i + 3 : Nat) : Int) < (sl σ1 : Int) := by omega
  refine ⟨σ2, _, _, _, _, ?_, hts⟩
  simp (disch := first | assumption | (exact Nat.le_of_ble_eq_true rfl) | (exact shp_fok (by assumption) (by decide)) | (exact Or.inr rfl) | fail) only [e148_904, e148_905, e148_906, e148_907, e148_908, e148_909, e148_910, e148_911, e148_912, e148_913, e148_914, e148_915, e148_916, e148_917, e148_918, e148_919, e148_920, e148_923, e148_924, e148_925, e148_926, e148_927, e148_928, e148_929, e148_930, e148_931, e148_932, e148_933, e148_934, e148_935, e148_936, e148_937, e148_938, e148_939, e148_942, e148_945, e148_946, eq_self, ne_a, ne_b, ne_c, Nat.reduceEqDiff, lt0, bnd_ok, psh_I, psh_L, psh_R, psh_U, gt_sr, gr_sr, sk_sr, nn_sr, ↓reduceIte, Int.toNat_natCast, Int.reduceToNat, w1, w2, w3, hxx, hx1, k1, k2]
set_option maxRecDepth 100000 in
set_option maxHeartbeats 4000000 in
theorem c_case28 {L : Nat} {x : Nat → Int} {b i : Nat} {d : Dat} {cn : Nat} {sg : Nat → Int} {im : Nat → Option Dat} {σ : St} (h : TS L x σ d cn sg im) (hi : i + 5 ≤ L) (hL : L ≤ 2560) (hx32 : ∀ j, -2147483648 ≤ x j ∧ x j < 2147483648) : goes L x b i 947 σ := by
  obtain ⟨σ1, σ2, k1, k2, hs1, hl1, hx1, hts⟩ := b_image (x (i + 1)) h
  have hs : shp σ := h.1.1.1
  have hl : sl σ = L := h.2.2.2.2.1
  have hxx : sx σ = x := h.2.2.2.2.2.1
  have w1 : wr ((i : Int) + 1) = ((i + 1 : Nat) : Int) := by rw [wr_id (by omega) (by omega)]; omega
  have p1 : 0 ≤ ((i + 1 : Nat) : Int) ∧ ((i + 1 : Nat) : Int) < (sl σ : Int) := by omega
  have q1 : 0 ≤ ((i + 1 : Nat) : Int) ∧ ((i + 1 : Nat) : Int) < (sl σ1 : Int) := by omega
  refine ⟨σ2, _, _, _, _, ?_, hts⟩
  simp (disch := first | assumption | (exact Nat.le_of_ble_eq_true rfl) | (exact shp_fok (by assumption) (by decide)) | (exact Or.inr rfl) | fail) only [e148_947, e148_948, e148_949, e148_950, e148_951, e148_952, e148_953, e148_956, e148_957, e148_958, e148_959, e148_960, e148_961, e148_962, e148_965, e148_968, e148_969, eq_self, ne_a, ne_b, ne_c, Nat.reduceEqDiff, lt0, bnd_ok, psh_I, psh_L, psh_R, psh_U, gt_sr, gr_sr, sk_sr, nn_sr, ↓reduceIte, Int.toNat_natCast, Int.reduceToNat, w1, hxx, hx1, k1, k2]
set_option maxRecDepth 100000 in
set_option maxHeartbeats 4000000 in
theorem c_case29 {L : Nat} {x : Nat → Int} {b i : Nat} {d : Dat} {cn : Nat} {sg : Nat → Int} {im : Nat → Option Dat} {σ : St} (h : TS L x σ d cn sg im) (hi : i + 5 ≤ L) (hL : L ≤ 2560) (hx32 : ∀ j, -2147483648 ≤ x j ∧ x j < 2147483648) : goes L x b i 970 σ := by
  obtain ⟨σ1, σ2, k1, k2, hs1, hl1, hx1, hts⟩ := b_restore (x (i + 1)) h
  have hs : shp σ := h.1.1.1
  have hl : sl σ = L := h.2.2.2.2.1
  have hxx : sx σ = x := h.2.2.2.2.2.1
  have w1 : wr ((i : Int) + 1) = ((i + 1 : Nat) : Int) := by rw [wr_id (by omega) (by omega)]; omega
  have p1 : 0 ≤ ((i + 1 : Nat) : Int) ∧ ((i + 1 : Nat) : Int) < (sl σ : Int) := by omega
  have q1 : 0 ≤ ((i + 1 : Nat) : Int) ∧ ((i + 1 : Nat) : Int) < (sl σ1 : Int) := by omega
  refine ⟨σ2, _, _, _, _, ?_, hts⟩
  simp (disch := first | assumption | (exact Nat.le_of_ble_eq_true rfl) | (exact shp_fok (by assumption) (by decide)) | (exact Or.inr rfl) | fail) only [e148_970, e148_971, e148_972, e148_973, e148_974, e148_975, e148_976, e148_979, e148_980, e148_981, e148_982, e148_983, e148_984, e148_985, e148_988, e148_991, e148_992, eq_self, ne_a, ne_b, ne_c, Nat.reduceEqDiff, lt0, bnd_ok, psh_I, psh_L, psh_R, psh_U, gt_sr, gr_sr, sk_sr, nn_sr, ↓reduceIte, Int.toNat_natCast, Int.reduceToNat, w1, hxx, hx1, k1, k2]
set_option maxRecDepth 100000 in
set_option maxHeartbeats 4000000 in
theorem c_case30 {L : Nat} {x : Nat → Int} {b i : Nat} {d : Dat} {cn : Nat} {sg : Nat → Int} {im : Nat → Option Dat} {σ : St} (h : TS L x σ d cn sg im) (hi : i + 5 ≤ L) (hL : L ≤ 2560) (hx32 : ∀ j, -2147483648 ≤ x j ∧ x j < 2147483648) : goes L x b i 993 σ := by
  obtain ⟨σ1, σ2, k1, k2, hs1, hl1, hx1, hts⟩ := both (c_Ftold (x (i + 1)) (hx32 _) d cn sg) (m_Mtold (x (i + 1)) (hx32 _) d cn sg) h
  have hs : shp σ := h.1.1.1
  have hl : sl σ = L := h.2.2.2.2.1
  have hxx : sx σ = x := h.2.2.2.2.2.1
  have w1 : wr ((i : Int) + 1) = ((i + 1 : Nat) : Int) := by rw [wr_id (by omega) (by omega)]; omega
  have p1 : 0 ≤ ((i + 1 : Nat) : Int) ∧ ((i + 1 : Nat) : Int) < (sl σ : Int) := by omega
  have q1 : 0 ≤ ((i + 1 : Nat) : Int) ∧ ((i + 1 : Nat) : Int) < (sl σ1 : Int) := by omega
  refine ⟨σ2, _, _, _, _, ?_, hts⟩
  simp (disch := first | assumption | (exact Nat.le_of_ble_eq_true rfl) | (exact shp_fok (by assumption) (by decide)) | (exact Or.inr rfl) | fail) only [e148_993, e148_994, e148_995, e148_996, e148_997, e148_998, e148_999, e148_1002, e148_1003, e148_1004, e148_1005, e148_1006, e148_1007, e148_1008, e148_1011, e148_1014, e148_1015, eq_self, ne_a, ne_b, ne_c, Nat.reduceEqDiff, lt0, bnd_ok, psh_I, psh_L, psh_R, psh_U, gt_sr, gr_sr, sk_sr, nn_sr, ↓reduceIte, Int.toNat_natCast, Int.reduceToNat, w1, hxx, hx1, k1, k2]
set_option maxRecDepth 100000 in
set_option maxHeartbeats 4000000 in
theorem k_goes {L : Nat} {x : Nat → Int} {b i : Nat} {d : Dat} {cn : Nat} {sg : Nat → Int} {im : Nat → Option Dat} {σ : St} (h : TS L x σ d cn sg im) (hi : i + 5 ≤ L) (hL : L ≤ 2560) (hx32 : ∀ j, -2147483648 ≤ x j ∧ x j < 2147483648) (z : Int) (hz : 0 ≤ z ∧ z ≤ 31) : goes L x b i (sw SWL 1016 z) σ := by
  obtain rfl | rfl | rfl | rfl | rfl | rfl | rfl | rfl | rfl | rfl | rfl | rfl | rfl | rfl | rfl | rfl | rfl | rfl | rfl | rfl | rfl | rfl | rfl | rfl | rfl | rfl | rfl | rfl | rfl | rfl | rfl | rfl : z = 0 ∨ z = 1 ∨ z = 2 ∨ z = 3 ∨ z = 4 ∨ z = 5 ∨ z = 6 ∨ z = 7 ∨ z = 8 ∨ z = 9 ∨ z = 10 ∨ z = 11 ∨ z = 12 ∨ z = 13 ∨ z = 14 ∨ z = 15 ∨ z = 16 ∨ z = 17 ∨ z = 18 ∨ z = 19 ∨ z = 20 ∨ z = 21 ∨ z = 22 ∨ z = 23 ∨ z = 24 ∨ z = 25 ∨ z = 26 ∨ z = 27 ∨ z = 28 ∨ z = 29 ∨ z = 30 ∨ z = 31 := by omega
  · exact c_case0 h hi hL hx32
  · exact c_case1 h hi hL hx32
  · exact c_case2 h hi hL hx32
  · exact c_case3 h hi hL hx32
  · exact c_case4 h hi hL hx32
  · exact c_case5 h hi hL hx32
  · exact c_case6 h hi hL hx32
  · exact c_case7 h hi hL hx32
  · exact c_case8 h hi hL hx32
  · exact c_case9 h hi hL hx32
  · exact c_case10 h hi hL hx32
  · exact c_case11 h hi hL hx32
  · exact c_case12 h hi hL hx32
  · exact c_case13 h hi hL hx32
  · exact c_case14 h hi hL hx32
  · exact c_case15 h hi hL hx32
  · exact c_case16 h hi hL hx32
  · exact c_case17 h hi hL hx32
  · exact c_case18 h hi hL hx32
  · exact c_case19 h hi hL hx32
  · exact c_case20 h hi hL hx32
  · exact c_case21 h hi hL hx32
  · exact c_case22 h hi hL hx32
  · exact c_case23 h hi hL hx32
  · exact c_case24 h hi hL hx32
  · exact c_case25 h hi hL hx32
  · exact c_case26 h hi hL hx32
  · exact c_case27 h hi hL hx32
  · exact c_case28 h hi hL hx32
  · exact c_case29 h hi hL hx32
  · exact c_case30 h hi hL hx32
  · exact ⟨σ, d, cn, sg, im, rfl, h⟩
set_option maxRecDepth 100000 in
set_option maxHeartbeats 4000000 in
theorem k_loop {L : Nat} {x : Nat → Int} {b : Nat} (hL : L ≤ 2560) (hx32 : ∀ j, -2147483648 ≤ x j ∧ x j < 2147483648) : ∀ (m i : Nat) (d : Dat) (cn : Nat) (sg : Nat → Int) (im : Nat → Option Dat) (σ : St), L < i + m → i ≤ 3000 → TS L x σ d cn sg im → ∃ σ', run 148 18 [vS b, vR 1, vR 24, vI (i : Int)] [] σ = some (vI 1, σ') ∧ nn σ' ≤ 600000 ∧ nt σ' ≤ 7302250 := by
  intro m
  induction m with
  | zero =>
    intro i d cn sg im σ hm hi9 h
    have hl : sl σ = L := h.2.2.2.2.1
    refine ⟨σ, ?_, ?_, ?_⟩
    · have w1 : wr (((sl σ : Nat) : Int) - 5) = (L : Int) - 5 := by rw [hl]; exact wr_id (by omega) (by omega)
      have hc : (L : Int) - 5 < (i : Int) := by omega
      rw [e148_18]
      simp (disch := first | assumption | (exact Nat.le_of_ble_eq_true rfl) | (exact shp_fok (by assumption) (by decide)) | (exact Or.inr rfl) | fail) only [e148_19, e148_20, e148_21, e148_22, e148_23, e148_1022, e148_1023, eq_self, ne_a, ne_b, ne_c, Nat.reduceEqDiff, lt0, bnd_ok, psh_I, psh_L, psh_R, psh_U, gt_sr, gr_sr, sk_sr, nn_sr, ↓reduceIte, Int.toNat_natCast, Int.reduceToNat, w1, if_pos hc]
    · have := h.2.2.2.2.2.2.1
      have k : ∀ i, imn im i ≤ 1 := fun i => by unfold imn; split <;> omega
      have := k 0
      have := k 1
      omega
    · have := h.2.2.2.2.2.2.2
      have k : ∀ i, imn im i ≤ 1 := fun i => by unfold imn; split <;> omega
      have := k 0
      have := k 1
      omega
  | succ m ih =>
    intro i d cn sg im σ hm hi9 h
    have hl : sl σ = L := h.2.2.2.2.1
    have hxx : sx σ = x := h.2.2.2.2.2.1
    have w1 : wr (((sl σ : Nat) : Int) - 5) = (L : Int) - 5 := by rw [hl]; exact wr_id (by omega) (by omega)
    by_cases hc : (L : Int) - 5 < (i : Int)
    · refine ⟨σ, ?_, ?_, ?_⟩
      · rw [e148_18]
        simp (disch := first | assumption | (exact Nat.le_of_ble_eq_true rfl) | (exact shp_fok (by assumption) (by decide)) | (exact Or.inr rfl) | fail) only [e148_19, e148_20, e148_21, e148_22, e148_23, e148_1022, e148_1023, eq_self, ne_a, ne_b, ne_c, Nat.reduceEqDiff, lt0, bnd_ok, psh_I, psh_L, psh_R, psh_U, gt_sr, gr_sr, sk_sr, nn_sr, ↓reduceIte, Int.toNat_natCast, Int.reduceToNat, w1, if_pos hc]
      · have := h.2.2.2.2.2.2.1
        have k : ∀ i, imn im i ≤ 1 := fun i => by unfold imn; split <;> omega
        have := k 0
        have := k 1
        omega
      · have := h.2.2.2.2.2.2.2
        have k : ∀ i, imn im i ≤ 1 := fun i => by unfold imn; split <;> omega
        have := k 0
        have := k 1
        omega
    · have hi : i + 5 ≤ L := by omega
      have hp : 0 ≤ (i : Int) ∧ (i : Int) < (sl σ : Int) := by omega
      obtain ⟨σ2, d', cn', sg', im', e1, h2⟩ := k_goes (b := b) h hi hL hx32 (bAnd (x i) 31) (and31 _)
      obtain ⟨σ', e2, n1, n2⟩ := ih (i + 5) d' cn' sg' im' σ2 (by omega) (by omega) h2
      refine ⟨σ', ?_, n1, n2⟩
      have w5 : wr ((i : Int) + 5) = ((i + 5 : Nat) : Int) := by rw [wr_id (by omega) (by omega)]; omega
      have s1 : run 148 18 [vS b, vR 1, vR 24, vI (i : Int)] [] σ = run 148 (sw SWL 1016 (bAnd (x i) 31)) [vS b, vR 1, vR 24, vI (i : Int)] [] σ := by
        rw [e148_18]
        simp (disch := first | assumption | (exact Nat.le_of_ble_eq_true rfl) | (exact shp_fok (by assumption) (by decide)) | (exact Or.inr rfl) | fail) only [e148_19, e148_20, e148_21, e148_22, e148_23, e148_26, e148_27, e148_28, e148_29, e148_31, e148_32, eq_self, ne_a, ne_b, ne_c, Nat.reduceEqDiff, lt0, bnd_ok, psh_I, psh_L, psh_R, psh_U, gt_sr, gr_sr, sk_sr, nn_sr, ↓reduceIte, Int.toNat_natCast, Int.reduceToNat, w1, if_neg hc, hxx]
        rfl
      have s2 : run 148 1016 [vS b, vR 1, vR 24, vI (i : Int)] [] σ2 = run 148 18 [vS b, vR 1, vR 24, vI ((i + 5 : Nat) : Int)] [] σ2 := by
        simp (disch := first | assumption | (exact Nat.le_of_ble_eq_true rfl) | (exact shp_fok (by assumption) (by decide)) | (exact Or.inr rfl) | fail) only [e148_1016, e148_1019, eq_self, ne_a, ne_b, ne_c, Nat.reduceEqDiff, lt0, bnd_ok, psh_I, psh_L, psh_R, psh_U, gt_sr, gr_sr, sk_sr, nn_sr, ↓reduceIte, Int.toNat_natCast, Int.reduceToNat, w5]
      rw [s1, e1, s2, e2]
