/-! THE MODEL: leaves -/
set_option maxRecDepth 100000 in
set_option maxHeartbeats 4000000 in
theorem m_in (a b c : Int) (σ : St) : run 92 0 [vI a, vI b, vI c] [] σ = some (vI (if b ≤ a ∧ a ≤ c then 1 else 0), σ) := by
  simp (disch := first | assumption | omega | (exact shp_fok (by first | assumption | exact shp_sr _ _ (by assumption) | exact shp_sr _ _ (shp_sr _ _ (by assumption)) | exact shp_sr _ _ (shp_sr _ _ (shp_sr _ _ (by assumption)))) (by decide)) | (simp only [fok_sr, aok_sr]; first | assumption | (exact shp_fok (by first | assumption | exact shp_sr _ _ (by assumption) | exact shp_sr _ _ (shp_sr _ _ (by assumption)) | exact shp_sr _ _ (shp_sr _ _ (shp_sr _ _ (by assumption)))) (by decide))) | (refine shp_aok (by first | assumption | exact shp_sr _ _ (by assumption) | exact shp_sr _ _ (shp_sr _ _ (by assumption)) | exact shp_sr _ _ (shp_sr _ _ (shp_sr _ _ (by assumption)))) rfl rfl ?_ ?_ <;> omega) | (exact shp_sr _ _ (by assumption)) | (exact shp_sr _ _ (shp_sr _ _ (by assumption))) | (exact shp_sr _ _ (shp_sr _ _ (shp_sr _ _ (by assumption)))) | (left; assumption) | (exact b2i_or _) | (simp; done)) only [e92_0, e92_1, e92_2, e92_5, e92_6, e92_7, e92_10, e92_11, e92_14, e92_15, eq_self, ne_a, ne_b, ne_c, Nat.reduceEqDiff, lt0, bnd_ok, psh_I, psh_L, psh_R, psh_U, gt_sr, gr_sr, sk_sr, nn_sr, ↓reduceIte, Int.toNat_natCast, Int.reduceToNat]
  by_cases h1 : b ≤ a
  · by_cases h2 : a ≤ c
    · rw [if_neg (by omega), if_neg (by omega), if_pos ⟨h1, h2⟩]
    · rw [if_neg (by omega), if_pos (by omega), if_neg (by omega)]
  · rw [if_pos (by omega), if_neg (by omega)]
set_option maxRecDepth 100000 in
set_option maxHeartbeats 4000000 in
theorem m_has {x k : Nat} (hx : x < 2147483648) (hk : k < 32) (σ : St) : run 109 0 [vI (x : Int), vI (k : Int)] [] σ = some (vI (b2i (x.testBit k)), σ) := by
  have w6 := bit_N (a := x) (k := k) hx hk
  cases hb : x.testBit k with
  | true =>
    have e9 : bt x k = 1 := by unfold bt; rw [hb, if_pos rfl]
    simp (disch := first | assumption | omega | (exact shp_fok (by first | assumption | exact shp_sr _ _ (by assumption) | exact shp_sr _ _ (shp_sr _ _ (by assumption)) | exact shp_sr _ _ (shp_sr _ _ (shp_sr _ _ (by assumption)))) (by decide)) | (simp only [fok_sr, aok_sr]; first | assumption | (exact shp_fok (by first | assumption | exact shp_sr _ _ (by assumption) | exact shp_sr _ _ (shp_sr _ _ (by assumption)) | exact shp_sr _ _ (shp_sr _ _ (shp_sr _ _ (by assumption)))) (by decide))) | (refine shp_aok (by first | assumption | exact shp_sr _ _ (by assumption) | exact shp_sr _ _ (shp_sr _ _ (by assumption)) | exact shp_sr _ _ (shp_sr _ _ (shp_sr _ _ (by assumption)))) rfl rfl ?_ ?_ <;> omega) | (exact shp_sr _ _ (by assumption)) | (exact shp_sr _ _ (shp_sr _ _ (by assumption))) | (exact shp_sr _ _ (shp_sr _ _ (shp_sr _ _ (by assumption)))) | (left; assumption) | (exact b2i_or _) | (simp; done)) only [e109_0, e109_1, e109_2, e109_3, e109_4, e109_5, e109_6, e109_9, e109_10, e109_13, e109_14, eq_self, ne_a, ne_b, ne_c, Nat.reduceEqDiff, lt0, bnd_ok, psh_I, psh_L, psh_R, psh_U, gt_sr, gr_sr, sk_sr, nn_sr, ↓reduceIte, Int.toNat_natCast, Int.reduceToNat, w6, e9, b2i_t]
  | false =>
    have e9 : bt x k = 0 := by unfold bt; rw [hb]; rfl
    simp (disch := first | assumption | omega | (exact shp_fok (by first | assumption | exact shp_sr _ _ (by assumption) | exact shp_sr _ _ (shp_sr _ _ (by assumption)) | exact shp_sr _ _ (shp_sr _ _ (shp_sr _ _ (by assumption)))) (by decide)) | (simp only [fok_sr, aok_sr]; first | assumption | (exact shp_fok (by first | assumption | exact shp_sr _ _ (by assumption) | exact shp_sr _ _ (shp_sr _ _ (by assumption)) | exact shp_sr _ _ (shp_sr _ _ (shp_sr _ _ (by assumption)))) (by decide))) | (refine shp_aok (by first | assumption | exact shp_sr _ _ (by assumption) | exact shp_sr _ _ (shp_sr _ _ (by assumption)) | exact shp_sr _ _ (shp_sr _ _ (shp_sr _ _ (by assumption)))) rfl rfl ?_ ?_ <;> omega) | (exact shp_sr _ _ (by assumption)) | (exact shp_sr _ _ (shp_sr _ _ (by assumption))) | (exact shp_sr _ _ (shp_sr _ _ (shp_sr _ _ (by assumption)))) | (left; assumption) | (exact b2i_or _) | (simp; done)) only [e109_0, e109_1, e109_2, e109_3, e109_4, e109_5, e109_6, e109_9, e109_10, e109_13, e109_14, eq_self, ne_a, ne_b, ne_c, Nat.reduceEqDiff, lt0, bnd_ok, psh_I, psh_L, psh_R, psh_U, gt_sr, gr_sr, sk_sr, nn_sr, ↓reduceIte, Int.toNat_natCast, Int.reduceToNat, w6, e9, b2i_f, Int.reduceEq]
/-- the model's number of an hour -/
def kin (h : Int) : Int := if h = -6 then -6 else if h = 5 then 0 else h + 1
set_option maxRecDepth 100000 in
set_option maxHeartbeats 4000000 in
theorem m_kindOf (s : Int) (σ : St) : run 104 0 [vI s] [] σ = some (vI (kin (hr s)), σ) := by
  unfold kin hr
  by_cases h1 : s = 46
  · subst h1; simp (disch := first | assumption | omega | (exact shp_fok (by first | assumption | exact shp_sr _ _ (by assumption) | exact shp_sr _ _ (shp_sr _ _ (by assumption)) | exact shp_sr _ _ (shp_sr _ _ (shp_sr _ _ (by assumption)))) (by decide)) | (simp only [fok_sr, aok_sr]; first | assumption | (exact shp_fok (by first | assumption | exact shp_sr _ _ (by assumption) | exact shp_sr _ _ (shp_sr _ _ (by assumption)) | exact shp_sr _ _ (shp_sr _ _ (shp_sr _ _ (by assumption)))) (by decide))) | (refine shp_aok (by first | assumption | exact shp_sr _ _ (by assumption) | exact shp_sr _ _ (shp_sr _ _ (by assumption)) | exact shp_sr _ _ (shp_sr _ _ (shp_sr _ _ (by assumption)))) rfl rfl ?_ ?_ <;> omega) | (exact shp_sr _ _ (by assumption)) | (exact shp_sr _ _ (shp_sr _ _ (by assumption))) | (exact shp_sr _ _ (shp_sr _ _ (shp_sr _ _ (by assumption)))) | (left; assumption) | (exact b2i_or _) | (simp; done)) only [e104_0, e104_1, e104_3, e104_6, e104_7, e104_10, e104_11, e104_13, e104_16, e104_17, e104_20, e104_21, e104_23, e104_26, e104_27, e104_30, e104_31, e104_33, e104_36, e104_37, e104_40, e104_41, e104_43, e104_46, e104_47, e104_50, e104_51, e104_53, e104_56, e104_57, e104_60, e104_62, eq_self, ne_a, ne_b, ne_c, Nat.reduceEqDiff, lt0, bnd_ok, psh_I, psh_L, psh_R, psh_U, gt_sr, gr_sr, sk_sr, nn_sr, ↓reduceIte, Int.toNat_natCast, Int.reduceToNat, Int.reduceEq, Int.reduceNeg, Int.reduceAdd]
  by_cases h2 : s = 94
  · subst h2; simp (disch := first | assumption | omega | (exact shp_fok (by first | assumption | exact shp_sr _ _ (by assumption) | exact shp_sr _ _ (shp_sr _ _ (by assumption)) | exact shp_sr _ _ (shp_sr _ _ (shp_sr _ _ (by assumption)))) (by decide)) | (simp only [fok_sr, aok_sr]; first | assumption | (exact shp_fok (by first | assumption | exact shp_sr _ _ (by assumption) | exact shp_sr _ _ (shp_sr _ _ (by assumption)) | exact shp_sr _ _ (shp_sr _ _ (shp_sr _ _ (by assumption)))) (by decide))) | (refine shp_aok (by first | assumption | exact shp_sr _ _ (by assumption) | exact shp_sr _ _ (shp_sr _ _ (by assumption)) | exact shp_sr _ _ (shp_sr _ _ (shp_sr _ _ (by assumption)))) rfl rfl ?_ ?_ <;> omega) | (exact shp_sr _ _ (by assumption)) | (exact shp_sr _ _ (shp_sr _ _ (by assumption))) | (exact shp_sr _ _ (shp_sr _ _ (shp_sr _ _ (by assumption)))) | (left; assumption) | (exact b2i_or _) | (simp; done)) only [e104_0, e104_1, e104_3, e104_6, e104_7, e104_10, e104_11, e104_13, e104_16, e104_17, e104_20, e104_21, e104_23, e104_26, e104_27, e104_30, e104_31, e104_33, e104_36, e104_37, e104_40, e104_41, e104_43, e104_46, e104_47, e104_50, e104_51, e104_53, e104_56, e104_57, e104_60, e104_62, eq_self, ne_a, ne_b, ne_c, Nat.reduceEqDiff, lt0, bnd_ok, psh_I, psh_L, psh_R, psh_U, gt_sr, gr_sr, sk_sr, nn_sr, ↓reduceIte, Int.toNat_natCast, Int.reduceToNat, Int.reduceEq, Int.reduceNeg, Int.reduceAdd]
  by_cases h3 : s = 62
  · subst h3; simp (disch := first | assumption | omega | (exact shp_fok (by first | assumption | exact shp_sr _ _ (by assumption) | exact shp_sr _ _ (shp_sr _ _ (by assumption)) | exact shp_sr _ _ (shp_sr _ _ (shp_sr _ _ (by assumption)))) (by decide)) | (simp only [fok_sr, aok_sr]; first | assumption | (exact shp_fok (by first | assumption | exact shp_sr _ _ (by assumption) | exact shp_sr _ _ (shp_sr _ _ (by assumption)) | exact shp_sr _ _ (shp_sr _ _ (shp_sr _ _ (by assumption)))) (by decide))) | (refine shp_aok (by first | assumption | exact shp_sr _ _ (by assumption) | exact shp_sr _ _ (shp_sr _ _ (by assumption)) | exact shp_sr _ _ (shp_sr _ _ (shp_sr _ _ (by assumption)))) rfl rfl ?_ ?_ <;> omega) | (exact shp_sr _ _ (by assumption)) | (exact shp_sr _ _ (shp_sr _ _ (by assumption))) | (exact shp_sr _ _ (shp_sr _ _ (shp_sr _ _ (by assumption)))) | (left; assumption) | (exact b2i_or _) | (simp; done)) only [e104_0, e104_1, e104_3, e104_6, e104_7, e104_10, e104_11, e104_13, e104_16, e104_17, e104_20, e104_21, e104_23, e104_26, e104_27, e104_30, e104_31, e104_33, e104_36, e104_37, e104_40, e104_41, e104_43, e104_46, e104_47, e104_50, e104_51, e104_53, e104_56, e104_57, e104_60, e104_62, eq_self, ne_a, ne_b, ne_c, Nat.reduceEqDiff, lt0, bnd_ok, psh_I, psh_L, psh_R, psh_U, gt_sr, gr_sr, sk_sr, nn_sr, ↓reduceIte, Int.toNat_natCast, Int.reduceToNat, Int.reduceEq, Int.reduceNeg, Int.reduceAdd]
  by_cases h4 : s = 95
  · subst h4; simp (disch := first | assumption | omega | (exact shp_fok (by first | assumption | exact shp_sr _ _ (by assumption) | exact shp_sr _ _ (shp_sr _ _ (by assumption)) | exact shp_sr _ _ (shp_sr _ _ (shp_sr _ _ (by assumption)))) (by decide)) | (simp only [fok_sr, aok_sr]; first | assumption | (exact shp_fok (by first | assumption | exact shp_sr _ _ (by assumption) | exact shp_sr _ _ (shp_sr _ _ (by assumption)) | exact shp_sr _ _ (shp_sr _ _ (shp_sr _ _ (by assumption)))) (by decide))) | (refine shp_aok (by first | assumption | exact shp_sr _ _ (by assumption) | exact shp_sr _ _ (shp_sr _ _ (by assumption)) | exact shp_sr _ _ (shp_sr _ _ (shp_sr _ _ (by assumption)))) rfl rfl ?_ ?_ <;> omega) | (exact shp_sr _ _ (by assumption)) | (exact shp_sr _ _ (shp_sr _ _ (by assumption))) | (exact shp_sr _ _ (shp_sr _ _ (shp_sr _ _ (by assumption)))) | (left; assumption) | (exact b2i_or _) | (simp; done)) only [e104_0, e104_1, e104_3, e104_6, e104_7, e104_10, e104_11, e104_13, e104_16, e104_17, e104_20, e104_21, e104_23, e104_26, e104_27, e104_30, e104_31, e104_33, e104_36, e104_37, e104_40, e104_41, e104_43, e104_46, e104_47, e104_50, e104_51, e104_53, e104_56, e104_57, e104_60, e104_62, eq_self, ne_a, ne_b, ne_c, Nat.reduceEqDiff, lt0, bnd_ok, psh_I, psh_L, psh_R, psh_U, gt_sr, gr_sr, sk_sr, nn_sr, ↓reduceIte, Int.toNat_natCast, Int.reduceToNat, Int.reduceEq, Int.reduceNeg, Int.reduceAdd]
  by_cases h5 : s = 60
  · subst h5; simp (disch := first | assumption | omega | (exact shp_fok (by first | assumption | exact shp_sr _ _ (by assumption) | exact shp_sr _ _ (shp_sr _ _ (by assumption)) | exact shp_sr _ _ (shp_sr _ _ (shp_sr _ _ (by assumption)))) (by decide)) | (simp only [fok_sr, aok_sr]; first | assumption | (exact shp_fok (by first | assumption | exact shp_sr _ _ (by assumption) | exact shp_sr _ _ (shp_sr _ _ (by assumption)) | exact shp_sr _ _ (shp_sr _ _ (shp_sr _ _ (by assumption)))) (by decide))) | (refine shp_aok (by first | assumption | exact shp_sr _ _ (by assumption) | exact shp_sr _ _ (shp_sr _ _ (by assumption)) | exact shp_sr _ _ (shp_sr _ _ (shp_sr _ _ (by assumption)))) rfl rfl ?_ ?_ <;> omega) | (exact shp_sr _ _ (by assumption)) | (exact shp_sr _ _ (shp_sr _ _ (by assumption))) | (exact shp_sr _ _ (shp_sr _ _ (shp_sr _ _ (by assumption)))) | (left; assumption) | (exact b2i_or _) | (simp; done)) only [e104_0, e104_1, e104_3, e104_6, e104_7, e104_10, e104_11, e104_13, e104_16, e104_17, e104_20, e104_21, e104_23, e104_26, e104_27, e104_30, e104_31, e104_33, e104_36, e104_37, e104_40, e104_41, e104_43, e104_46, e104_47, e104_50, e104_51, e104_53, e104_56, e104_57, e104_60, e104_62, eq_self, ne_a, ne_b, ne_c, Nat.reduceEqDiff, lt0, bnd_ok, psh_I, psh_L, psh_R, psh_U, gt_sr, gr_sr, sk_sr, nn_sr, ↓reduceIte, Int.toNat_natCast, Int.reduceToNat, Int.reduceEq, Int.reduceNeg, Int.reduceAdd]
  by_cases h6 : s = 126
  · subst h6; simp (disch := first | assumption | omega | (exact shp_fok (by first | assumption | exact shp_sr _ _ (by assumption) | exact shp_sr _ _ (shp_sr _ _ (by assumption)) | exact shp_sr _ _ (shp_sr _ _ (shp_sr _ _ (by assumption)))) (by decide)) | (simp only [fok_sr, aok_sr]; first | assumption | (exact shp_fok (by first | assumption | exact shp_sr _ _ (by assumption) | exact shp_sr _ _ (shp_sr _ _ (by assumption)) | exact shp_sr _ _ (shp_sr _ _ (shp_sr _ _ (by assumption)))) (by decide))) | (refine shp_aok (by first | assumption | exact shp_sr _ _ (by assumption) | exact shp_sr _ _ (shp_sr _ _ (by assumption)) | exact shp_sr _ _ (shp_sr _ _ (shp_sr _ _ (by assumption)))) rfl rfl ?_ ?_ <;> omega) | (exact shp_sr _ _ (by assumption)) | (exact shp_sr _ _ (shp_sr _ _ (by assumption))) | (exact shp_sr _ _ (shp_sr _ _ (shp_sr _ _ (by assumption)))) | (left; assumption) | (exact b2i_or _) | (simp; done)) only [e104_0, e104_1, e104_3, e104_6, e104_7, e104_10, e104_11, e104_13, e104_16, e104_17, e104_20, e104_21, e104_23, e104_26, e104_27, e104_30, e104_31, e104_33, e104_36, e104_37, e104_40, e104_41, e104_43, e104_46, e104_47, e104_50, e104_51, e104_53, e104_56, e104_57, e104_60, e104_62, eq_self, ne_a, ne_b, ne_c, Nat.reduceEqDiff, lt0, bnd_ok, psh_I, psh_L, psh_R, psh_U, gt_sr, gr_sr, sk_sr, nn_sr, ↓reduceIte, Int.toNat_natCast, Int.reduceToNat, Int.reduceEq, Int.reduceNeg, Int.reduceAdd]
  simp (disch := first | assumption | omega | (exact shp_fok (by first | assumption | exact shp_sr _ _ (by assumption) | exact shp_sr _ _ (shp_sr _ _ (by assumption)) | exact shp_sr _ _ (shp_sr _ _ (shp_sr _ _ (by assumption)))) (by decide)) | (simp only [fok_sr, aok_sr]; first | assumption | (exact shp_fok (by first | assumption | exact shp_sr _ _ (by assumption) | exact shp_sr _ _ (shp_sr _ _ (by assumption)) | exact shp_sr _ _ (shp_sr _ _ (shp_sr _ _ (by assumption)))) (by decide))) | (refine shp_aok (by first | assumption | exact shp_sr _ _ (by assumption) | exact shp_sr _ _ (shp_sr _ _ (by assumption)) | exact shp_sr _ _ (shp_sr _ _ (shp_sr _ _ (by assumption)))) rfl rfl ?_ ?_ <;> omega) | (exact shp_sr _ _ (by assumption)) | (exact shp_sr _ _ (shp_sr _ _ (by assumption))) | (exact shp_sr _ _ (shp_sr _ _ (shp_sr _ _ (by assumption)))) | (left; assumption) | (exact b2i_or _) | (simp; done)) only [e104_0, e104_1, e104_3, e104_6, e104_7, e104_10, e104_11, e104_13, e104_16, e104_17, e104_20, e104_21, e104_23, e104_26, e104_27, e104_30, e104_31, e104_33, e104_36, e104_37, e104_40, e104_41, e104_43, e104_46, e104_47, e104_50, e104_51, e104_53, e104_56, e104_57, e104_60, e104_62, eq_self, ne_a, ne_b, ne_c, Nat.reduceEqDiff, lt0, bnd_ok, psh_I, psh_L, psh_R, psh_U, gt_sr, gr_sr, sk_sr, nn_sr, ↓reduceIte, Int.toNat_natCast, Int.reduceToNat, h1, h2, h3, h4, h5, h6]
/-- how many bits -/
def pcN (x : Nat) : Int := smN (bt x) 24
theorem bt_bd (x k : Nat) : 0 ≤ bt x k ∧ bt x k ≤ 1 := by unfold bt; split <;> omega
theorem pc_bd (x n : Nat) : 0 ≤ smN (bt x) n ∧ smN (bt x) n ≤ n := by
  have := smN_bd (f := bt x) (lo := 0) (hi := 1) (n := n) (fun i _ => bt_bd x i)
  omega
set_option maxRecDepth 100000 in
set_option maxHeartbeats 4000000 in
theorem m_bits {x : Nat} (hx : x < 2147483648) (σ : St) : run 99 0 [vI (x : Int), vU, vU] [] σ = some (vI (pcN x), σ) := by
  have L : run 99 4 [vI (x : Int), vI (smN (bt x) 0), vI 0] [] σ = some (vI (pcN x), σ) := by
    refine bk (P := fun k z => run 99 4 [vI (x : Int), vI (smN (bt x) k), vI z] [] σ = some (vI (pcN x), σ)) (n := 24) ?_ ?_
    · rw [e99_4]
      simp (disch := first | assumption | omega | (exact shp_fok (by first | assumption | exact shp_sr _ _ (by assumption) | exact shp_sr _ _ (shp_sr _ _ (by assumption)) | exact shp_sr _ _ (shp_sr _ _ (shp_sr _ _ (by assumption)))) (by decide)) | (simp only [fok_sr, aok_sr]; first | assumption | (exact shp_fok (by first | assumption | exact shp_sr _ _ (by assumption) | exact shp_sr _ _ (shp_sr _ _ (by assumption)) | exact shp_sr _ _ (shp_sr _ _ (shp_sr _ _ (by assumption)))) (by decide))) | (refine shp_aok (by first | assumption | exact shp_sr _ _ (by assumption) | exact shp_sr _ _ (shp_sr _ _ (by assumption)) | exact shp_sr _ _ (shp_sr _ _ (shp_sr _ _ (by assumption)))) rfl rfl ?_ ?_ <;> omega) | (exact shp_sr _ _ (by assumption)) | (exact shp_sr _ _ (shp_sr _ _ (by assumption))) | (exact shp_sr _ _ (shp_sr _ _ (shp_sr _ _ (by assumption)))) | (left; assumption) | (exact b2i_or _) | (simp; done)) only [e99_0, e99_1, e99_2, e99_3, e99_5, e99_7, e99_10, e99_11, e99_12, e99_13, e99_14, e99_15, e99_16, e99_17, e99_18, e99_21, e99_24, e99_25, eq_self, ne_a, ne_b, ne_c, Nat.reduceEqDiff, lt0, bnd_ok, psh_I, psh_L, psh_R, psh_U, gt_sr, gr_sr, sk_sr, nn_sr, ↓reduceIte, Int.toNat_natCast, Int.reduceToNat, Int.cast_ofNat_Int, Int.reduceLT]
      rfl
    · intro k hk hk' ih
      have h4 : (k : Int) < 24 := hk'
      have w5 : wr ((k : Int) + 1) = (k : Int) + 1 := wr_id (by omega) (by omega)
      have w6 := bit_N (a := x) (k := k) hx (by omega)
      have b1 := pc_bd x k
      have b2 := bt_bd x k
      have w7 : wr (smN (bt x) k + bt x k) = smN (bt x) (k + 1) := wr_id (by omega) (by omega)
      rw [e99_4]
      simp (disch := first | assumption | omega | (exact shp_fok (by first | assumption | exact shp_sr _ _ (by assumption) | exact shp_sr _ _ (shp_sr _ _ (by assumption)) | exact shp_sr _ _ (shp_sr _ _ (shp_sr _ _ (by assumption)))) (by decide)) | (simp only [fok_sr, aok_sr]; first | assumption | (exact shp_fok (by first | assumption | exact shp_sr _ _ (by assumption) | exact shp_sr _ _ (shp_sr _ _ (by assumption)) | exact shp_sr _ _ (shp_sr _ _ (shp_sr _ _ (by assumption)))) (by decide))) | (refine shp_aok (by first | assumption | exact shp_sr _ _ (by assumption) | exact shp_sr _ _ (shp_sr _ _ (by assumption)) | exact shp_sr _ _ (shp_sr _ _ (shp_sr _ _ (by assumption)))) rfl rfl ?_ ?_ <;> omega) | (exact shp_sr _ _ (by assumption)) | (exact shp_sr _ _ (shp_sr _ _ (by assumption))) | (exact shp_sr _ _ (shp_sr _ _ (shp_sr _ _ (by assumption)))) | (left; assumption) | (exact b2i_or _) | (simp; done)) only [e99_0, e99_1, e99_2, e99_3, e99_5, e99_7, e99_10, e99_11, e99_12, e99_13, e99_14, e99_15, e99_16, e99_17, e99_18, e99_21, e99_24, e99_25, eq_self, ne_a, ne_b, ne_c, Nat.reduceEqDiff, lt0, bnd_ok, psh_I, psh_L, psh_R, psh_U, gt_sr, gr_sr, sk_sr, nn_sr, ↓reduceIte, Int.toNat_natCast, Int.reduceToNat, h4, w6, w5, w7]
      exact ih
  simp (disch := first | assumption | omega | (exact shp_fok (by first | assumption | exact shp_sr _ _ (by assumption) | exact shp_sr _ _ (shp_sr _ _ (by assumption)) | exact shp_sr _ _ (shp_sr _ _ (shp_sr _ _ (by assumption)))) (by decide)) | (simp only [fok_sr, aok_sr]; first | assumption | (exact shp_fok (by first | assumption | exact shp_sr _ _ (by assumption) | exact shp_sr _ _ (shp_sr _ _ (by assumption)) | exact shp_sr _ _ (shp_sr _ _ (shp_sr _ _ (by assumption)))) (by decide))) | (refine shp_aok (by first | assumption | exact shp_sr _ _ (by assumption) | exact shp_sr _ _ (shp_sr _ _ (by assumption)) | exact shp_sr _ _ (shp_sr _ _ (shp_sr _ _ (by assumption)))) rfl rfl ?_ ?_ <;> omega) | (exact shp_sr _ _ (by assumption)) | (exact shp_sr _ _ (shp_sr _ _ (by assumption))) | (exact shp_sr _ _ (shp_sr _ _ (shp_sr _ _ (by assumption)))) | (left; assumption) | (exact b2i_or _) | (simp; done)) only [e99_0, e99_1, e99_2, e99_3, e99_5, e99_7, e99_10, e99_11, e99_12, e99_13, e99_14, e99_15, e99_16, e99_17, e99_18, e99_21, e99_24, e99_25, eq_self, ne_a, ne_b, ne_c, Nat.reduceEqDiff, lt0, bnd_ok, psh_I, psh_L, psh_R, psh_U, gt_sr, gr_sr, sk_sr, nn_sr, ↓reduceIte, Int.toNat_natCast, Int.reduceToNat]
  exact L
/-- what of the model doesn't change while a night goes -/
def mfx (σ : St) (e : Dat) : Prop := shp σ ∧ gt σ 24 0 = (dR e : Int) ∧ gt σ 24 1 = (dC e : Int) ∧ gt σ 24 4 = dfe e ∧ gt σ 24 5 = dsl e ∧ gt σ 26 = dwa e
/-- the model's now is e -/
def nowR (σ : St) (e : Dat) : Prop := mfx σ e ∧ gt σ 29 = dt e ∧ gt σ 24 13 = (lbD e : Int) ∧ okd e
theorem wr_n {d : Dat} (ho : okd d) : wr ((dR d : Int) * (dC d : Int)) = ((dn_ d : Nat) : Int) := by
  have h := dn24 ho
  unfold dn_ at h ⊢
  rw [← Int.natCast_mul]
  exact wr_id (by omega) (by omega)
set_option maxRecDepth 100000 in
set_option maxHeartbeats 4000000 in
theorem m_cells {σ : St} {d : Dat} (h : mfx σ d) (ho : okd d) : run 95 0 [vR 24] [] σ = some (vI (dn_ d : Nat), σ) := by
  obtain ⟨hs, h0, h1, -⟩ := h
  have w1 := wr_n ho
  simp (disch := first | assumption | omega | (exact shp_fok (by first | assumption | exact shp_sr _ _ (by assumption) | exact shp_sr _ _ (shp_sr _ _ (by assumption)) | exact shp_sr _ _ (shp_sr _ _ (shp_sr _ _ (by assumption)))) (by decide)) | (simp only [fok_sr, aok_sr]; first | assumption | (exact shp_fok (by first | assumption | exact shp_sr _ _ (by assumption) | exact shp_sr _ _ (shp_sr _ _ (by assumption)) | exact shp_sr _ _ (shp_sr _ _ (shp_sr _ _ (by assumption)))) (by decide))) | (refine shp_aok (by first | assumption | exact shp_sr _ _ (by assumption) | exact shp_sr _ _ (shp_sr _ _ (by assumption)) | exact shp_sr _ _ (shp_sr _ _ (shp_sr _ _ (by assumption)))) rfl rfl ?_ ?_ <;> omega) | (exact shp_sr _ _ (by assumption)) | (exact shp_sr _ _ (shp_sr _ _ (by assumption))) | (exact shp_sr _ _ (shp_sr _ _ (shp_sr _ _ (by assumption)))) | (left; assumption) | (exact b2i_or _) | (simp; done)) only [e95_0, e95_1, e95_4, e95_5, e95_8, e95_9, eq_self, ne_a, ne_b, ne_c, Nat.reduceEqDiff, lt0, bnd_ok, psh_I, psh_L, psh_R, psh_U, gt_sr, gr_sr, sk_sr, nn_sr, ↓reduceIte, Int.toNat_natCast, Int.reduceToNat, h0, h1, w1]
set_option maxRecDepth 100000 in
set_option maxHeartbeats 4000000 in
theorem m_isCell {σ : St} {d : Dat} (h : mfx σ d) (ho : okd d) (c : Int) : run 94 0 [vR 24, vI c] [] σ = some (vI (if 0 ≤ c ∧ c < (dn_ d : Nat) then 1 else 0), σ) := by
  have e1 := m_cells h ho
  have h24 := dn24 ho
  have hs := h.1
  have w1 : wr ((dn_ d : Int) - 1) = (dn_ d : Int) - 1 := wr_id (by omega) (by omega)
  by_cases h1 : 0 ≤ c ∧ c < (dn_ d : Nat)
  · have h2 : 0 ≤ c ∧ c ≤ (dn_ d : Int) - 1 := by omega
    simp (disch := first | (left; rfl) | (right; rfl) | first | assumption | omega | (exact shp_fok (by first | assumption | exact shp_sr _ _ (by assumption) | exact shp_sr _ _ (shp_sr _ _ (by assumption)) | exact shp_sr _ _ (shp_sr _ _ (shp_sr _ _ (by assumption)))) (by decide)) | (simp only [fok_sr, aok_sr]; first | assumption | (exact shp_fok (by first | assumption | exact shp_sr _ _ (by assumption) | exact shp_sr _ _ (shp_sr _ _ (by assumption)) | exact shp_sr _ _ (shp_sr _ _ (shp_sr _ _ (by assumption)))) (by decide))) | (refine shp_aok (by first | assumption | exact shp_sr _ _ (by assumption) | exact shp_sr _ _ (shp_sr _ _ (by assumption)) | exact shp_sr _ _ (shp_sr _ _ (shp_sr _ _ (by assumption)))) rfl rfl ?_ ?_ <;> omega) | (exact shp_sr _ _ (by assumption)) | (exact shp_sr _ _ (shp_sr _ _ (by assumption))) | (exact shp_sr _ _ (shp_sr _ _ (shp_sr _ _ (by assumption)))) | (left; assumption) | (exact b2i_or _) | (simp; done)) only [e94_0, e94_1, e94_2, e94_3, e94_6, e94_7, e94_8, e94_11, eq_self, ne_a, ne_b, ne_c, Nat.reduceEqDiff, lt0, bnd_ok, psh_I, psh_L, psh_R, psh_U, gt_sr, gr_sr, sk_sr, nn_sr, ↓reduceIte, Int.toNat_natCast, Int.reduceToNat, e1, w1, m_in, if_pos h1, if_pos h2]
  · have h2 : ¬ (0 ≤ c ∧ c ≤ (dn_ d : Int) - 1) := by omega
    simp (disch := first | (left; rfl) | (right; rfl) | first | assumption | omega | (exact shp_fok (by first | assumption | exact shp_sr _ _ (by assumption) | exact shp_sr _ _ (shp_sr _ _ (by assumption)) | exact shp_sr _ _ (shp_sr _ _ (shp_sr _ _ (by assumption)))) (by decide)) | (simp only [fok_sr, aok_sr]; first | assumption | (exact shp_fok (by first | assumption | exact shp_sr _ _ (by assumption) | exact shp_sr _ _ (shp_sr _ _ (by assumption)) | exact shp_sr _ _ (shp_sr _ _ (shp_sr _ _ (by assumption)))) (by decide))) | (refine shp_aok (by first | assumption | exact shp_sr _ _ (by assumption) | exact shp_sr _ _ (shp_sr _ _ (by assumption)) | exact shp_sr _ _ (shp_sr _ _ (shp_sr _ _ (by assumption)))) rfl rfl ?_ ?_ <;> omega) | (exact shp_sr _ _ (by assumption)) | (exact shp_sr _ _ (shp_sr _ _ (by assumption))) | (exact shp_sr _ _ (shp_sr _ _ (shp_sr _ _ (by assumption)))) | (left; assumption) | (exact b2i_or _) | (simp; done)) only [e94_0, e94_1, e94_2, e94_3, e94_6, e94_7, e94_8, e94_11, eq_self, ne_a, ne_b, ne_c, Nat.reduceEqDiff, lt0, bnd_ok, psh_I, psh_L, psh_R, psh_U, gt_sr, gr_sr, sk_sr, nn_sr, ↓reduceIte, Int.toNat_natCast, Int.reduceToNat, e1, w1, m_in, if_neg h1, if_neg h2]
/-- the cell beside, as the model has it -/
def mbs (z : Int) : Int := if z = -1 then -6 else z
set_option maxRecDepth 100000 in
set_option maxHeartbeats 4000000 in
theorem m_beside {σ : St} {d : Dat} (h : mfx σ d) (ho : okd d) {c : Nat} (hc : c < dn_ d) {s : Int} (hs3 : 0 ≤ s ∧ s ≤ 3) : run 110 0 [vR 24, vI (c : Int), vI s, vU, vU] [] σ = some (vI (mbs (bsd (dR d) (dC d) c s)), σ) := by
  obtain ⟨hs, d0, d1, -⟩ := h
  have h24 := dn24 ho
  obtain ⟨hR1, hR4, hC, hC6⟩ := ho.1
  have hle : dR d * dC d ≤ 24 := h24
  have g2 : ¬ (dC d : Int) = 0 := by omega
  have hdv : (c : Int).tdiv (dC d : Int) = ((c / dC d : Nat) : Int) := by rw [Int.tdiv_eq_ediv_of_nonneg (by omega)]; rfl
  have hmd : (c : Int).tmod (dC d : Int) = ((c % dC d : Nat) : Int) := by rw [Int.tmod_eq_emod_of_nonneg (by omega)]; rfl
  have l1 : c / dC d ≤ c := Nat.div_le_self _ _
  have l2 : c % dC d ≤ c := Nat.mod_le _ _
  have b1 : -1 ≤ dnI s ∧ dnI s ≤ 1 := by unfold dnI; split <;> (try split) <;> omega
  have b2 : -1 ≤ onI s ∧ onI s ≤ 1 := by unfold onI; split <;> (try split) <;> omega
  have fin : ∀ (u v : Nat) (x y : Int), u ≤ c → v ≤ c → -1 ≤ x ∧ x ≤ 1 → -1 ≤ y ∧ y ≤ 1 → run 110 54 [vR 24, vI (c : Int), vI s, vI ((u : Int) + x), vI ((v : Int) + y)] [] σ = some (vI (mbs (cat (dR d) (dC d) ((u : Int) + x) ((v : Int) + y))), σ) := by
    intro u v x y hu hv hx hy
    generalize hA : (u : Int) + x = A
    generalize hB : (v : Int) + y = B
    have w1 : wr ((dR d : Int) - 1) = (dR d : Int) - 1 := wr_id (by omega) (by omega)
    have w2 : wr ((dC d : Int) - 1) = (dC d : Int) - 1 := wr_id (by omega) (by omega)
    by_cases h1 : 0 ≤ A ∧ A ≤ (dR d : Int) - 1
    · by_cases h2 : 0 ≤ B ∧ B ≤ (dC d : Int) - 1
      · obtain ⟨m1, m2⟩ := mul_lt h1.1 (show A < (dR d : Int) by omega) h2.1 (show B < (dC d : Int) by omega)
        have w3 : wr (wr (A * (dC d : Int)) + B) = A * (dC d : Int) + B := by
          rw [wr_id (z := A * (dC d : Int)) (by omega) (by omega), wr_id (by omega) (by omega)]
        have e1 : mbs (cat (dR d) (dC d) A B) = A * (dC d : Int) + B := by
          unfold mbs cat
          rw [if_pos (show 0 ≤ A ∧ A < (dR d : Int) ∧ 0 ≤ B ∧ B < (dC d : Int) by omega), if_neg (by omega)]
        rw [e1]
        simp (disch := first | assumption | omega | (exact shp_fok (by first | assumption | exact shp_sr _ _ (by assumption) | exact shp_sr _ _ (shp_sr _ _ (by assumption)) | exact shp_sr _ _ (shp_sr _ _ (shp_sr _ _ (by assumption)))) (by decide)) | (simp only [fok_sr, aok_sr]; first | assumption | (exact shp_fok (by first | assumption | exact shp_sr _ _ (by assumption) | exact shp_sr _ _ (shp_sr _ _ (by assumption)) | exact shp_sr _ _ (shp_sr _ _ (shp_sr _ _ (by assumption)))) (by decide))) | (refine shp_aok (by first | assumption | exact shp_sr _ _ (by assumption) | exact shp_sr _ _ (shp_sr _ _ (by assumption)) | exact shp_sr _ _ (shp_sr _ _ (shp_sr _ _ (by assumption)))) rfl rfl ?_ ?_ <;> omega) | (exact shp_sr _ _ (by assumption)) | (exact shp_sr _ _ (shp_sr _ _ (by assumption))) | (exact shp_sr _ _ (shp_sr _ _ (shp_sr _ _ (by assumption)))) | (left; assumption) | (exact b2i_or _) | (simp; done)) only [e110_54, e110_55, e110_56, e110_57, e110_60, e110_61, e110_62, e110_65, e110_68, e110_70, e110_71, e110_72, e110_75, e110_76, e110_77, e110_80, e110_83, e110_84, e110_85, e110_88, e110_89, e110_91, e110_92, e110_95, e110_97, eq_self, ne_a, ne_b, ne_c, Nat.reduceEqDiff, lt0, bnd_ok, psh_I, psh_L, psh_R, psh_U, gt_sr, gr_sr, sk_sr, nn_sr, ↓reduceIte, Int.toNat_natCast, Int.reduceToNat, d0, d1, w1, w2, m_in, if_pos h1, if_pos h2, w3, Int.reduceEq]
      · have e1 : mbs (cat (dR d) (dC d) A B) = -6 := by
          unfold mbs cat
          rw [if_neg (show ¬ (0 ≤ A ∧ A < (dR d : Int) ∧ 0 ≤ B ∧ B < (dC d : Int)) by omega), if_pos rfl]
        rw [e1]
        simp (disch := first | assumption | omega | (exact shp_fok (by first | assumption | exact shp_sr _ _ (by assumption) | exact shp_sr _ _ (shp_sr _ _ (by assumption)) | exact shp_sr _ _ (shp_sr _ _ (shp_sr _ _ (by assumption)))) (by decide)) | (simp only [fok_sr, aok_sr]; first | assumption | (exact shp_fok (by first | assumption | exact shp_sr _ _ (by assumption) | exact shp_sr _ _ (shp_sr _ _ (by assumption)) | exact shp_sr _ _ (shp_sr _ _ (shp_sr _ _ (by assumption)))) (by decide))) | (refine shp_aok (by first | assumption | exact shp_sr _ _ (by assumption) | exact shp_sr _ _ (shp_sr _ _ (by assumption)) | exact shp_sr _ _ (shp_sr _ _ (shp_sr _ _ (by assumption)))) rfl rfl ?_ ?_ <;> omega) | (exact shp_sr _ _ (by assumption)) | (exact shp_sr _ _ (shp_sr _ _ (by assumption))) | (exact shp_sr _ _ (shp_sr _ _ (shp_sr _ _ (by assumption)))) | (left; assumption) | (exact b2i_or _) | (simp; done)) only [e110_54, e110_55, e110_56, e110_57, e110_60, e110_61, e110_62, e110_65, e110_68, e110_70, e110_71, e110_72, e110_75, e110_76, e110_77, e110_80, e110_83, e110_84, e110_85, e110_88, e110_89, e110_91, e110_92, e110_95, e110_97, eq_self, ne_a, ne_b, ne_c, Nat.reduceEqDiff, lt0, bnd_ok, psh_I, psh_L, psh_R, psh_U, gt_sr, gr_sr, sk_sr, nn_sr, ↓reduceIte, Int.toNat_natCast, Int.reduceToNat, d0, d1, w1, w2, m_in, if_pos h1, if_neg h2, Int.reduceEq]
    · have e1 : mbs (cat (dR d) (dC d) A B) = -6 := by
        unfold mbs cat
        rw [if_neg (show ¬ (0 ≤ A ∧ A < (dR d : Int) ∧ 0 ≤ B ∧ B < (dC d : Int)) by omega), if_pos rfl]
      rw [e1]
      simp (disch := first | assumption | omega | (exact shp_fok (by first | assumption | exact shp_sr _ _ (by assumption) | exact shp_sr _ _ (shp_sr _ _ (by assumption)) | exact shp_sr _ _ (shp_sr _ _ (shp_sr _ _ (by assumption)))) (by decide)) | (simp only [fok_sr, aok_sr]; first | assumption | (exact shp_fok (by first | assumption | exact shp_sr _ _ (by assumption) | exact shp_sr _ _ (shp_sr _ _ (by assumption)) | exact shp_sr _ _ (shp_sr _ _ (shp_sr _ _ (by assumption)))) (by decide))) | (refine shp_aok (by first | assumption | exact shp_sr _ _ (by assumption) | exact shp_sr _ _ (shp_sr _ _ (by assumption)) | exact shp_sr _ _ (shp_sr _ _ (shp_sr _ _ (by assumption)))) rfl rfl ?_ ?_ <;> omega) | (exact shp_sr _ _ (by assumption)) | (exact shp_sr _ _ (shp_sr _ _ (by assumption))) | (exact shp_sr _ _ (shp_sr _ _ (shp_sr _ _ (by assumption)))) | (left; assumption) | (exact b2i_or _) | (simp; done)) only [e110_54, e110_55, e110_56, e110_57, e110_60, e110_61, e110_62, e110_65, e110_68, e110_70, e110_71, e110_72, e110_75, e110_76, e110_77, e110_80, e110_83, e110_84, e110_85, e110_88, e110_89, e110_91, e110_92, e110_95, e110_97, eq_self, ne_a, ne_b, ne_c, Nat.reduceEqDiff, lt0, bnd_ok, psh_I, psh_L, psh_R, psh_U, gt_sr, gr_sr, sk_sr, nn_sr, ↓reduceIte, Int.toNat_natCast, Int.reduceToNat, d0, d1, w1, w2, m_in, if_neg h1, Int.reduceEq]
  have f9 := fin (c / dC d) (c % dC d) (dnI s) (onI s) l1 l2 b1 b2
  unfold bsd
  rw [← f9]
  clear fin f9
  generalize c / dC d = U at *
  generalize c % dC d = V at *
  have w4 : wr (U : Int) = (U : Int) := wr_id (by omega) (by omega)
  have w5 : wr (V : Int) = (V : Int) := wr_id (by omega) (by omega)
  have w6 : wr ((U : Int) + dnI s) = (U : Int) + dnI s := wr_id (by omega) (by omega)
  have w7 : wr ((V : Int) + onI s) = (V : Int) + onI s := wr_id (by omega) (by omega)
  clear b1 b2
  obtain rfl | rfl | rfl | rfl : s = 0 ∨ s = 1 ∨ s = 2 ∨ s = 3 := by omega
  all_goals
    simp only [show dnI 0 = -1 from rfl, show dnI 1 = 0 from rfl, show dnI 2 = 1 from rfl, show dnI 3 = 0 from rfl, show onI 0 = 0 from rfl, show onI 1 = 1 from rfl, show onI 2 = 0 from rfl, show onI 3 = -1 from rfl] at w6 w7 ⊢
    simp (disch := first | assumption | omega | (exact shp_fok (by first | assumption | exact shp_sr _ _ (by assumption) | exact shp_sr _ _ (shp_sr _ _ (by assumption)) | exact shp_sr _ _ (shp_sr _ _ (shp_sr _ _ (by assumption)))) (by decide)) | (simp only [fok_sr, aok_sr]; first | assumption | (exact shp_fok (by first | assumption | exact shp_sr _ _ (by assumption) | exact shp_sr _ _ (shp_sr _ _ (by assumption)) | exact shp_sr _ _ (shp_sr _ _ (shp_sr _ _ (by assumption)))) (by decide))) | (refine shp_aok (by first | assumption | exact shp_sr _ _ (by assumption) | exact shp_sr _ _ (shp_sr _ _ (by assumption)) | exact shp_sr _ _ (shp_sr _ _ (shp_sr _ _ (by assumption)))) rfl rfl ?_ ?_ <;> omega) | (exact shp_sr _ _ (by assumption)) | (exact shp_sr _ _ (shp_sr _ _ (by assumption))) | (exact shp_sr _ _ (shp_sr _ _ (shp_sr _ _ (by assumption)))) | (left; assumption) | (exact b2i_or _) | (simp; done)) only [e110_0, e110_1, e110_2, e110_5, e110_6, e110_7, e110_10, e110_11, e110_14, e110_15, e110_16, e110_19, e110_20, e110_23, e110_24, e110_25, e110_26, e110_27, e110_28, e110_31, e110_32, e110_33, e110_34, e110_37, e110_38, e110_41, e110_42, e110_43, e110_46, e110_47, e110_50, e110_51, e110_52, eq_self, ne_a, ne_b, ne_c, Nat.reduceEqDiff, lt0, bnd_ok, psh_I, psh_L, psh_R, psh_U, gt_sr, gr_sr, sk_sr, nn_sr, ↓reduceIte, Int.toNat_natCast, Int.reduceToNat, d1, g2, hdv, hmd, w4, w5, w6, w7, Int.reduceEq]
/-- wanted cells of a shape, as bits -/
def wnB (d : Dat) (s : Nat) : Nat := bsN (fun c => decide (0 ≤ dwa d (s * 24 + c))) 24
set_option maxRecDepth 100000 in
set_option maxHeartbeats 4000000 in
theorem m_wanted {σ : St} {d : Dat} (h : mfx σ d) {s : Nat} (hs4 : s < 4) : run 98 0 [vR 24, vI (s : Int), vU, vU] [] σ = some (vI (wnB d s : Nat), σ) := by
  obtain ⟨hs, -, -, -, -, hw⟩ := h
  have hp : ∀ k, bsN (fun c => decide (0 ≤ dwa d (s * 24 + c))) (k + 1) = bsN (fun c => decide (0 ≤ dwa d (s * 24 + c))) k ||| (if decide (0 ≤ dwa d (s * 24 + k)) = true then 2 ^ k else 0) := fun k => rfl
  have hlt := bsN_lt (fun c => decide (0 ≤ dwa d (s * 24 + c)))
  unfold wnB
  generalize bsN (fun c => decide (0 ≤ dwa d (s * 24 + c))) = B at *
  have h0 : run 98 4 [vR 24, vI (s : Int), vI (B 0 : Nat), vI 0] [] σ = some (vI (B 24 : Nat), σ) := by
    refine bk (P := fun k z => run 98 4 [vR 24, vI (s : Int), vI (B k : Nat), vI z] [] σ = some (vI (B 24 : Nat), σ)) (n := 24) ?_ ?_
    · rw [e98_4]
      simp (disch := first | assumption | omega | (exact shp_fok (by first | assumption | exact shp_sr _ _ (by assumption) | exact shp_sr _ _ (shp_sr _ _ (by assumption)) | exact shp_sr _ _ (shp_sr _ _ (shp_sr _ _ (by assumption)))) (by decide)) | (simp only [fok_sr, aok_sr]; first | assumption | (exact shp_fok (by first | assumption | exact shp_sr _ _ (by assumption) | exact shp_sr _ _ (shp_sr _ _ (by assumption)) | exact shp_sr _ _ (shp_sr _ _ (shp_sr _ _ (by assumption)))) (by decide))) | (refine shp_aok (by first | assumption | exact shp_sr _ _ (by assumption) | exact shp_sr _ _ (shp_sr _ _ (by assumption)) | exact shp_sr _ _ (shp_sr _ _ (shp_sr _ _ (by assumption)))) rfl rfl ?_ ?_ <;> omega) | (exact shp_sr _ _ (by assumption)) | (exact shp_sr _ _ (shp_sr _ _ (by assumption))) | (exact shp_sr _ _ (shp_sr _ _ (shp_sr _ _ (by assumption)))) | (left; assumption) | (exact b2i_or _) | (simp; done)) only [e98_0, e98_1, e98_2, e98_3, e98_5, e98_7, e98_10, e98_11, e98_12, e98_15, e98_17, e98_18, e98_19, e98_20, e98_21, e98_22, e98_25, e98_26, e98_27, e98_28, e98_31, e98_32, e98_33, e98_34, e98_37, e98_40, e98_41, eq_self, ne_a, ne_b, ne_c, Nat.reduceEqDiff, lt0, bnd_ok, psh_I, psh_L, psh_R, psh_U, gt_sr, gr_sr, sk_sr, nn_sr, ↓reduceIte, Int.toNat_natCast, Int.reduceToNat, Int.cast_ofNat_Int, Int.reduceLT]
    · intro k hk hk' ih
      have h4 : (k : Int) < 24 := hk'
      have w5 : wr ((k : Int) + 1) = (k : Int) + 1 := wr_id (by omega) (by omega)
      have w1 : wr (wr (24 * (s : Int)) + (k : Int)) = ((s * 24 + k : Nat) : Int) := by
        rw [wr_id (z := 24 * (s : Int)) (by omega) (by omega), wr_id (by omega) (by omega)]; omega
      have hb := hlt k
      have hp2 : 2 ^ k ≤ 2 ^ 23 := Nat.pow_le_pow_right (by omega) (by omega)
      rw [hp] at ih
      rw [e98_4]
      by_cases h5 : dwa d (s * 24 + k) < 0
      · rw [decide_eq_false (by omega), if_neg Bool.false_ne_true] at ih
        have o2 := bOr_N (a := B k) (b := 0) (by omega) (by omega)
        rw [show ((0 : Nat) : Int) = 0 from rfl] at o2
        simp (disch := first | assumption | omega | (exact shp_fok (by first | assumption | exact shp_sr _ _ (by assumption) | exact shp_sr _ _ (shp_sr _ _ (by assumption)) | exact shp_sr _ _ (shp_sr _ _ (shp_sr _ _ (by assumption)))) (by decide)) | (simp only [fok_sr, aok_sr]; first | assumption | (exact shp_fok (by first | assumption | exact shp_sr _ _ (by assumption) | exact shp_sr _ _ (shp_sr _ _ (by assumption)) | exact shp_sr _ _ (shp_sr _ _ (shp_sr _ _ (by assumption)))) (by decide))) | (refine shp_aok (by first | assumption | exact shp_sr _ _ (by assumption) | exact shp_sr _ _ (shp_sr _ _ (by assumption)) | exact shp_sr _ _ (shp_sr _ _ (shp_sr _ _ (by assumption)))) rfl rfl ?_ ?_ <;> omega) | (exact shp_sr _ _ (by assumption)) | (exact shp_sr _ _ (shp_sr _ _ (by assumption))) | (exact shp_sr _ _ (shp_sr _ _ (shp_sr _ _ (by assumption)))) | (left; assumption) | (exact b2i_or _) | (simp; done)) only [e98_0, e98_1, e98_2, e98_3, e98_5, e98_7, e98_10, e98_11, e98_12, e98_15, e98_17, e98_18, e98_19, e98_20, e98_21, e98_22, e98_25, e98_26, e98_27, e98_28, e98_31, e98_32, e98_33, e98_34, e98_37, e98_40, e98_41, eq_self, ne_a, ne_b, ne_c, Nat.reduceEqDiff, lt0, bnd_ok, psh_I, psh_L, psh_R, psh_U, gt_sr, gr_sr, sk_sr, nn_sr, ↓reduceIte, Int.toNat_natCast, Int.reduceToNat, g24_6, hw, h4, w1, h5, o2, w5]
        exact ih
      · rw [decide_eq_true (by omega), if_pos rfl] at ih
        have o1 := bShl_N (a := 1) (k := k) (by omega) (by omega) (by omega)
        rw [Nat.one_mul, show ((1 : Nat) : Int) = 1 from rfl] at o1
        have o2 := bOr_N (a := B k) (b := 2 ^ k) (by omega) (by omega)
        simp (disch := first | assumption | omega | (exact shp_fok (by first | assumption | exact shp_sr _ _ (by assumption) | exact shp_sr _ _ (shp_sr _ _ (by assumption)) | exact shp_sr _ _ (shp_sr _ _ (shp_sr _ _ (by assumption)))) (by decide)) | (simp only [fok_sr, aok_sr]; first | assumption | (exact shp_fok (by first | assumption | exact shp_sr _ _ (by assumption) | exact shp_sr _ _ (shp_sr _ _ (by assumption)) | exact shp_sr _ _ (shp_sr _ _ (shp_sr _ _ (by assumption)))) (by decide))) | (refine shp_aok (by first | assumption | exact shp_sr _ _ (by assumption) | exact shp_sr _ _ (shp_sr _ _ (by assumption)) | exact shp_sr _ _ (shp_sr _ _ (shp_sr _ _ (by assumption)))) rfl rfl ?_ ?_ <;> omega) | (exact shp_sr _ _ (by assumption)) | (exact shp_sr _ _ (shp_sr _ _ (by assumption))) | (exact shp_sr _ _ (shp_sr _ _ (shp_sr _ _ (by assumption)))) | (left; assumption) | (exact b2i_or _) | (simp; done)) only [e98_0, e98_1, e98_2, e98_3, e98_5, e98_7, e98_10, e98_11, e98_12, e98_15, e98_17, e98_18, e98_19, e98_20, e98_21, e98_22, e98_25, e98_26, e98_27, e98_28, e98_31, e98_32, e98_33, e98_34, e98_37, e98_40, e98_41, eq_self, ne_a, ne_b, ne_c, Nat.reduceEqDiff, lt0, bnd_ok, psh_I, psh_L, psh_R, psh_U, gt_sr, gr_sr, sk_sr, nn_sr, ↓reduceIte, Int.toNat_natCast, Int.reduceToNat, g24_6, hw, h4, w1, h5, o1, o2, w5]
        exact ih
  have hB0 : B 0 = 0 := by have := hlt 0; omega
  rw [hB0] at h0
  simp (disch := first | assumption | omega | (exact shp_fok (by first | assumption | exact shp_sr _ _ (by assumption) | exact shp_sr _ _ (shp_sr _ _ (by assumption)) | exact shp_sr _ _ (shp_sr _ _ (shp_sr _ _ (by assumption)))) (by decide)) | (simp only [fok_sr, aok_sr]; first | assumption | (exact shp_fok (by first | assumption | exact shp_sr _ _ (by assumption) | exact shp_sr _ _ (shp_sr _ _ (by assumption)) | exact shp_sr _ _ (shp_sr _ _ (shp_sr _ _ (by assumption)))) (by decide))) | (refine shp_aok (by first | assumption | exact shp_sr _ _ (by assumption) | exact shp_sr _ _ (shp_sr _ _ (by assumption)) | exact shp_sr _ _ (shp_sr _ _ (shp_sr _ _ (by assumption)))) rfl rfl ?_ ?_ <;> omega) | (exact shp_sr _ _ (by assumption)) | (exact shp_sr _ _ (shp_sr _ _ (by assumption))) | (exact shp_sr _ _ (shp_sr _ _ (shp_sr _ _ (by assumption)))) | (left; assumption) | (exact b2i_or _) | (simp; done)) only [e98_0, e98_1, e98_2, e98_3, e98_5, e98_7, e98_10, e98_11, e98_12, e98_15, e98_17, e98_18, e98_19, e98_20, e98_21, e98_22, e98_25, e98_26, e98_27, e98_28, e98_31, e98_32, e98_33, e98_34, e98_37, e98_40, e98_41, eq_self, ne_a, ne_b, ne_c, Nat.reduceEqDiff, lt0, bnd_ok, psh_I, psh_L, psh_R, psh_U, gt_sr, gr_sr, sk_sr, nn_sr, ↓reduceIte, Int.toNat_natCast, Int.reduceToNat]
  exact h0
theorem smN_24 {f : Nat → Int} {n : Nat} (hn : n ≤ 24) (h : ∀ i, n ≤ i → i < 24 → f i = 0) : smN f 24 = smN f n := by
  obtain ⟨m, hm⟩ : ∃ m, 24 = n + m := ⟨24 - n, by omega⟩
  rw [hm]
  have key : ∀ j, j ≤ m → smN f (n + j) = smN f n := by
    intro j
    induction j with
    | zero => intro _; rfl
    | succ j ih =>
      intro hj
      show smN f (n + j) + f (n + j) = _
      rw [ih (by omega), h _ (by omega) (by omega), Int.add_zero]
  exact key m (Nat.le_refl _)
theorem pc_bsN (p : Nat → Bool) : pcN (bsN p 24) = smN (fun c => if p c = true then 1 else 0) 24 := by
  unfold pcN
  refine smN_congr fun i hi => ?_
  unfold bt
  rw [bsN_tb]
  cases h : p i <;> simp [hi]
theorem pc_wn {d : Dat} (ho : okd d) {s : Nat} (hs : s < 4) : pcN (wnB d s) = wiD d s := by
  have h24 := dn24 ho
  unfold wnB
  rw [pc_bsN]
  unfold wiD wsh
  rw [smN_24 h24]
  · refine smN_congr fun i hi => ?_
    have := ok_w ho (s * 24 + i) (by omega)
    by_cases e : dwa d (s * 24 + i) = -1
    · rw [if_pos e, e]; rfl
    · rw [if_neg e, decide_eq_true (by omega), if_pos rfl]
  · intro i h1 h2
    rw [ho.2.2.2.2.2.2.2.2.2.2.2.2.1 s i hs h1 h2]
    rfl
theorem bsN_0 {p : Nat → Bool} {n : Nat} (h : ∀ i, i < n → p i = false) : bsN p n = 0 := by
  refine Nat.eq_of_testBit_eq fun i => ?_
  rw [bsN_tb, Nat.zero_testBit]
  by_cases e : i < n
  · rw [h i e, Bool.and_false]
  · simp [e]
set_option maxRecDepth 100000 in
set_option maxHeartbeats 4000000 in
theorem m_isShape {σ : St} {d : Dat} (h : mfx σ d) (ho : okd d) (s : Int) : run 117 0 [vR 24, vI s] [] σ = some (vI (b2i (isS d s)), σ) := by
  have hs := h.1
  unfold isS
  by_cases h1 : 0 ≤ s ∧ s ≤ 3
  · obtain ⟨s, rfl⟩ := nat_of h1.1
    have e1 := m_wanted h (s := s) (by omega)
    have e2 := pc_wn ho (s := s) (by omega)
    rw [Int.toNat_natCast, decide_eq_true h1, Bool.true_and]
    by_cases h2 : wnB d s = 0
    · have h3 : ¬ 0 < wiD d s := by
        rw [← e2, h2]
        decide
      rw [decide_eq_false h3]
      rw [h2] at e1
      simp (disch := first | assumption | omega | (exact shp_fok (by first | assumption | exact shp_sr _ _ (by assumption) | exact shp_sr _ _ (shp_sr _ _ (by assumption)) | exact shp_sr _ _ (shp_sr _ _ (shp_sr _ _ (by assumption)))) (by decide)) | (simp only [fok_sr, aok_sr]; first | assumption | (exact shp_fok (by first | assumption | exact shp_sr _ _ (by assumption) | exact shp_sr _ _ (shp_sr _ _ (by assumption)) | exact shp_sr _ _ (shp_sr _ _ (shp_sr _ _ (by assumption)))) (by decide))) | (refine shp_aok (by first | assumption | exact shp_sr _ _ (by assumption) | exact shp_sr _ _ (shp_sr _ _ (by assumption)) | exact shp_sr _ _ (shp_sr _ _ (shp_sr _ _ (by assumption)))) rfl rfl ?_ ?_ <;> omega) | (exact shp_sr _ _ (by assumption)) | (exact shp_sr _ _ (shp_sr _ _ (by assumption))) | (exact shp_sr _ _ (shp_sr _ _ (shp_sr _ _ (by assumption)))) | (left; assumption) | (exact b2i_or _) | (simp; done)) only [e117_0, e117_1, e117_2, e117_3, e117_6, e117_9, e117_10, e117_11, e117_14, e117_17, e117_18, e117_21, e117_22, eq_self, ne_a, ne_b, ne_c, Nat.reduceEqDiff, lt0, bnd_ok, psh_I, psh_L, psh_R, psh_U, gt_sr, gr_sr, sk_sr, nn_sr, ↓reduceIte, Int.toNat_natCast, Int.reduceToNat, m_in, if_pos h1, e1, b2i_f, Int.reduceEq, Int.cast_ofNat_Int]
    · have h3 : 0 < wiD d s := by
        rw [← e2]
        have hb := (pc_bd (wnB d s) 24).1
        by_cases h9 : pcN (wnB d s) = 0
        · exfalso
          apply h2
          unfold wnB
          refine bsN_0 fun i hi => ?_
          unfold wnB at h9
          rw [pc_bsN] at h9
          cases hp : decide (0 ≤ dwa d (s * 24 + i)) with
          | false => rfl
          | true =>
            exfalso
            have key : ∀ n, (∀ j, j < n → (if decide (0 ≤ dwa d (s * 24 + j)) = true then (1 : Int) else 0) ≤ smN (fun c => if decide (0 ≤ dwa d (s * 24 + c)) = true then 1 else 0) n) ∧ 0 ≤ smN (fun c => if decide (0 ≤ dwa d (s * 24 + c)) = true then (1 : Int) else 0) n := by
              intro n
              induction n with
              | zero => exact ⟨fun j hj => absurd hj (Nat.not_lt_zero j), Int.le_refl _⟩
              | succ n ih =>
                have hn : 0 ≤ (if decide (0 ≤ dwa d (s * 24 + n)) = true then (1 : Int) else 0) := by split <;> omega
                have ex : smN (fun c => if decide (0 ≤ dwa d (s * 24 + c)) = true then (1 : Int) else 0) (n + 1) = smN (fun c => if decide (0 ≤ dwa d (s * 24 + c)) = true then (1 : Int) else 0) n + (if decide (0 ≤ dwa d (s * 24 + n)) = true then (1 : Int) else 0) := rfl
                rw [ex]
                refine ⟨fun j hj => ?_, by have := ih.2; omega⟩
                by_cases e : j = n
                · rw [e]; have := ih.2; omega
                · have := ih.1 j (by omega); omega
            have := (key 24).1 i hi
            rw [h9, hp, if_pos rfl] at this
            omega
        · unfold pcN at h9 ⊢
          omega
      have h4 : ¬ ((wnB d s : Nat) : Int) = 0 := by omega
      rw [decide_eq_true h3]
      simp (disch := first | assumption | omega | (exact shp_fok (by first | assumption | exact shp_sr _ _ (by assumption) | exact shp_sr _ _ (shp_sr _ _ (by assumption)) | exact shp_sr _ _ (shp_sr _ _ (shp_sr _ _ (by assumption)))) (by decide)) | (simp only [fok_sr, aok_sr]; first | assumption | (exact shp_fok (by first | assumption | exact shp_sr _ _ (by assumption) | exact shp_sr _ _ (shp_sr _ _ (by assumption)) | exact shp_sr _ _ (shp_sr _ _ (shp_sr _ _ (by assumption)))) (by decide))) | (refine shp_aok (by first | assumption | exact shp_sr _ _ (by assumption) | exact shp_sr _ _ (shp_sr _ _ (by assumption)) | exact shp_sr _ _ (shp_sr _ _ (shp_sr _ _ (by assumption)))) rfl rfl ?_ ?_ <;> omega) | (exact shp_sr _ _ (by assumption)) | (exact shp_sr _ _ (shp_sr _ _ (by assumption))) | (exact shp_sr _ _ (shp_sr _ _ (shp_sr _ _ (by assumption)))) | (left; assumption) | (exact b2i_or _) | (simp; done)) only [e117_0, e117_1, e117_2, e117_3, e117_6, e117_9, e117_10, e117_11, e117_14, e117_17, e117_18, e117_21, e117_22, eq_self, ne_a, ne_b, ne_c, Nat.reduceEqDiff, lt0, bnd_ok, psh_I, psh_L, psh_R, psh_U, gt_sr, gr_sr, sk_sr, nn_sr, ↓reduceIte, Int.toNat_natCast, Int.reduceToNat, m_in, if_pos h1, e1, h4, b2i_t, Int.reduceEq]
  · rw [decide_eq_false h1, Bool.false_and]
    simp (disch := first | assumption | omega | (exact shp_fok (by first | assumption | exact shp_sr _ _ (by assumption) | exact shp_sr _ _ (shp_sr _ _ (by assumption)) | exact shp_sr _ _ (shp_sr _ _ (shp_sr _ _ (by assumption)))) (by decide)) | (simp only [fok_sr, aok_sr]; first | assumption | (exact shp_fok (by first | assumption | exact shp_sr _ _ (by assumption) | exact shp_sr _ _ (shp_sr _ _ (by assumption)) | exact shp_sr _ _ (shp_sr _ _ (shp_sr _ _ (by assumption)))) (by decide))) | (refine shp_aok (by first | assumption | exact shp_sr _ _ (by assumption) | exact shp_sr _ _ (shp_sr _ _ (by assumption)) | exact shp_sr _ _ (shp_sr _ _ (shp_sr _ _ (by assumption)))) rfl rfl ?_ ?_ <;> omega) | (exact shp_sr _ _ (by assumption)) | (exact shp_sr _ _ (shp_sr _ _ (by assumption))) | (exact shp_sr _ _ (shp_sr _ _ (shp_sr _ _ (by assumption)))) | (left; assumption) | (exact b2i_or _) | (simp; done)) only [e117_0, e117_1, e117_2, e117_3, e117_6, e117_9, e117_10, e117_11, e117_14, e117_17, e117_18, e117_21, e117_22, eq_self, ne_a, ne_b, ne_c, Nat.reduceEqDiff, lt0, bnd_ok, psh_I, psh_L, psh_R, psh_U, gt_sr, gr_sr, sk_sr, nn_sr, ↓reduceIte, Int.toNat_natCast, Int.reduceToNat, m_in, if_neg h1, b2i_f]
