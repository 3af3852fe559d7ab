/-! a bank's shape -/
def bsh (σ : St) (b : Nat) : Prop := fok σ b 0 ∧ (gr σ b 6 = b + 1 ∧ gr σ b 7 = b + 2 ∧ gr σ b 8 = b + 3 ∧ gr σ b 9 = b + 4 ∧ gr σ b 10 = b + 5 ∧ gr σ b 11 = b + 6 ∧ gr σ b 12 = b + 7) ∧
  ia σ (b + 1) 24 ∧ ia σ (b + 2) 24 ∧ ia σ (b + 3) 24 ∧ ia σ (b + 4) 24 ∧ ia σ (b + 5) 96 ∧ ia σ (b + 6) 8 ∧ ia σ (b + 7) 8
theorem bsh_sr (σ : St) (q b : Nat) (F : Nat → Int) : bsh (sr σ q F) b ↔ bsh σ b := Iff.rfl
def dim (σ : St) (b R C : Nat) : Prop := gt σ b 0 = (R : Int) ∧ gt σ b 1 = (C : Int) ∧ gt σ b 2 = ((R * C : Nat) : Int) ∧ 1 ≤ R ∧ R ≤ 4 ∧ 1 ≤ C ∧ C ≤ 6
theorem dim_le {σ : St} {b R C : Nat} (h : dim σ b R C) : R * C ≤ 24 := by
  obtain ⟨-, -, -, h1, h2, h3, h4⟩ := h
  exact Nat.le_trans (Nat.mul_le_mul h2 h4) (by decide)
set_option maxRecDepth 100000 in
set_option maxHeartbeats 4000000 in
theorem c_has {σ : St} {b R C : Nat} (hb : bsh σ b) (hd : dim σ b R C) (c : Int) : run 8 0 [vR b, vI c] [] σ = some (vI (if 0 ≤ c ∧ c < (R * C : Nat) then 1 else 0), σ) := by
  obtain ⟨hf, -⟩ := hb
  obtain ⟨-, -, d2, -⟩ := hd
  simp (disch := first | assumption | omega | (left; assumption) | (refine aok_mk ?_ ?_ ?_ <;> first | assumption | omega) | (simp only [fok_sr, aok_sr]; first | assumption | omega | (left; assumption) | (refine aok_mk ?_ ?_ ?_ <;> first | assumption | omega)) | (simp; done)) only [e8_0, e8_1, e8_4, e8_5, e8_6, e8_9, e8_12, e8_13, e8_16, e8_17, eq_self, ne_a, ne_b, ne_c, Nat.reduceEqDiff, lt0, bnd_ok, psh_I, psh_L, psh_R, psh_U, gt_sr, gr_sr, sk_sr, nn_sr, ↓reduceIte, Int.toNat_natCast, Int.reduceToNat, d2]
  by_cases h1 : c < 0
  · rw [if_pos h1, if_neg (by omega)]
  · by_cases h2 : c < (R * C : Nat)
    · rw [if_neg h1, if_pos h2, if_pos (by omega)]
    · rw [if_neg h1, if_neg h2, if_neg (by omega)]
/-- the cell at a row and column, or -1 -/
def cat (R C : Nat) (r k : Int) : Int := if 0 ≤ r ∧ r < R ∧ 0 ≤ k ∧ k < C then r * C + k else -1
theorem mul_lt {r k : Int} {R C : Nat} (h0 : 0 ≤ r) (h1 : r < R) (k0 : 0 ≤ k) (k1 : k < C) : 0 ≤ r * C ∧ r * C + k < (R * C : Nat) := by
  have e1 : 0 ≤ r * (C : Int) := Int.mul_nonneg h0 (by omega)
  have e2 : (r + 1) * (C : Int) ≤ (R : Int) * (C : Int) := Int.mul_le_mul_of_nonneg_right (by omega) (by omega)
  rw [Int.add_mul] at e2
  refine ⟨e1, ?_⟩
  rw [Int.natCast_mul]
  omega
set_option maxRecDepth 100000 in
set_option maxHeartbeats 4000000 in
theorem c_cellAt {σ : St} {b R C : Nat} (hb : bsh σ b) (hd : dim σ b R C) (r k : Int) : run 14 0 [vR b, vI r, vI k, vU] [] σ = some (vI (cat R C r k), σ) := by
  have hle := dim_le hd
  obtain ⟨hf, -⟩ := hb
  obtain ⟨d0, d1, d2, -⟩ := hd
  unfold cat
  by_cases h : 0 ≤ r ∧ r < R ∧ 0 ≤ k ∧ k < C
  · rw [if_pos h]
    obtain ⟨h1, h2, h3, h4⟩ := h
    have g1 : ¬ r < 0 := by omega
    have g3 : ¬ k < 0 := by omega
    obtain ⟨m1, m2⟩ := mul_lt h1 h2 h3 h4
    simp (disch := first | assumption | omega | (left; assumption) | (refine aok_mk ?_ ?_ ?_ <;> first | assumption | omega) | (simp only [fok_sr, aok_sr]; first | assumption | omega | (left; assumption) | (refine aok_mk ?_ ?_ ?_ <;> first | assumption | omega)) | (simp; done)) only [e14_0, e14_1, e14_4, e14_5, e14_6, e14_9, e14_12, e14_13, e14_16, e14_17, e14_18, e14_21, e14_24, e14_25, e14_28, e14_29, e14_30, e14_31, e14_34, e14_35, e14_36, e14_39, e14_40, e14_41, e14_42, e14_45, e14_46, eq_self, ne_a, ne_b, ne_c, Nat.reduceEqDiff, lt0, bnd_ok, psh_I, psh_L, psh_R, psh_U, gt_sr, gr_sr, sk_sr, nn_sr, ↓reduceIte, Int.toNat_natCast, Int.reduceToNat, d0, d1, g1, h2, g3, h4, Int.reduceEq]
    rw [wr_id (z := r * C) (by omega) (by omega), wr_id (by omega) (by omega)]
  · rw [if_neg h]
    by_cases h1 : r < 0
    · simp (disch := first | assumption | omega | (left; assumption) | (refine aok_mk ?_ ?_ ?_ <;> first | assumption | omega) | (simp only [fok_sr, aok_sr]; first | assumption | omega | (left; assumption) | (refine aok_mk ?_ ?_ ?_ <;> first | assumption | omega)) | (simp; done)) only [e14_0, e14_1, e14_4, e14_5, e14_6, e14_9, e14_12, e14_13, e14_16, e14_17, e14_18, e14_21, e14_24, e14_25, e14_28, e14_29, e14_30, e14_31, e14_34, e14_35, e14_36, e14_39, e14_40, e14_41, e14_42, e14_45, e14_46, eq_self, ne_a, ne_b, ne_c, Nat.reduceEqDiff, lt0, bnd_ok, psh_I, psh_L, psh_R, psh_U, gt_sr, gr_sr, sk_sr, nn_sr, ↓reduceIte, Int.toNat_natCast, Int.reduceToNat, d0, d1, h1]
    · by_cases h2 : r < R
      · by_cases h3 : k < 0
        · simp (disch := first | assumption | omega | (left; assumption) | (refine aok_mk ?_ ?_ ?_ <;> first | assumption | omega) | (simp only [fok_sr, aok_sr]; first | assumption | omega | (left; assumption) | (refine aok_mk ?_ ?_ ?_ <;> first | assumption | omega)) | (simp; done)) only [e14_0, e14_1, e14_4, e14_5, e14_6, e14_9, e14_12, e14_13, e14_16, e14_17, e14_18, e14_21, e14_24, e14_25, e14_28, e14_29, e14_30, e14_31, e14_34, e14_35, e14_36, e14_39, e14_40, e14_41, e14_42, e14_45, e14_46, eq_self, ne_a, ne_b, ne_c, Nat.reduceEqDiff, lt0, bnd_ok, psh_I, psh_L, psh_R, psh_U, gt_sr, gr_sr, sk_sr, nn_sr, ↓reduceIte, Int.toNat_natCast, Int.reduceToNat, d0, d1, h1, h2, h3]
        · have h4 : ¬ k < C := by omega
          simp (disch := first | assumption | omega | (left; assumption) | (refine aok_mk ?_ ?_ ?_ <;> first | assumption | omega) | (simp only [fok_sr, aok_sr]; first | assumption | omega | (left; assumption) | (refine aok_mk ?_ ?_ ?_ <;> first | assumption | omega)) | (simp; done)) only [e14_0, e14_1, e14_4, e14_5, e14_6, e14_9, e14_12, e14_13, e14_16, e14_17, e14_18, e14_21, e14_24, e14_25, e14_28, e14_29, e14_30, e14_31, e14_34, e14_35, e14_36, e14_39, e14_40, e14_41, e14_42, e14_45, e14_46, eq_self, ne_a, ne_b, ne_c, Nat.reduceEqDiff, lt0, bnd_ok, psh_I, psh_L, psh_R, psh_U, gt_sr, gr_sr, sk_sr, nn_sr, ↓reduceIte, Int.toNat_natCast, Int.reduceToNat, d0, d1, h1, h2, h3, h4]
      · simp (disch := first | assumption | omega | (left; assumption) | (refine aok_mk ?_ ?_ ?_ <;> first | assumption | omega) | (simp only [fok_sr, aok_sr]; first | assumption | omega | (left; assumption) | (refine aok_mk ?_ ?_ ?_ <;> first | assumption | omega)) | (simp; done)) only [e14_0, e14_1, e14_4, e14_5, e14_6, e14_9, e14_12, e14_13, e14_16, e14_17, e14_18, e14_21, e14_24, e14_25, e14_28, e14_29, e14_30, e14_31, e14_34, e14_35, e14_36, e14_39, e14_40, e14_41, e14_42, e14_45, e14_46, eq_self, ne_a, ne_b, ne_c, Nat.reduceEqDiff, lt0, bnd_ok, psh_I, psh_L, psh_R, psh_U, gt_sr, gr_sr, sk_sr, nn_sr, ↓reduceIte, Int.toNat_natCast, Int.reduceToNat, d0, d1, h1, h2]
def dnI (s : Int) : Int := if s = 2 then 1 else if s = 0 then -1 else 0
def onI (s : Int) : Int := if s = 1 then 1 else if s = 3 then -1 else 0
set_option maxRecDepth 100000 in
set_option maxHeartbeats 4000000 in
theorem c_down (s : Int) (σ : St) : run 31 0 [vI s] [] σ = some (vI (dnI s), σ) := by
  unfold dnI
  simp (disch := first | assumption | omega | (left; assumption) | (refine aok_mk ?_ ?_ ?_ <;> first | assumption | omega) | (simp only [fok_sr, aok_sr]; first | assumption | omega | (left; assumption) | (refine aok_mk ?_ ?_ ?_ <;> first | assumption | omega)) | (simp; done)) only [e31_0, e31_1, e31_2, e31_5, e31_6, e31_9, e31_10, e31_13, e31_14, e31_17, e31_18, eq_self, ne_a, ne_b, ne_c, Nat.reduceEqDiff, lt0, bnd_ok, psh_I, psh_L, psh_R, psh_U, gt_sr, gr_sr, sk_sr, nn_sr, ↓reduceIte, Int.toNat_natCast, Int.reduceToNat]
  by_cases h1 : s = 2
  · rw [if_pos h1, if_pos h1]
  · by_cases h2 : s = 0
    · rw [if_neg h1, if_neg h1, if_pos h2, if_pos h2]
    · rw [if_neg h1, if_neg h1, if_neg h2, if_neg h2]
set_option maxRecDepth 100000 in
set_option maxHeartbeats 4000000 in
theorem c_on (s : Int) (σ : St) : run 32 0 [vI s] [] σ = some (vI (onI s), σ) := by
  unfold onI
  simp (disch := first | assumption | omega | (left; assumption) | (refine aok_mk ?_ ?_ ?_ <;> first | assumption | omega) | (simp only [fok_sr, aok_sr]; first | assumption | omega | (left; assumption) | (refine aok_mk ?_ ?_ ?_ <;> first | assumption | omega)) | (simp; done)) only [e32_0, e32_1, e32_2, e32_5, e32_6, e32_9, e32_10, e32_11, e32_14, e32_15, e32_18, e32_19, eq_self, ne_a, ne_b, ne_c, Nat.reduceEqDiff, lt0, bnd_ok, psh_I, psh_L, psh_R, psh_U, gt_sr, gr_sr, sk_sr, nn_sr, ↓reduceIte, Int.toNat_natCast, Int.reduceToNat]
  by_cases h1 : s = 1
  · rw [if_pos h1, if_pos h1]
  · by_cases h2 : s = 3
    · rw [if_neg h1, if_neg h1, if_pos h2, if_pos h2]
    · rw [if_neg h1, if_neg h1, if_neg h2, if_neg h2]
/-- the cell beside, or -1 -/
def bsd (R C c : Nat) (s : Int) : Int := cat R C (((c / C : Nat) : Int) + dnI s) (((c % C : Nat) : Int) + onI s)
set_option maxRecDepth 100000 in
set_option maxHeartbeats 4000000 in
theorem c_beside {σ : St} {b R C : Nat} (hb : bsh σ b) (hd : dim σ b R C) {c : Nat} (hc : c < R * C) (s : Int) : run 67 0 [vR b, vI (c : Int), vI s] [] σ = some (vI (bsd R C c s), σ) := by
  have hle := dim_le hd
  have hca := fun r k => c_cellAt hb hd r k
  obtain ⟨hf, -⟩ := hb
  obtain ⟨d0, d1, d2, -, -, hC, -⟩ := hd
  have g1 : ¬ (C : Int) < 1 := by omega
  have g2 : ¬ (C : Int) = 0 := by omega
  have hdv : (c : Int).tdiv (C : Int) = ((c / C : Nat) : Int) := by rw [Int.tdiv_eq_ediv_of_nonneg (by omega)]; rfl
  have hmd : (c : Int).tmod (C : Int) = ((c % C : Nat) : Int) := by rw [Int.tmod_eq_emod_of_nonneg (by omega)]; rfl
  have l1 : c / C ≤ c := Nat.div_le_self _ _
  have l2 : c % C ≤ c := Nat.mod_le _ _
  have b1 : -1 ≤ dnI s ∧ dnI s ≤ 1 := by unfold dnI; split <;> (try split) <;> omega
  have b2 : -1 ≤ onI s ∧ onI s ≤ 1 := by unfold onI; split <;> (try split) <;> omega
  unfold bsd
  simp (disch := first | assumption | omega | (left; assumption) | (refine aok_mk ?_ ?_ ?_ <;> first | assumption | omega) | (simp only [fok_sr, aok_sr]; first | assumption | omega | (left; assumption) | (refine aok_mk ?_ ?_ ?_ <;> first | assumption | omega)) | (simp; done)) only [e67_0, e67_1, e67_4, e67_5, e67_8, e67_9, e67_10, e67_11, e67_12, e67_13, e67_16, e67_17, e67_18, e67_21, e67_22, e67_23, e67_24, e67_27, e67_28, e67_29, e67_32, e67_33, e67_36, eq_self, ne_a, ne_b, ne_c, Nat.reduceEqDiff, lt0, bnd_ok, psh_I, psh_L, psh_R, psh_U, gt_sr, gr_sr, sk_sr, nn_sr, ↓reduceIte, Int.toNat_natCast, Int.reduceToNat, d1, g1, c_down, c_on, hdv, hmd, hca]
  generalize c / C = u at *
  generalize c % C = v at *
  rw [wr_id (z := (u : Int)) (by omega) (by omega), wr_id (z := (v : Int)) (by omega) (by omega), wr_id (by omega) (by omega), wr_id (by omega) (by omega)]
