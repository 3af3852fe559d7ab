/-! leaves -/
theorem ru_ru {α : Type} (f : Nat → α) (k : Nat) (v w : α) : ru (ru f k v) k w = ru f k w := by
  funext i
  unfold ru
  by_cases h : i = k
  · rw [if_pos h, if_pos h]
  · rw [if_neg h, if_neg h, if_neg h]
theorem sr_sr (σ : St) (k : Nat) (f g : Nat → Int) : sr (sr σ k f) k g = sr σ k g := by
  unfold sr
  dsimp only
  rw [ru_ru]
theorem sr_self (σ : St) (k : Nat) (f : Nat → Int) (h : f = gt σ k) : sr σ k f = σ := by
  subst h
  have e : ru (gt σ) k (gt σ k) = gt σ := by
    funext i
    unfold ru
    by_cases h : i = k
    · rw [if_pos h, h]
    · rw [if_neg h]
  show (σ.1, σ.2.1, σ.2.2.1, ru (gt σ) k (gt σ k), σ.2.2.2.2) = σ
  rw [e]
  rfl
theorem sr_ext {σ : St} {k : Nat} {f g : Nat → Int} (h : ∀ i, f i = g i) : sr σ k f = sr σ k g := by rw [funext h]
set_option maxRecDepth 100000 in
set_option maxHeartbeats 4000000 in
theorem c_isWithin (a b c : Int) (σ : St) : run 6 0 [vI a, vI b, vI c] [] σ = some (vI (if b ≤ a ∧ a ≤ c then 1 else 0), σ) := by
  simp (disch := first | assumption | omega | (left; assumption) | (refine aok_mk ?_ ?_ ?_ <;> first | assumption | omega) | (simp only [fok_sr, aok_sr]; first | assumption | omega | (left; assumption) | (refine aok_mk ?_ ?_ ?_ <;> first | assumption | omega)) | (simp; done)) only [e6_0, e6_1, e6_2, e6_5, e6_6, e6_7, e6_10, e6_11, e6_14, e6_15, eq_self, ne_a, ne_b, ne_c, Nat.reduceEqDiff, lt0, bnd_ok, psh_I, psh_L, psh_R, psh_U, gt_sr, gr_sr, sk_sr, nn_sr, ↓reduceIte, Int.toNat_natCast, Int.reduceToNat]
  by_cases h1 : b ≤ a
  · by_cases h2 : a ≤ c
    · rw [if_neg (by omega), if_neg (by omega), if_pos ⟨h1, h2⟩]
    · rw [if_neg (by omega), if_pos (by omega), if_neg (by omega)]
  · rw [if_pos (by omega), if_neg (by omega)]
set_option maxRecDepth 100000 in
set_option maxHeartbeats 4000000 in
theorem c_at {σ : St} {k n : Nat} (h : ia σ k n) (j : Int) : run 10 0 [vR k, vI j] [] σ = some (vI (if 0 ≤ j ∧ j < n then gt σ k j.toNat else 0), σ) := by
  obtain ⟨hf, hs⟩ := h
  have hk : ¬ k = 0 := by have := hf.1; omega
  by_cases h1 : j < 0
  · simp (disch := first | assumption | omega | (left; assumption) | (refine aok_mk ?_ ?_ ?_ <;> first | assumption | omega) | (simp only [fok_sr, aok_sr]; first | assumption | omega | (left; assumption) | (refine aok_mk ?_ ?_ ?_ <;> first | assumption | omega)) | (simp; done)) only [e10_0, e10_1, e10_4, e10_5, e10_8, e10_9, e10_10, e10_11, e10_14, e10_15, e10_16, e10_17, e10_20, e10_21, eq_self, ne_a, ne_b, ne_c, Nat.reduceEqDiff, lt0, bnd_ok, psh_I, psh_L, psh_R, psh_U, gt_sr, gr_sr, sk_sr, nn_sr, ↓reduceIte, Int.toNat_natCast, Int.reduceToNat, if_neg hk, if_pos h1, hs]
    rw [if_neg (by omega)]
  · by_cases h2 : j < n
    · simp (disch := first | assumption | omega | (left; assumption) | (refine aok_mk ?_ ?_ ?_ <;> first | assumption | omega) | (simp only [fok_sr, aok_sr]; first | assumption | omega | (left; assumption) | (refine aok_mk ?_ ?_ ?_ <;> first | assumption | omega)) | (simp; done)) only [e10_0, e10_1, e10_4, e10_5, e10_8, e10_9, e10_10, e10_11, e10_14, e10_15, e10_16, e10_17, e10_20, e10_21, eq_self, ne_a, ne_b, ne_c, Nat.reduceEqDiff, lt0, bnd_ok, psh_I, psh_L, psh_R, psh_U, gt_sr, gr_sr, sk_sr, nn_sr, ↓reduceIte, Int.toNat_natCast, Int.reduceToNat, if_neg hk, if_neg h1, hs, if_pos h2]
      rw [if_pos (by omega)]
    · simp (disch := first | assumption | omega | (left; assumption) | (refine aok_mk ?_ ?_ ?_ <;> first | assumption | omega) | (simp only [fok_sr, aok_sr]; first | assumption | omega | (left; assumption) | (refine aok_mk ?_ ?_ ?_ <;> first | assumption | omega)) | (simp; done)) only [e10_0, e10_1, e10_4, e10_5, e10_8, e10_9, e10_10, e10_11, e10_14, e10_15, e10_16, e10_17, e10_20, e10_21, eq_self, ne_a, ne_b, ne_c, Nat.reduceEqDiff, lt0, bnd_ok, psh_I, psh_L, psh_R, psh_U, gt_sr, gr_sr, sk_sr, nn_sr, ↓reduceIte, Int.toNat_natCast, Int.reduceToNat, if_neg hk, if_neg h1, hs, if_neg h2]
      rw [if_neg (by omega)]
-- inside
set_option maxRecDepth 100000 in
set_option maxHeartbeats 4000000 in
theorem c_atN {σ : St} {k n : Nat} (h : ia σ k n) {j : Nat} (hj : j < n) : run 10 0 [vR k, vI (j : Int)] [] σ = some (vI (gt σ k j), σ) := by
  rw [c_at h, if_pos (by omega)]
  rfl
set_option maxRecDepth 100000 in
set_option maxHeartbeats 4000000 in
theorem c_put {σ : St} {k n : Nat} (h : ia σ k n) (j v : Int) : run 11 0 [vR k, vI j, vI v] [] σ = some (vU, if 0 ≤ j ∧ j < n then sr σ k (ru (gt σ k) j.toNat v) else σ) := by
  obtain ⟨hf, hs⟩ := h
  have hk : ¬ k = 0 := by have := hf.1; omega
  by_cases h1 : j < 0
  · simp (disch := first | assumption | omega | (left; assumption) | (refine aok_mk ?_ ?_ ?_ <;> first | assumption | omega) | (simp only [fok_sr, aok_sr]; first | assumption | omega | (left; assumption) | (refine aok_mk ?_ ?_ ?_ <;> first | assumption | omega)) | (simp; done)) only [e11_0, e11_1, e11_4, e11_5, e11_8, e11_9, e11_10, e11_11, e11_14, e11_15, e11_16, e11_17, e11_18, eq_self, ne_a, ne_b, ne_c, Nat.reduceEqDiff, lt0, bnd_ok, psh_I, psh_L, psh_R, psh_U, gt_sr, gr_sr, sk_sr, nn_sr, ↓reduceIte, Int.toNat_natCast, Int.reduceToNat, if_neg hk, if_pos h1, hs]
    rw [if_neg (by omega)]
  · by_cases h2 : j < n
    · simp (disch := first | assumption | omega | (left; assumption) | (refine aok_mk ?_ ?_ ?_ <;> first | assumption | omega) | (simp only [fok_sr, aok_sr]; first | assumption | omega | (left; assumption) | (refine aok_mk ?_ ?_ ?_ <;> first | assumption | omega)) | (simp; done)) only [e11_0, e11_1, e11_4, e11_5, e11_8, e11_9, e11_10, e11_11, e11_14, e11_15, e11_16, e11_17, e11_18, eq_self, ne_a, ne_b, ne_c, Nat.reduceEqDiff, lt0, bnd_ok, psh_I, psh_L, psh_R, psh_U, gt_sr, gr_sr, sk_sr, nn_sr, ↓reduceIte, Int.toNat_natCast, Int.reduceToNat, if_neg hk, if_neg h1, hs, if_pos h2]
      rw [if_pos (by omega)]
    · simp (disch := first | assumption | omega | (left; assumption) | (refine aok_mk ?_ ?_ ?_ <;> first | assumption | omega) | (simp only [fok_sr, aok_sr]; first | assumption | omega | (left; assumption) | (refine aok_mk ?_ ?_ ?_ <;> first | assumption | omega)) | (simp; done)) only [e11_0, e11_1, e11_4, e11_5, e11_8, e11_9, e11_10, e11_11, e11_14, e11_15, e11_16, e11_17, e11_18, eq_self, ne_a, ne_b, ne_c, Nat.reduceEqDiff, lt0, bnd_ok, psh_I, psh_L, psh_R, psh_U, gt_sr, gr_sr, sk_sr, nn_sr, ↓reduceIte, Int.toNat_natCast, Int.reduceToNat, if_neg hk, if_neg h1, hs, if_neg h2]
      rw [if_neg (by omega)]
set_option maxRecDepth 100000 in
set_option maxHeartbeats 4000000 in
theorem c_putN {σ : St} {k n : Nat} (h : ia σ k n) {j : Nat} (hj : j < n) (v : Int) : run 11 0 [vR k, vI (j : Int), vI v] [] σ = some (vU, sr σ k (ru (gt σ k) j v)) := by
  rw [c_put h, if_pos (by omega)]
  rfl
theorem ru_lt {α : Type} (f g : Nat → α) (c : Nat) : ru (fun i => if i < c then f i else g i) c (f c) = fun i => if i < c + 1 then f i else g i := by
  funext i
  unfold ru
  dsimp only
  by_cases e : i = c
  · rw [if_pos e, if_pos (by omega), e]
  · by_cases e2 : i < c
    · rw [if_neg e, if_pos e2, if_pos (by omega)]
    · rw [if_neg e, if_neg e2, if_neg (by omega)]
theorem sw_nil (d : Nat) (z : Int) : sw [] d z = d := rfl
theorem sw_cons (k : Int) (t : Nat) (l : List (Int × Nat)) (d : Nat) (z : Int) : sw ((k, t) :: l) d z = if z = k then t else sw l d z := by
  unfold sw
  rw [List.lookup_cons]
  by_cases h : z = k
  · rw [if_pos h, beq_iff_eq.mpr h]; rfl
  · rw [if_neg h, beq_eq_false_iff_ne.mpr h]
set_option maxRecDepth 100000 in
set_option maxHeartbeats 4000000 in
theorem c_fill {σ : St} {k n : Nat} (h : ia σ k n) (hn : n ≤ 1000) (v : Int) : run 3 0 [vR k, vI v, vU] [] σ = some (vU, sr σ k (fun i => if i < n then v else gt σ k i)) := by
  obtain ⟨hf, hs⟩ := h
  have hk : ¬ k = 0 := by have := hf.1; omega
  have loop : ∀ (m c : Nat), c + m = n → run 3 6 [vR k, vI v, vI (c : Int)] [] (sr σ k (fun i => if i < c then v else gt σ k i)) = some (vU, sr σ k (fun i => if i < n then v else gt σ k i)) := by
    intro m
    induction m with
    | zero =>
      intro c hc
      have hc' : ¬ (c : Int) < (n : Int) := by omega
      simp (disch := first | assumption | omega | (left; assumption) | (refine aok_mk ?_ ?_ ?_ <;> first | assumption | omega) | (simp only [fok_sr, aok_sr]; first | assumption | omega | (left; assumption) | (refine aok_mk ?_ ?_ ?_ <;> first | assumption | omega)) | (simp; done)) only [e3_0, e3_1, e3_4, e3_5, e3_6, e3_7, e3_8, e3_9, e3_12, e3_13, e3_14, e3_15, e3_16, e3_19, e3_22, eq_self, ne_a, ne_b, ne_c, Nat.reduceEqDiff, lt0, bnd_ok, psh_I, psh_L, psh_R, psh_U, gt_sr, gr_sr, sk_sr, nn_sr, ↓reduceIte, Int.toNat_natCast, Int.reduceToNat, hs, hc']
      rw [show c = n by omega]
    | succ m ih =>
      intro c hc
      have hc' : (c : Int) < (n : Int) := by omega
      rw [e3_6]
      simp (disch := first | assumption | omega | (left; assumption) | (refine aok_mk ?_ ?_ ?_ <;> first | assumption | omega) | (simp only [fok_sr, aok_sr]; first | assumption | omega | (left; assumption) | (refine aok_mk ?_ ?_ ?_ <;> first | assumption | omega)) | (simp; done)) only [e3_0, e3_1, e3_4, e3_5, e3_7, e3_8, e3_9, e3_12, e3_13, e3_14, e3_15, e3_16, e3_19, e3_22, eq_self, ne_a, ne_b, ne_c, Nat.reduceEqDiff, lt0, bnd_ok, psh_I, psh_L, psh_R, psh_U, gt_sr, gr_sr, sk_sr, nn_sr, ↓reduceIte, Int.toNat_natCast, Int.reduceToNat, hs, hc', sr_sr]
      rw [wr_s (by omega), ru_lt (fun _ => v)]
      exact ih (c + 1) (by omega)
  have h0 := loop n 0 (by omega)
  simp only [Nat.not_lt_zero, ↓reduceIte] at h0
  rw [sr_self σ k _ rfl] at h0
  simp (disch := first | assumption | omega | (left; assumption) | (refine aok_mk ?_ ?_ ?_ <;> first | assumption | omega) | (simp only [fok_sr, aok_sr]; first | assumption | omega | (left; assumption) | (refine aok_mk ?_ ?_ ?_ <;> first | assumption | omega)) | (simp; done)) only [e3_0, e3_1, e3_4, e3_5, e3_7, e3_8, e3_9, e3_12, e3_13, e3_14, e3_15, e3_16, e3_19, e3_22, eq_self, ne_a, ne_b, ne_c, Nat.reduceEqDiff, lt0, bnd_ok, psh_I, psh_L, psh_R, psh_U, gt_sr, gr_sr, sk_sr, nn_sr, ↓reduceIte, Int.toNat_natCast, Int.reduceToNat, hk]
  exact h0
set_option maxRecDepth 100000 in
set_option maxHeartbeats 4000000 in
theorem c_copyRow {σ : St} {k q n : Nat} (h : ia σ k n) (h2 : ia σ q n) (hkq : k ≠ q) (hn : n ≤ 1000) : run 28 0 [vR k, vR q, vU] [] σ = some (vU, sr σ q (fun i => if i < n then gt σ k i else gt σ q i)) := by
  obtain ⟨hf, hs⟩ := h
  obtain ⟨hf2, hs2⟩ := h2
  have hk : ¬ k = 0 := by have := hf.1; omega
  have hq : ¬ q = 0 := by have := hf2.1; omega
  have loop : ∀ (m c : Nat), c + m = n → run 28 10 [vR k, vR q, vI (c : Int)] [] (sr σ q (fun i => if i < c then gt σ k i else gt σ q i)) = some (vU, sr σ q (fun i => if i < n then gt σ k i else gt σ q i)) := by
    intro m
    induction m with
    | zero =>
      intro c hc
      have hc' : ¬ (c : Int) < (n : Int) := by omega
      simp (disch := first | assumption | omega | (left; assumption) | (refine aok_mk ?_ ?_ ?_ <;> first | assumption | omega) | (simp only [fok_sr, aok_sr]; first | assumption | omega | (left; assumption) | (refine aok_mk ?_ ?_ ?_ <;> first | assumption | omega)) | (simp; done)) only [e28_0, e28_1, e28_4, e28_5, e28_8, e28_9, e28_10, e28_11, e28_12, e28_13, e28_16, e28_17, e28_18, e28_19, e28_22, e28_23, e28_24, e28_25, e28_26, e28_27, e28_28, e28_31, e28_34, eq_self, ne_a, ne_b, ne_c, Nat.reduceEqDiff, lt0, bnd_ok, psh_I, psh_L, psh_R, psh_U, gt_sr, gr_sr, sk_sr, nn_sr, ↓reduceIte, Int.toNat_natCast, Int.reduceToNat, hs, hs2, hc']
      rw [show c = n by omega]
    | succ m ih =>
      intro c hc
      have hc' : (c : Int) < (n : Int) := by omega
      rw [e28_10]
      simp (disch := first | assumption | omega | (left; assumption) | (refine aok_mk ?_ ?_ ?_ <;> first | assumption | omega) | (simp only [fok_sr, aok_sr]; first | assumption | omega | (left; assumption) | (refine aok_mk ?_ ?_ ?_ <;> first | assumption | omega)) | (simp; done)) only [e28_0, e28_1, e28_4, e28_5, e28_8, e28_9, e28_11, e28_12, e28_13, e28_16, e28_17, e28_18, e28_19, e28_22, e28_23, e28_24, e28_25, e28_26, e28_27, e28_28, e28_31, e28_34, eq_self, ne_a, ne_b, ne_c, Nat.reduceEqDiff, lt0, bnd_ok, psh_I, psh_L, psh_R, psh_U, gt_sr, gr_sr, sk_sr, nn_sr, ↓reduceIte, Int.toNat_natCast, Int.reduceToNat, hs, hs2, hc', sr_sr, hkq]
      rw [wr_s (by omega), ru_lt (gt σ k)]
      exact ih (c + 1) (by omega)
  have h0 := loop n 0 (by omega)
  simp only [Nat.not_lt_zero, ↓reduceIte] at h0
  rw [sr_self σ q _ rfl] at h0
  simp (disch := first | assumption | omega | (left; assumption) | (refine aok_mk ?_ ?_ ?_ <;> first | assumption | omega) | (simp only [fok_sr, aok_sr]; first | assumption | omega | (left; assumption) | (refine aok_mk ?_ ?_ ?_ <;> first | assumption | omega)) | (simp; done)) only [e28_0, e28_1, e28_4, e28_5, e28_8, e28_9, e28_11, e28_12, e28_13, e28_16, e28_17, e28_18, e28_19, e28_22, e28_23, e28_24, e28_25, e28_26, e28_27, e28_28, e28_31, e28_34, eq_self, ne_a, ne_b, ne_c, Nat.reduceEqDiff, lt0, bnd_ok, psh_I, psh_L, psh_R, psh_U, gt_sr, gr_sr, sk_sr, nn_sr, ↓reduceIte, Int.toNat_natCast, Int.reduceToNat, hk, hq]
  exact h0
set_option maxRecDepth 100000 in
set_option maxHeartbeats 4000000 in
theorem c_hourOf (s : Int) (σ : St) : run 23 0 [vI s] [] σ = some (vI (if s = 94 then 0 else if s = 62 then 1 else if s = 95 then 2 else if s = 60 then 3 else if s = 126 then 4 else if s = 46 then 5 else -6), σ) := by
  rw [e23_0, e23_1]
  simp only [sw_cons, sw_nil]
  by_cases h1 : s = 94
  · subst h1; simp only [e23_60, e23_61, e23_62, e23_63, e23_64, e23_65, e23_66, e23_67, e23_68, e23_69, e23_70, e23_71, e23_72, e23_74, eq_self, ne_a, ne_b, ne_c, Nat.reduceEqDiff, lt0, bnd_ok, psh_I, psh_L, psh_R, psh_U, gt_sr, gr_sr, sk_sr, nn_sr, ↓reduceIte, Int.toNat_natCast, Int.reduceToNat, Int.reduceEq]
  by_cases h2 : s = 62
  · subst h2; simp only [e23_60, e23_61, e23_62, e23_63, e23_64, e23_65, e23_66, e23_67, e23_68, e23_69, e23_70, e23_71, e23_72, e23_74, eq_self, ne_a, ne_b, ne_c, Nat.reduceEqDiff, lt0, bnd_ok, psh_I, psh_L, psh_R, psh_U, gt_sr, gr_sr, sk_sr, nn_sr, ↓reduceIte, Int.toNat_natCast, Int.reduceToNat, Int.reduceEq]
  by_cases h3 : s = 95
  · subst h3; simp only [e23_60, e23_61, e23_62, e23_63, e23_64, e23_65, e23_66, e23_67, e23_68, e23_69, e23_70, e23_71, e23_72, e23_74, eq_self, ne_a, ne_b, ne_c, Nat.reduceEqDiff, lt0, bnd_ok, psh_I, psh_L, psh_R, psh_U, gt_sr, gr_sr, sk_sr, nn_sr, ↓reduceIte, Int.toNat_natCast, Int.reduceToNat, Int.reduceEq]
  by_cases h4 : s = 60
  · subst h4; simp only [e23_60, e23_61, e23_62, e23_63, e23_64, e23_65, e23_66, e23_67, e23_68, e23_69, e23_70, e23_71, e23_72, e23_74, eq_self, ne_a, ne_b, ne_c, Nat.reduceEqDiff, lt0, bnd_ok, psh_I, psh_L, psh_R, psh_U, gt_sr, gr_sr, sk_sr, nn_sr, ↓reduceIte, Int.toNat_natCast, Int.reduceToNat, Int.reduceEq]
  by_cases h5 : s = 126
  · subst h5; simp only [e23_60, e23_61, e23_62, e23_63, e23_64, e23_65, e23_66, e23_67, e23_68, e23_69, e23_70, e23_71, e23_72, e23_74, eq_self, ne_a, ne_b, ne_c, Nat.reduceEqDiff, lt0, bnd_ok, psh_I, psh_L, psh_R, psh_U, gt_sr, gr_sr, sk_sr, nn_sr, ↓reduceIte, Int.toNat_natCast, Int.reduceToNat, Int.reduceEq]
  by_cases h6 : s = 46
  · subst h6; simp only [e23_60, e23_61, e23_62, e23_63, e23_64, e23_65, e23_66, e23_67, e23_68, e23_69, e23_70, e23_71, e23_72, e23_74, eq_self, ne_a, ne_b, ne_c, Nat.reduceEqDiff, lt0, bnd_ok, psh_I, psh_L, psh_R, psh_U, gt_sr, gr_sr, sk_sr, nn_sr, ↓reduceIte, Int.toNat_natCast, Int.reduceToNat, Int.reduceEq]
  simp only [h1, h2, h3, h4, h5, h6, e23_60, e23_61, e23_62, e23_63, e23_64, e23_65, e23_66, e23_67, e23_68, e23_69, e23_70, e23_71, e23_72, e23_74, eq_self, ne_a, ne_b, ne_c, Nat.reduceEqDiff, lt0, bnd_ok, psh_I, psh_L, psh_R, psh_U, gt_sr, gr_sr, sk_sr, nn_sr, ↓reduceIte, Int.toNat_natCast, Int.reduceToNat]
-- how many, or which
set_option maxRecDepth 100000 in
set_option maxHeartbeats 4000000 in
theorem c_countOrBits (b w : Int) (σ : St) {r : Int} (hr : run 50 0 [vI b] [] σ = some (vI r, σ)) : run 54 0 [vI b, vI w] [] σ = some (vI (if w = 0 ∧ b ≠ -6 then r else b), σ) := by
  by_cases h1 : w = 0
  · by_cases h2 : b = -6
    · simp (disch := first | assumption | omega | (left; assumption) | (refine aok_mk ?_ ?_ ?_ <;> first | assumption | omega) | (simp only [fok_sr, aok_sr]; first | assumption | omega | (left; assumption) | (refine aok_mk ?_ ?_ ?_ <;> first | assumption | omega)) | (simp; done)) only [e54_0, e54_1, e54_4, e54_5, e54_7, e54_10, e54_11, e54_14, e54_17, e54_18, eq_self, ne_a, ne_b, ne_c, Nat.reduceEqDiff, lt0, bnd_ok, psh_I, psh_L, psh_R, psh_U, gt_sr, gr_sr, sk_sr, nn_sr, ↓reduceIte, Int.toNat_natCast, Int.reduceToNat, h1, h2, ne_eq, not_true_eq_false, and_false, Int.reduceEq, Int.reduceNeg]
    · simp (disch := first | assumption | omega | (left; assumption) | (refine aok_mk ?_ ?_ ?_ <;> first | assumption | omega) | (simp only [fok_sr, aok_sr]; first | assumption | omega | (left; assumption) | (refine aok_mk ?_ ?_ ?_ <;> first | assumption | omega)) | (simp; done)) only [e54_0, e54_1, e54_4, e54_5, e54_7, e54_10, e54_11, e54_14, e54_17, e54_18, eq_self, ne_a, ne_b, ne_c, Nat.reduceEqDiff, lt0, bnd_ok, psh_I, psh_L, psh_R, psh_U, gt_sr, gr_sr, sk_sr, nn_sr, ↓reduceIte, Int.toNat_natCast, Int.reduceToNat, h1, h2, ne_eq, not_false_eq_true, and_self, hr]
  · simp (disch := first | assumption | omega | (left; assumption) | (refine aok_mk ?_ ?_ ?_ <;> first | assumption | omega) | (simp only [fok_sr, aok_sr]; first | assumption | omega | (left; assumption) | (refine aok_mk ?_ ?_ ?_ <;> first | assumption | omega)) | (simp; done)) only [e54_0, e54_1, e54_4, e54_5, e54_7, e54_10, e54_11, e54_14, e54_17, e54_18, eq_self, ne_a, ne_b, ne_c, Nat.reduceEqDiff, lt0, bnd_ok, psh_I, psh_L, psh_R, psh_U, gt_sr, gr_sr, sk_sr, nn_sr, ↓reduceIte, Int.toNat_natCast, Int.reduceToNat, h1, false_and]
