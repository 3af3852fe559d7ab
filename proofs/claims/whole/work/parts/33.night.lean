/-! the whole store's shape -/
def skT : List (Nat × Nat × Nat) := [(1, 2, 7), (2, 0, 13), (3, 4, 24), (4, 4, 24), (5, 4, 24), (6, 4, 24), (7, 4, 96), (8, 4, 8), (9, 4, 8), (10, 0, 13), (11, 4, 24), (12, 4, 24), (13, 4, 24), (14, 4, 24), (15, 4, 96), (16, 4, 8), (17, 4, 8), (18, 1, 6), (19, 4, 60), (20, 6, 2), (21, 4, 24), (22, 4, 216), (23, 4, 24), (24, 3, 20), (25, 4, 24), (26, 4, 96), (27, 4, 16), (28, 4, 60), (29, 4, 24), (30, 4, 24), (31, 4, 24), (32, 4, 320), (33, 5, 2)]
def skK (k : Nat) : Nat × Nat := (skT.lookup k).getD (9, 0)
def grT : List (Nat × Nat × Nat) := [(1, 0, 2), (1, 1, 10), (1, 2, 18), (1, 3, 20), (1, 4, 21), (1, 5, 22), (1, 6, 23), (2, 6, 3), (2, 7, 4), (2, 8, 5), (2, 9, 6), (2, 10, 7), (2, 11, 8), (2, 12, 9), (10, 6, 11), (10, 7, 12), (10, 8, 13), (10, 9, 14), (10, 10, 15), (10, 11, 16), (10, 12, 17), (18, 0, 19), (24, 2, 25), (24, 6, 26), (24, 8, 27), (24, 10, 28), (24, 11, 29), (24, 12, 30), (24, 17, 31), (24, 18, 32), (24, 19, 33)]
def shp (σ : St) : Prop := 33 ≤ nn σ ∧ (∀ k, 1 ≤ k → k ≤ 33 → sk σ k = skK k) ∧ (∀ p ∈ grT, gr σ p.1 p.2.1 = p.2.2)
theorem shp_fok {σ : St} {k kd : Nat} (h : shp σ) (hk : 1 ≤ k ∧ k ≤ 33 ∧ (skK k).1 = kd) : fok σ k kd := ⟨hk.1, by have := h.1; omega, by rw [h.2.1 k hk.1 hk.2.1]; exact hk.2.2⟩
theorem shp_aok {σ : St} {k kd n : Nat} {j : Int} (h : shp σ) (hk : skK k = (kd, n)) (hk1 : decide (1 ≤ k ∧ k ≤ 33) = true) (h0 : 0 ≤ j) (h1 : j < (n : Int)) : aok σ k kd j := by
  have h9 := of_decide_eq_true hk1
  refine aok_mk (shp_fok h ⟨h9.1, h9.2, by rw [hk]⟩) h0 ?_
  rw [h.2.1 k h9.1 h9.2, hk]
  exact h1
theorem shp_ia {σ : St} {k n : Nat} (h : shp σ) (hk : 1 ≤ k ∧ k ≤ 33 ∧ skK k = (4, n)) : ia σ k n := ⟨shp_fok h ⟨hk.1, hk.2.1, by rw [hk.2.2]⟩, by rw [h.2.1 k hk.1 hk.2.1, hk.2.2]⟩
theorem shp_chg {S : List Nat} {σ σ' : St} (h : chg S σ σ') (hs : shp σ) : shp σ' := by
  obtain ⟨h1, h2, h3, h4, -⟩ := h
  unfold shp at hs ⊢
  rw [h1, h3, h4]
  exact hs
theorem shp_sr {σ : St} (q : Nat) (F : Nat → Int) (hs : shp σ) : shp (sr σ q F) := hs
theorem g1_0 {σ : St} (h : shp σ) : gr σ 1 0 = 2 := h.2.2 (1, 0, 2) (by decide)
theorem g1_1 {σ : St} (h : shp σ) : gr σ 1 1 = 10 := h.2.2 (1, 1, 10) (by decide)
theorem g1_2 {σ : St} (h : shp σ) : gr σ 1 2 = 18 := h.2.2 (1, 2, 18) (by decide)
theorem g1_3 {σ : St} (h : shp σ) : gr σ 1 3 = 20 := h.2.2 (1, 3, 20) (by decide)
theorem g1_4 {σ : St} (h : shp σ) : gr σ 1 4 = 21 := h.2.2 (1, 4, 21) (by decide)
theorem g1_5 {σ : St} (h : shp σ) : gr σ 1 5 = 22 := h.2.2 (1, 5, 22) (by decide)
theorem g1_6 {σ : St} (h : shp σ) : gr σ 1 6 = 23 := h.2.2 (1, 6, 23) (by decide)
theorem g2_6 {σ : St} (h : shp σ) : gr σ 2 6 = 3 := h.2.2 (2, 6, 3) (by decide)
theorem g2_7 {σ : St} (h : shp σ) : gr σ 2 7 = 4 := h.2.2 (2, 7, 4) (by decide)
theorem g2_8 {σ : St} (h : shp σ) : gr σ 2 8 = 5 := h.2.2 (2, 8, 5) (by decide)
theorem g2_9 {σ : St} (h : shp σ) : gr σ 2 9 = 6 := h.2.2 (2, 9, 6) (by decide)
theorem g2_10 {σ : St} (h : shp σ) : gr σ 2 10 = 7 := h.2.2 (2, 10, 7) (by decide)
theorem g2_11 {σ : St} (h : shp σ) : gr σ 2 11 = 8 := h.2.2 (2, 11, 8) (by decide)
theorem g2_12 {σ : St} (h : shp σ) : gr σ 2 12 = 9 := h.2.2 (2, 12, 9) (by decide)
theorem g10_6 {σ : St} (h : shp σ) : gr σ 10 6 = 11 := h.2.2 (10, 6, 11) (by decide)
theorem g10_7 {σ : St} (h : shp σ) : gr σ 10 7 = 12 := h.2.2 (10, 7, 12) (by decide)
theorem g10_8 {σ : St} (h : shp σ) : gr σ 10 8 = 13 := h.2.2 (10, 8, 13) (by decide)
theorem g10_9 {σ : St} (h : shp σ) : gr σ 10 9 = 14 := h.2.2 (10, 9, 14) (by decide)
theorem g10_10 {σ : St} (h : shp σ) : gr σ 10 10 = 15 := h.2.2 (10, 10, 15) (by decide)
theorem g10_11 {σ : St} (h : shp σ) : gr σ 10 11 = 16 := h.2.2 (10, 11, 16) (by decide)
theorem g10_12 {σ : St} (h : shp σ) : gr σ 10 12 = 17 := h.2.2 (10, 12, 17) (by decide)
theorem g18_0 {σ : St} (h : shp σ) : gr σ 18 0 = 19 := h.2.2 (18, 0, 19) (by decide)
theorem g24_2 {σ : St} (h : shp σ) : gr σ 24 2 = 25 := h.2.2 (24, 2, 25) (by decide)
theorem g24_6 {σ : St} (h : shp σ) : gr σ 24 6 = 26 := h.2.2 (24, 6, 26) (by decide)
theorem g24_8 {σ : St} (h : shp σ) : gr σ 24 8 = 27 := h.2.2 (24, 8, 27) (by decide)
theorem g24_10 {σ : St} (h : shp σ) : gr σ 24 10 = 28 := h.2.2 (24, 10, 28) (by decide)
theorem g24_11 {σ : St} (h : shp σ) : gr σ 24 11 = 29 := h.2.2 (24, 11, 29) (by decide)
theorem g24_12 {σ : St} (h : shp σ) : gr σ 24 12 = 30 := h.2.2 (24, 12, 30) (by decide)
theorem g24_17 {σ : St} (h : shp σ) : gr σ 24 17 = 31 := h.2.2 (24, 17, 31) (by decide)
theorem g24_18 {σ : St} (h : shp σ) : gr σ 24 18 = 32 := h.2.2 (24, 18, 32) (by decide)
theorem g24_19 {σ : St} (h : shp σ) : gr σ 24 19 = 33 := h.2.2 (24, 19, 33) (by decide)
theorem chg_gt {S : List Nat} {σ σ' : St} (h : chg S σ σ') {k : Nat} (hk : k ∉ S) : gt σ' k = gt σ k := h.2.2.2.2.2.2 k hk
theorem chg_gr {S : List Nat} {σ σ' : St} (h : chg S σ σ') : gr σ' = gr σ := h.2.2.2.1
/-! the pad -/
def hr (s : Int) : Int := if s = 94 then 0 else if s = 62 then 1 else if s = 95 then 2 else if s = 60 then 3 else if s = 126 then 4 else if s = 46 then 5 else -6
set_option maxRecDepth 100000 in
set_option maxHeartbeats 4000000 in
theorem c_hourOfR (s : Int) (σ : St) : run 23 0 [vI s] [] σ = some (vI (hr s), σ) := c_hourOf s σ
theorem hr_bd (s : Int) : hr s = -6 ∨ (0 ≤ hr s ∧ hr s ≤ 5) := by
  unfold hr
  repeat' split
  all_goals omega
def isA (g : Int) : Bool := decide (g = 43 ∨ g = 42 ∨ (48 ≤ g ∧ g ≤ 57))
def isC (n : Nat) (z : Int) : Bool := decide (0 ≤ z ∧ z < (n : Int))
def okp (cn : Nat) (sg : Nat → Int) : Prop := cn ≤ 60 ∧ ∀ i, i < cn → 33 ≤ sg i ∧ sg i ≤ 126
theorem hr_isC {n : Nat} (hn : n ≤ 24) {s : Int} (h : hr s ≠ -6) : isC n (s - 97) = false := by
  unfold hr at h
  unfold isC
  refine decide_eq_false ?_
  split at h
  · omega
  split at h
  · omega
  split at h
  · omega
  split at h
  · omega
  split at h
  · omega
  split at h
  · omega
  exact absurd rfl h
/-- whether what stands before the k-th sign wants an act there -/
def fac (n : Nat) (sg : Nat → Int) : Nat → Bool
  | 0 => false
  | k + 1 => !fac n sg k && isC n (sg k - 97)
def fits (n : Nat) (sg : Nat → Int) (k : Nat) : Bool := if fac n sg k = true then isA (sg k) else (isC n (sg k - 97) || decide (hr (sg k) ≠ -6))
def fltN (n : Nat) (sg : Nat → Int) : Nat → Nat → Int
  | 0, k => if fac n sg k = true then (k : Int) else -6
  | m + 1, k => if fits n sg k = true then fltN n sg m (k + 1) else (k : Int)
def flt (n cn : Nat) (sg : Nat → Int) : Int := fltN n sg cn 0
def alh (cn : Nat) (sg : Nat → Int) : Bool := alN (fun i => decide (hr (sg i) ≠ -6)) cn
set_option maxRecDepth 100000 in
set_option maxHeartbeats 4000000 in
theorem c_isAct (g : Int) (σ : St) : run 24 0 [vI g] [] σ = some (vI (b2i (isA g)), σ) := by
  by_cases h1 : g = 43
  · rw [show isA g = true from decide_eq_true (Or.inl h1)]
    simp (disch := first | assumption | omega | (exact shp_fok (by first | assumption | exact shp_sr _ _ (by assumption) | exact shp_sr _ _ (shp_sr _ _ (by assumption)) | exact shp_sr _ _ (shp_sr _ _ (shp_sr _ _ (by assumption)))) (by decide)) | (simp only [fok_sr, aok_sr]; first | assumption | (exact shp_fok (by first | assumption | exact shp_sr _ _ (by assumption) | exact shp_sr _ _ (shp_sr _ _ (by assumption)) | exact shp_sr _ _ (shp_sr _ _ (shp_sr _ _ (by assumption)))) (by decide))) | (refine shp_aok (by first | assumption | exact shp_sr _ _ (by assumption) | exact shp_sr _ _ (shp_sr _ _ (by assumption)) | exact shp_sr _ _ (shp_sr _ _ (shp_sr _ _ (by assumption)))) rfl rfl ?_ ?_ <;> omega) | (exact shp_sr _ _ (by assumption)) | (exact shp_sr _ _ (shp_sr _ _ (by assumption))) | (exact shp_sr _ _ (shp_sr _ _ (shp_sr _ _ (by assumption)))) | (left; assumption) | (exact b2i_or _) | (simp; done)) only [e24_0, e24_1, e24_3, e24_6, e24_7, e24_9, e24_12, e24_13, e24_15, e24_17, e24_20, e24_23, e24_24, e24_27, e24_28, eq_self, ne_a, ne_b, ne_c, Nat.reduceEqDiff, lt0, bnd_ok, psh_I, psh_L, psh_R, psh_U, gt_sr, gr_sr, sk_sr, nn_sr, ↓reduceIte, Int.toNat_natCast, Int.reduceToNat, h1, b2i_t]
  by_cases h2 : g = 42
  · rw [show isA g = true from decide_eq_true (Or.inr (Or.inl h2))]
    simp (disch := first | assumption | omega | (exact shp_fok (by first | assumption | exact shp_sr _ _ (by assumption) | exact shp_sr _ _ (shp_sr _ _ (by assumption)) | exact shp_sr _ _ (shp_sr _ _ (shp_sr _ _ (by assumption)))) (by decide)) | (simp only [fok_sr, aok_sr]; first | assumption | (exact shp_fok (by first | assumption | exact shp_sr _ _ (by assumption) | exact shp_sr _ _ (shp_sr _ _ (by assumption)) | exact shp_sr _ _ (shp_sr _ _ (shp_sr _ _ (by assumption)))) (by decide))) | (refine shp_aok (by first | assumption | exact shp_sr _ _ (by assumption) | exact shp_sr _ _ (shp_sr _ _ (by assumption)) | exact shp_sr _ _ (shp_sr _ _ (shp_sr _ _ (by assumption)))) rfl rfl ?_ ?_ <;> omega) | (exact shp_sr _ _ (by assumption)) | (exact shp_sr _ _ (shp_sr _ _ (by assumption))) | (exact shp_sr _ _ (shp_sr _ _ (shp_sr _ _ (by assumption)))) | (left; assumption) | (exact b2i_or _) | (simp; done)) only [e24_0, e24_1, e24_3, e24_6, e24_7, e24_9, e24_12, e24_13, e24_15, e24_17, e24_20, e24_23, e24_24, e24_27, e24_28, eq_self, ne_a, ne_b, ne_c, Nat.reduceEqDiff, lt0, bnd_ok, psh_I, psh_L, psh_R, psh_U, gt_sr, gr_sr, sk_sr, nn_sr, ↓reduceIte, Int.toNat_natCast, Int.reduceToNat, h2, b2i_t, Int.reduceEq]
  by_cases h3 : 48 ≤ g ∧ g ≤ 57
  · rw [show isA g = true from decide_eq_true (Or.inr (Or.inr h3))]
    simp (disch := first | assumption | omega | (exact shp_fok (by first | assumption | exact shp_sr _ _ (by assumption) | exact shp_sr _ _ (shp_sr _ _ (by assumption)) | exact shp_sr _ _ (shp_sr _ _ (shp_sr _ _ (by assumption)))) (by decide)) | (simp only [fok_sr, aok_sr]; first | assumption | (exact shp_fok (by first | assumption | exact shp_sr _ _ (by assumption) | exact shp_sr _ _ (shp_sr _ _ (by assumption)) | exact shp_sr _ _ (shp_sr _ _ (shp_sr _ _ (by assumption)))) (by decide))) | (refine shp_aok (by first | assumption | exact shp_sr _ _ (by assumption) | exact shp_sr _ _ (shp_sr _ _ (by assumption)) | exact shp_sr _ _ (shp_sr _ _ (shp_sr _ _ (by assumption)))) rfl rfl ?_ ?_ <;> omega) | (exact shp_sr _ _ (by assumption)) | (exact shp_sr _ _ (shp_sr _ _ (by assumption))) | (exact shp_sr _ _ (shp_sr _ _ (shp_sr _ _ (by assumption)))) | (left; assumption) | (exact b2i_or _) | (simp; done)) only [e24_0, e24_1, e24_3, e24_6, e24_7, e24_9, e24_12, e24_13, e24_15, e24_17, e24_20, e24_23, e24_24, e24_27, e24_28, eq_self, ne_a, ne_b, ne_c, Nat.reduceEqDiff, lt0, bnd_ok, psh_I, psh_L, psh_R, psh_U, gt_sr, gr_sr, sk_sr, nn_sr, ↓reduceIte, Int.toNat_natCast, Int.reduceToNat, h1, h2, c_isWithin, if_pos h3, b2i_t, Int.reduceEq]
  · rw [show isA g = false from decide_eq_false (by omega)]
    simp (disch := first | assumption | omega | (exact shp_fok (by first | assumption | exact shp_sr _ _ (by assumption) | exact shp_sr _ _ (shp_sr _ _ (by assumption)) | exact shp_sr _ _ (shp_sr _ _ (shp_sr _ _ (by assumption)))) (by decide)) | (simp only [fok_sr, aok_sr]; first | assumption | (exact shp_fok (by first | assumption | exact shp_sr _ _ (by assumption) | exact shp_sr _ _ (shp_sr _ _ (by assumption)) | exact shp_sr _ _ (shp_sr _ _ (shp_sr _ _ (by assumption)))) (by decide))) | (refine shp_aok (by first | assumption | exact shp_sr _ _ (by assumption) | exact shp_sr _ _ (shp_sr _ _ (by assumption)) | exact shp_sr _ _ (shp_sr _ _ (shp_sr _ _ (by assumption)))) rfl rfl ?_ ?_ <;> omega) | (exact shp_sr _ _ (by assumption)) | (exact shp_sr _ _ (shp_sr _ _ (by assumption))) | (exact shp_sr _ _ (shp_sr _ _ (shp_sr _ _ (by assumption)))) | (left; assumption) | (exact b2i_or _) | (simp; done)) only [e24_0, e24_1, e24_3, e24_6, e24_7, e24_9, e24_12, e24_13, e24_15, e24_17, e24_20, e24_23, e24_24, e24_27, e24_28, eq_self, ne_a, ne_b, ne_c, Nat.reduceEqDiff, lt0, bnd_ok, psh_I, psh_L, psh_R, psh_U, gt_sr, gr_sr, sk_sr, nn_sr, ↓reduceIte, Int.toNat_natCast, Int.reduceToNat, h1, h2, c_isWithin, if_neg h3, b2i_f, Int.reduceEq]
/-- the pad in the store -/
def npd (σ : St) (cn : Nat) (sg : Nat → Int) : Prop := shp σ ∧ gt σ 18 1 = (cn : Int) ∧ gt σ 19 = sg ∧ okp cn sg
set_option maxRecDepth 100000 in
set_option maxHeartbeats 4000000 in
theorem c_sign {σ : St} {sg : Nat → Int} (h : shp σ) (h2 : gt σ 19 = sg) {k : Nat} (hk : k < 60) : run 10 0 [vR 19, vI (k : Int)] [] σ = some (vI (sg k), σ) := by
  have := c_atN (shp_ia (k := 19) (n := 60) h (by decide)) hk
  rw [h2] at this
  exact this
set_option maxRecDepth 100000 in
set_option maxHeartbeats 4000000 in
theorem c_isHoursAlone {σ : St} {cn : Nat} {sg : Nat → Int} (h : npd σ cn sg) : run 48 0 [vR 18, vU, vU] [] σ = some (vI (b2i (alh cn sg)), σ) := by
  obtain ⟨hs, h1, h2, h60, -⟩ := h
  generalize hp : (fun i => decide (hr (sg i) ≠ -6)) = p
  have hpi : ∀ i, p i = decide (hr (sg i) ≠ -6) := fun i => by rw [← hp]
  have L : run 48 4 [vR 18, vI (b2i (alN p 0)), vI 0] [] σ = some (vI (b2i (alN p cn)), σ) := by
    refine bk (P := fun k z => run 48 4 [vR 18, vI (b2i (alN p k)), vI z] [] σ = some (vI (b2i (alN p cn)), σ)) (n := cn) ?_ ?_
    · rw [e48_4]
      have h4 : ¬ (cn : Int) < (cn : Int) := by omega
      simp (disch := first | assumption | omega | (exact shp_fok (by first | assumption | exact shp_sr _ _ (by assumption) | exact shp_sr _ _ (shp_sr _ _ (by assumption)) | exact shp_sr _ _ (shp_sr _ _ (shp_sr _ _ (by assumption)))) (by decide)) | (simp only [fok_sr, aok_sr]; first | assumption | (exact shp_fok (by first | assumption | exact shp_sr _ _ (by assumption) | exact shp_sr _ _ (shp_sr _ _ (by assumption)) | exact shp_sr _ _ (shp_sr _ _ (shp_sr _ _ (by assumption)))) (by decide))) | (refine shp_aok (by first | assumption | exact shp_sr _ _ (by assumption) | exact shp_sr _ _ (shp_sr _ _ (by assumption)) | exact shp_sr _ _ (shp_sr _ _ (shp_sr _ _ (by assumption)))) rfl rfl ?_ ?_ <;> omega) | (exact shp_sr _ _ (by assumption)) | (exact shp_sr _ _ (shp_sr _ _ (by assumption))) | (exact shp_sr _ _ (shp_sr _ _ (shp_sr _ _ (by assumption)))) | (left; assumption) | (exact b2i_or _) | (simp; done)) only [e48_0, e48_1, e48_2, e48_3, e48_5, e48_6, e48_9, e48_12, e48_13, e48_16, e48_17, e48_20, e48_21, e48_24, e48_27, e48_29, e48_32, e48_33, e48_36, e48_37, e48_38, e48_41, e48_44, e48_45, eq_self, ne_a, ne_b, ne_c, Nat.reduceEqDiff, lt0, bnd_ok, psh_I, psh_L, psh_R, psh_U, gt_sr, gr_sr, sk_sr, nn_sr, ↓reduceIte, Int.toNat_natCast, Int.reduceToNat, h1, h4]
    · intro k hk hk' ih
      have e3 : alN p (k + 1) = (alN p k && p k) := rfl
      rw [e3, hpi] at ih
      have a1 := c_sign hs h2 (show k < 60 by omega)
      have w5 : wr ((k : Int) + 1) = (k : Int) + 1 := wr_id (by omega) (by omega)
      rw [e48_4]
      cases hx : alN p k with
      | false =>
        rw [hx, Bool.false_and] at ih
        simp (disch := first | assumption | omega | (exact shp_fok (by first | assumption | exact shp_sr _ _ (by assumption) | exact shp_sr _ _ (shp_sr _ _ (by assumption)) | exact shp_sr _ _ (shp_sr _ _ (shp_sr _ _ (by assumption)))) (by decide)) | (simp only [fok_sr, aok_sr]; first | assumption | (exact shp_fok (by first | assumption | exact shp_sr _ _ (by assumption) | exact shp_sr _ _ (shp_sr _ _ (by assumption)) | exact shp_sr _ _ (shp_sr _ _ (shp_sr _ _ (by assumption)))) (by decide))) | (refine shp_aok (by first | assumption | exact shp_sr _ _ (by assumption) | exact shp_sr _ _ (shp_sr _ _ (by assumption)) | exact shp_sr _ _ (shp_sr _ _ (shp_sr _ _ (by assumption)))) rfl rfl ?_ ?_ <;> omega) | (exact shp_sr _ _ (by assumption)) | (exact shp_sr _ _ (shp_sr _ _ (by assumption))) | (exact shp_sr _ _ (shp_sr _ _ (shp_sr _ _ (by assumption)))) | (left; assumption) | (exact b2i_or _) | (simp; done)) only [e48_0, e48_1, e48_2, e48_3, e48_5, e48_6, e48_9, e48_12, e48_13, e48_16, e48_17, e48_20, e48_21, e48_24, e48_27, e48_29, e48_32, e48_33, e48_36, e48_37, e48_38, e48_41, e48_44, e48_45, eq_self, ne_a, ne_b, ne_c, Nat.reduceEqDiff, lt0, bnd_ok, psh_I, psh_L, psh_R, psh_U, gt_sr, gr_sr, sk_sr, nn_sr, ↓reduceIte, Int.toNat_natCast, Int.reduceToNat, h1, hk', b2i_f, w5]
        exact ih
      | true =>
        rw [hx, Bool.true_and] at ih
        by_cases hh : hr (sg k) = -6
        · rw [decide_eq_false (fun e => e hh)] at ih
          simp (disch := first | assumption | omega | (exact shp_fok (by first | assumption | exact shp_sr _ _ (by assumption) | exact shp_sr _ _ (shp_sr _ _ (by assumption)) | exact shp_sr _ _ (shp_sr _ _ (shp_sr _ _ (by assumption)))) (by decide)) | (simp only [fok_sr, aok_sr]; first | assumption | (exact shp_fok (by first | assumption | exact shp_sr _ _ (by assumption) | exact shp_sr _ _ (shp_sr _ _ (by assumption)) | exact shp_sr _ _ (shp_sr _ _ (shp_sr _ _ (by assumption)))) (by decide))) | (refine shp_aok (by first | assumption | exact shp_sr _ _ (by assumption) | exact shp_sr _ _ (shp_sr _ _ (by assumption)) | exact shp_sr _ _ (shp_sr _ _ (shp_sr _ _ (by assumption)))) rfl rfl ?_ ?_ <;> omega) | (exact shp_sr _ _ (by assumption)) | (exact shp_sr _ _ (shp_sr _ _ (by assumption))) | (exact shp_sr _ _ (shp_sr _ _ (shp_sr _ _ (by assumption)))) | (left; assumption) | (exact b2i_or _) | (simp; done)) only [e48_0, e48_1, e48_2, e48_3, e48_5, e48_6, e48_9, e48_12, e48_13, e48_16, e48_17, e48_20, e48_21, e48_24, e48_27, e48_29, e48_32, e48_33, e48_36, e48_37, e48_38, e48_41, e48_44, e48_45, eq_self, ne_a, ne_b, ne_c, Nat.reduceEqDiff, lt0, bnd_ok, psh_I, psh_L, psh_R, psh_U, gt_sr, gr_sr, sk_sr, nn_sr, ↓reduceIte, Int.toNat_natCast, Int.reduceToNat, h1, hk', b2i_t, g18_0, a1, c_hourOfR, hh, w5, Int.reduceEq]
          exact ih
        · rw [decide_eq_true hh] at ih
          simp (disch := first | assumption | omega | (exact shp_fok (by first | assumption | exact shp_sr _ _ (by assumption) | exact shp_sr _ _ (shp_sr _ _ (by assumption)) | exact shp_sr _ _ (shp_sr _ _ (shp_sr _ _ (by assumption)))) (by decide)) | (simp only [fok_sr, aok_sr]; first | assumption | (exact shp_fok (by first | assumption | exact shp_sr _ _ (by assumption) | exact shp_sr _ _ (shp_sr _ _ (by assumption)) | exact shp_sr _ _ (shp_sr _ _ (shp_sr _ _ (by assumption)))) (by decide))) | (refine shp_aok (by first | assumption | exact shp_sr _ _ (by assumption) | exact shp_sr _ _ (shp_sr _ _ (by assumption)) | exact shp_sr _ _ (shp_sr _ _ (shp_sr _ _ (by assumption)))) rfl rfl ?_ ?_ <;> omega) | (exact shp_sr _ _ (by assumption)) | (exact shp_sr _ _ (shp_sr _ _ (by assumption))) | (exact shp_sr _ _ (shp_sr _ _ (shp_sr _ _ (by assumption)))) | (left; assumption) | (exact b2i_or _) | (simp; done)) only [e48_0, e48_1, e48_2, e48_3, e48_5, e48_6, e48_9, e48_12, e48_13, e48_16, e48_17, e48_20, e48_21, e48_24, e48_27, e48_29, e48_32, e48_33, e48_36, e48_37, e48_38, e48_41, e48_44, e48_45, eq_self, ne_a, ne_b, ne_c, Nat.reduceEqDiff, lt0, bnd_ok, psh_I, psh_L, psh_R, psh_U, gt_sr, gr_sr, sk_sr, nn_sr, ↓reduceIte, Int.toNat_natCast, Int.reduceToNat, h1, hk', b2i_t, g18_0, a1, c_hourOfR, hh, w5, Int.reduceEq]
          exact ih
  simp (disch := first | assumption | omega | (exact shp_fok (by first | assumption | exact shp_sr _ _ (by assumption) | exact shp_sr _ _ (shp_sr _ _ (by assumption)) | exact shp_sr _ _ (shp_sr _ _ (shp_sr _ _ (by assumption)))) (by decide)) | (simp only [fok_sr, aok_sr]; first | assumption | (exact shp_fok (by first | assumption | exact shp_sr _ _ (by assumption) | exact shp_sr _ _ (shp_sr _ _ (by assumption)) | exact shp_sr _ _ (shp_sr _ _ (shp_sr _ _ (by assumption)))) (by decide))) | (refine shp_aok (by first | assumption | exact shp_sr _ _ (by assumption) | exact shp_sr _ _ (shp_sr _ _ (by assumption)) | exact shp_sr _ _ (shp_sr _ _ (shp_sr _ _ (by assumption)))) rfl rfl ?_ ?_ <;> omega) | (exact shp_sr _ _ (by assumption)) | (exact shp_sr _ _ (shp_sr _ _ (by assumption))) | (exact shp_sr _ _ (shp_sr _ _ (shp_sr _ _ (by assumption)))) | (left; assumption) | (exact b2i_or _) | (simp; done)) only [e48_0, e48_1, e48_2, e48_3, e48_5, e48_6, e48_9, e48_12, e48_13, e48_16, e48_17, e48_20, e48_21, e48_24, e48_27, e48_29, e48_32, e48_33, e48_36, e48_37, e48_38, e48_41, e48_44, e48_45, eq_self, ne_a, ne_b, ne_c, Nat.reduceEqDiff, lt0, bnd_ok, psh_I, psh_L, psh_R, psh_U, gt_sr, gr_sr, sk_sr, nn_sr, ↓reduceIte, Int.toNat_natCast, Int.reduceToNat]
  unfold alh
  rw [hp]
  exact L
/-- hours on a pad pass -/
def pah (d : Dat) (sg : Nat → Int) : Nat → Dat
  | 0 => d
  | n + 1 => pas (pah d sg n) (hr (sg n))
theorem ok_pah {d : Dat} (h : okd d) (sg : Nat → Int) : ∀ n, okd (pah d sg n)
  | 0 => h
  | n + 1 => ok_pas (ok_pah h sg n) _
theorem alN_at {p : Nat → Bool} {n : Nat} (h : alN p n = true) : ∀ i, i < n → p i = true := by
  induction n with
  | zero => intro i hi; omega
  | succ n ih =>
    unfold alN at h
    rw [Bool.and_eq_true] at h
    intro i hi
    by_cases e : i = n
    · rw [e]; exact h.2
    · exact ih h.1 i (by omega)
theorem npd_chg {S : List Nat} {σ σ' : St} {cn : Nat} {sg : Nat → Int} (h : chg S σ σ') (h1 : 18 ∉ S) (h2 : 19 ∉ S) (hn : npd σ cn sg) : npd σ' cn sg := by
  obtain ⟨a1, a2, a3, a4⟩ := hn
  refine ⟨shp_chg h a1, ?_, ?_, a4⟩
  · rw [chg_gt h h1]; exact a2
  · rw [chg_gt h h2]; exact a3
set_option maxRecDepth 100000 in
set_option maxHeartbeats 4000000 in
theorem c_passHours {σ : St} {b cn : Nat} {d : Dat} {sg : Nat → Int} (h : npd σ cn sg) (hr1 : rep σ b d) (ho : okd d) (ha : alh cn sg = true) (hb : b + 4 < 18) : ∃ σ', run 52 0 [vR 18, vR b, vU] [] σ = some (vU, σ') ∧ chg [b + 1, b + 4] σ σ' ∧ rep σ' b (pah d sg cn) := by
  have hall := alN_at ha
  have hb0 := hr1.1.1.1
  have hbn : ¬ b = 0 := by omega
  have L : ∀ σ1, npd σ1 cn sg → rep σ1 b (pah d sg 0) → ∃ σ', run 52 2 [vR 18, vR b, vI 0] [] σ1 = some (vU, σ') ∧ chg [b + 1, b + 4] σ1 σ' ∧ rep σ' b (pah d sg cn) := by
    refine bk (P := fun k z => ∀ σ1, npd σ1 cn sg → rep σ1 b (pah d sg k) → ∃ σ', run 52 2 [vR 18, vR b, vI z] [] σ1 = some (vU, σ') ∧ chg [b + 1, b + 4] σ1 σ' ∧ rep σ' b (pah d sg cn)) (n := cn) ?_ ?_
    · intro σ1 hn hr2
      obtain ⟨hs, h1, h2, h60, -⟩ := hn
      refine ⟨σ1, ?_, chg_rf _ _, hr2⟩
      rw [e52_2]
      have h4 : ¬ (cn : Int) < (cn : Int) := by omega
      simp (disch := first | assumption | omega | (exact shp_fok (by first | assumption | exact shp_sr _ _ (by assumption) | exact shp_sr _ _ (shp_sr _ _ (by assumption)) | exact shp_sr _ _ (shp_sr _ _ (shp_sr _ _ (by assumption)))) (by decide)) | (simp only [fok_sr, aok_sr]; first | assumption | (exact shp_fok (by first | assumption | exact shp_sr _ _ (by assumption) | exact shp_sr _ _ (shp_sr _ _ (by assumption)) | exact shp_sr _ _ (shp_sr _ _ (shp_sr _ _ (by assumption)))) (by decide))) | (refine shp_aok (by first | assumption | exact shp_sr _ _ (by assumption) | exact shp_sr _ _ (shp_sr _ _ (by assumption)) | exact shp_sr _ _ (shp_sr _ _ (shp_sr _ _ (by assumption)))) rfl rfl ?_ ?_ <;> omega) | (exact shp_sr _ _ (by assumption)) | (exact shp_sr _ _ (shp_sr _ _ (by assumption))) | (exact shp_sr _ _ (shp_sr _ _ (shp_sr _ _ (by assumption)))) | (left; assumption) | (exact b2i_or _) | (simp; done)) only [e52_0, e52_1, e52_3, e52_4, e52_7, e52_10, e52_11, e52_14, e52_15, e52_16, e52_19, e52_20, e52_23, e52_26, e52_29, e52_32, e52_35, eq_self, ne_a, ne_b, ne_c, Nat.reduceEqDiff, lt0, bnd_ok, psh_I, psh_L, psh_R, psh_U, gt_sr, gr_sr, sk_sr, nn_sr, ↓reduceIte, Int.toNat_natCast, Int.reduceToNat, h1, h4]
    · intro k hk hk' ih σ1 hn hr2
      have hh : hr (sg k) ≠ -6 := of_decide_eq_true (hall k hk)
      have hbd := hr_bd (sg k)
      obtain ⟨σ2, e2, c2, r2⟩ := c_passR hr2 (ok_pah ho sg k) (h := hr (sg k)) (by omega) (by omega)
      obtain ⟨σ3, e3, c3, r3⟩ := ih σ2 (npd_chg c2 (by simp; omega) (by simp; omega) hn) r2
      obtain ⟨hs, h1, h2, h60, -⟩ := hn
      have hf := hr2.1.1
      have a1 := c_sign hs h2 (show k < 60 by omega)
      have w5 : wr ((k : Int) + 1) = (k : Int) + 1 := wr_id (by omega) (by omega)
      refine ⟨σ3, ?_, chg_tr c2 c3 (fun _ h => h), r3⟩
      rw [e52_2]
      simp (disch := first | assumption | omega | (exact shp_fok (by first | assumption | exact shp_sr _ _ (by assumption) | exact shp_sr _ _ (shp_sr _ _ (by assumption)) | exact shp_sr _ _ (shp_sr _ _ (shp_sr _ _ (by assumption)))) (by decide)) | (simp only [fok_sr, aok_sr]; first | assumption | (exact shp_fok (by first | assumption | exact shp_sr _ _ (by assumption) | exact shp_sr _ _ (shp_sr _ _ (by assumption)) | exact shp_sr _ _ (shp_sr _ _ (shp_sr _ _ (by assumption)))) (by decide))) | (refine shp_aok (by first | assumption | exact shp_sr _ _ (by assumption) | exact shp_sr _ _ (shp_sr _ _ (by assumption)) | exact shp_sr _ _ (shp_sr _ _ (shp_sr _ _ (by assumption)))) rfl rfl ?_ ?_ <;> omega) | (exact shp_sr _ _ (by assumption)) | (exact shp_sr _ _ (shp_sr _ _ (by assumption))) | (exact shp_sr _ _ (shp_sr _ _ (shp_sr _ _ (by assumption)))) | (left; assumption) | (exact b2i_or _) | (simp; done)) only [e52_0, e52_1, e52_3, e52_4, e52_7, e52_10, e52_11, e52_14, e52_15, e52_16, e52_19, e52_20, e52_23, e52_26, e52_29, e52_32, e52_35, eq_self, ne_a, ne_b, ne_c, Nat.reduceEqDiff, lt0, bnd_ok, psh_I, psh_L, psh_R, psh_U, gt_sr, gr_sr, sk_sr, nn_sr, ↓reduceIte, Int.toNat_natCast, Int.reduceToNat, h1, hk', hbn, g18_0, a1, c_hourOfR, e2, w5]
      exact e3
  obtain ⟨σ', e, c, r⟩ := L σ h hr1
  refine ⟨σ', ?_, c, r⟩
  simp (disch := first | assumption | omega | (exact shp_fok (by first | assumption | exact shp_sr _ _ (by assumption) | exact shp_sr _ _ (shp_sr _ _ (by assumption)) | exact shp_sr _ _ (shp_sr _ _ (shp_sr _ _ (by assumption)))) (by decide)) | (simp only [fok_sr, aok_sr]; first | assumption | (exact shp_fok (by first | assumption | exact shp_sr _ _ (by assumption) | exact shp_sr _ _ (shp_sr _ _ (by assumption)) | exact shp_sr _ _ (shp_sr _ _ (shp_sr _ _ (by assumption)))) (by decide))) | (refine shp_aok (by first | assumption | exact shp_sr _ _ (by assumption) | exact shp_sr _ _ (shp_sr _ _ (by assumption)) | exact shp_sr _ _ (shp_sr _ _ (shp_sr _ _ (by assumption)))) rfl rfl ?_ ?_ <;> omega) | (exact shp_sr _ _ (by assumption)) | (exact shp_sr _ _ (shp_sr _ _ (by assumption))) | (exact shp_sr _ _ (shp_sr _ _ (shp_sr _ _ (by assumption)))) | (left; assumption) | (exact b2i_or _) | (simp; done)) only [e52_0, e52_1, e52_3, e52_4, e52_7, e52_10, e52_11, e52_14, e52_15, e52_16, e52_19, e52_20, e52_23, e52_26, e52_29, e52_32, e52_35, eq_self, ne_a, ne_b, ne_c, Nat.reduceEqDiff, lt0, bnd_ok, psh_I, psh_L, psh_R, psh_U, gt_sr, gr_sr, sk_sr, nn_sr, ↓reduceIte, Int.toNat_natCast, Int.reduceToNat]
  exact e
set_option maxRecDepth 100000 in
set_option maxHeartbeats 4000000 in
theorem c_firstFault {σ : St} {b cn : Nat} {d : Dat} {sg : Nat → Int} (h : npd σ cn sg) (hr1 : rep σ b d) (ho : okd d) : run 22 0 [vR 18, vR b, vU, vU] [] σ = some (vI (flt (dn_ d) cn sg), σ) := by
  have hb0 := hr1.1.1.1
  have hbn : ¬ b = 0 := by omega
  have hf := hr1.1.1
  have hn24 := dn24 ho
  obtain ⟨hs, h1, h2, h60, h9⟩ := h
  have hhas := c_hasR hr1
  have L : ∀ m, ∀ m' p : Nat, m' ≤ m → p + m' = cn → fac (dn_ d) sg p = false → ∀ q, run 22 2 [vR 18, vR b, vI (p : Int), q] [] σ = some (vI (fltN (dn_ d) sg m' p), σ) := by
    intro m
    induction m with
    | zero =>
      intro m' p hm hp hfa q
      obtain rfl : m' = 0 := by omega
      have h4 : ¬ (p : Int) < (cn : Int) := by omega
      rw [e22_2]
      simp (disch := first | assumption | omega | (exact shp_fok (by first | assumption | exact shp_sr _ _ (by assumption) | exact shp_sr _ _ (shp_sr _ _ (by assumption)) | exact shp_sr _ _ (shp_sr _ _ (shp_sr _ _ (by assumption)))) (by decide)) | (simp only [fok_sr, aok_sr]; first | assumption | (exact shp_fok (by first | assumption | exact shp_sr _ _ (by assumption) | exact shp_sr _ _ (shp_sr _ _ (by assumption)) | exact shp_sr _ _ (shp_sr _ _ (shp_sr _ _ (by assumption)))) (by decide))) | (refine shp_aok (by first | assumption | exact shp_sr _ _ (by assumption) | exact shp_sr _ _ (shp_sr _ _ (by assumption)) | exact shp_sr _ _ (shp_sr _ _ (shp_sr _ _ (by assumption)))) rfl rfl ?_ ?_ <;> omega) | (exact shp_sr _ _ (by assumption)) | (exact shp_sr _ _ (shp_sr _ _ (by assumption))) | (exact shp_sr _ _ (shp_sr _ _ (shp_sr _ _ (by assumption)))) | (left; assumption) | (exact b2i_or _) | (simp; done)) only [e22_0, e22_1, e22_3, e22_4, e22_7, e22_10, e22_11, e22_14, e22_15, e22_18, e22_19, e22_20, e22_23, e22_25, e22_28, e22_31, e22_34, e22_35, e22_38, e22_39, e22_40, e22_42, e22_43, e22_46, e22_49, e22_50, e22_51, e22_52, e22_53, e22_54, e22_55, e22_58, e22_61, e22_62, e22_65, e22_66, e22_67, e22_70, e22_71, e22_72, e22_73, e22_76, e22_79, e22_82, e22_83, e22_84, e22_85, e22_86, e22_89, e22_92, e22_94, eq_self, ne_a, ne_b, ne_c, Nat.reduceEqDiff, lt0, bnd_ok, psh_I, psh_L, psh_R, psh_U, gt_sr, gr_sr, sk_sr, nn_sr, ↓reduceIte, Int.toNat_natCast, Int.reduceToNat, h1, h4]
      unfold fltN
      rw [hfa]
      rfl
    | succ m ih =>
      intro m' p hm hp hfa q
      by_cases hm0 : m' = 0
      · exact ih m' p (by omega) hp hfa q
      obtain ⟨m1, rfl⟩ : ∃ m1, m' = m1 + 1 := ⟨m' - 1, by omega⟩
      have h4 : (p : Int) < (cn : Int) := by omega
      have hsp := h9 p (by omega)
      have a1 := c_sign hs h2 (show p < 60 by omega)
      have w5 : wr ((p : Int) + 1) = (p : Int) + 1 := wr_id (by omega) (by omega)
      have w6 : wr ((p : Int) + 2) = (p : Int) + 2 := wr_id (by omega) (by omega)
      have w7 : wr (sg p - 97) = sg p - 97 := wr_id (by omega) (by omega)
      have f1 : fltN (dn_ d) sg (m1 + 1) p = if fits (dn_ d) sg p = true then fltN (dn_ d) sg m1 (p + 1) else (p : Int) := rfl
      have f2 : fits (dn_ d) sg p = (isC (dn_ d) (sg p - 97) || decide (hr (sg p) ≠ -6)) := by unfold fits; rw [hfa]; rfl
      have f3 : fac (dn_ d) sg (p + 1) = isC (dn_ d) (sg p - 97) := by
        show (!fac (dn_ d) sg p && _) = _
        rw [hfa, Bool.not_false, Bool.true_and]
      by_cases hh : hr (sg p) = -6
      · have hha := hhas (sg p - 97)
        by_cases hc : 0 ≤ sg p - 97 ∧ sg p - 97 < (dn_ d : Nat)
        · rw [if_pos hc] at hha
          have hcc : isC (dn_ d) (sg p - 97) = true := decide_eq_true hc
          rw [f1, f2, hcc, Bool.true_or, if_pos rfl]
          rw [hcc] at f3
          by_cases hm1 : m1 = 0
          · subst hm1
            have h5 : (p : Int) + 1 = (cn : Int) := by omega
            have w9 : wr (cn : Int) = (cn : Int) := wr_id (by omega) (by omega)
            rw [e22_2]
            simp (disch := first | assumption | omega | (exact shp_fok (by first | assumption | exact shp_sr _ _ (by assumption) | exact shp_sr _ _ (shp_sr _ _ (by assumption)) | exact shp_sr _ _ (shp_sr _ _ (shp_sr _ _ (by assumption)))) (by decide)) | (simp only [fok_sr, aok_sr]; first | assumption | (exact shp_fok (by first | assumption | exact shp_sr _ _ (by assumption) | exact shp_sr _ _ (shp_sr _ _ (by assumption)) | exact shp_sr _ _ (shp_sr _ _ (shp_sr _ _ (by assumption)))) (by decide))) | (refine shp_aok (by first | assumption | exact shp_sr _ _ (by assumption) | exact shp_sr _ _ (shp_sr _ _ (by assumption)) | exact shp_sr _ _ (shp_sr _ _ (shp_sr _ _ (by assumption)))) rfl rfl ?_ ?_ <;> omega) | (exact shp_sr _ _ (by assumption)) | (exact shp_sr _ _ (shp_sr _ _ (by assumption))) | (exact shp_sr _ _ (shp_sr _ _ (shp_sr _ _ (by assumption)))) | (left; assumption) | (exact b2i_or _) | (simp; done)) only [e22_0, e22_1, e22_3, e22_4, e22_7, e22_10, e22_11, e22_14, e22_15, e22_18, e22_19, e22_20, e22_23, e22_25, e22_28, e22_31, e22_34, e22_35, e22_38, e22_39, e22_40, e22_42, e22_43, e22_46, e22_49, e22_50, e22_51, e22_52, e22_53, e22_54, e22_55, e22_58, e22_61, e22_62, e22_65, e22_66, e22_67, e22_70, e22_71, e22_72, e22_73, e22_76, e22_79, e22_82, e22_83, e22_84, e22_85, e22_86, e22_89, e22_92, e22_94, eq_self, ne_a, ne_b, ne_c, Nat.reduceEqDiff, lt0, bnd_ok, psh_I, psh_L, psh_R, psh_U, gt_sr, gr_sr, sk_sr, nn_sr, ↓reduceIte, Int.toNat_natCast, Int.reduceToNat, h1, h4, hbn, g18_0, a1, c_hourOfR, hh, hha, w5, w6, w7, h5, w9, Int.reduceEq]
            unfold fltN
            rw [f3, if_pos rfl]
            rw [show ((p + 1 : Nat) : Int) = (cn : Int) by omega]
          · obtain ⟨m2, rfl⟩ : ∃ m2, m1 = m2 + 1 := ⟨m1 - 1, by omega⟩
            have h5 : ¬ (p : Int) + 1 = (cn : Int) := by omega
            have a2 := c_sign hs h2 (show p + 1 < 60 by omega)
            have w8 : ((p + 1 : Nat) : Int) = (p : Int) + 1 := by omega
            rw [w8] at a2
            have f4 : fltN (dn_ d) sg (m2 + 1) (p + 1) = if fits (dn_ d) sg (p + 1) = true then fltN (dn_ d) sg m2 (p + 2) else ((p + 1 : Nat) : Int) := rfl
            have f5 : fits (dn_ d) sg (p + 1) = isA (sg (p + 1)) := by unfold fits; rw [f3]; rfl
            have f6 : fac (dn_ d) sg (p + 2) = false := by
              show (!fac (dn_ d) sg (p + 1) && _) = _
              rw [f3]; rfl
            rw [f4, f5, w8]
            have hih := ih m2 (p + 2) (by omega) (by omega) f6
            rw [show ((p + 2 : Nat) : Int) = (p : Int) + 2 by omega] at hih
            have a3 := c_isAct (sg (p + 1)) σ
            rw [e22_2]
            cases hA : isA (sg (p + 1)) with
            | true =>
              rw [hA] at a3
              simp (disch := first | assumption | omega | (exact shp_fok (by first | assumption | exact shp_sr _ _ (by assumption) | exact shp_sr _ _ (shp_sr _ _ (by assumption)) | exact shp_sr _ _ (shp_sr _ _ (shp_sr _ _ (by assumption)))) (by decide)) | (simp only [fok_sr, aok_sr]; first | assumption | (exact shp_fok (by first | assumption | exact shp_sr _ _ (by assumption) | exact shp_sr _ _ (shp_sr _ _ (by assumption)) | exact shp_sr _ _ (shp_sr _ _ (shp_sr _ _ (by assumption)))) (by decide))) | (refine shp_aok (by first | assumption | exact shp_sr _ _ (by assumption) | exact shp_sr _ _ (shp_sr _ _ (by assumption)) | exact shp_sr _ _ (shp_sr _ _ (shp_sr _ _ (by assumption)))) rfl rfl ?_ ?_ <;> omega) | (exact shp_sr _ _ (by assumption)) | (exact shp_sr _ _ (shp_sr _ _ (by assumption))) | (exact shp_sr _ _ (shp_sr _ _ (shp_sr _ _ (by assumption)))) | (left; assumption) | (exact b2i_or _) | (simp; done)) only [e22_0, e22_1, e22_3, e22_4, e22_7, e22_10, e22_11, e22_14, e22_15, e22_18, e22_19, e22_20, e22_23, e22_25, e22_28, e22_31, e22_34, e22_35, e22_38, e22_39, e22_40, e22_42, e22_43, e22_46, e22_49, e22_50, e22_51, e22_52, e22_53, e22_54, e22_55, e22_58, e22_61, e22_62, e22_65, e22_66, e22_67, e22_70, e22_71, e22_72, e22_73, e22_76, e22_79, e22_82, e22_83, e22_84, e22_85, e22_86, e22_89, e22_92, e22_94, eq_self, ne_a, ne_b, ne_c, Nat.reduceEqDiff, lt0, bnd_ok, psh_I, psh_L, psh_R, psh_U, gt_sr, gr_sr, sk_sr, nn_sr, ↓reduceIte, Int.toNat_natCast, Int.reduceToNat, h1, h4, hbn, g18_0, a1, a2, a3, b2i_t, c_hourOfR, hh, hha, w5, w6, w7, h5, Int.reduceEq, hih]
            | false =>
              rw [hA] at a3
              simp (disch := first | assumption | omega | (exact shp_fok (by first | assumption | exact shp_sr _ _ (by assumption) | exact shp_sr _ _ (shp_sr _ _ (by assumption)) | exact shp_sr _ _ (shp_sr _ _ (shp_sr _ _ (by assumption)))) (by decide)) | (simp only [fok_sr, aok_sr]; first | assumption | (exact shp_fok (by first | assumption | exact shp_sr _ _ (by assumption) | exact shp_sr _ _ (shp_sr _ _ (by assumption)) | exact shp_sr _ _ (shp_sr _ _ (shp_sr _ _ (by assumption)))) (by decide))) | (refine shp_aok (by first | assumption | exact shp_sr _ _ (by assumption) | exact shp_sr _ _ (shp_sr _ _ (by assumption)) | exact shp_sr _ _ (shp_sr _ _ (shp_sr _ _ (by assumption)))) rfl rfl ?_ ?_ <;> omega) | (exact shp_sr _ _ (by assumption)) | (exact shp_sr _ _ (shp_sr _ _ (by assumption))) | (exact shp_sr _ _ (shp_sr _ _ (shp_sr _ _ (by assumption)))) | (left; assumption) | (exact b2i_or _) | (simp; done)) only [e22_0, e22_1, e22_3, e22_4, e22_7, e22_10, e22_11, e22_14, e22_15, e22_18, e22_19, e22_20, e22_23, e22_25, e22_28, e22_31, e22_34, e22_35, e22_38, e22_39, e22_40, e22_42, e22_43, e22_46, e22_49, e22_50, e22_51, e22_52, e22_53, e22_54, e22_55, e22_58, e22_61, e22_62, e22_65, e22_66, e22_67, e22_70, e22_71, e22_72, e22_73, e22_76, e22_79, e22_82, e22_83, e22_84, e22_85, e22_86, e22_89, e22_92, e22_94, eq_self, ne_a, ne_b, ne_c, Nat.reduceEqDiff, lt0, bnd_ok, psh_I, psh_L, psh_R, psh_U, gt_sr, gr_sr, sk_sr, nn_sr, ↓reduceIte, Int.toNat_natCast, Int.reduceToNat, h1, h4, hbn, g18_0, a1, a2, a3, b2i_f, c_hourOfR, hh, hha, w5, w6, w7, h5, Int.reduceEq, Bool.false_eq_true]
        · rw [if_neg hc] at hha
          have hcc : isC (dn_ d) (sg p - 97) = false := decide_eq_false hc
          rw [f1, f2, hcc, Bool.false_or, if_neg (by simp [hh])]
          rw [e22_2]
          simp (disch := first | assumption | omega | (exact shp_fok (by first | assumption | exact shp_sr _ _ (by assumption) | exact shp_sr _ _ (shp_sr _ _ (by assumption)) | exact shp_sr _ _ (shp_sr _ _ (shp_sr _ _ (by assumption)))) (by decide)) | (simp only [fok_sr, aok_sr]; first | assumption | (exact shp_fok (by first | assumption | exact shp_sr _ _ (by assumption) | exact shp_sr _ _ (shp_sr _ _ (by assumption)) | exact shp_sr _ _ (shp_sr _ _ (shp_sr _ _ (by assumption)))) (by decide))) | (refine shp_aok (by first | assumption | exact shp_sr _ _ (by assumption) | exact shp_sr _ _ (shp_sr _ _ (by assumption)) | exact shp_sr _ _ (shp_sr _ _ (shp_sr _ _ (by assumption)))) rfl rfl ?_ ?_ <;> omega) | (exact shp_sr _ _ (by assumption)) | (exact shp_sr _ _ (shp_sr _ _ (by assumption))) | (exact shp_sr _ _ (shp_sr _ _ (shp_sr _ _ (by assumption)))) | (left; assumption) | (exact b2i_or _) | (simp; done)) only [e22_0, e22_1, e22_3, e22_4, e22_7, e22_10, e22_11, e22_14, e22_15, e22_18, e22_19, e22_20, e22_23, e22_25, e22_28, e22_31, e22_34, e22_35, e22_38, e22_39, e22_40, e22_42, e22_43, e22_46, e22_49, e22_50, e22_51, e22_52, e22_53, e22_54, e22_55, e22_58, e22_61, e22_62, e22_65, e22_66, e22_67, e22_70, e22_71, e22_72, e22_73, e22_76, e22_79, e22_82, e22_83, e22_84, e22_85, e22_86, e22_89, e22_92, e22_94, eq_self, ne_a, ne_b, ne_c, Nat.reduceEqDiff, lt0, bnd_ok, psh_I, psh_L, psh_R, psh_U, gt_sr, gr_sr, sk_sr, nn_sr, ↓reduceIte, Int.toNat_natCast, Int.reduceToNat, h1, h4, hbn, g18_0, a1, c_hourOfR, hh, hha, w5, w6, w7, Int.reduceEq]
      · rw [hr_isC hn24 hh] at f3
        have hih := ih m1 (p + 1) (by omega) (by omega) f3
        rw [show ((p + 1 : Nat) : Int) = (p : Int) + 1 by omega] at hih
        rw [f1, f2, decide_eq_true hh, Bool.or_true, if_pos rfl]
        rw [e22_2]
        simp (disch := first | assumption | omega | (exact shp_fok (by first | assumption | exact shp_sr _ _ (by assumption) | exact shp_sr _ _ (shp_sr _ _ (by assumption)) | exact shp_sr _ _ (shp_sr _ _ (shp_sr _ _ (by assumption)))) (by decide)) | (simp only [fok_sr, aok_sr]; first | assumption | (exact shp_fok (by first | assumption | exact shp_sr _ _ (by assumption) | exact shp_sr _ _ (shp_sr _ _ (by assumption)) | exact shp_sr _ _ (shp_sr _ _ (shp_sr _ _ (by assumption)))) (by decide))) | (refine shp_aok (by first | assumption | exact shp_sr _ _ (by assumption) | exact shp_sr _ _ (shp_sr _ _ (by assumption)) | exact shp_sr _ _ (shp_sr _ _ (shp_sr _ _ (by assumption)))) rfl rfl ?_ ?_ <;> omega) | (exact shp_sr _ _ (by assumption)) | (exact shp_sr _ _ (shp_sr _ _ (by assumption))) | (exact shp_sr _ _ (shp_sr _ _ (shp_sr _ _ (by assumption)))) | (left; assumption) | (exact b2i_or _) | (simp; done)) only [e22_0, e22_1, e22_3, e22_4, e22_7, e22_10, e22_11, e22_14, e22_15, e22_18, e22_19, e22_20, e22_23, e22_25, e22_28, e22_31, e22_34, e22_35, e22_38, e22_39, e22_40, e22_42, e22_43, e22_46, e22_49, e22_50, e22_51, e22_52, e22_53, e22_54, e22_55, e22_58, e22_61, e22_62, e22_65, e22_66, e22_67, e22_70, e22_71, e22_72, e22_73, e22_76, e22_79, e22_82, e22_83, e22_84, e22_85, e22_86, e22_89, e22_92, e22_94, eq_self, ne_a, ne_b, ne_c, Nat.reduceEqDiff, lt0, bnd_ok, psh_I, psh_L, psh_R, psh_U, gt_sr, gr_sr, sk_sr, nn_sr, ↓reduceIte, Int.toNat_natCast, Int.reduceToNat, h1, h4, hbn, g18_0, a1, c_hourOfR, hh, w5, Int.reduceEq, hih]
  have h0 := L cn cn 0 (Nat.le_refl _) (by omega) rfl vU
  simp (disch := first | assumption | omega | (exact shp_fok (by first | assumption | exact shp_sr _ _ (by assumption) | exact shp_sr _ _ (shp_sr _ _ (by assumption)) | exact shp_sr _ _ (shp_sr _ _ (shp_sr _ _ (by assumption)))) (by decide)) | (simp only [fok_sr, aok_sr]; first | assumption | (exact shp_fok (by first | assumption | exact shp_sr _ _ (by assumption) | exact shp_sr _ _ (shp_sr _ _ (by assumption)) | exact shp_sr _ _ (shp_sr _ _ (shp_sr _ _ (by assumption)))) (by decide))) | (refine shp_aok (by first | assumption | exact shp_sr _ _ (by assumption) | exact shp_sr _ _ (shp_sr _ _ (by assumption)) | exact shp_sr _ _ (shp_sr _ _ (shp_sr _ _ (by assumption)))) rfl rfl ?_ ?_ <;> omega) | (exact shp_sr _ _ (by assumption)) | (exact shp_sr _ _ (shp_sr _ _ (by assumption))) | (exact shp_sr _ _ (shp_sr _ _ (shp_sr _ _ (by assumption)))) | (left; assumption) | (exact b2i_or _) | (simp; done)) only [e22_0, e22_1, e22_3, e22_4, e22_7, e22_10, e22_11, e22_14, e22_15, e22_18, e22_19, e22_20, e22_23, e22_25, e22_28, e22_31, e22_34, e22_35, e22_38, e22_39, e22_40, e22_42, e22_43, e22_46, e22_49, e22_50, e22_51, e22_52, e22_53, e22_54, e22_55, e22_58, e22_61, e22_62, e22_65, e22_66, e22_67, e22_70, e22_71, e22_72, e22_73, e22_76, e22_79, e22_82, e22_83, e22_84, e22_85, e22_86, e22_89, e22_92, e22_94, eq_self, ne_a, ne_b, ne_c, Nat.reduceEqDiff, lt0, bnd_ok, psh_I, psh_L, psh_R, psh_U, gt_sr, gr_sr, sk_sr, nn_sr, ↓reduceIte, Int.toNat_natCast, Int.reduceToNat]
  exact h0
