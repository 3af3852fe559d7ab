/-! an hour passes -/
set_option maxRecDepth 100000 in
set_option maxHeartbeats 4000000 in
theorem c_light {σ : St} {b R C : Nat} (hb : bsh σ b) (hd : dim σ b R C) (hl : lam (gt σ (b + 2))) {c : Nat} (hc : c < 24) {v : Int} (hv : v = 0 ∨ v = 1) : run 12 0 [vR b, vI c, vI v] [] σ = some (vU, sr (sr σ (b + 2) (ru (gt σ (b + 2)) c v)) (b + 3) (upto (R * C) (mlt R C (ru (gt σ (b + 2)) c v)) (gt σ (b + 3)))) := by
  have hb0 := hb
  obtain ⟨hf, ⟨r6, r7, r8, r9, r10, r11, r12⟩, i1, i2, i3, i4, i5, i6, i7⟩ := hb
  have e1 := c_put24 i2 hc v
  have hl' : lam (ru (gt σ (b + 2)) c v) := by
    intro i hi
    unfold ru
    by_cases e : i = c
    · rw [if_pos e]; exact hv
    · rw [if_neg e]; exact hl i hi
  have e2 := c_warm (σ := sr σ (b + 2) (ru (gt σ (b + 2)) c v)) (b := b) (R := R) (C := C) hb0 (dim_sr hd (by omega)) (by rw [gt_sr, if_pos rfl]; exact hl')
  rw [gt_sr, gt_sr, if_pos rfl, if_neg (by omega)] at e2
  simp (disch := first | assumption | omega | (left; assumption) | (refine aok_mk ?_ ?_ ?_ <;> first | assumption | omega) | (simp only [fok_sr, aok_sr]; first | assumption | omega | (left; assumption) | (refine aok_mk ?_ ?_ ?_ <;> first | assumption | omega)) | (simp; done)) only [e12_0, e12_1, e12_4, e12_5, e12_6, e12_9, e12_10, e12_13, eq_self, ne_a, ne_b, ne_c, Nat.reduceEqDiff, lt0, bnd_ok, psh_I, psh_L, psh_R, psh_U, gt_sr, gr_sr, sk_sr, nn_sr, ↓reduceIte, Int.toNat_natCast, Int.reduceToNat, r7, e1, e2]
def mx (a : Int) : Int := if 0 < a then a else 0
def tk (t : Nat → Int) : Prop := ∀ c, c < 24 → 0 ≤ t c ∧ t c ≤ 9
def mo2 (m : Nat → Int) : Prop := ∀ c, c < 24 → 0 ≤ m c ∧ m c ≤ 2
/-- a bank whose fog and old fog are t, w -/
def stw (σ : St) (b : Nat) (t w : Nat → Int) : St := sr (sr σ (b + 4) w) (b + 1) t
theorem stw_0 (σ : St) (b : Nat) : stw σ b (gt σ (b + 1)) (gt σ (b + 4)) = σ := by
  unfold stw
  rw [sr_self σ (b + 4) _ rfl, sr_self σ (b + 1) _ rfl]
theorem stw_t (σ : St) (b : Nat) (t w t2 : Nat → Int) : sr (stw σ b t w) (b + 1) t2 = stw σ b t2 w := sr_sr _ _ _ _
theorem sr_com (σ : St) (p q : Nat) (f g : Nat → Int) (h : p ≠ q) : sr (sr σ p f) q g = sr (sr σ q g) p f := by
  unfold sr
  dsimp only
  have e : ru (ru σ.2.2.2.1 p f) q g = ru (ru σ.2.2.2.1 q g) p f := by
    funext i
    unfold ru
    by_cases h1 : i = q
    · rw [if_pos h1, if_neg (by omega), if_pos h1]
    · rw [if_neg h1]
      by_cases h2 : i = p
      · rw [if_pos h2, if_pos h2]
      · rw [if_neg h2, if_neg h2, if_neg h1]
  rw [e]
theorem stw_w (σ : St) (b : Nat) (t w w2 : Nat → Int) : sr (stw σ b t w) (b + 4) w2 = stw σ b t w2 := by
  unfold stw
  rw [sr_com _ (b + 1) (b + 4) _ _ (by omega), sr_sr]
theorem gt_stw (σ : St) (b : Nat) (t w : Nat → Int) (i : Nat) : gt (stw σ b t w) i = if i = b + 1 then t else if i = b + 4 then w else gt σ i := rfl
theorem bsh_stw (σ : St) (b : Nat) (t w : Nat → Int) : bsh (stw σ b t w) b ↔ bsh σ b := Iff.rfl
theorem fok_stw (σ : St) (b : Nat) (t w : Nat → Int) (k kd : Nat) : fok (stw σ b t w) k kd ↔ fok σ k kd := Iff.rfl
theorem gr_stw (σ : St) (b : Nat) (t w : Nat → Int) : gr (stw σ b t w) = gr σ := rfl
theorem dim_stw {σ : St} {b R C : Nat} {t w : Nat → Int} (h : dim σ b R C) : dim (stw σ b t w) b R C := dim_sr (dim_sr h (by omega)) (by omega)
set_option maxRecDepth 100000 in
set_option maxHeartbeats 4000000 in
theorem c_passS {σ : St} {b n c : Nat} (hb : bsh σ b) (hn : gt σ b 2 = (n : Int)) (hc : c < n) (h24 : c < 24) {t w : Nat → Int} (ht : 0 ≤ t c ∧ t c ≤ 9) (hm : mo2 (gt σ (b + 3))) (h : Int) (q3 : AV) :
    run 30 2 [vR b, vI h, vI c, q3] [] (stw σ b t w) = run 30 2 [vR b, vI h, vI ((c + 1 : Nat) : Int), q3] [] (stw σ b (ru t c (mx (t c - gt σ (b + 3) c))) w) := by
  have hc' : (c : Int) < (n : Int) := by omega
  obtain ⟨m0, m1⟩ := hm c h24
  have w1 := wr_p (show c ≤ 100000 by omega)
  have w2 : wr (t c - gt σ (b + 3) c) = t c - gt σ (b + 3) c := wr_r (by omega) (by omega)
  obtain ⟨hf, ⟨r6, r7, r8, r9, r10, r11, r12⟩, i1, i2, i3, i4, i5, i6, i7⟩ := hb
  have a1 : run 10 0 [vR (b + 1), vI c] [] (stw σ b t w) = some (vI (t c), stw σ b t w) := by
    have := c_atN (σ := stw σ b t w) (k := b + 1) i1 h24
    rwa [gt_stw, if_pos rfl] at this
  have a2 : run 10 0 [vR (b + 3), vI c] [] (stw σ b t w) = some (vI (gt σ (b + 3) c), stw σ b t w) := by
    have := c_atN (σ := stw σ b t w) (k := b + 3) i3 h24
    rwa [gt_stw, if_neg (by omega), if_neg (by omega)] at this
  have a3 : ∀ v, run 11 0 [vR (b + 1), vI c, vI v] [] (stw σ b t w) = some (vU, stw σ b (ru t c v) w) := fun v => by
    have := c_putN (σ := stw σ b t w) (k := b + 1) i1 h24 v
    rwa [gt_stw, if_pos rfl, stw_t] at this
  have hmx : (if 0 < t c - gt σ (b + 3) c then t c - gt σ (b + 3) c else 0) = mx (t c - gt σ (b + 3) c) := rfl
  rw [e30_2]
  simp (disch := first | (simp only [fok_stw]; assumption) | first | assumption | omega | (left; assumption) | (refine aok_mk ?_ ?_ ?_ <;> first | assumption | omega) | (simp only [fok_sr, aok_sr]; first | assumption | omega | (left; assumption) | (refine aok_mk ?_ ?_ ?_ <;> first | assumption | omega)) | (simp; done)) only [e30_0, e30_1, e30_3, e30_4, e30_7, e30_10, e30_11, e30_14, e30_15, e30_16, e30_17, e30_20, e30_21, e30_24, e30_25, e30_28, e30_29, e30_32, e30_33, e30_36, e30_39, e30_42, e30_45, e30_46, e30_47, e30_50, e30_51, e30_53, e30_54, e30_57, e30_60, e30_61, e30_62, e30_65, e30_66, e30_67, e30_68, e30_71, e30_72, e30_74, e30_75, e30_78, e30_79, e30_82, e30_83, e30_86, e30_87, e30_90, e30_93, e30_96, e30_99, e30_102, e30_103, e30_104, e30_107, e30_108, e30_109, e30_112, e30_113, e30_116, e30_119, eq_self, ne_a, ne_b, ne_c, Nat.reduceEqDiff, lt0, bnd_ok, psh_I, psh_L, psh_R, psh_U, gt_sr, gr_sr, sk_sr, nn_sr, ↓reduceIte, Int.toNat_natCast, Int.reduceToNat, gr_stw, gt_stw, hn, hc', r6, r8, a1, a2, a3, w2, hmx, w1]
/-- where the fog goes from one cell -/
def brk (R C : Nat) (dn on : Int) (w : Nat → Int) (r k : Nat) (t : Nat → Int) : Nat → Int :=
  let to := cat R C (r + dn) (k + on)
  if to = -1 then (if 0 < w (r * C + k) then ru t (r * C + k) (t (r * C + k) - 1) else t)
  else if lv w to < w (r * C + k) then ru (ru t (r * C + k) (t (r * C + k) - 1)) to.toNat (ru t (r * C + k) (t (r * C + k) - 1) to.toNat + 1) else t
theorem cat_cases (R C : Nat) (r k : Int) (h : R * C ≤ 24) : cat R C r k = -1 ∨ ∃ j : Nat, j < R * C ∧ cat R C r k = (j : Int) := by
  unfold cat
  by_cases e : 0 ≤ r ∧ r < R ∧ 0 ≤ k ∧ k < C
  · obtain ⟨e1, e2, e3, e4⟩ := e
    obtain ⟨m1, m2⟩ := mul_lt e1 e2 e3 e4
    rw [if_pos ⟨e1, e2, e3, e4⟩]
    exact Or.inr ⟨(r * C + k).toNat, by omega, by omega⟩
  · rw [if_neg e]; exact Or.inl rfl
set_option maxRecDepth 100000 in
set_option maxHeartbeats 4000000 in
theorem c_blowS {σ : St} {b R C r k : Nat} (hb : bsh σ b) (hd : dim σ b R C) (hr : r < R) (hk : k < C) {t w : Nat → Int} (ht : ∀ c, c < 24 → -100 ≤ t c ∧ t c ≤ 100) {dn on : Int} (hdn : -1 ≤ dn ∧ dn ≤ 1) (hon : -1 ≤ on ∧ on ≤ 1) (q5 q6 q7 : AV) :
    ∃ q5' q6' q7', run 33 24 [vR b, vI dn, vI on, vI r, vI k, q5, q6, q7] [] (stw σ b t w) = run 33 24 [vR b, vI dn, vI on, vI r, vI ((k + 1 : Nat) : Int), q5', q6', q7'] [] (stw σ b (brk R C dn on w r k t) w) := by
  have hle := dim_le hd
  obtain ⟨hlt, hlt4, hr1, hk1⟩ := rk_lt hle hr hk
  have hc' : (k : Int) < (C : Int) := by omega
  have hw := wr_rk hle hr hk
  have w1 := wr_p hk1
  have w2 : wr ((r : Int) + dn) = (r : Int) + dn := wr_id (by omega) (by omega)
  have w3 : wr ((k : Int) + on) = (k : Int) + on := wr_id (by omega) (by omega)
  have hca := c_cellAt (σ := stw σ b t w) hb (dim_stw hd) ((r : Int) + dn) ((k : Int) + on)
  have hcc := cat_cases R C ((r : Int) + dn) ((k : Int) + on) hle
  obtain ⟨hf, ⟨r6, r7, r8, r9, r10, r11, r12⟩, i1, i2, i3, i4, i5, i6, i7⟩ := hb
  obtain ⟨d0, d1, -⟩ := hd
  have a1 : ∀ t, run 10 0 [vR (b + 1), vI ((r * C + k : Nat) : Int)] [] (stw σ b t w) = some (vI (t (r * C + k)), stw σ b t w) := fun t => by
    have := c_atN (σ := stw σ b t w) (k := b + 1) i1 hlt4
    rwa [gt_stw, if_pos rfl] at this
  have a2 : run 10 0 [vR (b + 4), vI ((r * C + k : Nat) : Int)] [] (stw σ b t w) = some (vI (w (r * C + k)), stw σ b t w) := by
    have := c_atN (σ := stw σ b t w) (k := b + 4) i4 hlt4
    rwa [gt_stw, if_neg (by omega), if_pos rfl] at this
  have a3 : ∀ t v, run 11 0 [vR (b + 1), vI ((r * C + k : Nat) : Int), vI v] [] (stw σ b t w) = some (vU, stw σ b (ru t (r * C + k) v) w) := fun t v => by
    have := c_putN (σ := stw σ b t w) (k := b + 1) i1 hlt4 v
    rwa [gt_stw, if_pos rfl, stw_t] at this
  have w4 : wr (t (r * C + k) - 1) = t (r * C + k) - 1 := wr_r (by have := ht _ hlt4; omega) (by have := ht _ hlt4; omega)
  unfold brk
  rcases hcc with h1 | ⟨j, hj, h1⟩
  · rw [h1] at hca
    rw [h1]
    by_cases h2 : 0 < w (r * C + k)
    · refine ⟨vI ((r * C + k : Nat) : Int), vI (-1), vI 0, (e33_24 _ _ _ _ _ _ _ _).trans ?_⟩
      have a4 : ∀ v, run 10 0 [vR (b + 1), vI (-1)] [] (stw σ b v w) = some (vI 0, stw σ b v w) := fun v => (c_at24 (σ := stw σ b v w) (k := b + 1) i1 (-1)).trans rfl
      have a5 : ∀ v z, run 11 0 [vR (b + 1), vI (-1), vI z] [] (stw σ b v w) = some (vU, stw σ b v w) := fun v z => (c_put (σ := stw σ b v w) (k := b + 1) i1 (-1) z).trans (by rw [if_neg (by omega)])
      simp (disch := first | (simp only [fok_stw]; assumption) | first | assumption | omega | (left; assumption) | (refine aok_mk ?_ ?_ ?_ <;> first | assumption | omega) | (simp only [fok_sr, aok_sr]; first | assumption | omega | (left; assumption) | (refine aok_mk ?_ ?_ ?_ <;> first | assumption | omega)) | (simp; done)) only [e33_0, e33_1, e33_4, e33_5, e33_8, e33_11, e33_12, e33_14, e33_15, e33_18, e33_21, e33_22, e33_26, e33_27, e33_30, e33_33, e33_34, e33_35, e33_38, e33_39, e33_41, e33_42, e33_44, e33_45, e33_46, e33_47, e33_48, e33_50, e33_51, e33_52, e33_55, e33_57, e33_59, e33_60, e33_63, e33_64, e33_67, e33_68, e33_71, e33_73, e33_76, e33_78, e33_80, e33_81, e33_84, e33_86, e33_89, e33_92, e33_93, e33_96, e33_98, e33_99, e33_102, e33_104, e33_107, e33_108, e33_109, e33_112, e33_113, e33_116, e33_118, e33_119, e33_122, e33_124, e33_127, e33_128, e33_129, e33_132, e33_135, e33_138, e33_141, e33_144, eq_self, ne_a, ne_b, ne_c, Nat.reduceEqDiff, lt0, bnd_ok, psh_I, psh_L, psh_R, psh_U, gt_sr, gr_sr, sk_sr, nn_sr, ↓reduceIte, Int.toNat_natCast, Int.reduceToNat, gr_stw, gt_stw, d1, hc', r6, r9, a1, a2, a3, a4, a5, hca, w1, w2, w3, hw, w4, h2]
      try rfl
    · refine ⟨vI ((r * C + k : Nat) : Int), vI (-1), vI 0, (e33_24 _ _ _ _ _ _ _ _).trans ?_⟩
      simp (disch := first | (simp only [fok_stw]; assumption) | first | assumption | omega | (left; assumption) | (refine aok_mk ?_ ?_ ?_ <;> first | assumption | omega) | (simp only [fok_sr, aok_sr]; first | assumption | omega | (left; assumption) | (refine aok_mk ?_ ?_ ?_ <;> first | assumption | omega)) | (simp; done)) only [e33_0, e33_1, e33_4, e33_5, e33_8, e33_11, e33_12, e33_14, e33_15, e33_18, e33_21, e33_22, e33_26, e33_27, e33_30, e33_33, e33_34, e33_35, e33_38, e33_39, e33_41, e33_42, e33_44, e33_45, e33_46, e33_47, e33_48, e33_50, e33_51, e33_52, e33_55, e33_57, e33_59, e33_60, e33_63, e33_64, e33_67, e33_68, e33_71, e33_73, e33_76, e33_78, e33_80, e33_81, e33_84, e33_86, e33_89, e33_92, e33_93, e33_96, e33_98, e33_99, e33_102, e33_104, e33_107, e33_108, e33_109, e33_112, e33_113, e33_116, e33_118, e33_119, e33_122, e33_124, e33_127, e33_128, e33_129, e33_132, e33_135, e33_138, e33_141, e33_144, eq_self, ne_a, ne_b, ne_c, Nat.reduceEqDiff, lt0, bnd_ok, psh_I, psh_L, psh_R, psh_U, gt_sr, gr_sr, sk_sr, nn_sr, ↓reduceIte, Int.toNat_natCast, Int.reduceToNat, gr_stw, gt_stw, d1, hc', r6, r9, a1, a2, a3, hca, w1, w2, w3, hw, h2]
      try rfl
  · rw [h1] at hca
    have hj4 : j < 24 := by omega
    have n1 : ¬ (j : Int) = -1 := by omega
    have a6 : run 10 0 [vR (b + 4), vI (j : Int)] [] (stw σ b t w) = some (vI (w j), stw σ b t w) := by
      have := c_atN (σ := stw σ b t w) (k := b + 4) i4 hj4
      rwa [gt_stw, if_neg (by omega), if_pos rfl] at this
    have a7 : ∀ t, run 10 0 [vR (b + 1), vI (j : Int)] [] (stw σ b t w) = some (vI (t j), stw σ b t w) := fun t => by
      have := c_atN (σ := stw σ b t w) (k := b + 1) i1 hj4
      rwa [gt_stw, if_pos rfl] at this
    have a8 : ∀ t v, run 11 0 [vR (b + 1), vI (j : Int), vI v] [] (stw σ b t w) = some (vU, stw σ b (ru t j v) w) := fun t v => by
      have := c_putN (σ := stw σ b t w) (k := b + 1) i1 hj4 v
      rwa [gt_stw, if_pos rfl, stw_t] at this
    have hb5 : -101 ≤ ru t (r * C + k) (t (r * C + k) - 1) j ∧ ru t (r * C + k) (t (r * C + k) - 1) j ≤ 101 := by
      have h8 := ht _ hlt4
      have h9 := ht _ hj4
      unfold ru
      split <;> omega
    have w5 : wr (ru t (r * C + k) (t (r * C + k) - 1) j + 1) = ru t (r * C + k) (t (r * C + k) - 1) j + 1 := wr_r (by omega) (by omega)
    rw [h1]
    dsimp only
    rw [if_neg n1, lv_N hj4, Int.toNat_natCast]
    by_cases h2 : w j < w (r * C + k)
    · rw [if_pos h2]
      refine ⟨vI ((r * C + k : Nat) : Int), vI (j : Int), vI (w j), (e33_24 _ _ _ _ _ _ _ _).trans ?_⟩
      simp (disch := first | (simp only [fok_stw]; assumption) | first | assumption | omega | (left; assumption) | (refine aok_mk ?_ ?_ ?_ <;> first | assumption | omega) | (simp only [fok_sr, aok_sr]; first | assumption | omega | (left; assumption) | (refine aok_mk ?_ ?_ ?_ <;> first | assumption | omega)) | (simp; done)) only [e33_0, e33_1, e33_4, e33_5, e33_8, e33_11, e33_12, e33_14, e33_15, e33_18, e33_21, e33_22, e33_26, e33_27, e33_30, e33_33, e33_34, e33_35, e33_38, e33_39, e33_41, e33_42, e33_44, e33_45, e33_46, e33_47, e33_48, e33_50, e33_51, e33_52, e33_55, e33_57, e33_59, e33_60, e33_63, e33_64, e33_67, e33_68, e33_71, e33_73, e33_76, e33_78, e33_80, e33_81, e33_84, e33_86, e33_89, e33_92, e33_93, e33_96, e33_98, e33_99, e33_102, e33_104, e33_107, e33_108, e33_109, e33_112, e33_113, e33_116, e33_118, e33_119, e33_122, e33_124, e33_127, e33_128, e33_129, e33_132, e33_135, e33_138, e33_141, e33_144, eq_self, ne_a, ne_b, ne_c, Nat.reduceEqDiff, lt0, bnd_ok, psh_I, psh_L, psh_R, psh_U, gt_sr, gr_sr, sk_sr, nn_sr, ↓reduceIte, Int.toNat_natCast, Int.reduceToNat, gr_stw, gt_stw, d1, hc', r6, r9, a1, a2, a3, a6, a7, a8, hca, w1, w2, w3, hw, w4, w5, h2, n1]
      try rfl
    · rw [if_neg h2]
      refine ⟨vI ((r * C + k : Nat) : Int), vI (j : Int), vI (w j), (e33_24 _ _ _ _ _ _ _ _).trans ?_⟩
      simp (disch := first | (simp only [fok_stw]; assumption) | first | assumption | omega | (left; assumption) | (refine aok_mk ?_ ?_ ?_ <;> first | assumption | omega) | (simp only [fok_sr, aok_sr]; first | assumption | omega | (left; assumption) | (refine aok_mk ?_ ?_ ?_ <;> first | assumption | omega)) | (simp; done)) only [e33_0, e33_1, e33_4, e33_5, e33_8, e33_11, e33_12, e33_14, e33_15, e33_18, e33_21, e33_22, e33_26, e33_27, e33_30, e33_33, e33_34, e33_35, e33_38, e33_39, e33_41, e33_42, e33_44, e33_45, e33_46, e33_47, e33_48, e33_50, e33_51, e33_52, e33_55, e33_57, e33_59, e33_60, e33_63, e33_64, e33_67, e33_68, e33_71, e33_73, e33_76, e33_78, e33_80, e33_81, e33_84, e33_86, e33_89, e33_92, e33_93, e33_96, e33_98, e33_99, e33_102, e33_104, e33_107, e33_108, e33_109, e33_112, e33_113, e33_116, e33_118, e33_119, e33_122, e33_124, e33_127, e33_128, e33_129, e33_132, e33_135, e33_138, e33_141, e33_144, eq_self, ne_a, ne_b, ne_c, Nat.reduceEqDiff, lt0, bnd_ok, psh_I, psh_L, psh_R, psh_U, gt_sr, gr_sr, sk_sr, nn_sr, ↓reduceIte, Int.toNat_natCast, Int.reduceToNat, gr_stw, gt_stw, d1, hc', r6, r9, a1, a2, a3, a6, hca, w1, w2, w3, hw, h2, n1]
      try rfl
def blo (R C : Nat) (dn on : Int) (w : Nat → Int) : Nat → (Nat → Int) → (Nat → Int)
  | 0, t => t
  | n + 1, t => brk R C dn on w (n / C) (n % C) (blo R C dn on w n t)
theorem brk_bd (R C : Nat) (dn on : Int) (w : Nat → Int) (r k : Nat) (t : Nat → Int) (c : Nat) : t c - 1 ≤ brk R C dn on w r k t c ∧ brk R C dn on w r k t c ≤ t c + 1 := by
  unfold brk
  try dsimp only
  split
  · split
    · unfold ru; split
      · next e => subst e; omega
      · omega
    · omega
  · split
    · unfold ru
      by_cases e1 : c = (cat R C (↑r + dn) (↑k + on)).toNat
      · rw [if_pos e1, ← e1]
        by_cases e2 : c = r * C + k
        · rw [if_pos e2, e2]; omega
        · rw [if_neg e2]; omega
      · rw [if_neg e1]
        by_cases e2 : c = r * C + k
        · rw [if_pos e2, e2]; omega
        · rw [if_neg e2]; omega
    · omega
theorem blo_bd (R C : Nat) (dn on : Int) (w : Nat → Int) (t : Nat → Int) (c : Nat) : ∀ n : Nat, t c - n ≤ blo R C dn on w n t c ∧ blo R C dn on w n t c ≤ t c + n
  | 0 => by unfold blo; omega
  | n + 1 => by
    have h1 := blo_bd R C dn on w t c n
    have h2 := brk_bd R C dn on w (n / C) (n % C) (blo R C dn on w n t) c
    unfold blo
    omega
theorem rk_dm {r k C : Nat} (hk : k < C) : (r * C + k) / C = r ∧ (r * C + k) % C = k := by
  refine ⟨?_, ?_⟩
  · rw [Nat.mul_comm, Nat.mul_add_div (by omega), Nat.div_eq_of_lt hk, Nat.add_zero]
  · rw [Nat.mul_comm, Nat.mul_add_mod, Nat.mod_eq_of_lt hk]
theorem blo_s {R C r k : Nat} (hk : k < C) (dn on : Int) (w t : Nat → Int) : brk R C dn on w r k (blo R C dn on w (r * C + k) t) = blo R C dn on w (r * C + (k + 1)) t := by
  show _ = brk R C dn on w ((r * C + k) / C) ((r * C + k) % C) (blo R C dn on w (r * C + k) t)
  rw [(rk_dm hk).1, (rk_dm hk).2]
set_option maxRecDepth 100000 in
set_option maxHeartbeats 4000000 in
theorem c_blow {σ : St} {b R C : Nat} (hb : bsh σ b) (hd : dim σ b R C) {t w0 : Nat → Int} (ht : tk t) {dn on : Int} (hdn : -1 ≤ dn ∧ dn ≤ 1) (hon : -1 ≤ on ∧ on ≤ 1) :
    run 33 0 [vR b, vI dn, vI on, vU, vU, vU, vU, vU] [] (stw σ b t w0) = some (vU, stw σ b (blo R C dn on (upto 24 t w0) (R * C) t) (upto 24 t w0)) := by
  have hle := dim_le hd
  have bS := fun (r k : Nat) (hr : r < R) (hk : k < C) (t' : Nat → Int) h => c_blowS (σ := σ) (t := t') (w := upto 24 t w0) hb hd hr hk h hdn hon
  have hR4 : R ≤ 100000 := by have := hd.2.2.2.2.1; omega
  obtain ⟨hf, ⟨r6, r7, r8, r9, r10, r11, r12⟩, i1, i2, i3, i4, i5, i6, i7⟩ := hb
  obtain ⟨d0, d1, d2, -, -, hC1, -⟩ := hd
  have hcp : run 28 0 [vR (b + 1), vR (b + 4), vU] [] (stw σ b t w0) = some (vU, stw σ b t (upto 24 t w0)) := by
    have := c_copyRow (σ := stw σ b t w0) (k := b + 1) (q := b + 4) i1 i4 (by omega) (by omega)
    rw [gt_stw, gt_stw, if_pos rfl, if_neg (by omega), if_pos rfl, stw_w] at this
    exact this
  generalize hw : upto 24 t w0 = w at *
  have bd : ∀ n, n ≤ 24 → ∀ c, c < 24 → -100 ≤ blo R C dn on w n t c ∧ blo R C dn on w n t c ≤ 100 := by
    intro n hn c hc
    have h1 := blo_bd R C dn on w t c n
    have h2 := ht c hc
    omega
  generalize hG : blo R C dn on w (R * C) t = G
  have inner : ∀ (r : Nat), r < R → ∀ (X : Res), (∀ q5 q6 q7, run 33 138 [vR b, vI dn, vI on, vI r, vI C, q5, q6, q7] [] (stw σ b (blo R C dn on w (r * C + C) t) w) = X) → ∀ (m k : Nat), k + m = C → ∀ q5 q6 q7, run 33 24 [vR b, vI dn, vI on, vI r, vI k, q5, q6, q7] [] (stw σ b (blo R C dn on w (r * C + k) t) w) = X := by
    intro r hr X hX m
    induction m with
    | zero =>
      intro k hk q5 q6 q7
      have hc' : ¬ (k : Int) < (C : Int) := by omega
      rw [e33_24]
      simp (disch := first | (simp only [fok_stw]; assumption) | first | assumption | omega | (left; assumption) | (refine aok_mk ?_ ?_ ?_ <;> first | assumption | omega) | (simp only [fok_sr, aok_sr]; first | assumption | omega | (left; assumption) | (refine aok_mk ?_ ?_ ?_ <;> first | assumption | omega)) | (simp; done)) only [e33_0, e33_1, e33_4, e33_5, e33_8, e33_11, e33_12, e33_14, e33_15, e33_18, e33_21, e33_22, e33_26, e33_27, e33_30, e33_33, e33_34, e33_35, e33_38, e33_39, e33_41, e33_42, e33_44, e33_45, e33_46, e33_47, e33_48, e33_50, e33_51, e33_52, e33_55, e33_57, e33_59, e33_60, e33_63, e33_64, e33_67, e33_68, e33_71, e33_73, e33_76, e33_78, e33_80, e33_81, e33_84, e33_86, e33_89, e33_92, e33_93, e33_96, e33_98, e33_99, e33_102, e33_104, e33_107, e33_108, e33_109, e33_112, e33_113, e33_116, e33_118, e33_119, e33_122, e33_124, e33_127, e33_128, e33_129, e33_132, e33_135, e33_141, e33_144, eq_self, ne_a, ne_b, ne_c, Nat.reduceEqDiff, lt0, bnd_ok, psh_I, psh_L, psh_R, psh_U, gt_sr, gr_sr, sk_sr, nn_sr, ↓reduceIte, Int.toNat_natCast, Int.reduceToNat, gt_stw, d1, hc']
      rw [show k = C by omega]
      exact hX _ _ _
    | succ m ih =>
      intro k hk q5 q6 q7
      have hlt := (rk_lt hle hr (show k < C by omega)).2.1
      obtain ⟨q5', q6', q7', e⟩ := bS r k hr (by omega) (blo R C dn on w (r * C + k) t) (bd _ (by omega)) q5 q6 q7
      rw [e, blo_s (by omega)]
      exact ih (k + 1) (by omega) _ _ _
  have outer : ∀ (m r : Nat), r + m = R → ∀ q4 q5 q6 q7, run 33 13 [vR b, vI dn, vI on, vI r, q4, q5, q6, q7] [] (stw σ b (blo R C dn on w (r * C) t) w) = some (vU, stw σ b G w) := by
    intro m
    induction m with
    | zero =>
      intro r hr q4 q5 q6 q7
      have hc' : ¬ (r : Int) < (R : Int) := by omega
      rw [e33_13]
      simp (disch := first | (simp only [fok_stw]; assumption) | first | assumption | omega | (left; assumption) | (refine aok_mk ?_ ?_ ?_ <;> first | assumption | omega) | (simp only [fok_sr, aok_sr]; first | assumption | omega | (left; assumption) | (refine aok_mk ?_ ?_ ?_ <;> first | assumption | omega)) | (simp; done)) only [e33_0, e33_1, e33_4, e33_5, e33_8, e33_11, e33_12, e33_14, e33_15, e33_18, e33_21, e33_22, e33_26, e33_27, e33_30, e33_33, e33_34, e33_35, e33_38, e33_39, e33_41, e33_42, e33_44, e33_45, e33_46, e33_47, e33_48, e33_50, e33_51, e33_52, e33_55, e33_57, e33_59, e33_60, e33_63, e33_64, e33_67, e33_68, e33_71, e33_73, e33_76, e33_78, e33_80, e33_81, e33_84, e33_86, e33_89, e33_92, e33_93, e33_96, e33_98, e33_99, e33_102, e33_104, e33_107, e33_108, e33_109, e33_112, e33_113, e33_116, e33_118, e33_119, e33_122, e33_124, e33_127, e33_128, e33_129, e33_132, e33_135, e33_138, e33_141, e33_144, eq_self, ne_a, ne_b, ne_c, Nat.reduceEqDiff, lt0, bnd_ok, psh_I, psh_L, psh_R, psh_U, gt_sr, gr_sr, sk_sr, nn_sr, ↓reduceIte, Int.toNat_natCast, Int.reduceToNat, gt_stw, d0, hc']
      rw [← hG, show r = R by omega]
    | succ m ih =>
      intro r hr q4 q5 q6 q7
      have hc' : (r : Int) < (R : Int) := by omega
      have w1 := wr_p (show r ≤ 100000 by omega)
      rw [e33_13]
      simp (disch := first | (simp only [fok_stw]; assumption) | first | assumption | omega | (left; assumption) | (refine aok_mk ?_ ?_ ?_ <;> first | assumption | omega) | (simp only [fok_sr, aok_sr]; first | assumption | omega | (left; assumption) | (refine aok_mk ?_ ?_ ?_ <;> first | assumption | omega)) | (simp; done)) only [e33_0, e33_1, e33_4, e33_5, e33_8, e33_11, e33_12, e33_14, e33_15, e33_18, e33_21, e33_22, e33_26, e33_27, e33_30, e33_33, e33_34, e33_35, e33_38, e33_39, e33_41, e33_42, e33_44, e33_45, e33_46, e33_47, e33_48, e33_50, e33_51, e33_52, e33_55, e33_57, e33_59, e33_60, e33_63, e33_64, e33_67, e33_68, e33_71, e33_73, e33_76, e33_78, e33_80, e33_81, e33_84, e33_86, e33_89, e33_92, e33_93, e33_96, e33_98, e33_99, e33_102, e33_104, e33_107, e33_108, e33_109, e33_112, e33_113, e33_116, e33_118, e33_119, e33_122, e33_124, e33_127, e33_128, e33_129, e33_132, e33_135, e33_138, e33_141, e33_144, eq_self, ne_a, ne_b, ne_c, Nat.reduceEqDiff, lt0, bnd_ok, psh_I, psh_L, psh_R, psh_U, gt_sr, gr_sr, sk_sr, nn_sr, ↓reduceIte, Int.toNat_natCast, Int.reduceToNat, gt_stw, d0, hc']
      refine inner r (by omega) _ (fun q5 q6 q7 => ?_) C 0 (by omega) q5 q6 q7
      have hih := ih (r + 1) (by omega) (vI C) q5 q6 q7
      rw [Nat.add_mul, Nat.one_mul] at hih
      simp (disch := first | assumption | omega | (left; assumption) | (refine aok_mk ?_ ?_ ?_ <;> first | assumption | omega) | (simp only [fok_sr, aok_sr]; first | assumption | omega | (left; assumption) | (refine aok_mk ?_ ?_ ?_ <;> first | assumption | omega)) | (simp; done)) only [e33_0, e33_1, e33_4, e33_5, e33_8, e33_11, e33_12, e33_14, e33_15, e33_18, e33_21, e33_22, e33_26, e33_27, e33_30, e33_33, e33_34, e33_35, e33_38, e33_39, e33_41, e33_42, e33_44, e33_45, e33_46, e33_47, e33_48, e33_50, e33_51, e33_52, e33_55, e33_57, e33_59, e33_60, e33_63, e33_64, e33_67, e33_68, e33_71, e33_73, e33_76, e33_78, e33_80, e33_81, e33_84, e33_86, e33_89, e33_92, e33_93, e33_96, e33_98, e33_99, e33_102, e33_104, e33_107, e33_108, e33_109, e33_112, e33_113, e33_116, e33_118, e33_119, e33_122, e33_124, e33_127, e33_128, e33_129, e33_132, e33_135, e33_138, e33_141, e33_144, eq_self, ne_a, ne_b, ne_c, Nat.reduceEqDiff, lt0, bnd_ok, psh_I, psh_L, psh_R, psh_U, gt_sr, gr_sr, sk_sr, nn_sr, ↓reduceIte, Int.toNat_natCast, Int.reduceToNat, w1]
      exact hih
  have h0 := outer R 0 (by omega) vU vU vU vU
  rw [Nat.zero_mul] at h0
  simp (disch := first | (simp only [fok_stw]; assumption) | first | assumption | omega | (left; assumption) | (refine aok_mk ?_ ?_ ?_ <;> first | assumption | omega) | (simp only [fok_sr, aok_sr]; first | assumption | omega | (left; assumption) | (refine aok_mk ?_ ?_ ?_ <;> first | assumption | omega)) | (simp; done)) only [e33_0, e33_1, e33_4, e33_5, e33_8, e33_11, e33_12, e33_14, e33_15, e33_18, e33_21, e33_22, e33_26, e33_27, e33_30, e33_33, e33_34, e33_35, e33_38, e33_39, e33_41, e33_42, e33_44, e33_45, e33_46, e33_47, e33_48, e33_50, e33_51, e33_52, e33_55, e33_57, e33_59, e33_60, e33_63, e33_64, e33_67, e33_68, e33_71, e33_73, e33_76, e33_78, e33_80, e33_81, e33_84, e33_86, e33_89, e33_92, e33_93, e33_96, e33_98, e33_99, e33_102, e33_104, e33_107, e33_108, e33_109, e33_112, e33_113, e33_116, e33_118, e33_119, e33_122, e33_124, e33_127, e33_128, e33_129, e33_132, e33_135, e33_138, e33_141, e33_144, eq_self, ne_a, ne_b, ne_c, Nat.reduceEqDiff, lt0, bnd_ok, psh_I, psh_L, psh_R, psh_U, gt_sr, gr_sr, sk_sr, nn_sr, ↓reduceIte, Int.toNat_natCast, Int.reduceToNat, gr_stw, r6, r9, hcp]
  exact h0
/-- behind lamps; behind the river; an hour, by what lamps take -/
def melt1 (R C : Nat) (m t : Nat → Int) : Nat → Int := upto (R * C) (fun c => mx (t c - m c)) t
def mi9 (z : Int) : Int := if z < 9 then z else 9
def riv (n C : Nat) (fe : Int) (t : Nat → Int) : Nat → Int := fun c => if c < n ∧ c % C = 0 then mi9 (t c + fe) else t c
def psm (R C : Nat) (fe : Int) (m : Nat → Int) (h : Int) (t : Nat → Int) : Nat → Int :=
  if h = 4 then riv (R * C) C fe (melt1 R C m t) else if h = 5 then melt1 R C m t else blo R C (dnI h) (onI h) (melt1 R C m t) (R * C) (melt1 R C m t)
theorem tk_melt {R C : Nat} {m t : Nat → Int} (ht : tk t) (hm : mo2 m) : tk (melt1 R C m t) := by
  intro c hc
  have h1 := ht c hc
  have h2 := hm c hc
  unfold melt1 upto mx
  dsimp only
  split
  · split <;> omega
  · exact h1
theorem brk_congr {R C : Nat} (hR : R * C ≤ 24) {dn on : Int} {w w' : Nat → Int} (h : ∀ c, c < 24 → w c = w' c) {r k : Nat} (hr : r < R) (hk : k < C) (t : Nat → Int) : brk R C dn on w r k t = brk R C dn on w' r k t := by
  have h1 := rk_lt hR hr hk
  have h2 : lv w = lv w' := by
    funext j
    unfold lv
    split
    · exact h _ (by omega)
    · rfl
  unfold brk
  rw [h _ h1.2.1, h2]
theorem blo_congr {R C : Nat} (hR : R * C ≤ 24) {dn on : Int} {w w' : Nat → Int} (h : ∀ c, c < 24 → w c = w' c) (t : Nat → Int) : ∀ n, n ≤ R * C → blo R C dn on w n t = blo R C dn on w' n t
  | 0, _ => rfl
  | n + 1, hn => by
    have hC : 0 < C := by
      rcases Nat.eq_zero_or_pos C with e | e
      · rw [e] at hn; omega
      · exact e
    unfold blo
    rw [blo_congr hR h t n (by omega)]
    exact brk_congr hR h ((Nat.div_lt_iff_lt_mul hC).mpr (by omega)) (Nat.mod_lt _ hC) _
theorem riv_0 (C : Nat) (fe : Int) (t : Nat → Int) : riv 0 C fe t = t := by funext c; unfold riv; rw [if_neg (by omega)]
theorem riv_s {C r : Nat} (hC : 1 ≤ C) (fe : Int) (t : Nat → Int) : ru (riv (r * C) C fe t) (r * C) (mi9 (t (r * C) + fe)) = riv ((r + 1) * C) C fe t := by
  funext c
  unfold ru riv
  rw [Nat.add_mul, Nat.one_mul]
  by_cases e : c = r * C
  · subst e
    rw [if_pos rfl, if_pos ⟨by omega, Nat.mul_mod_left _ _⟩]
  · rw [if_neg e]
    by_cases e1 : c < r * C
    · by_cases e2 : c % C = 0
      · rw [if_pos ⟨e1, e2⟩, if_pos ⟨by omega, e2⟩]
      · rw [if_neg (fun h => e2 h.2), if_neg (fun h => e2 h.2)]
    · rw [if_neg (fun h => e1 h.1), if_neg]
      rintro ⟨h1, h2⟩
      obtain ⟨d, hd⟩ : ∃ d, c = r * C + d := ⟨c - r * C, by omega⟩
      have h3 := (rk_dm (r := r) (show d < C by omega)).2
      rw [← hd, h2] at h3
      omega
set_option maxRecDepth 100000 in
set_option maxHeartbeats 4000000 in
theorem c_riverS {σ : St} {b R C r : Nat} (hb : bsh σ b) (hd : dim σ b R C) (hr : r < R) {t w : Nat → Int} (ht : 0 ≤ t (r * C) ∧ t (r * C) ≤ 9) (hfe : 1 ≤ gt σ b 3 ∧ gt σ b 3 ≤ 5) (h : Int) (q3 : AV) :
    run 30 52 [vR b, vI h, vI r, q3] [] (stw σ b t w) = run 30 52 [vR b, vI h, vI ((r + 1 : Nat) : Int), vI ((r * C : Nat) : Int)] [] (stw σ b (ru t (r * C) (mi9 (t (r * C) + gt σ b 3))) w) := by
  have hmi : (if t (r * C) + gt σ b 3 < 9 then t (r * C) + gt σ b 3 else 9) = mi9 (t (r * C) + gt σ b 3) := rfl
  have hle := dim_le hd
  have hC := hd.2.2.2.2.2.1
  obtain ⟨hlt, hlt4, hr1, -⟩ := rk_lt hle hr (show 0 < C by omega)
  rw [Nat.add_zero] at hlt hlt4
  have hc' : (r : Int) < (R : Int) := by omega
  have w1 := wr_p hr1
  have w2 : wr ((r : Int) * (C : Int)) = ((r * C : Nat) : Int) := by rw [← Int.natCast_mul]; exact wr_r (by omega) (by omega)
  have w3 : wr (t (r * C) + gt σ b 3) = t (r * C) + gt σ b 3 := wr_r (by omega) (by omega)
  obtain ⟨hf, ⟨r6, r7, r8, r9, r10, r11, r12⟩, i1, i2, i3, i4, i5, i6, i7⟩ := hb
  obtain ⟨d0, d1, -⟩ := hd
  have a1 : run 10 0 [vR (b + 1), vI ((r * C : Nat) : Int)] [] (stw σ b t w) = some (vI (t (r * C)), stw σ b t w) := by
    have := c_atN (σ := stw σ b t w) (k := b + 1) i1 hlt4
    rwa [gt_stw, if_pos rfl] at this
  have a3 : ∀ v, run 11 0 [vR (b + 1), vI ((r * C : Nat) : Int), vI v] [] (stw σ b t w) = some (vU, stw σ b (ru t (r * C) v) w) := fun v => by
    have := c_putN (σ := stw σ b t w) (k := b + 1) i1 hlt4 v
    rwa [gt_stw, if_pos rfl, stw_t] at this
  rw [e30_52]
  simp (disch := first | (simp only [fok_stw]; assumption) | first | assumption | omega | (left; assumption) | (refine aok_mk ?_ ?_ ?_ <;> first | assumption | omega) | (simp only [fok_sr, aok_sr]; first | assumption | omega | (left; assumption) | (refine aok_mk ?_ ?_ ?_ <;> first | assumption | omega)) | (simp; done)) only [e30_0, e30_1, e30_3, e30_4, e30_7, e30_10, e30_11, e30_14, e30_15, e30_16, e30_17, e30_20, e30_21, e30_24, e30_25, e30_28, e30_29, e30_32, e30_33, e30_36, e30_39, e30_42, e30_45, e30_46, e30_47, e30_50, e30_51, e30_53, e30_54, e30_57, e30_60, e30_61, e30_62, e30_65, e30_66, e30_67, e30_68, e30_71, e30_72, e30_74, e30_75, e30_78, e30_79, e30_82, e30_83, e30_86, e30_87, e30_90, e30_93, e30_96, e30_99, e30_102, e30_103, e30_104, e30_107, e30_108, e30_109, e30_112, e30_113, e30_116, e30_119, eq_self, ne_a, ne_b, ne_c, Nat.reduceEqDiff, lt0, bnd_ok, psh_I, psh_L, psh_R, psh_U, gt_sr, gr_sr, sk_sr, nn_sr, ↓reduceIte, Int.toNat_natCast, Int.reduceToNat, gr_stw, gt_stw, d0, d1, hc', r6, a1, a3, w2, w3, w1, hmi]
set_option maxRecDepth 100000 in
set_option maxHeartbeats 4000000 in
theorem c_pass {σ : St} {b R C : Nat} (hb : bsh σ b) (hd : dim σ b R C) (ht : tk (gt σ (b + 1))) (hm : mo2 (gt σ (b + 3))) (hfe : 1 ≤ gt σ b 3 ∧ gt σ b 3 ≤ 5) {h : Int} (h0 : 0 ≤ h) (h5 : h ≤ 5) :
    ∃ w, run 30 0 [vR b, vI h, vU, vU] [] σ = some (vU, stw σ b (psm R C (gt σ b 3) (gt σ (b + 3)) h (gt σ (b + 1))) w) := by
  have hle := dim_le hd
  have pS := fun (c : Nat) (hc : c < R * C) (t w : Nat → Int) h1 => c_passS (σ := σ) (t := t) (w := w) hb hd.2.2.1 hc (by omega) h1 hm h
  have rS := fun (r : Nat) (hr : r < R) (t w : Nat → Int) h1 => c_riverS (σ := σ) (t := t) (w := w) hb hd hr h1 hfe h
  have bl := fun (t w : Nat → Int) (h1 : tk t) => c_blow (σ := σ) (t := t) (w0 := w) hb hd h1 (dn := dnI h) (on := onI h) (by unfold dnI; split <;> (try split) <;> omega) (by unfold onI; split <;> (try split) <;> omega)
  have htm := tk_melt (R := R) (C := C) ht hm
  have hR4 : R ≤ 4 := hd.2.2.2.2.1
  have hC1 := hd.2.2.2.2.2.1
  obtain ⟨hf, ⟨r6, r7, r8, r9, r10, r11, r12⟩, i1, i2, i3, i4, i5, i6, i7⟩ := hb
  obtain ⟨d0, d1, d2, -⟩ := hd
  have s1 : ∀ (X : Res), (∀ q3, run 30 45 [vR b, vI h, vI ((R * C : Nat) : Int), q3] [] (stw σ b (melt1 R C (gt σ (b + 3)) (gt σ (b + 1))) (gt σ (b + 4))) = X) → ∀ (m c : Nat), c + m = R * C → ∀ q3, run 30 2 [vR b, vI h, vI c, q3] [] (stw σ b (upto c (fun c => mx (gt σ (b + 1) c - gt σ (b + 3) c)) (gt σ (b + 1))) (gt σ (b + 4))) = X := by
    intro X hX m
    induction m with
    | zero =>
      intro c hc q3
      have hc' : ¬ (c : Int) < ((R * C : Nat) : Int) := by omega
      rw [e30_2]
      simp (disch := first | (simp only [fok_stw]; assumption) | first | assumption | omega | (left; assumption) | (refine aok_mk ?_ ?_ ?_ <;> first | assumption | omega) | (simp only [fok_sr, aok_sr]; first | assumption | omega | (left; assumption) | (refine aok_mk ?_ ?_ ?_ <;> first | assumption | omega)) | (simp; done)) only [e30_0, e30_1, e30_3, e30_4, e30_7, e30_10, e30_11, e30_14, e30_15, e30_16, e30_17, e30_20, e30_21, e30_24, e30_25, e30_28, e30_29, e30_32, e30_33, e30_36, e30_39, e30_42, e30_46, e30_47, e30_50, e30_51, e30_53, e30_54, e30_57, e30_60, e30_61, e30_62, e30_65, e30_66, e30_67, e30_68, e30_71, e30_72, e30_74, e30_75, e30_78, e30_79, e30_82, e30_83, e30_86, e30_87, e30_90, e30_93, e30_96, e30_99, e30_102, e30_103, e30_104, e30_107, e30_108, e30_109, e30_112, e30_113, e30_116, e30_119, eq_self, ne_a, ne_b, ne_c, Nat.reduceEqDiff, lt0, bnd_ok, psh_I, psh_L, psh_R, psh_U, gt_sr, gr_sr, sk_sr, nn_sr, ↓reduceIte, Int.toNat_natCast, Int.reduceToNat, gt_stw, d2, hc']
      rw [show c = R * C by omega]
      exact hX _
    | succ m ih =>
      intro c hc q3
      have e1 : upto c (fun c => mx (gt σ (b + 1) c - gt σ (b + 3) c)) (gt σ (b + 1)) c = gt σ (b + 1) c := by unfold upto; rw [if_neg (by omega)]
      rw [pS c (by omega) _ _ (by rw [e1]; exact ht c (by omega)), e1, upto_s _ _ _ _ rfl]
      exact ih (c + 1) (by omega) _
  have s2 : ∀ (w : Nat → Int), ∀ (m r : Nat), r + m = R → ∀ q3, run 30 52 [vR b, vI h, vI r, q3] [] (stw σ b (riv (r * C) C (gt σ b 3) (melt1 R C (gt σ (b + 3)) (gt σ (b + 1)))) w) = some (vU, stw σ b (riv (R * C) C (gt σ b 3) (melt1 R C (gt σ (b + 3)) (gt σ (b + 1)))) w) := by
    intro w m
    induction m with
    | zero =>
      intro r hr q3
      have hc' : ¬ (r : Int) < (R : Int) := by omega
      rw [e30_52]
      simp (disch := first | (simp only [fok_stw]; assumption) | first | assumption | omega | (left; assumption) | (refine aok_mk ?_ ?_ ?_ <;> first | assumption | omega) | (simp only [fok_sr, aok_sr]; first | assumption | omega | (left; assumption) | (refine aok_mk ?_ ?_ ?_ <;> first | assumption | omega)) | (simp; done)) only [e30_0, e30_1, e30_3, e30_4, e30_7, e30_10, e30_11, e30_14, e30_15, e30_16, e30_17, e30_20, e30_21, e30_24, e30_25, e30_28, e30_29, e30_32, e30_33, e30_36, e30_39, e30_42, e30_45, e30_46, e30_47, e30_50, e30_51, e30_53, e30_54, e30_57, e30_60, e30_61, e30_62, e30_65, e30_66, e30_67, e30_68, e30_71, e30_72, e30_74, e30_75, e30_78, e30_79, e30_82, e30_83, e30_86, e30_87, e30_90, e30_93, e30_96, e30_99, e30_102, e30_103, e30_104, e30_107, e30_108, e30_109, e30_112, e30_113, e30_116, e30_119, eq_self, ne_a, ne_b, ne_c, Nat.reduceEqDiff, lt0, bnd_ok, psh_I, psh_L, psh_R, psh_U, gt_sr, gr_sr, sk_sr, nn_sr, ↓reduceIte, Int.toNat_natCast, Int.reduceToNat, gt_stw, d0, hc']
      rw [show r = R by omega]
    | succ m ih =>
      intro r hr q3
      have e1 : riv (r * C) C (gt σ b 3) (melt1 R C (gt σ (b + 3)) (gt σ (b + 1))) (r * C) = melt1 R C (gt σ (b + 3)) (gt σ (b + 1)) (r * C) := by unfold riv; rw [if_neg (by omega)]
      have hlt := (rk_lt hle (show r < R by omega) (show 0 < C by omega)).2.1
      rw [rS r (by omega) _ _ (by rw [e1]; exact htm _ (by omega)), e1, riv_s hC1]
      exact ih (r + 1) (by omega) _
  by_cases h4 : h = 4
  · refine ⟨gt σ (b + 4), ?_⟩
    have h9 := s1 _ (fun q3 => by
      have := s2 (gt σ (b + 4)) R 0 (by omega) q3
      rw [Nat.zero_mul, riv_0] at this
      rw [e30_45]
      simp (disch := first | assumption | omega | (left; assumption) | (refine aok_mk ?_ ?_ ?_ <;> first | assumption | omega) | (simp only [fok_sr, aok_sr]; first | assumption | omega | (left; assumption) | (refine aok_mk ?_ ?_ ?_ <;> first | assumption | omega)) | (simp; done)) only [e30_0, e30_1, e30_3, e30_4, e30_7, e30_10, e30_11, e30_14, e30_15, e30_16, e30_17, e30_20, e30_21, e30_24, e30_25, e30_28, e30_29, e30_32, e30_33, e30_36, e30_39, e30_42, e30_45, e30_46, e30_47, e30_50, e30_51, e30_53, e30_54, e30_57, e30_60, e30_61, e30_62, e30_65, e30_66, e30_67, e30_68, e30_71, e30_72, e30_74, e30_75, e30_78, e30_79, e30_82, e30_83, e30_86, e30_87, e30_90, e30_93, e30_96, e30_99, e30_102, e30_103, e30_104, e30_107, e30_108, e30_109, e30_112, e30_113, e30_116, e30_119, eq_self, ne_a, ne_b, ne_c, Nat.reduceEqDiff, lt0, bnd_ok, psh_I, psh_L, psh_R, psh_U, gt_sr, gr_sr, sk_sr, nn_sr, ↓reduceIte, Int.toNat_natCast, Int.reduceToNat, h4]
      rw [h4] at this
      exact this) (R * C) 0 (by omega) vU
    rw [upto_0, stw_0] at h9
    simp (disch := first | assumption | omega | (left; assumption) | (refine aok_mk ?_ ?_ ?_ <;> first | assumption | omega) | (simp only [fok_sr, aok_sr]; first | assumption | omega | (left; assumption) | (refine aok_mk ?_ ?_ ?_ <;> first | assumption | omega)) | (simp; done)) only [e30_0, e30_1, e30_3, e30_4, e30_7, e30_10, e30_11, e30_14, e30_15, e30_16, e30_17, e30_20, e30_21, e30_24, e30_25, e30_28, e30_29, e30_32, e30_33, e30_36, e30_39, e30_42, e30_45, e30_46, e30_47, e30_50, e30_51, e30_53, e30_54, e30_57, e30_60, e30_61, e30_62, e30_65, e30_66, e30_67, e30_68, e30_71, e30_72, e30_74, e30_75, e30_78, e30_79, e30_82, e30_83, e30_86, e30_87, e30_90, e30_93, e30_96, e30_99, e30_102, e30_103, e30_104, e30_107, e30_108, e30_109, e30_112, e30_113, e30_116, e30_119, eq_self, ne_a, ne_b, ne_c, Nat.reduceEqDiff, lt0, bnd_ok, psh_I, psh_L, psh_R, psh_U, gt_sr, gr_sr, sk_sr, nn_sr, ↓reduceIte, Int.toNat_natCast, Int.reduceToNat]
    refine h9.trans ?_
    unfold psm
    rw [if_pos h4]
  · by_cases h5' : h = 5
    · refine ⟨gt σ (b + 4), ?_⟩
      have h9 := s1 _ (fun q3 => by
        rw [e30_45]
        simp (disch := first | assumption | omega | (left; assumption) | (refine aok_mk ?_ ?_ ?_ <;> first | assumption | omega) | (simp only [fok_sr, aok_sr]; first | assumption | omega | (left; assumption) | (refine aok_mk ?_ ?_ ?_ <;> first | assumption | omega)) | (simp; done)) only [e30_0, e30_1, e30_3, e30_4, e30_7, e30_10, e30_11, e30_14, e30_15, e30_16, e30_17, e30_20, e30_21, e30_24, e30_25, e30_28, e30_29, e30_32, e30_33, e30_36, e30_39, e30_42, e30_45, e30_46, e30_47, e30_50, e30_51, e30_53, e30_54, e30_57, e30_60, e30_61, e30_62, e30_65, e30_66, e30_67, e30_68, e30_71, e30_72, e30_74, e30_75, e30_78, e30_79, e30_82, e30_83, e30_86, e30_87, e30_90, e30_93, e30_96, e30_99, e30_102, e30_103, e30_104, e30_107, e30_108, e30_109, e30_112, e30_113, e30_116, e30_119, eq_self, ne_a, ne_b, ne_c, Nat.reduceEqDiff, lt0, bnd_ok, psh_I, psh_L, psh_R, psh_U, gt_sr, gr_sr, sk_sr, nn_sr, ↓reduceIte, Int.toNat_natCast, Int.reduceToNat, h4, h5', Int.reduceEq]
        rfl) (R * C) 0 (by omega) vU
      rw [upto_0, stw_0] at h9
      simp (disch := first | assumption | omega | (left; assumption) | (refine aok_mk ?_ ?_ ?_ <;> first | assumption | omega) | (simp only [fok_sr, aok_sr]; first | assumption | omega | (left; assumption) | (refine aok_mk ?_ ?_ ?_ <;> first | assumption | omega)) | (simp; done)) only [e30_0, e30_1, e30_3, e30_4, e30_7, e30_10, e30_11, e30_14, e30_15, e30_16, e30_17, e30_20, e30_21, e30_24, e30_25, e30_28, e30_29, e30_32, e30_33, e30_36, e30_39, e30_42, e30_45, e30_46, e30_47, e30_50, e30_51, e30_53, e30_54, e30_57, e30_60, e30_61, e30_62, e30_65, e30_66, e30_67, e30_68, e30_71, e30_72, e30_74, e30_75, e30_78, e30_79, e30_82, e30_83, e30_86, e30_87, e30_90, e30_93, e30_96, e30_99, e30_102, e30_103, e30_104, e30_107, e30_108, e30_109, e30_112, e30_113, e30_116, e30_119, eq_self, ne_a, ne_b, ne_c, Nat.reduceEqDiff, lt0, bnd_ok, psh_I, psh_L, psh_R, psh_U, gt_sr, gr_sr, sk_sr, nn_sr, ↓reduceIte, Int.toNat_natCast, Int.reduceToNat]
      refine h9.trans ?_
      unfold psm
      rw [if_neg h4, if_pos h5']
    · refine ⟨upto 24 (melt1 R C (gt σ (b + 3)) (gt σ (b + 1))) (gt σ (b + 4)), ?_⟩
      have h9 := s1 _ (fun q3 => by
        have e := bl _ (gt σ (b + 4)) htm
        rw [e30_45]
        simp (disch := first | (simp only [fok_stw]; assumption) | first | assumption | omega | (left; assumption) | (refine aok_mk ?_ ?_ ?_ <;> first | assumption | omega) | (simp only [fok_sr, aok_sr]; first | assumption | omega | (left; assumption) | (refine aok_mk ?_ ?_ ?_ <;> first | assumption | omega)) | (simp; done)) only [e30_0, e30_1, e30_3, e30_4, e30_7, e30_10, e30_11, e30_14, e30_15, e30_16, e30_17, e30_20, e30_21, e30_24, e30_25, e30_28, e30_29, e30_32, e30_33, e30_36, e30_39, e30_42, e30_45, e30_46, e30_47, e30_50, e30_51, e30_53, e30_54, e30_57, e30_60, e30_61, e30_62, e30_65, e30_66, e30_67, e30_68, e30_71, e30_72, e30_74, e30_75, e30_78, e30_79, e30_82, e30_83, e30_86, e30_87, e30_90, e30_93, e30_96, e30_99, e30_102, e30_103, e30_104, e30_107, e30_108, e30_109, e30_112, e30_113, e30_116, e30_119, eq_self, ne_a, ne_b, ne_c, Nat.reduceEqDiff, lt0, bnd_ok, psh_I, psh_L, psh_R, psh_U, gt_sr, gr_sr, sk_sr, nn_sr, ↓reduceIte, Int.toNat_natCast, Int.reduceToNat, h4, h5', c_down, c_on, e]
        rfl) (R * C) 0 (by omega) vU
      rw [upto_0, stw_0] at h9
      simp (disch := first | assumption | omega | (left; assumption) | (refine aok_mk ?_ ?_ ?_ <;> first | assumption | omega) | (simp only [fok_sr, aok_sr]; first | assumption | omega | (left; assumption) | (refine aok_mk ?_ ?_ ?_ <;> first | assumption | omega)) | (simp; done)) only [e30_0, e30_1, e30_3, e30_4, e30_7, e30_10, e30_11, e30_14, e30_15, e30_16, e30_17, e30_20, e30_21, e30_24, e30_25, e30_28, e30_29, e30_32, e30_33, e30_36, e30_39, e30_42, e30_45, e30_46, e30_47, e30_50, e30_51, e30_53, e30_54, e30_57, e30_60, e30_61, e30_62, e30_65, e30_66, e30_67, e30_68, e30_71, e30_72, e30_74, e30_75, e30_78, e30_79, e30_82, e30_83, e30_86, e30_87, e30_90, e30_93, e30_96, e30_99, e30_102, e30_103, e30_104, e30_107, e30_108, e30_109, e30_112, e30_113, e30_116, e30_119, eq_self, ne_a, ne_b, ne_c, Nat.reduceEqDiff, lt0, bnd_ok, psh_I, psh_L, psh_R, psh_U, gt_sr, gr_sr, sk_sr, nn_sr, ↓reduceIte, Int.toNat_natCast, Int.reduceToNat]
      refine h9.trans ?_
      unfold psm
      rw [if_neg h4, if_neg h5']
      congr 2
      rw [blo_congr hle (fun c hc => by unfold upto; rw [if_pos hc]) _ _ (Nat.le_refl _)]
