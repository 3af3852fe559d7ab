/-! an hour passes -/
set_option maxRecDepth 100000 in
set_option maxHeartbeats 4000000 in
theorem c_light {σ : St} {b R C : Nat} (hb : bsh σ b) (hd : dim σ b R C) (hl : lam (gt σ (b + 2))) {c : Nat} (hc : c < 24) {v : Int} (hv : v = 0 ∨ v = 1) : run 12 0 [vR b, vI c, vI v] [] σ = some (vU, sr (sr σ (b + 2) (ru (gt σ (b + 2)) c v)) (b + 3) (upto (R * C) (mlt R C (ru (gt σ (b + 2)) c v)) (gt σ (b + 3)))) := by
  have hb0 := hb
  obtain ⟨hf, ⟨r6, r7, r8, r9, r10, r11, r12⟩, i1, i2, i3, i4, i5, i6, i7⟩ := hb
  have e1 := c_put24 i2 hc v
  have hl' : lam (ru (gt σ (b + 2)) c v) := by
    intro i hi
    unfold ru
    by_cases e : i = c
    · rw [if_pos e]; exact hv
    · rw [if_neg e]; exact hl i hi
  have e2 := c_warm (σ := sr σ (b + 2) (ru (gt σ (b + 2)) c v)) (b := b) (R := R) (C := C) hb0 (dim_sr hd (by omega)) (by rw [gt_sr, if_pos rfl]; exact hl')
  rw [gt_sr, gt_sr, if_pos rfl, if_neg (by omega)] at e2
  simp (disch := first | assumption | omega | (left; assumption) | (refine aok_mk ?_ ?_ ?_ <;> first | assumption | omega) | (simp only [fok_sr, aok_sr]; first | assumption | omega | (left; assumption) | (refine aok_mk ?_ ?_ ?_ <;> first | assumption | omega)) | (simp; done)) only [e12_0, e12_1, e12_4, e12_5, e12_6, e12_9, e12_10, e12_13, eq_self, ne_a, ne_b, ne_c, Nat.reduceEqDiff, lt0, bnd_ok, psh_I, psh_L, psh_R, psh_U, gt_sr, gr_sr, sk_sr, nn_sr, ↓reduceIte, Int.toNat_natCast, Int.reduceToNat, r7, e1, e2]
def mx (a : Int) : Int := if 0 < a then a else 0
def tk (t : Nat → Int) : Prop := ∀ c, c < 24 → 0 ≤ t c ∧ t c ≤ 9
def mo2 (m : Nat → Int) : Prop := ∀ c, c < 24 → 0 ≤ m c ∧ m c ≤ 2
/-- a bank whose fog and old fog are t, w -/
def stw (σ : St) (b : Nat) (t w : Nat → Int) : St := sr (sr σ (b + 4) w) (b + 1) t
theorem stw_0 (σ : St) (b : Nat) : stw σ b (gt σ (b + 1)) (gt σ (b + 4)) = σ := by
  unfold stw
  rw [sr_self σ (b + 4) _ rfl, sr_self σ (b + 1) _ rfl]
theorem stw_t (σ : St) (b : Nat) (t w t2 : Nat → Int) : sr (stw σ b t w) (b + 1) t2 = stw σ b t2 w := sr_sr _ _ _ _
theorem sr_com (σ : St) (p q : Nat) (f g : Nat → Int) (h : p ≠ q) : sr (sr σ p f) q g = sr (sr σ q g) p f := by
  unfold sr
  dsimp only
  have e : ru (ru σ.2.2.2.1 p f) q g = ru (ru σ.2.2.2.1 q g) p f := by
    funext i
    unfold ru
    by_cases h1 : i = q
    · rw [if_pos h1, if_neg (by omega), if_pos h1]
    · rw [if_neg h1]
      by_cases h2 : i = p
      · rw [if_pos h2, if_pos h2]
      · rw [if_neg h2, if_neg h2, if_neg h1]
  rw [e]
theorem stw_w (σ : St) (b : Nat) (t w w2 : Nat → Int) : sr (stw σ b t w) (b + 4) w2 = stw σ b t w2 := by
  unfold stw
  rw [sr_com _ (b + 1) (b + 4) _ _ (by omega), sr_sr]
theorem gt_stw (σ : St) (b : Nat) (t w : Nat → Int) (i : Nat) : gt (stw σ b t w) i = if i = b + 1 then t else if i = b + 4 then w else gt σ i := rfl
theorem bsh_stw (σ : St) (b : Nat) (t w : Nat → Int) : bsh (stw σ b t w) b ↔ bsh σ b := Iff.rfl
theorem fok_stw (σ : St) (b : Nat) (t w : Nat → Int) (k kd : Nat) : fok (stw σ b t w) k kd ↔ fok σ k kd := Iff.rfl
theorem gr_stw (σ : St) (b : Nat) (t w : Nat → Int) : gr (stw σ b t w) = gr σ := rfl
theorem dim_stw {σ : St} {b R C : Nat} {t w : Nat → Int} (h : dim σ b R C) : dim (stw σ b t w) b R C := dim_sr (dim_sr h (by omega)) (by omega)
set_option maxRecDepth 100000 in
set_option maxHeartbeats 4000000 in
theorem c_passS {σ : St} {b n c : Nat} (hb : bsh σ b) (hn : gt σ b 2 = (n : Int)) (hc : c < n) (h24 : c < 24) {t w : Nat → Int} (ht : 0 ≤ t c ∧ t c ≤ 9) (hm : mo2 (gt σ (b + 3))) (h : Int) (q3 : AV) :
    run 30 2 [vR b, vI h, vI c, q3] [] (stw σ b t w) = run 30 2 [vR b, vI h, vI ((c + 1 : Nat) : Int), q3] [] (stw σ b (ru t c (mx (t c - gt σ (b + 3) c))) w) := by
  have hc' : (c : Int) < (n : Int) := by omega
  obtain ⟨m0, m1⟩ := hm c h24
  have w1 := wr_p (show c ≤ 100000 by omega)
  have w2 : wr (t c - gt σ (b + 3) c) = t c - gt σ (b + 3) c := wr_r (by omega) (by omega)
  obtain ⟨hf, ⟨r6, r7, r8, r9, r10, r11, r12⟩, i1, i2, i3, i4, i5, i6, i7⟩ := hb
  have a1 : run 10 0 [vR (b + 1), vI c] [] (stw σ b t w) = some (vI (t c), stw σ b t w) := by
    have := c_atN (σ := stw σ b t w) (k := b + 1) i1 h24
    rwa [gt_stw, if_pos rfl] at this
  have a2 : run 10 0 [vR (b + 3), vI c] [] (stw σ b t w) = some (vI (gt σ (b + 3) c), stw σ b t w) := by
    have := c_atN (σ := stw σ b t w) (k := b + 3) i3 h24
    rwa [gt_stw, if_neg (by omega), if_neg (by omega)] at this
  have a3 : ∀ v, run 11 0 [vR (b + 1), vI c, vI v] [] (stw σ b t w) = some (vU, stw σ b (ru t c v) w) := fun v => by
    have := c_putN (σ := stw σ b t w) (k := b + 1) i1 h24 v
    rwa [gt_stw, if_pos rfl, stw_t] at this
  have hmx : (if 0 < t c - gt σ (b + 3) c then t c - gt σ (b + 3) c else 0) = mx (t c - gt σ (b + 3) c) := rfl
  rw [e30_2]
  simp (disch := first | (simp only [fok_stw]; assumption) | first | assumption | omega | (left; assumption) | (refine aok_mk ?_ ?_ ?_ <;> first | assumption | omega) | (simp only [fok_sr, aok_sr]; first | assumption | omega | (left; assumption) | (refine aok_mk ?_ ?_ ?_ <;> first | assumption | omega)) | (simp; done)) only [e30_0, e30_1, e30_3, e30_4, e30_7, e30_10, e30_11, e30_14, e30_15, e30_16, e30_17, e30_20, e30_21, e30_24, e30_25, e30_28, e30_29, e30_32, e30_33, e30_36, e30_39, e30_42, e30_45, e30_46, e30_47, e30_50, e30_51, e30_53, e30_54, e30_57, e30_60, e30_61, e30_62, e30_65, e30_66, e30_67, e30_68, e30_71, e30_72, e30_74, e30_75, e30_78, e30_79, e30_82, e30_83, e30_86, e30_87, e30_90, e30_93, e30_96, e30_99, e30_102, e30_103, e30_104, e30_107, e30_108, e30_109, e30_112, e30_113, e30_116, e30_119, eq_self, ne_a, ne_b, ne_c, Nat.reduceEqDiff, lt0, bnd_ok, psh_I, psh_L, psh_R, psh_U, gt_sr, gr_sr, sk_sr, nn_sr, ↓reduceIte, Int.toNat_natCast, Int.reduceToNat, gr_stw, gt_stw, hn, hc', r6, r8, a1, a2, a3, w2, hmx, w1]
/-- where the fog goes from one cell -/
def brk (R C : Nat) (dn on : Int) (w : Nat → Int) (r k : Nat) (t : Nat → Int) : Nat → Int :=
  let to := cat R C (r + dn) (k + on)
  if to = -1 then (if 0 < w (r * C + k) then ru t (r * C + k) (t (r * C + k) - 1) else t)
  else if lv w to < w (r * C + k) then ru (ru t (r * C + k) (t (r * C + k) - 1)) to.toNat (ru t (r * C + k) (t (r * C + k) - 1) to.toNat + 1) else t
theorem cat_cases (R C : Nat) (r k : Int) (h : R * C ≤ 24) : cat R C r k = -1 ∨ ∃ j : Nat, j < R * C ∧ cat R C r k = (j : Int) := by
  unfold cat
  by_cases e : 0 ≤ r ∧ r < R ∧ 0 ≤ k ∧ k < C
  · obtain ⟨e1, e2, e3, e4⟩ := e
    obtain ⟨m1, m2⟩ := mul_lt e1 e2 e3 e4
    rw [if_pos ⟨e1, e2, e3, e4⟩]
    exact Or.inr ⟨(r * C + k).toNat, by omega, by omega⟩
  · rw [if_neg e]; exact Or.inl rfl
set_option maxRecDepth 100000 in
set_option maxHeartbeats 4000000 in
theorem c_blowS {σ : St} {b R C r k : Nat} (hb : bsh σ b) (hd : dim σ b R C) (hr : r < R) (hk : k < C) {t w : Nat → Int} (ht : ∀ c, c < 24 → -100 ≤ t c ∧ t c ≤ 100) {dn on : Int} (hdn : -1 ≤ dn ∧ dn ≤ 1) (hon : -1 ≤ on ∧ on ≤ 1) (q5 q6 q7 : AV) :
    ∃ q5' q6' q7', run 33 24 [vR b, vI dn, vI on, vI r, vI k, q5, q6, q7] [] (stw σ b t w) = run 33 24 [vR b, vI dn, vI on, vI r, vI ((k + 1 : Nat) : Int), q5', q6', q7'] [] (stw σ b (brk R C dn on w r k t) w) := by
  have hle := dim_le hd
  obtain ⟨hlt, hlt4, hr1, hk1⟩ := rk_lt hle hr hk
  have hc' : (k : Int) < (C : Int) := by omega
  have hw := wr_rk hle hr hk
  have w1 := wr_p hk1
  have w2 : wr ((r : Int) + dn) = (r : Int) + dn := wr_id (by omega) (by omega)
  have w3 : wr ((k : Int) + on) = (k : Int) + on := wr_id (by omega) (by omega)
  have hca := c_cellAt (σ := stw σ b t w) hb (dim_stw hd) ((r : Int) + dn) ((k : Int) + on)
  have hcc := cat_cases R C ((r : Int) + dn) ((k : Int) + on) hle
  obtain ⟨hf, ⟨r6, r7, r8, r9, r10, r11, r12⟩, i1, i2, i3, i4, i5, i6, i7⟩ := hb
  obtain ⟨d0, d1, -⟩ := hd
  have a1 : ∀ t, run 10 0 [vR (b + 1), vI ((r * C + k : Nat) : Int)] [] (stw σ b t w) = some (vI (t (r * C + k)), stw σ b t w) := fun t => by
    have := c_atN (σ := stw σ b t w) (k := b + 1) i1 hlt4
    rwa [gt_stw, if_pos rfl] at this
  have a2 : run 10 0 [vR (b + 4), vI ((r * C + k : Nat) : Int)] [] (stw σ b t w) = some (vI (w (r * C + k)), stw σ b t w) := by
    have := c_atN (σ := stw σ b t w) (k := b + 4) i4 hlt4
    rwa [gt_stw, if_neg (by omega), if_pos rfl] at this
  have a3 : ∀ t v, run 11 0 [vR (b + 1), vI ((r * C + k : Nat) : Int), vI v] [] (stw σ b t w) = some (vU, stw σ b (ru t (r * C + k) v) w) := fun t v => by
    have := c_putN (σ := stw σ b t w) (k := b + 1) i1 hlt4 v
    rwa [gt_stw, if_pos rfl, stw_t] at this
  have w4 : wr (t (r * C + k) - 1) = t (r * C + k) - 1 := wr_r (by have := ht _ hlt4; omega) (by have := ht _ hlt4; omega)
  unfold brk
  rcases hcc with h1 | ⟨j, hj, h1⟩
  · rw [h1] at hca
    rw [h1]
    by_cases h2 : 0 < w (r * C + k)
    · refine ⟨vI ((r * C + k : Nat) : Int), vI (-1), vI 0, (e33_24 _ _ _ _ _ _ _ _).trans ?_⟩
      have a4 : ∀ v, run 10 0 [vR (b + 1), vI (-1)] [] (stw σ b v w) = some (vI 0, stw σ b v w) := fun v => (c_at24 (σ := stw σ b v w) (k := b + 1) i1 (-1)).trans rfl
      have a5 : ∀ v z, run 11 0 [vR (b + 1), vI (-1), vI z] [] (stw σ b v w) = some (vU, stw σ b v w) := fun v z => (c_put (σ := stw σ b v w) (k := b + 1) i1 (-1) z).trans (by rw [if_neg (by omega)])
      simp (disch := first | (simp only [fok_stw]; assumption) | first | assumption | omega | (left; assumption) | (refine aok_mk ?_ ?_ ?_ <;> first | assumption | omega) | (simp only [fok_sr, aok_sr]; first | assumption | omega | (left; assumption) | (refine aok_mk ?_ ?_ ?_ <;> first | assumption | omega)) | (simp; done)) only [e33_0, e33_1, e33_4, e33_5, e33_8, e33_11, e33_12, e33_14, e33_15, e33_18, e33_21, e33_22, e33_26, e33_27, e33_30, e33_33, e33_34, e33_35, e33_38, e33_39, e33_41, e33_42, e33_44, e33_45, e33_46, e33_47, e33_48, e33_50, e33_51, e33_52, e33_55, e33_57, e33_59, e33_60, e33_63, e33_64, e33_67, e33_68, e33_71, e33_73, e33_76, e33_78, e33_80, e33_81, e33_84, e33_86, e33_89, e33_92, e33_93, e33_96, e33_98, e33_99, e33_102, e33_104, e33_107, e33_108, e33_109, e33_112, e33_113, e33_116, e33_118, e33_119, e33_122, e33_124, e33_127, e33_128, e33_129, e33_132, e33_135, e33_138, e33_141, e33_144, eq_self, ne_a, ne_b, ne_c, Nat.reduceEqDiff, lt0, bnd_ok, psh_I, psh_L, psh_R, psh_U, gt_sr, gr_sr, sk_sr, nn_sr, ↓reduceIte, Int.toNat_natCast, Int.reduceToNat, gr_stw, gt_stw, d1, hc', r6, r9, a1, a2, a3, a4, a5, hca, w1, w2, w3, hw, w4, h2]
      try rfl
    · refine ⟨vI ((r * C + k : Nat) : Int), vI (-1), vI 0, (e33_24 _ _ _ _ _ _ _ _).trans ?_⟩
      simp (disch := first | (simp only [fok_stw]; assumption) | first | assumption | omega | (left; assumption) | (refine aok_mk ?_ ?_ ?_ <;> first | assumption | omega) | (simp only [fok_sr, aok_sr]; first | assumption | omega | (left; assumption) | (refine aok_mk ?_ ?_ ?_ <;> first | assumption | omega)) | (simp; done)) only [e33_0, e33_1, e33_4, e33_5, e33_8, e33_11, e33_12, e33_14, e33_15, e33_18, e33_21, e33_22, e33_26, e33_27, e33_30, e33_33, e33_34, e33_35, e33_38, e33_39, e33_41, e33_42, e33_44, e33_45, e33_46, e33_47, e33_48, e33_50, e33_51, e33_52, e33_55, e33_57, e33_59, e33_60, e33_63, e33_64, e33_67, e33_68, e33_71, e33_73, e33_76, e33_78, e33_80, e33_81, e33_84, e33_86, e33_89, e33_92, e33_93, e33_96, e33_98, e33_99, e33_102, e33_104, e33_107, e33_108, e33_109, e33_112, e33_113, e33_116, e33_118, e33_119, e33_122, e33_124, e33_127, e33_128, e33_129, e33_132, e33_135, e33_138, e33_141, e33_144, eq_self, ne_a, ne_b, ne_c, Nat.reduceEqDiff, lt0, bnd_ok, psh_I, psh_L, psh_R, psh_U, gt_sr, gr_sr, sk_sr, nn_sr, ↓reduceIte, Int.toNat_natCast, Int.reduceToNat, gr_stw, gt_stw, d1, hc', r6, r9, a1, a2, a3, hca, w1, w2, w3, hw, h2]
      try rfl
  · rw [h1] at hca
    have hj4 : j < 24 := by omega
    have n1 : ¬ (j : Int) = -1 := by omega
    have a6 : run 10 0 [vR (b + 4), vI (j : Int)] [] (stw σ b t w) = some (vI (w j), stw σ b t w) := by
      have := c_atN (σ := stw σ b t w) (k := b + 4) i4 hj4
      rwa [gt_stw, if_neg (by omega), if_pos rfl] at this
    have a7 : ∀ t, run 10 0 [vR (b + 1), vI (j : Int)] [] (stw σ b t w) = some (vI (t j), stw σ b t w) := fun t => by
      have := c_atN (σ := stw σ b t w) (k := b + 1) i1 hj4
      rwa [gt_stw, if_pos rfl] at this
    have a8 : ∀ t v, run 11 0 [vR (b + 1), vI (j : Int), vI v] [] (stw σ b t w) = some (vU, stw σ b (ru t j v) w) := fun t v => by
      have := c_putN (σ := stw σ b t w) (k := b + 1) i1 hj4 v
      rwa [gt_stw, if_pos rfl, stw_t] at this
    have hb5 : -101 ≤ ru t (r * C + k) (t (r * C + k) - 1) j ∧ ru t (r * C + k) (t (r * C + k) - 1) j ≤ 101 := by
      have h8 := ht _ hlt4
      have h9 := ht _ hj4
      unfold ru
      split <;> omega
    have w5 : wr (ru t (r * C + k) (t (r * C + k) - 1) j + 1) = ru t (r * C + k) (t (r * C + k) - 1) j + 1 := wr_r (by omega) (by omega)
    rw [h1]
    dsimp only
    rw [if_neg n1, lv_N hj4, Int.toNat_natCast]
    by_cases h2 : w j < w (r * C + k)
    · rw [if_pos h2]
      refine ⟨vI ((r * C + k : Nat) : Int), vI (j : Int), vI (w j), (e33_24 _ _ _ _ _ _ _ _).trans ?_⟩
      simp (disch := first | (simp only [fok_stw]; assumption) | first | assumption | omega | (left; assumption) | (refine aok_mk ?_ ?_ ?_ <;> first | assumption | omega) | (simp only [fok_sr, aok_sr]; first | assumption | omega | (left; assumption) | (refine aok_mk ?_ ?_ ?_ <;> first | assumption | omega)) | (simp; done)) only [e33_0, e33_1, e33_4, e33_5, e33_8, e33_11, e33_12, e33_14, e33_15, e33_18, e33_21, e33_22, e33_26, e33_27, e33_30, e33_33, e33_34, e33_35, e33_38, e33_39, e33_41, e33_42, e33_44, e33_45, e33_46, e33_47, e33_48, e33_50, e33_51, e33_52, e33_55, e33_57, e33_59, e33_60, e33_63, e33_64, e33_67, e33_68, e33_71, e33_73, e33_76, e33_78, e33_80, e33_81, e33_84, e33_86, e33_89, e33_92, e33_93, e33_96, e33_98, e33_99, e33_102, e33_104, e33_107, e33_108, e33_109, e33_112, e33_113, e33_116, e33_118, e33_119, e33_122, e33_124, e33_127, e33_128, e33_129, e33_132, e33_135, e33_138, e33_141, e33_144, eq_self, ne_a, ne_b, ne_c, Nat.reduceEqDiff, lt0, bnd_ok, psh_I, psh_L, psh_R, psh_U, gt_sr, gr_sr, sk_sr, nn_sr, ↓reduceIte, Int.toNat_natCast, Int.reduceToNat, gr_stw, gt_stw, d1, hc', r6, r9, a1, a2, a3, a6, a7, a8, hca, w1, w2, w3, hw, w4, w5, h2, n1]
      try rfl
    · rw [if_neg h2]
      refine ⟨vI ((r * C + k : Nat) : Int), vI (j : Int), vI (w j), (e33_24 _ _ _ _ _ _ _ _).trans ?_⟩
      simp (disch := first | (simp only [fok_stw]; assumption) | first | assumption | omega | (left; assumption) | (refine aok_mk ?_ ?_ ?_ <;> first | assumption | omega) | (simp only [fok_sr, aok_sr]; first | assumption | omega | (left; assumption) | (refine aok_mk ?_ ?_ ?_ <;> first | assumption | omega)) | (simp; done)) only [e33_0, e33_1, e33_4, e33_5, e33_8, e33_11, e33_12, e33_14, e33_15, e33_18, e33_21, e33_22, e33_26, e33_27, e33_30, e33_33, e33_34, e33_35, e33_38, e33_39, e33_41, e33_42, e33_44, e33_45, e33_46, e33_47, e33_48, e33_50, e33_51, e33_52, e33_55, e33_57, e33_59, e33_60, e33_63, e33_64, e33_67, e33_68, e33_71, e33_73, e33_76, e33_78, e33_80, e33_81, e33_84, e33_86, e33_89, e33_92, e33_93, e33_96, e33_98, e33_99, e33_102, e33_104, e33_107, e33_108, e33_109, e33_112, e33_113, e33_116, e33_118, e33_119, e33_122, e33_124, e33_127, e33_128, e33_129, e33_132, e33_135, e33_138, e33_141, e33_144, eq_self, ne_a, ne_b, ne_c, Nat.reduceEqDiff, lt0, bnd_ok, psh_I, psh_L, psh_R, psh_U, gt_sr, gr_sr, sk_sr, nn_sr, ↓reduceIte, Int.toNat_natCast, Int.reduceToNat, gr_stw, gt_stw, d1, hc', r6, r9, a1, a2, a3, a6, hca, w1, w2, w3, hw, h2, n1]
      try rfl
