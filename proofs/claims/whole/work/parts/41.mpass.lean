/-! THE MODEL: a shape stands, an hour passes -/
theorem smN_ge {f : Nat → Int} {n : Nat} (h : ∀ i, i < n → 0 ≤ f i) : ∀ m, m ≤ n → 0 ≤ smN f m := by
  intro m
  induction m with
  | zero => intro _; exact Int.le_refl _
  | succ m ih =>
    intro hm
    have := ih (by omega)
    have := h m (by omega)
    unfold smN
    omega
theorem smN_0 {f : Nat → Int} {n : Nat} (h : ∀ i, i < n → 0 ≤ f i) : smN f n = 0 ↔ ∀ i, i < n → f i = 0 := by
  induction n with
  | zero => exact ⟨fun _ i hi => absurd hi (Nat.not_lt_zero i), fun _ => rfl⟩
  | succ n ih =>
    have ih := ih (fun i hi => h i (by omega))
    have hn := h n (by omega)
    have hg : 0 ≤ smN f n := smN_ge h n (by omega)
    unfold smN
    constructor
    · intro e i hi
      have e1 : smN f n = 0 := by omega
      by_cases e2 : i = n
      · rw [e2]; omega
      · exact ih.mp e1 i (by omega)
    · intro e
      rw [ih.mpr (fun i hi => e i (by omega)), e n (by omega)]
      rfl
theorem cat_self {R C c : Nat} (hc : c < R * C) : cat R C ((c / C : Nat) : Int) ((c % C : Nat) : Int) = (c : Int) := by
  have hC : 0 < C := by
    rcases Nat.eq_zero_or_pos C with e | e
    · rw [e] at hc; omega
    · exact e
  have h1 : c / C < R := (Nat.div_lt_iff_lt_mul hC).mpr hc
  have h2 := Nat.mod_lt c hC
  have h3 := Nat.div_add_mod c C
  generalize c / C = U at *
  generalize c % C = V at *
  unfold cat
  rw [if_pos ⟨by omega, by omega, by omega, by omega⟩, ← Int.natCast_mul, ← Int.natCast_add, Nat.mul_comm, h3]
theorem alN_iff {p : Nat → Bool} {n : Nat} : alN p n = true ↔ ∀ i, i < n → p i = true := by
  refine ⟨alN_at, fun h => ?_⟩
  induction n with
  | zero => rfl
  | succ n ih =>
    unfold alN
    rw [ih (fun i hi => h i (by omega)), h n (by omega)]
    rfl
def stC (e : Dat) (s c : Nat) : Bool := decide (dwa e (s * 24 + c) < 0 ∨ (dwa e (s * 24 + c) - dsl e ≤ dt e c ∧ dt e c ≤ dwa e (s * 24 + c) + dsl e))
theorem ho_st {e : Dat} (ho : okd e) {s : Nat} (hs : s < 4) : hoD e s = alN (stC e s) 24 := by
  have h24 := dn24 ho
  have hacf : ∀ c, c < dR e * dC e → (0 ≤ acf (dR e) (dC e) (dt e) (dwa e) (dsl e) s 0 0 (c / dC e) (c % dC e)) ∧ (acf (dR e) (dC e) (dt e) (dwa e) (dsl e) s 0 0 (c / dC e) (c % dC e) = 0 ↔ stC e s c = true) := by
    intro c hc
    have h1 := cat_self (R := dR e) (C := dC e) (c := c) hc
    have h3 : c / dC e * dC e + c % dC e = c := by rw [Nat.mul_comm]; exact Nat.div_add_mod c (dC e)
    have h24' : c < 24 := by unfold dn_ at h24; omega
    have hw := ok_w ho (s * 24 + c) (by omega)
    have hsl := ho.2.2.1
    unfold acf stC
    rw [h3, Int.add_zero, Int.add_zero, h1]
    by_cases e1 : dwa e (s * 24 + c) = -1
    · rw [if_pos e1]
      exact ⟨Int.le_refl _, fun _ => decide_eq_true (by omega), fun _ => rfl⟩
    · rw [if_neg e1]
      unfold aca mx
      rw [if_neg (by omega), lv_N (by omega)]
      refine ⟨by split <;> (try split) <;> omega, ?_⟩
      rw [decide_eq_true_iff]
      split
      · omega
      · split <;> omega
  unfold hoD hol acs
  have hb : ∀ c, dn_ e ≤ c → c < 24 → stC e s c = true := by
    intro c h1 h2
    unfold stC
    exact decide_eq_true (Or.inl (by rw [ho.2.2.2.2.2.2.2.2.2.2.2.2.1 s c hs h1 h2]; decide))
  rw [Bool.eq_iff_iff, decide_eq_true_iff, alN_iff, smN_0 (fun c hc => (hacf c hc).1)]
  constructor
  · intro h c hc
    by_cases e1 : c < dR e * dC e
    · exact (hacf c e1).2.mp (h c e1)
    · exact hb c (by unfold dn_; omega) hc
  · intro h c hc
    exact (hacf c hc).2.mpr (h c (by unfold dn_ at h24; omega))
set_option maxRecDepth 100000 in
set_option maxHeartbeats 4000000 in
theorem m_standsNow {σ : St} {e : Dat} (h : nowR σ e) {s : Nat} (hs4 : s < 4) : run 111 0 [vR 24, vI (s : Int), vU, vU, vU] [] σ = some (vI (b2i (hoD e s)), σ) := by
  obtain ⟨⟨hs, -, -, -, hsl, hw⟩, hn, -, ho⟩ := h
  rw [ho_st ho hs4]
  have hwa := ok_w ho
  have hslb := ho.2.2.1
  have L : ∀ q, run 111 4 [vR 24, vI (s : Int), vI (b2i (alN (stC e s) 0)), vI 0, q] [] σ = some (vI (b2i (alN (stC e s) 24)), σ) := by
    refine bk (P := fun k z => ∀ q, run 111 4 [vR 24, vI (s : Int), vI (b2i (alN (stC e s) k)), vI z, q] [] σ = some (vI (b2i (alN (stC e s) 24)), σ)) (n := 24) ?_ ?_
    · intro q
      rw [e111_4]
      simp (disch := first | assumption | omega | (exact shp_fok (by first | assumption | exact shp_sr _ _ (by assumption) | exact shp_sr _ _ (shp_sr _ _ (by assumption)) | exact shp_sr _ _ (shp_sr _ _ (shp_sr _ _ (by assumption)))) (by decide)) | (simp only [fok_sr, aok_sr]; first | assumption | (exact shp_fok (by first | assumption | exact shp_sr _ _ (by assumption) | exact shp_sr _ _ (shp_sr _ _ (by assumption)) | exact shp_sr _ _ (shp_sr _ _ (shp_sr _ _ (by assumption)))) (by decide))) | (refine shp_aok (by first | assumption | exact shp_sr _ _ (by assumption) | exact shp_sr _ _ (shp_sr _ _ (by assumption)) | exact shp_sr _ _ (shp_sr _ _ (shp_sr _ _ (by assumption)))) rfl rfl ?_ ?_ <;> omega) | (exact shp_sr _ _ (by assumption)) | (exact shp_sr _ _ (shp_sr _ _ (by assumption))) | (exact shp_sr _ _ (shp_sr _ _ (shp_sr _ _ (by assumption)))) | (left; assumption) | (exact b2i_or _) | (simp; done)) only [e111_0, e111_1, e111_2, e111_3, e111_5, e111_7, e111_10, e111_11, e111_14, e111_16, e111_17, e111_18, e111_19, e111_20, e111_21, e111_23, e111_24, e111_27, e111_29, e111_32, e111_33, e111_36, e111_37, e111_38, e111_40, e111_41, e111_44, e111_45, e111_47, e111_48, e111_51, e111_52, e111_55, e111_58, e111_59, e111_62, e111_63, e111_64, e111_67, e111_70, e111_71, eq_self, ne_a, ne_b, ne_c, Nat.reduceEqDiff, lt0, bnd_ok, psh_I, psh_L, psh_R, psh_U, gt_sr, gr_sr, sk_sr, nn_sr, ↓reduceIte, Int.toNat_natCast, Int.reduceToNat, Int.cast_ofNat_Int, Int.reduceLT]
    · intro k hk hk' ih q
      have h4 : (k : Int) < 24 := hk'
      have w5 : wr ((k : Int) + 1) = (k : Int) + 1 := wr_id (by omega) (by omega)
      have w1 : wr (wr (24 * (s : Int)) + (k : Int)) = ((s * 24 + k : Nat) : Int) := by
        rw [wr_id (z := 24 * (s : Int)) (by omega) (by omega), wr_id (by omega) (by omega)]; omega
      have hv := hwa (s * 24 + k) (by omega)
      have w2 : wr (dwa e (s * 24 + k) - dsl e) = dwa e (s * 24 + k) - dsl e := wr_id (by omega) (by omega)
      have w3 : wr (dwa e (s * 24 + k) + dsl e) = dwa e (s * 24 + k) + dsl e := wr_id (by omega) (by omega)
      have e3 : alN (stC e s) (k + 1) = (alN (stC e s) k && stC e s k) := rfl
      have e4 : stC e s k = decide (dwa e (s * 24 + k) < 0 ∨ (dwa e (s * 24 + k) - dsl e ≤ dt e k ∧ dt e k ≤ dwa e (s * 24 + k) + dsl e)) := rfl
      rw [e3] at ih
      rw [e111_4]
      cases hx : alN (stC e s) k with
      | false =>
        rw [hx, Bool.false_and] at ih
        simp (disch := first | assumption | omega | (exact shp_fok (by first | assumption | exact shp_sr _ _ (by assumption) | exact shp_sr _ _ (shp_sr _ _ (by assumption)) | exact shp_sr _ _ (shp_sr _ _ (shp_sr _ _ (by assumption)))) (by decide)) | (simp only [fok_sr, aok_sr]; first | assumption | (exact shp_fok (by first | assumption | exact shp_sr _ _ (by assumption) | exact shp_sr _ _ (shp_sr _ _ (by assumption)) | exact shp_sr _ _ (shp_sr _ _ (shp_sr _ _ (by assumption)))) (by decide))) | (refine shp_aok (by first | assumption | exact shp_sr _ _ (by assumption) | exact shp_sr _ _ (shp_sr _ _ (by assumption)) | exact shp_sr _ _ (shp_sr _ _ (shp_sr _ _ (by assumption)))) rfl rfl ?_ ?_ <;> omega) | (exact shp_sr _ _ (by assumption)) | (exact shp_sr _ _ (shp_sr _ _ (by assumption))) | (exact shp_sr _ _ (shp_sr _ _ (shp_sr _ _ (by assumption)))) | (left; assumption) | (exact b2i_or _) | (simp; done)) only [e111_0, e111_1, e111_2, e111_3, e111_5, e111_7, e111_10, e111_11, e111_14, e111_16, e111_17, e111_18, e111_19, e111_20, e111_21, e111_23, e111_24, e111_27, e111_29, e111_32, e111_33, e111_36, e111_37, e111_38, e111_40, e111_41, e111_44, e111_45, e111_47, e111_48, e111_51, e111_52, e111_55, e111_58, e111_59, e111_62, e111_63, e111_64, e111_67, e111_70, e111_71, eq_self, ne_a, ne_b, ne_c, Nat.reduceEqDiff, lt0, bnd_ok, psh_I, psh_L, psh_R, psh_U, gt_sr, gr_sr, sk_sr, nn_sr, ↓reduceIte, Int.toNat_natCast, Int.reduceToNat, g24_6, hw, h4, w1, w5, b2i_f]
        exact ih _
      | true =>
        rw [hx, Bool.true_and, e4] at ih
        by_cases h5 : dwa e (s * 24 + k) < 0
        · rw [decide_eq_true (Or.inl h5)] at ih
          simp (disch := first | assumption | omega | (exact shp_fok (by first | assumption | exact shp_sr _ _ (by assumption) | exact shp_sr _ _ (shp_sr _ _ (by assumption)) | exact shp_sr _ _ (shp_sr _ _ (shp_sr _ _ (by assumption)))) (by decide)) | (simp only [fok_sr, aok_sr]; first | assumption | (exact shp_fok (by first | assumption | exact shp_sr _ _ (by assumption) | exact shp_sr _ _ (shp_sr _ _ (by assumption)) | exact shp_sr _ _ (shp_sr _ _ (shp_sr _ _ (by assumption)))) (by decide))) | (refine shp_aok (by first | assumption | exact shp_sr _ _ (by assumption) | exact shp_sr _ _ (shp_sr _ _ (by assumption)) | exact shp_sr _ _ (shp_sr _ _ (shp_sr _ _ (by assumption)))) rfl rfl ?_ ?_ <;> omega) | (exact shp_sr _ _ (by assumption)) | (exact shp_sr _ _ (shp_sr _ _ (by assumption))) | (exact shp_sr _ _ (shp_sr _ _ (shp_sr _ _ (by assumption)))) | (left; assumption) | (exact b2i_or _) | (simp; done)) only [e111_0, e111_1, e111_2, e111_3, e111_5, e111_7, e111_10, e111_11, e111_14, e111_16, e111_17, e111_18, e111_19, e111_20, e111_21, e111_23, e111_24, e111_27, e111_29, e111_32, e111_33, e111_36, e111_37, e111_38, e111_40, e111_41, e111_44, e111_45, e111_47, e111_48, e111_51, e111_52, e111_55, e111_58, e111_59, e111_62, e111_63, e111_64, e111_67, e111_70, e111_71, eq_self, ne_a, ne_b, ne_c, Nat.reduceEqDiff, lt0, bnd_ok, psh_I, psh_L, psh_R, psh_U, gt_sr, gr_sr, sk_sr, nn_sr, ↓reduceIte, Int.toNat_natCast, Int.reduceToNat, g24_6, hw, h4, w1, w5, b2i_t, h5, Int.reduceEq]
          exact ih _
        · by_cases h6 : dwa e (s * 24 + k) - dsl e ≤ dt e k ∧ dt e k ≤ dwa e (s * 24 + k) + dsl e
          · rw [decide_eq_true (Or.inr h6)] at ih
            simp (disch := first | assumption | omega | (exact shp_fok (by first | assumption | exact shp_sr _ _ (by assumption) | exact shp_sr _ _ (shp_sr _ _ (by assumption)) | exact shp_sr _ _ (shp_sr _ _ (shp_sr _ _ (by assumption)))) (by decide)) | (simp only [fok_sr, aok_sr]; first | assumption | (exact shp_fok (by first | assumption | exact shp_sr _ _ (by assumption) | exact shp_sr _ _ (shp_sr _ _ (by assumption)) | exact shp_sr _ _ (shp_sr _ _ (shp_sr _ _ (by assumption)))) (by decide))) | (refine shp_aok (by first | assumption | exact shp_sr _ _ (by assumption) | exact shp_sr _ _ (shp_sr _ _ (by assumption)) | exact shp_sr _ _ (shp_sr _ _ (shp_sr _ _ (by assumption)))) rfl rfl ?_ ?_ <;> omega) | (exact shp_sr _ _ (by assumption)) | (exact shp_sr _ _ (shp_sr _ _ (by assumption))) | (exact shp_sr _ _ (shp_sr _ _ (shp_sr _ _ (by assumption)))) | (left; assumption) | (exact b2i_or _) | (simp; done)) only [e111_0, e111_1, e111_2, e111_3, e111_5, e111_7, e111_10, e111_11, e111_14, e111_16, e111_17, e111_18, e111_19, e111_20, e111_21, e111_23, e111_24, e111_27, e111_29, e111_32, e111_33, e111_36, e111_37, e111_38, e111_40, e111_41, e111_44, e111_45, e111_47, e111_48, e111_51, e111_52, e111_55, e111_58, e111_59, e111_62, e111_63, e111_64, e111_67, e111_70, e111_71, eq_self, ne_a, ne_b, ne_c, Nat.reduceEqDiff, lt0, bnd_ok, psh_I, psh_L, psh_R, psh_U, gt_sr, gr_sr, sk_sr, nn_sr, ↓reduceIte, Int.toNat_natCast, Int.reduceToNat, g24_6, g24_11, hw, hn, hsl, h4, w1, w2, w3, w5, b2i_t, h5, m_in, if_pos h6, Int.reduceEq]
            exact ih _
          · rw [decide_eq_false (fun h => h.elim h5 h6)] at ih
            simp (disch := first | assumption | omega | (exact shp_fok (by first | assumption | exact shp_sr _ _ (by assumption) | exact shp_sr _ _ (shp_sr _ _ (by assumption)) | exact shp_sr _ _ (shp_sr _ _ (shp_sr _ _ (by assumption)))) (by decide)) | (simp only [fok_sr, aok_sr]; first | assumption | (exact shp_fok (by first | assumption | exact shp_sr _ _ (by assumption) | exact shp_sr _ _ (shp_sr _ _ (by assumption)) | exact shp_sr _ _ (shp_sr _ _ (shp_sr _ _ (by assumption)))) (by decide))) | (refine shp_aok (by first | assumption | exact shp_sr _ _ (by assumption) | exact shp_sr _ _ (shp_sr _ _ (by assumption)) | exact shp_sr _ _ (shp_sr _ _ (shp_sr _ _ (by assumption)))) rfl rfl ?_ ?_ <;> omega) | (exact shp_sr _ _ (by assumption)) | (exact shp_sr _ _ (shp_sr _ _ (by assumption))) | (exact shp_sr _ _ (shp_sr _ _ (shp_sr _ _ (by assumption)))) | (left; assumption) | (exact b2i_or _) | (simp; done)) only [e111_0, e111_1, e111_2, e111_3, e111_5, e111_7, e111_10, e111_11, e111_14, e111_16, e111_17, e111_18, e111_19, e111_20, e111_21, e111_23, e111_24, e111_27, e111_29, e111_32, e111_33, e111_36, e111_37, e111_38, e111_40, e111_41, e111_44, e111_45, e111_47, e111_48, e111_51, e111_52, e111_55, e111_58, e111_59, e111_62, e111_63, e111_64, e111_67, e111_70, e111_71, eq_self, ne_a, ne_b, ne_c, Nat.reduceEqDiff, lt0, bnd_ok, psh_I, psh_L, psh_R, psh_U, gt_sr, gr_sr, sk_sr, nn_sr, ↓reduceIte, Int.toNat_natCast, Int.reduceToNat, g24_6, g24_11, hw, hn, hsl, h4, w1, w2, w3, w5, b2i_t, h5, m_in, if_neg h6, Int.reduceEq]
            exact ih _
  simp (disch := first | assumption | omega | (exact shp_fok (by first | assumption | exact shp_sr _ _ (by assumption) | exact shp_sr _ _ (shp_sr _ _ (by assumption)) | exact shp_sr _ _ (shp_sr _ _ (shp_sr _ _ (by assumption)))) (by decide)) | (simp only [fok_sr, aok_sr]; first | assumption | (exact shp_fok (by first | assumption | exact shp_sr _ _ (by assumption) | exact shp_sr _ _ (shp_sr _ _ (by assumption)) | exact shp_sr _ _ (shp_sr _ _ (shp_sr _ _ (by assumption)))) (by decide))) | (refine shp_aok (by first | assumption | exact shp_sr _ _ (by assumption) | exact shp_sr _ _ (shp_sr _ _ (by assumption)) | exact shp_sr _ _ (shp_sr _ _ (shp_sr _ _ (by assumption)))) rfl rfl ?_ ?_ <;> omega) | (exact shp_sr _ _ (by assumption)) | (exact shp_sr _ _ (shp_sr _ _ (by assumption))) | (exact shp_sr _ _ (shp_sr _ _ (shp_sr _ _ (by assumption)))) | (left; assumption) | (exact b2i_or _) | (simp; done)) only [e111_0, e111_1, e111_2, e111_3, e111_5, e111_7, e111_10, e111_11, e111_14, e111_16, e111_17, e111_18, e111_19, e111_20, e111_21, e111_23, e111_24, e111_27, e111_29, e111_32, e111_33, e111_36, e111_37, e111_38, e111_40, e111_41, e111_44, e111_45, e111_47, e111_48, e111_51, e111_52, e111_55, e111_58, e111_59, e111_62, e111_63, e111_64, e111_67, e111_70, e111_71, eq_self, ne_a, ne_b, ne_c, Nat.reduceEqDiff, lt0, bnd_ok, psh_I, psh_L, psh_R, psh_U, gt_sr, gr_sr, sk_sr, nn_sr, ↓reduceIte, Int.toNat_natCast, Int.reduceToNat]
  exact L _
/-- what a cell loses, the first so many sides looked at -/
def lsW (R C : Nat) (la : Nat → Int) (c : Nat) : Nat → Int
  | 0 => if la c = 1 then 2 else 0
  | w + 1 => if lsW R C la c w = 0 ∧ lv la (bsd R C c (w : Int)) = 1 then 1 else lsW R C la c w
theorem lsW_4 {R C c : Nat} {la : Nat → Int} (hl : lam la) (hc : c < R * C) (h24 : R * C ≤ 24) : lsW R C la c 4 = mlt R C la c := by
  have h3 : c / C * C + c % C = c := by rw [Nat.mul_comm]; exact Nat.div_add_mod c C
  have k : ∀ z, lv la z = 0 ∨ lv la z = 1 := fun z => by have := lv_lam hl z; omega
  unfold mlt mrk nea
  rw [h3]
  have e0 : bsd R C c 0 = cat R C (((c / C : Nat) : Int) - 1) ((c % C : Nat) : Int) := by
    show cat R C (((c / C : Nat) : Int) + -1) (((c % C : Nat) : Int) + 0) = _
    rw [Int.add_zero]; rfl
  have e1 : bsd R C c 1 = cat R C ((c / C : Nat) : Int) (((c % C : Nat) : Int) + 1) := by
    show cat R C (((c / C : Nat) : Int) + 0) (((c % C : Nat) : Int) + 1) = _
    rw [Int.add_zero]
  have e2 : bsd R C c 2 = cat R C (((c / C : Nat) : Int) + 1) ((c % C : Nat) : Int) := by
    show cat R C (((c / C : Nat) : Int) + 1) (((c % C : Nat) : Int) + 0) = _
    rw [Int.add_zero]
  have e3 : bsd R C c 3 = cat R C ((c / C : Nat) : Int) (((c % C : Nat) : Int) - 1) := by
    show cat R C (((c / C : Nat) : Int) + 0) (((c % C : Nat) : Int) + -1) = _
    rw [Int.add_zero]; rfl
  show (if lsW R C la c 3 = 0 ∧ lv la (bsd R C c 3) = 1 then 1 else lsW R C la c 3) = _
  have q3 : lsW R C la c 3 = if lsW R C la c 2 = 0 ∧ lv la (bsd R C c 2) = 1 then 1 else lsW R C la c 2 := rfl
  have q2 : lsW R C la c 2 = if lsW R C la c 1 = 0 ∧ lv la (bsd R C c 1) = 1 then 1 else lsW R C la c 1 := rfl
  have q1 : lsW R C la c 1 = if lsW R C la c 0 = 0 ∧ lv la (bsd R C c 0) = 1 then 1 else lsW R C la c 0 := rfl
  have q0 : lsW R C la c 0 = if la c = 1 then 2 else 0 := rfl
  rw [q3, q2, q1, q0, e0, e1, e2, e3]
  have k0 := k (cat R C (((c / C : Nat) : Int) - 1) ((c % C : Nat) : Int))
  have k1 := k (cat R C ((c / C : Nat) : Int) (((c % C : Nat) : Int) + 1))
  have k2 := k (cat R C (((c / C : Nat) : Int) + 1) ((c % C : Nat) : Int))
  have k3 := k (cat R C ((c / C : Nat) : Int) (((c % C : Nat) : Int) - 1))
  generalize lv la (cat R C (((c / C : Nat) : Int) - 1) ((c % C : Nat) : Int)) = a0 at *
  generalize lv la (cat R C ((c / C : Nat) : Int) (((c % C : Nat) : Int) + 1)) = a1 at *
  generalize lv la (cat R C (((c / C : Nat) : Int) + 1) ((c % C : Nat) : Int)) = a2 at *
  generalize lv la (cat R C ((c / C : Nat) : Int) (((c % C : Nat) : Int) - 1)) = a3 at *
  clear e0 e1 e2 e3 q0 q1 q2 q3 k h3
  rcases k0 with rfl | rfl <;> rcases k1 with rfl | rfl <;> rcases k2 with rfl | rfl <;> rcases k3 with rfl | rfl <;> by_cases h : la c = 1 <;> simp [h]
theorem bsd_cases {R C : Nat} (h24 : R * C ≤ 24) (c : Nat) (s : Int) : (bsd R C c s = -1 ∧ mbs (bsd R C c s) = -6) ∨ ∃ j : Nat, j < R * C ∧ bsd R C c s = (j : Int) ∧ mbs (bsd R C c s) = (j : Int) := by
  have h := cat_cases R C (((c / C : Nat) : Int) + dnI s) (((c % C : Nat) : Int) + onI s) h24
  unfold bsd mbs
  rcases h with h | ⟨j, hj, h⟩
  · rw [h]; exact Or.inl ⟨rfl, rfl⟩
  · rw [h]; exact Or.inr ⟨j, hj, rfl, by rw [if_neg (by omega)]⟩
theorem lb_tb {la : Nat → Int} (hl : lam la) {n j : Nat} (hj : j < n) (hn : n ≤ 24) : b2i ((laB la n).testBit j) = la j := by
  unfold laB
  rw [bsN_tb]
  rcases hl j (by omega) with h | h
  · rw [h]; simp [b2i]
  · rw [h]; simp [b2i, hj]
theorem lb_lt {n : Nat} (hn : n ≤ 24) (la : Nat → Int) : laB la n < 2147483648 := by
  have := bsN_lt (fun c => decide (la c = 1)) n
  have := (pow24 hn).2
  unfold laB
  omega
/-- one turn of the model's third loop -/
def st3 (R C : Nat) (fe : Int) (h : Int) (w : Nat → Int) (c : Nat) (F : Nat → Int) : Nat → Int :=
  if h = 5 then F else if h = 4 then (if c % C = 0 then ru F c (mi9 (w c + fe)) else F) else brk R C (dnI h) (onI h) w (c / C) (c % C) F
def it3 (R C : Nat) (fe : Int) (h : Int) (w : Nat → Int) : Nat → (Nat → Int) → (Nat → Int)
  | 0, F => F
  | k + 1, F => st3 R C fe h w k (it3 R C fe h w k F)
theorem ru_cg {n c : Nat} {f g : Nat → Int} (h : ∀ i, i < n → f i = g i) (v u : Int) (huv : v = u) : ∀ i, i < n → ru f c v i = ru g c u i := by
  intro i hi
  unfold ru
  split
  · exact huv
  · exact h i hi
theorem brk_cg {R C : Nat} (h24 : R * C ≤ 24) {dn on : Int} {w : Nat → Int} {c : Nat} (hc : c < R * C) {F G : Nat → Int} (h : ∀ i, i < R * C → F i = G i) : ∀ i, i < R * C → brk R C dn on w (c / C) (c % C) F i = brk R C dn on w (c / C) (c % C) G i := by
  have h3 : c / C * C + c % C = c := by rw [Nat.mul_comm]; exact Nat.div_add_mod c C
  have hcc := cat_cases R C (((c / C : Nat) : Int) + dn) (((c % C : Nat) : Int) + on) h24
  unfold brk
  rw [h3]
  try dsimp only
  rcases hcc with e | ⟨j, hj, e⟩
  · rw [e, if_pos rfl, if_pos rfl]
    split
    · exact ru_cg h _ _ (by rw [h c hc])
    · exact h
  · rw [e]
    simp only [if_neg (show ¬ (j : Int) = -1 by omega), Int.toNat_natCast]
    split
    · have h1 := ru_cg (c := c) h (F c - 1) (G c - 1) (by rw [h c hc])
      exact ru_cg h1 _ _ (by rw [h1 j hj])
    · exact h
theorem it3_cg {R C : Nat} (h24 : R * C ≤ 24) (fe h : Int) (w : Nat → Int) {F G : Nat → Int} (hF : ∀ i, i < R * C → F i = G i) : ∀ k, k ≤ R * C → ∀ i, i < R * C → it3 R C fe h w k F i = it3 R C fe h w k G i
  | 0, _ => hF
  | k + 1, hk => by
    have ih := it3_cg h24 fe h w hF k (by omega)
    intro i hi
    unfold it3 st3
    split
    · exact ih i hi
    · split
      · split
        · exact ru_cg ih _ _ rfl i hi
        · exact ih i hi
      · exact brk_cg h24 (by omega) ih i hi
theorem it3_still (R C : Nat) (fe : Int) (w F : Nat → Int) : ∀ k, it3 R C fe 5 w k F = F
  | 0 => rfl
  | k + 1 => by unfold it3 st3; rw [if_pos rfl]; exact it3_still R C fe w F k
theorem it3_river (R C : Nat) (fe : Int) (w : Nat → Int) : ∀ k, it3 R C fe 4 w k w = riv k C fe w
  | 0 => by funext c; unfold it3 riv; rw [if_neg (by omega)]
  | k + 1 => by
    unfold it3 st3
    rw [if_neg (by decide), if_pos rfl, it3_river R C fe w k]
    funext c
    unfold riv ru
    by_cases e1 : k % C = 0
    · rw [if_pos e1]
      by_cases e2 : c = k
      · rw [if_pos e2, e2, if_pos ⟨by omega, e1⟩]
      · rw [if_neg e2]
        dsimp only
        by_cases e3 : c < k ∧ c % C = 0
        · rw [if_pos e3, if_pos ⟨by omega, e3.2⟩]
        · rw [if_neg e3, if_neg (fun h => e3 ⟨by omega, h.2⟩)]
    · rw [if_neg e1]
      by_cases e3 : c < k ∧ c % C = 0
      · rw [if_pos e3, if_pos ⟨by omega, e3.2⟩]
      · rw [if_neg e3]
        rw [if_neg]
        intro h
        by_cases e2 : c = k
        · rw [e2] at h; exact e1 h.2
        · exact e3 ⟨by omega, h.2⟩
theorem it3_blow (R C : Nat) (fe h : Int) (h4 : h ≠ 4) (h5 : h ≠ 5) (w : Nat → Int) (F : Nat → Int) : ∀ k, it3 R C fe h w k F = blo R C (dnI h) (onI h) w k F
  | 0 => rfl
  | k + 1 => by
    unfold it3 st3 blo
    rw [if_neg h5, if_neg h4, it3_blow R C fe h h4 h5 w F k]
theorem it3_psm {R C : Nat} (h24 : R * C ≤ 24) (fe h : Int) (m t : Nat → Int) {F : Nat → Int} (hF : ∀ i, i < R * C → F i = melt1 R C m t i) : ∀ i, i < R * C → it3 R C fe h (melt1 R C m t) (R * C) F i = psm R C fe m h t i := by
  intro i hi
  rw [it3_cg h24 fe h _ hF _ (Nat.le_refl _) i hi]
  unfold psm
  by_cases h4 : h = 4
  · subst h4
    rw [if_pos rfl, it3_river]
  · by_cases h5 : h = 5
    · subst h5
      rw [if_neg h4, if_pos rfl, it3_still]
    · rw [if_neg h4, if_neg h5, it3_blow _ _ _ _ h4 h5]
