/-! lamps: what they take -/
def lv (f : Nat → Int) (j : Int) : Int := if 0 ≤ j ∧ j < 24 then f j.toNat else 0
set_option maxRecDepth 100000 in
set_option maxHeartbeats 4000000 in
theorem c_at24 {σ : St} {k : Nat} (h : ia σ k 24) (j : Int) : run 10 0 [vR k, vI j] [] σ = some (vI (lv (gt σ k) j), σ) := c_at h j
set_option maxRecDepth 100000 in
set_option maxHeartbeats 4000000 in
theorem c_put24 {σ : St} {k : Nat} (h : ia σ k 24) {j : Nat} (hj : j < 24) (v : Int) : run 11 0 [vR k, vI (j : Int), vI v] [] σ = some (vU, sr σ k (ru (gt σ k) j v)) := c_putN h hj v
theorem lv_N {f : Nat → Int} {c : Nat} (h : c < 24) : lv f (c : Int) = f c := by unfold lv; rw [if_pos (by omega)]; rfl
def lam (f : Nat → Int) : Prop := ∀ c, c < 24 → f c = 0 ∨ f c = 1
theorem lv_lam {f : Nat → Int} (h : lam f) (j : Int) : 0 ≤ lv f j ∧ lv f j ≤ 1 := by
  unfold lv
  by_cases e : 0 ≤ j ∧ j < 24
  · rw [if_pos e]
    rcases h j.toNat (by omega) with h | h <;> rw [h] <;> omega
  · rw [if_neg e]; omega
def nea (R C : Nat) (la : Nat → Int) (r k : Int) : Int := lv la (cat R C (r - 1) k) + lv la (cat R C (r + 1) k) + lv la (cat R C r (k - 1)) + lv la (cat R C r (k + 1))
def mrk (R C : Nat) (la : Nat → Int) (r k : Nat) : Int := if la (r * C + k) = 1 then 2 else if 1 < nea R C la r k then 1 else nea R C la r k
def mlt (R C : Nat) (la : Nat → Int) (c : Nat) : Int := mrk R C la (c / C) (c % C)
theorem mlt_rk {R C : Nat} {la : Nat → Int} {r k : Nat} (hk : k < C) : mlt R C la (r * C + k) = mrk R C la r k := by
  unfold mlt
  have h1 : (r * C + k) / C = r := by
    rw [Nat.mul_comm, Nat.mul_add_div (by omega), Nat.div_eq_of_lt hk, Nat.add_zero]
  have h2 : (r * C + k) % C = k := by
    rw [Nat.mul_comm, Nat.mul_add_mod, Nat.mod_eq_of_lt hk]
  rw [h1, h2]
theorem rk_lt {r k R C : Nat} (hR : R * C ≤ 24) (hr : r < R) (hk : k < C) : r * C + k < R * C ∧ r * C + k < 24 ∧ r ≤ 100000 ∧ k ≤ 100000 := by
  have h1 : (r + 1) * C ≤ R * C := Nat.mul_le_mul_right _ (by omega)
  rw [Nat.add_mul] at h1
  have h2 : r + 1 ≤ (r + 1) * C := Nat.le_mul_of_pos_right _ (by omega)
  rw [Nat.add_mul] at h2
  omega
theorem wr_rk {r k R C : Nat} (hR : R * C ≤ 24) (hr : r < R) (hk : k < C) : wr (wr ((r : Int) * (C : Int)) + (k : Int)) = ((r * C + k : Nat) : Int) := by
  obtain ⟨h1, h2, -⟩ := rk_lt hR hr hk
  have e : (r : Int) * (C : Int) = ((r * C : Nat) : Int) := by rw [Int.natCast_mul]
  rw [e, wr_r (z := ((r * C : Nat) : Int)) (by omega) (by omega), wr_r (by omega) (by omega), Int.natCast_add]
theorem nea_wr {R C : Nat} {la : Nat → Int} (hl : lam la) (r k : Int) : wr (wr (wr (lv la (cat R C (r - 1) k) + lv la (cat R C (r + 1) k)) + lv la (cat R C r (k - 1))) + lv la (cat R C r (k + 1))) = nea R C la r k := by
  have n1 := lv_lam hl (cat R C (r - 1) k)
  have n2 := lv_lam hl (cat R C (r + 1) k)
  have n3 := lv_lam hl (cat R C r (k - 1))
  have n4 := lv_lam hl (cat R C r (k + 1))
  unfold nea
  rw [wr_r (z := lv la (cat R C (r - 1) k) + lv la (cat R C (r + 1) k)) (by omega) (by omega), wr_r (z := lv la (cat R C (r - 1) k) + lv la (cat R C (r + 1) k) + lv la (cat R C r (k - 1))) (by omega) (by omega), wr_r (by omega) (by omega)]
theorem dim_sr {σ : St} {b q R C : Nat} {F : Nat → Int} (h : dim σ b R C) (hq : b ≠ q) : dim (sr σ q F) b R C := by
  unfold dim
  rw [gt_sr, if_neg hq]
  exact h
set_option maxRecDepth 100000 in
set_option maxHeartbeats 4000000 in
theorem c_warmS {σ : St} {b R C r k : Nat} (hb : bsh σ b) (hd : dim σ b R C) (hl : lam (gt σ (b + 2))) (hr : r < R) (hk : k < C) (F : Nat → Int) (q3 q4 : AV) :
    run 13 12 [vR b, vI r, vI k, q3, q4] [] (sr σ (b + 3) F) = run 13 12 [vR b, vI r, vI ((k + 1 : Nat) : Int), vI ((r * C + k : Nat) : Int), vI (nea R C (gt σ (b + 2)) r k)] [] (sr σ (b + 3) (ru F (r * C + k) (mrk R C (gt σ (b + 2)) r k))) := by
  have hle := dim_le hd
  obtain ⟨hlt, hlt4, hr1, hk1⟩ := rk_lt hle hr hk
  have hc' : (k : Int) < (C : Int) := by omega
  have hw := wr_rk hle hr hk
  have w1 := wr_m hr1
  have w2 := wr_q hr1
  have w3 := wr_m hk1
  have w4 := wr_q hk1
  have w5 := wr_p hk1
  have hn := nea_wr (R := R) (C := C) hl (r : Int) (k : Int)
  have hca : ∀ (r k : Int), run 14 0 [vR b, vI r, vI k, vU] [] (sr σ (b + 3) F) = some (vI (cat R C r k), sr σ (b + 3) F) := fun r k => c_cellAt (σ := sr σ (b + 3) F) hb (dim_sr hd (by omega)) r k
  obtain ⟨hf, ⟨r6, r7, r8, r9, r10, r11, r12⟩, i1, i2, i3, i4, i5, i6, i7⟩ := hb
  obtain ⟨d0, d1, -⟩ := hd
  have hat : ∀ (j : Int), run 10 0 [vR (b + 2), vI j] [] (sr σ (b + 3) F) = some (vI (lv (gt σ (b + 2)) j), sr σ (b + 3) F) := fun j => by
    have := c_at24 (σ := sr σ (b + 3) F) (k := b + 2) i2 j
    rwa [gt_sr, if_neg (by omega)] at this
  have hv := lv_N (f := gt σ (b + 2)) hlt4
  have hfin : run 11 0 [vR (b + 3), vI ((r * C + k : Nat) : Int), vI (mrk R C (gt σ (b + 2)) r k)] [] (sr σ (b + 3) F) = some (vU, sr σ (b + 3) (ru F (r * C + k) (mrk R C (gt σ (b + 2)) r k))) := by
    have := c_put24 (σ := sr σ (b + 3) F) (k := b + 3) i3 hlt4 (mrk R C (gt σ (b + 2)) r k)
    rwa [gt_sr, if_pos rfl, sr_sr] at this
  clear hlt hr1 hk1 hle hl hr hk
  rw [e13_12]
  by_cases h1 : gt σ (b + 2) (r * C + k) = 1
  · have hm : (2 : Int) = mrk R C (gt σ (b + 2)) r k := by unfold mrk; rw [if_pos h1]
    simp (disch := first | assumption | omega | (left; assumption) | (refine aok_mk ?_ ?_ ?_ <;> first | assumption | omega) | (simp only [fok_sr, aok_sr]; first | assumption | omega | (left; assumption) | (refine aok_mk ?_ ?_ ?_ <;> first | assumption | omega)) | (simp; done)) only [e13_0, e13_1, e13_3, e13_4, e13_7, e13_10, e13_11, e13_13, e13_14, e13_17, e13_20, e13_21, e13_22, e13_25, e13_26, e13_27, e13_28, e13_29, e13_30, e13_33, e13_34, e13_35, e13_36, e13_37, e13_38, e13_41, e13_44, e13_45, e13_48, e13_49, e13_50, e13_51, e13_52, e13_53, e13_56, e13_59, e13_60, e13_61, e13_64, e13_65, e13_66, e13_67, e13_68, e13_69, e13_72, e13_75, e13_76, e13_77, e13_80, e13_81, e13_82, e13_83, e13_84, e13_85, e13_88, e13_91, e13_92, e13_94, e13_95, e13_98, e13_99, e13_100, e13_103, e13_104, e13_107, e13_108, e13_111, e13_117, e13_118, e13_121, e13_124, e13_127, e13_130, e13_133, e13_136, eq_self, ne_a, ne_b, ne_c, Nat.reduceEqDiff, lt0, bnd_ok, psh_I, psh_L, psh_R, psh_U, gt_sr, gr_sr, sk_sr, nn_sr, ↓reduceIte, Int.toNat_natCast, Int.reduceToNat, d0, d1, hc', r7, r8, hw, hca, hat, w1, w2, w3, w4, hn, hv, h1]
    rw [e13_112, hm]
    simp (disch := first | assumption | omega | (left; assumption) | (refine aok_mk ?_ ?_ ?_ <;> first | assumption | omega) | (simp only [fok_sr, aok_sr]; first | assumption | omega | (left; assumption) | (refine aok_mk ?_ ?_ ?_ <;> first | assumption | omega)) | (simp; done)) only [e13_0, e13_1, e13_3, e13_4, e13_7, e13_10, e13_11, e13_13, e13_14, e13_17, e13_20, e13_21, e13_22, e13_25, e13_26, e13_27, e13_28, e13_29, e13_30, e13_33, e13_34, e13_35, e13_36, e13_37, e13_38, e13_41, e13_44, e13_45, e13_48, e13_49, e13_50, e13_51, e13_52, e13_53, e13_56, e13_59, e13_60, e13_61, e13_64, e13_65, e13_66, e13_67, e13_68, e13_69, e13_72, e13_75, e13_76, e13_77, e13_80, e13_81, e13_82, e13_83, e13_84, e13_85, e13_88, e13_91, e13_92, e13_94, e13_95, e13_98, e13_99, e13_100, e13_103, e13_104, e13_107, e13_108, e13_111, e13_112, e13_115, e13_117, e13_118, e13_121, e13_124, e13_127, e13_133, e13_136, eq_self, ne_a, ne_b, ne_c, Nat.reduceEqDiff, lt0, bnd_ok, psh_I, psh_L, psh_R, psh_U, gt_sr, gr_sr, sk_sr, nn_sr, ↓reduceIte, Int.toNat_natCast, Int.reduceToNat, hfin, w5]
  · have hm : (if 1 < nea R C (gt σ (b + 2)) r k then 1 else nea R C (gt σ (b + 2)) r k) = mrk R C (gt σ (b + 2)) r k := by unfold mrk; rw [if_neg h1]
    simp (disch := first | assumption | omega | (left; assumption) | (refine aok_mk ?_ ?_ ?_ <;> first | assumption | omega) | (simp only [fok_sr, aok_sr]; first | assumption | omega | (left; assumption) | (refine aok_mk ?_ ?_ ?_ <;> first | assumption | omega)) | (simp; done)) only [e13_0, e13_1, e13_3, e13_4, e13_7, e13_10, e13_11, e13_13, e13_14, e13_17, e13_20, e13_21, e13_22, e13_25, e13_26, e13_27, e13_28, e13_29, e13_30, e13_33, e13_34, e13_35, e13_36, e13_37, e13_38, e13_41, e13_44, e13_45, e13_48, e13_49, e13_50, e13_51, e13_52, e13_53, e13_56, e13_59, e13_60, e13_61, e13_64, e13_65, e13_66, e13_67, e13_68, e13_69, e13_72, e13_75, e13_76, e13_77, e13_80, e13_81, e13_82, e13_83, e13_84, e13_85, e13_88, e13_91, e13_92, e13_94, e13_95, e13_98, e13_99, e13_100, e13_103, e13_104, e13_107, e13_108, e13_111, e13_112, e13_115, e13_117, e13_121, e13_124, e13_127, e13_133, e13_136, eq_self, ne_a, ne_b, ne_c, Nat.reduceEqDiff, lt0, bnd_ok, psh_I, psh_L, psh_R, psh_U, gt_sr, gr_sr, sk_sr, nn_sr, ↓reduceIte, Int.toNat_natCast, Int.reduceToNat, d0, d1, hc', r7, r8, hw, hca, hat, w1, w2, w3, w4, hn, hv, h1]
    rw [e13_118 _ _ _ _ _ (by simp), hm]
    simp (disch := first | assumption | omega | (left; assumption) | (refine aok_mk ?_ ?_ ?_ <;> first | assumption | omega) | (simp only [fok_sr, aok_sr]; first | assumption | omega | (left; assumption) | (refine aok_mk ?_ ?_ ?_ <;> first | assumption | omega)) | (simp; done)) only [e13_0, e13_1, e13_3, e13_4, e13_7, e13_10, e13_11, e13_13, e13_14, e13_17, e13_20, e13_21, e13_22, e13_25, e13_26, e13_27, e13_28, e13_29, e13_30, e13_33, e13_34, e13_35, e13_36, e13_37, e13_38, e13_41, e13_44, e13_45, e13_48, e13_49, e13_50, e13_51, e13_52, e13_53, e13_56, e13_59, e13_60, e13_61, e13_64, e13_65, e13_66, e13_67, e13_68, e13_69, e13_72, e13_75, e13_76, e13_77, e13_80, e13_81, e13_82, e13_83, e13_84, e13_85, e13_88, e13_91, e13_92, e13_94, e13_95, e13_98, e13_99, e13_100, e13_103, e13_104, e13_107, e13_108, e13_111, e13_112, e13_115, e13_117, e13_118, e13_121, e13_124, e13_127, e13_133, e13_136, eq_self, ne_a, ne_b, ne_c, Nat.reduceEqDiff, lt0, bnd_ok, psh_I, psh_L, psh_R, psh_U, gt_sr, gr_sr, sk_sr, nn_sr, ↓reduceIte, Int.toNat_natCast, Int.reduceToNat, hfin, w5]
/-- a row of which the first n places are new -/
def upto (n : Nat) (f g : Nat → Int) : Nat → Int := fun i => if i < n then f i else g i
theorem upto_0 (f g : Nat → Int) : upto 0 f g = g := by funext i; unfold upto; rw [if_neg (by omega)]
theorem upto_s (n : Nat) (f g : Nat → Int) (v : Int) (h : v = f n) : ru (upto n f g) n v = upto (n + 1) f g := by subst h; exact ru_lt f g n
set_option maxRecDepth 100000 in
set_option maxHeartbeats 4000000 in
theorem c_warm {σ : St} {b R C : Nat} (hb : bsh σ b) (hd : dim σ b R C) (hl : lam (gt σ (b + 2))) : run 13 0 [vR b, vU, vU, vU, vU] [] σ = some (vU, sr σ (b + 3) (upto (R * C) (mlt R C (gt σ (b + 2))) (gt σ (b + 3)))) := by
  have hle := dim_le hd
  have stp9 := fun (r k : Nat) (hr : r < R) (hk : k < C) => c_warmS (σ := σ) hb hd hl hr hk
  obtain ⟨hf, -⟩ := hb
  obtain ⟨d0, d1, d2, hR1, hR4, hC1, hC6⟩ := hd
  generalize hG : upto (R * C) (mlt R C (gt σ (b + 2))) (gt σ (b + 3)) = G
  have inner : ∀ (r : Nat), r < R → ∀ (X : Res), (∀ q3 q4, run 13 130 [vR b, vI r, vI C, q3, q4] [] (sr σ (b + 3) (upto (r * C + C) (mlt R C (gt σ (b + 2))) (gt σ (b + 3)))) = X) → ∀ (m k : Nat), k + m = C → ∀ q3 q4, run 13 12 [vR b, vI r, vI k, q3, q4] [] (sr σ (b + 3) (upto (r * C + k) (mlt R C (gt σ (b + 2))) (gt σ (b + 3)))) = X := by
    intro r hr X hX m
    induction m with
    | zero =>
      intro k hk q3 q4
      have hc' : ¬ (k : Int) < (C : Int) := by omega
      rw [e13_12]
      simp (disch := first | assumption | omega | (left; assumption) | (refine aok_mk ?_ ?_ ?_ <;> first | assumption | omega) | (simp only [fok_sr, aok_sr]; first | assumption | omega | (left; assumption) | (refine aok_mk ?_ ?_ ?_ <;> first | assumption | omega)) | (simp; done)) only [e13_0, e13_1, e13_3, e13_4, e13_7, e13_10, e13_11, e13_13, e13_14, e13_17, e13_20, e13_21, e13_22, e13_25, e13_26, e13_27, e13_28, e13_29, e13_30, e13_33, e13_34, e13_35, e13_36, e13_37, e13_38, e13_41, e13_44, e13_45, e13_48, e13_49, e13_50, e13_51, e13_52, e13_53, e13_56, e13_59, e13_60, e13_61, e13_64, e13_65, e13_66, e13_67, e13_68, e13_69, e13_72, e13_75, e13_76, e13_77, e13_80, e13_81, e13_82, e13_83, e13_84, e13_85, e13_88, e13_91, e13_92, e13_94, e13_95, e13_98, e13_99, e13_100, e13_103, e13_104, e13_107, e13_108, e13_111, e13_112, e13_115, e13_117, e13_118, e13_121, e13_124, e13_127, e13_133, e13_136, eq_self, ne_a, ne_b, ne_c, Nat.reduceEqDiff, lt0, bnd_ok, psh_I, psh_L, psh_R, psh_U, gt_sr, gr_sr, sk_sr, nn_sr, ↓reduceIte, Int.toNat_natCast, Int.reduceToNat, d1, hc']
      rw [show k = C by omega]
      exact hX _ _
    | succ m ih =>
      intro k hk q3 q4
      rw [stp9 r k hr (by omega), upto_s _ _ _ _ (mlt_rk (by omega)).symm]
      exact ih (k + 1) (by omega) _ _
  have outer : ∀ (m r : Nat), r + m = R → ∀ q2 q3 q4, run 13 2 [vR b, vI r, q2, q3, q4] [] (sr σ (b + 3) (upto (r * C) (mlt R C (gt σ (b + 2))) (gt σ (b + 3)))) = some (vU, sr σ (b + 3) G) := by
    intro m
    induction m with
    | zero =>
      intro r hr q2 q3 q4
      have hc' : ¬ (r : Int) < (R : Int) := by omega
      rw [e13_2]
      simp (disch := first | assumption | omega | (left; assumption) | (refine aok_mk ?_ ?_ ?_ <;> first | assumption | omega) | (simp only [fok_sr, aok_sr]; first | assumption | omega | (left; assumption) | (refine aok_mk ?_ ?_ ?_ <;> first | assumption | omega)) | (simp; done)) only [e13_0, e13_1, e13_3, e13_4, e13_7, e13_10, e13_11, e13_13, e13_14, e13_17, e13_20, e13_21, e13_22, e13_25, e13_26, e13_27, e13_28, e13_29, e13_30, e13_33, e13_34, e13_35, e13_36, e13_37, e13_38, e13_41, e13_44, e13_45, e13_48, e13_49, e13_50, e13_51, e13_52, e13_53, e13_56, e13_59, e13_60, e13_61, e13_64, e13_65, e13_66, e13_67, e13_68, e13_69, e13_72, e13_75, e13_76, e13_77, e13_80, e13_81, e13_82, e13_83, e13_84, e13_85, e13_88, e13_91, e13_92, e13_94, e13_95, e13_98, e13_99, e13_100, e13_103, e13_104, e13_107, e13_108, e13_111, e13_112, e13_115, e13_117, e13_118, e13_121, e13_124, e13_127, e13_130, e13_133, e13_136, eq_self, ne_a, ne_b, ne_c, Nat.reduceEqDiff, lt0, bnd_ok, psh_I, psh_L, psh_R, psh_U, gt_sr, gr_sr, sk_sr, nn_sr, ↓reduceIte, Int.toNat_natCast, Int.reduceToNat, d0, hc']
      rw [← hG, show r = R by omega]
    | succ m ih =>
      intro r hr q2 q3 q4
      have hc' : (r : Int) < (R : Int) := by omega
      have w1 := wr_p (show r ≤ 100000 by omega)
      rw [e13_2]
      simp (disch := first | assumption | omega | (left; assumption) | (refine aok_mk ?_ ?_ ?_ <;> first | assumption | omega) | (simp only [fok_sr, aok_sr]; first | assumption | omega | (left; assumption) | (refine aok_mk ?_ ?_ ?_ <;> first | assumption | omega)) | (simp; done)) only [e13_0, e13_1, e13_3, e13_4, e13_7, e13_10, e13_11, e13_13, e13_14, e13_17, e13_20, e13_21, e13_22, e13_25, e13_26, e13_27, e13_28, e13_29, e13_30, e13_33, e13_34, e13_35, e13_36, e13_37, e13_38, e13_41, e13_44, e13_45, e13_48, e13_49, e13_50, e13_51, e13_52, e13_53, e13_56, e13_59, e13_60, e13_61, e13_64, e13_65, e13_66, e13_67, e13_68, e13_69, e13_72, e13_75, e13_76, e13_77, e13_80, e13_81, e13_82, e13_83, e13_84, e13_85, e13_88, e13_91, e13_92, e13_94, e13_95, e13_98, e13_99, e13_100, e13_103, e13_104, e13_107, e13_108, e13_111, e13_112, e13_115, e13_117, e13_118, e13_121, e13_124, e13_127, e13_130, e13_133, e13_136, eq_self, ne_a, ne_b, ne_c, Nat.reduceEqDiff, lt0, bnd_ok, psh_I, psh_L, psh_R, psh_U, gt_sr, gr_sr, sk_sr, nn_sr, ↓reduceIte, Int.toNat_natCast, Int.reduceToNat, d0, hc']
      refine inner r (by omega) _ (fun q3 q4 => ?_) C 0 (by omega) q3 q4
      have hih := ih (r + 1) (by omega) (vI C) q3 q4
      rw [Nat.add_mul, Nat.one_mul] at hih
      simp (disch := first | assumption | omega | (left; assumption) | (refine aok_mk ?_ ?_ ?_ <;> first | assumption | omega) | (simp only [fok_sr, aok_sr]; first | assumption | omega | (left; assumption) | (refine aok_mk ?_ ?_ ?_ <;> first | assumption | omega)) | (simp; done)) only [e13_0, e13_1, e13_3, e13_4, e13_7, e13_10, e13_11, e13_13, e13_14, e13_17, e13_20, e13_21, e13_22, e13_25, e13_26, e13_27, e13_28, e13_29, e13_30, e13_33, e13_34, e13_35, e13_36, e13_37, e13_38, e13_41, e13_44, e13_45, e13_48, e13_49, e13_50, e13_51, e13_52, e13_53, e13_56, e13_59, e13_60, e13_61, e13_64, e13_65, e13_66, e13_67, e13_68, e13_69, e13_72, e13_75, e13_76, e13_77, e13_80, e13_81, e13_82, e13_83, e13_84, e13_85, e13_88, e13_91, e13_92, e13_94, e13_95, e13_98, e13_99, e13_100, e13_103, e13_104, e13_107, e13_108, e13_111, e13_112, e13_115, e13_117, e13_118, e13_121, e13_124, e13_127, e13_130, e13_133, e13_136, eq_self, ne_a, ne_b, ne_c, Nat.reduceEqDiff, lt0, bnd_ok, psh_I, psh_L, psh_R, psh_U, gt_sr, gr_sr, sk_sr, nn_sr, ↓reduceIte, Int.toNat_natCast, Int.reduceToNat, w1]
      exact hih
  have h0 := outer R 0 (by omega) vU vU vU
  rw [Nat.zero_mul, upto_0, sr_self σ (b + 3) _ rfl] at h0
  simp (disch := first | assumption | omega | (left; assumption) | (refine aok_mk ?_ ?_ ?_ <;> first | assumption | omega) | (simp only [fok_sr, aok_sr]; first | assumption | omega | (left; assumption) | (refine aok_mk ?_ ?_ ?_ <;> first | assumption | omega)) | (simp; done)) only [e13_0, e13_1, e13_3, e13_4, e13_7, e13_10, e13_11, e13_13, e13_14, e13_17, e13_20, e13_21, e13_22, e13_25, e13_26, e13_27, e13_28, e13_29, e13_30, e13_33, e13_34, e13_35, e13_36, e13_37, e13_38, e13_41, e13_44, e13_45, e13_48, e13_49, e13_50, e13_51, e13_52, e13_53, e13_56, e13_59, e13_60, e13_61, e13_64, e13_65, e13_66, e13_67, e13_68, e13_69, e13_72, e13_75, e13_76, e13_77, e13_80, e13_81, e13_82, e13_83, e13_84, e13_85, e13_88, e13_91, e13_92, e13_94, e13_95, e13_98, e13_99, e13_100, e13_103, e13_104, e13_107, e13_108, e13_111, e13_112, e13_115, e13_117, e13_118, e13_121, e13_124, e13_127, e13_130, e13_133, e13_136, eq_self, ne_a, ne_b, ne_c, Nat.reduceEqDiff, lt0, bnd_ok, psh_I, psh_L, psh_R, psh_U, gt_sr, gr_sr, sk_sr, nn_sr, ↓reduceIte, Int.toNat_natCast, Int.reduceToNat]
  exact h0
