/-! THE MODEL's calls: through, carved, moved, apart, crews, sights, told -/
set_option maxRecDepth 100000 in
set_option maxHeartbeats 4000000 in
theorem m_Mthrough (d : Dat) (cn : Nat) (sg : Nat → Int) : mla 119 [vR 24, vU, vU, vU, vU] d cn sg (vI (x_thr d : Nat)) d cn sg := by
  intro σ h
  obtain ⟨⟨a1, d0, d1, -⟩, a2, a3, a4, a5, a6, a7, a8, a9, a10⟩ := id h
  refine ⟨σ, ?_, mdl_rf h⟩
  have hC := a9.1
  have hle : dR d * dC d ≤ 24 := dn24 a9
  clear h a2 a3 a4 a6 a7 a8 a9 a10
  have inner : ∀ (r : Nat), r < dR d → ∀ (B : Int), run 119 17 [vR 24, vI B, vI (r : Int), vI (b2i (alN (fun k => decide (dt d (r * dC d + k) = 0)) 0)), vI 0] [] σ = run 119 59 [vR 24, vI B, vI (r : Int), vI (b2i (thR d r)), vI (dC d : Int)] [] σ := by
    intro r hr B
    refine bk (P := fun k z => run 119 17 [vR 24, vI B, vI (r : Int), vI (b2i (alN (fun k => decide (dt d (r * dC d + k) = 0)) k)), vI z] [] σ = run 119 59 [vR 24, vI B, vI (r : Int), vI (b2i (thR d r)), vI (dC d : Int)] [] σ) (n := dC d) ?_ ?_
    · have h4 : ¬ ((dC d : Nat) : Int) < (dC d : Int) := by omega
      rw [e119_17]
      simp (disch := first | assumption | omega | (exact shp_fok (by first | assumption | exact shp_sr _ _ (by assumption) | exact shp_sr _ _ (shp_sr _ _ (by assumption)) | exact shp_sr _ _ (shp_sr _ _ (shp_sr _ _ (by assumption)))) (by decide)) | (simp only [fok_sr, aok_sr]; first | assumption | (exact shp_fok (by first | assumption | exact shp_sr _ _ (by assumption) | exact shp_sr _ _ (shp_sr _ _ (by assumption)) | exact shp_sr _ _ (shp_sr _ _ (shp_sr _ _ (by assumption)))) (by decide))) | (refine shp_aok (by first | assumption | exact shp_sr _ _ (by assumption) | exact shp_sr _ _ (shp_sr _ _ (by assumption)) | exact shp_sr _ _ (shp_sr _ _ (shp_sr _ _ (by assumption)))) rfl rfl ?_ ?_ <;> omega) | (exact shp_sr _ _ (by assumption)) | (exact shp_sr _ _ (shp_sr _ _ (by assumption))) | (exact shp_sr _ _ (shp_sr _ _ (shp_sr _ _ (by assumption)))) | (left; assumption) | (exact b2i_or _) | (simp; done)) only [e119_19, e119_20, e119_23, eq_self, ne_a, ne_b, ne_c, Nat.reduceEqDiff, lt0, bnd_ok, psh_I, psh_L, psh_R, psh_U, gt_sr, gr_sr, sk_sr, nn_sr, ↓reduceIte, Int.toNat_natCast, Int.reduceToNat, d1, h4]
      rfl
    · intro k hk hk' ih
      obtain ⟨hlt, hlt4, hr1, hk1⟩ := rk_lt hle hr hk
      have hw := wr_rk hle hr hk
      have w5 : wr ((k : Int) + 1) = (k : Int) + 1 := wr_id (by omega) (by omega)
      have e3 : ∀ p, alN p (k + 1) = (alN p k && p k) := fun p => rfl
      rw [e3] at ih
      rw [e119_17]
      cases hx : alN (fun k => decide (dt d (r * dC d + k) = 0)) k with
      | false =>
        rw [hx, Bool.false_and] at ih
        simp (disch := first | assumption | omega | (exact shp_fok (by first | assumption | exact shp_sr _ _ (by assumption) | exact shp_sr _ _ (shp_sr _ _ (by assumption)) | exact shp_sr _ _ (shp_sr _ _ (shp_sr _ _ (by assumption)))) (by decide)) | (simp only [fok_sr, aok_sr]; first | assumption | (exact shp_fok (by first | assumption | exact shp_sr _ _ (by assumption) | exact shp_sr _ _ (shp_sr _ _ (by assumption)) | exact shp_sr _ _ (shp_sr _ _ (shp_sr _ _ (by assumption)))) (by decide))) | (refine shp_aok (by first | assumption | exact shp_sr _ _ (by assumption) | exact shp_sr _ _ (shp_sr _ _ (by assumption)) | exact shp_sr _ _ (shp_sr _ _ (shp_sr _ _ (by assumption)))) rfl rfl ?_ ?_ <;> omega) | (exact shp_sr _ _ (by assumption)) | (exact shp_sr _ _ (shp_sr _ _ (by assumption))) | (exact shp_sr _ _ (shp_sr _ _ (shp_sr _ _ (by assumption)))) | (left; assumption) | (exact b2i_or _) | (simp; done)) only [e119_19, e119_20, e119_23, e119_26, e119_27, e119_30, e119_31, e119_34, e119_35, e119_36, e119_39, e119_40, e119_42, e119_43, e119_44, e119_47, e119_48, e119_51, e119_52, e119_53, e119_56, eq_self, ne_a, ne_b, ne_c, Nat.reduceEqDiff, lt0, bnd_ok, psh_I, psh_L, psh_R, psh_U, gt_sr, gr_sr, sk_sr, nn_sr, ↓reduceIte, Int.toNat_natCast, Int.reduceToNat, d1, hk', b2i_f, w5] at ih ⊢
        exact ih
      | true =>
        rw [hx, Bool.true_and] at ih
        by_cases h0 : dt d (r * dC d + k) = 0
        · rw [decide_eq_true h0] at ih
          simp (disch := first | assumption | omega | (exact shp_fok (by first | assumption | exact shp_sr _ _ (by assumption) | exact shp_sr _ _ (shp_sr _ _ (by assumption)) | exact shp_sr _ _ (shp_sr _ _ (shp_sr _ _ (by assumption)))) (by decide)) | (simp only [fok_sr, aok_sr]; first | assumption | (exact shp_fok (by first | assumption | exact shp_sr _ _ (by assumption) | exact shp_sr _ _ (shp_sr _ _ (by assumption)) | exact shp_sr _ _ (shp_sr _ _ (shp_sr _ _ (by assumption)))) (by decide))) | (refine shp_aok (by first | assumption | exact shp_sr _ _ (by assumption) | exact shp_sr _ _ (shp_sr _ _ (by assumption)) | exact shp_sr _ _ (shp_sr _ _ (shp_sr _ _ (by assumption)))) rfl rfl ?_ ?_ <;> omega) | (exact shp_sr _ _ (by assumption)) | (exact shp_sr _ _ (shp_sr _ _ (by assumption))) | (exact shp_sr _ _ (shp_sr _ _ (shp_sr _ _ (by assumption)))) | (left; assumption) | (exact b2i_or _) | (simp; done)) only [e119_19, e119_20, e119_23, e119_26, e119_27, e119_30, e119_31, e119_34, e119_35, e119_36, e119_39, e119_40, e119_42, e119_43, e119_44, e119_47, e119_48, e119_51, e119_52, e119_53, e119_56, eq_self, ne_a, ne_b, ne_c, Nat.reduceEqDiff, lt0, bnd_ok, psh_I, psh_L, psh_R, psh_U, gt_sr, gr_sr, sk_sr, nn_sr, ↓reduceIte, Int.toNat_natCast, Int.reduceToNat, g24_2, d1, hk', b2i_t, hw, a5, h0, w5, Int.reduceEq] at ih ⊢
          exact ih
        · rw [decide_eq_false h0] at ih
          simp (disch := first | assumption | omega | (exact shp_fok (by first | assumption | exact shp_sr _ _ (by assumption) | exact shp_sr _ _ (shp_sr _ _ (by assumption)) | exact shp_sr _ _ (shp_sr _ _ (shp_sr _ _ (by assumption)))) (by decide)) | (simp only [fok_sr, aok_sr]; first | assumption | (exact shp_fok (by first | assumption | exact shp_sr _ _ (by assumption) | exact shp_sr _ _ (shp_sr _ _ (by assumption)) | exact shp_sr _ _ (shp_sr _ _ (shp_sr _ _ (by assumption)))) (by decide))) | (refine shp_aok (by first | assumption | exact shp_sr _ _ (by assumption) | exact shp_sr _ _ (shp_sr _ _ (by assumption)) | exact shp_sr _ _ (shp_sr _ _ (shp_sr _ _ (by assumption)))) rfl rfl ?_ ?_ <;> omega) | (exact shp_sr _ _ (by assumption)) | (exact shp_sr _ _ (shp_sr _ _ (by assumption))) | (exact shp_sr _ _ (shp_sr _ _ (shp_sr _ _ (by assumption)))) | (left; assumption) | (exact b2i_or _) | (simp; done)) only [e119_19, e119_20, e119_23, e119_26, e119_27, e119_30, e119_31, e119_34, e119_35, e119_36, e119_39, e119_40, e119_42, e119_43, e119_44, e119_47, e119_48, e119_51, e119_52, e119_53, e119_56, eq_self, ne_a, ne_b, ne_c, Nat.reduceEqDiff, lt0, bnd_ok, psh_I, psh_L, psh_R, psh_U, gt_sr, gr_sr, sk_sr, nn_sr, ↓reduceIte, Int.toNat_natCast, Int.reduceToNat, g24_2, d1, hk', b2i_t, b2i_f, hw, a5, h0, w5, Int.reduceEq] at ih ⊢
          exact ih
  have L : ∀ q3 q4, run 119 4 [vR 24, vI (bsN (thR d) 0 : Nat), vI 0, q3, q4] [] σ = some (vI (x_thr d : Nat), σ) := by
    refine bk (P := fun k z => ∀ q3 q4, run 119 4 [vR 24, vI (bsN (thR d) k : Nat), vI z, q3, q4] [] σ = some (vI (x_thr d : Nat), σ)) (n := dR d) ?_ ?_
    · intro q3 q4
      have h4 : ¬ ((dR d : Nat) : Int) < (dR d : Int) := by omega
      rw [e119_4]
      simp (disch := first | assumption | omega | (exact shp_fok (by first | assumption | exact shp_sr _ _ (by assumption) | exact shp_sr _ _ (shp_sr _ _ (by assumption)) | exact shp_sr _ _ (shp_sr _ _ (shp_sr _ _ (by assumption)))) (by decide)) | (simp only [fok_sr, aok_sr]; first | assumption | (exact shp_fok (by first | assumption | exact shp_sr _ _ (by assumption) | exact shp_sr _ _ (shp_sr _ _ (by assumption)) | exact shp_sr _ _ (shp_sr _ _ (shp_sr _ _ (by assumption)))) (by decide))) | (refine shp_aok (by first | assumption | exact shp_sr _ _ (by assumption) | exact shp_sr _ _ (shp_sr _ _ (by assumption)) | exact shp_sr _ _ (shp_sr _ _ (shp_sr _ _ (by assumption)))) rfl rfl ?_ ?_ <;> omega) | (exact shp_sr _ _ (by assumption)) | (exact shp_sr _ _ (shp_sr _ _ (by assumption))) | (exact shp_sr _ _ (shp_sr _ _ (shp_sr _ _ (by assumption)))) | (left; assumption) | (exact b2i_or _) | (simp; done)) only [e119_5, e119_6, e119_9, e119_79, e119_80, eq_self, ne_a, ne_b, ne_c, Nat.reduceEqDiff, lt0, bnd_ok, psh_I, psh_L, psh_R, psh_U, gt_sr, gr_sr, sk_sr, nn_sr, ↓reduceIte, Int.toNat_natCast, Int.reduceToNat, d0, h4]
      rfl
    · intro r hr hr' ih q3 q4
      have w5 : wr ((r : Int) + 1) = (r : Int) + 1 := wr_id (by omega) (by omega)
      have i9 := inner r hr (bsN (thR d) r : Nat)
      have hb := bsN_lt (thR d) r
      have hp : 2 ^ r ≤ 2 ^ 4 := Nat.pow_le_pow_right (by omega) (by omega)
      have hbs : bsN (thR d) (r + 1) = bsN (thR d) r ||| (if thR d r = true then 2 ^ r else 0) := rfl
      rw [hbs] at ih
      rw [e119_4]
      simp (disch := first | assumption | omega | (exact shp_fok (by first | assumption | exact shp_sr _ _ (by assumption) | exact shp_sr _ _ (shp_sr _ _ (by assumption)) | exact shp_sr _ _ (shp_sr _ _ (shp_sr _ _ (by assumption)))) (by decide)) | (simp only [fok_sr, aok_sr]; first | assumption | (exact shp_fok (by first | assumption | exact shp_sr _ _ (by assumption) | exact shp_sr _ _ (shp_sr _ _ (by assumption)) | exact shp_sr _ _ (shp_sr _ _ (shp_sr _ _ (by assumption)))) (by decide))) | (refine shp_aok (by first | assumption | exact shp_sr _ _ (by assumption) | exact shp_sr _ _ (shp_sr _ _ (by assumption)) | exact shp_sr _ _ (shp_sr _ _ (shp_sr _ _ (by assumption)))) rfl rfl ?_ ?_ <;> omega) | (exact shp_sr _ _ (by assumption)) | (exact shp_sr _ _ (shp_sr _ _ (by assumption))) | (exact shp_sr _ _ (shp_sr _ _ (shp_sr _ _ (by assumption)))) | (left; assumption) | (exact b2i_or _) | (simp; done)) only [e119_5, e119_6, e119_9, e119_12, e119_13, e119_14, e119_15, eq_self, ne_a, ne_b, ne_c, Nat.reduceEqDiff, lt0, bnd_ok, psh_I, psh_L, psh_R, psh_U, gt_sr, gr_sr, sk_sr, nn_sr, ↓reduceIte, Int.toNat_natCast, Int.reduceToNat, d0, hr']
      rw [show (1 : Int) = b2i (alN (fun k => decide (dt d (r * dC d + k) = 0)) 0) from rfl, i9]
      cases hx : thR d r with
      | true =>
        have o1 := bShl_N (a := 1) (k := r) (by omega) (by omega) (by omega)
        rw [Nat.one_mul] at o1
        have o2 := bOr_N (a := bsN (thR d) r) (b := 2 ^ r) (by omega) (by omega)
        rw [hx, if_pos rfl] at ih
        rw [show ((1 : Nat) : Int) = 1 from rfl] at o1
        simp (disch := first | assumption | omega | (exact shp_fok (by first | assumption | exact shp_sr _ _ (by assumption) | exact shp_sr _ _ (shp_sr _ _ (by assumption)) | exact shp_sr _ _ (shp_sr _ _ (shp_sr _ _ (by assumption)))) (by decide)) | (simp only [fok_sr, aok_sr]; first | assumption | (exact shp_fok (by first | assumption | exact shp_sr _ _ (by assumption) | exact shp_sr _ _ (shp_sr _ _ (by assumption)) | exact shp_sr _ _ (shp_sr _ _ (shp_sr _ _ (by assumption)))) (by decide))) | (refine shp_aok (by first | assumption | exact shp_sr _ _ (by assumption) | exact shp_sr _ _ (shp_sr _ _ (by assumption)) | exact shp_sr _ _ (shp_sr _ _ (shp_sr _ _ (by assumption)))) rfl rfl ?_ ?_ <;> omega) | (exact shp_sr _ _ (by assumption)) | (exact shp_sr _ _ (shp_sr _ _ (by assumption))) | (exact shp_sr _ _ (shp_sr _ _ (shp_sr _ _ (by assumption)))) | (left; assumption) | (exact b2i_or _) | (simp; done)) only [e119_59, e119_60, e119_61, e119_64, e119_65, e119_66, e119_67, e119_70, e119_71, e119_72, e119_73, e119_76, eq_self, ne_a, ne_b, ne_c, Nat.reduceEqDiff, lt0, bnd_ok, psh_I, psh_L, psh_R, psh_U, gt_sr, gr_sr, sk_sr, nn_sr, ↓reduceIte, Int.toNat_natCast, Int.reduceToNat, b2i_t, o1, o2, w5, Int.reduceEq]
        exact ih _ _
      | false =>
        have o2 := bOr_N (a := bsN (thR d) r) (b := 0) (by omega) (by omega)
        rw [show ((0 : Nat) : Int) = 0 from rfl] at o2
        rw [hx, if_neg Bool.false_ne_true] at ih
        simp (disch := first | assumption | omega | (exact shp_fok (by first | assumption | exact shp_sr _ _ (by assumption) | exact shp_sr _ _ (shp_sr _ _ (by assumption)) | exact shp_sr _ _ (shp_sr _ _ (shp_sr _ _ (by assumption)))) (by decide)) | (simp only [fok_sr, aok_sr]; first | assumption | (exact shp_fok (by first | assumption | exact shp_sr _ _ (by assumption) | exact shp_sr _ _ (shp_sr _ _ (by assumption)) | exact shp_sr _ _ (shp_sr _ _ (shp_sr _ _ (by assumption)))) (by decide))) | (refine shp_aok (by first | assumption | exact shp_sr _ _ (by assumption) | exact shp_sr _ _ (shp_sr _ _ (by assumption)) | exact shp_sr _ _ (shp_sr _ _ (shp_sr _ _ (by assumption)))) rfl rfl ?_ ?_ <;> omega) | (exact shp_sr _ _ (by assumption)) | (exact shp_sr _ _ (shp_sr _ _ (by assumption))) | (exact shp_sr _ _ (shp_sr _ _ (shp_sr _ _ (by assumption)))) | (left; assumption) | (exact b2i_or _) | (simp; done)) only [e119_59, e119_60, e119_61, e119_64, e119_65, e119_66, e119_67, e119_70, e119_71, e119_72, e119_73, e119_76, eq_self, ne_a, ne_b, ne_c, Nat.reduceEqDiff, lt0, bnd_ok, psh_I, psh_L, psh_R, psh_U, gt_sr, gr_sr, sk_sr, nn_sr, ↓reduceIte, Int.toNat_natCast, Int.reduceToNat, b2i_f, o2, w5]
        exact ih _ _
  have h0 := L vU vU
  simp (disch := first | assumption | omega | (exact shp_fok (by first | assumption | exact shp_sr _ _ (by assumption) | exact shp_sr _ _ (shp_sr _ _ (by assumption)) | exact shp_sr _ _ (shp_sr _ _ (shp_sr _ _ (by assumption)))) (by decide)) | (simp only [fok_sr, aok_sr]; first | assumption | (exact shp_fok (by first | assumption | exact shp_sr _ _ (by assumption) | exact shp_sr _ _ (shp_sr _ _ (by assumption)) | exact shp_sr _ _ (shp_sr _ _ (shp_sr _ _ (by assumption)))) (by decide))) | (refine shp_aok (by first | assumption | exact shp_sr _ _ (by assumption) | exact shp_sr _ _ (shp_sr _ _ (by assumption)) | exact shp_sr _ _ (shp_sr _ _ (shp_sr _ _ (by assumption)))) rfl rfl ?_ ?_ <;> omega) | (exact shp_sr _ _ (by assumption)) | (exact shp_sr _ _ (shp_sr _ _ (by assumption))) | (exact shp_sr _ _ (shp_sr _ _ (shp_sr _ _ (by assumption)))) | (left; assumption) | (exact b2i_or _) | (simp; done)) only [e119_0, e119_1, e119_2, e119_3, eq_self, ne_a, ne_b, ne_c, Nat.reduceEqDiff, lt0, bnd_ok, psh_I, psh_L, psh_R, psh_U, gt_sr, gr_sr, sk_sr, nn_sr, ↓reduceIte, Int.toNat_natCast, Int.reduceToNat]
  exact h0
/-- the model's count of acts -/
def mvD (d : Dat) (s : Nat) (dn on : Int) : Int := if acD d s dn on < 1000000 then acD d s dn on else 1000000
theorem acs_mono {d : Dat} (ho : okd d) {s : Nat} (hs : s < 4) (dn on : Int) : ∀ m k, k + m ≤ 24 → acs (dR d) (dC d) (dt d) (dwa d) (dsl d) s dn on k ≤ acs (dR d) (dC d) (dt d) (dwa d) (dsl d) s dn on (k + m)
  | 0, _, _ => Int.le_refl _
  | m + 1, k, hk => by
    have ih := acs_mono ho hs dn on m k (by omega)
    have h3 : (k + m) / dC d * dC d + (k + m) % dC d = k + m := by rw [Nat.mul_comm]; exact Nat.div_add_mod (k + m) (dC d)
    have hb := acf_bd (R := dR d) (C := dC d) (ok_t ho) (ok_w ho) ho.2.2.1.1 ho.2.2.1.2 hs dn on (r := (k + m) / dC d) (k := (k + m) % dC d) (by omega)
    have e : acs (dR d) (dC d) (dt d) (dwa d) (dsl d) s dn on (k + (m + 1)) = acs (dR d) (dC d) (dt d) (dwa d) (dsl d) s dn on (k + m) + acf (dR d) (dC d) (dt d) (dwa d) (dsl d) s dn on ((k + m) / dC d) ((k + m) % dC d) := rfl
    rw [e]
    omega
set_option maxRecDepth 100000 in
set_option maxHeartbeats 4000000 in
theorem m_actsFor {σ : St} {d : Dat} (h : mfx σ d) (h25 : gt σ 25 = dt d) (ho : okd d) {s : Nat} (hs4 : s < 4) {dn on : Int} (hdn : -3 ≤ dn ∧ dn ≤ 3) (hon : -5 ≤ on ∧ on ≤ 5) : run 121 0 [vR 24, vI (s : Int), vI dn, vI on, vU, vU, vU, vU, vU, vU] [] σ = some (vI (mvD d s dn on), σ) := by
  have ec := m_cells h ho
  obtain ⟨hs, d0, d1, d4, d5, hw⟩ := h
  have h24 := dn24 ho
  have hle : dR d * dC d ≤ 24 := h24
  obtain ⟨hR1, hR4, hC1, hC6⟩ := ho.1
  have hmono := acs_mono ho hs4 dn on
  have g2 : ¬ (dC d : Int) = 0 := by omega
  have wR : wr ((dR d : Int) - 1) = (dR d : Int) - 1 := wr_id (by omega) (by omega)
  have wC : wr ((dC d : Int) - 1) = (dC d : Int) - 1 := wr_id (by omega) (by omega)
  have hA : ∀ k, acs (dR d) (dC d) (dt d) (dwa d) (dsl d) s dn on (k + 1) = acs (dR d) (dC d) (dt d) (dwa d) (dsl d) s dn on k + acf (dR d) (dC d) (dt d) (dwa d) (dsl d) s dn on (k / dC d) (k % dC d) := fun k => rfl
  have hA0 : acs (dR d) (dC d) (dt d) (dwa d) (dsl d) s dn on 0 = 0 := rfl
  have hD : acD d s dn on = acs (dR d) (dC d) (dt d) (dwa d) (dsl d) s dn on (dn_ d) := rfl
  have hpos : ∀ k, k ≤ 24 → 0 ≤ acs (dR d) (dC d) (dt d) (dwa d) (dsl d) s dn on k := fun k hk => by
    have := hmono k 0 (by omega)
    rw [hA0, Nat.zero_add] at this
    exact this
  unfold mvD
  rw [hD]
  generalize hAA : acs (dR d) (dC d) (dt d) (dwa d) (dsl d) s dn on = A at *
  have L : A 0 ≤ 9 * 0 → ∀ q6 q7 q8 q9, run 121 6 [vR 24, vI (s : Int), vI dn, vI on, vI (A 0), vI 0, q6, q7, q8, q9] [] σ = some (vI (if A (dn_ d) < 1000000 then A (dn_ d) else 1000000), σ) := by
    refine bk (P := fun k z => A k ≤ 9 * z → ∀ q6 q7 q8 q9, run 121 6 [vR 24, vI (s : Int), vI dn, vI on, vI (A k), vI z, q6, q7, q8, q9] [] σ = some (vI (if A (dn_ d) < 1000000 then A (dn_ d) else 1000000), σ)) (n := dn_ d) ?_ ?_
    · intro hk q6 q7 q8 q9
      have h4 : ¬ ((dn_ d : Nat) : Int) < ((dn_ d : Nat) : Int) := by omega
      have h5 : A (dn_ d) < 1000000 := by omega
      rw [e121_6]
      simp (disch := first | assumption | omega | (exact shp_fok (by first | assumption | exact shp_sr _ _ (by assumption) | exact shp_sr _ _ (shp_sr _ _ (by assumption)) | exact shp_sr _ _ (shp_sr _ _ (shp_sr _ _ (by assumption)))) (by decide)) | (simp only [fok_sr, aok_sr]; first | assumption | (exact shp_fok (by first | assumption | exact shp_sr _ _ (by assumption) | exact shp_sr _ _ (shp_sr _ _ (by assumption)) | exact shp_sr _ _ (shp_sr _ _ (shp_sr _ _ (by assumption)))) (by decide))) | (refine shp_aok (by first | assumption | exact shp_sr _ _ (by assumption) | exact shp_sr _ _ (shp_sr _ _ (by assumption)) | exact shp_sr _ _ (shp_sr _ _ (shp_sr _ _ (by assumption)))) rfl rfl ?_ ?_ <;> omega) | (exact shp_sr _ _ (by assumption)) | (exact shp_sr _ _ (shp_sr _ _ (by assumption))) | (exact shp_sr _ _ (shp_sr _ _ (shp_sr _ _ (by assumption)))) | (left; assumption) | (exact b2i_or _) | (simp; done)) only [e121_8, e121_9, e121_12, e121_159, e121_161, eq_self, ne_a, ne_b, ne_c, Nat.reduceEqDiff, lt0, bnd_ok, psh_I, psh_L, psh_R, psh_U, gt_sr, gr_sr, sk_sr, nn_sr, ↓reduceIte, Int.toNat_natCast, Int.reduceToNat, ec, h4, h5]
    · intro k hk hk' ih hAk q6 q7 q8 q9
      have w5 : wr ((k : Int) + 1) = (k : Int) + 1 := wr_id (by omega) (by omega)
      have w1 : wr (wr (24 * (s : Int)) + (k : Int)) = ((s * 24 + k : Nat) : Int) := by
        rw [wr_id (z := 24 * (s : Int)) (by omega) (by omega), wr_id (by omega) (by omega)]; omega
      have h3 : k / dC d * dC d + k % dC d = k := by rw [Nat.mul_comm]; exact Nat.div_add_mod k (dC d)
      have hv := ok_w ho (s * 24 + k) (by omega)
      have hk1 := hA k
      have hkp := hpos k (by omega)
      have hmn := hmono (dn_ d - (k + 1)) (k + 1) (by omega)
      rw [show k + 1 + (dn_ d - (k + 1)) = dn_ d by omega] at hmn
      unfold acf at hk1
      rw [h3] at hk1
      rw [e121_6]
      by_cases h6 : dwa d (s * 24 + k) = -1
      · rw [if_pos h6, Int.add_zero] at hk1
        rw [hk1] at ih
        have h7 : dwa d (s * 24 + k) < 0 := by omega
        simp (disch := first | assumption | omega | (exact shp_fok (by first | assumption | exact shp_sr _ _ (by assumption) | exact shp_sr _ _ (shp_sr _ _ (by assumption)) | exact shp_sr _ _ (shp_sr _ _ (shp_sr _ _ (by assumption)))) (by decide)) | (simp only [fok_sr, aok_sr]; first | assumption | (exact shp_fok (by first | assumption | exact shp_sr _ _ (by assumption) | exact shp_sr _ _ (shp_sr _ _ (by assumption)) | exact shp_sr _ _ (shp_sr _ _ (shp_sr _ _ (by assumption)))) (by decide))) | (refine shp_aok (by first | assumption | exact shp_sr _ _ (by assumption) | exact shp_sr _ _ (shp_sr _ _ (by assumption)) | exact shp_sr _ _ (shp_sr _ _ (shp_sr _ _ (by assumption)))) rfl rfl ?_ ?_ <;> omega) | (exact shp_sr _ _ (by assumption)) | (exact shp_sr _ _ (shp_sr _ _ (by assumption))) | (exact shp_sr _ _ (shp_sr _ _ (shp_sr _ _ (by assumption)))) | (left; assumption) | (exact b2i_or _) | (simp; done)) only [e121_8, e121_9, e121_12, e121_15, e121_16, e121_19, e121_21, e121_22, e121_23, e121_25, e121_26, e121_27, e121_29, e121_31, e121_34, e121_36, e121_37, e121_40, e121_41, e121_42, e121_43, e121_45, e121_47, e121_48, e121_51, e121_52, e121_53, e121_54, e121_56, e121_58, e121_59, e121_60, e121_63, e121_64, e121_65, e121_68, e121_71, e121_73, e121_74, e121_75, e121_78, e121_79, e121_80, e121_83, e121_86, e121_88, e121_89, e121_90, e121_93, e121_95, e121_96, e121_99, e121_100, e121_102, e121_103, e121_104, e121_106, e121_108, e121_110, e121_112, e121_113, e121_116, e121_117, e121_120, e121_121, e121_124, e121_126, e121_128, e121_129, e121_132, e121_133, e121_136, e121_138, e121_139, e121_142, e121_143, e121_145, e121_146, e121_149, e121_150, e121_151, e121_153, e121_156, eq_self, ne_a, ne_b, ne_c, Nat.reduceEqDiff, lt0, bnd_ok, psh_I, psh_L, psh_R, psh_U, gt_sr, gr_sr, sk_sr, nn_sr, ↓reduceIte, Int.toNat_natCast, Int.reduceToNat, ec, hk', g24_6, hw, w1, h7, w5]
        exact ih (by omega) _ _ _ _
      · rw [if_neg h6] at hk1
        have h7 : ¬ dwa d (s * 24 + k) < 0 := by omega
        have hdv : (k : Int).tdiv (dC d : Int) = ((k / dC d : Nat) : Int) := by rw [Int.tdiv_eq_ediv_of_nonneg (by omega)]; rfl
        have hmd : (k : Int).tmod (dC d : Int) = ((k % dC d : Nat) : Int) := by rw [Int.tmod_eq_emod_of_nonneg (by omega)]; rfl
        have l1 : k / dC d ≤ k := Nat.div_le_self _ _
        have l2 : k % dC d ≤ k := Nat.mod_le _ _
        generalize k / dC d = U at *
        generalize k % dC d = V at *
        generalize hvv : dwa d (s * 24 + k) = v at *
        have w2 : wr (U : Int) = (U : Int) := wr_id (by omega) (by omega)
        have w3 : wr (V : Int) = (V : Int) := wr_id (by omega) (by omega)
        have w4 : wr ((U : Int) + dn) = (U : Int) + dn := wr_id (by omega) (by omega)
        have w6 : wr ((V : Int) + on) = (V : Int) + on := wr_id (by omega) (by omega)
        by_cases hin : 0 ≤ (U : Int) + dn ∧ (U : Int) + dn < (dR d : Int) ∧ 0 ≤ (V : Int) + on ∧ (V : Int) + on < (dC d : Int)
        · obtain ⟨i1, i2, i3, i4⟩ := hin
          have in1 : 0 ≤ (U : Int) + dn ∧ (U : Int) + dn ≤ (dR d : Int) - 1 := ⟨i1, by omega⟩
          have in2 : 0 ≤ (V : Int) + on ∧ (V : Int) + on ≤ (dC d : Int) - 1 := ⟨i3, by omega⟩
          obtain ⟨m1, m2⟩ := mul_lt i1 i2 i3 i4
          have hcat : cat (dR d) (dC d) ((U : Int) + dn) ((V : Int) + on) = ((U : Int) + dn) * (dC d : Int) + ((V : Int) + on) := by unfold cat; rw [if_pos ⟨i1, i2, i3, i4⟩]
          have w7 : wr (wr (((U : Int) + dn) * (dC d : Int)) + ((V : Int) + on)) = ((U : Int) + dn) * (dC d : Int) + ((V : Int) + on) := by
            rw [wr_id (z := ((U : Int) + dn) * (dC d : Int)) (by omega) (by omega), wr_id (by omega) (by omega)]
          rw [hcat] at hk1
          obtain ⟨j, hj⟩ := nat_of (show 0 ≤ ((U : Int) + dn) * (dC d : Int) + ((V : Int) + on) by omega)
          rw [hj] at hk1 m2 w7
          have hj24 : j < 24 := by omega
          unfold aca mx at hk1
          rw [if_neg (by omega), lv_N hj24] at hk1
          have htj := ok_t ho j hj24
          have hsl := ho.2.2.1
          have w8 : wr (v + dsl d) = v + dsl d := wr_id (by omega) (by omega)
          have w9 : wr (v - dsl d) = v - dsl d := wr_id (by omega) (by omega)
          have w10 : wr (v - dsl d - dt d j) = v - dsl d - dt d j := wr_id (by omega) (by omega)
          by_cases k1 : v + dsl d < dt d j
          · rw [if_pos k1] at hk1
            have w11 : wr (A k + 1) = A (k + 1) := by rw [hk1]; exact wr_id (by omega) (by omega)
            simp (disch := first | assumption | omega | (exact shp_fok (by first | assumption | exact shp_sr _ _ (by assumption) | exact shp_sr _ _ (shp_sr _ _ (by assumption)) | exact shp_sr _ _ (shp_sr _ _ (shp_sr _ _ (by assumption)))) (by decide)) | (simp only [fok_sr, aok_sr]; first | assumption | (exact shp_fok (by first | assumption | exact shp_sr _ _ (by assumption) | exact shp_sr _ _ (shp_sr _ _ (by assumption)) | exact shp_sr _ _ (shp_sr _ _ (shp_sr _ _ (by assumption)))) (by decide))) | (refine shp_aok (by first | assumption | exact shp_sr _ _ (by assumption) | exact shp_sr _ _ (shp_sr _ _ (by assumption)) | exact shp_sr _ _ (shp_sr _ _ (shp_sr _ _ (by assumption)))) rfl rfl ?_ ?_ <;> omega) | (exact shp_sr _ _ (by assumption)) | (exact shp_sr _ _ (shp_sr _ _ (by assumption))) | (exact shp_sr _ _ (shp_sr _ _ (shp_sr _ _ (by assumption)))) | (left; assumption) | (exact b2i_or _) | (simp; done)) only [e121_8, e121_9, e121_12, e121_15, e121_16, e121_19, e121_21, e121_22, e121_23, e121_25, e121_26, e121_27, e121_29, e121_31, e121_34, e121_36, e121_37, e121_40, e121_41, e121_42, e121_43, e121_45, e121_47, e121_48, e121_51, e121_52, e121_53, e121_54, e121_56, e121_58, e121_59, e121_60, e121_63, e121_64, e121_65, e121_68, e121_71, e121_73, e121_74, e121_75, e121_78, e121_79, e121_80, e121_83, e121_86, e121_88, e121_89, e121_90, e121_93, e121_95, e121_96, e121_99, e121_100, e121_102, e121_103, e121_104, e121_106, e121_108, e121_110, e121_112, e121_113, e121_116, e121_117, e121_120, e121_121, e121_124, e121_126, e121_128, e121_129, e121_132, e121_133, e121_136, e121_138, e121_139, e121_142, e121_143, e121_145, e121_146, e121_149, e121_150, e121_151, e121_153, e121_156, eq_self, ne_a, ne_b, ne_c, Nat.reduceEqDiff, lt0, bnd_ok, psh_I, psh_L, psh_R, psh_U, gt_sr, gr_sr, sk_sr, nn_sr, ↓reduceIte, Int.toNat_natCast, Int.reduceToNat, ec, hk', g24_6, g24_2, hw, w1, hvv, h7, w5, d0, d1, d5, g2, hdv, hmd, w2, w3, w4, w6, wR, wC, m_in, if_pos in1, if_pos in2, w7, h25, w8, k1, w11, Int.reduceEq]
            exact ih (by omega) _ _ _ _
          · rw [if_neg k1] at hk1
            by_cases k2 : dt d j < v - dsl d
            · have w11 : wr (A k + (v - dsl d - dt d j)) = A (k + 1) := by
                rw [if_pos (by omega)] at hk1
                rw [hk1]; exact wr_id (by omega) (by omega)
              rw [if_pos (by omega)] at hk1
              simp (disch := first | assumption | omega | (exact shp_fok (by first | assumption | exact shp_sr _ _ (by assumption) | exact shp_sr _ _ (shp_sr _ _ (by assumption)) | exact shp_sr _ _ (shp_sr _ _ (shp_sr _ _ (by assumption)))) (by decide)) | (simp only [fok_sr, aok_sr]; first | assumption | (exact shp_fok (by first | assumption | exact shp_sr _ _ (by assumption) | exact shp_sr _ _ (shp_sr _ _ (by assumption)) | exact shp_sr _ _ (shp_sr _ _ (shp_sr _ _ (by assumption)))) (by decide))) | (refine shp_aok (by first | assumption | exact shp_sr _ _ (by assumption) | exact shp_sr _ _ (shp_sr _ _ (by assumption)) | exact shp_sr _ _ (shp_sr _ _ (shp_sr _ _ (by assumption)))) rfl rfl ?_ ?_ <;> omega) | (exact shp_sr _ _ (by assumption)) | (exact shp_sr _ _ (shp_sr _ _ (by assumption))) | (exact shp_sr _ _ (shp_sr _ _ (shp_sr _ _ (by assumption)))) | (left; assumption) | (exact b2i_or _) | (simp; done)) only [e121_8, e121_9, e121_12, e121_15, e121_16, e121_19, e121_21, e121_22, e121_23, e121_25, e121_26, e121_27, e121_29, e121_31, e121_34, e121_36, e121_37, e121_40, e121_41, e121_42, e121_43, e121_45, e121_47, e121_48, e121_51, e121_52, e121_53, e121_54, e121_56, e121_58, e121_59, e121_60, e121_63, e121_64, e121_65, e121_68, e121_71, e121_73, e121_74, e121_75, e121_78, e121_79, e121_80, e121_83, e121_86, e121_88, e121_89, e121_90, e121_93, e121_95, e121_96, e121_99, e121_100, e121_102, e121_103, e121_104, e121_106, e121_108, e121_110, e121_112, e121_113, e121_116, e121_117, e121_120, e121_121, e121_124, e121_126, e121_128, e121_129, e121_132, e121_133, e121_136, e121_138, e121_139, e121_142, e121_143, e121_145, e121_146, e121_149, e121_150, e121_151, e121_153, e121_156, eq_self, ne_a, ne_b, ne_c, Nat.reduceEqDiff, lt0, bnd_ok, psh_I, psh_L, psh_R, psh_U, gt_sr, gr_sr, sk_sr, nn_sr, ↓reduceIte, Int.toNat_natCast, Int.reduceToNat, ec, hk', g24_6, g24_2, hw, w1, hvv, h7, w5, d0, d1, d5, g2, hdv, hmd, w2, w3, w4, w6, wR, wC, m_in, if_pos in1, if_pos in2, w7, h25, w8, w9, w10, k1, k2, w11, Int.reduceEq]
              exact ih (by omega) _ _ _ _
            · have w11 : wr (A k + 0) = A (k + 1) := by
                rw [if_neg (by omega)] at hk1
                rw [hk1]; exact wr_id (by omega) (by omega)
              rw [if_neg (by omega)] at hk1
              simp (disch := first | assumption | omega | (exact shp_fok (by first | assumption | exact shp_sr _ _ (by assumption) | exact shp_sr _ _ (shp_sr _ _ (by assumption)) | exact shp_sr _ _ (shp_sr _ _ (shp_sr _ _ (by assumption)))) (by decide)) | (simp only [fok_sr, aok_sr]; first | assumption | (exact shp_fok (by first | assumption | exact shp_sr _ _ (by assumption) | exact shp_sr _ _ (shp_sr _ _ (by assumption)) | exact shp_sr _ _ (shp_sr _ _ (shp_sr _ _ (by assumption)))) (by decide))) | (refine shp_aok (by first | assumption | exact shp_sr _ _ (by assumption) | exact shp_sr _ _ (shp_sr _ _ (by assumption)) | exact shp_sr _ _ (shp_sr _ _ (shp_sr _ _ (by assumption)))) rfl rfl ?_ ?_ <;> omega) | (exact shp_sr _ _ (by assumption)) | (exact shp_sr _ _ (shp_sr _ _ (by assumption))) | (exact shp_sr _ _ (shp_sr _ _ (shp_sr _ _ (by assumption)))) | (left; assumption) | (exact b2i_or _) | (simp; done)) only [e121_8, e121_9, e121_12, e121_15, e121_16, e121_19, e121_21, e121_22, e121_23, e121_25, e121_26, e121_27, e121_29, e121_31, e121_34, e121_36, e121_37, e121_40, e121_41, e121_42, e121_43, e121_45, e121_47, e121_48, e121_51, e121_52, e121_53, e121_54, e121_56, e121_58, e121_59, e121_60, e121_63, e121_64, e121_65, e121_68, e121_71, e121_73, e121_74, e121_75, e121_78, e121_79, e121_80, e121_83, e121_86, e121_88, e121_89, e121_90, e121_93, e121_95, e121_96, e121_99, e121_100, e121_102, e121_103, e121_104, e121_106, e121_108, e121_110, e121_112, e121_113, e121_116, e121_117, e121_120, e121_121, e121_124, e121_126, e121_128, e121_129, e121_132, e121_133, e121_136, e121_138, e121_139, e121_142, e121_143, e121_145, e121_146, e121_149, e121_150, e121_151, e121_153, e121_156, eq_self, ne_a, ne_b, ne_c, Nat.reduceEqDiff, lt0, bnd_ok, psh_I, psh_L, psh_R, psh_U, gt_sr, gr_sr, sk_sr, nn_sr, ↓reduceIte, Int.toNat_natCast, Int.reduceToNat, ec, hk', g24_6, g24_2, hw, w1, hvv, h7, w5, d0, d1, d5, g2, hdv, hmd, w2, w3, w4, w6, wR, wC, m_in, if_pos in1, if_pos in2, w7, h25, w8, w9, k1, k2, w11, Int.reduceEq]
              exact ih (by omega) _ _ _ _
        · have hcat : cat (dR d) (dC d) ((U : Int) + dn) ((V : Int) + on) = -1 := by unfold cat; rw [if_neg hin]
          rw [hcat] at hk1
          have hz : aca (dt d) (dsl d) (-1) v = 1000000 := rfl
          rw [hz] at hk1
          rw [if_neg (show ¬ A (dn_ d) < 1000000 by omega)]
          by_cases in1 : 0 ≤ (U : Int) + dn ∧ (U : Int) + dn ≤ (dR d : Int) - 1
          · have in2 : ¬ (0 ≤ (V : Int) + on ∧ (V : Int) + on ≤ (dC d : Int) - 1) := fun h => hin ⟨in1.1, by omega, h.1, by omega⟩
            simp (disch := first | assumption | omega | (exact shp_fok (by first | assumption | exact shp_sr _ _ (by assumption) | exact shp_sr _ _ (shp_sr _ _ (by assumption)) | exact shp_sr _ _ (shp_sr _ _ (shp_sr _ _ (by assumption)))) (by decide)) | (simp only [fok_sr, aok_sr]; first | assumption | (exact shp_fok (by first | assumption | exact shp_sr _ _ (by assumption) | exact shp_sr _ _ (shp_sr _ _ (by assumption)) | exact shp_sr _ _ (shp_sr _ _ (shp_sr _ _ (by assumption)))) (by decide))) | (refine shp_aok (by first | assumption | exact shp_sr _ _ (by assumption) | exact shp_sr _ _ (shp_sr _ _ (by assumption)) | exact shp_sr _ _ (shp_sr _ _ (shp_sr _ _ (by assumption)))) rfl rfl ?_ ?_ <;> omega) | (exact shp_sr _ _ (by assumption)) | (exact shp_sr _ _ (shp_sr _ _ (by assumption))) | (exact shp_sr _ _ (shp_sr _ _ (shp_sr _ _ (by assumption)))) | (left; assumption) | (exact b2i_or _) | (simp; done)) only [e121_8, e121_9, e121_12, e121_15, e121_16, e121_19, e121_21, e121_22, e121_23, e121_25, e121_26, e121_27, e121_29, e121_31, e121_34, e121_36, e121_37, e121_40, e121_41, e121_42, e121_43, e121_45, e121_47, e121_48, e121_51, e121_52, e121_53, e121_54, e121_56, e121_58, e121_59, e121_60, e121_63, e121_64, e121_65, e121_68, e121_71, e121_73, e121_74, e121_75, e121_78, e121_79, e121_80, e121_83, e121_86, e121_88, e121_89, e121_90, e121_93, e121_95, e121_96, e121_99, e121_100, e121_102, e121_103, e121_104, e121_106, e121_108, e121_110, e121_112, e121_113, e121_116, e121_117, e121_120, e121_121, e121_124, e121_126, e121_128, e121_129, e121_132, e121_133, e121_136, e121_138, e121_139, e121_142, e121_143, e121_145, e121_146, e121_149, e121_150, e121_151, e121_153, e121_156, eq_self, ne_a, ne_b, ne_c, Nat.reduceEqDiff, lt0, bnd_ok, psh_I, psh_L, psh_R, psh_U, gt_sr, gr_sr, sk_sr, nn_sr, ↓reduceIte, Int.toNat_natCast, Int.reduceToNat, ec, hk', g24_6, hw, w1, hvv, h7, d0, d1, g2, hdv, hmd, w2, w3, w4, w6, wR, wC, m_in, if_pos in1, if_neg in2, Int.reduceEq]
          · simp (disch := first | assumption | omega | (exact shp_fok (by first | assumption | exact shp_sr _ _ (by assumption) | exact shp_sr _ _ (shp_sr _ _ (by assumption)) | exact shp_sr _ _ (shp_sr _ _ (shp_sr _ _ (by assumption)))) (by decide)) | (simp only [fok_sr, aok_sr]; first | assumption | (exact shp_fok (by first | assumption | exact shp_sr _ _ (by assumption) | exact shp_sr _ _ (shp_sr _ _ (by assumption)) | exact shp_sr _ _ (shp_sr _ _ (shp_sr _ _ (by assumption)))) (by decide))) | (refine shp_aok (by first | assumption | exact shp_sr _ _ (by assumption) | exact shp_sr _ _ (shp_sr _ _ (by assumption)) | exact shp_sr _ _ (shp_sr _ _ (shp_sr _ _ (by assumption)))) rfl rfl ?_ ?_ <;> omega) | (exact shp_sr _ _ (by assumption)) | (exact shp_sr _ _ (shp_sr _ _ (by assumption))) | (exact shp_sr _ _ (shp_sr _ _ (shp_sr _ _ (by assumption)))) | (left; assumption) | (exact b2i_or _) | (simp; done)) only [e121_8, e121_9, e121_12, e121_15, e121_16, e121_19, e121_21, e121_22, e121_23, e121_25, e121_26, e121_27, e121_29, e121_31, e121_34, e121_36, e121_37, e121_40, e121_41, e121_42, e121_43, e121_45, e121_47, e121_48, e121_51, e121_52, e121_53, e121_54, e121_56, e121_58, e121_59, e121_60, e121_63, e121_64, e121_65, e121_68, e121_71, e121_73, e121_74, e121_75, e121_78, e121_79, e121_80, e121_83, e121_86, e121_88, e121_89, e121_90, e121_93, e121_95, e121_96, e121_99, e121_100, e121_102, e121_103, e121_104, e121_106, e121_108, e121_110, e121_112, e121_113, e121_116, e121_117, e121_120, e121_121, e121_124, e121_126, e121_128, e121_129, e121_132, e121_133, e121_136, e121_138, e121_139, e121_142, e121_143, e121_145, e121_146, e121_149, e121_150, e121_151, e121_153, e121_156, eq_self, ne_a, ne_b, ne_c, Nat.reduceEqDiff, lt0, bnd_ok, psh_I, psh_L, psh_R, psh_U, gt_sr, gr_sr, sk_sr, nn_sr, ↓reduceIte, Int.toNat_natCast, Int.reduceToNat, ec, hk', g24_6, hw, w1, hvv, h7, d0, d1, g2, hdv, hmd, w2, w3, w4, w6, wR, wC, m_in, if_neg in1, Int.reduceEq]
  have h0 := L (by rw [hA0]; decide) vU vU vU vU
  rw [hA0] at h0
  simp (disch := first | assumption | omega | (exact shp_fok (by first | assumption | exact shp_sr _ _ (by assumption) | exact shp_sr _ _ (shp_sr _ _ (by assumption)) | exact shp_sr _ _ (shp_sr _ _ (shp_sr _ _ (by assumption)))) (by decide)) | (simp only [fok_sr, aok_sr]; first | assumption | (exact shp_fok (by first | assumption | exact shp_sr _ _ (by assumption) | exact shp_sr _ _ (shp_sr _ _ (by assumption)) | exact shp_sr _ _ (shp_sr _ _ (shp_sr _ _ (by assumption)))) (by decide))) | (refine shp_aok (by first | assumption | exact shp_sr _ _ (by assumption) | exact shp_sr _ _ (shp_sr _ _ (by assumption)) | exact shp_sr _ _ (shp_sr _ _ (shp_sr _ _ (by assumption)))) rfl rfl ?_ ?_ <;> omega) | (exact shp_sr _ _ (by assumption)) | (exact shp_sr _ _ (shp_sr _ _ (by assumption))) | (exact shp_sr _ _ (shp_sr _ _ (shp_sr _ _ (by assumption)))) | (left; assumption) | (exact b2i_or _) | (simp; done)) only [e121_0, e121_1, e121_3, e121_4, eq_self, ne_a, ne_b, ne_c, Nat.reduceEqDiff, lt0, bnd_ok, psh_I, psh_L, psh_R, psh_U, gt_sr, gr_sr, sk_sr, nn_sr, ↓reduceIte, Int.toNat_natCast, Int.reduceToNat]
  exact h0
/-- a shape where it is stays in the bank -/
theorem acD_00 {d : Dat} (ho : okd d) {s : Nat} (hs : s < 4) : acD d s 0 0 ≤ 216 := by
  have h24 := dn24 ho
  have hb := smN_bd (f := fun c => acf (dR d) (dC d) (dt d) (dwa d) (dsl d) s 0 0 (c / dC d) (c % dC d)) (lo := 0) (hi := 9) (n := dn_ d) (fun c hc => by
    have h1 := cat_self (R := dR d) (C := dC d) (c := c) hc
    have h3 : c / dC d * dC d + c % dC d = c := by rw [Nat.mul_comm]; exact Nat.div_add_mod c (dC d)
    have hw := ok_w ho (s * 24 + c) (by omega)
    have ht := ok_t ho c (by omega)
    have hsl := ho.2.2.1
    show 0 ≤ acf (dR d) (dC d) (dt d) (dwa d) (dsl d) s 0 0 (c / dC d) (c % dC d) ∧ acf (dR d) (dC d) (dt d) (dwa d) (dsl d) s 0 0 (c / dC d) (c % dC d) ≤ 9
    unfold acf
    rw [h3, Int.add_zero, Int.add_zero, h1]
    split
    · omega
    · unfold aca mx
      rw [if_neg (by omega), lv_N (by omega)]
      split
      · omega
      · split <;> omega)
  unfold acD acs
  unfold dn_ at hb h24
  omega
set_option maxRecDepth 100000 in
set_option maxHeartbeats 4000000 in
theorem m_Mcarved (s : Int) (d : Dat) (cn : Nat) (sg : Nat → Int) : mla 120 [vR 24, vI s] d cn sg (vI (x_carved d s)) d cn sg := by
  intro σ h
  have q1 := m_isShape h.1 h.2.2.2.2.2.2.2.2.1 s
  obtain ⟨a1, a2, a3, a4, a5, a6, a7, a8, a9, a10⟩ := id h
  have hs := a1.1
  refine ⟨σ, ?_, mdl_rf h⟩
  unfold x_carved
  cases hS : isS d s with
  | false =>
    rw [hS] at q1
    simp (disch := first | assumption | omega | (exact shp_fok (by first | assumption | exact shp_sr _ _ (by assumption) | exact shp_sr _ _ (shp_sr _ _ (by assumption)) | exact shp_sr _ _ (shp_sr _ _ (shp_sr _ _ (by assumption)))) (by decide)) | (simp only [fok_sr, aok_sr]; first | assumption | (exact shp_fok (by first | assumption | exact shp_sr _ _ (by assumption) | exact shp_sr _ _ (shp_sr _ _ (by assumption)) | exact shp_sr _ _ (shp_sr _ _ (shp_sr _ _ (by assumption)))) (by decide))) | (refine shp_aok (by first | assumption | exact shp_sr _ _ (by assumption) | exact shp_sr _ _ (shp_sr _ _ (by assumption)) | exact shp_sr _ _ (shp_sr _ _ (shp_sr _ _ (by assumption)))) rfl rfl ?_ ?_ <;> omega) | (exact shp_sr _ _ (by assumption)) | (exact shp_sr _ _ (shp_sr _ _ (by assumption))) | (exact shp_sr _ _ (shp_sr _ _ (shp_sr _ _ (by assumption)))) | (left; assumption) | (exact b2i_or _) | (simp; done)) only [e120_0, e120_1, e120_2, e120_5, e120_8, e120_9, e120_10, e120_11, e120_12, e120_15, e120_18, e120_19, eq_self, ne_a, ne_b, ne_c, Nat.reduceEqDiff, lt0, bnd_ok, psh_I, psh_L, psh_R, psh_U, gt_sr, gr_sr, sk_sr, nn_sr, ↓reduceIte, Int.toNat_natCast, Int.reduceToNat, q1, b2i_f, Bool.false_eq_true]
  | true =>
    rw [hS] at q1
    obtain ⟨s, rfl, hs4, -⟩ := isS_n hS
    rw [Int.toNat_natCast]
    have q2 := m_actsFor a1 a5 a9 hs4 (dn := 0) (on := 0) (by omega) (by omega)
    have h00 := acD_00 a9 hs4
    have hm : mvD d s 0 0 = acD d s 0 0 := by unfold mvD; rw [if_pos (by omega)]
    rw [hm] at q2
    simp (disch := first | assumption | omega | (exact shp_fok (by first | assumption | exact shp_sr _ _ (by assumption) | exact shp_sr _ _ (shp_sr _ _ (by assumption)) | exact shp_sr _ _ (shp_sr _ _ (shp_sr _ _ (by assumption)))) (by decide)) | (simp only [fok_sr, aok_sr]; first | assumption | (exact shp_fok (by first | assumption | exact shp_sr _ _ (by assumption) | exact shp_sr _ _ (shp_sr _ _ (by assumption)) | exact shp_sr _ _ (shp_sr _ _ (shp_sr _ _ (by assumption)))) (by decide))) | (refine shp_aok (by first | assumption | exact shp_sr _ _ (by assumption) | exact shp_sr _ _ (shp_sr _ _ (by assumption)) | exact shp_sr _ _ (shp_sr _ _ (shp_sr _ _ (by assumption)))) rfl rfl ?_ ?_ <;> omega) | (exact shp_sr _ _ (by assumption)) | (exact shp_sr _ _ (shp_sr _ _ (by assumption))) | (exact shp_sr _ _ (shp_sr _ _ (shp_sr _ _ (by assumption)))) | (left; assumption) | (exact b2i_or _) | (simp; done)) only [e120_0, e120_1, e120_2, e120_5, e120_8, e120_9, e120_10, e120_11, e120_12, e120_15, e120_18, e120_19, eq_self, ne_a, ne_b, ne_c, Nat.reduceEqDiff, lt0, bnd_ok, psh_I, psh_L, psh_R, psh_U, gt_sr, gr_sr, sk_sr, nn_sr, ↓reduceIte, Int.toNat_natCast, Int.reduceToNat, q1, q2, b2i_t, Int.reduceEq]
theorem mvF_le {f g : Int → Int → Int} (h : ∀ a b, g a b = if f a b < 1000000 then f a b else 1000000) : ∀ j, mvF g j = mvF f j ∧ (mvF f j).1 ≤ 1000000
  | 0 => ⟨rfl, Int.le_refl _⟩
  | j + 1 => by
    obtain ⟨ih, hb⟩ := mvF_le h j
    unfold mvF
    rw [ih, h]
    generalize f ((j / 11 : Nat) - 3 : Int) ((j % 11 : Nat) - 5 : Int) = v at *
    generalize mvF f j = m at *
    by_cases h1 : v < 1000000
    · rw [if_pos h1]
      refine ⟨rfl, ?_⟩
      split
      · dsimp only; omega
      · exact hb
    · rw [if_neg h1, if_neg (by omega), if_neg (by omega)]
      exact ⟨rfl, hb⟩
set_option maxRecDepth 100000 in
set_option maxHeartbeats 4000000 in
theorem m_Mmoved (s w : Int) (d : Dat) (cn : Nat) (sg : Nat → Int) : mla 126 [vR 24, vI s, vI w, vU, vU, vU, vU, vU] d cn sg (vI (x_moved d s w)) d cn sg := by
  intro σ h
  have q1 := m_isShape h.1 h.2.2.2.2.2.2.2.2.1 s
  obtain ⟨a1, a2, a3, a4, a5, a6, a7, a8, a9, a10⟩ := id h
  have hs := a1.1
  refine ⟨σ, ?_, mdl_rf h⟩
  unfold x_moved
  cases hS : isS d s with
  | false =>
    rw [hS] at q1
    simp (disch := first | assumption | omega | (exact shp_fok (by first | assumption | exact shp_sr _ _ (by assumption) | exact shp_sr _ _ (shp_sr _ _ (by assumption)) | exact shp_sr _ _ (shp_sr _ _ (shp_sr _ _ (by assumption)))) (by decide)) | (simp only [fok_sr, aok_sr]; first | assumption | (exact shp_fok (by first | assumption | exact shp_sr _ _ (by assumption) | exact shp_sr _ _ (shp_sr _ _ (by assumption)) | exact shp_sr _ _ (shp_sr _ _ (shp_sr _ _ (by assumption)))) (by decide))) | (refine shp_aok (by first | assumption | exact shp_sr _ _ (by assumption) | exact shp_sr _ _ (shp_sr _ _ (by assumption)) | exact shp_sr _ _ (shp_sr _ _ (shp_sr _ _ (by assumption)))) rfl rfl ?_ ?_ <;> omega) | (exact shp_sr _ _ (by assumption)) | (exact shp_sr _ _ (shp_sr _ _ (by assumption))) | (exact shp_sr _ _ (shp_sr _ _ (shp_sr _ _ (by assumption)))) | (left; assumption) | (exact b2i_or _) | (simp; done)) only [e126_0, e126_1, e126_2, e126_5, e126_8, e126_9, eq_self, ne_a, ne_b, ne_c, Nat.reduceEqDiff, lt0, bnd_ok, psh_I, psh_L, psh_R, psh_U, gt_sr, gr_sr, sk_sr, nn_sr, ↓reduceIte, Int.toNat_natCast, Int.reduceToNat, q1, b2i_f, Bool.false_eq_true]
  | true =>
    rw [hS] at q1
    obtain ⟨s, rfl, hs4, -⟩ := isS_n hS
    rw [Int.toNat_natCast]
    have hac := fun (dn on : Int) h1 h2 => m_actsFor a1 a5 a9 hs4 (dn := dn) (on := on) h1 h2
    have hbd := fun dn on => acD_bd a9 hs4 dn on
    have hle := mvF_le (f := acD d s) (g := mvD d s) (fun _ _ => rfl) 77
    rw [← hle.1]
    have hgb : ∀ a b, 0 ≤ mvD d s a b := fun a b => by
      have := hbd a b
      unfold mvD
      split <;> omega
    clear hle hbd
    generalize mvD d s = f at *
    have hbm := mvF_bd (f := f) hgb
    clear a2 a3 a4 a5 a6 a7 a8 a9 a10 h
    by_cases h1 : 0 ≤ w ∧ w ≤ 1
    · have inner : ∀ (r : Nat), r < 7 → ∀ (X : Res), (∀ q7, run 126 105 [vR 24, vI (s : Int), vI w, vI (mvF f (r * 11 + 11)).1, vI (mvF f (r * 11 + 11)).2, vI ((r : Int) - 3), vI 6, q7] [] σ = X) → ∀ q7, run 126 43 [vR 24, vI (s : Int), vI w, vI (mvF f (r * 11 + 0)).1, vI (mvF f (r * 11 + 0)).2, vI ((r : Int) - 3), vI (0 - 5), q7] [] σ = X := by
        intro r hr X hX
        refine bk (P := fun k z => ∀ q7, run 126 43 [vR 24, vI (s : Int), vI w, vI (mvF f (r * 11 + k)).1, vI (mvF f (r * 11 + k)).2, vI ((r : Int) - 3), vI (z - 5), q7] [] σ = X) (n := 11) ?_ ?_
        · intro q7
          rw [e126_43]
          simp (disch := first | assumption | omega | (exact shp_fok (by first | assumption | exact shp_sr _ _ (by assumption) | exact shp_sr _ _ (shp_sr _ _ (by assumption)) | exact shp_sr _ _ (shp_sr _ _ (shp_sr _ _ (by assumption)))) (by decide)) | (simp only [fok_sr, aok_sr]; first | assumption | (exact shp_fok (by first | assumption | exact shp_sr _ _ (by assumption) | exact shp_sr _ _ (shp_sr _ _ (by assumption)) | exact shp_sr _ _ (shp_sr _ _ (shp_sr _ _ (by assumption)))) (by decide))) | (refine shp_aok (by first | assumption | exact shp_sr _ _ (by assumption) | exact shp_sr _ _ (shp_sr _ _ (by assumption)) | exact shp_sr _ _ (shp_sr _ _ (shp_sr _ _ (by assumption)))) rfl rfl ?_ ?_ <;> omega) | (exact shp_sr _ _ (by assumption)) | (exact shp_sr _ _ (shp_sr _ _ (by assumption))) | (exact shp_sr _ _ (shp_sr _ _ (shp_sr _ _ (by assumption)))) | (left; assumption) | (exact b2i_or _) | (simp; done)) only [e126_45, e126_47, eq_self, ne_a, ne_b, ne_c, Nat.reduceEqDiff, lt0, bnd_ok, psh_I, psh_L, psh_R, psh_U, gt_sr, gr_sr, sk_sr, nn_sr, ↓reduceIte, Int.toNat_natCast, Int.reduceToNat, show (((11 : Nat) : Int) - 5) = 6 from rfl, Int.reduceLT]
          exact hX _
        · intro k hk hk' ih q7
          have h4 : (k : Int) - 5 < 6 := by omega
          have e1 := hac ((r : Int) - 3) ((k : Int) - 5) (by omega) (by omega)
          have w1 : wr ((k : Int) - 5 + 1) = (k : Int) + 1 - 5 := by rw [wr_id (by omega) (by omega)]; omega
          have w2 : wr (wr (wr (100 * wr ((r : Int) - 3 + 3)) + ((k : Int) - 5)) + 5) = 100 * (r : Int) + (k : Int) := by
            rw [wr_id (z := (r : Int) - 3 + 3) (by omega) (by omega), wr_id (z := 100 * ((r : Int) - 3 + 3)) (by omega) (by omega), wr_id (z := 100 * ((r : Int) - 3 + 3) + ((k : Int) - 5)) (by omega) (by omega), wr_id (by omega) (by omega)]
            omega
          rw [mvF_s f hk] at ih
          rw [e126_43]
          by_cases h5 : f ((r : Int) - 3) ((k : Int) - 5) < (mvF f (r * 11 + k)).1
          · rw [if_pos h5] at ih
            simp (disch := first | assumption | omega | (exact shp_fok (by first | assumption | exact shp_sr _ _ (by assumption) | exact shp_sr _ _ (shp_sr _ _ (by assumption)) | exact shp_sr _ _ (shp_sr _ _ (shp_sr _ _ (by assumption)))) (by decide)) | (simp only [fok_sr, aok_sr]; first | assumption | (exact shp_fok (by first | assumption | exact shp_sr _ _ (by assumption) | exact shp_sr _ _ (shp_sr _ _ (by assumption)) | exact shp_sr _ _ (shp_sr _ _ (shp_sr _ _ (by assumption)))) (by decide))) | (refine shp_aok (by first | assumption | exact shp_sr _ _ (by assumption) | exact shp_sr _ _ (shp_sr _ _ (by assumption)) | exact shp_sr _ _ (shp_sr _ _ (shp_sr _ _ (by assumption)))) rfl rfl ?_ ?_ <;> omega) | (exact shp_sr _ _ (by assumption)) | (exact shp_sr _ _ (shp_sr _ _ (by assumption))) | (exact shp_sr _ _ (shp_sr _ _ (shp_sr _ _ (by assumption)))) | (left; assumption) | (exact b2i_or _) | (simp; done)) only [e126_45, e126_47, e126_50, e126_51, e126_52, e126_54, e126_56, e126_59, e126_61, e126_63, e126_64, e126_67, e126_69, e126_71, e126_72, e126_73, e126_74, e126_76, e126_77, e126_78, e126_79, e126_82, e126_84, e126_86, e126_88, e126_89, e126_92, e126_94, e126_97, e126_98, e126_99, e126_102, eq_self, ne_a, ne_b, ne_c, Nat.reduceEqDiff, lt0, bnd_ok, psh_I, psh_L, psh_R, psh_U, gt_sr, gr_sr, sk_sr, nn_sr, ↓reduceIte, Int.toNat_natCast, Int.reduceToNat, h4, e1, h5, w1, w2]
            exact ih _
          · rw [if_neg h5] at ih
            simp (disch := first | assumption | omega | (exact shp_fok (by first | assumption | exact shp_sr _ _ (by assumption) | exact shp_sr _ _ (shp_sr _ _ (by assumption)) | exact shp_sr _ _ (shp_sr _ _ (shp_sr _ _ (by assumption)))) (by decide)) | (simp only [fok_sr, aok_sr]; first | assumption | (exact shp_fok (by first | assumption | exact shp_sr _ _ (by assumption) | exact shp_sr _ _ (shp_sr _ _ (by assumption)) | exact shp_sr _ _ (shp_sr _ _ (shp_sr _ _ (by assumption)))) (by decide))) | (refine shp_aok (by first | assumption | exact shp_sr _ _ (by assumption) | exact shp_sr _ _ (shp_sr _ _ (by assumption)) | exact shp_sr _ _ (shp_sr _ _ (shp_sr _ _ (by assumption)))) rfl rfl ?_ ?_ <;> omega) | (exact shp_sr _ _ (by assumption)) | (exact shp_sr _ _ (shp_sr _ _ (by assumption))) | (exact shp_sr _ _ (shp_sr _ _ (shp_sr _ _ (by assumption)))) | (left; assumption) | (exact b2i_or _) | (simp; done)) only [e126_45, e126_47, e126_50, e126_51, e126_52, e126_54, e126_56, e126_59, e126_61, e126_63, e126_64, e126_67, e126_69, e126_71, e126_72, e126_73, e126_74, e126_76, e126_77, e126_78, e126_79, e126_82, e126_84, e126_86, e126_88, e126_89, e126_92, e126_94, e126_97, e126_98, e126_99, e126_102, eq_self, ne_a, ne_b, ne_c, Nat.reduceEqDiff, lt0, bnd_ok, psh_I, psh_L, psh_R, psh_U, gt_sr, gr_sr, sk_sr, nn_sr, ↓reduceIte, Int.toNat_natCast, Int.reduceToNat, h4, e1, h5, w1]
            exact ih _
      have outer : ∀ q6 q7, run 126 33 [vR 24, vI (s : Int), vI w, vI (mvF f (0 * 11)).1, vI (mvF f (0 * 11)).2, vI (0 - 3), q6, q7] [] σ = some (vI (if w = 0 then (mvF f 77).1 else (mvF f 77).2), σ) := by
        refine bk (P := fun r z => ∀ q6 q7, run 126 33 [vR 24, vI (s : Int), vI w, vI (mvF f (r * 11)).1, vI (mvF f (r * 11)).2, vI (z - 3), q6, q7] [] σ = some (vI (if w = 0 then (mvF f 77).1 else (mvF f 77).2), σ)) (n := 7) ?_ ?_
        · intro q6 q7
          rw [e126_33]
          by_cases h6 : w = 0
          · simp (disch := first | assumption | omega | (exact shp_fok (by first | assumption | exact shp_sr _ _ (by assumption) | exact shp_sr _ _ (shp_sr _ _ (by assumption)) | exact shp_sr _ _ (shp_sr _ _ (shp_sr _ _ (by assumption)))) (by decide)) | (simp only [fok_sr, aok_sr]; first | assumption | (exact shp_fok (by first | assumption | exact shp_sr _ _ (by assumption) | exact shp_sr _ _ (shp_sr _ _ (by assumption)) | exact shp_sr _ _ (shp_sr _ _ (shp_sr _ _ (by assumption)))) (by decide))) | (refine shp_aok (by first | assumption | exact shp_sr _ _ (by assumption) | exact shp_sr _ _ (shp_sr _ _ (by assumption)) | exact shp_sr _ _ (shp_sr _ _ (shp_sr _ _ (by assumption)))) rfl rfl ?_ ?_ <;> omega) | (exact shp_sr _ _ (by assumption)) | (exact shp_sr _ _ (shp_sr _ _ (by assumption))) | (exact shp_sr _ _ (shp_sr _ _ (shp_sr _ _ (by assumption)))) | (left; assumption) | (exact b2i_or _) | (simp; done)) only [e126_35, e126_36, e126_111, e126_112, e126_115, e126_116, e126_119, e126_121, eq_self, ne_a, ne_b, ne_c, Nat.reduceEqDiff, lt0, bnd_ok, psh_I, psh_L, psh_R, psh_U, gt_sr, gr_sr, sk_sr, nn_sr, ↓reduceIte, Int.toNat_natCast, Int.reduceToNat, show (((7 : Nat) : Int) - 3) = 4 from rfl, Int.reduceLT, h6]
            try rfl
          · simp (disch := first | assumption | omega | (exact shp_fok (by first | assumption | exact shp_sr _ _ (by assumption) | exact shp_sr _ _ (shp_sr _ _ (by assumption)) | exact shp_sr _ _ (shp_sr _ _ (shp_sr _ _ (by assumption)))) (by decide)) | (simp only [fok_sr, aok_sr]; first | assumption | (exact shp_fok (by first | assumption | exact shp_sr _ _ (by assumption) | exact shp_sr _ _ (shp_sr _ _ (by assumption)) | exact shp_sr _ _ (shp_sr _ _ (shp_sr _ _ (by assumption)))) (by decide))) | (refine shp_aok (by first | assumption | exact shp_sr _ _ (by assumption) | exact shp_sr _ _ (shp_sr _ _ (by assumption)) | exact shp_sr _ _ (shp_sr _ _ (shp_sr _ _ (by assumption)))) rfl rfl ?_ ?_ <;> omega) | (exact shp_sr _ _ (by assumption)) | (exact shp_sr _ _ (shp_sr _ _ (by assumption))) | (exact shp_sr _ _ (shp_sr _ _ (shp_sr _ _ (by assumption)))) | (left; assumption) | (exact b2i_or _) | (simp; done)) only [e126_35, e126_36, e126_111, e126_112, e126_115, e126_116, e126_119, e126_121, eq_self, ne_a, ne_b, ne_c, Nat.reduceEqDiff, lt0, bnd_ok, psh_I, psh_L, psh_R, psh_U, gt_sr, gr_sr, sk_sr, nn_sr, ↓reduceIte, Int.toNat_natCast, Int.reduceToNat, show (((7 : Nat) : Int) - 3) = 4 from rfl, Int.reduceLT, h6]
            try rfl
        · intro r hr hr' ih q6 q7
          have h4 : (r : Int) - 3 < 4 := by omega
          have w1 : wr ((r : Int) - 3 + 1) = (r : Int) + 1 - 3 := by rw [wr_id (by omega) (by omega)]; omega
          rw [e126_33]
          simp (disch := first | assumption | omega | (exact shp_fok (by first | assumption | exact shp_sr _ _ (by assumption) | exact shp_sr _ _ (shp_sr _ _ (by assumption)) | exact shp_sr _ _ (shp_sr _ _ (shp_sr _ _ (by assumption)))) (by decide)) | (simp only [fok_sr, aok_sr]; first | assumption | (exact shp_fok (by first | assumption | exact shp_sr _ _ (by assumption) | exact shp_sr _ _ (shp_sr _ _ (by assumption)) | exact shp_sr _ _ (shp_sr _ _ (shp_sr _ _ (by assumption)))) (by decide))) | (refine shp_aok (by first | assumption | exact shp_sr _ _ (by assumption) | exact shp_sr _ _ (shp_sr _ _ (by assumption)) | exact shp_sr _ _ (shp_sr _ _ (shp_sr _ _ (by assumption)))) rfl rfl ?_ ?_ <;> omega) | (exact shp_sr _ _ (by assumption)) | (exact shp_sr _ _ (shp_sr _ _ (by assumption))) | (exact shp_sr _ _ (shp_sr _ _ (shp_sr _ _ (by assumption)))) | (left; assumption) | (exact b2i_or _) | (simp; done)) only [e126_35, e126_36, e126_39, e126_41, eq_self, ne_a, ne_b, ne_c, Nat.reduceEqDiff, lt0, bnd_ok, psh_I, psh_L, psh_R, psh_U, gt_sr, gr_sr, sk_sr, nn_sr, ↓reduceIte, Int.toNat_natCast, Int.reduceToNat, h4]
          refine inner r hr _ (fun q7 => ?_) q7
          simp (disch := first | assumption | omega | (exact shp_fok (by first | assumption | exact shp_sr _ _ (by assumption) | exact shp_sr _ _ (shp_sr _ _ (by assumption)) | exact shp_sr _ _ (shp_sr _ _ (shp_sr _ _ (by assumption)))) (by decide)) | (simp only [fok_sr, aok_sr]; first | assumption | (exact shp_fok (by first | assumption | exact shp_sr _ _ (by assumption) | exact shp_sr _ _ (shp_sr _ _ (by assumption)) | exact shp_sr _ _ (shp_sr _ _ (shp_sr _ _ (by assumption)))) (by decide))) | (refine shp_aok (by first | assumption | exact shp_sr _ _ (by assumption) | exact shp_sr _ _ (shp_sr _ _ (by assumption)) | exact shp_sr _ _ (shp_sr _ _ (shp_sr _ _ (by assumption)))) rfl rfl ?_ ?_ <;> omega) | (exact shp_sr _ _ (by assumption)) | (exact shp_sr _ _ (shp_sr _ _ (by assumption))) | (exact shp_sr _ _ (shp_sr _ _ (shp_sr _ _ (by assumption)))) | (left; assumption) | (exact b2i_or _) | (simp; done)) only [e126_105, e126_108, eq_self, ne_a, ne_b, ne_c, Nat.reduceEqDiff, lt0, bnd_ok, psh_I, psh_L, psh_R, psh_U, gt_sr, gr_sr, sk_sr, nn_sr, ↓reduceIte, Int.toNat_natCast, Int.reduceToNat, w1]
          have := ih (vI 6) q7
          rw [Nat.add_mul] at this
          exact this
      rw [if_pos rfl, if_pos h1]
      have h0 := outer vU vU
      simp (disch := first | assumption | omega | (exact shp_fok (by first | assumption | exact shp_sr _ _ (by assumption) | exact shp_sr _ _ (shp_sr _ _ (by assumption)) | exact shp_sr _ _ (shp_sr _ _ (shp_sr _ _ (by assumption)))) (by decide)) | (simp only [fok_sr, aok_sr]; first | assumption | (exact shp_fok (by first | assumption | exact shp_sr _ _ (by assumption) | exact shp_sr _ _ (shp_sr _ _ (by assumption)) | exact shp_sr _ _ (shp_sr _ _ (shp_sr _ _ (by assumption)))) (by decide))) | (refine shp_aok (by first | assumption | exact shp_sr _ _ (by assumption) | exact shp_sr _ _ (shp_sr _ _ (by assumption)) | exact shp_sr _ _ (shp_sr _ _ (shp_sr _ _ (by assumption)))) rfl rfl ?_ ?_ <;> omega) | (exact shp_sr _ _ (by assumption)) | (exact shp_sr _ _ (shp_sr _ _ (by assumption))) | (exact shp_sr _ _ (shp_sr _ _ (shp_sr _ _ (by assumption)))) | (left; assumption) | (exact b2i_or _) | (simp; done)) only [e126_0, e126_1, e126_2, e126_5, e126_8, e126_9, e126_10, e126_11, e126_12, e126_13, e126_16, e126_19, e126_21, e126_22, e126_24, e126_25, e126_27, e126_29, e126_31, eq_self, ne_a, ne_b, ne_c, Nat.reduceEqDiff, lt0, bnd_ok, psh_I, psh_L, psh_R, psh_U, gt_sr, gr_sr, sk_sr, nn_sr, ↓reduceIte, Int.toNat_natCast, Int.reduceToNat, q1, b2i_t, m_in, if_pos h1, Int.reduceEq]
      exact h0
    · rw [if_pos rfl, if_neg h1]
      simp (disch := first | assumption | omega | (exact shp_fok (by first | assumption | exact shp_sr _ _ (by assumption) | exact shp_sr _ _ (shp_sr _ _ (by assumption)) | exact shp_sr _ _ (shp_sr _ _ (shp_sr _ _ (by assumption)))) (by decide)) | (simp only [fok_sr, aok_sr]; first | assumption | (exact shp_fok (by first | assumption | exact shp_sr _ _ (by assumption) | exact shp_sr _ _ (shp_sr _ _ (by assumption)) | exact shp_sr _ _ (shp_sr _ _ (shp_sr _ _ (by assumption)))) (by decide))) | (refine shp_aok (by first | assumption | exact shp_sr _ _ (by assumption) | exact shp_sr _ _ (shp_sr _ _ (by assumption)) | exact shp_sr _ _ (shp_sr _ _ (shp_sr _ _ (by assumption)))) rfl rfl ?_ ?_ <;> omega) | (exact shp_sr _ _ (by assumption)) | (exact shp_sr _ _ (shp_sr _ _ (by assumption))) | (exact shp_sr _ _ (shp_sr _ _ (shp_sr _ _ (by assumption)))) | (left; assumption) | (exact b2i_or _) | (simp; done)) only [e126_0, e126_1, e126_2, e126_5, e126_8, e126_9, e126_10, e126_11, e126_12, e126_13, e126_16, e126_19, e126_21, eq_self, ne_a, ne_b, ne_c, Nat.reduceEqDiff, lt0, bnd_ok, psh_I, psh_L, psh_R, psh_U, gt_sr, gr_sr, sk_sr, nn_sr, ↓reduceIte, Int.toNat_natCast, Int.reduceToNat, q1, b2i_t, m_in, if_neg h1, Int.reduceEq]
theorem anN_24 {p : Nat → Bool} {n : Nat} (hn : n ≤ 24) (h : ∀ i, n ≤ i → i < 24 → p i = false) : anN p 24 = anN p n := by
  obtain ⟨m, hm⟩ : ∃ m, 24 = n + m := ⟨24 - n, by omega⟩
  rw [hm]
  have key : ∀ j, j ≤ m → anN p (n + j) = anN p n := by
    intro j
    induction j with
    | zero => intro _; rfl
    | succ j ih =>
      intro hj
      show (anN p (n + j) || p (n + j)) = _
      rw [ih (by omega), h _ (by omega) (by omega), Bool.or_false]
  exact key m (Nat.le_refl _)
set_option maxRecDepth 100000 in
set_option maxHeartbeats 4000000 in
theorem m_areApart {σ : St} {d : Dat} (h : mfx σ d) (ho : okd d) {s q : Nat} (hs4 : s < 4) (hq4 : q < 4) : run 128 0 [vR 24, vI (s : Int), vI (q : Int), vU, vU, vU, vU] [] σ = some (vI (b2i (nvD d s q)), σ) := by
  obtain ⟨hs, d0, d1, d4, d5, hw⟩ := h
  have h24 := dn24 ho
  have hsl := ho.2.2.1
  have hN : nvD d s q = anN (nvC d s q) 24 := by
    unfold nvD
    rw [anN_24 h24]
    intro i h1 h2
    unfold nvC
    exact decide_eq_false (fun h => h.1 (ho.2.2.2.2.2.2.2.2.2.2.2.2.1 s i hs4 h1 h2))
  rw [hN]
  have L : ∀ q5 q6, run 128 5 [vR 24, vI (s : Int), vI (q : Int), vI (b2i (anN (nvC d s q) 0)), vI 0, q5, q6] [] σ = some (vI (b2i (anN (nvC d s q) 24)), σ) := by
    refine bk (P := fun k z => ∀ q5 q6, run 128 5 [vR 24, vI (s : Int), vI (q : Int), vI (b2i (anN (nvC d s q) k)), vI z, q5, q6] [] σ = some (vI (b2i (anN (nvC d s q) 24)), σ)) (n := 24) ?_ ?_
    · intro q5 q6
      rw [e128_5]
      simp (disch := first | assumption | omega | (exact shp_fok (by first | assumption | exact shp_sr _ _ (by assumption) | exact shp_sr _ _ (shp_sr _ _ (by assumption)) | exact shp_sr _ _ (shp_sr _ _ (shp_sr _ _ (by assumption)))) (by decide)) | (simp only [fok_sr, aok_sr]; first | assumption | (exact shp_fok (by first | assumption | exact shp_sr _ _ (by assumption) | exact shp_sr _ _ (shp_sr _ _ (by assumption)) | exact shp_sr _ _ (shp_sr _ _ (shp_sr _ _ (by assumption)))) (by decide))) | (refine shp_aok (by first | assumption | exact shp_sr _ _ (by assumption) | exact shp_sr _ _ (shp_sr _ _ (by assumption)) | exact shp_sr _ _ (shp_sr _ _ (shp_sr _ _ (by assumption)))) rfl rfl ?_ ?_ <;> omega) | (exact shp_sr _ _ (by assumption)) | (exact shp_sr _ _ (shp_sr _ _ (by assumption))) | (exact shp_sr _ _ (shp_sr _ _ (shp_sr _ _ (by assumption)))) | (left; assumption) | (exact b2i_or _) | (simp; done)) only [e128_7, e128_9, e128_94, e128_95, eq_self, ne_a, ne_b, ne_c, Nat.reduceEqDiff, lt0, bnd_ok, psh_I, psh_L, psh_R, psh_U, gt_sr, gr_sr, sk_sr, nn_sr, ↓reduceIte, Int.toNat_natCast, Int.reduceToNat, Int.cast_ofNat_Int, Int.reduceLT]
    · intro k hk hk' ih q5 q6
      have h4 : (k : Int) < 24 := hk'
      have w5 : wr ((k : Int) + 1) = (k : Int) + 1 := wr_id (by omega) (by omega)
      have w1 : wr (wr (24 * (s : Int)) + (k : Int)) = ((s * 24 + k : Nat) : Int) := by
        rw [wr_id (z := 24 * (s : Int)) (by omega) (by omega), wr_id (by omega) (by omega)]; omega
      have w2 : wr (wr (24 * (q : Int)) + (k : Int)) = ((q * 24 + k : Nat) : Int) := by
        rw [wr_id (z := 24 * (q : Int)) (by omega) (by omega), wr_id (by omega) (by omega)]; omega
      have b1 := ok_w ho (s * 24 + k) (by omega)
      have b2 := ok_w ho (q * 24 + k) (by omega)
      have e3 : anN (nvC d s q) (k + 1) = (anN (nvC d s q) k || nvC d s q k) := rfl
      have e4 : nvC d s q k = decide (dwa d (s * 24 + k) ≠ -1 ∧ dwa d (q * 24 + k) ≠ -1 ∧ 2 * dsl d < (dwa d (s * 24 + k) - dwa d (q * 24 + k)).natAbs) := rfl
      rw [e3, e4] at ih
      rw [e128_5]
      have hij : ∀ i, i = s * 24 + k → i < 96 := by omega
      have hij2 : ∀ i, i = q * 24 + k → i < 96 := by omega
      generalize hA : dwa d (s * 24 + k) = A at *
      generalize hB : dwa d (q * 24 + k) = B at *
      have w6 : wr (A - B) = A - B := wr_id (by omega) (by omega)
      have w7 : wr (B - A) = B - A := wr_id (by omega) (by omega)
      have w8 : wr (2 * dsl d) = 2 * dsl d := wr_id (by omega) (by omega)
      cases hx : anN (nvC d s q) k with
      | true =>
        rw [hx, Bool.true_or] at ih
        simp (disch := first | assumption | omega | (exact shp_fok (by first | assumption | exact shp_sr _ _ (by assumption) | exact shp_sr _ _ (shp_sr _ _ (by assumption)) | exact shp_sr _ _ (shp_sr _ _ (shp_sr _ _ (by assumption)))) (by decide)) | (simp only [fok_sr, aok_sr]; first | assumption | (exact shp_fok (by first | assumption | exact shp_sr _ _ (by assumption) | exact shp_sr _ _ (shp_sr _ _ (by assumption)) | exact shp_sr _ _ (shp_sr _ _ (shp_sr _ _ (by assumption)))) (by decide))) | (refine shp_aok (by first | assumption | exact shp_sr _ _ (by assumption) | exact shp_sr _ _ (shp_sr _ _ (by assumption)) | exact shp_sr _ _ (shp_sr _ _ (shp_sr _ _ (by assumption)))) rfl rfl ?_ ?_ <;> omega) | (exact shp_sr _ _ (by assumption)) | (exact shp_sr _ _ (shp_sr _ _ (by assumption))) | (exact shp_sr _ _ (shp_sr _ _ (shp_sr _ _ (by assumption)))) | (left; assumption) | (exact b2i_or _) | (simp; done)) only [e128_7, e128_9, e128_12, e128_13, e128_16, e128_18, e128_19, e128_20, e128_22, e128_23, e128_24, e128_26, e128_27, e128_30, e128_32, e128_33, e128_34, e128_36, e128_37, e128_38, e128_40, e128_41, e128_44, e128_46, e128_49, e128_51, e128_54, e128_56, e128_58, e128_59, e128_60, e128_61, e128_64, e128_65, e128_68, e128_70, e128_72, e128_73, e128_74, e128_75, e128_78, e128_79, e128_82, e128_83, e128_86, e128_87, e128_88, e128_91, eq_self, ne_a, ne_b, ne_c, Nat.reduceEqDiff, lt0, bnd_ok, psh_I, psh_L, psh_R, psh_U, gt_sr, gr_sr, sk_sr, nn_sr, ↓reduceIte, Int.toNat_natCast, Int.reduceToNat, g24_6, hw, h4, w1, w2, hA, hB, b2i_t, w5, Int.reduceEq]
        exact ih _ _
      | false =>
        rw [hx, Bool.false_or] at ih
        by_cases k1 : A < 0
        · rw [decide_eq_false (by omega)] at ih
          simp (disch := first | assumption | omega | (exact shp_fok (by first | assumption | exact shp_sr _ _ (by assumption) | exact shp_sr _ _ (shp_sr _ _ (by assumption)) | exact shp_sr _ _ (shp_sr _ _ (shp_sr _ _ (by assumption)))) (by decide)) | (simp only [fok_sr, aok_sr]; first | assumption | (exact shp_fok (by first | assumption | exact shp_sr _ _ (by assumption) | exact shp_sr _ _ (shp_sr _ _ (by assumption)) | exact shp_sr _ _ (shp_sr _ _ (shp_sr _ _ (by assumption)))) (by decide))) | (refine shp_aok (by first | assumption | exact shp_sr _ _ (by assumption) | exact shp_sr _ _ (shp_sr _ _ (by assumption)) | exact shp_sr _ _ (shp_sr _ _ (shp_sr _ _ (by assumption)))) rfl rfl ?_ ?_ <;> omega) | (exact shp_sr _ _ (by assumption)) | (exact shp_sr _ _ (shp_sr _ _ (by assumption))) | (exact shp_sr _ _ (shp_sr _ _ (shp_sr _ _ (by assumption)))) | (left; assumption) | (exact b2i_or _) | (simp; done)) only [e128_7, e128_9, e128_12, e128_13, e128_16, e128_18, e128_19, e128_20, e128_22, e128_23, e128_24, e128_26, e128_27, e128_30, e128_32, e128_33, e128_34, e128_36, e128_37, e128_38, e128_40, e128_41, e128_44, e128_46, e128_49, e128_51, e128_54, e128_56, e128_58, e128_59, e128_60, e128_61, e128_64, e128_65, e128_68, e128_70, e128_72, e128_73, e128_74, e128_75, e128_78, e128_79, e128_82, e128_83, e128_86, e128_87, e128_88, e128_91, eq_self, ne_a, ne_b, ne_c, Nat.reduceEqDiff, lt0, bnd_ok, psh_I, psh_L, psh_R, psh_U, gt_sr, gr_sr, sk_sr, nn_sr, ↓reduceIte, Int.toNat_natCast, Int.reduceToNat, g24_6, hw, h4, w1, w2, hA, hB, b2i_f, w5, k1]
          exact ih _ _
        · by_cases k2 : B < 0
          · rw [decide_eq_false (by omega)] at ih
            simp (disch := first | assumption | omega | (exact shp_fok (by first | assumption | exact shp_sr _ _ (by assumption) | exact shp_sr _ _ (shp_sr _ _ (by assumption)) | exact shp_sr _ _ (shp_sr _ _ (shp_sr _ _ (by assumption)))) (by decide)) | (simp only [fok_sr, aok_sr]; first | assumption | (exact shp_fok (by first | assumption | exact shp_sr _ _ (by assumption) | exact shp_sr _ _ (shp_sr _ _ (by assumption)) | exact shp_sr _ _ (shp_sr _ _ (shp_sr _ _ (by assumption)))) (by decide))) | (refine shp_aok (by first | assumption | exact shp_sr _ _ (by assumption) | exact shp_sr _ _ (shp_sr _ _ (by assumption)) | exact shp_sr _ _ (shp_sr _ _ (shp_sr _ _ (by assumption)))) rfl rfl ?_ ?_ <;> omega) | (exact shp_sr _ _ (by assumption)) | (exact shp_sr _ _ (shp_sr _ _ (by assumption))) | (exact shp_sr _ _ (shp_sr _ _ (shp_sr _ _ (by assumption)))) | (left; assumption) | (exact b2i_or _) | (simp; done)) only [e128_7, e128_9, e128_12, e128_13, e128_16, e128_18, e128_19, e128_20, e128_22, e128_23, e128_24, e128_26, e128_27, e128_30, e128_32, e128_33, e128_34, e128_36, e128_37, e128_38, e128_40, e128_41, e128_44, e128_46, e128_49, e128_51, e128_54, e128_56, e128_58, e128_59, e128_60, e128_61, e128_64, e128_65, e128_68, e128_70, e128_72, e128_73, e128_74, e128_75, e128_78, e128_79, e128_82, e128_83, e128_86, e128_87, e128_88, e128_91, eq_self, ne_a, ne_b, ne_c, Nat.reduceEqDiff, lt0, bnd_ok, psh_I, psh_L, psh_R, psh_U, gt_sr, gr_sr, sk_sr, nn_sr, ↓reduceIte, Int.toNat_natCast, Int.reduceToNat, g24_6, hw, h4, w1, w2, hA, hB, b2i_f, w5, k1, k2]
            exact ih _ _
          · by_cases k3 : 2 * dsl d < A - B
            · rw [decide_eq_true (by omega)] at ih
              simp (disch := first | assumption | omega | (exact shp_fok (by first | assumption | exact shp_sr _ _ (by assumption) | exact shp_sr _ _ (shp_sr _ _ (by assumption)) | exact shp_sr _ _ (shp_sr _ _ (shp_sr _ _ (by assumption)))) (by decide)) | (simp only [fok_sr, aok_sr]; first | assumption | (exact shp_fok (by first | assumption | exact shp_sr _ _ (by assumption) | exact shp_sr _ _ (shp_sr _ _ (by assumption)) | exact shp_sr _ _ (shp_sr _ _ (shp_sr _ _ (by assumption)))) (by decide))) | (refine shp_aok (by first | assumption | exact shp_sr _ _ (by assumption) | exact shp_sr _ _ (shp_sr _ _ (by assumption)) | exact shp_sr _ _ (shp_sr _ _ (shp_sr _ _ (by assumption)))) rfl rfl ?_ ?_ <;> omega) | (exact shp_sr _ _ (by assumption)) | (exact shp_sr _ _ (shp_sr _ _ (by assumption))) | (exact shp_sr _ _ (shp_sr _ _ (shp_sr _ _ (by assumption)))) | (left; assumption) | (exact b2i_or _) | (simp; done)) only [e128_7, e128_9, e128_12, e128_13, e128_16, e128_18, e128_19, e128_20, e128_22, e128_23, e128_24, e128_26, e128_27, e128_30, e128_32, e128_33, e128_34, e128_36, e128_37, e128_38, e128_40, e128_41, e128_44, e128_46, e128_49, e128_51, e128_54, e128_56, e128_58, e128_59, e128_60, e128_61, e128_64, e128_65, e128_68, e128_70, e128_72, e128_73, e128_74, e128_75, e128_78, e128_79, e128_82, e128_83, e128_86, e128_87, e128_88, e128_91, eq_self, ne_a, ne_b, ne_c, Nat.reduceEqDiff, lt0, bnd_ok, psh_I, psh_L, psh_R, psh_U, gt_sr, gr_sr, sk_sr, nn_sr, ↓reduceIte, Int.toNat_natCast, Int.reduceToNat, g24_6, hw, h4, w1, w2, hA, hB, b2i_f, w5, k1, k2, d5, w6, w8, k3]
              exact ih _ _
            · by_cases k4 : 2 * dsl d < B - A
              · rw [decide_eq_true (by omega)] at ih
                simp (disch := first | assumption | omega | (exact shp_fok (by first | assumption | exact shp_sr _ _ (by assumption) | exact shp_sr _ _ (shp_sr _ _ (by assumption)) | exact shp_sr _ _ (shp_sr _ _ (shp_sr _ _ (by assumption)))) (by decide)) | (simp only [fok_sr, aok_sr]; first | assumption | (exact shp_fok (by first | assumption | exact shp_sr _ _ (by assumption) | exact shp_sr _ _ (shp_sr _ _ (by assumption)) | exact shp_sr _ _ (shp_sr _ _ (shp_sr _ _ (by assumption)))) (by decide))) | (refine shp_aok (by first | assumption | exact shp_sr _ _ (by assumption) | exact shp_sr _ _ (shp_sr _ _ (by assumption)) | exact shp_sr _ _ (shp_sr _ _ (shp_sr _ _ (by assumption)))) rfl rfl ?_ ?_ <;> omega) | (exact shp_sr _ _ (by assumption)) | (exact shp_sr _ _ (shp_sr _ _ (by assumption))) | (exact shp_sr _ _ (shp_sr _ _ (shp_sr _ _ (by assumption)))) | (left; assumption) | (exact b2i_or _) | (simp; done)) only [e128_7, e128_9, e128_12, e128_13, e128_16, e128_18, e128_19, e128_20, e128_22, e128_23, e128_24, e128_26, e128_27, e128_30, e128_32, e128_33, e128_34, e128_36, e128_37, e128_38, e128_40, e128_41, e128_44, e128_46, e128_49, e128_51, e128_54, e128_56, e128_58, e128_59, e128_60, e128_61, e128_64, e128_65, e128_68, e128_70, e128_72, e128_73, e128_74, e128_75, e128_78, e128_79, e128_82, e128_83, e128_86, e128_87, e128_88, e128_91, eq_self, ne_a, ne_b, ne_c, Nat.reduceEqDiff, lt0, bnd_ok, psh_I, psh_L, psh_R, psh_U, gt_sr, gr_sr, sk_sr, nn_sr, ↓reduceIte, Int.toNat_natCast, Int.reduceToNat, g24_6, hw, h4, w1, w2, hA, hB, b2i_f, w5, k1, k2, d5, w6, w7, w8, k3, k4]
                exact ih _ _
              · rw [decide_eq_false (by omega)] at ih
                simp (disch := first | assumption | omega | (exact shp_fok (by first | assumption | exact shp_sr _ _ (by assumption) | exact shp_sr _ _ (shp_sr _ _ (by assumption)) | exact shp_sr _ _ (shp_sr _ _ (shp_sr _ _ (by assumption)))) (by decide)) | (simp only [fok_sr, aok_sr]; first | assumption | (exact shp_fok (by first | assumption | exact shp_sr _ _ (by assumption) | exact shp_sr _ _ (shp_sr _ _ (by assumption)) | exact shp_sr _ _ (shp_sr _ _ (shp_sr _ _ (by assumption)))) (by decide))) | (refine shp_aok (by first | assumption | exact shp_sr _ _ (by assumption) | exact shp_sr _ _ (shp_sr _ _ (by assumption)) | exact shp_sr _ _ (shp_sr _ _ (shp_sr _ _ (by assumption)))) rfl rfl ?_ ?_ <;> omega) | (exact shp_sr _ _ (by assumption)) | (exact shp_sr _ _ (shp_sr _ _ (by assumption))) | (exact shp_sr _ _ (shp_sr _ _ (shp_sr _ _ (by assumption)))) | (left; assumption) | (exact b2i_or _) | (simp; done)) only [e128_7, e128_9, e128_12, e128_13, e128_16, e128_18, e128_19, e128_20, e128_22, e128_23, e128_24, e128_26, e128_27, e128_30, e128_32, e128_33, e128_34, e128_36, e128_37, e128_38, e128_40, e128_41, e128_44, e128_46, e128_49, e128_51, e128_54, e128_56, e128_58, e128_59, e128_60, e128_61, e128_64, e128_65, e128_68, e128_70, e128_72, e128_73, e128_74, e128_75, e128_78, e128_79, e128_82, e128_83, e128_86, e128_87, e128_88, e128_91, eq_self, ne_a, ne_b, ne_c, Nat.reduceEqDiff, lt0, bnd_ok, psh_I, psh_L, psh_R, psh_U, gt_sr, gr_sr, sk_sr, nn_sr, ↓reduceIte, Int.toNat_natCast, Int.reduceToNat, g24_6, hw, h4, w1, w2, hA, hB, b2i_f, w5, k1, k2, d5, w6, w7, w8, k3, k4]
                exact ih _ _
  simp (disch := first | assumption | omega | (exact shp_fok (by first | assumption | exact shp_sr _ _ (by assumption) | exact shp_sr _ _ (shp_sr _ _ (by assumption)) | exact shp_sr _ _ (shp_sr _ _ (shp_sr _ _ (by assumption)))) (by decide)) | (simp only [fok_sr, aok_sr]; first | assumption | (exact shp_fok (by first | assumption | exact shp_sr _ _ (by assumption) | exact shp_sr _ _ (shp_sr _ _ (by assumption)) | exact shp_sr _ _ (shp_sr _ _ (shp_sr _ _ (by assumption)))) (by decide))) | (refine shp_aok (by first | assumption | exact shp_sr _ _ (by assumption) | exact shp_sr _ _ (shp_sr _ _ (by assumption)) | exact shp_sr _ _ (shp_sr _ _ (shp_sr _ _ (by assumption)))) rfl rfl ?_ ?_ <;> omega) | (exact shp_sr _ _ (by assumption)) | (exact shp_sr _ _ (shp_sr _ _ (by assumption))) | (exact shp_sr _ _ (shp_sr _ _ (shp_sr _ _ (by assumption)))) | (left; assumption) | (exact b2i_or _) | (simp; done)) only [e128_0, e128_1, e128_2, e128_3, eq_self, ne_a, ne_b, ne_c, Nat.reduceEqDiff, lt0, bnd_ok, psh_I, psh_L, psh_R, psh_U, gt_sr, gr_sr, sk_sr, nn_sr, ↓reduceIte, Int.toNat_natCast, Int.reduceToNat]
  exact L _ _
set_option maxRecDepth 100000 in
set_option maxHeartbeats 4000000 in
theorem m_areCells {σ : St} {d : Dat} (h : mfx σ d) (ho : okd d) (z : Int) : run 133 0 [vR 24, vI z] [] σ = some (vI (if 0 ≤ z ∧ z ≤ ((2 ^ dn_ d : Nat) : Int) - 1 then 1 else 0), σ) := by
  have ec := m_cells h ho
  have hs := h.1
  have h24 := dn24 ho
  have hp := pow24 h24
  have o1 := bShl_N (a := 1) (k := dn_ d) (by omega) (by omega) (by omega)
  rw [Nat.one_mul, show ((1 : Nat) : Int) = 1 from rfl] at o1
  have w1 : wr (((2 ^ dn_ d : Nat) : Int) - 1) = ((2 ^ dn_ d : Nat) : Int) - 1 := wr_id (by omega) (by omega)
  clear hp
  generalize 2 ^ dn_ d = P at *
  by_cases h1 : 0 ≤ z ∧ z ≤ (P : Int) - 1
  · simp (disch := first | (left; rfl) | (right; rfl) | first | assumption | omega | (exact shp_fok (by first | assumption | exact shp_sr _ _ (by assumption) | exact shp_sr _ _ (shp_sr _ _ (by assumption)) | exact shp_sr _ _ (shp_sr _ _ (shp_sr _ _ (by assumption)))) (by decide)) | (simp only [fok_sr, aok_sr]; first | assumption | (exact shp_fok (by first | assumption | exact shp_sr _ _ (by assumption) | exact shp_sr _ _ (shp_sr _ _ (by assumption)) | exact shp_sr _ _ (shp_sr _ _ (shp_sr _ _ (by assumption)))) (by decide))) | (refine shp_aok (by first | assumption | exact shp_sr _ _ (by assumption) | exact shp_sr _ _ (shp_sr _ _ (by assumption)) | exact shp_sr _ _ (shp_sr _ _ (shp_sr _ _ (by assumption)))) rfl rfl ?_ ?_ <;> omega) | (exact shp_sr _ _ (by assumption)) | (exact shp_sr _ _ (shp_sr _ _ (by assumption))) | (exact shp_sr _ _ (shp_sr _ _ (shp_sr _ _ (by assumption)))) | (left; assumption) | (exact b2i_or _) | (simp; done)) only [e133_0, e133_1, e133_2, e133_3, e133_4, e133_7, e133_8, e133_9, e133_10, e133_13, eq_self, ne_a, ne_b, ne_c, Nat.reduceEqDiff, lt0, bnd_ok, psh_I, psh_L, psh_R, psh_U, gt_sr, gr_sr, sk_sr, nn_sr, ↓reduceIte, Int.toNat_natCast, Int.reduceToNat, ec, o1, w1, m_in, if_pos h1]
  · simp (disch := first | (left; rfl) | (right; rfl) | first | assumption | omega | (exact shp_fok (by first | assumption | exact shp_sr _ _ (by assumption) | exact shp_sr _ _ (shp_sr _ _ (by assumption)) | exact shp_sr _ _ (shp_sr _ _ (shp_sr _ _ (by assumption)))) (by decide)) | (simp only [fok_sr, aok_sr]; first | assumption | (exact shp_fok (by first | assumption | exact shp_sr _ _ (by assumption) | exact shp_sr _ _ (shp_sr _ _ (by assumption)) | exact shp_sr _ _ (shp_sr _ _ (shp_sr _ _ (by assumption)))) (by decide))) | (refine shp_aok (by first | assumption | exact shp_sr _ _ (by assumption) | exact shp_sr _ _ (shp_sr _ _ (by assumption)) | exact shp_sr _ _ (shp_sr _ _ (shp_sr _ _ (by assumption)))) rfl rfl ?_ ?_ <;> omega) | (exact shp_sr _ _ (by assumption)) | (exact shp_sr _ _ (shp_sr _ _ (by assumption))) | (exact shp_sr _ _ (shp_sr _ _ (shp_sr _ _ (by assumption)))) | (left; assumption) | (exact b2i_or _) | (simp; done)) only [e133_0, e133_1, e133_2, e133_3, e133_4, e133_7, e133_8, e133_9, e133_10, e133_13, eq_self, ne_a, ne_b, ne_c, Nat.reduceEqDiff, lt0, bnd_ok, psh_I, psh_L, psh_R, psh_U, gt_sr, gr_sr, sk_sr, nn_sr, ↓reduceIte, Int.toNat_natCast, Int.reduceToNat, ec, o1, w1, m_in, if_neg h1]
theorem nx_24 {d : Dat} (ho : okd d) (x : Nat) : nx (dt d) x 24 = nx (dt d) x (dn_ d) := by
  have h24 := dn24 ho
  obtain ⟨m, hm⟩ : ∃ m, 24 = dn_ d + m := ⟨24 - dn_ d, by omega⟩
  rw [hm]
  have key : ∀ j, nx (dt d) x (dn_ d + j) = nx (dt d) x (dn_ d) := by
    intro j
    induction j with
    | zero => rfl
    | succ j ih =>
      show nx (dt d) x (dn_ d + j) ^^^ (if x.testBit (dn_ d + j) = true then (dt d (dn_ d + j)).toNat else 0) = _
      rw [ih, ok_zt ho (dn_ d + j) (by omega)]
      have : (if x.testBit (dn_ d + j) = true then (0 : Int).toNat else 0) = 0 := by split <;> rfl
      rw [this, Nat.xor_zero]
  exact key m
set_option maxRecDepth 100000 in
set_option maxHeartbeats 4000000 in
theorem m_over {σ : St} {d : Dat} (hs : shp σ) (h25 : gt σ 25 = dt d) (ho : okd d) {x : Nat} (hx : x < 2147483648) : run 134 0 [vR 24, vI (x : Int), vU, vU] [] σ = some (vI (nx (dt d) x (dn_ d) : Nat), σ) := by
  rw [← nx_24 ho]
  have ht := ok_t ho
  have hlt := nx_lt ht x
  have L : run 134 4 [vR 24, vI (x : Int), vI (nx (dt d) x 0 : Nat), vI 0] [] σ = some (vI (nx (dt d) x 24 : Nat), σ) := by
    refine bk (P := fun k z => run 134 4 [vR 24, vI (x : Int), vI (nx (dt d) x k : Nat), vI z] [] σ = some (vI (nx (dt d) x 24 : Nat), σ)) (n := 24) ?_ ?_
    · rw [e134_4]
      simp (disch := first | assumption | omega | (exact shp_fok (by first | assumption | exact shp_sr _ _ (by assumption) | exact shp_sr _ _ (shp_sr _ _ (by assumption)) | exact shp_sr _ _ (shp_sr _ _ (shp_sr _ _ (by assumption)))) (by decide)) | (simp only [fok_sr, aok_sr]; first | assumption | (exact shp_fok (by first | assumption | exact shp_sr _ _ (by assumption) | exact shp_sr _ _ (shp_sr _ _ (by assumption)) | exact shp_sr _ _ (shp_sr _ _ (shp_sr _ _ (by assumption)))) (by decide))) | (refine shp_aok (by first | assumption | exact shp_sr _ _ (by assumption) | exact shp_sr _ _ (shp_sr _ _ (by assumption)) | exact shp_sr _ _ (shp_sr _ _ (shp_sr _ _ (by assumption)))) rfl rfl ?_ ?_ <;> omega) | (exact shp_sr _ _ (by assumption)) | (exact shp_sr _ _ (shp_sr _ _ (by assumption))) | (exact shp_sr _ _ (shp_sr _ _ (shp_sr _ _ (by assumption)))) | (left; assumption) | (exact b2i_or _) | (simp; done)) only [e134_0, e134_1, e134_2, e134_3, e134_5, e134_7, e134_10, e134_11, e134_12, e134_13, e134_16, e134_19, e134_20, e134_23, e134_24, e134_25, e134_28, e134_29, e134_30, e134_31, e134_34, e134_37, e134_38, eq_self, ne_a, ne_b, ne_c, Nat.reduceEqDiff, lt0, bnd_ok, psh_I, psh_L, psh_R, psh_U, gt_sr, gr_sr, sk_sr, nn_sr, ↓reduceIte, Int.toNat_natCast, Int.reduceToNat, Int.cast_ofNat_Int, Int.reduceLT]
    · intro k hk hk' ih
      have h4 : (k : Int) < 24 := hk'
      have w5 : wr ((k : Int) + 1) = (k : Int) + 1 := wr_id (by omega) (by omega)
      have w6 := m_has (x := x) (k := k) hx (by omega) σ
      have e3 : nx (dt d) x (k + 1) = nx (dt d) x k ^^^ (if x.testBit k = true then (dt d k).toNat else 0) := rfl
      have b1 := ht k (by omega)
      have b2 := hlt k (by omega)
      rw [e3] at ih
      rw [e134_4]
      cases hb : x.testBit k with
      | true =>
        rw [hb, if_pos rfl] at ih
        rw [hb] at w6
        obtain ⟨v, hv⟩ := nat_of b1.1
        rw [hv, Int.toNat_natCast] at ih
        have o1 := bXor_N (a := nx (dt d) x k) (b := v) (by omega) (by omega)
        simp (disch := first | assumption | omega | (exact shp_fok (by first | assumption | exact shp_sr _ _ (by assumption) | exact shp_sr _ _ (shp_sr _ _ (by assumption)) | exact shp_sr _ _ (shp_sr _ _ (shp_sr _ _ (by assumption)))) (by decide)) | (simp only [fok_sr, aok_sr]; first | assumption | (exact shp_fok (by first | assumption | exact shp_sr _ _ (by assumption) | exact shp_sr _ _ (shp_sr _ _ (by assumption)) | exact shp_sr _ _ (shp_sr _ _ (shp_sr _ _ (by assumption)))) (by decide))) | (refine shp_aok (by first | assumption | exact shp_sr _ _ (by assumption) | exact shp_sr _ _ (shp_sr _ _ (by assumption)) | exact shp_sr _ _ (shp_sr _ _ (shp_sr _ _ (by assumption)))) rfl rfl ?_ ?_ <;> omega) | (exact shp_sr _ _ (by assumption)) | (exact shp_sr _ _ (shp_sr _ _ (by assumption))) | (exact shp_sr _ _ (shp_sr _ _ (shp_sr _ _ (by assumption)))) | (left; assumption) | (exact b2i_or _) | (simp; done)) only [e134_0, e134_1, e134_2, e134_3, e134_5, e134_7, e134_10, e134_11, e134_12, e134_13, e134_16, e134_19, e134_20, e134_23, e134_24, e134_25, e134_28, e134_29, e134_30, e134_31, e134_34, e134_37, e134_38, eq_self, ne_a, ne_b, ne_c, Nat.reduceEqDiff, lt0, bnd_ok, psh_I, psh_L, psh_R, psh_U, gt_sr, gr_sr, sk_sr, nn_sr, ↓reduceIte, Int.toNat_natCast, Int.reduceToNat, h4, w6, b2i_t, g24_2, h25, hv, o1, w5, Int.reduceEq]
        exact ih
      | false =>
        rw [hb, if_neg Bool.false_ne_true] at ih
        rw [hb] at w6
        have o1 := bXor_N (a := nx (dt d) x k) (b := 0) (by omega) (by omega)
        rw [show ((0 : Nat) : Int) = 0 from rfl] at o1
        simp (disch := first | assumption | omega | (exact shp_fok (by first | assumption | exact shp_sr _ _ (by assumption) | exact shp_sr _ _ (shp_sr _ _ (by assumption)) | exact shp_sr _ _ (shp_sr _ _ (shp_sr _ _ (by assumption)))) (by decide)) | (simp only [fok_sr, aok_sr]; first | assumption | (exact shp_fok (by first | assumption | exact shp_sr _ _ (by assumption) | exact shp_sr _ _ (shp_sr _ _ (by assumption)) | exact shp_sr _ _ (shp_sr _ _ (shp_sr _ _ (by assumption)))) (by decide))) | (refine shp_aok (by first | assumption | exact shp_sr _ _ (by assumption) | exact shp_sr _ _ (shp_sr _ _ (by assumption)) | exact shp_sr _ _ (shp_sr _ _ (shp_sr _ _ (by assumption)))) rfl rfl ?_ ?_ <;> omega) | (exact shp_sr _ _ (by assumption)) | (exact shp_sr _ _ (shp_sr _ _ (by assumption))) | (exact shp_sr _ _ (shp_sr _ _ (shp_sr _ _ (by assumption)))) | (left; assumption) | (exact b2i_or _) | (simp; done)) only [e134_0, e134_1, e134_2, e134_3, e134_5, e134_7, e134_10, e134_11, e134_12, e134_13, e134_16, e134_19, e134_20, e134_23, e134_24, e134_25, e134_28, e134_29, e134_30, e134_31, e134_34, e134_37, e134_38, eq_self, ne_a, ne_b, ne_c, Nat.reduceEqDiff, lt0, bnd_ok, psh_I, psh_L, psh_R, psh_U, gt_sr, gr_sr, sk_sr, nn_sr, ↓reduceIte, Int.toNat_natCast, Int.reduceToNat, h4, w6, b2i_f, o1, w5, Int.reduceEq]
        exact ih
  simp (disch := first | assumption | omega | (exact shp_fok (by first | assumption | exact shp_sr _ _ (by assumption) | exact shp_sr _ _ (shp_sr _ _ (by assumption)) | exact shp_sr _ _ (shp_sr _ _ (shp_sr _ _ (by assumption)))) (by decide)) | (simp only [fok_sr, aok_sr]; first | assumption | (exact shp_fok (by first | assumption | exact shp_sr _ _ (by assumption) | exact shp_sr _ _ (shp_sr _ _ (by assumption)) | exact shp_sr _ _ (shp_sr _ _ (shp_sr _ _ (by assumption)))) (by decide))) | (refine shp_aok (by first | assumption | exact shp_sr _ _ (by assumption) | exact shp_sr _ _ (shp_sr _ _ (by assumption)) | exact shp_sr _ _ (shp_sr _ _ (shp_sr _ _ (by assumption)))) rfl rfl ?_ ?_ <;> omega) | (exact shp_sr _ _ (by assumption)) | (exact shp_sr _ _ (shp_sr _ _ (by assumption))) | (exact shp_sr _ _ (shp_sr _ _ (shp_sr _ _ (by assumption)))) | (left; assumption) | (exact b2i_or _) | (simp; done)) only [e134_0, e134_1, e134_2, e134_3, e134_5, e134_7, e134_10, e134_11, e134_12, e134_13, e134_16, e134_19, e134_20, e134_23, e134_24, e134_25, e134_28, e134_29, e134_30, e134_31, e134_34, e134_37, e134_38, eq_self, ne_a, ne_b, ne_c, Nat.reduceEqDiff, lt0, bnd_ok, psh_I, psh_L, psh_R, psh_U, gt_sr, gr_sr, sk_sr, nn_sr, ↓reduceIte, Int.toNat_natCast, Int.reduceToNat]
  exact L
set_option maxRecDepth 100000 in
set_option maxHeartbeats 4000000 in
theorem m_Mwins (z : Int) (d : Dat) (cn : Nat) (sg : Nat → Int) : mla 132 [vR 24, vI z] d cn sg (vI (x_wins d z)) d cn sg := by
  intro σ h
  obtain ⟨a1, a2, a3, a4, a5, a6, a7, a8, a9, a10⟩ := id h
  have q1 := m_areCells a1 a9 z
  have hp := pow24 (dn24 a9)
  have hs := a1.1
  refine ⟨σ, ?_, mdl_rf h⟩
  unfold x_wins
  generalize hP : 2 ^ dn_ d = P at *
  by_cases h1 : 0 ≤ z ∧ z ≤ (P : Int) - 1
  · rw [if_pos h1] at q1 ⊢
    obtain ⟨x, rfl⟩ := nat_of h1.1
    rw [Int.toNat_natCast]
    have q2 := m_over hs a5 a9 (x := x) (by omega)
    by_cases h2 : nx (dt d) x (dn_ d) = 0
    · rw [if_pos h2]
      rw [h2] at q2
      simp (disch := first | assumption | omega | (exact shp_fok (by first | assumption | exact shp_sr _ _ (by assumption) | exact shp_sr _ _ (shp_sr _ _ (by assumption)) | exact shp_sr _ _ (shp_sr _ _ (shp_sr _ _ (by assumption)))) (by decide)) | (simp only [fok_sr, aok_sr]; first | assumption | (exact shp_fok (by first | assumption | exact shp_sr _ _ (by assumption) | exact shp_sr _ _ (shp_sr _ _ (by assumption)) | exact shp_sr _ _ (shp_sr _ _ (shp_sr _ _ (by assumption)))) (by decide))) | (refine shp_aok (by first | assumption | exact shp_sr _ _ (by assumption) | exact shp_sr _ _ (shp_sr _ _ (by assumption)) | exact shp_sr _ _ (shp_sr _ _ (shp_sr _ _ (by assumption)))) rfl rfl ?_ ?_ <;> omega) | (exact shp_sr _ _ (by assumption)) | (exact shp_sr _ _ (shp_sr _ _ (by assumption))) | (exact shp_sr _ _ (shp_sr _ _ (shp_sr _ _ (by assumption)))) | (left; assumption) | (exact b2i_or _) | (simp; done)) only [e132_0, e132_1, e132_2, e132_5, e132_8, e132_10, e132_13, e132_14, e132_15, e132_18, e132_21, e132_22, e132_25, e132_26, eq_self, ne_a, ne_b, ne_c, Nat.reduceEqDiff, lt0, bnd_ok, psh_I, psh_L, psh_R, psh_U, gt_sr, gr_sr, sk_sr, nn_sr, ↓reduceIte, Int.toNat_natCast, Int.reduceToNat, q1, q2, Int.reduceEq, Int.cast_ofNat_Int]
    · rw [if_neg h2]
      have h3 : ¬ ((nx (dt d) x (dn_ d) : Nat) : Int) = 0 := by omega
      simp (disch := first | assumption | omega | (exact shp_fok (by first | assumption | exact shp_sr _ _ (by assumption) | exact shp_sr _ _ (shp_sr _ _ (by assumption)) | exact shp_sr _ _ (shp_sr _ _ (shp_sr _ _ (by assumption)))) (by decide)) | (simp only [fok_sr, aok_sr]; first | assumption | (exact shp_fok (by first | assumption | exact shp_sr _ _ (by assumption) | exact shp_sr _ _ (shp_sr _ _ (by assumption)) | exact shp_sr _ _ (shp_sr _ _ (shp_sr _ _ (by assumption)))) (by decide))) | (refine shp_aok (by first | assumption | exact shp_sr _ _ (by assumption) | exact shp_sr _ _ (shp_sr _ _ (by assumption)) | exact shp_sr _ _ (shp_sr _ _ (shp_sr _ _ (by assumption)))) rfl rfl ?_ ?_ <;> omega) | (exact shp_sr _ _ (by assumption)) | (exact shp_sr _ _ (shp_sr _ _ (by assumption))) | (exact shp_sr _ _ (shp_sr _ _ (shp_sr _ _ (by assumption)))) | (left; assumption) | (exact b2i_or _) | (simp; done)) only [e132_0, e132_1, e132_2, e132_5, e132_8, e132_10, e132_13, e132_14, e132_15, e132_18, e132_21, e132_22, e132_25, e132_26, eq_self, ne_a, ne_b, ne_c, Nat.reduceEqDiff, lt0, bnd_ok, psh_I, psh_L, psh_R, psh_U, gt_sr, gr_sr, sk_sr, nn_sr, ↓reduceIte, Int.toNat_natCast, Int.reduceToNat, q1, q2, h3, Int.reduceEq]
  · rw [if_neg h1] at q1 ⊢
    simp (disch := first | assumption | omega | (exact shp_fok (by first | assumption | exact shp_sr _ _ (by assumption) | exact shp_sr _ _ (shp_sr _ _ (by assumption)) | exact shp_sr _ _ (shp_sr _ _ (shp_sr _ _ (by assumption)))) (by decide)) | (simp only [fok_sr, aok_sr]; first | assumption | (exact shp_fok (by first | assumption | exact shp_sr _ _ (by assumption) | exact shp_sr _ _ (shp_sr _ _ (by assumption)) | exact shp_sr _ _ (shp_sr _ _ (shp_sr _ _ (by assumption)))) (by decide))) | (refine shp_aok (by first | assumption | exact shp_sr _ _ (by assumption) | exact shp_sr _ _ (shp_sr _ _ (by assumption)) | exact shp_sr _ _ (shp_sr _ _ (shp_sr _ _ (by assumption)))) rfl rfl ?_ ?_ <;> omega) | (exact shp_sr _ _ (by assumption)) | (exact shp_sr _ _ (shp_sr _ _ (by assumption))) | (exact shp_sr _ _ (shp_sr _ _ (shp_sr _ _ (by assumption)))) | (left; assumption) | (exact b2i_or _) | (simp; done)) only [e132_0, e132_1, e132_2, e132_5, e132_8, e132_10, e132_13, e132_14, e132_15, e132_18, e132_21, e132_22, e132_25, e132_26, eq_self, ne_a, ne_b, ne_c, Nat.reduceEqDiff, lt0, bnd_ok, psh_I, psh_L, psh_R, psh_U, gt_sr, gr_sr, sk_sr, nn_sr, ↓reduceIte, Int.toNat_natCast, Int.reduceToNat, q1]
theorem cuF_z {t : Nat → Int} {x S : Nat} : ∀ m c, (∀ i, c ≤ i → t i = 0) → cuF t x S m c = -6
  | 0, _, _ => rfl
  | m + 1, c, h => by
    unfold cuF
    rw [h c (Nat.le_refl _), if_neg (fun h => Nat.not_lt_zero _ h.2)]
    exact cuF_z m (c + 1) (fun i hi => h i (by omega))
theorem cuF_ext {t : Nat → Int} {x S : Nat} : ∀ m j c, (∀ i, c + m ≤ i → t i = 0) → cuF t x S (m + j) c = cuF t x S m c
  | 0, j, c, h => by
    rw [Nat.zero_add]
    rw [cuF_z j c h]
    rfl
  | m + 1, j, c, h => by
    rw [show m + 1 + j = (m + j) + 1 by omega]
    unfold cuF
    rw [cuF_ext m j (c + 1) (fun i hi => h i (by omega))]
set_option maxRecDepth 100000 in
set_option maxHeartbeats 4000000 in
theorem m_Mcut (z : Int) (d : Dat) (cn : Nat) (sg : Nat → Int) : mla 135 [vR 24, vI z, vU, vU] d cn sg (vI (x_cut d z)) d cn sg := by
  intro σ h
  obtain ⟨a1, a2, a3, a4, a5, a6, a7, a8, a9, a10⟩ := id h
  have q1 := m_areCells a1 a9 z
  have h24 := dn24 a9
  have hp := pow24 h24
  have hs := a1.1
  refine ⟨σ, ?_, mdl_rf h⟩
  unfold x_cut
  generalize hP : 2 ^ dn_ d = P at *
  by_cases h1 : 0 ≤ z ∧ z ≤ (P : Int) - 1
  · rw [if_pos h1] at q1 ⊢
    obtain ⟨x, rfl⟩ := nat_of h1.1
    rw [Int.toNat_natCast]
    have hx : x < 2147483648 := by omega
    have q2 := m_over hs a5 a9 hx
    have ht := ok_t a9
    have hlt := nx_lt ht x (dn_ d) h24
    generalize hS : nx (dt d) x (dn_ d) = S at *
    have hext := cuF_ext (t := dt d) (x := x) (S := S) (dn_ d) (24 - dn_ d) 0 (fun i hi => ok_zt a9 i (by omega))
    rw [show dn_ d + (24 - dn_ d) = 24 by omega] at hext
    rw [← hext]
    clear a2 a3 a4 a6 a7 a8 a9 a10 h
    have L : run 135 19 [vR 24, vI (x : Int), vI (S : Int), vI 0] [] σ = some (vI (cuF (dt d) x S (24 - 0) 0), σ) := by
      refine bk (P := fun k z => run 135 19 [vR 24, vI (x : Int), vI (S : Int), vI z] [] σ = some (vI (cuF (dt d) x S (24 - k) k), σ)) (n := 24) ?_ ?_
      · rw [e135_19]
        simp (disch := first | assumption | omega | (exact shp_fok (by first | assumption | exact shp_sr _ _ (by assumption) | exact shp_sr _ _ (shp_sr _ _ (by assumption)) | exact shp_sr _ _ (shp_sr _ _ (shp_sr _ _ (by assumption)))) (by decide)) | (simp only [fok_sr, aok_sr]; first | assumption | (exact shp_fok (by first | assumption | exact shp_sr _ _ (by assumption) | exact shp_sr _ _ (shp_sr _ _ (by assumption)) | exact shp_sr _ _ (shp_sr _ _ (shp_sr _ _ (by assumption)))) (by decide))) | (refine shp_aok (by first | assumption | exact shp_sr _ _ (by assumption) | exact shp_sr _ _ (shp_sr _ _ (by assumption)) | exact shp_sr _ _ (shp_sr _ _ (shp_sr _ _ (by assumption)))) rfl rfl ?_ ?_ <;> omega) | (exact shp_sr _ _ (by assumption)) | (exact shp_sr _ _ (shp_sr _ _ (by assumption))) | (exact shp_sr _ _ (shp_sr _ _ (shp_sr _ _ (by assumption)))) | (left; assumption) | (exact b2i_or _) | (simp; done)) only [e135_0, e135_1, e135_2, e135_5, e135_8, e135_10, e135_11, e135_12, e135_13, e135_16, e135_17, e135_18, e135_20, e135_22, e135_25, e135_26, e135_27, e135_30, e135_33, e135_34, e135_37, e135_38, e135_41, e135_42, e135_43, e135_44, e135_45, e135_46, e135_49, e135_50, e135_51, e135_54, e135_56, e135_57, e135_58, e135_59, e135_62, e135_63, e135_64, e135_65, e135_66, e135_67, e135_68, e135_71, e135_74, e135_76, eq_self, ne_a, ne_b, ne_c, Nat.reduceEqDiff, lt0, bnd_ok, psh_I, psh_L, psh_R, psh_U, gt_sr, gr_sr, sk_sr, nn_sr, ↓reduceIte, Int.toNat_natCast, Int.reduceToNat, Int.cast_ofNat_Int, Int.reduceLT]
        rfl
      · intro k hk hk' ih
        have h4 : (k : Int) < 24 := hk'
        have w5 : wr ((k : Int) + 1) = (k : Int) + 1 := wr_id (by omega) (by omega)
        have w6 := m_has (x := x) (k := k) hx (by omega) σ
        have e3 : cuF (dt d) x S (24 - k) k = if x.testBit k = true ∧ (dt d k).toNat ^^^ S < (dt d k).toNat then 10 * (k : Int) + (((dt d k).toNat ^^^ S : Nat) : Int) else cuF (dt d) x S (24 - (k + 1)) (k + 1) := by
          rw [show 24 - k = (24 - (k + 1)) + 1 by omega]
          rfl
        have b1 := ht k (by omega)
        rw [e3]
        obtain ⟨v, hv⟩ := nat_of b1.1
        rw [hv, Int.toNat_natCast]
        have o1 := bXor_N (a := v) (b := S) (by omega) (by omega)
        have hxs : v ^^^ S < 16 := Nat.xor_lt_two_pow (n := 4) (by omega) (by omega)
        have hS0 : S = 0 → ¬ v ^^^ S < v := fun e => by rw [e, Nat.xor_zero]; exact Nat.lt_irrefl _
        generalize v ^^^ S = Y at *
        have w7 : wr (wr (10 * (k : Int)) + (Y : Int)) = 10 * (k : Int) + (Y : Int) := by
          rw [wr_id (z := 10 * (k : Int)) (by omega) (by omega), wr_id (by omega) (by omega)]
        rw [e135_19]
        cases hb : x.testBit k with
        | true =>
          rw [hb] at w6
          by_cases h5 : Y < v
          · rw [if_pos ⟨rfl, h5⟩]
            have h6 : (Y : Int) < (v : Int) := by omega
            have h7 : ¬ (S : Int) = 0 := fun e => hS0 (by omega) h5
            simp (disch := first | assumption | omega | (exact shp_fok (by first | assumption | exact shp_sr _ _ (by assumption) | exact shp_sr _ _ (shp_sr _ _ (by assumption)) | exact shp_sr _ _ (shp_sr _ _ (shp_sr _ _ (by assumption)))) (by decide)) | (simp only [fok_sr, aok_sr]; first | assumption | (exact shp_fok (by first | assumption | exact shp_sr _ _ (by assumption) | exact shp_sr _ _ (shp_sr _ _ (by assumption)) | exact shp_sr _ _ (shp_sr _ _ (shp_sr _ _ (by assumption)))) (by decide))) | (refine shp_aok (by first | assumption | exact shp_sr _ _ (by assumption) | exact shp_sr _ _ (shp_sr _ _ (by assumption)) | exact shp_sr _ _ (shp_sr _ _ (shp_sr _ _ (by assumption)))) rfl rfl ?_ ?_ <;> omega) | (exact shp_sr _ _ (by assumption)) | (exact shp_sr _ _ (shp_sr _ _ (by assumption))) | (exact shp_sr _ _ (shp_sr _ _ (shp_sr _ _ (by assumption)))) | (left; assumption) | (exact b2i_or _) | (simp; done)) only [e135_0, e135_1, e135_2, e135_5, e135_8, e135_10, e135_11, e135_12, e135_13, e135_16, e135_17, e135_18, e135_20, e135_22, e135_25, e135_26, e135_27, e135_30, e135_33, e135_34, e135_37, e135_38, e135_41, e135_42, e135_43, e135_44, e135_45, e135_46, e135_49, e135_50, e135_51, e135_54, e135_56, e135_57, e135_58, e135_59, e135_62, e135_63, e135_64, e135_65, e135_66, e135_67, e135_68, e135_71, e135_74, e135_76, eq_self, ne_a, ne_b, ne_c, Nat.reduceEqDiff, lt0, bnd_ok, psh_I, psh_L, psh_R, psh_U, gt_sr, gr_sr, sk_sr, nn_sr, ↓reduceIte, Int.toNat_natCast, Int.reduceToNat, h4, w6, b2i_t, h7, g24_2, a5, hv, o1, h6, w7, Int.reduceEq]
          · rw [if_neg (fun h => h5 h.2)]
            have h6 : ¬ (Y : Int) < (v : Int) := by omega
            by_cases h7 : (S : Int) = 0
            · simp (disch := first | assumption | omega | (exact shp_fok (by first | assumption | exact shp_sr _ _ (by assumption) | exact shp_sr _ _ (shp_sr _ _ (by assumption)) | exact shp_sr _ _ (shp_sr _ _ (shp_sr _ _ (by assumption)))) (by decide)) | (simp only [fok_sr, aok_sr]; first | assumption | (exact shp_fok (by first | assumption | exact shp_sr _ _ (by assumption) | exact shp_sr _ _ (shp_sr _ _ (by assumption)) | exact shp_sr _ _ (shp_sr _ _ (shp_sr _ _ (by assumption)))) (by decide))) | (refine shp_aok (by first | assumption | exact shp_sr _ _ (by assumption) | exact shp_sr _ _ (shp_sr _ _ (by assumption)) | exact shp_sr _ _ (shp_sr _ _ (shp_sr _ _ (by assumption)))) rfl rfl ?_ ?_ <;> omega) | (exact shp_sr _ _ (by assumption)) | (exact shp_sr _ _ (shp_sr _ _ (by assumption))) | (exact shp_sr _ _ (shp_sr _ _ (shp_sr _ _ (by assumption)))) | (left; assumption) | (exact b2i_or _) | (simp; done)) only [e135_0, e135_1, e135_2, e135_5, e135_8, e135_10, e135_11, e135_12, e135_13, e135_16, e135_17, e135_18, e135_20, e135_22, e135_25, e135_26, e135_27, e135_30, e135_33, e135_34, e135_37, e135_38, e135_41, e135_42, e135_43, e135_44, e135_45, e135_46, e135_49, e135_50, e135_51, e135_54, e135_56, e135_57, e135_58, e135_59, e135_62, e135_63, e135_64, e135_65, e135_66, e135_67, e135_68, e135_71, e135_74, e135_76, eq_self, ne_a, ne_b, ne_c, Nat.reduceEqDiff, lt0, bnd_ok, psh_I, psh_L, psh_R, psh_U, gt_sr, gr_sr, sk_sr, nn_sr, ↓reduceIte, Int.toNat_natCast, Int.reduceToNat, h4, w6, b2i_t, h7, Int.reduceEq, w5]
              rw [h7] at ih
              exact ih
            · simp (disch := first | assumption | omega | (exact shp_fok (by first | assumption | exact shp_sr _ _ (by assumption) | exact shp_sr _ _ (shp_sr _ _ (by assumption)) | exact shp_sr _ _ (shp_sr _ _ (shp_sr _ _ (by assumption)))) (by decide)) | (simp only [fok_sr, aok_sr]; first | assumption | (exact shp_fok (by first | assumption | exact shp_sr _ _ (by assumption) | exact shp_sr _ _ (shp_sr _ _ (by assumption)) | exact shp_sr _ _ (shp_sr _ _ (shp_sr _ _ (by assumption)))) (by decide))) | (refine shp_aok (by first | assumption | exact shp_sr _ _ (by assumption) | exact shp_sr _ _ (shp_sr _ _ (by assumption)) | exact shp_sr _ _ (shp_sr _ _ (shp_sr _ _ (by assumption)))) rfl rfl ?_ ?_ <;> omega) | (exact shp_sr _ _ (by assumption)) | (exact shp_sr _ _ (shp_sr _ _ (by assumption))) | (exact shp_sr _ _ (shp_sr _ _ (shp_sr _ _ (by assumption)))) | (left; assumption) | (exact b2i_or _) | (simp; done)) only [e135_0, e135_1, e135_2, e135_5, e135_8, e135_10, e135_11, e135_12, e135_13, e135_16, e135_17, e135_18, e135_20, e135_22, e135_25, e135_26, e135_27, e135_30, e135_33, e135_34, e135_37, e135_38, e135_41, e135_42, e135_43, e135_44, e135_45, e135_46, e135_49, e135_50, e135_51, e135_54, e135_56, e135_57, e135_58, e135_59, e135_62, e135_63, e135_64, e135_65, e135_66, e135_67, e135_68, e135_71, e135_74, e135_76, eq_self, ne_a, ne_b, ne_c, Nat.reduceEqDiff, lt0, bnd_ok, psh_I, psh_L, psh_R, psh_U, gt_sr, gr_sr, sk_sr, nn_sr, ↓reduceIte, Int.toNat_natCast, Int.reduceToNat, h4, w6, b2i_t, h7, g24_2, a5, hv, o1, h6, w5, Int.reduceEq]
              exact ih
        | false =>
          rw [hb] at w6
          rw [if_neg (fun h => Bool.false_ne_true h.1)]
          simp (disch := first | assumption | omega | (exact shp_fok (by first | assumption | exact shp_sr _ _ (by assumption) | exact shp_sr _ _ (shp_sr _ _ (by assumption)) | exact shp_sr _ _ (shp_sr _ _ (shp_sr _ _ (by assumption)))) (by decide)) | (simp only [fok_sr, aok_sr]; first | assumption | (exact shp_fok (by first | assumption | exact shp_sr _ _ (by assumption) | exact shp_sr _ _ (shp_sr _ _ (by assumption)) | exact shp_sr _ _ (shp_sr _ _ (shp_sr _ _ (by assumption)))) (by decide))) | (refine shp_aok (by first | assumption | exact shp_sr _ _ (by assumption) | exact shp_sr _ _ (shp_sr _ _ (by assumption)) | exact shp_sr _ _ (shp_sr _ _ (shp_sr _ _ (by assumption)))) rfl rfl ?_ ?_ <;> omega) | (exact shp_sr _ _ (by assumption)) | (exact shp_sr _ _ (shp_sr _ _ (by assumption))) | (exact shp_sr _ _ (shp_sr _ _ (shp_sr _ _ (by assumption)))) | (left; assumption) | (exact b2i_or _) | (simp; done)) only [e135_0, e135_1, e135_2, e135_5, e135_8, e135_10, e135_11, e135_12, e135_13, e135_16, e135_17, e135_18, e135_20, e135_22, e135_25, e135_26, e135_27, e135_30, e135_33, e135_34, e135_37, e135_38, e135_41, e135_42, e135_43, e135_44, e135_45, e135_46, e135_49, e135_50, e135_51, e135_54, e135_56, e135_57, e135_58, e135_59, e135_62, e135_63, e135_64, e135_65, e135_66, e135_67, e135_68, e135_71, e135_74, e135_76, eq_self, ne_a, ne_b, ne_c, Nat.reduceEqDiff, lt0, bnd_ok, psh_I, psh_L, psh_R, psh_U, gt_sr, gr_sr, sk_sr, nn_sr, ↓reduceIte, Int.toNat_natCast, Int.reduceToNat, h4, w6, b2i_f, w5]
          exact ih
    simp (disch := first | assumption | omega | (exact shp_fok (by first | assumption | exact shp_sr _ _ (by assumption) | exact shp_sr _ _ (shp_sr _ _ (by assumption)) | exact shp_sr _ _ (shp_sr _ _ (shp_sr _ _ (by assumption)))) (by decide)) | (simp only [fok_sr, aok_sr]; first | assumption | (exact shp_fok (by first | assumption | exact shp_sr _ _ (by assumption) | exact shp_sr _ _ (shp_sr _ _ (by assumption)) | exact shp_sr _ _ (shp_sr _ _ (shp_sr _ _ (by assumption)))) (by decide))) | (refine shp_aok (by first | assumption | exact shp_sr _ _ (by assumption) | exact shp_sr _ _ (shp_sr _ _ (by assumption)) | exact shp_sr _ _ (shp_sr _ _ (shp_sr _ _ (by assumption)))) rfl rfl ?_ ?_ <;> omega) | (exact shp_sr _ _ (by assumption)) | (exact shp_sr _ _ (shp_sr _ _ (by assumption))) | (exact shp_sr _ _ (shp_sr _ _ (shp_sr _ _ (by assumption)))) | (left; assumption) | (exact b2i_or _) | (simp; done)) only [e135_0, e135_1, e135_2, e135_5, e135_8, e135_10, e135_11, e135_12, e135_13, e135_16, e135_17, e135_18, e135_20, e135_22, e135_25, e135_26, e135_27, e135_30, e135_33, e135_34, e135_37, e135_38, e135_41, e135_42, e135_43, e135_44, e135_45, e135_46, e135_49, e135_50, e135_51, e135_54, e135_56, e135_57, e135_58, e135_59, e135_62, e135_63, e135_64, e135_65, e135_66, e135_67, e135_68, e135_71, e135_74, e135_76, eq_self, ne_a, ne_b, ne_c, Nat.reduceEqDiff, lt0, bnd_ok, psh_I, psh_L, psh_R, psh_U, gt_sr, gr_sr, sk_sr, nn_sr, ↓reduceIte, Int.toNat_natCast, Int.reduceToNat, q1, q2, Int.reduceEq]
    exact L
  · rw [if_neg h1] at q1 ⊢
    simp (disch := first | assumption | omega | (exact shp_fok (by first | assumption | exact shp_sr _ _ (by assumption) | exact shp_sr _ _ (shp_sr _ _ (by assumption)) | exact shp_sr _ _ (shp_sr _ _ (shp_sr _ _ (by assumption)))) (by decide)) | (simp only [fok_sr, aok_sr]; first | assumption | (exact shp_fok (by first | assumption | exact shp_sr _ _ (by assumption) | exact shp_sr _ _ (shp_sr _ _ (by assumption)) | exact shp_sr _ _ (shp_sr _ _ (shp_sr _ _ (by assumption)))) (by decide))) | (refine shp_aok (by first | assumption | exact shp_sr _ _ (by assumption) | exact shp_sr _ _ (shp_sr _ _ (by assumption)) | exact shp_sr _ _ (shp_sr _ _ (shp_sr _ _ (by assumption)))) rfl rfl ?_ ?_ <;> omega) | (exact shp_sr _ _ (by assumption)) | (exact shp_sr _ _ (shp_sr _ _ (by assumption))) | (exact shp_sr _ _ (shp_sr _ _ (shp_sr _ _ (by assumption)))) | (left; assumption) | (exact b2i_or _) | (simp; done)) only [e135_0, e135_1, e135_2, e135_5, e135_8, e135_10, e135_11, e135_12, e135_13, e135_16, e135_17, e135_18, e135_20, e135_22, e135_25, e135_26, e135_27, e135_30, e135_33, e135_34, e135_37, e135_38, e135_41, e135_42, e135_43, e135_44, e135_45, e135_46, e135_49, e135_50, e135_51, e135_54, e135_56, e135_57, e135_58, e135_59, e135_62, e135_63, e135_64, e135_65, e135_66, e135_67, e135_68, e135_71, e135_74, e135_76, eq_self, ne_a, ne_b, ne_c, Nat.reduceEqDiff, lt0, bnd_ok, psh_I, psh_L, psh_R, psh_U, gt_sr, gr_sr, sk_sr, nn_sr, ↓reduceIte, Int.toNat_natCast, Int.reduceToNat, q1]
set_option maxRecDepth 100000 in
set_option maxHeartbeats 4000000 in
theorem m_Mseen (c v : Int) (d : Dat) (cn : Nat) (sg : Nat → Int) : mla 136 [vR 24, vI c, vI v] d cn sg (vI (x_seen d c v)) (d_seen d c v) cn sg := by
  intro σ h
  obtain ⟨a1, a2, a3, a4, a5, a6, a7, a8, a9, a10⟩ := id h
  obtain ⟨hs, d0, d1, d4, d5, hw⟩ := id a1
  have hh := m_isCell a1 a9 c
  have h8 := a9.2.2.2.1
  unfold x_seen d_seen
  by_cases h1 : 0 ≤ c ∧ c < (dn_ d : Nat)
  · rw [if_pos h1] at hh
    rw [if_pos h1, if_pos h1]
    by_cases h2 : 0 ≤ v ∧ v ≤ 9
    · rw [if_pos h2, if_pos h2]
      by_cases h3 : dsi d = 8
      · rw [if_pos h3, if_pos h3]
        refine ⟨σ, ?_, mdl_rf h⟩
        have h4 : (dsi d : Int) = 8 := by omega
        simp (disch := first | assumption | omega | (exact shp_fok (by first | assumption | exact shp_sr _ _ (by assumption) | exact shp_sr _ _ (shp_sr _ _ (by assumption)) | exact shp_sr _ _ (shp_sr _ _ (shp_sr _ _ (by assumption)))) (by decide)) | (simp only [fok_sr, aok_sr]; first | assumption | (exact shp_fok (by first | assumption | exact shp_sr _ _ (by assumption) | exact shp_sr _ _ (shp_sr _ _ (by assumption)) | exact shp_sr _ _ (shp_sr _ _ (shp_sr _ _ (by assumption)))) (by decide))) | (refine shp_aok (by first | assumption | exact shp_sr _ _ (by assumption) | exact shp_sr _ _ (shp_sr _ _ (by assumption)) | exact shp_sr _ _ (shp_sr _ _ (shp_sr _ _ (by assumption)))) rfl rfl ?_ ?_ <;> omega) | (exact shp_sr _ _ (by assumption)) | (exact shp_sr _ _ (shp_sr _ _ (by assumption))) | (exact shp_sr _ _ (shp_sr _ _ (shp_sr _ _ (by assumption)))) | (left; assumption) | (exact b2i_or _) | (simp; done)) only [e136_0, e136_1, e136_2, e136_5, e136_8, e136_9, e136_10, e136_11, e136_12, e136_14, e136_17, e136_20, e136_22, e136_23, e136_24, e136_27, e136_29, e136_32, e136_34, e136_35, e136_36, e136_39, e136_40, e136_41, e136_44, e136_45, e136_46, e136_47, e136_48, e136_51, e136_52, e136_53, e136_56, e136_57, e136_58, e136_59, e136_60, e136_61, e136_62, e136_63, e136_66, e136_67, e136_68, e136_71, e136_72, e136_75, eq_self, ne_a, ne_b, ne_c, Nat.reduceEqDiff, lt0, bnd_ok, psh_I, psh_L, psh_R, psh_U, gt_sr, gr_sr, sk_sr, nn_sr, ↓reduceIte, Int.toNat_natCast, Int.reduceToNat, hh, m_in, if_pos h2, a3, h4, Int.reduceEq]
      · rw [if_neg h3, if_neg h3]
        have h4 : ¬ (dsi d : Int) = 8 := by omega
        have w1 : wr ((dsi d : Int) + 1) = ((dsi d + 1 : Nat) : Int) := by rw [wr_id (by omega) (by omega)]; omega
        have w2 : wr (2 * (dsi d : Int)) = ((2 * dsi d : Nat) : Int) := by rw [wr_id (by omega) (by omega)]; omega
        have w3 : wr (((2 * dsi d : Nat) : Int) + 1) = ((2 * dsi d + 1 : Nat) : Int) := by rw [wr_id (by omega) (by omega)]; omega
        refine ⟨sr (sr σ 27 (ru (ru (gt σ 27) (2 * dsi d) c) (2 * dsi d + 1) v)) 24 (ru (gt σ 24) 7 ((dsi d + 1 : Nat) : Int)), ?_, chg_sr (chg_sr (chg_rf _ _) (by decide)) (by decide), ⟨hs, ?_, ?_, ?_, ?_, hw⟩, ?_, by rw [gt_e, ru_e]; rfl, ?_, a5, ?_, a7, a8, ok_seen a9 h1 h2 (by omega), a10⟩
        · simp (disch := first | assumption | omega | (exact shp_fok (by first | assumption | exact shp_sr _ _ (by assumption) | exact shp_sr _ _ (shp_sr _ _ (by assumption)) | exact shp_sr _ _ (shp_sr _ _ (shp_sr _ _ (by assumption)))) (by decide)) | (simp only [fok_sr, aok_sr]; first | assumption | (exact shp_fok (by first | assumption | exact shp_sr _ _ (by assumption) | exact shp_sr _ _ (shp_sr _ _ (by assumption)) | exact shp_sr _ _ (shp_sr _ _ (shp_sr _ _ (by assumption)))) (by decide))) | (refine shp_aok (by first | assumption | exact shp_sr _ _ (by assumption) | exact shp_sr _ _ (shp_sr _ _ (by assumption)) | exact shp_sr _ _ (shp_sr _ _ (shp_sr _ _ (by assumption)))) rfl rfl ?_ ?_ <;> omega) | (exact shp_sr _ _ (by assumption)) | (exact shp_sr _ _ (shp_sr _ _ (by assumption))) | (exact shp_sr _ _ (shp_sr _ _ (shp_sr _ _ (by assumption)))) | (left; assumption) | (exact b2i_or _) | (simp; done)) only [e136_0, e136_1, e136_2, e136_5, e136_8, e136_9, e136_10, e136_11, e136_12, e136_14, e136_17, e136_20, e136_22, e136_23, e136_24, e136_27, e136_29, e136_32, e136_34, e136_35, e136_36, e136_39, e136_40, e136_41, e136_44, e136_45, e136_46, e136_47, e136_48, e136_51, e136_52, e136_53, e136_56, e136_57, e136_58, e136_59, e136_60, e136_61, e136_62, e136_63, e136_66, e136_67, e136_68, e136_71, e136_72, e136_75, eq_self, ne_a, ne_b, ne_c, Nat.reduceEqDiff, lt0, bnd_ok, psh_I, psh_L, psh_R, psh_U, gt_sr, gr_sr, sk_sr, nn_sr, ↓reduceIte, Int.toNat_natCast, Int.reduceToNat, hh, m_in, if_pos h2, a3, h4, g24_8, w1, w2, w3, ru_e, sr_sr, Int.reduceEq]
        · rw [gt_e, ru_n _ _ (by decide)]; exact d0
        · rw [gt_e, ru_n _ _ (by decide)]; exact d1
        · rw [gt_e, ru_n _ _ (by decide)]; exact d4
        · rw [gt_e, ru_n _ _ (by decide)]; exact d5
        · rw [gt_e, ru_n _ _ (by decide)]; exact a2
        · rw [gt_e, ru_n _ _ (by decide)]; exact a4
        · intro i hi
          have hi' : i < dsi d + 1 := hi
          rw [gt_n _ _ (by decide), gt_e]
          show _ = ru (dsc d) (dsi d) c i ∧ _ = ru (dsn d) (dsi d) v i
          by_cases e : i = dsi d
          · rw [e, ru_n _ _ (by omega), ru_e, ru_e, ru_e, ru_e]; exact ⟨rfl, rfl⟩
          · rw [ru_n _ _ (by omega), ru_n _ _ (by omega), ru_n _ _ (by omega), ru_n _ _ (by omega), ru_n _ _ (by omega), ru_n _ _ (by omega)]
            exact a6 i (by omega)
    · rw [if_neg h2, if_neg h2]
      refine ⟨σ, ?_, mdl_rf h⟩
      simp (disch := first | assumption | omega | (exact shp_fok (by first | assumption | exact shp_sr _ _ (by assumption) | exact shp_sr _ _ (shp_sr _ _ (by assumption)) | exact shp_sr _ _ (shp_sr _ _ (shp_sr _ _ (by assumption)))) (by decide)) | (simp only [fok_sr, aok_sr]; first | assumption | (exact shp_fok (by first | assumption | exact shp_sr _ _ (by assumption) | exact shp_sr _ _ (shp_sr _ _ (by assumption)) | exact shp_sr _ _ (shp_sr _ _ (shp_sr _ _ (by assumption)))) (by decide))) | (refine shp_aok (by first | assumption | exact shp_sr _ _ (by assumption) | exact shp_sr _ _ (shp_sr _ _ (by assumption)) | exact shp_sr _ _ (shp_sr _ _ (shp_sr _ _ (by assumption)))) rfl rfl ?_ ?_ <;> omega) | (exact shp_sr _ _ (by assumption)) | (exact shp_sr _ _ (shp_sr _ _ (by assumption))) | (exact shp_sr _ _ (shp_sr _ _ (shp_sr _ _ (by assumption)))) | (left; assumption) | (exact b2i_or _) | (simp; done)) only [e136_0, e136_1, e136_2, e136_5, e136_8, e136_9, e136_10, e136_11, e136_12, e136_14, e136_17, e136_20, e136_22, e136_23, e136_24, e136_27, e136_29, e136_32, e136_34, e136_35, e136_36, e136_39, e136_40, e136_41, e136_44, e136_45, e136_46, e136_47, e136_48, e136_51, e136_52, e136_53, e136_56, e136_57, e136_58, e136_59, e136_60, e136_61, e136_62, e136_63, e136_66, e136_67, e136_68, e136_71, e136_72, e136_75, eq_self, ne_a, ne_b, ne_c, Nat.reduceEqDiff, lt0, bnd_ok, psh_I, psh_L, psh_R, psh_U, gt_sr, gr_sr, sk_sr, nn_sr, ↓reduceIte, Int.toNat_natCast, Int.reduceToNat, hh, m_in, if_neg h2, Int.reduceEq]
  · rw [if_neg h1] at hh
    rw [if_neg h1, if_neg h1]
    refine ⟨σ, ?_, mdl_rf h⟩
    simp (disch := first | assumption | omega | (exact shp_fok (by first | assumption | exact shp_sr _ _ (by assumption) | exact shp_sr _ _ (shp_sr _ _ (by assumption)) | exact shp_sr _ _ (shp_sr _ _ (shp_sr _ _ (by assumption)))) (by decide)) | (simp only [fok_sr, aok_sr]; first | assumption | (exact shp_fok (by first | assumption | exact shp_sr _ _ (by assumption) | exact shp_sr _ _ (shp_sr _ _ (by assumption)) | exact shp_sr _ _ (shp_sr _ _ (shp_sr _ _ (by assumption)))) (by decide))) | (refine shp_aok (by first | assumption | exact shp_sr _ _ (by assumption) | exact shp_sr _ _ (shp_sr _ _ (by assumption)) | exact shp_sr _ _ (shp_sr _ _ (shp_sr _ _ (by assumption)))) rfl rfl ?_ ?_ <;> omega) | (exact shp_sr _ _ (by assumption)) | (exact shp_sr _ _ (shp_sr _ _ (by assumption))) | (exact shp_sr _ _ (shp_sr _ _ (shp_sr _ _ (by assumption)))) | (left; assumption) | (exact b2i_or _) | (simp; done)) only [e136_0, e136_1, e136_2, e136_5, e136_8, e136_9, e136_10, e136_11, e136_12, e136_14, e136_17, e136_20, e136_22, e136_23, e136_24, e136_27, e136_29, e136_32, e136_34, e136_35, e136_36, e136_39, e136_40, e136_41, e136_44, e136_45, e136_46, e136_47, e136_48, e136_51, e136_52, e136_53, e136_56, e136_57, e136_58, e136_59, e136_60, e136_61, e136_62, e136_63, e136_66, e136_67, e136_68, e136_71, e136_72, e136_75, eq_self, ne_a, ne_b, ne_c, Nat.reduceEqDiff, lt0, bnd_ok, psh_I, psh_L, psh_R, psh_U, gt_sr, gr_sr, sk_sr, nn_sr, ↓reduceIte, Int.toNat_natCast, Int.reduceToNat, hh]
set_option maxRecDepth 100000 in
set_option maxHeartbeats 4000000 in
theorem m_Mforget (d : Dat) (cn : Nat) (sg : Nat → Int) : mla 137 [vR 24, vU] d cn sg (vI (dsi d : Nat)) (setI d 0 (dsc d) (dsn d)) cn sg := by
  intro σ h
  obtain ⟨a1, a2, a3, a4, a5, a6, a7, a8, a9, a10⟩ := id h
  obtain ⟨hs, d0, d1, d4, d5, hw⟩ := id a1
  refine ⟨sr σ 24 (ru (gt σ 24) 7 0), ?_, chg_sr (chg_rf _ _) (by decide), ⟨hs, ?_, ?_, ?_, ?_, hw⟩, ?_, by rw [gt_e, ru_e]; rfl, ?_, a5, fun i hi => absurd hi (Nat.not_lt_zero i), a7, a8, ok_forget a9, a10⟩
  · simp (disch := first | assumption | omega | (exact shp_fok (by first | assumption | exact shp_sr _ _ (by assumption) | exact shp_sr _ _ (shp_sr _ _ (by assumption)) | exact shp_sr _ _ (shp_sr _ _ (shp_sr _ _ (by assumption)))) (by decide)) | (simp only [fok_sr, aok_sr]; first | assumption | (exact shp_fok (by first | assumption | exact shp_sr _ _ (by assumption) | exact shp_sr _ _ (shp_sr _ _ (by assumption)) | exact shp_sr _ _ (shp_sr _ _ (shp_sr _ _ (by assumption)))) (by decide))) | (refine shp_aok (by first | assumption | exact shp_sr _ _ (by assumption) | exact shp_sr _ _ (shp_sr _ _ (by assumption)) | exact shp_sr _ _ (shp_sr _ _ (shp_sr _ _ (by assumption)))) rfl rfl ?_ ?_ <;> omega) | (exact shp_sr _ _ (by assumption)) | (exact shp_sr _ _ (shp_sr _ _ (by assumption))) | (exact shp_sr _ _ (shp_sr _ _ (shp_sr _ _ (by assumption)))) | (left; assumption) | (exact b2i_or _) | (simp; done)) only [e137_0, e137_1, e137_4, e137_5, e137_6, e137_7, e137_10, e137_11, eq_self, ne_a, ne_b, ne_c, Nat.reduceEqDiff, lt0, bnd_ok, psh_I, psh_L, psh_R, psh_U, gt_sr, gr_sr, sk_sr, nn_sr, ↓reduceIte, Int.toNat_natCast, Int.reduceToNat, a3]
  · rw [gt_e, ru_n _ _ (by decide)]; exact d0
  · rw [gt_e, ru_n _ _ (by decide)]; exact d1
  · rw [gt_e, ru_n _ _ (by decide)]; exact d4
  · rw [gt_e, ru_n _ _ (by decide)]; exact d5
  · rw [gt_e, ru_n _ _ (by decide)]; exact a2
  · rw [gt_e, ru_n _ _ (by decide)]; exact a4
