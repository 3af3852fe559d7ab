/-! THE MODEL: nights -/
/-- the model's own rows -/
def mdl (σ : St) (d : Dat) (cn : Nat) (sg : Nat → Int) : Prop := mfx σ d ∧ gt σ 24 3 = (lbD d : Int) ∧ gt σ 24 7 = (dsi d : Int) ∧ gt σ 24 9 = (cn : Int) ∧ gt σ 25 = dt d ∧ (∀ i, i < dsi d → gt σ 27 (2 * i) = dsc d i ∧ gt σ 27 (2 * i + 1) = dsn d i) ∧ gt σ 28 = sg ∧ okp cn sg ∧ okd d ∧ zr 24 (gt σ 29)
def SX : List Nat := [24, 29, 30, 31]
/-- only what calls use for themselves has changed -/
def sch (σ σ' : St) : Prop := chg SX σ σ' ∧ ∀ f, f < 10 → gt σ' 24 f = gt σ 24 f
theorem sch_rf (σ : St) : sch σ σ := ⟨chg_rf _ _, fun _ _ => rfl⟩
theorem sch_tr {σ σ1 σ2 : St} (h : sch σ σ1) (h2 : sch σ1 σ2) : sch σ σ2 := ⟨chg_tr h.1 h2.1 (fun _ h => h), fun f hf => (h2.2 f hf).trans (h.2 f hf)⟩
theorem sch_of {S : List Nat} {σ σ' : St} (h : chg S σ σ') (hS : S.all (fun i => decide (i = 29 ∨ i = 30 ∨ i = 31)) = true) : sch σ σ' := by
  have hm : ∀ i ∈ S, i = 29 ∨ i = 30 ∨ i = 31 := fun i hi => of_decide_eq_true (List.all_eq_true.mp hS i hi)
  refine ⟨chg_mo h (fun k hk => ?_), fun f _ => ?_⟩
  · rcases hm k hk with e | e | e <;> rw [e] <;> decide
  · rw [chg_gt h (fun e => by have := hm _ e; omega)]
theorem sch_sr {σ : St} {F : Nat → Int} (hF : ∀ f, f < 10 → F f = gt σ 24 f) : sch σ (sr σ 24 F) := ⟨chg_sr (chg_rf _ _) (by decide), fun f hf => by rw [gt_e]; exact hF f hf⟩
theorem mfx_sch {σ σ' : St} {d : Dat} (h : mfx σ d) (hc : sch σ σ') : mfx σ' d := by
  obtain ⟨hs, d0, d1, d4, d5, hw⟩ := h
  exact ⟨shp_chg hc.1 hs, by rw [hc.2 _ (by decide)]; exact d0, by rw [hc.2 _ (by decide)]; exact d1, by rw [hc.2 _ (by decide)]; exact d4, by rw [hc.2 _ (by decide)]; exact d5, by rw [chg_gt hc.1 (by decide)]; exact hw⟩
theorem mdl_sch {σ σ' : St} {d : Dat} {cn : Nat} {sg : Nat → Int} (h : mdl σ d cn sg) (hc : sch σ σ') (hz : zr 24 (gt σ' 29)) : mdl σ' d cn sg := by
  obtain ⟨a1, a2, a3, a4, a5, a6, a7, a8, a9, a10⟩ := h
  refine ⟨mfx_sch a1 hc, by rw [hc.2 _ (by decide)]; exact a2, by rw [hc.2 _ (by decide)]; exact a3, by rw [hc.2 _ (by decide)]; exact a4, by rw [chg_gt hc.1 (by decide)]; exact a5, ?_, by rw [chg_gt hc.1 (by decide)]; exact a7, a8, a9, hz⟩
  rw [chg_gt hc.1 (show 27 ∉ SX by decide)]
  exact a6
theorem nowR_z {σ : St} {e : Dat} (h : nowR σ e) : zr 24 (gt σ 29) := by
  rw [h.2.1]
  exact zr_mo (ok_zt h.2.2.2) (dn24 h.2.2.2)
set_option maxRecDepth 100000 in
set_option maxHeartbeats 4000000 in
theorem m_asNow {σ : St} {d : Dat} {cn : Nat} {sg : Nat → Int} (h : mdl σ d cn sg) : ∃ σ', run 107 0 [vR 24, vU] [] σ = some (vU, σ') ∧ sch σ σ' ∧ nowR σ' d := by
  obtain ⟨a1, a2, a3, a4, a5, a6, a7, a8, a9, a10⟩ := id h
  have hs := a1.1
  have L : run 107 2 [vR 24, vI 0] [] (sr σ 29 (upto 0 (dt d) (gt σ 29))) = some (vU, sr (sr σ 29 (upto 24 (dt d) (gt σ 29))) 24 (ru (gt σ 24) 13 (lbD d : Int))) := by
    refine bk (P := fun k z => run 107 2 [vR 24, vI z] [] (sr σ 29 (upto k (dt d) (gt σ 29))) = some (vU, sr (sr σ 29 (upto 24 (dt d) (gt σ 29))) 24 (ru (gt σ 24) 13 (lbD d : Int)))) (n := 24) ?_ ?_
    · rw [e107_2]
      simp (disch := first | assumption | omega | (exact shp_fok (by first | assumption | exact shp_sr _ _ (by assumption) | exact shp_sr _ _ (shp_sr _ _ (by assumption)) | exact shp_sr _ _ (shp_sr _ _ (shp_sr _ _ (by assumption)))) (by decide)) | (simp only [fok_sr, aok_sr]; first | assumption | (exact shp_fok (by first | assumption | exact shp_sr _ _ (by assumption) | exact shp_sr _ _ (shp_sr _ _ (by assumption)) | exact shp_sr _ _ (shp_sr _ _ (shp_sr _ _ (by assumption)))) (by decide))) | (refine shp_aok (by first | assumption | exact shp_sr _ _ (by assumption) | exact shp_sr _ _ (shp_sr _ _ (by assumption)) | exact shp_sr _ _ (shp_sr _ _ (shp_sr _ _ (by assumption)))) rfl rfl ?_ ?_ <;> omega) | (exact shp_sr _ _ (by assumption)) | (exact shp_sr _ _ (shp_sr _ _ (by assumption))) | (exact shp_sr _ _ (shp_sr _ _ (shp_sr _ _ (by assumption)))) | (left; assumption) | (exact b2i_or _) | (simp; done)) only [e107_0, e107_1, e107_3, e107_5, e107_8, e107_9, e107_12, e107_13, e107_14, e107_17, e107_18, e107_19, e107_20, e107_23, e107_26, e107_27, e107_28, e107_31, e107_34, eq_self, ne_a, ne_b, ne_c, Nat.reduceEqDiff, lt0, bnd_ok, psh_I, psh_L, psh_R, psh_U, gt_sr, gr_sr, sk_sr, nn_sr, ↓reduceIte, Int.toNat_natCast, Int.reduceToNat, Int.cast_ofNat_Int, Int.reduceLT, a2]
    · intro k hk hk' ih
      have h4 : (k : Int) < 24 := hk'
      have w5 : wr ((k : Int) + 1) = (k : Int) + 1 := wr_id (by omega) (by omega)
      have u := upto_s k (dt d) (gt σ 29) (dt d k) rfl
      rw [e107_2]
      simp (disch := first | assumption | omega | (exact shp_fok (by first | assumption | exact shp_sr _ _ (by assumption) | exact shp_sr _ _ (shp_sr _ _ (by assumption)) | exact shp_sr _ _ (shp_sr _ _ (shp_sr _ _ (by assumption)))) (by decide)) | (simp only [fok_sr, aok_sr]; first | assumption | (exact shp_fok (by first | assumption | exact shp_sr _ _ (by assumption) | exact shp_sr _ _ (shp_sr _ _ (by assumption)) | exact shp_sr _ _ (shp_sr _ _ (shp_sr _ _ (by assumption)))) (by decide))) | (refine shp_aok (by first | assumption | exact shp_sr _ _ (by assumption) | exact shp_sr _ _ (shp_sr _ _ (by assumption)) | exact shp_sr _ _ (shp_sr _ _ (shp_sr _ _ (by assumption)))) rfl rfl ?_ ?_ <;> omega) | (exact shp_sr _ _ (by assumption)) | (exact shp_sr _ _ (shp_sr _ _ (by assumption))) | (exact shp_sr _ _ (shp_sr _ _ (shp_sr _ _ (by assumption)))) | (left; assumption) | (exact b2i_or _) | (simp; done)) only [e107_0, e107_1, e107_3, e107_5, e107_8, e107_9, e107_12, e107_13, e107_14, e107_17, e107_18, e107_19, e107_20, e107_23, e107_26, e107_27, e107_28, e107_31, e107_34, eq_self, ne_a, ne_b, ne_c, Nat.reduceEqDiff, lt0, bnd_ok, psh_I, psh_L, psh_R, psh_U, gt_sr, gr_sr, sk_sr, nn_sr, ↓reduceIte, Int.toNat_natCast, Int.reduceToNat, h4, g24_2, g24_11, a5, u, w5, sr_sr]
      exact ih
  rw [upto_0, sr_self σ 29 _ rfl, upto_z (zr_mo (ok_zt a9) (dn24 a9)) a10] at L
  have s1 : sch σ (sr (sr σ 29 (dt d)) 24 (ru (gt σ 24) 13 (lbD d : Int))) := by
    refine ⟨chg_sr (chg_sr (chg_rf _ _) (by decide)) (by decide), fun f hf => ?_⟩
    rw [gt_e, ru_n _ _ (by omega)]
  refine ⟨_, ?_, s1, mfx_sch a1 s1, by rw [gt_n _ _ (by decide), gt_e], by rw [gt_e, ru_e], a9⟩
  simp (disch := first | assumption | omega | (exact shp_fok (by first | assumption | exact shp_sr _ _ (by assumption) | exact shp_sr _ _ (shp_sr _ _ (by assumption)) | exact shp_sr _ _ (shp_sr _ _ (shp_sr _ _ (by assumption)))) (by decide)) | (simp only [fok_sr, aok_sr]; first | assumption | (exact shp_fok (by first | assumption | exact shp_sr _ _ (by assumption) | exact shp_sr _ _ (shp_sr _ _ (by assumption)) | exact shp_sr _ _ (shp_sr _ _ (shp_sr _ _ (by assumption)))) (by decide))) | (refine shp_aok (by first | assumption | exact shp_sr _ _ (by assumption) | exact shp_sr _ _ (shp_sr _ _ (by assumption)) | exact shp_sr _ _ (shp_sr _ _ (shp_sr _ _ (by assumption)))) rfl rfl ?_ ?_ <;> omega) | (exact shp_sr _ _ (by assumption)) | (exact shp_sr _ _ (shp_sr _ _ (by assumption))) | (exact shp_sr _ _ (shp_sr _ _ (shp_sr _ _ (by assumption)))) | (left; assumption) | (exact b2i_or _) | (simp; done)) only [e107_0, e107_1, e107_3, e107_5, e107_8, e107_9, e107_12, e107_13, e107_14, e107_17, e107_18, e107_19, e107_20, e107_23, e107_26, e107_27, e107_28, e107_31, e107_34, eq_self, ne_a, ne_b, ne_c, Nat.reduceEqDiff, lt0, bnd_ok, psh_I, psh_L, psh_R, psh_U, gt_sr, gr_sr, sk_sr, nn_sr, ↓reduceIte, Int.toNat_natCast, Int.reduceToNat]
  exact L
set_option maxRecDepth 100000 in
set_option maxHeartbeats 4000000 in
theorem m_sign {σ : St} {sg : Nat → Int} (h : shp σ) (h2 : gt σ 28 = sg) : gt σ 28 = sg := h2
set_option maxRecDepth 100000 in
set_option maxHeartbeats 4000000 in
theorem m_faultOf {σ : St} {d : Dat} {cn : Nat} {sg : Nat → Int} (h : mdl σ d cn sg) : run 103 0 [vR 24, vU, vU, vU, vU] [] σ = some (vI (flt (dn_ d) cn sg), σ) := by
  obtain ⟨a1, a2, a3, a4, a5, a6, a7, a8, a9, a10⟩ := id h
  have hs := a1.1
  have h60 := a8.1
  have hic := m_isCell a1 a9
  have L : ∀ q3 q4, run 103 4 [vR 24, vI (b2i (fac (dn_ d) sg 0)), vI 0, q3, q4] [] σ = some (vI (fltN (dn_ d) sg (cn - 0) 0), σ) := by
    refine bk (P := fun k z => ∀ q3 q4, run 103 4 [vR 24, vI (b2i (fac (dn_ d) sg k)), vI z, q3, q4] [] σ = some (vI (fltN (dn_ d) sg (cn - k) k), σ)) (n := cn) ?_ ?_
    · intro q3 q4
      have h4 : ¬ (cn : Int) < (cn : Int) := by omega
      rw [Nat.sub_self, e103_4]
      unfold fltN
      cases fac (dn_ d) sg cn with
      | true => simp (disch := first | assumption | omega | (exact shp_fok (by first | assumption | exact shp_sr _ _ (by assumption) | exact shp_sr _ _ (shp_sr _ _ (by assumption)) | exact shp_sr _ _ (shp_sr _ _ (shp_sr _ _ (by assumption)))) (by decide)) | (simp only [fok_sr, aok_sr]; first | assumption | (exact shp_fok (by first | assumption | exact shp_sr _ _ (by assumption) | exact shp_sr _ _ (shp_sr _ _ (by assumption)) | exact shp_sr _ _ (shp_sr _ _ (shp_sr _ _ (by assumption)))) (by decide))) | (refine shp_aok (by first | assumption | exact shp_sr _ _ (by assumption) | exact shp_sr _ _ (shp_sr _ _ (by assumption)) | exact shp_sr _ _ (shp_sr _ _ (shp_sr _ _ (by assumption)))) rfl rfl ?_ ?_ <;> omega) | (exact shp_sr _ _ (by assumption)) | (exact shp_sr _ _ (shp_sr _ _ (by assumption))) | (exact shp_sr _ _ (shp_sr _ _ (shp_sr _ _ (by assumption)))) | (left; assumption) | (exact b2i_or _) | (simp; done)) only [e103_0, e103_1, e103_2, e103_3, e103_5, e103_6, e103_9, e103_12, e103_13, e103_16, e103_17, e103_18, e103_19, e103_20, e103_23, e103_24, e103_26, e103_28, e103_31, e103_34, e103_35, e103_37, e103_40, e103_41, e103_43, e103_46, e103_47, e103_50, e103_51, e103_54, e103_55, e103_56, e103_58, e103_59, e103_62, e103_65, e103_66, e103_69, e103_72, e103_73, e103_76, e103_77, e103_79, e103_81, e103_84, e103_85, e103_86, e103_87, e103_90, e103_91, e103_92, e103_94, e103_95, e103_98, e103_101, e103_102, e103_105, e103_106, e103_107, e103_110, e103_113, e103_114, e103_117, e103_118, e103_121, e103_124, e103_126, eq_self, ne_a, ne_b, ne_c, Nat.reduceEqDiff, lt0, bnd_ok, psh_I, psh_L, psh_R, psh_U, gt_sr, gr_sr, sk_sr, nn_sr, ↓reduceIte, Int.toNat_natCast, Int.reduceToNat, a4, h4, b2i_t, Int.reduceEq]
      | false => simp (disch := first | assumption | omega | (exact shp_fok (by first | assumption | exact shp_sr _ _ (by assumption) | exact shp_sr _ _ (shp_sr _ _ (by assumption)) | exact shp_sr _ _ (shp_sr _ _ (shp_sr _ _ (by assumption)))) (by decide)) | (simp only [fok_sr, aok_sr]; first | assumption | (exact shp_fok (by first | assumption | exact shp_sr _ _ (by assumption) | exact shp_sr _ _ (shp_sr _ _ (by assumption)) | exact shp_sr _ _ (shp_sr _ _ (shp_sr _ _ (by assumption)))) (by decide))) | (refine shp_aok (by first | assumption | exact shp_sr _ _ (by assumption) | exact shp_sr _ _ (shp_sr _ _ (by assumption)) | exact shp_sr _ _ (shp_sr _ _ (shp_sr _ _ (by assumption)))) rfl rfl ?_ ?_ <;> omega) | (exact shp_sr _ _ (by assumption)) | (exact shp_sr _ _ (shp_sr _ _ (by assumption))) | (exact shp_sr _ _ (shp_sr _ _ (shp_sr _ _ (by assumption)))) | (left; assumption) | (exact b2i_or _) | (simp; done)) only [e103_0, e103_1, e103_2, e103_3, e103_5, e103_6, e103_9, e103_12, e103_13, e103_16, e103_17, e103_18, e103_19, e103_20, e103_23, e103_24, e103_26, e103_28, e103_31, e103_34, e103_35, e103_37, e103_40, e103_41, e103_43, e103_46, e103_47, e103_50, e103_51, e103_54, e103_55, e103_56, e103_58, e103_59, e103_62, e103_65, e103_66, e103_69, e103_72, e103_73, e103_76, e103_77, e103_79, e103_81, e103_84, e103_85, e103_86, e103_87, e103_90, e103_91, e103_92, e103_94, e103_95, e103_98, e103_101, e103_102, e103_105, e103_106, e103_107, e103_110, e103_113, e103_114, e103_117, e103_118, e103_121, e103_124, e103_126, eq_self, ne_a, ne_b, ne_c, Nat.reduceEqDiff, lt0, bnd_ok, psh_I, psh_L, psh_R, psh_U, gt_sr, gr_sr, sk_sr, nn_sr, ↓reduceIte, Int.toNat_natCast, Int.reduceToNat, a4, h4, b2i_f, Bool.false_eq_true]
    · intro k hk hk' ih q3 q4
      have w5 : wr ((k : Int) + 1) = (k : Int) + 1 := wr_id (by omega) (by omega)
      have hsk := a8.2 k hk
      have w7 : wr (sg k - 97) = sg k - 97 := wr_id (by omega) (by omega)
      have e3 : fltN (dn_ d) sg (cn - k) k = if fits (dn_ d) sg k = true then fltN (dn_ d) sg (cn - (k + 1)) (k + 1) else (k : Int) := by
        rw [show cn - k = (cn - (k + 1)) + 1 by omega]
        rfl
      have e4 : fac (dn_ d) sg (k + 1) = (!fac (dn_ d) sg k && isC (dn_ d) (sg k - 97)) := rfl
      have hc1 := hic (sg k - 97)
      have hbd := hr_bd (sg k)
      have hcc : isC (dn_ d) (sg k - 97) = decide (0 ≤ sg k - 97 ∧ sg k - 97 < (dn_ d : Nat)) := rfl
      rw [e3]
      rw [e4] at ih
      rw [e103_4]
      unfold fits
      cases hx : fac (dn_ d) sg k with
      | true =>
        rw [hx, Bool.not_true, Bool.false_and] at ih
        simp only [↓reduceIte]
        unfold isA
        by_cases g1 : 48 ≤ sg k ∧ sg k ≤ 57
        · rw [if_pos (decide_eq_true (by omega))]
          simp (disch := first | assumption | omega | (exact shp_fok (by first | assumption | exact shp_sr _ _ (by assumption) | exact shp_sr _ _ (shp_sr _ _ (by assumption)) | exact shp_sr _ _ (shp_sr _ _ (shp_sr _ _ (by assumption)))) (by decide)) | (simp only [fok_sr, aok_sr]; first | assumption | (exact shp_fok (by first | assumption | exact shp_sr _ _ (by assumption) | exact shp_sr _ _ (shp_sr _ _ (by assumption)) | exact shp_sr _ _ (shp_sr _ _ (shp_sr _ _ (by assumption)))) (by decide))) | (refine shp_aok (by first | assumption | exact shp_sr _ _ (by assumption) | exact shp_sr _ _ (shp_sr _ _ (by assumption)) | exact shp_sr _ _ (shp_sr _ _ (shp_sr _ _ (by assumption)))) rfl rfl ?_ ?_ <;> omega) | (exact shp_sr _ _ (by assumption)) | (exact shp_sr _ _ (shp_sr _ _ (by assumption))) | (exact shp_sr _ _ (shp_sr _ _ (shp_sr _ _ (by assumption)))) | (left; assumption) | (exact b2i_or _) | (simp; done)) only [e103_0, e103_1, e103_2, e103_3, e103_5, e103_6, e103_9, e103_12, e103_13, e103_16, e103_17, e103_18, e103_19, e103_20, e103_23, e103_24, e103_26, e103_28, e103_31, e103_34, e103_35, e103_37, e103_40, e103_41, e103_43, e103_46, e103_47, e103_50, e103_51, e103_54, e103_55, e103_56, e103_58, e103_59, e103_62, e103_65, e103_66, e103_69, e103_72, e103_73, e103_76, e103_77, e103_79, e103_81, e103_84, e103_85, e103_86, e103_87, e103_90, e103_91, e103_92, e103_94, e103_95, e103_98, e103_101, e103_102, e103_105, e103_106, e103_107, e103_110, e103_113, e103_114, e103_117, e103_118, e103_121, e103_124, e103_126, eq_self, ne_a, ne_b, ne_c, Nat.reduceEqDiff, lt0, bnd_ok, psh_I, psh_L, psh_R, psh_U, gt_sr, gr_sr, sk_sr, nn_sr, ↓reduceIte, Int.toNat_natCast, Int.reduceToNat, a4, hk', g24_10, a7, b2i_t, m_in, if_pos g1, Int.reduceEq, w5]
          exact ih _ _
        · by_cases g2 : sg k = 43
          · rw [if_pos (decide_eq_true (by omega))]
            simp (disch := first | assumption | omega | (exact shp_fok (by first | assumption | exact shp_sr _ _ (by assumption) | exact shp_sr _ _ (shp_sr _ _ (by assumption)) | exact shp_sr _ _ (shp_sr _ _ (shp_sr _ _ (by assumption)))) (by decide)) | (simp only [fok_sr, aok_sr]; first | assumption | (exact shp_fok (by first | assumption | exact shp_sr _ _ (by assumption) | exact shp_sr _ _ (shp_sr _ _ (by assumption)) | exact shp_sr _ _ (shp_sr _ _ (shp_sr _ _ (by assumption)))) (by decide))) | (refine shp_aok (by first | assumption | exact shp_sr _ _ (by assumption) | exact shp_sr _ _ (shp_sr _ _ (by assumption)) | exact shp_sr _ _ (shp_sr _ _ (shp_sr _ _ (by assumption)))) rfl rfl ?_ ?_ <;> omega) | (exact shp_sr _ _ (by assumption)) | (exact shp_sr _ _ (shp_sr _ _ (by assumption))) | (exact shp_sr _ _ (shp_sr _ _ (shp_sr _ _ (by assumption)))) | (left; assumption) | (exact b2i_or _) | (simp; done)) only [e103_0, e103_1, e103_2, e103_3, e103_5, e103_6, e103_9, e103_12, e103_13, e103_16, e103_17, e103_18, e103_19, e103_20, e103_23, e103_24, e103_26, e103_28, e103_31, e103_34, e103_35, e103_37, e103_40, e103_41, e103_43, e103_46, e103_47, e103_50, e103_51, e103_54, e103_55, e103_56, e103_58, e103_59, e103_62, e103_65, e103_66, e103_69, e103_72, e103_73, e103_76, e103_77, e103_79, e103_81, e103_84, e103_85, e103_86, e103_87, e103_90, e103_91, e103_92, e103_94, e103_95, e103_98, e103_101, e103_102, e103_105, e103_106, e103_107, e103_110, e103_113, e103_114, e103_117, e103_118, e103_121, e103_124, e103_126, eq_self, ne_a, ne_b, ne_c, Nat.reduceEqDiff, lt0, bnd_ok, psh_I, psh_L, psh_R, psh_U, gt_sr, gr_sr, sk_sr, nn_sr, ↓reduceIte, Int.toNat_natCast, Int.reduceToNat, a4, hk', g24_10, a7, b2i_t, m_in, if_neg g1, Int.reduceEq, w5, if_pos g2]
            exact ih _ _
          · by_cases g3 : sg k = 42
            · rw [if_pos (decide_eq_true (by omega))]
              simp (disch := first | assumption | omega | (exact shp_fok (by first | assumption | exact shp_sr _ _ (by assumption) | exact shp_sr _ _ (shp_sr _ _ (by assumption)) | exact shp_sr _ _ (shp_sr _ _ (shp_sr _ _ (by assumption)))) (by decide)) | (simp only [fok_sr, aok_sr]; first | assumption | (exact shp_fok (by first | assumption | exact shp_sr _ _ (by assumption) | exact shp_sr _ _ (shp_sr _ _ (by assumption)) | exact shp_sr _ _ (shp_sr _ _ (shp_sr _ _ (by assumption)))) (by decide))) | (refine shp_aok (by first | assumption | exact shp_sr _ _ (by assumption) | exact shp_sr _ _ (shp_sr _ _ (by assumption)) | exact shp_sr _ _ (shp_sr _ _ (shp_sr _ _ (by assumption)))) rfl rfl ?_ ?_ <;> omega) | (exact shp_sr _ _ (by assumption)) | (exact shp_sr _ _ (shp_sr _ _ (by assumption))) | (exact shp_sr _ _ (shp_sr _ _ (shp_sr _ _ (by assumption)))) | (left; assumption) | (exact b2i_or _) | (simp; done)) only [e103_0, e103_1, e103_2, e103_3, e103_5, e103_6, e103_9, e103_12, e103_13, e103_16, e103_17, e103_18, e103_19, e103_20, e103_23, e103_24, e103_26, e103_28, e103_31, e103_34, e103_35, e103_37, e103_40, e103_41, e103_43, e103_46, e103_47, e103_50, e103_51, e103_54, e103_55, e103_56, e103_58, e103_59, e103_62, e103_65, e103_66, e103_69, e103_72, e103_73, e103_76, e103_77, e103_79, e103_81, e103_84, e103_85, e103_86, e103_87, e103_90, e103_91, e103_92, e103_94, e103_95, e103_98, e103_101, e103_102, e103_105, e103_106, e103_107, e103_110, e103_113, e103_114, e103_117, e103_118, e103_121, e103_124, e103_126, eq_self, ne_a, ne_b, ne_c, Nat.reduceEqDiff, lt0, bnd_ok, psh_I, psh_L, psh_R, psh_U, gt_sr, gr_sr, sk_sr, nn_sr, ↓reduceIte, Int.toNat_natCast, Int.reduceToNat, a4, hk', g24_10, a7, b2i_t, m_in, if_neg g1, Int.reduceEq, w5, if_neg g2, if_pos g3]
              exact ih _ _
            · rw [if_neg (by rw [decide_eq_true_iff]; omega)]
              simp (disch := first | assumption | omega | (exact shp_fok (by first | assumption | exact shp_sr _ _ (by assumption) | exact shp_sr _ _ (shp_sr _ _ (by assumption)) | exact shp_sr _ _ (shp_sr _ _ (shp_sr _ _ (by assumption)))) (by decide)) | (simp only [fok_sr, aok_sr]; first | assumption | (exact shp_fok (by first | assumption | exact shp_sr _ _ (by assumption) | exact shp_sr _ _ (shp_sr _ _ (by assumption)) | exact shp_sr _ _ (shp_sr _ _ (shp_sr _ _ (by assumption)))) (by decide))) | (refine shp_aok (by first | assumption | exact shp_sr _ _ (by assumption) | exact shp_sr _ _ (shp_sr _ _ (by assumption)) | exact shp_sr _ _ (shp_sr _ _ (shp_sr _ _ (by assumption)))) rfl rfl ?_ ?_ <;> omega) | (exact shp_sr _ _ (by assumption)) | (exact shp_sr _ _ (shp_sr _ _ (by assumption))) | (exact shp_sr _ _ (shp_sr _ _ (shp_sr _ _ (by assumption)))) | (left; assumption) | (exact b2i_or _) | (simp; done)) only [e103_0, e103_1, e103_2, e103_3, e103_5, e103_6, e103_9, e103_12, e103_13, e103_16, e103_17, e103_18, e103_19, e103_20, e103_23, e103_24, e103_26, e103_28, e103_31, e103_34, e103_35, e103_37, e103_40, e103_41, e103_43, e103_46, e103_47, e103_50, e103_51, e103_54, e103_55, e103_56, e103_58, e103_59, e103_62, e103_65, e103_66, e103_69, e103_72, e103_73, e103_76, e103_77, e103_79, e103_81, e103_84, e103_85, e103_86, e103_87, e103_90, e103_91, e103_92, e103_94, e103_95, e103_98, e103_101, e103_102, e103_105, e103_106, e103_107, e103_110, e103_113, e103_114, e103_117, e103_118, e103_121, e103_124, e103_126, eq_self, ne_a, ne_b, ne_c, Nat.reduceEqDiff, lt0, bnd_ok, psh_I, psh_L, psh_R, psh_U, gt_sr, gr_sr, sk_sr, nn_sr, ↓reduceIte, Int.toNat_natCast, Int.reduceToNat, a4, hk', g24_10, a7, b2i_t, m_in, if_neg g1, Int.reduceEq, if_neg g2, if_neg g3]
      | false =>
        rw [hx, Bool.not_false, Bool.true_and] at ih
        simp only [Bool.false_eq_true, if_false]
        rw [hcc] at ih ⊢
        by_cases g1 : 0 ≤ sg k - 97 ∧ sg k - 97 < (dn_ d : Nat)
        · rw [if_pos g1] at hc1
          rw [decide_eq_true g1] at ih ⊢
          rw [Bool.true_or, if_pos rfl]
          simp (disch := first | assumption | omega | (exact shp_fok (by first | assumption | exact shp_sr _ _ (by assumption) | exact shp_sr _ _ (shp_sr _ _ (by assumption)) | exact shp_sr _ _ (shp_sr _ _ (shp_sr _ _ (by assumption)))) (by decide)) | (simp only [fok_sr, aok_sr]; first | assumption | (exact shp_fok (by first | assumption | exact shp_sr _ _ (by assumption) | exact shp_sr _ _ (shp_sr _ _ (by assumption)) | exact shp_sr _ _ (shp_sr _ _ (shp_sr _ _ (by assumption)))) (by decide))) | (refine shp_aok (by first | assumption | exact shp_sr _ _ (by assumption) | exact shp_sr _ _ (shp_sr _ _ (by assumption)) | exact shp_sr _ _ (shp_sr _ _ (shp_sr _ _ (by assumption)))) rfl rfl ?_ ?_ <;> omega) | (exact shp_sr _ _ (by assumption)) | (exact shp_sr _ _ (shp_sr _ _ (by assumption))) | (exact shp_sr _ _ (shp_sr _ _ (shp_sr _ _ (by assumption)))) | (left; assumption) | (exact b2i_or _) | (simp; done)) only [e103_0, e103_1, e103_2, e103_3, e103_5, e103_6, e103_9, e103_12, e103_13, e103_16, e103_17, e103_18, e103_19, e103_20, e103_23, e103_24, e103_26, e103_28, e103_31, e103_34, e103_35, e103_37, e103_40, e103_41, e103_43, e103_46, e103_47, e103_50, e103_51, e103_54, e103_55, e103_56, e103_58, e103_59, e103_62, e103_65, e103_66, e103_69, e103_72, e103_73, e103_76, e103_77, e103_79, e103_81, e103_84, e103_85, e103_86, e103_87, e103_90, e103_91, e103_92, e103_94, e103_95, e103_98, e103_101, e103_102, e103_105, e103_106, e103_107, e103_110, e103_113, e103_114, e103_117, e103_118, e103_121, e103_124, e103_126, eq_self, ne_a, ne_b, ne_c, Nat.reduceEqDiff, lt0, bnd_ok, psh_I, psh_L, psh_R, psh_U, gt_sr, gr_sr, sk_sr, nn_sr, ↓reduceIte, Int.toNat_natCast, Int.reduceToNat, a4, hk', g24_10, a7, b2i_f, w7, hc1, Int.reduceEq, w5]
          exact ih _ _
        · rw [if_neg g1] at hc1
          rw [decide_eq_false g1] at ih ⊢
          rw [Bool.false_or]
          have mk := m_kindOf (sg k) σ
          by_cases g2 : hr (sg k) = -6
          · rw [if_neg (by rw [decide_eq_true_iff]; exact fun h => h g2)]
            rw [g2, show kin (-6) = -6 from rfl] at mk
            simp (disch := first | assumption | omega | (exact shp_fok (by first | assumption | exact shp_sr _ _ (by assumption) | exact shp_sr _ _ (shp_sr _ _ (by assumption)) | exact shp_sr _ _ (shp_sr _ _ (shp_sr _ _ (by assumption)))) (by decide)) | (simp only [fok_sr, aok_sr]; first | assumption | (exact shp_fok (by first | assumption | exact shp_sr _ _ (by assumption) | exact shp_sr _ _ (shp_sr _ _ (by assumption)) | exact shp_sr _ _ (shp_sr _ _ (shp_sr _ _ (by assumption)))) (by decide))) | (refine shp_aok (by first | assumption | exact shp_sr _ _ (by assumption) | exact shp_sr _ _ (shp_sr _ _ (by assumption)) | exact shp_sr _ _ (shp_sr _ _ (shp_sr _ _ (by assumption)))) rfl rfl ?_ ?_ <;> omega) | (exact shp_sr _ _ (by assumption)) | (exact shp_sr _ _ (shp_sr _ _ (by assumption))) | (exact shp_sr _ _ (shp_sr _ _ (shp_sr _ _ (by assumption)))) | (left; assumption) | (exact b2i_or _) | (simp; done)) only [e103_0, e103_1, e103_2, e103_3, e103_5, e103_6, e103_9, e103_12, e103_13, e103_16, e103_17, e103_18, e103_19, e103_20, e103_23, e103_24, e103_26, e103_28, e103_31, e103_34, e103_35, e103_37, e103_40, e103_41, e103_43, e103_46, e103_47, e103_50, e103_51, e103_54, e103_55, e103_56, e103_58, e103_59, e103_62, e103_65, e103_66, e103_69, e103_72, e103_73, e103_76, e103_77, e103_79, e103_81, e103_84, e103_85, e103_86, e103_87, e103_90, e103_91, e103_92, e103_94, e103_95, e103_98, e103_101, e103_102, e103_105, e103_106, e103_107, e103_110, e103_113, e103_114, e103_117, e103_118, e103_121, e103_124, e103_126, eq_self, ne_a, ne_b, ne_c, Nat.reduceEqDiff, lt0, bnd_ok, psh_I, psh_L, psh_R, psh_U, gt_sr, gr_sr, sk_sr, nn_sr, ↓reduceIte, Int.toNat_natCast, Int.reduceToNat, a4, hk', g24_10, a7, b2i_f, w7, hc1, mk, Int.reduceEq, Int.reduceLT]
          · rw [if_pos (decide_eq_true g2)]
            have g3 : ¬ kin (hr (sg k)) < 0 := by unfold kin; rw [if_neg g2]; split <;> omega
            simp (disch := first | assumption | omega | (exact shp_fok (by first | assumption | exact shp_sr _ _ (by assumption) | exact shp_sr _ _ (shp_sr _ _ (by assumption)) | exact shp_sr _ _ (shp_sr _ _ (shp_sr _ _ (by assumption)))) (by decide)) | (simp only [fok_sr, aok_sr]; first | assumption | (exact shp_fok (by first | assumption | exact shp_sr _ _ (by assumption) | exact shp_sr _ _ (shp_sr _ _ (by assumption)) | exact shp_sr _ _ (shp_sr _ _ (shp_sr _ _ (by assumption)))) (by decide))) | (refine shp_aok (by first | assumption | exact shp_sr _ _ (by assumption) | exact shp_sr _ _ (shp_sr _ _ (by assumption)) | exact shp_sr _ _ (shp_sr _ _ (shp_sr _ _ (by assumption)))) rfl rfl ?_ ?_ <;> omega) | (exact shp_sr _ _ (by assumption)) | (exact shp_sr _ _ (shp_sr _ _ (by assumption))) | (exact shp_sr _ _ (shp_sr _ _ (shp_sr _ _ (by assumption)))) | (left; assumption) | (exact b2i_or _) | (simp; done)) only [e103_0, e103_1, e103_2, e103_3, e103_5, e103_6, e103_9, e103_12, e103_13, e103_16, e103_17, e103_18, e103_19, e103_20, e103_23, e103_24, e103_26, e103_28, e103_31, e103_34, e103_35, e103_37, e103_40, e103_41, e103_43, e103_46, e103_47, e103_50, e103_51, e103_54, e103_55, e103_56, e103_58, e103_59, e103_62, e103_65, e103_66, e103_69, e103_72, e103_73, e103_76, e103_77, e103_79, e103_81, e103_84, e103_85, e103_86, e103_87, e103_90, e103_91, e103_92, e103_94, e103_95, e103_98, e103_101, e103_102, e103_105, e103_106, e103_107, e103_110, e103_113, e103_114, e103_117, e103_118, e103_121, e103_124, e103_126, eq_self, ne_a, ne_b, ne_c, Nat.reduceEqDiff, lt0, bnd_ok, psh_I, psh_L, psh_R, psh_U, gt_sr, gr_sr, sk_sr, nn_sr, ↓reduceIte, Int.toNat_natCast, Int.reduceToNat, a4, hk', g24_10, a7, b2i_f, w7, hc1, mk, g3, Int.reduceEq, w5]
            exact ih _ _
  simp (disch := first | assumption | omega | (exact shp_fok (by first | assumption | exact shp_sr _ _ (by assumption) | exact shp_sr _ _ (shp_sr _ _ (by assumption)) | exact shp_sr _ _ (shp_sr _ _ (shp_sr _ _ (by assumption)))) (by decide)) | (simp only [fok_sr, aok_sr]; first | assumption | (exact shp_fok (by first | assumption | exact shp_sr _ _ (by assumption) | exact shp_sr _ _ (shp_sr _ _ (by assumption)) | exact shp_sr _ _ (shp_sr _ _ (shp_sr _ _ (by assumption)))) (by decide))) | (refine shp_aok (by first | assumption | exact shp_sr _ _ (by assumption) | exact shp_sr _ _ (shp_sr _ _ (by assumption)) | exact shp_sr _ _ (shp_sr _ _ (shp_sr _ _ (by assumption)))) rfl rfl ?_ ?_ <;> omega) | (exact shp_sr _ _ (by assumption)) | (exact shp_sr _ _ (shp_sr _ _ (by assumption))) | (exact shp_sr _ _ (shp_sr _ _ (shp_sr _ _ (by assumption)))) | (left; assumption) | (exact b2i_or _) | (simp; done)) only [e103_0, e103_1, e103_2, e103_3, e103_5, e103_6, e103_9, e103_12, e103_13, e103_16, e103_17, e103_18, e103_19, e103_20, e103_23, e103_24, e103_26, e103_28, e103_31, e103_34, e103_35, e103_37, e103_40, e103_41, e103_43, e103_46, e103_47, e103_50, e103_51, e103_54, e103_55, e103_56, e103_58, e103_59, e103_62, e103_65, e103_66, e103_69, e103_72, e103_73, e103_76, e103_77, e103_79, e103_81, e103_84, e103_85, e103_86, e103_87, e103_90, e103_91, e103_92, e103_94, e103_95, e103_98, e103_101, e103_102, e103_105, e103_106, e103_107, e103_110, e103_113, e103_114, e103_117, e103_118, e103_121, e103_124, e103_126, eq_self, ne_a, ne_b, ne_c, Nat.reduceEqDiff, lt0, bnd_ok, psh_I, psh_L, psh_R, psh_U, gt_sr, gr_sr, sk_sr, nn_sr, ↓reduceIte, Int.toNat_natCast, Int.reduceToNat]
  exact L _ _
theorem flt_cases (n : Nat) (sg : Nat → Int) : ∀ m k, fltN n sg m k = -6 ∨ 0 ≤ fltN n sg m k
  | 0, k => by unfold fltN; split <;> omega
  | m + 1, k => by
    unfold fltN
    split
    · exact flt_cases n sg m (k + 1)
    · omega
theorem flt_alh {n : Nat} (hn : n ≤ 24) {sg : Nat → Int} {cn : Nat} (h : alh cn sg = true) : flt n cn sg = -6 := by
  have hall := alN_at h
  have hf : ∀ k, k ≤ cn → fac n sg k = false := by
    intro k
    induction k with
    | zero => intro _; rfl
    | succ k ih =>
      intro hk
      have := hr_isC hn (of_decide_eq_true (hall k (by omega)))
      show (!fac n sg k && isC n (sg k - 97)) = false
      rw [this, Bool.and_false]
  have key : ∀ m k, k + m = cn → fltN n sg m k = -6 := by
    intro m
    induction m with
    | zero => intro k hk; unfold fltN; rw [hf k (by omega)]; rfl
    | succ m ih =>
      intro k hk
      unfold fltN
      have : fits n sg k = true := by
        unfold fits
        rw [hf k (by omega), if_neg Bool.false_ne_true, hall k (by omega), Bool.or_true]
      rw [if_pos this]
      exact ih (k + 1) (by omega)
  exact key cn 0 (by omega)
set_option maxRecDepth 100000 in
set_option maxHeartbeats 4000000 in
theorem m_areHours {σ : St} {d : Dat} {cn : Nat} {sg : Nat → Int} (h : mdl σ d cn sg) : run 123 0 [vR 24, vU, vU] [] σ = some (vI (b2i (alh cn sg)), σ) := by
  have ef := m_faultOf h
  obtain ⟨a1, a2, a3, a4, a5, a6, a7, a8, a9, a10⟩ := id h
  have hs := a1.1
  have h60 := a8.1
  by_cases hfl : flt (dn_ d) cn sg = -6
  · generalize hp : (fun i => decide (hr (sg i) ≠ -6)) = p
    have hpi : ∀ i, p i = decide (hr (sg i) ≠ -6) := fun i => by rw [← hp]
    have stop : ∀ m k : Nat, k + m = cn → alN p k = false → alN p (k + m) = false := by
      intro m
      induction m with
      | zero => intro k _ h; exact h
      | succ m ih =>
        intro k hk h
        have : alN p (k + 1) = false := by
          show (alN p k && p k) = false
          rw [h, Bool.false_and]
        rw [show k + (m + 1) = k + 1 + m by omega]
        exact ih (k + 1) (by omega) this
    have L : run 123 15 [vR 24, vI (b2i (alN p 0)), vI 0] [] σ = some (vI (b2i (alN p cn)), σ) := by
      refine bk (P := fun k z => run 123 15 [vR 24, vI (b2i (alN p k)), vI z] [] σ = some (vI (b2i (alN p cn)), σ)) (n := cn) ?_ ?_
      · have h4 : ¬ (cn : Int) < (cn : Int) := by omega
        rw [e123_15]
        simp (disch := first | assumption | omega | (exact shp_fok (by first | assumption | exact shp_sr _ _ (by assumption) | exact shp_sr _ _ (shp_sr _ _ (by assumption)) | exact shp_sr _ _ (shp_sr _ _ (shp_sr _ _ (by assumption)))) (by decide)) | (simp only [fok_sr, aok_sr]; first | assumption | (exact shp_fok (by first | assumption | exact shp_sr _ _ (by assumption) | exact shp_sr _ _ (shp_sr _ _ (by assumption)) | exact shp_sr _ _ (shp_sr _ _ (shp_sr _ _ (by assumption)))) (by decide))) | (refine shp_aok (by first | assumption | exact shp_sr _ _ (by assumption) | exact shp_sr _ _ (shp_sr _ _ (by assumption)) | exact shp_sr _ _ (shp_sr _ _ (shp_sr _ _ (by assumption)))) rfl rfl ?_ ?_ <;> omega) | (exact shp_sr _ _ (by assumption)) | (exact shp_sr _ _ (shp_sr _ _ (by assumption))) | (exact shp_sr _ _ (shp_sr _ _ (shp_sr _ _ (by assumption)))) | (left; assumption) | (exact b2i_or _) | (simp; done)) only [e123_0, e123_1, e123_4, e123_7, e123_8, e123_11, e123_12, e123_13, e123_14, e123_16, e123_17, e123_20, e123_23, e123_24, e123_27, e123_28, e123_31, e123_32, e123_33, e123_36, e123_39, e123_40, e123_43, e123_44, e123_45, e123_48, e123_51, e123_52, eq_self, ne_a, ne_b, ne_c, Nat.reduceEqDiff, lt0, bnd_ok, psh_I, psh_L, psh_R, psh_U, gt_sr, gr_sr, sk_sr, nn_sr, ↓reduceIte, Int.toNat_natCast, Int.reduceToNat, a4, h4]
      · intro k hk hk' ih
        have w5 : wr ((k : Int) + 1) = (k : Int) + 1 := wr_id (by omega) (by omega)
        have e3 : alN p (k + 1) = (alN p k && p k) := rfl
        have mk := m_kindOf (sg k) σ
        have hbd := hr_bd (sg k)
        rw [e3, hpi] at ih
        rw [e123_15]
        cases hx : alN p k with
        | false =>
          have e9 := stop (cn - k) k (by omega) hx
          rw [show k + (cn - k) = cn by omega] at e9
          rw [e9]
          simp (disch := first | assumption | omega | (exact shp_fok (by first | assumption | exact shp_sr _ _ (by assumption) | exact shp_sr _ _ (shp_sr _ _ (by assumption)) | exact shp_sr _ _ (shp_sr _ _ (shp_sr _ _ (by assumption)))) (by decide)) | (simp only [fok_sr, aok_sr]; first | assumption | (exact shp_fok (by first | assumption | exact shp_sr _ _ (by assumption) | exact shp_sr _ _ (shp_sr _ _ (by assumption)) | exact shp_sr _ _ (shp_sr _ _ (shp_sr _ _ (by assumption)))) (by decide))) | (refine shp_aok (by first | assumption | exact shp_sr _ _ (by assumption) | exact shp_sr _ _ (shp_sr _ _ (by assumption)) | exact shp_sr _ _ (shp_sr _ _ (shp_sr _ _ (by assumption)))) rfl rfl ?_ ?_ <;> omega) | (exact shp_sr _ _ (by assumption)) | (exact shp_sr _ _ (shp_sr _ _ (by assumption))) | (exact shp_sr _ _ (shp_sr _ _ (shp_sr _ _ (by assumption)))) | (left; assumption) | (exact b2i_or _) | (simp; done)) only [e123_0, e123_1, e123_4, e123_7, e123_8, e123_11, e123_12, e123_13, e123_14, e123_16, e123_17, e123_20, e123_23, e123_24, e123_27, e123_28, e123_31, e123_32, e123_33, e123_36, e123_39, e123_40, e123_43, e123_44, e123_45, e123_48, e123_51, e123_52, eq_self, ne_a, ne_b, ne_c, Nat.reduceEqDiff, lt0, bnd_ok, psh_I, psh_L, psh_R, psh_U, gt_sr, gr_sr, sk_sr, nn_sr, ↓reduceIte, Int.toNat_natCast, Int.reduceToNat, a4, hk', b2i_f]
        | true =>
          rw [hx, Bool.true_and] at ih
          by_cases g2 : hr (sg k) = -6
          · rw [decide_eq_false (fun h => h g2)] at ih
            rw [g2, show kin (-6) = -6 from rfl] at mk
            simp (disch := first | assumption | omega | (exact shp_fok (by first | assumption | exact shp_sr _ _ (by assumption) | exact shp_sr _ _ (shp_sr _ _ (by assumption)) | exact shp_sr _ _ (shp_sr _ _ (shp_sr _ _ (by assumption)))) (by decide)) | (simp only [fok_sr, aok_sr]; first | assumption | (exact shp_fok (by first | assumption | exact shp_sr _ _ (by assumption) | exact shp_sr _ _ (shp_sr _ _ (by assumption)) | exact shp_sr _ _ (shp_sr _ _ (shp_sr _ _ (by assumption)))) (by decide))) | (refine shp_aok (by first | assumption | exact shp_sr _ _ (by assumption) | exact shp_sr _ _ (shp_sr _ _ (by assumption)) | exact shp_sr _ _ (shp_sr _ _ (shp_sr _ _ (by assumption)))) rfl rfl ?_ ?_ <;> omega) | (exact shp_sr _ _ (by assumption)) | (exact shp_sr _ _ (shp_sr _ _ (by assumption))) | (exact shp_sr _ _ (shp_sr _ _ (shp_sr _ _ (by assumption)))) | (left; assumption) | (exact b2i_or _) | (simp; done)) only [e123_0, e123_1, e123_4, e123_7, e123_8, e123_11, e123_12, e123_13, e123_14, e123_16, e123_17, e123_20, e123_23, e123_24, e123_27, e123_28, e123_31, e123_32, e123_33, e123_36, e123_39, e123_40, e123_43, e123_44, e123_45, e123_48, e123_51, e123_52, eq_self, ne_a, ne_b, ne_c, Nat.reduceEqDiff, lt0, bnd_ok, psh_I, psh_L, psh_R, psh_U, gt_sr, gr_sr, sk_sr, nn_sr, ↓reduceIte, Int.toNat_natCast, Int.reduceToNat, a4, hk', g24_10, a7, b2i_t, mk, Int.reduceEq, Int.reduceLT, w5]
            exact ih
          · rw [decide_eq_true g2] at ih
            have g3 : ¬ kin (hr (sg k)) < 0 := by unfold kin; rw [if_neg g2]; split <;> omega
            simp (disch := first | assumption | omega | (exact shp_fok (by first | assumption | exact shp_sr _ _ (by assumption) | exact shp_sr _ _ (shp_sr _ _ (by assumption)) | exact shp_sr _ _ (shp_sr _ _ (shp_sr _ _ (by assumption)))) (by decide)) | (simp only [fok_sr, aok_sr]; first | assumption | (exact shp_fok (by first | assumption | exact shp_sr _ _ (by assumption) | exact shp_sr _ _ (shp_sr _ _ (by assumption)) | exact shp_sr _ _ (shp_sr _ _ (shp_sr _ _ (by assumption)))) (by decide))) | (refine shp_aok (by first | assumption | exact shp_sr _ _ (by assumption) | exact shp_sr _ _ (shp_sr _ _ (by assumption)) | exact shp_sr _ _ (shp_sr _ _ (shp_sr _ _ (by assumption)))) rfl rfl ?_ ?_ <;> omega) | (exact shp_sr _ _ (by assumption)) | (exact shp_sr _ _ (shp_sr _ _ (by assumption))) | (exact shp_sr _ _ (shp_sr _ _ (shp_sr _ _ (by assumption)))) | (left; assumption) | (exact b2i_or _) | (simp; done)) only [e123_0, e123_1, e123_4, e123_7, e123_8, e123_11, e123_12, e123_13, e123_14, e123_16, e123_17, e123_20, e123_23, e123_24, e123_27, e123_28, e123_31, e123_32, e123_33, e123_36, e123_39, e123_40, e123_43, e123_44, e123_45, e123_48, e123_51, e123_52, eq_self, ne_a, ne_b, ne_c, Nat.reduceEqDiff, lt0, bnd_ok, psh_I, psh_L, psh_R, psh_U, gt_sr, gr_sr, sk_sr, nn_sr, ↓reduceIte, Int.toNat_natCast, Int.reduceToNat, a4, hk', g24_10, a7, b2i_t, mk, g3, Int.reduceEq, w5]
            exact ih
    rw [hfl] at ef
    simp (disch := first | assumption | omega | (exact shp_fok (by first | assumption | exact shp_sr _ _ (by assumption) | exact shp_sr _ _ (shp_sr _ _ (by assumption)) | exact shp_sr _ _ (shp_sr _ _ (shp_sr _ _ (by assumption)))) (by decide)) | (simp only [fok_sr, aok_sr]; first | assumption | (exact shp_fok (by first | assumption | exact shp_sr _ _ (by assumption) | exact shp_sr _ _ (shp_sr _ _ (by assumption)) | exact shp_sr _ _ (shp_sr _ _ (shp_sr _ _ (by assumption)))) (by decide))) | (refine shp_aok (by first | assumption | exact shp_sr _ _ (by assumption) | exact shp_sr _ _ (shp_sr _ _ (by assumption)) | exact shp_sr _ _ (shp_sr _ _ (shp_sr _ _ (by assumption)))) rfl rfl ?_ ?_ <;> omega) | (exact shp_sr _ _ (by assumption)) | (exact shp_sr _ _ (shp_sr _ _ (by assumption))) | (exact shp_sr _ _ (shp_sr _ _ (shp_sr _ _ (by assumption)))) | (left; assumption) | (exact b2i_or _) | (simp; done)) only [e123_0, e123_1, e123_4, e123_7, e123_8, e123_11, e123_12, e123_13, e123_14, e123_16, e123_17, e123_20, e123_23, e123_24, e123_27, e123_28, e123_31, e123_32, e123_33, e123_36, e123_39, e123_40, e123_43, e123_44, e123_45, e123_48, e123_51, e123_52, eq_self, ne_a, ne_b, ne_c, Nat.reduceEqDiff, lt0, bnd_ok, psh_I, psh_L, psh_R, psh_U, gt_sr, gr_sr, sk_sr, nn_sr, ↓reduceIte, Int.toNat_natCast, Int.reduceToNat, ef, Int.reduceLT]
    unfold alh
    rw [hp]
    exact L
  · have h9 : alh cn sg = false := by
      cases hx : alh cn sg with
      | false => rfl
      | true => exact absurd (flt_alh (dn24 a9) hx) hfl
    have h8 := flt_cases (dn_ d) sg cn 0
    have h7 : ¬ flt (dn_ d) cn sg < 0 := by unfold flt at hfl ⊢; omega
    rw [h9]
    have ex : ∀ q, run 123 15 [vR 24, vI 0, q] [] σ = some (vI (b2i false), σ) ∨ True := fun q => Or.inr trivial
    by_cases h6 : (0 : Int) < (cn : Int)
    · simp (disch := first | assumption | omega | (exact shp_fok (by first | assumption | exact shp_sr _ _ (by assumption) | exact shp_sr _ _ (shp_sr _ _ (by assumption)) | exact shp_sr _ _ (shp_sr _ _ (shp_sr _ _ (by assumption)))) (by decide)) | (simp only [fok_sr, aok_sr]; first | assumption | (exact shp_fok (by first | assumption | exact shp_sr _ _ (by assumption) | exact shp_sr _ _ (shp_sr _ _ (by assumption)) | exact shp_sr _ _ (shp_sr _ _ (shp_sr _ _ (by assumption)))) (by decide))) | (refine shp_aok (by first | assumption | exact shp_sr _ _ (by assumption) | exact shp_sr _ _ (shp_sr _ _ (by assumption)) | exact shp_sr _ _ (shp_sr _ _ (shp_sr _ _ (by assumption)))) rfl rfl ?_ ?_ <;> omega) | (exact shp_sr _ _ (by assumption)) | (exact shp_sr _ _ (shp_sr _ _ (by assumption))) | (exact shp_sr _ _ (shp_sr _ _ (shp_sr _ _ (by assumption)))) | (left; assumption) | (exact b2i_or _) | (simp; done)) only [e123_0, e123_1, e123_4, e123_7, e123_8, e123_11, e123_12, e123_13, e123_14, eq_self, ne_a, ne_b, ne_c, Nat.reduceEqDiff, lt0, bnd_ok, psh_I, psh_L, psh_R, psh_U, gt_sr, gr_sr, sk_sr, nn_sr, ↓reduceIte, Int.toNat_natCast, Int.reduceToNat, ef, h7]
      rw [e123_15]
      simp (disch := first | assumption | omega | (exact shp_fok (by first | assumption | exact shp_sr _ _ (by assumption) | exact shp_sr _ _ (shp_sr _ _ (by assumption)) | exact shp_sr _ _ (shp_sr _ _ (shp_sr _ _ (by assumption)))) (by decide)) | (simp only [fok_sr, aok_sr]; first | assumption | (exact shp_fok (by first | assumption | exact shp_sr _ _ (by assumption) | exact shp_sr _ _ (shp_sr _ _ (by assumption)) | exact shp_sr _ _ (shp_sr _ _ (shp_sr _ _ (by assumption)))) (by decide))) | (refine shp_aok (by first | assumption | exact shp_sr _ _ (by assumption) | exact shp_sr _ _ (shp_sr _ _ (by assumption)) | exact shp_sr _ _ (shp_sr _ _ (shp_sr _ _ (by assumption)))) rfl rfl ?_ ?_ <;> omega) | (exact shp_sr _ _ (by assumption)) | (exact shp_sr _ _ (shp_sr _ _ (by assumption))) | (exact shp_sr _ _ (shp_sr _ _ (shp_sr _ _ (by assumption)))) | (left; assumption) | (exact b2i_or _) | (simp; done)) only [e123_16, e123_17, e123_20, e123_23, e123_24, e123_27, e123_28, e123_31, e123_32, e123_33, e123_36, e123_39, e123_40, e123_43, e123_44, e123_45, e123_48, e123_51, e123_52, eq_self, ne_a, ne_b, ne_c, Nat.reduceEqDiff, lt0, bnd_ok, psh_I, psh_L, psh_R, psh_U, gt_sr, gr_sr, sk_sr, nn_sr, ↓reduceIte, Int.toNat_natCast, Int.reduceToNat, a4, h6, b2i_f]
    · simp (disch := first | assumption | omega | (exact shp_fok (by first | assumption | exact shp_sr _ _ (by assumption) | exact shp_sr _ _ (shp_sr _ _ (by assumption)) | exact shp_sr _ _ (shp_sr _ _ (shp_sr _ _ (by assumption)))) (by decide)) | (simp only [fok_sr, aok_sr]; first | assumption | (exact shp_fok (by first | assumption | exact shp_sr _ _ (by assumption) | exact shp_sr _ _ (shp_sr _ _ (by assumption)) | exact shp_sr _ _ (shp_sr _ _ (shp_sr _ _ (by assumption)))) (by decide))) | (refine shp_aok (by first | assumption | exact shp_sr _ _ (by assumption) | exact shp_sr _ _ (shp_sr _ _ (by assumption)) | exact shp_sr _ _ (shp_sr _ _ (shp_sr _ _ (by assumption)))) rfl rfl ?_ ?_ <;> omega) | (exact shp_sr _ _ (by assumption)) | (exact shp_sr _ _ (shp_sr _ _ (by assumption))) | (exact shp_sr _ _ (shp_sr _ _ (shp_sr _ _ (by assumption)))) | (left; assumption) | (exact b2i_or _) | (simp; done)) only [e123_0, e123_1, e123_4, e123_7, e123_8, e123_11, e123_12, e123_13, e123_14, eq_self, ne_a, ne_b, ne_c, Nat.reduceEqDiff, lt0, bnd_ok, psh_I, psh_L, psh_R, psh_U, gt_sr, gr_sr, sk_sr, nn_sr, ↓reduceIte, Int.toNat_natCast, Int.reduceToNat, ef, h7]
      rw [e123_15]
      simp (disch := first | assumption | omega | (exact shp_fok (by first | assumption | exact shp_sr _ _ (by assumption) | exact shp_sr _ _ (shp_sr _ _ (by assumption)) | exact shp_sr _ _ (shp_sr _ _ (shp_sr _ _ (by assumption)))) (by decide)) | (simp only [fok_sr, aok_sr]; first | assumption | (exact shp_fok (by first | assumption | exact shp_sr _ _ (by assumption) | exact shp_sr _ _ (shp_sr _ _ (by assumption)) | exact shp_sr _ _ (shp_sr _ _ (shp_sr _ _ (by assumption)))) (by decide))) | (refine shp_aok (by first | assumption | exact shp_sr _ _ (by assumption) | exact shp_sr _ _ (shp_sr _ _ (by assumption)) | exact shp_sr _ _ (shp_sr _ _ (shp_sr _ _ (by assumption)))) rfl rfl ?_ ?_ <;> omega) | (exact shp_sr _ _ (by assumption)) | (exact shp_sr _ _ (shp_sr _ _ (by assumption))) | (exact shp_sr _ _ (shp_sr _ _ (shp_sr _ _ (by assumption)))) | (left; assumption) | (exact b2i_or _) | (simp; done)) only [e123_16, e123_17, e123_20, e123_23, e123_24, e123_27, e123_28, e123_31, e123_32, e123_33, e123_36, e123_39, e123_40, e123_43, e123_44, e123_45, e123_48, e123_51, e123_52, eq_self, ne_a, ne_b, ne_c, Nat.reduceEqDiff, lt0, bnd_ok, psh_I, psh_L, psh_R, psh_U, gt_sr, gr_sr, sk_sr, nn_sr, ↓reduceIte, Int.toNat_natCast, Int.reduceToNat, a4, h6, b2i_f]
