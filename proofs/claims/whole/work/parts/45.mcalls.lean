/-! THE MODEL's calls: banks, nights -/
def SMo : List Nat := [24, 25, 26, 27, 28, 29, 30, 31]
/-- what a call of the model answers, with what state behind -/
def mla (M : Nat) (as : List AV) (d : Dat) (cn : Nat) (sg : Nat → Int) (r : AV) (d' : Dat) (cn' : Nat) (sg' : Nat → Int) : Prop := ∀ σ, mdl σ d cn sg → ∃ σ', run M 0 as [] σ = some (r, σ') ∧ chg SMo σ σ' ∧ mdl σ' d' cn' sg'
theorem sch_SMo {σ σ' : St} (h : sch σ σ') : chg SMo σ σ' := chg_mo h.1 (fun k hk => by
  have : SX.all (fun i => SMo.elem i) = true := rfl
  exact List.elem_iff.mp (List.all_eq_true.mp this k hk))
theorem mdl_rf {σ : St} {d : Dat} {cn : Nat} {sg : Nat → Int} (h : mdl σ d cn sg) : chg SMo σ σ ∧ mdl σ d cn sg := ⟨chg_rf _ _, h⟩
theorem lb_z0 (n : Nat) : laB z0 n = 0 := bsN_0 fun i _ => by show decide ((0 : Int) = 1) = false; decide
set_option maxRecDepth 100000 in
set_option maxHeartbeats 4000000 in
theorem m_clear {σ : St} {d : Dat} {cn : Nat} {sg : Nat → Int} {R C : Nat} (h : mdl σ d cn sg) (hd : 1 ≤ R ∧ R ≤ 4 ∧ 1 ≤ C ∧ C ≤ 6) {F : Nat → Int} (hF : F 0 = (R : Int) ∧ F 1 = (C : Int) ∧ F 9 = (cn : Int)) :
    ∃ σ', run 90 0 [vR 24, vU] [] (sr σ 24 F) = some (vU, σ') ∧ chg SMo σ σ' ∧ mdl σ' (nw R C (dsc d) (dsn d)) cn sg := by
  obtain ⟨a1, a2, a3, a4, a5, a6, a7, a8, a9, a10⟩ := id h
  have hs := a1.1
  generalize hG : ru (ru (ru (ru F 3 0) 4 2) 5 1) 7 0 = G
  have L1 : run 90 22 [vR 24, vI 0] [] (sr (sr σ 24 G) 25 (upto 0 z0 (dt d))) = run 90 43 [vR 24, vI 0] [] (sr (sr σ 24 G) 25 (upto 24 z0 (dt d))) := by
    refine bk (P := fun k z => run 90 22 [vR 24, vI z] [] (sr (sr σ 24 G) 25 (upto k z0 (dt d))) = run 90 43 [vR 24, vI 0] [] (sr (sr σ 24 G) 25 (upto 24 z0 (dt d)))) (n := 24) ?_ ?_
    · rw [e90_22]
      simp (disch := first | assumption | omega | (exact shp_fok (by first | assumption | exact shp_sr _ _ (by assumption) | exact shp_sr _ _ (shp_sr _ _ (by assumption)) | exact shp_sr _ _ (shp_sr _ _ (shp_sr _ _ (by assumption)))) (by decide)) | (simp only [fok_sr, aok_sr]; first | assumption | (exact shp_fok (by first | assumption | exact shp_sr _ _ (by assumption) | exact shp_sr _ _ (shp_sr _ _ (by assumption)) | exact shp_sr _ _ (shp_sr _ _ (shp_sr _ _ (by assumption)))) (by decide))) | (refine shp_aok (by first | assumption | exact shp_sr _ _ (by assumption) | exact shp_sr _ _ (shp_sr _ _ (by assumption)) | exact shp_sr _ _ (shp_sr _ _ (shp_sr _ _ (by assumption)))) rfl rfl ?_ ?_ <;> omega) | (exact shp_sr _ _ (by assumption)) | (exact shp_sr _ _ (shp_sr _ _ (by assumption))) | (exact shp_sr _ _ (shp_sr _ _ (shp_sr _ _ (by assumption)))) | (left; assumption) | (exact b2i_or _) | (simp; done)) only [e90_0, e90_1, e90_2, e90_5, e90_6, e90_7, e90_10, e90_11, e90_12, e90_15, e90_16, e90_17, e90_20, e90_21, e90_23, e90_25, e90_28, e90_29, e90_32, e90_33, e90_34, e90_35, e90_38, e90_41, e90_42, e90_44, e90_46, e90_49, e90_50, e90_53, e90_54, e90_55, e90_56, e90_59, e90_62, eq_self, ne_a, ne_b, ne_c, Nat.reduceEqDiff, lt0, bnd_ok, psh_I, psh_L, psh_R, psh_U, gt_sr, gr_sr, sk_sr, nn_sr, ↓reduceIte, Int.toNat_natCast, Int.reduceToNat, Int.cast_ofNat_Int, Int.reduceLT]
    · intro k hk hk' ih
      have h4 : (k : Int) < 24 := hk'
      have w5 : wr ((k : Int) + 1) = (k : Int) + 1 := wr_id (by omega) (by omega)
      have u := upto_s k z0 (dt d) 0 rfl
      rw [e90_22]
      simp (disch := first | assumption | omega | (exact shp_fok (by first | assumption | exact shp_sr _ _ (by assumption) | exact shp_sr _ _ (shp_sr _ _ (by assumption)) | exact shp_sr _ _ (shp_sr _ _ (shp_sr _ _ (by assumption)))) (by decide)) | (simp only [fok_sr, aok_sr]; first | assumption | (exact shp_fok (by first | assumption | exact shp_sr _ _ (by assumption) | exact shp_sr _ _ (shp_sr _ _ (by assumption)) | exact shp_sr _ _ (shp_sr _ _ (shp_sr _ _ (by assumption)))) (by decide))) | (refine shp_aok (by first | assumption | exact shp_sr _ _ (by assumption) | exact shp_sr _ _ (shp_sr _ _ (by assumption)) | exact shp_sr _ _ (shp_sr _ _ (shp_sr _ _ (by assumption)))) rfl rfl ?_ ?_ <;> omega) | (exact shp_sr _ _ (by assumption)) | (exact shp_sr _ _ (shp_sr _ _ (by assumption))) | (exact shp_sr _ _ (shp_sr _ _ (shp_sr _ _ (by assumption)))) | (left; assumption) | (exact b2i_or _) | (simp; done)) only [e90_0, e90_1, e90_2, e90_5, e90_6, e90_7, e90_10, e90_11, e90_12, e90_15, e90_16, e90_17, e90_20, e90_21, e90_23, e90_25, e90_28, e90_29, e90_32, e90_33, e90_34, e90_35, e90_38, e90_41, e90_42, e90_44, e90_46, e90_49, e90_50, e90_53, e90_54, e90_55, e90_56, e90_59, e90_62, eq_self, ne_a, ne_b, ne_c, Nat.reduceEqDiff, lt0, bnd_ok, psh_I, psh_L, psh_R, psh_U, gt_sr, gr_sr, sk_sr, nn_sr, ↓reduceIte, Int.toNat_natCast, Int.reduceToNat, h4, g24_2, u, w5, sr_sr]
      exact ih
  rw [upto_0, upto_z (zr_z0 24) (zr_mo (ok_zt a9) (dn24 a9))] at L1
  have L2 : run 90 43 [vR 24, vI 0] [] (sr (sr (sr σ 24 G) 25 z0) 26 (upto 0 (fun _ => -1) (dwa d))) = some (vU, sr (sr (sr σ 24 G) 25 z0) 26 (upto 96 (fun _ => -1) (dwa d))) := by
    refine bk (P := fun k z => run 90 43 [vR 24, vI z] [] (sr (sr (sr σ 24 G) 25 z0) 26 (upto k (fun _ => -1) (dwa d))) = some (vU, sr (sr (sr σ 24 G) 25 z0) 26 (upto 96 (fun _ => -1) (dwa d)))) (n := 96) ?_ ?_
    · rw [e90_43]
      simp (disch := first | assumption | omega | (exact shp_fok (by first | assumption | exact shp_sr _ _ (by assumption) | exact shp_sr _ _ (shp_sr _ _ (by assumption)) | exact shp_sr _ _ (shp_sr _ _ (shp_sr _ _ (by assumption)))) (by decide)) | (simp only [fok_sr, aok_sr]; first | assumption | (exact shp_fok (by first | assumption | exact shp_sr _ _ (by assumption) | exact shp_sr _ _ (shp_sr _ _ (by assumption)) | exact shp_sr _ _ (shp_sr _ _ (shp_sr _ _ (by assumption)))) (by decide))) | (refine shp_aok (by first | assumption | exact shp_sr _ _ (by assumption) | exact shp_sr _ _ (shp_sr _ _ (by assumption)) | exact shp_sr _ _ (shp_sr _ _ (shp_sr _ _ (by assumption)))) rfl rfl ?_ ?_ <;> omega) | (exact shp_sr _ _ (by assumption)) | (exact shp_sr _ _ (shp_sr _ _ (by assumption))) | (exact shp_sr _ _ (shp_sr _ _ (shp_sr _ _ (by assumption)))) | (left; assumption) | (exact b2i_or _) | (simp; done)) only [e90_0, e90_1, e90_2, e90_5, e90_6, e90_7, e90_10, e90_11, e90_12, e90_15, e90_16, e90_17, e90_20, e90_21, e90_23, e90_25, e90_28, e90_29, e90_32, e90_33, e90_34, e90_35, e90_38, e90_41, e90_42, e90_44, e90_46, e90_49, e90_50, e90_53, e90_54, e90_55, e90_56, e90_59, e90_62, eq_self, ne_a, ne_b, ne_c, Nat.reduceEqDiff, lt0, bnd_ok, psh_I, psh_L, psh_R, psh_U, gt_sr, gr_sr, sk_sr, nn_sr, ↓reduceIte, Int.toNat_natCast, Int.reduceToNat, Int.cast_ofNat_Int, Int.reduceLT]
    · intro k hk hk' ih
      have h4 : (k : Int) < 96 := hk'
      have w5 : wr ((k : Int) + 1) = (k : Int) + 1 := wr_id (by omega) (by omega)
      have u := upto_s k (fun _ => -1) (dwa d) (-1) rfl
      rw [e90_43]
      simp (disch := first | assumption | omega | (exact shp_fok (by first | assumption | exact shp_sr _ _ (by assumption) | exact shp_sr _ _ (shp_sr _ _ (by assumption)) | exact shp_sr _ _ (shp_sr _ _ (shp_sr _ _ (by assumption)))) (by decide)) | (simp only [fok_sr, aok_sr]; first | assumption | (exact shp_fok (by first | assumption | exact shp_sr _ _ (by assumption) | exact shp_sr _ _ (shp_sr _ _ (by assumption)) | exact shp_sr _ _ (shp_sr _ _ (shp_sr _ _ (by assumption)))) (by decide))) | (refine shp_aok (by first | assumption | exact shp_sr _ _ (by assumption) | exact shp_sr _ _ (shp_sr _ _ (by assumption)) | exact shp_sr _ _ (shp_sr _ _ (shp_sr _ _ (by assumption)))) rfl rfl ?_ ?_ <;> omega) | (exact shp_sr _ _ (by assumption)) | (exact shp_sr _ _ (shp_sr _ _ (by assumption))) | (exact shp_sr _ _ (shp_sr _ _ (shp_sr _ _ (by assumption)))) | (left; assumption) | (exact b2i_or _) | (simp; done)) only [e90_0, e90_1, e90_2, e90_5, e90_6, e90_7, e90_10, e90_11, e90_12, e90_15, e90_16, e90_17, e90_20, e90_21, e90_23, e90_25, e90_28, e90_29, e90_32, e90_33, e90_34, e90_35, e90_38, e90_41, e90_42, e90_44, e90_46, e90_49, e90_50, e90_53, e90_54, e90_55, e90_56, e90_59, e90_62, eq_self, ne_a, ne_b, ne_c, Nat.reduceEqDiff, lt0, bnd_ok, psh_I, psh_L, psh_R, psh_U, gt_sr, gr_sr, sk_sr, nn_sr, ↓reduceIte, Int.toNat_natCast, Int.reduceToNat, h4, g24_6, u, w5, sr_sr]
      exact ih
  have hw26 : gt σ 26 = dwa d := a1.2.2.2.2.2
  have hwm : upto 96 (fun _ => -1) (dwa d) = wm1 := by
    funext i
    unfold wm1 upto
    by_cases hi : i < 96
    · rw [if_pos hi, if_pos hi]
    · rw [if_neg hi, if_neg hi, a9.2.2.2.2.2.2.2.2.2.1 i (by omega)]
      rfl
  rw [upto_0, sr_self (sr (sr σ 24 G) 25 z0) 26 _ (by rw [gt_n _ _ (by decide), gt_n _ _ (by decide)]; exact hw26.symm), hwm] at L2
  refine ⟨sr (sr (sr σ 24 G) 25 z0) 26 wm1, ?_, chg_sr (chg_sr (chg_sr (chg_rf _ _) (by decide)) (by decide)) (by decide), ⟨hs, ?_, ?_, ?_, ?_, ?_⟩, ?_, ?_, ?_, ?_, fun i hi => absurd hi (Nat.not_lt_zero i), ?_, a8, ok_nw hd a9.2.2.2.2.2.2.2.2.2.2.1 a9.2.2.2.2.2.2.2.2.2.2.2.1, ?_⟩
  · rw [← L2, ← L1, sr_self (sr σ 24 G) 25 (dt d) (by rw [gt_n _ _ (by decide)]; exact a5.symm)]
    simp (disch := first | assumption | omega | (exact shp_fok (by first | assumption | exact shp_sr _ _ (by assumption) | exact shp_sr _ _ (shp_sr _ _ (by assumption)) | exact shp_sr _ _ (shp_sr _ _ (shp_sr _ _ (by assumption)))) (by decide)) | (simp only [fok_sr, aok_sr]; first | assumption | (exact shp_fok (by first | assumption | exact shp_sr _ _ (by assumption) | exact shp_sr _ _ (shp_sr _ _ (by assumption)) | exact shp_sr _ _ (shp_sr _ _ (shp_sr _ _ (by assumption)))) (by decide))) | (refine shp_aok (by first | assumption | exact shp_sr _ _ (by assumption) | exact shp_sr _ _ (shp_sr _ _ (by assumption)) | exact shp_sr _ _ (shp_sr _ _ (shp_sr _ _ (by assumption)))) rfl rfl ?_ ?_ <;> omega) | (exact shp_sr _ _ (by assumption)) | (exact shp_sr _ _ (shp_sr _ _ (by assumption))) | (exact shp_sr _ _ (shp_sr _ _ (shp_sr _ _ (by assumption)))) | (left; assumption) | (exact b2i_or _) | (simp; done)) only [e90_0, e90_1, e90_2, e90_5, e90_6, e90_7, e90_10, e90_11, e90_12, e90_15, e90_16, e90_17, e90_20, e90_21, eq_self, ne_a, ne_b, ne_c, Nat.reduceEqDiff, lt0, bnd_ok, psh_I, psh_L, psh_R, psh_U, gt_sr, gr_sr, sk_sr, nn_sr, ↓reduceIte, Int.toNat_natCast, Int.reduceToNat, sr_sr, hG]
  · rw [gt_n _ _ (by decide), gt_n _ _ (by decide), gt_e, ← hG]; simp only [ru, Nat.reduceEqDiff, ↓reduceIte]; exact hF.1
  · rw [gt_n _ _ (by decide), gt_n _ _ (by decide), gt_e, ← hG]; simp only [ru, Nat.reduceEqDiff, ↓reduceIte]; exact hF.2.1
  · rw [gt_n _ _ (by decide), gt_n _ _ (by decide), gt_e, ← hG]; simp only [ru, Nat.reduceEqDiff, ↓reduceIte]; rfl
  · rw [gt_n _ _ (by decide), gt_n _ _ (by decide), gt_e, ← hG]; simp only [ru, Nat.reduceEqDiff, ↓reduceIte]; rfl
  · rw [gt_e]; rfl
  · rw [gt_n _ _ (by decide), gt_n _ _ (by decide), gt_e, ← hG]; simp only [ru, Nat.reduceEqDiff, ↓reduceIte]
    show (0 : Int) = ((laB z0 _ : Nat) : Int)
    rw [lb_z0]; rfl
  · rw [gt_n _ _ (by decide), gt_n _ _ (by decide), gt_e, ← hG]; simp only [ru, Nat.reduceEqDiff, ↓reduceIte]; rfl
  · rw [gt_n _ _ (by decide), gt_n _ _ (by decide), gt_e, ← hG]; simp only [ru, Nat.reduceEqDiff, ↓reduceIte]; exact hF.2.2
  · rw [gt_n _ _ (by decide), gt_e]; rfl
  · rw [gt_n _ _ (by decide), gt_n _ _ (by decide), gt_n _ _ (by decide)]; exact a7
  · rw [gt_n _ _ (by decide), gt_n _ _ (by decide), gt_n _ _ (by decide)]; exact a10
set_option maxRecDepth 100000 in
set_option maxHeartbeats 4000000 in
theorem m_Mbank (r c : Int) (d : Dat) (cn : Nat) (sg : Nat → Int) : mla 91 [vR 24, vI r, vI c] d cn sg (vI (x_bank r c)) (d_bank d r c) cn sg := by
  intro σ h
  obtain ⟨a1, a2, a3, a4, a5, a6, a7, a8, a9, a10⟩ := id h
  have hs := a1.1
  unfold x_bank d_bank
  by_cases h1 : 1 ≤ r ∧ r ≤ 4
  · by_cases h2 : 1 ≤ c ∧ c ≤ 6
    · rw [if_pos ⟨h1, h2⟩, if_pos ⟨h1, h2⟩]
      obtain ⟨R, rfl⟩ := nat_of (show 0 ≤ r by omega)
      obtain ⟨C, rfl⟩ := nat_of (show 0 ≤ c by omega)
      obtain ⟨σ1, e1, c1, r1⟩ := m_clear h (R := R) (C := C) (by omega) (F := ru (ru (gt σ 24) 0 (R : Int)) 1 (C : Int)) ⟨by rw [ru_n _ _ (by decide), ru_e], by rw [ru_e], by rw [ru_n _ _ (by decide), ru_n _ _ (by decide)]; exact a4⟩
      have hRC : R * C ≤ 24 := Nat.le_trans (Nat.mul_le_mul (show R ≤ 4 by omega) (show C ≤ 6 by omega)) (by decide)
      have w1 : wr ((R : Int) * (C : Int)) = (R : Int) * (C : Int) := by
        rw [← Int.natCast_mul]
        exact wr_id (by omega) (by omega)
      refine ⟨σ1, ?_, c1, r1⟩
      simp (disch := first | assumption | omega | (exact shp_fok (by first | assumption | exact shp_sr _ _ (by assumption) | exact shp_sr _ _ (shp_sr _ _ (by assumption)) | exact shp_sr _ _ (shp_sr _ _ (shp_sr _ _ (by assumption)))) (by decide)) | (simp only [fok_sr, aok_sr]; first | assumption | (exact shp_fok (by first | assumption | exact shp_sr _ _ (by assumption) | exact shp_sr _ _ (shp_sr _ _ (by assumption)) | exact shp_sr _ _ (shp_sr _ _ (shp_sr _ _ (by assumption)))) (by decide))) | (refine shp_aok (by first | assumption | exact shp_sr _ _ (by assumption) | exact shp_sr _ _ (shp_sr _ _ (by assumption)) | exact shp_sr _ _ (shp_sr _ _ (shp_sr _ _ (by assumption)))) rfl rfl ?_ ?_ <;> omega) | (exact shp_sr _ _ (by assumption)) | (exact shp_sr _ _ (shp_sr _ _ (by assumption))) | (exact shp_sr _ _ (shp_sr _ _ (shp_sr _ _ (by assumption)))) | (left; assumption) | (exact b2i_or _) | (simp; done)) only [e91_0, e91_1, e91_2, e91_3, e91_6, e91_9, e91_10, e91_11, e91_13, e91_16, e91_19, e91_21, e91_22, e91_23, e91_24, e91_27, e91_28, e91_29, e91_32, e91_33, e91_36, e91_37, e91_38, e91_39, eq_self, ne_a, ne_b, ne_c, Nat.reduceEqDiff, lt0, bnd_ok, psh_I, psh_L, psh_R, psh_U, gt_sr, gr_sr, sk_sr, nn_sr, ↓reduceIte, Int.toNat_natCast, Int.reduceToNat, m_in, if_pos h1, if_pos h2, e1, w1, sr_sr, Int.reduceEq]
    · rw [if_neg (fun h => h2 h.2), if_neg (fun h => h2 h.2)]
      refine ⟨σ, ?_, mdl_rf h⟩
      simp (disch := first | assumption | omega | (exact shp_fok (by first | assumption | exact shp_sr _ _ (by assumption) | exact shp_sr _ _ (shp_sr _ _ (by assumption)) | exact shp_sr _ _ (shp_sr _ _ (shp_sr _ _ (by assumption)))) (by decide)) | (simp only [fok_sr, aok_sr]; first | assumption | (exact shp_fok (by first | assumption | exact shp_sr _ _ (by assumption) | exact shp_sr _ _ (shp_sr _ _ (by assumption)) | exact shp_sr _ _ (shp_sr _ _ (shp_sr _ _ (by assumption)))) (by decide))) | (refine shp_aok (by first | assumption | exact shp_sr _ _ (by assumption) | exact shp_sr _ _ (shp_sr _ _ (by assumption)) | exact shp_sr _ _ (shp_sr _ _ (shp_sr _ _ (by assumption)))) rfl rfl ?_ ?_ <;> omega) | (exact shp_sr _ _ (by assumption)) | (exact shp_sr _ _ (shp_sr _ _ (by assumption))) | (exact shp_sr _ _ (shp_sr _ _ (shp_sr _ _ (by assumption)))) | (left; assumption) | (exact b2i_or _) | (simp; done)) only [e91_0, e91_1, e91_2, e91_3, e91_6, e91_9, e91_10, e91_11, e91_13, e91_16, e91_19, e91_21, e91_22, e91_23, e91_24, e91_27, e91_28, e91_29, e91_32, e91_33, e91_36, e91_37, e91_38, e91_39, eq_self, ne_a, ne_b, ne_c, Nat.reduceEqDiff, lt0, bnd_ok, psh_I, psh_L, psh_R, psh_U, gt_sr, gr_sr, sk_sr, nn_sr, ↓reduceIte, Int.toNat_natCast, Int.reduceToNat, m_in, if_pos h1, if_neg h2, Int.reduceEq]
  · rw [if_neg (fun h => h1 h.1), if_neg (fun h => h1 h.1)]
    refine ⟨σ, ?_, mdl_rf h⟩
    simp (disch := first | assumption | omega | (exact shp_fok (by first | assumption | exact shp_sr _ _ (by assumption) | exact shp_sr _ _ (shp_sr _ _ (by assumption)) | exact shp_sr _ _ (shp_sr _ _ (shp_sr _ _ (by assumption)))) (by decide)) | (simp only [fok_sr, aok_sr]; first | assumption | (exact shp_fok (by first | assumption | exact shp_sr _ _ (by assumption) | exact shp_sr _ _ (shp_sr _ _ (by assumption)) | exact shp_sr _ _ (shp_sr _ _ (shp_sr _ _ (by assumption)))) (by decide))) | (refine shp_aok (by first | assumption | exact shp_sr _ _ (by assumption) | exact shp_sr _ _ (shp_sr _ _ (by assumption)) | exact shp_sr _ _ (shp_sr _ _ (shp_sr _ _ (by assumption)))) rfl rfl ?_ ?_ <;> omega) | (exact shp_sr _ _ (by assumption)) | (exact shp_sr _ _ (shp_sr _ _ (by assumption))) | (exact shp_sr _ _ (shp_sr _ _ (shp_sr _ _ (by assumption)))) | (left; assumption) | (exact b2i_or _) | (simp; done)) only [e91_0, e91_1, e91_2, e91_3, e91_6, e91_9, e91_10, e91_11, e91_13, e91_16, e91_19, e91_21, e91_22, e91_23, e91_24, e91_27, e91_28, e91_29, e91_32, e91_33, e91_36, e91_37, e91_38, e91_39, eq_self, ne_a, ne_b, ne_c, Nat.reduceEqDiff, lt0, bnd_ok, psh_I, psh_L, psh_R, psh_U, gt_sr, gr_sr, sk_sr, nn_sr, ↓reduceIte, Int.toNat_natCast, Int.reduceToNat, m_in, if_neg h1]
theorem bv_m1 : (Int32.ofInt (-1)).toBitVec.toNat = 4294967295 := by decide
theorem bAnot {a b : Nat} (ha : a < 2147483648) (hb : b < 2147483648) : bAnd a (bXor b (-1)) = ((a &&& (b ^^^ 4294967295) : Nat) : Int) := by
  rw [bAnd_def, bXor_def, Int32.ofInt_toInt]
  have h : (Int32.ofInt (a : Int) &&& (Int32.ofInt (b : Int) ^^^ Int32.ofInt (-1))).toBitVec.toNat = a &&& (b ^^^ 4294967295) := by
    rw [Int32.toBitVec_and, Int32.toBitVec_xor, BitVec.toNat_and, BitVec.toNat_xor, bv_N ha, bv_N hb, bv_m1]
  rw [bv_I (by rw [h]; exact Nat.lt_of_le_of_lt Nat.and_le_left ha), h]
theorem anot_tb {a b i : Nat} (hi : i < 32) : (a &&& (b ^^^ 4294967295)).testBit i = (a.testBit i && !b.testBit i) := by
  have h : (4294967295 : Nat).testBit i = true := by
    rw [show (4294967295 : Nat) = 2 ^ 32 - 1 from rfl, Nat.testBit_two_pow_sub_one]
    exact decide_eq_true hi
  rw [Nat.testBit_and, Nat.testBit_xor, h, Bool.xor_true]
theorem lb_set {la : Nat → Int} {n c : Nat} (hc : c < n) : laB (ru la c 1) n = laB la n ||| 2 ^ c := by
  refine Nat.eq_of_testBit_eq fun i => ?_
  unfold laB
  rw [Nat.testBit_or, bsN_tb, bsN_tb, Nat.testBit_two_pow]
  by_cases e : i = c
  · subst e
    rw [ru_e]
    simp [hc]
  · rw [ru_n _ _ e]
    simp [Ne.symm e]
theorem tb_big {a i : Nat} (ha : a < 2147483648) (hi : 32 ≤ i) : a.testBit i = false := Nat.testBit_lt_two_pow (Nat.lt_of_lt_of_le ha (Nat.le_trans (show 2147483648 ≤ 2 ^ 32 by decide) (Nat.pow_le_pow_right (by omega) hi)))
theorem lb_unset {la : Nat → Int} {n c : Nat} (hc : c < n) (hn : n ≤ 24) : laB (ru la c 0) n = laB la n &&& (2 ^ c ^^^ 4294967295) := by
  refine Nat.eq_of_testBit_eq fun i => ?_
  by_cases hi : i < 32
  · rw [anot_tb hi]
    unfold laB
    rw [bsN_tb, bsN_tb, Nat.testBit_two_pow]
    by_cases e : i = c
    · subst e
      rw [ru_e]
      simp
    · rw [ru_n _ _ e]
      simp [Ne.symm e]
  · rw [tb_big (lb_lt hn _) (by omega), tb_big (Nat.lt_of_le_of_lt Nat.and_le_left (lb_lt hn _)) (by omega)]
theorem bt_lb {la : Nat → Int} (hl : lam la) {n c : Nat} (hc : c < n) (hn : n ≤ 24) : bt (laB la n) c = la c := lb_tb hl hc hn
set_option maxRecDepth 100000 in
set_option maxHeartbeats 4000000 in
theorem m_Mcell (c w v : Int) (d : Dat) (cn : Nat) (sg : Nat → Int) : mla 93 [vR 24, vI c, vI w, vI v, vU] d cn sg (vI (x_cell d c w v)) (d_cell d c w v) cn sg := by
  intro σ h
  obtain ⟨a1, a2, a3, a4, a5, a6, a7, a8, a9, a10⟩ := id h
  have h24 := dn24 a9
  have hs := a1.1
  have hh := m_isCell a1 a9 c
  unfold x_cell d_cell
  by_cases h1 : 0 ≤ c ∧ c < (dn_ d : Nat)
  · rw [if_pos h1] at hh
    rw [if_pos h1, if_pos h1]
    obtain ⟨c, rfl⟩ := nat_of h1.1
    rw [Int.toNat_natCast]
    by_cases h2 : (w = 0 ∧ 0 ≤ v ∧ v ≤ 9) ∨ (w = 1 ∧ 0 ≤ v ∧ v ≤ 1)
    · rw [if_pos h2, if_pos h2]
      rcases h2 with ⟨rfl, h2⟩ | ⟨rfl, h2⟩
      · rw [if_pos rfl, if_pos rfl]
        refine ⟨sr σ 25 (ru (dt d) c v), ?_, chg_sr (chg_rf _ _) (by decide), a1, a2, a3, a4, rfl, a6, a7, a8, ok_fog a9 (tk_ru (ok_t a9) h2) (ok_l a9) (zr_ru (ok_zt a9) (by omega) _) (ok_zl a9), a10⟩
        simp (disch := first | assumption | omega | (exact shp_fok (by first | assumption | exact shp_sr _ _ (by assumption) | exact shp_sr _ _ (shp_sr _ _ (by assumption)) | exact shp_sr _ _ (shp_sr _ _ (shp_sr _ _ (by assumption)))) (by decide)) | (simp only [fok_sr, aok_sr]; first | assumption | (exact shp_fok (by first | assumption | exact shp_sr _ _ (by assumption) | exact shp_sr _ _ (shp_sr _ _ (by assumption)) | exact shp_sr _ _ (shp_sr _ _ (shp_sr _ _ (by assumption)))) (by decide))) | (refine shp_aok (by first | assumption | exact shp_sr _ _ (by assumption) | exact shp_sr _ _ (shp_sr _ _ (by assumption)) | exact shp_sr _ _ (shp_sr _ _ (shp_sr _ _ (by assumption)))) rfl rfl ?_ ?_ <;> omega) | (exact shp_sr _ _ (by assumption)) | (exact shp_sr _ _ (shp_sr _ _ (by assumption))) | (exact shp_sr _ _ (shp_sr _ _ (shp_sr _ _ (by assumption)))) | (left; assumption) | (exact b2i_or _) | (simp; done)) only [e93_0, e93_1, e93_2, e93_5, e93_8, e93_9, e93_10, e93_11, e93_12, e93_13, e93_16, e93_19, e93_20, e93_21, e93_22, e93_25, e93_27, e93_30, e93_31, e93_34, e93_37, e93_39, e93_40, e93_41, e93_44, e93_45, e93_48, e93_49, e93_50, e93_53, e93_54, e93_57, e93_58, e93_59, e93_60, e93_61, e93_63, e93_64, e93_67, e93_68, e93_71, e93_72, e93_73, e93_74, e93_77, e93_78, e93_79, e93_80, e93_83, e93_84, e93_87, e93_88, e93_89, e93_90, e93_91, e93_94, e93_95, e93_98, e93_99, e93_100, e93_101, e93_102, e93_103, e93_104, e93_107, e93_109, eq_self, ne_a, ne_b, ne_c, Nat.reduceEqDiff, lt0, bnd_ok, psh_I, psh_L, psh_R, psh_U, gt_sr, gr_sr, sk_sr, nn_sr, ↓reduceIte, Int.toNat_natCast, Int.reduceToNat, hh, m_in, if_pos h2, g24_2, a5, Int.reduceEq, Int.reduceLE, and_self]
      · rw [if_neg (by decide), if_neg (by decide)]
        have hlb : lbD d < 2147483648 := lb_lt h24 _
        have hbit := bit_N (a := lbD d) (k := c) hlb (by omega)
        have hbt : bt (lbD d) c = dla d c := bt_lb (ok_l a9) (by omega) h24
        have sh1 := bShl_N (a := 1) (k := c) (by omega) (by omega) (by have := (pow24 (show c ≤ 24 by omega)).2; omega)
        rw [Nat.one_mul, show ((1 : Nat) : Int) = 1 from rfl] at sh1
        have hp : 2 ^ c < 2147483648 := by have := (pow24 (show c ≤ 24 by omega)).2; omega
        have hor := bOr_N (a := lbD d) (b := 2 ^ c) hlb hp
        have han := bAnot (a := lbD d) (b := 2 ^ c) hlb hp
        have okl := ok_fog a9 (ok_t a9) (lam_ru (c := c) (ok_l a9) (v := v) (by omega)) (ok_zt a9) (zr_ru (ok_zl a9) (show c < dn_ d by omega) v)
        have fin : ∀ B : Nat, B = laB (ru (dla d) c v) (dn_ d) → chg SMo σ (sr σ 24 (ru (gt σ 24) 3 (B : Int))) ∧ mdl (sr σ 24 (ru (gt σ 24) 3 (B : Int))) (fog d (dt d) (ru (dla d) c v)) cn sg := by
          intro B hB
          obtain ⟨-, d0, d1, d4, d5, hw⟩ := a1
          refine ⟨chg_sr (chg_rf _ _) (by decide), ⟨hs, ?_, ?_, ?_, ?_, hw⟩, ?_, ?_, ?_, a5, a6, a7, a8, okl, a10⟩
          · rw [gt_e, ru_n _ _ (by decide)]; exact d0
          · rw [gt_e, ru_n _ _ (by decide)]; exact d1
          · rw [gt_e, ru_n _ _ (by decide)]; exact d4
          · rw [gt_e, ru_n _ _ (by decide)]; exact d5
          · rw [gt_e, ru_e, hB]; rfl
          · rw [gt_e, ru_n _ _ (by decide)]; exact a3
          · rw [gt_e, ru_n _ _ (by decide)]; exact a4
        obtain rfl | rfl : v = 0 ∨ v = 1 := by omega
        · refine ⟨_, ?_, fin _ (lb_unset (show c < dn_ d by omega) h24).symm⟩
          simp (disch := first | assumption | omega | (exact shp_fok (by first | assumption | exact shp_sr _ _ (by assumption) | exact shp_sr _ _ (shp_sr _ _ (by assumption)) | exact shp_sr _ _ (shp_sr _ _ (shp_sr _ _ (by assumption)))) (by decide)) | (simp only [fok_sr, aok_sr]; first | assumption | (exact shp_fok (by first | assumption | exact shp_sr _ _ (by assumption) | exact shp_sr _ _ (shp_sr _ _ (by assumption)) | exact shp_sr _ _ (shp_sr _ _ (shp_sr _ _ (by assumption)))) (by decide))) | (refine shp_aok (by first | assumption | exact shp_sr _ _ (by assumption) | exact shp_sr _ _ (shp_sr _ _ (by assumption)) | exact shp_sr _ _ (shp_sr _ _ (shp_sr _ _ (by assumption)))) rfl rfl ?_ ?_ <;> omega) | (exact shp_sr _ _ (by assumption)) | (exact shp_sr _ _ (shp_sr _ _ (by assumption))) | (exact shp_sr _ _ (shp_sr _ _ (shp_sr _ _ (by assumption)))) | (left; assumption) | (exact b2i_or _) | (simp; done)) only [e93_0, e93_1, e93_2, e93_5, e93_8, e93_9, e93_10, e93_11, e93_12, e93_13, e93_16, e93_19, e93_20, e93_21, e93_22, e93_25, e93_27, e93_30, e93_31, e93_34, e93_37, e93_39, e93_40, e93_41, e93_44, e93_45, e93_48, e93_49, e93_50, e93_53, e93_54, e93_57, e93_58, e93_59, e93_60, e93_61, e93_63, e93_64, e93_67, e93_68, e93_71, e93_72, e93_73, e93_74, e93_77, e93_78, e93_79, e93_80, e93_83, e93_84, e93_87, e93_88, e93_89, e93_90, e93_91, e93_94, e93_95, e93_98, e93_99, e93_100, e93_101, e93_102, e93_103, e93_104, e93_107, e93_109, eq_self, ne_a, ne_b, ne_c, Nat.reduceEqDiff, lt0, bnd_ok, psh_I, psh_L, psh_R, psh_U, gt_sr, gr_sr, sk_sr, nn_sr, ↓reduceIte, Int.toNat_natCast, Int.reduceToNat, hh, m_in, if_pos h2, a2, hbit, hbt, sh1, han, Int.reduceEq, Int.reduceLE, and_self]
          rfl
        · refine ⟨_, ?_, fin _ (lb_set (show c < dn_ d by omega)).symm⟩
          simp (disch := first | assumption | omega | (exact shp_fok (by first | assumption | exact shp_sr _ _ (by assumption) | exact shp_sr _ _ (shp_sr _ _ (by assumption)) | exact shp_sr _ _ (shp_sr _ _ (shp_sr _ _ (by assumption)))) (by decide)) | (simp only [fok_sr, aok_sr]; first | assumption | (exact shp_fok (by first | assumption | exact shp_sr _ _ (by assumption) | exact shp_sr _ _ (shp_sr _ _ (by assumption)) | exact shp_sr _ _ (shp_sr _ _ (shp_sr _ _ (by assumption)))) (by decide))) | (refine shp_aok (by first | assumption | exact shp_sr _ _ (by assumption) | exact shp_sr _ _ (shp_sr _ _ (by assumption)) | exact shp_sr _ _ (shp_sr _ _ (shp_sr _ _ (by assumption)))) rfl rfl ?_ ?_ <;> omega) | (exact shp_sr _ _ (by assumption)) | (exact shp_sr _ _ (shp_sr _ _ (by assumption))) | (exact shp_sr _ _ (shp_sr _ _ (shp_sr _ _ (by assumption)))) | (left; assumption) | (exact b2i_or _) | (simp; done)) only [e93_0, e93_1, e93_2, e93_5, e93_8, e93_9, e93_10, e93_11, e93_12, e93_13, e93_16, e93_19, e93_20, e93_21, e93_22, e93_25, e93_27, e93_30, e93_31, e93_34, e93_37, e93_39, e93_40, e93_41, e93_44, e93_45, e93_48, e93_49, e93_50, e93_53, e93_54, e93_57, e93_58, e93_59, e93_60, e93_61, e93_63, e93_64, e93_67, e93_68, e93_71, e93_72, e93_73, e93_74, e93_77, e93_78, e93_79, e93_80, e93_83, e93_84, e93_87, e93_88, e93_89, e93_90, e93_91, e93_94, e93_95, e93_98, e93_99, e93_100, e93_101, e93_102, e93_103, e93_104, e93_107, e93_109, eq_self, ne_a, ne_b, ne_c, Nat.reduceEqDiff, lt0, bnd_ok, psh_I, psh_L, psh_R, psh_U, gt_sr, gr_sr, sk_sr, nn_sr, ↓reduceIte, Int.toNat_natCast, Int.reduceToNat, hh, m_in, if_pos h2, a2, hbit, hbt, sh1, hor, Int.reduceEq, Int.reduceLE, and_self]
          rfl
    · rw [if_neg h2, if_neg h2]
      refine ⟨σ, ?_, mdl_rf h⟩
      by_cases h3 : 0 ≤ w ∧ w ≤ 1
      · obtain rfl | rfl : w = 0 ∨ w = 1 := by omega
        · have h4 : ¬ (0 ≤ v ∧ v ≤ 9) := by omega
          simp (disch := first | assumption | omega | (exact shp_fok (by first | assumption | exact shp_sr _ _ (by assumption) | exact shp_sr _ _ (shp_sr _ _ (by assumption)) | exact shp_sr _ _ (shp_sr _ _ (shp_sr _ _ (by assumption)))) (by decide)) | (simp only [fok_sr, aok_sr]; first | assumption | (exact shp_fok (by first | assumption | exact shp_sr _ _ (by assumption) | exact shp_sr _ _ (shp_sr _ _ (by assumption)) | exact shp_sr _ _ (shp_sr _ _ (shp_sr _ _ (by assumption)))) (by decide))) | (refine shp_aok (by first | assumption | exact shp_sr _ _ (by assumption) | exact shp_sr _ _ (shp_sr _ _ (by assumption)) | exact shp_sr _ _ (shp_sr _ _ (shp_sr _ _ (by assumption)))) rfl rfl ?_ ?_ <;> omega) | (exact shp_sr _ _ (by assumption)) | (exact shp_sr _ _ (shp_sr _ _ (by assumption))) | (exact shp_sr _ _ (shp_sr _ _ (shp_sr _ _ (by assumption)))) | (left; assumption) | (exact b2i_or _) | (simp; done)) only [e93_0, e93_1, e93_2, e93_5, e93_8, e93_9, e93_10, e93_11, e93_12, e93_13, e93_16, e93_19, e93_20, e93_21, e93_22, e93_25, e93_27, e93_30, e93_31, e93_34, e93_37, e93_39, e93_40, e93_41, e93_44, e93_45, e93_48, e93_49, e93_50, e93_53, e93_54, e93_57, e93_58, e93_59, e93_60, e93_61, e93_63, e93_64, e93_67, e93_68, e93_71, e93_72, e93_73, e93_74, e93_77, e93_78, e93_79, e93_80, e93_83, e93_84, e93_87, e93_88, e93_89, e93_90, e93_91, e93_94, e93_95, e93_98, e93_99, e93_100, e93_101, e93_102, e93_103, e93_104, e93_107, e93_109, eq_self, ne_a, ne_b, ne_c, Nat.reduceEqDiff, lt0, bnd_ok, psh_I, psh_L, psh_R, psh_U, gt_sr, gr_sr, sk_sr, nn_sr, ↓reduceIte, Int.toNat_natCast, Int.reduceToNat, hh, m_in, if_neg h4, Int.reduceEq, Int.reduceLE, and_self]
        · have h4 : ¬ (0 ≤ v ∧ v ≤ 1) := by omega
          simp (disch := first | assumption | omega | (exact shp_fok (by first | assumption | exact shp_sr _ _ (by assumption) | exact shp_sr _ _ (shp_sr _ _ (by assumption)) | exact shp_sr _ _ (shp_sr _ _ (shp_sr _ _ (by assumption)))) (by decide)) | (simp only [fok_sr, aok_sr]; first | assumption | (exact shp_fok (by first | assumption | exact shp_sr _ _ (by assumption) | exact shp_sr _ _ (shp_sr _ _ (by assumption)) | exact shp_sr _ _ (shp_sr _ _ (shp_sr _ _ (by assumption)))) (by decide))) | (refine shp_aok (by first | assumption | exact shp_sr _ _ (by assumption) | exact shp_sr _ _ (shp_sr _ _ (by assumption)) | exact shp_sr _ _ (shp_sr _ _ (shp_sr _ _ (by assumption)))) rfl rfl ?_ ?_ <;> omega) | (exact shp_sr _ _ (by assumption)) | (exact shp_sr _ _ (shp_sr _ _ (by assumption))) | (exact shp_sr _ _ (shp_sr _ _ (shp_sr _ _ (by assumption)))) | (left; assumption) | (exact b2i_or _) | (simp; done)) only [e93_0, e93_1, e93_2, e93_5, e93_8, e93_9, e93_10, e93_11, e93_12, e93_13, e93_16, e93_19, e93_20, e93_21, e93_22, e93_25, e93_27, e93_30, e93_31, e93_34, e93_37, e93_39, e93_40, e93_41, e93_44, e93_45, e93_48, e93_49, e93_50, e93_53, e93_54, e93_57, e93_58, e93_59, e93_60, e93_61, e93_63, e93_64, e93_67, e93_68, e93_71, e93_72, e93_73, e93_74, e93_77, e93_78, e93_79, e93_80, e93_83, e93_84, e93_87, e93_88, e93_89, e93_90, e93_91, e93_94, e93_95, e93_98, e93_99, e93_100, e93_101, e93_102, e93_103, e93_104, e93_107, e93_109, eq_self, ne_a, ne_b, ne_c, Nat.reduceEqDiff, lt0, bnd_ok, psh_I, psh_L, psh_R, psh_U, gt_sr, gr_sr, sk_sr, nn_sr, ↓reduceIte, Int.toNat_natCast, Int.reduceToNat, hh, m_in, if_neg h4, Int.reduceEq, Int.reduceLE, and_self]
      · simp (disch := first | assumption | omega | (exact shp_fok (by first | assumption | exact shp_sr _ _ (by assumption) | exact shp_sr _ _ (shp_sr _ _ (by assumption)) | exact shp_sr _ _ (shp_sr _ _ (shp_sr _ _ (by assumption)))) (by decide)) | (simp only [fok_sr, aok_sr]; first | assumption | (exact shp_fok (by first | assumption | exact shp_sr _ _ (by assumption) | exact shp_sr _ _ (shp_sr _ _ (by assumption)) | exact shp_sr _ _ (shp_sr _ _ (shp_sr _ _ (by assumption)))) (by decide))) | (refine shp_aok (by first | assumption | exact shp_sr _ _ (by assumption) | exact shp_sr _ _ (shp_sr _ _ (by assumption)) | exact shp_sr _ _ (shp_sr _ _ (shp_sr _ _ (by assumption)))) rfl rfl ?_ ?_ <;> omega) | (exact shp_sr _ _ (by assumption)) | (exact shp_sr _ _ (shp_sr _ _ (by assumption))) | (exact shp_sr _ _ (shp_sr _ _ (shp_sr _ _ (by assumption)))) | (left; assumption) | (exact b2i_or _) | (simp; done)) only [e93_0, e93_1, e93_2, e93_5, e93_8, e93_9, e93_10, e93_11, e93_12, e93_13, e93_16, e93_19, e93_20, e93_21, e93_22, e93_25, e93_27, e93_30, e93_31, e93_34, e93_37, e93_39, e93_40, e93_41, e93_44, e93_45, e93_48, e93_49, e93_50, e93_53, e93_54, e93_57, e93_58, e93_59, e93_60, e93_61, e93_63, e93_64, e93_67, e93_68, e93_71, e93_72, e93_73, e93_74, e93_77, e93_78, e93_79, e93_80, e93_83, e93_84, e93_87, e93_88, e93_89, e93_90, e93_91, e93_94, e93_95, e93_98, e93_99, e93_100, e93_101, e93_102, e93_103, e93_104, e93_107, e93_109, eq_self, ne_a, ne_b, ne_c, Nat.reduceEqDiff, lt0, bnd_ok, psh_I, psh_L, psh_R, psh_U, gt_sr, gr_sr, sk_sr, nn_sr, ↓reduceIte, Int.toNat_natCast, Int.reduceToNat, hh, m_in, if_neg h3, Int.reduceEq]
  · rw [if_neg h1] at hh
    rw [if_neg h1, if_neg h1]
    refine ⟨σ, ?_, mdl_rf h⟩
    simp (disch := first | assumption | omega | (exact shp_fok (by first | assumption | exact shp_sr _ _ (by assumption) | exact shp_sr _ _ (shp_sr _ _ (by assumption)) | exact shp_sr _ _ (shp_sr _ _ (shp_sr _ _ (by assumption)))) (by decide)) | (simp only [fok_sr, aok_sr]; first | assumption | (exact shp_fok (by first | assumption | exact shp_sr _ _ (by assumption) | exact shp_sr _ _ (shp_sr _ _ (by assumption)) | exact shp_sr _ _ (shp_sr _ _ (shp_sr _ _ (by assumption)))) (by decide))) | (refine shp_aok (by first | assumption | exact shp_sr _ _ (by assumption) | exact shp_sr _ _ (shp_sr _ _ (by assumption)) | exact shp_sr _ _ (shp_sr _ _ (shp_sr _ _ (by assumption)))) rfl rfl ?_ ?_ <;> omega) | (exact shp_sr _ _ (by assumption)) | (exact shp_sr _ _ (shp_sr _ _ (by assumption))) | (exact shp_sr _ _ (shp_sr _ _ (shp_sr _ _ (by assumption)))) | (left; assumption) | (exact b2i_or _) | (simp; done)) only [e93_0, e93_1, e93_2, e93_5, e93_8, e93_9, e93_10, e93_11, e93_12, e93_13, e93_16, e93_19, e93_20, e93_21, e93_22, e93_25, e93_27, e93_30, e93_31, e93_34, e93_37, e93_39, e93_40, e93_41, e93_44, e93_45, e93_48, e93_49, e93_50, e93_53, e93_54, e93_57, e93_58, e93_59, e93_60, e93_61, e93_63, e93_64, e93_67, e93_68, e93_71, e93_72, e93_73, e93_74, e93_77, e93_78, e93_79, e93_80, e93_83, e93_84, e93_87, e93_88, e93_89, e93_90, e93_91, e93_94, e93_95, e93_98, e93_99, e93_100, e93_101, e93_102, e93_103, e93_104, e93_107, e93_109, eq_self, ne_a, ne_b, ne_c, Nat.reduceEqDiff, lt0, bnd_ok, psh_I, psh_L, psh_R, psh_U, gt_sr, gr_sr, sk_sr, nn_sr, ↓reduceIte, Int.toNat_natCast, Int.reduceToNat, hh]
theorem ru_self {f : Nat → Int} {c : Nat} {v : Int} (h : v = f c) : ru f c v = f := by
  funext i
  unfold ru
  split
  · next e => rw [e, h]
  · rfl
set_option maxRecDepth 100000 in
set_option maxHeartbeats 4000000 in
theorem m_Mset (w v : Int) (d : Dat) (cn : Nat) (sg : Nat → Int) : mla 96 [vR 24, vI w, vI v, vU, vU] d cn sg (vI (x_set d w v)) (d_set d w v) cn sg := by
  intro σ h
  obtain ⟨a1, a2, a3, a4, a5, a6, a7, a8, a9, a10⟩ := id h
  obtain ⟨hs, d0, d1, d4, d5, hw⟩ := id a1
  unfold x_set d_set
  have fin : ∀ f s : Int, 1 ≤ f ∧ f ≤ 5 → 0 ≤ s ∧ s ≤ 3 → chg SMo σ (sr σ 24 (ru (ru (gt σ 24) 4 f) 5 s)) ∧ mdl (sr σ 24 (ru (ru (gt σ 24) 4 f) 5 s)) (setS (setF d f) s) cn sg := by
    intro f s hf hs3
    refine ⟨chg_sr (chg_rf _ _) (by decide), ⟨hs, ?_, ?_, ?_, ?_, hw⟩, ?_, ?_, ?_, a5, a6, a7, a8, ⟨a9.1, hf, hs3, a9.2.2.2⟩, a10⟩
    · rw [gt_e, ru_n _ _ (by decide), ru_n _ _ (by decide)]; exact d0
    · rw [gt_e, ru_n _ _ (by decide), ru_n _ _ (by decide)]; exact d1
    · rw [gt_e, ru_n _ _ (by decide), ru_e]; rfl
    · rw [gt_e, ru_e]; rfl
    · rw [gt_e, ru_n _ _ (by decide), ru_n _ _ (by decide)]; exact a2
    · rw [gt_e, ru_n _ _ (by decide), ru_n _ _ (by decide)]; exact a3
    · rw [gt_e, ru_n _ _ (by decide), ru_n _ _ (by decide)]; exact a4
  have k5 : ∀ f, ru (gt σ 24) 4 f 5 = dsl d := fun f => by rw [ru_n _ _ (by decide)]; exact d5
  by_cases h1 : w = 0 ∧ 1 ≤ v ∧ v ≤ 5
  · rw [if_pos h1, if_pos h1]
    obtain ⟨rfl, h1⟩ := h1
    refine ⟨_, ?_, fin v (dsl d) h1 a9.2.2.1⟩
    simp (disch := first | assumption | omega | (exact shp_fok (by first | assumption | exact shp_sr _ _ (by assumption) | exact shp_sr _ _ (shp_sr _ _ (by assumption)) | exact shp_sr _ _ (shp_sr _ _ (shp_sr _ _ (by assumption)))) (by decide)) | (simp only [fok_sr, aok_sr]; first | assumption | (exact shp_fok (by first | assumption | exact shp_sr _ _ (by assumption) | exact shp_sr _ _ (shp_sr _ _ (by assumption)) | exact shp_sr _ _ (shp_sr _ _ (shp_sr _ _ (by assumption)))) (by decide))) | (refine shp_aok (by first | assumption | exact shp_sr _ _ (by assumption) | exact shp_sr _ _ (shp_sr _ _ (by assumption)) | exact shp_sr _ _ (shp_sr _ _ (shp_sr _ _ (by assumption)))) rfl rfl ?_ ?_ <;> omega) | (exact shp_sr _ _ (by assumption)) | (exact shp_sr _ _ (shp_sr _ _ (by assumption))) | (exact shp_sr _ _ (shp_sr _ _ (shp_sr _ _ (by assumption)))) | (left; assumption) | (exact b2i_or _) | (simp; done)) only [e96_0, e96_1, e96_4, e96_5, e96_6, e96_7, e96_10, e96_13, e96_14, e96_15, e96_18, e96_19, e96_20, e96_21, e96_24, e96_27, e96_28, e96_31, e96_32, e96_33, e96_34, e96_37, e96_39, e96_40, e96_41, e96_44, e96_45, e96_48, e96_51, e96_52, e96_55, e96_57, e96_58, e96_59, e96_62, e96_63, e96_66, e96_67, e96_70, e96_73, e96_74, e96_75, e96_76, e96_79, e96_80, e96_83, e96_84, e96_87, e96_90, e96_92, eq_self, ne_a, ne_b, ne_c, Nat.reduceEqDiff, lt0, bnd_ok, psh_I, psh_L, psh_R, psh_U, gt_sr, gr_sr, sk_sr, nn_sr, ↓reduceIte, Int.toNat_natCast, Int.reduceToNat, m_in, if_pos h1, d4, k5, sr_sr, Int.reduceEq]
  · rw [if_neg h1, if_neg h1]
    by_cases h2 : w = 1 ∧ 0 ≤ v ∧ v ≤ 3
    · rw [if_pos h2, if_pos h2]
      obtain ⟨rfl, h2⟩ := h2
      refine ⟨_, ?_, fin (dfe d) v a9.2.1 h2⟩
      simp (disch := first | assumption | omega | (exact shp_fok (by first | assumption | exact shp_sr _ _ (by assumption) | exact shp_sr _ _ (shp_sr _ _ (by assumption)) | exact shp_sr _ _ (shp_sr _ _ (shp_sr _ _ (by assumption)))) (by decide)) | (simp only [fok_sr, aok_sr]; first | assumption | (exact shp_fok (by first | assumption | exact shp_sr _ _ (by assumption) | exact shp_sr _ _ (shp_sr _ _ (by assumption)) | exact shp_sr _ _ (shp_sr _ _ (shp_sr _ _ (by assumption)))) (by decide))) | (refine shp_aok (by first | assumption | exact shp_sr _ _ (by assumption) | exact shp_sr _ _ (shp_sr _ _ (by assumption)) | exact shp_sr _ _ (shp_sr _ _ (shp_sr _ _ (by assumption)))) rfl rfl ?_ ?_ <;> omega) | (exact shp_sr _ _ (by assumption)) | (exact shp_sr _ _ (shp_sr _ _ (by assumption))) | (exact shp_sr _ _ (shp_sr _ _ (shp_sr _ _ (by assumption)))) | (left; assumption) | (exact b2i_or _) | (simp; done)) only [e96_0, e96_1, e96_4, e96_5, e96_6, e96_7, e96_10, e96_13, e96_14, e96_15, e96_18, e96_19, e96_20, e96_21, e96_24, e96_27, e96_28, e96_31, e96_32, e96_33, e96_34, e96_37, e96_39, e96_40, e96_41, e96_44, e96_45, e96_48, e96_51, e96_52, e96_55, e96_57, e96_58, e96_59, e96_62, e96_63, e96_66, e96_67, e96_70, e96_73, e96_74, e96_75, e96_76, e96_79, e96_80, e96_83, e96_84, e96_87, e96_90, e96_92, eq_self, ne_a, ne_b, ne_c, Nat.reduceEqDiff, lt0, bnd_ok, psh_I, psh_L, psh_R, psh_U, gt_sr, gr_sr, sk_sr, nn_sr, ↓reduceIte, Int.toNat_natCast, Int.reduceToNat, m_in, if_pos h2, d4, d5, sr_sr, Int.reduceEq]
    · rw [if_neg h2, if_neg h2]
      refine ⟨σ, ?_, mdl_rf h⟩
      by_cases h3 : w = 0
      · subst h3
        have h4 : ¬ (1 ≤ v ∧ v ≤ 5) := fun e => h1 ⟨rfl, e⟩
        simp (disch := first | assumption | omega | (exact shp_fok (by first | assumption | exact shp_sr _ _ (by assumption) | exact shp_sr _ _ (shp_sr _ _ (by assumption)) | exact shp_sr _ _ (shp_sr _ _ (shp_sr _ _ (by assumption)))) (by decide)) | (simp only [fok_sr, aok_sr]; first | assumption | (exact shp_fok (by first | assumption | exact shp_sr _ _ (by assumption) | exact shp_sr _ _ (shp_sr _ _ (by assumption)) | exact shp_sr _ _ (shp_sr _ _ (shp_sr _ _ (by assumption)))) (by decide))) | (refine shp_aok (by first | assumption | exact shp_sr _ _ (by assumption) | exact shp_sr _ _ (shp_sr _ _ (by assumption)) | exact shp_sr _ _ (shp_sr _ _ (shp_sr _ _ (by assumption)))) rfl rfl ?_ ?_ <;> omega) | (exact shp_sr _ _ (by assumption)) | (exact shp_sr _ _ (shp_sr _ _ (by assumption))) | (exact shp_sr _ _ (shp_sr _ _ (shp_sr _ _ (by assumption)))) | (left; assumption) | (exact b2i_or _) | (simp; done)) only [e96_0, e96_1, e96_4, e96_5, e96_6, e96_7, e96_10, e96_13, e96_14, e96_15, e96_18, e96_19, e96_20, e96_21, e96_24, e96_27, e96_28, e96_31, e96_32, e96_33, e96_34, e96_37, e96_39, e96_40, e96_41, e96_44, e96_45, e96_48, e96_51, e96_52, e96_55, e96_57, e96_58, e96_59, e96_62, e96_63, e96_66, e96_67, e96_70, e96_73, e96_74, e96_75, e96_76, e96_79, e96_80, e96_83, e96_84, e96_87, e96_90, e96_92, eq_self, ne_a, ne_b, ne_c, Nat.reduceEqDiff, lt0, bnd_ok, psh_I, psh_L, psh_R, psh_U, gt_sr, gr_sr, sk_sr, nn_sr, ↓reduceIte, Int.toNat_natCast, Int.reduceToNat, m_in, if_neg h4, Int.reduceEq]
      · by_cases h5 : w = 1
        · subst h5
          have h4 : ¬ (0 ≤ v ∧ v ≤ 3) := fun e => h2 ⟨rfl, e⟩
          simp (disch := first | assumption | omega | (exact shp_fok (by first | assumption | exact shp_sr _ _ (by assumption) | exact shp_sr _ _ (shp_sr _ _ (by assumption)) | exact shp_sr _ _ (shp_sr _ _ (shp_sr _ _ (by assumption)))) (by decide)) | (simp only [fok_sr, aok_sr]; first | assumption | (exact shp_fok (by first | assumption | exact shp_sr _ _ (by assumption) | exact shp_sr _ _ (shp_sr _ _ (by assumption)) | exact shp_sr _ _ (shp_sr _ _ (shp_sr _ _ (by assumption)))) (by decide))) | (refine shp_aok (by first | assumption | exact shp_sr _ _ (by assumption) | exact shp_sr _ _ (shp_sr _ _ (by assumption)) | exact shp_sr _ _ (shp_sr _ _ (shp_sr _ _ (by assumption)))) rfl rfl ?_ ?_ <;> omega) | (exact shp_sr _ _ (by assumption)) | (exact shp_sr _ _ (shp_sr _ _ (by assumption))) | (exact shp_sr _ _ (shp_sr _ _ (shp_sr _ _ (by assumption)))) | (left; assumption) | (exact b2i_or _) | (simp; done)) only [e96_0, e96_1, e96_4, e96_5, e96_6, e96_7, e96_10, e96_13, e96_14, e96_15, e96_18, e96_19, e96_20, e96_21, e96_24, e96_27, e96_28, e96_31, e96_32, e96_33, e96_34, e96_37, e96_39, e96_40, e96_41, e96_44, e96_45, e96_48, e96_51, e96_52, e96_55, e96_57, e96_58, e96_59, e96_62, e96_63, e96_66, e96_67, e96_70, e96_73, e96_74, e96_75, e96_76, e96_79, e96_80, e96_83, e96_84, e96_87, e96_90, e96_92, eq_self, ne_a, ne_b, ne_c, Nat.reduceEqDiff, lt0, bnd_ok, psh_I, psh_L, psh_R, psh_U, gt_sr, gr_sr, sk_sr, nn_sr, ↓reduceIte, Int.toNat_natCast, Int.reduceToNat, m_in, if_neg h4, Int.reduceEq]
        · simp (disch := first | assumption | omega | (exact shp_fok (by first | assumption | exact shp_sr _ _ (by assumption) | exact shp_sr _ _ (shp_sr _ _ (by assumption)) | exact shp_sr _ _ (shp_sr _ _ (shp_sr _ _ (by assumption)))) (by decide)) | (simp only [fok_sr, aok_sr]; first | assumption | (exact shp_fok (by first | assumption | exact shp_sr _ _ (by assumption) | exact shp_sr _ _ (shp_sr _ _ (by assumption)) | exact shp_sr _ _ (shp_sr _ _ (shp_sr _ _ (by assumption)))) (by decide))) | (refine shp_aok (by first | assumption | exact shp_sr _ _ (by assumption) | exact shp_sr _ _ (shp_sr _ _ (by assumption)) | exact shp_sr _ _ (shp_sr _ _ (shp_sr _ _ (by assumption)))) rfl rfl ?_ ?_ <;> omega) | (exact shp_sr _ _ (by assumption)) | (exact shp_sr _ _ (shp_sr _ _ (by assumption))) | (exact shp_sr _ _ (shp_sr _ _ (shp_sr _ _ (by assumption)))) | (left; assumption) | (exact b2i_or _) | (simp; done)) only [e96_0, e96_1, e96_4, e96_5, e96_6, e96_7, e96_10, e96_13, e96_14, e96_15, e96_18, e96_19, e96_20, e96_21, e96_24, e96_27, e96_28, e96_31, e96_32, e96_33, e96_34, e96_37, e96_39, e96_40, e96_41, e96_44, e96_45, e96_48, e96_51, e96_52, e96_55, e96_57, e96_58, e96_59, e96_62, e96_63, e96_66, e96_67, e96_70, e96_73, e96_74, e96_75, e96_76, e96_79, e96_80, e96_83, e96_84, e96_87, e96_90, e96_92, eq_self, ne_a, ne_b, ne_c, Nat.reduceEqDiff, lt0, bnd_ok, psh_I, psh_L, psh_R, psh_U, gt_sr, gr_sr, sk_sr, nn_sr, ↓reduceIte, Int.toNat_natCast, Int.reduceToNat, h3, h5]
theorem wn_lt (d : Dat) (s : Nat) : wnB d s < 2147483648 := by
  have := bsN_lt (fun c => decide (0 ≤ dwa d (s * 24 + c))) 24
  unfold wnB
  omega
set_option maxRecDepth 100000 in
set_option maxHeartbeats 4000000 in
theorem m_Mshape (s c v : Int) (d : Dat) (cn : Nat) (sg : Nat → Int) : mla 97 [vR 24, vI s, vI c, vI v] d cn sg (vI (x_shape d s c v)) (d_shape d s c v) cn sg := by
  intro σ h
  obtain ⟨a1, a2, a3, a4, a5, a6, a7, a8, a9, a10⟩ := id h
  obtain ⟨hs, d0, d1, d4, d5, hw⟩ := id a1
  have h24 := dn24 a9
  have hh := m_isCell a1 a9 c
  unfold x_shape d_shape
  by_cases h1 : 0 ≤ s ∧ s ≤ 3
  · by_cases h2 : 0 ≤ c ∧ c < (dn_ d : Nat)
    · rw [if_pos h2] at hh
      have h12 : (0 ≤ s ∧ s ≤ 3) ∧ (0 ≤ c ∧ c < (dn_ d : Nat)) := ⟨h1, h2⟩
      rw [if_pos h12, if_pos h12]
      clear h12
      obtain ⟨s, rfl⟩ := nat_of h1.1
      obtain ⟨c, rfl⟩ := nat_of h2.1
      rw [Int.toNat_natCast, Int.toNat_natCast]
      by_cases h3 : -1 ≤ v ∧ v ≤ 9
      · rw [if_pos h3, if_pos h3]
        have w1 : wr (wr (24 * (s : Int)) + (c : Int)) = ((s * 24 + c : Nat) : Int) := by
          rw [wr_id (z := 24 * (s : Int)) (by omega) (by omega), wr_id (by omega) (by omega)]; omega
        have ok9 := ok_setW a9 (s := s) (c := c) (by omega) (by omega) h3
        have f9 : mfx (sr σ 26 (ru (dwa d) (s * 24 + c) v)) (setW d (ru (dwa d) (s * 24 + c) v)) := ⟨hs, d0, d1, d4, d5, gt_e _ _ _⟩
        have e1 := m_wanted f9 (s := s) (by omega)
        have e2 := m_bits (wn_lt (setW d (ru (dwa d) (s * 24 + c) v)) s) (sr σ 26 (ru (dwa d) (s * 24 + c) v))
        rw [pc_wn ok9 (by omega)] at e2
        refine ⟨_, ?_, chg_sr (q := 26) (f := ru (dwa d) (s * 24 + c) v) (chg_rf _ σ) (by decide), f9, a2, a3, a4, a5, a6, a7, a8, ok9, a10⟩
        simp (disch := first | assumption | omega | (exact shp_fok (by first | assumption | exact shp_sr _ _ (by assumption) | exact shp_sr _ _ (shp_sr _ _ (by assumption)) | exact shp_sr _ _ (shp_sr _ _ (shp_sr _ _ (by assumption)))) (by decide)) | (simp only [fok_sr, aok_sr]; first | assumption | (exact shp_fok (by first | assumption | exact shp_sr _ _ (by assumption) | exact shp_sr _ _ (shp_sr _ _ (by assumption)) | exact shp_sr _ _ (shp_sr _ _ (shp_sr _ _ (by assumption)))) (by decide))) | (refine shp_aok (by first | assumption | exact shp_sr _ _ (by assumption) | exact shp_sr _ _ (shp_sr _ _ (by assumption)) | exact shp_sr _ _ (shp_sr _ _ (shp_sr _ _ (by assumption)))) rfl rfl ?_ ?_ <;> omega) | (exact shp_sr _ _ (by assumption)) | (exact shp_sr _ _ (shp_sr _ _ (by assumption))) | (exact shp_sr _ _ (shp_sr _ _ (shp_sr _ _ (by assumption)))) | (left; assumption) | (exact b2i_or _) | (simp; done)) only [e97_0, e97_1, e97_2, e97_3, e97_6, e97_9, e97_10, e97_11, e97_14, e97_17, e97_18, e97_19, e97_20, e97_21, e97_23, e97_26, e97_29, e97_31, e97_32, e97_33, e97_36, e97_38, e97_39, e97_40, e97_41, e97_42, e97_43, e97_44, e97_45, e97_46, e97_49, e97_52, eq_self, ne_a, ne_b, ne_c, Nat.reduceEqDiff, lt0, bnd_ok, psh_I, psh_L, psh_R, psh_U, gt_sr, gr_sr, sk_sr, nn_sr, ↓reduceIte, Int.toNat_natCast, Int.reduceToNat, hh, m_in, if_pos h1, if_pos h3, g24_6, hw, w1, e1, e2, Int.reduceEq]
      · rw [if_neg h3, if_neg h3]
        refine ⟨σ, ?_, mdl_rf h⟩
        simp (disch := first | assumption | omega | (exact shp_fok (by first | assumption | exact shp_sr _ _ (by assumption) | exact shp_sr _ _ (shp_sr _ _ (by assumption)) | exact shp_sr _ _ (shp_sr _ _ (shp_sr _ _ (by assumption)))) (by decide)) | (simp only [fok_sr, aok_sr]; first | assumption | (exact shp_fok (by first | assumption | exact shp_sr _ _ (by assumption) | exact shp_sr _ _ (shp_sr _ _ (by assumption)) | exact shp_sr _ _ (shp_sr _ _ (shp_sr _ _ (by assumption)))) (by decide))) | (refine shp_aok (by first | assumption | exact shp_sr _ _ (by assumption) | exact shp_sr _ _ (shp_sr _ _ (by assumption)) | exact shp_sr _ _ (shp_sr _ _ (shp_sr _ _ (by assumption)))) rfl rfl ?_ ?_ <;> omega) | (exact shp_sr _ _ (by assumption)) | (exact shp_sr _ _ (shp_sr _ _ (by assumption))) | (exact shp_sr _ _ (shp_sr _ _ (shp_sr _ _ (by assumption)))) | (left; assumption) | (exact b2i_or _) | (simp; done)) only [e97_0, e97_1, e97_2, e97_3, e97_6, e97_9, e97_10, e97_11, e97_14, e97_17, e97_18, e97_19, e97_20, e97_21, e97_23, e97_26, e97_29, e97_31, e97_32, e97_33, e97_36, e97_38, e97_39, e97_40, e97_41, e97_42, e97_43, e97_44, e97_45, e97_46, e97_49, e97_52, eq_self, ne_a, ne_b, ne_c, Nat.reduceEqDiff, lt0, bnd_ok, psh_I, psh_L, psh_R, psh_U, gt_sr, gr_sr, sk_sr, nn_sr, ↓reduceIte, Int.toNat_natCast, Int.reduceToNat, hh, m_in, if_pos h1, if_neg h3, Int.reduceEq]
    · rw [if_neg h2] at hh
      rw [if_neg (fun h => h2 h.2), if_neg (fun h => h2 h.2)]
      refine ⟨σ, ?_, mdl_rf h⟩
      simp (disch := first | assumption | omega | (exact shp_fok (by first | assumption | exact shp_sr _ _ (by assumption) | exact shp_sr _ _ (shp_sr _ _ (by assumption)) | exact shp_sr _ _ (shp_sr _ _ (shp_sr _ _ (by assumption)))) (by decide)) | (simp only [fok_sr, aok_sr]; first | assumption | (exact shp_fok (by first | assumption | exact shp_sr _ _ (by assumption) | exact shp_sr _ _ (shp_sr _ _ (by assumption)) | exact shp_sr _ _ (shp_sr _ _ (shp_sr _ _ (by assumption)))) (by decide))) | (refine shp_aok (by first | assumption | exact shp_sr _ _ (by assumption) | exact shp_sr _ _ (shp_sr _ _ (by assumption)) | exact shp_sr _ _ (shp_sr _ _ (shp_sr _ _ (by assumption)))) rfl rfl ?_ ?_ <;> omega) | (exact shp_sr _ _ (by assumption)) | (exact shp_sr _ _ (shp_sr _ _ (by assumption))) | (exact shp_sr _ _ (shp_sr _ _ (shp_sr _ _ (by assumption)))) | (left; assumption) | (exact b2i_or _) | (simp; done)) only [e97_0, e97_1, e97_2, e97_3, e97_6, e97_9, e97_10, e97_11, e97_14, e97_17, e97_18, e97_19, e97_20, e97_21, e97_23, e97_26, e97_29, e97_31, e97_32, e97_33, e97_36, e97_38, e97_39, e97_40, e97_41, e97_42, e97_43, e97_44, e97_45, e97_46, e97_49, e97_52, eq_self, ne_a, ne_b, ne_c, Nat.reduceEqDiff, lt0, bnd_ok, psh_I, psh_L, psh_R, psh_U, gt_sr, gr_sr, sk_sr, nn_sr, ↓reduceIte, Int.toNat_natCast, Int.reduceToNat, hh, m_in, if_pos h1, Int.reduceEq]
  · rw [if_neg (fun h => h1 h.1), if_neg (fun h => h1 h.1)]
    refine ⟨σ, ?_, mdl_rf h⟩
    simp (disch := first | assumption | omega | (exact shp_fok (by first | assumption | exact shp_sr _ _ (by assumption) | exact shp_sr _ _ (shp_sr _ _ (by assumption)) | exact shp_sr _ _ (shp_sr _ _ (shp_sr _ _ (by assumption)))) (by decide)) | (simp only [fok_sr, aok_sr]; first | assumption | (exact shp_fok (by first | assumption | exact shp_sr _ _ (by assumption) | exact shp_sr _ _ (shp_sr _ _ (by assumption)) | exact shp_sr _ _ (shp_sr _ _ (shp_sr _ _ (by assumption)))) (by decide))) | (refine shp_aok (by first | assumption | exact shp_sr _ _ (by assumption) | exact shp_sr _ _ (shp_sr _ _ (by assumption)) | exact shp_sr _ _ (shp_sr _ _ (shp_sr _ _ (by assumption)))) rfl rfl ?_ ?_ <;> omega) | (exact shp_sr _ _ (by assumption)) | (exact shp_sr _ _ (shp_sr _ _ (by assumption))) | (exact shp_sr _ _ (shp_sr _ _ (shp_sr _ _ (by assumption)))) | (left; assumption) | (exact b2i_or _) | (simp; done)) only [e97_0, e97_1, e97_2, e97_3, e97_6, e97_9, e97_10, e97_11, e97_14, e97_17, e97_18, e97_19, e97_20, e97_21, e97_23, e97_26, e97_29, e97_31, e97_32, e97_33, e97_36, e97_38, e97_39, e97_40, e97_41, e97_42, e97_43, e97_44, e97_45, e97_46, e97_49, e97_52, eq_self, ne_a, ne_b, ne_c, Nat.reduceEqDiff, lt0, bnd_ok, psh_I, psh_L, psh_R, psh_U, gt_sr, gr_sr, sk_sr, nn_sr, ↓reduceIte, Int.toNat_natCast, Int.reduceToNat, m_in, if_neg h1]
theorem mdl_pad {σ : St} {d : Dat} {cn cn' : Nat} {sg sg' : Nat → Int} (h : mdl σ d cn sg) (ho : okp cn' sg') : mdl (sr (sr σ 28 sg') 24 (ru (gt σ 24) 9 (cn' : Int))) d cn' sg' := by
  obtain ⟨⟨hs, d0, d1, d4, d5, hw⟩, a2, a3, a4, a5, a6, a7, a8, a9, a10⟩ := h
  refine ⟨⟨hs, ?_, ?_, ?_, ?_, hw⟩, ?_, ?_, by rw [gt_e, ru_e], a5, a6, rfl, ho, a9, a10⟩
  · rw [gt_e, ru_n _ _ (by decide)]; exact d0
  · rw [gt_e, ru_n _ _ (by decide)]; exact d1
  · rw [gt_e, ru_n _ _ (by decide)]; exact d4
  · rw [gt_e, ru_n _ _ (by decide)]; exact d5
  · rw [gt_e, ru_n _ _ (by decide)]; exact a2
  · rw [gt_e, ru_n _ _ (by decide)]; exact a3
set_option maxRecDepth 100000 in
set_option maxHeartbeats 4000000 in
theorem m_Msay (s : Int) (d : Dat) (cn : Nat) (sg : Nat → Int) : mla 100 [vR 24, vI s] d cn sg (vI (x_say cn s)) d (n_say cn s) (s_say cn sg s) := by
  intro σ h
  obtain ⟨a1, a2, a3, a4, a5, a6, a7, a8, a9, a10⟩ := id h
  have hs := a1.1
  have h60 := a8.1
  unfold x_say n_say s_say
  by_cases h1 : 33 ≤ s ∧ s ≤ 126
  · rw [if_pos h1, if_pos h1, if_pos h1]
    by_cases h2 : cn = 60
    · rw [if_pos h2, if_pos h2, if_pos h2]
      refine ⟨σ, ?_, mdl_rf h⟩
      have h3 : (cn : Int) = 60 := by omega
      simp (disch := first | assumption | omega | (exact shp_fok (by first | assumption | exact shp_sr _ _ (by assumption) | exact shp_sr _ _ (shp_sr _ _ (by assumption)) | exact shp_sr _ _ (shp_sr _ _ (shp_sr _ _ (by assumption)))) (by decide)) | (simp only [fok_sr, aok_sr]; first | assumption | (exact shp_fok (by first | assumption | exact shp_sr _ _ (by assumption) | exact shp_sr _ _ (shp_sr _ _ (by assumption)) | exact shp_sr _ _ (shp_sr _ _ (shp_sr _ _ (by assumption)))) (by decide))) | (refine shp_aok (by first | assumption | exact shp_sr _ _ (by assumption) | exact shp_sr _ _ (shp_sr _ _ (by assumption)) | exact shp_sr _ _ (shp_sr _ _ (shp_sr _ _ (by assumption)))) rfl rfl ?_ ?_ <;> omega) | (exact shp_sr _ _ (by assumption)) | (exact shp_sr _ _ (shp_sr _ _ (by assumption))) | (exact shp_sr _ _ (shp_sr _ _ (shp_sr _ _ (by assumption)))) | (left; assumption) | (exact b2i_or _) | (simp; done)) only [e100_0, e100_1, e100_3, e100_5, e100_8, e100_11, e100_13, e100_14, e100_15, e100_18, e100_20, e100_23, e100_25, e100_26, e100_27, e100_30, e100_31, e100_34, e100_35, e100_36, e100_37, e100_38, e100_41, e100_42, e100_43, e100_46, e100_47, e100_50, eq_self, ne_a, ne_b, ne_c, Nat.reduceEqDiff, lt0, bnd_ok, psh_I, psh_L, psh_R, psh_U, gt_sr, gr_sr, sk_sr, nn_sr, ↓reduceIte, Int.toNat_natCast, Int.reduceToNat, a4, m_in, if_pos h1, h3, Int.reduceEq]
    · rw [if_neg h2, if_neg h2, if_neg h2]
      have h3 : ¬ (cn : Int) = 60 := by omega
      have w1 : wr ((cn : Int) + 1) = ((cn + 1 : Nat) : Int) := by rw [wr_id (by omega) (by omega)]; omega
      have ho : okp (cn + 1) (ru sg cn s) := by
        refine ⟨by omega, fun i hi => ?_⟩
        unfold ru
        split
        · exact h1
        · exact a8.2 i (by omega)
      refine ⟨_, ?_, chg_sr (chg_sr (chg_rf _ _) (by decide)) (by decide), mdl_pad h ho⟩
      simp (disch := first | assumption | omega | (exact shp_fok (by first | assumption | exact shp_sr _ _ (by assumption) | exact shp_sr _ _ (shp_sr _ _ (by assumption)) | exact shp_sr _ _ (shp_sr _ _ (shp_sr _ _ (by assumption)))) (by decide)) | (simp only [fok_sr, aok_sr]; first | assumption | (exact shp_fok (by first | assumption | exact shp_sr _ _ (by assumption) | exact shp_sr _ _ (shp_sr _ _ (by assumption)) | exact shp_sr _ _ (shp_sr _ _ (shp_sr _ _ (by assumption)))) (by decide))) | (refine shp_aok (by first | assumption | exact shp_sr _ _ (by assumption) | exact shp_sr _ _ (shp_sr _ _ (by assumption)) | exact shp_sr _ _ (shp_sr _ _ (shp_sr _ _ (by assumption)))) rfl rfl ?_ ?_ <;> omega) | (exact shp_sr _ _ (by assumption)) | (exact shp_sr _ _ (shp_sr _ _ (by assumption))) | (exact shp_sr _ _ (shp_sr _ _ (shp_sr _ _ (by assumption)))) | (left; assumption) | (exact b2i_or _) | (simp; done)) only [e100_0, e100_1, e100_3, e100_5, e100_8, e100_11, e100_13, e100_14, e100_15, e100_18, e100_20, e100_23, e100_25, e100_26, e100_27, e100_30, e100_31, e100_34, e100_35, e100_36, e100_37, e100_38, e100_41, e100_42, e100_43, e100_46, e100_47, e100_50, eq_self, ne_a, ne_b, ne_c, Nat.reduceEqDiff, lt0, bnd_ok, psh_I, psh_L, psh_R, psh_U, gt_sr, gr_sr, sk_sr, nn_sr, ↓reduceIte, Int.toNat_natCast, Int.reduceToNat, a4, a7, m_in, if_pos h1, h3, g24_10, w1, ru_e, Int.reduceEq]
  · rw [if_neg h1, if_neg h1, if_neg h1]
    refine ⟨σ, ?_, mdl_rf h⟩
    simp (disch := first | assumption | omega | (exact shp_fok (by first | assumption | exact shp_sr _ _ (by assumption) | exact shp_sr _ _ (shp_sr _ _ (by assumption)) | exact shp_sr _ _ (shp_sr _ _ (shp_sr _ _ (by assumption)))) (by decide)) | (simp only [fok_sr, aok_sr]; first | assumption | (exact shp_fok (by first | assumption | exact shp_sr _ _ (by assumption) | exact shp_sr _ _ (shp_sr _ _ (by assumption)) | exact shp_sr _ _ (shp_sr _ _ (shp_sr _ _ (by assumption)))) (by decide))) | (refine shp_aok (by first | assumption | exact shp_sr _ _ (by assumption) | exact shp_sr _ _ (shp_sr _ _ (by assumption)) | exact shp_sr _ _ (shp_sr _ _ (shp_sr _ _ (by assumption)))) rfl rfl ?_ ?_ <;> omega) | (exact shp_sr _ _ (by assumption)) | (exact shp_sr _ _ (shp_sr _ _ (by assumption))) | (exact shp_sr _ _ (shp_sr _ _ (shp_sr _ _ (by assumption)))) | (left; assumption) | (exact b2i_or _) | (simp; done)) only [e100_0, e100_1, e100_3, e100_5, e100_8, e100_11, e100_13, e100_14, e100_15, e100_18, e100_20, e100_23, e100_25, e100_26, e100_27, e100_30, e100_31, e100_34, e100_35, e100_36, e100_37, e100_38, e100_41, e100_42, e100_43, e100_46, e100_47, e100_50, eq_self, ne_a, ne_b, ne_c, Nat.reduceEqDiff, lt0, bnd_ok, psh_I, psh_L, psh_R, psh_U, gt_sr, gr_sr, sk_sr, nn_sr, ↓reduceIte, Int.toNat_natCast, Int.reduceToNat, m_in, if_neg h1]
set_option maxRecDepth 100000 in
set_option maxHeartbeats 4000000 in
theorem m_Mwipe (d : Dat) (cn : Nat) (sg : Nat → Int) : mla 101 [vR 24, vU] d cn sg (vI cn) d 0 sg := by
  intro σ h
  obtain ⟨a1, a2, a3, a4, a5, a6, a7, a8, a9, a10⟩ := id h
  have hs := a1.1
  have hp := mdl_pad (cn' := 0) (sg' := sg) h (okp_0 sg)
  rw [sr_self σ 28 sg a7.symm] at hp
  refine ⟨_, ?_, chg_sr (chg_rf _ _) (by decide), hp⟩
  simp (disch := first | assumption | omega | (exact shp_fok (by first | assumption | exact shp_sr _ _ (by assumption) | exact shp_sr _ _ (shp_sr _ _ (by assumption)) | exact shp_sr _ _ (shp_sr _ _ (shp_sr _ _ (by assumption)))) (by decide)) | (simp only [fok_sr, aok_sr]; first | assumption | (exact shp_fok (by first | assumption | exact shp_sr _ _ (by assumption) | exact shp_sr _ _ (shp_sr _ _ (by assumption)) | exact shp_sr _ _ (shp_sr _ _ (shp_sr _ _ (by assumption)))) (by decide))) | (refine shp_aok (by first | assumption | exact shp_sr _ _ (by assumption) | exact shp_sr _ _ (shp_sr _ _ (by assumption)) | exact shp_sr _ _ (shp_sr _ _ (shp_sr _ _ (by assumption)))) rfl rfl ?_ ?_ <;> omega) | (exact shp_sr _ _ (by assumption)) | (exact shp_sr _ _ (shp_sr _ _ (by assumption))) | (exact shp_sr _ _ (shp_sr _ _ (shp_sr _ _ (by assumption)))) | (left; assumption) | (exact b2i_or _) | (simp; done)) only [e101_0, e101_1, e101_4, e101_5, e101_6, e101_7, e101_10, e101_11, eq_self, ne_a, ne_b, ne_c, Nat.reduceEqDiff, lt0, bnd_ok, psh_I, psh_L, psh_R, psh_U, gt_sr, gr_sr, sk_sr, nn_sr, ↓reduceIte, Int.toNat_natCast, Int.reduceToNat, a4, Int.cast_ofNat_Int]
set_option maxRecDepth 100000 in
set_option maxHeartbeats 4000000 in
theorem m_Mfault (d : Dat) (cn : Nat) (sg : Nat → Int) : mla 102 [vR 24] d cn sg (vI (flt (dn_ d) cn sg)) d cn sg := by
  intro σ h
  have f1 := m_faultOf h
  have hs := h.1.1
  refine ⟨σ, ?_, mdl_rf h⟩
  simp (disch := first | assumption | omega | (exact shp_fok (by first | assumption | exact shp_sr _ _ (by assumption) | exact shp_sr _ _ (shp_sr _ _ (by assumption)) | exact shp_sr _ _ (shp_sr _ _ (shp_sr _ _ (by assumption)))) (by decide)) | (simp only [fok_sr, aok_sr]; first | assumption | (exact shp_fok (by first | assumption | exact shp_sr _ _ (by assumption) | exact shp_sr _ _ (shp_sr _ _ (by assumption)) | exact shp_sr _ _ (shp_sr _ _ (shp_sr _ _ (by assumption)))) (by decide))) | (refine shp_aok (by first | assumption | exact shp_sr _ _ (by assumption) | exact shp_sr _ _ (shp_sr _ _ (by assumption)) | exact shp_sr _ _ (shp_sr _ _ (shp_sr _ _ (by assumption)))) rfl rfl ?_ ?_ <;> omega) | (exact shp_sr _ _ (by assumption)) | (exact shp_sr _ _ (shp_sr _ _ (by assumption))) | (exact shp_sr _ _ (shp_sr _ _ (shp_sr _ _ (by assumption)))) | (left; assumption) | (exact b2i_or _) | (simp; done)) only [e102_0, e102_1, e102_4, eq_self, ne_a, ne_b, ne_c, Nat.reduceEqDiff, lt0, bnd_ok, psh_I, psh_L, psh_R, psh_U, gt_sr, gr_sr, sk_sr, nn_sr, ↓reduceIte, Int.toNat_natCast, Int.reduceToNat, f1]
theorem gone_mdl {σ σ' : St} {d : Dat} {cn : Nat} {sg : Nat → Int} {r : Int} {R : Int × Int × Int × Int × Dat} (h : mdl σ d cn sg) (hg : gone σ σ' r R) : chg SMo σ σ' ∧ mdl σ' d cn sg := ⟨sch_SMo hg.1, mdl_sch h hg.1 hg.2.1⟩
theorem wtM_6 : wtM (-6) = -1 := rfl
set_option maxRecDepth 100000 in
set_option maxHeartbeats 4000000 in
theorem m_Mjudge (w : Int) (d : Dat) (cn : Nat) (sg : Nat → Int) : mla 105 [vR 24, vI w, vU] d cn sg (vI (x_judge d cn sg w)) d cn sg := by
  intro σ h
  have f1 := m_faultOf h
  have hs := h.1.1
  unfold x_judge
  by_cases h1 : 0 ≤ w ∧ w ≤ 1
  · rw [if_pos h1]
    by_cases h2 : flt (dn_ d) cn sg = -6
    · rw [if_pos h2]
      obtain ⟨r, σ1, e1, g1⟩ := m_goNight h h2 (w := -6) (Or.inl rfl)
      rw [wtM_6] at g1
      have hs1 := (gone_mdl h g1).2.1.1
      refine ⟨σ1, ?_, gone_mdl h g1⟩
      rcases g1.2.2 with ⟨p1, p2, p3, -⟩ | ⟨p1, p2, p3⟩
      · have hx : (if w = 0 then (plD d cn sg (-1)).1 else (plD d cn sg (-1)).2.1) = -6 := by rw [p1, p2]; split <;> rfl
        rw [hx]
        simp (disch := first | assumption | omega | (exact shp_fok (by first | assumption | exact shp_sr _ _ (by assumption) | exact shp_sr _ _ (shp_sr _ _ (by assumption)) | exact shp_sr _ _ (shp_sr _ _ (shp_sr _ _ (by assumption)))) (by decide)) | (simp only [fok_sr, aok_sr]; first | assumption | (exact shp_fok (by first | assumption | exact shp_sr _ _ (by assumption) | exact shp_sr _ _ (shp_sr _ _ (by assumption)) | exact shp_sr _ _ (shp_sr _ _ (shp_sr _ _ (by assumption)))) (by decide))) | (refine shp_aok (by first | assumption | exact shp_sr _ _ (by assumption) | exact shp_sr _ _ (shp_sr _ _ (by assumption)) | exact shp_sr _ _ (shp_sr _ _ (shp_sr _ _ (by assumption)))) rfl rfl ?_ ?_ <;> omega) | (exact shp_sr _ _ (by assumption)) | (exact shp_sr _ _ (shp_sr _ _ (by assumption))) | (exact shp_sr _ _ (shp_sr _ _ (shp_sr _ _ (by assumption)))) | (left; assumption) | (exact b2i_or _) | (simp; done)) only [e105_0, e105_1, e105_2, e105_3, e105_6, e105_9, e105_11, e105_12, e105_13, e105_16, e105_19, e105_21, e105_22, e105_23, e105_25, e105_28, e105_29, e105_30, e105_33, e105_34, e105_37, e105_38, e105_41, e105_42, e105_45, eq_self, ne_a, ne_b, ne_c, Nat.reduceEqDiff, lt0, bnd_ok, psh_I, psh_L, psh_R, psh_U, gt_sr, gr_sr, sk_sr, nn_sr, ↓reduceIte, Int.toNat_natCast, Int.reduceToNat, m_in, if_pos h1, f1, h2, e1, p3, Int.reduceEq, Int.reduceLT]
      · have hr : ¬ r < 0 := by omega
        by_cases h3 : w = 0
        · rw [if_pos h3, ← p2]
          simp (disch := first | assumption | omega | (exact shp_fok (by first | assumption | exact shp_sr _ _ (by assumption) | exact shp_sr _ _ (shp_sr _ _ (by assumption)) | exact shp_sr _ _ (shp_sr _ _ (shp_sr _ _ (by assumption)))) (by decide)) | (simp only [fok_sr, aok_sr]; first | assumption | (exact shp_fok (by first | assumption | exact shp_sr _ _ (by assumption) | exact shp_sr _ _ (shp_sr _ _ (by assumption)) | exact shp_sr _ _ (shp_sr _ _ (shp_sr _ _ (by assumption)))) (by decide))) | (refine shp_aok (by first | assumption | exact shp_sr _ _ (by assumption) | exact shp_sr _ _ (shp_sr _ _ (by assumption)) | exact shp_sr _ _ (shp_sr _ _ (shp_sr _ _ (by assumption)))) rfl rfl ?_ ?_ <;> omega) | (exact shp_sr _ _ (by assumption)) | (exact shp_sr _ _ (shp_sr _ _ (by assumption))) | (exact shp_sr _ _ (shp_sr _ _ (shp_sr _ _ (by assumption)))) | (left; assumption) | (exact b2i_or _) | (simp; done)) only [e105_0, e105_1, e105_2, e105_3, e105_6, e105_9, e105_11, e105_12, e105_13, e105_16, e105_19, e105_21, e105_22, e105_23, e105_25, e105_28, e105_29, e105_30, e105_33, e105_34, e105_37, e105_38, e105_41, e105_42, e105_45, eq_self, ne_a, ne_b, ne_c, Nat.reduceEqDiff, lt0, bnd_ok, psh_I, psh_L, psh_R, psh_U, gt_sr, gr_sr, sk_sr, nn_sr, ↓reduceIte, Int.toNat_natCast, Int.reduceToNat, m_in, if_pos h1, f1, h2, e1, hr, h3, Int.reduceEq, Int.reduceLT, Int.reduceLE, and_self]
        · rw [if_neg h3]
          simp (disch := first | assumption | omega | (exact shp_fok (by first | assumption | exact shp_sr _ _ (by assumption) | exact shp_sr _ _ (shp_sr _ _ (by assumption)) | exact shp_sr _ _ (shp_sr _ _ (shp_sr _ _ (by assumption)))) (by decide)) | (simp only [fok_sr, aok_sr]; first | assumption | (exact shp_fok (by first | assumption | exact shp_sr _ _ (by assumption) | exact shp_sr _ _ (shp_sr _ _ (by assumption)) | exact shp_sr _ _ (shp_sr _ _ (shp_sr _ _ (by assumption)))) (by decide))) | (refine shp_aok (by first | assumption | exact shp_sr _ _ (by assumption) | exact shp_sr _ _ (shp_sr _ _ (by assumption)) | exact shp_sr _ _ (shp_sr _ _ (shp_sr _ _ (by assumption)))) rfl rfl ?_ ?_ <;> omega) | (exact shp_sr _ _ (by assumption)) | (exact shp_sr _ _ (shp_sr _ _ (by assumption))) | (exact shp_sr _ _ (shp_sr _ _ (shp_sr _ _ (by assumption)))) | (left; assumption) | (exact b2i_or _) | (simp; done)) only [e105_0, e105_1, e105_2, e105_3, e105_6, e105_9, e105_11, e105_12, e105_13, e105_16, e105_19, e105_21, e105_22, e105_23, e105_25, e105_28, e105_29, e105_30, e105_33, e105_34, e105_37, e105_38, e105_41, e105_42, e105_45, eq_self, ne_a, ne_b, ne_c, Nat.reduceEqDiff, lt0, bnd_ok, psh_I, psh_L, psh_R, psh_U, gt_sr, gr_sr, sk_sr, nn_sr, ↓reduceIte, Int.toNat_natCast, Int.reduceToNat, m_in, if_pos h1, f1, h2, e1, hr, h3, p3, Int.reduceEq, Int.reduceLT]
    · rw [if_neg h2]
      have h8 := flt_cases (dn_ d) sg cn 0
      have h7 : ¬ flt (dn_ d) cn sg < 0 := by unfold flt at h2 ⊢; omega
      refine ⟨σ, ?_, mdl_rf h⟩
      simp (disch := first | assumption | omega | (exact shp_fok (by first | assumption | exact shp_sr _ _ (by assumption) | exact shp_sr _ _ (shp_sr _ _ (by assumption)) | exact shp_sr _ _ (shp_sr _ _ (shp_sr _ _ (by assumption)))) (by decide)) | (simp only [fok_sr, aok_sr]; first | assumption | (exact shp_fok (by first | assumption | exact shp_sr _ _ (by assumption) | exact shp_sr _ _ (shp_sr _ _ (by assumption)) | exact shp_sr _ _ (shp_sr _ _ (shp_sr _ _ (by assumption)))) (by decide))) | (refine shp_aok (by first | assumption | exact shp_sr _ _ (by assumption) | exact shp_sr _ _ (shp_sr _ _ (by assumption)) | exact shp_sr _ _ (shp_sr _ _ (shp_sr _ _ (by assumption)))) rfl rfl ?_ ?_ <;> omega) | (exact shp_sr _ _ (by assumption)) | (exact shp_sr _ _ (shp_sr _ _ (by assumption))) | (exact shp_sr _ _ (shp_sr _ _ (shp_sr _ _ (by assumption)))) | (left; assumption) | (exact b2i_or _) | (simp; done)) only [e105_0, e105_1, e105_2, e105_3, e105_6, e105_9, e105_11, e105_12, e105_13, e105_16, e105_19, e105_21, e105_22, e105_23, e105_25, e105_28, e105_29, e105_30, e105_33, e105_34, e105_37, e105_38, e105_41, e105_42, e105_45, eq_self, ne_a, ne_b, ne_c, Nat.reduceEqDiff, lt0, bnd_ok, psh_I, psh_L, psh_R, psh_U, gt_sr, gr_sr, sk_sr, nn_sr, ↓reduceIte, Int.toNat_natCast, Int.reduceToNat, m_in, if_pos h1, f1, h7, Int.reduceEq]
  · rw [if_neg h1]
    refine ⟨σ, ?_, mdl_rf h⟩
    simp (disch := first | assumption | omega | (exact shp_fok (by first | assumption | exact shp_sr _ _ (by assumption) | exact shp_sr _ _ (shp_sr _ _ (by assumption)) | exact shp_sr _ _ (shp_sr _ _ (shp_sr _ _ (by assumption)))) (by decide)) | (simp only [fok_sr, aok_sr]; first | assumption | (exact shp_fok (by first | assumption | exact shp_sr _ _ (by assumption) | exact shp_sr _ _ (shp_sr _ _ (by assumption)) | exact shp_sr _ _ (shp_sr _ _ (shp_sr _ _ (by assumption)))) (by decide))) | (refine shp_aok (by first | assumption | exact shp_sr _ _ (by assumption) | exact shp_sr _ _ (shp_sr _ _ (by assumption)) | exact shp_sr _ _ (shp_sr _ _ (shp_sr _ _ (by assumption)))) rfl rfl ?_ ?_ <;> omega) | (exact shp_sr _ _ (by assumption)) | (exact shp_sr _ _ (shp_sr _ _ (by assumption))) | (exact shp_sr _ _ (shp_sr _ _ (shp_sr _ _ (by assumption)))) | (left; assumption) | (exact b2i_or _) | (simp; done)) only [e105_0, e105_1, e105_2, e105_3, e105_6, e105_9, e105_11, e105_12, e105_13, e105_16, e105_19, e105_21, e105_22, e105_23, e105_25, e105_28, e105_29, e105_30, e105_33, e105_34, e105_37, e105_38, e105_41, e105_42, e105_45, eq_self, ne_a, ne_b, ne_c, Nat.reduceEqDiff, lt0, bnd_ok, psh_I, psh_L, psh_R, psh_U, gt_sr, gr_sr, sk_sr, nn_sr, ↓reduceIte, Int.toNat_natCast, Int.reduceToNat, m_in, if_neg h1]
set_option maxRecDepth 100000 in
set_option maxHeartbeats 4000000 in
theorem m_barOfNight {σ : St} {d : Dat} {cn : Nat} {sg : Nat → Int} (h : mdl σ d cn sg) {w : Int} (hw : w = -6 ∨ (0 ≤ w ∧ w ≤ 3)) : ∃ σ', run 113 0 [vR 24, vI w] [] σ = some (vI (if can d cn sg (wtM w) = true then 0 else -5), σ') ∧ sch σ σ' ∧ mdl σ' d cn sg ∧ (can d cn sg (wtM w) = true → gt σ' 24 15 = (plD d cn sg (wtM w)).2.2.1 ∧ gt σ' 24 16 = (plD d cn sg (wtM w)).2.2.2.1 ∧ nowR σ' (plD d cn sg (wtM w)).2.2.2.2) := by
  have f1 := m_faultOf h
  have hs := h.1.1
  unfold can
  by_cases h2 : flt (dn_ d) cn sg = -6
  · obtain ⟨r, σ1, e1, g1⟩ := m_goNight h h2 hw
    refine ⟨σ1, ?_, g1.1, (gone_mdl h g1).2, ?_⟩
    · rcases g1.2.2 with ⟨p1, p2, p3, -⟩ | ⟨p1, p2, p3⟩
      · rw [decide_eq_true h2, decide_eq_true p1]
        simp (disch := first | assumption | omega | (exact shp_fok (by first | assumption | exact shp_sr _ _ (by assumption) | exact shp_sr _ _ (shp_sr _ _ (by assumption)) | exact shp_sr _ _ (shp_sr _ _ (shp_sr _ _ (by assumption)))) (by decide)) | (simp only [fok_sr, aok_sr]; first | assumption | (exact shp_fok (by first | assumption | exact shp_sr _ _ (by assumption) | exact shp_sr _ _ (shp_sr _ _ (by assumption)) | exact shp_sr _ _ (shp_sr _ _ (shp_sr _ _ (by assumption)))) (by decide))) | (refine shp_aok (by first | assumption | exact shp_sr _ _ (by assumption) | exact shp_sr _ _ (shp_sr _ _ (by assumption)) | exact shp_sr _ _ (shp_sr _ _ (shp_sr _ _ (by assumption)))) rfl rfl ?_ ?_ <;> omega) | (exact shp_sr _ _ (by assumption)) | (exact shp_sr _ _ (shp_sr _ _ (by assumption))) | (exact shp_sr _ _ (shp_sr _ _ (shp_sr _ _ (by assumption)))) | (left; assumption) | (exact b2i_or _) | (simp; done)) only [e113_0, e113_1, e113_4, e113_7, e113_8, e113_9, e113_12, e113_15, e113_17, e113_20, e113_21, eq_self, ne_a, ne_b, ne_c, Nat.reduceEqDiff, lt0, bnd_ok, psh_I, psh_L, psh_R, psh_U, gt_sr, gr_sr, sk_sr, nn_sr, ↓reduceIte, Int.toNat_natCast, Int.reduceToNat, f1, h2, e1, p3, Int.reduceLT, Bool.and_self]
      · rw [decide_eq_true h2, decide_eq_false (by omega)]
        have hr : ¬ r < 0 := by omega
        simp (disch := first | assumption | omega | (exact shp_fok (by first | assumption | exact shp_sr _ _ (by assumption) | exact shp_sr _ _ (shp_sr _ _ (by assumption)) | exact shp_sr _ _ (shp_sr _ _ (shp_sr _ _ (by assumption)))) (by decide)) | (simp only [fok_sr, aok_sr]; first | assumption | (exact shp_fok (by first | assumption | exact shp_sr _ _ (by assumption) | exact shp_sr _ _ (shp_sr _ _ (by assumption)) | exact shp_sr _ _ (shp_sr _ _ (shp_sr _ _ (by assumption)))) (by decide))) | (refine shp_aok (by first | assumption | exact shp_sr _ _ (by assumption) | exact shp_sr _ _ (shp_sr _ _ (by assumption)) | exact shp_sr _ _ (shp_sr _ _ (shp_sr _ _ (by assumption)))) rfl rfl ?_ ?_ <;> omega) | (exact shp_sr _ _ (by assumption)) | (exact shp_sr _ _ (shp_sr _ _ (by assumption))) | (exact shp_sr _ _ (shp_sr _ _ (shp_sr _ _ (by assumption)))) | (left; assumption) | (exact b2i_or _) | (simp; done)) only [e113_0, e113_1, e113_4, e113_7, e113_8, e113_9, e113_12, e113_15, e113_17, e113_20, e113_21, eq_self, ne_a, ne_b, ne_c, Nat.reduceEqDiff, lt0, bnd_ok, psh_I, psh_L, psh_R, psh_U, gt_sr, gr_sr, sk_sr, nn_sr, ↓reduceIte, Int.toNat_natCast, Int.reduceToNat, f1, h2, e1, hr, Int.reduceLT, Bool.and_false, Bool.false_eq_true]
    · intro hc
      rw [Bool.and_eq_true] at hc
      have hc2 := of_decide_eq_true hc.2
      rcases g1.2.2 with ⟨p1, p2, p3, p4⟩ | ⟨p1, p2, p3⟩
      · exact p4
      · omega
  · refine ⟨σ, ?_, sch_rf _, h, fun e => absurd e (by simp [h2])⟩
    have h8 := flt_cases (dn_ d) sg cn 0
    have h7 : ¬ flt (dn_ d) cn sg < 0 := by unfold flt at h2 ⊢; omega
    rw [decide_eq_false h2]
    simp (disch := first | assumption | omega | (exact shp_fok (by first | assumption | exact shp_sr _ _ (by assumption) | exact shp_sr _ _ (shp_sr _ _ (by assumption)) | exact shp_sr _ _ (shp_sr _ _ (shp_sr _ _ (by assumption)))) (by decide)) | (simp only [fok_sr, aok_sr]; first | assumption | (exact shp_fok (by first | assumption | exact shp_sr _ _ (by assumption) | exact shp_sr _ _ (shp_sr _ _ (by assumption)) | exact shp_sr _ _ (shp_sr _ _ (shp_sr _ _ (by assumption)))) (by decide))) | (refine shp_aok (by first | assumption | exact shp_sr _ _ (by assumption) | exact shp_sr _ _ (shp_sr _ _ (by assumption)) | exact shp_sr _ _ (shp_sr _ _ (shp_sr _ _ (by assumption)))) rfl rfl ?_ ?_ <;> omega) | (exact shp_sr _ _ (by assumption)) | (exact shp_sr _ _ (shp_sr _ _ (by assumption))) | (exact shp_sr _ _ (shp_sr _ _ (shp_sr _ _ (by assumption)))) | (left; assumption) | (exact b2i_or _) | (simp; done)) only [e113_0, e113_1, e113_4, e113_7, e113_8, e113_9, e113_12, e113_15, e113_17, e113_20, e113_21, eq_self, ne_a, ne_b, ne_c, Nat.reduceEqDiff, lt0, bnd_ok, psh_I, psh_L, psh_R, psh_U, gt_sr, gr_sr, sk_sr, nn_sr, ↓reduceIte, Int.toNat_natCast, Int.reduceToNat, f1, h7, Bool.false_and, Bool.false_eq_true]
set_option maxRecDepth 100000 in
set_option maxHeartbeats 4000000 in
theorem m_Mdone (d : Dat) (cn : Nat) (sg : Nat → Int) : mla 112 [vR 24, vU] d cn sg (vI (x_done d cn sg)) (d_done d cn sg) (n_done d cn sg) sg := by
  intro σ h
  obtain ⟨σ1, e1, c1, h1, hc⟩ := m_barOfNight h (w := -6) (Or.inl rfl)
  rw [wtM_6] at e1 hc
  have s0 := h.1.1
  have s1 := h1.1.1
  unfold x_done d_done n_done
  cases hcan : can d cn sg (-1) with
  | false =>
    rw [if_neg Bool.false_ne_true, if_neg Bool.false_ne_true, if_neg Bool.false_ne_true]
    rw [hcan, if_neg Bool.false_ne_true] at e1
    refine ⟨σ1, ?_, sch_SMo c1, h1⟩
    simp (disch := first | assumption | omega | (exact shp_fok (by first | assumption | exact shp_sr _ _ (by assumption) | exact shp_sr _ _ (shp_sr _ _ (by assumption)) | exact shp_sr _ _ (shp_sr _ _ (shp_sr _ _ (by assumption)))) (by decide)) | (simp only [fok_sr, aok_sr]; first | assumption | (exact shp_fok (by first | assumption | exact shp_sr _ _ (by assumption) | exact shp_sr _ _ (shp_sr _ _ (by assumption)) | exact shp_sr _ _ (shp_sr _ _ (shp_sr _ _ (by assumption)))) (by decide))) | (refine shp_aok (by first | assumption | exact shp_sr _ _ (by assumption) | exact shp_sr _ _ (shp_sr _ _ (by assumption)) | exact shp_sr _ _ (shp_sr _ _ (shp_sr _ _ (by assumption)))) rfl rfl ?_ ?_ <;> omega) | (exact shp_sr _ _ (by assumption)) | (exact shp_sr _ _ (shp_sr _ _ (by assumption))) | (exact shp_sr _ _ (shp_sr _ _ (shp_sr _ _ (by assumption)))) | (left; assumption) | (exact b2i_or _) | (simp; done)) only [e112_0, e112_1, e112_3, e112_6, e112_9, e112_11, e112_12, e112_13, e112_15, e112_17, e112_20, e112_21, e112_24, e112_25, e112_26, e112_29, e112_30, e112_31, e112_32, e112_35, e112_38, e112_39, e112_40, e112_43, e112_46, e112_47, e112_48, e112_51, e112_52, e112_55, eq_self, ne_a, ne_b, ne_c, Nat.reduceEqDiff, lt0, bnd_ok, psh_I, psh_L, psh_R, psh_U, gt_sr, gr_sr, sk_sr, nn_sr, ↓reduceIte, Int.toNat_natCast, Int.reduceToNat, e1, Int.reduceLT]
  | true =>
    rw [if_pos rfl, if_pos rfl, if_pos rfl]
    rw [hcan, if_pos rfl] at e1
    obtain ⟨p1, p2, p3⟩ := hc hcan
    have hfg : (plD d cn sg (-1)).2.2.2.2 = fog d (dt (plD d cn sg (-1)).2.2.2.2) (dla (plD d cn sg (-1)).2.2.2.2) := pl_fog sg (-1) cn cn (Nat.le_refl _) 0 0 (-6) d
    generalize plD d cn sg (-1) = R at *
    obtain ⟨f9, n29, n13, no⟩ := id p3
    obtain ⟨a1, a2, a3, a4, a5, a6, a7, a8, a9, a10⟩ := id h1
    generalize R.2.2.2.2 = e at *
    have L : run 112 14 [vR 24, vI 0] [] (sr σ1 25 (upto 0 (dt e) (dt d))) = some (vI R.2.2.1, sr (sr σ1 25 (upto 24 (dt e) (dt d))) 24 (ru (ru (gt σ1 24) 3 (lbD e : Int)) 9 0)) := by
      refine bk (P := fun k z => run 112 14 [vR 24, vI z] [] (sr σ1 25 (upto k (dt e) (dt d))) = some (vI R.2.2.1, sr (sr σ1 25 (upto 24 (dt e) (dt d))) 24 (ru (ru (gt σ1 24) 3 (lbD e : Int)) 9 0))) (n := 24) ?_ ?_
      · have n15 : ru (ru (gt σ1 24) 3 (lbD e : Int)) 9 0 15 = R.2.2.1 := by rw [ru_n _ _ (by decide), ru_n _ _ (by decide)]; exact p1
        rw [e112_14]
        simp (disch := first | assumption | omega | (exact shp_fok (by first | assumption | exact shp_sr _ _ (by assumption) | exact shp_sr _ _ (shp_sr _ _ (by assumption)) | exact shp_sr _ _ (shp_sr _ _ (shp_sr _ _ (by assumption)))) (by decide)) | (simp only [fok_sr, aok_sr]; first | assumption | (exact shp_fok (by first | assumption | exact shp_sr _ _ (by assumption) | exact shp_sr _ _ (shp_sr _ _ (by assumption)) | exact shp_sr _ _ (shp_sr _ _ (shp_sr _ _ (by assumption)))) (by decide))) | (refine shp_aok (by first | assumption | exact shp_sr _ _ (by assumption) | exact shp_sr _ _ (shp_sr _ _ (by assumption)) | exact shp_sr _ _ (shp_sr _ _ (shp_sr _ _ (by assumption)))) rfl rfl ?_ ?_ <;> omega) | (exact shp_sr _ _ (by assumption)) | (exact shp_sr _ _ (shp_sr _ _ (by assumption))) | (exact shp_sr _ _ (shp_sr _ _ (shp_sr _ _ (by assumption)))) | (left; assumption) | (exact b2i_or _) | (simp; done)) only [e112_15, e112_17, e112_20, e112_21, e112_24, e112_25, e112_26, e112_29, e112_30, e112_31, e112_32, e112_35, e112_38, e112_39, e112_40, e112_43, e112_46, e112_47, e112_48, e112_51, e112_52, e112_55, eq_self, ne_a, ne_b, ne_c, Nat.reduceEqDiff, lt0, bnd_ok, psh_I, psh_L, psh_R, psh_U, gt_sr, gr_sr, sk_sr, nn_sr, ↓reduceIte, Int.toNat_natCast, Int.reduceToNat, Int.cast_ofNat_Int, Int.reduceLT, n13, n15, sr_sr]
      · intro k hk hk' ih
        have h4 : (k : Int) < 24 := hk'
        have w5 : wr ((k : Int) + 1) = (k : Int) + 1 := wr_id (by omega) (by omega)
        have u := upto_s k (dt e) (dt d) (dt e k) rfl
        rw [e112_14]
        simp (disch := first | assumption | omega | (exact shp_fok (by first | assumption | exact shp_sr _ _ (by assumption) | exact shp_sr _ _ (shp_sr _ _ (by assumption)) | exact shp_sr _ _ (shp_sr _ _ (shp_sr _ _ (by assumption)))) (by decide)) | (simp only [fok_sr, aok_sr]; first | assumption | (exact shp_fok (by first | assumption | exact shp_sr _ _ (by assumption) | exact shp_sr _ _ (shp_sr _ _ (by assumption)) | exact shp_sr _ _ (shp_sr _ _ (shp_sr _ _ (by assumption)))) (by decide))) | (refine shp_aok (by first | assumption | exact shp_sr _ _ (by assumption) | exact shp_sr _ _ (shp_sr _ _ (by assumption)) | exact shp_sr _ _ (shp_sr _ _ (shp_sr _ _ (by assumption)))) rfl rfl ?_ ?_ <;> omega) | (exact shp_sr _ _ (by assumption)) | (exact shp_sr _ _ (shp_sr _ _ (by assumption))) | (exact shp_sr _ _ (shp_sr _ _ (shp_sr _ _ (by assumption)))) | (left; assumption) | (exact b2i_or _) | (simp; done)) only [e112_15, e112_17, e112_20, e112_21, e112_24, e112_25, e112_26, e112_29, e112_30, e112_31, e112_32, e112_35, e112_38, e112_39, e112_40, e112_43, e112_46, e112_47, e112_48, e112_51, e112_52, e112_55, eq_self, ne_a, ne_b, ne_c, Nat.reduceEqDiff, lt0, bnd_ok, psh_I, psh_L, psh_R, psh_U, gt_sr, gr_sr, sk_sr, nn_sr, ↓reduceIte, Int.toNat_natCast, Int.reduceToNat, h4, g24_2, g24_11, n29, u, w5, sr_sr]
        exact ih
    rw [upto_0, sr_self σ1 25 _ a5.symm, upto_z (zr_mo (ok_zt no) (dn24 no)) (zr_mo (ok_zt a9) (dn24 a9))] at L
    have cA : chg SMo σ1 (sr (sr σ1 25 (dt e)) 24 (ru (ru (gt σ1 24) 3 (lbD e : Int)) 9 0)) := chg_sr (chg_sr (chg_rf _ _) (by decide)) (by decide)
    refine ⟨_, ?_, chg_tr (sch_SMo c1) cA (fun _ h => h), ⟨s1, ?_, ?_, ?_, ?_, ?_⟩, ?_, ?_, ?_, ?_, ?_, ?_, okp_0 _, no, ?_⟩
    · simp (disch := first | assumption | omega | (exact shp_fok (by first | assumption | exact shp_sr _ _ (by assumption) | exact shp_sr _ _ (shp_sr _ _ (by assumption)) | exact shp_sr _ _ (shp_sr _ _ (shp_sr _ _ (by assumption)))) (by decide)) | (simp only [fok_sr, aok_sr]; first | assumption | (exact shp_fok (by first | assumption | exact shp_sr _ _ (by assumption) | exact shp_sr _ _ (shp_sr _ _ (by assumption)) | exact shp_sr _ _ (shp_sr _ _ (shp_sr _ _ (by assumption)))) (by decide))) | (refine shp_aok (by first | assumption | exact shp_sr _ _ (by assumption) | exact shp_sr _ _ (shp_sr _ _ (by assumption)) | exact shp_sr _ _ (shp_sr _ _ (shp_sr _ _ (by assumption)))) rfl rfl ?_ ?_ <;> omega) | (exact shp_sr _ _ (by assumption)) | (exact shp_sr _ _ (shp_sr _ _ (by assumption))) | (exact shp_sr _ _ (shp_sr _ _ (shp_sr _ _ (by assumption)))) | (left; assumption) | (exact b2i_or _) | (simp; done)) only [e112_0, e112_1, e112_3, e112_6, e112_9, e112_11, e112_12, e112_13, eq_self, ne_a, ne_b, ne_c, Nat.reduceEqDiff, lt0, bnd_ok, psh_I, psh_L, psh_R, psh_U, gt_sr, gr_sr, sk_sr, nn_sr, ↓reduceIte, Int.toNat_natCast, Int.reduceToNat, e1, Int.reduceLT]
      exact L
    · rw [gt_e, ru_n _ _ (by decide), ru_n _ _ (by decide), hfg]; exact a1.2.1
    · rw [gt_e, ru_n _ _ (by decide), ru_n _ _ (by decide), hfg]; exact a1.2.2.1
    · rw [gt_e, ru_n _ _ (by decide), ru_n _ _ (by decide), hfg]; exact a1.2.2.2.1
    · rw [gt_e, ru_n _ _ (by decide), ru_n _ _ (by decide), hfg]; exact a1.2.2.2.2.1
    · rw [gt_n _ _ (by decide), gt_n _ _ (by decide), hfg]; exact a1.2.2.2.2.2
    · rw [gt_e, ru_n _ _ (by decide), ru_e]
    · rw [gt_e, ru_n _ _ (by decide), ru_n _ _ (by decide), hfg]; exact a3
    · rw [gt_e, ru_e]; rfl
    · rw [gt_n _ _ (by decide), gt_e]
    · rw [hfg]; exact a6
    · rw [gt_n _ _ (by decide), gt_n _ _ (by decide)]; exact a7
    · rw [gt_n _ _ (by decide), gt_n _ _ (by decide)]; exact a10
set_option maxRecDepth 100000 in
set_option maxHeartbeats 4000000 in
theorem m_Mstate (c w : Int) (d : Dat) (cn : Nat) (sg : Nat → Int) : mla 114 [vR 24, vI c, vI w] d cn sg (vI (x_state d c w)) d cn sg := by
  intro σ h
  obtain ⟨a1, a2, a3, a4, a5, a6, a7, a8, a9, a10⟩ := id h
  have h24 := dn24 a9
  have hs := a1.1
  have hh := m_isCell a1 a9 c
  refine ⟨σ, ?_, mdl_rf h⟩
  unfold x_state
  by_cases h1 : 0 ≤ c ∧ c < (dn_ d : Nat)
  · rw [if_pos h1] at hh ⊢
    obtain ⟨c, rfl⟩ := nat_of h1.1
    rw [Int.toNat_natCast]
    have hlb : lbD d < 2147483648 := lb_lt h24 _
    have hbit := bit_N (a := lbD d) (k := c) hlb (by omega)
    have hbt : bt (lbD d) c = dla d c := bt_lb (ok_l a9) (by omega) h24
    by_cases h2 : 0 ≤ w ∧ w ≤ 1
    · rw [if_pos h2]
      obtain rfl | rfl : w = 0 ∨ w = 1 := by omega
      · simp (disch := first | assumption | omega | (exact shp_fok (by first | assumption | exact shp_sr _ _ (by assumption) | exact shp_sr _ _ (shp_sr _ _ (by assumption)) | exact shp_sr _ _ (shp_sr _ _ (shp_sr _ _ (by assumption)))) (by decide)) | (simp only [fok_sr, aok_sr]; first | assumption | (exact shp_fok (by first | assumption | exact shp_sr _ _ (by assumption) | exact shp_sr _ _ (shp_sr _ _ (by assumption)) | exact shp_sr _ _ (shp_sr _ _ (shp_sr _ _ (by assumption)))) (by decide))) | (refine shp_aok (by first | assumption | exact shp_sr _ _ (by assumption) | exact shp_sr _ _ (shp_sr _ _ (by assumption)) | exact shp_sr _ _ (shp_sr _ _ (shp_sr _ _ (by assumption)))) rfl rfl ?_ ?_ <;> omega) | (exact shp_sr _ _ (by assumption)) | (exact shp_sr _ _ (shp_sr _ _ (by assumption))) | (exact shp_sr _ _ (shp_sr _ _ (shp_sr _ _ (by assumption)))) | (left; assumption) | (exact b2i_or _) | (simp; done)) only [e114_0, e114_1, e114_2, e114_5, e114_8, e114_9, e114_10, e114_11, e114_14, e114_15, e114_18, e114_19, e114_20, e114_23, e114_24, e114_25, e114_28, e114_29, e114_32, e114_33, e114_34, e114_35, e114_36, e114_39, e114_41, eq_self, ne_a, ne_b, ne_c, Nat.reduceEqDiff, lt0, bnd_ok, psh_I, psh_L, psh_R, psh_U, gt_sr, gr_sr, sk_sr, nn_sr, ↓reduceIte, Int.toNat_natCast, Int.reduceToNat, hh, g24_2, a5, Int.reduceEq]
      · simp (disch := first | assumption | omega | (exact shp_fok (by first | assumption | exact shp_sr _ _ (by assumption) | exact shp_sr _ _ (shp_sr _ _ (by assumption)) | exact shp_sr _ _ (shp_sr _ _ (shp_sr _ _ (by assumption)))) (by decide)) | (simp only [fok_sr, aok_sr]; first | assumption | (exact shp_fok (by first | assumption | exact shp_sr _ _ (by assumption) | exact shp_sr _ _ (shp_sr _ _ (by assumption)) | exact shp_sr _ _ (shp_sr _ _ (shp_sr _ _ (by assumption)))) (by decide))) | (refine shp_aok (by first | assumption | exact shp_sr _ _ (by assumption) | exact shp_sr _ _ (shp_sr _ _ (by assumption)) | exact shp_sr _ _ (shp_sr _ _ (shp_sr _ _ (by assumption)))) rfl rfl ?_ ?_ <;> omega) | (exact shp_sr _ _ (by assumption)) | (exact shp_sr _ _ (shp_sr _ _ (by assumption))) | (exact shp_sr _ _ (shp_sr _ _ (shp_sr _ _ (by assumption)))) | (left; assumption) | (exact b2i_or _) | (simp; done)) only [e114_0, e114_1, e114_2, e114_5, e114_8, e114_9, e114_10, e114_11, e114_14, e114_15, e114_18, e114_19, e114_20, e114_23, e114_24, e114_25, e114_28, e114_29, e114_32, e114_33, e114_34, e114_35, e114_36, e114_39, e114_41, eq_self, ne_a, ne_b, ne_c, Nat.reduceEqDiff, lt0, bnd_ok, psh_I, psh_L, psh_R, psh_U, gt_sr, gr_sr, sk_sr, nn_sr, ↓reduceIte, Int.toNat_natCast, Int.reduceToNat, hh, a2, hbit, hbt, Int.reduceEq]
    · rw [if_neg h2]
      have h3 : ¬ w = 0 := by omega
      have h4 : ¬ w = 1 := by omega
      simp (disch := first | assumption | omega | (exact shp_fok (by first | assumption | exact shp_sr _ _ (by assumption) | exact shp_sr _ _ (shp_sr _ _ (by assumption)) | exact shp_sr _ _ (shp_sr _ _ (shp_sr _ _ (by assumption)))) (by decide)) | (simp only [fok_sr, aok_sr]; first | assumption | (exact shp_fok (by first | assumption | exact shp_sr _ _ (by assumption) | exact shp_sr _ _ (shp_sr _ _ (by assumption)) | exact shp_sr _ _ (shp_sr _ _ (shp_sr _ _ (by assumption)))) (by decide))) | (refine shp_aok (by first | assumption | exact shp_sr _ _ (by assumption) | exact shp_sr _ _ (shp_sr _ _ (by assumption)) | exact shp_sr _ _ (shp_sr _ _ (shp_sr _ _ (by assumption)))) rfl rfl ?_ ?_ <;> omega) | (exact shp_sr _ _ (by assumption)) | (exact shp_sr _ _ (shp_sr _ _ (by assumption))) | (exact shp_sr _ _ (shp_sr _ _ (shp_sr _ _ (by assumption)))) | (left; assumption) | (exact b2i_or _) | (simp; done)) only [e114_0, e114_1, e114_2, e114_5, e114_8, e114_9, e114_10, e114_11, e114_14, e114_15, e114_18, e114_19, e114_20, e114_23, e114_24, e114_25, e114_28, e114_29, e114_32, e114_33, e114_34, e114_35, e114_36, e114_39, e114_41, eq_self, ne_a, ne_b, ne_c, Nat.reduceEqDiff, lt0, bnd_ok, psh_I, psh_L, psh_R, psh_U, gt_sr, gr_sr, sk_sr, nn_sr, ↓reduceIte, Int.toNat_natCast, Int.reduceToNat, hh, h3, h4, Int.reduceEq]
  · rw [if_neg h1] at hh ⊢
    simp (disch := first | assumption | omega | (exact shp_fok (by first | assumption | exact shp_sr _ _ (by assumption) | exact shp_sr _ _ (shp_sr _ _ (by assumption)) | exact shp_sr _ _ (shp_sr _ _ (shp_sr _ _ (by assumption)))) (by decide)) | (simp only [fok_sr, aok_sr]; first | assumption | (exact shp_fok (by first | assumption | exact shp_sr _ _ (by assumption) | exact shp_sr _ _ (shp_sr _ _ (by assumption)) | exact shp_sr _ _ (shp_sr _ _ (shp_sr _ _ (by assumption)))) (by decide))) | (refine shp_aok (by first | assumption | exact shp_sr _ _ (by assumption) | exact shp_sr _ _ (shp_sr _ _ (by assumption)) | exact shp_sr _ _ (shp_sr _ _ (shp_sr _ _ (by assumption)))) rfl rfl ?_ ?_ <;> omega) | (exact shp_sr _ _ (by assumption)) | (exact shp_sr _ _ (shp_sr _ _ (by assumption))) | (exact shp_sr _ _ (shp_sr _ _ (shp_sr _ _ (by assumption)))) | (left; assumption) | (exact b2i_or _) | (simp; done)) only [e114_0, e114_1, e114_2, e114_5, e114_8, e114_9, e114_10, e114_11, e114_14, e114_15, e114_18, e114_19, e114_20, e114_23, e114_24, e114_25, e114_28, e114_29, e114_32, e114_33, e114_34, e114_35, e114_36, e114_39, e114_41, eq_self, ne_a, ne_b, ne_c, Nat.reduceEqDiff, lt0, bnd_ok, psh_I, psh_L, psh_R, psh_U, gt_sr, gr_sr, sk_sr, nn_sr, ↓reduceIte, Int.toNat_natCast, Int.reduceToNat, hh]
set_option maxRecDepth 100000 in
set_option maxHeartbeats 4000000 in
theorem m_Mbehind (c w : Int) (d : Dat) (cn : Nat) (sg : Nat → Int) : mla 115 [vR 24, vI c, vI w] d cn sg (vI (x_behind d cn sg c w)) d cn sg := by
  intro σ h
  obtain ⟨a1, a2, a3, a4, a5, a6, a7, a8, a9, a10⟩ := id h
  have h24 := dn24 a9
  have hs := a1.1
  have hh := m_isCell a1 a9 c
  unfold x_behind
  by_cases h1 : 0 ≤ c ∧ c < (dn_ d : Nat)
  · rw [if_pos h1] at hh ⊢
    obtain ⟨c, rfl⟩ := nat_of h1.1
    rw [Int.toNat_natCast]
    by_cases h2 : 0 ≤ w ∧ w ≤ 1
    · rw [if_pos h2]
      obtain ⟨σ1, e1, c1, hcs, hc⟩ := m_barOfNight h (w := -6) (Or.inl rfl)
      rw [wtM_6] at e1 hc
      have s1 := hcs.1.1
      refine ⟨σ1, ?_, sch_SMo c1, hcs⟩
      cases hcan : can d cn sg (-1) with
      | false =>
        rw [hcan, if_neg Bool.false_ne_true] at e1
        rw [if_neg Bool.false_ne_true]
        simp (disch := first | assumption | omega | (exact shp_fok (by first | assumption | exact shp_sr _ _ (by assumption) | exact shp_sr _ _ (shp_sr _ _ (by assumption)) | exact shp_sr _ _ (shp_sr _ _ (shp_sr _ _ (by assumption)))) (by decide)) | (simp only [fok_sr, aok_sr]; first | assumption | (exact shp_fok (by first | assumption | exact shp_sr _ _ (by assumption) | exact shp_sr _ _ (shp_sr _ _ (by assumption)) | exact shp_sr _ _ (shp_sr _ _ (shp_sr _ _ (by assumption)))) (by decide))) | (refine shp_aok (by first | assumption | exact shp_sr _ _ (by assumption) | exact shp_sr _ _ (shp_sr _ _ (by assumption)) | exact shp_sr _ _ (shp_sr _ _ (shp_sr _ _ (by assumption)))) rfl rfl ?_ ?_ <;> omega) | (exact shp_sr _ _ (by assumption)) | (exact shp_sr _ _ (shp_sr _ _ (by assumption))) | (exact shp_sr _ _ (shp_sr _ _ (shp_sr _ _ (by assumption)))) | (left; assumption) | (exact b2i_or _) | (simp; done)) only [e115_0, e115_1, e115_2, e115_5, e115_8, e115_9, e115_10, e115_11, e115_12, e115_13, e115_16, e115_19, e115_21, e115_22, e115_23, e115_25, e115_28, e115_31, e115_33, e115_34, e115_35, e115_38, e115_39, e115_42, e115_43, e115_44, e115_47, e115_48, e115_51, e115_52, e115_53, e115_54, e115_55, eq_self, ne_a, ne_b, ne_c, Nat.reduceEqDiff, lt0, bnd_ok, psh_I, psh_L, psh_R, psh_U, gt_sr, gr_sr, sk_sr, nn_sr, ↓reduceIte, Int.toNat_natCast, Int.reduceToNat, hh, m_in, if_pos h2, e1, Int.reduceEq, Int.reduceLT]
      | true =>
        rw [hcan, if_pos rfl] at e1
        rw [if_pos rfl]
        obtain ⟨p1, p2, p3⟩ := hc hcan
        have hfg : (plD d cn sg (-1)).2.2.2.2 = fog d (dt (plD d cn sg (-1)).2.2.2.2) (dla (plD d cn sg (-1)).2.2.2.2) := pl_fog sg (-1) cn cn (Nat.le_refl _) 0 0 (-6) d
        generalize plD d cn sg (-1) = R at *
        generalize R.2.2.2.2 = e at *
        have hde : dn_ e = dn_ d := by rw [hfg]; rfl
        obtain ⟨f9, n29, n13, no⟩ := id p3
        have hlb : lbD e < 2147483648 := lb_lt (dn24 no) _
        have hbit := bit_N (a := lbD e) (k := c) hlb (by omega)
        have hbt : bt (lbD e) c = dla e c := bt_lb (ok_l no) (by omega) (dn24 no)
        obtain rfl | rfl : w = 0 ∨ w = 1 := by omega
        · simp (disch := first | assumption | omega | (exact shp_fok (by first | assumption | exact shp_sr _ _ (by assumption) | exact shp_sr _ _ (shp_sr _ _ (by assumption)) | exact shp_sr _ _ (shp_sr _ _ (shp_sr _ _ (by assumption)))) (by decide)) | (simp only [fok_sr, aok_sr]; first | assumption | (exact shp_fok (by first | assumption | exact shp_sr _ _ (by assumption) | exact shp_sr _ _ (shp_sr _ _ (by assumption)) | exact shp_sr _ _ (shp_sr _ _ (shp_sr _ _ (by assumption)))) (by decide))) | (refine shp_aok (by first | assumption | exact shp_sr _ _ (by assumption) | exact shp_sr _ _ (shp_sr _ _ (by assumption)) | exact shp_sr _ _ (shp_sr _ _ (shp_sr _ _ (by assumption)))) rfl rfl ?_ ?_ <;> omega) | (exact shp_sr _ _ (by assumption)) | (exact shp_sr _ _ (shp_sr _ _ (by assumption))) | (exact shp_sr _ _ (shp_sr _ _ (shp_sr _ _ (by assumption)))) | (left; assumption) | (exact b2i_or _) | (simp; done)) only [e115_0, e115_1, e115_2, e115_5, e115_8, e115_9, e115_10, e115_11, e115_12, e115_13, e115_16, e115_19, e115_21, e115_22, e115_23, e115_25, e115_28, e115_31, e115_33, e115_34, e115_35, e115_38, e115_39, e115_42, e115_43, e115_44, e115_47, e115_48, e115_51, e115_52, e115_53, e115_54, e115_55, eq_self, ne_a, ne_b, ne_c, Nat.reduceEqDiff, lt0, bnd_ok, psh_I, psh_L, psh_R, psh_U, gt_sr, gr_sr, sk_sr, nn_sr, ↓reduceIte, Int.toNat_natCast, Int.reduceToNat, hh, m_in, if_pos h2, e1, g24_11, n29, Int.reduceEq, Int.reduceLT, Int.reduceLE, and_self]
        · simp (disch := first | assumption | omega | (exact shp_fok (by first | assumption | exact shp_sr _ _ (by assumption) | exact shp_sr _ _ (shp_sr _ _ (by assumption)) | exact shp_sr _ _ (shp_sr _ _ (shp_sr _ _ (by assumption)))) (by decide)) | (simp only [fok_sr, aok_sr]; first | assumption | (exact shp_fok (by first | assumption | exact shp_sr _ _ (by assumption) | exact shp_sr _ _ (shp_sr _ _ (by assumption)) | exact shp_sr _ _ (shp_sr _ _ (shp_sr _ _ (by assumption)))) (by decide))) | (refine shp_aok (by first | assumption | exact shp_sr _ _ (by assumption) | exact shp_sr _ _ (shp_sr _ _ (by assumption)) | exact shp_sr _ _ (shp_sr _ _ (shp_sr _ _ (by assumption)))) rfl rfl ?_ ?_ <;> omega) | (exact shp_sr _ _ (by assumption)) | (exact shp_sr _ _ (shp_sr _ _ (by assumption))) | (exact shp_sr _ _ (shp_sr _ _ (shp_sr _ _ (by assumption)))) | (left; assumption) | (exact b2i_or _) | (simp; done)) only [e115_0, e115_1, e115_2, e115_5, e115_8, e115_9, e115_10, e115_11, e115_12, e115_13, e115_16, e115_19, e115_21, e115_22, e115_23, e115_25, e115_28, e115_31, e115_33, e115_34, e115_35, e115_38, e115_39, e115_42, e115_43, e115_44, e115_47, e115_48, e115_51, e115_52, e115_53, e115_54, e115_55, eq_self, ne_a, ne_b, ne_c, Nat.reduceEqDiff, lt0, bnd_ok, psh_I, psh_L, psh_R, psh_U, gt_sr, gr_sr, sk_sr, nn_sr, ↓reduceIte, Int.toNat_natCast, Int.reduceToNat, hh, m_in, if_pos h2, e1, n13, hbit, hbt, Int.reduceEq, Int.reduceLT, Int.reduceLE, and_self]
    · rw [if_neg h2]
      refine ⟨σ, ?_, mdl_rf h⟩
      simp (disch := first | assumption | omega | (exact shp_fok (by first | assumption | exact shp_sr _ _ (by assumption) | exact shp_sr _ _ (shp_sr _ _ (by assumption)) | exact shp_sr _ _ (shp_sr _ _ (shp_sr _ _ (by assumption)))) (by decide)) | (simp only [fok_sr, aok_sr]; first | assumption | (exact shp_fok (by first | assumption | exact shp_sr _ _ (by assumption) | exact shp_sr _ _ (shp_sr _ _ (by assumption)) | exact shp_sr _ _ (shp_sr _ _ (shp_sr _ _ (by assumption)))) (by decide))) | (refine shp_aok (by first | assumption | exact shp_sr _ _ (by assumption) | exact shp_sr _ _ (shp_sr _ _ (by assumption)) | exact shp_sr _ _ (shp_sr _ _ (shp_sr _ _ (by assumption)))) rfl rfl ?_ ?_ <;> omega) | (exact shp_sr _ _ (by assumption)) | (exact shp_sr _ _ (shp_sr _ _ (by assumption))) | (exact shp_sr _ _ (shp_sr _ _ (shp_sr _ _ (by assumption)))) | (left; assumption) | (exact b2i_or _) | (simp; done)) only [e115_0, e115_1, e115_2, e115_5, e115_8, e115_9, e115_10, e115_11, e115_12, e115_13, e115_16, e115_19, e115_21, e115_22, e115_23, e115_25, e115_28, e115_31, e115_33, e115_34, e115_35, e115_38, e115_39, e115_42, e115_43, e115_44, e115_47, e115_48, e115_51, e115_52, e115_53, e115_54, e115_55, eq_self, ne_a, ne_b, ne_c, Nat.reduceEqDiff, lt0, bnd_ok, psh_I, psh_L, psh_R, psh_U, gt_sr, gr_sr, sk_sr, nn_sr, ↓reduceIte, Int.toNat_natCast, Int.reduceToNat, hh, m_in, if_neg h2, Int.reduceEq]
  · rw [if_neg h1] at hh ⊢
    refine ⟨σ, ?_, mdl_rf h⟩
    simp (disch := first | assumption | omega | (exact shp_fok (by first | assumption | exact shp_sr _ _ (by assumption) | exact shp_sr _ _ (shp_sr _ _ (by assumption)) | exact shp_sr _ _ (shp_sr _ _ (shp_sr _ _ (by assumption)))) (by decide)) | (simp only [fok_sr, aok_sr]; first | assumption | (exact shp_fok (by first | assumption | exact shp_sr _ _ (by assumption) | exact shp_sr _ _ (shp_sr _ _ (by assumption)) | exact shp_sr _ _ (shp_sr _ _ (shp_sr _ _ (by assumption)))) (by decide))) | (refine shp_aok (by first | assumption | exact shp_sr _ _ (by assumption) | exact shp_sr _ _ (shp_sr _ _ (by assumption)) | exact shp_sr _ _ (shp_sr _ _ (shp_sr _ _ (by assumption)))) rfl rfl ?_ ?_ <;> omega) | (exact shp_sr _ _ (by assumption)) | (exact shp_sr _ _ (shp_sr _ _ (by assumption))) | (exact shp_sr _ _ (shp_sr _ _ (shp_sr _ _ (by assumption)))) | (left; assumption) | (exact b2i_or _) | (simp; done)) only [e115_0, e115_1, e115_2, e115_5, e115_8, e115_9, e115_10, e115_11, e115_12, e115_13, e115_16, e115_19, e115_21, e115_22, e115_23, e115_25, e115_28, e115_31, e115_33, e115_34, e115_35, e115_38, e115_39, e115_42, e115_43, e115_44, e115_47, e115_48, e115_51, e115_52, e115_53, e115_54, e115_55, eq_self, ne_a, ne_b, ne_c, Nat.reduceEqDiff, lt0, bnd_ok, psh_I, psh_L, psh_R, psh_U, gt_sr, gr_sr, sk_sr, nn_sr, ↓reduceIte, Int.toNat_natCast, Int.reduceToNat, hh]
set_option maxRecDepth 100000 in
set_option maxHeartbeats 4000000 in
theorem m_Mstands (s : Int) (d : Dat) (cn : Nat) (sg : Nat → Int) : mla 116 [vR 24, vI s] d cn sg (vI (x_stands d s)) d cn sg := by
  intro σ h
  have q1 := m_isShape h.1 h.2.2.2.2.2.2.2.2.1 s
  have hs := h.1.1
  unfold x_stands
  cases hS : isS d s with
  | false =>
    rw [hS] at q1
    refine ⟨σ, ?_, mdl_rf h⟩
    simp (disch := first | assumption | omega | (exact shp_fok (by first | assumption | exact shp_sr _ _ (by assumption) | exact shp_sr _ _ (shp_sr _ _ (by assumption)) | exact shp_sr _ _ (shp_sr _ _ (shp_sr _ _ (by assumption)))) (by decide)) | (simp only [fok_sr, aok_sr]; first | assumption | (exact shp_fok (by first | assumption | exact shp_sr _ _ (by assumption) | exact shp_sr _ _ (shp_sr _ _ (by assumption)) | exact shp_sr _ _ (shp_sr _ _ (shp_sr _ _ (by assumption)))) (by decide))) | (refine shp_aok (by first | assumption | exact shp_sr _ _ (by assumption) | exact shp_sr _ _ (shp_sr _ _ (by assumption)) | exact shp_sr _ _ (shp_sr _ _ (shp_sr _ _ (by assumption)))) rfl rfl ?_ ?_ <;> omega) | (exact shp_sr _ _ (by assumption)) | (exact shp_sr _ _ (shp_sr _ _ (by assumption))) | (exact shp_sr _ _ (shp_sr _ _ (shp_sr _ _ (by assumption)))) | (left; assumption) | (exact b2i_or _) | (simp; done)) only [e116_0, e116_1, e116_2, e116_5, e116_8, e116_9, e116_10, e116_11, e116_14, e116_15, e116_16, e116_19, e116_22, e116_23, e116_26, e116_27, eq_self, ne_a, ne_b, ne_c, Nat.reduceEqDiff, lt0, bnd_ok, psh_I, psh_L, psh_R, psh_U, gt_sr, gr_sr, sk_sr, nn_sr, ↓reduceIte, Int.toNat_natCast, Int.reduceToNat, q1, b2i_f, Bool.false_eq_true]
  | true =>
    rw [hS] at q1
    obtain ⟨s, rfl, hs4, -⟩ := isS_n hS
    rw [Int.toNat_natCast]
    obtain ⟨σ1, e1, c1, r1⟩ := m_asNow h
    have s1 := r1.1.1
    have q2 := m_standsNow r1 hs4
    refine ⟨σ1, ?_, sch_SMo c1, mdl_sch h c1 (nowR_z r1)⟩
    cases hh : hoD d s with
    | false =>
      rw [hh] at q2
      simp (disch := first | assumption | omega | (exact shp_fok (by first | assumption | exact shp_sr _ _ (by assumption) | exact shp_sr _ _ (shp_sr _ _ (by assumption)) | exact shp_sr _ _ (shp_sr _ _ (shp_sr _ _ (by assumption)))) (by decide)) | (simp only [fok_sr, aok_sr]; first | assumption | (exact shp_fok (by first | assumption | exact shp_sr _ _ (by assumption) | exact shp_sr _ _ (shp_sr _ _ (by assumption)) | exact shp_sr _ _ (shp_sr _ _ (shp_sr _ _ (by assumption)))) (by decide))) | (refine shp_aok (by first | assumption | exact shp_sr _ _ (by assumption) | exact shp_sr _ _ (shp_sr _ _ (by assumption)) | exact shp_sr _ _ (shp_sr _ _ (shp_sr _ _ (by assumption)))) rfl rfl ?_ ?_ <;> omega) | (exact shp_sr _ _ (by assumption)) | (exact shp_sr _ _ (shp_sr _ _ (by assumption))) | (exact shp_sr _ _ (shp_sr _ _ (shp_sr _ _ (by assumption)))) | (left; assumption) | (exact b2i_or _) | (simp; done)) only [e116_0, e116_1, e116_2, e116_5, e116_8, e116_9, e116_10, e116_11, e116_14, e116_15, e116_16, e116_19, e116_22, e116_23, e116_26, e116_27, eq_self, ne_a, ne_b, ne_c, Nat.reduceEqDiff, lt0, bnd_ok, psh_I, psh_L, psh_R, psh_U, gt_sr, gr_sr, sk_sr, nn_sr, ↓reduceIte, Int.toNat_natCast, Int.reduceToNat, q1, e1, q2, b2i_f, b2i_t, Int.reduceEq]
    | true =>
      rw [hh] at q2
      simp (disch := first | assumption | omega | (exact shp_fok (by first | assumption | exact shp_sr _ _ (by assumption) | exact shp_sr _ _ (shp_sr _ _ (by assumption)) | exact shp_sr _ _ (shp_sr _ _ (shp_sr _ _ (by assumption)))) (by decide)) | (simp only [fok_sr, aok_sr]; first | assumption | (exact shp_fok (by first | assumption | exact shp_sr _ _ (by assumption) | exact shp_sr _ _ (shp_sr _ _ (by assumption)) | exact shp_sr _ _ (shp_sr _ _ (shp_sr _ _ (by assumption)))) (by decide))) | (refine shp_aok (by first | assumption | exact shp_sr _ _ (by assumption) | exact shp_sr _ _ (shp_sr _ _ (by assumption)) | exact shp_sr _ _ (shp_sr _ _ (shp_sr _ _ (by assumption)))) rfl rfl ?_ ?_ <;> omega) | (exact shp_sr _ _ (by assumption)) | (exact shp_sr _ _ (shp_sr _ _ (by assumption))) | (exact shp_sr _ _ (shp_sr _ _ (shp_sr _ _ (by assumption)))) | (left; assumption) | (exact b2i_or _) | (simp; done)) only [e116_0, e116_1, e116_2, e116_5, e116_8, e116_9, e116_10, e116_11, e116_14, e116_15, e116_16, e116_19, e116_22, e116_23, e116_26, e116_27, eq_self, ne_a, ne_b, ne_c, Nat.reduceEqDiff, lt0, bnd_ok, psh_I, psh_L, psh_R, psh_U, gt_sr, gr_sr, sk_sr, nn_sr, ↓reduceIte, Int.toNat_natCast, Int.reduceToNat, q1, e1, q2, b2i_f, b2i_t, Int.reduceEq]
set_option maxRecDepth 100000 in
set_option maxHeartbeats 4000000 in
theorem m_Mlost (s : Int) (d : Dat) (cn : Nat) (sg : Nat → Int) : mla 118 [vR 24, vI s] d cn sg (vI (x_lost d cn sg s)) d cn sg := by
  intro σ h
  have q1 := m_isShape h.1 h.2.2.2.2.2.2.2.2.1 s
  have hs := h.1.1
  unfold x_lost
  cases hS : isS d s with
  | false =>
    rw [hS] at q1
    refine ⟨σ, ?_, mdl_rf h⟩
    simp (disch := first | assumption | omega | (exact shp_fok (by first | assumption | exact shp_sr _ _ (by assumption) | exact shp_sr _ _ (shp_sr _ _ (by assumption)) | exact shp_sr _ _ (shp_sr _ _ (shp_sr _ _ (by assumption)))) (by decide)) | (simp only [fok_sr, aok_sr]; first | assumption | (exact shp_fok (by first | assumption | exact shp_sr _ _ (by assumption) | exact shp_sr _ _ (shp_sr _ _ (by assumption)) | exact shp_sr _ _ (shp_sr _ _ (shp_sr _ _ (by assumption)))) (by decide))) | (refine shp_aok (by first | assumption | exact shp_sr _ _ (by assumption) | exact shp_sr _ _ (shp_sr _ _ (by assumption)) | exact shp_sr _ _ (shp_sr _ _ (shp_sr _ _ (by assumption)))) rfl rfl ?_ ?_ <;> omega) | (exact shp_sr _ _ (by assumption)) | (exact shp_sr _ _ (shp_sr _ _ (by assumption))) | (exact shp_sr _ _ (shp_sr _ _ (shp_sr _ _ (by assumption)))) | (left; assumption) | (exact b2i_or _) | (simp; done)) only [e118_0, e118_1, e118_2, e118_5, e118_8, e118_9, e118_10, e118_11, e118_12, e118_15, e118_18, e118_20, e118_23, e118_24, e118_27, eq_self, ne_a, ne_b, ne_c, Nat.reduceEqDiff, lt0, bnd_ok, psh_I, psh_L, psh_R, psh_U, gt_sr, gr_sr, sk_sr, nn_sr, ↓reduceIte, Int.toNat_natCast, Int.reduceToNat, q1, b2i_f, Bool.false_eq_true]
  | true =>
    rw [hS] at q1
    obtain ⟨n, hn, hs4, -⟩ := isS_n hS
    obtain ⟨σ1, e1, c1, hcs, hc⟩ := m_barOfNight h (w := s) (Or.inr (by omega))
    have hwt : wtM s = s := by unfold wtM; rw [if_neg (by omega)]
    rw [hwt] at e1 hc
    have s1 := hcs.1.1
    refine ⟨σ1, ?_, sch_SMo c1, hcs⟩
    cases hcan : can d cn sg s with
    | false =>
      rw [hcan, if_neg Bool.false_ne_true] at e1
      simp (disch := first | assumption | omega | (exact shp_fok (by first | assumption | exact shp_sr _ _ (by assumption) | exact shp_sr _ _ (shp_sr _ _ (by assumption)) | exact shp_sr _ _ (shp_sr _ _ (shp_sr _ _ (by assumption)))) (by decide)) | (simp only [fok_sr, aok_sr]; first | assumption | (exact shp_fok (by first | assumption | exact shp_sr _ _ (by assumption) | exact shp_sr _ _ (shp_sr _ _ (by assumption)) | exact shp_sr _ _ (shp_sr _ _ (shp_sr _ _ (by assumption)))) (by decide))) | (refine shp_aok (by first | assumption | exact shp_sr _ _ (by assumption) | exact shp_sr _ _ (shp_sr _ _ (by assumption)) | exact shp_sr _ _ (shp_sr _ _ (shp_sr _ _ (by assumption)))) rfl rfl ?_ ?_ <;> omega) | (exact shp_sr _ _ (by assumption)) | (exact shp_sr _ _ (shp_sr _ _ (by assumption))) | (exact shp_sr _ _ (shp_sr _ _ (shp_sr _ _ (by assumption)))) | (left; assumption) | (exact b2i_or _) | (simp; done)) only [e118_0, e118_1, e118_2, e118_5, e118_8, e118_9, e118_10, e118_11, e118_12, e118_15, e118_18, e118_20, e118_23, e118_24, e118_27, eq_self, ne_a, ne_b, ne_c, Nat.reduceEqDiff, lt0, bnd_ok, psh_I, psh_L, psh_R, psh_U, gt_sr, gr_sr, sk_sr, nn_sr, ↓reduceIte, Int.toNat_natCast, Int.reduceToNat, q1, e1, b2i_t, Int.reduceEq, Int.reduceLT, Bool.false_eq_true]
    | true =>
      rw [hcan, if_pos rfl] at e1
      obtain ⟨p1, p2, p3⟩ := hc hcan
      simp (disch := first | assumption | omega | (exact shp_fok (by first | assumption | exact shp_sr _ _ (by assumption) | exact shp_sr _ _ (shp_sr _ _ (by assumption)) | exact shp_sr _ _ (shp_sr _ _ (shp_sr _ _ (by assumption)))) (by decide)) | (simp only [fok_sr, aok_sr]; first | assumption | (exact shp_fok (by first | assumption | exact shp_sr _ _ (by assumption) | exact shp_sr _ _ (shp_sr _ _ (by assumption)) | exact shp_sr _ _ (shp_sr _ _ (shp_sr _ _ (by assumption)))) (by decide))) | (refine shp_aok (by first | assumption | exact shp_sr _ _ (by assumption) | exact shp_sr _ _ (shp_sr _ _ (by assumption)) | exact shp_sr _ _ (shp_sr _ _ (shp_sr _ _ (by assumption)))) rfl rfl ?_ ?_ <;> omega) | (exact shp_sr _ _ (by assumption)) | (exact shp_sr _ _ (shp_sr _ _ (by assumption))) | (exact shp_sr _ _ (shp_sr _ _ (shp_sr _ _ (by assumption)))) | (left; assumption) | (exact b2i_or _) | (simp; done)) only [e118_0, e118_1, e118_2, e118_5, e118_8, e118_9, e118_10, e118_11, e118_12, e118_15, e118_18, e118_20, e118_23, e118_24, e118_27, eq_self, ne_a, ne_b, ne_c, Nat.reduceEqDiff, lt0, bnd_ok, psh_I, psh_L, psh_R, psh_U, gt_sr, gr_sr, sk_sr, nn_sr, ↓reduceIte, Int.toNat_natCast, Int.reduceToNat, q1, e1, p2, b2i_t, Int.reduceEq, Int.reduceLT]
