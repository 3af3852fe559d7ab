/-! THE MODEL: an hour passes -/
theorem nowR_fix {S : List Nat} {σ σ' : St} {e : Dat} (h : mfx σ e) (hc : chg S σ σ') (hS : 24 ∉ S ∧ 26 ∉ S) : mfx σ' e := by
  obtain ⟨hs, d0, d1, d4, d5, hw⟩ := h
  unfold mfx
  rw [chg_gt hc hS.1, chg_gt hc hS.2]
  exact ⟨shp_chg hc hs, d0, d1, d4, d5, hw⟩
set_option maxRecDepth 100000 in
set_option maxHeartbeats 4000000 in
/-- one cell's loss -/
theorem m_passA {σ : St} {e : Dat} (h : mfx σ e) (ho : okd e) (hlit : gt σ 24 13 = (lbD e : Int)) {c : Nat} (hc : c < dn_ e) {t : Nat → Int} (ht : 0 ≤ t c ∧ t c ≤ 9) (kd : Int) (q3 q4 q5 : AV) :
    ∃ q3' q4' q5', run 108 2 [vR 24, vI kd, vI (c : Int), q3, q4, q5] [] (sr σ 29 t) = run 108 2 [vR 24, vI kd, vI ((c : Int) + 1), q3', q4', q5'] [] (sr σ 29 (ru t c (mx (t c - dme e c)))) := by
  have h24 := dn24 ho
  have hl := ok_l ho
  have hlb : lbD e < 2147483648 := lb_lt h24 _
  have hlt := lsW_4 hl hc h24
  have hme : dme e c = mlt (dR e) (dC e) (dla e) c := by unfold dme upto; rw [if_pos (show c < dR e * dC e from hc)]
  have hmb := mlt_bd (R := dR e) (C := dC e) hl c
  have h' : mfx (sr σ 29 t) e := nowR_fix h (chg_sr (S := [29]) (chg_rf _ _) (by simp)) (by simp)
  have ec := m_cells h' ho
  have eb := fun (s : Int) hs => m_beside h' ho hc (s := s) hs
  have hs := h.1
  have w5 : wr ((c : Int) + 1) = (c : Int) + 1 := wr_id (by omega) (by omega)
  have lA : lsW (dR e) (dC e) (dla e) c 0 = if dla e c = 1 then 2 else 0 := rfl
  -- the four sides
  have inner : ∀ q5, ∃ q4' q5', run 108 30 [vR 24, vI kd, vI (c : Int), vI (lsW (dR e) (dC e) (dla e) c 0), vI 0, q5] [] (sr σ 29 t) = run 108 78 [vR 24, vI kd, vI (c : Int), vI (lsW (dR e) (dC e) (dla e) c 4), q4', q5'] [] (sr σ 29 t) := by
    refine bk (P := fun k z => ∀ q5, ∃ q4' q5', run 108 30 [vR 24, vI kd, vI (c : Int), vI (lsW (dR e) (dC e) (dla e) c k), vI z, q5] [] (sr σ 29 t) = run 108 78 [vR 24, vI kd, vI (c : Int), vI (lsW (dR e) (dC e) (dla e) c 4), q4', q5'] [] (sr σ 29 t)) (n := 4) ?_ ?_
    · intro q5
      refine ⟨vI 4, q5, ?_⟩
      rw [e108_30]
      simp (disch := first | assumption | omega | (exact shp_fok (by first | assumption | exact shp_sr _ _ (by assumption) | exact shp_sr _ _ (shp_sr _ _ (by assumption)) | exact shp_sr _ _ (shp_sr _ _ (shp_sr _ _ (by assumption)))) (by decide)) | (simp only [fok_sr, aok_sr]; first | assumption | (exact shp_fok (by first | assumption | exact shp_sr _ _ (by assumption) | exact shp_sr _ _ (shp_sr _ _ (by assumption)) | exact shp_sr _ _ (shp_sr _ _ (shp_sr _ _ (by assumption)))) (by decide))) | (refine shp_aok (by first | assumption | exact shp_sr _ _ (by assumption) | exact shp_sr _ _ (shp_sr _ _ (by assumption)) | exact shp_sr _ _ (shp_sr _ _ (shp_sr _ _ (by assumption)))) rfl rfl ?_ ?_ <;> omega) | (exact shp_sr _ _ (by assumption)) | (exact shp_sr _ _ (shp_sr _ _ (by assumption))) | (exact shp_sr _ _ (shp_sr _ _ (shp_sr _ _ (by assumption)))) | (left; assumption) | (exact b2i_or _) | (simp; done)) only [e108_32, e108_33, eq_self, ne_a, ne_b, ne_c, Nat.reduceEqDiff, lt0, bnd_ok, psh_I, psh_L, psh_R, psh_U, gt_sr, gr_sr, sk_sr, nn_sr, ↓reduceIte, Int.toNat_natCast, Int.reduceToNat, Int.cast_ofNat_Int, Int.reduceLT]
    · intro k hk hk' ih q5
      obtain ⟨q4', q5', ih⟩ := ih (vI (mbs (bsd (dR e) (dC e) c (k : Int))))
      refine ⟨q4', q5', ?_⟩
      rw [← ih]
      have h4 : (k : Int) < 4 := hk'
      have w6 : wr ((k : Int) + 1) = (k : Int) + 1 := wr_id (by omega) (by omega)
      have eb1 := eb (k : Int) (by omega)
      have e3 : lsW (dR e) (dC e) (dla e) c (k + 1) = if lsW (dR e) (dC e) (dla e) c k = 0 ∧ lv (dla e) (bsd (dR e) (dC e) c (k : Int)) = 1 then 1 else lsW (dR e) (dC e) (dla e) c k := rfl
      rw [e3]
      have h4' : ((k : Nat) : Int) < ((4 : Nat) : Int) := hk'
      clear ih e3 hlt lA
      generalize lsW (dR e) (dC e) (dla e) c k = A at *
      rw [e108_30]
      by_cases h5 : A = 0
      · rcases bsd_cases (R := dR e) (C := dC e) h24 c (k : Int) with ⟨g1, g2⟩ | ⟨j, hj, g1, g2⟩
        · rw [g2] at eb1 ⊢
          rw [g1, if_neg (fun h9 => absurd h9.2 (by rw [show lv (dla e) (-1) = 0 from rfl]; decide))]
          simp (disch := first | assumption | omega | (exact shp_fok (by first | assumption | exact shp_sr _ _ (by assumption) | exact shp_sr _ _ (shp_sr _ _ (by assumption)) | exact shp_sr _ _ (shp_sr _ _ (shp_sr _ _ (by assumption)))) (by decide)) | (simp only [fok_sr, aok_sr]; first | assumption | (exact shp_fok (by first | assumption | exact shp_sr _ _ (by assumption) | exact shp_sr _ _ (shp_sr _ _ (by assumption)) | exact shp_sr _ _ (shp_sr _ _ (shp_sr _ _ (by assumption)))) (by decide))) | (refine shp_aok (by first | assumption | exact shp_sr _ _ (by assumption) | exact shp_sr _ _ (shp_sr _ _ (by assumption)) | exact shp_sr _ _ (shp_sr _ _ (shp_sr _ _ (by assumption)))) rfl rfl ?_ ?_ <;> omega) | (exact shp_sr _ _ (by assumption)) | (exact shp_sr _ _ (shp_sr _ _ (by assumption))) | (exact shp_sr _ _ (shp_sr _ _ (shp_sr _ _ (by assumption)))) | (left; assumption) | (exact b2i_or _) | (simp; done)) only [e108_32, e108_33, e108_36, e108_37, e108_38, e108_40, e108_43, e108_45, e108_46, e108_49, e108_51, e108_54, e108_55, e108_58, e108_60, e108_63, e108_66, e108_67, e108_70, e108_71, e108_72, e108_75, eq_self, ne_a, ne_b, ne_c, Nat.reduceEqDiff, lt0, bnd_ok, psh_I, psh_L, psh_R, psh_U, gt_sr, gr_sr, sk_sr, nn_sr, ↓reduceIte, Int.toNat_natCast, Int.reduceToNat, h4, eb1, h5, w6, Int.reduceLT]
        · have hh := m_has (x := lbD e) (k := j) hlb (by unfold dn_ at h24; omega) (sr σ 29 t)
          have hb := lb_tb hl (n := dn_ e) (j := j) hj h24
          rw [show (laB (dla e) (dn_ e)) = lbD e from rfl] at hb
          rw [hb] at hh
          rw [g2] at eb1 ⊢
          rw [g1, lv_N (by unfold dn_ at h24; omega)]
          have hj0 : ¬ (j : Int) < 0 := by omega
          rcases hl j (by unfold dn_ at h24; omega) with h9 | h9
          · rw [h9] at hh ⊢
            rw [if_neg (by rintro ⟨-, h9⟩; exact absurd h9 (by decide))]
            simp (disch := first | assumption | omega | (exact shp_fok (by first | assumption | exact shp_sr _ _ (by assumption) | exact shp_sr _ _ (shp_sr _ _ (by assumption)) | exact shp_sr _ _ (shp_sr _ _ (shp_sr _ _ (by assumption)))) (by decide)) | (simp only [fok_sr, aok_sr]; first | assumption | (exact shp_fok (by first | assumption | exact shp_sr _ _ (by assumption) | exact shp_sr _ _ (shp_sr _ _ (by assumption)) | exact shp_sr _ _ (shp_sr _ _ (shp_sr _ _ (by assumption)))) (by decide))) | (refine shp_aok (by first | assumption | exact shp_sr _ _ (by assumption) | exact shp_sr _ _ (shp_sr _ _ (by assumption)) | exact shp_sr _ _ (shp_sr _ _ (shp_sr _ _ (by assumption)))) rfl rfl ?_ ?_ <;> omega) | (exact shp_sr _ _ (by assumption)) | (exact shp_sr _ _ (shp_sr _ _ (by assumption))) | (exact shp_sr _ _ (shp_sr _ _ (shp_sr _ _ (by assumption)))) | (left; assumption) | (exact b2i_or _) | (simp; done)) only [e108_32, e108_33, e108_36, e108_37, e108_38, e108_40, e108_43, e108_45, e108_46, e108_49, e108_51, e108_54, e108_55, e108_58, e108_60, e108_63, e108_66, e108_67, e108_70, e108_71, e108_72, e108_75, eq_self, ne_a, ne_b, ne_c, Nat.reduceEqDiff, lt0, bnd_ok, psh_I, psh_L, psh_R, psh_U, gt_sr, gr_sr, sk_sr, nn_sr, ↓reduceIte, Int.toNat_natCast, Int.reduceToNat, h4, eb1, h5, w6, hlit, hh, hj0, Int.reduceEq]
          · rw [h9] at hh ⊢
            rw [if_pos ⟨h5, rfl⟩]
            simp (disch := first | assumption | omega | (exact shp_fok (by first | assumption | exact shp_sr _ _ (by assumption) | exact shp_sr _ _ (shp_sr _ _ (by assumption)) | exact shp_sr _ _ (shp_sr _ _ (shp_sr _ _ (by assumption)))) (by decide)) | (simp only [fok_sr, aok_sr]; first | assumption | (exact shp_fok (by first | assumption | exact shp_sr _ _ (by assumption) | exact shp_sr _ _ (shp_sr _ _ (by assumption)) | exact shp_sr _ _ (shp_sr _ _ (shp_sr _ _ (by assumption)))) (by decide))) | (refine shp_aok (by first | assumption | exact shp_sr _ _ (by assumption) | exact shp_sr _ _ (shp_sr _ _ (by assumption)) | exact shp_sr _ _ (shp_sr _ _ (shp_sr _ _ (by assumption)))) rfl rfl ?_ ?_ <;> omega) | (exact shp_sr _ _ (by assumption)) | (exact shp_sr _ _ (shp_sr _ _ (by assumption))) | (exact shp_sr _ _ (shp_sr _ _ (shp_sr _ _ (by assumption)))) | (left; assumption) | (exact b2i_or _) | (simp; done)) only [e108_32, e108_33, e108_36, e108_37, e108_38, e108_40, e108_43, e108_45, e108_46, e108_49, e108_51, e108_54, e108_55, e108_58, e108_60, e108_63, e108_66, e108_67, e108_70, e108_71, e108_72, e108_75, eq_self, ne_a, ne_b, ne_c, Nat.reduceEqDiff, lt0, bnd_ok, psh_I, psh_L, psh_R, psh_U, gt_sr, gr_sr, sk_sr, nn_sr, ↓reduceIte, Int.toNat_natCast, Int.reduceToNat, h4, eb1, h5, w6, hlit, hh, hj0, Int.reduceEq]
      · rw [if_neg (fun h => h5 h.1)]
        simp (disch := first | assumption | omega | (exact shp_fok (by first | assumption | exact shp_sr _ _ (by assumption) | exact shp_sr _ _ (shp_sr _ _ (by assumption)) | exact shp_sr _ _ (shp_sr _ _ (shp_sr _ _ (by assumption)))) (by decide)) | (simp only [fok_sr, aok_sr]; first | assumption | (exact shp_fok (by first | assumption | exact shp_sr _ _ (by assumption) | exact shp_sr _ _ (shp_sr _ _ (by assumption)) | exact shp_sr _ _ (shp_sr _ _ (shp_sr _ _ (by assumption)))) (by decide))) | (refine shp_aok (by first | assumption | exact shp_sr _ _ (by assumption) | exact shp_sr _ _ (shp_sr _ _ (by assumption)) | exact shp_sr _ _ (shp_sr _ _ (shp_sr _ _ (by assumption)))) rfl rfl ?_ ?_ <;> omega) | (exact shp_sr _ _ (by assumption)) | (exact shp_sr _ _ (shp_sr _ _ (by assumption))) | (exact shp_sr _ _ (shp_sr _ _ (shp_sr _ _ (by assumption)))) | (left; assumption) | (exact b2i_or _) | (simp; done)) only [e108_32, e108_33, e108_36, e108_37, e108_38, e108_40, e108_43, e108_45, e108_46, e108_49, e108_51, e108_54, e108_55, e108_58, e108_60, e108_63, e108_66, e108_67, e108_70, e108_71, e108_72, e108_75, eq_self, ne_a, ne_b, ne_c, Nat.reduceEqDiff, lt0, bnd_ok, psh_I, psh_L, psh_R, psh_U, gt_sr, gr_sr, sk_sr, nn_sr, ↓reduceIte, Int.toNat_natCast, Int.reduceToNat, h4, eb1, h5, w6]
  have hh := m_has (x := lbD e) (k := c) hlb (by omega) (sr σ 29 t)
  have hb := lb_tb hl (n := dn_ e) (j := c) hc h24
  rw [show (laB (dla e) (dn_ e)) = lbD e from rfl] at hb
  rw [hb] at hh
  have hc' : (c : Int) < ((dn_ e : Nat) : Int) := by omega
  obtain ⟨q4', q5', hin⟩ := inner q5
  rw [hlt, lA] at hin
  refine ⟨vI (mlt (dR e) (dC e) (dla e) c), q4', q5', ?_⟩
  rw [hme]
  have fin : run 108 78 [vR 24, vI kd, vI (c : Int), vI (mlt (dR e) (dC e) (dla e) c), q4', q5'] [] (sr σ 29 t) = run 108 2 [vR 24, vI kd, vI ((c : Int) + 1), vI (mlt (dR e) (dC e) (dla e) c), q4', q5'] [] (sr σ 29 (ru t c (mx (t c - mlt (dR e) (dC e) (dla e) c)))) := by
    generalize mlt (dR e) (dC e) (dla e) c = M at *
    have w7 : wr (t c - M) = t c - M := wr_id (by omega) (by omega)
    by_cases h6 : M < t c
    · have h7 : mx (t c - M) = t c - M := by unfold mx; rw [if_pos (by omega)]
      rw [h7]
      simp (disch := first | assumption | omega | (exact shp_fok (by first | assumption | exact shp_sr _ _ (by assumption) | exact shp_sr _ _ (shp_sr _ _ (by assumption)) | exact shp_sr _ _ (shp_sr _ _ (shp_sr _ _ (by assumption)))) (by decide)) | (simp only [fok_sr, aok_sr]; first | assumption | (exact shp_fok (by first | assumption | exact shp_sr _ _ (by assumption) | exact shp_sr _ _ (shp_sr _ _ (by assumption)) | exact shp_sr _ _ (shp_sr _ _ (shp_sr _ _ (by assumption)))) (by decide))) | (refine shp_aok (by first | assumption | exact shp_sr _ _ (by assumption) | exact shp_sr _ _ (shp_sr _ _ (by assumption)) | exact shp_sr _ _ (shp_sr _ _ (shp_sr _ _ (by assumption)))) rfl rfl ?_ ?_ <;> omega) | (exact shp_sr _ _ (by assumption)) | (exact shp_sr _ _ (shp_sr _ _ (by assumption))) | (exact shp_sr _ _ (shp_sr _ _ (shp_sr _ _ (by assumption)))) | (left; assumption) | (exact b2i_or _) | (simp; done)) only [e108_78, e108_79, e108_82, e108_83, e108_84, e108_87, e108_88, e108_89, e108_90, e108_93, e108_94, e108_97, e108_98, e108_99, e108_100, e108_101, e108_104, e108_105, e108_106, e108_109, eq_self, ne_a, ne_b, ne_c, Nat.reduceEqDiff, lt0, bnd_ok, psh_I, psh_L, psh_R, psh_U, gt_sr, gr_sr, sk_sr, nn_sr, ↓reduceIte, Int.toNat_natCast, Int.reduceToNat, g24_11, h6, w7, w5, sr_sr]
    · have h7 : mx (t c - M) = 0 := by unfold mx; rw [if_neg (by omega)]
      rw [h7]
      simp (disch := first | assumption | omega | (exact shp_fok (by first | assumption | exact shp_sr _ _ (by assumption) | exact shp_sr _ _ (shp_sr _ _ (by assumption)) | exact shp_sr _ _ (shp_sr _ _ (shp_sr _ _ (by assumption)))) (by decide)) | (simp only [fok_sr, aok_sr]; first | assumption | (exact shp_fok (by first | assumption | exact shp_sr _ _ (by assumption) | exact shp_sr _ _ (shp_sr _ _ (by assumption)) | exact shp_sr _ _ (shp_sr _ _ (shp_sr _ _ (by assumption)))) (by decide))) | (refine shp_aok (by first | assumption | exact shp_sr _ _ (by assumption) | exact shp_sr _ _ (shp_sr _ _ (by assumption)) | exact shp_sr _ _ (shp_sr _ _ (shp_sr _ _ (by assumption)))) rfl rfl ?_ ?_ <;> omega) | (exact shp_sr _ _ (by assumption)) | (exact shp_sr _ _ (shp_sr _ _ (by assumption))) | (exact shp_sr _ _ (shp_sr _ _ (shp_sr _ _ (by assumption)))) | (left; assumption) | (exact b2i_or _) | (simp; done)) only [e108_78, e108_79, e108_82, e108_83, e108_84, e108_87, e108_88, e108_89, e108_90, e108_93, e108_94, e108_97, e108_98, e108_99, e108_100, e108_101, e108_104, e108_105, e108_106, e108_109, eq_self, ne_a, ne_b, ne_c, Nat.reduceEqDiff, lt0, bnd_ok, psh_I, psh_L, psh_R, psh_U, gt_sr, gr_sr, sk_sr, nn_sr, ↓reduceIte, Int.toNat_natCast, Int.reduceToNat, g24_11, h6, w5, sr_sr]
  rw [← fin, ← hin, e108_2]
  rcases hl c (by omega) with h9 | h9
  · rw [h9] at hh ⊢
    simp (disch := first | assumption | omega | (exact shp_fok (by first | assumption | exact shp_sr _ _ (by assumption) | exact shp_sr _ _ (shp_sr _ _ (by assumption)) | exact shp_sr _ _ (shp_sr _ _ (shp_sr _ _ (by assumption)))) (by decide)) | (simp only [fok_sr, aok_sr]; first | assumption | (exact shp_fok (by first | assumption | exact shp_sr _ _ (by assumption) | exact shp_sr _ _ (shp_sr _ _ (by assumption)) | exact shp_sr _ _ (shp_sr _ _ (shp_sr _ _ (by assumption)))) (by decide))) | (refine shp_aok (by first | assumption | exact shp_sr _ _ (by assumption) | exact shp_sr _ _ (shp_sr _ _ (by assumption)) | exact shp_sr _ _ (shp_sr _ _ (shp_sr _ _ (by assumption)))) rfl rfl ?_ ?_ <;> omega) | (exact shp_sr _ _ (by assumption)) | (exact shp_sr _ _ (shp_sr _ _ (by assumption))) | (exact shp_sr _ _ (shp_sr _ _ (shp_sr _ _ (by assumption)))) | (left; assumption) | (exact b2i_or _) | (simp; done)) only [e108_3, e108_4, e108_7, e108_10, e108_11, e108_14, e108_15, e108_18, e108_21, e108_22, e108_25, e108_26, e108_27, e108_28, eq_self, ne_a, ne_b, ne_c, Nat.reduceEqDiff, lt0, bnd_ok, psh_I, psh_L, psh_R, psh_U, gt_sr, gr_sr, sk_sr, nn_sr, ↓reduceIte, Int.toNat_natCast, Int.reduceToNat, ec, hc', hlit, hh, Int.reduceEq]
  · rw [h9] at hh ⊢
    simp (disch := first | assumption | omega | (exact shp_fok (by first | assumption | exact shp_sr _ _ (by assumption) | exact shp_sr _ _ (shp_sr _ _ (by assumption)) | exact shp_sr _ _ (shp_sr _ _ (shp_sr _ _ (by assumption)))) (by decide)) | (simp only [fok_sr, aok_sr]; first | assumption | (exact shp_fok (by first | assumption | exact shp_sr _ _ (by assumption) | exact shp_sr _ _ (shp_sr _ _ (by assumption)) | exact shp_sr _ _ (shp_sr _ _ (shp_sr _ _ (by assumption)))) (by decide))) | (refine shp_aok (by first | assumption | exact shp_sr _ _ (by assumption) | exact shp_sr _ _ (shp_sr _ _ (by assumption)) | exact shp_sr _ _ (shp_sr _ _ (shp_sr _ _ (by assumption)))) rfl rfl ?_ ?_ <;> omega) | (exact shp_sr _ _ (by assumption)) | (exact shp_sr _ _ (shp_sr _ _ (by assumption))) | (exact shp_sr _ _ (shp_sr _ _ (shp_sr _ _ (by assumption)))) | (left; assumption) | (exact b2i_or _) | (simp; done)) only [e108_3, e108_4, e108_7, e108_10, e108_11, e108_14, e108_15, e108_18, e108_21, e108_22, e108_25, e108_26, e108_27, e108_28, eq_self, ne_a, ne_b, ne_c, Nat.reduceEqDiff, lt0, bnd_ok, psh_I, psh_L, psh_R, psh_U, gt_sr, gr_sr, sk_sr, nn_sr, ↓reduceIte, Int.toNat_natCast, Int.reduceToNat, ec, hc', hlit, hh, Int.reduceEq]
set_option maxRecDepth 100000 in
set_option maxHeartbeats 4000000 in
/-- one cell blown -/
theorem m_passC {σ : St} {e : Dat} (h : mfx σ e) (ho : okd e) {c : Nat} (hc : c < dn_ e) {w F : Nat → Int} (hw : gt σ 29 = w) (hwt : tk w) (hF : ∀ i, i < dn_ e → -100 ≤ F i ∧ F i ≤ 100) {hh : Int} (h05 : 0 ≤ hh ∧ hh ≤ 5) (q3 q4 q5 : AV) :
    ∃ q3' q4' q5', run 108 142 [vR 24, vI (kin hh), vI (c : Int), q3, q4, q5] [] (sr σ 30 F) = run 108 142 [vR 24, vI (kin hh), vI ((c : Int) + 1), q3', q4', q5'] [] (sr σ 30 (st3 (dR e) (dC e) (dfe e) hh w c F)) := by
  have h24 := dn24 ho
  have hle : dR e * dC e ≤ 24 := h24
  have h' : mfx (sr σ 30 F) e := nowR_fix h (chg_sr (S := [30]) (chg_rf _ _) (by simp)) (by simp)
  have ec := m_cells h' ho
  have eb := fun (s : Int) hs => m_beside h' ho hc (s := s) hs
  have hC1 := ho.1.2.2.1
  have hfe := ho.2.1
  obtain ⟨hs, d0, d1, d4, d5, -⟩ := h
  have w5 : wr ((c : Int) + 1) = (c : Int) + 1 := wr_id (by omega) (by omega)
  have hc' : (c : Int) < ((dn_ e : Nat) : Int) := by omega
  have hFc := hF c hc
  have hwc := hwt c (by omega)
  have w8 : wr (F c - 1) = F c - 1 := wr_id (by omega) (by omega)
  have w9 : wr (F c - 0) = F c := by rw [Int.sub_zero]; exact wr_id (by omega) (by omega)
  have hc3 : c / dC e * dC e + c % dC e = c := by rw [Nat.mul_comm]; exact Nat.div_add_mod c (dC e)
  have ruc : ru F c (F c) = F := by
    funext i
    unfold ru
    split
    · next h => rw [h]
    · rfl
  unfold st3
  by_cases k5 : hh = 5
  · subst k5
    refine ⟨q3, q4, q5, ?_⟩
    rw [if_pos rfl, e108_142, show kin 5 = 0 from rfl]
    simp (disch := first | assumption | omega | (exact shp_fok (by first | assumption | exact shp_sr _ _ (by assumption) | exact shp_sr _ _ (shp_sr _ _ (by assumption)) | exact shp_sr _ _ (shp_sr _ _ (shp_sr _ _ (by assumption)))) (by decide)) | (simp only [fok_sr, aok_sr]; first | assumption | (exact shp_fok (by first | assumption | exact shp_sr _ _ (by assumption) | exact shp_sr _ _ (shp_sr _ _ (by assumption)) | exact shp_sr _ _ (shp_sr _ _ (shp_sr _ _ (by assumption)))) (by decide))) | (refine shp_aok (by first | assumption | exact shp_sr _ _ (by assumption) | exact shp_sr _ _ (shp_sr _ _ (by assumption)) | exact shp_sr _ _ (shp_sr _ _ (shp_sr _ _ (by assumption)))) rfl rfl ?_ ?_ <;> omega) | (exact shp_sr _ _ (by assumption)) | (exact shp_sr _ _ (shp_sr _ _ (by assumption))) | (exact shp_sr _ _ (shp_sr _ _ (shp_sr _ _ (by assumption)))) | (left; assumption) | (exact b2i_or _) | (simp; done)) only [e108_143, e108_144, e108_147, e108_150, e108_151, e108_152, e108_153, e108_156, e108_159, e108_160, e108_161, e108_162, e108_163, e108_164, e108_167, e108_168, e108_169, e108_172, e108_173, e108_176, e108_177, e108_178, e108_181, e108_182, e108_185, e108_186, e108_189, e108_190, e108_193, e108_194, e108_195, e108_196, e108_199, e108_200, e108_201, e108_204, e108_205, e108_208, e108_209, e108_211, e108_212, e108_215, e108_216, e108_217, e108_218, e108_220, e108_223, e108_224, e108_227, e108_228, e108_229, e108_230, e108_232, e108_235, e108_236, e108_239, e108_240, e108_243, e108_244, e108_245, e108_246, e108_247, e108_248, e108_249, e108_250, e108_251, e108_254, e108_255, e108_256, e108_259, e108_260, e108_263, e108_264, e108_267, e108_268, e108_269, e108_272, e108_273, e108_274, e108_275, e108_278, e108_279, e108_281, e108_284, e108_286, e108_289, e108_290, e108_293, e108_294, e108_295, e108_296, e108_299, e108_300, e108_301, e108_304, eq_self, ne_a, ne_b, ne_c, Nat.reduceEqDiff, lt0, bnd_ok, psh_I, psh_L, psh_R, psh_U, gt_sr, gr_sr, sk_sr, nn_sr, ↓reduceIte, Int.toNat_natCast, Int.reduceToNat, ec, hc', m_in, Int.reduceEq, Int.reduceLE, and_true, false_and, and_false, w5]
  · rw [if_neg k5]
    by_cases k4 : hh = 4
    · subst k4
      refine ⟨q3, q4, q5, ?_⟩
      have g2 : ¬ (dC e : Int) = 0 := by omega
      have hmd : (c : Int).tmod (dC e : Int) = ((c % dC e : Nat) : Int) := by rw [Int.tmod_eq_emod_of_nonneg (by omega)]; rfl
      have l2 : c % dC e ≤ c := Nat.mod_le _ _
      have w6 : wr ((c % dC e : Nat) : Int) = ((c % dC e : Nat) : Int) := by
        generalize c % dC e = V at *
        exact wr_id (by omega) (by omega)
      have w7 : wr (w c + dfe e) = w c + dfe e := wr_id (by omega) (by omega)
      have hm5 : ¬ (1 ≤ (5 : Int) ∧ (5 : Int) ≤ 4) := by decide
      rw [if_pos rfl, e108_142, show kin 4 = 5 from rfl]
      by_cases hz : c % dC e = 0
      · rw [if_pos hz]
        have hz' : ((c % dC e : Nat) : Int) = 0 := by rw [hz]; rfl
        have z0' : wr 0 = 0 := wr_id (by omega) (by omega)
        by_cases h9 : 9 < w c + dfe e
        · have h10 : mi9 (w c + dfe e) = 9 := by unfold mi9; rw [if_neg (by omega)]
          rw [h10]
          simp (disch := first | assumption | omega | (exact shp_fok (by first | assumption | exact shp_sr _ _ (by assumption) | exact shp_sr _ _ (shp_sr _ _ (by assumption)) | exact shp_sr _ _ (shp_sr _ _ (shp_sr _ _ (by assumption)))) (by decide)) | (simp only [fok_sr, aok_sr]; first | assumption | (exact shp_fok (by first | assumption | exact shp_sr _ _ (by assumption) | exact shp_sr _ _ (shp_sr _ _ (by assumption)) | exact shp_sr _ _ (shp_sr _ _ (shp_sr _ _ (by assumption)))) (by decide))) | (refine shp_aok (by first | assumption | exact shp_sr _ _ (by assumption) | exact shp_sr _ _ (shp_sr _ _ (by assumption)) | exact shp_sr _ _ (shp_sr _ _ (shp_sr _ _ (by assumption)))) rfl rfl ?_ ?_ <;> omega) | (exact shp_sr _ _ (by assumption)) | (exact shp_sr _ _ (shp_sr _ _ (by assumption))) | (exact shp_sr _ _ (shp_sr _ _ (shp_sr _ _ (by assumption)))) | (left; assumption) | (exact b2i_or _) | (simp; done)) only [e108_143, e108_144, e108_147, e108_150, e108_151, e108_152, e108_153, e108_156, e108_159, e108_160, e108_161, e108_162, e108_163, e108_164, e108_167, e108_168, e108_169, e108_172, e108_173, e108_176, e108_177, e108_178, e108_181, e108_182, e108_185, e108_186, e108_189, e108_190, e108_193, e108_194, e108_195, e108_196, e108_199, e108_200, e108_201, e108_204, e108_205, e108_208, e108_209, e108_211, e108_212, e108_215, e108_216, e108_217, e108_218, e108_220, e108_223, e108_224, e108_227, e108_228, e108_229, e108_230, e108_232, e108_235, e108_236, e108_239, e108_240, e108_243, e108_244, e108_245, e108_246, e108_247, e108_248, e108_249, e108_250, e108_251, e108_254, e108_255, e108_256, e108_259, e108_260, e108_263, e108_264, e108_267, e108_268, e108_269, e108_272, e108_273, e108_274, e108_275, e108_278, e108_279, e108_281, e108_284, e108_286, e108_289, e108_290, e108_293, e108_294, e108_295, e108_296, e108_299, e108_300, e108_301, e108_304, eq_self, ne_a, ne_b, ne_c, Nat.reduceEqDiff, lt0, bnd_ok, psh_I, psh_L, psh_R, psh_U, gt_sr, gr_sr, sk_sr, nn_sr, ↓reduceIte, Int.toNat_natCast, Int.reduceToNat, ec, hc', m_in, if_neg hm5, Int.reduceEq, d1, d4, g2, hmd, hz', z0', g24_11, g24_12, hw, w7, h9, w5, sr_sr]
        · have h10 : mi9 (w c + dfe e) = w c + dfe e := by unfold mi9; split <;> omega
          rw [h10]
          simp (disch := first | assumption | omega | (exact shp_fok (by first | assumption | exact shp_sr _ _ (by assumption) | exact shp_sr _ _ (shp_sr _ _ (by assumption)) | exact shp_sr _ _ (shp_sr _ _ (shp_sr _ _ (by assumption)))) (by decide)) | (simp only [fok_sr, aok_sr]; first | assumption | (exact shp_fok (by first | assumption | exact shp_sr _ _ (by assumption) | exact shp_sr _ _ (shp_sr _ _ (by assumption)) | exact shp_sr _ _ (shp_sr _ _ (shp_sr _ _ (by assumption)))) (by decide))) | (refine shp_aok (by first | assumption | exact shp_sr _ _ (by assumption) | exact shp_sr _ _ (shp_sr _ _ (by assumption)) | exact shp_sr _ _ (shp_sr _ _ (shp_sr _ _ (by assumption)))) rfl rfl ?_ ?_ <;> omega) | (exact shp_sr _ _ (by assumption)) | (exact shp_sr _ _ (shp_sr _ _ (by assumption))) | (exact shp_sr _ _ (shp_sr _ _ (shp_sr _ _ (by assumption)))) | (left; assumption) | (exact b2i_or _) | (simp; done)) only [e108_143, e108_144, e108_147, e108_150, e108_151, e108_152, e108_153, e108_156, e108_159, e108_160, e108_161, e108_162, e108_163, e108_164, e108_167, e108_168, e108_169, e108_172, e108_173, e108_176, e108_177, e108_178, e108_181, e108_182, e108_185, e108_186, e108_189, e108_190, e108_193, e108_194, e108_195, e108_196, e108_199, e108_200, e108_201, e108_204, e108_205, e108_208, e108_209, e108_211, e108_212, e108_215, e108_216, e108_217, e108_218, e108_220, e108_223, e108_224, e108_227, e108_228, e108_229, e108_230, e108_232, e108_235, e108_236, e108_239, e108_240, e108_243, e108_244, e108_245, e108_246, e108_247, e108_248, e108_249, e108_250, e108_251, e108_254, e108_255, e108_256, e108_259, e108_260, e108_263, e108_264, e108_267, e108_268, e108_269, e108_272, e108_273, e108_274, e108_275, e108_278, e108_279, e108_281, e108_284, e108_286, e108_289, e108_290, e108_293, e108_294, e108_295, e108_296, e108_299, e108_300, e108_301, e108_304, eq_self, ne_a, ne_b, ne_c, Nat.reduceEqDiff, lt0, bnd_ok, psh_I, psh_L, psh_R, psh_U, gt_sr, gr_sr, sk_sr, nn_sr, ↓reduceIte, Int.toNat_natCast, Int.reduceToNat, ec, hc', m_in, if_neg hm5, Int.reduceEq, d1, d4, g2, hmd, hz', z0', g24_11, g24_12, hw, w7, h9, w5, sr_sr]
      · rw [if_neg hz]
        have hz' : ¬ ((c % dC e : Nat) : Int) = 0 := by omega
        simp (disch := first | assumption | omega | (exact shp_fok (by first | assumption | exact shp_sr _ _ (by assumption) | exact shp_sr _ _ (shp_sr _ _ (by assumption)) | exact shp_sr _ _ (shp_sr _ _ (shp_sr _ _ (by assumption)))) (by decide)) | (simp only [fok_sr, aok_sr]; first | assumption | (exact shp_fok (by first | assumption | exact shp_sr _ _ (by assumption) | exact shp_sr _ _ (shp_sr _ _ (by assumption)) | exact shp_sr _ _ (shp_sr _ _ (shp_sr _ _ (by assumption)))) (by decide))) | (refine shp_aok (by first | assumption | exact shp_sr _ _ (by assumption) | exact shp_sr _ _ (shp_sr _ _ (by assumption)) | exact shp_sr _ _ (shp_sr _ _ (shp_sr _ _ (by assumption)))) rfl rfl ?_ ?_ <;> omega) | (exact shp_sr _ _ (by assumption)) | (exact shp_sr _ _ (shp_sr _ _ (by assumption))) | (exact shp_sr _ _ (shp_sr _ _ (shp_sr _ _ (by assumption)))) | (left; assumption) | (exact b2i_or _) | (simp; done)) only [e108_143, e108_144, e108_147, e108_150, e108_151, e108_152, e108_153, e108_156, e108_159, e108_160, e108_161, e108_162, e108_163, e108_164, e108_167, e108_168, e108_169, e108_172, e108_173, e108_176, e108_177, e108_178, e108_181, e108_182, e108_185, e108_186, e108_189, e108_190, e108_193, e108_194, e108_195, e108_196, e108_199, e108_200, e108_201, e108_204, e108_205, e108_208, e108_209, e108_211, e108_212, e108_215, e108_216, e108_217, e108_218, e108_220, e108_223, e108_224, e108_227, e108_228, e108_229, e108_230, e108_232, e108_235, e108_236, e108_239, e108_240, e108_243, e108_244, e108_245, e108_246, e108_247, e108_248, e108_249, e108_250, e108_251, e108_254, e108_255, e108_256, e108_259, e108_260, e108_263, e108_264, e108_267, e108_268, e108_269, e108_272, e108_273, e108_274, e108_275, e108_278, e108_279, e108_281, e108_284, e108_286, e108_289, e108_290, e108_293, e108_294, e108_295, e108_296, e108_299, e108_300, e108_301, e108_304, eq_self, ne_a, ne_b, ne_c, Nat.reduceEqDiff, lt0, bnd_ok, psh_I, psh_L, psh_R, psh_U, gt_sr, gr_sr, sk_sr, nn_sr, ↓reduceIte, Int.toNat_natCast, Int.reduceToNat, ec, hc', m_in, if_neg hm5, Int.reduceEq, d1, g2, hmd, w6, hz', w5]
    · rw [if_neg k4]
      have hk : kin hh = hh + 1 := by unfold kin; rw [if_neg (by omega), if_neg k5]
      have hin : 1 ≤ hh + 1 ∧ hh + 1 ≤ 4 := by omega
      have w10 : wr (hh + 1 - 1) = hh := by rw [wr_id (by omega) (by omega)]; omega
      have n5 : ¬ hh + 1 = 5 := by omega
      have eb1 := eb hh (by omega)
      unfold brk
      rw [hc3, hk]
      rcases bsd_cases hle c hh with ⟨g1, g2⟩ | ⟨j, hj, g1, g2⟩
      · rw [g2] at eb1
        unfold bsd at g1
        rw [g1]
        dsimp only
        rw [if_pos rfl]
        by_cases h6 : 0 < w c
        · rw [if_pos h6]
          refine ⟨vI (-6), vI 1, q5, ?_⟩
          rw [e108_142]
          simp (disch := first | assumption | omega | (exact shp_fok (by first | assumption | exact shp_sr _ _ (by assumption) | exact shp_sr _ _ (shp_sr _ _ (by assumption)) | exact shp_sr _ _ (shp_sr _ _ (shp_sr _ _ (by assumption)))) (by decide)) | (simp only [fok_sr, aok_sr]; first | assumption | (exact shp_fok (by first | assumption | exact shp_sr _ _ (by assumption) | exact shp_sr _ _ (shp_sr _ _ (by assumption)) | exact shp_sr _ _ (shp_sr _ _ (shp_sr _ _ (by assumption)))) (by decide))) | (refine shp_aok (by first | assumption | exact shp_sr _ _ (by assumption) | exact shp_sr _ _ (shp_sr _ _ (by assumption)) | exact shp_sr _ _ (shp_sr _ _ (shp_sr _ _ (by assumption)))) rfl rfl ?_ ?_ <;> omega) | (exact shp_sr _ _ (by assumption)) | (exact shp_sr _ _ (shp_sr _ _ (by assumption))) | (exact shp_sr _ _ (shp_sr _ _ (shp_sr _ _ (by assumption)))) | (left; assumption) | (exact b2i_or _) | (simp; done)) only [e108_143, e108_144, e108_147, e108_150, e108_151, e108_152, e108_153, e108_156, e108_159, e108_160, e108_161, e108_162, e108_163, e108_164, e108_167, e108_168, e108_169, e108_172, e108_173, e108_176, e108_177, e108_178, e108_181, e108_182, e108_185, e108_186, e108_189, e108_190, e108_193, e108_194, e108_195, e108_196, e108_199, e108_200, e108_201, e108_204, e108_205, e108_208, e108_209, e108_211, e108_212, e108_215, e108_216, e108_217, e108_218, e108_220, e108_223, e108_224, e108_227, e108_228, e108_229, e108_230, e108_232, e108_235, e108_236, e108_239, e108_240, e108_243, e108_244, e108_245, e108_246, e108_247, e108_248, e108_249, e108_250, e108_251, e108_254, e108_255, e108_256, e108_259, e108_260, e108_263, e108_264, e108_267, e108_268, e108_269, e108_272, e108_273, e108_274, e108_275, e108_278, e108_279, e108_281, e108_284, e108_286, e108_289, e108_290, e108_293, e108_294, e108_295, e108_296, e108_299, e108_300, e108_301, e108_304, eq_self, ne_a, ne_b, ne_c, Nat.reduceEqDiff, lt0, bnd_ok, psh_I, psh_L, psh_R, psh_U, gt_sr, gr_sr, sk_sr, nn_sr, ↓reduceIte, Int.toNat_natCast, Int.reduceToNat, ec, hc', m_in, if_pos hin, Int.reduceEq, Int.reduceLT, w10, eb1, g24_11, g24_12, hw, h6, w8, n5, w5, sr_sr]
        · rw [if_neg h6]
          refine ⟨vI (-6), vI 0, q5, ?_⟩
          rw [e108_142]
          simp (disch := first | assumption | omega | (exact shp_fok (by first | assumption | exact shp_sr _ _ (by assumption) | exact shp_sr _ _ (shp_sr _ _ (by assumption)) | exact shp_sr _ _ (shp_sr _ _ (shp_sr _ _ (by assumption)))) (by decide)) | (simp only [fok_sr, aok_sr]; first | assumption | (exact shp_fok (by first | assumption | exact shp_sr _ _ (by assumption) | exact shp_sr _ _ (shp_sr _ _ (by assumption)) | exact shp_sr _ _ (shp_sr _ _ (shp_sr _ _ (by assumption)))) (by decide))) | (refine shp_aok (by first | assumption | exact shp_sr _ _ (by assumption) | exact shp_sr _ _ (shp_sr _ _ (by assumption)) | exact shp_sr _ _ (shp_sr _ _ (shp_sr _ _ (by assumption)))) rfl rfl ?_ ?_ <;> omega) | (exact shp_sr _ _ (by assumption)) | (exact shp_sr _ _ (shp_sr _ _ (by assumption))) | (exact shp_sr _ _ (shp_sr _ _ (shp_sr _ _ (by assumption)))) | (left; assumption) | (exact b2i_or _) | (simp; done)) only [e108_143, e108_144, e108_147, e108_150, e108_151, e108_152, e108_153, e108_156, e108_159, e108_160, e108_161, e108_162, e108_163, e108_164, e108_167, e108_168, e108_169, e108_172, e108_173, e108_176, e108_177, e108_178, e108_181, e108_182, e108_185, e108_186, e108_189, e108_190, e108_193, e108_194, e108_195, e108_196, e108_199, e108_200, e108_201, e108_204, e108_205, e108_208, e108_209, e108_211, e108_212, e108_215, e108_216, e108_217, e108_218, e108_220, e108_223, e108_224, e108_227, e108_228, e108_229, e108_230, e108_232, e108_235, e108_236, e108_239, e108_240, e108_243, e108_244, e108_245, e108_246, e108_247, e108_248, e108_249, e108_250, e108_251, e108_254, e108_255, e108_256, e108_259, e108_260, e108_263, e108_264, e108_267, e108_268, e108_269, e108_272, e108_273, e108_274, e108_275, e108_278, e108_279, e108_281, e108_284, e108_286, e108_289, e108_290, e108_293, e108_294, e108_295, e108_296, e108_299, e108_300, e108_301, e108_304, eq_self, ne_a, ne_b, ne_c, Nat.reduceEqDiff, lt0, bnd_ok, psh_I, psh_L, psh_R, psh_U, gt_sr, gr_sr, sk_sr, nn_sr, ↓reduceIte, Int.toNat_natCast, Int.reduceToNat, ec, hc', m_in, if_pos hin, Int.reduceEq, Int.reduceLT, w10, eb1, g24_11, g24_12, hw, h6, w9, n5, w5, sr_sr, ruc]
      · rw [g2] at eb1
        unfold bsd at g1
        rw [g1]
        have hj4 : j < 24 := by omega
        have hj0 : ¬ (j : Int) < 0 := by omega
        have hFj := hF j hj
        simp only [if_neg (show ¬ (j : Int) = -1 by omega), Int.toNat_natCast, lv_N hj4]
        by_cases h6 : w j < w c
        · rw [if_pos h6]
          have hG : -101 ≤ ru F c (F c - 1) j ∧ ru F c (F c - 1) j ≤ 101 := by unfold ru; split <;> omega
          have w11 : wr (ru F c (F c - 1) j + 1) = ru F c (F c - 1) j + 1 := wr_id (by omega) (by omega)
          refine ⟨vI (j : Int), vI 1, q5, ?_⟩
          rw [e108_142]
          simp (disch := first | assumption | omega | (exact shp_fok (by first | assumption | exact shp_sr _ _ (by assumption) | exact shp_sr _ _ (shp_sr _ _ (by assumption)) | exact shp_sr _ _ (shp_sr _ _ (shp_sr _ _ (by assumption)))) (by decide)) | (simp only [fok_sr, aok_sr]; first | assumption | (exact shp_fok (by first | assumption | exact shp_sr _ _ (by assumption) | exact shp_sr _ _ (shp_sr _ _ (by assumption)) | exact shp_sr _ _ (shp_sr _ _ (shp_sr _ _ (by assumption)))) (by decide))) | (refine shp_aok (by first | assumption | exact shp_sr _ _ (by assumption) | exact shp_sr _ _ (shp_sr _ _ (by assumption)) | exact shp_sr _ _ (shp_sr _ _ (shp_sr _ _ (by assumption)))) rfl rfl ?_ ?_ <;> omega) | (exact shp_sr _ _ (by assumption)) | (exact shp_sr _ _ (shp_sr _ _ (by assumption))) | (exact shp_sr _ _ (shp_sr _ _ (shp_sr _ _ (by assumption)))) | (left; assumption) | (exact b2i_or _) | (simp; done)) only [e108_143, e108_144, e108_147, e108_150, e108_151, e108_152, e108_153, e108_156, e108_159, e108_160, e108_161, e108_162, e108_163, e108_164, e108_167, e108_168, e108_169, e108_172, e108_173, e108_176, e108_177, e108_178, e108_181, e108_182, e108_185, e108_186, e108_189, e108_190, e108_193, e108_194, e108_195, e108_196, e108_199, e108_200, e108_201, e108_204, e108_205, e108_208, e108_209, e108_211, e108_212, e108_215, e108_216, e108_217, e108_218, e108_220, e108_223, e108_224, e108_227, e108_228, e108_229, e108_230, e108_232, e108_235, e108_236, e108_239, e108_240, e108_243, e108_244, e108_245, e108_246, e108_247, e108_248, e108_249, e108_250, e108_251, e108_254, e108_255, e108_256, e108_259, e108_260, e108_263, e108_264, e108_267, e108_268, e108_269, e108_272, e108_273, e108_274, e108_275, e108_278, e108_279, e108_281, e108_284, e108_286, e108_289, e108_290, e108_293, e108_294, e108_295, e108_296, e108_299, e108_300, e108_301, e108_304, eq_self, ne_a, ne_b, ne_c, Nat.reduceEqDiff, lt0, bnd_ok, psh_I, psh_L, psh_R, psh_U, gt_sr, gr_sr, sk_sr, nn_sr, ↓reduceIte, Int.toNat_natCast, Int.reduceToNat, ec, hc', m_in, if_pos hin, Int.reduceEq, hj0, w10, eb1, g24_11, g24_12, hw, h6, w8, w11, n5, w5, sr_sr]
        · rw [if_neg h6]
          refine ⟨vI (j : Int), vI 0, q5, ?_⟩
          rw [e108_142]
          simp (disch := first | assumption | omega | (exact shp_fok (by first | assumption | exact shp_sr _ _ (by assumption) | exact shp_sr _ _ (shp_sr _ _ (by assumption)) | exact shp_sr _ _ (shp_sr _ _ (shp_sr _ _ (by assumption)))) (by decide)) | (simp only [fok_sr, aok_sr]; first | assumption | (exact shp_fok (by first | assumption | exact shp_sr _ _ (by assumption) | exact shp_sr _ _ (shp_sr _ _ (by assumption)) | exact shp_sr _ _ (shp_sr _ _ (shp_sr _ _ (by assumption)))) (by decide))) | (refine shp_aok (by first | assumption | exact shp_sr _ _ (by assumption) | exact shp_sr _ _ (shp_sr _ _ (by assumption)) | exact shp_sr _ _ (shp_sr _ _ (shp_sr _ _ (by assumption)))) rfl rfl ?_ ?_ <;> omega) | (exact shp_sr _ _ (by assumption)) | (exact shp_sr _ _ (shp_sr _ _ (by assumption))) | (exact shp_sr _ _ (shp_sr _ _ (shp_sr _ _ (by assumption)))) | (left; assumption) | (exact b2i_or _) | (simp; done)) only [e108_143, e108_144, e108_147, e108_150, e108_151, e108_152, e108_153, e108_156, e108_159, e108_160, e108_161, e108_162, e108_163, e108_164, e108_167, e108_168, e108_169, e108_172, e108_173, e108_176, e108_177, e108_178, e108_181, e108_182, e108_185, e108_186, e108_189, e108_190, e108_193, e108_194, e108_195, e108_196, e108_199, e108_200, e108_201, e108_204, e108_205, e108_208, e108_209, e108_211, e108_212, e108_215, e108_216, e108_217, e108_218, e108_220, e108_223, e108_224, e108_227, e108_228, e108_229, e108_230, e108_232, e108_235, e108_236, e108_239, e108_240, e108_243, e108_244, e108_245, e108_246, e108_247, e108_248, e108_249, e108_250, e108_251, e108_254, e108_255, e108_256, e108_259, e108_260, e108_263, e108_264, e108_267, e108_268, e108_269, e108_272, e108_273, e108_274, e108_275, e108_278, e108_279, e108_281, e108_284, e108_286, e108_289, e108_290, e108_293, e108_294, e108_295, e108_296, e108_299, e108_300, e108_301, e108_304, eq_self, ne_a, ne_b, ne_c, Nat.reduceEqDiff, lt0, bnd_ok, psh_I, psh_L, psh_R, psh_U, gt_sr, gr_sr, sk_sr, nn_sr, ↓reduceIte, Int.toNat_natCast, Int.reduceToNat, ec, hc', m_in, if_pos hin, Int.reduceEq, hj0, w10, eb1, g24_11, g24_12, hw, h6, w9, n5, w5, sr_sr, ruc]
theorem it3_bd {R C : Nat} (h24 : R * C ≤ 24) {fe h : Int} (hfe : 1 ≤ fe) {w F : Nat → Int} (hw : tk w) (hF : ∀ i, i < R * C → F i = w i) {k : Nat} (hk : k ≤ R * C) : ∀ i, i < R * C → -100 ≤ it3 R C fe h w k F i ∧ it3 R C fe h w k F i ≤ 100 := by
  intro i hi
  rw [it3_cg h24 fe h w hF k hk i hi]
  have hwi := hw i (by omega)
  by_cases h5 : h = 5
  · subst h5; rw [it3_still]; omega
  · by_cases h4 : h = 4
    · subst h4
      rw [it3_river]
      unfold riv mi9
      split
      · split <;> omega
      · omega
    · rw [it3_blow _ _ _ _ h4 h5]
      have := blo_bd R C (dnI h) (onI h) w w i k
      omega
set_option maxRecDepth 100000 in
set_option maxHeartbeats 4000000 in
theorem m_pass {σ : St} {e : Dat} (hn : nowR σ e) {hh : Int} (h05 : 0 ≤ hh ∧ hh ≤ 5) : ∃ σ', run 108 0 [vR 24, vI (kin hh), vU, vU, vU, vU] [] σ = some (vU, σ') ∧ chg [29, 30] σ σ' ∧ nowR σ' (pas e hh) := by
  obtain ⟨hf, hnow, hlit, ho⟩ := hn
  have h24 := dn24 ho
  have ht := ok_t ho
  have hm := mo2_dme ho
  have sx0 := fun (F : Nat → Int) (q : Nat) (hq : 24 ∉ [q] ∧ 26 ∉ [q]) => nowR_fix hf (chg_sr (S := [q]) (q := q) (f := F) (chg_rf [q] σ) (by simp)) hq
  generalize hw : melt1 (dR e) (dC e) (dme e) (dt e) = w
  have hwt : tk w := by rw [← hw]; exact tk_melt ht hm
  -- the first loop
  have A : ∀ q3 q4 q5, ∃ q3' q4' q5', run 108 2 [vR 24, vI (kin hh), vI 0, q3, q4, q5] [] (sr σ 29 (upto 0 (fun c => mx (dt e c - dme e c)) (dt e))) = run 108 114 [vR 24, vI (kin hh), vI 0, q3', q4', q5'] [] (sr σ 29 w) := by
    refine bk (P := fun k z => ∀ q3 q4 q5, ∃ q3' q4' q5', run 108 2 [vR 24, vI (kin hh), vI z, q3, q4, q5] [] (sr σ 29 (upto k (fun c => mx (dt e c - dme e c)) (dt e))) = run 108 114 [vR 24, vI (kin hh), vI 0, q3', q4', q5'] [] (sr σ 29 w)) (n := dn_ e) ?_ ?_
    · intro q3 q4 q5
      refine ⟨q3, q4, q5, ?_⟩
      have ec := m_cells (sx0 (upto (dn_ e) (fun c => mx (dt e c - dme e c)) (dt e)) 29 (by simp)) ho
      have h4 : ¬ ((dn_ e : Nat) : Int) < ((dn_ e : Nat) : Int) := by omega
      have hs := hf.1
      rw [e108_2]
      simp (disch := first | assumption | omega | (exact shp_fok (by first | assumption | exact shp_sr _ _ (by assumption) | exact shp_sr _ _ (shp_sr _ _ (by assumption)) | exact shp_sr _ _ (shp_sr _ _ (shp_sr _ _ (by assumption)))) (by decide)) | (simp only [fok_sr, aok_sr]; first | assumption | (exact shp_fok (by first | assumption | exact shp_sr _ _ (by assumption) | exact shp_sr _ _ (shp_sr _ _ (by assumption)) | exact shp_sr _ _ (shp_sr _ _ (shp_sr _ _ (by assumption)))) (by decide))) | (refine shp_aok (by first | assumption | exact shp_sr _ _ (by assumption) | exact shp_sr _ _ (shp_sr _ _ (by assumption)) | exact shp_sr _ _ (shp_sr _ _ (shp_sr _ _ (by assumption)))) rfl rfl ?_ ?_ <;> omega) | (exact shp_sr _ _ (by assumption)) | (exact shp_sr _ _ (shp_sr _ _ (by assumption))) | (exact shp_sr _ _ (shp_sr _ _ (shp_sr _ _ (by assumption)))) | (left; assumption) | (exact b2i_or _) | (simp; done)) only [e108_3, e108_4, e108_7, e108_112, e108_113, eq_self, ne_a, ne_b, ne_c, Nat.reduceEqDiff, lt0, bnd_ok, psh_I, psh_L, psh_R, psh_U, gt_sr, gr_sr, sk_sr, nn_sr, ↓reduceIte, Int.toNat_natCast, Int.reduceToNat, ec, h4]
      rw [← hw]
      rfl
    · intro k hk hk' ih q3 q4 q5
      have e1 : upto k (fun c => mx (dt e c - dme e c)) (dt e) k = dt e k := by unfold upto; rw [if_neg (by omega)]
      obtain ⟨q3', q4', q5', e2⟩ := m_passA hf ho hlit hk (t := upto k (fun c => mx (dt e c - dme e c)) (dt e)) (by rw [e1]; exact ht k (by omega)) (kin hh) q3 q4 q5
      rw [e1, upto_s _ _ _ _ rfl] at e2
      obtain ⟨q6, q7, q8, e3⟩ := ih q3' q4' q5'
      exact ⟨q6, q7, q8, e2.trans e3⟩
  have hf1 := sx0 w 29 (by simp)
  have hs1 : shp (sr σ 29 w) := hf1.1
  -- the second
  generalize hσ1 : sr σ 29 w = σ1 at *
  have hnow1 : gt σ1 29 = w := by rw [← hσ1, gt_e]
  generalize ho30 : gt σ1 30 = w0
  have sx1 := fun (F : Nat → Int) => nowR_fix hf1 (chg_sr (S := [30]) (q := 30) (f := F) (chg_rf [30] σ1) (by simp)) (by simp)
  have B : ∀ q3 q4 q5, run 108 114 [vR 24, vI (kin hh), vI 0, q3, q4, q5] [] (sr σ1 30 (upto 0 w w0)) = run 108 142 [vR 24, vI (kin hh), vI 0, q3, q4, q5] [] (sr σ1 30 (upto (dn_ e) w w0)) := by
    intro q3 q4 q5
    refine bk (P := fun k z => run 108 114 [vR 24, vI (kin hh), vI z, q3, q4, q5] [] (sr σ1 30 (upto k w w0)) = run 108 142 [vR 24, vI (kin hh), vI 0, q3, q4, q5] [] (sr σ1 30 (upto (dn_ e) w w0))) (n := dn_ e) ?_ ?_
    · have ec := m_cells (sx1 (upto (dn_ e) w w0)) ho
      have h4 : ¬ ((dn_ e : Nat) : Int) < ((dn_ e : Nat) : Int) := by omega
      rw [e108_114]
      simp (disch := first | assumption | omega | (exact shp_fok (by first | assumption | exact shp_sr _ _ (by assumption) | exact shp_sr _ _ (shp_sr _ _ (by assumption)) | exact shp_sr _ _ (shp_sr _ _ (shp_sr _ _ (by assumption)))) (by decide)) | (simp only [fok_sr, aok_sr]; first | assumption | (exact shp_fok (by first | assumption | exact shp_sr _ _ (by assumption) | exact shp_sr _ _ (shp_sr _ _ (by assumption)) | exact shp_sr _ _ (shp_sr _ _ (shp_sr _ _ (by assumption)))) (by decide))) | (refine shp_aok (by first | assumption | exact shp_sr _ _ (by assumption) | exact shp_sr _ _ (shp_sr _ _ (by assumption)) | exact shp_sr _ _ (shp_sr _ _ (shp_sr _ _ (by assumption)))) rfl rfl ?_ ?_ <;> omega) | (exact shp_sr _ _ (by assumption)) | (exact shp_sr _ _ (shp_sr _ _ (by assumption))) | (exact shp_sr _ _ (shp_sr _ _ (shp_sr _ _ (by assumption)))) | (left; assumption) | (exact b2i_or _) | (simp; done)) only [e108_115, e108_116, e108_119, e108_140, e108_141, eq_self, ne_a, ne_b, ne_c, Nat.reduceEqDiff, lt0, bnd_ok, psh_I, psh_L, psh_R, psh_U, gt_sr, gr_sr, sk_sr, nn_sr, ↓reduceIte, Int.toNat_natCast, Int.reduceToNat, ec, h4]
    · intro k hk hk' ih
      have ec := m_cells (sx1 (upto k w w0)) ho
      have w5 : wr ((k : Int) + 1) = (k : Int) + 1 := wr_id (by omega) (by omega)
      have u := upto_s k w w0 (w k) rfl
      rw [e108_114]
      simp (disch := first | assumption | omega | (exact shp_fok (by first | assumption | exact shp_sr _ _ (by assumption) | exact shp_sr _ _ (shp_sr _ _ (by assumption)) | exact shp_sr _ _ (shp_sr _ _ (shp_sr _ _ (by assumption)))) (by decide)) | (simp only [fok_sr, aok_sr]; first | assumption | (exact shp_fok (by first | assumption | exact shp_sr _ _ (by assumption) | exact shp_sr _ _ (shp_sr _ _ (by assumption)) | exact shp_sr _ _ (shp_sr _ _ (shp_sr _ _ (by assumption)))) (by decide))) | (refine shp_aok (by first | assumption | exact shp_sr _ _ (by assumption) | exact shp_sr _ _ (shp_sr _ _ (by assumption)) | exact shp_sr _ _ (shp_sr _ _ (shp_sr _ _ (by assumption)))) rfl rfl ?_ ?_ <;> omega) | (exact shp_sr _ _ (by assumption)) | (exact shp_sr _ _ (shp_sr _ _ (by assumption))) | (exact shp_sr _ _ (shp_sr _ _ (shp_sr _ _ (by assumption)))) | (left; assumption) | (exact b2i_or _) | (simp; done)) only [e108_115, e108_116, e108_119, e108_122, e108_123, e108_126, e108_127, e108_128, e108_131, e108_132, e108_133, e108_134, e108_137, eq_self, ne_a, ne_b, ne_c, Nat.reduceEqDiff, lt0, bnd_ok, psh_I, psh_L, psh_R, psh_U, gt_sr, gr_sr, sk_sr, nn_sr, ↓reduceIte, Int.toNat_natCast, Int.reduceToNat, ec, hk', g24_11, g24_12, hnow1, u, w5, sr_sr]
      exact ih
  -- the third
  have hF0 : ∀ i, i < dR e * dC e → upto (dn_ e) w w0 i = w i := by
    intro i hi
    unfold upto
    rw [if_pos (show i < dn_ e from hi)]
  generalize upto (dn_ e) w w0 = F0 at *
  have C : ∀ q3 q4 q5, ∃ q3' q4' q5', run 108 142 [vR 24, vI (kin hh), vI 0, q3, q4, q5] [] (sr σ1 30 (it3 (dR e) (dC e) (dfe e) hh w 0 F0)) = run 108 309 [vR 24, vI (kin hh), vI 0, q3', q4', q5'] [] (sr σ1 30 (it3 (dR e) (dC e) (dfe e) hh w (dn_ e) F0)) := by
    refine bk (P := fun k z => ∀ q3 q4 q5, ∃ q3' q4' q5', run 108 142 [vR 24, vI (kin hh), vI z, q3, q4, q5] [] (sr σ1 30 (it3 (dR e) (dC e) (dfe e) hh w k F0)) = run 108 309 [vR 24, vI (kin hh), vI 0, q3', q4', q5'] [] (sr σ1 30 (it3 (dR e) (dC e) (dfe e) hh w (dn_ e) F0))) (n := dn_ e) ?_ ?_
    · intro q3 q4 q5
      refine ⟨q3, q4, q5, ?_⟩
      have ec := m_cells (sx1 (it3 (dR e) (dC e) (dfe e) hh w (dn_ e) F0)) ho
      have h4 : ¬ ((dn_ e : Nat) : Int) < ((dn_ e : Nat) : Int) := by omega
      rw [e108_142]
      simp (disch := first | assumption | omega | (exact shp_fok (by first | assumption | exact shp_sr _ _ (by assumption) | exact shp_sr _ _ (shp_sr _ _ (by assumption)) | exact shp_sr _ _ (shp_sr _ _ (shp_sr _ _ (by assumption)))) (by decide)) | (simp only [fok_sr, aok_sr]; first | assumption | (exact shp_fok (by first | assumption | exact shp_sr _ _ (by assumption) | exact shp_sr _ _ (shp_sr _ _ (by assumption)) | exact shp_sr _ _ (shp_sr _ _ (shp_sr _ _ (by assumption)))) (by decide))) | (refine shp_aok (by first | assumption | exact shp_sr _ _ (by assumption) | exact shp_sr _ _ (shp_sr _ _ (by assumption)) | exact shp_sr _ _ (shp_sr _ _ (shp_sr _ _ (by assumption)))) rfl rfl ?_ ?_ <;> omega) | (exact shp_sr _ _ (by assumption)) | (exact shp_sr _ _ (shp_sr _ _ (by assumption))) | (exact shp_sr _ _ (shp_sr _ _ (shp_sr _ _ (by assumption)))) | (left; assumption) | (exact b2i_or _) | (simp; done)) only [e108_143, e108_144, e108_147, e108_307, e108_308, eq_self, ne_a, ne_b, ne_c, Nat.reduceEqDiff, lt0, bnd_ok, psh_I, psh_L, psh_R, psh_U, gt_sr, gr_sr, sk_sr, nn_sr, ↓reduceIte, Int.toNat_natCast, Int.reduceToNat, ec, h4]
    · intro k hk hk' ih q3 q4 q5
      obtain ⟨q3', q4', q5', e2⟩ := m_passC hf1 ho hk hnow1 hwt (it3_bd h24 ho.2.1.1 hwt hF0 (k := k) (by unfold dn_ at hk; omega)) h05 q3 q4 q5
      obtain ⟨q6, q7, q8, e3⟩ := ih q3' q4' q5'
      exact ⟨q6, q7, q8, e2.trans e3⟩
  have hps := it3_psm h24 (dfe e) hh (dme e) (dt e) (F := F0) (by rw [hw]; exact hF0)
  rw [hw] at hps
  have hit0 : it3 (dR e) (dC e) (dfe e) hh w 0 F0 = F0 := rfl
  rw [hit0] at C
  have hps' : ∀ i, i < dn_ e → it3 (dR e) (dC e) (dfe e) hh w (dn_ e) F0 i = psm (dR e) (dC e) (dfe e) (dme e) hh (dt e) i := hps
  generalize it3 (dR e) (dC e) (dfe e) hh w (dn_ e) F0 = G at *
  -- the fourth
  have sx2 := fun (F : Nat → Int) => nowR_fix (sx1 G) (chg_sr (S := [29]) (q := 29) (f := F) (chg_rf [29] (sr σ1 30 G)) (by simp)) (by simp)
  have D : ∀ q3 q4 q5, run 108 309 [vR 24, vI (kin hh), vI 0, q3, q4, q5] [] (sr (sr σ1 30 G) 29 (upto 0 G w)) = some (vU, sr (sr σ1 30 G) 29 (upto (dn_ e) G w)) := by
    intro q3 q4 q5
    refine bk (P := fun k z => run 108 309 [vR 24, vI (kin hh), vI z, q3, q4, q5] [] (sr (sr σ1 30 G) 29 (upto k G w)) = some (vU, sr (sr σ1 30 G) 29 (upto (dn_ e) G w))) (n := dn_ e) ?_ ?_
    · have ec := m_cells (sx2 (upto (dn_ e) G w)) ho
      have h4 : ¬ ((dn_ e : Nat) : Int) < ((dn_ e : Nat) : Int) := by omega
      rw [e108_309]
      simp (disch := first | assumption | omega | (exact shp_fok (by first | assumption | exact shp_sr _ _ (by assumption) | exact shp_sr _ _ (shp_sr _ _ (by assumption)) | exact shp_sr _ _ (shp_sr _ _ (shp_sr _ _ (by assumption)))) (by decide)) | (simp only [fok_sr, aok_sr]; first | assumption | (exact shp_fok (by first | assumption | exact shp_sr _ _ (by assumption) | exact shp_sr _ _ (shp_sr _ _ (by assumption)) | exact shp_sr _ _ (shp_sr _ _ (shp_sr _ _ (by assumption)))) (by decide))) | (refine shp_aok (by first | assumption | exact shp_sr _ _ (by assumption) | exact shp_sr _ _ (shp_sr _ _ (by assumption)) | exact shp_sr _ _ (shp_sr _ _ (shp_sr _ _ (by assumption)))) rfl rfl ?_ ?_ <;> omega) | (exact shp_sr _ _ (by assumption)) | (exact shp_sr _ _ (shp_sr _ _ (by assumption))) | (exact shp_sr _ _ (shp_sr _ _ (shp_sr _ _ (by assumption)))) | (left; assumption) | (exact b2i_or _) | (simp; done)) only [e108_310, e108_311, e108_314, e108_335, eq_self, ne_a, ne_b, ne_c, Nat.reduceEqDiff, lt0, bnd_ok, psh_I, psh_L, psh_R, psh_U, gt_sr, gr_sr, sk_sr, nn_sr, ↓reduceIte, Int.toNat_natCast, Int.reduceToNat, ec, h4]
    · intro k hk hk' ih
      have ec := m_cells (sx2 (upto k G w)) ho
      have w5 : wr ((k : Int) + 1) = (k : Int) + 1 := wr_id (by omega) (by omega)
      have u := upto_s k G w (G k) rfl
      rw [e108_309]
      simp (disch := first | assumption | omega | (exact shp_fok (by first | assumption | exact shp_sr _ _ (by assumption) | exact shp_sr _ _ (shp_sr _ _ (by assumption)) | exact shp_sr _ _ (shp_sr _ _ (shp_sr _ _ (by assumption)))) (by decide)) | (simp only [fok_sr, aok_sr]; first | assumption | (exact shp_fok (by first | assumption | exact shp_sr _ _ (by assumption) | exact shp_sr _ _ (shp_sr _ _ (by assumption)) | exact shp_sr _ _ (shp_sr _ _ (shp_sr _ _ (by assumption)))) (by decide))) | (refine shp_aok (by first | assumption | exact shp_sr _ _ (by assumption) | exact shp_sr _ _ (shp_sr _ _ (by assumption)) | exact shp_sr _ _ (shp_sr _ _ (shp_sr _ _ (by assumption)))) rfl rfl ?_ ?_ <;> omega) | (exact shp_sr _ _ (by assumption)) | (exact shp_sr _ _ (shp_sr _ _ (by assumption))) | (exact shp_sr _ _ (shp_sr _ _ (shp_sr _ _ (by assumption)))) | (left; assumption) | (exact b2i_or _) | (simp; done)) only [e108_310, e108_311, e108_314, e108_317, e108_318, e108_321, e108_322, e108_323, e108_326, e108_327, e108_328, e108_329, e108_332, eq_self, ne_a, ne_b, ne_c, Nat.reduceEqDiff, lt0, bnd_ok, psh_I, psh_L, psh_R, psh_U, gt_sr, gr_sr, sk_sr, nn_sr, ↓reduceIte, Int.toNat_natCast, Int.reduceToNat, ec, hk', g24_11, g24_12, u, w5, sr_sr]
      exact ih
  have hfin : upto (dn_ e) G w = psm (dR e) (dC e) (dfe e) (dme e) hh (dt e) := by
    funext i
    unfold upto
    by_cases hi : i < dn_ e
    · rw [if_pos hi]; exact hps' i hi
    · rw [if_neg hi, zr_psm ho hh i (by omega), ← hw]
      unfold melt1 upto
      rw [if_neg (by unfold dn_ at hi; exact hi)]
      exact ok_zt ho i (by omega)
  rw [upto_0, sr_self (sr σ1 30 G) 29 w (by rw [gt_n _ _ (by decide)]; exact hnow1.symm)] at D
  rw [upto_0, ← ho30, sr_self σ1 30 _ rfl] at B
  rw [upto_0] at A
  have hσ : sr σ 29 (dt e) = σ := sr_self σ 29 _ hnow.symm
  rw [hσ] at A
  obtain ⟨a3, a4, a5, eA⟩ := A vU vU vU
  have eB := B a3 a4 a5
  obtain ⟨c3, c4, c5, eC⟩ := C a3 a4 a5
  have eD := D c3 c4 c5
  refine ⟨sr (sr σ1 30 G) 29 (upto (dn_ e) G w), ?_, ?_, ?_⟩
  · rw [← eD, ← eC, ← eB, ← eA]
    simp (disch := first | assumption | omega | (exact shp_fok (by first | assumption | exact shp_sr _ _ (by assumption) | exact shp_sr _ _ (shp_sr _ _ (by assumption)) | exact shp_sr _ _ (shp_sr _ _ (shp_sr _ _ (by assumption)))) (by decide)) | (simp only [fok_sr, aok_sr]; first | assumption | (exact shp_fok (by first | assumption | exact shp_sr _ _ (by assumption) | exact shp_sr _ _ (shp_sr _ _ (by assumption)) | exact shp_sr _ _ (shp_sr _ _ (shp_sr _ _ (by assumption)))) (by decide))) | (refine shp_aok (by first | assumption | exact shp_sr _ _ (by assumption) | exact shp_sr _ _ (shp_sr _ _ (by assumption)) | exact shp_sr _ _ (shp_sr _ _ (shp_sr _ _ (by assumption)))) rfl rfl ?_ ?_ <;> omega) | (exact shp_sr _ _ (by assumption)) | (exact shp_sr _ _ (shp_sr _ _ (by assumption))) | (exact shp_sr _ _ (shp_sr _ _ (shp_sr _ _ (by assumption)))) | (left; assumption) | (exact b2i_or _) | (simp; done)) only [e108_0, e108_1, eq_self, ne_a, ne_b, ne_c, Nat.reduceEqDiff, lt0, bnd_ok, psh_I, psh_L, psh_R, psh_U, gt_sr, gr_sr, sk_sr, nn_sr, ↓reduceIte, Int.toNat_natCast, Int.reduceToNat]
  · rw [← hσ1]
    exact chg_sr (chg_sr (chg_sr (chg_rf _ _) (by simp)) (by simp)) (by simp)
  · refine ⟨sx2 _, by rw [gt_e]; exact hfin, ?_, ok_pas ho hh⟩
    rw [gt_n _ _ (by decide), gt_n _ _ (by decide), ← hσ1, gt_n _ _ (by decide)]
    exact hlit
