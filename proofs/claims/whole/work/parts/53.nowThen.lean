/-! the fewest cuts now, of the class -/
set_option maxRecDepth 100000 in
set_option maxHeartbeats 8000000 in
set_option maxRecDepth 100000 in
set_option maxHeartbeats 4000000 in
theorem c_fewestCuts {σ : St} {d : Dat} {cn : Nat} {sg : Nat → Int} (h : CS σ d cn sg) (ha : alh cn sg = true) {s : Nat} (hs4 : s < 4) (h3 : ctN (selW d s) 24 ≤ 3) : ∃ σ' R, run 49 0 [vR 1, vI (s : Int), vU, vU, vU] [] σ = some (vI R, σ') ∧ isB (GS (selW d s) (goodW d sg cn s)) R ∧ chg (21 :: SW) σ σ' ∧ jb σ' 10 := by
  obtain ⟨a1, a5, a6, a7⟩ := id h
  have hs := a1.1
  have h24 := dn24 a6
  have hsel := selW_n d s
  have hcn := ct_n24 h24 hsel
  have hsd : ∀ c, c < dn_ d → selW d s c = decide (dwa d (s * 24 + c) ≠ -1) := fun c hc => by unfold selW; rw [decide_eq_true hc, Bool.true_and]
  have sbc := fun (σ0 τ0 : St) hI (x : Nat) hx => c_standsByCuts (σ0 := σ0) (τ0 := τ0) (s := s) (x := x) hI a6 ha hs4 h3 hx
  generalize hp : selW d s = p at *
  have hct := ct_24 p
  have d2 : gt σ 2 2 = ((dn_ d : Nat) : Int) := a5.2.1.2.2.1
  -- who is picked
  have A : ∀ a : Nat → Int, arrF p 0 a → ∀ q4, ∃ b, arrF p (dn_ d) b ∧ run 49 4 [vR 1, vI (s : Int), vI (ctN p 0 : Nat), vI 0, q4] [] (sr σ 21 a) = run 49 46 [vR 1, vI (s : Int), vI (ctN p (dn_ d) : Nat), vI (dn_ d : Nat), q4] [] (sr σ 21 b) := by
    refine bk (P := fun k z => ∀ a : Nat → Int, arrF p k a → ∀ q4, ∃ b, arrF p (dn_ d) b ∧ run 49 4 [vR 1, vI (s : Int), vI (ctN p k : Nat), vI z, q4] [] (sr σ 21 a) = run 49 46 [vR 1, vI (s : Int), vI (ctN p (dn_ d) : Nat), vI (dn_ d : Nat), q4] [] (sr σ 21 b)) (n := dn_ d) ?_ ?_
    · intro a har q4
      have h4 : ¬ ((dn_ d : Nat) : Int) < ((dn_ d : Nat) : Int) := by omega
      refine ⟨a, har, ?_⟩
      rw [e49_4]
      simp (disch := first | assumption | omega | (exact shp_fok (by first | assumption | exact shp_sr _ _ (by assumption) | exact shp_sr _ _ (shp_sr _ _ (by assumption)) | exact shp_sr _ _ (shp_sr _ _ (shp_sr _ _ (by assumption)))) (by decide)) | (simp only [fok_sr, aok_sr]; first | assumption | (exact shp_fok (by first | assumption | exact shp_sr _ _ (by assumption) | exact shp_sr _ _ (shp_sr _ _ (by assumption)) | exact shp_sr _ _ (shp_sr _ _ (shp_sr _ _ (by assumption)))) (by decide))) | (refine shp_aok (by first | assumption | exact shp_sr _ _ (by assumption) | exact shp_sr _ _ (shp_sr _ _ (by assumption)) | exact shp_sr _ _ (shp_sr _ _ (shp_sr _ _ (by assumption)))) rfl rfl ?_ ?_ <;> omega) | (exact shp_sr _ _ (by assumption)) | (exact shp_sr _ _ (shp_sr _ _ (by assumption))) | (exact shp_sr _ _ (shp_sr _ _ (shp_sr _ _ (by assumption)))) | (left; assumption) | (exact b2i_or _) | (simp; done)) only [e49_5, e49_6, e49_9, e49_12, eq_self, ne_a, ne_b, ne_c, Nat.reduceEqDiff, lt0, bnd_ok, psh_I, psh_L, psh_R, psh_U, gt_sr, gr_sr, sk_sr, nn_sr, ↓reduceIte, Int.toNat_natCast, Int.reduceToNat, g1_0, d2, h4]
    · intro k hk hk' ih a har q4
      have w5 : wr ((k : Int) + 1) = (k : Int) + 1 := wr_id (by omega) (by omega)
      have cB0 : chg [21] σ (sr σ 21 a) := chg_sr (chg_rf _ _) (by simp)
      have a5k := rep_chg cB0 (b := 2) (by intro i hi _; simp; omega) a5
      have at1 := c_wantsR a5k hs4 (show k < 24 by omega)
      have hk9 := hsd k hk
      have hcm := (ct_mono p 0 k).2
      have hc0 : ctN p 0 = 0 := rfl
      rw [Nat.zero_add] at hcm
      have hcs : ctN p (k + 1) = ctN p k + (if p k = true then 1 else 0) := rfl
      by_cases hl : dwa d (s * 24 + k) = -1
      · rw [decide_eq_false (fun e => e hl)] at hk9
        rw [hk9, if_neg Bool.false_ne_true] at hcs
        have hcs' : ctN p (k + 1) = ctN p k := by omega
        obtain ⟨b, hb1, hb2⟩ := ih _ (arr_n har hk9) q4
        refine ⟨b, hb1, ?_⟩
        rw [hcs'] at hb2
        rw [← hb2, e49_4]
        simp (disch := first | assumption | omega | (exact shp_fok (by first | assumption | exact shp_sr _ _ (by assumption) | exact shp_sr _ _ (shp_sr _ _ (by assumption)) | exact shp_sr _ _ (shp_sr _ _ (shp_sr _ _ (by assumption)))) (by decide)) | (simp only [fok_sr, aok_sr]; first | assumption | (exact shp_fok (by first | assumption | exact shp_sr _ _ (by assumption) | exact shp_sr _ _ (shp_sr _ _ (by assumption)) | exact shp_sr _ _ (shp_sr _ _ (shp_sr _ _ (by assumption)))) (by decide))) | (refine shp_aok (by first | assumption | exact shp_sr _ _ (by assumption) | exact shp_sr _ _ (shp_sr _ _ (by assumption)) | exact shp_sr _ _ (shp_sr _ _ (shp_sr _ _ (by assumption)))) rfl rfl ?_ ?_ <;> omega) | (exact shp_sr _ _ (by assumption)) | (exact shp_sr _ _ (shp_sr _ _ (by assumption))) | (exact shp_sr _ _ (shp_sr _ _ (shp_sr _ _ (by assumption)))) | (left; assumption) | (exact b2i_or _) | (simp; done)) only [e49_5, e49_6, e49_9, e49_12, e49_15, e49_16, e49_19, e49_20, e49_21, e49_24, e49_25, e49_28, e49_29, e49_32, e49_33, e49_34, e49_37, e49_40, e49_43, eq_self, ne_a, ne_b, ne_c, Nat.reduceEqDiff, lt0, bnd_ok, psh_I, psh_L, psh_R, psh_U, gt_sr, gr_sr, sk_sr, nn_sr, ↓reduceIte, Int.toNat_natCast, Int.reduceToNat, g1_0, d2, hk', at1, hl, w5]
      · rw [decide_eq_true hl] at hk9
        rw [hk9, if_pos rfl] at hcs
        obtain ⟨b, hb1, hb2⟩ := ih _ (arr_s har hk9) q4
        refine ⟨b, hb1, ?_⟩
        have p1 := c_putN (σ := sr σ 21 a) (shp_ia (k := 21) (n := 24) (σ := sr σ 21 a) hs (by decide)) (j := ctN p k) (by omega) (k : Int)
        rw [gt_e, sr_sr] at p1
        have w6 : wr ((ctN p k : Int) + 1) = ((ctN p (k + 1) : Nat) : Int) := by rw [hcs, wr_id (by omega) (by omega)]; omega
        rw [← hb2, e49_4]
        simp (disch := first | assumption | omega | (exact shp_fok (by first | assumption | exact shp_sr _ _ (by assumption) | exact shp_sr _ _ (shp_sr _ _ (by assumption)) | exact shp_sr _ _ (shp_sr _ _ (shp_sr _ _ (by assumption)))) (by decide)) | (simp only [fok_sr, aok_sr]; first | assumption | (exact shp_fok (by first | assumption | exact shp_sr _ _ (by assumption) | exact shp_sr _ _ (shp_sr _ _ (by assumption)) | exact shp_sr _ _ (shp_sr _ _ (shp_sr _ _ (by assumption)))) (by decide))) | (refine shp_aok (by first | assumption | exact shp_sr _ _ (by assumption) | exact shp_sr _ _ (shp_sr _ _ (by assumption)) | exact shp_sr _ _ (shp_sr _ _ (shp_sr _ _ (by assumption)))) rfl rfl ?_ ?_ <;> omega) | (exact shp_sr _ _ (by assumption)) | (exact shp_sr _ _ (shp_sr _ _ (by assumption))) | (exact shp_sr _ _ (shp_sr _ _ (shp_sr _ _ (by assumption)))) | (left; assumption) | (exact b2i_or _) | (simp; done)) only [e49_5, e49_6, e49_9, e49_12, e49_15, e49_16, e49_19, e49_20, e49_21, e49_24, e49_25, e49_28, e49_29, e49_32, e49_33, e49_34, e49_37, e49_40, e49_43, eq_self, ne_a, ne_b, ne_c, Nat.reduceEqDiff, lt0, bnd_ok, psh_I, psh_L, psh_R, psh_U, gt_sr, gr_sr, sk_sr, nn_sr, ↓reduceIte, Int.toNat_natCast, Int.reduceToNat, g1_0, g1_4, d2, hk', at1, hl, p1, w5, w6]
  obtain ⟨b, hb1, hb2⟩ := A (gt σ 21) (fun k hk => absurd hk (Nat.not_lt_zero k)) vU
  rw [sr_self σ 21 _ rfl, hcn] at hb2
  have harr := arr_24 hsel hb1
  -- the trial bank
  have cB : chg [21] σ (sr σ 21 b) := chg_sr (chg_rf _ _) (by simp)
  have a5' := rep_chg cB (b := 2) (by intro i hi _; simp; omega) a5
  have a7' := jb_chg cB (b := 10) (by intro i hi _; simp; omega) a7
  obtain ⟨σ1, e1, c1, r1⟩ := c_copyAll a7' a5' a6 (by omega)
  have c01 : chg (21 :: SW) σ σ1 := chg_tr (chg_mo cB (by simp)) c1 (by decide)
  have I1 : srI σ σ1 d cn sg p := ⟨npd_chg c01 (by decide) (by decide) a1, rep_chg c01 (b := 2) (by intro i hi _; simp [SW]; omega) a5, ⟨dt d, dla d, r1, a6⟩, by rw [chg_gt c1 (by simp), gt_e]; exact harr⟩
  clear A hb1 a5' a7' r1 harr d2
  have hstart : run 49 0 [vR 1, vI (s : Int), vU, vU, vU] [] σ = run 49 59 [vR 1, vI (s : Int), vI (ctN p 24 : Nat), vI 0, vU] [] σ1 := by
    have hc0 : ((ctN p 0 : Nat) : Int) = 0 := rfl
    rw [hc0] at hb2
    simp (disch := first | assumption | omega | (exact shp_fok (by first | assumption | exact shp_sr _ _ (by assumption) | exact shp_sr _ _ (shp_sr _ _ (by assumption)) | exact shp_sr _ _ (shp_sr _ _ (shp_sr _ _ (by assumption)))) (by decide)) | (simp only [fok_sr, aok_sr]; first | assumption | (exact shp_fok (by first | assumption | exact shp_sr _ _ (by assumption) | exact shp_sr _ _ (shp_sr _ _ (by assumption)) | exact shp_sr _ _ (shp_sr _ _ (shp_sr _ _ (by assumption)))) (by decide))) | (refine shp_aok (by first | assumption | exact shp_sr _ _ (by assumption) | exact shp_sr _ _ (shp_sr _ _ (by assumption)) | exact shp_sr _ _ (shp_sr _ _ (shp_sr _ _ (by assumption)))) rfl rfl ?_ ?_ <;> omega) | (exact shp_sr _ _ (by assumption)) | (exact shp_sr _ _ (shp_sr _ _ (by assumption))) | (exact shp_sr _ _ (shp_sr _ _ (shp_sr _ _ (by assumption)))) | (left; assumption) | (exact b2i_or _) | (simp; done)) only [e49_0, e49_1, e49_2, e49_3, eq_self, ne_a, ne_b, ne_c, Nat.reduceEqDiff, lt0, bnd_ok, psh_I, psh_L, psh_R, psh_U, gt_sr, gr_sr, sk_sr, nn_sr, ↓reduceIte, Int.toNat_natCast, Int.reduceToNat]
    rw [hb2]
    simp (disch := first | assumption | omega | (exact shp_fok (by first | assumption | exact shp_sr _ _ (by assumption) | exact shp_sr _ _ (shp_sr _ _ (by assumption)) | exact shp_sr _ _ (shp_sr _ _ (shp_sr _ _ (by assumption)))) (by decide)) | (simp only [fok_sr, aok_sr]; first | assumption | (exact shp_fok (by first | assumption | exact shp_sr _ _ (by assumption) | exact shp_sr _ _ (shp_sr _ _ (by assumption)) | exact shp_sr _ _ (shp_sr _ _ (shp_sr _ _ (by assumption)))) (by decide))) | (refine shp_aok (by first | assumption | exact shp_sr _ _ (by assumption) | exact shp_sr _ _ (shp_sr _ _ (by assumption)) | exact shp_sr _ _ (shp_sr _ _ (shp_sr _ _ (by assumption)))) rfl rfl ?_ ?_ <;> omega) | (exact shp_sr _ _ (by assumption)) | (exact shp_sr _ _ (shp_sr _ _ (by assumption))) | (exact shp_sr _ _ (shp_sr _ _ (shp_sr _ _ (by assumption)))) | (left; assumption) | (exact b2i_or _) | (simp; done)) only [e49_46, e49_47, e49_50, e49_51, e49_54, e49_57, e49_58, eq_self, ne_a, ne_b, ne_c, Nat.reduceEqDiff, lt0, bnd_ok, psh_I, psh_L, psh_R, psh_U, gt_sr, gr_sr, sk_sr, nn_sr, ↓reduceIte, Int.toNat_natCast, Int.reduceToNat, g1_0, g1_1, e1]
  clear hb2 c1 cB
  generalize hm : ctN p 24 = m at *
  have hm2 : 2 ^ m ≤ 256 := Nat.le_trans (Nat.pow_le_pow_right (i := m) (j := 3) (by omega) h3) (by decide)
  have hm1 : 1 ≤ 2 ^ m := Nat.one_le_two_pow
  have o1 := bShl_N (a := 1) (k := m) (by omega) (by omega) (by omega)
  rw [Nat.one_mul, show ((1 : Nat) : Int) = 1 from rfl] at o1
  have hpc := fun x (hx : x < 2 ^ m) => pc_le hx (show m ≤ 24 by omega)
  have hE := fun x => exB_lt p x 24
  have S : (∀ x, x < 2 ^ m → goodW d sg cn s (exB p x 24) → ((0 : Nat) : Int) ≤ pcN x) → ∀ q4 τ, srI σ τ d cn sg p → ∃ τ' R, run 49 59 [vR 1, vI (s : Int), vI (m : Int), vI 0, q4] [] τ = some (vI R, τ') ∧ isB (GS p (goodW d sg cn s)) R ∧ chg SW τ τ' ∧ trR τ' d := by
    refine bk (P := fun z9 z => (∀ x, x < 2 ^ m → goodW d sg cn s (exB p x 24) → (z9 : Int) ≤ pcN x) → ∀ q4 τ, srI σ τ d cn sg p → ∃ τ' R, run 49 59 [vR 1, vI (s : Int), vI (m : Int), vI z, q4] [] τ = some (vI R, τ') ∧ isB (GS p (goodW d sg cn s)) R ∧ chg SW τ τ' ∧ trR τ' d) (n := m + 1) ?_ ?_
    · intro hno q4 τ hI
      refine ⟨τ, -6, ?_, isB_no (fun x hx hg => ?_), chg_rf _ _, hI.2.2.1⟩
      · have h4 : (m : Int) < ((m + 1 : Nat) : Int) := by omega
        rw [e49_59]
        simp (disch := first | assumption | omega | (exact shp_fok (by first | assumption | exact shp_sr _ _ (by assumption) | exact shp_sr _ _ (shp_sr _ _ (by assumption)) | exact shp_sr _ _ (shp_sr _ _ (shp_sr _ _ (by assumption)))) (by decide)) | (simp only [fok_sr, aok_sr]; first | assumption | (exact shp_fok (by first | assumption | exact shp_sr _ _ (by assumption) | exact shp_sr _ _ (shp_sr _ _ (by assumption)) | exact shp_sr _ _ (shp_sr _ _ (shp_sr _ _ (by assumption)))) (by decide))) | (refine shp_aok (by first | assumption | exact shp_sr _ _ (by assumption) | exact shp_sr _ _ (shp_sr _ _ (by assumption)) | exact shp_sr _ _ (shp_sr _ _ (shp_sr _ _ (by assumption)))) rfl rfl ?_ ?_ <;> omega) | (exact shp_sr _ _ (by assumption)) | (exact shp_sr _ _ (shp_sr _ _ (by assumption))) | (exact shp_sr _ _ (shp_sr _ _ (shp_sr _ _ (by assumption)))) | (left; assumption) | (exact b2i_or _) | (simp; done)) only [e49_60, e49_61, e49_115, e49_117, eq_self, ne_a, ne_b, ne_c, Nat.reduceEqDiff, lt0, bnd_ok, psh_I, psh_L, psh_R, psh_U, gt_sr, gr_sr, sk_sr, nn_sr, ↓reduceIte, Int.toNat_natCast, Int.reduceToNat, h4]
      · rw [hm] at hx
        have h1 := hno x hx hg
        have h2 := (hpc x hx).2
        omega
    · intro z9 hz hz' ih hno q4 τ hI
      have h4 : ¬ (m : Int) < (z9 : Int) := by omega
      have w5 : wr ((z9 : Int) + 1) = (z9 : Int) + 1 := wr_id (by omega) (by omega)
      have inner : (∀ x, x < 0 → ¬ (goodW d sg cn s (exB p x 24) ∧ pcN x = (z9 : Int))) → ∀ τ, srI σ τ d cn sg p → ∃ τ' R, run 49 67 [vR 1, vI (s : Int), vI (m : Int), vI (z9 : Int), vI 0] [] τ = some (vI R, τ') ∧ isB (GS p (goodW d sg cn s)) R ∧ chg SW τ τ' ∧ trR τ' d := by
        refine bk (P := fun x z => (∀ x', x' < x → ¬ (goodW d sg cn s (exB p x' 24) ∧ pcN x' = (z9 : Int))) → ∀ τ, srI σ τ d cn sg p → ∃ τ' R, run 49 67 [vR 1, vI (s : Int), vI (m : Int), vI (z9 : Int), vI z] [] τ = some (vI R, τ') ∧ isB (GS p (goodW d sg cn s)) R ∧ chg SW τ τ' ∧ trR τ' d) (n := 2 ^ m) ?_ ?_
        · intro hno2 τ hI
          have h6 : ¬ ((2 ^ m : Nat) : Int) < ((2 ^ m : Nat) : Int) := by omega
          obtain ⟨τ', R, e9, i9, c9, t9⟩ := ih (fun x hx hg => by
            have g1 := hno x hx hg
            have g2 := hno2 x hx
            by_cases g3 : pcN x = (z9 : Int)
            · exact absurd ⟨hg, g3⟩ g2
            · omega) (vI ((2 ^ m : Nat) : Int)) τ hI
          refine ⟨τ', R, ?_, i9, c9, t9⟩
          rw [e49_67]
          simp (disch := first | assumption | omega | (exact shp_fok (by first | assumption | exact shp_sr _ _ (by assumption) | exact shp_sr _ _ (shp_sr _ _ (by assumption)) | exact shp_sr _ _ (shp_sr _ _ (shp_sr _ _ (by assumption)))) (by decide)) | (simp only [fok_sr, aok_sr]; first | assumption | (exact shp_fok (by first | assumption | exact shp_sr _ _ (by assumption) | exact shp_sr _ _ (shp_sr _ _ (by assumption)) | exact shp_sr _ _ (shp_sr _ _ (shp_sr _ _ (by assumption)))) (by decide))) | (refine shp_aok (by first | assumption | exact shp_sr _ _ (by assumption) | exact shp_sr _ _ (shp_sr _ _ (by assumption)) | exact shp_sr _ _ (shp_sr _ _ (shp_sr _ _ (by assumption)))) rfl rfl ?_ ?_ <;> omega) | (exact shp_sr _ _ (by assumption)) | (exact shp_sr _ _ (shp_sr _ _ (by assumption))) | (exact shp_sr _ _ (shp_sr _ _ (shp_sr _ _ (by assumption)))) | (left; assumption) | (exact b2i_or _) | (simp; done)) only [e49_69, e49_70, e49_71, e49_72, e49_109, e49_112, eq_self, ne_a, ne_b, ne_c, Nat.reduceEqDiff, lt0, bnd_ok, psh_I, psh_L, psh_R, psh_U, gt_sr, gr_sr, sk_sr, nn_sr, ↓reduceIte, Int.toNat_natCast, Int.reduceToNat, o1, h6, w5]
          exact e9
        · intro x hx hx' ih2 hno2 τ hI
          have w6 : wr ((x : Int) + 1) = (x : Int) + 1 := wr_id (by omega) (by omega)
          have b1 := c_bitCount (a := x) (by omega) τ
          have ht := hI.1.1
          by_cases g1 : pcN x = (z9 : Int)
          · obtain ⟨τ1, r, e2, i2, c2, t2⟩ := sbc σ τ hI x hx
            have I2 := srI_chg hI c2 t2
            have ht2 := I2.1.1
            cases r with
            | true =>
              have hg := i2.mp rfl
              have pb2 := c_pickedBits ht2 I2.2.2.2 (x := x) (by omega)
              rw [hm] at pb2
              refine ⟨τ1, ((exB p x 24 : Nat) : Int), ?_, isB_of (by omega) (by rw [hm]; exact hx) hg (fun x' hx9 hg' => ?_), c2, t2⟩
              · rw [e49_67]
                simp (disch := first | assumption | omega | (exact shp_fok (by first | assumption | exact shp_sr _ _ (by assumption) | exact shp_sr _ _ (shp_sr _ _ (by assumption)) | exact shp_sr _ _ (shp_sr _ _ (shp_sr _ _ (by assumption)))) (by decide)) | (simp only [fok_sr, aok_sr]; first | assumption | (exact shp_fok (by first | assumption | exact shp_sr _ _ (by assumption) | exact shp_sr _ _ (shp_sr _ _ (by assumption)) | exact shp_sr _ _ (shp_sr _ _ (shp_sr _ _ (by assumption)))) (by decide))) | (refine shp_aok (by first | assumption | exact shp_sr _ _ (by assumption) | exact shp_sr _ _ (shp_sr _ _ (by assumption)) | exact shp_sr _ _ (shp_sr _ _ (shp_sr _ _ (by assumption)))) rfl rfl ?_ ?_ <;> omega) | (exact shp_sr _ _ (by assumption)) | (exact shp_sr _ _ (shp_sr _ _ (by assumption))) | (exact shp_sr _ _ (shp_sr _ _ (shp_sr _ _ (by assumption)))) | (left; assumption) | (exact b2i_or _) | (simp; done)) only [e49_69, e49_70, e49_71, e49_72, e49_75, e49_77, e49_80, e49_81, e49_84, e49_85, e49_86, e49_88, e49_89, e49_92, e49_95, e49_96, e49_98, e49_99, e49_102, e49_103, e49_106, eq_self, ne_a, ne_b, ne_c, Nat.reduceEqDiff, lt0, bnd_ok, psh_I, psh_L, psh_R, psh_U, gt_sr, gr_sr, sk_sr, nn_sr, ↓reduceIte, Int.toNat_natCast, Int.reduceToNat, o1, hx', b1, g1, e2, b2i_t, pb2, Int.reduceEq]
              · rw [hm] at hx9
                have g4 := hno x' hx9 hg'
                by_cases g5 : pcN x' = (z9 : Int)
                · refine Or.inr ⟨by omega, ?_⟩
                  by_cases g6 : x' < x
                  · exact absurd ⟨hg', g5⟩ (hno2 x' g6)
                  · omega
                · exact Or.inl (by omega)
            | false =>
              obtain ⟨τ2, R, e9, i9, c9, t9⟩ := ih2 (fun x' hx9 => by
                by_cases g6 : x' < x
                · exact hno2 x' g6
                · obtain rfl : x' = x := by omega
                  rintro ⟨g7, -⟩
                  exact Bool.noConfusion (i2.mpr g7)) τ1 I2
              refine ⟨τ2, R, ?_, i9, chg_tr c2 c9 (fun _ h => h), t9⟩
              rw [e49_67]
              simp (disch := first | assumption | omega | (exact shp_fok (by first | assumption | exact shp_sr _ _ (by assumption) | exact shp_sr _ _ (shp_sr _ _ (by assumption)) | exact shp_sr _ _ (shp_sr _ _ (shp_sr _ _ (by assumption)))) (by decide)) | (simp only [fok_sr, aok_sr]; first | assumption | (exact shp_fok (by first | assumption | exact shp_sr _ _ (by assumption) | exact shp_sr _ _ (shp_sr _ _ (by assumption)) | exact shp_sr _ _ (shp_sr _ _ (shp_sr _ _ (by assumption)))) (by decide))) | (refine shp_aok (by first | assumption | exact shp_sr _ _ (by assumption) | exact shp_sr _ _ (shp_sr _ _ (by assumption)) | exact shp_sr _ _ (shp_sr _ _ (shp_sr _ _ (by assumption)))) rfl rfl ?_ ?_ <;> omega) | (exact shp_sr _ _ (by assumption)) | (exact shp_sr _ _ (shp_sr _ _ (by assumption))) | (exact shp_sr _ _ (shp_sr _ _ (shp_sr _ _ (by assumption)))) | (left; assumption) | (exact b2i_or _) | (simp; done)) only [e49_69, e49_70, e49_71, e49_72, e49_75, e49_77, e49_80, e49_81, e49_84, e49_85, e49_86, e49_88, e49_89, e49_92, e49_95, e49_96, e49_98, e49_99, e49_102, e49_103, e49_106, eq_self, ne_a, ne_b, ne_c, Nat.reduceEqDiff, lt0, bnd_ok, psh_I, psh_L, psh_R, psh_U, gt_sr, gr_sr, sk_sr, nn_sr, ↓reduceIte, Int.toNat_natCast, Int.reduceToNat, o1, hx', b1, g1, e2, b2i_f, w6, Int.reduceEq]
              exact e9
          · obtain ⟨τ2, R, e9, i9, c9, t9⟩ := ih2 (fun x' hx9 => by
              by_cases g6 : x' < x
              · exact hno2 x' g6
              · obtain rfl : x' = x := by omega
                rintro ⟨-, g7⟩
                exact g1 g7) τ hI
            refine ⟨τ2, R, ?_, i9, c9, t9⟩
            rw [e49_67]
            simp (disch := first | assumption | omega | (exact shp_fok (by first | assumption | exact shp_sr _ _ (by assumption) | exact shp_sr _ _ (shp_sr _ _ (by assumption)) | exact shp_sr _ _ (shp_sr _ _ (shp_sr _ _ (by assumption)))) (by decide)) | (simp only [fok_sr, aok_sr]; first | assumption | (exact shp_fok (by first | assumption | exact shp_sr _ _ (by assumption) | exact shp_sr _ _ (shp_sr _ _ (by assumption)) | exact shp_sr _ _ (shp_sr _ _ (shp_sr _ _ (by assumption)))) (by decide))) | (refine shp_aok (by first | assumption | exact shp_sr _ _ (by assumption) | exact shp_sr _ _ (shp_sr _ _ (by assumption)) | exact shp_sr _ _ (shp_sr _ _ (shp_sr _ _ (by assumption)))) rfl rfl ?_ ?_ <;> omega) | (exact shp_sr _ _ (by assumption)) | (exact shp_sr _ _ (shp_sr _ _ (by assumption))) | (exact shp_sr _ _ (shp_sr _ _ (shp_sr _ _ (by assumption)))) | (left; assumption) | (exact b2i_or _) | (simp; done)) only [e49_69, e49_70, e49_71, e49_72, e49_75, e49_77, e49_80, e49_81, e49_84, e49_85, e49_86, e49_88, e49_89, e49_92, e49_95, e49_96, e49_98, e49_99, e49_102, e49_103, e49_106, eq_self, ne_a, ne_b, ne_c, Nat.reduceEqDiff, lt0, bnd_ok, psh_I, psh_L, psh_R, psh_U, gt_sr, gr_sr, sk_sr, nn_sr, ↓reduceIte, Int.toNat_natCast, Int.reduceToNat, o1, hx', b1, g1, w6]
            exact e9
      obtain ⟨τ', R, e9, i9, c9, t9⟩ := inner (fun x hx => absurd hx (Nat.not_lt_zero x)) τ hI
      refine ⟨τ', R, ?_, i9, c9, t9⟩
      rw [e49_59]
      simp (disch := first | assumption | omega | (exact shp_fok (by first | assumption | exact shp_sr _ _ (by assumption) | exact shp_sr _ _ (shp_sr _ _ (by assumption)) | exact shp_sr _ _ (shp_sr _ _ (shp_sr _ _ (by assumption)))) (by decide)) | (simp only [fok_sr, aok_sr]; first | assumption | (exact shp_fok (by first | assumption | exact shp_sr _ _ (by assumption) | exact shp_sr _ _ (shp_sr _ _ (by assumption)) | exact shp_sr _ _ (shp_sr _ _ (shp_sr _ _ (by assumption)))) (by decide))) | (refine shp_aok (by first | assumption | exact shp_sr _ _ (by assumption) | exact shp_sr _ _ (shp_sr _ _ (by assumption)) | exact shp_sr _ _ (shp_sr _ _ (shp_sr _ _ (by assumption)))) rfl rfl ?_ ?_ <;> omega) | (exact shp_sr _ _ (by assumption)) | (exact shp_sr _ _ (shp_sr _ _ (by assumption))) | (exact shp_sr _ _ (shp_sr _ _ (shp_sr _ _ (by assumption)))) | (left; assumption) | (exact b2i_or _) | (simp; done)) only [e49_60, e49_61, e49_64, e49_65, eq_self, ne_a, ne_b, ne_c, Nat.reduceEqDiff, lt0, bnd_ok, psh_I, psh_L, psh_R, psh_U, gt_sr, gr_sr, sk_sr, nn_sr, ↓reduceIte, Int.toNat_natCast, Int.reduceToNat, h4]
      exact e9
  obtain ⟨σ2, R, e2, i2, c2, t2⟩ := S (fun x hx hg => (hpc x hx).1) vU σ1 I1
  exact ⟨σ2, R, hstart.trans e2, i2, chg_tr c01 (chg_mo c2 (by decide)) (fun _ h => h), trR_jb t2⟩
noncomputable def x_nowThen (d : Dat) (cn : Nat) (sg : Nat → Int) (s w : Int) : Int := if isS d s = true then (if 0 ≤ w ∧ w ≤ 1 then (if alh cn sg = true then (if ctN (selW d s.toNat) 24 ≤ 3 then cob (lsB (GS (selW d s.toNat) (goodW d sg cn s.toNat))) w else -4) else -5) else -2) else -1
set_option maxRecDepth 100000 in
set_option maxHeartbeats 4000000 in
theorem c_FnowThen (s w : Int) (d : Dat) (cn : Nat) (sg : Nat → Int) : cla 47 [vR 1, vI s, vI w] d cn sg (vI (x_nowThen d cn sg s w)) d cn sg := by
  intro σ h
  have q1 := c_isShape h s
  have e0 := c_isHoursAlone h.1
  have hs := h.1.1
  unfold x_nowThen
  cases hS : isS d s with
  | false =>
    rw [hS] at q1
    refine ⟨σ, ?_, CS_rf h⟩
    simp (disch := first | assumption | omega | (exact shp_fok (by first | assumption | exact shp_sr _ _ (by assumption) | exact shp_sr _ _ (shp_sr _ _ (by assumption)) | exact shp_sr _ _ (shp_sr _ _ (shp_sr _ _ (by assumption)))) (by decide)) | (simp only [fok_sr, aok_sr]; first | assumption | (exact shp_fok (by first | assumption | exact shp_sr _ _ (by assumption) | exact shp_sr _ _ (shp_sr _ _ (by assumption)) | exact shp_sr _ _ (shp_sr _ _ (shp_sr _ _ (by assumption)))) (by decide))) | (refine shp_aok (by first | assumption | exact shp_sr _ _ (by assumption) | exact shp_sr _ _ (shp_sr _ _ (by assumption)) | exact shp_sr _ _ (shp_sr _ _ (shp_sr _ _ (by assumption)))) rfl rfl ?_ ?_ <;> omega) | (exact shp_sr _ _ (by assumption)) | (exact shp_sr _ _ (shp_sr _ _ (by assumption))) | (exact shp_sr _ _ (shp_sr _ _ (shp_sr _ _ (by assumption)))) | (left; assumption) | (exact b2i_or _) | (simp; done)) only [e47_0, e47_1, e47_2, e47_5, e47_8, e47_9, e47_10, e47_11, e47_12, e47_13, e47_16, e47_19, e47_21, e47_22, e47_23, e47_26, e47_29, e47_32, e47_34, e47_35, e47_36, e47_39, e47_40, e47_43, e47_44, e47_47, e47_49, e47_50, e47_51, e47_52, e47_55, e47_56, e47_59, eq_self, ne_a, ne_b, ne_c, Nat.reduceEqDiff, lt0, bnd_ok, psh_I, psh_L, psh_R, psh_U, gt_sr, gr_sr, sk_sr, nn_sr, ↓reduceIte, Int.toNat_natCast, Int.reduceToNat, q1, b2i_f, Bool.false_eq_true]
  | true =>
    rw [hS] at q1
    obtain ⟨s, rfl, hs4, -⟩ := isS_n hS
    rw [Int.toNat_natCast, if_pos rfl]
    by_cases h1 : 0 ≤ w ∧ w ≤ 1
    · rw [if_pos h1]
      cases ha : alh cn sg with
      | false =>
        rw [ha] at e0
        refine ⟨σ, ?_, CS_rf h⟩
        simp (disch := first | assumption | omega | (exact shp_fok (by first | assumption | exact shp_sr _ _ (by assumption) | exact shp_sr _ _ (shp_sr _ _ (by assumption)) | exact shp_sr _ _ (shp_sr _ _ (shp_sr _ _ (by assumption)))) (by decide)) | (simp only [fok_sr, aok_sr]; first | assumption | (exact shp_fok (by first | assumption | exact shp_sr _ _ (by assumption) | exact shp_sr _ _ (shp_sr _ _ (by assumption)) | exact shp_sr _ _ (shp_sr _ _ (shp_sr _ _ (by assumption)))) (by decide))) | (refine shp_aok (by first | assumption | exact shp_sr _ _ (by assumption) | exact shp_sr _ _ (shp_sr _ _ (by assumption)) | exact shp_sr _ _ (shp_sr _ _ (shp_sr _ _ (by assumption)))) rfl rfl ?_ ?_ <;> omega) | (exact shp_sr _ _ (by assumption)) | (exact shp_sr _ _ (shp_sr _ _ (by assumption))) | (exact shp_sr _ _ (shp_sr _ _ (shp_sr _ _ (by assumption)))) | (left; assumption) | (exact b2i_or _) | (simp; done)) only [e47_0, e47_1, e47_2, e47_5, e47_8, e47_9, e47_10, e47_11, e47_12, e47_13, e47_16, e47_19, e47_21, e47_22, e47_23, e47_26, e47_29, e47_32, e47_34, e47_35, e47_36, e47_39, e47_40, e47_43, e47_44, e47_47, e47_49, e47_50, e47_51, e47_52, e47_55, e47_56, e47_59, eq_self, ne_a, ne_b, ne_c, Nat.reduceEqDiff, lt0, bnd_ok, psh_I, psh_L, psh_R, psh_U, gt_sr, gr_sr, sk_sr, nn_sr, ↓reduceIte, Int.toNat_natCast, Int.reduceToNat, q1, b2i_t, b2i_f, c_isWithin, if_pos h1, g1_2, e0, Int.reduceEq, Bool.false_eq_true]
      | true =>
        rw [ha] at e0
        rw [if_pos rfl]
        have l1 := c_wishesR h.2.1 hs4
        rw [wi_ct h.2.2.1 hs4] at l1
        by_cases h8 : ctN (selW d s) 24 ≤ 3
        · rw [if_pos h8]
          obtain ⟨σ1, R, e1, i1, c1, j1⟩ := c_fewestCuts h ha hs4 h8
          have e2 := c_cob i1 GS_lt w σ1
          rw [lsB_eq i1] at e1 e2
          have h9 : ¬ 3 < (ctN (selW d s) 24 : Int) := by omega
          refine ⟨σ1, ?_, SC_mo c1 rfl, CS_sc h c1 (sub_SC _ rfl) (by rw [chg_gt c1 (by decide)]; exact h.1.2.1) j1⟩
          simp (disch := first | assumption | omega | (exact shp_fok (by first | assumption | exact shp_sr _ _ (by assumption) | exact shp_sr _ _ (shp_sr _ _ (by assumption)) | exact shp_sr _ _ (shp_sr _ _ (shp_sr _ _ (by assumption)))) (by decide)) | (simp only [fok_sr, aok_sr]; first | assumption | (exact shp_fok (by first | assumption | exact shp_sr _ _ (by assumption) | exact shp_sr _ _ (shp_sr _ _ (by assumption)) | exact shp_sr _ _ (shp_sr _ _ (shp_sr _ _ (by assumption)))) (by decide))) | (refine shp_aok (by first | assumption | exact shp_sr _ _ (by assumption) | exact shp_sr _ _ (shp_sr _ _ (by assumption)) | exact shp_sr _ _ (shp_sr _ _ (shp_sr _ _ (by assumption)))) rfl rfl ?_ ?_ <;> omega) | (exact shp_sr _ _ (by assumption)) | (exact shp_sr _ _ (shp_sr _ _ (by assumption))) | (exact shp_sr _ _ (shp_sr _ _ (shp_sr _ _ (by assumption)))) | (left; assumption) | (exact b2i_or _) | (simp; done)) only [e47_0, e47_1, e47_2, e47_5, e47_8, e47_9, e47_10, e47_11, e47_12, e47_13, e47_16, e47_19, e47_21, e47_22, e47_23, e47_26, e47_29, e47_32, e47_34, e47_35, e47_36, e47_39, e47_40, e47_43, e47_44, e47_47, e47_49, e47_50, e47_51, e47_52, e47_55, e47_56, e47_59, eq_self, ne_a, ne_b, ne_c, Nat.reduceEqDiff, lt0, bnd_ok, psh_I, psh_L, psh_R, psh_U, gt_sr, gr_sr, sk_sr, nn_sr, ↓reduceIte, Int.toNat_natCast, Int.reduceToNat, q1, b2i_t, c_isWithin, if_pos h1, g1_0, g1_2, e0, l1, h9, e1, e2, Int.reduceEq]
        · rw [if_neg h8]
          have h9 : 3 < (ctN (selW d s) 24 : Int) := by omega
          refine ⟨σ, ?_, CS_rf h⟩
          simp (disch := first | assumption | omega | (exact shp_fok (by first | assumption | exact shp_sr _ _ (by assumption) | exact shp_sr _ _ (shp_sr _ _ (by assumption)) | exact shp_sr _ _ (shp_sr _ _ (shp_sr _ _ (by assumption)))) (by decide)) | (simp only [fok_sr, aok_sr]; first | assumption | (exact shp_fok (by first | assumption | exact shp_sr _ _ (by assumption) | exact shp_sr _ _ (shp_sr _ _ (by assumption)) | exact shp_sr _ _ (shp_sr _ _ (shp_sr _ _ (by assumption)))) (by decide))) | (refine shp_aok (by first | assumption | exact shp_sr _ _ (by assumption) | exact shp_sr _ _ (shp_sr _ _ (by assumption)) | exact shp_sr _ _ (shp_sr _ _ (shp_sr _ _ (by assumption)))) rfl rfl ?_ ?_ <;> omega) | (exact shp_sr _ _ (by assumption)) | (exact shp_sr _ _ (shp_sr _ _ (by assumption))) | (exact shp_sr _ _ (shp_sr _ _ (shp_sr _ _ (by assumption)))) | (left; assumption) | (exact b2i_or _) | (simp; done)) only [e47_0, e47_1, e47_2, e47_5, e47_8, e47_9, e47_10, e47_11, e47_12, e47_13, e47_16, e47_19, e47_21, e47_22, e47_23, e47_26, e47_29, e47_32, e47_34, e47_35, e47_36, e47_39, e47_40, e47_43, e47_44, e47_47, e47_49, e47_50, e47_51, e47_52, e47_55, e47_56, e47_59, eq_self, ne_a, ne_b, ne_c, Nat.reduceEqDiff, lt0, bnd_ok, psh_I, psh_L, psh_R, psh_U, gt_sr, gr_sr, sk_sr, nn_sr, ↓reduceIte, Int.toNat_natCast, Int.reduceToNat, q1, b2i_t, c_isWithin, if_pos h1, g1_0, g1_2, e0, l1, h9, Int.reduceEq]
    · rw [if_neg h1]
      refine ⟨σ, ?_, CS_rf h⟩
      simp (disch := first | assumption | omega | (exact shp_fok (by first | assumption | exact shp_sr _ _ (by assumption) | exact shp_sr _ _ (shp_sr _ _ (by assumption)) | exact shp_sr _ _ (shp_sr _ _ (shp_sr _ _ (by assumption)))) (by decide)) | (simp only [fok_sr, aok_sr]; first | assumption | (exact shp_fok (by first | assumption | exact shp_sr _ _ (by assumption) | exact shp_sr _ _ (shp_sr _ _ (by assumption)) | exact shp_sr _ _ (shp_sr _ _ (shp_sr _ _ (by assumption)))) (by decide))) | (refine shp_aok (by first | assumption | exact shp_sr _ _ (by assumption) | exact shp_sr _ _ (shp_sr _ _ (by assumption)) | exact shp_sr _ _ (shp_sr _ _ (shp_sr _ _ (by assumption)))) rfl rfl ?_ ?_ <;> omega) | (exact shp_sr _ _ (by assumption)) | (exact shp_sr _ _ (shp_sr _ _ (by assumption))) | (exact shp_sr _ _ (shp_sr _ _ (shp_sr _ _ (by assumption)))) | (left; assumption) | (exact b2i_or _) | (simp; done)) only [e47_0, e47_1, e47_2, e47_5, e47_8, e47_9, e47_10, e47_11, e47_12, e47_13, e47_16, e47_19, e47_21, e47_22, e47_23, e47_26, e47_29, e47_32, e47_34, e47_35, e47_36, e47_39, e47_40, e47_43, e47_44, e47_47, e47_49, e47_50, e47_51, e47_52, e47_55, e47_56, e47_59, eq_self, ne_a, ne_b, ne_c, Nat.reduceEqDiff, lt0, bnd_ok, psh_I, psh_L, psh_R, psh_U, gt_sr, gr_sr, sk_sr, nn_sr, ↓reduceIte, Int.toNat_natCast, Int.reduceToNat, q1, b2i_t, c_isWithin, if_neg h1, Int.reduceEq]
