/-! the model keeps an image -/
def put (o n : Nat) (f G : Nat → Int) : Nat → Int := fun j => if o ≤ j ∧ j < o + n then f (j - o) else G j
theorem put_0 (o : Nat) (f G : Nat → Int) : put o 0 f G = G := by
  funext j
  unfold put
  rw [if_neg (by omega)]
theorem put_s (o n : Nat) (f G : Nat → Int) (v : Int) (h : v = f n) : ru (put o n f G) (o + n) v = put o (n + 1) f G := by
  subst h
  funext j
  unfold put ru
  by_cases h1 : j = o + n
  · subst h1
    rw [if_pos rfl, if_pos (by omega), Nat.add_sub_cancel_left]
  · rw [if_neg h1]
    dsimp only
    by_cases h2 : o ≤ j ∧ j < o + n
    · rw [if_pos h2, if_pos (by omega)]
    · rw [if_neg h2, if_neg (by omega)]
theorem put_i {o n : Nat} (f G : Nat → Int) {k : Nat} (h : k < n) : put o n f G (o + k) = f k := by
  unfold put
  rw [if_pos (by omega), Nat.add_sub_cancel_left]
theorem put_o {o n : Nat} (f G : Nat → Int) {j : Nat} (h : j < o ∨ o + n ≤ j) : put o n f G j = G j := by
  unfold put
  rw [if_neg (by omega)]
theorem kpR_cg {G G' : Nat → Int} {o : Nat} {e : Dat} (he : okd e) (h : ∀ k, k < 142 → G' (o + k) = G (o + k)) (hk : kpR G o e) : kpR G' o e := by
  obtain ⟨p1, p2, p3, p4, p5, p6, p7, p8, p9⟩ := hk
  have h8 : dsi e ≤ 8 := he.2.2.2.1
  refine ⟨fun c hc => by rw [h c (by omega)]; exact p1 c hc, fun k hk => ?_, fun i hi => ⟨?_, ?_⟩, by rw [h 136 (by omega)]; exact p4, by rw [h 137 (by omega)]; exact p5, by rw [h 138 (by omega)]; exact p6, by rw [h 139 (by omega)]; exact p7, by rw [h 140 (by omega)]; exact p8, by rw [h 141 (by omega)]; exact p9⟩
  · rw [Nat.add_assoc, h (24 + k) (by omega), ← Nat.add_assoc]; exact p2 k hk
  · rw [Nat.add_assoc, h (120 + 2 * i) (by omega), ← Nat.add_assoc]; exact (p3 i hi).1
  · rw [Nat.add_assoc, h (120 + (2 * i + 1)) (by omega), ← Nat.add_assoc]; exact (p3 i hi).2
set_option maxRecDepth 100000 in
set_option maxHeartbeats 4000000 in
theorem m_Mimage (n : Int) {d : Dat} {cn : Nat} {sg : Nat → Int} {im : Nat → Option Dat} {σ : St} (h : mdl σ d cn sg) (him : imsM σ im) : ∃ σ', run 145 0 [vR 24, vI n, vU, vU] [] σ = some (vI (x_image n), σ') ∧ chg [32, 33] σ σ' ∧ imsM σ' (im_image d im n) := by
  obtain ⟨⟨hs, d0, d1, d4, d5, hw⟩, a2, a3, a4, a5, a6, a7, a8, a9, a10⟩ := id h
  unfold x_image im_image
  by_cases h1 : 0 ≤ n ∧ n ≤ 1
  · rw [if_pos h1, if_pos h1]
    obtain ⟨i, rfl⟩ := nat_of h1.1
    rw [Int.toNat_natCast]
    have wo : wr (160 * (i : Int)) = ((160 * i : Nat) : Int) := by rw [wr_id (by omega) (by omega)]; omega
    generalize ho : 160 * i = o at *
    have ho2 : o ≤ 160 := by omega
    have start : run 145 0 [vR 24, vI (i : Int), vU, vU] [] σ = run 145 20 [vR 24, vI (i : Int), vI (o : Int), vI 0] [] σ := by
      simp (disch := first | assumption | omega | (exact shp_fok (by first | assumption | exact shp_sr _ _ (by assumption) | exact shp_sr _ _ (shp_sr _ _ (by assumption)) | exact shp_sr _ _ (shp_sr _ _ (shp_sr _ _ (by assumption)))) (by decide)) | (simp only [fok_sr, aok_sr]; first | assumption | (exact shp_fok (by first | assumption | exact shp_sr _ _ (by assumption) | exact shp_sr _ _ (shp_sr _ _ (by assumption)) | exact shp_sr _ _ (shp_sr _ _ (shp_sr _ _ (by assumption)))) (by decide))) | (refine shp_aok (by first | assumption | exact shp_sr _ _ (by assumption) | exact shp_sr _ _ (shp_sr _ _ (by assumption)) | exact shp_sr _ _ (shp_sr _ _ (shp_sr _ _ (by assumption)))) rfl rfl ?_ ?_ <;> omega) | (exact shp_sr _ _ (by assumption)) | (exact shp_sr _ _ (shp_sr _ _ (by assumption))) | (exact shp_sr _ _ (shp_sr _ _ (shp_sr _ _ (by assumption)))) | (left; assumption) | (exact b2i_or _) | (simp; done)) only [e145_0, e145_1, e145_2, e145_3, e145_6, e145_9, e145_11, e145_12, e145_15, e145_16, e145_17, e145_18, e145_19, eq_self, ne_a, ne_b, ne_c, Nat.reduceEqDiff, lt0, bnd_ok, psh_I, psh_L, psh_R, psh_U, gt_sr, gr_sr, sk_sr, nn_sr, ↓reduceIte, Int.toNat_natCast, Int.reduceToNat, m_in, if_pos h1, wo, Int.reduceEq]
    generalize hG0 : gt σ 32 = G0 at *
    have A : run 145 20 [vR 24, vI (i : Int), vI (o : Int), vI 0] [] (sr σ 32 (put o 0 (dt d) G0)) = run 145 48 [vR 24, vI (i : Int), vI (o : Int), vI 0] [] (sr σ 32 (put o 24 (dt d) G0)) := by
      refine bk (P := fun k z => run 145 20 [vR 24, vI (i : Int), vI (o : Int), vI z] [] (sr σ 32 (put o k (dt d) G0)) = run 145 48 [vR 24, vI (i : Int), vI (o : Int), vI 0] [] (sr σ 32 (put o 24 (dt d) G0))) (n := 24) ?_ ?_
      · rw [e145_20]
        simp (disch := first | assumption | omega | (exact shp_fok (by first | assumption | exact shp_sr _ _ (by assumption) | exact shp_sr _ _ (shp_sr _ _ (by assumption)) | exact shp_sr _ _ (shp_sr _ _ (shp_sr _ _ (by assumption)))) (by decide)) | (simp only [fok_sr, aok_sr]; first | assumption | (exact shp_fok (by first | assumption | exact shp_sr _ _ (by assumption) | exact shp_sr _ _ (shp_sr _ _ (by assumption)) | exact shp_sr _ _ (shp_sr _ _ (shp_sr _ _ (by assumption)))) (by decide))) | (refine shp_aok (by first | assumption | exact shp_sr _ _ (by assumption) | exact shp_sr _ _ (shp_sr _ _ (by assumption)) | exact shp_sr _ _ (shp_sr _ _ (shp_sr _ _ (by assumption)))) rfl rfl ?_ ?_ <;> omega) | (exact shp_sr _ _ (by assumption)) | (exact shp_sr _ _ (shp_sr _ _ (by assumption))) | (exact shp_sr _ _ (shp_sr _ _ (shp_sr _ _ (by assumption)))) | (left; assumption) | (exact b2i_or _) | (simp; done)) only [e145_21, e145_23, e145_26, e145_27, e145_30, e145_31, e145_32, e145_33, e145_34, e145_37, e145_38, e145_39, e145_40, e145_43, e145_46, e145_47, eq_self, ne_a, ne_b, ne_c, Nat.reduceEqDiff, lt0, bnd_ok, psh_I, psh_L, psh_R, psh_U, gt_sr, gr_sr, sk_sr, nn_sr, ↓reduceIte, Int.toNat_natCast, Int.reduceToNat, Int.cast_ofNat_Int, Int.reduceLT]
      · intro k hk hk' ih
        have h4 : (k : Int) < 24 := hk'
        have w5 : wr ((k : Int) + 1) = (k : Int) + 1 := wr_id (by omega) (by omega)
        have w6 : wr ((o : Int) + (k : Int)) = ((o + k : Nat) : Int) := by rw [wr_id (by omega) (by omega)]; omega
        have u := put_s o k (dt d) G0 (dt d k) rfl
        rw [e145_20]
        simp (disch := first | assumption | omega | (exact shp_fok (by first | assumption | exact shp_sr _ _ (by assumption) | exact shp_sr _ _ (shp_sr _ _ (by assumption)) | exact shp_sr _ _ (shp_sr _ _ (shp_sr _ _ (by assumption)))) (by decide)) | (simp only [fok_sr, aok_sr]; first | assumption | (exact shp_fok (by first | assumption | exact shp_sr _ _ (by assumption) | exact shp_sr _ _ (shp_sr _ _ (by assumption)) | exact shp_sr _ _ (shp_sr _ _ (shp_sr _ _ (by assumption)))) (by decide))) | (refine shp_aok (by first | assumption | exact shp_sr _ _ (by assumption) | exact shp_sr _ _ (shp_sr _ _ (by assumption)) | exact shp_sr _ _ (shp_sr _ _ (shp_sr _ _ (by assumption)))) rfl rfl ?_ ?_ <;> omega) | (exact shp_sr _ _ (by assumption)) | (exact shp_sr _ _ (shp_sr _ _ (by assumption))) | (exact shp_sr _ _ (shp_sr _ _ (shp_sr _ _ (by assumption)))) | (left; assumption) | (exact b2i_or _) | (simp; done)) only [e145_21, e145_23, e145_26, e145_27, e145_30, e145_31, e145_32, e145_33, e145_34, e145_37, e145_38, e145_39, e145_40, e145_43, e145_46, e145_47, eq_self, ne_a, ne_b, ne_c, Nat.reduceEqDiff, lt0, bnd_ok, psh_I, psh_L, psh_R, psh_U, gt_sr, gr_sr, sk_sr, nn_sr, ↓reduceIte, Int.toNat_natCast, Int.reduceToNat, h4, g24_2, g24_18, w6, a5, u, w5, sr_sr]
        exact ih
    rw [put_0, sr_self σ 32 _ hG0.symm] at A
    generalize hG1 : put o 24 (dt d) G0 = G1 at *
    have B : run 145 48 [vR 24, vI (i : Int), vI (o : Int), vI 0] [] (sr σ 32 (put (o + 24) 0 (dwa d) G1)) = run 145 79 [vR 24, vI (i : Int), vI (o : Int), vI 0] [] (sr σ 32 (put (o + 24) 96 (dwa d) G1)) := by
      refine bk (P := fun k z => run 145 48 [vR 24, vI (i : Int), vI (o : Int), vI z] [] (sr σ 32 (put (o + 24) k (dwa d) G1)) = run 145 79 [vR 24, vI (i : Int), vI (o : Int), vI 0] [] (sr σ 32 (put (o + 24) 96 (dwa d) G1))) (n := 96) ?_ ?_
      · rw [e145_48]
        simp (disch := first | assumption | omega | (exact shp_fok (by first | assumption | exact shp_sr _ _ (by assumption) | exact shp_sr _ _ (shp_sr _ _ (by assumption)) | exact shp_sr _ _ (shp_sr _ _ (shp_sr _ _ (by assumption)))) (by decide)) | (simp only [fok_sr, aok_sr]; first | assumption | (exact shp_fok (by first | assumption | exact shp_sr _ _ (by assumption) | exact shp_sr _ _ (shp_sr _ _ (by assumption)) | exact shp_sr _ _ (shp_sr _ _ (shp_sr _ _ (by assumption)))) (by decide))) | (refine shp_aok (by first | assumption | exact shp_sr _ _ (by assumption) | exact shp_sr _ _ (shp_sr _ _ (by assumption)) | exact shp_sr _ _ (shp_sr _ _ (shp_sr _ _ (by assumption)))) rfl rfl ?_ ?_ <;> omega) | (exact shp_sr _ _ (by assumption)) | (exact shp_sr _ _ (shp_sr _ _ (by assumption))) | (exact shp_sr _ _ (shp_sr _ _ (shp_sr _ _ (by assumption)))) | (left; assumption) | (exact b2i_or _) | (simp; done)) only [e145_49, e145_51, e145_54, e145_55, e145_58, e145_59, e145_61, e145_62, e145_63, e145_64, e145_65, e145_68, e145_69, e145_70, e145_71, e145_74, e145_77, e145_78, eq_self, ne_a, ne_b, ne_c, Nat.reduceEqDiff, lt0, bnd_ok, psh_I, psh_L, psh_R, psh_U, gt_sr, gr_sr, sk_sr, nn_sr, ↓reduceIte, Int.toNat_natCast, Int.reduceToNat, Int.cast_ofNat_Int, Int.reduceLT]
      · intro k hk hk' ih
        have h4 : (k : Int) < 96 := hk'
        have w5 : wr ((k : Int) + 1) = (k : Int) + 1 := wr_id (by omega) (by omega)
        have w6 : wr (wr ((o : Int) + 24) + (k : Int)) = ((o + 24 + k : Nat) : Int) := by rw [wr_id (z := (o : Int) + 24) (by omega) (by omega), wr_id (by omega) (by omega)]; omega
        have u := put_s (o + 24) k (dwa d) G1 (dwa d k) rfl
        rw [e145_48]
        simp (disch := first | assumption | omega | (exact shp_fok (by first | assumption | exact shp_sr _ _ (by assumption) | exact shp_sr _ _ (shp_sr _ _ (by assumption)) | exact shp_sr _ _ (shp_sr _ _ (shp_sr _ _ (by assumption)))) (by decide)) | (simp only [fok_sr, aok_sr]; first | assumption | (exact shp_fok (by first | assumption | exact shp_sr _ _ (by assumption) | exact shp_sr _ _ (shp_sr _ _ (by assumption)) | exact shp_sr _ _ (shp_sr _ _ (shp_sr _ _ (by assumption)))) (by decide))) | (refine shp_aok (by first | assumption | exact shp_sr _ _ (by assumption) | exact shp_sr _ _ (shp_sr _ _ (by assumption)) | exact shp_sr _ _ (shp_sr _ _ (shp_sr _ _ (by assumption)))) rfl rfl ?_ ?_ <;> omega) | (exact shp_sr _ _ (by assumption)) | (exact shp_sr _ _ (shp_sr _ _ (by assumption))) | (exact shp_sr _ _ (shp_sr _ _ (shp_sr _ _ (by assumption)))) | (left; assumption) | (exact b2i_or _) | (simp; done)) only [e145_49, e145_51, e145_54, e145_55, e145_58, e145_59, e145_61, e145_62, e145_63, e145_64, e145_65, e145_68, e145_69, e145_70, e145_71, e145_74, e145_77, e145_78, eq_self, ne_a, ne_b, ne_c, Nat.reduceEqDiff, lt0, bnd_ok, psh_I, psh_L, psh_R, psh_U, gt_sr, gr_sr, sk_sr, nn_sr, ↓reduceIte, Int.toNat_natCast, Int.reduceToNat, h4, g24_6, g24_18, w6, hw, u, w5, sr_sr]
        exact ih
    rw [put_0] at B
    generalize hG2 : put (o + 24) 96 (dwa d) G1 = G2 at *
    generalize hS : gt σ 27 = S at *
    generalize hG3 : put (o + 120) 16 S G2 = G3
    generalize hG4 : ru (ru (ru (ru (ru (ru G3 (o + 136) (dR d : Int)) (o + 137) (dC d : Int)) (o + 138) (lbD d : Int)) (o + 139) (dfe d)) (o + 140) (dsl d)) (o + 141) (dsi d : Int) = G4
    have C : run 145 79 [vR 24, vI (i : Int), vI (o : Int), vI 0] [] (sr σ 32 (put (o + 120) 0 S G2)) = some (vI 1, sr (sr σ 32 G4) 33 (ru (gt σ 33) i 1)) := by
      refine bk (P := fun k z => run 145 79 [vR 24, vI (i : Int), vI (o : Int), vI z] [] (sr σ 32 (put (o + 120) k S G2)) = some (vI 1, sr (sr σ 32 G4) 33 (ru (gt σ 33) i 1))) (n := 16) ?_ ?_
      · have v1 : wr ((o : Int) + 136) = ((o + 136 : Nat) : Int) := by rw [wr_id (by omega) (by omega)]; omega
        have v2 : wr ((o : Int) + 137) = ((o + 137 : Nat) : Int) := by rw [wr_id (by omega) (by omega)]; omega
        have v3 : wr ((o : Int) + 138) = ((o + 138 : Nat) : Int) := by rw [wr_id (by omega) (by omega)]; omega
        have v4 : wr ((o : Int) + 139) = ((o + 139 : Nat) : Int) := by rw [wr_id (by omega) (by omega)]; omega
        have v5 : wr ((o : Int) + 140) = ((o + 140 : Nat) : Int) := by rw [wr_id (by omega) (by omega)]; omega
        have v6 : wr ((o : Int) + 141) = ((o + 141 : Nat) : Int) := by rw [wr_id (by omega) (by omega)]; omega
        have hor : (1 : Int) = 0 ∨ (1 : Int) = 1 := Or.inr rfl
        rw [e145_79]
        simp (disch := first | assumption | omega | (exact shp_fok (by first | assumption | exact shp_sr _ _ (by assumption) | exact shp_sr _ _ (shp_sr _ _ (by assumption)) | exact shp_sr _ _ (shp_sr _ _ (shp_sr _ _ (by assumption)))) (by decide)) | (simp only [fok_sr, aok_sr]; first | assumption | (exact shp_fok (by first | assumption | exact shp_sr _ _ (by assumption) | exact shp_sr _ _ (shp_sr _ _ (by assumption)) | exact shp_sr _ _ (shp_sr _ _ (shp_sr _ _ (by assumption)))) (by decide))) | (refine shp_aok (by first | assumption | exact shp_sr _ _ (by assumption) | exact shp_sr _ _ (shp_sr _ _ (by assumption)) | exact shp_sr _ _ (shp_sr _ _ (shp_sr _ _ (by assumption)))) rfl rfl ?_ ?_ <;> omega) | (exact shp_sr _ _ (by assumption)) | (exact shp_sr _ _ (shp_sr _ _ (by assumption))) | (exact shp_sr _ _ (shp_sr _ _ (shp_sr _ _ (by assumption)))) | (left; assumption) | (exact b2i_or _) | (simp; done)) only [e145_80, e145_82, e145_85, e145_86, e145_89, e145_90, e145_92, e145_93, e145_94, e145_95, e145_96, e145_99, e145_100, e145_101, e145_102, e145_105, e145_108, e145_109, e145_112, e145_113, e145_116, e145_117, e145_118, e145_121, e145_122, e145_123, e145_126, e145_127, e145_130, e145_131, e145_132, e145_135, e145_136, e145_137, e145_140, e145_141, e145_144, e145_145, e145_146, e145_149, e145_150, e145_151, e145_154, e145_155, e145_158, e145_159, e145_160, e145_163, e145_164, e145_165, e145_168, e145_169, e145_172, e145_173, e145_174, e145_177, e145_178, e145_179, e145_182, e145_183, e145_186, e145_187, e145_188, e145_191, e145_192, e145_193, e145_196, e145_197, e145_198, e145_199, e145_200, eq_self, ne_a, ne_b, ne_c, Nat.reduceEqDiff, lt0, bnd_ok, psh_I, psh_L, psh_R, psh_U, gt_sr, gr_sr, sk_sr, nn_sr, ↓reduceIte, Int.toNat_natCast, Int.reduceToNat, Int.cast_ofNat_Int, Int.reduceLT, g24_18, g24_19, v1, v2, v3, v4, v5, v6, d0, d1, a2, d4, d5, a3, sr_sr, hG3, hG4]
      · intro k hk hk' ih
        have h4 : (k : Int) < 16 := hk'
        have w5 : wr ((k : Int) + 1) = (k : Int) + 1 := wr_id (by omega) (by omega)
        have w6 : wr (wr ((o : Int) + 120) + (k : Int)) = ((o + 120 + k : Nat) : Int) := by rw [wr_id (z := (o : Int) + 120) (by omega) (by omega), wr_id (by omega) (by omega)]; omega
        have u := put_s (o + 120) k S G2 (S k) rfl
        rw [e145_79]
        simp (disch := first | assumption | omega | (exact shp_fok (by first | assumption | exact shp_sr _ _ (by assumption) | exact shp_sr _ _ (shp_sr _ _ (by assumption)) | exact shp_sr _ _ (shp_sr _ _ (shp_sr _ _ (by assumption)))) (by decide)) | (simp only [fok_sr, aok_sr]; first | assumption | (exact shp_fok (by first | assumption | exact shp_sr _ _ (by assumption) | exact shp_sr _ _ (shp_sr _ _ (by assumption)) | exact shp_sr _ _ (shp_sr _ _ (shp_sr _ _ (by assumption)))) (by decide))) | (refine shp_aok (by first | assumption | exact shp_sr _ _ (by assumption) | exact shp_sr _ _ (shp_sr _ _ (by assumption)) | exact shp_sr _ _ (shp_sr _ _ (shp_sr _ _ (by assumption)))) rfl rfl ?_ ?_ <;> omega) | (exact shp_sr _ _ (by assumption)) | (exact shp_sr _ _ (shp_sr _ _ (by assumption))) | (exact shp_sr _ _ (shp_sr _ _ (shp_sr _ _ (by assumption)))) | (left; assumption) | (exact b2i_or _) | (simp; done)) only [e145_80, e145_82, e145_85, e145_86, e145_89, e145_90, e145_92, e145_93, e145_94, e145_95, e145_96, e145_99, e145_100, e145_101, e145_102, e145_105, eq_self, ne_a, ne_b, ne_c, Nat.reduceEqDiff, lt0, bnd_ok, psh_I, psh_L, psh_R, psh_U, gt_sr, gr_sr, sk_sr, nn_sr, ↓reduceIte, Int.toNat_natCast, Int.reduceToNat, h4, g24_8, g24_18, w6, hS, u, w5, sr_sr]
        exact ih
    rw [put_0] at C
    refine ⟨sr (sr σ 32 G4) 33 (ru (gt σ 33) i 1), start.trans (A.trans (B.trans C)), chg_sr (chg_sr (chg_rf _ _) (by decide)) (by decide), fun j hj => ?_⟩
    rw [gt_e, gt_n _ _ (by decide), gt_e]
    by_cases hji : j = i
    · subst hji
      rw [ho]
      refine Or.inr ⟨d, ru_e _ _ _, ru_e _ _ _, ?_, a9⟩
      have q : ∀ k, k < 136 → G4 (o + k) = G3 (o + k) := fun k hk => by
        rw [← hG4, ru_n _ _ (by omega), ru_n _ _ (by omega), ru_n _ _ (by omega), ru_n _ _ (by omega), ru_n _ _ (by omega), ru_n _ _ (by omega)]
      refine ⟨fun c hc => ?_, fun k hk => ?_, fun t ht => ?_, ?_, ?_, ?_, ?_, ?_, ?_⟩
      · rw [q c (by omega), ← hG3, put_o _ _ (by omega), ← hG2, put_o _ _ (by omega), ← hG1, put_i _ _ hc]
      · rw [Nat.add_assoc, q (24 + k) (by omega), ← Nat.add_assoc, ← hG3, put_o _ _ (by omega), ← hG2, put_i _ _ hk]
      · have h8 : dsi d ≤ 8 := a9.2.2.2.1
        have ht' : t < dsi d := ht
        obtain ⟨s1, s2⟩ := a6 t ht
        refine ⟨?_, ?_⟩
        · rw [Nat.add_assoc, q (120 + 2 * t) (by omega), ← Nat.add_assoc, ← hG3, put_i _ _ (by omega)]; exact s1
        · rw [Nat.add_assoc, q (120 + (2 * t + 1)) (by omega), ← Nat.add_assoc, ← hG3, put_i _ _ (by omega)]; exact s2
      · rw [← hG4, ru_n _ _ (by omega), ru_n _ _ (by omega), ru_n _ _ (by omega), ru_n _ _ (by omega), ru_n _ _ (by omega), ru_e]
      · rw [← hG4, ru_n _ _ (by omega), ru_n _ _ (by omega), ru_n _ _ (by omega), ru_n _ _ (by omega), ru_e]
      · rw [← hG4, ru_n _ _ (by omega), ru_n _ _ (by omega), ru_n _ _ (by omega), ru_e]
      · rw [← hG4, ru_n _ _ (by omega), ru_n _ _ (by omega), ru_e]
      · rw [← hG4, ru_n _ _ (by omega), ru_e]
      · rw [← hG4, ru_e]
    · rw [ru_n _ _ hji, ru_n _ _ hji]
      rcases him j hj with q | ⟨e, q1, q2, q3, q4⟩
      · exact Or.inl q
      · rw [hG0] at q3
        refine Or.inr ⟨e, q1, q2, kpR_cg q4 (fun k hk => ?_) q3, q4⟩
        rw [← hG4, ru_n _ _ (by omega), ru_n _ _ (by omega), ru_n _ _ (by omega), ru_n _ _ (by omega), ru_n _ _ (by omega), ru_n _ _ (by omega), ← hG3, put_o _ _ (by omega), ← hG2, put_o _ _ (by omega), ← hG1, put_o _ _ (by omega)]
  · rw [if_neg h1, if_neg h1]
    refine ⟨σ, ?_, chg_rf _ _, him⟩
    simp (disch := first | assumption | omega | (exact shp_fok (by first | assumption | exact shp_sr _ _ (by assumption) | exact shp_sr _ _ (shp_sr _ _ (by assumption)) | exact shp_sr _ _ (shp_sr _ _ (shp_sr _ _ (by assumption)))) (by decide)) | (simp only [fok_sr, aok_sr]; first | assumption | (exact shp_fok (by first | assumption | exact shp_sr _ _ (by assumption) | exact shp_sr _ _ (shp_sr _ _ (by assumption)) | exact shp_sr _ _ (shp_sr _ _ (shp_sr _ _ (by assumption)))) (by decide))) | (refine shp_aok (by first | assumption | exact shp_sr _ _ (by assumption) | exact shp_sr _ _ (shp_sr _ _ (by assumption)) | exact shp_sr _ _ (shp_sr _ _ (shp_sr _ _ (by assumption)))) rfl rfl ?_ ?_ <;> omega) | (exact shp_sr _ _ (by assumption)) | (exact shp_sr _ _ (shp_sr _ _ (by assumption))) | (exact shp_sr _ _ (shp_sr _ _ (shp_sr _ _ (by assumption)))) | (left; assumption) | (exact b2i_or _) | (simp; done)) only [e145_0, e145_1, e145_2, e145_3, e145_6, e145_9, e145_11, e145_12, e145_15, e145_16, e145_17, e145_18, e145_19, eq_self, ne_a, ne_b, ne_c, Nat.reduceEqDiff, lt0, bnd_ok, psh_I, psh_L, psh_R, psh_U, gt_sr, gr_sr, sk_sr, nn_sr, ↓reduceIte, Int.toNat_natCast, Int.reduceToNat, m_in, if_neg h1]
/-! both, with images -/
theorem b_image {L : Nat} {x : Nat → Int} (n : Int) {d : Dat} {cn : Nat} {sg : Nat → Int} {im : Nat → Option Dat} {σ : St} (h : TS L x σ d cn sg im) :
    ∃ σ1 σ2, run 86 0 [vR 1, vI n, vU] [] σ = some (vI (x_image n), σ1) ∧ run 145 0 [vR 24, vI n, vU, vU] [] σ1 = some (vI (x_image n), σ2) ∧ shp σ1 ∧ sl σ1 = L ∧ sx σ1 = x ∧ TS L x σ2 d cn sg (im_image d im n) := by
  obtain ⟨σ1, e1, f1, i1, n1, n2⟩ := c_Fimage n h
  obtain ⟨t1, t2, t3, t4, t5, t6, t7, t8⟩ := h
  have m1 := mdl_fr f1 t2
  have im1 : imsM σ1 im := by
    unfold imsM
    rw [f1.2.2.2.2.2 32 (by omega), f1.2.2.2.2.2 33 (by omega)]
    exact t4
  obtain ⟨σ2, e2, c2, i2⟩ := m_Mimage n m1 im1
  have l1 : sl σ1 = L := by rw [f1.2.1]; exact t5
  have l2 : sx σ1 = x := by rw [f1.2.2.1]; exact t6
  have m2 : mdl σ2 d cn sg := by
    have q : ∀ k, k ≠ 32 → k ≠ 33 → gt σ2 k = gt σ1 k := fun k h1 h2 => chg_gt c2 (by simp; omega)
    obtain ⟨⟨hs, d0, d1, d4, d5, hw⟩, a2, a3, a4, a5, a6, a7, a8, a9, a10⟩ := m1
    unfold mdl mfx
    rw [q 24 (by omega) (by omega), q 25 (by omega) (by omega), q 26 (by omega) (by omega), q 27 (by omega) (by omega), q 28 (by omega) (by omega), q 29 (by omega) (by omega)]
    exact ⟨⟨shp_chg c2 hs, d0, d1, d4, d5, hw⟩, a2, a3, a4, a5, a6, a7, a8, a9, a10⟩
  refine ⟨σ1, σ2, e1, e2, shp_fr f1 t1.1.1, l1, l2, CS_chg c2 (by simp) (CS_fr f1 t1), m2, imsC_chg c2 (by simp) i1, i2, ?_, ?_, ?_, ?_⟩
  · rw [c2.2.2.2.2.1]; exact l1
  · rw [c2.2.2.2.2.2.1]; exact l2
  · rw [c2.1]; exact n1
  · rw [c2.2.1]; exact n2
theorem b_restore {L : Nat} {x : Nat → Int} (n : Int) {d : Dat} {cn : Nat} {sg : Nat → Int} {im : Nat → Option Dat} {σ : St} (h : TS L x σ d cn sg im) :
    ∃ σ1 σ2, run 87 0 [vR 1, vI n, vU] [] σ = some (vI (x_rest im n), σ1) ∧ run 146 0 [vR 24, vI n, vU, vU] [] σ1 = some (vI (x_rest im n), σ2) ∧ shp σ1 ∧ sl σ1 = L ∧ sx σ1 = x ∧ TS L x σ2 (d_rest d im n) cn sg im := by
  obtain ⟨σ1, e1, c1, s1⟩ := c_Frestore n h
  obtain ⟨t1, t2, t3, t4, t5, t6, t7, t8⟩ := h
  have hSC : ∀ i ∈ SC, i < 24 := fun i hi => by
    have := mem_all (p := fun i => decide (i < 24)) (S := SC) rfl i hi
    exact of_decide_eq_true this
  have m1 := mdl_chg c1 hSC t2
  have im1 := imsM_chg c1 (by decide) t4
  obtain ⟨σ2, e2, c2, m2⟩ := m_Mrestore (L := L) (x := x) n m1 im1
  have hSM : ∀ i ∈ SMo, 24 ≤ i ∧ i < 32 := fun i hi => by
    have := mem_all (p := fun i => decide (24 ≤ i ∧ i < 32)) (S := SMo) rfl i hi
    exact of_decide_eq_true this
  refine ⟨σ1, σ2, e1, e2, s1.1.1, by rw [c1.2.2.2.2.1]; exact t5, by rw [c1.2.2.2.2.2.1]; exact t6, CS_chg c2 (fun i hi => (hSM i hi).1) s1, m2, imsC_chg c2 (fun i hi => by have := hSM i hi; omega) (imsC_chg c1 (fun i hi => by have := hSC i hi; omega) t3), imsM_chg c2 (by decide) im1, ?_, ?_, ?_, ?_⟩
  · rw [c2.2.2.2.2.1, c1.2.2.2.2.1]; exact t5
  · rw [c2.2.2.2.2.2.1, c1.2.2.2.2.2.1]; exact t6
  · rw [c2.1, c1.1]; exact t7
  · rw [c2.2.1, c1.2.1]; exact t8
