/-! winds by chance, of the model -/
theorem gcd_step (x y : Nat) : Nat.gcd y (x % y) = Nat.gcd x y := by
  rw [Nat.gcd_comm x y, Nat.gcd_rec y x, Nat.gcd_comm]
set_option maxRecDepth 100000 in
set_option maxHeartbeats 8000000 in
set_option maxRecDepth 100000 in
set_option maxHeartbeats 4000000 in
theorem m_Mchance (s t m p : Int) (d : Dat) (cn : Nat) (sg : Nat → Int) : mla 141 [vR 24, vI s, vI t, vI m, vI p, vU, vU, vU, vU, vU, vU, vU, vU, vU, vU] d cn sg (vL (x_chance d s t m p)) d cn sg := by
  intro σ h
  have q1 := m_isShape h.1 h.2.2.2.2.2.2.2.2.1 s
  have hs := h.1.1
  have ho := h.2.2.2.2.2.2.2.2.1
  unfold x_chance
  cases hS : isS d s with
  | false =>
    rw [hS] at q1
    refine ⟨σ, ?_, mdl_rf h⟩
    simp (disch := first | assumption | omega | (exact shp_fok (by first | assumption | exact shp_sr _ _ (by assumption) | exact shp_sr _ _ (shp_sr _ _ (by assumption)) | exact shp_sr _ _ (shp_sr _ _ (shp_sr _ _ (by assumption)))) (by decide)) | (simp only [fok_sr, aok_sr]; first | assumption | (exact shp_fok (by first | assumption | exact shp_sr _ _ (by assumption) | exact shp_sr _ _ (shp_sr _ _ (by assumption)) | exact shp_sr _ _ (shp_sr _ _ (shp_sr _ _ (by assumption)))) (by decide))) | (refine shp_aok (by first | assumption | exact shp_sr _ _ (by assumption) | exact shp_sr _ _ (shp_sr _ _ (by assumption)) | exact shp_sr _ _ (shp_sr _ _ (shp_sr _ _ (by assumption)))) rfl rfl ?_ ?_ <;> omega) | (exact shp_sr _ _ (by assumption)) | (exact shp_sr _ _ (shp_sr _ _ (by assumption))) | (exact shp_sr _ _ (shp_sr _ _ (shp_sr _ _ (by assumption)))) | (left; assumption) | (exact b2i_or _) | (simp; done)) only [e141_0, e141_1, e141_2, e141_5, e141_8, e141_11, e141_12, e141_13, e141_14, e141_16, e141_19, e141_22, e141_23, e141_24, e141_26, e141_29, e141_32, e141_34, e141_35, e141_36, e141_39, e141_42, e141_45, eq_self, ne_a, ne_b, ne_c, Nat.reduceEqDiff, lt0, bnd_ok, psh_I, psh_L, psh_R, psh_U, gt_sr, gr_sr, sk_sr, nn_sr, ↓reduceIte, Int.toNat_natCast, Int.reduceToNat, q1, b2i_f, Bool.false_eq_true]
  | true =>
    rw [hS] at q1
    obtain ⟨s, rfl, hs4, -⟩ := isS_n hS
    rw [Int.toNat_natCast, if_pos rfl]
    by_cases h1 : 0 ≤ t ∧ t ≤ 10
    · by_cases h2 : 0 ≤ m ∧ m ≤ 8
      · by_cases h3 : 0 ≤ p ∧ p ≤ 1
        · rw [if_pos ⟨h1, h2, h3⟩]
          obtain ⟨t, rfl⟩ := nat_of h1.1
          obtain ⟨m, rfl⟩ := nat_of h2.1
          rw [Int.toNat_natCast, Int.toNat_natCast]
          have hm8 : m ≤ 8 := by omega
          have ht10 : t ≤ 10 := by omega
          have hm2 : 2 ^ m ≤ 256 := Nat.le_trans (Nat.pow_le_pow_right (i := m) (j := 8) (by omega) hm8) (by decide)
          have hm1 : 1 ≤ 2 ^ m := Nat.one_le_two_pow
          have o1 := bShl_N (a := 1) (k := m) (by omega) (by omega) (by omega)
          rw [Nat.one_mul, show ((1 : Nat) : Int) = 1 from rfl] at o1
          -- the lower number
          have A : run 141 55 [vR 24, vI (s : Int), vI (t : Int), vI (m : Int), vI p, vL 0, vH, vL (10 ^ 0 : Nat), vH, vI 0, vU, vU, vU, vU, vU] [] σ = run 141 78 [vR 24, vI (s : Int), vI (t : Int), vI (m : Int), vI p, vL 0, vH, vL (10 ^ m : Nat), vH, vI 0, vU, vU, vU, vU, vU] [] σ := by
            refine bk (P := fun k z => run 141 55 [vR 24, vI (s : Int), vI (t : Int), vI (m : Int), vI p, vL 0, vH, vL (10 ^ k : Nat), vH, vI z, vU, vU, vU, vU, vU] [] σ = run 141 78 [vR 24, vI (s : Int), vI (t : Int), vI (m : Int), vI p, vL 0, vH, vL (10 ^ m : Nat), vH, vI 0, vU, vU, vU, vU, vU] [] σ) (n := m) ?_ ?_
            · have h4 : ¬ ((m : Nat) : Int) < ((m : Nat) : Int) := by omega
              rw [e141_55]
              simp (disch := first | assumption | omega | (exact shp_fok (by first | assumption | exact shp_sr _ _ (by assumption) | exact shp_sr _ _ (shp_sr _ _ (by assumption)) | exact shp_sr _ _ (shp_sr _ _ (shp_sr _ _ (by assumption)))) (by decide)) | (simp only [fok_sr, aok_sr]; first | assumption | (exact shp_fok (by first | assumption | exact shp_sr _ _ (by assumption) | exact shp_sr _ _ (shp_sr _ _ (by assumption)) | exact shp_sr _ _ (shp_sr _ _ (shp_sr _ _ (by assumption)))) (by decide))) | (refine shp_aok (by first | assumption | exact shp_sr _ _ (by assumption) | exact shp_sr _ _ (shp_sr _ _ (by assumption)) | exact shp_sr _ _ (shp_sr _ _ (shp_sr _ _ (by assumption)))) rfl rfl ?_ ?_ <;> omega) | (exact shp_sr _ _ (by assumption)) | (exact shp_sr _ _ (shp_sr _ _ (by assumption))) | (exact shp_sr _ _ (shp_sr _ _ (shp_sr _ _ (by assumption)))) | (left; assumption) | (exact b2i_or _) | (simp; done)) only [e141_57, e141_58, e141_75, e141_76, eq_self, ne_a, ne_b, ne_c, Nat.reduceEqDiff, lt0, bnd_ok, psh_I, psh_L, psh_R, psh_U, gt_sr, gr_sr, sk_sr, nn_sr, ↓reduceIte, Int.toNat_natCast, Int.reduceToNat, h4]
            · intro k hk hk' ih
              have w5 : wr ((k : Int) + 1) = (k : Int) + 1 := wr_id (by omega) (by omega)
              have h8 := pow_8 (Nat.le_refl 10) (show k + 1 ≤ 8 by omega)
              have w6 : wl (((10 ^ k : Nat) : Int) * 10) = ((10 ^ (k + 1) : Nat) : Int) := by
                have e9 : ((10 ^ k : Nat) : Int) * 10 = ((10 ^ (k + 1) : Nat) : Int) := by rw [Nat.pow_succ, Int.natCast_mul]; rfl
                rw [e9]
                generalize 10 ^ (k + 1) = V at *
                exact wl_id (by omega) (by omega)
              rw [e141_55]
              simp (disch := first | assumption | omega | (exact shp_fok (by first | assumption | exact shp_sr _ _ (by assumption) | exact shp_sr _ _ (shp_sr _ _ (by assumption)) | exact shp_sr _ _ (shp_sr _ _ (shp_sr _ _ (by assumption)))) (by decide)) | (simp only [fok_sr, aok_sr]; first | assumption | (exact shp_fok (by first | assumption | exact shp_sr _ _ (by assumption) | exact shp_sr _ _ (shp_sr _ _ (by assumption)) | exact shp_sr _ _ (shp_sr _ _ (shp_sr _ _ (by assumption)))) (by decide))) | (refine shp_aok (by first | assumption | exact shp_sr _ _ (by assumption) | exact shp_sr _ _ (shp_sr _ _ (by assumption)) | exact shp_sr _ _ (shp_sr _ _ (shp_sr _ _ (by assumption)))) rfl rfl ?_ ?_ <;> omega) | (exact shp_sr _ _ (by assumption)) | (exact shp_sr _ _ (shp_sr _ _ (by assumption))) | (exact shp_sr _ _ (shp_sr _ _ (shp_sr _ _ (by assumption)))) | (left; assumption) | (exact b2i_or _) | (simp; done)) only [e141_57, e141_58, e141_61, e141_63, e141_66, e141_67, e141_69, e141_72, eq_self, ne_a, ne_b, ne_c, Nat.reduceEqDiff, lt0, bnd_ok, psh_I, psh_L, psh_R, psh_U, gt_sr, gr_sr, sk_sr, nn_sr, ↓reduceIte, Int.toNat_natCast, Int.reduceToNat, hk', w6, w5]
              exact ih
          have hup := fun x => upF_le (d := d) (s := s) (t := t) (m := m) ht10 hm8 x
          have hpw := pow_8 (Nat.le_refl 10) hm8
          generalize hL : 10 ^ m = L at *
          -- the sum
          have B : ∀ q10 q11 q12 τ, mdl τ d cn sg → ∃ q9' q10' q11' q12' τ', run 141 78 [vR 24, vI (s : Int), vI (t : Int), vI (m : Int), vI p, vL (upF d s t m 0 : Nat), vH, vL (L : Int), vH, vI 0, q10, q11, q12, vU, vU] [] τ = run 141 177 [vR 24, vI (s : Int), vI (t : Int), vI (m : Int), vI p, vL (upF d s t m (2 ^ m) : Nat), vH, vL (L : Int), vH, q9', q10', q11', q12', vU, vU] [] τ' ∧ sch τ τ' ∧ mdl τ' d cn sg := by
            refine bk (P := fun x z => ∀ q10 q11 q12 τ, mdl τ d cn sg → ∃ q9' q10' q11' q12' τ', run 141 78 [vR 24, vI (s : Int), vI (t : Int), vI (m : Int), vI p, vL (upF d s t m x : Nat), vH, vL (L : Int), vH, vI z, q10, q11, q12, vU, vU] [] τ = run 141 177 [vR 24, vI (s : Int), vI (t : Int), vI (m : Int), vI p, vL (upF d s t m (2 ^ m) : Nat), vH, vL (L : Int), vH, q9', q10', q11', q12', vU, vU] [] τ' ∧ sch τ τ' ∧ mdl τ' d cn sg) (n := 2 ^ m) ?_ ?_
            · intro q10 q11 q12 τ hmm
              have h4 : ¬ ((2 ^ m : Nat) : Int) < ((2 ^ m : Nat) : Int) := by omega
              refine ⟨vI ((2 ^ m : Nat) : Int), q10, q11, q12, τ, ?_, sch_rf _, hmm⟩
              rw [e141_78]
              simp (disch := first | assumption | omega | (exact shp_fok (by first | assumption | exact shp_sr _ _ (by assumption) | exact shp_sr _ _ (shp_sr _ _ (by assumption)) | exact shp_sr _ _ (shp_sr _ _ (shp_sr _ _ (by assumption)))) (by decide)) | (simp only [fok_sr, aok_sr]; first | assumption | (exact shp_fok (by first | assumption | exact shp_sr _ _ (by assumption) | exact shp_sr _ _ (shp_sr _ _ (by assumption)) | exact shp_sr _ _ (shp_sr _ _ (shp_sr _ _ (by assumption)))) (by decide))) | (refine shp_aok (by first | assumption | exact shp_sr _ _ (by assumption) | exact shp_sr _ _ (shp_sr _ _ (by assumption)) | exact shp_sr _ _ (shp_sr _ _ (shp_sr _ _ (by assumption)))) rfl rfl ?_ ?_ <;> omega) | (exact shp_sr _ _ (by assumption)) | (exact shp_sr _ _ (shp_sr _ _ (by assumption))) | (exact shp_sr _ _ (shp_sr _ _ (shp_sr _ _ (by assumption)))) | (left; assumption) | (exact b2i_or _) | (simp; done)) only [e141_80, e141_81, e141_82, e141_83, eq_self, ne_a, ne_b, ne_c, Nat.reduceEqDiff, lt0, bnd_ok, psh_I, psh_L, psh_R, psh_U, gt_sr, gr_sr, sk_sr, nn_sr, ↓reduceIte, Int.toNat_natCast, Int.reduceToNat, o1, h4]
            · intro x hx hx' ih q10 q11 q12 τ hmm
              have w5 : wr ((x : Int) + 1) = (x : Int) + 1 := wr_id (by omega) (by omega)
              obtain ⟨τ1, e1, c1, r1⟩ := m_asNow hmm
              have ht := hmm.1.1
              have w6 : wr (10 - (t : Int)) = ((10 - t : Nat) : Int) := by rw [wr_id (by omega) (by omega)]; omega
              have inner : ∀ τ1, nowR τ1 (pwH d x 0) → ∃ τ', run 141 96 [vR 24, vI (s : Int), vI (t : Int), vI (m : Int), vI p, vL (upF d s t m x : Nat), vH, vL (L : Int), vH, vI (x : Int), vL (wgF t x 0 : Nat), vH, vI 0, vU, vU] [] τ1 = run 141 152 [vR 24, vI (s : Int), vI (t : Int), vI (m : Int), vI p, vL (upF d s t m x : Nat), vH, vL (L : Int), vH, vI (x : Int), vL (wgF t x m : Nat), vH, vI (m : Int), vU, vU] [] τ' ∧ chg [29, 30] τ1 τ' ∧ nowR τ' (pwH d x m) := by
                refine bk (P := fun i z => ∀ τ1, nowR τ1 (pwH d x i) → ∃ τ', run 141 96 [vR 24, vI (s : Int), vI (t : Int), vI (m : Int), vI p, vL (upF d s t m x : Nat), vH, vL (L : Int), vH, vI (x : Int), vL (wgF t x i : Nat), vH, vI z, vU, vU] [] τ1 = run 141 152 [vR 24, vI (s : Int), vI (t : Int), vI (m : Int), vI p, vL (upF d s t m x : Nat), vH, vL (L : Int), vH, vI (x : Int), vL (wgF t x m : Nat), vH, vI (m : Int), vU, vU] [] τ' ∧ chg [29, 30] τ1 τ' ∧ nowR τ' (pwH d x m)) (n := m) ?_ ?_
                · intro τ1 hn
                  have h4 : ¬ ((m : Nat) : Int) < ((m : Nat) : Int) := by omega
                  refine ⟨τ1, ?_, chg_rf _ _, hn⟩
                  rw [e141_96]
                  simp (disch := first | assumption | omega | (exact shp_fok (by first | assumption | exact shp_sr _ _ (by assumption) | exact shp_sr _ _ (shp_sr _ _ (by assumption)) | exact shp_sr _ _ (shp_sr _ _ (shp_sr _ _ (by assumption)))) (by decide)) | (simp only [fok_sr, aok_sr]; first | assumption | (exact shp_fok (by first | assumption | exact shp_sr _ _ (by assumption) | exact shp_sr _ _ (shp_sr _ _ (by assumption)) | exact shp_sr _ _ (shp_sr _ _ (shp_sr _ _ (by assumption)))) (by decide))) | (refine shp_aok (by first | assumption | exact shp_sr _ _ (by assumption) | exact shp_sr _ _ (shp_sr _ _ (by assumption)) | exact shp_sr _ _ (shp_sr _ _ (shp_sr _ _ (by assumption)))) rfl rfl ?_ ?_ <;> omega) | (exact shp_sr _ _ (by assumption)) | (exact shp_sr _ _ (shp_sr _ _ (by assumption))) | (exact shp_sr _ _ (shp_sr _ _ (shp_sr _ _ (by assumption)))) | (left; assumption) | (exact b2i_or _) | (simp; done)) only [e141_98, e141_99, eq_self, ne_a, ne_b, ne_c, Nat.reduceEqDiff, lt0, bnd_ok, psh_I, psh_L, psh_R, psh_U, gt_sr, gr_sr, sk_sr, nn_sr, ↓reduceIte, Int.toNat_natCast, Int.reduceToNat, h4]
                · intro i hi hi' ih2 τ1 hn
                  have w9 : wr ((i : Int) + 1) = (i : Int) + 1 := wr_id (by omega) (by omega)
                  have hh := m_has (x := x) (k := i) (by omega) (by omega) τ1
                  have hps : pwH d x (i + 1) = pas (pwH d x i) (if x.testBit i = true then 1 else 5) := rfl
                  have hw1 := wgF_le ht10 x (i + 1) (by omega)
                  have hp8 := pow_8 (Nat.le_refl 10) (show i + 1 ≤ 8 by omega)
                  have hws := wgF_s t x i
                  have ht1 := hn.1.1
                  rw [hps] at ih2
                  cases hb : x.testBit i with
                  | true =>
                    rw [hb] at hh
                    rw [hb, if_pos rfl] at ih2 hws
                    obtain ⟨τ2, e3, c3, r3⟩ := m_pass hn (hh := 1) (by omega)
                    rw [show kin 1 = 2 from rfl] at e3
                    obtain ⟨τ3, e4, c4, r4⟩ := ih2 τ2 r3
                    have w10 : wl ((wgF t x i : Int) * (t : Int)) = ((wgF t x (i + 1) : Nat) : Int) := by
                      rw [hws] at hw1 ⊢
                      rw [← Int.natCast_mul]
                      exact wl_id (by omega) (by omega)
                    refine ⟨τ3, ?_, chg_tr c3 c4 (fun _ h => h), r4⟩
                    rw [← e4, e141_96]
                    simp (disch := first | assumption | omega | (exact shp_fok (by first | assumption | exact shp_sr _ _ (by assumption) | exact shp_sr _ _ (shp_sr _ _ (by assumption)) | exact shp_sr _ _ (shp_sr _ _ (shp_sr _ _ (by assumption)))) (by decide)) | (simp only [fok_sr, aok_sr]; first | assumption | (exact shp_fok (by first | assumption | exact shp_sr _ _ (by assumption) | exact shp_sr _ _ (shp_sr _ _ (by assumption)) | exact shp_sr _ _ (shp_sr _ _ (shp_sr _ _ (by assumption)))) (by decide))) | (refine shp_aok (by first | assumption | exact shp_sr _ _ (by assumption) | exact shp_sr _ _ (shp_sr _ _ (by assumption)) | exact shp_sr _ _ (shp_sr _ _ (shp_sr _ _ (by assumption)))) rfl rfl ?_ ?_ <;> omega) | (exact shp_sr _ _ (by assumption)) | (exact shp_sr _ _ (shp_sr _ _ (by assumption))) | (exact shp_sr _ _ (shp_sr _ _ (shp_sr _ _ (by assumption)))) | (left; assumption) | (exact b2i_or _) | (simp; done)) only [e141_98, e141_99, e141_102, e141_104, e141_106, e141_108, e141_111, e141_114, e141_115, e141_116, e141_119, e141_121, e141_122, e141_123, e141_124, e141_125, e141_127, e141_128, e141_130, e141_132, e141_135, e141_138, e141_139, e141_142, e141_143, e141_146, e141_149, eq_self, ne_a, ne_b, ne_c, Nat.reduceEqDiff, lt0, bnd_ok, psh_I, psh_L, psh_R, psh_U, gt_sr, gr_sr, sk_sr, nn_sr, ↓reduceIte, Int.toNat_natCast, Int.reduceToNat, hi', hh, b2i_t, w10, e3, w9, Int.reduceEq]
                  | false =>
                    rw [hb] at hh
                    rw [hb, if_neg Bool.false_ne_true] at ih2 hws
                    obtain ⟨τ2, e3, c3, r3⟩ := m_pass hn (hh := 5) (by omega)
                    rw [show kin 5 = 0 from rfl] at e3
                    obtain ⟨τ3, e4, c4, r4⟩ := ih2 τ2 r3
                    have w10 : wl ((wgF t x i : Int) * ((10 - t : Nat) : Int)) = ((wgF t x (i + 1) : Nat) : Int) := by
                      rw [hws] at hw1 ⊢
                      rw [← Int.natCast_mul]
                      exact wl_id (by omega) (by omega)
                    refine ⟨τ3, ?_, chg_tr c3 c4 (fun _ h => h), r4⟩
                    rw [← e4, e141_96]
                    simp (disch := first | assumption | omega | (exact shp_fok (by first | assumption | exact shp_sr _ _ (by assumption) | exact shp_sr _ _ (shp_sr _ _ (by assumption)) | exact shp_sr _ _ (shp_sr _ _ (shp_sr _ _ (by assumption)))) (by decide)) | (simp only [fok_sr, aok_sr]; first | assumption | (exact shp_fok (by first | assumption | exact shp_sr _ _ (by assumption) | exact shp_sr _ _ (shp_sr _ _ (by assumption)) | exact shp_sr _ _ (shp_sr _ _ (shp_sr _ _ (by assumption)))) (by decide))) | (refine shp_aok (by first | assumption | exact shp_sr _ _ (by assumption) | exact shp_sr _ _ (shp_sr _ _ (by assumption)) | exact shp_sr _ _ (shp_sr _ _ (shp_sr _ _ (by assumption)))) rfl rfl ?_ ?_ <;> omega) | (exact shp_sr _ _ (by assumption)) | (exact shp_sr _ _ (shp_sr _ _ (by assumption))) | (exact shp_sr _ _ (shp_sr _ _ (shp_sr _ _ (by assumption)))) | (left; assumption) | (exact b2i_or _) | (simp; done)) only [e141_98, e141_99, e141_102, e141_104, e141_106, e141_108, e141_111, e141_114, e141_115, e141_116, e141_119, e141_121, e141_122, e141_123, e141_124, e141_125, e141_127, e141_128, e141_130, e141_132, e141_135, e141_138, e141_139, e141_142, e141_143, e141_146, e141_149, eq_self, ne_a, ne_b, ne_c, Nat.reduceEqDiff, lt0, bnd_ok, psh_I, psh_L, psh_R, psh_U, gt_sr, gr_sr, sk_sr, nn_sr, ↓reduceIte, Int.toNat_natCast, Int.reduceToNat, hi', hh, b2i_f, w6, w10, e3, w9]
              obtain ⟨τ2, e2, c2, r2⟩ := inner τ1 r1
              have e4 := m_standsNow r2 hs4
              have sA := sch_tr c1 (sch_of c2 rfl)
              have mA := mdl_sch hmm sA (nowR_z r2)
              obtain ⟨q9', q10', q11', q12', τ3, e5, c5, m5⟩ := ih (vL (wgF t x m : Nat)) vH (vI (m : Int)) τ2 mA
              refine ⟨q9', q10', q11', q12', τ3, ?_, sch_tr sA c5, m5⟩
              have hus : upF d s t m (x + 1) = upF d s t m x + (if hsH d s m x = true then wgF t x m else 0) := rfl
              have hu1 := hup x
              have hwl := wgF_le ht10 x m hm8
              rw [hL] at hwl
              have hd : run 141 78 [vR 24, vI (s : Int), vI (t : Int), vI (m : Int), vI p, vL (upF d s t m x : Nat), vH, vL (L : Int), vH, vI (x : Int), q10, q11, q12, vU, vU] [] τ = run 141 152 [vR 24, vI (s : Int), vI (t : Int), vI (m : Int), vI p, vL (upF d s t m x : Nat), vH, vL (L : Int), vH, vI (x : Int), vL (wgF t x m : Nat), vH, vI (m : Int), vU, vU] [] τ2 := by
                rw [← e2, e141_78]
                simp (disch := first | assumption | omega | (exact shp_fok (by first | assumption | exact shp_sr _ _ (by assumption) | exact shp_sr _ _ (shp_sr _ _ (by assumption)) | exact shp_sr _ _ (shp_sr _ _ (shp_sr _ _ (by assumption)))) (by decide)) | (simp only [fok_sr, aok_sr]; first | assumption | (exact shp_fok (by first | assumption | exact shp_sr _ _ (by assumption) | exact shp_sr _ _ (shp_sr _ _ (by assumption)) | exact shp_sr _ _ (shp_sr _ _ (shp_sr _ _ (by assumption)))) (by decide))) | (refine shp_aok (by first | assumption | exact shp_sr _ _ (by assumption) | exact shp_sr _ _ (shp_sr _ _ (by assumption)) | exact shp_sr _ _ (shp_sr _ _ (shp_sr _ _ (by assumption)))) rfl rfl ?_ ?_ <;> omega) | (exact shp_sr _ _ (by assumption)) | (exact shp_sr _ _ (shp_sr _ _ (by assumption))) | (exact shp_sr _ _ (shp_sr _ _ (shp_sr _ _ (by assumption)))) | (left; assumption) | (exact b2i_or _) | (simp; done)) only [e141_80, e141_81, e141_82, e141_83, e141_86, e141_87, e141_89, e141_90, e141_93, e141_94, eq_self, ne_a, ne_b, ne_c, Nat.reduceEqDiff, lt0, bnd_ok, psh_I, psh_L, psh_R, psh_U, gt_sr, gr_sr, sk_sr, nn_sr, ↓reduceIte, Int.toNat_natCast, Int.reduceToNat, o1, hx', e1]
                rfl
              rw [hd]
              have hsd : hsH d s m x = hoD (pwH d x m) s := rfl
              rw [← hsd] at e4
              have ht2 := mA.1.1
              cases hg : hsH d s m x with
              | true =>
                rw [hg] at e4
                rw [hg, if_pos rfl] at hus
                have w11 : wl ((upF d s t m x : Int) + (wgF t x m : Int)) = ((upF d s t m (x + 1) : Nat) : Int) := by rw [hus, wl_id (by omega) (by omega)]; omega
                simp (disch := first | assumption | omega | (exact shp_fok (by first | assumption | exact shp_sr _ _ (by assumption) | exact shp_sr _ _ (shp_sr _ _ (by assumption)) | exact shp_sr _ _ (shp_sr _ _ (shp_sr _ _ (by assumption)))) (by decide)) | (simp only [fok_sr, aok_sr]; first | assumption | (exact shp_fok (by first | assumption | exact shp_sr _ _ (by assumption) | exact shp_sr _ _ (shp_sr _ _ (by assumption)) | exact shp_sr _ _ (shp_sr _ _ (shp_sr _ _ (by assumption)))) (by decide))) | (refine shp_aok (by first | assumption | exact shp_sr _ _ (by assumption) | exact shp_sr _ _ (shp_sr _ _ (by assumption)) | exact shp_sr _ _ (shp_sr _ _ (shp_sr _ _ (by assumption)))) rfl rfl ?_ ?_ <;> omega) | (exact shp_sr _ _ (by assumption)) | (exact shp_sr _ _ (shp_sr _ _ (by assumption))) | (exact shp_sr _ _ (shp_sr _ _ (shp_sr _ _ (by assumption)))) | (left; assumption) | (exact b2i_or _) | (simp; done)) only [e141_152, e141_154, e141_155, e141_156, e141_159, e141_162, e141_164, e141_167, e141_168, e141_169, e141_171, e141_174, eq_self, ne_a, ne_b, ne_c, Nat.reduceEqDiff, lt0, bnd_ok, psh_I, psh_L, psh_R, psh_U, gt_sr, gr_sr, sk_sr, nn_sr, ↓reduceIte, Int.toNat_natCast, Int.reduceToNat, e4, b2i_t, w11, w5, Int.reduceEq]
                exact e5
              | false =>
                rw [hg] at e4
                rw [hg, if_neg Bool.false_ne_true] at hus
                have w11 : wl ((upF d s t m x : Int) + 0) = ((upF d s t m (x + 1) : Nat) : Int) := by rw [hus, wl_id (by omega) (by omega)]; omega
                simp (disch := first | assumption | omega | (exact shp_fok (by first | assumption | exact shp_sr _ _ (by assumption) | exact shp_sr _ _ (shp_sr _ _ (by assumption)) | exact shp_sr _ _ (shp_sr _ _ (shp_sr _ _ (by assumption)))) (by decide)) | (simp only [fok_sr, aok_sr]; first | assumption | (exact shp_fok (by first | assumption | exact shp_sr _ _ (by assumption) | exact shp_sr _ _ (shp_sr _ _ (by assumption)) | exact shp_sr _ _ (shp_sr _ _ (shp_sr _ _ (by assumption)))) (by decide))) | (refine shp_aok (by first | assumption | exact shp_sr _ _ (by assumption) | exact shp_sr _ _ (shp_sr _ _ (by assumption)) | exact shp_sr _ _ (shp_sr _ _ (shp_sr _ _ (by assumption)))) rfl rfl ?_ ?_ <;> omega) | (exact shp_sr _ _ (by assumption)) | (exact shp_sr _ _ (shp_sr _ _ (by assumption))) | (exact shp_sr _ _ (shp_sr _ _ (shp_sr _ _ (by assumption)))) | (left; assumption) | (exact b2i_or _) | (simp; done)) only [e141_152, e141_154, e141_155, e141_156, e141_159, e141_162, e141_164, e141_167, e141_168, e141_169, e141_171, e141_174, eq_self, ne_a, ne_b, ne_c, Nat.reduceEqDiff, lt0, bnd_ok, psh_I, psh_L, psh_R, psh_U, gt_sr, gr_sr, sk_sr, nn_sr, ↓reduceIte, Int.toNat_natCast, Int.reduceToNat, e4, b2i_f, w11, w5]
                exact e5
          obtain ⟨q9, q10, q11, q12, σ1, eB, cB, mB⟩ := B vU vU vU σ h
          have hU := hup (2 ^ m)
          have hLp : 0 < L := by rw [← hL]; exact Nat.pow_pos (by decide)
          have hu0 : upF d s t m 0 = 0 := rfl
          rw [hu0] at eB
          generalize upF d s t m (2 ^ m) = U at *
          -- the greatest common factor
          have C : ∀ N y x, y ≤ N → x ≤ 25600000000 → y ≤ 25600000000 → ∀ q13 q14, ∃ q13' q14', run 141 185 [vR 24, vI (s : Int), vI (t : Int), vI (m : Int), vI p, vL (U : Int), vH, vL (L : Int), vH, vL (x : Nat), vH, vL (y : Nat), vH, q13, q14] [] σ1 = run 141 210 [vR 24, vI (s : Int), vI (t : Int), vI (m : Int), vI p, vL (U : Int), vH, vL (L : Int), vH, vL (Nat.gcd x y : Nat), vH, vL 0, vH, q13', q14'] [] σ1 := by
            intro N
            induction N with
            | zero =>
              intro y x hy _ _ q13 q14
              obtain rfl : y = 0 := by omega
              refine ⟨q13, q14, ?_⟩
              have z0 : lCmp (((0 : Nat) : Int)) 0 = 0 := (lCmp_0 0).trans rfl
              rw [Nat.gcd_zero_right, e141_185]
              simp (disch := first | assumption | omega | (exact shp_fok (by first | assumption | exact shp_sr _ _ (by assumption) | exact shp_sr _ _ (shp_sr _ _ (by assumption)) | exact shp_sr _ _ (shp_sr _ _ (shp_sr _ _ (by assumption)))) (by decide)) | (simp only [fok_sr, aok_sr]; first | assumption | (exact shp_fok (by first | assumption | exact shp_sr _ _ (by assumption) | exact shp_sr _ _ (shp_sr _ _ (by assumption)) | exact shp_sr _ _ (shp_sr _ _ (shp_sr _ _ (by assumption)))) (by decide))) | (refine shp_aok (by first | assumption | exact shp_sr _ _ (by assumption) | exact shp_sr _ _ (shp_sr _ _ (by assumption)) | exact shp_sr _ _ (shp_sr _ _ (shp_sr _ _ (by assumption)))) rfl rfl ?_ ?_ <;> omega) | (exact shp_sr _ _ (by assumption)) | (exact shp_sr _ _ (shp_sr _ _ (by assumption))) | (exact shp_sr _ _ (shp_sr _ _ (shp_sr _ _ (by assumption)))) | (left; assumption) | (exact b2i_or _) | (simp; done)) only [e141_187, e141_188, e141_189, eq_self, ne_a, ne_b, ne_c, Nat.reduceEqDiff, lt0, bnd_ok, psh_I, psh_L, psh_R, psh_U, gt_sr, gr_sr, sk_sr, nn_sr, ↓reduceIte, Int.toNat_natCast, Int.reduceToNat, z0]
              rfl
            | succ N ih =>
              intro y x hy hx9 hy9 q13 q14
              by_cases hy0 : y = 0
              · exact ih y x (by omega) hx9 hy9 q13 q14
              · have hlt := Nat.mod_lt x (show 0 < y by omega)
                obtain ⟨q13', q14', e9⟩ := ih (x % y) y (by omega) hy9 (by omega) (vL (x % y : Nat)) vH
                refine ⟨q13', q14', ?_⟩
                rw [gcd_step] at e9
                obtain ⟨u1, u2, u3, u4⟩ := l_ops (a := x) (b := y) (by omega) (by omega)
                have z1 := lCmp_0 y
                rw [if_neg hy0] at z1
                have hyi : ¬ (y : Int) = 0 := by omega
                rw [← e9, e141_185]
                simp (disch := first | assumption | omega | (exact shp_fok (by first | assumption | exact shp_sr _ _ (by assumption) | exact shp_sr _ _ (shp_sr _ _ (by assumption)) | exact shp_sr _ _ (shp_sr _ _ (shp_sr _ _ (by assumption)))) (by decide)) | (simp only [fok_sr, aok_sr]; first | assumption | (exact shp_fok (by first | assumption | exact shp_sr _ _ (by assumption) | exact shp_sr _ _ (shp_sr _ _ (by assumption)) | exact shp_sr _ _ (shp_sr _ _ (shp_sr _ _ (by assumption)))) (by decide))) | (refine shp_aok (by first | assumption | exact shp_sr _ _ (by assumption) | exact shp_sr _ _ (shp_sr _ _ (by assumption)) | exact shp_sr _ _ (shp_sr _ _ (shp_sr _ _ (by assumption)))) rfl rfl ?_ ?_ <;> omega) | (exact shp_sr _ _ (by assumption)) | (exact shp_sr _ _ (shp_sr _ _ (by assumption))) | (exact shp_sr _ _ (shp_sr _ _ (shp_sr _ _ (by assumption)))) | (left; assumption) | (exact b2i_or _) | (simp; done)) only [e141_187, e141_188, e141_189, e141_192, e141_194, e141_196, e141_197, e141_199, e141_201, e141_203, e141_205, e141_207, eq_self, ne_a, ne_b, ne_c, Nat.reduceEqDiff, lt0, bnd_ok, psh_I, psh_L, psh_R, psh_U, gt_sr, gr_sr, sk_sr, nn_sr, ↓reduceIte, Int.toNat_natCast, Int.reduceToNat, z1, hyi, u1, u3, Int.reduceEq]
          have hULe : U ≤ 25600000000 := Nat.le_trans hU (Nat.le_trans (Nat.mul_le_mul_right _ hm2) (by decide))
          obtain ⟨q13, q14, eC⟩ := C L L U (Nat.le_refl _) hULe (by omega) vU vU
          have hg : 0 < Nat.gcd U L := Nat.gcd_pos_of_pos_right _ hLp
          obtain ⟨u1, u2, u3, u4⟩ := l_ops (a := U) (b := Nat.gcd U L) hg (by omega)
          obtain ⟨v1, v2, v3, v4⟩ := l_ops (a := L) (b := Nat.gcd U L) hg (by omega)
          have hgi : ¬ ((Nat.gcd U L : Nat) : Int) = 0 := by omega
          refine ⟨σ1, ?_, sch_SMo cB, mB⟩
          have start : run 141 0 [vR 24, vI (s : Int), vI (t : Int), vI (m : Int), vI p, vU, vU, vU, vU, vU, vU, vU, vU, vU, vU] [] σ = run 141 210 [vR 24, vI (s : Int), vI (t : Int), vI (m : Int), vI p, vL (U : Int), vH, vL (L : Int), vH, vL (Nat.gcd U L : Nat), vH, vL 0, vH, q13, q14] [] σ1 := by
            rw [← eC]
            have fin : run 141 177 [vR 24, vI (s : Int), vI (t : Int), vI (m : Int), vI p, vL (U : Int), vH, vL (L : Int), vH, q9, q10, q11, q12, vU, vU] [] σ1 = run 141 185 [vR 24, vI (s : Int), vI (t : Int), vI (m : Int), vI p, vL (U : Int), vH, vL (L : Int), vH, vL (U : Int), vH, vL (L : Int), vH, vU, vU] [] σ1 := by
              simp (disch := first | assumption | omega | (exact shp_fok (by first | assumption | exact shp_sr _ _ (by assumption) | exact shp_sr _ _ (shp_sr _ _ (by assumption)) | exact shp_sr _ _ (shp_sr _ _ (shp_sr _ _ (by assumption)))) (by decide)) | (simp only [fok_sr, aok_sr]; first | assumption | (exact shp_fok (by first | assumption | exact shp_sr _ _ (by assumption) | exact shp_sr _ _ (shp_sr _ _ (by assumption)) | exact shp_sr _ _ (shp_sr _ _ (shp_sr _ _ (by assumption)))) (by decide))) | (refine shp_aok (by first | assumption | exact shp_sr _ _ (by assumption) | exact shp_sr _ _ (shp_sr _ _ (by assumption)) | exact shp_sr _ _ (shp_sr _ _ (shp_sr _ _ (by assumption)))) rfl rfl ?_ ?_ <;> omega) | (exact shp_sr _ _ (by assumption)) | (exact shp_sr _ _ (shp_sr _ _ (by assumption))) | (exact shp_sr _ _ (shp_sr _ _ (shp_sr _ _ (by assumption)))) | (left; assumption) | (exact b2i_or _) | (simp; done)) only [e141_177, e141_179, e141_181, e141_183, eq_self, ne_a, ne_b, ne_c, Nat.reduceEqDiff, lt0, bnd_ok, psh_I, psh_L, psh_R, psh_U, gt_sr, gr_sr, sk_sr, nn_sr, ↓reduceIte, Int.toNat_natCast, Int.reduceToNat]
            rw [← fin, ← eB]
            have z10 : ((0 : Nat) : Int) = 0 := rfl
            rw [z10, ← A]
            simp (disch := first | assumption | omega | (exact shp_fok (by first | assumption | exact shp_sr _ _ (by assumption) | exact shp_sr _ _ (shp_sr _ _ (by assumption)) | exact shp_sr _ _ (shp_sr _ _ (shp_sr _ _ (by assumption)))) (by decide)) | (simp only [fok_sr, aok_sr]; first | assumption | (exact shp_fok (by first | assumption | exact shp_sr _ _ (by assumption) | exact shp_sr _ _ (shp_sr _ _ (by assumption)) | exact shp_sr _ _ (shp_sr _ _ (shp_sr _ _ (by assumption)))) (by decide))) | (refine shp_aok (by first | assumption | exact shp_sr _ _ (by assumption) | exact shp_sr _ _ (shp_sr _ _ (by assumption)) | exact shp_sr _ _ (shp_sr _ _ (shp_sr _ _ (by assumption)))) rfl rfl ?_ ?_ <;> omega) | (exact shp_sr _ _ (by assumption)) | (exact shp_sr _ _ (shp_sr _ _ (by assumption))) | (exact shp_sr _ _ (shp_sr _ _ (shp_sr _ _ (by assumption)))) | (left; assumption) | (exact b2i_or _) | (simp; done)) only [e141_0, e141_1, e141_2, e141_5, e141_8, e141_11, e141_12, e141_13, e141_14, e141_16, e141_19, e141_22, e141_23, e141_24, e141_26, e141_29, e141_32, e141_34, e141_35, e141_36, e141_39, e141_42, e141_45, e141_46, e141_47, e141_49, e141_50, e141_52, e141_53, eq_self, ne_a, ne_b, ne_c, Nat.reduceEqDiff, lt0, bnd_ok, psh_I, psh_L, psh_R, psh_U, gt_sr, gr_sr, sk_sr, nn_sr, ↓reduceIte, Int.toNat_natCast, Int.reduceToNat, q1, b2i_t, m_in, if_pos h1, if_pos h2, if_pos h3, Int.reduceEq]
            rfl
          rw [start]
          by_cases hp0 : p = 0
          · rw [if_pos hp0]
            simp (disch := first | assumption | omega | (exact shp_fok (by first | assumption | exact shp_sr _ _ (by assumption) | exact shp_sr _ _ (shp_sr _ _ (by assumption)) | exact shp_sr _ _ (shp_sr _ _ (shp_sr _ _ (by assumption)))) (by decide)) | (simp only [fok_sr, aok_sr]; first | assumption | (exact shp_fok (by first | assumption | exact shp_sr _ _ (by assumption) | exact shp_sr _ _ (shp_sr _ _ (by assumption)) | exact shp_sr _ _ (shp_sr _ _ (shp_sr _ _ (by assumption)))) (by decide))) | (refine shp_aok (by first | assumption | exact shp_sr _ _ (by assumption) | exact shp_sr _ _ (shp_sr _ _ (by assumption)) | exact shp_sr _ _ (shp_sr _ _ (shp_sr _ _ (by assumption)))) rfl rfl ?_ ?_ <;> omega) | (exact shp_sr _ _ (by assumption)) | (exact shp_sr _ _ (shp_sr _ _ (by assumption))) | (exact shp_sr _ _ (shp_sr _ _ (shp_sr _ _ (by assumption)))) | (left; assumption) | (exact b2i_or _) | (simp; done)) only [e141_210, e141_212, e141_215, e141_217, e141_219, e141_220, e141_223, e141_225, e141_227, e141_228, eq_self, ne_a, ne_b, ne_c, Nat.reduceEqDiff, lt0, bnd_ok, psh_I, psh_L, psh_R, psh_U, gt_sr, gr_sr, sk_sr, nn_sr, ↓reduceIte, Int.toNat_natCast, Int.reduceToNat, hp0, hgi, u2, u4]
          · rw [if_neg hp0]
            simp (disch := first | assumption | omega | (exact shp_fok (by first | assumption | exact shp_sr _ _ (by assumption) | exact shp_sr _ _ (shp_sr _ _ (by assumption)) | exact shp_sr _ _ (shp_sr _ _ (shp_sr _ _ (by assumption)))) (by decide)) | (simp only [fok_sr, aok_sr]; first | assumption | (exact shp_fok (by first | assumption | exact shp_sr _ _ (by assumption) | exact shp_sr _ _ (shp_sr _ _ (by assumption)) | exact shp_sr _ _ (shp_sr _ _ (shp_sr _ _ (by assumption)))) (by decide))) | (refine shp_aok (by first | assumption | exact shp_sr _ _ (by assumption) | exact shp_sr _ _ (shp_sr _ _ (by assumption)) | exact shp_sr _ _ (shp_sr _ _ (shp_sr _ _ (by assumption)))) rfl rfl ?_ ?_ <;> omega) | (exact shp_sr _ _ (by assumption)) | (exact shp_sr _ _ (shp_sr _ _ (by assumption))) | (exact shp_sr _ _ (shp_sr _ _ (shp_sr _ _ (by assumption)))) | (left; assumption) | (exact b2i_or _) | (simp; done)) only [e141_210, e141_212, e141_215, e141_217, e141_219, e141_220, e141_223, e141_225, e141_227, e141_228, eq_self, ne_a, ne_b, ne_c, Nat.reduceEqDiff, lt0, bnd_ok, psh_I, psh_L, psh_R, psh_U, gt_sr, gr_sr, sk_sr, nn_sr, ↓reduceIte, Int.toNat_natCast, Int.reduceToNat, hp0, hgi, v2, v4]
        · rw [if_neg (fun h => h3 h.2.2)]
          refine ⟨σ, ?_, mdl_rf h⟩
          simp (disch := first | assumption | omega | (exact shp_fok (by first | assumption | exact shp_sr _ _ (by assumption) | exact shp_sr _ _ (shp_sr _ _ (by assumption)) | exact shp_sr _ _ (shp_sr _ _ (shp_sr _ _ (by assumption)))) (by decide)) | (simp only [fok_sr, aok_sr]; first | assumption | (exact shp_fok (by first | assumption | exact shp_sr _ _ (by assumption) | exact shp_sr _ _ (shp_sr _ _ (by assumption)) | exact shp_sr _ _ (shp_sr _ _ (shp_sr _ _ (by assumption)))) (by decide))) | (refine shp_aok (by first | assumption | exact shp_sr _ _ (by assumption) | exact shp_sr _ _ (shp_sr _ _ (by assumption)) | exact shp_sr _ _ (shp_sr _ _ (shp_sr _ _ (by assumption)))) rfl rfl ?_ ?_ <;> omega) | (exact shp_sr _ _ (by assumption)) | (exact shp_sr _ _ (shp_sr _ _ (by assumption))) | (exact shp_sr _ _ (shp_sr _ _ (shp_sr _ _ (by assumption)))) | (left; assumption) | (exact b2i_or _) | (simp; done)) only [e141_0, e141_1, e141_2, e141_5, e141_8, e141_11, e141_12, e141_13, e141_14, e141_16, e141_19, e141_22, e141_23, e141_24, e141_26, e141_29, e141_32, e141_34, e141_35, e141_36, e141_39, e141_42, e141_45, eq_self, ne_a, ne_b, ne_c, Nat.reduceEqDiff, lt0, bnd_ok, psh_I, psh_L, psh_R, psh_U, gt_sr, gr_sr, sk_sr, nn_sr, ↓reduceIte, Int.toNat_natCast, Int.reduceToNat, q1, b2i_t, m_in, if_pos h1, if_pos h2, if_neg h3, Int.reduceEq]
      · rw [if_neg (fun h => h2 h.2.1)]
        refine ⟨σ, ?_, mdl_rf h⟩
        simp (disch := first | assumption | omega | (exact shp_fok (by first | assumption | exact shp_sr _ _ (by assumption) | exact shp_sr _ _ (shp_sr _ _ (by assumption)) | exact shp_sr _ _ (shp_sr _ _ (shp_sr _ _ (by assumption)))) (by decide)) | (simp only [fok_sr, aok_sr]; first | assumption | (exact shp_fok (by first | assumption | exact shp_sr _ _ (by assumption) | exact shp_sr _ _ (shp_sr _ _ (by assumption)) | exact shp_sr _ _ (shp_sr _ _ (shp_sr _ _ (by assumption)))) (by decide))) | (refine shp_aok (by first | assumption | exact shp_sr _ _ (by assumption) | exact shp_sr _ _ (shp_sr _ _ (by assumption)) | exact shp_sr _ _ (shp_sr _ _ (shp_sr _ _ (by assumption)))) rfl rfl ?_ ?_ <;> omega) | (exact shp_sr _ _ (by assumption)) | (exact shp_sr _ _ (shp_sr _ _ (by assumption))) | (exact shp_sr _ _ (shp_sr _ _ (shp_sr _ _ (by assumption)))) | (left; assumption) | (exact b2i_or _) | (simp; done)) only [e141_0, e141_1, e141_2, e141_5, e141_8, e141_11, e141_12, e141_13, e141_14, e141_16, e141_19, e141_22, e141_23, e141_24, e141_26, e141_29, e141_32, e141_34, e141_35, e141_36, e141_39, e141_42, e141_45, eq_self, ne_a, ne_b, ne_c, Nat.reduceEqDiff, lt0, bnd_ok, psh_I, psh_L, psh_R, psh_U, gt_sr, gr_sr, sk_sr, nn_sr, ↓reduceIte, Int.toNat_natCast, Int.reduceToNat, q1, b2i_t, m_in, if_pos h1, if_neg h2, Int.reduceEq]
    · rw [if_neg (fun h => h1 h.1)]
      refine ⟨σ, ?_, mdl_rf h⟩
      simp (disch := first | assumption | omega | (exact shp_fok (by first | assumption | exact shp_sr _ _ (by assumption) | exact shp_sr _ _ (shp_sr _ _ (by assumption)) | exact shp_sr _ _ (shp_sr _ _ (shp_sr _ _ (by assumption)))) (by decide)) | (simp only [fok_sr, aok_sr]; first | assumption | (exact shp_fok (by first | assumption | exact shp_sr _ _ (by assumption) | exact shp_sr _ _ (shp_sr _ _ (by assumption)) | exact shp_sr _ _ (shp_sr _ _ (shp_sr _ _ (by assumption)))) (by decide))) | (refine shp_aok (by first | assumption | exact shp_sr _ _ (by assumption) | exact shp_sr _ _ (shp_sr _ _ (by assumption)) | exact shp_sr _ _ (shp_sr _ _ (shp_sr _ _ (by assumption)))) rfl rfl ?_ ?_ <;> omega) | (exact shp_sr _ _ (by assumption)) | (exact shp_sr _ _ (shp_sr _ _ (by assumption))) | (exact shp_sr _ _ (shp_sr _ _ (shp_sr _ _ (by assumption)))) | (left; assumption) | (exact b2i_or _) | (simp; done)) only [e141_0, e141_1, e141_2, e141_5, e141_8, e141_11, e141_12, e141_13, e141_14, e141_16, e141_19, e141_22, e141_23, e141_24, e141_26, e141_29, e141_32, e141_34, e141_35, e141_36, e141_39, e141_42, e141_45, eq_self, ne_a, ne_b, ne_c, Nat.reduceEqDiff, lt0, bnd_ok, psh_I, psh_L, psh_R, psh_U, gt_sr, gr_sr, sk_sr, nn_sr, ↓reduceIte, Int.toNat_natCast, Int.reduceToNat, q1, b2i_t, m_in, if_neg h1, Int.reduceEq]
