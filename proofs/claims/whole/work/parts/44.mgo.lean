/-! THE MODEL: a night goes -/
theorem nowR_24 {σ : St} {e : Dat} {G : Nat → Int} (h : nowR σ e) (hG : ∀ i, i ≠ 14 → i ≠ 15 → i ≠ 16 → G i = gt σ 24 i) : nowR (sr σ 24 G) e := by
  obtain ⟨⟨hs, d0, d1, d4, d5, hw⟩, h29, h13, ho⟩ := h
  refine ⟨⟨hs, ?_, ?_, ?_, ?_, ?_⟩, ?_, ?_, ho⟩
  · rw [gt_e, hG _ (by decide) (by decide) (by decide)]; exact d0
  · rw [gt_e, hG _ (by decide) (by decide) (by decide)]; exact d1
  · rw [gt_e, hG _ (by decide) (by decide) (by decide)]; exact d4
  · rw [gt_e, hG _ (by decide) (by decide) (by decide)]; exact d5
  · rw [gt_n _ _ (by decide)]; exact hw
  · rw [gt_n _ _ (by decide)]; exact h29
  · rw [gt_e, hG _ (by decide) (by decide) (by decide)]; exact h13
/-- whom the model watches, as the class says it -/
def wtM (w : Int) : Int := if w = -6 then -1 else w
set_option maxRecDepth 100000 in
set_option maxHeartbeats 4000000 in
theorem m_goT {σ : St} {e : Dat} (hn : nowR σ e) {w : Int} (hw : w = -6 ∨ (0 ≤ w ∧ w ≤ 3)) {p f : Int} (hp : gt σ 24 15 = p) (hpb : 0 ≤ p ∧ p ≤ 100) (hfa : gt σ 24 16 = f) (hfb : f = -6 ∨ 0 ≤ f) (q2 q3 q4 q5 : AV) :
    ∃ G, run 106 225 [vR 24, vI w, q2, q3, q4, q5] [] σ = run 106 17 [vR 24, vI w, q2, q3, q4, q5] [] (sr σ 24 G) ∧ G 15 = p + 1 ∧ G 16 = flN (wtM w) f p e ∧ ∀ i, i ≠ 15 → i ≠ 16 → G i = gt σ 24 i := by
  have hs := hn.1.1
  have w1 : wr (p + 1) = p + 1 := wr_id (by omega) (by omega)
  have fin : ∀ F, F = flN (wtM w) f p e → run 106 225 [vR 24, vI w, q2, q3, q4, q5] [] σ = run 106 256 [vR 24, vI w, q2, q3, q4, q5] [vI F, vR 24] σ → ∃ G, run 106 225 [vR 24, vI w, q2, q3, q4, q5] [] σ = run 106 17 [vR 24, vI w, q2, q3, q4, q5] [] (sr σ 24 G) ∧ G 15 = p + 1 ∧ G 16 = flN (wtM w) f p e ∧ ∀ i, i ≠ 15 → i ≠ 16 → G i = gt σ 24 i := by
    intro F hF hrun
    refine ⟨ru (ru (gt σ 24) 16 F) 15 (p + 1), ?_, ru_e _ _ _, ?_, ?_⟩
    · rw [hrun]
      have n1 : ru (gt σ 24) 16 F 15 = p := by rw [ru_n _ _ (by decide)]; exact hp
      simp (disch := first | assumption | omega | (exact shp_fok (by first | assumption | exact shp_sr _ _ (by assumption) | exact shp_sr _ _ (shp_sr _ _ (by assumption)) | exact shp_sr _ _ (shp_sr _ _ (shp_sr _ _ (by assumption)))) (by decide)) | (simp only [fok_sr, aok_sr]; first | assumption | (exact shp_fok (by first | assumption | exact shp_sr _ _ (by assumption) | exact shp_sr _ _ (shp_sr _ _ (by assumption)) | exact shp_sr _ _ (shp_sr _ _ (shp_sr _ _ (by assumption)))) (by decide))) | (refine shp_aok (by first | assumption | exact shp_sr _ _ (by assumption) | exact shp_sr _ _ (shp_sr _ _ (by assumption)) | exact shp_sr _ _ (shp_sr _ _ (shp_sr _ _ (by assumption)))) rfl rfl ?_ ?_ <;> omega) | (exact shp_sr _ _ (by assumption)) | (exact shp_sr _ _ (shp_sr _ _ (by assumption))) | (exact shp_sr _ _ (shp_sr _ _ (shp_sr _ _ (by assumption)))) | (left; assumption) | (exact b2i_or _) | (simp; done)) only [e106_256, e106_259, e106_260, e106_261, e106_264, e106_265, e106_266, e106_269, eq_self, ne_a, ne_b, ne_c, Nat.reduceEqDiff, lt0, bnd_ok, psh_I, psh_L, psh_R, psh_U, gt_sr, gr_sr, sk_sr, nn_sr, ↓reduceIte, Int.toNat_natCast, Int.reduceToNat, n1, w1, sr_sr]
    · rw [ru_n _ _ (by decide), ru_e]; exact hF
    · intro i h1 h2
      rw [ru_n _ _ h1, ru_n _ _ h2]
  by_cases h1 : f = -6
  · by_cases h2 : w = -6
    · refine fin f (by unfold flN wtM; rw [if_pos h2, if_neg (fun h => h.1 rfl)]) ?_
      simp (disch := first | assumption | omega | (exact shp_fok (by first | assumption | exact shp_sr _ _ (by assumption) | exact shp_sr _ _ (shp_sr _ _ (by assumption)) | exact shp_sr _ _ (shp_sr _ _ (shp_sr _ _ (by assumption)))) (by decide)) | (simp only [fok_sr, aok_sr]; first | assumption | (exact shp_fok (by first | assumption | exact shp_sr _ _ (by assumption) | exact shp_sr _ _ (shp_sr _ _ (by assumption)) | exact shp_sr _ _ (shp_sr _ _ (shp_sr _ _ (by assumption)))) (by decide))) | (refine shp_aok (by first | assumption | exact shp_sr _ _ (by assumption) | exact shp_sr _ _ (shp_sr _ _ (by assumption)) | exact shp_sr _ _ (shp_sr _ _ (shp_sr _ _ (by assumption)))) rfl rfl ?_ ?_ <;> omega) | (exact shp_sr _ _ (by assumption)) | (exact shp_sr _ _ (shp_sr _ _ (by assumption))) | (exact shp_sr _ _ (shp_sr _ _ (shp_sr _ _ (by assumption)))) | (left; assumption) | (exact b2i_or _) | (simp; done)) only [e106_225, e106_226, e106_227, e106_230, e106_233, e106_234, e106_237, e106_238, e106_239, e106_242, e106_245, e106_246, e106_249, e106_252, e106_253, eq_self, ne_a, ne_b, ne_c, Nat.reduceEqDiff, lt0, bnd_ok, psh_I, psh_L, psh_R, psh_U, gt_sr, gr_sr, sk_sr, nn_sr, ↓reduceIte, Int.toNat_natCast, Int.reduceToNat, hfa, h1, h2, Int.reduceLT]
    · have h3 : wtM w = w := by unfold wtM; rw [if_neg h2]
      obtain ⟨s, rfl⟩ := nat_of (show 0 ≤ w by omega)
      have h4 : ¬ (s : Int) < 0 := by omega
      have ms := m_standsNow hn (s := s) (by omega)
      cases h5 : hoD e s with
      | true =>
        rw [h5] at ms
        refine fin f (by unfold flN; rw [h3, Int.toNat_natCast, h5, if_neg (fun h => Bool.noConfusion h.2.2)]) ?_
        simp (disch := first | assumption | omega | (exact shp_fok (by first | assumption | exact shp_sr _ _ (by assumption) | exact shp_sr _ _ (shp_sr _ _ (by assumption)) | exact shp_sr _ _ (shp_sr _ _ (shp_sr _ _ (by assumption)))) (by decide)) | (simp only [fok_sr, aok_sr]; first | assumption | (exact shp_fok (by first | assumption | exact shp_sr _ _ (by assumption) | exact shp_sr _ _ (shp_sr _ _ (by assumption)) | exact shp_sr _ _ (shp_sr _ _ (shp_sr _ _ (by assumption)))) (by decide))) | (refine shp_aok (by first | assumption | exact shp_sr _ _ (by assumption) | exact shp_sr _ _ (shp_sr _ _ (by assumption)) | exact shp_sr _ _ (shp_sr _ _ (shp_sr _ _ (by assumption)))) rfl rfl ?_ ?_ <;> omega) | (exact shp_sr _ _ (by assumption)) | (exact shp_sr _ _ (shp_sr _ _ (by assumption))) | (exact shp_sr _ _ (shp_sr _ _ (shp_sr _ _ (by assumption)))) | (left; assumption) | (exact b2i_or _) | (simp; done)) only [e106_225, e106_226, e106_227, e106_230, e106_233, e106_234, e106_237, e106_238, e106_239, e106_242, e106_245, e106_246, e106_249, e106_252, e106_253, eq_self, ne_a, ne_b, ne_c, Nat.reduceEqDiff, lt0, bnd_ok, psh_I, psh_L, psh_R, psh_U, gt_sr, gr_sr, sk_sr, nn_sr, ↓reduceIte, Int.toNat_natCast, Int.reduceToNat, hfa, h1, h4, ms, b2i_t, Int.reduceLT, Int.reduceEq]
      | false =>
        rw [h5] at ms
        refine fin p (by unfold flN; rw [h3, Int.toNat_natCast, h5, if_pos ⟨by omega, h1, rfl⟩]) ?_
        simp (disch := first | assumption | omega | (exact shp_fok (by first | assumption | exact shp_sr _ _ (by assumption) | exact shp_sr _ _ (shp_sr _ _ (by assumption)) | exact shp_sr _ _ (shp_sr _ _ (shp_sr _ _ (by assumption)))) (by decide)) | (simp only [fok_sr, aok_sr]; first | assumption | (exact shp_fok (by first | assumption | exact shp_sr _ _ (by assumption) | exact shp_sr _ _ (shp_sr _ _ (by assumption)) | exact shp_sr _ _ (shp_sr _ _ (shp_sr _ _ (by assumption)))) (by decide))) | (refine shp_aok (by first | assumption | exact shp_sr _ _ (by assumption) | exact shp_sr _ _ (shp_sr _ _ (by assumption)) | exact shp_sr _ _ (shp_sr _ _ (shp_sr _ _ (by assumption)))) rfl rfl ?_ ?_ <;> omega) | (exact shp_sr _ _ (by assumption)) | (exact shp_sr _ _ (shp_sr _ _ (by assumption))) | (exact shp_sr _ _ (shp_sr _ _ (shp_sr _ _ (by assumption)))) | (left; assumption) | (exact b2i_or _) | (simp; done)) only [e106_225, e106_226, e106_227, e106_230, e106_233, e106_234, e106_237, e106_238, e106_239, e106_242, e106_245, e106_246, e106_249, e106_252, e106_253, eq_self, ne_a, ne_b, ne_c, Nat.reduceEqDiff, lt0, bnd_ok, psh_I, psh_L, psh_R, psh_U, gt_sr, gr_sr, sk_sr, nn_sr, ↓reduceIte, Int.toNat_natCast, Int.reduceToNat, hfa, h1, h4, ms, b2i_f, hp, Int.reduceLT]
  · have h2 : ¬ f < 0 := by omega
    refine fin f (by unfold flN; rw [if_neg (fun h => h1 h.2.1)]) ?_
    simp (disch := first | assumption | omega | (exact shp_fok (by first | assumption | exact shp_sr _ _ (by assumption) | exact shp_sr _ _ (shp_sr _ _ (by assumption)) | exact shp_sr _ _ (shp_sr _ _ (shp_sr _ _ (by assumption)))) (by decide)) | (simp only [fok_sr, aok_sr]; first | assumption | (exact shp_fok (by first | assumption | exact shp_sr _ _ (by assumption) | exact shp_sr _ _ (shp_sr _ _ (by assumption)) | exact shp_sr _ _ (shp_sr _ _ (shp_sr _ _ (by assumption)))) (by decide))) | (refine shp_aok (by first | assumption | exact shp_sr _ _ (by assumption) | exact shp_sr _ _ (shp_sr _ _ (by assumption)) | exact shp_sr _ _ (shp_sr _ _ (shp_sr _ _ (by assumption)))) rfl rfl ?_ ?_ <;> omega) | (exact shp_sr _ _ (by assumption)) | (exact shp_sr _ _ (shp_sr _ _ (by assumption))) | (exact shp_sr _ _ (shp_sr _ _ (shp_sr _ _ (by assumption)))) | (left; assumption) | (exact b2i_or _) | (simp; done)) only [e106_225, e106_226, e106_227, e106_230, e106_233, e106_234, e106_237, e106_238, e106_239, e106_242, e106_245, e106_246, e106_249, e106_252, e106_253, eq_self, ne_a, ne_b, ne_c, Nat.reduceEqDiff, lt0, bnd_ok, psh_I, psh_L, psh_R, psh_U, gt_sr, gr_sr, sk_sr, nn_sr, ↓reduceIte, Int.toNat_natCast, Int.reduceToNat, hfa, h2]
theorem lb_flip {la : Nat → Int} (hl : lam la) {n c : Nat} (hc : c < n) (hn : n ≤ 24) : laB (ru la c (1 - la c)) n = laB la n ^^^ 2 ^ c := by
  refine Nat.eq_of_testBit_eq fun i => ?_
  unfold laB
  rw [Nat.testBit_xor, bsN_tb, bsN_tb, Nat.testBit_two_pow]
  by_cases e : i = c
  · subst e
    rw [ru_e]
    rcases hl i (by omega) with h | h <;> rw [h] <;> simp [hc]
  · rw [ru_n _ _ e]
    simp [Ne.symm e]
/-- what a night's going leaves -/
def gone (σ σ' : St) (r : Int) (R : Int × Int × Int × Int × Dat) : Prop := sch σ σ' ∧ zr 24 (gt σ' 29) ∧ ((R.1 = -6 ∧ R.2.1 = -6 ∧ r = -6 ∧ gt σ' 24 15 = R.2.2.1 ∧ gt σ' 24 16 = R.2.2.2.1 ∧ nowR σ' R.2.2.2.2) ∨ (0 ≤ R.1 ∧ r = R.1 ∧ gt σ' 24 14 = R.2.1))
theorem gone_tr {σ σ1 σ' : St} {r : Int} {R : Int × Int × Int × Int × Dat} (h : sch σ σ1) (h2 : gone σ1 σ' r R) : gone σ σ' r R := ⟨sch_tr h h2.1, h2.2⟩
set_option maxRecDepth 100000 in
set_option maxHeartbeats 8000000 in
set_option maxRecDepth 100000 in
set_option maxHeartbeats 4000000 in
theorem m_goL {cn : Nat} {sg : Nat → Int} {n : Nat} (h60 : okp cn sg) {w : Int} (hw : w = -6 ∨ (0 ≤ w ∧ w ≤ 3)) : ∀ M, ∀ m k : Nat, m ≤ M → k + m = cn → fac n sg k = false → fltN n sg m k = -6 → ∀ (σ : St) (e : Dat) (p f : Int) (q3 q4 q5 : AV), nowR σ e → dn_ e = n → gt σ 24 9 = (cn : Int) → gt σ 28 = sg → gt σ 24 15 = p → (0 ≤ p ∧ p ≤ k) → gt σ 24 16 = f → (f = -6 ∨ 0 ≤ f) →
    ∃ r σ', run 106 17 [vR 24, vI w, vI (k : Int), q3, q4, q5] [] σ = some (vI r, σ') ∧ gone σ σ' r (pl sg (wtM w) m k p f e) := by
  intro M
  induction M with
  | zero =>
    intro m k hm hk hfa hfl σ e p f q3 q4 q5 hn hdn h9 h28 hp hpb hf hfb
    obtain rfl : m = 0 := by omega
    have h4 : ¬ (k : Int) < (cn : Int) := by omega
    have hs := hn.1.1
    refine ⟨-6, σ, ?_, sch_rf σ, nowR_z hn, Or.inl ⟨rfl, rfl, rfl, hp, hf, hn⟩⟩
    rw [e106_17]
    simp (disch := first | assumption | omega | (exact shp_fok (by first | assumption | exact shp_sr _ _ (by assumption) | exact shp_sr _ _ (shp_sr _ _ (by assumption)) | exact shp_sr _ _ (shp_sr _ _ (shp_sr _ _ (by assumption)))) (by decide)) | (simp only [fok_sr, aok_sr]; first | assumption | (exact shp_fok (by first | assumption | exact shp_sr _ _ (by assumption) | exact shp_sr _ _ (shp_sr _ _ (by assumption)) | exact shp_sr _ _ (shp_sr _ _ (shp_sr _ _ (by assumption)))) (by decide))) | (refine shp_aok (by first | assumption | exact shp_sr _ _ (by assumption) | exact shp_sr _ _ (shp_sr _ _ (by assumption)) | exact shp_sr _ _ (shp_sr _ _ (shp_sr _ _ (by assumption)))) rfl rfl ?_ ?_ <;> omega) | (exact shp_sr _ _ (by assumption)) | (exact shp_sr _ _ (shp_sr _ _ (by assumption))) | (exact shp_sr _ _ (shp_sr _ _ (shp_sr _ _ (by assumption)))) | (left; assumption) | (exact b2i_or _) | (simp; done)) only [e106_18, e106_19, e106_22, e106_272, e106_274, eq_self, ne_a, ne_b, ne_c, Nat.reduceEqDiff, lt0, bnd_ok, psh_I, psh_L, psh_R, psh_U, gt_sr, gr_sr, sk_sr, nn_sr, ↓reduceIte, Int.toNat_natCast, Int.reduceToNat, h9, h4]
  | succ M ih =>
    intro m k hm hk hfa hfl σ e p f q3 q4 q5 hn hdn h9 h28 hp hpb hf hfb
    by_cases hm0 : m = 0
    · exact ih m k (by omega) hk hfa hfl σ e p f q3 q4 q5 hn hdn h9 h28 hp hpb hf hfb
    obtain ⟨m1, rfl⟩ : ∃ m1, m = m1 + 1 := ⟨m - 1, by omega⟩
    have h4 : (k : Int) < (cn : Int) := by omega
    have hc60 := h60.1
    have hk60 : k < 60 := by omega
    have w5 : wr ((k : Int) + 1) = (k : Int) + 1 := wr_id (by omega) (by omega)
    have hn24 : n ≤ 24 := by rw [← hdn]; exact dn24 hn.2.2.2
    have hs := hn.1.1
    have mk := fun σ => m_kindOf (sg k) σ
    have hbd := hr_bd (sg k)
    -- the reason set to 0
    have hn0 : nowR (sr σ 24 (ru (gt σ 24) 14 0)) e := nowR_24 hn (fun i h1 h2 h3 => ru_n _ _ h1)
    have s0 : sch σ (sr σ 24 (ru (gt σ 24) 14 0)) := sch_sr (fun i hi => ru_n _ _ (by omega))
    have z9 : gt (sr σ 24 (ru (gt σ 24) 14 0)) 24 9 = (cn : Int) := by rw [gt_e, ru_n _ _ (by decide)]; exact h9
    have z28 : gt (sr σ 24 (ru (gt σ 24) 14 0)) 28 = sg := by rw [gt_n _ _ (by decide)]; exact h28
    have z15 : gt (sr σ 24 (ru (gt σ 24) 14 0)) 24 15 = p := by rw [gt_e, ru_n _ _ (by decide)]; exact hp
    have z16 : gt (sr σ 24 (ru (gt σ 24) 14 0)) 24 16 = f := by rw [gt_e, ru_n _ _ (by decide)]; exact hf
    have z14 : gt (sr σ 24 (ru (gt σ 24) 14 0)) 24 14 = 0 := by rw [gt_e, ru_e]
    by_cases hh : hr (sg k) = -6
    · have hst0 : ∀ σ0, sr σ 24 (ru (gt σ 24) 14 0) = σ0 → run 106 17 [vR 24, vI w, vI (k : Int), q3, q4, q5] [] σ = run 106 55 [vR 24, vI w, vI (k : Int), vI (-6), q4, q5] [] σ0 := by
        intro σ0 hσ0
        have mk0 := mk σ
        rw [hh, show kin (-6) = -6 from rfl] at mk0
        rw [e106_17]
        simp (disch := first | assumption | omega | (exact shp_fok (by first | assumption | exact shp_sr _ _ (by assumption) | exact shp_sr _ _ (shp_sr _ _ (by assumption)) | exact shp_sr _ _ (shp_sr _ _ (shp_sr _ _ (by assumption)))) (by decide)) | (simp only [fok_sr, aok_sr]; first | assumption | (exact shp_fok (by first | assumption | exact shp_sr _ _ (by assumption) | exact shp_sr _ _ (shp_sr _ _ (by assumption)) | exact shp_sr _ _ (shp_sr _ _ (shp_sr _ _ (by assumption)))) (by decide))) | (refine shp_aok (by first | assumption | exact shp_sr _ _ (by assumption) | exact shp_sr _ _ (shp_sr _ _ (by assumption)) | exact shp_sr _ _ (shp_sr _ _ (shp_sr _ _ (by assumption)))) rfl rfl ?_ ?_ <;> omega) | (exact shp_sr _ _ (by assumption)) | (exact shp_sr _ _ (shp_sr _ _ (by assumption))) | (exact shp_sr _ _ (shp_sr _ _ (shp_sr _ _ (by assumption)))) | (left; assumption) | (exact b2i_or _) | (simp; done)) only [e106_18, e106_19, e106_22, e106_25, e106_26, e106_29, e106_30, e106_31, e106_34, e106_35, e106_36, e106_37, e106_40, e106_41, eq_self, ne_a, ne_b, ne_c, Nat.reduceEqDiff, lt0, bnd_ok, psh_I, psh_L, psh_R, psh_U, gt_sr, gr_sr, sk_sr, nn_sr, ↓reduceIte, Int.toNat_natCast, Int.reduceToNat, h9, h4, g24_10, h28, mk0, Int.reduceLT]
        rw [hσ0]
      have hstart := hst0 _ rfl
      rw [hstart]
      suffices hsuf : ∃ r σ', run 106 55 [vR 24, vI w, vI (k : Int), vI (-6), q4, q5] [] (sr σ 24 (ru (gt σ 24) 14 0)) = some (vI r, σ') ∧ gone (sr σ 24 (ru (gt σ 24) 14 0)) σ' r (pl sg (wtM w) (m1 + 1) k p f e) by
        obtain ⟨r, σ', e1, g1⟩ := hsuf
        exact ⟨r, σ', e1, gone_tr s0 g1⟩
      clear hstart hst0 s0 hs hn hp hf h9 h28 mk
      generalize sr σ 24 (ru (gt σ 24) 14 0) = τ at *
      clear σ
      obtain ⟨m2, rfl, hc, hg, hfa2, hfl2⟩ := flt_act hfa hfl hh
      have hsk := h60.2 k (by omega)
      have w7 : wr (sg k - 97) = sg k - 97 := wr_id (by omega) (by omega)
      have w6 : wr ((k : Int) + 2) = (k : Int) + 2 := wr_id (by omega) (by omega)
      have w8 : ((k : Int) + 1).toNat = k + 1 := by omega
      obtain ⟨c, hcc⟩ : ∃ c : Nat, sg k - 97 = (c : Int) := ⟨(sg k - 97).toNat, by omega⟩
      have w10 : wr (c : Int) = (c : Int) := wr_id (by omega) (by omega)
      have hcn : c < dn_ e := by omega
      have o1 := ok_act hn0.2.2.2 (c := c) hcn hg
      have hpl : pl sg (wtM w) (m2 + 1 + 1) k p f e = if acR e c (sg (k + 1)) = 0 then pl sg (wtM w) m2 (k + 2) (p + 1) (flN (wtM w) f p (actD e c (sg (k + 1)))) (actD e c (sg (k + 1))) else (p, acR e c (sg (k + 1)), p, f, e) := by
        rw [pl, if_pos hh, hcc, Int.toNat_natCast]
      rw [hpl]
      have hs := hn0.1.1
      have htc := ok_t hn0.2.2.2 c (by omega)
      have h29 : gt τ 29 c = dt e c := by rw [hn0.2.1]
      have h13 := hn0.2.2.1
      have hlb : lbD e < 2147483648 := lb_lt (by rw [hdn]; exact hn24) _
      generalize hgg : sg (k + 1) = g at *
      have hgi : gt τ 28 (k + 1) = g := by rw [z28]; exact hgg
      have hgk : gt τ 28 k = sg k := by rw [z28]
      -- behind an act that can be
      have go : ∀ (T : Nat → Int) (B : Int), acR e c g = 0 → T = acT e c g → B = ((laB (acL e c g) n : Nat) : Int) →
          run 106 55 [vR 24, vI w, vI (k : Int), vI (-6), q4, q5] [] τ = run 106 225 [vR 24, vI w, vI ((k : Int) + 2), vI (-6), vI (c : Int), vI g] [] (sr (sr (sr τ 24 (ru (gt τ 24) 14 0)) 29 T) 24 (ru (ru (gt τ 24) 14 0) 13 B)) →
          ∃ r σ', run 106 55 [vR 24, vI w, vI (k : Int), vI (-6), q4, q5] [] τ = some (vI r, σ') ∧ gone τ σ' r (pl sg (wtM w) m2 (k + 2) (p + 1) (flN (wtM w) f p (actD e c g)) (actD e c g)) := by
        intro T B hR hT hB hrun
        obtain ⟨⟨hs0, d0, d1, d4, d5, hw26⟩, -, -, ho0⟩ := hn0
        have hn1 : nowR (sr (sr (sr τ 24 (ru (gt τ 24) 14 0)) 29 T) 24 (ru (ru (gt τ 24) 14 0) 13 B)) (actD e c g) := by
          refine ⟨⟨hs0, ?_, ?_, ?_, ?_, ?_⟩, ?_, ?_, o1⟩
          · rw [gt_e, ru_n _ _ (by decide), ru_n _ _ (by decide)]; exact d0
          · rw [gt_e, ru_n _ _ (by decide), ru_n _ _ (by decide)]; exact d1
          · rw [gt_e, ru_n _ _ (by decide), ru_n _ _ (by decide)]; exact d4
          · rw [gt_e, ru_n _ _ (by decide), ru_n _ _ (by decide)]; exact d5
          · rw [gt_n _ _ (by decide), gt_n _ _ (by decide), gt_n _ _ (by decide)]; exact hw26
          · rw [gt_n _ _ (by decide), gt_e]; exact hT
          · rw [gt_e, ru_e, hB, ← hdn]; rfl
        have k15 : gt (sr (sr (sr τ 24 (ru (gt τ 24) 14 0)) 29 T) 24 (ru (ru (gt τ 24) 14 0) 13 B)) 24 15 = p := by rw [gt_e, ru_n _ _ (by decide), ru_n _ _ (by decide)]; exact z15
        have k16 : gt (sr (sr (sr τ 24 (ru (gt τ 24) 14 0)) 29 T) 24 (ru (ru (gt τ 24) 14 0) 13 B)) 24 16 = f := by rw [gt_e, ru_n _ _ (by decide), ru_n _ _ (by decide)]; exact z16
        obtain ⟨G, e2, g15, g16, gG⟩ := m_goT hn1 hw k15 (by omega) k16 hfb (vI ((k : Int) + 2)) (vI (-6)) (vI (c : Int)) (vI g)
        rw [gt_e] at gG
        rw [sr_sr] at e2
        have hn2 := nowR_24 hn1 (G := G) (fun i h1 h2 h3 => by rw [gt_e]; exact gG i h2 h3)
        rw [sr_sr] at hn2
        have gi : ∀ i, i < 10 → G i = gt τ 24 i := fun i hi => by rw [gG i (by omega) (by omega), ru_n _ _ (by omega), ru_n _ _ (by omega)]
        have sA : sch τ (sr (sr (sr τ 24 (ru (gt τ 24) 14 0)) 29 T) 24 G) := ⟨chg_sr (chg_sr (chg_sr (chg_rf _ _) (by decide)) (by decide)) (by decide), fun i hi => by rw [gt_e]; exact gi i hi⟩
        have fl9 : flN (wtM w) f p (actD e c g) = -6 ∨ 0 ≤ flN (wtM w) f p (actD e c g) := by
          unfold flN
          split
          · omega
          · exact hfb
        obtain ⟨r, σ', e3, g3⟩ := ih m2 (k + 2) (by omega) (by omega) hfa2 hfl2 _ (actD e c g) (p + 1) _ (vI (-6)) (vI (c : Int)) (vI g) hn2 hdn (by rw [gt_e, gi 9 (by decide)]; exact z9) (by rw [gt_n _ _ (by decide), gt_n _ _ (by decide), gt_n _ _ (by decide)]; exact z28) (by rw [gt_e]; exact g15) (by omega) (by rw [gt_e]; exact g16) fl9
        refine ⟨r, σ', ?_, gone_tr sA g3⟩
        rw [hrun, e2, ← e3]
        rfl
      have sh1 := bShl_N (a := 1) (k := c) (by omega) (by omega) (by have := (pow24 (show c ≤ 24 by omega)).2; omega)
      rw [Nat.one_mul, show ((1 : Nat) : Int) = 1 from rfl] at sh1
      have hxo := bXor_N (a := lbD e) (b := 2 ^ c) hlb (by have := (pow24 (show c ≤ 24 by omega)).2; omega)
      have h13n : laB (dla e) n = lbD e := by rw [← hdn]; rfl
      have cut1 : 0 < acR e c g → acR e c g = 1 ∨ acR e c g = 2 → run 106 55 [vR 24, vI w, vI (k : Int), vI (-6), q4, q5] [] τ = some (vI p, sr τ 24 (ru (gt τ 24) 14 (acR e c g))) → ∃ r σ', run 106 55 [vR 24, vI w, vI (k : Int), vI (-6), q4, q5] [] τ = some (vI r, σ') ∧ gone τ σ' r (p, acR e c g, p, f, e) := by
        intro h1 h2 hrun
        refine ⟨p, _, hrun, sch_sr (fun i hi => ru_n _ _ (by omega)), ?_, Or.inr ⟨hpb.1, rfl, by rw [gt_e, ru_e]⟩⟩
        rw [gt_n _ _ (by decide)]
        exact nowR_z hn0
      have hcn24 : c < 24 := by omega
      rcases hg with rfl | rfl | hg
      · -- a lamp
        have hR : acR e c 42 = 0 := rfl
        rw [if_pos hR]
        have hrc : ru (dt e) c (dt e c) = dt e := by
          funext i
          unfold ru
          split
          · next h => rw [h]
          · rfl
        refine go (dt e) ((lbD e ^^^ 2 ^ c : Nat) : Int) hR rfl ?_ ?_
        · show _ = ((laB (ru (dla e) c (1 - dla e c)) n : Nat) : Int)
          rw [lb_flip (ok_l hn0.2.2.2) (by omega) hn24, h13n]
        · have hnin : ¬ (48 ≤ (42 : Int) ∧ (42 : Int) ≤ 57) := by decide
          simp (disch := first | assumption | omega | (exact shp_fok (by first | assumption | exact shp_sr _ _ (by assumption) | exact shp_sr _ _ (shp_sr _ _ (by assumption)) | exact shp_sr _ _ (shp_sr _ _ (shp_sr _ _ (by assumption)))) (by decide)) | (simp only [fok_sr, aok_sr]; first | assumption | (exact shp_fok (by first | assumption | exact shp_sr _ _ (by assumption) | exact shp_sr _ _ (shp_sr _ _ (by assumption)) | exact shp_sr _ _ (shp_sr _ _ (shp_sr _ _ (by assumption)))) (by decide))) | (refine shp_aok (by first | assumption | exact shp_sr _ _ (by assumption) | exact shp_sr _ _ (shp_sr _ _ (by assumption)) | exact shp_sr _ _ (shp_sr _ _ (shp_sr _ _ (by assumption)))) rfl rfl ?_ ?_ <;> omega) | (exact shp_sr _ _ (by assumption)) | (exact shp_sr _ _ (shp_sr _ _ (by assumption))) | (exact shp_sr _ _ (shp_sr _ _ (shp_sr _ _ (by assumption)))) | (left; assumption) | (exact b2i_or _) | (simp; done)) only [e106_55, e106_56, e106_59, e106_60, e106_61, e106_63, e106_64, e106_66, e106_67, e106_70, e106_71, e106_72, e106_73, e106_74, e106_76, e106_77, e106_79, e106_81, e106_83, e106_86, e106_89, e106_90, e106_93, e106_95, e106_96, e106_98, e106_100, e106_101, e106_104, e106_105, e106_108, e106_110, e106_112, e106_115, e106_116, e106_119, e106_121, e106_122, e106_124, e106_127, e106_128, e106_131, e106_132, e106_135, e106_136, e106_139, e106_142, e106_143, e106_146, e106_147, e106_148, e106_151, e106_153, e106_155, e106_157, e106_160, e106_161, e106_164, e106_166, e106_167, e106_168, e106_169, e106_172, e106_174, e106_176, e106_179, e106_180, e106_183, e106_185, e106_186, e106_189, e106_191, e106_193, e106_194, e106_195, e106_196, e106_198, e106_200, e106_203, e106_204, e106_207, e106_208, e106_210, e106_211, e106_212, e106_215, e106_216, e106_219, e106_222, eq_self, ne_a, ne_b, ne_c, Nat.reduceEqDiff, lt0, bnd_ok, psh_I, psh_L, psh_R, psh_U, gt_sr, gr_sr, sk_sr, nn_sr, ↓reduceIte, Int.toNat_natCast, Int.reduceToNat, g24_10, g24_11, z28, hgg, hgk, w5, w6, w7, w8, w10, hcc, m_in, if_neg hnin, ru_e, ru_n, hn0.2.1, hrc, h13, sh1, hxo, sr_sr, Int.reduceEq, Int.reduceLT]
      · -- one more
        have hnin : ¬ (48 ≤ (43 : Int) ∧ (43 : Int) ≤ 57) := by decide
        by_cases h9' : dt e c = 9
        · have hR : acR e c 43 = 2 := by unfold acR; rw [if_neg (by decide), if_pos rfl, if_pos (by omega)]
          rw [if_neg (by omega)]
          refine cut1 (by omega) (by omega) ?_
          rw [hR]
          simp (disch := first | assumption | omega | (exact shp_fok (by first | assumption | exact shp_sr _ _ (by assumption) | exact shp_sr _ _ (shp_sr _ _ (by assumption)) | exact shp_sr _ _ (shp_sr _ _ (shp_sr _ _ (by assumption)))) (by decide)) | (simp only [fok_sr, aok_sr]; first | assumption | (exact shp_fok (by first | assumption | exact shp_sr _ _ (by assumption) | exact shp_sr _ _ (shp_sr _ _ (by assumption)) | exact shp_sr _ _ (shp_sr _ _ (shp_sr _ _ (by assumption)))) (by decide))) | (refine shp_aok (by first | assumption | exact shp_sr _ _ (by assumption) | exact shp_sr _ _ (shp_sr _ _ (by assumption)) | exact shp_sr _ _ (shp_sr _ _ (shp_sr _ _ (by assumption)))) rfl rfl ?_ ?_ <;> omega) | (exact shp_sr _ _ (by assumption)) | (exact shp_sr _ _ (shp_sr _ _ (by assumption))) | (exact shp_sr _ _ (shp_sr _ _ (shp_sr _ _ (by assumption)))) | (left; assumption) | (exact b2i_or _) | (simp; done)) only [e106_55, e106_56, e106_59, e106_60, e106_61, e106_63, e106_64, e106_66, e106_67, e106_70, e106_71, e106_72, e106_73, e106_74, e106_76, e106_77, e106_79, e106_81, e106_83, e106_86, e106_89, e106_90, e106_93, e106_95, e106_96, e106_98, e106_100, e106_101, e106_104, e106_105, e106_108, e106_110, e106_112, e106_115, e106_116, e106_119, e106_121, e106_122, e106_124, e106_127, e106_128, e106_131, e106_132, e106_135, e106_136, e106_139, e106_142, e106_143, e106_146, eq_self, ne_a, ne_b, ne_c, Nat.reduceEqDiff, lt0, bnd_ok, psh_I, psh_L, psh_R, psh_U, gt_sr, gr_sr, sk_sr, nn_sr, ↓reduceIte, Int.toNat_natCast, Int.reduceToNat, g24_10, g24_11, z28, hgg, hgk, w5, w7, w8, w10, hcc, m_in, if_neg hnin, ru_e, ru_n, hn0.2.1, h9', z15, Int.reduceEq, Int.reduceLT]
        · have hR : acR e c 43 = 0 := by unfold acR; rw [if_neg (by decide), if_pos rfl, if_neg (by omega)]
          rw [if_pos hR]
          have w11 : wr (dt e c + 1) = dt e c + 1 := wr_id (by omega) (by omega)
          refine go (ru (dt e) c (dt e c + 1)) (lbD e : Int) hR ?_ ?_ ?_
          · unfold acT
            rw [if_neg (by decide), if_pos rfl]
            have : mi9 (dt e c + 1) = dt e c + 1 := by unfold mi9; split <;> omega
            rw [this]
          · show _ = ((laB (dla e) n : Nat) : Int)
            rw [h13n]
          · simp (disch := first | assumption | omega | (exact shp_fok (by first | assumption | exact shp_sr _ _ (by assumption) | exact shp_sr _ _ (shp_sr _ _ (by assumption)) | exact shp_sr _ _ (shp_sr _ _ (shp_sr _ _ (by assumption)))) (by decide)) | (simp only [fok_sr, aok_sr]; first | assumption | (exact shp_fok (by first | assumption | exact shp_sr _ _ (by assumption) | exact shp_sr _ _ (shp_sr _ _ (by assumption)) | exact shp_sr _ _ (shp_sr _ _ (shp_sr _ _ (by assumption)))) (by decide))) | (refine shp_aok (by first | assumption | exact shp_sr _ _ (by assumption) | exact shp_sr _ _ (shp_sr _ _ (by assumption)) | exact shp_sr _ _ (shp_sr _ _ (shp_sr _ _ (by assumption)))) rfl rfl ?_ ?_ <;> omega) | (exact shp_sr _ _ (by assumption)) | (exact shp_sr _ _ (shp_sr _ _ (by assumption))) | (exact shp_sr _ _ (shp_sr _ _ (shp_sr _ _ (by assumption)))) | (left; assumption) | (exact b2i_or _) | (simp; done)) only [e106_55, e106_56, e106_59, e106_60, e106_61, e106_63, e106_64, e106_66, e106_67, e106_70, e106_71, e106_72, e106_73, e106_74, e106_76, e106_77, e106_79, e106_81, e106_83, e106_86, e106_89, e106_90, e106_93, e106_95, e106_96, e106_98, e106_100, e106_101, e106_104, e106_105, e106_108, e106_110, e106_112, e106_115, e106_116, e106_119, e106_121, e106_122, e106_124, e106_127, e106_128, e106_131, e106_132, e106_135, e106_136, e106_139, e106_142, e106_143, e106_146, e106_147, e106_148, e106_151, e106_153, e106_155, e106_157, e106_160, e106_161, e106_164, e106_166, e106_167, e106_168, e106_169, e106_172, e106_174, e106_176, e106_179, e106_180, e106_183, e106_185, e106_186, e106_189, e106_191, e106_193, e106_194, e106_195, e106_196, e106_198, e106_200, e106_203, e106_204, e106_207, e106_208, e106_210, e106_211, e106_212, e106_215, e106_216, e106_219, e106_222, eq_self, ne_a, ne_b, ne_c, Nat.reduceEqDiff, lt0, bnd_ok, psh_I, psh_L, psh_R, psh_U, gt_sr, gr_sr, sk_sr, nn_sr, ↓reduceIte, Int.toNat_natCast, Int.reduceToNat, g24_10, g24_11, z28, hgg, hgk, w5, w6, w7, w8, w10, w11, hcc, m_in, if_neg hnin, ru_e, ru_n, hn0.2.1, h9', h13, sr_sr, Int.reduceEq, Int.reduceLT]
      · -- a cut
        have n1 : ¬ g = 42 := by omega
        have n2 : ¬ g = 43 := by omega
        have w12 : wr (g - 48) = g - 48 := wr_id (by omega) (by omega)
        by_cases h9' : dt e c ≤ g - 48
        · have hR : acR e c g = 1 := by unfold acR; rw [if_neg n1, if_neg n2, if_pos h9']
          have h10 : ¬ g - 48 < dt e c := by omega
          rw [if_neg (by omega)]
          refine cut1 (by omega) (by omega) ?_
          rw [hR]
          simp (disch := first | assumption | omega | (exact shp_fok (by first | assumption | exact shp_sr _ _ (by assumption) | exact shp_sr _ _ (shp_sr _ _ (by assumption)) | exact shp_sr _ _ (shp_sr _ _ (shp_sr _ _ (by assumption)))) (by decide)) | (simp only [fok_sr, aok_sr]; first | assumption | (exact shp_fok (by first | assumption | exact shp_sr _ _ (by assumption) | exact shp_sr _ _ (shp_sr _ _ (by assumption)) | exact shp_sr _ _ (shp_sr _ _ (shp_sr _ _ (by assumption)))) (by decide))) | (refine shp_aok (by first | assumption | exact shp_sr _ _ (by assumption) | exact shp_sr _ _ (shp_sr _ _ (by assumption)) | exact shp_sr _ _ (shp_sr _ _ (shp_sr _ _ (by assumption)))) rfl rfl ?_ ?_ <;> omega) | (exact shp_sr _ _ (by assumption)) | (exact shp_sr _ _ (shp_sr _ _ (by assumption))) | (exact shp_sr _ _ (shp_sr _ _ (shp_sr _ _ (by assumption)))) | (left; assumption) | (exact b2i_or _) | (simp; done)) only [e106_55, e106_56, e106_59, e106_60, e106_61, e106_63, e106_64, e106_66, e106_67, e106_70, e106_71, e106_72, e106_73, e106_74, e106_76, e106_77, e106_79, e106_81, e106_83, e106_86, e106_89, e106_90, e106_93, e106_95, e106_96, e106_98, e106_100, e106_101, e106_104, e106_105, e106_108, e106_110, e106_112, e106_115, e106_116, e106_119, e106_121, e106_122, e106_124, e106_127, e106_128, e106_131, e106_132, e106_135, e106_136, e106_139, e106_142, e106_143, e106_146, eq_self, ne_a, ne_b, ne_c, Nat.reduceEqDiff, lt0, bnd_ok, psh_I, psh_L, psh_R, psh_U, gt_sr, gr_sr, sk_sr, nn_sr, ↓reduceIte, Int.toNat_natCast, Int.reduceToNat, g24_10, g24_11, z28, hgg, hgk, w5, w7, w8, w10, w12, hcc, m_in, if_pos hg, ru_e, ru_n, hn0.2.1, h10, z15, Int.reduceEq, Int.reduceLT]
        · have hR : acR e c g = 0 := by unfold acR; rw [if_neg n1, if_neg n2, if_neg h9']
          have h10 : g - 48 < dt e c := by omega
          rw [if_pos hR]
          refine go (ru (dt e) c (g - 48)) (lbD e : Int) hR ?_ ?_ ?_
          · unfold acT
            rw [if_neg n1, if_neg n2, if_neg (by omega)]
          · unfold acL
            rw [if_neg n1, h13n]
          · simp (disch := first | assumption | omega | (exact shp_fok (by first | assumption | exact shp_sr _ _ (by assumption) | exact shp_sr _ _ (shp_sr _ _ (by assumption)) | exact shp_sr _ _ (shp_sr _ _ (shp_sr _ _ (by assumption)))) (by decide)) | (simp only [fok_sr, aok_sr]; first | assumption | (exact shp_fok (by first | assumption | exact shp_sr _ _ (by assumption) | exact shp_sr _ _ (shp_sr _ _ (by assumption)) | exact shp_sr _ _ (shp_sr _ _ (shp_sr _ _ (by assumption)))) (by decide))) | (refine shp_aok (by first | assumption | exact shp_sr _ _ (by assumption) | exact shp_sr _ _ (shp_sr _ _ (by assumption)) | exact shp_sr _ _ (shp_sr _ _ (shp_sr _ _ (by assumption)))) rfl rfl ?_ ?_ <;> omega) | (exact shp_sr _ _ (by assumption)) | (exact shp_sr _ _ (shp_sr _ _ (by assumption))) | (exact shp_sr _ _ (shp_sr _ _ (shp_sr _ _ (by assumption)))) | (left; assumption) | (exact b2i_or _) | (simp; done)) only [e106_55, e106_56, e106_59, e106_60, e106_61, e106_63, e106_64, e106_66, e106_67, e106_70, e106_71, e106_72, e106_73, e106_74, e106_76, e106_77, e106_79, e106_81, e106_83, e106_86, e106_89, e106_90, e106_93, e106_95, e106_96, e106_98, e106_100, e106_101, e106_104, e106_105, e106_108, e106_110, e106_112, e106_115, e106_116, e106_119, e106_121, e106_122, e106_124, e106_127, e106_128, e106_131, e106_132, e106_135, e106_136, e106_139, e106_142, e106_143, e106_146, e106_147, e106_148, e106_151, e106_153, e106_155, e106_157, e106_160, e106_161, e106_164, e106_166, e106_167, e106_168, e106_169, e106_172, e106_174, e106_176, e106_179, e106_180, e106_183, e106_185, e106_186, e106_189, e106_191, e106_193, e106_194, e106_195, e106_196, e106_198, e106_200, e106_203, e106_204, e106_207, e106_208, e106_210, e106_211, e106_212, e106_215, e106_216, e106_219, e106_222, eq_self, ne_a, ne_b, ne_c, Nat.reduceEqDiff, lt0, bnd_ok, psh_I, psh_L, psh_R, psh_U, gt_sr, gr_sr, sk_sr, nn_sr, ↓reduceIte, Int.toNat_natCast, Int.reduceToNat, g24_10, g24_11, z28, hgg, hgk, w5, w6, w7, w8, w10, w12, hcc, m_in, if_pos hg, ru_e, ru_n, hn0.2.1, h10, n1, n2, h13, sr_sr, Int.reduceEq, Int.reduceLT]
    · obtain ⟨hfa2, hfl2⟩ := flt_hour hn24 hfa hfl hh
      obtain ⟨σ1, e1, c1, r1⟩ := m_pass hn0 (hh := hr (sg k)) (by omega)
      have hpl : pl sg (wtM w) (m1 + 1) k p f e = pl sg (wtM w) m1 (k + 1) (p + 1) (flN (wtM w) f p (pas e (hr (sg k)))) (pas e (hr (sg k))) := by
        cases m1 with
        | zero =>
          show (if hr (sg k) = -6 then _ else _) = _
          rw [if_neg hh]
          rfl
        | succ m2 => rw [pl, if_neg hh]
      have k24 : gt σ1 24 = gt (sr σ 24 (ru (gt σ 24) 14 0)) 24 := chg_gt c1 (by decide)
      have k28 : gt σ1 28 = gt (sr σ 24 (ru (gt σ 24) 14 0)) 28 := chg_gt c1 (by decide)
      obtain ⟨G, e2, g15, g16, gG⟩ := m_goT r1 hw (p := p) (f := f) (by rw [k24]; exact z15) (by omega) (by rw [k24]; exact z16) hfb (vI ((k : Int) + 1)) (vI (kin (hr (sg k)))) q4 q5
      have hn2 := nowR_24 r1 (G := G) (fun i h1 h2 h3 => gG i h2 h3)
      have fl9 : flN (wtM w) f p (pas e (hr (sg k))) = -6 ∨ 0 ≤ flN (wtM w) f p (pas e (hr (sg k))) := by
        unfold flN
        split
        · omega
        · exact hfb
      have sA : sch σ (sr σ1 24 G) := by
        refine sch_tr (sch_tr s0 (sch_of c1 rfl)) ⟨chg_sr (chg_rf _ _) (by decide), fun i hi => ?_⟩
        rw [gt_e]
        exact gG i (by omega) (by omega)
      obtain ⟨r, σ', e3, g3⟩ := ih m1 (k + 1) (by omega) (by omega) hfa2 hfl2 _ (pas e (hr (sg k))) (p + 1) _ (vI (kin (hr (sg k)))) q4 q5 hn2 hdn (by rw [gt_e, gG 9 (by decide) (by decide), k24]; exact z9) (by rw [gt_n _ _ (by decide), k28]; exact z28) (by rw [gt_e]; exact g15) (by omega) (by rw [gt_e]; exact g16) fl9
      refine ⟨r, σ', ?_, by rw [hpl]; exact gone_tr sA g3⟩
      have g3' : ¬ kin (hr (sg k)) < 0 := by unfold kin; rw [if_neg hh]; split <;> omega
      have mk0 := mk σ
      rw [show ((k + 1 : Nat) : Int) = (k : Int) + 1 by omega] at e3
      rw [← e3, ← e2, e106_17]
      simp (disch := first | assumption | omega | (exact shp_fok (by first | assumption | exact shp_sr _ _ (by assumption) | exact shp_sr _ _ (shp_sr _ _ (by assumption)) | exact shp_sr _ _ (shp_sr _ _ (shp_sr _ _ (by assumption)))) (by decide)) | (simp only [fok_sr, aok_sr]; first | assumption | (exact shp_fok (by first | assumption | exact shp_sr _ _ (by assumption) | exact shp_sr _ _ (shp_sr _ _ (by assumption)) | exact shp_sr _ _ (shp_sr _ _ (shp_sr _ _ (by assumption)))) (by decide))) | (refine shp_aok (by first | assumption | exact shp_sr _ _ (by assumption) | exact shp_sr _ _ (shp_sr _ _ (by assumption)) | exact shp_sr _ _ (shp_sr _ _ (shp_sr _ _ (by assumption)))) rfl rfl ?_ ?_ <;> omega) | (exact shp_sr _ _ (by assumption)) | (exact shp_sr _ _ (shp_sr _ _ (by assumption))) | (exact shp_sr _ _ (shp_sr _ _ (shp_sr _ _ (by assumption)))) | (left; assumption) | (exact b2i_or _) | (simp; done)) only [e106_18, e106_19, e106_22, e106_25, e106_26, e106_29, e106_30, e106_31, e106_34, e106_35, e106_36, e106_37, e106_40, e106_41, e106_44, e106_45, e106_46, e106_49, e106_52, eq_self, ne_a, ne_b, ne_c, Nat.reduceEqDiff, lt0, bnd_ok, psh_I, psh_L, psh_R, psh_U, gt_sr, gr_sr, sk_sr, nn_sr, ↓reduceIte, Int.toNat_natCast, Int.reduceToNat, h9, h4, g24_10, h28, mk0, g3', e1, w5]
set_option maxRecDepth 100000 in
set_option maxHeartbeats 4000000 in
theorem m_goNight {σ : St} {d : Dat} {cn : Nat} {sg : Nat → Int} (h : mdl σ d cn sg) (hfl : flt (dn_ d) cn sg = -6) {w : Int} (hw : w = -6 ∨ (0 ≤ w ∧ w ≤ 3)) :
    ∃ r σ', run 106 0 [vR 24, vI w, vU, vU, vU, vU] [] σ = some (vI r, σ') ∧ gone σ σ' r (plD d cn sg (wtM w)) := by
  obtain ⟨σ1, e1, c1, r1⟩ := m_asNow h
  obtain ⟨a1, a2, a3, a4, a5, a6, a7, a8, a9, a10⟩ := id h
  have hs := a1.1
  have hs1 := r1.1.1
  have hn2 : nowR (sr σ1 24 (ru (ru (gt σ1 24) 15 0) 16 (-6))) d := nowR_24 r1 (fun i h1 h2 h3 => by rw [ru_n _ _ h3, ru_n _ _ h2])
  have sA : sch σ (sr σ1 24 (ru (ru (gt σ1 24) 15 0) 16 (-6))) := sch_tr c1 (sch_sr (fun i hi => by rw [ru_n _ _ (by omega), ru_n _ _ (by omega)]))
  obtain ⟨r, σ', e3, g3⟩ := m_goL (n := dn_ d) a8 hw cn cn 0 (Nat.le_refl _) (by omega) rfl hfl _ d 0 (-6) vU vU vU hn2 rfl (by rw [gt_e, ru_n _ _ (by decide), ru_n _ _ (by decide), c1.2 _ (by decide)]; exact a4) (by rw [gt_n _ _ (by decide), chg_gt c1.1 (by decide)]; exact a7) (by rw [gt_e, ru_n _ _ (by decide), ru_e]) (by omega) (by rw [gt_e, ru_e]) (Or.inl rfl)
  refine ⟨r, σ', ?_, gone_tr sA g3⟩
  rw [← e3]
  simp (disch := first | assumption | omega | (exact shp_fok (by first | assumption | exact shp_sr _ _ (by assumption) | exact shp_sr _ _ (shp_sr _ _ (by assumption)) | exact shp_sr _ _ (shp_sr _ _ (shp_sr _ _ (by assumption)))) (by decide)) | (simp only [fok_sr, aok_sr]; first | assumption | (exact shp_fok (by first | assumption | exact shp_sr _ _ (by assumption) | exact shp_sr _ _ (shp_sr _ _ (by assumption)) | exact shp_sr _ _ (shp_sr _ _ (shp_sr _ _ (by assumption)))) (by decide))) | (refine shp_aok (by first | assumption | exact shp_sr _ _ (by assumption) | exact shp_sr _ _ (shp_sr _ _ (by assumption)) | exact shp_sr _ _ (shp_sr _ _ (shp_sr _ _ (by assumption)))) rfl rfl ?_ ?_ <;> omega) | (exact shp_sr _ _ (by assumption)) | (exact shp_sr _ _ (shp_sr _ _ (by assumption))) | (exact shp_sr _ _ (shp_sr _ _ (shp_sr _ _ (by assumption)))) | (left; assumption) | (exact b2i_or _) | (simp; done)) only [e106_0, e106_1, e106_4, e106_5, e106_6, e106_9, e106_10, e106_12, e106_15, e106_16, eq_self, ne_a, ne_b, ne_c, Nat.reduceEqDiff, lt0, bnd_ok, psh_I, psh_L, psh_R, psh_U, gt_sr, gr_sr, sk_sr, nn_sr, ↓reduceIte, Int.toNat_natCast, Int.reduceToNat, e1, sr_sr]
  rfl
