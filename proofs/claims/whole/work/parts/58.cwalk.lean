/-! ways through, of the class -/
set_option maxRecDepth 100000 in
set_option maxHeartbeats 4000000 in
theorem c_spoiltIn {σ : St} {d : Dat} (hs : shp σ) (hr : rep σ 2 d) {c : Nat} (hc : c < 24) : run 65 0 [vR 1, vI (c : Int)] [] σ = some (vI (wS d c), σ) := by
  have e1 := c_isWantedR hr hc
  unfold wS
  cases h : isW d c with
  | true =>
    rw [h] at e1
    simp (disch := first | assumption | omega | (exact shp_fok (by first | assumption | exact shp_sr _ _ (by assumption) | exact shp_sr _ _ (shp_sr _ _ (by assumption)) | exact shp_sr _ _ (shp_sr _ _ (shp_sr _ _ (by assumption)))) (by decide)) | (simp only [fok_sr, aok_sr]; first | assumption | (exact shp_fok (by first | assumption | exact shp_sr _ _ (by assumption) | exact shp_sr _ _ (shp_sr _ _ (by assumption)) | exact shp_sr _ _ (shp_sr _ _ (shp_sr _ _ (by assumption)))) (by decide))) | (refine shp_aok (by first | assumption | exact shp_sr _ _ (by assumption) | exact shp_sr _ _ (shp_sr _ _ (by assumption)) | exact shp_sr _ _ (shp_sr _ _ (shp_sr _ _ (by assumption)))) rfl rfl ?_ ?_ <;> omega) | (exact shp_sr _ _ (by assumption)) | (exact shp_sr _ _ (shp_sr _ _ (by assumption))) | (exact shp_sr _ _ (shp_sr _ _ (shp_sr _ _ (by assumption)))) | (left; assumption) | (exact b2i_or _) | (simp; done)) only [e65_0, e65_1, e65_4, e65_5, e65_8, e65_11, e65_13, e65_16, e65_17, eq_self, ne_a, ne_b, ne_c, Nat.reduceEqDiff, lt0, bnd_ok, psh_I, psh_L, psh_R, psh_U, gt_sr, gr_sr, sk_sr, nn_sr, ↓reduceIte, Int.toNat_natCast, Int.reduceToNat, g1_0, e1, b2i_t, Int.reduceEq]
  | false =>
    rw [h] at e1
    simp (disch := first | assumption | omega | (exact shp_fok (by first | assumption | exact shp_sr _ _ (by assumption) | exact shp_sr _ _ (shp_sr _ _ (by assumption)) | exact shp_sr _ _ (shp_sr _ _ (shp_sr _ _ (by assumption)))) (by decide)) | (simp only [fok_sr, aok_sr]; first | assumption | (exact shp_fok (by first | assumption | exact shp_sr _ _ (by assumption) | exact shp_sr _ _ (shp_sr _ _ (by assumption)) | exact shp_sr _ _ (shp_sr _ _ (shp_sr _ _ (by assumption)))) (by decide))) | (refine shp_aok (by first | assumption | exact shp_sr _ _ (by assumption) | exact shp_sr _ _ (shp_sr _ _ (by assumption)) | exact shp_sr _ _ (shp_sr _ _ (shp_sr _ _ (by assumption)))) rfl rfl ?_ ?_ <;> omega) | (exact shp_sr _ _ (by assumption)) | (exact shp_sr _ _ (shp_sr _ _ (by assumption))) | (exact shp_sr _ _ (shp_sr _ _ (shp_sr _ _ (by assumption)))) | (left; assumption) | (exact b2i_or _) | (simp; done)) only [e65_0, e65_1, e65_4, e65_5, e65_8, e65_11, e65_13, e65_16, e65_17, eq_self, ne_a, ne_b, ne_c, Nat.reduceEqDiff, lt0, bnd_ok, psh_I, psh_L, psh_R, psh_U, gt_sr, gr_sr, sk_sr, nn_sr, ↓reduceIte, Int.toNat_natCast, Int.reduceToNat, g1_0, e1, b2i_f, Bool.false_eq_true]
/-- the class's row against the model's numbers -/
def relW (d : Dat) (G e : Nat → Int) : Prop := ∀ c, c < dn_ d → G c = e c + wS d c
def bdW (d : Dat) (e : Nat → Int) : Prop := ∀ c, c < dn_ d → 0 ≤ e c ∧ e c + wS d c ≤ 1000000
theorem bd_st {d : Dat} (ho : okd d) {e : Nat → Int} (h : bdW d e) (c w : Nat) : bdW d (stW d e c w) := by
  intro i hi
  have hle := stW_le d e c w i
  have b1 := h i hi
  refine ⟨?_, by omega⟩
  unfold stW
  split
  · next hch =>
    obtain ⟨k1, k2⟩ := of_decide_eq_true hch
    rcases bsW_cases ho c w with e1 | ⟨o, ho1, e1⟩
    · rw [e1] at k1; omega
    · rw [e1, Int.toNat_natCast]
      have := h o ho1
      have := wS_bd d o
      unfold ru
      split
      · omega
      · exact b1.1
  · exact b1.1
theorem bd_rd {d : Dat} (ho : okd d) {e : Nat → Int} (h : bdW d e) : ∀ j, bdW d (rdW d e j)
  | 0 => h
  | j + 1 => bd_st ho (bd_rd ho h j) _ _
theorem bd_it {d : Dat} (ho : okd d) {e : Nat → Int} (h : bdW d e) : ∀ j, bdW d (itW d e j)
  | 0 => h
  | j + 1 => bd_rd ho (bd_it ho h j) _
set_option maxRecDepth 100000 in
set_option maxHeartbeats 4000000 in
theorem c_weighT {σ : St} {d : Dat} (hs : shp σ) (hr : rep σ 2 d) (ho : okd d) {c w : Nat} (hc : c < dn_ d) (hw : w < 4) {G e : Nat → Int} (hG : relW d G e) (hb : bdW d e) (to rn : Int) (q5 q6 : AV) :
    ∃ G' q5' q6', relW d G' (stW d e c w) ∧ run 64 71 [vR 1, vI to, vI rn, vI (c : Int), vI (w : Int), q5, q6] [] (sr σ 23 G) = run 64 71 [vR 1, vI to, vI rn, vI (c : Int), vI ((w : Int) + 1), q5', q6'] [] (sr σ 23 G') := by
  have h24 := dn24 ho
  have s1 : shp (sr σ 23 G) := hs
  have r1 := rep_chg (chg_sr (S := [23]) (q := 23) (f := G) (chg_rf _ σ) (by simp)) (b := 2) (by intro i hi _; simp; omega) hr
  have eb := c_besideR r1 hc (w : Int)
  have esp := c_spoiltIn s1 r1 (c := c) (by omega)
  have h4 : (w : Int) < 4 := by omega
  have w5 : wr ((w : Int) + 1) = (w : Int) + 1 := wr_id (by omega) (by omega)
  have hbw : bsd (dR d) (dC d) c (w : Int) = bsW d c w := rfl
  rw [hbw] at eb
  have b1 := hb c hc
  have b2 := wS_bd d c
  have g1 := hG c hc
  unfold stW
  rcases bsW_cases ho c w with e1 | ⟨o, ho1, e1⟩
  · have hch : chW d e c w = false := decide_eq_false (fun h => by rw [e1] at h; omega)
    rw [e1] at eb
    refine ⟨G, vI (-1), q6, by rw [hch, if_neg Bool.false_ne_true]; exact hG, ?_⟩
    rw [e64_71]
    simp (disch := first | assumption | omega | (exact shp_fok (by first | assumption | exact shp_sr _ _ (by assumption) | exact shp_sr _ _ (shp_sr _ _ (by assumption)) | exact shp_sr _ _ (shp_sr _ _ (shp_sr _ _ (by assumption)))) (by decide)) | (simp only [fok_sr, aok_sr]; first | assumption | (exact shp_fok (by first | assumption | exact shp_sr _ _ (by assumption) | exact shp_sr _ _ (shp_sr _ _ (by assumption)) | exact shp_sr _ _ (shp_sr _ _ (shp_sr _ _ (by assumption)))) (by decide))) | (refine shp_aok (by first | assumption | exact shp_sr _ _ (by assumption) | exact shp_sr _ _ (shp_sr _ _ (by assumption)) | exact shp_sr _ _ (shp_sr _ _ (shp_sr _ _ (by assumption)))) rfl rfl ?_ ?_ <;> omega) | (exact shp_sr _ _ (by assumption)) | (exact shp_sr _ _ (shp_sr _ _ (by assumption))) | (exact shp_sr _ _ (shp_sr _ _ (shp_sr _ _ (by assumption)))) | (left; assumption) | (exact b2i_or _) | (simp; done)) only [e64_73, e64_74, e64_77, e64_78, e64_81, e64_82, e64_84, e64_87, e64_89, e64_91, e64_92, e64_95, e64_96, e64_99, e64_101, e64_104, e64_105, e64_106, e64_107, e64_108, e64_111, e64_112, e64_114, e64_115, e64_118, e64_119, e64_120, e64_123, e64_124, e64_127, e64_129, e64_132, e64_135, e64_138, eq_self, ne_a, ne_b, ne_c, Nat.reduceEqDiff, lt0, bnd_ok, psh_I, psh_L, psh_R, psh_U, gt_sr, gr_sr, sk_sr, nn_sr, ↓reduceIte, Int.toNat_natCast, Int.reduceToNat, h4, g1_0, eb, w5]
  · rw [e1] at eb
    have hn1 : ¬ (o : Int) = -1 := by omega
    have g2 := hG o ho1
    have b3 := hb o ho1
    have b4 := wS_bd d o
    have at1 := c_atN (shp_ia (k := 23) (n := 24) s1 (by decide)) (j := o) (by omega)
    have at2 := c_atN (shp_ia (k := 23) (n := 24) s1 (by decide)) (j := c) (by omega)
    rw [gt_e] at at1 at2
    have w6 : wr (G o + 1) = G o + 1 := wr_id (by omega) (by omega)
    have w7 : wr (G o + 1 + wS d c) = G o + 1 + wS d c := wr_id (by omega) (by omega)
    have p1 := fun v => c_putN (shp_ia (k := 23) (n := 24) s1 (by decide)) (j := c) (by omega) v
    simp only [gt_e, sr_sr] at p1
    by_cases hlt : G o + 1 + wS d c < G c
    · have hch : chW d e c w = true := decide_eq_true (by rw [e1, Int.toNat_natCast]; omega)
      refine ⟨ru G c (G o + 1 + wS d c), vI (o : Int), vI (G o + 1 + wS d c), ?_, ?_⟩
      · rw [hch, if_pos rfl, e1, Int.toNat_natCast]
        intro i hi
        unfold ru
        split
        · next h => rw [h]; omega
        · exact hG i hi
      · rw [e64_71]
        simp (disch := first | assumption | omega | (exact shp_fok (by first | assumption | exact shp_sr _ _ (by assumption) | exact shp_sr _ _ (shp_sr _ _ (by assumption)) | exact shp_sr _ _ (shp_sr _ _ (shp_sr _ _ (by assumption)))) (by decide)) | (simp only [fok_sr, aok_sr]; first | assumption | (exact shp_fok (by first | assumption | exact shp_sr _ _ (by assumption) | exact shp_sr _ _ (shp_sr _ _ (by assumption)) | exact shp_sr _ _ (shp_sr _ _ (shp_sr _ _ (by assumption)))) (by decide))) | (refine shp_aok (by first | assumption | exact shp_sr _ _ (by assumption) | exact shp_sr _ _ (shp_sr _ _ (by assumption)) | exact shp_sr _ _ (shp_sr _ _ (shp_sr _ _ (by assumption)))) rfl rfl ?_ ?_ <;> omega) | (exact shp_sr _ _ (by assumption)) | (exact shp_sr _ _ (shp_sr _ _ (by assumption))) | (exact shp_sr _ _ (shp_sr _ _ (shp_sr _ _ (by assumption)))) | (left; assumption) | (exact b2i_or _) | (simp; done)) only [e64_73, e64_74, e64_77, e64_78, e64_81, e64_82, e64_84, e64_87, e64_89, e64_91, e64_92, e64_95, e64_96, e64_99, e64_101, e64_104, e64_105, e64_106, e64_107, e64_108, e64_111, e64_112, e64_114, e64_115, e64_118, e64_119, e64_120, e64_123, e64_124, e64_127, e64_129, e64_132, e64_135, e64_138, eq_self, ne_a, ne_b, ne_c, Nat.reduceEqDiff, lt0, bnd_ok, psh_I, psh_L, psh_R, psh_U, gt_sr, gr_sr, sk_sr, nn_sr, ↓reduceIte, Int.toNat_natCast, Int.reduceToNat, h4, g1_0, g1_6, eb, hn1, at1, at2, esp, w6, w7, hlt, p1, w5]
    · have hch : chW d e c w = false := decide_eq_false (by rw [e1, Int.toNat_natCast]; omega)
      refine ⟨ru G c (G c), vI (o : Int), vI (G o + 1 + wS d c), ?_, ?_⟩
      · rw [hch, if_neg Bool.false_ne_true, ru_self rfl]
        exact hG
      · rw [e64_71]
        simp (disch := first | assumption | omega | (exact shp_fok (by first | assumption | exact shp_sr _ _ (by assumption) | exact shp_sr _ _ (shp_sr _ _ (by assumption)) | exact shp_sr _ _ (shp_sr _ _ (shp_sr _ _ (by assumption)))) (by decide)) | (simp only [fok_sr, aok_sr]; first | assumption | (exact shp_fok (by first | assumption | exact shp_sr _ _ (by assumption) | exact shp_sr _ _ (shp_sr _ _ (by assumption)) | exact shp_sr _ _ (shp_sr _ _ (shp_sr _ _ (by assumption)))) (by decide))) | (refine shp_aok (by first | assumption | exact shp_sr _ _ (by assumption) | exact shp_sr _ _ (shp_sr _ _ (by assumption)) | exact shp_sr _ _ (shp_sr _ _ (shp_sr _ _ (by assumption)))) rfl rfl ?_ ?_ <;> omega) | (exact shp_sr _ _ (by assumption)) | (exact shp_sr _ _ (shp_sr _ _ (by assumption))) | (exact shp_sr _ _ (shp_sr _ _ (shp_sr _ _ (by assumption)))) | (left; assumption) | (exact b2i_or _) | (simp; done)) only [e64_73, e64_74, e64_77, e64_78, e64_81, e64_82, e64_84, e64_87, e64_89, e64_91, e64_92, e64_95, e64_96, e64_99, e64_101, e64_104, e64_105, e64_106, e64_107, e64_108, e64_111, e64_112, e64_114, e64_115, e64_118, e64_119, e64_120, e64_123, e64_124, e64_127, e64_129, e64_132, e64_135, e64_138, eq_self, ne_a, ne_b, ne_c, Nat.reduceEqDiff, lt0, bnd_ok, psh_I, psh_L, psh_R, psh_U, gt_sr, gr_sr, sk_sr, nn_sr, ↓reduceIte, Int.toNat_natCast, Int.reduceToNat, h4, g1_0, g1_6, eb, hn1, at1, at2, esp, w6, w7, hlt, p1, w5]
def e0W (d : Dat) (to : Nat) : Nat → Int := fun c => if c = to then 0 else 1000000 - wS d c
set_option maxRecDepth 100000 in
set_option maxHeartbeats 8000000 in
set_option maxRecDepth 100000 in
set_option maxHeartbeats 4000000 in
theorem c_weighWays {σ : St} {d : Dat} (hs : shp σ) (hr : rep σ 2 d) (ho : okd d) {to : Nat} (ht : to < dn_ d) {F : Nat → Int} (hF : Sol d to F) : ∃ G, run 64 0 [vR 1, vI (to : Int), vU, vU, vU, vU, vU] [] σ = some (vU, sr σ 23 G) ∧ relW d G F := by
  have h24 := dn24 ho
  have rs := fun G => rep_chg (chg_sr (S := [23]) (q := 23) (f := G) (chg_rf _ σ) (by simp)) (b := 2) (by intro i hi _; simp; omega) hr
  have ss : ∀ G, shp (sr σ 23 G) := fun G => hs
  have dd : ∀ G, gt (sr σ 23 G) 2 2 = ((dn_ d : Nat) : Int) := fun G => (rs G).2.1.2.2.1
  -- the beginning
  have A : ∀ G, (∀ c, c < 0 → G c = e0W d to c + wS d c) → ∀ q3 q4 q5 q6, ∃ G', relW d G' (e0W d to) ∧ run 64 2 [vR 1, vI (to : Int), vI 0, q3, q4, q5, q6] [] (sr σ 23 G) = run 64 44 [vR 1, vI (to : Int), vI 0, q3, q4, q5, q6] [] (sr σ 23 G') := by
    refine bk (P := fun k z => ∀ G, (∀ c, c < k → G c = e0W d to c + wS d c) → ∀ q3 q4 q5 q6, ∃ G', relW d G' (e0W d to) ∧ run 64 2 [vR 1, vI (to : Int), vI z, q3, q4, q5, q6] [] (sr σ 23 G) = run 64 44 [vR 1, vI (to : Int), vI 0, q3, q4, q5, q6] [] (sr σ 23 G')) (n := dn_ d) ?_ ?_
    · intro G hG q3 q4 q5 q6
      have h4 : ¬ ((dn_ d : Nat) : Int) < ((dn_ d : Nat) : Int) := by omega
      have d2 := dd G
      refine ⟨G, hG, ?_⟩
      rw [e64_2]
      simp (disch := first | assumption | omega | (exact shp_fok (by first | assumption | exact shp_sr _ _ (by assumption) | exact shp_sr _ _ (shp_sr _ _ (by assumption)) | exact shp_sr _ _ (shp_sr _ _ (shp_sr _ _ (by assumption)))) (by decide)) | (simp only [fok_sr, aok_sr]; first | assumption | (exact shp_fok (by first | assumption | exact shp_sr _ _ (by assumption) | exact shp_sr _ _ (shp_sr _ _ (by assumption)) | exact shp_sr _ _ (shp_sr _ _ (shp_sr _ _ (by assumption)))) (by decide))) | (refine shp_aok (by first | assumption | exact shp_sr _ _ (by assumption) | exact shp_sr _ _ (shp_sr _ _ (by assumption)) | exact shp_sr _ _ (shp_sr _ _ (shp_sr _ _ (by assumption)))) rfl rfl ?_ ?_ <;> omega) | (exact shp_sr _ _ (by assumption)) | (exact shp_sr _ _ (shp_sr _ _ (by assumption))) | (exact shp_sr _ _ (shp_sr _ _ (shp_sr _ _ (by assumption)))) | (left; assumption) | (exact b2i_or _) | (simp; done)) only [e64_3, e64_4, e64_7, e64_10, e64_42, e64_43, eq_self, ne_a, ne_b, ne_c, bnd_ok, psh_I, psh_U, ↓reduceIte, g1_0, d2, h4]
    · intro k hk hk' ih G hG q3 q4 q5 q6
      have w5 : wr ((k : Int) + 1) = (k : Int) + 1 := wr_id (by omega) (by omega)
      have d2 := dd G
      have esp := c_spoiltIn (ss G) (rs G) (c := k) (by omega)
      have sG : shp (sr σ 23 G) := hs
      have p1 := fun v => c_putN (shp_ia (k := 23) (n := 24) sG (by decide)) (j := k) (by omega) v
      simp only [gt_e, sr_sr] at p1
      have b2 := wS_bd d k
      obtain ⟨G', i1, i2⟩ := ih (ru G k (e0W d to k + wS d k)) (fun c hc => by
        by_cases e : c = k
        · rw [e, ru_e]
        · rw [ru_n _ _ e]; exact hG c (by omega)) q3 q4 q5 q6
      refine ⟨G', i1, ?_⟩
      rw [← i2, e64_2]
      by_cases e : k = to
      · have hv : e0W d to k + wS d k = wS d k := by unfold e0W; rw [if_pos e]; omega
        have he : (k : Int) = (to : Int) := by omega
        rw [hv]
        simp (disch := first | assumption | omega | (exact shp_fok (by first | assumption | exact shp_sr _ _ (by assumption) | exact shp_sr _ _ (shp_sr _ _ (by assumption)) | exact shp_sr _ _ (shp_sr _ _ (shp_sr _ _ (by assumption)))) (by decide)) | (simp only [fok_sr, aok_sr]; first | assumption | (exact shp_fok (by first | assumption | exact shp_sr _ _ (by assumption) | exact shp_sr _ _ (shp_sr _ _ (by assumption)) | exact shp_sr _ _ (shp_sr _ _ (shp_sr _ _ (by assumption)))) (by decide))) | (refine shp_aok (by first | assumption | exact shp_sr _ _ (by assumption) | exact shp_sr _ _ (shp_sr _ _ (by assumption)) | exact shp_sr _ _ (shp_sr _ _ (shp_sr _ _ (by assumption)))) rfl rfl ?_ ?_ <;> omega) | (exact shp_sr _ _ (by assumption)) | (exact shp_sr _ _ (shp_sr _ _ (by assumption))) | (exact shp_sr _ _ (shp_sr _ _ (shp_sr _ _ (by assumption)))) | (left; assumption) | (exact b2i_or _) | (simp; done)) only [e64_3, e64_4, e64_7, e64_10, e64_13, e64_14, e64_17, e64_18, e64_19, e64_20, e64_31, e64_33, e64_36, e64_39, eq_self, ne_a, ne_b, ne_c, bnd_ok, psh_I, psh_U, ↓reduceIte, g1_0, g1_6, d2, hk', p1, w5]
        rw [if_pos he]
        simp (disch := first | assumption | omega | (exact shp_fok (by first | assumption | exact shp_sr _ _ (by assumption) | exact shp_sr _ _ (shp_sr _ _ (by assumption)) | exact shp_sr _ _ (shp_sr _ _ (shp_sr _ _ (by assumption)))) (by decide)) | (simp only [fok_sr, aok_sr]; first | assumption | (exact shp_fok (by first | assumption | exact shp_sr _ _ (by assumption) | exact shp_sr _ _ (shp_sr _ _ (by assumption)) | exact shp_sr _ _ (shp_sr _ _ (shp_sr _ _ (by assumption)))) (by decide))) | (refine shp_aok (by first | assumption | exact shp_sr _ _ (by assumption) | exact shp_sr _ _ (shp_sr _ _ (by assumption)) | exact shp_sr _ _ (shp_sr _ _ (shp_sr _ _ (by assumption)))) rfl rfl ?_ ?_ <;> omega) | (exact shp_sr _ _ (by assumption)) | (exact shp_sr _ _ (shp_sr _ _ (by assumption))) | (exact shp_sr _ _ (shp_sr _ _ (shp_sr _ _ (by assumption)))) | (left; assumption) | (exact b2i_or _) | (simp; done)) only [e64_23, e64_24, e64_25, e64_28, e64_31, e64_33, e64_36, e64_39, eq_self, ne_a, ne_b, ne_c, bnd_ok, psh_I, psh_U, ↓reduceIte, g1_6, esp, p1, w5]
      · have hv : e0W d to k + wS d k = 1000000 := by unfold e0W; rw [if_neg e]; omega
        have he : ¬ (k : Int) = (to : Int) := by omega
        rw [hv]
        simp (disch := first | assumption | omega | (exact shp_fok (by first | assumption | exact shp_sr _ _ (by assumption) | exact shp_sr _ _ (shp_sr _ _ (by assumption)) | exact shp_sr _ _ (shp_sr _ _ (shp_sr _ _ (by assumption)))) (by decide)) | (simp only [fok_sr, aok_sr]; first | assumption | (exact shp_fok (by first | assumption | exact shp_sr _ _ (by assumption) | exact shp_sr _ _ (shp_sr _ _ (by assumption)) | exact shp_sr _ _ (shp_sr _ _ (shp_sr _ _ (by assumption)))) (by decide))) | (refine shp_aok (by first | assumption | exact shp_sr _ _ (by assumption) | exact shp_sr _ _ (shp_sr _ _ (by assumption)) | exact shp_sr _ _ (shp_sr _ _ (shp_sr _ _ (by assumption)))) rfl rfl ?_ ?_ <;> omega) | (exact shp_sr _ _ (by assumption)) | (exact shp_sr _ _ (shp_sr _ _ (by assumption))) | (exact shp_sr _ _ (shp_sr _ _ (shp_sr _ _ (by assumption)))) | (left; assumption) | (exact b2i_or _) | (simp; done)) only [e64_3, e64_4, e64_7, e64_10, e64_13, e64_14, e64_17, e64_18, e64_19, e64_20, e64_23, e64_24, e64_25, e64_28, e64_31, e64_33, e64_36, e64_39, eq_self, ne_a, ne_b, ne_c, bnd_ok, psh_I, psh_U, ↓reduceIte, g1_0, g1_6, d2, hk', he, p1, w5]
  have hb0 : bdW d (e0W d to) := by
    intro c hc
    have := wS_bd d c
    unfold e0W
    split <;> omega
  -- one cell
  have B : ∀ (c : Nat), c < dn_ d → ∀ (e G : Nat → Int) (rn : Int), bdW d e → relW d G (rdW d e (c * 4)) → ∀ q5 q6, ∃ G' q5' q6', relW d G' (rdW d e ((c + 1) * 4)) ∧ run 64 71 [vR 1, vI (to : Int), vI rn, vI (c : Int), vI 0, q5, q6] [] (sr σ 23 G) = run 64 57 [vR 1, vI (to : Int), vI rn, vI ((c : Int) + 1), vI 4, q5', q6'] [] (sr σ 23 G') := by
    intro c hc e G rn hbe hG
    refine bk (P := fun w z => ∀ G, relW d G (rdW d e (c * 4 + w)) → ∀ q5 q6, ∃ G' q5' q6', relW d G' (rdW d e ((c + 1) * 4)) ∧ run 64 71 [vR 1, vI (to : Int), vI rn, vI (c : Int), vI z, q5, q6] [] (sr σ 23 G) = run 64 57 [vR 1, vI (to : Int), vI rn, vI ((c : Int) + 1), vI 4, q5', q6'] [] (sr σ 23 G')) (n := 4) ?_ ?_ G (by rw [Nat.add_zero]; exact hG)
    · intro G hG q5 q6
      have w5 : wr ((c : Int) + 1) = (c : Int) + 1 := wr_id (by omega) (by omega)
      refine ⟨G, q5, q6, by rw [Nat.add_mul, Nat.one_mul]; exact hG, ?_⟩
      rw [e64_71]
      simp (disch := first | assumption | omega | (exact shp_fok (by first | assumption | exact shp_sr _ _ (by assumption) | exact shp_sr _ _ (shp_sr _ _ (by assumption)) | exact shp_sr _ _ (shp_sr _ _ (shp_sr _ _ (by assumption)))) (by decide)) | (simp only [fok_sr, aok_sr]; first | assumption | (exact shp_fok (by first | assumption | exact shp_sr _ _ (by assumption) | exact shp_sr _ _ (shp_sr _ _ (by assumption)) | exact shp_sr _ _ (shp_sr _ _ (shp_sr _ _ (by assumption)))) (by decide))) | (refine shp_aok (by first | assumption | exact shp_sr _ _ (by assumption) | exact shp_sr _ _ (shp_sr _ _ (by assumption)) | exact shp_sr _ _ (shp_sr _ _ (shp_sr _ _ (by assumption)))) rfl rfl ?_ ?_ <;> omega) | (exact shp_sr _ _ (by assumption)) | (exact shp_sr _ _ (shp_sr _ _ (by assumption))) | (exact shp_sr _ _ (shp_sr _ _ (shp_sr _ _ (by assumption)))) | (left; assumption) | (exact b2i_or _) | (simp; done)) only [e64_73, e64_74, e64_141, e64_144, eq_self, ne_a, ne_b, ne_c, Nat.reduceEqDiff, lt0, bnd_ok, psh_I, psh_L, psh_R, psh_U, gt_sr, gr_sr, sk_sr, nn_sr, ↓reduceIte, Int.toNat_natCast, Int.reduceToNat, Int.cast_ofNat_Int, Int.reduceLT, w5]
    · intro w hw hw' ih G hG q5 q6
      obtain ⟨G1, p5, p6, g1, e1⟩ := c_weighT hs hr ho hc hw hG (bd_rd ho hbe _) (to : Int) rn q5 q6
      have e9 : rdW d e (c * 4 + (w + 1)) = stW d (rdW d e (c * 4 + w)) c w := by
        show stW d (rdW d e (c * 4 + w)) ((c * 4 + w) / 4) ((c * 4 + w) % 4) = _
        rw [show (c * 4 + w) / 4 = c by omega, show (c * 4 + w) % 4 = w by omega]
      obtain ⟨G2, r5, r6, g2, e2⟩ := ih G1 (by rw [e9]; exact g1) p5 p6
      exact ⟨G2, r5, r6, g2, e1.trans e2⟩
  -- one round
  have C : ∀ (e G : Nat → Int) (rn : Int), (0 ≤ rn ∧ rn ≤ 30) → bdW d e → relW d G (rdW d e (0 * 4)) → ∀ q4 q5 q6, ∃ G' q4' q5' q6', relW d G' (rdW d e (dn_ d * 4)) ∧ run 64 57 [vR 1, vI (to : Int), vI rn, vI 0, q4, q5, q6] [] (sr σ 23 G) = run 64 44 [vR 1, vI (to : Int), vI (rn + 1), vI (dn_ d : Nat), q4', q5', q6'] [] (sr σ 23 G') := by
    intro e G rn hrn hbe hG
    refine bk (P := fun c z => ∀ G, relW d G (rdW d e (c * 4)) → ∀ q4 q5 q6, ∃ G' q4' q5' q6', relW d G' (rdW d e (dn_ d * 4)) ∧ run 64 57 [vR 1, vI (to : Int), vI rn, vI z, q4, q5, q6] [] (sr σ 23 G) = run 64 44 [vR 1, vI (to : Int), vI (rn + 1), vI (dn_ d : Nat), q4', q5', q6'] [] (sr σ 23 G')) (n := dn_ d) ?_ ?_ G hG
    · intro G hG q4 q5 q6
      have w5 : wr (rn + 1) = rn + 1 := wr_id (by omega) (by omega)
      have h4 : ¬ ((dn_ d : Nat) : Int) < ((dn_ d : Nat) : Int) := by omega
      have d2 := dd G
      refine ⟨G, q4, q5, q6, hG, ?_⟩
      rw [e64_57]
      simp (disch := first | assumption | omega | (exact shp_fok (by first | assumption | exact shp_sr _ _ (by assumption) | exact shp_sr _ _ (shp_sr _ _ (by assumption)) | exact shp_sr _ _ (shp_sr _ _ (shp_sr _ _ (by assumption)))) (by decide)) | (simp only [fok_sr, aok_sr]; first | assumption | (exact shp_fok (by first | assumption | exact shp_sr _ _ (by assumption) | exact shp_sr _ _ (shp_sr _ _ (by assumption)) | exact shp_sr _ _ (shp_sr _ _ (shp_sr _ _ (by assumption)))) (by decide))) | (refine shp_aok (by first | assumption | exact shp_sr _ _ (by assumption) | exact shp_sr _ _ (shp_sr _ _ (by assumption)) | exact shp_sr _ _ (shp_sr _ _ (shp_sr _ _ (by assumption)))) rfl rfl ?_ ?_ <;> omega) | (exact shp_sr _ _ (by assumption)) | (exact shp_sr _ _ (shp_sr _ _ (by assumption))) | (exact shp_sr _ _ (shp_sr _ _ (shp_sr _ _ (by assumption)))) | (left; assumption) | (exact b2i_or _) | (simp; done)) only [e64_58, e64_59, e64_62, e64_65, e64_147, e64_150, eq_self, ne_a, ne_b, ne_c, bnd_ok, psh_I, psh_U, ↓reduceIte, g1_0, d2, h4, w5]
    · intro c hc hc' ih G hG q4 q5 q6
      obtain ⟨G1, p5, p6, g1, e1⟩ := B c hc e G rn hbe hG q5 q6
      obtain ⟨G2, r4, r5, r6, g2, e2⟩ := ih G1 g1 (vI 4) p5 p6
      refine ⟨G2, r4, r5, r6, g2, ?_⟩
      have d2 := dd G
      rw [← e2, ← e1, e64_57]
      simp (disch := first | assumption | omega | (exact shp_fok (by first | assumption | exact shp_sr _ _ (by assumption) | exact shp_sr _ _ (shp_sr _ _ (by assumption)) | exact shp_sr _ _ (shp_sr _ _ (shp_sr _ _ (by assumption)))) (by decide)) | (simp only [fok_sr, aok_sr]; first | assumption | (exact shp_fok (by first | assumption | exact shp_sr _ _ (by assumption) | exact shp_sr _ _ (shp_sr _ _ (by assumption)) | exact shp_sr _ _ (shp_sr _ _ (shp_sr _ _ (by assumption)))) (by decide))) | (refine shp_aok (by first | assumption | exact shp_sr _ _ (by assumption) | exact shp_sr _ _ (shp_sr _ _ (by assumption)) | exact shp_sr _ _ (shp_sr _ _ (shp_sr _ _ (by assumption)))) rfl rfl ?_ ?_ <;> omega) | (exact shp_sr _ _ (by assumption)) | (exact shp_sr _ _ (shp_sr _ _ (by assumption))) | (exact shp_sr _ _ (shp_sr _ _ (shp_sr _ _ (by assumption)))) | (left; assumption) | (exact b2i_or _) | (simp; done)) only [e64_58, e64_59, e64_62, e64_65, e64_68, e64_69, eq_self, ne_a, ne_b, ne_c, bnd_ok, psh_I, psh_U, ↓reduceIte, g1_0, d2, hc']
  -- all rounds
  have D : ∀ G, relW d G (itW d (e0W d to) 0) → ∀ q3 q4 q5 q6, ∃ G', relW d G' (itW d (e0W d to) (dn_ d)) ∧ run 64 44 [vR 1, vI (to : Int), vI 0, q3, q4, q5, q6] [] (sr σ 23 G) = some (vU, sr σ 23 G') := by
    refine bk (P := fun k z => ∀ G, relW d G (itW d (e0W d to) k) → ∀ q3 q4 q5 q6, ∃ G', relW d G' (itW d (e0W d to) (dn_ d)) ∧ run 64 44 [vR 1, vI (to : Int), vI z, q3, q4, q5, q6] [] (sr σ 23 G) = some (vU, sr σ 23 G')) (n := dn_ d) ?_ ?_
    · intro G hG q3 q4 q5 q6
      have h4 : ¬ ((dn_ d : Nat) : Int) < ((dn_ d : Nat) : Int) := by omega
      have d2 := dd G
      refine ⟨G, hG, ?_⟩
      rw [e64_44]
      simp (disch := first | assumption | omega | (exact shp_fok (by first | assumption | exact shp_sr _ _ (by assumption) | exact shp_sr _ _ (shp_sr _ _ (by assumption)) | exact shp_sr _ _ (shp_sr _ _ (shp_sr _ _ (by assumption)))) (by decide)) | (simp only [fok_sr, aok_sr]; first | assumption | (exact shp_fok (by first | assumption | exact shp_sr _ _ (by assumption) | exact shp_sr _ _ (shp_sr _ _ (by assumption)) | exact shp_sr _ _ (shp_sr _ _ (shp_sr _ _ (by assumption)))) (by decide))) | (refine shp_aok (by first | assumption | exact shp_sr _ _ (by assumption) | exact shp_sr _ _ (shp_sr _ _ (by assumption)) | exact shp_sr _ _ (shp_sr _ _ (shp_sr _ _ (by assumption)))) rfl rfl ?_ ?_ <;> omega) | (exact shp_sr _ _ (by assumption)) | (exact shp_sr _ _ (shp_sr _ _ (by assumption))) | (exact shp_sr _ _ (shp_sr _ _ (shp_sr _ _ (by assumption)))) | (left; assumption) | (exact b2i_or _) | (simp; done)) only [e64_45, e64_46, e64_49, e64_52, e64_153, eq_self, ne_a, ne_b, ne_c, bnd_ok, psh_I, psh_U, ↓reduceIte, g1_0, d2, h4]
    · intro k hk hk' ih G hG q3 q4 q5 q6
      obtain ⟨G1, p4, p5, p6, g1, e1⟩ := C (itW d (e0W d to) k) G (k : Int) (by omega) (bd_it ho hb0 k) (by rw [Nat.zero_mul]; exact hG) q4 q5 q6
      obtain ⟨G2, g2, e2⟩ := ih G1 g1 (vI (dn_ d : Nat)) p4 p5 p6
      refine ⟨G2, g2, ?_⟩
      have d2 := dd G
      rw [← e2, ← e1, e64_44]
      simp (disch := first | assumption | omega | (exact shp_fok (by first | assumption | exact shp_sr _ _ (by assumption) | exact shp_sr _ _ (shp_sr _ _ (by assumption)) | exact shp_sr _ _ (shp_sr _ _ (shp_sr _ _ (by assumption)))) (by decide)) | (simp only [fok_sr, aok_sr]; first | assumption | (exact shp_fok (by first | assumption | exact shp_sr _ _ (by assumption) | exact shp_sr _ _ (shp_sr _ _ (by assumption)) | exact shp_sr _ _ (shp_sr _ _ (shp_sr _ _ (by assumption)))) (by decide))) | (refine shp_aok (by first | assumption | exact shp_sr _ _ (by assumption) | exact shp_sr _ _ (shp_sr _ _ (by assumption)) | exact shp_sr _ _ (shp_sr _ _ (shp_sr _ _ (by assumption)))) rfl rfl ?_ ?_ <;> omega) | (exact shp_sr _ _ (by assumption)) | (exact shp_sr _ _ (shp_sr _ _ (by assumption))) | (exact shp_sr _ _ (shp_sr _ _ (shp_sr _ _ (by assumption)))) | (left; assumption) | (exact b2i_or _) | (simp; done)) only [e64_45, e64_46, e64_49, e64_52, e64_55, e64_56, eq_self, ne_a, ne_b, ne_c, bnd_ok, psh_I, psh_U, ↓reduceIte, g1_0, d2, hk']
  obtain ⟨G1, g1, e1⟩ := A (gt σ 23) (fun c hc => absurd hc (Nat.not_lt_zero c)) vU vU vU vU
  rw [sr_self σ 23 _ rfl] at e1
  obtain ⟨G2, g2, e2⟩ := D G1 g1 vU vU vU vU
  refine ⟨G2, ?_, ?_⟩
  · rw [← e2, ← e1]
    simp (disch := first | assumption | omega | (exact shp_fok (by first | assumption | exact shp_sr _ _ (by assumption) | exact shp_sr _ _ (shp_sr _ _ (by assumption)) | exact shp_sr _ _ (shp_sr _ _ (shp_sr _ _ (by assumption)))) (by decide)) | (simp only [fok_sr, aok_sr]; first | assumption | (exact shp_fok (by first | assumption | exact shp_sr _ _ (by assumption) | exact shp_sr _ _ (shp_sr _ _ (by assumption)) | exact shp_sr _ _ (shp_sr _ _ (shp_sr _ _ (by assumption)))) (by decide))) | (refine shp_aok (by first | assumption | exact shp_sr _ _ (by assumption) | exact shp_sr _ _ (shp_sr _ _ (by assumption)) | exact shp_sr _ _ (shp_sr _ _ (shp_sr _ _ (by assumption)))) rfl rfl ?_ ?_ <;> omega) | (exact shp_sr _ _ (by assumption)) | (exact shp_sr _ _ (shp_sr _ _ (by assumption))) | (exact shp_sr _ _ (shp_sr _ _ (shp_sr _ _ (by assumption)))) | (left; assumption) | (exact b2i_or _) | (simp; done)) only [e64_0, e64_1, eq_self, ne_a, ne_b, ne_c, Nat.reduceEqDiff, lt0, bnd_ok, psh_I, psh_L, psh_R, psh_U, gt_sr, gr_sr, sk_sr, nn_sr, ↓reduceIte, Int.toNat_natCast, Int.reduceToNat]
  · intro c hc
    have hge : ∀ c, c < dn_ d → F c ≤ e0W d to c := by
      intro c hc
      have hn := near ho hF.2 ht hc hF.1.1
      have := wS_bd d c
      unfold e0W
      split
      · next h => rw [h, hF.1.1]; exact Int.le_refl _
      · omega
    rw [g2 c hc, it_sol ho ht hF (if_pos rfl) hge hc]
set_option maxRecDepth 100000 in
set_option maxHeartbeats 4000000 in
theorem c_firstStep {σ : St} {d : Dat} (hs : shp σ) (hr : rep σ 2 d) (ho : okd d) {fr to : Nat} (hfr : fr < dn_ d) {F : Nat → Int} (hG : relW d (gt σ 23) F) (hbF : ∀ c, c < dn_ d → 0 ≤ F c ∧ F c ≤ 1000000) : run 68 0 [vR 1, vI (fr : Int), vI (to : Int), vU, vU, vU, vU] [] σ = some (vI (if fr = to then -6 else fsW d F fr 4), σ) := by
  have h24 := dn24 ho
  by_cases hft : fr = to
  · rw [if_pos hft]
    have he : (fr : Int) = (to : Int) := by omega
    simp (disch := first | assumption | omega | (exact shp_fok (by first | assumption | exact shp_sr _ _ (by assumption) | exact shp_sr _ _ (shp_sr _ _ (by assumption)) | exact shp_sr _ _ (shp_sr _ _ (shp_sr _ _ (by assumption)))) (by decide)) | (simp only [fok_sr, aok_sr]; first | assumption | (exact shp_fok (by first | assumption | exact shp_sr _ _ (by assumption) | exact shp_sr _ _ (shp_sr _ _ (by assumption)) | exact shp_sr _ _ (shp_sr _ _ (shp_sr _ _ (by assumption)))) (by decide))) | (refine shp_aok (by first | assumption | exact shp_sr _ _ (by assumption) | exact shp_sr _ _ (shp_sr _ _ (by assumption)) | exact shp_sr _ _ (shp_sr _ _ (shp_sr _ _ (by assumption)))) rfl rfl ?_ ?_ <;> omega) | (exact shp_sr _ _ (by assumption)) | (exact shp_sr _ _ (shp_sr _ _ (by assumption))) | (exact shp_sr _ _ (shp_sr _ _ (shp_sr _ _ (by assumption)))) | (left; assumption) | (exact b2i_or _) | (simp; done)) only [e68_0, e68_2, e68_3, e68_4, eq_self, ne_a, ne_b, ne_c, Nat.reduceEqDiff, lt0, bnd_ok, psh_I, psh_L, psh_R, psh_U, gt_sr, gr_sr, sk_sr, nn_sr, ↓reduceIte, Int.toNat_natCast, Int.reduceToNat]
    rw [e68_6]
    simp (disch := first | assumption | omega | (exact shp_fok (by first | assumption | exact shp_sr _ _ (by assumption) | exact shp_sr _ _ (shp_sr _ _ (by assumption)) | exact shp_sr _ _ (shp_sr _ _ (shp_sr _ _ (by assumption)))) (by decide)) | (simp only [fok_sr, aok_sr]; first | assumption | (exact shp_fok (by first | assumption | exact shp_sr _ _ (by assumption) | exact shp_sr _ _ (shp_sr _ _ (by assumption)) | exact shp_sr _ _ (shp_sr _ _ (shp_sr _ _ (by assumption)))) (by decide))) | (refine shp_aok (by first | assumption | exact shp_sr _ _ (by assumption) | exact shp_sr _ _ (shp_sr _ _ (by assumption)) | exact shp_sr _ _ (shp_sr _ _ (shp_sr _ _ (by assumption)))) rfl rfl ?_ ?_ <;> omega) | (exact shp_sr _ _ (by assumption)) | (exact shp_sr _ _ (shp_sr _ _ (by assumption))) | (exact shp_sr _ _ (shp_sr _ _ (shp_sr _ _ (by assumption)))) | (left; assumption) | (exact b2i_or _) | (simp; done)) only [e68_8, e68_9, e68_12, e68_13, e68_14, e68_96, e68_97, eq_self, ne_a, ne_b, ne_c, Nat.reduceEqDiff, lt0, bnd_ok, psh_I, psh_L, psh_R, psh_U, gt_sr, gr_sr, sk_sr, nn_sr, ↓reduceIte, Int.toNat_natCast, Int.reduceToNat, Int.reduceLT, he]
  · rw [if_neg hft]
    have he : ¬ (fr : Int) = (to : Int) := by omega
    have hfb := fsW_bd ho F fr
    have esp := c_spoiltIn hs hr (c := fr) (by omega)
    have at2 := c_atN (shp_ia (k := 23) (n := 24) hs (by decide)) (j := fr) (by omega)
    have g1 := hG fr hfr
    have b1 := hbF fr hfr
    have b2 := wS_bd d fr
    have L : ∀ q5 q6, run 68 6 [vR 1, vI (fr : Int), vI (to : Int), vI (fsW d F fr 0), vI 0, q5, q6] [] σ = some (vI (fsW d F fr 4), σ) := by
      refine bk (P := fun w z => ∀ q5 q6, run 68 6 [vR 1, vI (fr : Int), vI (to : Int), vI (fsW d F fr w), vI z, q5, q6] [] σ = some (vI (fsW d F fr 4), σ)) (n := 4) ?_ ?_
      · intro q5 q6
        rw [e68_6]
        simp (disch := first | assumption | omega | (exact shp_fok (by first | assumption | exact shp_sr _ _ (by assumption) | exact shp_sr _ _ (shp_sr _ _ (by assumption)) | exact shp_sr _ _ (shp_sr _ _ (shp_sr _ _ (by assumption)))) (by decide)) | (simp only [fok_sr, aok_sr]; first | assumption | (exact shp_fok (by first | assumption | exact shp_sr _ _ (by assumption) | exact shp_sr _ _ (shp_sr _ _ (by assumption)) | exact shp_sr _ _ (shp_sr _ _ (shp_sr _ _ (by assumption)))) (by decide))) | (refine shp_aok (by first | assumption | exact shp_sr _ _ (by assumption) | exact shp_sr _ _ (shp_sr _ _ (by assumption)) | exact shp_sr _ _ (shp_sr _ _ (shp_sr _ _ (by assumption)))) rfl rfl ?_ ?_ <;> omega) | (exact shp_sr _ _ (by assumption)) | (exact shp_sr _ _ (shp_sr _ _ (by assumption))) | (exact shp_sr _ _ (shp_sr _ _ (shp_sr _ _ (by assumption)))) | (left; assumption) | (exact b2i_or _) | (simp; done)) only [e68_8, e68_9, e68_96, e68_97, eq_self, ne_a, ne_b, ne_c, Nat.reduceEqDiff, lt0, bnd_ok, psh_I, psh_L, psh_R, psh_U, gt_sr, gr_sr, sk_sr, nn_sr, ↓reduceIte, Int.toNat_natCast, Int.reduceToNat, Int.cast_ofNat_Int, Int.reduceLT]
      · intro w hw hw' ih q5 q6
        have h4 : (w : Int) < 4 := hw'
        have w5 : wr ((w : Int) + 1) = (w : Int) + 1 := wr_id (by omega) (by omega)
        have eb := c_besideR hr hfr (w : Int)
        have hbw : bsd (dR d) (dC d) fr (w : Int) = bsW d fr w := rfl
        rw [hbw] at eb
        have hfs : fsW d F fr (w + 1) = if 0 ≤ bsW d fr w ∧ F (bsW d fr w).toNat + wS d (bsW d fr w).toNat + 1 = F fr ∧ (fsW d F fr w = -6 ∨ bsW d fr w < fsW d F fr w) then bsW d fr w else fsW d F fr w := rfl
        rw [hfs] at ih
        rw [e68_6]
        rcases bsW_cases ho fr w with e1 | ⟨o, ho1, e1⟩
        · rw [e1] at eb ih
          rw [if_neg (fun h => absurd h.1 (by decide))] at ih
          simp (disch := first | assumption | omega | (exact shp_fok (by first | assumption | exact shp_sr _ _ (by assumption) | exact shp_sr _ _ (shp_sr _ _ (by assumption)) | exact shp_sr _ _ (shp_sr _ _ (shp_sr _ _ (by assumption)))) (by decide)) | (simp only [fok_sr, aok_sr]; first | assumption | (exact shp_fok (by first | assumption | exact shp_sr _ _ (by assumption) | exact shp_sr _ _ (shp_sr _ _ (by assumption)) | exact shp_sr _ _ (shp_sr _ _ (shp_sr _ _ (by assumption)))) (by decide))) | (refine shp_aok (by first | assumption | exact shp_sr _ _ (by assumption) | exact shp_sr _ _ (shp_sr _ _ (by assumption)) | exact shp_sr _ _ (shp_sr _ _ (shp_sr _ _ (by assumption)))) rfl rfl ?_ ?_ <;> omega) | (exact shp_sr _ _ (by assumption)) | (exact shp_sr _ _ (shp_sr _ _ (by assumption))) | (exact shp_sr _ _ (shp_sr _ _ (shp_sr _ _ (by assumption)))) | (left; assumption) | (exact b2i_or _) | (simp; done)) only [e68_8, e68_9, e68_12, e68_13, e68_14, e68_17, e68_18, e68_21, e68_22, e68_24, e68_27, e68_29, e68_31, e68_32, e68_35, e68_36, e68_39, e68_41, e68_44, e68_45, e68_46, e68_47, e68_48, e68_51, e68_52, e68_53, e68_56, e68_57, e68_60, e68_63, e68_64, e68_67, e68_68, e68_70, e68_72, e68_75, e68_76, e68_78, e68_81, e68_83, e68_84, e68_87, e68_89, e68_90, e68_93, eq_self, ne_a, ne_b, ne_c, Nat.reduceEqDiff, lt0, bnd_ok, psh_I, psh_L, psh_R, psh_U, gt_sr, gr_sr, sk_sr, nn_sr, ↓reduceIte, Int.toNat_natCast, Int.reduceToNat, h4, he, g1_0, eb, w5]
          exact ih _ _
        · rw [e1] at eb ih
          rw [Int.toNat_natCast] at ih
          have hn1 : ¬ (o : Int) = -1 := by omega
          have g2 := hG o ho1
          have b3 := hbF o ho1
          have b4 := wS_bd d o
          have at1 := c_atN (shp_ia (k := 23) (n := 24) hs (by decide)) (j := o) (by omega)
          have w6 : wr (gt σ 23 o + 1) = gt σ 23 o + 1 := wr_id (by omega) (by omega)
          have w7 : wr (gt σ 23 o + 1 + wS d fr) = gt σ 23 o + 1 + wS d fr := wr_id (by omega) (by omega)
          have w8 : wr (gt σ 23 fr) = gt σ 23 fr := wr_id (by omega) (by omega)
          by_cases k1 : gt σ 23 o + 1 + wS d fr = gt σ 23 fr
          · have k1' : F o + wS d o + 1 = F fr := by omega
            by_cases k2 : fsW d F fr w = -6
            · rw [if_pos ⟨by omega, k1', Or.inl k2⟩] at ih
              simp (disch := first | assumption | omega | (exact shp_fok (by first | assumption | exact shp_sr _ _ (by assumption) | exact shp_sr _ _ (shp_sr _ _ (by assumption)) | exact shp_sr _ _ (shp_sr _ _ (shp_sr _ _ (by assumption)))) (by decide)) | (simp only [fok_sr, aok_sr]; first | assumption | (exact shp_fok (by first | assumption | exact shp_sr _ _ (by assumption) | exact shp_sr _ _ (shp_sr _ _ (by assumption)) | exact shp_sr _ _ (shp_sr _ _ (shp_sr _ _ (by assumption)))) (by decide))) | (refine shp_aok (by first | assumption | exact shp_sr _ _ (by assumption) | exact shp_sr _ _ (shp_sr _ _ (by assumption)) | exact shp_sr _ _ (shp_sr _ _ (shp_sr _ _ (by assumption)))) rfl rfl ?_ ?_ <;> omega) | (exact shp_sr _ _ (by assumption)) | (exact shp_sr _ _ (shp_sr _ _ (by assumption))) | (exact shp_sr _ _ (shp_sr _ _ (shp_sr _ _ (by assumption)))) | (left; assumption) | (exact b2i_or _) | (simp; done)) only [e68_8, e68_9, e68_12, e68_13, e68_14, e68_17, e68_18, e68_21, e68_22, e68_24, e68_27, e68_29, e68_31, e68_32, e68_35, e68_36, e68_39, e68_41, e68_44, e68_45, e68_46, e68_47, e68_48, e68_51, e68_52, e68_53, e68_56, e68_57, e68_60, e68_63, e68_64, e68_67, e68_68, e68_70, e68_72, e68_75, e68_76, e68_78, e68_81, e68_83, e68_84, e68_87, e68_89, e68_90, e68_93, eq_self, ne_a, ne_b, ne_c, Nat.reduceEqDiff, lt0, bnd_ok, psh_I, psh_L, psh_R, psh_U, gt_sr, gr_sr, sk_sr, nn_sr, ↓reduceIte, Int.toNat_natCast, Int.reduceToNat, h4, he, g1_0, g1_6, eb, hn1, at1, at2, esp, w6, w7, w8, k1, k2, w5, Int.reduceEq]
              exact ih _ _
            · by_cases k3 : (o : Int) < fsW d F fr w
              · rw [if_pos ⟨by omega, k1', Or.inr k3⟩] at ih
                simp (disch := first | assumption | omega | (exact shp_fok (by first | assumption | exact shp_sr _ _ (by assumption) | exact shp_sr _ _ (shp_sr _ _ (by assumption)) | exact shp_sr _ _ (shp_sr _ _ (shp_sr _ _ (by assumption)))) (by decide)) | (simp only [fok_sr, aok_sr]; first | assumption | (exact shp_fok (by first | assumption | exact shp_sr _ _ (by assumption) | exact shp_sr _ _ (shp_sr _ _ (by assumption)) | exact shp_sr _ _ (shp_sr _ _ (shp_sr _ _ (by assumption)))) (by decide))) | (refine shp_aok (by first | assumption | exact shp_sr _ _ (by assumption) | exact shp_sr _ _ (shp_sr _ _ (by assumption)) | exact shp_sr _ _ (shp_sr _ _ (shp_sr _ _ (by assumption)))) rfl rfl ?_ ?_ <;> omega) | (exact shp_sr _ _ (by assumption)) | (exact shp_sr _ _ (shp_sr _ _ (by assumption))) | (exact shp_sr _ _ (shp_sr _ _ (shp_sr _ _ (by assumption)))) | (left; assumption) | (exact b2i_or _) | (simp; done)) only [e68_8, e68_9, e68_12, e68_13, e68_14, e68_17, e68_18, e68_21, e68_22, e68_24, e68_27, e68_29, e68_31, e68_32, e68_35, e68_36, e68_39, e68_41, e68_44, e68_45, e68_46, e68_47, e68_48, e68_51, e68_52, e68_53, e68_56, e68_57, e68_60, e68_63, e68_64, e68_67, e68_68, e68_70, e68_72, e68_75, e68_76, e68_78, e68_81, e68_83, e68_84, e68_87, e68_89, e68_90, e68_93, eq_self, ne_a, ne_b, ne_c, Nat.reduceEqDiff, lt0, bnd_ok, psh_I, psh_L, psh_R, psh_U, gt_sr, gr_sr, sk_sr, nn_sr, ↓reduceIte, Int.toNat_natCast, Int.reduceToNat, h4, he, g1_0, g1_6, eb, hn1, at1, at2, esp, w6, w7, w8, k1, k2, k3, w5, Int.reduceEq]
                exact ih _ _
              · rw [if_neg (fun h => h.2.2.elim k2 k3)] at ih
                simp (disch := first | assumption | omega | (exact shp_fok (by first | assumption | exact shp_sr _ _ (by assumption) | exact shp_sr _ _ (shp_sr _ _ (by assumption)) | exact shp_sr _ _ (shp_sr _ _ (shp_sr _ _ (by assumption)))) (by decide)) | (simp only [fok_sr, aok_sr]; first | assumption | (exact shp_fok (by first | assumption | exact shp_sr _ _ (by assumption) | exact shp_sr _ _ (shp_sr _ _ (by assumption)) | exact shp_sr _ _ (shp_sr _ _ (shp_sr _ _ (by assumption)))) (by decide))) | (refine shp_aok (by first | assumption | exact shp_sr _ _ (by assumption) | exact shp_sr _ _ (shp_sr _ _ (by assumption)) | exact shp_sr _ _ (shp_sr _ _ (shp_sr _ _ (by assumption)))) rfl rfl ?_ ?_ <;> omega) | (exact shp_sr _ _ (by assumption)) | (exact shp_sr _ _ (shp_sr _ _ (by assumption))) | (exact shp_sr _ _ (shp_sr _ _ (shp_sr _ _ (by assumption)))) | (left; assumption) | (exact b2i_or _) | (simp; done)) only [e68_8, e68_9, e68_12, e68_13, e68_14, e68_17, e68_18, e68_21, e68_22, e68_24, e68_27, e68_29, e68_31, e68_32, e68_35, e68_36, e68_39, e68_41, e68_44, e68_45, e68_46, e68_47, e68_48, e68_51, e68_52, e68_53, e68_56, e68_57, e68_60, e68_63, e68_64, e68_67, e68_68, e68_70, e68_72, e68_75, e68_76, e68_78, e68_81, e68_83, e68_84, e68_87, e68_89, e68_90, e68_93, eq_self, ne_a, ne_b, ne_c, Nat.reduceEqDiff, lt0, bnd_ok, psh_I, psh_L, psh_R, psh_U, gt_sr, gr_sr, sk_sr, nn_sr, ↓reduceIte, Int.toNat_natCast, Int.reduceToNat, h4, he, g1_0, g1_6, eb, hn1, at1, at2, esp, w6, w7, w8, k1, k2, k3, w5, Int.reduceEq]
                exact ih _ _
          · have k1' : ¬ F o + wS d o + 1 = F fr := by omega
            rw [if_neg (fun h => k1' h.2.1)] at ih
            simp (disch := first | assumption | omega | (exact shp_fok (by first | assumption | exact shp_sr _ _ (by assumption) | exact shp_sr _ _ (shp_sr _ _ (by assumption)) | exact shp_sr _ _ (shp_sr _ _ (shp_sr _ _ (by assumption)))) (by decide)) | (simp only [fok_sr, aok_sr]; first | assumption | (exact shp_fok (by first | assumption | exact shp_sr _ _ (by assumption) | exact shp_sr _ _ (shp_sr _ _ (by assumption)) | exact shp_sr _ _ (shp_sr _ _ (shp_sr _ _ (by assumption)))) (by decide))) | (refine shp_aok (by first | assumption | exact shp_sr _ _ (by assumption) | exact shp_sr _ _ (shp_sr _ _ (by assumption)) | exact shp_sr _ _ (shp_sr _ _ (shp_sr _ _ (by assumption)))) rfl rfl ?_ ?_ <;> omega) | (exact shp_sr _ _ (by assumption)) | (exact shp_sr _ _ (shp_sr _ _ (by assumption))) | (exact shp_sr _ _ (shp_sr _ _ (shp_sr _ _ (by assumption)))) | (left; assumption) | (exact b2i_or _) | (simp; done)) only [e68_8, e68_9, e68_12, e68_13, e68_14, e68_17, e68_18, e68_21, e68_22, e68_24, e68_27, e68_29, e68_31, e68_32, e68_35, e68_36, e68_39, e68_41, e68_44, e68_45, e68_46, e68_47, e68_48, e68_51, e68_52, e68_53, e68_56, e68_57, e68_60, e68_63, e68_64, e68_67, e68_68, e68_70, e68_72, e68_75, e68_76, e68_78, e68_81, e68_83, e68_84, e68_87, e68_89, e68_90, e68_93, eq_self, ne_a, ne_b, ne_c, Nat.reduceEqDiff, lt0, bnd_ok, psh_I, psh_L, psh_R, psh_U, gt_sr, gr_sr, sk_sr, nn_sr, ↓reduceIte, Int.toNat_natCast, Int.reduceToNat, h4, he, g1_0, g1_6, eb, hn1, at1, at2, esp, w6, w7, k1, w5]
            exact ih _ _
    simp (disch := first | assumption | omega | (exact shp_fok (by first | assumption | exact shp_sr _ _ (by assumption) | exact shp_sr _ _ (shp_sr _ _ (by assumption)) | exact shp_sr _ _ (shp_sr _ _ (shp_sr _ _ (by assumption)))) (by decide)) | (simp only [fok_sr, aok_sr]; first | assumption | (exact shp_fok (by first | assumption | exact shp_sr _ _ (by assumption) | exact shp_sr _ _ (shp_sr _ _ (by assumption)) | exact shp_sr _ _ (shp_sr _ _ (shp_sr _ _ (by assumption)))) (by decide))) | (refine shp_aok (by first | assumption | exact shp_sr _ _ (by assumption) | exact shp_sr _ _ (shp_sr _ _ (by assumption)) | exact shp_sr _ _ (shp_sr _ _ (shp_sr _ _ (by assumption)))) rfl rfl ?_ ?_ <;> omega) | (exact shp_sr _ _ (by assumption)) | (exact shp_sr _ _ (shp_sr _ _ (by assumption))) | (exact shp_sr _ _ (shp_sr _ _ (shp_sr _ _ (by assumption)))) | (left; assumption) | (exact b2i_or _) | (simp; done)) only [e68_0, e68_2, e68_3, e68_4, eq_self, ne_a, ne_b, ne_c, Nat.reduceEqDiff, lt0, bnd_ok, psh_I, psh_L, psh_R, psh_U, gt_sr, gr_sr, sk_sr, nn_sr, ↓reduceIte, Int.toNat_natCast, Int.reduceToNat]
    exact L _ _
set_option maxRecDepth 100000 in
set_option maxHeartbeats 4000000 in
theorem c_Fwalk (fr to w : Int) (d : Dat) (cn : Nat) (sg : Nat → Int) : cla 63 [vR 1, vI fr, vI to, vI w, vU] d cn sg (vI (x_walk d fr to w)) d cn sg := by
  intro σ h
  obtain ⟨⟨a1, a2, a3, a4⟩, a5, a6, a7⟩ := id h
  have h24 := dn24 a6
  have e1 := c_hasR a5 fr
  have e2 := c_hasR a5 to
  unfold x_walk
  by_cases h1 : 0 ≤ fr ∧ fr < (dn_ d : Nat)
  · rw [if_pos h1] at e1
    by_cases h2 : 0 ≤ to ∧ to < (dn_ d : Nat)
    · rw [if_pos h2] at e2
      rw [if_pos ⟨h1, h2⟩]
      by_cases h3 : 0 ≤ w ∧ w ≤ 2
      · rw [if_pos h3]
        obtain ⟨fr, rfl⟩ := nat_of h1.1
        obtain ⟨to, rfl⟩ := nat_of h2.1
        rw [Int.toNat_natCast, Int.toNat_natCast]
        have hfr : fr < dn_ d := by omega
        have hto : to < dn_ d := by omega
        have hF := slW_sol a6 to
        generalize slW d to = F at *
        obtain ⟨G, e3, g1⟩ := c_weighWays a1 a5 a6 hto hF
        have cB : chg [23] σ (sr σ 23 G) := chg_sr (chg_rf _ _) (by simp)
        have s1 := shp_chg cB a1
        have at1 := c_atN (shp_ia (k := 23) (n := 24) s1 (by decide)) (j := fr) (by omega)
        rw [gt_e, g1 fr hfr] at at1
        have b1 := hF.1.2.1 fr hfr
        have b2 := wS_bd d fr
        refine ⟨sr σ 23 G, ?_, SC_mo cB rfl, CS_sc h cB (sub_SC _ rfl) (by rw [gt_n _ _ (by decide)]; exact a2) (jb_chg cB (by intro i hi _; simp; omega) a7)⟩
        have c100 : ¬ (100 : Int) = 0 := by decide
        have hdv : (F fr + wS d fr).tdiv 100 = (F fr + wS d fr) / 100 := Int.tdiv_eq_ediv_of_nonneg (by omega)
        have hmd : (F fr + wS d fr).tmod 100 = F fr % 100 := by
          rw [Int.tmod_eq_emod_of_nonneg (by omega)]
          unfold wS
          split <;> omega
        have w6 : wr ((F fr + wS d fr) / 100) = (F fr + wS d fr) / 100 := wr_id (by omega) (by omega)
        have w7 : wr (F fr % 100) = F fr % 100 := wr_id (by omega) (by omega)
        by_cases w0 : w = 0
        · rw [if_pos w0]
          simp (disch := first | assumption | omega | (exact shp_fok (by first | assumption | exact shp_sr _ _ (by assumption) | exact shp_sr _ _ (shp_sr _ _ (by assumption)) | exact shp_sr _ _ (shp_sr _ _ (shp_sr _ _ (by assumption)))) (by decide)) | (simp only [fok_sr, aok_sr]; first | assumption | (exact shp_fok (by first | assumption | exact shp_sr _ _ (by assumption) | exact shp_sr _ _ (shp_sr _ _ (by assumption)) | exact shp_sr _ _ (shp_sr _ _ (shp_sr _ _ (by assumption)))) (by decide))) | (refine shp_aok (by first | assumption | exact shp_sr _ _ (by assumption) | exact shp_sr _ _ (shp_sr _ _ (by assumption)) | exact shp_sr _ _ (shp_sr _ _ (shp_sr _ _ (by assumption)))) rfl rfl ?_ ?_ <;> omega) | (exact shp_sr _ _ (by assumption)) | (exact shp_sr _ _ (shp_sr _ _ (by assumption))) | (exact shp_sr _ _ (shp_sr _ _ (shp_sr _ _ (by assumption)))) | (left; assumption) | (exact b2i_or _) | (simp; done)) only [e63_0, e63_1, e63_4, e63_5, e63_8, e63_11, e63_12, e63_15, e63_16, e63_19, e63_22, e63_23, e63_24, e63_25, e63_26, e63_27, e63_30, e63_33, e63_35, e63_36, e63_37, e63_38, e63_41, e63_42, e63_45, e63_46, e63_49, e63_51, e63_52, e63_55, e63_57, e63_59, e63_60, e63_61, e63_62, e63_63, e63_66, e63_68, e63_70, e63_71, e63_74, e63_75, e63_76, e63_77, e63_80, eq_self, ne_a, ne_b, ne_c, Nat.reduceEqDiff, lt0, bnd_ok, psh_I, psh_L, psh_R, psh_U, gt_sr, gr_sr, sk_sr, nn_sr, ↓reduceIte, Int.toNat_natCast, Int.reduceToNat, g1_0, g1_6, e1, e2, c_isWithin, if_pos h3, e3, at1, c100, hdv, w6, w0, Int.reduceEq, Int.reduceLE, and_self]
        · rw [if_neg w0]
          by_cases w1 : w = 1
          · rw [if_pos w1]
            simp (disch := first | assumption | omega | (exact shp_fok (by first | assumption | exact shp_sr _ _ (by assumption) | exact shp_sr _ _ (shp_sr _ _ (by assumption)) | exact shp_sr _ _ (shp_sr _ _ (shp_sr _ _ (by assumption)))) (by decide)) | (simp only [fok_sr, aok_sr]; first | assumption | (exact shp_fok (by first | assumption | exact shp_sr _ _ (by assumption) | exact shp_sr _ _ (shp_sr _ _ (by assumption)) | exact shp_sr _ _ (shp_sr _ _ (shp_sr _ _ (by assumption)))) (by decide))) | (refine shp_aok (by first | assumption | exact shp_sr _ _ (by assumption) | exact shp_sr _ _ (shp_sr _ _ (by assumption)) | exact shp_sr _ _ (shp_sr _ _ (shp_sr _ _ (by assumption)))) rfl rfl ?_ ?_ <;> omega) | (exact shp_sr _ _ (by assumption)) | (exact shp_sr _ _ (shp_sr _ _ (by assumption))) | (exact shp_sr _ _ (shp_sr _ _ (shp_sr _ _ (by assumption)))) | (left; assumption) | (exact b2i_or _) | (simp; done)) only [e63_0, e63_1, e63_4, e63_5, e63_8, e63_11, e63_12, e63_15, e63_16, e63_19, e63_22, e63_23, e63_24, e63_25, e63_26, e63_27, e63_30, e63_33, e63_35, e63_36, e63_37, e63_38, e63_41, e63_42, e63_45, e63_46, e63_49, e63_51, e63_52, e63_55, e63_57, e63_59, e63_60, e63_61, e63_62, e63_63, e63_66, e63_68, e63_70, e63_71, e63_74, e63_75, e63_76, e63_77, e63_80, eq_self, ne_a, ne_b, ne_c, Nat.reduceEqDiff, lt0, bnd_ok, psh_I, psh_L, psh_R, psh_U, gt_sr, gr_sr, sk_sr, nn_sr, ↓reduceIte, Int.toNat_natCast, Int.reduceToNat, g1_0, g1_6, e1, e2, c_isWithin, if_pos h3, e3, at1, c100, hmd, w7, w1, Int.reduceEq, Int.reduceLE, and_self]
          · rw [if_neg w1]
            have e4 := c_firstStep (to := to) s1 (rep_chg cB (b := 2) (by intro i hi _; simp; omega) a5) a6 hfr (F := F) (by rw [gt_e]; exact g1) hF.1.2.1
            simp (disch := first | assumption | omega | (exact shp_fok (by first | assumption | exact shp_sr _ _ (by assumption) | exact shp_sr _ _ (shp_sr _ _ (by assumption)) | exact shp_sr _ _ (shp_sr _ _ (shp_sr _ _ (by assumption)))) (by decide)) | (simp only [fok_sr, aok_sr]; first | assumption | (exact shp_fok (by first | assumption | exact shp_sr _ _ (by assumption) | exact shp_sr _ _ (shp_sr _ _ (by assumption)) | exact shp_sr _ _ (shp_sr _ _ (shp_sr _ _ (by assumption)))) (by decide))) | (refine shp_aok (by first | assumption | exact shp_sr _ _ (by assumption) | exact shp_sr _ _ (shp_sr _ _ (by assumption)) | exact shp_sr _ _ (shp_sr _ _ (shp_sr _ _ (by assumption)))) rfl rfl ?_ ?_ <;> omega) | (exact shp_sr _ _ (by assumption)) | (exact shp_sr _ _ (shp_sr _ _ (by assumption))) | (exact shp_sr _ _ (shp_sr _ _ (shp_sr _ _ (by assumption)))) | (left; assumption) | (exact b2i_or _) | (simp; done)) only [e63_0, e63_1, e63_4, e63_5, e63_8, e63_11, e63_12, e63_15, e63_16, e63_19, e63_22, e63_23, e63_24, e63_25, e63_26, e63_27, e63_30, e63_33, e63_35, e63_36, e63_37, e63_38, e63_41, e63_42, e63_45, e63_46, e63_49, e63_51, e63_52, e63_55, e63_57, e63_59, e63_60, e63_61, e63_62, e63_63, e63_66, e63_68, e63_70, e63_71, e63_74, e63_75, e63_76, e63_77, e63_80, eq_self, ne_a, ne_b, ne_c, Nat.reduceEqDiff, lt0, bnd_ok, psh_I, psh_L, psh_R, psh_U, gt_sr, gr_sr, sk_sr, nn_sr, ↓reduceIte, Int.toNat_natCast, Int.reduceToNat, g1_0, g1_6, e1, e2, c_isWithin, if_pos h3, e3, at1, w0, w1, e4, Int.reduceEq]
            by_cases hft : fr = to
            · rw [if_pos hft, if_pos (by omega)]
            · rw [if_neg hft, if_neg (by omega)]
      · rw [if_neg h3]
        refine ⟨σ, ?_, CS_rf h⟩
        simp (disch := first | assumption | omega | (exact shp_fok (by first | assumption | exact shp_sr _ _ (by assumption) | exact shp_sr _ _ (shp_sr _ _ (by assumption)) | exact shp_sr _ _ (shp_sr _ _ (shp_sr _ _ (by assumption)))) (by decide)) | (simp only [fok_sr, aok_sr]; first | assumption | (exact shp_fok (by first | assumption | exact shp_sr _ _ (by assumption) | exact shp_sr _ _ (shp_sr _ _ (by assumption)) | exact shp_sr _ _ (shp_sr _ _ (shp_sr _ _ (by assumption)))) (by decide))) | (refine shp_aok (by first | assumption | exact shp_sr _ _ (by assumption) | exact shp_sr _ _ (shp_sr _ _ (by assumption)) | exact shp_sr _ _ (shp_sr _ _ (shp_sr _ _ (by assumption)))) rfl rfl ?_ ?_ <;> omega) | (exact shp_sr _ _ (by assumption)) | (exact shp_sr _ _ (shp_sr _ _ (by assumption))) | (exact shp_sr _ _ (shp_sr _ _ (shp_sr _ _ (by assumption)))) | (left; assumption) | (exact b2i_or _) | (simp; done)) only [e63_0, e63_1, e63_4, e63_5, e63_8, e63_11, e63_12, e63_15, e63_16, e63_19, e63_22, e63_23, e63_24, e63_25, e63_26, e63_27, e63_30, e63_33, e63_35, e63_36, e63_37, e63_38, e63_41, e63_42, e63_45, e63_46, e63_49, e63_51, e63_52, e63_55, e63_57, e63_59, e63_60, e63_61, e63_62, e63_63, e63_66, e63_68, e63_70, e63_71, e63_74, e63_75, e63_76, e63_77, e63_80, eq_self, ne_a, ne_b, ne_c, Nat.reduceEqDiff, lt0, bnd_ok, psh_I, psh_L, psh_R, psh_U, gt_sr, gr_sr, sk_sr, nn_sr, ↓reduceIte, Int.toNat_natCast, Int.reduceToNat, g1_0, e1, e2, c_isWithin, if_neg h3, Int.reduceEq]
    · rw [if_neg h2] at e2
      rw [if_neg (fun h => h2 h.2)]
      refine ⟨σ, ?_, CS_rf h⟩
      simp (disch := first | assumption | omega | (exact shp_fok (by first | assumption | exact shp_sr _ _ (by assumption) | exact shp_sr _ _ (shp_sr _ _ (by assumption)) | exact shp_sr _ _ (shp_sr _ _ (shp_sr _ _ (by assumption)))) (by decide)) | (simp only [fok_sr, aok_sr]; first | assumption | (exact shp_fok (by first | assumption | exact shp_sr _ _ (by assumption) | exact shp_sr _ _ (shp_sr _ _ (by assumption)) | exact shp_sr _ _ (shp_sr _ _ (shp_sr _ _ (by assumption)))) (by decide))) | (refine shp_aok (by first | assumption | exact shp_sr _ _ (by assumption) | exact shp_sr _ _ (shp_sr _ _ (by assumption)) | exact shp_sr _ _ (shp_sr _ _ (shp_sr _ _ (by assumption)))) rfl rfl ?_ ?_ <;> omega) | (exact shp_sr _ _ (by assumption)) | (exact shp_sr _ _ (shp_sr _ _ (by assumption))) | (exact shp_sr _ _ (shp_sr _ _ (shp_sr _ _ (by assumption)))) | (left; assumption) | (exact b2i_or _) | (simp; done)) only [e63_0, e63_1, e63_4, e63_5, e63_8, e63_11, e63_12, e63_15, e63_16, e63_19, e63_22, e63_23, e63_24, e63_25, e63_26, e63_27, e63_30, e63_33, e63_35, e63_36, e63_37, e63_38, e63_41, e63_42, e63_45, e63_46, e63_49, e63_51, e63_52, e63_55, e63_57, e63_59, e63_60, e63_61, e63_62, e63_63, e63_66, e63_68, e63_70, e63_71, e63_74, e63_75, e63_76, e63_77, e63_80, eq_self, ne_a, ne_b, ne_c, Nat.reduceEqDiff, lt0, bnd_ok, psh_I, psh_L, psh_R, psh_U, gt_sr, gr_sr, sk_sr, nn_sr, ↓reduceIte, Int.toNat_natCast, Int.reduceToNat, g1_0, e1, e2, Int.reduceEq]
  · rw [if_neg h1] at e1
    rw [if_neg (fun h => h1 h.1)]
    refine ⟨σ, ?_, CS_rf h⟩
    simp (disch := first | assumption | omega | (exact shp_fok (by first | assumption | exact shp_sr _ _ (by assumption) | exact shp_sr _ _ (shp_sr _ _ (by assumption)) | exact shp_sr _ _ (shp_sr _ _ (shp_sr _ _ (by assumption)))) (by decide)) | (simp only [fok_sr, aok_sr]; first | assumption | (exact shp_fok (by first | assumption | exact shp_sr _ _ (by assumption) | exact shp_sr _ _ (shp_sr _ _ (by assumption)) | exact shp_sr _ _ (shp_sr _ _ (shp_sr _ _ (by assumption)))) (by decide))) | (refine shp_aok (by first | assumption | exact shp_sr _ _ (by assumption) | exact shp_sr _ _ (shp_sr _ _ (by assumption)) | exact shp_sr _ _ (shp_sr _ _ (shp_sr _ _ (by assumption)))) rfl rfl ?_ ?_ <;> omega) | (exact shp_sr _ _ (by assumption)) | (exact shp_sr _ _ (shp_sr _ _ (by assumption))) | (exact shp_sr _ _ (shp_sr _ _ (shp_sr _ _ (by assumption)))) | (left; assumption) | (exact b2i_or _) | (simp; done)) only [e63_0, e63_1, e63_4, e63_5, e63_8, e63_11, e63_12, e63_15, e63_16, e63_19, e63_22, e63_23, e63_24, e63_25, e63_26, e63_27, e63_30, e63_33, e63_35, e63_36, e63_37, e63_38, e63_41, e63_42, e63_45, e63_46, e63_49, e63_51, e63_52, e63_55, e63_57, e63_59, e63_60, e63_61, e63_62, e63_63, e63_66, e63_68, e63_70, e63_71, e63_74, e63_75, e63_76, e63_77, e63_80, eq_self, ne_a, ne_b, ne_c, Nat.reduceEqDiff, lt0, bnd_ok, psh_I, psh_L, psh_R, psh_U, gt_sr, gr_sr, sk_sr, nn_sr, ↓reduceIte, Int.toNat_natCast, Int.reduceToNat, g1_0, e1]
