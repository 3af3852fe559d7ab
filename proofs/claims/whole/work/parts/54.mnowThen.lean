/-! the fewest cuts now, of the model -/
def E11 : Nat → Nat := fun _ => 11
def dgM (p : Nat → Bool) (x c : Nat) : Nat := dgH E11 p x c
def cuM (p : Nat → Bool) (x N : Nat) : Nat := bsN (fun c => p c && decide (dgM p x c < 10)) N
def caM (d : Dat) (p : Nat → Bool) (x N : Nat) : Bool := alN (fun c => !p c || decide (dgM p x c = 10 ∨ (dgM p x c : Int) < dt d c)) N
def tcM (d : Dat) (p : Nat → Bool) (x N : Nat) : Nat → Int := fun i => if (decide (i < N) && (p i && decide (dgM p x i < 10))) = true then (dgM p x i : Int) else dt d i
theorem tcM_0 (d : Dat) (p : Nat → Bool) (x : Nat) : tcM d p x 0 = dt d := by
  funext i
  unfold tcM
  rw [decide_eq_false (Nat.not_lt_zero _), Bool.false_and, if_neg Bool.false_ne_true]
theorem tcM_s (d : Dat) (p : Nat → Bool) (x N : Nat) : tcM d p x (N + 1) = ru (tcM d p x N) N (if (p N && decide (dgM p x N < 10)) = true then (dgM p x N : Int) else dt d N) := by
  funext i
  unfold tcM ru
  by_cases e : i = N
  · rw [if_pos e, e, decide_eq_true (Nat.lt_succ_self N), Bool.true_and]
  · rw [if_neg e]
    show _ = if (decide (i < N) && (p i && decide (dgM p x i < 10))) = true then (dgM p x i : Int) else dt d i
    by_cases h : i < N
    · rw [decide_eq_true h, decide_eq_true (show i < N + 1 by omega)]
    · rw [decide_eq_false h, decide_eq_false (show ¬ i < N + 1 by omega)]
theorem tcM_at (d : Dat) (p : Nat → Bool) (x N : Nat) : tcM d p x N N = dt d N := by
  unfold tcM
  rw [decide_eq_false (Nat.lt_irrefl N), Bool.false_and, if_neg Bool.false_ne_true]
theorem tcM_th (d : Dat) (p : Nat → Bool) (x : Nat) : tcM d p x 24 = thO d (cuM p x 24) (dgM p x) := by
  funext i
  unfold tcM thO cuM
  rw [bsN_tb]
theorem cuM_lt (p : Nat → Bool) (x N : Nat) : cuM p x N < 2 ^ N := bsN_lt _ _
theorem E11_pr : ∀ i, prH E11 i = 11 ^ i
  | 0 => rfl
  | i + 1 => by
    show prH E11 i * 11 = _
    rw [E11_pr i, Nat.pow_succ]
theorem dgM_le (p : Nat → Bool) (x c : Nat) : dgM p x c ≤ 10 := by
  have : dgM p x c < 11 := Nat.mod_lt _ (show 0 < 11 by decide)
  omega
/-- whether a code of the model does -/
def gdM (d : Dat) (sg : Nat → Int) (cn s : Nat) (p : Nat → Bool) (x : Nat) : Prop := caM d p x 24 = true ∧ x / prH E11 (ctN p 24) = 0 ∧ hsW d sg cn s (cuM p x 24) (dgM p x) = true
theorem ca_v {d : Dat} {p : Nat → Bool} {x : Nat} (h : caM d p x 24 = true) : ∀ c, (cuM p x 24).testBit c = true → (dgM p x c : Int) < dt d c := by
  intro c hc
  unfold cuM at hc
  rw [bsN_tb, Bool.and_eq_true, Bool.and_eq_true] at hc
  obtain ⟨h1, h2, h3⟩ := hc
  have h3 := of_decide_eq_true h3
  have := alN_at h c (of_decide_eq_true h1)
  rw [h2, Bool.not_true, Bool.false_or] at this
  have := of_decide_eq_true this
  omega
/-- the codes that do give the sets that do -/
theorem gsM {d : Dat} (ho : okd d) {sg : Nat → Int} {cn s : Nat} (h3 : ctN (selW d s) 24 ≤ 3) (B : Nat) : GS (selW d s) (goodW d sg cn s) B ↔ ∃ x, x < 1331 ∧ gdM d sg cn s (selW d s) x ∧ cuM (selW d s) x 24 = B := by
  have h24 := dn24 ho
  have hsel := fun c (h : selW d s c = true) => selW_lt h
  generalize hp : selW d s = p at *
  have hp24 : ∀ c, p c = true → c < 24 := fun c h => by have := hsel c h; omega
  constructor
  · rintro ⟨x, hx, rfl, v, hv, hst⟩
    -- the digits
    obtain ⟨cell, hcell⟩ : ∃ cell : Nat → Nat, ∀ i, i < ctN p 24 → cell i < 24 ∧ p (cell i) = true ∧ ctN p (cell i) = i := by
      refine ⟨fun i => @dite _ (∃ j, j < 24 ∧ p j = true ∧ ctN p j = i) (Classical.propDecidable _) (fun h => Classical.choose h) (fun _ => 0), fun i hi => ?_⟩
      have hex := ct_ex (p := p) 24 i hi
      dsimp only
      rw [dif_pos hex]
      exact Classical.choose_spec hex
    obtain ⟨u, hu⟩ : ∃ u : Nat → Nat, u = fun i => if x.testBit i = true then v (cell i) else 10 := ⟨_, rfl⟩
    have hu1 : ∀ c, p c = true → u (ctN p c) = if x.testBit (ctN p c) = true then v c else 10 := by
      intro c hc
      have hc24 := hp24 c hc
      obtain ⟨k1, k2, k3⟩ := hcell (ctN p c) (ct_lt hc24 hc)
      rw [hu]
      show (if x.testBit (ctN p c) = true then v (cell (ctN p c)) else 10) = _
      rw [ct_inj k2 hc k3]
    have hv9 : ∀ c, p c = true → x.testBit (ctN p c) = true → (v c : Int) < dt d c ∧ v c < 9 := by
      intro c hc hb
      have hc24 := hp24 c hc
      have h1 := hv c (by rw [exB_tb, decide_eq_true hc24, hc, hb]; rfl)
      have := ok_t ho c hc24
      exact ⟨h1, by omega⟩
    have hult : ∀ i, i < ctN p 24 → u i < E11 i := by
      intro i hi
      obtain ⟨k1, k2, k3⟩ := hcell i hi
      have := hu1 (cell i) k2
      rw [k3] at this
      rw [this]
      show _ < 11
      split
      · next hb =>
        have := hv9 (cell i) k2 (by rw [k3]; exact hb)
        omega
      · decide
    have hcode := enH_lt (ctN p 24) hult
    have hpw : prH E11 (ctN p 24) ≤ 1331 := by
      rw [E11_pr]
      exact Nat.le_trans (Nat.pow_le_pow_right (by omega) h3) (by decide)
    have hdg : ∀ c, p c = true → dgM p (enH E11 u (ctN p 24)) c = if x.testBit (ctN p c) = true then v c else 10 := by
      intro c hc
      unfold dgM dgH
      rw [enH_dig (ct_lt (hp24 c hc) hc) hult, hu1 c hc]
    have hcu : cuM p (enH E11 u (ctN p 24)) 24 = exB p x 24 := by
      refine Nat.eq_of_testBit_eq fun c => ?_
      unfold cuM
      rw [bsN_tb, exB_tb]
      cases hc : p c with
      | false => rw [Bool.false_and, Bool.false_and]
      | true =>
        rw [hdg c hc]
        cases hb : x.testBit (ctN p c) with
        | true =>
          have := hv9 c hc hb
          rw [if_pos rfl, decide_eq_true (show v c < 10 by omega)]
        | false => rw [if_neg Bool.false_ne_true]; rfl
    refine ⟨enH E11 u (ctN p 24), by omega, ⟨?_, Nat.div_eq_of_lt hcode, ?_⟩, hcu⟩
    · unfold caM
      rw [alN_iff]
      intro c _
      cases hc : p c with
      | false => rfl
      | true =>
        rw [Bool.not_true, Bool.false_or, hdg c hc]
        refine decide_eq_true ?_
        cases hb : x.testBit (ctN p c) with
        | true => rw [if_pos rfl]; exact Or.inr (hv9 c hc hb).1
        | false => rw [if_neg Bool.false_ne_true]; exact Or.inl rfl
    · rw [hcu]
      have hcg : thO d (exB p x 24) (dgM p (enH E11 u (ctN p 24))) = thO d (exB p x 24) v := by
        refine thO_cg fun c hc => ?_
        rw [exB_tb, Bool.and_eq_true, Bool.and_eq_true] at hc
        rw [hdg c hc.2.1, hc.2.2, if_pos rfl]
      unfold hsW at hst ⊢
      rw [hcg]
      exact hst
  · rintro ⟨x, hx, ⟨g1, g2, g3⟩, rfl⟩
    refine ⟨bsN (fun i => decide (x / prH E11 i % 11 < 10)) (ctN p 24), bsN_lt _ _, ?_, dgM p x, ca_v g1, g3⟩
    refine Nat.eq_of_testBit_eq fun c => ?_
    unfold cuM
    rw [bsN_tb, exB_tb]
    cases hc : p c with
    | false => rw [Bool.false_and, Bool.false_and]
    | true =>
      rw [bsN_tb, decide_eq_true (ct_lt (hp24 c hc) hc)]
      rfl
def isWM (d : Dat) (sg : Nat → Int) (cn s : Nat) (p : Nat → Bool) (K : Nat) (F : Int) : Prop := (F = -6 ∧ ∀ x, x < K → ¬ gdM d sg cn s p x) ∨ ∃ x, x < K ∧ gdM d sg cn s p x ∧ F = (cuM p x 24 : Nat) ∧ ∀ x', x' < K → gdM d sg cn s p x' → lexL (cuM p x 24) (cuM p x' 24)
set_option maxRecDepth 100000 in
set_option maxHeartbeats 8000000 in
set_option maxRecDepth 100000 in
set_option maxHeartbeats 4000000 in
theorem m_MnowThen (s w : Int) (d : Dat) (cn : Nat) (sg : Nat → Int) : mla 122 [vR 24, vI s, vI w, vU, vU, vU, vU, vU, vU, vU, vU] d cn sg (vI (x_nowThen d cn sg s w)) d cn sg := by
  intro σ h
  have q1 := m_isShape h.1 h.2.2.2.2.2.2.2.2.1 s
  have e0 := m_areHours h
  have hs := h.1.1
  have ho := h.2.2.2.2.2.2.2.2.1
  unfold x_nowThen
  cases hS : isS d s with
  | false =>
    rw [hS] at q1
    refine ⟨σ, ?_, mdl_rf h⟩
    simp (disch := first | assumption | omega | (exact shp_fok (by first | assumption | exact shp_sr _ _ (by assumption) | exact shp_sr _ _ (shp_sr _ _ (by assumption)) | exact shp_sr _ _ (shp_sr _ _ (shp_sr _ _ (by assumption)))) (by decide)) | (simp only [fok_sr, aok_sr]; first | assumption | (exact shp_fok (by first | assumption | exact shp_sr _ _ (by assumption) | exact shp_sr _ _ (shp_sr _ _ (by assumption)) | exact shp_sr _ _ (shp_sr _ _ (shp_sr _ _ (by assumption)))) (by decide))) | (refine shp_aok (by first | assumption | exact shp_sr _ _ (by assumption) | exact shp_sr _ _ (shp_sr _ _ (by assumption)) | exact shp_sr _ _ (shp_sr _ _ (shp_sr _ _ (by assumption)))) rfl rfl ?_ ?_ <;> omega) | (exact shp_sr _ _ (by assumption)) | (exact shp_sr _ _ (shp_sr _ _ (by assumption))) | (exact shp_sr _ _ (shp_sr _ _ (shp_sr _ _ (by assumption)))) | (left; assumption) | (exact b2i_or _) | (simp; done)) only [e122_0, e122_1, e122_2, e122_5, e122_8, e122_9, eq_self, ne_a, ne_b, ne_c, Nat.reduceEqDiff, lt0, bnd_ok, psh_I, psh_L, psh_R, psh_U, gt_sr, gr_sr, sk_sr, nn_sr, ↓reduceIte, Int.toNat_natCast, Int.reduceToNat, q1, b2i_f, Bool.false_eq_true]
  | true =>
    rw [hS] at q1
    obtain ⟨s, rfl, hs4, -⟩ := isS_n hS
    rw [Int.toNat_natCast, if_pos rfl]
    by_cases h1 : 0 ≤ w ∧ w ≤ 1
    · rw [if_pos h1]
      cases ha : alh cn sg with
      | false =>
        rw [ha] at e0
        refine ⟨σ, ?_, mdl_rf h⟩
        simp (disch := first | assumption | omega | (exact shp_fok (by first | assumption | exact shp_sr _ _ (by assumption) | exact shp_sr _ _ (shp_sr _ _ (by assumption)) | exact shp_sr _ _ (shp_sr _ _ (shp_sr _ _ (by assumption)))) (by decide)) | (simp only [fok_sr, aok_sr]; first | assumption | (exact shp_fok (by first | assumption | exact shp_sr _ _ (by assumption) | exact shp_sr _ _ (shp_sr _ _ (by assumption)) | exact shp_sr _ _ (shp_sr _ _ (shp_sr _ _ (by assumption)))) (by decide))) | (refine shp_aok (by first | assumption | exact shp_sr _ _ (by assumption) | exact shp_sr _ _ (shp_sr _ _ (by assumption)) | exact shp_sr _ _ (shp_sr _ _ (shp_sr _ _ (by assumption)))) rfl rfl ?_ ?_ <;> omega) | (exact shp_sr _ _ (by assumption)) | (exact shp_sr _ _ (shp_sr _ _ (by assumption))) | (exact shp_sr _ _ (shp_sr _ _ (shp_sr _ _ (by assumption)))) | (left; assumption) | (exact b2i_or _) | (simp; done)) only [e122_0, e122_1, e122_2, e122_5, e122_8, e122_9, e122_10, e122_11, e122_12, e122_13, e122_16, e122_19, e122_21, e122_22, e122_23, e122_26, e122_29, e122_31, eq_self, ne_a, ne_b, ne_c, Nat.reduceEqDiff, lt0, bnd_ok, psh_I, psh_L, psh_R, psh_U, gt_sr, gr_sr, sk_sr, nn_sr, ↓reduceIte, Int.toNat_natCast, Int.reduceToNat, q1, b2i_t, b2i_f, m_in, if_pos h1, e0, Int.reduceEq, Bool.false_eq_true]
      | true =>
        rw [ha] at e0
        rw [if_pos rfl]
        have h24 := dn24 ho
        have l1 := m_wanted h.1 hs4
        have l2 := m_bits (wn_lt d s) σ
        rw [pc_wn ho hs4, wi_ct ho hs4] at l2
        by_cases h8 : ctN (selW d s) 24 ≤ 3
        · rw [if_pos h8]
          have hgs := gsM ho (sg := sg) (cn := cn) h8
          have hwl := wn_lt d s
          have hwt : ∀ c, c < 24 → (wnB d s).testBit c = selW d s c := fun c hc => by rw [wn_sel ho hs4, bsN_tb, decide_eq_true hc, Bool.true_and]
          have hsel := fun c (h : selW d s c = true) => selW_lt h
          generalize wnB d s = W at *
          generalize hp : selW d s = p at *
          have hcu := fun x N => cuM_lt p x N
          -- a code's digits
          have inner : ∀ (τ : St) (F : Int) (x : Nat) (q10 : AV), x < 1331 → shp τ → gt τ 29 = dt d → ∃ q10', run 122 81 [vR 24, vI (s : Int), vI w, vI (W : Int), vI F, vI (x : Int), vI (x / prH E11 (ctN p 0) : Nat), vI (cuM p x 0 : Nat), vI (b2i (caM d p x 0)), vI 0, q10] [] (sr τ 29 (tcM d p x 0)) = run 122 194 [vR 24, vI (s : Int), vI w, vI (W : Int), vI F, vI (x : Int), vI (x / prH E11 (ctN p 24) : Nat), vI (cuM p x 24 : Nat), vI (b2i (caM d p x 24)), vI 24, q10'] [] (sr τ 29 (tcM d p x 24)) := by
            intro τ F x q10 hx ht h29
            refine bk (P := fun c z => ∀ q10, ∃ q10', run 122 81 [vR 24, vI (s : Int), vI w, vI (W : Int), vI F, vI (x : Int), vI (x / prH E11 (ctN p c) : Nat), vI (cuM p x c : Nat), vI (b2i (caM d p x c)), vI z, q10] [] (sr τ 29 (tcM d p x c)) = run 122 194 [vR 24, vI (s : Int), vI w, vI (W : Int), vI F, vI (x : Int), vI (x / prH E11 (ctN p 24) : Nat), vI (cuM p x 24 : Nat), vI (b2i (caM d p x 24)), vI 24, q10'] [] (sr τ 29 (tcM d p x 24))) (n := 24) ?_ ?_ q10
            · intro q10
              refine ⟨q10, ?_⟩
              rw [e122_81]
              simp (disch := first | assumption | omega | (exact shp_fok (by first | assumption | exact shp_sr _ _ (by assumption) | exact shp_sr _ _ (shp_sr _ _ (by assumption)) | exact shp_sr _ _ (shp_sr _ _ (shp_sr _ _ (by assumption)))) (by decide)) | (simp only [fok_sr, aok_sr]; first | assumption | (exact shp_fok (by first | assumption | exact shp_sr _ _ (by assumption) | exact shp_sr _ _ (shp_sr _ _ (by assumption)) | exact shp_sr _ _ (shp_sr _ _ (shp_sr _ _ (by assumption)))) (by decide))) | (refine shp_aok (by first | assumption | exact shp_sr _ _ (by assumption) | exact shp_sr _ _ (shp_sr _ _ (by assumption)) | exact shp_sr _ _ (shp_sr _ _ (shp_sr _ _ (by assumption)))) rfl rfl ?_ ?_ <;> omega) | (exact shp_sr _ _ (by assumption)) | (exact shp_sr _ _ (shp_sr _ _ (by assumption))) | (exact shp_sr _ _ (shp_sr _ _ (shp_sr _ _ (by assumption)))) | (left; assumption) | (exact b2i_or _) | (simp; done)) only [e122_83, e122_85, eq_self, ne_a, ne_b, ne_c, Nat.reduceEqDiff, lt0, bnd_ok, psh_I, psh_L, psh_R, psh_U, gt_sr, gr_sr, sk_sr, nn_sr, ↓reduceIte, Int.toNat_natCast, Int.reduceToNat, Int.cast_ofNat_Int, Int.reduceLT]
            · intro c hc hc' ih q10
              have h4 : (c : Int) < 24 := hc'
              have w5 : wr ((c : Int) + 1) = (c : Int) + 1 := wr_id (by omega) (by omega)
              have hh := m_has (x := W) (k := c) hwl (by omega) (sr τ 29 (tcM d p x c))
              rw [hwt c hc] at hh
              have hcs : ctN p (c + 1) = ctN p c + (if p c = true then 1 else 0) := rfl
              have hus : cuM p x (c + 1) = cuM p x c ||| (if (p c && decide (dgM p x c < 10)) = true then 2 ^ c else 0) := rfl
              have has : caM d p x (c + 1) = (caM d p x c && (!p c || decide (dgM p x c = 10 ∨ (dgM p x c : Int) < dt d c))) := rfl
              have hts := tcM_s d p x c
              have hta := tcM_at d p x c
              have hlt := hcu x c
              have hp2 : 2 ^ c ≤ 2 ^ 23 := Nat.pow_le_pow_right (by omega) (by omega)
              have htc := ok_t ho c hc
              cases hb : p c with
              | false =>
                rw [hb] at hh hus has hts
                rw [hb, if_neg Bool.false_ne_true] at hcs
                have hcs' : ctN p (c + 1) = ctN p c := by omega
                rw [Bool.false_and, if_neg Bool.false_ne_true, Nat.or_zero] at hus
                rw [Bool.not_false, Bool.true_or, Bool.and_true] at has
                rw [Bool.false_and, if_neg Bool.false_ne_true, ru_self hta.symm] at hts
                obtain ⟨q10', ih⟩ := ih q10
                rw [hcs', hus, has, hts] at ih
                refine ⟨q10', ?_⟩
                rw [← ih, e122_81]
                simp (disch := first | assumption | omega | (exact shp_fok (by first | assumption | exact shp_sr _ _ (by assumption) | exact shp_sr _ _ (shp_sr _ _ (by assumption)) | exact shp_sr _ _ (shp_sr _ _ (shp_sr _ _ (by assumption)))) (by decide)) | (simp only [fok_sr, aok_sr]; first | assumption | (exact shp_fok (by first | assumption | exact shp_sr _ _ (by assumption) | exact shp_sr _ _ (shp_sr _ _ (by assumption)) | exact shp_sr _ _ (shp_sr _ _ (shp_sr _ _ (by assumption)))) (by decide))) | (refine shp_aok (by first | assumption | exact shp_sr _ _ (by assumption) | exact shp_sr _ _ (shp_sr _ _ (by assumption)) | exact shp_sr _ _ (shp_sr _ _ (shp_sr _ _ (by assumption)))) rfl rfl ?_ ?_ <;> omega) | (exact shp_sr _ _ (by assumption)) | (exact shp_sr _ _ (shp_sr _ _ (by assumption))) | (exact shp_sr _ _ (shp_sr _ _ (shp_sr _ _ (by assumption)))) | (left; assumption) | (exact b2i_or _) | (simp; done)) only [e122_83, e122_85, e122_88, e122_89, e122_91, e122_94, e122_97, e122_99, e122_101, e122_102, e122_104, e122_106, e122_108, e122_109, e122_111, e122_113, e122_116, e122_118, e122_120, e122_123, e122_125, e122_126, e122_129, e122_131, e122_132, e122_135, e122_136, e122_139, e122_140, e122_142, e122_144, e122_146, e122_148, e122_151, e122_152, e122_154, e122_155, e122_158, e122_159, e122_160, e122_162, e122_163, e122_166, e122_168, e122_170, e122_172, e122_175, e122_177, e122_180, e122_181, e122_184, e122_186, e122_187, e122_188, e122_191, eq_self, ne_a, ne_b, ne_c, Nat.reduceEqDiff, lt0, bnd_ok, psh_I, psh_L, psh_R, psh_U, gt_sr, gr_sr, sk_sr, nn_sr, ↓reduceIte, Int.toNat_natCast, Int.reduceToNat, h4, hh, b2i_f, w5]
              | true =>
                rw [hb] at hh hus has hts
                rw [hb, if_pos rfl] at hcs
                rw [Bool.true_and] at hus hts
                rw [Bool.not_true, Bool.false_or] at has
                have hdv1 : x / prH E11 (ctN p (c + 1)) = x / prH E11 (ctN p c) / 11 := by
                  rw [hcs]
                  exact (div_prH (h := E11) x (ctN p c)).symm
                have hdg : dgM p x c = x / prH E11 (ctN p c) % 11 := rfl
                have hdle := dgM_le p x c
                have hQ : x / prH E11 (ctN p c) ≤ x := Nat.div_le_self _ _
                rw [hdv1] at ih
                clear hdv1
                generalize x / prH E11 (ctN p c) = Q at *
                have hmd : (Q : Int).tmod 11 = ((dgM p x c : Nat) : Int) := by rw [hdg, Int.tmod_eq_emod_of_nonneg (by omega)]; rfl
                have hdv : (Q : Int).tdiv 11 = ((Q / 11 : Nat) : Int) := by rw [Int.tdiv_eq_ediv_of_nonneg (by omega)]; rfl
                clear hdg
                have w7 : wr ((Q / 11 : Nat) : Int) = ((Q / 11 : Nat) : Int) := wr_id (by omega) (by omega)
                have c11 : ¬ (11 : Int) = 0 := by decide
                generalize dgM p x c = D at *
                have w6 : wr (D : Int) = (D : Int) := wr_id (by omega) (by omega)
                obtain ⟨q10', ih⟩ := ih (vI (D : Int))
                refine ⟨q10', ?_⟩
                by_cases k1 : D < 10
                · have k2 : ¬ (D : Int) = 10 := by omega
                  have k3 : (D : Int) < 10 := by omega
                  have o1 := bShl_N (a := 1) (k := c) (by omega) (by omega) (by omega)
                  rw [Nat.one_mul, show ((1 : Nat) : Int) = 1 from rfl] at o1
                  have o2 := bOr_N (a := cuM p x c) (b := 2 ^ c) (by omega) (by omega)
                  rw [decide_eq_true k1, if_pos rfl] at hus hts
                  rw [hus, hts, has] at ih
                  rw [← ih, e122_81]
                  by_cases k4 : (D : Int) < dt d c
                  · rw [decide_eq_true (Or.inr k4), Bool.and_true]
                    cases hca : caM d p x c with
                    | true => simp (disch := first | assumption | omega | (exact shp_fok (by first | assumption | exact shp_sr _ _ (by assumption) | exact shp_sr _ _ (shp_sr _ _ (by assumption)) | exact shp_sr _ _ (shp_sr _ _ (shp_sr _ _ (by assumption)))) (by decide)) | (simp only [fok_sr, aok_sr]; first | assumption | (exact shp_fok (by first | assumption | exact shp_sr _ _ (by assumption) | exact shp_sr _ _ (shp_sr _ _ (by assumption)) | exact shp_sr _ _ (shp_sr _ _ (shp_sr _ _ (by assumption)))) (by decide))) | (refine shp_aok (by first | assumption | exact shp_sr _ _ (by assumption) | exact shp_sr _ _ (shp_sr _ _ (by assumption)) | exact shp_sr _ _ (shp_sr _ _ (shp_sr _ _ (by assumption)))) rfl rfl ?_ ?_ <;> omega) | (exact shp_sr _ _ (by assumption)) | (exact shp_sr _ _ (shp_sr _ _ (by assumption))) | (exact shp_sr _ _ (shp_sr _ _ (shp_sr _ _ (by assumption)))) | (left; assumption) | (exact b2i_or _) | (simp; done)) only [e122_83, e122_85, e122_88, e122_89, e122_91, e122_94, e122_97, e122_99, e122_101, e122_102, e122_104, e122_106, e122_108, e122_109, e122_111, e122_113, e122_116, e122_118, e122_120, e122_123, e122_125, e122_126, e122_129, e122_131, e122_132, e122_135, e122_136, e122_139, e122_140, e122_142, e122_144, e122_146, e122_148, e122_151, e122_152, e122_154, e122_155, e122_158, e122_159, e122_160, e122_162, e122_163, e122_166, e122_168, e122_170, e122_172, e122_175, e122_177, e122_180, e122_181, e122_184, e122_186, e122_187, e122_188, e122_191, eq_self, ne_a, ne_b, ne_c, Nat.reduceEqDiff, lt0, bnd_ok, psh_I, psh_L, psh_R, psh_U, gt_sr, gr_sr, sk_sr, nn_sr, ↓reduceIte, Int.toNat_natCast, Int.reduceToNat, h4, hh, b2i_t, c11, hmd, hdv, w6, w7, k2, k3, g24_11, hta, k4, o1, o2, w5, sr_sr, Int.reduceEq]
                    | false => simp (disch := first | assumption | omega | (exact shp_fok (by first | assumption | exact shp_sr _ _ (by assumption) | exact shp_sr _ _ (shp_sr _ _ (by assumption)) | exact shp_sr _ _ (shp_sr _ _ (shp_sr _ _ (by assumption)))) (by decide)) | (simp only [fok_sr, aok_sr]; first | assumption | (exact shp_fok (by first | assumption | exact shp_sr _ _ (by assumption) | exact shp_sr _ _ (shp_sr _ _ (by assumption)) | exact shp_sr _ _ (shp_sr _ _ (shp_sr _ _ (by assumption)))) (by decide))) | (refine shp_aok (by first | assumption | exact shp_sr _ _ (by assumption) | exact shp_sr _ _ (shp_sr _ _ (by assumption)) | exact shp_sr _ _ (shp_sr _ _ (shp_sr _ _ (by assumption)))) rfl rfl ?_ ?_ <;> omega) | (exact shp_sr _ _ (by assumption)) | (exact shp_sr _ _ (shp_sr _ _ (by assumption))) | (exact shp_sr _ _ (shp_sr _ _ (shp_sr _ _ (by assumption)))) | (left; assumption) | (exact b2i_or _) | (simp; done)) only [e122_83, e122_85, e122_88, e122_89, e122_91, e122_94, e122_97, e122_99, e122_101, e122_102, e122_104, e122_106, e122_108, e122_109, e122_111, e122_113, e122_116, e122_118, e122_120, e122_123, e122_125, e122_126, e122_129, e122_131, e122_132, e122_135, e122_136, e122_139, e122_140, e122_142, e122_144, e122_146, e122_148, e122_151, e122_152, e122_154, e122_155, e122_158, e122_159, e122_160, e122_162, e122_163, e122_166, e122_168, e122_170, e122_172, e122_175, e122_177, e122_180, e122_181, e122_184, e122_186, e122_187, e122_188, e122_191, eq_self, ne_a, ne_b, ne_c, Nat.reduceEqDiff, lt0, bnd_ok, psh_I, psh_L, psh_R, psh_U, gt_sr, gr_sr, sk_sr, nn_sr, ↓reduceIte, Int.toNat_natCast, Int.reduceToNat, h4, hh, b2i_t, b2i_f, c11, hmd, hdv, w6, w7, k2, k3, g24_11, hta, k4, o1, o2, w5, sr_sr, Int.reduceEq]
                  · rw [decide_eq_false (by omega), Bool.and_false]
                    cases hca : caM d p x c with
                    | true => simp (disch := first | assumption | omega | (exact shp_fok (by first | assumption | exact shp_sr _ _ (by assumption) | exact shp_sr _ _ (shp_sr _ _ (by assumption)) | exact shp_sr _ _ (shp_sr _ _ (shp_sr _ _ (by assumption)))) (by decide)) | (simp only [fok_sr, aok_sr]; first | assumption | (exact shp_fok (by first | assumption | exact shp_sr _ _ (by assumption) | exact shp_sr _ _ (shp_sr _ _ (by assumption)) | exact shp_sr _ _ (shp_sr _ _ (shp_sr _ _ (by assumption)))) (by decide))) | (refine shp_aok (by first | assumption | exact shp_sr _ _ (by assumption) | exact shp_sr _ _ (shp_sr _ _ (by assumption)) | exact shp_sr _ _ (shp_sr _ _ (shp_sr _ _ (by assumption)))) rfl rfl ?_ ?_ <;> omega) | (exact shp_sr _ _ (by assumption)) | (exact shp_sr _ _ (shp_sr _ _ (by assumption))) | (exact shp_sr _ _ (shp_sr _ _ (shp_sr _ _ (by assumption)))) | (left; assumption) | (exact b2i_or _) | (simp; done)) only [e122_83, e122_85, e122_88, e122_89, e122_91, e122_94, e122_97, e122_99, e122_101, e122_102, e122_104, e122_106, e122_108, e122_109, e122_111, e122_113, e122_116, e122_118, e122_120, e122_123, e122_125, e122_126, e122_129, e122_131, e122_132, e122_135, e122_136, e122_139, e122_140, e122_142, e122_144, e122_146, e122_148, e122_151, e122_152, e122_154, e122_155, e122_158, e122_159, e122_160, e122_162, e122_163, e122_166, e122_168, e122_170, e122_172, e122_175, e122_177, e122_180, e122_181, e122_184, e122_186, e122_187, e122_188, e122_191, eq_self, ne_a, ne_b, ne_c, Nat.reduceEqDiff, lt0, bnd_ok, psh_I, psh_L, psh_R, psh_U, gt_sr, gr_sr, sk_sr, nn_sr, ↓reduceIte, Int.toNat_natCast, Int.reduceToNat, h4, hh, b2i_t, b2i_f, c11, hmd, hdv, w6, w7, k2, k3, g24_11, hta, k4, o1, o2, w5, sr_sr, Int.reduceEq]
                    | false => simp (disch := first | assumption | omega | (exact shp_fok (by first | assumption | exact shp_sr _ _ (by assumption) | exact shp_sr _ _ (shp_sr _ _ (by assumption)) | exact shp_sr _ _ (shp_sr _ _ (shp_sr _ _ (by assumption)))) (by decide)) | (simp only [fok_sr, aok_sr]; first | assumption | (exact shp_fok (by first | assumption | exact shp_sr _ _ (by assumption) | exact shp_sr _ _ (shp_sr _ _ (by assumption)) | exact shp_sr _ _ (shp_sr _ _ (shp_sr _ _ (by assumption)))) (by decide))) | (refine shp_aok (by first | assumption | exact shp_sr _ _ (by assumption) | exact shp_sr _ _ (shp_sr _ _ (by assumption)) | exact shp_sr _ _ (shp_sr _ _ (shp_sr _ _ (by assumption)))) rfl rfl ?_ ?_ <;> omega) | (exact shp_sr _ _ (by assumption)) | (exact shp_sr _ _ (shp_sr _ _ (by assumption))) | (exact shp_sr _ _ (shp_sr _ _ (shp_sr _ _ (by assumption)))) | (left; assumption) | (exact b2i_or _) | (simp; done)) only [e122_83, e122_85, e122_88, e122_89, e122_91, e122_94, e122_97, e122_99, e122_101, e122_102, e122_104, e122_106, e122_108, e122_109, e122_111, e122_113, e122_116, e122_118, e122_120, e122_123, e122_125, e122_126, e122_129, e122_131, e122_132, e122_135, e122_136, e122_139, e122_140, e122_142, e122_144, e122_146, e122_148, e122_151, e122_152, e122_154, e122_155, e122_158, e122_159, e122_160, e122_162, e122_163, e122_166, e122_168, e122_170, e122_172, e122_175, e122_177, e122_180, e122_181, e122_184, e122_186, e122_187, e122_188, e122_191, eq_self, ne_a, ne_b, ne_c, Nat.reduceEqDiff, lt0, bnd_ok, psh_I, psh_L, psh_R, psh_U, gt_sr, gr_sr, sk_sr, nn_sr, ↓reduceIte, Int.toNat_natCast, Int.reduceToNat, h4, hh, b2i_t, b2i_f, c11, hmd, hdv, w6, w7, k2, k3, g24_11, hta, k4, o1, o2, w5, sr_sr, Int.reduceEq]
                · have k2 : (D : Int) = 10 := by omega
                  have w60 : wr 10 = 10 := wr_id (by omega) (by omega)
                  have k3 : ¬ (D : Int) < 10 := by omega
                  have o2 := bOr_N (a := cuM p x c) (b := 0) (by omega) (by omega)
                  rw [show ((0 : Nat) : Int) = 0 from rfl] at o2
                  rw [decide_eq_false k1, if_neg Bool.false_ne_true] at hus hts
                  rw [hus, hts, has, decide_eq_true (Or.inl (by omega)), Bool.and_true] at ih
                  rw [← ih, e122_81]
                  cases hca : caM d p x c with
                  | true => simp (disch := first | assumption | omega | (exact shp_fok (by first | assumption | exact shp_sr _ _ (by assumption) | exact shp_sr _ _ (shp_sr _ _ (by assumption)) | exact shp_sr _ _ (shp_sr _ _ (shp_sr _ _ (by assumption)))) (by decide)) | (simp only [fok_sr, aok_sr]; first | assumption | (exact shp_fok (by first | assumption | exact shp_sr _ _ (by assumption) | exact shp_sr _ _ (shp_sr _ _ (by assumption)) | exact shp_sr _ _ (shp_sr _ _ (shp_sr _ _ (by assumption)))) (by decide))) | (refine shp_aok (by first | assumption | exact shp_sr _ _ (by assumption) | exact shp_sr _ _ (shp_sr _ _ (by assumption)) | exact shp_sr _ _ (shp_sr _ _ (shp_sr _ _ (by assumption)))) rfl rfl ?_ ?_ <;> omega) | (exact shp_sr _ _ (by assumption)) | (exact shp_sr _ _ (shp_sr _ _ (by assumption))) | (exact shp_sr _ _ (shp_sr _ _ (shp_sr _ _ (by assumption)))) | (left; assumption) | (exact b2i_or _) | (simp; done)) only [e122_83, e122_85, e122_88, e122_89, e122_91, e122_94, e122_97, e122_99, e122_101, e122_102, e122_104, e122_106, e122_108, e122_109, e122_111, e122_113, e122_116, e122_118, e122_120, e122_123, e122_125, e122_126, e122_129, e122_131, e122_132, e122_135, e122_136, e122_139, e122_140, e122_142, e122_144, e122_146, e122_148, e122_151, e122_152, e122_154, e122_155, e122_158, e122_159, e122_160, e122_162, e122_163, e122_166, e122_168, e122_170, e122_172, e122_175, e122_177, e122_180, e122_181, e122_184, e122_186, e122_187, e122_188, e122_191, eq_self, ne_a, ne_b, ne_c, Nat.reduceEqDiff, lt0, bnd_ok, psh_I, psh_L, psh_R, psh_U, gt_sr, gr_sr, sk_sr, nn_sr, ↓reduceIte, Int.toNat_natCast, Int.reduceToNat, h4, hh, b2i_t, c11, hmd, hdv, w60, w7, k2, g24_11, hta, o2, w5, sr_sr, Int.reduceEq, Int.reduceLT]
                  | false => simp (disch := first | assumption | omega | (exact shp_fok (by first | assumption | exact shp_sr _ _ (by assumption) | exact shp_sr _ _ (shp_sr _ _ (by assumption)) | exact shp_sr _ _ (shp_sr _ _ (shp_sr _ _ (by assumption)))) (by decide)) | (simp only [fok_sr, aok_sr]; first | assumption | (exact shp_fok (by first | assumption | exact shp_sr _ _ (by assumption) | exact shp_sr _ _ (shp_sr _ _ (by assumption)) | exact shp_sr _ _ (shp_sr _ _ (shp_sr _ _ (by assumption)))) (by decide))) | (refine shp_aok (by first | assumption | exact shp_sr _ _ (by assumption) | exact shp_sr _ _ (shp_sr _ _ (by assumption)) | exact shp_sr _ _ (shp_sr _ _ (shp_sr _ _ (by assumption)))) rfl rfl ?_ ?_ <;> omega) | (exact shp_sr _ _ (by assumption)) | (exact shp_sr _ _ (shp_sr _ _ (by assumption))) | (exact shp_sr _ _ (shp_sr _ _ (shp_sr _ _ (by assumption)))) | (left; assumption) | (exact b2i_or _) | (simp; done)) only [e122_83, e122_85, e122_88, e122_89, e122_91, e122_94, e122_97, e122_99, e122_101, e122_102, e122_104, e122_106, e122_108, e122_109, e122_111, e122_113, e122_116, e122_118, e122_120, e122_123, e122_125, e122_126, e122_129, e122_131, e122_132, e122_135, e122_136, e122_139, e122_140, e122_142, e122_144, e122_146, e122_148, e122_151, e122_152, e122_154, e122_155, e122_158, e122_159, e122_160, e122_162, e122_163, e122_166, e122_168, e122_170, e122_172, e122_175, e122_177, e122_180, e122_181, e122_184, e122_186, e122_187, e122_188, e122_191, eq_self, ne_a, ne_b, ne_c, Nat.reduceEqDiff, lt0, bnd_ok, psh_I, psh_L, psh_R, psh_U, gt_sr, gr_sr, sk_sr, nn_sr, ↓reduceIte, Int.toNat_natCast, Int.reduceToNat, h4, hh, b2i_t, b2i_f, c11, hmd, hdv, w60, w7, k2, g24_11, hta, o2, w5, sr_sr, Int.reduceEq, Int.reduceLT]
          have L : ∀ (F : Int), isWM d sg cn s p 0 F → ∀ q6 q7 q8 q9 q10 τ, mdl τ d cn sg → ∃ F' q6' q7' q8' q9' q10' τ', isWM d sg cn s p 1331 F' ∧ run 122 56 [vR 24, vI (s : Int), vI w, vI (W : Int), vI F, vI 0, q6, q7, q8, q9, q10] [] τ = run 122 281 [vR 24, vI (s : Int), vI w, vI (W : Int), vI F', vI 1331, q6', q7', q8', q9', q10'] [] τ' ∧ sch τ τ' ∧ mdl τ' d cn sg := by
            refine bk (P := fun K z => ∀ (F : Int), isWM d sg cn s p K F → ∀ q6 q7 q8 q9 q10 τ, mdl τ d cn sg → ∃ F' q6' q7' q8' q9' q10' τ', isWM d sg cn s p 1331 F' ∧ run 122 56 [vR 24, vI (s : Int), vI w, vI (W : Int), vI F, vI z, q6, q7, q8, q9, q10] [] τ = run 122 281 [vR 24, vI (s : Int), vI w, vI (W : Int), vI F', vI 1331, q6', q7', q8', q9', q10'] [] τ' ∧ sch τ τ' ∧ mdl τ' d cn sg) (n := 1331) ?_ ?_
            · intro F hF q6 q7 q8 q9 q10 τ hmm
              refine ⟨F, q6, q7, q8, q9, q10, τ, hF, ?_, sch_rf _, hmm⟩
              rw [e122_56]
              simp (disch := first | assumption | omega | (exact shp_fok (by first | assumption | exact shp_sr _ _ (by assumption) | exact shp_sr _ _ (shp_sr _ _ (by assumption)) | exact shp_sr _ _ (shp_sr _ _ (shp_sr _ _ (by assumption)))) (by decide)) | (simp only [fok_sr, aok_sr]; first | assumption | (exact shp_fok (by first | assumption | exact shp_sr _ _ (by assumption) | exact shp_sr _ _ (shp_sr _ _ (by assumption)) | exact shp_sr _ _ (shp_sr _ _ (shp_sr _ _ (by assumption)))) (by decide))) | (refine shp_aok (by first | assumption | exact shp_sr _ _ (by assumption) | exact shp_sr _ _ (shp_sr _ _ (by assumption)) | exact shp_sr _ _ (shp_sr _ _ (shp_sr _ _ (by assumption)))) rfl rfl ?_ ?_ <;> omega) | (exact shp_sr _ _ (by assumption)) | (exact shp_sr _ _ (shp_sr _ _ (by assumption))) | (exact shp_sr _ _ (shp_sr _ _ (shp_sr _ _ (by assumption)))) | (left; assumption) | (exact b2i_or _) | (simp; done)) only [e122_58, e122_61, eq_self, ne_a, ne_b, ne_c, Nat.reduceEqDiff, lt0, bnd_ok, psh_I, psh_L, psh_R, psh_U, gt_sr, gr_sr, sk_sr, nn_sr, ↓reduceIte, Int.toNat_natCast, Int.reduceToNat, Int.cast_ofNat_Int, Int.reduceLT]
            · intro x hx hx' ih F hF q6 q7 q8 q9 q10 τ hmm
              have h4 : (x : Int) < 1331 := hx'
              have w5 : wr ((x : Int) + 1) = (x : Int) + 1 := wr_id (by omega) (by omega)
              obtain ⟨τ1, e1, c1, r1⟩ := m_asNow hmm
              have m1 := mdl_sch hmm c1 (nowR_z r1)
              have ht := hmm.1.1
              have ht1 := m1.1.1
              obtain ⟨q10', hin⟩ := inner τ1 F x q10 hx ht1 r1.2.1
              rw [tcM_0, sr_self τ1 29 _ r1.2.1.symm] at hin
              have hc0 : prH E11 (ctN p 0) = 1 := rfl
              have hu0 : cuM p x 0 = 0 := rfl
              have ha0 : caM d p x 0 = true := rfl
              rw [hc0, hu0, ha0, Nat.div_one] at hin
              have head : run 122 56 [vR 24, vI (s : Int), vI w, vI (W : Int), vI F, vI (x : Int), q6, q7, q8, q9, q10] [] τ = run 122 194 [vR 24, vI (s : Int), vI w, vI (W : Int), vI F, vI (x : Int), vI (x / prH E11 (ctN p 24) : Nat), vI (cuM p x 24 : Nat), vI (b2i (caM d p x 24)), vI 24, q10'] [] (sr τ1 29 (tcM d p x 24)) := by
                rw [← hin, e122_56]
                simp (disch := first | assumption | omega | (exact shp_fok (by first | assumption | exact shp_sr _ _ (by assumption) | exact shp_sr _ _ (shp_sr _ _ (by assumption)) | exact shp_sr _ _ (shp_sr _ _ (shp_sr _ _ (by assumption)))) (by decide)) | (simp only [fok_sr, aok_sr]; first | assumption | (exact shp_fok (by first | assumption | exact shp_sr _ _ (by assumption) | exact shp_sr _ _ (shp_sr _ _ (by assumption)) | exact shp_sr _ _ (shp_sr _ _ (shp_sr _ _ (by assumption)))) (by decide))) | (refine shp_aok (by first | assumption | exact shp_sr _ _ (by assumption) | exact shp_sr _ _ (shp_sr _ _ (by assumption)) | exact shp_sr _ _ (shp_sr _ _ (shp_sr _ _ (by assumption)))) rfl rfl ?_ ?_ <;> omega) | (exact shp_sr _ _ (by assumption)) | (exact shp_sr _ _ (shp_sr _ _ (by assumption))) | (exact shp_sr _ _ (shp_sr _ _ (shp_sr _ _ (by assumption)))) | (left; assumption) | (exact b2i_or _) | (simp; done)) only [e122_58, e122_61, e122_64, e122_65, e122_68, e122_70, e122_72, e122_73, e122_75, e122_76, e122_78, e122_79, eq_self, ne_a, ne_b, ne_c, Nat.reduceEqDiff, lt0, bnd_ok, psh_I, psh_L, psh_R, psh_U, gt_sr, gr_sr, sk_sr, nn_sr, ↓reduceIte, Int.toNat_natCast, Int.reduceToNat, h4, e1, b2i_t]
                rfl
              have ztc : zr 24 (tcM d p x 24) := by
                intro i hi
                unfold tcM
                rw [decide_eq_false (by omega), Bool.false_and, if_neg Bool.false_ne_true]
                exact ok_zt ho i (by omega)
              have cA : sch τ (sr τ1 29 (tcM d p x 24)) := sch_tr c1 (sch_of (S := [29]) (chg_sr (chg_rf _ _) (by simp)) rfl)
              have mA := mdl_sch hmm cA (by rw [gt_e]; exact ztc)
              have hult := hcu x 24
              -- on to the next code
              have next : ∀ (F2 : Int) (τ2 : St) (q6 q7 q8 q9 q10 : AV), isWM d sg cn s p (x + 1) F2 → sch τ τ2 → mdl τ2 d cn sg → run 122 194 [vR 24, vI (s : Int), vI w, vI (W : Int), vI F, vI (x : Int), vI (x / prH E11 (ctN p 24) : Nat), vI (cuM p x 24 : Nat), vI (b2i (caM d p x 24)), vI 24, q10'] [] (sr τ1 29 (tcM d p x 24)) = run 122 275 [vR 24, vI (s : Int), vI w, vI (W : Int), vI F2, vI (x : Int), q6, q7, q8, q9, q10] [] τ2 → ∃ F' q6' q7' q8' q9' q10'' τ', isWM d sg cn s p 1331 F' ∧ run 122 194 [vR 24, vI (s : Int), vI w, vI (W : Int), vI F, vI (x : Int), vI (x / prH E11 (ctN p 24) : Nat), vI (cuM p x 24 : Nat), vI (b2i (caM d p x 24)), vI 24, q10'] [] (sr τ1 29 (tcM d p x 24)) = run 122 281 [vR 24, vI (s : Int), vI w, vI (W : Int), vI F', vI 1331, q6', q7', q8', q9', q10''] [] τ' ∧ sch τ τ' ∧ mdl τ' d cn sg := by
                intro F2 τ2 q6 q7 q8 q9 q10 i2 c2 m2 e2
                obtain ⟨F', p6, p7, p8, p9, p10, τ3, i3, e3, c3, m3⟩ := ih F2 i2 q6 q7 q8 q9 q10 τ2 m2
                refine ⟨F', p6, p7, p8, p9, p10, τ3, i3, ?_, sch_tr c2 c3, m3⟩
                rw [e2, ← e3]
                have ht2 := m2.1.1
                simp (disch := first | assumption | omega | (exact shp_fok (by first | assumption | exact shp_sr _ _ (by assumption) | exact shp_sr _ _ (shp_sr _ _ (by assumption)) | exact shp_sr _ _ (shp_sr _ _ (shp_sr _ _ (by assumption)))) (by decide)) | (simp only [fok_sr, aok_sr]; first | assumption | (exact shp_fok (by first | assumption | exact shp_sr _ _ (by assumption) | exact shp_sr _ _ (shp_sr _ _ (by assumption)) | exact shp_sr _ _ (shp_sr _ _ (shp_sr _ _ (by assumption)))) (by decide))) | (refine shp_aok (by first | assumption | exact shp_sr _ _ (by assumption) | exact shp_sr _ _ (shp_sr _ _ (by assumption)) | exact shp_sr _ _ (shp_sr _ _ (shp_sr _ _ (by assumption)))) rfl rfl ?_ ?_ <;> omega) | (exact shp_sr _ _ (by assumption)) | (exact shp_sr _ _ (shp_sr _ _ (by assumption))) | (exact shp_sr _ _ (shp_sr _ _ (shp_sr _ _ (by assumption)))) | (left; assumption) | (exact b2i_or _) | (simp; done)) only [e122_275, e122_278, eq_self, ne_a, ne_b, ne_c, Nat.reduceEqDiff, lt0, bnd_ok, psh_I, psh_L, psh_R, psh_U, gt_sr, gr_sr, sk_sr, nn_sr, ↓reduceIte, Int.toNat_natCast, Int.reduceToNat, w5]
              -- no better
              have stay : ¬ gdM d sg cn s p x → isWM d sg cn s p (x + 1) F := by
                intro hng
                rcases hF with ⟨g1, g2⟩ | ⟨y, g1, g2, g3, g4⟩
                · refine Or.inl ⟨g1, fun x' hx9 => ?_⟩
                  by_cases e : x' = x
                  · rw [e]; exact hng
                  · exact g2 x' (by omega)
                · refine Or.inr ⟨y, by omega, g2, g3, fun x' hx9 hg' => ?_⟩
                  by_cases e : x' = x
                  · rw [e] at hg'; exact absurd hg' hng
                  · exact g4 x' (by omega) hg'
              rw [head]
              cases hca : caM d p x 24 with
              | false =>
                have hng : ¬ gdM d sg cn s p x := fun h => by have := h.1; rw [hca] at this; cases this
                rw [hca] at next
                refine next F _ (vI (x / prH E11 (ctN p 24) : Nat)) (vI (cuM p x 24 : Nat)) (vI 0) (vI 24) q10' (stay hng) cA mA ?_
                simp (disch := first | assumption | omega | (exact shp_fok (by first | assumption | exact shp_sr _ _ (by assumption) | exact shp_sr _ _ (shp_sr _ _ (by assumption)) | exact shp_sr _ _ (shp_sr _ _ (shp_sr _ _ (by assumption)))) (by decide)) | (simp only [fok_sr, aok_sr]; first | assumption | (exact shp_fok (by first | assumption | exact shp_sr _ _ (by assumption) | exact shp_sr _ _ (shp_sr _ _ (by assumption)) | exact shp_sr _ _ (shp_sr _ _ (shp_sr _ _ (by assumption)))) (by decide))) | (refine shp_aok (by first | assumption | exact shp_sr _ _ (by assumption) | exact shp_sr _ _ (shp_sr _ _ (by assumption)) | exact shp_sr _ _ (shp_sr _ _ (shp_sr _ _ (by assumption)))) rfl rfl ?_ ?_ <;> omega) | (exact shp_sr _ _ (by assumption)) | (exact shp_sr _ _ (shp_sr _ _ (by assumption))) | (exact shp_sr _ _ (shp_sr _ _ (shp_sr _ _ (by assumption)))) | (left; assumption) | (exact b2i_or _) | (simp; done)) only [e122_194, e122_196, e122_199, e122_201, eq_self, ne_a, ne_b, ne_c, Nat.reduceEqDiff, lt0, bnd_ok, psh_I, psh_L, psh_R, psh_U, gt_sr, gr_sr, sk_sr, nn_sr, ↓reduceIte, Int.toNat_natCast, Int.reduceToNat, b2i_f]
              | true =>
                rw [hca] at next
                have hdle : x / prH E11 (ctN p 24) ≤ x := Nat.div_le_self _ _
                by_cases hq : x / prH E11 (ctN p 24) = 0
                · rw [hq] at next ⊢
                  rw [tcM_th] at next ztc cA mA ⊢
                  have hv := ca_v hca
                  have o2 := ok_thO ho hv
                  have r2 : nowR (sr τ1 29 (thO d (cuM p x 24) (dgM p x))) (fog d (thO d (cuM p x 24) (dgM p x)) (dla d)) := by
                    obtain ⟨⟨f0, f1, f2, f3, f4, f5⟩, n1, n2, n3⟩ := r1
                    exact ⟨⟨f0, f1, f2, f3, f4, f5⟩, gt_e _ _ _, n2, o2⟩
                  obtain ⟨τ3, e3, c3, r3⟩ := m_goHours r2 mA.2.2.2.1 mA.2.2.2.2.2.2.1 mA.2.2.2.2.2.2.2.1.1 ha
                  have e4 := m_standsNow r3 hs4
                  have cB := sch_tr cA (sch_of c3 rfl)
                  have mB := mdl_sch hmm cB (nowR_z r3)
                  have ht3 := r3.1.1
                  have htA := mA.1.1
                  have hgd : gdM d sg cn s p x ↔ hsW d sg cn s (cuM p x 24) (dgM p x) = true := ⟨fun h => h.2.2, fun h => ⟨hca, hq, h⟩⟩
                  have hsw : hsW d sg cn s (cuM p x 24) (dgM p x) = hoD (pah (fog d (thO d (cuM p x 24) (dgM p x)) (dla d)) sg cn) s := rfl
                  rw [← hsw] at e4
                  have b1 := m_bits (x := cuM p x 24) (by omega) τ3
                  have pre : run 122 194 [vR 24, vI (s : Int), vI w, vI (W : Int), vI F, vI (x : Int), vI ((0 : Nat) : Int), vI (cuM p x 24 : Nat), vI (b2i true), vI 24, q10'] [] (sr τ1 29 (thO d (cuM p x 24) (dgM p x))) = run 122 208 [vR 24, vI (s : Int), vI w, vI (W : Int), vI F, vI (x : Int), vI ((0 : Nat) : Int), vI (cuM p x 24 : Nat), vI 1, vI 24, q10'] [] τ3 := by
                    simp (disch := first | assumption | omega | (exact shp_fok (by first | assumption | exact shp_sr _ _ (by assumption) | exact shp_sr _ _ (shp_sr _ _ (by assumption)) | exact shp_sr _ _ (shp_sr _ _ (shp_sr _ _ (by assumption)))) (by decide)) | (simp only [fok_sr, aok_sr]; first | assumption | (exact shp_fok (by first | assumption | exact shp_sr _ _ (by assumption) | exact shp_sr _ _ (shp_sr _ _ (by assumption)) | exact shp_sr _ _ (shp_sr _ _ (shp_sr _ _ (by assumption)))) (by decide))) | (refine shp_aok (by first | assumption | exact shp_sr _ _ (by assumption) | exact shp_sr _ _ (shp_sr _ _ (by assumption)) | exact shp_sr _ _ (shp_sr _ _ (shp_sr _ _ (by assumption)))) rfl rfl ?_ ?_ <;> omega) | (exact shp_sr _ _ (by assumption)) | (exact shp_sr _ _ (shp_sr _ _ (by assumption))) | (exact shp_sr _ _ (shp_sr _ _ (shp_sr _ _ (by assumption)))) | (left; assumption) | (exact b2i_or _) | (simp; done)) only [e122_194, e122_196, e122_199, e122_201, e122_204, e122_205, eq_self, ne_a, ne_b, ne_c, Nat.reduceEqDiff, lt0, bnd_ok, psh_I, psh_L, psh_R, psh_U, gt_sr, gr_sr, sk_sr, nn_sr, ↓reduceIte, Int.toNat_natCast, Int.reduceToNat, b2i_t, Int.cast_ofNat_Int, e3, Int.reduceEq]
                  -- it is better
                  have better : (∀ x', x' < x → gdM d sg cn s p x' → lexL (cuM p x 24) (cuM p x' 24)) → run 122 208 [vR 24, vI (s : Int), vI w, vI (W : Int), vI F, vI (x : Int), vI ((0 : Nat) : Int), vI (cuM p x 24 : Nat), vI 1, vI 24, q10'] [] τ3 = run 122 246 [vR 24, vI (s : Int), vI w, vI (W : Int), vI F, vI (x : Int), vI ((0 : Nat) : Int), vI (cuM p x 24 : Nat), vI 1, vI 24, q10'] [] τ3 → ∃ F' q6' q7' q8' q9' q10'' τ', isWM d sg cn s p 1331 F' ∧ run 122 194 [vR 24, vI (s : Int), vI w, vI (W : Int), vI F, vI (x : Int), vI ((0 : Nat) : Int), vI (cuM p x 24 : Nat), vI (b2i true), vI 24, q10'] [] (sr τ1 29 (thO d (cuM p x 24) (dgM p x))) = run 122 281 [vR 24, vI (s : Int), vI w, vI (W : Int), vI F', vI 1331, q6', q7', q8', q9', q10''] [] τ' ∧ sch τ τ' ∧ mdl τ' d cn sg := by
                    intro hall hgo
                    cases hg : hsW d sg cn s (cuM p x 24) (dgM p x) with
                    | true =>
                      rw [hg] at e4
                      refine next (cuM p x 24 : Nat) τ3 (vI ((0 : Nat) : Int)) (vI (cuM p x 24 : Nat)) (vI 1) (vI 1) q10' (Or.inr ⟨x, by omega, hgd.mpr hg, rfl, fun x' hx9 hg' => ?_⟩) cB mB ?_
                      · by_cases e : x' = x
                        · rw [e]; exact Or.inr ⟨rfl, Nat.le_refl _⟩
                        · exact hall x' (by omega) hg'
                      · rw [pre, hgo]
                        simp (disch := first | assumption | omega | (exact shp_fok (by first | assumption | exact shp_sr _ _ (by assumption) | exact shp_sr _ _ (shp_sr _ _ (by assumption)) | exact shp_sr _ _ (shp_sr _ _ (shp_sr _ _ (by assumption)))) (by decide)) | (simp only [fok_sr, aok_sr]; first | assumption | (exact shp_fok (by first | assumption | exact shp_sr _ _ (by assumption) | exact shp_sr _ _ (shp_sr _ _ (by assumption)) | exact shp_sr _ _ (shp_sr _ _ (shp_sr _ _ (by assumption)))) (by decide))) | (refine shp_aok (by first | assumption | exact shp_sr _ _ (by assumption) | exact shp_sr _ _ (shp_sr _ _ (by assumption)) | exact shp_sr _ _ (shp_sr _ _ (shp_sr _ _ (by assumption)))) rfl rfl ?_ ?_ <;> omega) | (exact shp_sr _ _ (by assumption)) | (exact shp_sr _ _ (shp_sr _ _ (by assumption))) | (exact shp_sr _ _ (shp_sr _ _ (shp_sr _ _ (by assumption)))) | (left; assumption) | (exact b2i_or _) | (simp; done)) only [e122_246, e122_247, e122_250, e122_251, e122_253, e122_255, e122_258, e122_259, e122_260, e122_263, e122_266, e122_268, e122_271, e122_273, eq_self, ne_a, ne_b, ne_c, Nat.reduceEqDiff, lt0, bnd_ok, psh_I, psh_L, psh_R, psh_U, gt_sr, gr_sr, sk_sr, nn_sr, ↓reduceIte, Int.toNat_natCast, Int.reduceToNat, e4, b2i_t, Int.reduceEq]
                    | false =>
                      rw [hg] at e4
                      refine next F τ3 (vI ((0 : Nat) : Int)) (vI (cuM p x 24 : Nat)) (vI 1) (vI 1) q10' (stay (fun h => by have := hgd.mp h; rw [hg] at this; cases this)) cB mB ?_
                      rw [pre, hgo]
                      simp (disch := first | assumption | omega | (exact shp_fok (by first | assumption | exact shp_sr _ _ (by assumption) | exact shp_sr _ _ (shp_sr _ _ (by assumption)) | exact shp_sr _ _ (shp_sr _ _ (shp_sr _ _ (by assumption)))) (by decide)) | (simp only [fok_sr, aok_sr]; first | assumption | (exact shp_fok (by first | assumption | exact shp_sr _ _ (by assumption) | exact shp_sr _ _ (shp_sr _ _ (by assumption)) | exact shp_sr _ _ (shp_sr _ _ (shp_sr _ _ (by assumption)))) (by decide))) | (refine shp_aok (by first | assumption | exact shp_sr _ _ (by assumption) | exact shp_sr _ _ (shp_sr _ _ (by assumption)) | exact shp_sr _ _ (shp_sr _ _ (shp_sr _ _ (by assumption)))) rfl rfl ?_ ?_ <;> omega) | (exact shp_sr _ _ (by assumption)) | (exact shp_sr _ _ (shp_sr _ _ (by assumption))) | (exact shp_sr _ _ (shp_sr _ _ (shp_sr _ _ (by assumption)))) | (left; assumption) | (exact b2i_or _) | (simp; done)) only [e122_246, e122_247, e122_250, e122_251, e122_253, e122_255, e122_258, e122_259, e122_260, e122_263, e122_266, e122_268, e122_271, e122_273, eq_self, ne_a, ne_b, ne_c, Nat.reduceEqDiff, lt0, bnd_ok, psh_I, psh_L, psh_R, psh_U, gt_sr, gr_sr, sk_sr, nn_sr, ↓reduceIte, Int.toNat_natCast, Int.reduceToNat, e4, b2i_f, Int.reduceEq]
                  rcases id hF with ⟨g1, g2⟩ | ⟨y, g1, g2, g3, g4⟩
                  · refine better (fun x' hx9 hg' => absurd hg' (g2 x' hx9)) ?_
                    simp (disch := first | assumption | omega | (exact shp_fok (by first | assumption | exact shp_sr _ _ (by assumption) | exact shp_sr _ _ (shp_sr _ _ (by assumption)) | exact shp_sr _ _ (shp_sr _ _ (shp_sr _ _ (by assumption)))) (by decide)) | (simp only [fok_sr, aok_sr]; first | assumption | (exact shp_fok (by first | assumption | exact shp_sr _ _ (by assumption) | exact shp_sr _ _ (shp_sr _ _ (by assumption)) | exact shp_sr _ _ (shp_sr _ _ (shp_sr _ _ (by assumption)))) (by decide))) | (refine shp_aok (by first | assumption | exact shp_sr _ _ (by assumption) | exact shp_sr _ _ (shp_sr _ _ (by assumption)) | exact shp_sr _ _ (shp_sr _ _ (shp_sr _ _ (by assumption)))) rfl rfl ?_ ?_ <;> omega) | (exact shp_sr _ _ (by assumption)) | (exact shp_sr _ _ (shp_sr _ _ (by assumption))) | (exact shp_sr _ _ (shp_sr _ _ (shp_sr _ _ (by assumption)))) | (left; assumption) | (exact b2i_or _) | (simp; done)) only [e122_208, e122_210, eq_self, ne_a, ne_b, ne_c, Nat.reduceEqDiff, lt0, bnd_ok, psh_I, psh_L, psh_R, psh_U, gt_sr, gr_sr, sk_sr, nn_sr, ↓reduceIte, Int.toNat_natCast, Int.reduceToNat, g1, Int.reduceLT]
                  · have hylt := hcu y 24
                    have b2 := m_bits (x := cuM p y 24) (by omega) τ3
                    have hF0 : ¬ F < 0 := by omega
                    have hlt0 : ¬ ((cuM p y 24 : Nat) : Int) < 0 := by omega
                    by_cases k1 : pcN (cuM p x 24) < pcN (cuM p y 24)
                    · refine better (fun x' hx9 hg' => ?_) ?_
                      · have := g4 x' hx9 hg'
                        unfold lexL at this ⊢
                        omega
                      · rw [g3]
                        simp (disch := first | assumption | omega | (exact shp_fok (by first | assumption | exact shp_sr _ _ (by assumption) | exact shp_sr _ _ (shp_sr _ _ (by assumption)) | exact shp_sr _ _ (shp_sr _ _ (shp_sr _ _ (by assumption)))) (by decide)) | (simp only [fok_sr, aok_sr]; first | assumption | (exact shp_fok (by first | assumption | exact shp_sr _ _ (by assumption) | exact shp_sr _ _ (shp_sr _ _ (by assumption)) | exact shp_sr _ _ (shp_sr _ _ (shp_sr _ _ (by assumption)))) (by decide))) | (refine shp_aok (by first | assumption | exact shp_sr _ _ (by assumption) | exact shp_sr _ _ (shp_sr _ _ (by assumption)) | exact shp_sr _ _ (shp_sr _ _ (shp_sr _ _ (by assumption)))) rfl rfl ?_ ?_ <;> omega) | (exact shp_sr _ _ (by assumption)) | (exact shp_sr _ _ (shp_sr _ _ (by assumption))) | (exact shp_sr _ _ (shp_sr _ _ (shp_sr _ _ (by assumption)))) | (left; assumption) | (exact b2i_or _) | (simp; done)) only [e122_208, e122_210, e122_213, e122_215, e122_218, e122_220, e122_223, eq_self, ne_a, ne_b, ne_c, Nat.reduceEqDiff, lt0, bnd_ok, psh_I, psh_L, psh_R, psh_U, gt_sr, gr_sr, sk_sr, nn_sr, ↓reduceIte, Int.toNat_natCast, Int.reduceToNat, hlt0, b1, b2, k1]
                    · by_cases k2 : pcN (cuM p x 24) = pcN (cuM p y 24)
                      · by_cases k3 : cuM p x 24 < cuM p y 24
                        · have k4 : ((cuM p x 24 : Nat) : Int) < ((cuM p y 24 : Nat) : Int) := by omega
                          refine better (fun x' hx9 hg' => ?_) ?_
                          · have := g4 x' hx9 hg'
                            unfold lexL at this ⊢
                            omega
                          · rw [g3]
                            simp (disch := first | assumption | omega | (exact shp_fok (by first | assumption | exact shp_sr _ _ (by assumption) | exact shp_sr _ _ (shp_sr _ _ (by assumption)) | exact shp_sr _ _ (shp_sr _ _ (shp_sr _ _ (by assumption)))) (by decide)) | (simp only [fok_sr, aok_sr]; first | assumption | (exact shp_fok (by first | assumption | exact shp_sr _ _ (by assumption) | exact shp_sr _ _ (shp_sr _ _ (by assumption)) | exact shp_sr _ _ (shp_sr _ _ (shp_sr _ _ (by assumption)))) (by decide))) | (refine shp_aok (by first | assumption | exact shp_sr _ _ (by assumption) | exact shp_sr _ _ (shp_sr _ _ (by assumption)) | exact shp_sr _ _ (shp_sr _ _ (shp_sr _ _ (by assumption)))) rfl rfl ?_ ?_ <;> omega) | (exact shp_sr _ _ (by assumption)) | (exact shp_sr _ _ (shp_sr _ _ (by assumption))) | (exact shp_sr _ _ (shp_sr _ _ (shp_sr _ _ (by assumption)))) | (left; assumption) | (exact b2i_or _) | (simp; done)) only [e122_208, e122_210, e122_213, e122_215, e122_218, e122_220, e122_223, e122_226, e122_228, e122_231, e122_233, e122_236, e122_239, e122_241, e122_243, eq_self, ne_a, ne_b, ne_c, Nat.reduceEqDiff, lt0, bnd_ok, psh_I, psh_L, psh_R, psh_U, gt_sr, gr_sr, sk_sr, nn_sr, ↓reduceIte, Int.toNat_natCast, Int.reduceToNat, hlt0, b1, b2, k1, k2, k4, Int.lt_irrefl]
                        · have k4 : ¬ ((cuM p x 24 : Nat) : Int) < ((cuM p y 24 : Nat) : Int) := by omega
                          refine next F τ3 (vI ((0 : Nat) : Int)) (vI (cuM p x 24 : Nat)) (vI 1) (vI 0) q10' (Or.inr ⟨y, by omega, g2, g3, fun x' hx9 hg' => ?_⟩) cB mB ?_
                          · by_cases e : x' = x
                            · rw [e]; unfold lexL; omega
                            · exact g4 x' (by omega) hg'
                          · rw [pre, g3]
                            simp (disch := first | assumption | omega | (exact shp_fok (by first | assumption | exact shp_sr _ _ (by assumption) | exact shp_sr _ _ (shp_sr _ _ (by assumption)) | exact shp_sr _ _ (shp_sr _ _ (shp_sr _ _ (by assumption)))) (by decide)) | (simp only [fok_sr, aok_sr]; first | assumption | (exact shp_fok (by first | assumption | exact shp_sr _ _ (by assumption) | exact shp_sr _ _ (shp_sr _ _ (by assumption)) | exact shp_sr _ _ (shp_sr _ _ (shp_sr _ _ (by assumption)))) (by decide))) | (refine shp_aok (by first | assumption | exact shp_sr _ _ (by assumption) | exact shp_sr _ _ (shp_sr _ _ (by assumption)) | exact shp_sr _ _ (shp_sr _ _ (shp_sr _ _ (by assumption)))) rfl rfl ?_ ?_ <;> omega) | (exact shp_sr _ _ (by assumption)) | (exact shp_sr _ _ (shp_sr _ _ (by assumption))) | (exact shp_sr _ _ (shp_sr _ _ (shp_sr _ _ (by assumption)))) | (left; assumption) | (exact b2i_or _) | (simp; done)) only [e122_208, e122_210, e122_213, e122_215, e122_218, e122_220, e122_223, e122_226, e122_228, e122_231, e122_233, e122_236, e122_239, e122_241, e122_243, e122_246, e122_247, e122_250, e122_251, e122_253, e122_255, e122_258, e122_259, e122_260, e122_263, e122_266, e122_268, e122_271, e122_273, eq_self, ne_a, ne_b, ne_c, Nat.reduceEqDiff, lt0, bnd_ok, psh_I, psh_L, psh_R, psh_U, gt_sr, gr_sr, sk_sr, nn_sr, ↓reduceIte, Int.toNat_natCast, Int.reduceToNat, hlt0, b1, b2, k1, k2, k4, Int.lt_irrefl]
                      · refine next F τ3 (vI ((0 : Nat) : Int)) (vI (cuM p x 24 : Nat)) (vI 1) (vI 0) q10' (Or.inr ⟨y, by omega, g2, g3, fun x' hx9 hg' => ?_⟩) cB mB ?_
                        · by_cases e : x' = x
                          · rw [e]; unfold lexL; omega
                          · exact g4 x' (by omega) hg'
                        · rw [pre, g3]
                          simp (disch := first | assumption | omega | (exact shp_fok (by first | assumption | exact shp_sr _ _ (by assumption) | exact shp_sr _ _ (shp_sr _ _ (by assumption)) | exact shp_sr _ _ (shp_sr _ _ (shp_sr _ _ (by assumption)))) (by decide)) | (simp only [fok_sr, aok_sr]; first | assumption | (exact shp_fok (by first | assumption | exact shp_sr _ _ (by assumption) | exact shp_sr _ _ (shp_sr _ _ (by assumption)) | exact shp_sr _ _ (shp_sr _ _ (shp_sr _ _ (by assumption)))) (by decide))) | (refine shp_aok (by first | assumption | exact shp_sr _ _ (by assumption) | exact shp_sr _ _ (shp_sr _ _ (by assumption)) | exact shp_sr _ _ (shp_sr _ _ (shp_sr _ _ (by assumption)))) rfl rfl ?_ ?_ <;> omega) | (exact shp_sr _ _ (by assumption)) | (exact shp_sr _ _ (shp_sr _ _ (by assumption))) | (exact shp_sr _ _ (shp_sr _ _ (shp_sr _ _ (by assumption)))) | (left; assumption) | (exact b2i_or _) | (simp; done)) only [e122_208, e122_210, e122_213, e122_215, e122_218, e122_220, e122_223, e122_226, e122_228, e122_231, e122_233, e122_236, e122_239, e122_241, e122_243, e122_246, e122_247, e122_250, e122_251, e122_253, e122_255, e122_258, e122_259, e122_260, e122_263, e122_266, e122_268, e122_271, e122_273, eq_self, ne_a, ne_b, ne_c, Nat.reduceEqDiff, lt0, bnd_ok, psh_I, psh_L, psh_R, psh_U, gt_sr, gr_sr, sk_sr, nn_sr, ↓reduceIte, Int.toNat_natCast, Int.reduceToNat, hlt0, b1, b2, k1, k2]
                · have hng : ¬ gdM d sg cn s p x := fun h => hq h.2.1
                  have hq' : ¬ ((x / prH E11 (ctN p 24) : Nat) : Int) = 0 := by omega
                  have htA := mA.1.1
                  refine next F _ (vI (x / prH E11 (ctN p 24) : Nat)) (vI (cuM p x 24 : Nat)) (vI 1) (vI 24) q10' (stay hng) cA mA ?_
                  simp (disch := first | assumption | omega | (exact shp_fok (by first | assumption | exact shp_sr _ _ (by assumption) | exact shp_sr _ _ (shp_sr _ _ (by assumption)) | exact shp_sr _ _ (shp_sr _ _ (shp_sr _ _ (by assumption)))) (by decide)) | (simp only [fok_sr, aok_sr]; first | assumption | (exact shp_fok (by first | assumption | exact shp_sr _ _ (by assumption) | exact shp_sr _ _ (shp_sr _ _ (by assumption)) | exact shp_sr _ _ (shp_sr _ _ (shp_sr _ _ (by assumption)))) (by decide))) | (refine shp_aok (by first | assumption | exact shp_sr _ _ (by assumption) | exact shp_sr _ _ (shp_sr _ _ (by assumption)) | exact shp_sr _ _ (shp_sr _ _ (shp_sr _ _ (by assumption)))) rfl rfl ?_ ?_ <;> omega) | (exact shp_sr _ _ (by assumption)) | (exact shp_sr _ _ (shp_sr _ _ (by assumption))) | (exact shp_sr _ _ (shp_sr _ _ (shp_sr _ _ (by assumption)))) | (left; assumption) | (exact b2i_or _) | (simp; done)) only [e122_194, e122_196, e122_199, e122_201, eq_self, ne_a, ne_b, ne_c, Nat.reduceEqDiff, lt0, bnd_ok, psh_I, psh_L, psh_R, psh_U, gt_sr, gr_sr, sk_sr, nn_sr, ↓reduceIte, Int.toNat_natCast, Int.reduceToNat, b2i_t, hq', Int.reduceEq]
          obtain ⟨F', p6, p7, p8, p9, p10, τ2, i2, e2, c2, m2⟩ := L (-6) (Or.inl ⟨rfl, fun x hx => absurd hx (Nat.not_lt_zero x)⟩) vU vU vU vU vU σ h
          have iB : isB (GS p (goodW d sg cn s)) F' := by
            rcases i2 with ⟨rfl, g2⟩ | ⟨y, g1, g2, rfl, g4⟩
            · refine Or.inl ⟨rfl, fun B hB => ?_⟩
              obtain ⟨x, k1, k2, -⟩ := (hgs B).mp hB
              exact g2 x k1 k2
            · refine Or.inr ⟨_, (hgs _).mpr ⟨y, g1, g2, rfl⟩, rfl, fun B hB => ?_⟩
              obtain ⟨x, k1, k2, rfl⟩ := (hgs B).mp hB
              exact g4 x k1 k2
          rw [← lsB_eq iB]
          have h9 : ¬ 3 < (ctN p 24 : Int) := by omega
          refine ⟨τ2, ?_, sch_SMo c2, m2⟩
          have start : run 122 0 [vR 24, vI (s : Int), vI w, vU, vU, vU, vU, vU, vU, vU, vU] [] σ = run 122 56 [vR 24, vI (s : Int), vI w, vI (W : Int), vI (-6), vI 0, vU, vU, vU, vU, vU] [] σ := by
            simp (disch := first | assumption | omega | (exact shp_fok (by first | assumption | exact shp_sr _ _ (by assumption) | exact shp_sr _ _ (shp_sr _ _ (by assumption)) | exact shp_sr _ _ (shp_sr _ _ (shp_sr _ _ (by assumption)))) (by decide)) | (simp only [fok_sr, aok_sr]; first | assumption | (exact shp_fok (by first | assumption | exact shp_sr _ _ (by assumption) | exact shp_sr _ _ (shp_sr _ _ (by assumption)) | exact shp_sr _ _ (shp_sr _ _ (shp_sr _ _ (by assumption)))) (by decide))) | (refine shp_aok (by first | assumption | exact shp_sr _ _ (by assumption) | exact shp_sr _ _ (shp_sr _ _ (by assumption)) | exact shp_sr _ _ (shp_sr _ _ (shp_sr _ _ (by assumption)))) rfl rfl ?_ ?_ <;> omega) | (exact shp_sr _ _ (by assumption)) | (exact shp_sr _ _ (shp_sr _ _ (by assumption))) | (exact shp_sr _ _ (shp_sr _ _ (shp_sr _ _ (by assumption)))) | (left; assumption) | (exact b2i_or _) | (simp; done)) only [e122_0, e122_1, e122_2, e122_5, e122_8, e122_9, e122_10, e122_11, e122_12, e122_13, e122_16, e122_19, e122_21, e122_22, e122_23, e122_26, e122_29, e122_31, e122_32, e122_33, e122_34, e122_37, e122_38, e122_39, e122_42, e122_43, e122_46, e122_48, e122_49, e122_51, e122_53, e122_54, eq_self, ne_a, ne_b, ne_c, Nat.reduceEqDiff, lt0, bnd_ok, psh_I, psh_L, psh_R, psh_U, gt_sr, gr_sr, sk_sr, nn_sr, ↓reduceIte, Int.toNat_natCast, Int.reduceToNat, q1, b2i_t, m_in, if_pos h1, e0, l1, l2, h9, Int.reduceEq]
          rw [start, e2]
          rcases m_cob iB GS_lt h1 with ⟨g1, g2⟩ | ⟨B, g1, g2, g3⟩
          · rw [← g2]
            simp (disch := first | assumption | omega | (exact shp_fok (by first | assumption | exact shp_sr _ _ (by assumption) | exact shp_sr _ _ (shp_sr _ _ (by assumption)) | exact shp_sr _ _ (shp_sr _ _ (shp_sr _ _ (by assumption)))) (by decide)) | (simp only [fok_sr, aok_sr]; first | assumption | (exact shp_fok (by first | assumption | exact shp_sr _ _ (by assumption) | exact shp_sr _ _ (shp_sr _ _ (by assumption)) | exact shp_sr _ _ (shp_sr _ _ (shp_sr _ _ (by assumption)))) (by decide))) | (refine shp_aok (by first | assumption | exact shp_sr _ _ (by assumption) | exact shp_sr _ _ (shp_sr _ _ (by assumption)) | exact shp_sr _ _ (shp_sr _ _ (shp_sr _ _ (by assumption)))) rfl rfl ?_ ?_ <;> omega) | (exact shp_sr _ _ (by assumption)) | (exact shp_sr _ _ (shp_sr _ _ (by assumption))) | (exact shp_sr _ _ (shp_sr _ _ (shp_sr _ _ (by assumption)))) | (left; assumption) | (exact b2i_or _) | (simp; done)) only [e122_281, e122_283, e122_286, e122_287, e122_288, e122_291, e122_293, e122_296, e122_298, e122_301, eq_self, ne_a, ne_b, ne_c, Nat.reduceEqDiff, lt0, bnd_ok, psh_I, psh_L, psh_R, psh_U, gt_sr, gr_sr, sk_sr, nn_sr, ↓reduceIte, Int.toNat_natCast, Int.reduceToNat, g1]
          · rw [← g3, g1]
            have b3 := m_bits (x := B) (by omega) τ2
            have hB0 : ¬ (B : Int) < 0 := by omega
            obtain rfl | rfl : w = 0 ∨ w = 1 := by omega
            · simp (disch := first | assumption | omega | (exact shp_fok (by first | assumption | exact shp_sr _ _ (by assumption) | exact shp_sr _ _ (shp_sr _ _ (by assumption)) | exact shp_sr _ _ (shp_sr _ _ (shp_sr _ _ (by assumption)))) (by decide)) | (simp only [fok_sr, aok_sr]; first | assumption | (exact shp_fok (by first | assumption | exact shp_sr _ _ (by assumption) | exact shp_sr _ _ (shp_sr _ _ (by assumption)) | exact shp_sr _ _ (shp_sr _ _ (shp_sr _ _ (by assumption)))) (by decide))) | (refine shp_aok (by first | assumption | exact shp_sr _ _ (by assumption) | exact shp_sr _ _ (shp_sr _ _ (by assumption)) | exact shp_sr _ _ (shp_sr _ _ (shp_sr _ _ (by assumption)))) rfl rfl ?_ ?_ <;> omega) | (exact shp_sr _ _ (by assumption)) | (exact shp_sr _ _ (shp_sr _ _ (by assumption))) | (exact shp_sr _ _ (shp_sr _ _ (shp_sr _ _ (by assumption)))) | (left; assumption) | (exact b2i_or _) | (simp; done)) only [e122_281, e122_283, e122_286, e122_287, e122_288, e122_291, e122_293, e122_296, e122_298, e122_301, eq_self, ne_a, ne_b, ne_c, Nat.reduceEqDiff, lt0, bnd_ok, psh_I, psh_L, psh_R, psh_U, gt_sr, gr_sr, sk_sr, nn_sr, ↓reduceIte, Int.toNat_natCast, Int.reduceToNat, hB0, b3, Int.reduceEq]
            · simp (disch := first | assumption | omega | (exact shp_fok (by first | assumption | exact shp_sr _ _ (by assumption) | exact shp_sr _ _ (shp_sr _ _ (by assumption)) | exact shp_sr _ _ (shp_sr _ _ (shp_sr _ _ (by assumption)))) (by decide)) | (simp only [fok_sr, aok_sr]; first | assumption | (exact shp_fok (by first | assumption | exact shp_sr _ _ (by assumption) | exact shp_sr _ _ (shp_sr _ _ (by assumption)) | exact shp_sr _ _ (shp_sr _ _ (shp_sr _ _ (by assumption)))) (by decide))) | (refine shp_aok (by first | assumption | exact shp_sr _ _ (by assumption) | exact shp_sr _ _ (shp_sr _ _ (by assumption)) | exact shp_sr _ _ (shp_sr _ _ (shp_sr _ _ (by assumption)))) rfl rfl ?_ ?_ <;> omega) | (exact shp_sr _ _ (by assumption)) | (exact shp_sr _ _ (shp_sr _ _ (by assumption))) | (exact shp_sr _ _ (shp_sr _ _ (shp_sr _ _ (by assumption)))) | (left; assumption) | (exact b2i_or _) | (simp; done)) only [e122_281, e122_283, e122_286, e122_287, e122_288, e122_291, e122_293, e122_296, e122_298, e122_301, eq_self, ne_a, ne_b, ne_c, Nat.reduceEqDiff, lt0, bnd_ok, psh_I, psh_L, psh_R, psh_U, gt_sr, gr_sr, sk_sr, nn_sr, ↓reduceIte, Int.toNat_natCast, Int.reduceToNat, hB0]
        · rw [if_neg h8]
          have h9 : 3 < (ctN (selW d s) 24 : Int) := by omega
          refine ⟨σ, ?_, mdl_rf h⟩
          simp (disch := first | assumption | omega | (exact shp_fok (by first | assumption | exact shp_sr _ _ (by assumption) | exact shp_sr _ _ (shp_sr _ _ (by assumption)) | exact shp_sr _ _ (shp_sr _ _ (shp_sr _ _ (by assumption)))) (by decide)) | (simp only [fok_sr, aok_sr]; first | assumption | (exact shp_fok (by first | assumption | exact shp_sr _ _ (by assumption) | exact shp_sr _ _ (shp_sr _ _ (by assumption)) | exact shp_sr _ _ (shp_sr _ _ (shp_sr _ _ (by assumption)))) (by decide))) | (refine shp_aok (by first | assumption | exact shp_sr _ _ (by assumption) | exact shp_sr _ _ (shp_sr _ _ (by assumption)) | exact shp_sr _ _ (shp_sr _ _ (shp_sr _ _ (by assumption)))) rfl rfl ?_ ?_ <;> omega) | (exact shp_sr _ _ (by assumption)) | (exact shp_sr _ _ (shp_sr _ _ (by assumption))) | (exact shp_sr _ _ (shp_sr _ _ (shp_sr _ _ (by assumption)))) | (left; assumption) | (exact b2i_or _) | (simp; done)) only [e122_0, e122_1, e122_2, e122_5, e122_8, e122_9, e122_10, e122_11, e122_12, e122_13, e122_16, e122_19, e122_21, e122_22, e122_23, e122_26, e122_29, e122_31, e122_32, e122_33, e122_34, e122_37, e122_38, e122_39, e122_42, e122_43, e122_46, e122_48, eq_self, ne_a, ne_b, ne_c, Nat.reduceEqDiff, lt0, bnd_ok, psh_I, psh_L, psh_R, psh_U, gt_sr, gr_sr, sk_sr, nn_sr, ↓reduceIte, Int.toNat_natCast, Int.reduceToNat, q1, b2i_t, m_in, if_pos h1, e0, l1, l2, h9, Int.reduceEq]
    · rw [if_neg h1]
      refine ⟨σ, ?_, mdl_rf h⟩
      simp (disch := first | assumption | omega | (exact shp_fok (by first | assumption | exact shp_sr _ _ (by assumption) | exact shp_sr _ _ (shp_sr _ _ (by assumption)) | exact shp_sr _ _ (shp_sr _ _ (shp_sr _ _ (by assumption)))) (by decide)) | (simp only [fok_sr, aok_sr]; first | assumption | (exact shp_fok (by first | assumption | exact shp_sr _ _ (by assumption) | exact shp_sr _ _ (shp_sr _ _ (by assumption)) | exact shp_sr _ _ (shp_sr _ _ (shp_sr _ _ (by assumption)))) (by decide))) | (refine shp_aok (by first | assumption | exact shp_sr _ _ (by assumption) | exact shp_sr _ _ (shp_sr _ _ (by assumption)) | exact shp_sr _ _ (shp_sr _ _ (shp_sr _ _ (by assumption)))) rfl rfl ?_ ?_ <;> omega) | (exact shp_sr _ _ (by assumption)) | (exact shp_sr _ _ (shp_sr _ _ (by assumption))) | (exact shp_sr _ _ (shp_sr _ _ (shp_sr _ _ (by assumption)))) | (left; assumption) | (exact b2i_or _) | (simp; done)) only [e122_0, e122_1, e122_2, e122_5, e122_8, e122_9, e122_10, e122_11, e122_12, e122_13, e122_16, e122_19, e122_21, eq_self, ne_a, ne_b, ne_c, Nat.reduceEqDiff, lt0, bnd_ok, psh_I, psh_L, psh_R, psh_U, gt_sr, gr_sr, sk_sr, nn_sr, ↓reduceIte, Int.toNat_natCast, Int.reduceToNat, q1, b2i_t, m_in, if_neg h1, Int.reduceEq]
