/-! what was cut -/
theorem pah_fog (sg : Nat → Int) : ∀ (n : Nat) (d : Dat), pah d sg n = fog d (dt (pah d sg n)) (dla d)
  | 0, _ => rfl
  | n + 1, d => by
    have ih := pah_fog sg n d
    show pas (pah d sg n) (hr (sg n)) = fog d (dt (pas (pah d sg n) (hr (sg n)))) (dla d)
    generalize hr (sg n) = h
    generalize dt (pah d sg n) = t at ih
    rw [ih]
    rfl
/-- the trial bank is the bank but for fog and lamps -/
def trR (τ : St) (d : Dat) : Prop := ∃ t la, rep τ 10 (fog d t la) ∧ okd (fog d t la)
theorem trR_jb {τ : St} {d : Dat} (h : trR τ d) : jb τ 10 := by
  obtain ⟨t, la, h1, h2⟩ := h
  exact rep_jb h1 h2
set_option maxRecDepth 100000 in
set_option maxHeartbeats 4000000 in
theorem c_copyFogT {τ : St} {d : Dat} (h2 : rep τ 2 d) (ho : okd d) (ht : trR τ d) : ∃ τ', run 29 0 [vR 10, vR 2] [] τ = some (vU, τ') ∧ chg [11, 12, 13] τ τ' ∧ rep τ' 10 d := by
  obtain ⟨t, la, h3, h4⟩ := ht
  exact c_copyFogR (b := 10) (q := 2) (d := fog d t la) (t := dt d) (la := dla d) h3 h4 h2 ho (by omega)
theorem trR_of {τ : St} {d : Dat} {t la : Nat → Int} (h : rep τ 10 (fog d t la)) (ho : okd (fog d t la)) : trR τ d := ⟨t, la, h, ho⟩
theorem trR_pah {τ : St} {d : Dat} {t la : Nat → Int} {sg : Nat → Int} {n : Nat} (h : rep τ 10 (pah (fog d t la) sg n)) (ho : okd (pah (fog d t la) sg n)) : trR τ d := by
  have e := pah_fog sg n (fog d t la)
  generalize dt (pah (fog d t la) sg n) = t2 at e
  rw [e] at h ho
  exact ⟨t2, la, h, ho⟩
def fitP (d : Dat) (sg : Nat → Int) (cn : Nat) (c to : Nat) : Bool := decide ((to : Int) < dt d c) && siD (pah (fog d (ru (dt d) c (to : Int)) (dla d)) sg cn)
def fitC (d : Dat) (sg : Nat → Int) (cn : Nat) (code : Nat) : Bool := fitP d sg cn (code / 10) (code % 10)
def ctN (p : Nat → Bool) : Nat → Nat
  | 0 => 0
  | n + 1 => ctN p n + (if p n = true then 1 else 0)
theorem ct_mono (p : Nat → Bool) (k : Nat) : ∀ j, ctN p k ≤ ctN p (k + j) ∧ ctN p (k + j) ≤ ctN p k + j
  | 0 => ⟨Nat.le_refl _, Nat.le_refl _⟩
  | j + 1 => by
    have := ct_mono p k j
    show ctN p k ≤ ctN p (k + j) + _ ∧ ctN p (k + j) + _ ≤ _
    split <;> omega
theorem ct_flat (p : Nat → Bool) (k : Nat) : ∀ j, (∀ i, i < j → p (k + i) = false) → ctN p (k + j) = ctN p k
  | 0, _ => rfl
  | j + 1, h => by
    show ctN p (k + j) + (if p (k + j) = true then 1 else 0) = _
    rw [ct_flat p k j (fun i hi => h i (by omega)), h j (by omega)]
    rfl
theorem ct_le {p : Nat → Bool} (h : ∀ c, p (10 * c + 9) = false) : ∀ c, ctN p (10 * c) ≤ 9 * c
  | 0 => Nat.le_refl _
  | c + 1 => by
    have ih := ct_le h c
    have h1 := (ct_mono p (10 * c) 9).2
    have h2 : ctN p (10 * (c + 1)) = ctN p (10 * c + 9) + (if p (10 * c + 9) = true then 1 else 0) := rfl
    rw [h c, if_neg Bool.false_ne_true] at h2
    omega
theorem fit_9 {d : Dat} (ho : okd d) (sg : Nat → Int) (cn : Nat) {c j : Nat} (hc : c < 24) (hj : j < 10) (h : dt d c ≤ (j : Int)) : fitC d sg cn (10 * c + j) = false := by
  unfold fitC fitP
  have e1 : (10 * c + j) / 10 = c := by omega
  have e2 : (10 * c + j) % 10 = j := by omega
  rw [e1, e2, decide_eq_false (by omega), Bool.false_and]
theorem fit_91 {d : Dat} (ho : okd d) (sg : Nat → Int) (cn : Nat) (c : Nat) : fitC d sg cn (10 * c + 9) = false := by
  by_cases hc : c < 24
  · exact fit_9 ho sg cn hc (by omega) (by have := ok_t ho c hc; omega)
  · unfold fitC fitP
    have e1 : (10 * c + 9) / 10 = c := by omega
    have e2 : (10 * c + 9) % 10 = 9 := by omega
    rw [e1, e2, ok_zt ho c (by have := dn24 ho; omega), decide_eq_false (by omega), Bool.false_and]
/-- all fitting cuts, in their order -/
def arrF (p : Nat → Bool) (K : Nat) (a : Nat → Int) : Prop := ∀ k, k < K → p k = true → a (ctN p k) = (k : Int)
def SF : List Nat := [10, 11, 12, 13, 14, 15, 16, 17, 22]
set_option maxRecDepth 100000 in
set_option maxHeartbeats 8000000 in
set_option maxRecDepth 100000 in
set_option maxHeartbeats 4000000 in
theorem c_findFitting {σ : St} {d : Dat} {cn : Nat} {sg : Nat → Int} (h : CS σ d cn sg) (ha : alh cn sg = true) : ∃ σ', run 76 0 [vR 1, vU, vU, vU, vU] [] σ = some (vI (ctN (fitC d sg cn) (10 * dn_ d) : Nat), σ') ∧ chg SF σ σ' ∧ jb σ' 10 ∧ arrF (fitC d sg cn) (10 * dn_ d) (gt σ' 22) := by
  obtain ⟨a1, a5, a6, a7⟩ := id h
  have hs := a1.1
  have h24 := dn24 a6
  have f9 := fun c j h1 h2 h3 => fit_9 a6 sg cn (c := c) (j := j) h1 h2 h3
  have hct := ct_le (fit_91 a6 sg cn)
  have hpd : ∀ c j, fitC d sg cn (10 * c + j) = fitC d sg cn (10 * c + j) := fun _ _ => rfl
  have hfit : ∀ c j, j < 10 → fitC d sg cn (10 * c + j) = fitP d sg cn c j := fun c j hj => by
    unfold fitC
    rw [show (10 * c + j) / 10 = c by omega, show (10 * c + j) % 10 = j by omega]
  generalize hP : fitC d sg cn = p at *
  obtain ⟨σ1, e1, c1, r1⟩ := c_copyAll a7 a5 a6 (by omega)
  have n1 := npd_chg c1 (by simp) (by simp) a1
  have b1 := rep_chg c1 (b := 2) (by intro i hi _; simp; omega) a5
  -- one cut looked at
  have turn : ∀ (c j : Nat) (τ : St) (q3 : AV), c < dn_ d → (j : Int) < dt d c → npd τ cn sg → rep τ 2 d → trR τ d → arrF p (10 * c + j) (gt τ 22) →
      ∃ τ', run 76 41 [vR 1, vI (ctN p (10 * c + j) : Nat), vI (c : Int), vI (dt d c), vI (j : Int)] [] τ = run 76 41 [vR 1, vI (ctN p (10 * c + (j + 1)) : Nat), vI (c : Int), vI (dt d c), vI ((j : Int) + 1)] [] τ' ∧ chg SF τ τ' ∧ npd τ' cn sg ∧ rep τ' 2 d ∧ trR τ' d ∧ arrF p (10 * c + (j + 1)) (gt τ' 22) := by
    intro c j τ q3 hc hj hn hr2 htr harr
    have htc := ok_t a6 c (by omega)
    have hj9 : j < 9 := by omega
    obtain ⟨τ1, e2, c2, r2⟩ := c_copyFogT hr2 a6 htr
    have p1 := c_putN (σ := τ1) (shp_ia (k := 11) (n := 24) (shp_chg c2 hn.1) (by decide)) (j := c) (by omega) (j : Int)
    have et : gt τ1 11 = dt d := r2.2.2.2.2.2.1
    rw [et] at p1
    have r3 := rep_t r2 (ru (dt d) c (j : Int))
    have o3 : okd (fog d (ru (dt d) c (j : Int)) (dla d)) := ok_fog a6 (tk_ru (ok_t a6) (by omega)) (ok_l a6) (zr_ru (ok_zt a6) hc _) (ok_zl a6)
    have c3 : chg [11, 12, 13] τ (sr τ1 11 (ru (dt d) c (j : Int))) := chg_sr c2 (by simp)
    have n3 := npd_chg c3 (by simp) (by simp) hn
    obtain ⟨τ2, e4, c4, r4⟩ := c_passHours n3 r3 o3 ha (by omega)
    have o4 := ok_pah o3 sg cn
    have e5 := c_sightsHoldR r4 o4
    have c5 : chg SF τ τ2 := chg_tr (chg_mo c3 (by decide)) c4 (by decide)
    have n5 := npd_chg c5 (by decide) (by decide) hn
    have b5 := rep_chg c5 (b := 2) (by intro i hi _; simp [SF]; omega) hr2
    have t5 := trR_pah r4 o4
    have w5 : wr ((j : Int) + 1) = (j : Int) + 1 := wr_id (by omega) (by omega)
    have k22 : gt τ2 22 = gt τ 22 := by
      rw [chg_gt c4 (by decide), gt_n _ _ (by decide), chg_gt c2 (by decide)]
    have hp9 : p (10 * c + j) = siD (pah (fog d (ru (dt d) c (j : Int)) (dla d)) sg cn) := by
      rw [hfit c j (by omega)]
      unfold fitP
      rw [decide_eq_true hj, Bool.true_and]
    have hcs : ctN p (10 * c + (j + 1)) = ctN p (10 * c + j) + (if p (10 * c + j) = true then 1 else 0) := rfl
    rw [← hp9] at e5
    have hcb := hct c
    have hcb2 := (ct_mono p (10 * c) j).2
    have hs0 := hn.1
    have hs1 := shp_chg c2 hn.1
    have hs2 := shp_chg c5 hn.1
    cases hx : p (10 * c + j) with
    | true =>
      rw [hx] at e5
      rw [hx, if_pos rfl] at hcs
      have hcs' : ctN p (10 * c + j + 1) = ctN p (10 * c + j) + 1 := hcs
      have p2 := c_putN (σ := τ2) (shp_ia (k := 22) (n := 216) hs2 (by decide)) (j := ctN p (10 * c + j)) (by omega) ((10 * c + j : Nat) : Int)
      have w6 : wr (wr (10 * (c : Int)) + (j : Int)) = ((10 * c + j : Nat) : Int) := by
        rw [wr_id (z := 10 * (c : Int)) (by omega) (by omega), wr_id (by omega) (by omega)]; omega
      have w7 : wr ((ctN p (10 * c + j) : Int) + 1) = ((ctN p (10 * c + (j + 1)) : Nat) : Int) := by
        rw [hcs, wr_id (by omega) (by omega)]; omega
      have c6 : chg SF τ (sr τ2 22 (ru (gt τ2 22) (ctN p (10 * c + j)) ((10 * c + j : Nat) : Int))) := chg_sr c5 (by decide)
      refine ⟨sr τ2 22 (ru (gt τ2 22) (ctN p (10 * c + j)) ((10 * c + j : Nat) : Int)), ?_, c6, npd_chg c6 (by decide) (by decide) hn, rep_chg c6 (b := 2) (by intro i hi _; simp [SF]; omega) hr2, ?_, ?_⟩
      · rw [e76_41]
        simp (disch := first | assumption | omega | (exact shp_fok (by first | assumption | exact shp_sr _ _ (by assumption) | exact shp_sr _ _ (shp_sr _ _ (by assumption)) | exact shp_sr _ _ (shp_sr _ _ (shp_sr _ _ (by assumption)))) (by decide)) | (simp only [fok_sr, aok_sr]; first | assumption | (exact shp_fok (by first | assumption | exact shp_sr _ _ (by assumption) | exact shp_sr _ _ (shp_sr _ _ (by assumption)) | exact shp_sr _ _ (shp_sr _ _ (shp_sr _ _ (by assumption)))) (by decide))) | (refine shp_aok (by first | assumption | exact shp_sr _ _ (by assumption) | exact shp_sr _ _ (shp_sr _ _ (by assumption)) | exact shp_sr _ _ (shp_sr _ _ (shp_sr _ _ (by assumption)))) rfl rfl ?_ ?_ <;> omega) | (exact shp_sr _ _ (by assumption)) | (exact shp_sr _ _ (shp_sr _ _ (by assumption))) | (exact shp_sr _ _ (shp_sr _ _ (shp_sr _ _ (by assumption)))) | (left; assumption) | (exact b2i_or _) | (simp; done)) only [e76_43, e76_44, e76_47, e76_48, e76_51, e76_52, e76_55, e76_58, e76_59, e76_62, e76_65, e76_66, e76_68, e76_71, e76_72, e76_75, e76_76, e76_79, e76_82, e76_83, e76_86, e76_89, e76_92, e76_93, e76_96, e76_97, e76_99, e76_100, e76_101, e76_103, e76_104, e76_107, e76_110, e76_113, eq_self, ne_a, ne_b, ne_c, Nat.reduceEqDiff, lt0, bnd_ok, psh_I, psh_L, psh_R, psh_U, gt_sr, gr_sr, sk_sr, nn_sr, ↓reduceIte, Int.toNat_natCast, Int.reduceToNat, hj, g1_0, g1_1, g1_2, g1_5, g10_6, e2, p1, e4, e5, b2i_t, p2, w5, w6, w7, Int.reduceEq]
      · obtain ⟨t, la, h1, h2⟩ := t5
        exact ⟨t, la, rep_chg (chg_sr (S := [22]) (q := 22) (chg_rf _ τ2) (by simp)) (by intro i hi _; simp; omega) h1, h2⟩
      · intro k hk hpk
        rw [gt_e, k22]
        by_cases ek : k = 10 * c + j
        · rw [ek, ru_e]
        · have hlt : k < 10 * c + j := by omega
          have : ctN p k < ctN p (10 * c + j) := by
            have h1 : ctN p (k + 1) = ctN p k + (if p k = true then 1 else 0) := rfl
            rw [hpk, if_pos rfl] at h1
            have h2 := (ct_mono p (k + 1) (10 * c + j - (k + 1))).1
            rw [show k + 1 + (10 * c + j - (k + 1)) = 10 * c + j by omega] at h2
            omega
          rw [ru_n _ _ (by omega)]
          exact harr k hlt hpk
    | false =>
      rw [hx] at e5
      rw [hx, if_neg Bool.false_ne_true] at hcs
      have hcs' : ctN p (10 * c + (j + 1)) = ctN p (10 * c + j) := by omega
      refine ⟨τ2, ?_, c5, n5, b5, t5, ?_⟩
      · rw [e76_41, hcs']
        simp (disch := first | assumption | omega | (exact shp_fok (by first | assumption | exact shp_sr _ _ (by assumption) | exact shp_sr _ _ (shp_sr _ _ (by assumption)) | exact shp_sr _ _ (shp_sr _ _ (shp_sr _ _ (by assumption)))) (by decide)) | (simp only [fok_sr, aok_sr]; first | assumption | (exact shp_fok (by first | assumption | exact shp_sr _ _ (by assumption) | exact shp_sr _ _ (shp_sr _ _ (by assumption)) | exact shp_sr _ _ (shp_sr _ _ (shp_sr _ _ (by assumption)))) (by decide))) | (refine shp_aok (by first | assumption | exact shp_sr _ _ (by assumption) | exact shp_sr _ _ (shp_sr _ _ (by assumption)) | exact shp_sr _ _ (shp_sr _ _ (shp_sr _ _ (by assumption)))) rfl rfl ?_ ?_ <;> omega) | (exact shp_sr _ _ (by assumption)) | (exact shp_sr _ _ (shp_sr _ _ (by assumption))) | (exact shp_sr _ _ (shp_sr _ _ (shp_sr _ _ (by assumption)))) | (left; assumption) | (exact b2i_or _) | (simp; done)) only [e76_43, e76_44, e76_47, e76_48, e76_51, e76_52, e76_55, e76_58, e76_59, e76_62, e76_65, e76_66, e76_68, e76_71, e76_72, e76_75, e76_76, e76_79, e76_82, e76_83, e76_86, e76_89, e76_92, e76_93, e76_96, e76_97, e76_99, e76_100, e76_101, e76_103, e76_104, e76_107, e76_110, e76_113, eq_self, ne_a, ne_b, ne_c, Nat.reduceEqDiff, lt0, bnd_ok, psh_I, psh_L, psh_R, psh_U, gt_sr, gr_sr, sk_sr, nn_sr, ↓reduceIte, Int.toNat_natCast, Int.reduceToNat, hj, g1_0, g1_1, g1_2, g10_6, e2, p1, e4, e5, b2i_f, w5]
      · intro k hk hpk
        rw [k22]
        by_cases ek : k = 10 * c + j
        · rw [ek, hx] at hpk; cases hpk
        · exact harr k (by omega) hpk
  have L : ∀ (q3 q4 : AV) (τ : St), npd τ cn sg → rep τ 2 d → trR τ d → arrF p (10 * 0) (gt τ 22) → ∃ τ', run 76 15 [vR 1, vI (ctN p (10 * 0) : Nat), vI 0, q3, q4] [] τ = some (vI (ctN p (10 * dn_ d) : Nat), τ') ∧ chg SF τ τ' ∧ jb τ' 10 ∧ arrF p (10 * dn_ d) (gt τ' 22) := by
    refine bk (P := fun c z => ∀ (q3 q4 : AV) (τ : St), npd τ cn sg → rep τ 2 d → trR τ d → arrF p (10 * c) (gt τ 22) → ∃ τ', run 76 15 [vR 1, vI (ctN p (10 * c) : Nat), vI z, q3, q4] [] τ = some (vI (ctN p (10 * dn_ d) : Nat), τ') ∧ chg SF τ τ' ∧ jb τ' 10 ∧ arrF p (10 * dn_ d) (gt τ' 22)) (n := dn_ d) ?_ ?_
    · intro q3 q4 τ hn hr2 htr harr
      have h4 : ¬ ((dn_ d : Nat) : Int) < ((dn_ d : Nat) : Int) := by omega
      have d2 : gt τ 2 2 = ((dn_ d : Nat) : Int) := hr2.2.1.2.2.1
      have ht := hn.1
      refine ⟨τ, ?_, chg_rf _ _, trR_jb htr, harr⟩
      rw [e76_15]
      simp (disch := first | assumption | omega | (exact shp_fok (by first | assumption | exact shp_sr _ _ (by assumption) | exact shp_sr _ _ (shp_sr _ _ (by assumption)) | exact shp_sr _ _ (shp_sr _ _ (shp_sr _ _ (by assumption)))) (by decide)) | (simp only [fok_sr, aok_sr]; first | assumption | (exact shp_fok (by first | assumption | exact shp_sr _ _ (by assumption) | exact shp_sr _ _ (shp_sr _ _ (by assumption)) | exact shp_sr _ _ (shp_sr _ _ (shp_sr _ _ (by assumption)))) (by decide))) | (refine shp_aok (by first | assumption | exact shp_sr _ _ (by assumption) | exact shp_sr _ _ (shp_sr _ _ (by assumption)) | exact shp_sr _ _ (shp_sr _ _ (shp_sr _ _ (by assumption)))) rfl rfl ?_ ?_ <;> omega) | (exact shp_sr _ _ (by assumption)) | (exact shp_sr _ _ (shp_sr _ _ (by assumption))) | (exact shp_sr _ _ (shp_sr _ _ (shp_sr _ _ (by assumption)))) | (left; assumption) | (exact b2i_or _) | (simp; done)) only [e76_16, e76_17, e76_20, e76_23, e76_122, e76_123, eq_self, ne_a, ne_b, ne_c, Nat.reduceEqDiff, lt0, bnd_ok, psh_I, psh_L, psh_R, psh_U, gt_sr, gr_sr, sk_sr, nn_sr, ↓reduceIte, Int.toNat_natCast, Int.reduceToNat, g1_0, d2, h4]
    · intro c hc hc' ih q3 q4 τ hn hr2 htr harr
      have d2 : gt τ 2 2 = ((dn_ d : Nat) : Int) := hr2.2.1.2.2.1
      have ht := hn.1
      have htc := ok_t a6 c (by omega)
      have at1 := c_atN (shp_ia (k := 3) (n := 24) ht (by decide)) (j := c) (by omega)
      have e6 : gt τ 3 = dt d := hr2.2.2.2.2.2.1
      rw [e6] at at1
      obtain ⟨t, htt⟩ := nat_of htc.1
      have inner : ∀ (τ : St), npd τ cn sg → rep τ 2 d → trR τ d → arrF p (10 * c + 0) (gt τ 22) → ∃ τ', run 76 41 [vR 1, vI (ctN p (10 * c + 0) : Nat), vI (c : Int), vI (dt d c), vI 0] [] τ = some (vI (ctN p (10 * dn_ d) : Nat), τ') ∧ chg SF τ τ' ∧ jb τ' 10 ∧ arrF p (10 * dn_ d) (gt τ' 22) := by
        refine bk (P := fun j z => ∀ (τ : St), npd τ cn sg → rep τ 2 d → trR τ d → arrF p (10 * c + j) (gt τ 22) → ∃ τ', run 76 41 [vR 1, vI (ctN p (10 * c + j) : Nat), vI (c : Int), vI (dt d c), vI z] [] τ = some (vI (ctN p (10 * dn_ d) : Nat), τ') ∧ chg SF τ τ' ∧ jb τ' 10 ∧ arrF p (10 * dn_ d) (gt τ' 22)) (n := t) ?_ ?_
        · intro τ hn hr2 htr harr
          have h4 : ¬ ((t : Nat) : Int) < dt d c := by omega
          have w5 : wr ((c : Int) + 1) = (c : Int) + 1 := wr_id (by omega) (by omega)
          have hflat : ctN p (10 * (c + 1)) = ctN p (10 * c + t) := by
            have := ct_flat p (10 * c + t) (10 - t) (fun i hi => by
              rw [Nat.add_assoc]
              exact f9 c (t + i) (by omega) (by omega) (by omega))
            rw [show 10 * c + t + (10 - t) = 10 * (c + 1) by omega] at this
            exact this
          obtain ⟨τ', e9, c9, j9, a9⟩ := ih (vI (dt d c)) (vI (t : Int)) τ hn hr2 htr (fun k hk hpk => by
            by_cases hkt : k < 10 * c + t
            · exact harr k hkt hpk
            · exfalso
              obtain ⟨i, hi⟩ : ∃ i, k = 10 * c + i := ⟨k - 10 * c, by omega⟩
              rw [hi, f9 c i (by omega) (by omega) (by omega)] at hpk
              cases hpk)
          refine ⟨τ', ?_, c9, j9, a9⟩
          rw [e76_41]
          rw [hflat] at e9
          simp (disch := first | assumption | omega | (exact shp_fok (by first | assumption | exact shp_sr _ _ (by assumption) | exact shp_sr _ _ (shp_sr _ _ (by assumption)) | exact shp_sr _ _ (shp_sr _ _ (shp_sr _ _ (by assumption)))) (by decide)) | (simp only [fok_sr, aok_sr]; first | assumption | (exact shp_fok (by first | assumption | exact shp_sr _ _ (by assumption) | exact shp_sr _ _ (shp_sr _ _ (by assumption)) | exact shp_sr _ _ (shp_sr _ _ (shp_sr _ _ (by assumption)))) (by decide))) | (refine shp_aok (by first | assumption | exact shp_sr _ _ (by assumption) | exact shp_sr _ _ (shp_sr _ _ (by assumption)) | exact shp_sr _ _ (shp_sr _ _ (shp_sr _ _ (by assumption)))) rfl rfl ?_ ?_ <;> omega) | (exact shp_sr _ _ (by assumption)) | (exact shp_sr _ _ (shp_sr _ _ (by assumption))) | (exact shp_sr _ _ (shp_sr _ _ (shp_sr _ _ (by assumption)))) | (left; assumption) | (exact b2i_or _) | (simp; done)) only [e76_43, e76_44, e76_116, e76_119, eq_self, ne_a, ne_b, ne_c, Nat.reduceEqDiff, lt0, bnd_ok, psh_I, psh_L, psh_R, psh_U, gt_sr, gr_sr, sk_sr, nn_sr, ↓reduceIte, Int.toNat_natCast, Int.reduceToNat, h4, w5]
          exact e9
        · intro j hj hj' ih2 τ hn hr2 htr harr
          obtain ⟨τ1, e9, c9, n9, r9, t9, a9⟩ := turn c j τ vU hc (by omega) hn hr2 htr harr
          obtain ⟨τ2, e10, c10, j10, a10⟩ := ih2 τ1 n9 r9 t9 a9
          exact ⟨τ2, e9.trans e10, chg_tr c9 c10 (fun _ h => h), j10, a10⟩
      obtain ⟨τ', e9, c9, j9, a9⟩ := inner τ hn hr2 htr harr
      refine ⟨τ', ?_, c9, j9, a9⟩
      rw [e76_15]
      simp (disch := first | assumption | omega | (exact shp_fok (by first | assumption | exact shp_sr _ _ (by assumption) | exact shp_sr _ _ (shp_sr _ _ (by assumption)) | exact shp_sr _ _ (shp_sr _ _ (shp_sr _ _ (by assumption)))) (by decide)) | (simp only [fok_sr, aok_sr]; first | assumption | (exact shp_fok (by first | assumption | exact shp_sr _ _ (by assumption) | exact shp_sr _ _ (shp_sr _ _ (by assumption)) | exact shp_sr _ _ (shp_sr _ _ (shp_sr _ _ (by assumption)))) (by decide))) | (refine shp_aok (by first | assumption | exact shp_sr _ _ (by assumption) | exact shp_sr _ _ (shp_sr _ _ (by assumption)) | exact shp_sr _ _ (shp_sr _ _ (shp_sr _ _ (by assumption)))) rfl rfl ?_ ?_ <;> omega) | (exact shp_sr _ _ (by assumption)) | (exact shp_sr _ _ (shp_sr _ _ (by assumption))) | (exact shp_sr _ _ (shp_sr _ _ (shp_sr _ _ (by assumption)))) | (left; assumption) | (exact b2i_or _) | (simp; done)) only [e76_16, e76_17, e76_20, e76_23, e76_26, e76_27, e76_30, e76_33, e76_34, e76_37, e76_38, e76_39, eq_self, ne_a, ne_b, ne_c, Nat.reduceEqDiff, lt0, bnd_ok, psh_I, psh_L, psh_R, psh_U, gt_sr, gr_sr, sk_sr, nn_sr, ↓reduceIte, Int.toNat_natCast, Int.reduceToNat, g1_0, g2_6, d2, hc', at1]
      exact e9
  obtain ⟨σ2, e2, c2, j2, r2⟩ := L vU vU σ1 n1 b1 ⟨dt d, dla d, r1, a6⟩ (fun k hk _ => absurd hk (by omega))
  refine ⟨σ2, ?_, chg_tr (chg_mo c1 (by decide)) c2 (fun _ h => h), j2, r2⟩
  have s1 := n1.1
  simp (disch := first | assumption | omega | (exact shp_fok (by first | assumption | exact shp_sr _ _ (by assumption) | exact shp_sr _ _ (shp_sr _ _ (by assumption)) | exact shp_sr _ _ (shp_sr _ _ (shp_sr _ _ (by assumption)))) (by decide)) | (simp only [fok_sr, aok_sr]; first | assumption | (exact shp_fok (by first | assumption | exact shp_sr _ _ (by assumption) | exact shp_sr _ _ (shp_sr _ _ (by assumption)) | exact shp_sr _ _ (shp_sr _ _ (shp_sr _ _ (by assumption)))) (by decide))) | (refine shp_aok (by first | assumption | exact shp_sr _ _ (by assumption) | exact shp_sr _ _ (shp_sr _ _ (by assumption)) | exact shp_sr _ _ (shp_sr _ _ (shp_sr _ _ (by assumption)))) rfl rfl ?_ ?_ <;> omega) | (exact shp_sr _ _ (by assumption)) | (exact shp_sr _ _ (shp_sr _ _ (by assumption))) | (exact shp_sr _ _ (shp_sr _ _ (shp_sr _ _ (by assumption)))) | (left; assumption) | (exact b2i_or _) | (simp; done)) only [e76_0, e76_1, e76_2, e76_3, e76_6, e76_7, e76_10, e76_13, e76_14, eq_self, ne_a, ne_b, ne_c, Nat.reduceEqDiff, lt0, bnd_ok, psh_I, psh_L, psh_R, psh_U, gt_sr, gr_sr, sk_sr, nn_sr, ↓reduceIte, Int.toNat_natCast, Int.reduceToNat, g1_0, g1_1, e1]
  exact e2
/-- the i-th of which p holds, or how many -/
def whN (p : Nat → Bool) (i : Int) : Nat → Nat → Int
  | 0, k => if i = -1 then (ctN p k : Int) else -6
  | m + 1, k => if p k = true ∧ (ctN p k : Int) = i then (k : Int) else whN p i m (k + 1)
def x_what (d : Dat) (cn : Nat) (sg : Nat → Int) (i : Int) : Int := if alh cn sg = true then whN (fitC d sg cn) i (10 * dn_ d) 0 else -5
theorem wh_none {p : Nat → Bool} {i : Int} : ∀ m k, (∀ j, k ≤ j → j < k + m → p j = true → (ctN p j : Int) ≠ i) → whN p i m k = if i = -1 then (ctN p (k + m) : Int) else -6
  | 0, k, _ => rfl
  | m + 1, k, h => by
    unfold whN
    rw [if_neg (fun e => h k (Nat.le_refl _) (by omega) e.1 e.2), wh_none m (k + 1) (fun j h1 h2 => h j (by omega) (by omega))]
    rw [show k + 1 + m = k + (m + 1) by omega]
theorem wh_some {p : Nat → Bool} {i : Int} {j : Nat} (hp : p j = true) (hi : (ctN p j : Int) = i) : ∀ m k, k ≤ j → j < k + m → whN p i m k = (j : Int)
  | 0, k, h1, h2 => absurd h2 (by omega)
  | m + 1, k, h1, h2 => by
    unfold whN
    by_cases e : k = j
    · rw [e, if_pos ⟨hp, hi⟩]
    · have hne : ¬ (p k = true ∧ (ctN p k : Int) = i) := by
        rintro ⟨g1, g2⟩
        have h3 : ctN p (k + 1) = ctN p k + (if p k = true then 1 else 0) := rfl
        rw [g1, if_pos rfl] at h3
        have h4 := (ct_mono p (k + 1) (j - (k + 1))).1
        rw [show k + 1 + (j - (k + 1)) = j by omega] at h4
        omega
      rw [if_neg hne]
      exact wh_some hp hi m (k + 1) (by omega) (by omega)
theorem ct_ex {p : Nat → Bool} : ∀ (N i : Nat), i < ctN p N → ∃ j, j < N ∧ p j = true ∧ ctN p j = i
  | 0, i, h => absurd h (Nat.not_lt_zero i)
  | N + 1, i, h => by
    have e : ctN p (N + 1) = ctN p N + (if p N = true then 1 else 0) := rfl
    by_cases h1 : i < ctN p N
    · obtain ⟨j, a, b, c⟩ := ct_ex N i h1
      exact ⟨j, by omega, b, c⟩
    · by_cases h2 : p N = true
      · rw [h2, if_pos rfl] at e
        exact ⟨N, by omega, h2, by omega⟩
      · rw [if_neg h2] at e
        omega
set_option maxRecDepth 100000 in
set_option maxHeartbeats 4000000 in
theorem c_Fwhat (i : Int) (d : Dat) (cn : Nat) (sg : Nat → Int) : cla 75 [vR 1, vI i, vU] d cn sg (vI (x_what d cn sg i)) d cn sg := by
  intro σ h
  have e0 := c_isHoursAlone h.1
  have hs := h.1.1
  unfold x_what
  cases ha : alh cn sg with
  | false =>
    rw [ha] at e0
    refine ⟨σ, ?_, CS_rf h⟩
    simp (disch := first | assumption | omega | (exact shp_fok (by first | assumption | exact shp_sr _ _ (by assumption) | exact shp_sr _ _ (shp_sr _ _ (by assumption)) | exact shp_sr _ _ (shp_sr _ _ (shp_sr _ _ (by assumption)))) (by decide)) | (simp only [fok_sr, aok_sr]; first | assumption | (exact shp_fok (by first | assumption | exact shp_sr _ _ (by assumption) | exact shp_sr _ _ (shp_sr _ _ (by assumption)) | exact shp_sr _ _ (shp_sr _ _ (shp_sr _ _ (by assumption)))) (by decide))) | (refine shp_aok (by first | assumption | exact shp_sr _ _ (by assumption) | exact shp_sr _ _ (shp_sr _ _ (by assumption)) | exact shp_sr _ _ (shp_sr _ _ (shp_sr _ _ (by assumption)))) rfl rfl ?_ ?_ <;> omega) | (exact shp_sr _ _ (by assumption)) | (exact shp_sr _ _ (shp_sr _ _ (by assumption))) | (exact shp_sr _ _ (shp_sr _ _ (shp_sr _ _ (by assumption)))) | (left; assumption) | (exact b2i_or _) | (simp; done)) only [e75_0, e75_1, e75_4, e75_7, e75_10, e75_12, e75_13, e75_14, e75_17, e75_18, e75_19, e75_20, e75_23, e75_24, e75_25, e75_26, e75_27, e75_28, e75_29, e75_30, e75_33, e75_36, e75_37, e75_40, e75_41, e75_44, e75_47, e75_49, eq_self, ne_a, ne_b, ne_c, Nat.reduceEqDiff, lt0, bnd_ok, psh_I, psh_L, psh_R, psh_U, gt_sr, gr_sr, sk_sr, nn_sr, ↓reduceIte, Int.toNat_natCast, Int.reduceToNat, g1_2, e0, b2i_f, Bool.false_eq_true]
  | true =>
    rw [ha] at e0
    rw [if_pos rfl]
    obtain ⟨σ1, e1, c1, j1, r1⟩ := c_findFitting h ha
    have s1 := shp_chg c1 hs
    have h24 := dn24 h.2.2.1
    have hct := ct_le (fit_91 h.2.2.1 sg cn) (dn_ d)
    generalize fitC d sg cn = p at *
    refine ⟨σ1, ?_, SC_mo c1 rfl, CS_sc h c1 (sub_SC _ rfl) (by rw [chg_gt c1 (by decide)]; exact h.1.2.1) j1⟩
    by_cases h1 : i = -1
    · subst h1
      rw [wh_none (10 * dn_ d) 0 (fun j _ _ _ => by omega), if_pos rfl, Nat.zero_add]
      simp (disch := first | assumption | omega | (exact shp_fok (by first | assumption | exact shp_sr _ _ (by assumption) | exact shp_sr _ _ (shp_sr _ _ (by assumption)) | exact shp_sr _ _ (shp_sr _ _ (shp_sr _ _ (by assumption)))) (by decide)) | (simp only [fok_sr, aok_sr]; first | assumption | (exact shp_fok (by first | assumption | exact shp_sr _ _ (by assumption) | exact shp_sr _ _ (shp_sr _ _ (by assumption)) | exact shp_sr _ _ (shp_sr _ _ (shp_sr _ _ (by assumption)))) (by decide))) | (refine shp_aok (by first | assumption | exact shp_sr _ _ (by assumption) | exact shp_sr _ _ (shp_sr _ _ (by assumption)) | exact shp_sr _ _ (shp_sr _ _ (shp_sr _ _ (by assumption)))) rfl rfl ?_ ?_ <;> omega) | (exact shp_sr _ _ (by assumption)) | (exact shp_sr _ _ (shp_sr _ _ (by assumption))) | (exact shp_sr _ _ (shp_sr _ _ (shp_sr _ _ (by assumption)))) | (left; assumption) | (exact b2i_or _) | (simp; done)) only [e75_0, e75_1, e75_4, e75_7, e75_10, e75_12, e75_13, e75_14, e75_17, e75_18, e75_19, e75_20, e75_23, e75_24, e75_25, e75_26, e75_27, e75_28, e75_29, e75_30, e75_33, e75_36, e75_37, e75_40, e75_41, e75_44, e75_47, e75_49, eq_self, ne_a, ne_b, ne_c, Nat.reduceEqDiff, lt0, bnd_ok, psh_I, psh_L, psh_R, psh_U, gt_sr, gr_sr, sk_sr, nn_sr, ↓reduceIte, Int.toNat_natCast, Int.reduceToNat, g1_2, e0, b2i_t, e1, Int.reduceEq]
    · have w1 : wr ((ctN p (10 * dn_ d) : Int) - 1) = (ctN p (10 * dn_ d) : Int) - 1 := wr_id (by omega) (by omega)
      by_cases h2 : 0 ≤ i ∧ i ≤ (ctN p (10 * dn_ d) : Int) - 1
      · obtain ⟨i, rfl⟩ := nat_of h2.1
        obtain ⟨j, q1, q2, q3⟩ := ct_ex (p := p) (10 * dn_ d) i (by omega)
        rw [wh_some q2 (by omega) (10 * dn_ d) 0 (by omega) (by omega)]
        have at1 := c_atN (shp_ia (k := 22) (n := 216) s1 (by decide)) (j := i) (by omega)
        have r2 := r1 j q1 q2
        rw [q3] at r2
        rw [r2] at at1
        simp (disch := first | assumption | omega | (exact shp_fok (by first | assumption | exact shp_sr _ _ (by assumption) | exact shp_sr _ _ (shp_sr _ _ (by assumption)) | exact shp_sr _ _ (shp_sr _ _ (shp_sr _ _ (by assumption)))) (by decide)) | (simp only [fok_sr, aok_sr]; first | assumption | (exact shp_fok (by first | assumption | exact shp_sr _ _ (by assumption) | exact shp_sr _ _ (shp_sr _ _ (by assumption)) | exact shp_sr _ _ (shp_sr _ _ (shp_sr _ _ (by assumption)))) (by decide))) | (refine shp_aok (by first | assumption | exact shp_sr _ _ (by assumption) | exact shp_sr _ _ (shp_sr _ _ (by assumption)) | exact shp_sr _ _ (shp_sr _ _ (shp_sr _ _ (by assumption)))) rfl rfl ?_ ?_ <;> omega) | (exact shp_sr _ _ (by assumption)) | (exact shp_sr _ _ (shp_sr _ _ (by assumption))) | (exact shp_sr _ _ (shp_sr _ _ (shp_sr _ _ (by assumption)))) | (left; assumption) | (exact b2i_or _) | (simp; done)) only [e75_0, e75_1, e75_4, e75_7, e75_10, e75_12, e75_13, e75_14, e75_17, e75_18, e75_19, e75_20, e75_23, e75_24, e75_25, e75_26, e75_27, e75_28, e75_29, e75_30, e75_33, e75_36, e75_37, e75_40, e75_41, e75_44, e75_47, e75_49, eq_self, ne_a, ne_b, ne_c, Nat.reduceEqDiff, lt0, bnd_ok, psh_I, psh_L, psh_R, psh_U, gt_sr, gr_sr, sk_sr, nn_sr, ↓reduceIte, Int.toNat_natCast, Int.reduceToNat, g1_2, g1_5, e0, b2i_t, e1, h1, w1, c_isWithin, if_pos h2, at1, Int.reduceEq]
      · rw [wh_none (10 * dn_ d) 0 (fun j _ q1 q2 q3 => by
          have q4 : ctN p (j + 1) = ctN p j + (if p j = true then 1 else 0) := rfl
          rw [q2, if_pos rfl] at q4
          have q5 := (ct_mono p (j + 1) (10 * dn_ d - (j + 1))).1
          rw [show j + 1 + (10 * dn_ d - (j + 1)) = 10 * dn_ d by omega] at q5
          omega), if_neg h1]
        simp (disch := first | assumption | omega | (exact shp_fok (by first | assumption | exact shp_sr _ _ (by assumption) | exact shp_sr _ _ (shp_sr _ _ (by assumption)) | exact shp_sr _ _ (shp_sr _ _ (shp_sr _ _ (by assumption)))) (by decide)) | (simp only [fok_sr, aok_sr]; first | assumption | (exact shp_fok (by first | assumption | exact shp_sr _ _ (by assumption) | exact shp_sr _ _ (shp_sr _ _ (by assumption)) | exact shp_sr _ _ (shp_sr _ _ (shp_sr _ _ (by assumption)))) (by decide))) | (refine shp_aok (by first | assumption | exact shp_sr _ _ (by assumption) | exact shp_sr _ _ (shp_sr _ _ (by assumption)) | exact shp_sr _ _ (shp_sr _ _ (shp_sr _ _ (by assumption)))) rfl rfl ?_ ?_ <;> omega) | (exact shp_sr _ _ (by assumption)) | (exact shp_sr _ _ (shp_sr _ _ (by assumption))) | (exact shp_sr _ _ (shp_sr _ _ (shp_sr _ _ (by assumption)))) | (left; assumption) | (exact b2i_or _) | (simp; done)) only [e75_0, e75_1, e75_4, e75_7, e75_10, e75_12, e75_13, e75_14, e75_17, e75_18, e75_19, e75_20, e75_23, e75_24, e75_25, e75_26, e75_27, e75_28, e75_29, e75_30, e75_33, e75_36, e75_37, e75_40, e75_41, e75_44, e75_47, e75_49, eq_self, ne_a, ne_b, ne_c, Nat.reduceEqDiff, lt0, bnd_ok, psh_I, psh_L, psh_R, psh_U, gt_sr, gr_sr, sk_sr, nn_sr, ↓reduceIte, Int.toNat_natCast, Int.reduceToNat, g1_2, e0, b2i_t, e1, h1, w1, c_isWithin, if_neg h2, Int.reduceEq]
/-- the cells of the codes of which p holds, as bits -/
def whB (p : Nat → Bool) : Nat → Nat
  | 0 => 0
  | N + 1 => whB p N ||| (if p N = true then 2 ^ (N / 10) else 0)
def x_where (d : Dat) (cn : Nat) (sg : Nat → Int) : Int := if alh cn sg = true then ((whB (fitC d sg cn) (10 * dn_ d) : Nat) : Int) else -5
theorem whB_lt (p : Nat → Bool) : ∀ N, N ≤ 240 → whB p N < 16777216
  | 0, _ => by unfold whB; omega
  | N + 1, h => by
    have ih := whB_lt p N (by omega)
    have hp : 2 ^ (N / 10) ≤ 2 ^ 23 := Nat.pow_le_pow_right (by omega) (by omega)
    unfold whB
    refine Nat.or_lt_two_pow (n := 24) ih ?_
    split <;> omega
/-- the same from the row of all that fit -/
def whA (a : Nat → Int) : Nat → Nat
  | 0 => 0
  | i + 1 => whA a i ||| 2 ^ ((a i).toNat / 10)
theorem whA_B {p : Nat → Bool} {a : Nat → Int} : ∀ N, arrF p N a → whA a (ctN p N) = whB p N
  | 0, _ => rfl
  | N + 1, h => by
    have ih := whA_B N (fun k hk => h k (by omega))
    have e : ctN p (N + 1) = ctN p N + (if p N = true then 1 else 0) := rfl
    rw [e]
    unfold whB
    by_cases hp : p N = true
    · rw [if_pos hp, if_pos hp]
      show whA a (ctN p N) ||| _ = _
      rw [ih, h N (by omega) hp, Int.toNat_natCast]
    · rw [if_neg hp, if_neg hp, Nat.add_zero, Nat.or_zero, ih]
set_option maxRecDepth 100000 in
set_option maxHeartbeats 4000000 in
theorem c_Fwhere (d : Dat) (cn : Nat) (sg : Nat → Int) : cla 78 [vR 1, vU, vU, vU] d cn sg (vI (x_where d cn sg)) d cn sg := by
  intro σ h
  have e0 := c_isHoursAlone h.1
  have hs := h.1.1
  unfold x_where
  cases ha : alh cn sg with
  | false =>
    rw [ha] at e0
    refine ⟨σ, ?_, CS_rf h⟩
    simp (disch := first | assumption | omega | (exact shp_fok (by first | assumption | exact shp_sr _ _ (by assumption) | exact shp_sr _ _ (shp_sr _ _ (by assumption)) | exact shp_sr _ _ (shp_sr _ _ (shp_sr _ _ (by assumption)))) (by decide)) | (simp only [fok_sr, aok_sr]; first | assumption | (exact shp_fok (by first | assumption | exact shp_sr _ _ (by assumption) | exact shp_sr _ _ (shp_sr _ _ (by assumption)) | exact shp_sr _ _ (shp_sr _ _ (shp_sr _ _ (by assumption)))) (by decide))) | (refine shp_aok (by first | assumption | exact shp_sr _ _ (by assumption) | exact shp_sr _ _ (shp_sr _ _ (by assumption)) | exact shp_sr _ _ (shp_sr _ _ (shp_sr _ _ (by assumption)))) rfl rfl ?_ ?_ <;> omega) | (exact shp_sr _ _ (by assumption)) | (exact shp_sr _ _ (shp_sr _ _ (by assumption))) | (exact shp_sr _ _ (shp_sr _ _ (shp_sr _ _ (by assumption)))) | (left; assumption) | (exact b2i_or _) | (simp; done)) only [e78_0, e78_1, e78_4, e78_7, e78_10, e78_12, e78_13, e78_14, e78_17, e78_18, e78_19, e78_20, e78_21, e78_23, e78_24, e78_27, e78_28, e78_29, e78_30, e78_33, e78_34, e78_37, e78_39, e78_40, e78_41, e78_42, e78_43, e78_46, e78_49, e78_50, eq_self, ne_a, ne_b, ne_c, Nat.reduceEqDiff, lt0, bnd_ok, psh_I, psh_L, psh_R, psh_U, gt_sr, gr_sr, sk_sr, nn_sr, ↓reduceIte, Int.toNat_natCast, Int.reduceToNat, g1_2, e0, b2i_f, Bool.false_eq_true]
  | true =>
    rw [ha] at e0
    rw [if_pos rfl]
    obtain ⟨σ1, e1, c1, j1, r1⟩ := c_findFitting h ha
    have s1 := shp_chg c1 hs
    have h24 := dn24 h.2.2.1
    have hct := ct_le (fit_91 h.2.2.1 sg cn) (dn_ d)
    generalize fitC d sg cn = p at *
    refine ⟨σ1, ?_, SC_mo c1 rfl, CS_sc h c1 (sub_SC _ rfl) (by rw [chg_gt c1 (by decide)]; exact h.1.2.1) j1⟩
    have hab := whA_B (10 * dn_ d) r1
    -- all prefixes stay small
    have hsm : ∀ i, i ≤ ctN p (10 * dn_ d) → whA (gt σ1 22) i < 16777216 := by
      intro i
      induction i with
      | zero => intro _; unfold whA; omega
      | succ i ih =>
        intro hi
        obtain ⟨j, q1, q2, q3⟩ := ct_ex (p := p) (10 * dn_ d) i (by omega)
        have r2 := r1 j q1 q2
        rw [q3] at r2
        have hp : 2 ^ (j / 10) ≤ 2 ^ 23 := Nat.pow_le_pow_right (by omega) (by omega)
        unfold whA
        rw [r2, Int.toNat_natCast]
        exact Nat.or_lt_two_pow (n := 24) (ih (by omega)) (by omega)
    have L : run 78 22 [vR 1, vI (ctN p (10 * dn_ d) : Nat), vI (whA (gt σ1 22) 0 : Nat), vI 0] [] σ1 = some (vI (whB p (10 * dn_ d) : Nat), σ1) := by
      refine bk (P := fun k z => run 78 22 [vR 1, vI (ctN p (10 * dn_ d) : Nat), vI (whA (gt σ1 22) k : Nat), vI z] [] σ1 = some (vI (whB p (10 * dn_ d) : Nat), σ1)) (n := ctN p (10 * dn_ d)) ?_ ?_
      · have h4 : ¬ ((ctN p (10 * dn_ d) : Nat) : Int) < ((ctN p (10 * dn_ d) : Nat) : Int) := by omega
        rw [e78_22]
        simp (disch := first | assumption | omega | (exact shp_fok (by first | assumption | exact shp_sr _ _ (by assumption) | exact shp_sr _ _ (shp_sr _ _ (by assumption)) | exact shp_sr _ _ (shp_sr _ _ (shp_sr _ _ (by assumption)))) (by decide)) | (simp only [fok_sr, aok_sr]; first | assumption | (exact shp_fok (by first | assumption | exact shp_sr _ _ (by assumption) | exact shp_sr _ _ (shp_sr _ _ (by assumption)) | exact shp_sr _ _ (shp_sr _ _ (shp_sr _ _ (by assumption)))) (by decide))) | (refine shp_aok (by first | assumption | exact shp_sr _ _ (by assumption) | exact shp_sr _ _ (shp_sr _ _ (by assumption)) | exact shp_sr _ _ (shp_sr _ _ (shp_sr _ _ (by assumption)))) rfl rfl ?_ ?_ <;> omega) | (exact shp_sr _ _ (by assumption)) | (exact shp_sr _ _ (shp_sr _ _ (by assumption))) | (exact shp_sr _ _ (shp_sr _ _ (shp_sr _ _ (by assumption)))) | (left; assumption) | (exact b2i_or _) | (simp; done)) only [e78_23, e78_24, e78_49, e78_50, eq_self, ne_a, ne_b, ne_c, Nat.reduceEqDiff, lt0, bnd_ok, psh_I, psh_L, psh_R, psh_U, gt_sr, gr_sr, sk_sr, nn_sr, ↓reduceIte, Int.toNat_natCast, Int.reduceToNat, h4]
        rw [hab]
      · intro k hk hk' ih
        have w5 : wr ((k : Int) + 1) = (k : Int) + 1 := wr_id (by omega) (by omega)
        obtain ⟨j, q1, q2, q3⟩ := ct_ex (p := p) (10 * dn_ d) k hk
        have r2 := r1 j q1 q2
        rw [q3] at r2
        have at1 := c_atN (shp_ia (k := 22) (n := 216) s1 (by decide)) (j := k) (by omega)
        rw [r2] at at1
        have e9 : whA (gt σ1 22) (k + 1) = whA (gt σ1 22) k ||| 2 ^ (j / 10) := by
          show whA (gt σ1 22) k ||| 2 ^ ((gt σ1 22 k).toNat / 10) = _
          rw [r2, Int.toNat_natCast]
        rw [e9] at ih
        have hdv : (j : Int).tdiv 10 = ((j / 10 : Nat) : Int) := by rw [Int.tdiv_eq_ediv_of_nonneg (by omega)]; rfl
        have w6 : wr ((j / 10 : Nat) : Int) = ((j / 10 : Nat) : Int) := wr_id (by omega) (by omega)
        have hp : 2 ^ (j / 10) ≤ 2 ^ 23 := Nat.pow_le_pow_right (by omega) (by omega)
        have o1 := bShl_N (a := 1) (k := j / 10) (by omega) (by omega) (by omega)
        rw [Nat.one_mul, show ((1 : Nat) : Int) = 1 from rfl] at o1
        have o2 := bOr_N (a := whA (gt σ1 22) k) (b := 2 ^ (j / 10)) (by have := hsm k (by omega); omega) (by omega)
        have c10 : ¬ (10 : Int) = 0 := by decide
        rw [e78_22]
        simp (disch := first | assumption | omega | (exact shp_fok (by first | assumption | exact shp_sr _ _ (by assumption) | exact shp_sr _ _ (shp_sr _ _ (by assumption)) | exact shp_sr _ _ (shp_sr _ _ (shp_sr _ _ (by assumption)))) (by decide)) | (simp only [fok_sr, aok_sr]; first | assumption | (exact shp_fok (by first | assumption | exact shp_sr _ _ (by assumption) | exact shp_sr _ _ (shp_sr _ _ (by assumption)) | exact shp_sr _ _ (shp_sr _ _ (shp_sr _ _ (by assumption)))) (by decide))) | (refine shp_aok (by first | assumption | exact shp_sr _ _ (by assumption) | exact shp_sr _ _ (shp_sr _ _ (by assumption)) | exact shp_sr _ _ (shp_sr _ _ (shp_sr _ _ (by assumption)))) rfl rfl ?_ ?_ <;> omega) | (exact shp_sr _ _ (by assumption)) | (exact shp_sr _ _ (shp_sr _ _ (by assumption))) | (exact shp_sr _ _ (shp_sr _ _ (shp_sr _ _ (by assumption)))) | (left; assumption) | (exact b2i_or _) | (simp; done)) only [e78_23, e78_24, e78_27, e78_28, e78_29, e78_30, e78_33, e78_34, e78_37, e78_39, e78_40, e78_41, e78_42, e78_43, e78_46, eq_self, ne_a, ne_b, ne_c, Nat.reduceEqDiff, lt0, bnd_ok, psh_I, psh_L, psh_R, psh_U, gt_sr, gr_sr, sk_sr, nn_sr, ↓reduceIte, Int.toNat_natCast, Int.reduceToNat, hk', g1_5, at1, c10, hdv, w6, o1, o2, w5]
        exact ih
    simp (disch := first | assumption | omega | (exact shp_fok (by first | assumption | exact shp_sr _ _ (by assumption) | exact shp_sr _ _ (shp_sr _ _ (by assumption)) | exact shp_sr _ _ (shp_sr _ _ (shp_sr _ _ (by assumption)))) (by decide)) | (simp only [fok_sr, aok_sr]; first | assumption | (exact shp_fok (by first | assumption | exact shp_sr _ _ (by assumption) | exact shp_sr _ _ (shp_sr _ _ (by assumption)) | exact shp_sr _ _ (shp_sr _ _ (shp_sr _ _ (by assumption)))) (by decide))) | (refine shp_aok (by first | assumption | exact shp_sr _ _ (by assumption) | exact shp_sr _ _ (shp_sr _ _ (by assumption)) | exact shp_sr _ _ (shp_sr _ _ (shp_sr _ _ (by assumption)))) rfl rfl ?_ ?_ <;> omega) | (exact shp_sr _ _ (by assumption)) | (exact shp_sr _ _ (shp_sr _ _ (by assumption))) | (exact shp_sr _ _ (shp_sr _ _ (shp_sr _ _ (by assumption)))) | (left; assumption) | (exact b2i_or _) | (simp; done)) only [e78_0, e78_1, e78_4, e78_7, e78_10, e78_12, e78_13, e78_14, e78_17, e78_18, e78_19, e78_20, e78_21, eq_self, ne_a, ne_b, ne_c, Nat.reduceEqDiff, lt0, bnd_ok, psh_I, psh_L, psh_R, psh_U, gt_sr, gr_sr, sk_sr, nn_sr, ↓reduceIte, Int.toNat_natCast, Int.reduceToNat, g1_2, e0, b2i_t, e1, Int.reduceEq]
    exact L
set_option maxRecDepth 100000 in
set_option maxHeartbeats 4000000 in
/-- whether one cut fits, in the model -/
theorem m_wasCut {σ : St} {d : Dat} {cn : Nat} {sg : Nat → Int} (h : mdl σ d cn sg) (ha : alh cn sg = true) {c to : Nat} (hc : c < dn_ d) (hto : to < 10) : ∃ σ', run 139 0 [vR 24, vI (c : Int), vI (to : Int), vU, vU] [] σ = some (vI (b2i (fitP d sg cn c to)), σ') ∧ sch σ σ' ∧ mdl σ' d cn sg := by
  obtain ⟨a1, a2, a3, a4, a5, a6, a7, a8, a9, a10⟩ := id h
  have hs := a1.1
  have h24 := dn24 a9
  unfold fitP
  by_cases h1 : (to : Int) < dt d c
  · rw [decide_eq_true h1, Bool.true_and]
    obtain ⟨σ1, e1, c1, r1⟩ := m_asNow h
    have htc := ok_t a9 c (by omega)
    have o2 : okd (fog d (ru (dt d) c (to : Int)) (dla d)) := ok_fog a9 (tk_ru (ok_t a9) (by omega)) (ok_l a9) (zr_ru (ok_zt a9) hc _) (ok_zl a9)
    have r2 : nowR (sr σ1 29 (ru (dt d) c (to : Int))) (fog d (ru (dt d) c (to : Int)) (dla d)) := by
      obtain ⟨⟨q1, q2, q3, q4, q5, q6⟩, q7, q8, q9⟩ := r1
      exact ⟨⟨q1, q2, q3, q4, q5, q6⟩, gt_e _ _ _, q8, o2⟩
    have k9 : gt (sr σ1 29 (ru (dt d) c (to : Int))) 24 9 = (cn : Int) := by rw [gt_n _ _ (by decide), c1.2 _ (by decide)]; exact a4
    have k28 : gt (sr σ1 29 (ru (dt d) c (to : Int))) 28 = sg := by rw [gt_n _ _ (by decide), chg_gt c1.1 (by decide)]; exact a7
    obtain ⟨σ2, e2, c2, r3⟩ := m_goHours r2 k9 k28 a8.1 ha
    have cA : sch σ1 (sr σ1 29 (ru (dt d) c (to : Int))) := sch_of (S := [29]) (chg_sr (chg_rf _ _) (by simp)) rfl
    have sA := sch_tr (sch_tr c1 cA) (sch_of c2 rfl)
    have m2 := mdl_sch h sA (nowR_z r3)
    refine ⟨σ2, ?_, sA, m2⟩
    obtain ⟨b1, b2, b3, b4, b5, b6, b7, b8, b9, b10⟩ := m2
    obtain ⟨f3, n29, -, o3⟩ := id r3
    have hs1 := r1.1.1
    have hs2 := f3.1
    have h8 := a9.2.2.2.1
    have hsi := a9.2.2.2.2.2.2.2.2.2.2.2.2.2
    have hpf := pah_fog sg cn (fog d (ru (dt d) c (to : Int)) (dla d))
    have hsiD : siD (pah (fog d (ru (dt d) c (to : Int)) (dla d)) sg cn) = alN (fun i => decide (dt (pah (fog d (ru (dt d) c (to : Int)) (dla d)) sg cn) (dsc d i).toNat = dsn d i)) (dsi d) := by
      unfold siD
      generalize dt (pah (fog d (ru (dt d) c (to : Int)) (dla d)) sg cn) = T at *
      rw [hpf]
      rfl
    rw [hsiD]
    clear hsiD hpf
    generalize dt (pah (fog d (ru (dt d) c (to : Int)) (dla d)) sg cn) = T at *
    generalize hp : (fun i => decide (T (dsc d i).toNat = dsn d i)) = p
    have hpi : ∀ i, p i = decide (T (dsc d i).toNat = dsn d i) := fun i => by rw [← hp]
    have L : run 139 32 [vR 24, vI (c : Int), vI (to : Int), vI (b2i (alN p 0)), vI 0] [] σ2 = some (vI (b2i (alN p (dsi d))), σ2) := by
      refine bk (P := fun k z => run 139 32 [vR 24, vI (c : Int), vI (to : Int), vI (b2i (alN p k)), vI z] [] σ2 = some (vI (b2i (alN p (dsi d))), σ2)) (n := dsi d) ?_ ?_
      · have h4 : ¬ ((dsi d : Nat) : Int) < ((dsi d : Nat) : Int) := by omega
        rw [e139_32]
        simp (disch := first | assumption | omega | (exact shp_fok (by first | assumption | exact shp_sr _ _ (by assumption) | exact shp_sr _ _ (shp_sr _ _ (by assumption)) | exact shp_sr _ _ (shp_sr _ _ (shp_sr _ _ (by assumption)))) (by decide)) | (simp only [fok_sr, aok_sr]; first | assumption | (exact shp_fok (by first | assumption | exact shp_sr _ _ (by assumption) | exact shp_sr _ _ (shp_sr _ _ (by assumption)) | exact shp_sr _ _ (shp_sr _ _ (shp_sr _ _ (by assumption)))) (by decide))) | (refine shp_aok (by first | assumption | exact shp_sr _ _ (by assumption) | exact shp_sr _ _ (shp_sr _ _ (by assumption)) | exact shp_sr _ _ (shp_sr _ _ (shp_sr _ _ (by assumption)))) rfl rfl ?_ ?_ <;> omega) | (exact shp_sr _ _ (by assumption)) | (exact shp_sr _ _ (shp_sr _ _ (by assumption))) | (exact shp_sr _ _ (shp_sr _ _ (shp_sr _ _ (by assumption)))) | (left; assumption) | (exact b2i_or _) | (simp; done)) only [e139_34, e139_35, e139_38, e139_85, e139_86, eq_self, ne_a, ne_b, ne_c, Nat.reduceEqDiff, lt0, bnd_ok, psh_I, psh_L, psh_R, psh_U, gt_sr, gr_sr, sk_sr, nn_sr, ↓reduceIte, Int.toNat_natCast, Int.reduceToNat, b3, h4]
      · intro k hk hk' ih
        have w5 : wr ((k : Int) + 1) = (k : Int) + 1 := wr_id (by omega) (by omega)
        have w2 : wr (2 * (k : Int)) = ((2 * k : Nat) : Int) := by rw [wr_id (by omega) (by omega)]; omega
        have w3 : wr (((2 * k : Nat) : Int) + 1) = ((2 * k + 1 : Nat) : Int) := by rw [wr_id (by omega) (by omega)]; omega
        have hsk := (hsi k hk).1
        obtain ⟨k1, k2⟩ := b6 k hk
        obtain ⟨j, hj⟩ := nat_of hsk.1
        have hjn : j < 24 := by omega
        have e3 : alN p (k + 1) = (alN p k && p k) := rfl
        rw [e3, hpi, hj, Int.toNat_natCast] at ih
        rw [hj] at k1
        rw [e139_32]
        cases hx : alN p k with
        | false =>
          rw [hx, Bool.false_and] at ih
          simp (disch := first | assumption | omega | (exact shp_fok (by first | assumption | exact shp_sr _ _ (by assumption) | exact shp_sr _ _ (shp_sr _ _ (by assumption)) | exact shp_sr _ _ (shp_sr _ _ (shp_sr _ _ (by assumption)))) (by decide)) | (simp only [fok_sr, aok_sr]; first | assumption | (exact shp_fok (by first | assumption | exact shp_sr _ _ (by assumption) | exact shp_sr _ _ (shp_sr _ _ (by assumption)) | exact shp_sr _ _ (shp_sr _ _ (shp_sr _ _ (by assumption)))) (by decide))) | (refine shp_aok (by first | assumption | exact shp_sr _ _ (by assumption) | exact shp_sr _ _ (shp_sr _ _ (by assumption)) | exact shp_sr _ _ (shp_sr _ _ (shp_sr _ _ (by assumption)))) rfl rfl ?_ ?_ <;> omega) | (exact shp_sr _ _ (by assumption)) | (exact shp_sr _ _ (shp_sr _ _ (by assumption))) | (exact shp_sr _ _ (shp_sr _ _ (shp_sr _ _ (by assumption)))) | (left; assumption) | (exact b2i_or _) | (simp; done)) only [e139_34, e139_35, e139_38, e139_41, e139_42, e139_45, e139_46, e139_49, e139_50, e139_53, e139_54, e139_56, e139_57, e139_58, e139_59, e139_60, e139_63, e139_64, e139_66, e139_67, e139_68, e139_69, e139_70, e139_73, e139_74, e139_77, e139_78, e139_79, e139_82, eq_self, ne_a, ne_b, ne_c, Nat.reduceEqDiff, lt0, bnd_ok, psh_I, psh_L, psh_R, psh_U, gt_sr, gr_sr, sk_sr, nn_sr, ↓reduceIte, Int.toNat_natCast, Int.reduceToNat, b3, hk', b2i_f, w5]
          exact ih
        | true =>
          rw [hx, Bool.true_and] at ih
          by_cases hh : T j = dsn d k
          · rw [decide_eq_true hh] at ih
            simp (disch := first | assumption | omega | (exact shp_fok (by first | assumption | exact shp_sr _ _ (by assumption) | exact shp_sr _ _ (shp_sr _ _ (by assumption)) | exact shp_sr _ _ (shp_sr _ _ (shp_sr _ _ (by assumption)))) (by decide)) | (simp only [fok_sr, aok_sr]; first | assumption | (exact shp_fok (by first | assumption | exact shp_sr _ _ (by assumption) | exact shp_sr _ _ (shp_sr _ _ (by assumption)) | exact shp_sr _ _ (shp_sr _ _ (shp_sr _ _ (by assumption)))) (by decide))) | (refine shp_aok (by first | assumption | exact shp_sr _ _ (by assumption) | exact shp_sr _ _ (shp_sr _ _ (by assumption)) | exact shp_sr _ _ (shp_sr _ _ (shp_sr _ _ (by assumption)))) rfl rfl ?_ ?_ <;> omega) | (exact shp_sr _ _ (by assumption)) | (exact shp_sr _ _ (shp_sr _ _ (by assumption))) | (exact shp_sr _ _ (shp_sr _ _ (shp_sr _ _ (by assumption)))) | (left; assumption) | (exact b2i_or _) | (simp; done)) only [e139_34, e139_35, e139_38, e139_41, e139_42, e139_45, e139_46, e139_49, e139_50, e139_53, e139_54, e139_56, e139_57, e139_58, e139_59, e139_60, e139_63, e139_64, e139_66, e139_67, e139_68, e139_69, e139_70, e139_73, e139_74, e139_77, e139_78, e139_79, e139_82, eq_self, ne_a, ne_b, ne_c, Nat.reduceEqDiff, lt0, bnd_ok, psh_I, psh_L, psh_R, psh_U, gt_sr, gr_sr, sk_sr, nn_sr, ↓reduceIte, Int.toNat_natCast, Int.reduceToNat, b3, hk', b2i_t, g24_11, g24_8, w2, w3, k1, k2, n29, hh, w5, Int.reduceEq]
            exact ih
          · rw [decide_eq_false hh] at ih
            simp (disch := first | assumption | omega | (exact shp_fok (by first | assumption | exact shp_sr _ _ (by assumption) | exact shp_sr _ _ (shp_sr _ _ (by assumption)) | exact shp_sr _ _ (shp_sr _ _ (shp_sr _ _ (by assumption)))) (by decide)) | (simp only [fok_sr, aok_sr]; first | assumption | (exact shp_fok (by first | assumption | exact shp_sr _ _ (by assumption) | exact shp_sr _ _ (shp_sr _ _ (by assumption)) | exact shp_sr _ _ (shp_sr _ _ (shp_sr _ _ (by assumption)))) (by decide))) | (refine shp_aok (by first | assumption | exact shp_sr _ _ (by assumption) | exact shp_sr _ _ (shp_sr _ _ (by assumption)) | exact shp_sr _ _ (shp_sr _ _ (shp_sr _ _ (by assumption)))) rfl rfl ?_ ?_ <;> omega) | (exact shp_sr _ _ (by assumption)) | (exact shp_sr _ _ (shp_sr _ _ (by assumption))) | (exact shp_sr _ _ (shp_sr _ _ (shp_sr _ _ (by assumption)))) | (left; assumption) | (exact b2i_or _) | (simp; done)) only [e139_34, e139_35, e139_38, e139_41, e139_42, e139_45, e139_46, e139_49, e139_50, e139_53, e139_54, e139_56, e139_57, e139_58, e139_59, e139_60, e139_63, e139_64, e139_66, e139_67, e139_68, e139_69, e139_70, e139_73, e139_74, e139_77, e139_78, e139_79, e139_82, eq_self, ne_a, ne_b, ne_c, Nat.reduceEqDiff, lt0, bnd_ok, psh_I, psh_L, psh_R, psh_U, gt_sr, gr_sr, sk_sr, nn_sr, ↓reduceIte, Int.toNat_natCast, Int.reduceToNat, b3, hk', b2i_t, g24_11, g24_8, w2, w3, k1, k2, n29, hh, w5, Int.reduceEq]
            exact ih
    have h5 : ¬ dt d c ≤ (to : Int) := by omega
    have e29 : gt σ1 29 = dt d := r1.2.1
    simp (disch := first | assumption | omega | (exact shp_fok (by first | assumption | exact shp_sr _ _ (by assumption) | exact shp_sr _ _ (shp_sr _ _ (by assumption)) | exact shp_sr _ _ (shp_sr _ _ (shp_sr _ _ (by assumption)))) (by decide)) | (simp only [fok_sr, aok_sr]; first | assumption | (exact shp_fok (by first | assumption | exact shp_sr _ _ (by assumption) | exact shp_sr _ _ (shp_sr _ _ (by assumption)) | exact shp_sr _ _ (shp_sr _ _ (shp_sr _ _ (by assumption)))) (by decide))) | (refine shp_aok (by first | assumption | exact shp_sr _ _ (by assumption) | exact shp_sr _ _ (shp_sr _ _ (by assumption)) | exact shp_sr _ _ (shp_sr _ _ (shp_sr _ _ (by assumption)))) rfl rfl ?_ ?_ <;> omega) | (exact shp_sr _ _ (by assumption)) | (exact shp_sr _ _ (shp_sr _ _ (by assumption))) | (exact shp_sr _ _ (shp_sr _ _ (shp_sr _ _ (by assumption)))) | (left; assumption) | (exact b2i_or _) | (simp; done)) only [e139_0, e139_1, e139_2, e139_5, e139_6, e139_7, e139_10, e139_11, e139_12, e139_13, e139_16, e139_17, e139_20, e139_21, e139_22, e139_23, e139_24, e139_27, e139_28, e139_29, e139_30, eq_self, ne_a, ne_b, ne_c, Nat.reduceEqDiff, lt0, bnd_ok, psh_I, psh_L, psh_R, psh_U, gt_sr, gr_sr, sk_sr, nn_sr, ↓reduceIte, Int.toNat_natCast, Int.reduceToNat, g24_2, g24_11, a5, h1, e1, e29, e2]
    exact L
  · rw [decide_eq_false h1, Bool.false_and]
    refine ⟨σ, ?_, sch_rf _, h⟩
    simp (disch := first | assumption | omega | (exact shp_fok (by first | assumption | exact shp_sr _ _ (by assumption) | exact shp_sr _ _ (shp_sr _ _ (by assumption)) | exact shp_sr _ _ (shp_sr _ _ (shp_sr _ _ (by assumption)))) (by decide)) | (simp only [fok_sr, aok_sr]; first | assumption | (exact shp_fok (by first | assumption | exact shp_sr _ _ (by assumption) | exact shp_sr _ _ (shp_sr _ _ (by assumption)) | exact shp_sr _ _ (shp_sr _ _ (shp_sr _ _ (by assumption)))) (by decide))) | (refine shp_aok (by first | assumption | exact shp_sr _ _ (by assumption) | exact shp_sr _ _ (shp_sr _ _ (by assumption)) | exact shp_sr _ _ (shp_sr _ _ (shp_sr _ _ (by assumption)))) rfl rfl ?_ ?_ <;> omega) | (exact shp_sr _ _ (by assumption)) | (exact shp_sr _ _ (shp_sr _ _ (by assumption))) | (exact shp_sr _ _ (shp_sr _ _ (shp_sr _ _ (by assumption)))) | (left; assumption) | (exact b2i_or _) | (simp; done)) only [e139_0, e139_1, e139_2, e139_5, e139_6, e139_7, e139_10, e139_11, e139_12, e139_13, e139_16, e139_17, e139_20, e139_21, e139_22, e139_23, e139_24, e139_27, e139_28, e139_29, e139_30, eq_self, ne_a, ne_b, ne_c, Nat.reduceEqDiff, lt0, bnd_ok, psh_I, psh_L, psh_R, psh_U, gt_sr, gr_sr, sk_sr, nn_sr, ↓reduceIte, Int.toNat_natCast, Int.reduceToNat, g24_2, a5, h1, b2i_f]
theorem code_a {k : Nat} (hk : k < 2147483648) : (k : Int).tdiv 10 = ((k / 10 : Nat) : Int) ∧ (k : Int).tmod 10 = ((k % 10 : Nat) : Int) ∧ wr ((k / 10 : Nat) : Int) = ((k / 10 : Nat) : Int) ∧ wr ((k % 10 : Nat) : Int) = ((k % 10 : Nat) : Int) := by
  refine ⟨by rw [Int.tdiv_eq_ediv_of_nonneg (by omega)]; rfl, by rw [Int.tmod_eq_emod_of_nonneg (by omega)]; rfl, wr_id (by omega) (by omega), wr_id (by omega) (by omega)⟩
set_option maxRecDepth 100000 in
set_option maxHeartbeats 4000000 in
theorem m_Mwhat (i : Int) (d : Dat) (cn : Nat) (sg : Nat → Int) : mla 138 [vR 24, vI i, vU, vU] d cn sg (vI (x_what d cn sg i)) d cn sg := by
  intro σ h
  have e0 := m_areHours h
  have hs := h.1.1
  have ho := h.2.2.2.2.2.2.2.2.1
  have h24 := dn24 ho
  unfold x_what
  cases ha : alh cn sg with
  | false =>
    rw [ha] at e0
    refine ⟨σ, ?_, mdl_rf h⟩
    simp (disch := first | assumption | omega | (exact shp_fok (by first | assumption | exact shp_sr _ _ (by assumption) | exact shp_sr _ _ (shp_sr _ _ (by assumption)) | exact shp_sr _ _ (shp_sr _ _ (shp_sr _ _ (by assumption)))) (by decide)) | (simp only [fok_sr, aok_sr]; first | assumption | (exact shp_fok (by first | assumption | exact shp_sr _ _ (by assumption) | exact shp_sr _ _ (shp_sr _ _ (by assumption)) | exact shp_sr _ _ (shp_sr _ _ (shp_sr _ _ (by assumption)))) (by decide))) | (refine shp_aok (by first | assumption | exact shp_sr _ _ (by assumption) | exact shp_sr _ _ (shp_sr _ _ (by assumption)) | exact shp_sr _ _ (shp_sr _ _ (shp_sr _ _ (by assumption)))) rfl rfl ?_ ?_ <;> omega) | (exact shp_sr _ _ (by assumption)) | (exact shp_sr _ _ (shp_sr _ _ (by assumption))) | (exact shp_sr _ _ (shp_sr _ _ (shp_sr _ _ (by assumption)))) | (left; assumption) | (exact b2i_or _) | (simp; done)) only [e138_0, e138_1, e138_4, e138_7, e138_9, e138_10, e138_11, e138_12, e138_13, e138_15, e138_17, e138_18, e138_21, e138_22, e138_25, e138_26, e138_27, e138_29, e138_30, e138_31, e138_33, e138_34, e138_37, e138_40, e138_41, e138_42, e138_45, e138_46, e138_47, e138_50, e138_53, e138_56, e138_57, e138_58, e138_61, e138_62, e138_65, e138_67, eq_self, ne_a, ne_b, ne_c, Nat.reduceEqDiff, lt0, bnd_ok, psh_I, psh_L, psh_R, psh_U, gt_sr, gr_sr, sk_sr, nn_sr, ↓reduceIte, Int.toNat_natCast, Int.reduceToNat, e0, b2i_f, Bool.false_eq_true]
  | true =>
    rw [ha] at e0
    rw [if_pos rfl]
    have wc := fun τ (hm : mdl τ d cn sg) (c to : Nat) h1 h2 => m_wasCut hm ha (c := c) (to := to) h1 h2
    have hfc : ∀ k, fitC d sg cn k = fitP d sg cn (k / 10) (k % 10) := fun _ => rfl
    generalize fitC d sg cn = p at *
    have L : ∀ τ, mdl τ d cn sg → ∃ τ', run 138 14 [vR 24, vI i, vI (ctN p 0 : Nat), vI 0] [] τ = some (vI (whN p i (10 * dn_ d - 0) 0), τ') ∧ sch τ τ' ∧ mdl τ' d cn sg := by
      refine bk (P := fun k z => ∀ τ, mdl τ d cn sg → ∃ τ', run 138 14 [vR 24, vI i, vI (ctN p k : Nat), vI z] [] τ = some (vI (whN p i (10 * dn_ d - k) k), τ') ∧ sch τ τ' ∧ mdl τ' d cn sg) (n := 10 * dn_ d) ?_ ?_
      · intro τ hm
        have ec := m_cells hm.1 ho
        have ht := hm.1.1
        have w1 : wr (10 * (dn_ d : Int)) = ((10 * dn_ d : Nat) : Int) := by rw [wr_id (by omega) (by omega)]; omega
        have h4 : ¬ ((10 * dn_ d : Nat) : Int) < ((10 * dn_ d : Nat) : Int) := by omega
        refine ⟨τ, ?_, sch_rf _, hm⟩
        rw [Nat.sub_self, e138_14]
        unfold whN
        by_cases h5 : i = -1
        · simp (disch := first | assumption | omega | (exact shp_fok (by first | assumption | exact shp_sr _ _ (by assumption) | exact shp_sr _ _ (shp_sr _ _ (by assumption)) | exact shp_sr _ _ (shp_sr _ _ (shp_sr _ _ (by assumption)))) (by decide)) | (simp only [fok_sr, aok_sr]; first | assumption | (exact shp_fok (by first | assumption | exact shp_sr _ _ (by assumption) | exact shp_sr _ _ (shp_sr _ _ (by assumption)) | exact shp_sr _ _ (shp_sr _ _ (shp_sr _ _ (by assumption)))) (by decide))) | (refine shp_aok (by first | assumption | exact shp_sr _ _ (by assumption) | exact shp_sr _ _ (shp_sr _ _ (by assumption)) | exact shp_sr _ _ (shp_sr _ _ (shp_sr _ _ (by assumption)))) rfl rfl ?_ ?_ <;> omega) | (exact shp_sr _ _ (by assumption)) | (exact shp_sr _ _ (shp_sr _ _ (by assumption))) | (exact shp_sr _ _ (shp_sr _ _ (shp_sr _ _ (by assumption)))) | (left; assumption) | (exact b2i_or _) | (simp; done)) only [e138_15, e138_17, e138_18, e138_21, e138_22, e138_56, e138_57, e138_58, e138_61, e138_62, e138_65, e138_67, eq_self, ne_a, ne_b, ne_c, Nat.reduceEqDiff, lt0, bnd_ok, psh_I, psh_L, psh_R, psh_U, gt_sr, gr_sr, sk_sr, nn_sr, ↓reduceIte, Int.toNat_natCast, Int.reduceToNat, ec, w1, h4, h5]
        · simp (disch := first | assumption | omega | (exact shp_fok (by first | assumption | exact shp_sr _ _ (by assumption) | exact shp_sr _ _ (shp_sr _ _ (by assumption)) | exact shp_sr _ _ (shp_sr _ _ (shp_sr _ _ (by assumption)))) (by decide)) | (simp only [fok_sr, aok_sr]; first | assumption | (exact shp_fok (by first | assumption | exact shp_sr _ _ (by assumption) | exact shp_sr _ _ (shp_sr _ _ (by assumption)) | exact shp_sr _ _ (shp_sr _ _ (shp_sr _ _ (by assumption)))) (by decide))) | (refine shp_aok (by first | assumption | exact shp_sr _ _ (by assumption) | exact shp_sr _ _ (shp_sr _ _ (by assumption)) | exact shp_sr _ _ (shp_sr _ _ (shp_sr _ _ (by assumption)))) rfl rfl ?_ ?_ <;> omega) | (exact shp_sr _ _ (by assumption)) | (exact shp_sr _ _ (shp_sr _ _ (by assumption))) | (exact shp_sr _ _ (shp_sr _ _ (shp_sr _ _ (by assumption)))) | (left; assumption) | (exact b2i_or _) | (simp; done)) only [e138_15, e138_17, e138_18, e138_21, e138_22, e138_56, e138_57, e138_58, e138_61, e138_62, e138_65, e138_67, eq_self, ne_a, ne_b, ne_c, Nat.reduceEqDiff, lt0, bnd_ok, psh_I, psh_L, psh_R, psh_U, gt_sr, gr_sr, sk_sr, nn_sr, ↓reduceIte, Int.toNat_natCast, Int.reduceToNat, ec, w1, h4, h5]
      · intro k hk hk' ih τ hm
        have ec := m_cells hm.1 ho
        have ht := hm.1.1
        have w1 : wr (10 * (dn_ d : Int)) = ((10 * dn_ d : Nat) : Int) := by rw [wr_id (by omega) (by omega)]; omega
        have w5 : wr ((k : Int) + 1) = (k : Int) + 1 := wr_id (by omega) (by omega)
        have c10 : ¬ (10 : Int) = 0 := by decide
        obtain ⟨ca, cb, cc, cd'⟩ := code_a (k := k) (by omega)
        obtain ⟨τ1, e1, s1, m1⟩ := wc τ hm (k / 10) (k % 10) (by omega) (by omega)
        rw [← hfc k] at e1
        have e3 : whN p i (10 * dn_ d - k) k = if p k = true ∧ (ctN p k : Int) = i then (k : Int) else whN p i (10 * dn_ d - (k + 1)) (k + 1) := by
          rw [show 10 * dn_ d - k = (10 * dn_ d - (k + 1)) + 1 by omega]
          rfl
        have e4 : ctN p (k + 1) = ctN p k + (if p k = true then 1 else 0) := rfl
        have hcm := (ct_mono p 0 k).2
        rw [Nat.zero_add] at hcm
        have hc0 : ctN p 0 = 0 := rfl
        rw [e3]
        cases hx : p k with
        | true =>
          rw [hx] at e1
          rw [hx, if_pos rfl] at e4
          by_cases h5 : (ctN p k : Int) = i
          · rw [if_pos ⟨rfl, h5⟩]
            refine ⟨τ1, ?_, s1, m1⟩
            rw [e138_14]
            simp (disch := first | assumption | omega | (exact shp_fok (by first | assumption | exact shp_sr _ _ (by assumption) | exact shp_sr _ _ (shp_sr _ _ (by assumption)) | exact shp_sr _ _ (shp_sr _ _ (shp_sr _ _ (by assumption)))) (by decide)) | (simp only [fok_sr, aok_sr]; first | assumption | (exact shp_fok (by first | assumption | exact shp_sr _ _ (by assumption) | exact shp_sr _ _ (shp_sr _ _ (by assumption)) | exact shp_sr _ _ (shp_sr _ _ (shp_sr _ _ (by assumption)))) (by decide))) | (refine shp_aok (by first | assumption | exact shp_sr _ _ (by assumption) | exact shp_sr _ _ (shp_sr _ _ (by assumption)) | exact shp_sr _ _ (shp_sr _ _ (shp_sr _ _ (by assumption)))) rfl rfl ?_ ?_ <;> omega) | (exact shp_sr _ _ (by assumption)) | (exact shp_sr _ _ (shp_sr _ _ (by assumption))) | (exact shp_sr _ _ (shp_sr _ _ (shp_sr _ _ (by assumption)))) | (left; assumption) | (exact b2i_or _) | (simp; done)) only [e138_15, e138_17, e138_18, e138_21, e138_22, e138_25, e138_26, e138_27, e138_29, e138_30, e138_31, e138_33, e138_34, e138_37, e138_40, e138_41, e138_42, e138_45, e138_46, e138_47, e138_50, e138_53, eq_self, ne_a, ne_b, ne_c, Nat.reduceEqDiff, lt0, bnd_ok, psh_I, psh_L, psh_R, psh_U, gt_sr, gr_sr, sk_sr, nn_sr, ↓reduceIte, Int.toNat_natCast, Int.reduceToNat, ec, w1, hk', c10, ca, cb, cc, cd', e1, b2i_t, h5, Int.reduceEq]
          · rw [if_neg (fun h => h5 h.2)]
            obtain ⟨τ2, e2, s2, m2⟩ := ih τ1 m1
            have w6 : wr ((ctN p k : Int) + 1) = ((ctN p (k + 1) : Nat) : Int) := by rw [e4, wr_id (by omega) (by omega)]; omega
            refine ⟨τ2, ?_, sch_tr s1 s2, m2⟩
            rw [e138_14]
            simp (disch := first | assumption | omega | (exact shp_fok (by first | assumption | exact shp_sr _ _ (by assumption) | exact shp_sr _ _ (shp_sr _ _ (by assumption)) | exact shp_sr _ _ (shp_sr _ _ (shp_sr _ _ (by assumption)))) (by decide)) | (simp only [fok_sr, aok_sr]; first | assumption | (exact shp_fok (by first | assumption | exact shp_sr _ _ (by assumption) | exact shp_sr _ _ (shp_sr _ _ (by assumption)) | exact shp_sr _ _ (shp_sr _ _ (shp_sr _ _ (by assumption)))) (by decide))) | (refine shp_aok (by first | assumption | exact shp_sr _ _ (by assumption) | exact shp_sr _ _ (shp_sr _ _ (by assumption)) | exact shp_sr _ _ (shp_sr _ _ (shp_sr _ _ (by assumption)))) rfl rfl ?_ ?_ <;> omega) | (exact shp_sr _ _ (by assumption)) | (exact shp_sr _ _ (shp_sr _ _ (by assumption))) | (exact shp_sr _ _ (shp_sr _ _ (shp_sr _ _ (by assumption)))) | (left; assumption) | (exact b2i_or _) | (simp; done)) only [e138_15, e138_17, e138_18, e138_21, e138_22, e138_25, e138_26, e138_27, e138_29, e138_30, e138_31, e138_33, e138_34, e138_37, e138_40, e138_41, e138_42, e138_45, e138_46, e138_47, e138_50, e138_53, eq_self, ne_a, ne_b, ne_c, Nat.reduceEqDiff, lt0, bnd_ok, psh_I, psh_L, psh_R, psh_U, gt_sr, gr_sr, sk_sr, nn_sr, ↓reduceIte, Int.toNat_natCast, Int.reduceToNat, ec, w1, hk', c10, ca, cb, cc, cd', e1, b2i_t, h5, w5, w6, Int.reduceEq]
            exact e2
        | false =>
          rw [hx] at e1
          rw [hx, if_neg Bool.false_ne_true, Nat.add_zero] at e4
          rw [if_neg (fun h => Bool.false_ne_true h.1)]
          obtain ⟨τ2, e2, s2, m2⟩ := ih τ1 m1
          rw [e4] at e2
          refine ⟨τ2, ?_, sch_tr s1 s2, m2⟩
          rw [e138_14]
          simp (disch := first | assumption | omega | (exact shp_fok (by first | assumption | exact shp_sr _ _ (by assumption) | exact shp_sr _ _ (shp_sr _ _ (by assumption)) | exact shp_sr _ _ (shp_sr _ _ (shp_sr _ _ (by assumption)))) (by decide)) | (simp only [fok_sr, aok_sr]; first | assumption | (exact shp_fok (by first | assumption | exact shp_sr _ _ (by assumption) | exact shp_sr _ _ (shp_sr _ _ (by assumption)) | exact shp_sr _ _ (shp_sr _ _ (shp_sr _ _ (by assumption)))) (by decide))) | (refine shp_aok (by first | assumption | exact shp_sr _ _ (by assumption) | exact shp_sr _ _ (shp_sr _ _ (by assumption)) | exact shp_sr _ _ (shp_sr _ _ (shp_sr _ _ (by assumption)))) rfl rfl ?_ ?_ <;> omega) | (exact shp_sr _ _ (by assumption)) | (exact shp_sr _ _ (shp_sr _ _ (by assumption))) | (exact shp_sr _ _ (shp_sr _ _ (shp_sr _ _ (by assumption)))) | (left; assumption) | (exact b2i_or _) | (simp; done)) only [e138_15, e138_17, e138_18, e138_21, e138_22, e138_25, e138_26, e138_27, e138_29, e138_30, e138_31, e138_33, e138_34, e138_37, e138_40, e138_41, e138_42, e138_45, e138_46, e138_47, e138_50, e138_53, eq_self, ne_a, ne_b, ne_c, Nat.reduceEqDiff, lt0, bnd_ok, psh_I, psh_L, psh_R, psh_U, gt_sr, gr_sr, sk_sr, nn_sr, ↓reduceIte, Int.toNat_natCast, Int.reduceToNat, ec, w1, hk', c10, ca, cb, cc, cd', e1, b2i_f, w5]
          exact e2
    obtain ⟨σ1, e1, s1, m1⟩ := L σ h
    refine ⟨σ1, ?_, sch_SMo s1, m1⟩
    rw [Nat.sub_zero] at e1
    simp (disch := first | assumption | omega | (exact shp_fok (by first | assumption | exact shp_sr _ _ (by assumption) | exact shp_sr _ _ (shp_sr _ _ (by assumption)) | exact shp_sr _ _ (shp_sr _ _ (shp_sr _ _ (by assumption)))) (by decide)) | (simp only [fok_sr, aok_sr]; first | assumption | (exact shp_fok (by first | assumption | exact shp_sr _ _ (by assumption) | exact shp_sr _ _ (shp_sr _ _ (by assumption)) | exact shp_sr _ _ (shp_sr _ _ (shp_sr _ _ (by assumption)))) (by decide))) | (refine shp_aok (by first | assumption | exact shp_sr _ _ (by assumption) | exact shp_sr _ _ (shp_sr _ _ (by assumption)) | exact shp_sr _ _ (shp_sr _ _ (shp_sr _ _ (by assumption)))) rfl rfl ?_ ?_ <;> omega) | (exact shp_sr _ _ (by assumption)) | (exact shp_sr _ _ (shp_sr _ _ (by assumption))) | (exact shp_sr _ _ (shp_sr _ _ (shp_sr _ _ (by assumption)))) | (left; assumption) | (exact b2i_or _) | (simp; done)) only [e138_0, e138_1, e138_4, e138_7, e138_9, e138_10, e138_11, e138_12, e138_13, eq_self, ne_a, ne_b, ne_c, Nat.reduceEqDiff, lt0, bnd_ok, psh_I, psh_L, psh_R, psh_U, gt_sr, gr_sr, sk_sr, nn_sr, ↓reduceIte, Int.toNat_natCast, Int.reduceToNat, e0, b2i_t, Int.reduceEq]
    exact e1
set_option maxRecDepth 100000 in
set_option maxHeartbeats 4000000 in
theorem m_Mwhere (d : Dat) (cn : Nat) (sg : Nat → Int) : mla 140 [vR 24, vU, vU] d cn sg (vI (x_where d cn sg)) d cn sg := by
  intro σ h
  have e0 := m_areHours h
  have hs := h.1.1
  have ho := h.2.2.2.2.2.2.2.2.1
  have h24 := dn24 ho
  unfold x_where
  cases ha : alh cn sg with
  | false =>
    rw [ha] at e0
    refine ⟨σ, ?_, mdl_rf h⟩
    simp (disch := first | assumption | omega | (exact shp_fok (by first | assumption | exact shp_sr _ _ (by assumption) | exact shp_sr _ _ (shp_sr _ _ (by assumption)) | exact shp_sr _ _ (shp_sr _ _ (shp_sr _ _ (by assumption)))) (by decide)) | (simp only [fok_sr, aok_sr]; first | assumption | (exact shp_fok (by first | assumption | exact shp_sr _ _ (by assumption) | exact shp_sr _ _ (shp_sr _ _ (by assumption)) | exact shp_sr _ _ (shp_sr _ _ (shp_sr _ _ (by assumption)))) (by decide))) | (refine shp_aok (by first | assumption | exact shp_sr _ _ (by assumption) | exact shp_sr _ _ (shp_sr _ _ (by assumption)) | exact shp_sr _ _ (shp_sr _ _ (shp_sr _ _ (by assumption)))) rfl rfl ?_ ?_ <;> omega) | (exact shp_sr _ _ (by assumption)) | (exact shp_sr _ _ (shp_sr _ _ (by assumption))) | (exact shp_sr _ _ (shp_sr _ _ (shp_sr _ _ (by assumption)))) | (left; assumption) | (exact b2i_or _) | (simp; done)) only [e140_0, e140_1, e140_4, e140_7, e140_9, e140_10, e140_11, e140_12, e140_13, e140_15, e140_17, e140_18, e140_21, e140_22, e140_25, e140_26, e140_27, e140_28, e140_30, e140_31, e140_32, e140_34, e140_35, e140_38, e140_41, e140_42, e140_43, e140_45, e140_46, e140_47, e140_50, e140_51, e140_52, e140_53, e140_56, e140_59, e140_60, eq_self, ne_a, ne_b, ne_c, Nat.reduceEqDiff, lt0, bnd_ok, psh_I, psh_L, psh_R, psh_U, gt_sr, gr_sr, sk_sr, nn_sr, ↓reduceIte, Int.toNat_natCast, Int.reduceToNat, e0, b2i_f, Bool.false_eq_true]
  | true =>
    rw [ha] at e0
    rw [if_pos rfl]
    have wc := fun τ (hm : mdl τ d cn sg) (c to : Nat) h1 h2 => m_wasCut hm ha (c := c) (to := to) h1 h2
    have hfc : ∀ k, fitC d sg cn k = fitP d sg cn (k / 10) (k % 10) := fun _ => rfl
    generalize fitC d sg cn = p at *
    have hB := whB_lt p
    have L : ∀ τ, mdl τ d cn sg → ∃ τ', run 140 14 [vR 24, vI (whB p 0 : Nat), vI 0] [] τ = some (vI (whB p (10 * dn_ d) : Nat), τ') ∧ sch τ τ' ∧ mdl τ' d cn sg := by
      refine bk (P := fun k z => ∀ τ, mdl τ d cn sg → ∃ τ', run 140 14 [vR 24, vI (whB p k : Nat), vI z] [] τ = some (vI (whB p (10 * dn_ d) : Nat), τ') ∧ sch τ τ' ∧ mdl τ' d cn sg) (n := 10 * dn_ d) ?_ ?_
      · intro τ hm
        have ec := m_cells hm.1 ho
        have ht := hm.1.1
        have w1 : wr (10 * (dn_ d : Int)) = ((10 * dn_ d : Nat) : Int) := by rw [wr_id (by omega) (by omega)]; omega
        have h4 : ¬ ((10 * dn_ d : Nat) : Int) < ((10 * dn_ d : Nat) : Int) := by omega
        refine ⟨τ, ?_, sch_rf _, hm⟩
        rw [e140_14]
        simp (disch := first | assumption | omega | (exact shp_fok (by first | assumption | exact shp_sr _ _ (by assumption) | exact shp_sr _ _ (shp_sr _ _ (by assumption)) | exact shp_sr _ _ (shp_sr _ _ (shp_sr _ _ (by assumption)))) (by decide)) | (simp only [fok_sr, aok_sr]; first | assumption | (exact shp_fok (by first | assumption | exact shp_sr _ _ (by assumption) | exact shp_sr _ _ (shp_sr _ _ (by assumption)) | exact shp_sr _ _ (shp_sr _ _ (shp_sr _ _ (by assumption)))) (by decide))) | (refine shp_aok (by first | assumption | exact shp_sr _ _ (by assumption) | exact shp_sr _ _ (shp_sr _ _ (by assumption)) | exact shp_sr _ _ (shp_sr _ _ (shp_sr _ _ (by assumption)))) rfl rfl ?_ ?_ <;> omega) | (exact shp_sr _ _ (by assumption)) | (exact shp_sr _ _ (shp_sr _ _ (by assumption))) | (exact shp_sr _ _ (shp_sr _ _ (shp_sr _ _ (by assumption)))) | (left; assumption) | (exact b2i_or _) | (simp; done)) only [e140_15, e140_17, e140_18, e140_21, e140_22, e140_59, e140_60, eq_self, ne_a, ne_b, ne_c, Nat.reduceEqDiff, lt0, bnd_ok, psh_I, psh_L, psh_R, psh_U, gt_sr, gr_sr, sk_sr, nn_sr, ↓reduceIte, Int.toNat_natCast, Int.reduceToNat, ec, w1, h4]
      · intro k hk hk' ih τ hm
        have ec := m_cells hm.1 ho
        have ht := hm.1.1
        have w1 : wr (10 * (dn_ d : Int)) = ((10 * dn_ d : Nat) : Int) := by rw [wr_id (by omega) (by omega)]; omega
        have w5 : wr ((k : Int) + 1) = (k : Int) + 1 := wr_id (by omega) (by omega)
        have c10 : ¬ (10 : Int) = 0 := by decide
        obtain ⟨ca, cb, cc, cd'⟩ := code_a (k := k) (by omega)
        obtain ⟨τ1, e1, s1, m1⟩ := wc τ hm (k / 10) (k % 10) (by omega) (by omega)
        rw [← hfc k] at e1
        have e4 : whB p (k + 1) = whB p k ||| (if p k = true then 2 ^ (k / 10) else 0) := rfl
        have hb := hB k (by omega)
        obtain ⟨τ2, e2, s2, m2⟩ := ih τ1 m1
        rw [e4] at e2
        refine ⟨τ2, ?_, sch_tr s1 s2, m2⟩
        have t1 := m1.1.1
        rw [e140_14]
        cases hx : p k with
        | true =>
          rw [hx] at e1 e2
          rw [if_pos rfl] at e2
          have hp : 2 ^ (k / 10) ≤ 2 ^ 23 := Nat.pow_le_pow_right (by omega) (by omega)
          have o1 := bShl_N (a := 1) (k := k / 10) (by omega) (by omega) (by omega)
          rw [Nat.one_mul, show ((1 : Nat) : Int) = 1 from rfl] at o1
          have o2 := bOr_N (a := whB p k) (b := 2 ^ (k / 10)) (by omega) (by omega)
          simp (disch := first | assumption | omega | (exact shp_fok (by first | assumption | exact shp_sr _ _ (by assumption) | exact shp_sr _ _ (shp_sr _ _ (by assumption)) | exact shp_sr _ _ (shp_sr _ _ (shp_sr _ _ (by assumption)))) (by decide)) | (simp only [fok_sr, aok_sr]; first | assumption | (exact shp_fok (by first | assumption | exact shp_sr _ _ (by assumption) | exact shp_sr _ _ (shp_sr _ _ (by assumption)) | exact shp_sr _ _ (shp_sr _ _ (shp_sr _ _ (by assumption)))) (by decide))) | (refine shp_aok (by first | assumption | exact shp_sr _ _ (by assumption) | exact shp_sr _ _ (shp_sr _ _ (by assumption)) | exact shp_sr _ _ (shp_sr _ _ (shp_sr _ _ (by assumption)))) rfl rfl ?_ ?_ <;> omega) | (exact shp_sr _ _ (by assumption)) | (exact shp_sr _ _ (shp_sr _ _ (by assumption))) | (exact shp_sr _ _ (shp_sr _ _ (shp_sr _ _ (by assumption)))) | (left; assumption) | (exact b2i_or _) | (simp; done)) only [e140_15, e140_17, e140_18, e140_21, e140_22, e140_25, e140_26, e140_27, e140_28, e140_30, e140_31, e140_32, e140_34, e140_35, e140_38, e140_41, e140_42, e140_43, e140_45, e140_46, e140_47, e140_50, e140_51, e140_52, e140_53, e140_56, eq_self, ne_a, ne_b, ne_c, Nat.reduceEqDiff, lt0, bnd_ok, psh_I, psh_L, psh_R, psh_U, gt_sr, gr_sr, sk_sr, nn_sr, ↓reduceIte, Int.toNat_natCast, Int.reduceToNat, ec, w1, hk', c10, ca, cb, cc, cd', e1, b2i_t, o1, o2, w5, Int.reduceEq]
          exact e2
        | false =>
          rw [hx] at e1 e2
          rw [if_neg Bool.false_ne_true] at e2
          have o2 := bOr_N (a := whB p k) (b := 0) (by omega) (by omega)
          rw [show ((0 : Nat) : Int) = 0 from rfl] at o2
          simp (disch := first | assumption | omega | (exact shp_fok (by first | assumption | exact shp_sr _ _ (by assumption) | exact shp_sr _ _ (shp_sr _ _ (by assumption)) | exact shp_sr _ _ (shp_sr _ _ (shp_sr _ _ (by assumption)))) (by decide)) | (simp only [fok_sr, aok_sr]; first | assumption | (exact shp_fok (by first | assumption | exact shp_sr _ _ (by assumption) | exact shp_sr _ _ (shp_sr _ _ (by assumption)) | exact shp_sr _ _ (shp_sr _ _ (shp_sr _ _ (by assumption)))) (by decide))) | (refine shp_aok (by first | assumption | exact shp_sr _ _ (by assumption) | exact shp_sr _ _ (shp_sr _ _ (by assumption)) | exact shp_sr _ _ (shp_sr _ _ (shp_sr _ _ (by assumption)))) rfl rfl ?_ ?_ <;> omega) | (exact shp_sr _ _ (by assumption)) | (exact shp_sr _ _ (shp_sr _ _ (by assumption))) | (exact shp_sr _ _ (shp_sr _ _ (shp_sr _ _ (by assumption)))) | (left; assumption) | (exact b2i_or _) | (simp; done)) only [e140_15, e140_17, e140_18, e140_21, e140_22, e140_25, e140_26, e140_27, e140_28, e140_30, e140_31, e140_32, e140_34, e140_35, e140_38, e140_41, e140_42, e140_43, e140_45, e140_46, e140_47, e140_50, e140_51, e140_52, e140_53, e140_56, eq_self, ne_a, ne_b, ne_c, Nat.reduceEqDiff, lt0, bnd_ok, psh_I, psh_L, psh_R, psh_U, gt_sr, gr_sr, sk_sr, nn_sr, ↓reduceIte, Int.toNat_natCast, Int.reduceToNat, ec, w1, hk', c10, ca, cb, cc, cd', e1, b2i_f, o2, w5]
          exact e2
    obtain ⟨σ1, e1, s1, m1⟩ := L σ h
    refine ⟨σ1, ?_, sch_SMo s1, m1⟩
    simp (disch := first | assumption | omega | (exact shp_fok (by first | assumption | exact shp_sr _ _ (by assumption) | exact shp_sr _ _ (shp_sr _ _ (by assumption)) | exact shp_sr _ _ (shp_sr _ _ (shp_sr _ _ (by assumption)))) (by decide)) | (simp only [fok_sr, aok_sr]; first | assumption | (exact shp_fok (by first | assumption | exact shp_sr _ _ (by assumption) | exact shp_sr _ _ (shp_sr _ _ (by assumption)) | exact shp_sr _ _ (shp_sr _ _ (shp_sr _ _ (by assumption)))) (by decide))) | (refine shp_aok (by first | assumption | exact shp_sr _ _ (by assumption) | exact shp_sr _ _ (shp_sr _ _ (by assumption)) | exact shp_sr _ _ (shp_sr _ _ (shp_sr _ _ (by assumption)))) rfl rfl ?_ ?_ <;> omega) | (exact shp_sr _ _ (by assumption)) | (exact shp_sr _ _ (shp_sr _ _ (by assumption))) | (exact shp_sr _ _ (shp_sr _ _ (shp_sr _ _ (by assumption)))) | (left; assumption) | (exact b2i_or _) | (simp; done)) only [e140_0, e140_1, e140_4, e140_7, e140_9, e140_10, e140_11, e140_12, e140_13, eq_self, ne_a, ne_b, ne_c, Nat.reduceEqDiff, lt0, bnd_ok, psh_I, psh_L, psh_R, psh_U, gt_sr, gr_sr, sk_sr, nn_sr, ↓reduceIte, Int.toNat_natCast, Int.reduceToNat, e0, b2i_t, Int.reduceEq]
    exact e1
