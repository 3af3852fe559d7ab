/-! images -/
/-- the class's images -/
def imsC (σ : St) (im : Nat → Option Dat) : Prop := (∀ i, i < 2 → (im i = none ∧ gr σ 20 i = 0) ∨ ∃ e, im i = some e ∧ 34 ≤ gr σ 20 i ∧ gr σ 20 i + 7 ≤ nn σ ∧ rep σ (gr σ 20 i) e ∧ okd e) ∧ (im 0 ≠ none → im 1 ≠ none → gr σ 20 0 + 7 < gr σ 20 1 ∨ gr σ 20 1 + 7 < gr σ 20 0)
/-- a row that keeps a bank, from a place on -/
def kpR (G : Nat → Int) (o : Nat) (e : Dat) : Prop := (∀ c, c < 24 → G (o + c) = dt e c) ∧ (∀ k, k < 96 → G (o + 24 + k) = dwa e k) ∧ (∀ i, i < dsi e → G (o + 120 + 2 * i) = dsc e i ∧ G (o + 120 + (2 * i + 1)) = dsn e i) ∧ G (o + 136) = (dR e : Int) ∧ G (o + 137) = (dC e : Int) ∧ G (o + 138) = (lbD e : Int) ∧ G (o + 139) = dfe e ∧ G (o + 140) = dsl e ∧ G (o + 141) = (dsi e : Int)
/-- the model's -/
def imsM (σ : St) (im : Nat → Option Dat) : Prop := ∀ i, i < 2 → (im i = none ∧ gt σ 33 i = 0) ∨ ∃ e, im i = some e ∧ gt σ 33 i = 1 ∧ kpR (gt σ 32) (160 * i) e ∧ okd e
def imn (im : Nat → Option Dat) (i : Nat) : Nat := match im i with
  | none => 0
  | some _ => 1
/-- all that is so between calls -/
def TS (L : Nat) (x : Nat → Int) (σ : St) (d : Dat) (cn : Nat) (sg : Nat → Int) (im : Nat → Option Dat) : Prop := CS σ d cn sg ∧ mdl σ d cn sg ∧ imsC σ im ∧ imsM σ im ∧ sl σ = L ∧ sx σ = x ∧ nn σ ≤ 33 + 8 * (imn im 0 + imn im 1) ∧ nt σ ≤ 5000 + 300 * (imn im 0 + imn im 1)
theorem mdl_chg {S : List Nat} {σ σ' : St} {d : Dat} {cn : Nat} {sg : Nat → Int} (h : chg S σ σ') (hS : ∀ i ∈ S, i < 24) (hm : mdl σ d cn sg) : mdl σ' d cn sg := by
  have n : ∀ i, 24 ≤ i → gt σ' i = gt σ i := fun i hi => chg_gt h (fun e => by have := hS _ e; omega)
  obtain ⟨⟨hs, d0, d1, d4, d5, hw⟩, a2, a3, a4, a5, a6, a7, a8, a9, a10⟩ := hm
  unfold mdl mfx
  rw [n 24 (by omega), n 25 (by omega), n 26 (by omega), n 27 (by omega), n 28 (by omega), n 29 (by omega)]
  exact ⟨⟨shp_chg h hs, d0, d1, d4, d5, hw⟩, a2, a3, a4, a5, a6, a7, a8, a9, a10⟩
theorem CS_chg {S : List Nat} {σ σ' : St} {d : Dat} {cn : Nat} {sg : Nat → Int} (h : chg S σ σ') (hS : ∀ i ∈ S, 24 ≤ i) (hc : CS σ d cn sg) : CS σ' d cn sg := by
  obtain ⟨a1, a5, a6, a7⟩ := hc
  exact ⟨npd_chg h (fun e => by have := hS _ e; omega) (fun e => by have := hS _ e; omega) a1, rep_chg h (fun i _ _ e => by have := hS _ e; omega) a5, a6, jb_chg h (fun i _ _ e => by have := hS _ e; omega) a7⟩
theorem imsC_chg {S : List Nat} {σ σ' : St} {im : Nat → Option Dat} (h : chg S σ σ') (hS : ∀ i ∈ S, i < 34) (hi : imsC σ im) : imsC σ' im := by
  obtain ⟨h1, h2⟩ := hi
  unfold imsC
  rw [chg_gr h, h.1]
  refine ⟨fun i hi => ?_, h2⟩
  rcases h1 i hi with e | ⟨e, e1, e2, e3, e4, e5⟩
  · exact Or.inl e
  · exact Or.inr ⟨e, e1, e2, e3, rep_chg h (fun j _ _ e => by have := hS _ e; omega) e4, e5⟩
theorem imsM_chg {S : List Nat} {σ σ' : St} {im : Nat → Option Dat} (h : chg S σ σ') (hS : 32 ∉ S ∧ 33 ∉ S) (hi : imsM σ im) : imsM σ' im := by
  unfold imsM
  rw [chg_gt h hS.1, chg_gt h hS.2]
  exact hi
theorem mem_all {S : List Nat} {p : Nat → Bool} (h : S.all p = true) : ∀ i ∈ S, p i = true := fun i hi => List.all_eq_true.mp h i hi
/-- a call of the class and the same call of the model -/
theorem both {L : Nat} {x : Nat → Int} {F M : Nat} {as1 as2 : List AV} {r : AV} {d d' : Dat} {cn cn' : Nat} {sg sg' : Nat → Int} {im : Nat → Option Dat} (hc : cla F as1 d cn sg r d' cn' sg') (hm : mla M as2 d cn sg r d' cn' sg') {σ : St} (h : TS L x σ d cn sg im) :
    ∃ σ1 σ2, run F 0 as1 [] σ = some (r, σ1) ∧ run M 0 as2 [] σ1 = some (r, σ2) ∧ shp σ1 ∧ sl σ1 = L ∧ sx σ1 = x ∧ TS L x σ2 d' cn' sg' im := by
  obtain ⟨t1, t2, t3, t4, t5, t6, t7, t8⟩ := h
  obtain ⟨σ1, e1, c1, s1⟩ := hc σ t1
  have hSC : ∀ i ∈ SC, i < 24 := fun i hi => by
    have := mem_all (p := fun i => decide (i < 24)) (S := SC) rfl i hi
    exact of_decide_eq_true this
  have m1 := mdl_chg c1 hSC t2
  obtain ⟨σ2, e2, c2, m2⟩ := hm σ1 m1
  have hSM : ∀ i ∈ SMo, 24 ≤ i ∧ i < 32 := fun i hi => by
    have := mem_all (p := fun i => decide (24 ≤ i ∧ i < 32)) (S := SMo) rfl i hi
    exact of_decide_eq_true this
  refine ⟨σ1, σ2, e1, e2, s1.1.1, by rw [c1.2.2.2.2.1]; exact t5, by rw [c1.2.2.2.2.2.1]; exact t6, CS_chg c2 (fun i hi => (hSM i hi).1) s1, m2, imsC_chg c2 (fun i hi => by have := hSM i hi; omega) (imsC_chg c1 (fun i hi => by have := hSC i hi; omega) t3), imsM_chg c2 (by decide) (imsM_chg c1 (by decide) t4), ?_, ?_, ?_, ?_⟩
  · rw [c2.2.2.2.2.1, c1.2.2.2.2.1]; exact t5
  · rw [c2.2.2.2.2.2.1, c1.2.2.2.2.2.1]; exact t6
  · rw [c2.1, c1.1]; exact t7
  · rw [c2.2.1, c1.2.1]; exact t8
def d_rest (d : Dat) (im : Nat → Option Dat) (n : Int) : Dat := if 0 ≤ n ∧ n ≤ 1 then (match im n.toNat with
  | none => d
  | some e => e) else d
def x_rest (im : Nat → Option Dat) (n : Int) : Int := if 0 ≤ n ∧ n ≤ 1 then (match im n.toNat with
  | none => -3
  | some _ => 1) else -2
theorem sk20 {σ : St} (h : shp σ) : (sk σ 20).2 = 2 := by rw [h.2.1 20 (by omega) (by omega)]; rfl
set_option maxRecDepth 100000 in
set_option maxHeartbeats 4000000 in
theorem c_Frestore {L : Nat} {x : Nat → Int} (n : Int) {d : Dat} {cn : Nat} {sg : Nat → Int} {im : Nat → Option Dat} {σ : St} (h : TS L x σ d cn sg im) : ∃ σ', run 87 0 [vR 1, vI n, vU] [] σ = some (vI (x_rest im n), σ') ∧ chg SC σ σ' ∧ CS σ' (d_rest d im n) cn sg := by
  obtain ⟨hcs, -, him, -⟩ := h
  obtain ⟨⟨a1, a2, a3, a4⟩, a5, a6, a7⟩ := id hcs
  have hk := sk20 a1
  have hor : fok σ 20 4 ∨ fok σ 20 6 := Or.inr (shp_fok a1 (by decide))
  unfold x_rest d_rest
  by_cases h1 : 0 ≤ n ∧ n ≤ 1
  · rw [if_pos h1, if_pos h1]
    obtain ⟨i, rfl⟩ := nat_of h1.1
    rw [Int.toNat_natCast]
    have hn0 : ¬ (i : Int) < 0 := by omega
    have hn2 : (i : Int) < ((2 : Nat) : Int) := by omega
    rcases him.1 i (by omega) with ⟨e1, e2⟩ | ⟨e, e1, e2, e3, e4, e5⟩
    · rw [e1]
      refine ⟨σ, ?_, CS_rf hcs⟩
      simp (disch := first | assumption | omega | (exact shp_fok (by first | assumption | exact shp_sr _ _ (by assumption) | exact shp_sr _ _ (shp_sr _ _ (by assumption)) | exact shp_sr _ _ (shp_sr _ _ (shp_sr _ _ (by assumption)))) (by decide)) | (simp only [fok_sr, aok_sr]; first | assumption | (exact shp_fok (by first | assumption | exact shp_sr _ _ (by assumption) | exact shp_sr _ _ (shp_sr _ _ (by assumption)) | exact shp_sr _ _ (shp_sr _ _ (shp_sr _ _ (by assumption)))) (by decide))) | (refine shp_aok (by first | assumption | exact shp_sr _ _ (by assumption) | exact shp_sr _ _ (shp_sr _ _ (by assumption)) | exact shp_sr _ _ (shp_sr _ _ (shp_sr _ _ (by assumption)))) rfl rfl ?_ ?_ <;> omega) | (exact shp_sr _ _ (by assumption)) | (exact shp_sr _ _ (shp_sr _ _ (by assumption))) | (exact shp_sr _ _ (shp_sr _ _ (shp_sr _ _ (by assumption)))) | (left; assumption) | (exact b2i_or _) | (simp; done)) only [e87_0, e87_1, e87_4, e87_5, e87_6, e87_9, e87_10, e87_13, e87_15, e87_16, e87_17, e87_20, e87_21, e87_22, e87_23, e87_24, e87_27, e87_29, e87_30, e87_31, e87_34, e87_35, e87_38, e87_39, eq_self, ne_a, ne_b, ne_c, Nat.reduceEqDiff, lt0, bnd_ok, psh_I, psh_L, psh_R, psh_U, gt_sr, gr_sr, sk_sr, nn_sr, ↓reduceIte, Int.toNat_natCast, Int.reduceToNat, g1_3, hk, hn0, hn2, e2]
    · rw [e1]
      obtain ⟨σ1, k1, k2, k3⟩ := c_copyAll (rep_jb a5 a6) e4 e5 (by omega)
      have hq : ¬ gr σ 20 i = 0 := by omega
      refine ⟨σ1, ?_, SC_mo k2 rfl, CS_now hcs k2 (by simp) k3 e5⟩
      simp (disch := first | assumption | omega | (exact shp_fok (by first | assumption | exact shp_sr _ _ (by assumption) | exact shp_sr _ _ (shp_sr _ _ (by assumption)) | exact shp_sr _ _ (shp_sr _ _ (shp_sr _ _ (by assumption)))) (by decide)) | (simp only [fok_sr, aok_sr]; first | assumption | (exact shp_fok (by first | assumption | exact shp_sr _ _ (by assumption) | exact shp_sr _ _ (shp_sr _ _ (by assumption)) | exact shp_sr _ _ (shp_sr _ _ (shp_sr _ _ (by assumption)))) (by decide))) | (refine shp_aok (by first | assumption | exact shp_sr _ _ (by assumption) | exact shp_sr _ _ (shp_sr _ _ (by assumption)) | exact shp_sr _ _ (shp_sr _ _ (shp_sr _ _ (by assumption)))) rfl rfl ?_ ?_ <;> omega) | (exact shp_sr _ _ (by assumption)) | (exact shp_sr _ _ (shp_sr _ _ (by assumption))) | (exact shp_sr _ _ (shp_sr _ _ (shp_sr _ _ (by assumption)))) | (left; assumption) | (exact b2i_or _) | (simp; done)) only [e87_0, e87_1, e87_4, e87_5, e87_6, e87_9, e87_10, e87_13, e87_15, e87_16, e87_17, e87_20, e87_21, e87_22, e87_23, e87_24, e87_27, e87_29, e87_30, e87_31, e87_34, e87_35, e87_38, e87_39, eq_self, ne_a, ne_b, ne_c, Nat.reduceEqDiff, lt0, bnd_ok, psh_I, psh_L, psh_R, psh_U, gt_sr, gr_sr, sk_sr, nn_sr, ↓reduceIte, Int.toNat_natCast, Int.reduceToNat, g1_0, g1_3, hk, hn0, hn2, hq, k1]
  · rw [if_neg h1, if_neg h1]
    refine ⟨σ, ?_, CS_rf hcs⟩
    by_cases h2 : n < 0
    · simp (disch := first | assumption | omega | (exact shp_fok (by first | assumption | exact shp_sr _ _ (by assumption) | exact shp_sr _ _ (shp_sr _ _ (by assumption)) | exact shp_sr _ _ (shp_sr _ _ (shp_sr _ _ (by assumption)))) (by decide)) | (simp only [fok_sr, aok_sr]; first | assumption | (exact shp_fok (by first | assumption | exact shp_sr _ _ (by assumption) | exact shp_sr _ _ (shp_sr _ _ (by assumption)) | exact shp_sr _ _ (shp_sr _ _ (shp_sr _ _ (by assumption)))) (by decide))) | (refine shp_aok (by first | assumption | exact shp_sr _ _ (by assumption) | exact shp_sr _ _ (shp_sr _ _ (by assumption)) | exact shp_sr _ _ (shp_sr _ _ (shp_sr _ _ (by assumption)))) rfl rfl ?_ ?_ <;> omega) | (exact shp_sr _ _ (by assumption)) | (exact shp_sr _ _ (shp_sr _ _ (by assumption))) | (exact shp_sr _ _ (shp_sr _ _ (shp_sr _ _ (by assumption)))) | (left; assumption) | (exact b2i_or _) | (simp; done)) only [e87_0, e87_1, e87_4, e87_5, e87_6, e87_9, e87_10, e87_13, e87_15, e87_16, e87_17, e87_20, e87_21, e87_22, e87_23, e87_24, e87_27, e87_29, e87_30, e87_31, e87_34, e87_35, e87_38, e87_39, eq_self, ne_a, ne_b, ne_c, Nat.reduceEqDiff, lt0, bnd_ok, psh_I, psh_L, psh_R, psh_U, gt_sr, gr_sr, sk_sr, nn_sr, ↓reduceIte, Int.toNat_natCast, Int.reduceToNat, h2]
    · have h3 : ¬ n < ((2 : Nat) : Int) := by omega
      simp (disch := first | assumption | omega | (exact shp_fok (by first | assumption | exact shp_sr _ _ (by assumption) | exact shp_sr _ _ (shp_sr _ _ (by assumption)) | exact shp_sr _ _ (shp_sr _ _ (shp_sr _ _ (by assumption)))) (by decide)) | (simp only [fok_sr, aok_sr]; first | assumption | (exact shp_fok (by first | assumption | exact shp_sr _ _ (by assumption) | exact shp_sr _ _ (shp_sr _ _ (by assumption)) | exact shp_sr _ _ (shp_sr _ _ (shp_sr _ _ (by assumption)))) (by decide))) | (refine shp_aok (by first | assumption | exact shp_sr _ _ (by assumption) | exact shp_sr _ _ (shp_sr _ _ (by assumption)) | exact shp_sr _ _ (shp_sr _ _ (shp_sr _ _ (by assumption)))) rfl rfl ?_ ?_ <;> omega) | (exact shp_sr _ _ (by assumption)) | (exact shp_sr _ _ (shp_sr _ _ (by assumption))) | (exact shp_sr _ _ (shp_sr _ _ (shp_sr _ _ (by assumption)))) | (left; assumption) | (exact b2i_or _) | (simp; done)) only [e87_0, e87_1, e87_4, e87_5, e87_6, e87_9, e87_10, e87_13, e87_15, e87_16, e87_17, e87_20, e87_21, e87_22, e87_23, e87_24, e87_27, e87_29, e87_30, e87_31, e87_34, e87_35, e87_38, e87_39, eq_self, ne_a, ne_b, ne_c, Nat.reduceEqDiff, lt0, bnd_ok, psh_I, psh_L, psh_R, psh_U, gt_sr, gr_sr, sk_sr, nn_sr, ↓reduceIte, Int.toNat_natCast, Int.reduceToNat, g1_3, hk, h2, h3]
set_option maxRecDepth 100000 in
set_option maxHeartbeats 4000000 in
theorem m_Mrestore {L : Nat} {x : Nat → Int} (n : Int) {d : Dat} {cn : Nat} {sg : Nat → Int} {im : Nat → Option Dat} {σ : St} (h : mdl σ d cn sg) (him : imsM σ im) : ∃ σ', run 146 0 [vR 24, vI n, vU, vU] [] σ = some (vI (x_rest im n), σ') ∧ chg SMo σ σ' ∧ mdl σ' (d_rest d im n) cn sg := by
  obtain ⟨⟨hs, d0, d1, d4, d5, hw⟩, a2, a3, a4, a5, a6, a7, a8, a9, a10⟩ := id h
  unfold x_rest d_rest
  by_cases h1 : 0 ≤ n ∧ n ≤ 1
  · rw [if_pos h1, if_pos h1]
    obtain ⟨i, rfl⟩ := nat_of h1.1
    rw [Int.toNat_natCast]
    rcases him i (by omega) with ⟨e1, e2⟩ | ⟨e, e1, e2, ⟨p1, p2, p3, p4, p5, p6, p7, p8, p9⟩, e4⟩
    · rw [e1]
      refine ⟨σ, ?_, mdl_rf h⟩
      simp (disch := first | assumption | omega | (exact shp_fok (by first | assumption | exact shp_sr _ _ (by assumption) | exact shp_sr _ _ (shp_sr _ _ (by assumption)) | exact shp_sr _ _ (shp_sr _ _ (shp_sr _ _ (by assumption)))) (by decide)) | (simp only [fok_sr, aok_sr]; first | assumption | (exact shp_fok (by first | assumption | exact shp_sr _ _ (by assumption) | exact shp_sr _ _ (shp_sr _ _ (by assumption)) | exact shp_sr _ _ (shp_sr _ _ (shp_sr _ _ (by assumption)))) (by decide))) | (refine shp_aok (by first | assumption | exact shp_sr _ _ (by assumption) | exact shp_sr _ _ (shp_sr _ _ (by assumption)) | exact shp_sr _ _ (shp_sr _ _ (shp_sr _ _ (by assumption)))) rfl rfl ?_ ?_ <;> omega) | (exact shp_sr _ _ (by assumption)) | (exact shp_sr _ _ (shp_sr _ _ (by assumption))) | (exact shp_sr _ _ (shp_sr _ _ (shp_sr _ _ (by assumption)))) | (left; assumption) | (exact b2i_or _) | (simp; done)) only [e146_0, e146_1, e146_2, e146_3, e146_6, e146_9, e146_11, e146_12, e146_13, e146_16, e146_17, e146_18, e146_21, e146_23, eq_self, ne_a, ne_b, ne_c, Nat.reduceEqDiff, lt0, bnd_ok, psh_I, psh_L, psh_R, psh_U, gt_sr, gr_sr, sk_sr, nn_sr, ↓reduceIte, Int.toNat_natCast, Int.reduceToNat, m_in, if_pos h1, g24_19, e2, Int.reduceEq]
    · rw [e1]
      have wo : wr (160 * (i : Int)) = ((160 * i : Nat) : Int) := by rw [wr_id (by omega) (by omega)]; omega
      generalize ho : 160 * i = o at *
      have ho2 : o ≤ 160 := by omega
      have start : run 146 0 [vR 24, vI (i : Int), vU, vU] [] σ = run 146 32 [vR 24, vI (i : Int), vI (o : Int), vI 0] [] σ := by
        simp (disch := first | assumption | omega | (exact shp_fok (by first | assumption | exact shp_sr _ _ (by assumption) | exact shp_sr _ _ (shp_sr _ _ (by assumption)) | exact shp_sr _ _ (shp_sr _ _ (shp_sr _ _ (by assumption)))) (by decide)) | (simp only [fok_sr, aok_sr]; first | assumption | (exact shp_fok (by first | assumption | exact shp_sr _ _ (by assumption) | exact shp_sr _ _ (shp_sr _ _ (by assumption)) | exact shp_sr _ _ (shp_sr _ _ (shp_sr _ _ (by assumption)))) (by decide))) | (refine shp_aok (by first | assumption | exact shp_sr _ _ (by assumption) | exact shp_sr _ _ (shp_sr _ _ (by assumption)) | exact shp_sr _ _ (shp_sr _ _ (shp_sr _ _ (by assumption)))) rfl rfl ?_ ?_ <;> omega) | (exact shp_sr _ _ (by assumption)) | (exact shp_sr _ _ (shp_sr _ _ (by assumption))) | (exact shp_sr _ _ (shp_sr _ _ (shp_sr _ _ (by assumption)))) | (left; assumption) | (exact b2i_or _) | (simp; done)) only [e146_0, e146_1, e146_2, e146_3, e146_6, e146_9, e146_11, e146_12, e146_13, e146_16, e146_17, e146_18, e146_21, e146_23, e146_24, e146_27, e146_28, e146_29, e146_30, e146_31, eq_self, ne_a, ne_b, ne_c, Nat.reduceEqDiff, lt0, bnd_ok, psh_I, psh_L, psh_R, psh_U, gt_sr, gr_sr, sk_sr, nn_sr, ↓reduceIte, Int.toNat_natCast, Int.reduceToNat, m_in, if_pos h1, g24_19, e2, wo, Int.reduceEq]
      have A : run 146 32 [vR 24, vI (i : Int), vI (o : Int), vI 0] [] (sr σ 25 (upto 0 (dt e) (dt d))) = run 146 60 [vR 24, vI (i : Int), vI (o : Int), vI 0] [] (sr σ 25 (upto 24 (dt e) (dt d))) := by
        refine bk (P := fun k z => run 146 32 [vR 24, vI (i : Int), vI (o : Int), vI z] [] (sr σ 25 (upto k (dt e) (dt d))) = run 146 60 [vR 24, vI (i : Int), vI (o : Int), vI 0] [] (sr σ 25 (upto 24 (dt e) (dt d)))) (n := 24) ?_ ?_
        · rw [e146_32]
          simp (disch := first | assumption | omega | (exact shp_fok (by first | assumption | exact shp_sr _ _ (by assumption) | exact shp_sr _ _ (shp_sr _ _ (by assumption)) | exact shp_sr _ _ (shp_sr _ _ (shp_sr _ _ (by assumption)))) (by decide)) | (simp only [fok_sr, aok_sr]; first | assumption | (exact shp_fok (by first | assumption | exact shp_sr _ _ (by assumption) | exact shp_sr _ _ (shp_sr _ _ (by assumption)) | exact shp_sr _ _ (shp_sr _ _ (shp_sr _ _ (by assumption)))) (by decide))) | (refine shp_aok (by first | assumption | exact shp_sr _ _ (by assumption) | exact shp_sr _ _ (shp_sr _ _ (by assumption)) | exact shp_sr _ _ (shp_sr _ _ (shp_sr _ _ (by assumption)))) rfl rfl ?_ ?_ <;> omega) | (exact shp_sr _ _ (by assumption)) | (exact shp_sr _ _ (shp_sr _ _ (by assumption))) | (exact shp_sr _ _ (shp_sr _ _ (shp_sr _ _ (by assumption)))) | (left; assumption) | (exact b2i_or _) | (simp; done)) only [e146_33, e146_35, e146_38, e146_39, e146_42, e146_43, e146_44, e146_47, e146_48, e146_49, e146_50, e146_51, e146_52, e146_55, e146_58, e146_59, eq_self, ne_a, ne_b, ne_c, Nat.reduceEqDiff, lt0, bnd_ok, psh_I, psh_L, psh_R, psh_U, gt_sr, gr_sr, sk_sr, nn_sr, ↓reduceIte, Int.toNat_natCast, Int.reduceToNat, Int.cast_ofNat_Int, Int.reduceLT]
        · intro k hk hk' ih
          have h4 : (k : Int) < 24 := hk'
          have w5 : wr ((k : Int) + 1) = (k : Int) + 1 := wr_id (by omega) (by omega)
          have w6 : wr ((o : Int) + (k : Int)) = ((o + k : Nat) : Int) := by rw [wr_id (by omega) (by omega)]; omega
          have u := upto_s k (dt e) (dt d) (gt σ 32 (o + k)) (p1 k hk)
          rw [e146_32]
          simp (disch := first | assumption | omega | (exact shp_fok (by first | assumption | exact shp_sr _ _ (by assumption) | exact shp_sr _ _ (shp_sr _ _ (by assumption)) | exact shp_sr _ _ (shp_sr _ _ (shp_sr _ _ (by assumption)))) (by decide)) | (simp only [fok_sr, aok_sr]; first | assumption | (exact shp_fok (by first | assumption | exact shp_sr _ _ (by assumption) | exact shp_sr _ _ (shp_sr _ _ (by assumption)) | exact shp_sr _ _ (shp_sr _ _ (shp_sr _ _ (by assumption)))) (by decide))) | (refine shp_aok (by first | assumption | exact shp_sr _ _ (by assumption) | exact shp_sr _ _ (shp_sr _ _ (by assumption)) | exact shp_sr _ _ (shp_sr _ _ (shp_sr _ _ (by assumption)))) rfl rfl ?_ ?_ <;> omega) | (exact shp_sr _ _ (by assumption)) | (exact shp_sr _ _ (shp_sr _ _ (by assumption))) | (exact shp_sr _ _ (shp_sr _ _ (shp_sr _ _ (by assumption)))) | (left; assumption) | (exact b2i_or _) | (simp; done)) only [e146_33, e146_35, e146_38, e146_39, e146_42, e146_43, e146_44, e146_47, e146_48, e146_49, e146_50, e146_51, e146_52, e146_55, e146_58, e146_59, eq_self, ne_a, ne_b, ne_c, Nat.reduceEqDiff, lt0, bnd_ok, psh_I, psh_L, psh_R, psh_U, gt_sr, gr_sr, sk_sr, nn_sr, ↓reduceIte, Int.toNat_natCast, Int.reduceToNat, h4, g24_2, g24_18, w6, u, w5, sr_sr]
          exact ih
      rw [upto_0, sr_self σ 25 _ a5.symm, upto_z (zr_mo (ok_zt e4) (dn24 e4)) (zr_mo (ok_zt a9) (dn24 a9))] at A
      have B : run 146 60 [vR 24, vI (i : Int), vI (o : Int), vI 0] [] (sr (sr σ 25 (dt e)) 26 (upto 0 (dwa e) (dwa d))) = run 146 91 [vR 24, vI (i : Int), vI (o : Int), vI 0] [] (sr (sr σ 25 (dt e)) 26 (upto 96 (dwa e) (dwa d))) := by
        refine bk (P := fun k z => run 146 60 [vR 24, vI (i : Int), vI (o : Int), vI z] [] (sr (sr σ 25 (dt e)) 26 (upto k (dwa e) (dwa d))) = run 146 91 [vR 24, vI (i : Int), vI (o : Int), vI 0] [] (sr (sr σ 25 (dt e)) 26 (upto 96 (dwa e) (dwa d)))) (n := 96) ?_ ?_
        · rw [e146_60]
          simp (disch := first | assumption | omega | (exact shp_fok (by first | assumption | exact shp_sr _ _ (by assumption) | exact shp_sr _ _ (shp_sr _ _ (by assumption)) | exact shp_sr _ _ (shp_sr _ _ (shp_sr _ _ (by assumption)))) (by decide)) | (simp only [fok_sr, aok_sr]; first | assumption | (exact shp_fok (by first | assumption | exact shp_sr _ _ (by assumption) | exact shp_sr _ _ (shp_sr _ _ (by assumption)) | exact shp_sr _ _ (shp_sr _ _ (shp_sr _ _ (by assumption)))) (by decide))) | (refine shp_aok (by first | assumption | exact shp_sr _ _ (by assumption) | exact shp_sr _ _ (shp_sr _ _ (by assumption)) | exact shp_sr _ _ (shp_sr _ _ (shp_sr _ _ (by assumption)))) rfl rfl ?_ ?_ <;> omega) | (exact shp_sr _ _ (by assumption)) | (exact shp_sr _ _ (shp_sr _ _ (by assumption))) | (exact shp_sr _ _ (shp_sr _ _ (shp_sr _ _ (by assumption)))) | (left; assumption) | (exact b2i_or _) | (simp; done)) only [e146_61, e146_63, e146_66, e146_67, e146_70, e146_71, e146_72, e146_75, e146_76, e146_78, e146_79, e146_80, e146_81, e146_82, e146_83, e146_86, e146_89, e146_90, eq_self, ne_a, ne_b, ne_c, Nat.reduceEqDiff, lt0, bnd_ok, psh_I, psh_L, psh_R, psh_U, gt_sr, gr_sr, sk_sr, nn_sr, ↓reduceIte, Int.toNat_natCast, Int.reduceToNat, Int.cast_ofNat_Int, Int.reduceLT]
        · intro k hk hk' ih
          have h4 : (k : Int) < 96 := hk'
          have w5 : wr ((k : Int) + 1) = (k : Int) + 1 := wr_id (by omega) (by omega)
          have w6 : wr (wr ((o : Int) + 24) + (k : Int)) = ((o + 24 + k : Nat) : Int) := by rw [wr_id (z := (o : Int) + 24) (by omega) (by omega), wr_id (by omega) (by omega)]; omega
          have u := upto_s k (dwa e) (dwa d) (gt σ 32 (o + 24 + k)) (p2 k hk)
          rw [e146_60]
          simp (disch := first | assumption | omega | (exact shp_fok (by first | assumption | exact shp_sr _ _ (by assumption) | exact shp_sr _ _ (shp_sr _ _ (by assumption)) | exact shp_sr _ _ (shp_sr _ _ (shp_sr _ _ (by assumption)))) (by decide)) | (simp only [fok_sr, aok_sr]; first | assumption | (exact shp_fok (by first | assumption | exact shp_sr _ _ (by assumption) | exact shp_sr _ _ (shp_sr _ _ (by assumption)) | exact shp_sr _ _ (shp_sr _ _ (shp_sr _ _ (by assumption)))) (by decide))) | (refine shp_aok (by first | assumption | exact shp_sr _ _ (by assumption) | exact shp_sr _ _ (shp_sr _ _ (by assumption)) | exact shp_sr _ _ (shp_sr _ _ (shp_sr _ _ (by assumption)))) rfl rfl ?_ ?_ <;> omega) | (exact shp_sr _ _ (by assumption)) | (exact shp_sr _ _ (shp_sr _ _ (by assumption))) | (exact shp_sr _ _ (shp_sr _ _ (shp_sr _ _ (by assumption)))) | (left; assumption) | (exact b2i_or _) | (simp; done)) only [e146_61, e146_63, e146_66, e146_67, e146_70, e146_71, e146_72, e146_75, e146_76, e146_78, e146_79, e146_80, e146_81, e146_82, e146_83, e146_86, e146_89, e146_90, eq_self, ne_a, ne_b, ne_c, Nat.reduceEqDiff, lt0, bnd_ok, psh_I, psh_L, psh_R, psh_U, gt_sr, gr_sr, sk_sr, nn_sr, ↓reduceIte, Int.toNat_natCast, Int.reduceToNat, h4, g24_6, g24_18, w6, u, w5, sr_sr]
          exact ih
      rw [upto_0, sr_self (sr σ 25 (dt e)) 26 _ (by rw [gt_n _ _ (by decide)]; exact hw.symm), upto_z e4.2.2.2.2.2.2.2.2.2.1 a9.2.2.2.2.2.2.2.2.2.1] at B
      generalize hτ : sr (sr σ 25 (dt e)) 26 (dwa e) = τ at *
      have sτ : shp τ := by rw [← hτ]; exact hs
      have k32 : gt τ 32 = gt σ 32 := by rw [← hτ, gt_n _ _ (by decide), gt_n _ _ (by decide)]
      have k24 : gt τ 24 = gt σ 24 := by rw [← hτ, gt_n _ _ (by decide), gt_n _ _ (by decide)]
      generalize hS : (fun k => gt σ 32 (o + 120 + k)) = S at *
      have hSk : ∀ k, gt σ 32 (o + 120 + k) = S k := fun k => by rw [← hS]
      generalize hG : ru (ru (ru (ru (ru (ru (gt σ 24) 0 (dR e : Int)) 1 (dC e : Int)) 3 (lbD e : Int)) 4 (dfe e)) 5 (dsl e)) 7 (dsi e : Int) = G
      have C : run 146 91 [vR 24, vI (i : Int), vI (o : Int), vI 0] [] (sr τ 27 (upto 0 S (gt τ 27))) = some (vI 1, sr (sr τ 27 (upto 16 S (gt τ 27))) 24 G) := by
        refine bk (P := fun k z => run 146 91 [vR 24, vI (i : Int), vI (o : Int), vI z] [] (sr τ 27 (upto k S (gt τ 27))) = some (vI 1, sr (sr τ 27 (upto 16 S (gt τ 27))) 24 G)) (n := 16) ?_ ?_
        · have v1 : wr ((o : Int) + 136) = ((o + 136 : Nat) : Int) := by rw [wr_id (by omega) (by omega)]; omega
          have v2 : wr ((o : Int) + 137) = ((o + 137 : Nat) : Int) := by rw [wr_id (by omega) (by omega)]; omega
          have v3 : wr ((o : Int) + 138) = ((o + 138 : Nat) : Int) := by rw [wr_id (by omega) (by omega)]; omega
          have v4 : wr ((o : Int) + 139) = ((o + 139 : Nat) : Int) := by rw [wr_id (by omega) (by omega)]; omega
          have v5 : wr ((o : Int) + 140) = ((o + 140 : Nat) : Int) := by rw [wr_id (by omega) (by omega)]; omega
          have v6 : wr ((o : Int) + 141) = ((o + 141 : Nat) : Int) := by rw [wr_id (by omega) (by omega)]; omega
          rw [e146_91]
          simp (disch := first | assumption | omega | (exact shp_fok (by first | assumption | exact shp_sr _ _ (by assumption) | exact shp_sr _ _ (shp_sr _ _ (by assumption)) | exact shp_sr _ _ (shp_sr _ _ (shp_sr _ _ (by assumption)))) (by decide)) | (simp only [fok_sr, aok_sr]; first | assumption | (exact shp_fok (by first | assumption | exact shp_sr _ _ (by assumption) | exact shp_sr _ _ (shp_sr _ _ (by assumption)) | exact shp_sr _ _ (shp_sr _ _ (shp_sr _ _ (by assumption)))) (by decide))) | (refine shp_aok (by first | assumption | exact shp_sr _ _ (by assumption) | exact shp_sr _ _ (shp_sr _ _ (by assumption)) | exact shp_sr _ _ (shp_sr _ _ (shp_sr _ _ (by assumption)))) rfl rfl ?_ ?_ <;> omega) | (exact shp_sr _ _ (by assumption)) | (exact shp_sr _ _ (shp_sr _ _ (by assumption))) | (exact shp_sr _ _ (shp_sr _ _ (shp_sr _ _ (by assumption)))) | (left; assumption) | (exact b2i_or _) | (simp; done)) only [e146_92, e146_94, e146_97, e146_98, e146_101, e146_102, e146_103, e146_106, e146_107, e146_109, e146_110, e146_111, e146_112, e146_113, e146_114, e146_117, e146_120, e146_121, e146_122, e146_125, e146_126, e146_129, e146_130, e146_131, e146_134, e146_135, e146_136, e146_139, e146_140, e146_143, e146_144, e146_145, e146_148, e146_149, e146_150, e146_153, e146_154, e146_157, e146_158, e146_159, e146_162, e146_163, e146_164, e146_167, e146_168, e146_171, e146_172, e146_173, e146_176, e146_177, e146_178, e146_181, e146_182, e146_185, e146_186, e146_187, e146_190, e146_191, e146_192, e146_195, e146_196, e146_199, e146_200, e146_201, e146_204, e146_205, eq_self, ne_a, ne_b, ne_c, Nat.reduceEqDiff, lt0, bnd_ok, psh_I, psh_L, psh_R, psh_U, gt_sr, gr_sr, sk_sr, nn_sr, ↓reduceIte, Int.toNat_natCast, Int.reduceToNat, Int.cast_ofNat_Int, Int.reduceLT, g24_18, v1, v2, v3, v4, v5, v6, k32, k24, p4, p5, p6, p7, p8, p9, sr_sr, hG]
        · intro k hk hk' ih
          have h4 : (k : Int) < 16 := hk'
          have w5 : wr ((k : Int) + 1) = (k : Int) + 1 := wr_id (by omega) (by omega)
          have w6 : wr (wr ((o : Int) + 120) + (k : Int)) = ((o + 120 + k : Nat) : Int) := by rw [wr_id (z := (o : Int) + 120) (by omega) (by omega), wr_id (by omega) (by omega)]; omega
          have u := upto_s k S (gt τ 27) (S k) rfl
          rw [e146_91]
          simp (disch := first | assumption | omega | (exact shp_fok (by first | assumption | exact shp_sr _ _ (by assumption) | exact shp_sr _ _ (shp_sr _ _ (by assumption)) | exact shp_sr _ _ (shp_sr _ _ (shp_sr _ _ (by assumption)))) (by decide)) | (simp only [fok_sr, aok_sr]; first | assumption | (exact shp_fok (by first | assumption | exact shp_sr _ _ (by assumption) | exact shp_sr _ _ (shp_sr _ _ (by assumption)) | exact shp_sr _ _ (shp_sr _ _ (shp_sr _ _ (by assumption)))) (by decide))) | (refine shp_aok (by first | assumption | exact shp_sr _ _ (by assumption) | exact shp_sr _ _ (shp_sr _ _ (by assumption)) | exact shp_sr _ _ (shp_sr _ _ (shp_sr _ _ (by assumption)))) rfl rfl ?_ ?_ <;> omega) | (exact shp_sr _ _ (by assumption)) | (exact shp_sr _ _ (shp_sr _ _ (by assumption))) | (exact shp_sr _ _ (shp_sr _ _ (shp_sr _ _ (by assumption)))) | (left; assumption) | (exact b2i_or _) | (simp; done)) only [e146_92, e146_94, e146_97, e146_98, e146_101, e146_102, e146_103, e146_106, e146_107, e146_109, e146_110, e146_111, e146_112, e146_113, e146_114, e146_117, eq_self, ne_a, ne_b, ne_c, Nat.reduceEqDiff, lt0, bnd_ok, psh_I, psh_L, psh_R, psh_U, gt_sr, gr_sr, sk_sr, nn_sr, ↓reduceIte, Int.toNat_natCast, Int.reduceToNat, h4, g24_8, g24_18, w6, k32, hSk, u, w5, sr_sr]
          exact ih
      rw [upto_0, sr_self τ 27 _ rfl] at C
      have cc : chg SMo σ (sr (sr τ 27 (upto 16 S (gt τ 27))) 24 G) := by
        rw [← hτ]
        exact chg_sr (chg_sr (chg_sr (chg_sr (chg_rf _ _) (by decide)) (by decide)) (by decide)) (by decide)
      refine ⟨_, start.trans (A.trans (B.trans C)), cc, ⟨sτ, ?_, ?_, ?_, ?_, ?_⟩, ?_, ?_, ?_, ?_, ?_, ?_, a8, e4, ?_⟩
      · rw [gt_e, ← hG]; simp only [ru, Nat.reduceEqDiff, ↓reduceIte]
      · rw [gt_e, ← hG]; simp only [ru, Nat.reduceEqDiff, ↓reduceIte]
      · rw [gt_e, ← hG]; simp only [ru, Nat.reduceEqDiff, ↓reduceIte]
      · rw [gt_e, ← hG]; simp only [ru, Nat.reduceEqDiff, ↓reduceIte]
      · rw [gt_n _ _ (by decide), gt_n _ _ (by decide), ← hτ, gt_e]
      · rw [gt_e, ← hG]; simp only [ru, Nat.reduceEqDiff, ↓reduceIte]
      · rw [gt_e, ← hG]; simp only [ru, Nat.reduceEqDiff, ↓reduceIte]
      · rw [gt_e, ← hG]; simp only [ru, Nat.reduceEqDiff, ↓reduceIte]; exact a4
      · rw [gt_n _ _ (by decide), gt_n _ _ (by decide), ← hτ, gt_n _ _ (by decide), gt_e]
      · intro j hj
        have hj' : j < dsi e := hj
        have h8 := e4.2.2.2.1
        rw [gt_n _ _ (by decide), gt_e]
        unfold upto
        rw [if_pos (by omega), if_pos (by omega), ← hSk, ← hSk]
        exact p3 j hj
      · rw [gt_n _ _ (by decide), gt_n _ _ (by decide), ← hτ, gt_n _ _ (by decide), gt_n _ _ (by decide)]; exact a7
      · rw [gt_n _ _ (by decide), gt_n _ _ (by decide), ← hτ, gt_n _ _ (by decide), gt_n _ _ (by decide)]; exact a10
  · rw [if_neg h1, if_neg h1]
    refine ⟨σ, ?_, mdl_rf h⟩
    simp (disch := first | assumption | omega | (exact shp_fok (by first | assumption | exact shp_sr _ _ (by assumption) | exact shp_sr _ _ (shp_sr _ _ (by assumption)) | exact shp_sr _ _ (shp_sr _ _ (shp_sr _ _ (by assumption)))) (by decide)) | (simp only [fok_sr, aok_sr]; first | assumption | (exact shp_fok (by first | assumption | exact shp_sr _ _ (by assumption) | exact shp_sr _ _ (shp_sr _ _ (by assumption)) | exact shp_sr _ _ (shp_sr _ _ (shp_sr _ _ (by assumption)))) (by decide))) | (refine shp_aok (by first | assumption | exact shp_sr _ _ (by assumption) | exact shp_sr _ _ (shp_sr _ _ (by assumption)) | exact shp_sr _ _ (shp_sr _ _ (shp_sr _ _ (by assumption)))) rfl rfl ?_ ?_ <;> omega) | (exact shp_sr _ _ (by assumption)) | (exact shp_sr _ _ (shp_sr _ _ (by assumption))) | (exact shp_sr _ _ (shp_sr _ _ (shp_sr _ _ (by assumption)))) | (left; assumption) | (exact b2i_or _) | (simp; done)) only [e146_0, e146_1, e146_2, e146_3, e146_6, e146_9, e146_11, e146_12, e146_13, e146_16, e146_17, e146_18, e146_21, e146_23, eq_self, ne_a, ne_b, ne_c, Nat.reduceEqDiff, lt0, bnd_ok, psh_I, psh_L, psh_R, psh_U, gt_sr, gr_sr, sk_sr, nn_sr, ↓reduceIte, Int.toNat_natCast, Int.reduceToNat, m_in, if_neg h1]
def x_image (n : Int) : Int := if 0 ≤ n ∧ n ≤ 1 then 1 else -2
def im_image (d : Dat) (im : Nat → Option Dat) (n : Int) : Nat → Option Dat := if 0 ≤ n ∧ n ≤ 1 then ru im n.toNat (some d) else im
/-- what of the store stands below the images -/
def frC (σ σ' : St) : Prop := nn σ ≤ nn σ' ∧ sl σ' = sl σ ∧ sx σ' = sx σ ∧ (∀ k, k ≤ 33 → sk σ' k = sk σ k) ∧ (∀ k, k ≤ 33 → k ≠ 20 → gr σ' k = gr σ k) ∧ (∀ k, k ≤ 33 → gt σ' k = gt σ k)
theorem shp_fr {σ σ' : St} (h : frC σ σ') (hs : shp σ) : shp σ' := by
  obtain ⟨f1, f2, f3, f4, f5, f6⟩ := h
  obtain ⟨s1, s2, s3⟩ := hs
  refine ⟨by omega, fun k h1 h2 => by rw [f4 k h2]; exact s2 k h1 h2, fun p hp => ?_⟩
  have hp9 : p.1 ≤ 33 ∧ p.1 ≠ 20 := by
    have := List.all_eq_true.mp (show (grT.all fun p => decide (p.1 ≤ 33 ∧ p.1 ≠ 20)) = true by decide) p hp
    exact of_decide_eq_true this
  rw [f5 p.1 hp9.1 hp9.2]
  exact s3 p hp
theorem bsh_2 {σ : St} (h : shp σ) : bsh σ 2 := ⟨shp_fok h (by decide), ⟨g2_6 h, g2_7 h, g2_8 h, g2_9 h, g2_10 h, g2_11 h, g2_12 h⟩, shp_ia h (by decide), shp_ia h (by decide), shp_ia h (by decide), shp_ia h (by decide), shp_ia h (by decide), shp_ia h (by decide), shp_ia h (by decide)⟩
theorem bsh_10 {σ : St} (h : shp σ) : bsh σ 10 := ⟨shp_fok h (by decide), ⟨g10_6 h, g10_7 h, g10_8 h, g10_9 h, g10_10 h, g10_11 h, g10_12 h⟩, shp_ia h (by decide), shp_ia h (by decide), shp_ia h (by decide), shp_ia h (by decide), shp_ia h (by decide), shp_ia h (by decide), shp_ia h (by decide)⟩
theorem CS_fr {σ σ' : St} {d : Dat} {cn : Nat} {sg : Nat → Int} (h : frC σ σ') (hc : CS σ d cn sg) : CS σ' d cn sg := by
  have n : ∀ k, k ≤ 33 → gt σ' k = gt σ k := h.2.2.2.2.2
  obtain ⟨⟨a1, a2, a3, a4⟩, ⟨-, a5⟩, a6, ⟨-, a7⟩⟩ := hc
  have s' := shp_fr h a1
  refine ⟨⟨s', ?_, ?_, a4⟩, ⟨bsh_2 s', ?_⟩, a6, ⟨bsh_10 s', ?_⟩⟩
  · rw [n 18 (by omega)]; exact a2
  · rw [n 19 (by omega)]; exact a3
  · unfold dim at a5 ⊢
    rw [n 2 (by omega), n (2 + 1) (by omega), n (2 + 2) (by omega), n (2 + 3) (by omega), n (2 + 5) (by omega), n (2 + 6) (by omega), n (2 + 7) (by omega)]
    exact a5
  · rw [n (10 + 1) (by omega), n (10 + 2) (by omega), n (10 + 3) (by omega), n (10 + 5) (by omega), n (10 + 6) (by omega), n (10 + 7) (by omega)]
    exact a7
theorem mdl_fr {σ σ' : St} {d : Dat} {cn : Nat} {sg : Nat → Int} (h : frC σ σ') (hm : mdl σ d cn sg) : mdl σ' d cn sg := by
  have n : ∀ k, k ≤ 33 → gt σ' k = gt σ k := h.2.2.2.2.2
  obtain ⟨⟨hs, d0, d1, d4, d5, hw⟩, a2, a3, a4, a5, a6, a7, a8, a9, a10⟩ := hm
  unfold mdl mfx
  rw [n 24 (by omega), n 25 (by omega), n 26 (by omega), n 27 (by omega), n 28 (by omega), n 29 (by omega)]
  exact ⟨⟨shp_fr h hs, d0, d1, d4, d5, hw⟩, a2, a3, a4, a5, a6, a7, a8, a9, a10⟩
theorem frC_chg {S : List Nat} {σ σ' : St} (h : chg S σ σ') (hS : ∀ i ∈ S, 34 ≤ i) : frC σ σ' := by
  obtain ⟨h1, h2, h3, h4, h5, h6, h7⟩ := h
  exact ⟨by omega, h5, h6, fun k _ => by rw [h3], fun k _ _ => by rw [h4], fun k hk => h7 k (fun e => by have := hS _ e; omega)⟩
theorem frC_tr {σ σ1 σ2 : St} (h : frC σ σ1) (h2 : frC σ1 σ2) : frC σ σ2 := by
  obtain ⟨f1, f2, f3, f4, f5, f6⟩ := h
  obtain ⟨k1, k2, k3, k4, k5, k6⟩ := h2
  exact ⟨by omega, by rw [k2, f2], by rw [k3, f3], fun k hk => by rw [k4 k hk, f4 k hk], fun k hk h20 => by rw [k5 k hk h20, f5 k hk h20], fun k hk => by rw [k6 k hk, f6 k hk]⟩
set_option maxRecDepth 100000 in
set_option maxHeartbeats 4000000 in
theorem c_Fimage {L : Nat} {x : Nat → Int} (n : Int) {d : Dat} {cn : Nat} {sg : Nat → Int} {im : Nat → Option Dat} {σ : St} (h : TS L x σ d cn sg im) : ∃ σ', run 86 0 [vR 1, vI n, vU] [] σ = some (vI (x_image n), σ') ∧ frC σ σ' ∧ imsC σ' (im_image d im n) ∧ nn σ' ≤ 33 + 8 * (imn (im_image d im n) 0 + imn (im_image d im n) 1) ∧ nt σ' ≤ 5000 + 300 * (imn (im_image d im n) 0 + imn (im_image d im n) 1) := by
  obtain ⟨hcs, -, him, -, -, -, hnn, hnt⟩ := h
  obtain ⟨⟨a1, a2, a3, a4⟩, a5, a6, a7⟩ := id hcs
  have hk := sk20 a1
  have hor : fok σ 20 4 ∨ fok σ 20 6 := Or.inr (shp_fok a1 (by decide))
  unfold x_image im_image
  by_cases h1 : 0 ≤ n ∧ n ≤ 1
  · rw [if_pos h1, if_pos h1]
    obtain ⟨i, rfl⟩ := nat_of h1.1
    rw [Int.toNat_natCast]
    have hn0 : ¬ (i : Int) < 0 := by omega
    have hn2 : (i : Int) < ((2 : Nat) : Int) := by omega
    have hi2 : i < 2 := by omega
    rcases him.1 i hi2 with ⟨e1, e2⟩ | ⟨e, e1, e2, e3, e4, e5⟩
    · -- a new bank
      have hb1 : nn (al σ 0 13) = nn σ + 1 := rfl
      have hfk : fok (al σ 0 13) (nn σ + 1) 0 := by
        refine ⟨by omega, by rw [hb1]; omega, ?_⟩
        rw [sk_al, if_pos rfl]
      obtain ⟨σ1, k1, k2, k3, k4, k5, k6, k7, k8⟩ := c_Binit hfk hb1
      have hn33 := a1.1
      -- its reference kept
      generalize hb : nn σ + 1 = b at *
      have f1 : fok (rr σ1 20 (ru (gr σ1 20) i b)) b 0 := k8.1.1
      have sk1 : ∀ k, k ≤ 33 → sk σ1 k = sk σ k := fun k hk => by rw [k6 k (by omega), sk_al, if_neg (by omega)]
      have gr1 : ∀ k, k ≤ nn σ → gr σ1 k = gr σ k := fun k hk => by rw [(k7 k (by omega)).1, gr_al, if_neg (by omega)]
      have gt1 : ∀ k, k ≤ nn σ → gt σ1 k = gt σ k := fun k hk => by rw [(k7 k (by omega)).2, gt_al, if_neg (by omega)]
      have fr1 : frC σ (rr σ1 20 (ru (gr σ1 20) i b)) := by
        refine ⟨by rw [nn_rr, k2]; omega, k4, k5, sk1, fun k hk h20 => ?_, fun k hk => by rw [gt_rr]; exact gt1 k (by omega)⟩
        rw [gr_rr, if_neg h20]
        exact gr1 k (by omega)
      have s1 := shp_fr fr1 a1
      have cs1 := CS_fr fr1 hcs
      have r8 : rep (rr σ1 20 (ru (gr σ1 20) i b)) b (nw 3 4 z0 z0) := by
        obtain ⟨⟨q1, q2, q3⟩, q4⟩ := k8
        refine ⟨⟨q1, ?_, q3⟩, q4⟩
        rw [gr_rr, if_neg (by omega)]
        exact q2
      have oknw : okd (nw 3 4 z0 z0) := ok_nw (by omega) (zr_z0 8) (zr_z0 8)
      obtain ⟨σ2, k9, c9, r9⟩ := c_copyAll (rep_jb r8 oknw) cs1.2.1 a6 (by omega)
      have fr2 := frC_tr fr1 (frC_chg c9 (by simp; omega))
      refine ⟨σ2, ?_, fr2, ?_, ?_, ?_⟩
      · have ao1 : aok σ1 20 6 (i : Int) := by
          refine aok_mk ⟨by omega, by rw [k2]; omega, by rw [sk1 20 (by omega), a1.2.1 20 (by omega) (by omega)]; rfl⟩ (by omega) ?_
          rw [sk1 20 (by omega), a1.2.1 20 (by omega) (by omega)]
          show (i : Int) < ((2 : Nat) : Int)
          omega
        have g13 : gr σ1 1 3 = 20 := by rw [gr1 1 (by omega)]; exact g1_3 a1
        have fk1 : fok σ1 1 2 := ⟨by omega, by rw [k2]; omega, by rw [sk1 1 (by omega), a1.2.1 1 (by omega) (by omega)]; rfl⟩
        have fkb : fok σ1 b 0 := k8.1.1
        have hb0 : 1 ≤ b := by omega
        have g10 : gr (rr σ1 20 (ru (gr σ1 20) i b)) 1 0 = 2 := g1_0 s1
        simp (disch := first | assumption | omega | (exact shp_fok (by first | assumption | exact shp_sr _ _ (by assumption) | exact shp_sr _ _ (shp_sr _ _ (by assumption)) | exact shp_sr _ _ (shp_sr _ _ (shp_sr _ _ (by assumption)))) (by decide)) | (simp only [fok_sr, aok_sr]; first | assumption | (exact shp_fok (by first | assumption | exact shp_sr _ _ (by assumption) | exact shp_sr _ _ (shp_sr _ _ (by assumption)) | exact shp_sr _ _ (shp_sr _ _ (shp_sr _ _ (by assumption)))) (by decide))) | (refine shp_aok (by first | assumption | exact shp_sr _ _ (by assumption) | exact shp_sr _ _ (shp_sr _ _ (by assumption)) | exact shp_sr _ _ (shp_sr _ _ (shp_sr _ _ (by assumption)))) rfl rfl ?_ ?_ <;> omega) | (exact shp_sr _ _ (by assumption)) | (exact shp_sr _ _ (shp_sr _ _ (by assumption))) | (exact shp_sr _ _ (shp_sr _ _ (shp_sr _ _ (by assumption)))) | (left; assumption) | (exact b2i_or _) | (simp; done)) only [e86_0, e86_1, e86_4, e86_5, e86_6, e86_9, e86_10, e86_13, e86_15, e86_16, e86_17, e86_20, e86_21, e86_22, e86_23, e86_24, e86_27, e86_30, e86_31, e86_34, e86_35, e86_36, e86_39, e86_40, e86_41, e86_42, e86_43, e86_44, e86_47, e86_50, e86_51, eq_self, ne_a, ne_b, ne_c, Nat.reduceEqDiff, lt0, bnd_ok, psh_I, psh_L, psh_R, psh_U, gt_sr, gr_sr, sk_sr, nn_sr, ↓reduceIte, Int.toNat_natCast, Int.reduceToNat, g1_3, hk, hn0, hn2, e2, hb, k1, g13, g10, k9]
      · have gr2 : gr σ2 20 = ru (gr σ 20) i b := by rw [chg_gr c9, gr_rr, if_pos rfl, gr1 20 (by omega)]
        have nn2 : nn σ2 = b + 7 := by rw [c9.1, nn_rr, k2]
        have ot : ∀ j, j < 2 → j ≠ i → (im j = none ∧ gr σ2 20 j = 0) ∨ ∃ e, im j = some e ∧ 34 ≤ gr σ2 20 j ∧ gr σ2 20 j + 7 ≤ nn σ ∧ rep σ2 (gr σ2 20 j) e ∧ okd e := by
          intro j hj hji
          rw [gr2, ru_n _ _ hji]
          rcases him.1 j hj with q | ⟨e, q1, q2, q3, q4, q5⟩
          · exact Or.inl q
          · refine Or.inr ⟨e, q1, q2, q3, ?_, q5⟩
            refine rep_chg c9 (fun m hm _ hin => by simp at hin; omega) ?_
            obtain ⟨⟨u1, u2, u3⟩, u4⟩ := q4
            obtain ⟨v1, v2, v3⟩ := u1
            have hsk : ∀ m, m ≤ 7 → sk (rr σ1 20 (ru (gr σ1 20) i b)) (gr σ 20 j + m) = sk σ (gr σ 20 j + m) := fun m hm => by
              rw [sk_rr, k6 _ (by omega), sk_al, if_neg (by omega)]
            have hgt : ∀ m, m ≤ 7 → gt (rr σ1 20 (ru (gr σ1 20) i b)) (gr σ 20 j + m) = gt σ (gr σ 20 j + m) := fun m hm => by
              rw [gt_rr]; exact gt1 _ (by omega)
            have hia : ∀ m s, 1 ≤ m → m ≤ 7 → ia σ (gr σ 20 j + m) s → ia (rr σ1 20 (ru (gr σ1 20) i b)) (gr σ 20 j + m) s := by
              intro m s _ hm hia
              obtain ⟨⟨w1, w2, w3⟩, w4⟩ := hia
              refine ⟨⟨w1, by rw [nn_rr, k2]; omega, ?_⟩, ?_⟩
              · rw [hsk m hm]; exact w3
              · rw [hsk m hm]; exact w4
            obtain ⟨i1, i2, i3, i4, i5, i6, i7⟩ := u3
            have hgr0 : gr (rr σ1 20 (ru (gr σ1 20) i b)) (gr σ 20 j) = gr σ (gr σ 20 j) := by
              rw [gr_rr, if_neg (by omega)]
              exact gr1 _ (by omega)
            have hsk0 := hsk 0 (by omega)
            have hgt0 := hgt 0 (by omega)
            rw [Nat.add_zero] at hsk0 hgt0
            refine ⟨⟨⟨v1, by rw [nn_rr, k2]; omega, by rw [hsk0]; exact v3⟩, by rw [hgr0]; exact u2, hia 1 _ (by omega) (by omega) i1, hia 2 _ (by omega) (by omega) i2, hia 3 _ (by omega) (by omega) i3, hia 4 _ (by omega) (by omega) i4, hia 5 _ (by omega) (by omega) i5, hia 6 _ (by omega) (by omega) i6, hia 7 _ (by omega) (by omega) i7⟩, ?_⟩
            unfold dim at u4 ⊢
            rw [hgt0, hgt 1 (by omega), hgt 2 (by omega), hgt 3 (by omega), hgt 5 (by omega), hgt 6 (by omega), hgt 7 (by omega)]
            exact u4
        refine ⟨fun j hj => ?_, fun n0 n1 => ?_⟩
        · by_cases hji : j = i
          · subst hji
            refine Or.inr ⟨d, ru_e _ _ _, ?_, ?_, ?_, a6⟩
            · rw [gr2, ru_e]; omega
            · rw [gr2, ru_e, nn2]; omega
            · rw [gr2, ru_e]; exact r9
          · rw [ru_n _ _ hji]
            rcases ot j hj hji with q | ⟨e, q1, q2, q3, q4, q5⟩
            · exact Or.inl q
            · exact Or.inr ⟨e, q1, q2, by omega, q4, q5⟩
        · obtain rfl | rfl : i = 0 ∨ i = 1 := by omega
          · rw [ru_n _ _ (by decide)] at n1
            rcases ot 1 (by omega) (by omega) with q | ⟨e, q1, q2, q3, q4, q5⟩
            · exact absurd q.1 n1
            · refine Or.inr ?_
              rw [gr2, ru_e] at *
              have : ru (gr σ 20) 0 b 0 = b := ru_e _ _ _
              omega
          · rw [ru_n _ _ (by decide)] at n0
            rcases ot 0 (by omega) (by omega) with q | ⟨e, q1, q2, q3, q4, q5⟩
            · exact absurd q.1 n0
            · refine Or.inl ?_
              have : gr σ2 20 1 = b := by rw [gr2, ru_e]
              omega
      · have nn2 : nn σ2 = b + 7 := by rw [c9.1, nn_rr, k2]
        obtain rfl | rfl : i = 0 ∨ i = 1 := by omega
        · have i0 : imn im 0 = 0 := by unfold imn; rw [e1]
          have i1 : imn (ru im 0 (some d)) 0 = 1 := by unfold imn; rw [ru_e]
          have i2 : imn (ru im 0 (some d)) 1 = imn im 1 := by unfold imn; rw [ru_n _ _ (by decide)]
          omega
        · have i0 : imn im 1 = 0 := by unfold imn; rw [e1]
          have i1 : imn (ru im 1 (some d)) 1 = 1 := by unfold imn; rw [ru_e]
          have i2 : imn (ru im 1 (some d)) 0 = imn im 0 := by unfold imn; rw [ru_n _ _ (by decide)]
          omega
      · have nt2 : nt σ2 = nt σ + 13 + 208 := by rw [c9.2.1, nt_rr, k3, nt_al]
        obtain rfl | rfl : i = 0 ∨ i = 1 := by omega
        · have i0 : imn im 0 = 0 := by unfold imn; rw [e1]
          have i1 : imn (ru im 0 (some d)) 0 = 1 := by unfold imn; rw [ru_e]
          have i2 : imn (ru im 0 (some d)) 1 = imn im 1 := by unfold imn; rw [ru_n _ _ (by decide)]
          omega
        · have i0 : imn im 1 = 0 := by unfold imn; rw [e1]
          have i1 : imn (ru im 1 (some d)) 1 = 1 := by unfold imn; rw [ru_e]
          have i2 : imn (ru im 1 (some d)) 0 = imn im 0 := by unfold imn; rw [ru_n _ _ (by decide)]
          omega
    · -- one that is there
      obtain ⟨σ1, k1, k2, k3⟩ := c_copyAll (rep_jb e4 e5) a5 a6 (by omega)
      have hq : ¬ gr σ 20 i = 0 := by omega
      have him1 : imn (ru im i (some d)) 0 + imn (ru im i (some d)) 1 = imn im 0 + imn im 1 := by
        obtain rfl | rfl : i = 0 ∨ i = 1 := by omega
        · have i1 : imn (ru im 0 (some d)) 0 = imn im 0 := by unfold imn; rw [ru_e, e1]
          have i2 : imn (ru im 0 (some d)) 1 = imn im 1 := by unfold imn; rw [ru_n _ _ (by decide)]
          omega
        · have i1 : imn (ru im 1 (some d)) 1 = imn im 1 := by unfold imn; rw [ru_e, e1]
          have i2 : imn (ru im 1 (some d)) 0 = imn im 0 := by unfold imn; rw [ru_n _ _ (by decide)]
          omega
      refine ⟨σ1, ?_, frC_chg k2 (by simp; omega), ⟨fun j hj => ?_, fun n0 n1 => ?_⟩, by rw [him1, k2.1]; exact hnn, by rw [him1, k2.2.1]; exact hnt⟩
      · have fkq : fok σ (gr σ 20 i) 0 := e4.1.1
        simp (disch := first | assumption | omega | (exact shp_fok (by first | assumption | exact shp_sr _ _ (by assumption) | exact shp_sr _ _ (shp_sr _ _ (by assumption)) | exact shp_sr _ _ (shp_sr _ _ (shp_sr _ _ (by assumption)))) (by decide)) | (simp only [fok_sr, aok_sr]; first | assumption | (exact shp_fok (by first | assumption | exact shp_sr _ _ (by assumption) | exact shp_sr _ _ (shp_sr _ _ (by assumption)) | exact shp_sr _ _ (shp_sr _ _ (shp_sr _ _ (by assumption)))) (by decide))) | (refine shp_aok (by first | assumption | exact shp_sr _ _ (by assumption) | exact shp_sr _ _ (shp_sr _ _ (by assumption)) | exact shp_sr _ _ (shp_sr _ _ (shp_sr _ _ (by assumption)))) rfl rfl ?_ ?_ <;> omega) | (exact shp_sr _ _ (by assumption)) | (exact shp_sr _ _ (shp_sr _ _ (by assumption))) | (exact shp_sr _ _ (shp_sr _ _ (shp_sr _ _ (by assumption)))) | (left; assumption) | (exact b2i_or _) | (simp; done)) only [e86_0, e86_1, e86_4, e86_5, e86_6, e86_9, e86_10, e86_13, e86_15, e86_16, e86_17, e86_20, e86_21, e86_22, e86_23, e86_24, e86_27, e86_30, e86_31, e86_34, e86_35, e86_36, e86_39, e86_40, e86_41, e86_42, e86_43, e86_44, e86_47, e86_50, e86_51, eq_self, ne_a, ne_b, ne_c, Nat.reduceEqDiff, lt0, bnd_ok, psh_I, psh_L, psh_R, psh_U, gt_sr, gr_sr, sk_sr, nn_sr, ↓reduceIte, Int.toNat_natCast, Int.reduceToNat, g1_0, g1_3, hk, hn0, hn2, hq, k1]
      · rw [chg_gr k2, k2.1]
        by_cases hji : j = i
        · subst hji
          exact Or.inr ⟨d, ru_e _ _ _, e2, e3, k3, a6⟩
        · rw [ru_n _ _ hji]
          rcases him.1 j hj with q | ⟨e', q1, q2, q3, q4, q5⟩
          · exact Or.inl q
          · refine Or.inr ⟨e', q1, q2, q3, ?_, q5⟩
            have hap : gr σ 20 0 + 7 < gr σ 20 1 ∨ gr σ 20 1 + 7 < gr σ 20 0 := by
              obtain rfl | rfl : i = 0 ∨ i = 1 := by omega
              · obtain rfl : j = 1 := by omega
                exact him.2 (by rw [e1]; simp) (by rw [q1]; simp)
              · obtain rfl : j = 0 := by omega
                exact him.2 (by rw [q1]; simp) (by rw [e1]; simp)
            refine rep_chg k2 (fun m hm _ hin => ?_) q4
            simp at hin
            obtain rfl | rfl : i = 0 ∨ i = 1 := by omega
            · obtain rfl : j = 1 := by omega
              omega
            · obtain rfl : j = 0 := by omega
              omega
      · rw [chg_gr k2]
        refine him.2 (fun e0 => ?_) (fun e0 => ?_)
        · by_cases hi0 : i = 0
          · rw [hi0, e0] at e1; cases e1
          · rw [ru_n _ _ (fun h => hi0 h.symm)] at n0; exact n0 e0
        · by_cases hi1 : i = 1
          · rw [hi1, e0] at e1; cases e1
          · rw [ru_n _ _ (fun h => hi1 h.symm)] at n1; exact n1 e0
  · rw [if_neg h1, if_neg h1]
    have fr0 : frC σ σ := ⟨Nat.le_refl _, rfl, rfl, fun _ _ => rfl, fun _ _ _ => rfl, fun _ _ => rfl⟩
    refine ⟨σ, ?_, fr0, him, hnn, hnt⟩
    by_cases h2 : n < 0
    · simp (disch := first | assumption | omega | (exact shp_fok (by first | assumption | exact shp_sr _ _ (by assumption) | exact shp_sr _ _ (shp_sr _ _ (by assumption)) | exact shp_sr _ _ (shp_sr _ _ (shp_sr _ _ (by assumption)))) (by decide)) | (simp only [fok_sr, aok_sr]; first | assumption | (exact shp_fok (by first | assumption | exact shp_sr _ _ (by assumption) | exact shp_sr _ _ (shp_sr _ _ (by assumption)) | exact shp_sr _ _ (shp_sr _ _ (shp_sr _ _ (by assumption)))) (by decide))) | (refine shp_aok (by first | assumption | exact shp_sr _ _ (by assumption) | exact shp_sr _ _ (shp_sr _ _ (by assumption)) | exact shp_sr _ _ (shp_sr _ _ (shp_sr _ _ (by assumption)))) rfl rfl ?_ ?_ <;> omega) | (exact shp_sr _ _ (by assumption)) | (exact shp_sr _ _ (shp_sr _ _ (by assumption))) | (exact shp_sr _ _ (shp_sr _ _ (shp_sr _ _ (by assumption)))) | (left; assumption) | (exact b2i_or _) | (simp; done)) only [e86_0, e86_1, e86_4, e86_5, e86_6, e86_9, e86_10, e86_13, e86_15, e86_16, e86_17, e86_20, e86_21, e86_22, e86_23, e86_24, e86_27, e86_30, e86_31, e86_34, e86_35, e86_36, e86_39, e86_40, e86_41, e86_42, e86_43, e86_44, e86_47, e86_50, e86_51, eq_self, ne_a, ne_b, ne_c, Nat.reduceEqDiff, lt0, bnd_ok, psh_I, psh_L, psh_R, psh_U, gt_sr, gr_sr, sk_sr, nn_sr, ↓reduceIte, Int.toNat_natCast, Int.reduceToNat, h2]
    · have h3 : ¬ n < ((2 : Nat) : Int) := by omega
      simp (disch := first | assumption | omega | (exact shp_fok (by first | assumption | exact shp_sr _ _ (by assumption) | exact shp_sr _ _ (shp_sr _ _ (by assumption)) | exact shp_sr _ _ (shp_sr _ _ (shp_sr _ _ (by assumption)))) (by decide)) | (simp only [fok_sr, aok_sr]; first | assumption | (exact shp_fok (by first | assumption | exact shp_sr _ _ (by assumption) | exact shp_sr _ _ (shp_sr _ _ (by assumption)) | exact shp_sr _ _ (shp_sr _ _ (shp_sr _ _ (by assumption)))) (by decide))) | (refine shp_aok (by first | assumption | exact shp_sr _ _ (by assumption) | exact shp_sr _ _ (shp_sr _ _ (by assumption)) | exact shp_sr _ _ (shp_sr _ _ (shp_sr _ _ (by assumption)))) rfl rfl ?_ ?_ <;> omega) | (exact shp_sr _ _ (by assumption)) | (exact shp_sr _ _ (shp_sr _ _ (by assumption))) | (exact shp_sr _ _ (shp_sr _ _ (shp_sr _ _ (by assumption)))) | (left; assumption) | (exact b2i_or _) | (simp; done)) only [e86_0, e86_1, e86_4, e86_5, e86_6, e86_9, e86_10, e86_13, e86_15, e86_16, e86_17, e86_20, e86_21, e86_22, e86_23, e86_24, e86_27, e86_30, e86_31, e86_34, e86_35, e86_36, e86_39, e86_40, e86_41, e86_42, e86_43, e86_44, e86_47, e86_50, e86_51, eq_self, ne_a, ne_b, ne_c, Nat.reduceEqDiff, lt0, bnd_ok, psh_I, psh_L, psh_R, psh_U, gt_sr, gr_sr, sk_sr, nn_sr, ↓reduceIte, Int.toNat_natCast, Int.reduceToNat, g1_3, hk, h2, h3]
