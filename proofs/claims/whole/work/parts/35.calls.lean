/-! the class's calls: banks, nights -/
def CS (σ : St) (d : Dat) (cn : Nat) (sg : Nat → Int) : Prop := npd σ cn sg ∧ rep σ 2 d ∧ okd d ∧ jb σ 10
def SC : List Nat := [2, 3, 4, 5, 6, 7, 8, 9, 10, 11, 12, 13, 14, 15, 16, 17, 18, 19, 21, 22, 23]
theorem CS_sc {S : List Nat} {σ σ' : St} {d : Dat} {cn : Nat} {sg : Nat → Int} (h : CS σ d cn sg) (hc : chg S σ σ') (hS : ∀ i ∈ S, (10 ≤ i ∧ i ≤ 18) ∨ (21 ≤ i ∧ i ≤ 23)) (h1 : gt σ' 18 1 = (cn : Int)) (hj : jb σ' 10) : CS σ' d cn sg := by
  obtain ⟨⟨a1, a2, a3, a4⟩, a5, a6, a7⟩ := h
  refine ⟨⟨shp_chg hc a1, h1, ?_, a4⟩, rep_chg hc ?_ a5, a6, hj⟩
  · rw [chg_gt hc (fun e => by have := hS _ e; omega)]; exact a3
  · intro i hi _ e
    have := hS _ e
    omega
theorem CS_rf {σ : St} {d : Dat} {cn : Nat} {sg : Nat → Int} (h : CS σ d cn sg) : chg SC σ σ ∧ CS σ d cn sg := ⟨chg_rf _ _, h⟩
theorem SC_mo {S : List Nat} {σ σ' : St} (h : chg S σ σ') (hS : S.all (fun i => SC.elem i) = true) : chg SC σ σ' := chg_mo h (fun k hk => List.elem_iff.mp (List.all_eq_true.mp hS k hk))
theorem sub_SC (S : List Nat) (hS : S.all (fun i => decide ((10 ≤ i ∧ i ≤ 18) ∨ (21 ≤ i ∧ i ≤ 23))) = true) : ∀ i ∈ S, (10 ≤ i ∧ i ≤ 18) ∨ (21 ≤ i ∧ i ≤ 23) := fun i hi => of_decide_eq_true (List.all_eq_true.mp hS i hi)
theorem nat_of {z : Int} (h : 0 ≤ z) : ∃ n : Nat, z = (n : Int) := ⟨z.toNat, by omega⟩
/-- what a call answers, with what state behind -/
def cla (M : Nat) (as : List AV) (d : Dat) (cn : Nat) (sg : Nat → Int) (r : AV) (d' : Dat) (cn' : Nat) (sg' : Nat → Int) : Prop := ∀ σ, CS σ d cn sg → ∃ σ', run M 0 as [] σ = some (r, σ') ∧ chg SC σ σ' ∧ CS σ' d' cn' sg'
def x_bank (r c : Int) : Int := if (1 ≤ r ∧ r ≤ 4) ∧ (1 ≤ c ∧ c ≤ 6) then r * c else -2
def d_bank (d : Dat) (r c : Int) : Dat := if (1 ≤ r ∧ r ≤ 4) ∧ (1 ≤ c ∧ c ≤ 6) then nw r.toNat c.toNat (dsc d) (dsn d) else d
set_option maxRecDepth 100000 in
set_option maxHeartbeats 4000000 in
theorem c_Fbank (r c : Int) (d : Dat) (cn : Nat) (sg : Nat → Int) : cla 5 [vR 1, vI r, vI c] d cn sg (vI (x_bank r c)) (d_bank d r c) cn sg := by
  intro σ h
  obtain ⟨⟨a1, a2, a3, a4⟩, a5, a6, a7⟩ := id h
  unfold x_bank d_bank
  by_cases h1 : 1 ≤ r ∧ r ≤ 4
  · by_cases h2 : 1 ≤ c ∧ c ≤ 6
    · rw [if_pos ⟨h1, h2⟩, if_pos ⟨h1, h2⟩]
      obtain ⟨R, rfl⟩ := nat_of (show 0 ≤ r by omega)
      obtain ⟨C, rfl⟩ := nat_of (show 0 ≤ c by omega)
      obtain ⟨σ1, e1, c1, r1⟩ := c_clear (rep_jb a5 a6) (R := R) (C := C) (by omega)
      have e2 : gt σ1 2 2 = (R : Int) * (C : Int) := by rw [r1.2.1.2.2.1, Int.natCast_mul]; rfl
      have s1 := shp_chg c1 a1
      rw [a5.2.2.2.2.2.2.2.2.2.1, a5.2.2.2.2.2.2.2.2.2.2] at r1
      have z1 : zr 8 (dsc d) := a6.2.2.2.2.2.2.2.2.2.2.1
      have z2 : zr 8 (dsn d) := a6.2.2.2.2.2.2.2.2.2.2.2.1
      refine ⟨σ1, ?_, SC_mo c1 rfl, ⟨s1, ?_, ?_, a4⟩, r1, ok_nw (by omega) z1 z2, jb_chg c1 (by intro i hi _; simp; omega) a7⟩
      · simp (disch := first | assumption | omega | (exact shp_fok (by first | assumption | exact shp_sr _ _ (by assumption) | exact shp_sr _ _ (shp_sr _ _ (by assumption)) | exact shp_sr _ _ (shp_sr _ _ (shp_sr _ _ (by assumption)))) (by decide)) | (simp only [fok_sr, aok_sr]; first | assumption | (exact shp_fok (by first | assumption | exact shp_sr _ _ (by assumption) | exact shp_sr _ _ (shp_sr _ _ (by assumption)) | exact shp_sr _ _ (shp_sr _ _ (shp_sr _ _ (by assumption)))) (by decide))) | (refine shp_aok (by first | assumption | exact shp_sr _ _ (by assumption) | exact shp_sr _ _ (shp_sr _ _ (by assumption)) | exact shp_sr _ _ (shp_sr _ _ (shp_sr _ _ (by assumption)))) rfl rfl ?_ ?_ <;> omega) | (exact shp_sr _ _ (by assumption)) | (exact shp_sr _ _ (shp_sr _ _ (by assumption))) | (exact shp_sr _ _ (shp_sr _ _ (shp_sr _ _ (by assumption)))) | (left; assumption) | (exact b2i_or _) | (simp; done)) only [e5_0, e5_1, e5_2, e5_3, e5_6, e5_9, e5_10, e5_11, e5_13, e5_16, e5_19, e5_21, e5_22, e5_23, e5_26, e5_27, e5_28, e5_31, e5_32, e5_35, e5_38, eq_self, ne_a, ne_b, ne_c, Nat.reduceEqDiff, lt0, bnd_ok, psh_I, psh_L, psh_R, psh_U, gt_sr, gr_sr, sk_sr, nn_sr, ↓reduceIte, Int.toNat_natCast, Int.reduceToNat, g1_0, c_isWithin, if_pos h1, if_pos h2, e1, e2, Int.reduceEq]
      · rw [chg_gt c1 (by simp)]; exact a2
      · rw [chg_gt c1 (by simp)]; exact a3
    · rw [if_neg (fun h => h2 h.2), if_neg (fun h => h2 h.2)]
      refine ⟨σ, ?_, CS_rf h⟩
      simp (disch := first | assumption | omega | (exact shp_fok (by first | assumption | exact shp_sr _ _ (by assumption) | exact shp_sr _ _ (shp_sr _ _ (by assumption)) | exact shp_sr _ _ (shp_sr _ _ (shp_sr _ _ (by assumption)))) (by decide)) | (simp only [fok_sr, aok_sr]; first | assumption | (exact shp_fok (by first | assumption | exact shp_sr _ _ (by assumption) | exact shp_sr _ _ (shp_sr _ _ (by assumption)) | exact shp_sr _ _ (shp_sr _ _ (shp_sr _ _ (by assumption)))) (by decide))) | (refine shp_aok (by first | assumption | exact shp_sr _ _ (by assumption) | exact shp_sr _ _ (shp_sr _ _ (by assumption)) | exact shp_sr _ _ (shp_sr _ _ (shp_sr _ _ (by assumption)))) rfl rfl ?_ ?_ <;> omega) | (exact shp_sr _ _ (by assumption)) | (exact shp_sr _ _ (shp_sr _ _ (by assumption))) | (exact shp_sr _ _ (shp_sr _ _ (shp_sr _ _ (by assumption)))) | (left; assumption) | (exact b2i_or _) | (simp; done)) only [e5_0, e5_1, e5_2, e5_3, e5_6, e5_9, e5_10, e5_11, e5_13, e5_16, e5_19, e5_21, e5_22, e5_23, e5_26, e5_27, e5_28, e5_31, e5_32, e5_35, e5_38, eq_self, ne_a, ne_b, ne_c, Nat.reduceEqDiff, lt0, bnd_ok, psh_I, psh_L, psh_R, psh_U, gt_sr, gr_sr, sk_sr, nn_sr, ↓reduceIte, Int.toNat_natCast, Int.reduceToNat, c_isWithin, if_pos h1, if_neg h2, Int.reduceEq]
  · rw [if_neg (fun h => h1 h.1), if_neg (fun h => h1 h.1)]
    refine ⟨σ, ?_, CS_rf h⟩
    simp (disch := first | assumption | omega | (exact shp_fok (by first | assumption | exact shp_sr _ _ (by assumption) | exact shp_sr _ _ (shp_sr _ _ (by assumption)) | exact shp_sr _ _ (shp_sr _ _ (shp_sr _ _ (by assumption)))) (by decide)) | (simp only [fok_sr, aok_sr]; first | assumption | (exact shp_fok (by first | assumption | exact shp_sr _ _ (by assumption) | exact shp_sr _ _ (shp_sr _ _ (by assumption)) | exact shp_sr _ _ (shp_sr _ _ (shp_sr _ _ (by assumption)))) (by decide))) | (refine shp_aok (by first | assumption | exact shp_sr _ _ (by assumption) | exact shp_sr _ _ (shp_sr _ _ (by assumption)) | exact shp_sr _ _ (shp_sr _ _ (shp_sr _ _ (by assumption)))) rfl rfl ?_ ?_ <;> omega) | (exact shp_sr _ _ (by assumption)) | (exact shp_sr _ _ (shp_sr _ _ (by assumption))) | (exact shp_sr _ _ (shp_sr _ _ (shp_sr _ _ (by assumption)))) | (left; assumption) | (exact b2i_or _) | (simp; done)) only [e5_0, e5_1, e5_2, e5_3, e5_6, e5_9, e5_10, e5_11, e5_13, e5_16, e5_19, e5_21, e5_22, e5_23, e5_26, e5_27, e5_28, e5_31, e5_32, e5_35, e5_38, eq_self, ne_a, ne_b, ne_c, Nat.reduceEqDiff, lt0, bnd_ok, psh_I, psh_L, psh_R, psh_U, gt_sr, gr_sr, sk_sr, nn_sr, ↓reduceIte, Int.toNat_natCast, Int.reduceToNat, c_isWithin, if_neg h1]
def inC (d : Dat) (c : Int) : Prop := 0 ≤ c ∧ c < (dn_ d : Nat)
def ok_cell (w v : Int) : Prop := (w = 0 ∧ 0 ≤ v ∧ v ≤ 9) ∨ (w = 1 ∧ 0 ≤ v ∧ v ≤ 1)
noncomputable def x_cell (d : Dat) (c w v : Int) : Int := if 0 ≤ c ∧ c < (dn_ d : Nat) then (if (w = 0 ∧ 0 ≤ v ∧ v ≤ 9) ∨ (w = 1 ∧ 0 ≤ v ∧ v ≤ 1) then (if w = 0 then dt d c.toNat else dla d c.toNat) else -2) else -1
noncomputable def d_cell (d : Dat) (c w v : Int) : Dat := if 0 ≤ c ∧ c < (dn_ d : Nat) then (if (w = 0 ∧ 0 ≤ v ∧ v ≤ 9) ∨ (w = 1 ∧ 0 ≤ v ∧ v ≤ 1) then (if w = 0 then fog d (ru (dt d) c.toNat v) (dla d) else fog d (dt d) (ru (dla d) c.toNat v)) else d) else d
theorem CS_now {S : List Nat} {σ σ' : St} {d d' : Dat} {cn : Nat} {sg : Nat → Int} (h : CS σ d cn sg) (hc : chg S σ σ') (hS : ∀ i ∈ S, 2 ≤ i ∧ i ≤ 9) (hr : rep σ' 2 d') (ho : okd d') : CS σ' d' cn sg := by
  obtain ⟨a1, a5, a6, a7⟩ := h
  exact ⟨npd_chg hc (fun e => by have := hS _ e; omega) (fun e => by have := hS _ e; omega) a1, hr, ho, jb_chg hc (fun i _ _ e => by have := hS _ e; omega) a7⟩
set_option maxRecDepth 100000 in
set_option maxHeartbeats 4000000 in
theorem c_Fcell (c w v : Int) (d : Dat) (cn : Nat) (sg : Nat → Int) : cla 7 [vR 1, vI c, vI w, vI v, vU] d cn sg (vI (x_cell d c w v)) (d_cell d c w v) cn sg := by
  intro σ h
  obtain ⟨⟨a1, a2, a3, a4⟩, a5, a6, a7⟩ := id h
  have h24 := dn24 a6
  have hh := c_hasR a5 c
  unfold x_cell d_cell
  by_cases h1 : 0 ≤ c ∧ c < (dn_ d : Nat)
  · rw [if_pos h1] at hh
    rw [if_pos h1, if_pos h1]
    obtain ⟨c, rfl⟩ := nat_of h1.1
    rw [Int.toNat_natCast]
    have t1 := c_tellR a5 (c := c) (by omega) w
    by_cases h2 : (w = 0 ∧ 0 ≤ v ∧ v ≤ 9) ∨ (w = 1 ∧ 0 ≤ v ∧ v ≤ 1)
    · rw [if_pos h2, if_pos h2]
      rcases h2 with ⟨rfl, h2⟩ | ⟨rfl, h2⟩
      · rw [if_pos rfl] at t1 ⊢
        rw [if_pos rfl]
        have p1 := c_putN (shp_ia (k := 3) (n := 24) a1 (by decide)) (j := c) (by omega) v
        have e5 : gt σ 3 = dt d := a5.2.2.2.2.2.1
        rw [e5] at p1
        refine ⟨sr σ 3 (ru (dt d) c v), ?_, SC_mo (S := [3]) (chg_sr (chg_rf _ _) (by simp)) rfl, CS_now (S := [3]) h (chg_sr (chg_rf _ _) (by simp)) (by simp) (rep_t a5 _) (ok_fog a6 (tk_ru (ok_t a6) h2) (ok_l a6) (zr_ru (ok_zt a6) (by omega) _) (ok_zl a6))⟩
        simp (disch := first | assumption | omega | (exact shp_fok (by first | assumption | exact shp_sr _ _ (by assumption) | exact shp_sr _ _ (shp_sr _ _ (by assumption)) | exact shp_sr _ _ (shp_sr _ _ (shp_sr _ _ (by assumption)))) (by decide)) | (simp only [fok_sr, aok_sr]; first | assumption | (exact shp_fok (by first | assumption | exact shp_sr _ _ (by assumption) | exact shp_sr _ _ (shp_sr _ _ (by assumption)) | exact shp_sr _ _ (shp_sr _ _ (shp_sr _ _ (by assumption)))) (by decide))) | (refine shp_aok (by first | assumption | exact shp_sr _ _ (by assumption) | exact shp_sr _ _ (shp_sr _ _ (by assumption)) | exact shp_sr _ _ (shp_sr _ _ (shp_sr _ _ (by assumption)))) rfl rfl ?_ ?_ <;> omega) | (exact shp_sr _ _ (by assumption)) | (exact shp_sr _ _ (shp_sr _ _ (by assumption))) | (exact shp_sr _ _ (shp_sr _ _ (shp_sr _ _ (by assumption)))) | (left; assumption) | (exact b2i_or _) | (simp; done)) only [e7_0, e7_1, e7_4, e7_5, e7_8, e7_11, e7_12, e7_13, e7_14, e7_15, e7_16, e7_19, e7_22, e7_23, e7_24, e7_25, e7_28, e7_30, e7_33, e7_34, e7_37, e7_40, e7_42, e7_43, e7_44, e7_47, e7_48, e7_49, e7_52, e7_54, e7_55, e7_58, e7_59, e7_62, e7_65, e7_66, e7_67, e7_70, e7_73, e7_74, e7_77, e7_78, e7_79, e7_82, e7_84, eq_self, ne_a, ne_b, ne_c, Nat.reduceEqDiff, lt0, bnd_ok, psh_I, psh_L, psh_R, psh_U, gt_sr, gr_sr, sk_sr, nn_sr, ↓reduceIte, Int.toNat_natCast, Int.reduceToNat, g1_0, g2_6, hh, t1, c_isWithin, if_pos h2, p1, Int.reduceEq, Int.reduceLE, and_self]
      · obtain ⟨σ1, e1, c1, r1⟩ := c_lightR a5 a6 (c := c) (by omega) (v := v) (by omega)
        rw [if_neg (by decide)] at t1 ⊢
        rw [if_neg (by decide)]
        refine ⟨σ1, ?_, SC_mo c1 rfl, CS_now h c1 (by simp) r1 (ok_fog a6 (ok_t a6) (lam_ru (ok_l a6) (by omega)) (ok_zt a6) (zr_ru (ok_zl a6) (by omega) _))⟩
        simp (disch := first | assumption | omega | (exact shp_fok (by first | assumption | exact shp_sr _ _ (by assumption) | exact shp_sr _ _ (shp_sr _ _ (by assumption)) | exact shp_sr _ _ (shp_sr _ _ (shp_sr _ _ (by assumption)))) (by decide)) | (simp only [fok_sr, aok_sr]; first | assumption | (exact shp_fok (by first | assumption | exact shp_sr _ _ (by assumption) | exact shp_sr _ _ (shp_sr _ _ (by assumption)) | exact shp_sr _ _ (shp_sr _ _ (shp_sr _ _ (by assumption)))) (by decide))) | (refine shp_aok (by first | assumption | exact shp_sr _ _ (by assumption) | exact shp_sr _ _ (shp_sr _ _ (by assumption)) | exact shp_sr _ _ (shp_sr _ _ (shp_sr _ _ (by assumption)))) rfl rfl ?_ ?_ <;> omega) | (exact shp_sr _ _ (by assumption)) | (exact shp_sr _ _ (shp_sr _ _ (by assumption))) | (exact shp_sr _ _ (shp_sr _ _ (shp_sr _ _ (by assumption)))) | (left; assumption) | (exact b2i_or _) | (simp; done)) only [e7_0, e7_1, e7_4, e7_5, e7_8, e7_11, e7_12, e7_13, e7_14, e7_15, e7_16, e7_19, e7_22, e7_23, e7_24, e7_25, e7_28, e7_30, e7_33, e7_34, e7_37, e7_40, e7_42, e7_43, e7_44, e7_47, e7_48, e7_49, e7_52, e7_54, e7_55, e7_58, e7_59, e7_62, e7_65, e7_66, e7_67, e7_70, e7_73, e7_74, e7_77, e7_78, e7_79, e7_82, e7_84, eq_self, ne_a, ne_b, ne_c, Nat.reduceEqDiff, lt0, bnd_ok, psh_I, psh_L, psh_R, psh_U, gt_sr, gr_sr, sk_sr, nn_sr, ↓reduceIte, Int.toNat_natCast, Int.reduceToNat, g1_0, hh, t1, c_isWithin, if_pos h2, e1, Int.reduceEq, Int.reduceLE, and_self]
    · rw [if_neg h2, if_neg h2]
      refine ⟨σ, ?_, CS_rf h⟩
      by_cases h3 : 0 ≤ w ∧ w ≤ 1
      · obtain rfl | rfl : w = 0 ∨ w = 1 := by omega
        · have h4 : ¬ (0 ≤ v ∧ v ≤ 9) := by omega
          simp (disch := first | assumption | omega | (exact shp_fok (by first | assumption | exact shp_sr _ _ (by assumption) | exact shp_sr _ _ (shp_sr _ _ (by assumption)) | exact shp_sr _ _ (shp_sr _ _ (shp_sr _ _ (by assumption)))) (by decide)) | (simp only [fok_sr, aok_sr]; first | assumption | (exact shp_fok (by first | assumption | exact shp_sr _ _ (by assumption) | exact shp_sr _ _ (shp_sr _ _ (by assumption)) | exact shp_sr _ _ (shp_sr _ _ (shp_sr _ _ (by assumption)))) (by decide))) | (refine shp_aok (by first | assumption | exact shp_sr _ _ (by assumption) | exact shp_sr _ _ (shp_sr _ _ (by assumption)) | exact shp_sr _ _ (shp_sr _ _ (shp_sr _ _ (by assumption)))) rfl rfl ?_ ?_ <;> omega) | (exact shp_sr _ _ (by assumption)) | (exact shp_sr _ _ (shp_sr _ _ (by assumption))) | (exact shp_sr _ _ (shp_sr _ _ (shp_sr _ _ (by assumption)))) | (left; assumption) | (exact b2i_or _) | (simp; done)) only [e7_0, e7_1, e7_4, e7_5, e7_8, e7_11, e7_12, e7_13, e7_14, e7_15, e7_16, e7_19, e7_22, e7_23, e7_24, e7_25, e7_28, e7_30, e7_33, e7_34, e7_37, e7_40, e7_42, e7_43, e7_44, e7_47, e7_48, e7_49, e7_52, e7_54, e7_55, e7_58, e7_59, e7_62, e7_65, e7_66, e7_67, e7_70, e7_73, e7_74, e7_77, e7_78, e7_79, e7_82, e7_84, eq_self, ne_a, ne_b, ne_c, Nat.reduceEqDiff, lt0, bnd_ok, psh_I, psh_L, psh_R, psh_U, gt_sr, gr_sr, sk_sr, nn_sr, ↓reduceIte, Int.toNat_natCast, Int.reduceToNat, g1_0, hh, c_isWithin, if_neg h4, Int.reduceEq, Int.reduceLE, and_self]
        · have h4 : ¬ (0 ≤ v ∧ v ≤ 1) := by omega
          simp (disch := first | assumption | omega | (exact shp_fok (by first | assumption | exact shp_sr _ _ (by assumption) | exact shp_sr _ _ (shp_sr _ _ (by assumption)) | exact shp_sr _ _ (shp_sr _ _ (shp_sr _ _ (by assumption)))) (by decide)) | (simp only [fok_sr, aok_sr]; first | assumption | (exact shp_fok (by first | assumption | exact shp_sr _ _ (by assumption) | exact shp_sr _ _ (shp_sr _ _ (by assumption)) | exact shp_sr _ _ (shp_sr _ _ (shp_sr _ _ (by assumption)))) (by decide))) | (refine shp_aok (by first | assumption | exact shp_sr _ _ (by assumption) | exact shp_sr _ _ (shp_sr _ _ (by assumption)) | exact shp_sr _ _ (shp_sr _ _ (shp_sr _ _ (by assumption)))) rfl rfl ?_ ?_ <;> omega) | (exact shp_sr _ _ (by assumption)) | (exact shp_sr _ _ (shp_sr _ _ (by assumption))) | (exact shp_sr _ _ (shp_sr _ _ (shp_sr _ _ (by assumption)))) | (left; assumption) | (exact b2i_or _) | (simp; done)) only [e7_0, e7_1, e7_4, e7_5, e7_8, e7_11, e7_12, e7_13, e7_14, e7_15, e7_16, e7_19, e7_22, e7_23, e7_24, e7_25, e7_28, e7_30, e7_33, e7_34, e7_37, e7_40, e7_42, e7_43, e7_44, e7_47, e7_48, e7_49, e7_52, e7_54, e7_55, e7_58, e7_59, e7_62, e7_65, e7_66, e7_67, e7_70, e7_73, e7_74, e7_77, e7_78, e7_79, e7_82, e7_84, eq_self, ne_a, ne_b, ne_c, Nat.reduceEqDiff, lt0, bnd_ok, psh_I, psh_L, psh_R, psh_U, gt_sr, gr_sr, sk_sr, nn_sr, ↓reduceIte, Int.toNat_natCast, Int.reduceToNat, g1_0, hh, c_isWithin, if_neg h4, Int.reduceEq, Int.reduceLE, and_self]
      · simp (disch := first | assumption | omega | (exact shp_fok (by first | assumption | exact shp_sr _ _ (by assumption) | exact shp_sr _ _ (shp_sr _ _ (by assumption)) | exact shp_sr _ _ (shp_sr _ _ (shp_sr _ _ (by assumption)))) (by decide)) | (simp only [fok_sr, aok_sr]; first | assumption | (exact shp_fok (by first | assumption | exact shp_sr _ _ (by assumption) | exact shp_sr _ _ (shp_sr _ _ (by assumption)) | exact shp_sr _ _ (shp_sr _ _ (shp_sr _ _ (by assumption)))) (by decide))) | (refine shp_aok (by first | assumption | exact shp_sr _ _ (by assumption) | exact shp_sr _ _ (shp_sr _ _ (by assumption)) | exact shp_sr _ _ (shp_sr _ _ (shp_sr _ _ (by assumption)))) rfl rfl ?_ ?_ <;> omega) | (exact shp_sr _ _ (by assumption)) | (exact shp_sr _ _ (shp_sr _ _ (by assumption))) | (exact shp_sr _ _ (shp_sr _ _ (shp_sr _ _ (by assumption)))) | (left; assumption) | (exact b2i_or _) | (simp; done)) only [e7_0, e7_1, e7_4, e7_5, e7_8, e7_11, e7_12, e7_13, e7_14, e7_15, e7_16, e7_19, e7_22, e7_23, e7_24, e7_25, e7_28, e7_30, e7_33, e7_34, e7_37, e7_40, e7_42, e7_43, e7_44, e7_47, e7_48, e7_49, e7_52, e7_54, e7_55, e7_58, e7_59, e7_62, e7_65, e7_66, e7_67, e7_70, e7_73, e7_74, e7_77, e7_78, e7_79, e7_82, e7_84, eq_self, ne_a, ne_b, ne_c, Nat.reduceEqDiff, lt0, bnd_ok, psh_I, psh_L, psh_R, psh_U, gt_sr, gr_sr, sk_sr, nn_sr, ↓reduceIte, Int.toNat_natCast, Int.reduceToNat, g1_0, hh, c_isWithin, if_neg h3, Int.reduceEq]
  · rw [if_neg h1] at hh
    rw [if_neg h1, if_neg h1]
    refine ⟨σ, ?_, CS_rf h⟩
    simp (disch := first | assumption | omega | (exact shp_fok (by first | assumption | exact shp_sr _ _ (by assumption) | exact shp_sr _ _ (shp_sr _ _ (by assumption)) | exact shp_sr _ _ (shp_sr _ _ (shp_sr _ _ (by assumption)))) (by decide)) | (simp only [fok_sr, aok_sr]; first | assumption | (exact shp_fok (by first | assumption | exact shp_sr _ _ (by assumption) | exact shp_sr _ _ (shp_sr _ _ (by assumption)) | exact shp_sr _ _ (shp_sr _ _ (shp_sr _ _ (by assumption)))) (by decide))) | (refine shp_aok (by first | assumption | exact shp_sr _ _ (by assumption) | exact shp_sr _ _ (shp_sr _ _ (by assumption)) | exact shp_sr _ _ (shp_sr _ _ (shp_sr _ _ (by assumption)))) rfl rfl ?_ ?_ <;> omega) | (exact shp_sr _ _ (by assumption)) | (exact shp_sr _ _ (shp_sr _ _ (by assumption))) | (exact shp_sr _ _ (shp_sr _ _ (shp_sr _ _ (by assumption)))) | (left; assumption) | (exact b2i_or _) | (simp; done)) only [e7_0, e7_1, e7_4, e7_5, e7_8, e7_11, e7_12, e7_13, e7_14, e7_15, e7_16, e7_19, e7_22, e7_23, e7_24, e7_25, e7_28, e7_30, e7_33, e7_34, e7_37, e7_40, e7_42, e7_43, e7_44, e7_47, e7_48, e7_49, e7_52, e7_54, e7_55, e7_58, e7_59, e7_62, e7_65, e7_66, e7_67, e7_70, e7_73, e7_74, e7_77, e7_78, e7_79, e7_82, e7_84, eq_self, ne_a, ne_b, ne_c, Nat.reduceEqDiff, lt0, bnd_ok, psh_I, psh_L, psh_R, psh_U, gt_sr, gr_sr, sk_sr, nn_sr, ↓reduceIte, Int.toNat_natCast, Int.reduceToNat, g1_0, hh]
def setF (d : Dat) (v : Int) : Dat := (dR d, dC d, v, dsl d, dsi d, dt d, dla d, dwa d, dsc d, dsn d)
def setS (d : Dat) (v : Int) : Dat := (dR d, dC d, dfe d, v, dsi d, dt d, dla d, dwa d, dsc d, dsn d)
def x_set (d : Dat) (w v : Int) : Int := if w = 0 ∧ 1 ≤ v ∧ v ≤ 5 then dfe d else if w = 1 ∧ 0 ≤ v ∧ v ≤ 3 then dsl d else -2
def d_set (d : Dat) (w v : Int) : Dat := if w = 0 ∧ 1 ≤ v ∧ v ≤ 5 then setF d v else if w = 1 ∧ 0 ≤ v ∧ v ≤ 3 then setS d v else d
set_option maxRecDepth 100000 in
set_option maxHeartbeats 4000000 in
theorem c_Fset (w v : Int) (d : Dat) (cn : Nat) (sg : Nat → Int) : cla 15 [vR 1, vI w, vI v, vU] d cn sg (vI (x_set d w v)) (d_set d w v) cn sg := by
  intro σ h
  obtain ⟨⟨a1, a2, a3, a4⟩, a5, a6, a7⟩ := id h
  obtain ⟨b1, b2, b3, b4, b5⟩ := id a5
  unfold x_set d_set
  by_cases h1 : w = 0 ∧ 1 ≤ v ∧ v ≤ 5
  · rw [if_pos h1, if_pos h1]
    obtain ⟨rfl, h1⟩ := h1
    refine ⟨sr σ 2 (ru (gt σ 2) 3 v), ?_, SC_mo (S := [2]) (chg_sr (chg_rf _ _) (by simp)) rfl, CS_now (S := [2]) h (chg_sr (chg_rf _ _) (by simp)) (by simp) ⟨b1, ?_, ?_, ?_, ?_⟩ ⟨a6.1, h1, a6.2.2⟩⟩
    · simp (disch := first | assumption | omega | (exact shp_fok (by first | assumption | exact shp_sr _ _ (by assumption) | exact shp_sr _ _ (shp_sr _ _ (by assumption)) | exact shp_sr _ _ (shp_sr _ _ (shp_sr _ _ (by assumption)))) (by decide)) | (simp only [fok_sr, aok_sr]; first | assumption | (exact shp_fok (by first | assumption | exact shp_sr _ _ (by assumption) | exact shp_sr _ _ (shp_sr _ _ (by assumption)) | exact shp_sr _ _ (shp_sr _ _ (shp_sr _ _ (by assumption)))) (by decide))) | (refine shp_aok (by first | assumption | exact shp_sr _ _ (by assumption) | exact shp_sr _ _ (shp_sr _ _ (by assumption)) | exact shp_sr _ _ (shp_sr _ _ (shp_sr _ _ (by assumption)))) rfl rfl ?_ ?_ <;> omega) | (exact shp_sr _ _ (by assumption)) | (exact shp_sr _ _ (shp_sr _ _ (by assumption))) | (exact shp_sr _ _ (shp_sr _ _ (shp_sr _ _ (by assumption)))) | (left; assumption) | (exact b2i_or _) | (simp; done)) only [e15_0, e15_1, e15_4, e15_5, e15_6, e15_7, e15_10, e15_13, e15_14, e15_17, e15_20, e15_21, e15_22, e15_25, e15_26, e15_29, e15_30, e15_31, e15_32, e15_33, e15_36, e15_37, e15_38, e15_39, e15_42, e15_45, e15_46, e15_49, e15_52, e15_53, e15_54, e15_57, e15_58, e15_61, e15_62, e15_63, e15_65, eq_self, ne_a, ne_b, ne_c, Nat.reduceEqDiff, lt0, bnd_ok, psh_I, psh_L, psh_R, psh_U, gt_sr, gr_sr, sk_sr, nn_sr, ↓reduceIte, Int.toNat_natCast, Int.reduceToNat, g1_0, c_isWithin, if_pos h1, b3, Int.reduceEq]
    · unfold dim; rw [gt_e]; simp only [ru, Nat.reduceEqDiff, ↓reduceIte]; exact b2
    · rw [gt_e, ru_e]; rfl
    · rw [gt_e, ru_n _ _ (by decide)]; exact b4
    · rw [gt_e, ru_n _ _ (by decide)]; exact b5
  · rw [if_neg h1, if_neg h1]
    by_cases h2 : w = 1 ∧ 0 ≤ v ∧ v ≤ 3
    · rw [if_pos h2, if_pos h2]
      obtain ⟨rfl, h2⟩ := h2
      refine ⟨sr σ 2 (ru (gt σ 2) 4 v), ?_, SC_mo (S := [2]) (chg_sr (chg_rf _ _) (by simp)) rfl, CS_now (S := [2]) h (chg_sr (chg_rf _ _) (by simp)) (by simp) ⟨b1, ?_, ?_, ?_, ?_⟩ ⟨a6.1, a6.2.1, h2, a6.2.2.2⟩⟩
      · simp (disch := first | assumption | omega | (exact shp_fok (by first | assumption | exact shp_sr _ _ (by assumption) | exact shp_sr _ _ (shp_sr _ _ (by assumption)) | exact shp_sr _ _ (shp_sr _ _ (shp_sr _ _ (by assumption)))) (by decide)) | (simp only [fok_sr, aok_sr]; first | assumption | (exact shp_fok (by first | assumption | exact shp_sr _ _ (by assumption) | exact shp_sr _ _ (shp_sr _ _ (by assumption)) | exact shp_sr _ _ (shp_sr _ _ (shp_sr _ _ (by assumption)))) (by decide))) | (refine shp_aok (by first | assumption | exact shp_sr _ _ (by assumption) | exact shp_sr _ _ (shp_sr _ _ (by assumption)) | exact shp_sr _ _ (shp_sr _ _ (shp_sr _ _ (by assumption)))) rfl rfl ?_ ?_ <;> omega) | (exact shp_sr _ _ (by assumption)) | (exact shp_sr _ _ (shp_sr _ _ (by assumption))) | (exact shp_sr _ _ (shp_sr _ _ (shp_sr _ _ (by assumption)))) | (left; assumption) | (exact b2i_or _) | (simp; done)) only [e15_0, e15_1, e15_4, e15_5, e15_6, e15_7, e15_10, e15_13, e15_14, e15_17, e15_20, e15_21, e15_22, e15_25, e15_26, e15_29, e15_30, e15_31, e15_32, e15_33, e15_36, e15_37, e15_38, e15_39, e15_42, e15_45, e15_46, e15_49, e15_52, e15_53, e15_54, e15_57, e15_58, e15_61, e15_62, e15_63, e15_65, eq_self, ne_a, ne_b, ne_c, Nat.reduceEqDiff, lt0, bnd_ok, psh_I, psh_L, psh_R, psh_U, gt_sr, gr_sr, sk_sr, nn_sr, ↓reduceIte, Int.toNat_natCast, Int.reduceToNat, g1_0, c_isWithin, if_pos h2, b4, Int.reduceEq]
      · unfold dim; rw [gt_e]; simp only [ru, Nat.reduceEqDiff, ↓reduceIte]; exact b2
      · rw [gt_e, ru_n _ _ (by decide)]; exact b3
      · rw [gt_e, ru_e]; rfl
      · rw [gt_e, ru_n _ _ (by decide)]; exact b5
    · rw [if_neg h2, if_neg h2]
      refine ⟨σ, ?_, CS_rf h⟩
      by_cases h3 : w = 0
      · subst h3
        have h4 : ¬ (1 ≤ v ∧ v ≤ 5) := fun e => h1 ⟨rfl, e⟩
        simp (disch := first | assumption | omega | (exact shp_fok (by first | assumption | exact shp_sr _ _ (by assumption) | exact shp_sr _ _ (shp_sr _ _ (by assumption)) | exact shp_sr _ _ (shp_sr _ _ (shp_sr _ _ (by assumption)))) (by decide)) | (simp only [fok_sr, aok_sr]; first | assumption | (exact shp_fok (by first | assumption | exact shp_sr _ _ (by assumption) | exact shp_sr _ _ (shp_sr _ _ (by assumption)) | exact shp_sr _ _ (shp_sr _ _ (shp_sr _ _ (by assumption)))) (by decide))) | (refine shp_aok (by first | assumption | exact shp_sr _ _ (by assumption) | exact shp_sr _ _ (shp_sr _ _ (by assumption)) | exact shp_sr _ _ (shp_sr _ _ (shp_sr _ _ (by assumption)))) rfl rfl ?_ ?_ <;> omega) | (exact shp_sr _ _ (by assumption)) | (exact shp_sr _ _ (shp_sr _ _ (by assumption))) | (exact shp_sr _ _ (shp_sr _ _ (shp_sr _ _ (by assumption)))) | (left; assumption) | (exact b2i_or _) | (simp; done)) only [e15_0, e15_1, e15_4, e15_5, e15_6, e15_7, e15_10, e15_13, e15_14, e15_17, e15_20, e15_21, e15_22, e15_25, e15_26, e15_29, e15_30, e15_31, e15_32, e15_33, e15_36, e15_37, e15_38, e15_39, e15_42, e15_45, e15_46, e15_49, e15_52, e15_53, e15_54, e15_57, e15_58, e15_61, e15_62, e15_63, e15_65, eq_self, ne_a, ne_b, ne_c, Nat.reduceEqDiff, lt0, bnd_ok, psh_I, psh_L, psh_R, psh_U, gt_sr, gr_sr, sk_sr, nn_sr, ↓reduceIte, Int.toNat_natCast, Int.reduceToNat, c_isWithin, if_neg h4, Int.reduceEq]
      · by_cases h5 : w = 1
        · subst h5
          have h4 : ¬ (0 ≤ v ∧ v ≤ 3) := fun e => h2 ⟨rfl, e⟩
          simp (disch := first | assumption | omega | (exact shp_fok (by first | assumption | exact shp_sr _ _ (by assumption) | exact shp_sr _ _ (shp_sr _ _ (by assumption)) | exact shp_sr _ _ (shp_sr _ _ (shp_sr _ _ (by assumption)))) (by decide)) | (simp only [fok_sr, aok_sr]; first | assumption | (exact shp_fok (by first | assumption | exact shp_sr _ _ (by assumption) | exact shp_sr _ _ (shp_sr _ _ (by assumption)) | exact shp_sr _ _ (shp_sr _ _ (shp_sr _ _ (by assumption)))) (by decide))) | (refine shp_aok (by first | assumption | exact shp_sr _ _ (by assumption) | exact shp_sr _ _ (shp_sr _ _ (by assumption)) | exact shp_sr _ _ (shp_sr _ _ (shp_sr _ _ (by assumption)))) rfl rfl ?_ ?_ <;> omega) | (exact shp_sr _ _ (by assumption)) | (exact shp_sr _ _ (shp_sr _ _ (by assumption))) | (exact shp_sr _ _ (shp_sr _ _ (shp_sr _ _ (by assumption)))) | (left; assumption) | (exact b2i_or _) | (simp; done)) only [e15_0, e15_1, e15_4, e15_5, e15_6, e15_7, e15_10, e15_13, e15_14, e15_17, e15_20, e15_21, e15_22, e15_25, e15_26, e15_29, e15_30, e15_31, e15_32, e15_33, e15_36, e15_37, e15_38, e15_39, e15_42, e15_45, e15_46, e15_49, e15_52, e15_53, e15_54, e15_57, e15_58, e15_61, e15_62, e15_63, e15_65, eq_self, ne_a, ne_b, ne_c, Nat.reduceEqDiff, lt0, bnd_ok, psh_I, psh_L, psh_R, psh_U, gt_sr, gr_sr, sk_sr, nn_sr, ↓reduceIte, Int.toNat_natCast, Int.reduceToNat, c_isWithin, if_neg h4, Int.reduceEq]
        · simp (disch := first | assumption | omega | (exact shp_fok (by first | assumption | exact shp_sr _ _ (by assumption) | exact shp_sr _ _ (shp_sr _ _ (by assumption)) | exact shp_sr _ _ (shp_sr _ _ (shp_sr _ _ (by assumption)))) (by decide)) | (simp only [fok_sr, aok_sr]; first | assumption | (exact shp_fok (by first | assumption | exact shp_sr _ _ (by assumption) | exact shp_sr _ _ (shp_sr _ _ (by assumption)) | exact shp_sr _ _ (shp_sr _ _ (shp_sr _ _ (by assumption)))) (by decide))) | (refine shp_aok (by first | assumption | exact shp_sr _ _ (by assumption) | exact shp_sr _ _ (shp_sr _ _ (by assumption)) | exact shp_sr _ _ (shp_sr _ _ (shp_sr _ _ (by assumption)))) rfl rfl ?_ ?_ <;> omega) | (exact shp_sr _ _ (by assumption)) | (exact shp_sr _ _ (shp_sr _ _ (by assumption))) | (exact shp_sr _ _ (shp_sr _ _ (shp_sr _ _ (by assumption)))) | (left; assumption) | (exact b2i_or _) | (simp; done)) only [e15_0, e15_1, e15_4, e15_5, e15_6, e15_7, e15_10, e15_13, e15_14, e15_17, e15_20, e15_21, e15_22, e15_25, e15_26, e15_29, e15_30, e15_31, e15_32, e15_33, e15_36, e15_37, e15_38, e15_39, e15_42, e15_45, e15_46, e15_49, e15_52, e15_53, e15_54, e15_57, e15_58, e15_61, e15_62, e15_63, e15_65, eq_self, ne_a, ne_b, ne_c, Nat.reduceEqDiff, lt0, bnd_ok, psh_I, psh_L, psh_R, psh_U, gt_sr, gr_sr, sk_sr, nn_sr, ↓reduceIte, Int.toNat_natCast, Int.reduceToNat, h3, h5]
def setW (d : Dat) (w : Nat → Int) : Dat := (dR d, dC d, dfe d, dsl d, dsi d, dt d, dla d, w, dsc d, dsn d)
theorem ok_setW {d : Dat} (h : okd d) {s c : Nat} {v : Int} (hs : s < 4) (hc : c < dn_ d) (hv : -1 ≤ v ∧ v ≤ 9) : okd (setW d (ru (dwa d) (s * 24 + c) v)) := by
  have h24 := dn24 h
  obtain ⟨o1, o2, o3, o4, o5, o6, o7, o8, o9, o10, o11, o12, o13, o14⟩ := h
  refine ⟨o1, o2, o3, o4, o5, o6, ?_, o8, o9, zr_ru o10 (by omega) _, o11, o12, ?_, o14⟩
  · intro i hi
    show -1 ≤ ru (dwa d) (s * 24 + c) v i ∧ ru (dwa d) (s * 24 + c) v i ≤ 9
    unfold ru
    split
    · exact hv
    · exact o7 i hi
  · intro s' c' hs' hc' h24'
    have e : dn_ (setW d (ru (dwa d) (s * 24 + c) v)) = dn_ d := rfl
    rw [e] at hc'
    show ru (dwa d) (s * 24 + c) v (s' * 24 + c') = -1
    rw [ru_n _ _ (by omega)]
    exact o13 s' c' hs' hc' h24'
noncomputable def x_shape (d : Dat) (s c v : Int) : Int := if (0 ≤ s ∧ s ≤ 3) ∧ (0 ≤ c ∧ c < (dn_ d : Nat)) then (if -1 ≤ v ∧ v ≤ 9 then wiD (setW d (ru (dwa d) (s.toNat * 24 + c.toNat) v)) s.toNat else -2) else -1
noncomputable def d_shape (d : Dat) (s c v : Int) : Dat := if (0 ≤ s ∧ s ≤ 3) ∧ (0 ≤ c ∧ c < (dn_ d : Nat)) then (if -1 ≤ v ∧ v ≤ 9 then setW d (ru (dwa d) (s.toNat * 24 + c.toNat) v) else d) else d
set_option maxRecDepth 100000 in
set_option maxHeartbeats 4000000 in
theorem c_Fshape (s c v : Int) (d : Dat) (cn : Nat) (sg : Nat → Int) : cla 16 [vR 1, vI s, vI c, vI v] d cn sg (vI (x_shape d s c v)) (d_shape d s c v) cn sg := by
  intro σ h
  obtain ⟨⟨a1, a2, a3, a4⟩, a5, a6, a7⟩ := id h
  obtain ⟨b1, b2, b3, b4, b5, b6, b7, b8, b9, b10, b11⟩ := id a5
  have h24 := dn24 a6
  have hh := c_hasR a5 c
  unfold x_shape d_shape
  by_cases h1 : 0 ≤ s ∧ s ≤ 3
  · by_cases h2 : 0 ≤ c ∧ c < (dn_ d : Nat)
    · rw [if_pos h2] at hh
      have h12 : (0 ≤ s ∧ s ≤ 3) ∧ (0 ≤ c ∧ c < (dn_ d : Nat)) := ⟨h1, h2⟩
      rw [if_pos h12, if_pos h12]
      clear h12
      obtain ⟨s, rfl⟩ := nat_of h1.1
      obtain ⟨c, rfl⟩ := nat_of h2.1
      rw [Int.toNat_natCast, Int.toNat_natCast]
      by_cases h3 : -1 ≤ v ∧ v ≤ 9
      · rw [if_pos h3, if_pos h3]
        have w1 : wr (wr ((s : Int) * 24) + (c : Int)) = ((s * 24 + c : Nat) : Int) := by
          rw [wr_r (z := (s : Int) * 24) (by omega) (by omega), wr_r (by omega) (by omega)]; omega
        have p1 := c_putN (shp_ia (k := 7) (n := 96) a1 (by decide)) (j := s * 24 + c) (by omega) v
        have e5 : gt σ 7 = dwa d := b9
        rw [e5] at p1
        have r1 : rep (sr σ 7 (ru (dwa d) (s * 24 + c) v)) 2 (setW d (ru (dwa d) (s * 24 + c) v)) := ⟨b1, dim_sr b2 (by omega), b3, b4, b5, b6, b7, b8, gt_e _ _ _, b10, b11⟩
        have w2 := c_wishesR r1 (s := s) (by omega)
        have s1 : shp (sr σ 7 (ru (dwa d) (s * 24 + c) v)) := a1
        refine ⟨_, ?_, SC_mo (S := [7]) (chg_sr (chg_rf _ _) (by simp)) rfl, CS_now (S := [7]) h (chg_sr (chg_rf _ _) (by simp)) (by simp) r1 (ok_setW a6 (by omega) (by omega) h3)⟩
        simp (disch := first | assumption | omega | (exact shp_fok (by first | assumption | exact shp_sr _ _ (by assumption) | exact shp_sr _ _ (shp_sr _ _ (by assumption)) | exact shp_sr _ _ (shp_sr _ _ (shp_sr _ _ (by assumption)))) (by decide)) | (simp only [fok_sr, aok_sr]; first | assumption | (exact shp_fok (by first | assumption | exact shp_sr _ _ (by assumption) | exact shp_sr _ _ (shp_sr _ _ (by assumption)) | exact shp_sr _ _ (shp_sr _ _ (shp_sr _ _ (by assumption)))) (by decide))) | (refine shp_aok (by first | assumption | exact shp_sr _ _ (by assumption) | exact shp_sr _ _ (shp_sr _ _ (by assumption)) | exact shp_sr _ _ (shp_sr _ _ (shp_sr _ _ (by assumption)))) rfl rfl ?_ ?_ <;> omega) | (exact shp_sr _ _ (by assumption)) | (exact shp_sr _ _ (shp_sr _ _ (by assumption))) | (exact shp_sr _ _ (shp_sr _ _ (shp_sr _ _ (by assumption)))) | (left; assumption) | (exact b2i_or _) | (simp; done)) only [e16_0, e16_1, e16_2, e16_3, e16_6, e16_9, e16_10, e16_13, e16_14, e16_17, e16_20, e16_21, e16_22, e16_23, e16_24, e16_26, e16_29, e16_32, e16_34, e16_35, e16_36, e16_39, e16_42, e16_43, e16_45, e16_46, e16_47, e16_48, e16_49, e16_52, e16_53, e16_56, e16_57, e16_60, eq_self, ne_a, ne_b, ne_c, Nat.reduceEqDiff, lt0, bnd_ok, psh_I, psh_L, psh_R, psh_U, gt_sr, gr_sr, sk_sr, nn_sr, ↓reduceIte, Int.toNat_natCast, Int.reduceToNat, g1_0, g2_10, hh, c_isWithin, if_pos h1, if_pos h3, p1, w1, w2, Int.reduceEq]
      · rw [if_neg h3, if_neg h3]
        refine ⟨σ, ?_, CS_rf h⟩
        simp (disch := first | assumption | omega | (exact shp_fok (by first | assumption | exact shp_sr _ _ (by assumption) | exact shp_sr _ _ (shp_sr _ _ (by assumption)) | exact shp_sr _ _ (shp_sr _ _ (shp_sr _ _ (by assumption)))) (by decide)) | (simp only [fok_sr, aok_sr]; first | assumption | (exact shp_fok (by first | assumption | exact shp_sr _ _ (by assumption) | exact shp_sr _ _ (shp_sr _ _ (by assumption)) | exact shp_sr _ _ (shp_sr _ _ (shp_sr _ _ (by assumption)))) (by decide))) | (refine shp_aok (by first | assumption | exact shp_sr _ _ (by assumption) | exact shp_sr _ _ (shp_sr _ _ (by assumption)) | exact shp_sr _ _ (shp_sr _ _ (shp_sr _ _ (by assumption)))) rfl rfl ?_ ?_ <;> omega) | (exact shp_sr _ _ (by assumption)) | (exact shp_sr _ _ (shp_sr _ _ (by assumption))) | (exact shp_sr _ _ (shp_sr _ _ (shp_sr _ _ (by assumption)))) | (left; assumption) | (exact b2i_or _) | (simp; done)) only [e16_0, e16_1, e16_2, e16_3, e16_6, e16_9, e16_10, e16_13, e16_14, e16_17, e16_20, e16_21, e16_22, e16_23, e16_24, e16_26, e16_29, e16_32, e16_34, e16_35, e16_36, e16_39, e16_42, e16_43, e16_45, e16_46, e16_47, e16_48, e16_49, e16_52, e16_53, e16_56, e16_57, e16_60, eq_self, ne_a, ne_b, ne_c, Nat.reduceEqDiff, lt0, bnd_ok, psh_I, psh_L, psh_R, psh_U, gt_sr, gr_sr, sk_sr, nn_sr, ↓reduceIte, Int.toNat_natCast, Int.reduceToNat, g1_0, hh, c_isWithin, if_pos h1, if_neg h3, Int.reduceEq]
    · rw [if_neg h2] at hh
      rw [if_neg (fun h => h2 h.2), if_neg (fun h => h2 h.2)]
      refine ⟨σ, ?_, CS_rf h⟩
      simp (disch := first | assumption | omega | (exact shp_fok (by first | assumption | exact shp_sr _ _ (by assumption) | exact shp_sr _ _ (shp_sr _ _ (by assumption)) | exact shp_sr _ _ (shp_sr _ _ (shp_sr _ _ (by assumption)))) (by decide)) | (simp only [fok_sr, aok_sr]; first | assumption | (exact shp_fok (by first | assumption | exact shp_sr _ _ (by assumption) | exact shp_sr _ _ (shp_sr _ _ (by assumption)) | exact shp_sr _ _ (shp_sr _ _ (shp_sr _ _ (by assumption)))) (by decide))) | (refine shp_aok (by first | assumption | exact shp_sr _ _ (by assumption) | exact shp_sr _ _ (shp_sr _ _ (by assumption)) | exact shp_sr _ _ (shp_sr _ _ (shp_sr _ _ (by assumption)))) rfl rfl ?_ ?_ <;> omega) | (exact shp_sr _ _ (by assumption)) | (exact shp_sr _ _ (shp_sr _ _ (by assumption))) | (exact shp_sr _ _ (shp_sr _ _ (shp_sr _ _ (by assumption)))) | (left; assumption) | (exact b2i_or _) | (simp; done)) only [e16_0, e16_1, e16_2, e16_3, e16_6, e16_9, e16_10, e16_13, e16_14, e16_17, e16_20, e16_21, e16_22, e16_23, e16_24, e16_26, e16_29, e16_32, e16_34, e16_35, e16_36, e16_39, e16_42, e16_43, e16_45, e16_46, e16_47, e16_48, e16_49, e16_52, e16_53, e16_56, e16_57, e16_60, eq_self, ne_a, ne_b, ne_c, Nat.reduceEqDiff, lt0, bnd_ok, psh_I, psh_L, psh_R, psh_U, gt_sr, gr_sr, sk_sr, nn_sr, ↓reduceIte, Int.toNat_natCast, Int.reduceToNat, g1_0, hh, c_isWithin, if_pos h1, Int.reduceEq]
  · rw [if_neg (fun h => h1 h.1), if_neg (fun h => h1 h.1)]
    refine ⟨σ, ?_, CS_rf h⟩
    simp (disch := first | assumption | omega | (exact shp_fok (by first | assumption | exact shp_sr _ _ (by assumption) | exact shp_sr _ _ (shp_sr _ _ (by assumption)) | exact shp_sr _ _ (shp_sr _ _ (shp_sr _ _ (by assumption)))) (by decide)) | (simp only [fok_sr, aok_sr]; first | assumption | (exact shp_fok (by first | assumption | exact shp_sr _ _ (by assumption) | exact shp_sr _ _ (shp_sr _ _ (by assumption)) | exact shp_sr _ _ (shp_sr _ _ (shp_sr _ _ (by assumption)))) (by decide))) | (refine shp_aok (by first | assumption | exact shp_sr _ _ (by assumption) | exact shp_sr _ _ (shp_sr _ _ (by assumption)) | exact shp_sr _ _ (shp_sr _ _ (shp_sr _ _ (by assumption)))) rfl rfl ?_ ?_ <;> omega) | (exact shp_sr _ _ (by assumption)) | (exact shp_sr _ _ (shp_sr _ _ (by assumption))) | (exact shp_sr _ _ (shp_sr _ _ (shp_sr _ _ (by assumption)))) | (left; assumption) | (exact b2i_or _) | (simp; done)) only [e16_0, e16_1, e16_2, e16_3, e16_6, e16_9, e16_10, e16_13, e16_14, e16_17, e16_20, e16_21, e16_22, e16_23, e16_24, e16_26, e16_29, e16_32, e16_34, e16_35, e16_36, e16_39, e16_42, e16_43, e16_45, e16_46, e16_47, e16_48, e16_49, e16_52, e16_53, e16_56, e16_57, e16_60, eq_self, ne_a, ne_b, ne_c, Nat.reduceEqDiff, lt0, bnd_ok, psh_I, psh_L, psh_R, psh_U, gt_sr, gr_sr, sk_sr, nn_sr, ↓reduceIte, Int.toNat_natCast, Int.reduceToNat, c_isWithin, if_neg h1]
def x_say (cn : Nat) (s : Int) : Int := if 33 ≤ s ∧ s ≤ 126 then (if cn = 60 then -4 else ((cn + 1 : Nat) : Int)) else -2
def n_say (cn : Nat) (s : Int) : Nat := if 33 ≤ s ∧ s ≤ 126 then (if cn = 60 then cn else cn + 1) else cn
def s_say (cn : Nat) (sg : Nat → Int) (s : Int) : Nat → Int := if 33 ≤ s ∧ s ≤ 126 then (if cn = 60 then sg else ru sg cn s) else sg
theorem CS_pad {σ : St} {d : Dat} {cn cn' : Nat} {sg sg' : Nat → Int} {F : Nat → Int} (h : CS σ d cn sg) (hF : F 1 = (cn' : Int)) (ho : okp cn' sg') : CS (sr (sr σ 19 sg') 18 F) d cn' sg' := by
  obtain ⟨⟨a1, a2, a3, a4⟩, a5, a6, a7⟩ := h
  have c1 : chg [18, 19] σ (sr (sr σ 19 sg') 18 F) := chg_sr (chg_sr (chg_rf _ _) (by simp)) (by simp)
  exact ⟨⟨a1, by rw [gt_e]; exact hF, by rw [gt_n _ _ (by decide), gt_e], ho⟩, rep_chg c1 (by intro i hi _; simp; omega) a5, a6, jb_chg c1 (by intro i hi _; simp; omega) a7⟩
set_option maxRecDepth 100000 in
set_option maxHeartbeats 4000000 in
theorem c_Fsay (s : Int) (d : Dat) (cn : Nat) (sg : Nat → Int) : cla 19 [vR 1, vI s] d cn sg (vI (x_say cn s)) d (n_say cn s) (s_say cn sg s) := by
  intro σ h
  obtain ⟨⟨a1, a2, a3, a4⟩, a5, a6, a7⟩ := id h
  have h60 := a4.1
  unfold x_say n_say s_say
  by_cases h1 : 33 ≤ s ∧ s ≤ 126
  · rw [if_pos h1, if_pos h1, if_pos h1]
    by_cases h2 : cn = 60
    · rw [if_pos h2, if_pos h2, if_pos h2]
      refine ⟨σ, ?_, CS_rf h⟩
      have h3 : ¬ (cn : Int) < 60 := by omega
      simp (disch := first | assumption | omega | (exact shp_fok (by first | assumption | exact shp_sr _ _ (by assumption) | exact shp_sr _ _ (shp_sr _ _ (by assumption)) | exact shp_sr _ _ (shp_sr _ _ (shp_sr _ _ (by assumption)))) (by decide)) | (simp only [fok_sr, aok_sr]; first | assumption | (exact shp_fok (by first | assumption | exact shp_sr _ _ (by assumption) | exact shp_sr _ _ (shp_sr _ _ (by assumption)) | exact shp_sr _ _ (shp_sr _ _ (shp_sr _ _ (by assumption)))) (by decide))) | (refine shp_aok (by first | assumption | exact shp_sr _ _ (by assumption) | exact shp_sr _ _ (shp_sr _ _ (by assumption)) | exact shp_sr _ _ (shp_sr _ _ (shp_sr _ _ (by assumption)))) rfl rfl ?_ ?_ <;> omega) | (exact shp_sr _ _ (by assumption)) | (exact shp_sr _ _ (shp_sr _ _ (by assumption))) | (exact shp_sr _ _ (shp_sr _ _ (shp_sr _ _ (by assumption)))) | (left; assumption) | (exact b2i_or _) | (simp; done)) only [e19_0, e19_1, e19_3, e19_5, e19_8, e19_11, e19_13, e19_14, e19_15, e19_18, e19_21, e19_23, e19_26, e19_28, e19_29, e19_30, e19_33, e19_36, e19_37, e19_40, e19_43, e19_44, e19_47, e19_48, e19_51, e19_52, e19_55, e19_56, e19_57, e19_60, e19_61, e19_64, e19_67, eq_self, ne_a, ne_b, ne_c, Nat.reduceEqDiff, lt0, bnd_ok, psh_I, psh_L, psh_R, psh_U, gt_sr, gr_sr, sk_sr, nn_sr, ↓reduceIte, Int.toNat_natCast, Int.reduceToNat, g1_2, a2, c_isWithin, if_pos h1, h3, Int.reduceEq]
    · rw [if_neg h2, if_neg h2, if_neg h2]
      have h3 : (cn : Int) < 60 := by omega
      have p1 := c_putN (shp_ia (k := 19) (n := 60) a1 (by decide)) (j := cn) (by omega) s
      rw [a3] at p1
      have w1 : wr ((cn : Int) + 1) = ((cn + 1 : Nat) : Int) := by rw [wr_id (by omega) (by omega)]; omega
      have ho : okp (cn + 1) (ru sg cn s) := by
        refine ⟨by omega, fun i hi => ?_⟩
        unfold ru
        split
        · exact h1
        · exact a4.2 i (by omega)
      refine ⟨sr (sr σ 19 (ru sg cn s)) 18 (ru (gt σ 18) 1 ((cn + 1 : Nat) : Int)), ?_, SC_mo (S := [18, 19]) (chg_sr (chg_sr (chg_rf _ _) (by simp)) (by simp)) rfl, CS_pad h (ru_e _ _ _) ho⟩
      have s1 : shp (sr σ 19 (ru sg cn s)) := a1
      simp (disch := first | assumption | omega | (exact shp_fok (by first | assumption | exact shp_sr _ _ (by assumption) | exact shp_sr _ _ (shp_sr _ _ (by assumption)) | exact shp_sr _ _ (shp_sr _ _ (shp_sr _ _ (by assumption)))) (by decide)) | (simp only [fok_sr, aok_sr]; first | assumption | (exact shp_fok (by first | assumption | exact shp_sr _ _ (by assumption) | exact shp_sr _ _ (shp_sr _ _ (by assumption)) | exact shp_sr _ _ (shp_sr _ _ (shp_sr _ _ (by assumption)))) (by decide))) | (refine shp_aok (by first | assumption | exact shp_sr _ _ (by assumption) | exact shp_sr _ _ (shp_sr _ _ (by assumption)) | exact shp_sr _ _ (shp_sr _ _ (shp_sr _ _ (by assumption)))) rfl rfl ?_ ?_ <;> omega) | (exact shp_sr _ _ (by assumption)) | (exact shp_sr _ _ (shp_sr _ _ (by assumption))) | (exact shp_sr _ _ (shp_sr _ _ (shp_sr _ _ (by assumption)))) | (left; assumption) | (exact b2i_or _) | (simp; done)) only [e19_0, e19_1, e19_3, e19_5, e19_8, e19_11, e19_13, e19_14, e19_15, e19_18, e19_21, e19_23, e19_26, e19_28, e19_29, e19_30, e19_33, e19_36, e19_37, e19_40, e19_43, e19_44, e19_47, e19_48, e19_51, e19_52, e19_55, e19_56, e19_57, e19_60, e19_61, e19_64, e19_67, eq_self, ne_a, ne_b, ne_c, Nat.reduceEqDiff, lt0, bnd_ok, psh_I, psh_L, psh_R, psh_U, gt_sr, gr_sr, sk_sr, nn_sr, ↓reduceIte, Int.toNat_natCast, Int.reduceToNat, g1_2, g18_0, a2, c_isWithin, if_pos h1, h3, p1, w1, ru_e, Int.reduceEq]
  · rw [if_neg h1, if_neg h1, if_neg h1]
    refine ⟨σ, ?_, CS_rf h⟩
    simp (disch := first | assumption | omega | (exact shp_fok (by first | assumption | exact shp_sr _ _ (by assumption) | exact shp_sr _ _ (shp_sr _ _ (by assumption)) | exact shp_sr _ _ (shp_sr _ _ (shp_sr _ _ (by assumption)))) (by decide)) | (simp only [fok_sr, aok_sr]; first | assumption | (exact shp_fok (by first | assumption | exact shp_sr _ _ (by assumption) | exact shp_sr _ _ (shp_sr _ _ (by assumption)) | exact shp_sr _ _ (shp_sr _ _ (shp_sr _ _ (by assumption)))) (by decide))) | (refine shp_aok (by first | assumption | exact shp_sr _ _ (by assumption) | exact shp_sr _ _ (shp_sr _ _ (by assumption)) | exact shp_sr _ _ (shp_sr _ _ (shp_sr _ _ (by assumption)))) rfl rfl ?_ ?_ <;> omega) | (exact shp_sr _ _ (by assumption)) | (exact shp_sr _ _ (shp_sr _ _ (by assumption))) | (exact shp_sr _ _ (shp_sr _ _ (shp_sr _ _ (by assumption)))) | (left; assumption) | (exact b2i_or _) | (simp; done)) only [e19_0, e19_1, e19_3, e19_5, e19_8, e19_11, e19_13, e19_14, e19_15, e19_18, e19_21, e19_23, e19_26, e19_28, e19_29, e19_30, e19_33, e19_36, e19_37, e19_40, e19_43, e19_44, e19_47, e19_48, e19_51, e19_52, e19_55, e19_56, e19_57, e19_60, e19_61, e19_64, e19_67, eq_self, ne_a, ne_b, ne_c, Nat.reduceEqDiff, lt0, bnd_ok, psh_I, psh_L, psh_R, psh_U, gt_sr, gr_sr, sk_sr, nn_sr, ↓reduceIte, Int.toNat_natCast, Int.reduceToNat, c_isWithin, if_neg h1]
theorem okp_0 (sg : Nat → Int) : okp 0 sg := ⟨by omega, fun i hi => absurd hi (Nat.not_lt_zero i)⟩
set_option maxRecDepth 100000 in
set_option maxHeartbeats 4000000 in
theorem c_Fwipe (d : Dat) (cn : Nat) (sg : Nat → Int) : cla 20 [vR 1, vU] d cn sg (vI cn) d 0 sg := by
  intro σ h
  obtain ⟨⟨a1, a2, a3, a4⟩, a5, a6, a7⟩ := id h
  have hp := CS_pad (cn' := 0) (sg' := sg) (F := ru (gt σ 18) 1 0) h (ru_e _ _ _) (okp_0 sg)
  rw [sr_self σ 19 sg a3.symm] at hp
  refine ⟨_, ?_, SC_mo (S := [18]) (chg_sr (chg_rf _ _) (by simp)) rfl, hp⟩
  simp (disch := first | assumption | omega | (exact shp_fok (by first | assumption | exact shp_sr _ _ (by assumption) | exact shp_sr _ _ (shp_sr _ _ (by assumption)) | exact shp_sr _ _ (shp_sr _ _ (shp_sr _ _ (by assumption)))) (by decide)) | (simp only [fok_sr, aok_sr]; first | assumption | (exact shp_fok (by first | assumption | exact shp_sr _ _ (by assumption) | exact shp_sr _ _ (shp_sr _ _ (by assumption)) | exact shp_sr _ _ (shp_sr _ _ (shp_sr _ _ (by assumption)))) (by decide))) | (refine shp_aok (by first | assumption | exact shp_sr _ _ (by assumption) | exact shp_sr _ _ (shp_sr _ _ (by assumption)) | exact shp_sr _ _ (shp_sr _ _ (shp_sr _ _ (by assumption)))) rfl rfl ?_ ?_ <;> omega) | (exact shp_sr _ _ (by assumption)) | (exact shp_sr _ _ (shp_sr _ _ (by assumption))) | (exact shp_sr _ _ (shp_sr _ _ (shp_sr _ _ (by assumption)))) | (left; assumption) | (exact b2i_or _) | (simp; done)) only [e20_0, e20_1, e20_4, e20_7, e20_8, e20_9, e20_12, e20_13, e20_16, e20_17, eq_self, ne_a, ne_b, ne_c, Nat.reduceEqDiff, lt0, bnd_ok, psh_I, psh_L, psh_R, psh_U, gt_sr, gr_sr, sk_sr, nn_sr, ↓reduceIte, Int.toNat_natCast, Int.reduceToNat, g1_2, a2]
set_option maxRecDepth 100000 in
set_option maxHeartbeats 4000000 in
theorem c_Ffault (d : Dat) (cn : Nat) (sg : Nat → Int) : cla 21 [vR 1] d cn sg (vI (flt (dn_ d) cn sg)) d cn sg := by
  intro σ h
  obtain ⟨a1, a5, a6, a7⟩ := id h
  have f1 := c_firstFault a1 a5 a6
  have s1 := a1.1
  refine ⟨σ, ?_, CS_rf h⟩
  simp (disch := first | assumption | omega | (exact shp_fok (by first | assumption | exact shp_sr _ _ (by assumption) | exact shp_sr _ _ (shp_sr _ _ (by assumption)) | exact shp_sr _ _ (shp_sr _ _ (shp_sr _ _ (by assumption)))) (by decide)) | (simp only [fok_sr, aok_sr]; first | assumption | (exact shp_fok (by first | assumption | exact shp_sr _ _ (by assumption) | exact shp_sr _ _ (shp_sr _ _ (by assumption)) | exact shp_sr _ _ (shp_sr _ _ (shp_sr _ _ (by assumption)))) (by decide))) | (refine shp_aok (by first | assumption | exact shp_sr _ _ (by assumption) | exact shp_sr _ _ (shp_sr _ _ (by assumption)) | exact shp_sr _ _ (shp_sr _ _ (shp_sr _ _ (by assumption)))) rfl rfl ?_ ?_ <;> omega) | (exact shp_sr _ _ (by assumption)) | (exact shp_sr _ _ (shp_sr _ _ (by assumption))) | (exact shp_sr _ _ (shp_sr _ _ (shp_sr _ _ (by assumption)))) | (left; assumption) | (exact b2i_or _) | (simp; done)) only [e21_0, e21_1, e21_4, e21_5, e21_8, e21_11, eq_self, ne_a, ne_b, ne_c, Nat.reduceEqDiff, lt0, bnd_ok, psh_I, psh_L, psh_R, psh_U, gt_sr, gr_sr, sk_sr, nn_sr, ↓reduceIte, Int.toNat_natCast, Int.reduceToNat, g1_0, g1_2, f1]
def plD (d : Dat) (cn : Nat) (sg : Nat → Int) (wt : Int) : Int × Int × Int × Int × Dat := pl sg wt cn 0 0 (-6) d
def x_judge (d : Dat) (cn : Nat) (sg : Nat → Int) (w : Int) : Int := if 0 ≤ w ∧ w ≤ 1 then (if flt (dn_ d) cn sg = -6 then (if w = 0 then (plD d cn sg (-1)).1 else (plD d cn sg (-1)).2.1) else -5) else -2
theorem SP_sub : ∀ i ∈ SP, (10 ≤ i ∧ i ≤ 18) ∨ (21 ≤ i ∧ i ≤ 23) := sub_SC _ rfl
set_option maxRecDepth 100000 in
set_option maxHeartbeats 4000000 in
theorem c_Fjudge (w : Int) (d : Dat) (cn : Nat) (sg : Nat → Int) : cla 25 [vR 1, vI w] d cn sg (vI (x_judge d cn sg w)) d cn sg := by
  intro σ h
  obtain ⟨a1, a5, a6, a7⟩ := id h
  have f1 := c_firstFault a1 a5 a6
  have s1 := a1.1
  unfold x_judge
  by_cases h1 : 0 ≤ w ∧ w ≤ 1
  · rw [if_pos h1]
    by_cases h2 : flt (dn_ d) cn sg = -6
    · rw [if_pos h2]
      obtain ⟨σ1, e1, c1, j1, n1, p1, p2, -⟩ := c_play a1 a5 a6 a7 h2 (wt := -1) (by omega)
      have s2 := shp_chg c1 s1
      refine ⟨σ1, ?_, SC_mo c1 rfl, CS_sc h c1 SP_sub n1 j1⟩
      by_cases h3 : w = 0
      · rw [if_pos h3]
        simp (disch := first | assumption | omega | (exact shp_fok (by first | assumption | exact shp_sr _ _ (by assumption) | exact shp_sr _ _ (shp_sr _ _ (by assumption)) | exact shp_sr _ _ (shp_sr _ _ (shp_sr _ _ (by assumption)))) (by decide)) | (simp only [fok_sr, aok_sr]; first | assumption | (exact shp_fok (by first | assumption | exact shp_sr _ _ (by assumption) | exact shp_sr _ _ (shp_sr _ _ (by assumption)) | exact shp_sr _ _ (shp_sr _ _ (shp_sr _ _ (by assumption)))) (by decide))) | (refine shp_aok (by first | assumption | exact shp_sr _ _ (by assumption) | exact shp_sr _ _ (shp_sr _ _ (by assumption)) | exact shp_sr _ _ (shp_sr _ _ (shp_sr _ _ (by assumption)))) rfl rfl ?_ ?_ <;> omega) | (exact shp_sr _ _ (by assumption)) | (exact shp_sr _ _ (shp_sr _ _ (by assumption))) | (exact shp_sr _ _ (shp_sr _ _ (shp_sr _ _ (by assumption)))) | (left; assumption) | (exact b2i_or _) | (simp; done)) only [e25_0, e25_1, e25_2, e25_3, e25_6, e25_9, e25_11, e25_12, e25_13, e25_16, e25_17, e25_20, e25_23, e25_25, e25_28, e25_30, e25_31, e25_32, e25_35, e25_36, e25_39, e25_40, e25_43, e25_44, e25_47, e25_48, e25_51, e25_52, e25_55, e25_58, e25_61, e25_62, e25_65, e25_68, eq_self, ne_a, ne_b, ne_c, Nat.reduceEqDiff, lt0, bnd_ok, psh_I, psh_L, psh_R, psh_U, gt_sr, gr_sr, sk_sr, nn_sr, ↓reduceIte, Int.toNat_natCast, Int.reduceToNat, g1_0, g1_1, g1_2, c_isWithin, if_pos h1, f1, h2, e1, p1, h3, Int.reduceEq, Int.reduceLE, and_self]
        rfl
      · rw [if_neg h3]
        simp (disch := first | assumption | omega | (exact shp_fok (by first | assumption | exact shp_sr _ _ (by assumption) | exact shp_sr _ _ (shp_sr _ _ (by assumption)) | exact shp_sr _ _ (shp_sr _ _ (shp_sr _ _ (by assumption)))) (by decide)) | (simp only [fok_sr, aok_sr]; first | assumption | (exact shp_fok (by first | assumption | exact shp_sr _ _ (by assumption) | exact shp_sr _ _ (shp_sr _ _ (by assumption)) | exact shp_sr _ _ (shp_sr _ _ (shp_sr _ _ (by assumption)))) (by decide))) | (refine shp_aok (by first | assumption | exact shp_sr _ _ (by assumption) | exact shp_sr _ _ (shp_sr _ _ (by assumption)) | exact shp_sr _ _ (shp_sr _ _ (shp_sr _ _ (by assumption)))) rfl rfl ?_ ?_ <;> omega) | (exact shp_sr _ _ (by assumption)) | (exact shp_sr _ _ (shp_sr _ _ (by assumption))) | (exact shp_sr _ _ (shp_sr _ _ (shp_sr _ _ (by assumption)))) | (left; assumption) | (exact b2i_or _) | (simp; done)) only [e25_0, e25_1, e25_2, e25_3, e25_6, e25_9, e25_11, e25_12, e25_13, e25_16, e25_17, e25_20, e25_23, e25_25, e25_28, e25_30, e25_31, e25_32, e25_35, e25_36, e25_39, e25_40, e25_43, e25_44, e25_47, e25_48, e25_51, e25_52, e25_55, e25_58, e25_61, e25_62, e25_65, e25_68, eq_self, ne_a, ne_b, ne_c, Nat.reduceEqDiff, lt0, bnd_ok, psh_I, psh_L, psh_R, psh_U, gt_sr, gr_sr, sk_sr, nn_sr, ↓reduceIte, Int.toNat_natCast, Int.reduceToNat, g1_0, g1_1, g1_2, c_isWithin, if_pos h1, f1, h2, e1, p2, h3, Int.reduceEq]
        rfl
    · rw [if_neg h2]
      refine ⟨σ, ?_, CS_rf h⟩
      simp (disch := first | assumption | omega | (exact shp_fok (by first | assumption | exact shp_sr _ _ (by assumption) | exact shp_sr _ _ (shp_sr _ _ (by assumption)) | exact shp_sr _ _ (shp_sr _ _ (shp_sr _ _ (by assumption)))) (by decide)) | (simp only [fok_sr, aok_sr]; first | assumption | (exact shp_fok (by first | assumption | exact shp_sr _ _ (by assumption) | exact shp_sr _ _ (shp_sr _ _ (by assumption)) | exact shp_sr _ _ (shp_sr _ _ (shp_sr _ _ (by assumption)))) (by decide))) | (refine shp_aok (by first | assumption | exact shp_sr _ _ (by assumption) | exact shp_sr _ _ (shp_sr _ _ (by assumption)) | exact shp_sr _ _ (shp_sr _ _ (shp_sr _ _ (by assumption)))) rfl rfl ?_ ?_ <;> omega) | (exact shp_sr _ _ (by assumption)) | (exact shp_sr _ _ (shp_sr _ _ (by assumption))) | (exact shp_sr _ _ (shp_sr _ _ (shp_sr _ _ (by assumption)))) | (left; assumption) | (exact b2i_or _) | (simp; done)) only [e25_0, e25_1, e25_2, e25_3, e25_6, e25_9, e25_11, e25_12, e25_13, e25_16, e25_17, e25_20, e25_23, e25_25, e25_28, e25_30, e25_31, e25_32, e25_35, e25_36, e25_39, e25_40, e25_43, e25_44, e25_47, e25_48, e25_51, e25_52, e25_55, e25_58, e25_61, e25_62, e25_65, e25_68, eq_self, ne_a, ne_b, ne_c, Nat.reduceEqDiff, lt0, bnd_ok, psh_I, psh_L, psh_R, psh_U, gt_sr, gr_sr, sk_sr, nn_sr, ↓reduceIte, Int.toNat_natCast, Int.reduceToNat, g1_0, g1_1, g1_2, c_isWithin, if_pos h1, f1, h2, Int.reduceEq]
  · rw [if_neg h1]
    refine ⟨σ, ?_, CS_rf h⟩
    simp (disch := first | assumption | omega | (exact shp_fok (by first | assumption | exact shp_sr _ _ (by assumption) | exact shp_sr _ _ (shp_sr _ _ (by assumption)) | exact shp_sr _ _ (shp_sr _ _ (shp_sr _ _ (by assumption)))) (by decide)) | (simp only [fok_sr, aok_sr]; first | assumption | (exact shp_fok (by first | assumption | exact shp_sr _ _ (by assumption) | exact shp_sr _ _ (shp_sr _ _ (by assumption)) | exact shp_sr _ _ (shp_sr _ _ (shp_sr _ _ (by assumption)))) (by decide))) | (refine shp_aok (by first | assumption | exact shp_sr _ _ (by assumption) | exact shp_sr _ _ (shp_sr _ _ (by assumption)) | exact shp_sr _ _ (shp_sr _ _ (shp_sr _ _ (by assumption)))) rfl rfl ?_ ?_ <;> omega) | (exact shp_sr _ _ (by assumption)) | (exact shp_sr _ _ (shp_sr _ _ (by assumption))) | (exact shp_sr _ _ (shp_sr _ _ (shp_sr _ _ (by assumption)))) | (left; assumption) | (exact b2i_or _) | (simp; done)) only [e25_0, e25_1, e25_2, e25_3, e25_6, e25_9, e25_11, e25_12, e25_13, e25_16, e25_17, e25_20, e25_23, e25_25, e25_28, e25_30, e25_31, e25_32, e25_35, e25_36, e25_39, e25_40, e25_43, e25_44, e25_47, e25_48, e25_51, e25_52, e25_55, e25_58, e25_61, e25_62, e25_65, e25_68, eq_self, ne_a, ne_b, ne_c, Nat.reduceEqDiff, lt0, bnd_ok, psh_I, psh_L, psh_R, psh_U, gt_sr, gr_sr, sk_sr, nn_sr, ↓reduceIte, Int.toNat_natCast, Int.reduceToNat, c_isWithin, if_neg h1]
def can (d : Dat) (cn : Nat) (sg : Nat → Int) (wt : Int) : Bool := decide (flt (dn_ d) cn sg = -6) && decide ((plD d cn sg wt).1 = -6)
set_option maxRecDepth 100000 in
set_option maxHeartbeats 4000000 in
theorem c_canBeDone {σ : St} {wt : Int} (hw : -1 ≤ wt ∧ wt ≤ 3) {d : Dat} {cn : Nat} {sg : Nat → Int} (h : CS σ d cn sg) : ∃ σ', run 39 0 [vR 1, vI wt] [] σ = some (vI (b2i (can d cn sg wt)), σ') ∧ chg SP σ σ' ∧ CS σ' d cn sg ∧ (can d cn sg wt = true → gt σ' 18 2 = (plD d cn sg wt).2.2.1 ∧ gt σ' 18 5 = (plD d cn sg wt).2.2.2.1 ∧ rep σ' 10 (plD d cn sg wt).2.2.2.2 ∧ okd (plD d cn sg wt).2.2.2.2) := by
  obtain ⟨a1, a5, a6, a7⟩ := id h
  have f1 := c_firstFault a1 a5 a6
  have s1 := a1.1
  unfold can
  by_cases h2 : flt (dn_ d) cn sg = -6
  · obtain ⟨σ1, e1, c1, j1, n1, p1, p2, p3⟩ := c_play a1 a5 a6 a7 h2 hw
    have s2 := shp_chg c1 s1
    have e9 : (plD d cn sg wt) = pl sg wt cn 0 0 (-6) d := rfl
    rw [← e9] at p1 p2 p3
    by_cases h3 : (plD d cn sg wt).1 = -6
    · refine ⟨σ1, ?_, c1, CS_sc h c1 SP_sub n1 j1, fun _ => p3 h3⟩
      rw [decide_eq_true h2, decide_eq_true h3]
      simp (disch := first | assumption | omega | (exact shp_fok (by first | assumption | exact shp_sr _ _ (by assumption) | exact shp_sr _ _ (shp_sr _ _ (by assumption)) | exact shp_sr _ _ (shp_sr _ _ (shp_sr _ _ (by assumption)))) (by decide)) | (simp only [fok_sr, aok_sr]; first | assumption | (exact shp_fok (by first | assumption | exact shp_sr _ _ (by assumption) | exact shp_sr _ _ (shp_sr _ _ (by assumption)) | exact shp_sr _ _ (shp_sr _ _ (shp_sr _ _ (by assumption)))) (by decide))) | (refine shp_aok (by first | assumption | exact shp_sr _ _ (by assumption) | exact shp_sr _ _ (shp_sr _ _ (by assumption)) | exact shp_sr _ _ (shp_sr _ _ (shp_sr _ _ (by assumption)))) rfl rfl ?_ ?_ <;> omega) | (exact shp_sr _ _ (by assumption)) | (exact shp_sr _ _ (shp_sr _ _ (by assumption))) | (exact shp_sr _ _ (shp_sr _ _ (shp_sr _ _ (by assumption)))) | (left; assumption) | (exact b2i_or _) | (simp; done)) only [e39_0, e39_1, e39_4, e39_5, e39_8, e39_11, e39_13, e39_16, e39_17, e39_18, e39_19, e39_22, e39_23, e39_26, e39_27, e39_30, e39_31, e39_34, e39_35, e39_38, e39_41, e39_43, e39_46, e39_47, e39_50, e39_51, eq_self, ne_a, ne_b, ne_c, Nat.reduceEqDiff, lt0, bnd_ok, psh_I, psh_L, psh_R, psh_U, gt_sr, gr_sr, sk_sr, nn_sr, ↓reduceIte, Int.toNat_natCast, Int.reduceToNat, g1_0, g1_1, g1_2, f1, h2, e1, p1, h3, b2i_t, Bool.and_self]
    · refine ⟨σ1, ?_, c1, CS_sc h c1 SP_sub n1 j1, fun e => absurd e (by simp [h3])⟩
      rw [decide_eq_true h2, decide_eq_false h3]
      simp (disch := first | assumption | omega | (exact shp_fok (by first | assumption | exact shp_sr _ _ (by assumption) | exact shp_sr _ _ (shp_sr _ _ (by assumption)) | exact shp_sr _ _ (shp_sr _ _ (shp_sr _ _ (by assumption)))) (by decide)) | (simp only [fok_sr, aok_sr]; first | assumption | (exact shp_fok (by first | assumption | exact shp_sr _ _ (by assumption) | exact shp_sr _ _ (shp_sr _ _ (by assumption)) | exact shp_sr _ _ (shp_sr _ _ (shp_sr _ _ (by assumption)))) (by decide))) | (refine shp_aok (by first | assumption | exact shp_sr _ _ (by assumption) | exact shp_sr _ _ (shp_sr _ _ (by assumption)) | exact shp_sr _ _ (shp_sr _ _ (shp_sr _ _ (by assumption)))) rfl rfl ?_ ?_ <;> omega) | (exact shp_sr _ _ (by assumption)) | (exact shp_sr _ _ (shp_sr _ _ (by assumption))) | (exact shp_sr _ _ (shp_sr _ _ (shp_sr _ _ (by assumption)))) | (left; assumption) | (exact b2i_or _) | (simp; done)) only [e39_0, e39_1, e39_4, e39_5, e39_8, e39_11, e39_13, e39_16, e39_17, e39_18, e39_19, e39_22, e39_23, e39_26, e39_27, e39_30, e39_31, e39_34, e39_35, e39_38, e39_41, e39_43, e39_46, e39_47, e39_50, e39_51, eq_self, ne_a, ne_b, ne_c, Nat.reduceEqDiff, lt0, bnd_ok, psh_I, psh_L, psh_R, psh_U, gt_sr, gr_sr, sk_sr, nn_sr, ↓reduceIte, Int.toNat_natCast, Int.reduceToNat, g1_0, g1_1, g1_2, f1, h2, e1, p1, h3, b2i_f, Bool.and_false]
  · refine ⟨σ, ?_, chg_rf _ _, h, fun e => absurd e (by simp [h2])⟩
    rw [decide_eq_false h2]
    simp (disch := first | assumption | omega | (exact shp_fok (by first | assumption | exact shp_sr _ _ (by assumption) | exact shp_sr _ _ (shp_sr _ _ (by assumption)) | exact shp_sr _ _ (shp_sr _ _ (shp_sr _ _ (by assumption)))) (by decide)) | (simp only [fok_sr, aok_sr]; first | assumption | (exact shp_fok (by first | assumption | exact shp_sr _ _ (by assumption) | exact shp_sr _ _ (shp_sr _ _ (by assumption)) | exact shp_sr _ _ (shp_sr _ _ (shp_sr _ _ (by assumption)))) (by decide))) | (refine shp_aok (by first | assumption | exact shp_sr _ _ (by assumption) | exact shp_sr _ _ (shp_sr _ _ (by assumption)) | exact shp_sr _ _ (shp_sr _ _ (shp_sr _ _ (by assumption)))) rfl rfl ?_ ?_ <;> omega) | (exact shp_sr _ _ (by assumption)) | (exact shp_sr _ _ (shp_sr _ _ (by assumption))) | (exact shp_sr _ _ (shp_sr _ _ (shp_sr _ _ (by assumption)))) | (left; assumption) | (exact b2i_or _) | (simp; done)) only [e39_0, e39_1, e39_4, e39_5, e39_8, e39_11, e39_13, e39_16, e39_17, e39_18, e39_19, e39_22, e39_23, e39_26, e39_27, e39_30, e39_31, e39_34, e39_35, e39_38, e39_41, e39_43, e39_46, e39_47, e39_50, e39_51, eq_self, ne_a, ne_b, ne_c, Nat.reduceEqDiff, lt0, bnd_ok, psh_I, psh_L, psh_R, psh_U, gt_sr, gr_sr, sk_sr, nn_sr, ↓reduceIte, Int.toNat_natCast, Int.reduceToNat, g1_0, g1_2, f1, h2, b2i_f, Bool.false_and]
/-- a night's play keeps all but fog and lamps -/
theorem pl_fog (sg : Nat → Int) (wt : Int) : ∀ M m, m ≤ M → ∀ (k : Nat) (p f : Int) (d : Dat), (pl sg wt m k p f d).2.2.2.2 = fog d (dt (pl sg wt m k p f d).2.2.2.2) (dla (pl sg wt m k p f d).2.2.2.2) := by
  intro M
  induction M with
  | zero =>
    intro m hm k p f d
    obtain rfl : m = 0 := by omega
    rfl
  | succ M ih =>
    intro m hm k p f d
    match m with
    | 0 => rfl
    | 1 =>
      unfold pl
      split <;> rfl
    | m + 2 =>
      unfold pl
      split
      · split
        · have := ih m (by omega) (k + 2) (p + 1) (flN wt f p (actD d (sg k - 97).toNat (sg (k + 1)))) (actD d (sg k - 97).toNat (sg (k + 1)))
          generalize pl sg wt m (k + 2) (p + 1) (flN wt f p (actD d (sg k - 97).toNat (sg (k + 1)))) (actD d (sg k - 97).toNat (sg (k + 1))) = Q at *
          rw [this]
          rfl
        · rfl
      · have := ih (m + 1) (by omega) (k + 1) (p + 1) (flN wt f p (pas d (hr (sg k)))) (pas d (hr (sg k)))
        generalize pl sg wt (m + 1) (k + 1) (p + 1) (flN wt f p (pas d (hr (sg k)))) (pas d (hr (sg k))) = Q at *
        rw [this]
        rfl
def x_done (d : Dat) (cn : Nat) (sg : Nat → Int) : Int := if can d cn sg (-1) = true then (plD d cn sg (-1)).2.2.1 else -5
def d_done (d : Dat) (cn : Nat) (sg : Nat → Int) : Dat := if can d cn sg (-1) = true then (plD d cn sg (-1)).2.2.2.2 else d
def n_done (d : Dat) (cn : Nat) (sg : Nat → Int) : Nat := if can d cn sg (-1) = true then 0 else cn
set_option maxRecDepth 100000 in
set_option maxHeartbeats 4000000 in
theorem c_Fdone (d : Dat) (cn : Nat) (sg : Nat → Int) : cla 38 [vR 1] d cn sg (vI (x_done d cn sg)) (d_done d cn sg) (n_done d cn sg) sg := by
  intro σ h
  obtain ⟨σ1, e1, c1, h1, hc⟩ := c_canBeDone (wt := -1) (by omega) h
  have s0 := h.1.1
  have s1 := h1.1.1
  unfold x_done d_done n_done
  cases hcan : can d cn sg (-1) with
  | false =>
    rw [if_neg Bool.false_ne_true, if_neg Bool.false_ne_true, if_neg Bool.false_ne_true]
    rw [hcan] at e1
    refine ⟨σ1, ?_, SC_mo c1 rfl, h1⟩
    simp (disch := first | assumption | omega | (exact shp_fok (by first | assumption | exact shp_sr _ _ (by assumption) | exact shp_sr _ _ (shp_sr _ _ (by assumption)) | exact shp_sr _ _ (shp_sr _ _ (shp_sr _ _ (by assumption)))) (by decide)) | (simp only [fok_sr, aok_sr]; first | assumption | (exact shp_fok (by first | assumption | exact shp_sr _ _ (by assumption) | exact shp_sr _ _ (shp_sr _ _ (by assumption)) | exact shp_sr _ _ (shp_sr _ _ (shp_sr _ _ (by assumption)))) (by decide))) | (refine shp_aok (by first | assumption | exact shp_sr _ _ (by assumption) | exact shp_sr _ _ (shp_sr _ _ (by assumption)) | exact shp_sr _ _ (shp_sr _ _ (shp_sr _ _ (by assumption)))) rfl rfl ?_ ?_ <;> omega) | (exact shp_sr _ _ (by assumption)) | (exact shp_sr _ _ (shp_sr _ _ (by assumption))) | (exact shp_sr _ _ (shp_sr _ _ (shp_sr _ _ (by assumption)))) | (left; assumption) | (exact b2i_or _) | (simp; done)) only [e38_0, e38_1, e38_2, e38_5, e38_8, e38_10, e38_11, e38_12, e38_15, e38_16, e38_19, e38_22, e38_23, e38_26, e38_27, e38_30, e38_31, e38_34, e38_37, eq_self, ne_a, ne_b, ne_c, Nat.reduceEqDiff, lt0, bnd_ok, psh_I, psh_L, psh_R, psh_U, gt_sr, gr_sr, sk_sr, nn_sr, ↓reduceIte, Int.toNat_natCast, Int.reduceToNat, e1, b2i_f]
  | true =>
    rw [if_pos rfl, if_pos rfl, if_pos rfl]
    rw [hcan] at e1
    obtain ⟨p1, p2, p3, p4⟩ := hc hcan
    have hfg : (plD d cn sg (-1)).2.2.2.2 = fog d (dt (plD d cn sg (-1)).2.2.2.2) (dla (plD d cn sg (-1)).2.2.2.2) := pl_fog sg (-1) cn cn (Nat.le_refl _) 0 0 (-6) d
    generalize plD d cn sg (-1) = R at *
    have h1' := h1
    obtain ⟨⟨a1, a2, a3, a4⟩, a5, a6, a7⟩ := h1
    rw [hfg] at p3 p4
    obtain ⟨σ2, e2, c2, r2⟩ := c_copyFogR a5 a6 p3 p4 (by omega)
    have s2 := shp_chg c2 s1
    have hcs := CS_now h1' c2 (by simp) r2 p4
    have k1 : gt σ2 18 = gt σ1 18 := chg_gt c2 (by simp)
    have hp := CS_pad (cn' := 0) (sg' := sg) (F := ru (gt σ2 18) 1 0) hcs (ru_e _ _ _) (okp_0 sg)
    rw [sr_self σ2 19 sg hcs.1.2.2.1.symm] at hp
    rw [← hfg] at hp
    refine ⟨_, ?_, chg_sr (chg_tr (SC_mo c1 rfl) (SC_mo c2 rfl) (fun _ h => h)) (by decide), hp⟩
    have n2 : ru (gt σ2 18) 1 0 2 = R.2.2.1 := by rw [ru_n _ _ (by decide), k1]; exact p1
    simp (disch := first | assumption | omega | (exact shp_fok (by first | assumption | exact shp_sr _ _ (by assumption) | exact shp_sr _ _ (shp_sr _ _ (by assumption)) | exact shp_sr _ _ (shp_sr _ _ (shp_sr _ _ (by assumption)))) (by decide)) | (simp only [fok_sr, aok_sr]; first | assumption | (exact shp_fok (by first | assumption | exact shp_sr _ _ (by assumption) | exact shp_sr _ _ (shp_sr _ _ (by assumption)) | exact shp_sr _ _ (shp_sr _ _ (shp_sr _ _ (by assumption)))) (by decide))) | (refine shp_aok (by first | assumption | exact shp_sr _ _ (by assumption) | exact shp_sr _ _ (shp_sr _ _ (by assumption)) | exact shp_sr _ _ (shp_sr _ _ (shp_sr _ _ (by assumption)))) rfl rfl ?_ ?_ <;> omega) | (exact shp_sr _ _ (by assumption)) | (exact shp_sr _ _ (shp_sr _ _ (by assumption))) | (exact shp_sr _ _ (shp_sr _ _ (shp_sr _ _ (by assumption)))) | (left; assumption) | (exact b2i_or _) | (simp; done)) only [e38_0, e38_1, e38_2, e38_5, e38_8, e38_10, e38_11, e38_12, e38_15, e38_16, e38_19, e38_22, e38_23, e38_26, e38_27, e38_30, e38_31, e38_34, e38_37, eq_self, ne_a, ne_b, ne_c, Nat.reduceEqDiff, lt0, bnd_ok, psh_I, psh_L, psh_R, psh_U, gt_sr, gr_sr, sk_sr, nn_sr, ↓reduceIte, Int.toNat_natCast, Int.reduceToNat, g1_0, g1_1, g1_2, e1, e2, b2i_t, n2, Int.reduceEq]
def x_state (d : Dat) (c w : Int) : Int := if 0 ≤ c ∧ c < (dn_ d : Nat) then (if 0 ≤ w ∧ w ≤ 1 then (if w = 0 then dt d c.toNat else dla d c.toNat) else -2) else -1
set_option maxRecDepth 100000 in
set_option maxHeartbeats 4000000 in
theorem c_Fstate (c w : Int) (d : Dat) (cn : Nat) (sg : Nat → Int) : cla 40 [vR 1, vI c, vI w] d cn sg (vI (x_state d c w)) d cn sg := by
  intro σ h
  obtain ⟨⟨a1, a2, a3, a4⟩, a5, a6, a7⟩ := id h
  have h24 := dn24 a6
  have hh := c_hasR a5 c
  refine ⟨σ, ?_, CS_rf h⟩
  unfold x_state
  by_cases h1 : 0 ≤ c ∧ c < (dn_ d : Nat)
  · rw [if_pos h1] at hh ⊢
    obtain ⟨c, rfl⟩ := nat_of h1.1
    rw [Int.toNat_natCast]
    have t1 := c_tellR a5 (c := c) (by omega) w
    by_cases h2 : 0 ≤ w ∧ w ≤ 1
    · rw [if_pos h2]
      simp (disch := first | assumption | omega | (exact shp_fok (by first | assumption | exact shp_sr _ _ (by assumption) | exact shp_sr _ _ (shp_sr _ _ (by assumption)) | exact shp_sr _ _ (shp_sr _ _ (shp_sr _ _ (by assumption)))) (by decide)) | (simp only [fok_sr, aok_sr]; first | assumption | (exact shp_fok (by first | assumption | exact shp_sr _ _ (by assumption) | exact shp_sr _ _ (shp_sr _ _ (by assumption)) | exact shp_sr _ _ (shp_sr _ _ (shp_sr _ _ (by assumption)))) (by decide))) | (refine shp_aok (by first | assumption | exact shp_sr _ _ (by assumption) | exact shp_sr _ _ (shp_sr _ _ (by assumption)) | exact shp_sr _ _ (shp_sr _ _ (shp_sr _ _ (by assumption)))) rfl rfl ?_ ?_ <;> omega) | (exact shp_sr _ _ (by assumption)) | (exact shp_sr _ _ (shp_sr _ _ (by assumption))) | (exact shp_sr _ _ (shp_sr _ _ (shp_sr _ _ (by assumption)))) | (left; assumption) | (exact b2i_or _) | (simp; done)) only [e40_0, e40_1, e40_4, e40_5, e40_8, e40_11, e40_12, e40_13, e40_14, e40_15, e40_16, e40_19, e40_22, e40_23, e40_26, e40_27, e40_28, e40_31, e40_34, e40_36, eq_self, ne_a, ne_b, ne_c, Nat.reduceEqDiff, lt0, bnd_ok, psh_I, psh_L, psh_R, psh_U, gt_sr, gr_sr, sk_sr, nn_sr, ↓reduceIte, Int.toNat_natCast, Int.reduceToNat, g1_0, hh, c_isWithin, if_pos h2, t1, Int.reduceEq]
    · rw [if_neg h2]
      simp (disch := first | assumption | omega | (exact shp_fok (by first | assumption | exact shp_sr _ _ (by assumption) | exact shp_sr _ _ (shp_sr _ _ (by assumption)) | exact shp_sr _ _ (shp_sr _ _ (shp_sr _ _ (by assumption)))) (by decide)) | (simp only [fok_sr, aok_sr]; first | assumption | (exact shp_fok (by first | assumption | exact shp_sr _ _ (by assumption) | exact shp_sr _ _ (shp_sr _ _ (by assumption)) | exact shp_sr _ _ (shp_sr _ _ (shp_sr _ _ (by assumption)))) (by decide))) | (refine shp_aok (by first | assumption | exact shp_sr _ _ (by assumption) | exact shp_sr _ _ (shp_sr _ _ (by assumption)) | exact shp_sr _ _ (shp_sr _ _ (shp_sr _ _ (by assumption)))) rfl rfl ?_ ?_ <;> omega) | (exact shp_sr _ _ (by assumption)) | (exact shp_sr _ _ (shp_sr _ _ (by assumption))) | (exact shp_sr _ _ (shp_sr _ _ (shp_sr _ _ (by assumption)))) | (left; assumption) | (exact b2i_or _) | (simp; done)) only [e40_0, e40_1, e40_4, e40_5, e40_8, e40_11, e40_12, e40_13, e40_14, e40_15, e40_16, e40_19, e40_22, e40_23, e40_26, e40_27, e40_28, e40_31, e40_34, e40_36, eq_self, ne_a, ne_b, ne_c, Nat.reduceEqDiff, lt0, bnd_ok, psh_I, psh_L, psh_R, psh_U, gt_sr, gr_sr, sk_sr, nn_sr, ↓reduceIte, Int.toNat_natCast, Int.reduceToNat, g1_0, hh, c_isWithin, if_neg h2, Int.reduceEq]
  · rw [if_neg h1] at hh ⊢
    simp (disch := first | assumption | omega | (exact shp_fok (by first | assumption | exact shp_sr _ _ (by assumption) | exact shp_sr _ _ (shp_sr _ _ (by assumption)) | exact shp_sr _ _ (shp_sr _ _ (shp_sr _ _ (by assumption)))) (by decide)) | (simp only [fok_sr, aok_sr]; first | assumption | (exact shp_fok (by first | assumption | exact shp_sr _ _ (by assumption) | exact shp_sr _ _ (shp_sr _ _ (by assumption)) | exact shp_sr _ _ (shp_sr _ _ (shp_sr _ _ (by assumption)))) (by decide))) | (refine shp_aok (by first | assumption | exact shp_sr _ _ (by assumption) | exact shp_sr _ _ (shp_sr _ _ (by assumption)) | exact shp_sr _ _ (shp_sr _ _ (shp_sr _ _ (by assumption)))) rfl rfl ?_ ?_ <;> omega) | (exact shp_sr _ _ (by assumption)) | (exact shp_sr _ _ (shp_sr _ _ (by assumption))) | (exact shp_sr _ _ (shp_sr _ _ (shp_sr _ _ (by assumption)))) | (left; assumption) | (exact b2i_or _) | (simp; done)) only [e40_0, e40_1, e40_4, e40_5, e40_8, e40_11, e40_12, e40_13, e40_14, e40_15, e40_16, e40_19, e40_22, e40_23, e40_26, e40_27, e40_28, e40_31, e40_34, e40_36, eq_self, ne_a, ne_b, ne_c, Nat.reduceEqDiff, lt0, bnd_ok, psh_I, psh_L, psh_R, psh_U, gt_sr, gr_sr, sk_sr, nn_sr, ↓reduceIte, Int.toNat_natCast, Int.reduceToNat, g1_0, hh]
def x_behind (d : Dat) (cn : Nat) (sg : Nat → Int) (c w : Int) : Int := if 0 ≤ c ∧ c < (dn_ d : Nat) then (if 0 ≤ w ∧ w ≤ 1 then (if can d cn sg (-1) = true then (if w = 0 then dt (plD d cn sg (-1)).2.2.2.2 c.toNat else dla (plD d cn sg (-1)).2.2.2.2 c.toNat) else -5) else -2) else -1
set_option maxRecDepth 100000 in
set_option maxHeartbeats 4000000 in
theorem c_Fbehind (c w : Int) (d : Dat) (cn : Nat) (sg : Nat → Int) : cla 41 [vR 1, vI c, vI w] d cn sg (vI (x_behind d cn sg c w)) d cn sg := by
  intro σ h
  obtain ⟨⟨a1, a2, a3, a4⟩, a5, a6, a7⟩ := id h
  have h24 := dn24 a6
  have hh := c_hasR a5 c
  unfold x_behind
  by_cases h1 : 0 ≤ c ∧ c < (dn_ d : Nat)
  · rw [if_pos h1] at hh ⊢
    obtain ⟨c, rfl⟩ := nat_of h1.1
    rw [Int.toNat_natCast]
    by_cases h2 : 0 ≤ w ∧ w ≤ 1
    · rw [if_pos h2]
      obtain ⟨σ1, e1, c1, hcs, hc⟩ := c_canBeDone (wt := -1) (by omega) h
      have s1 := hcs.1.1
      refine ⟨σ1, ?_, SC_mo c1 rfl, hcs⟩
      cases hcan : can d cn sg (-1) with
      | false =>
        rw [hcan] at e1
        rw [if_neg Bool.false_ne_true]
        simp (disch := first | assumption | omega | (exact shp_fok (by first | assumption | exact shp_sr _ _ (by assumption) | exact shp_sr _ _ (shp_sr _ _ (by assumption)) | exact shp_sr _ _ (shp_sr _ _ (shp_sr _ _ (by assumption)))) (by decide)) | (simp only [fok_sr, aok_sr]; first | assumption | (exact shp_fok (by first | assumption | exact shp_sr _ _ (by assumption) | exact shp_sr _ _ (shp_sr _ _ (by assumption)) | exact shp_sr _ _ (shp_sr _ _ (shp_sr _ _ (by assumption)))) (by decide))) | (refine shp_aok (by first | assumption | exact shp_sr _ _ (by assumption) | exact shp_sr _ _ (shp_sr _ _ (by assumption)) | exact shp_sr _ _ (shp_sr _ _ (shp_sr _ _ (by assumption)))) rfl rfl ?_ ?_ <;> omega) | (exact shp_sr _ _ (by assumption)) | (exact shp_sr _ _ (shp_sr _ _ (by assumption))) | (exact shp_sr _ _ (shp_sr _ _ (shp_sr _ _ (by assumption)))) | (left; assumption) | (exact b2i_or _) | (simp; done)) only [e41_0, e41_1, e41_4, e41_5, e41_8, e41_11, e41_12, e41_13, e41_14, e41_15, e41_16, e41_19, e41_22, e41_24, e41_25, e41_26, e41_27, e41_30, e41_33, e41_34, e41_37, e41_38, e41_39, e41_42, e41_45, e41_47, eq_self, ne_a, ne_b, ne_c, Nat.reduceEqDiff, lt0, bnd_ok, psh_I, psh_L, psh_R, psh_U, gt_sr, gr_sr, sk_sr, nn_sr, ↓reduceIte, Int.toNat_natCast, Int.reduceToNat, g1_0, hh, c_isWithin, if_pos h2, e1, b2i_f, Int.reduceEq]
      | true =>
        rw [hcan] at e1
        rw [if_pos rfl]
        obtain ⟨p1, p2, p3, p4⟩ := hc hcan
        have t1 := c_tellR p3 (c := c) (by omega) w
        simp (disch := first | assumption | omega | (exact shp_fok (by first | assumption | exact shp_sr _ _ (by assumption) | exact shp_sr _ _ (shp_sr _ _ (by assumption)) | exact shp_sr _ _ (shp_sr _ _ (shp_sr _ _ (by assumption)))) (by decide)) | (simp only [fok_sr, aok_sr]; first | assumption | (exact shp_fok (by first | assumption | exact shp_sr _ _ (by assumption) | exact shp_sr _ _ (shp_sr _ _ (by assumption)) | exact shp_sr _ _ (shp_sr _ _ (shp_sr _ _ (by assumption)))) (by decide))) | (refine shp_aok (by first | assumption | exact shp_sr _ _ (by assumption) | exact shp_sr _ _ (shp_sr _ _ (by assumption)) | exact shp_sr _ _ (shp_sr _ _ (shp_sr _ _ (by assumption)))) rfl rfl ?_ ?_ <;> omega) | (exact shp_sr _ _ (by assumption)) | (exact shp_sr _ _ (shp_sr _ _ (by assumption))) | (exact shp_sr _ _ (shp_sr _ _ (shp_sr _ _ (by assumption)))) | (left; assumption) | (exact b2i_or _) | (simp; done)) only [e41_0, e41_1, e41_4, e41_5, e41_8, e41_11, e41_12, e41_13, e41_14, e41_15, e41_16, e41_19, e41_22, e41_24, e41_25, e41_26, e41_27, e41_30, e41_33, e41_34, e41_37, e41_38, e41_39, e41_42, e41_45, e41_47, eq_self, ne_a, ne_b, ne_c, Nat.reduceEqDiff, lt0, bnd_ok, psh_I, psh_L, psh_R, psh_U, gt_sr, gr_sr, sk_sr, nn_sr, ↓reduceIte, Int.toNat_natCast, Int.reduceToNat, g1_0, g1_1, hh, c_isWithin, if_pos h2, e1, b2i_t, t1, Int.reduceEq]
    · rw [if_neg h2]
      refine ⟨σ, ?_, CS_rf h⟩
      simp (disch := first | assumption | omega | (exact shp_fok (by first | assumption | exact shp_sr _ _ (by assumption) | exact shp_sr _ _ (shp_sr _ _ (by assumption)) | exact shp_sr _ _ (shp_sr _ _ (shp_sr _ _ (by assumption)))) (by decide)) | (simp only [fok_sr, aok_sr]; first | assumption | (exact shp_fok (by first | assumption | exact shp_sr _ _ (by assumption) | exact shp_sr _ _ (shp_sr _ _ (by assumption)) | exact shp_sr _ _ (shp_sr _ _ (shp_sr _ _ (by assumption)))) (by decide))) | (refine shp_aok (by first | assumption | exact shp_sr _ _ (by assumption) | exact shp_sr _ _ (shp_sr _ _ (by assumption)) | exact shp_sr _ _ (shp_sr _ _ (shp_sr _ _ (by assumption)))) rfl rfl ?_ ?_ <;> omega) | (exact shp_sr _ _ (by assumption)) | (exact shp_sr _ _ (shp_sr _ _ (by assumption))) | (exact shp_sr _ _ (shp_sr _ _ (shp_sr _ _ (by assumption)))) | (left; assumption) | (exact b2i_or _) | (simp; done)) only [e41_0, e41_1, e41_4, e41_5, e41_8, e41_11, e41_12, e41_13, e41_14, e41_15, e41_16, e41_19, e41_22, e41_24, e41_25, e41_26, e41_27, e41_30, e41_33, e41_34, e41_37, e41_38, e41_39, e41_42, e41_45, e41_47, eq_self, ne_a, ne_b, ne_c, Nat.reduceEqDiff, lt0, bnd_ok, psh_I, psh_L, psh_R, psh_U, gt_sr, gr_sr, sk_sr, nn_sr, ↓reduceIte, Int.toNat_natCast, Int.reduceToNat, g1_0, hh, c_isWithin, if_neg h2, Int.reduceEq]
  · rw [if_neg h1] at hh ⊢
    refine ⟨σ, ?_, CS_rf h⟩
    simp (disch := first | assumption | omega | (exact shp_fok (by first | assumption | exact shp_sr _ _ (by assumption) | exact shp_sr _ _ (shp_sr _ _ (by assumption)) | exact shp_sr _ _ (shp_sr _ _ (shp_sr _ _ (by assumption)))) (by decide)) | (simp only [fok_sr, aok_sr]; first | assumption | (exact shp_fok (by first | assumption | exact shp_sr _ _ (by assumption) | exact shp_sr _ _ (shp_sr _ _ (by assumption)) | exact shp_sr _ _ (shp_sr _ _ (shp_sr _ _ (by assumption)))) (by decide))) | (refine shp_aok (by first | assumption | exact shp_sr _ _ (by assumption) | exact shp_sr _ _ (shp_sr _ _ (by assumption)) | exact shp_sr _ _ (shp_sr _ _ (shp_sr _ _ (by assumption)))) rfl rfl ?_ ?_ <;> omega) | (exact shp_sr _ _ (by assumption)) | (exact shp_sr _ _ (shp_sr _ _ (by assumption))) | (exact shp_sr _ _ (shp_sr _ _ (shp_sr _ _ (by assumption)))) | (left; assumption) | (exact b2i_or _) | (simp; done)) only [e41_0, e41_1, e41_4, e41_5, e41_8, e41_11, e41_12, e41_13, e41_14, e41_15, e41_16, e41_19, e41_22, e41_24, e41_25, e41_26, e41_27, e41_30, e41_33, e41_34, e41_37, e41_38, e41_39, e41_42, e41_45, e41_47, eq_self, ne_a, ne_b, ne_c, Nat.reduceEqDiff, lt0, bnd_ok, psh_I, psh_L, psh_R, psh_U, gt_sr, gr_sr, sk_sr, nn_sr, ↓reduceIte, Int.toNat_natCast, Int.reduceToNat, g1_0, hh]
def isS (d : Dat) (s : Int) : Bool := decide (0 ≤ s ∧ s ≤ 3) && decide (0 < wiD d s.toNat)
theorem isS_n {d : Dat} {s : Int} (h : isS d s = true) : ∃ n : Nat, s = (n : Int) ∧ n < 4 ∧ 0 < wiD d n := by
  unfold isS at h
  rw [Bool.and_eq_true] at h
  have h1 := of_decide_eq_true h.1
  obtain ⟨n, rfl⟩ := nat_of h1.1
  exact ⟨n, rfl, by omega, of_decide_eq_true h.2⟩
set_option maxRecDepth 100000 in
set_option maxHeartbeats 4000000 in
theorem c_isShape {σ : St} {d : Dat} {cn : Nat} {sg : Nat → Int} (h : CS σ d cn sg) (s : Int) : run 43 0 [vR 1, vI s] [] σ = some (vI (b2i (isS d s)), σ) := by
  obtain ⟨⟨a1, a2, a3, a4⟩, a5, a6, a7⟩ := id h
  unfold isS
  by_cases h1 : 0 ≤ s ∧ s ≤ 3
  · obtain ⟨s, rfl⟩ := nat_of h1.1
    have w1 := c_wishesR a5 (s := s) (by omega)
    rw [Int.toNat_natCast, decide_eq_true h1, Bool.true_and]
    by_cases h2 : 0 < wiD d s
    · rw [decide_eq_true h2]
      simp (disch := first | assumption | omega | (exact shp_fok (by first | assumption | exact shp_sr _ _ (by assumption) | exact shp_sr _ _ (shp_sr _ _ (by assumption)) | exact shp_sr _ _ (shp_sr _ _ (shp_sr _ _ (by assumption)))) (by decide)) | (simp only [fok_sr, aok_sr]; first | assumption | (exact shp_fok (by first | assumption | exact shp_sr _ _ (by assumption) | exact shp_sr _ _ (shp_sr _ _ (by assumption)) | exact shp_sr _ _ (shp_sr _ _ (shp_sr _ _ (by assumption)))) (by decide))) | (refine shp_aok (by first | assumption | exact shp_sr _ _ (by assumption) | exact shp_sr _ _ (shp_sr _ _ (by assumption)) | exact shp_sr _ _ (shp_sr _ _ (shp_sr _ _ (by assumption)))) rfl rfl ?_ ?_ <;> omega) | (exact shp_sr _ _ (by assumption)) | (exact shp_sr _ _ (shp_sr _ _ (by assumption))) | (exact shp_sr _ _ (shp_sr _ _ (shp_sr _ _ (by assumption)))) | (left; assumption) | (exact b2i_or _) | (simp; done)) only [e43_0, e43_1, e43_2, e43_3, e43_6, e43_9, e43_10, e43_13, e43_14, e43_17, e43_20, e43_21, e43_24, e43_25, eq_self, ne_a, ne_b, ne_c, Nat.reduceEqDiff, lt0, bnd_ok, psh_I, psh_L, psh_R, psh_U, gt_sr, gr_sr, sk_sr, nn_sr, ↓reduceIte, Int.toNat_natCast, Int.reduceToNat, g1_0, c_isWithin, if_pos h1, w1, h2, b2i_t, Int.reduceEq]
    · rw [decide_eq_false h2]
      simp (disch := first | assumption | omega | (exact shp_fok (by first | assumption | exact shp_sr _ _ (by assumption) | exact shp_sr _ _ (shp_sr _ _ (by assumption)) | exact shp_sr _ _ (shp_sr _ _ (shp_sr _ _ (by assumption)))) (by decide)) | (simp only [fok_sr, aok_sr]; first | assumption | (exact shp_fok (by first | assumption | exact shp_sr _ _ (by assumption) | exact shp_sr _ _ (shp_sr _ _ (by assumption)) | exact shp_sr _ _ (shp_sr _ _ (shp_sr _ _ (by assumption)))) (by decide))) | (refine shp_aok (by first | assumption | exact shp_sr _ _ (by assumption) | exact shp_sr _ _ (shp_sr _ _ (by assumption)) | exact shp_sr _ _ (shp_sr _ _ (shp_sr _ _ (by assumption)))) rfl rfl ?_ ?_ <;> omega) | (exact shp_sr _ _ (by assumption)) | (exact shp_sr _ _ (shp_sr _ _ (by assumption))) | (exact shp_sr _ _ (shp_sr _ _ (shp_sr _ _ (by assumption)))) | (left; assumption) | (exact b2i_or _) | (simp; done)) only [e43_0, e43_1, e43_2, e43_3, e43_6, e43_9, e43_10, e43_13, e43_14, e43_17, e43_20, e43_21, e43_24, e43_25, eq_self, ne_a, ne_b, ne_c, Nat.reduceEqDiff, lt0, bnd_ok, psh_I, psh_L, psh_R, psh_U, gt_sr, gr_sr, sk_sr, nn_sr, ↓reduceIte, Int.toNat_natCast, Int.reduceToNat, g1_0, c_isWithin, if_pos h1, w1, h2, b2i_f, Int.reduceEq]
  · rw [decide_eq_false h1, Bool.false_and]
    simp (disch := first | assumption | omega | (exact shp_fok (by first | assumption | exact shp_sr _ _ (by assumption) | exact shp_sr _ _ (shp_sr _ _ (by assumption)) | exact shp_sr _ _ (shp_sr _ _ (shp_sr _ _ (by assumption)))) (by decide)) | (simp only [fok_sr, aok_sr]; first | assumption | (exact shp_fok (by first | assumption | exact shp_sr _ _ (by assumption) | exact shp_sr _ _ (shp_sr _ _ (by assumption)) | exact shp_sr _ _ (shp_sr _ _ (shp_sr _ _ (by assumption)))) (by decide))) | (refine shp_aok (by first | assumption | exact shp_sr _ _ (by assumption) | exact shp_sr _ _ (shp_sr _ _ (by assumption)) | exact shp_sr _ _ (shp_sr _ _ (shp_sr _ _ (by assumption)))) rfl rfl ?_ ?_ <;> omega) | (exact shp_sr _ _ (by assumption)) | (exact shp_sr _ _ (shp_sr _ _ (by assumption))) | (exact shp_sr _ _ (shp_sr _ _ (shp_sr _ _ (by assumption)))) | (left; assumption) | (exact b2i_or _) | (simp; done)) only [e43_0, e43_1, e43_2, e43_3, e43_6, e43_9, e43_10, e43_13, e43_14, e43_17, e43_20, e43_21, e43_24, e43_25, eq_self, ne_a, ne_b, ne_c, Nat.reduceEqDiff, lt0, bnd_ok, psh_I, psh_L, psh_R, psh_U, gt_sr, gr_sr, sk_sr, nn_sr, ↓reduceIte, Int.toNat_natCast, Int.reduceToNat, c_isWithin, if_neg h1, b2i_f]
def x_stands (d : Dat) (s : Int) : Int := if isS d s = true then b2i (hoD d s.toNat) else -1
set_option maxRecDepth 100000 in
set_option maxHeartbeats 4000000 in
theorem c_Fstands (s : Int) (d : Dat) (cn : Nat) (sg : Nat → Int) : cla 42 [vR 1, vI s] d cn sg (vI (x_stands d s)) d cn sg := by
  intro σ h
  have q1 := c_isShape h s
  obtain ⟨⟨a1, a2, a3, a4⟩, a5, a6, a7⟩ := id h
  refine ⟨σ, ?_, CS_rf h⟩
  unfold x_stands
  cases hS : isS d s with
  | false =>
    rw [hS] at q1
    simp (disch := first | assumption | omega | (exact shp_fok (by first | assumption | exact shp_sr _ _ (by assumption) | exact shp_sr _ _ (shp_sr _ _ (by assumption)) | exact shp_sr _ _ (shp_sr _ _ (shp_sr _ _ (by assumption)))) (by decide)) | (simp only [fok_sr, aok_sr]; first | assumption | (exact shp_fok (by first | assumption | exact shp_sr _ _ (by assumption) | exact shp_sr _ _ (shp_sr _ _ (by assumption)) | exact shp_sr _ _ (shp_sr _ _ (shp_sr _ _ (by assumption)))) (by decide))) | (refine shp_aok (by first | assumption | exact shp_sr _ _ (by assumption) | exact shp_sr _ _ (shp_sr _ _ (by assumption)) | exact shp_sr _ _ (shp_sr _ _ (shp_sr _ _ (by assumption)))) rfl rfl ?_ ?_ <;> omega) | (exact shp_sr _ _ (by assumption)) | (exact shp_sr _ _ (shp_sr _ _ (by assumption))) | (exact shp_sr _ _ (shp_sr _ _ (shp_sr _ _ (by assumption)))) | (left; assumption) | (exact b2i_or _) | (simp; done)) only [e42_0, e42_1, e42_2, e42_5, e42_8, e42_9, e42_10, e42_11, e42_14, e42_15, e42_18, e42_21, e42_22, e42_25, e42_26, eq_self, ne_a, ne_b, ne_c, Nat.reduceEqDiff, lt0, bnd_ok, psh_I, psh_L, psh_R, psh_U, gt_sr, gr_sr, sk_sr, nn_sr, ↓reduceIte, Int.toNat_natCast, Int.reduceToNat, q1, b2i_f, Bool.false_eq_true]
  | true =>
    rw [hS] at q1
    obtain ⟨s, rfl, hs4, -⟩ := isS_n hS
    rw [Int.toNat_natCast]
    have q2 := c_holdsR a5 a6 hs4
    cases hh : hoD d s with
    | false =>
      rw [hh] at q2
      simp (disch := first | assumption | omega | (exact shp_fok (by first | assumption | exact shp_sr _ _ (by assumption) | exact shp_sr _ _ (shp_sr _ _ (by assumption)) | exact shp_sr _ _ (shp_sr _ _ (shp_sr _ _ (by assumption)))) (by decide)) | (simp only [fok_sr, aok_sr]; first | assumption | (exact shp_fok (by first | assumption | exact shp_sr _ _ (by assumption) | exact shp_sr _ _ (shp_sr _ _ (by assumption)) | exact shp_sr _ _ (shp_sr _ _ (shp_sr _ _ (by assumption)))) (by decide))) | (refine shp_aok (by first | assumption | exact shp_sr _ _ (by assumption) | exact shp_sr _ _ (shp_sr _ _ (by assumption)) | exact shp_sr _ _ (shp_sr _ _ (shp_sr _ _ (by assumption)))) rfl rfl ?_ ?_ <;> omega) | (exact shp_sr _ _ (by assumption)) | (exact shp_sr _ _ (shp_sr _ _ (by assumption))) | (exact shp_sr _ _ (shp_sr _ _ (shp_sr _ _ (by assumption)))) | (left; assumption) | (exact b2i_or _) | (simp; done)) only [e42_0, e42_1, e42_2, e42_5, e42_8, e42_9, e42_10, e42_11, e42_14, e42_15, e42_18, e42_21, e42_22, e42_25, e42_26, eq_self, ne_a, ne_b, ne_c, Nat.reduceEqDiff, lt0, bnd_ok, psh_I, psh_L, psh_R, psh_U, gt_sr, gr_sr, sk_sr, nn_sr, ↓reduceIte, Int.toNat_natCast, Int.reduceToNat, g1_0, q1, q2, b2i_f, b2i_t, Int.reduceEq]
    | true =>
      rw [hh] at q2
      simp (disch := first | assumption | omega | (exact shp_fok (by first | assumption | exact shp_sr _ _ (by assumption) | exact shp_sr _ _ (shp_sr _ _ (by assumption)) | exact shp_sr _ _ (shp_sr _ _ (shp_sr _ _ (by assumption)))) (by decide)) | (simp only [fok_sr, aok_sr]; first | assumption | (exact shp_fok (by first | assumption | exact shp_sr _ _ (by assumption) | exact shp_sr _ _ (shp_sr _ _ (by assumption)) | exact shp_sr _ _ (shp_sr _ _ (shp_sr _ _ (by assumption)))) (by decide))) | (refine shp_aok (by first | assumption | exact shp_sr _ _ (by assumption) | exact shp_sr _ _ (shp_sr _ _ (by assumption)) | exact shp_sr _ _ (shp_sr _ _ (shp_sr _ _ (by assumption)))) rfl rfl ?_ ?_ <;> omega) | (exact shp_sr _ _ (by assumption)) | (exact shp_sr _ _ (shp_sr _ _ (by assumption))) | (exact shp_sr _ _ (shp_sr _ _ (shp_sr _ _ (by assumption)))) | (left; assumption) | (exact b2i_or _) | (simp; done)) only [e42_0, e42_1, e42_2, e42_5, e42_8, e42_9, e42_10, e42_11, e42_14, e42_15, e42_18, e42_21, e42_22, e42_25, e42_26, eq_self, ne_a, ne_b, ne_c, Nat.reduceEqDiff, lt0, bnd_ok, psh_I, psh_L, psh_R, psh_U, gt_sr, gr_sr, sk_sr, nn_sr, ↓reduceIte, Int.toNat_natCast, Int.reduceToNat, g1_0, q1, q2, b2i_f, b2i_t, Int.reduceEq]
def x_lost (d : Dat) (cn : Nat) (sg : Nat → Int) (s : Int) : Int := if isS d s = true then (if can d cn sg s = true then (plD d cn sg s).2.2.2.1 else -5) else -1
set_option maxRecDepth 100000 in
set_option maxHeartbeats 4000000 in
theorem c_Flost (s : Int) (d : Dat) (cn : Nat) (sg : Nat → Int) : cla 44 [vR 1, vI s] d cn sg (vI (x_lost d cn sg s)) d cn sg := by
  intro σ h
  have q1 := c_isShape h s
  have s0 := h.1.1
  unfold x_lost
  cases hS : isS d s with
  | false =>
    rw [hS] at q1
    refine ⟨σ, ?_, CS_rf h⟩
    simp (disch := first | assumption | omega | (exact shp_fok (by first | assumption | exact shp_sr _ _ (by assumption) | exact shp_sr _ _ (shp_sr _ _ (by assumption)) | exact shp_sr _ _ (shp_sr _ _ (shp_sr _ _ (by assumption)))) (by decide)) | (simp only [fok_sr, aok_sr]; first | assumption | (exact shp_fok (by first | assumption | exact shp_sr _ _ (by assumption) | exact shp_sr _ _ (shp_sr _ _ (by assumption)) | exact shp_sr _ _ (shp_sr _ _ (shp_sr _ _ (by assumption)))) (by decide))) | (refine shp_aok (by first | assumption | exact shp_sr _ _ (by assumption) | exact shp_sr _ _ (shp_sr _ _ (by assumption)) | exact shp_sr _ _ (shp_sr _ _ (shp_sr _ _ (by assumption)))) rfl rfl ?_ ?_ <;> omega) | (exact shp_sr _ _ (by assumption)) | (exact shp_sr _ _ (shp_sr _ _ (by assumption))) | (exact shp_sr _ _ (shp_sr _ _ (shp_sr _ _ (by assumption)))) | (left; assumption) | (exact b2i_or _) | (simp; done)) only [e44_0, e44_1, e44_2, e44_5, e44_8, e44_9, e44_10, e44_11, e44_12, e44_15, e44_18, e44_19, e44_22, e44_25, e44_28, e44_30, eq_self, ne_a, ne_b, ne_c, Nat.reduceEqDiff, lt0, bnd_ok, psh_I, psh_L, psh_R, psh_U, gt_sr, gr_sr, sk_sr, nn_sr, ↓reduceIte, Int.toNat_natCast, Int.reduceToNat, q1, b2i_f, Bool.false_eq_true]
  | true =>
    rw [hS] at q1
    obtain ⟨n, hn, hs4, -⟩ := isS_n hS
    obtain ⟨σ1, e1, c1, hcs, hc⟩ := c_canBeDone (wt := s) (by omega) h
    have s1 := hcs.1.1
    refine ⟨σ1, ?_, SC_mo c1 rfl, hcs⟩
    cases hcan : can d cn sg s with
    | false =>
      rw [hcan] at e1
      simp (disch := first | assumption | omega | (exact shp_fok (by first | assumption | exact shp_sr _ _ (by assumption) | exact shp_sr _ _ (shp_sr _ _ (by assumption)) | exact shp_sr _ _ (shp_sr _ _ (shp_sr _ _ (by assumption)))) (by decide)) | (simp only [fok_sr, aok_sr]; first | assumption | (exact shp_fok (by first | assumption | exact shp_sr _ _ (by assumption) | exact shp_sr _ _ (shp_sr _ _ (by assumption)) | exact shp_sr _ _ (shp_sr _ _ (shp_sr _ _ (by assumption)))) (by decide))) | (refine shp_aok (by first | assumption | exact shp_sr _ _ (by assumption) | exact shp_sr _ _ (shp_sr _ _ (by assumption)) | exact shp_sr _ _ (shp_sr _ _ (shp_sr _ _ (by assumption)))) rfl rfl ?_ ?_ <;> omega) | (exact shp_sr _ _ (by assumption)) | (exact shp_sr _ _ (shp_sr _ _ (by assumption))) | (exact shp_sr _ _ (shp_sr _ _ (shp_sr _ _ (by assumption)))) | (left; assumption) | (exact b2i_or _) | (simp; done)) only [e44_0, e44_1, e44_2, e44_5, e44_8, e44_9, e44_10, e44_11, e44_12, e44_15, e44_18, e44_19, e44_22, e44_25, e44_28, e44_30, eq_self, ne_a, ne_b, ne_c, Nat.reduceEqDiff, lt0, bnd_ok, psh_I, psh_L, psh_R, psh_U, gt_sr, gr_sr, sk_sr, nn_sr, ↓reduceIte, Int.toNat_natCast, Int.reduceToNat, q1, e1, b2i_f, b2i_t, Int.reduceEq, Bool.false_eq_true]
    | true =>
      rw [hcan] at e1
      obtain ⟨p1, p2, p3, p4⟩ := hc hcan
      simp (disch := first | assumption | omega | (exact shp_fok (by first | assumption | exact shp_sr _ _ (by assumption) | exact shp_sr _ _ (shp_sr _ _ (by assumption)) | exact shp_sr _ _ (shp_sr _ _ (shp_sr _ _ (by assumption)))) (by decide)) | (simp only [fok_sr, aok_sr]; first | assumption | (exact shp_fok (by first | assumption | exact shp_sr _ _ (by assumption) | exact shp_sr _ _ (shp_sr _ _ (by assumption)) | exact shp_sr _ _ (shp_sr _ _ (shp_sr _ _ (by assumption)))) (by decide))) | (refine shp_aok (by first | assumption | exact shp_sr _ _ (by assumption) | exact shp_sr _ _ (shp_sr _ _ (by assumption)) | exact shp_sr _ _ (shp_sr _ _ (shp_sr _ _ (by assumption)))) rfl rfl ?_ ?_ <;> omega) | (exact shp_sr _ _ (by assumption)) | (exact shp_sr _ _ (shp_sr _ _ (by assumption))) | (exact shp_sr _ _ (shp_sr _ _ (shp_sr _ _ (by assumption)))) | (left; assumption) | (exact b2i_or _) | (simp; done)) only [e44_0, e44_1, e44_2, e44_5, e44_8, e44_9, e44_10, e44_11, e44_12, e44_15, e44_18, e44_19, e44_22, e44_25, e44_28, e44_30, eq_self, ne_a, ne_b, ne_c, Nat.reduceEqDiff, lt0, bnd_ok, psh_I, psh_L, psh_R, psh_U, gt_sr, gr_sr, sk_sr, nn_sr, ↓reduceIte, Int.toNat_natCast, Int.reduceToNat, g1_2, q1, e1, p2, b2i_t, Int.reduceEq]
def x_carved (d : Dat) (s : Int) : Int := if isS d s = true then acD d s.toNat 0 0 else -1
set_option maxRecDepth 100000 in
set_option maxHeartbeats 4000000 in
theorem c_Fcarved (s : Int) (d : Dat) (cn : Nat) (sg : Nat → Int) : cla 46 [vR 1, vI s] d cn sg (vI (x_carved d s)) d cn sg := by
  intro σ h
  have q1 := c_isShape h s
  obtain ⟨⟨a1, a2, a3, a4⟩, a5, a6, a7⟩ := id h
  refine ⟨σ, ?_, CS_rf h⟩
  unfold x_carved
  cases hS : isS d s with
  | false =>
    rw [hS] at q1
    simp (disch := first | assumption | omega | (exact shp_fok (by first | assumption | exact shp_sr _ _ (by assumption) | exact shp_sr _ _ (shp_sr _ _ (by assumption)) | exact shp_sr _ _ (shp_sr _ _ (shp_sr _ _ (by assumption)))) (by decide)) | (simp only [fok_sr, aok_sr]; first | assumption | (exact shp_fok (by first | assumption | exact shp_sr _ _ (by assumption) | exact shp_sr _ _ (shp_sr _ _ (by assumption)) | exact shp_sr _ _ (shp_sr _ _ (shp_sr _ _ (by assumption)))) (by decide))) | (refine shp_aok (by first | assumption | exact shp_sr _ _ (by assumption) | exact shp_sr _ _ (shp_sr _ _ (by assumption)) | exact shp_sr _ _ (shp_sr _ _ (shp_sr _ _ (by assumption)))) rfl rfl ?_ ?_ <;> omega) | (exact shp_sr _ _ (by assumption)) | (exact shp_sr _ _ (shp_sr _ _ (by assumption))) | (exact shp_sr _ _ (shp_sr _ _ (shp_sr _ _ (by assumption)))) | (left; assumption) | (exact b2i_or _) | (simp; done)) only [e46_0, e46_1, e46_2, e46_5, e46_8, e46_9, e46_12, e46_13, e46_14, e46_15, e46_18, e46_21, e46_22, eq_self, ne_a, ne_b, ne_c, Nat.reduceEqDiff, lt0, bnd_ok, psh_I, psh_L, psh_R, psh_U, gt_sr, gr_sr, sk_sr, nn_sr, ↓reduceIte, Int.toNat_natCast, Int.reduceToNat, q1, b2i_f, Bool.false_eq_true]
  | true =>
    rw [hS] at q1
    obtain ⟨s, rfl, hs4, -⟩ := isS_n hS
    rw [Int.toNat_natCast]
    have q2 := c_actsR a5 a6 hs4 (dn := 0) (on := 0) (by omega) (by omega)
    simp (disch := first | assumption | omega | (exact shp_fok (by first | assumption | exact shp_sr _ _ (by assumption) | exact shp_sr _ _ (shp_sr _ _ (by assumption)) | exact shp_sr _ _ (shp_sr _ _ (shp_sr _ _ (by assumption)))) (by decide)) | (simp only [fok_sr, aok_sr]; first | assumption | (exact shp_fok (by first | assumption | exact shp_sr _ _ (by assumption) | exact shp_sr _ _ (shp_sr _ _ (by assumption)) | exact shp_sr _ _ (shp_sr _ _ (shp_sr _ _ (by assumption)))) (by decide))) | (refine shp_aok (by first | assumption | exact shp_sr _ _ (by assumption) | exact shp_sr _ _ (shp_sr _ _ (by assumption)) | exact shp_sr _ _ (shp_sr _ _ (shp_sr _ _ (by assumption)))) rfl rfl ?_ ?_ <;> omega) | (exact shp_sr _ _ (by assumption)) | (exact shp_sr _ _ (shp_sr _ _ (by assumption))) | (exact shp_sr _ _ (shp_sr _ _ (shp_sr _ _ (by assumption)))) | (left; assumption) | (exact b2i_or _) | (simp; done)) only [e46_0, e46_1, e46_2, e46_5, e46_8, e46_9, e46_12, e46_13, e46_14, e46_15, e46_18, e46_21, e46_22, eq_self, ne_a, ne_b, ne_c, Nat.reduceEqDiff, lt0, bnd_ok, psh_I, psh_L, psh_R, psh_U, gt_sr, gr_sr, sk_sr, nn_sr, ↓reduceIte, Int.toNat_natCast, Int.reduceToNat, g1_0, q1, q2, b2i_t, Int.reduceEq]
