/-! the class's calls: through, moved, apart, crews, sights, told -/
def thR (d : Dat) (r : Nat) : Bool := alN (fun k => decide (dt d (r * dC d + k) = 0)) (dC d)
def x_thr (d : Dat) : Nat := bsN (thR d) (dR d)
set_option maxRecDepth 100000 in
set_option maxHeartbeats 4000000 in
theorem c_Fthrough (d : Dat) (cn : Nat) (sg : Nat → Int) : cla 45 [vR 1, vU, vU, vU, vU] d cn sg (vI (x_thr d : Nat)) d cn sg := by
  intro σ h
  obtain ⟨⟨a1, a2, a3, a4⟩, a5, a6, a7⟩ := id h
  refine ⟨σ, ?_, CS_rf h⟩
  have hC := a6.1
  have hle := dim_le a5.2.1
  obtain ⟨b1, ⟨d0, d1, -⟩, b3, b4, b5, b6, -⟩ := id a5
  have i3 := shp_ia (k := 3) (n := 24) a1 (by decide)
  have e6 : gt σ 3 = dt d := b6
  clear h a2 a3 a4 a6 a7 a5
  have inner : ∀ (r : Nat), r < dR d → ∀ (B : Int) (q : AV), run 45 20 [vR 1, vI B, vI (r : Int), vI (b2i (alN (fun k => decide (dt d (r * dC d + k) = 0)) 0)), vI 0] [] σ = run 45 73 [vR 1, vI B, vI (r : Int), vI (b2i (thR d r)), vI (dC d : Int)] [] σ := by
    intro r hr B q
    refine bk (P := fun k z => run 45 20 [vR 1, vI B, vI (r : Int), vI (b2i (alN (fun k => decide (dt d (r * dC d + k) = 0)) k)), vI z] [] σ = run 45 73 [vR 1, vI B, vI (r : Int), vI (b2i (thR d r)), vI (dC d : Int)] [] σ) (n := dC d) ?_ ?_
    · have h4 : ¬ ((dC d : Nat) : Int) < (dC d : Int) := by omega
      rw [e45_20]
      simp (disch := first | assumption | omega | (exact shp_fok (by first | assumption | exact shp_sr _ _ (by assumption) | exact shp_sr _ _ (shp_sr _ _ (by assumption)) | exact shp_sr _ _ (shp_sr _ _ (shp_sr _ _ (by assumption)))) (by decide)) | (simp only [fok_sr, aok_sr]; first | assumption | (exact shp_fok (by first | assumption | exact shp_sr _ _ (by assumption) | exact shp_sr _ _ (shp_sr _ _ (by assumption)) | exact shp_sr _ _ (shp_sr _ _ (shp_sr _ _ (by assumption)))) (by decide))) | (refine shp_aok (by first | assumption | exact shp_sr _ _ (by assumption) | exact shp_sr _ _ (shp_sr _ _ (by assumption)) | exact shp_sr _ _ (shp_sr _ _ (shp_sr _ _ (by assumption)))) rfl rfl ?_ ?_ <;> omega) | (exact shp_sr _ _ (by assumption)) | (exact shp_sr _ _ (shp_sr _ _ (by assumption))) | (exact shp_sr _ _ (shp_sr _ _ (shp_sr _ _ (by assumption)))) | (left; assumption) | (exact b2i_or _) | (simp; done)) only [e45_22, e45_23, e45_26, e45_29, eq_self, ne_a, ne_b, ne_c, Nat.reduceEqDiff, lt0, bnd_ok, psh_I, psh_L, psh_R, psh_U, gt_sr, gr_sr, sk_sr, nn_sr, ↓reduceIte, Int.toNat_natCast, Int.reduceToNat, g1_0, d1, h4]
      rfl
    · intro k hk hk' ih
      obtain ⟨hlt, hlt4, hr1, hk1⟩ := rk_lt hle hr hk
      have hw := wr_rk hle hr hk
      have at1 := c_atN i3 hlt4
      rw [e6] at at1
      have w5 : wr ((k : Int) + 1) = (k : Int) + 1 := wr_id (by omega) (by omega)
      have e3 : ∀ p, alN p (k + 1) = (alN p k && p k) := fun p => rfl
      rw [e3] at ih
      rw [e45_20]
      cases hx : alN (fun k => decide (dt d (r * dC d + k) = 0)) k with
      | false =>
        rw [hx, Bool.false_and] at ih
        simp (disch := first | assumption | omega | (exact shp_fok (by first | assumption | exact shp_sr _ _ (by assumption) | exact shp_sr _ _ (shp_sr _ _ (by assumption)) | exact shp_sr _ _ (shp_sr _ _ (shp_sr _ _ (by assumption)))) (by decide)) | (simp only [fok_sr, aok_sr]; first | assumption | (exact shp_fok (by first | assumption | exact shp_sr _ _ (by assumption) | exact shp_sr _ _ (shp_sr _ _ (by assumption)) | exact shp_sr _ _ (shp_sr _ _ (shp_sr _ _ (by assumption)))) (by decide))) | (refine shp_aok (by first | assumption | exact shp_sr _ _ (by assumption) | exact shp_sr _ _ (shp_sr _ _ (by assumption)) | exact shp_sr _ _ (shp_sr _ _ (shp_sr _ _ (by assumption)))) rfl rfl ?_ ?_ <;> omega) | (exact shp_sr _ _ (by assumption)) | (exact shp_sr _ _ (shp_sr _ _ (by assumption))) | (exact shp_sr _ _ (shp_sr _ _ (shp_sr _ _ (by assumption)))) | (left; assumption) | (exact b2i_or _) | (simp; done)) only [e45_22, e45_23, e45_26, e45_29, e45_32, e45_33, e45_36, e45_37, e45_40, e45_43, e45_44, e45_45, e45_48, e45_51, e45_52, e45_54, e45_55, e45_58, e45_61, e45_62, e45_65, e45_66, e45_67, e45_70, eq_self, ne_a, ne_b, ne_c, Nat.reduceEqDiff, lt0, bnd_ok, psh_I, psh_L, psh_R, psh_U, gt_sr, gr_sr, sk_sr, nn_sr, ↓reduceIte, Int.toNat_natCast, Int.reduceToNat, g1_0, d1, hk', b2i_f, w5] at ih ⊢
        exact ih
      | true =>
        rw [hx, Bool.true_and] at ih
        by_cases h0 : dt d (r * dC d + k) = 0
        · rw [decide_eq_true h0] at ih
          simp (disch := first | assumption | omega | (exact shp_fok (by first | assumption | exact shp_sr _ _ (by assumption) | exact shp_sr _ _ (shp_sr _ _ (by assumption)) | exact shp_sr _ _ (shp_sr _ _ (shp_sr _ _ (by assumption)))) (by decide)) | (simp only [fok_sr, aok_sr]; first | assumption | (exact shp_fok (by first | assumption | exact shp_sr _ _ (by assumption) | exact shp_sr _ _ (shp_sr _ _ (by assumption)) | exact shp_sr _ _ (shp_sr _ _ (shp_sr _ _ (by assumption)))) (by decide))) | (refine shp_aok (by first | assumption | exact shp_sr _ _ (by assumption) | exact shp_sr _ _ (shp_sr _ _ (by assumption)) | exact shp_sr _ _ (shp_sr _ _ (shp_sr _ _ (by assumption)))) rfl rfl ?_ ?_ <;> omega) | (exact shp_sr _ _ (by assumption)) | (exact shp_sr _ _ (shp_sr _ _ (by assumption))) | (exact shp_sr _ _ (shp_sr _ _ (shp_sr _ _ (by assumption)))) | (left; assumption) | (exact b2i_or _) | (simp; done)) only [e45_22, e45_23, e45_26, e45_29, e45_32, e45_33, e45_36, e45_37, e45_40, e45_43, e45_44, e45_45, e45_48, e45_51, e45_52, e45_54, e45_55, e45_58, e45_61, e45_62, e45_65, e45_66, e45_67, e45_70, eq_self, ne_a, ne_b, ne_c, Nat.reduceEqDiff, lt0, bnd_ok, psh_I, psh_L, psh_R, psh_U, gt_sr, gr_sr, sk_sr, nn_sr, ↓reduceIte, Int.toNat_natCast, Int.reduceToNat, g1_0, g2_6, d1, hk', b2i_t, hw, at1, h0, w5, Int.reduceEq] at ih ⊢
          exact ih
        · rw [decide_eq_false h0] at ih
          simp (disch := first | assumption | omega | (exact shp_fok (by first | assumption | exact shp_sr _ _ (by assumption) | exact shp_sr _ _ (shp_sr _ _ (by assumption)) | exact shp_sr _ _ (shp_sr _ _ (shp_sr _ _ (by assumption)))) (by decide)) | (simp only [fok_sr, aok_sr]; first | assumption | (exact shp_fok (by first | assumption | exact shp_sr _ _ (by assumption) | exact shp_sr _ _ (shp_sr _ _ (by assumption)) | exact shp_sr _ _ (shp_sr _ _ (shp_sr _ _ (by assumption)))) (by decide))) | (refine shp_aok (by first | assumption | exact shp_sr _ _ (by assumption) | exact shp_sr _ _ (shp_sr _ _ (by assumption)) | exact shp_sr _ _ (shp_sr _ _ (shp_sr _ _ (by assumption)))) rfl rfl ?_ ?_ <;> omega) | (exact shp_sr _ _ (by assumption)) | (exact shp_sr _ _ (shp_sr _ _ (by assumption))) | (exact shp_sr _ _ (shp_sr _ _ (shp_sr _ _ (by assumption)))) | (left; assumption) | (exact b2i_or _) | (simp; done)) only [e45_22, e45_23, e45_26, e45_29, e45_32, e45_33, e45_36, e45_37, e45_40, e45_43, e45_44, e45_45, e45_48, e45_51, e45_52, e45_54, e45_55, e45_58, e45_61, e45_62, e45_65, e45_66, e45_67, e45_70, eq_self, ne_a, ne_b, ne_c, Nat.reduceEqDiff, lt0, bnd_ok, psh_I, psh_L, psh_R, psh_U, gt_sr, gr_sr, sk_sr, nn_sr, ↓reduceIte, Int.toNat_natCast, Int.reduceToNat, g1_0, g2_6, d1, hk', b2i_t, b2i_f, hw, at1, h0, w5, Int.reduceEq] at ih ⊢
          exact ih
  have L : ∀ q3 q4, run 45 4 [vR 1, vI (bsN (thR d) 0 : Nat), vI 0, q3, q4] [] σ = some (vI (x_thr d : Nat), σ) := by
    refine bk (P := fun k z => ∀ q3 q4, run 45 4 [vR 1, vI (bsN (thR d) k : Nat), vI z, q3, q4] [] σ = some (vI (x_thr d : Nat), σ)) (n := dR d) ?_ ?_
    · intro q3 q4
      have h4 : ¬ ((dR d : Nat) : Int) < (dR d : Int) := by omega
      rw [e45_4]
      simp (disch := first | assumption | omega | (exact shp_fok (by first | assumption | exact shp_sr _ _ (by assumption) | exact shp_sr _ _ (shp_sr _ _ (by assumption)) | exact shp_sr _ _ (shp_sr _ _ (shp_sr _ _ (by assumption)))) (by decide)) | (simp only [fok_sr, aok_sr]; first | assumption | (exact shp_fok (by first | assumption | exact shp_sr _ _ (by assumption) | exact shp_sr _ _ (shp_sr _ _ (by assumption)) | exact shp_sr _ _ (shp_sr _ _ (shp_sr _ _ (by assumption)))) (by decide))) | (refine shp_aok (by first | assumption | exact shp_sr _ _ (by assumption) | exact shp_sr _ _ (shp_sr _ _ (by assumption)) | exact shp_sr _ _ (shp_sr _ _ (shp_sr _ _ (by assumption)))) rfl rfl ?_ ?_ <;> omega) | (exact shp_sr _ _ (by assumption)) | (exact shp_sr _ _ (shp_sr _ _ (by assumption))) | (exact shp_sr _ _ (shp_sr _ _ (shp_sr _ _ (by assumption)))) | (left; assumption) | (exact b2i_or _) | (simp; done)) only [e45_5, e45_6, e45_9, e45_12, e45_93, e45_94, eq_self, ne_a, ne_b, ne_c, Nat.reduceEqDiff, lt0, bnd_ok, psh_I, psh_L, psh_R, psh_U, gt_sr, gr_sr, sk_sr, nn_sr, ↓reduceIte, Int.toNat_natCast, Int.reduceToNat, g1_0, d0, h4]
      rfl
    · intro r hr hr' ih q3 q4
      have w5 : wr ((r : Int) + 1) = (r : Int) + 1 := wr_id (by omega) (by omega)
      have i9 := inner r hr (bsN (thR d) r : Nat) vU
      have hb := bsN_lt (thR d) r
      have hp : 2 ^ r ≤ 2 ^ 4 := Nat.pow_le_pow_right (by omega) (by omega)
      have hbs : bsN (thR d) (r + 1) = bsN (thR d) r ||| (if thR d r = true then 2 ^ r else 0) := rfl
      rw [hbs] at ih
      rw [e45_4]
      simp (disch := first | assumption | omega | (exact shp_fok (by first | assumption | exact shp_sr _ _ (by assumption) | exact shp_sr _ _ (shp_sr _ _ (by assumption)) | exact shp_sr _ _ (shp_sr _ _ (shp_sr _ _ (by assumption)))) (by decide)) | (simp only [fok_sr, aok_sr]; first | assumption | (exact shp_fok (by first | assumption | exact shp_sr _ _ (by assumption) | exact shp_sr _ _ (shp_sr _ _ (by assumption)) | exact shp_sr _ _ (shp_sr _ _ (shp_sr _ _ (by assumption)))) (by decide))) | (refine shp_aok (by first | assumption | exact shp_sr _ _ (by assumption) | exact shp_sr _ _ (shp_sr _ _ (by assumption)) | exact shp_sr _ _ (shp_sr _ _ (shp_sr _ _ (by assumption)))) rfl rfl ?_ ?_ <;> omega) | (exact shp_sr _ _ (by assumption)) | (exact shp_sr _ _ (shp_sr _ _ (by assumption))) | (exact shp_sr _ _ (shp_sr _ _ (shp_sr _ _ (by assumption)))) | (left; assumption) | (exact b2i_or _) | (simp; done)) only [e45_5, e45_6, e45_9, e45_12, e45_15, e45_16, e45_17, e45_18, eq_self, ne_a, ne_b, ne_c, Nat.reduceEqDiff, lt0, bnd_ok, psh_I, psh_L, psh_R, psh_U, gt_sr, gr_sr, sk_sr, nn_sr, ↓reduceIte, Int.toNat_natCast, Int.reduceToNat, g1_0, d0, hr']
      rw [show (1 : Int) = b2i (alN (fun k => decide (dt d (r * dC d + k) = 0)) 0) from rfl, i9]
      cases hx : thR d r with
      | true =>
        have o1 := bShl_N (a := 1) (k := r) (by omega) (by omega) (by omega)
        rw [Nat.one_mul] at o1
        have o2 := bOr_N (a := bsN (thR d) r) (b := 2 ^ r) (by omega) (by omega)
        rw [hx, if_pos rfl] at ih
        rw [show ((1 : Nat) : Int) = 1 from rfl] at o1
        simp (disch := first | assumption | omega | (exact shp_fok (by first | assumption | exact shp_sr _ _ (by assumption) | exact shp_sr _ _ (shp_sr _ _ (by assumption)) | exact shp_sr _ _ (shp_sr _ _ (shp_sr _ _ (by assumption)))) (by decide)) | (simp only [fok_sr, aok_sr]; first | assumption | (exact shp_fok (by first | assumption | exact shp_sr _ _ (by assumption) | exact shp_sr _ _ (shp_sr _ _ (by assumption)) | exact shp_sr _ _ (shp_sr _ _ (shp_sr _ _ (by assumption)))) (by decide))) | (refine shp_aok (by first | assumption | exact shp_sr _ _ (by assumption) | exact shp_sr _ _ (shp_sr _ _ (by assumption)) | exact shp_sr _ _ (shp_sr _ _ (shp_sr _ _ (by assumption)))) rfl rfl ?_ ?_ <;> omega) | (exact shp_sr _ _ (by assumption)) | (exact shp_sr _ _ (shp_sr _ _ (by assumption))) | (exact shp_sr _ _ (shp_sr _ _ (shp_sr _ _ (by assumption)))) | (left; assumption) | (exact b2i_or _) | (simp; done)) only [e45_73, e45_74, e45_75, e45_78, e45_79, e45_80, e45_81, e45_84, e45_85, e45_86, e45_87, e45_90, eq_self, ne_a, ne_b, ne_c, Nat.reduceEqDiff, lt0, bnd_ok, psh_I, psh_L, psh_R, psh_U, gt_sr, gr_sr, sk_sr, nn_sr, ↓reduceIte, Int.toNat_natCast, Int.reduceToNat, b2i_t, o1, o2, w5, Int.reduceEq]
        exact ih _ _
      | false =>
        have o2 := bOr_N (a := bsN (thR d) r) (b := 0) (by omega) (by omega)
        rw [show ((0 : Nat) : Int) = 0 from rfl] at o2
        rw [hx, if_neg Bool.false_ne_true] at ih
        simp (disch := first | assumption | omega | (exact shp_fok (by first | assumption | exact shp_sr _ _ (by assumption) | exact shp_sr _ _ (shp_sr _ _ (by assumption)) | exact shp_sr _ _ (shp_sr _ _ (shp_sr _ _ (by assumption)))) (by decide)) | (simp only [fok_sr, aok_sr]; first | assumption | (exact shp_fok (by first | assumption | exact shp_sr _ _ (by assumption) | exact shp_sr _ _ (shp_sr _ _ (by assumption)) | exact shp_sr _ _ (shp_sr _ _ (shp_sr _ _ (by assumption)))) (by decide))) | (refine shp_aok (by first | assumption | exact shp_sr _ _ (by assumption) | exact shp_sr _ _ (shp_sr _ _ (by assumption)) | exact shp_sr _ _ (shp_sr _ _ (shp_sr _ _ (by assumption)))) rfl rfl ?_ ?_ <;> omega) | (exact shp_sr _ _ (by assumption)) | (exact shp_sr _ _ (shp_sr _ _ (by assumption))) | (exact shp_sr _ _ (shp_sr _ _ (shp_sr _ _ (by assumption)))) | (left; assumption) | (exact b2i_or _) | (simp; done)) only [e45_73, e45_74, e45_75, e45_78, e45_79, e45_80, e45_81, e45_84, e45_85, e45_86, e45_87, e45_90, eq_self, ne_a, ne_b, ne_c, Nat.reduceEqDiff, lt0, bnd_ok, psh_I, psh_L, psh_R, psh_U, gt_sr, gr_sr, sk_sr, nn_sr, ↓reduceIte, Int.toNat_natCast, Int.reduceToNat, b2i_f, o2, w5]
        exact ih _ _
  have h0 := L vU vU
  simp (disch := first | assumption | omega | (exact shp_fok (by first | assumption | exact shp_sr _ _ (by assumption) | exact shp_sr _ _ (shp_sr _ _ (by assumption)) | exact shp_sr _ _ (shp_sr _ _ (shp_sr _ _ (by assumption)))) (by decide)) | (simp only [fok_sr, aok_sr]; first | assumption | (exact shp_fok (by first | assumption | exact shp_sr _ _ (by assumption) | exact shp_sr _ _ (shp_sr _ _ (by assumption)) | exact shp_sr _ _ (shp_sr _ _ (shp_sr _ _ (by assumption)))) (by decide))) | (refine shp_aok (by first | assumption | exact shp_sr _ _ (by assumption) | exact shp_sr _ _ (shp_sr _ _ (by assumption)) | exact shp_sr _ _ (shp_sr _ _ (shp_sr _ _ (by assumption)))) rfl rfl ?_ ?_ <;> omega) | (exact shp_sr _ _ (by assumption)) | (exact shp_sr _ _ (shp_sr _ _ (by assumption))) | (exact shp_sr _ _ (shp_sr _ _ (shp_sr _ _ (by assumption)))) | (left; assumption) | (exact b2i_or _) | (simp; done)) only [e45_0, e45_1, e45_2, e45_3, eq_self, ne_a, ne_b, ne_c, Nat.reduceEqDiff, lt0, bnd_ok, psh_I, psh_L, psh_R, psh_U, gt_sr, gr_sr, sk_sr, nn_sr, ↓reduceIte, Int.toNat_natCast, Int.reduceToNat]
  exact h0
/-- the least acts over moves so far, and the first move by which -/
def mvF (f : Int → Int → Int) : Nat → Int × Int
  | 0 => (1000000, -6)
  | j + 1 => if f ((j / 11 : Nat) - 3 : Int) ((j % 11 : Nat) - 5 : Int) < (mvF f j).1 then (f ((j / 11 : Nat) - 3 : Int) ((j % 11 : Nat) - 5 : Int), 100 * ((j / 11 : Nat) : Int) + ((j % 11 : Nat) : Int)) else mvF f j
theorem mvF_s (f : Int → Int → Int) {r k : Nat} (hk : k < 11) : mvF f (r * 11 + (k + 1)) = if f ((r : Int) - 3) ((k : Int) - 5) < (mvF f (r * 11 + k)).1 then (f ((r : Int) - 3) ((k : Int) - 5), 100 * (r : Int) + (k : Int)) else mvF f (r * 11 + k) := by
  show mvF f (r * 11 + k + 1) = _
  have e1 : (r * 11 + k) / 11 = r := by omega
  have e2 : (r * 11 + k) % 11 = k := by omega
  rw [mvF.eq_2, e1, e2]
theorem acD_bd {d : Dat} (ho : okd d) {s : Nat} (hs : s < 4) (dn on : Int) : 0 ≤ acD d s dn on ∧ acD d s dn on ≤ 24000000 := acs_bd (ok_t ho) (ok_w ho) ho.2.2.1.1 ho.2.2.1.2 hs dn on (dn24 ho)
theorem mvF_bd {f : Int → Int → Int} (h : ∀ a b, 0 ≤ f a b) : ∀ j, 0 ≤ (mvF f j).1 ∧ (mvF f j).1 ≤ 1000000
  | 0 => by unfold mvF; omega
  | j + 1 => by
    have ih := mvF_bd h j
    have := h ((j / 11 : Nat) - 3 : Int) ((j % 11 : Nat) - 5 : Int)
    unfold mvF
    split
    · dsimp only; omega
    · exact ih
def x_moved (d : Dat) (s w : Int) : Int := if isS d s = true then (if 0 ≤ w ∧ w ≤ 1 then (if w = 0 then (mvF (acD d s.toNat) 77).1 else (mvF (acD d s.toNat) 77).2) else -2) else -1
set_option maxRecDepth 100000 in
set_option maxHeartbeats 4000000 in
theorem c_Fmoved (s w : Int) (d : Dat) (cn : Nat) (sg : Nat → Int) : cla 60 [vR 1, vI s, vI w, vU, vU, vU, vU, vU] d cn sg (vI (x_moved d s w)) d cn sg := by
  intro σ h
  have q1 := c_isShape h s
  obtain ⟨⟨a1, a2, a3, a4⟩, a5, a6, a7⟩ := id h
  refine ⟨σ, ?_, CS_rf h⟩
  unfold x_moved
  cases hS : isS d s with
  | false =>
    rw [hS] at q1
    simp (disch := first | assumption | omega | (exact shp_fok (by first | assumption | exact shp_sr _ _ (by assumption) | exact shp_sr _ _ (shp_sr _ _ (by assumption)) | exact shp_sr _ _ (shp_sr _ _ (shp_sr _ _ (by assumption)))) (by decide)) | (simp only [fok_sr, aok_sr]; first | assumption | (exact shp_fok (by first | assumption | exact shp_sr _ _ (by assumption) | exact shp_sr _ _ (shp_sr _ _ (by assumption)) | exact shp_sr _ _ (shp_sr _ _ (shp_sr _ _ (by assumption)))) (by decide))) | (refine shp_aok (by first | assumption | exact shp_sr _ _ (by assumption) | exact shp_sr _ _ (shp_sr _ _ (by assumption)) | exact shp_sr _ _ (shp_sr _ _ (shp_sr _ _ (by assumption)))) rfl rfl ?_ ?_ <;> omega) | (exact shp_sr _ _ (by assumption)) | (exact shp_sr _ _ (shp_sr _ _ (by assumption))) | (exact shp_sr _ _ (shp_sr _ _ (shp_sr _ _ (by assumption)))) | (left; assumption) | (exact b2i_or _) | (simp; done)) only [e60_0, e60_1, e60_2, e60_5, e60_8, e60_9, eq_self, ne_a, ne_b, ne_c, Nat.reduceEqDiff, lt0, bnd_ok, psh_I, psh_L, psh_R, psh_U, gt_sr, gr_sr, sk_sr, nn_sr, ↓reduceIte, Int.toNat_natCast, Int.reduceToNat, q1, b2i_f, Bool.false_eq_true]
  | true =>
    rw [hS] at q1
    obtain ⟨s, rfl, hs4, -⟩ := isS_n hS
    rw [Int.toNat_natCast]
    have hac := fun (dn on : Int) h1 h2 => c_actsR a5 a6 hs4 (dn := dn) (on := on) h1 h2
    have hbd := fun dn on => acD_bd a6 hs4 dn on
    generalize acD d s = f at *
    have hbm := mvF_bd (f := f) (fun a b => (hbd a b).1)
    clear a2 a3 a4 a5 a6 a7 h
    by_cases h1 : 0 ≤ w ∧ w ≤ 1
    · have inner : ∀ (r : Nat), r < 7 → ∀ (X : Res), (∀ q7, run 60 93 [vR 1, vI (s : Int), vI w, vI (mvF f (r * 11 + 11)).1, vI (mvF f (r * 11 + 11)).2, vI ((r : Int) - 3), vI 6, q7] [] σ = X) → ∀ q7, run 60 43 [vR 1, vI (s : Int), vI w, vI (mvF f (r * 11 + 0)).1, vI (mvF f (r * 11 + 0)).2, vI ((r : Int) - 3), vI (0 - 5), q7] [] σ = X := by
        intro r hr X hX
        refine bk (P := fun k z => ∀ q7, run 60 43 [vR 1, vI (s : Int), vI w, vI (mvF f (r * 11 + k)).1, vI (mvF f (r * 11 + k)).2, vI ((r : Int) - 3), vI (z - 5), q7] [] σ = X) (n := 11) ?_ ?_
        · intro q7
          rw [e60_43]
          simp (disch := first | assumption | omega | (exact shp_fok (by first | assumption | exact shp_sr _ _ (by assumption) | exact shp_sr _ _ (shp_sr _ _ (by assumption)) | exact shp_sr _ _ (shp_sr _ _ (shp_sr _ _ (by assumption)))) (by decide)) | (simp only [fok_sr, aok_sr]; first | assumption | (exact shp_fok (by first | assumption | exact shp_sr _ _ (by assumption) | exact shp_sr _ _ (shp_sr _ _ (by assumption)) | exact shp_sr _ _ (shp_sr _ _ (shp_sr _ _ (by assumption)))) (by decide))) | (refine shp_aok (by first | assumption | exact shp_sr _ _ (by assumption) | exact shp_sr _ _ (shp_sr _ _ (by assumption)) | exact shp_sr _ _ (shp_sr _ _ (shp_sr _ _ (by assumption)))) rfl rfl ?_ ?_ <;> omega) | (exact shp_sr _ _ (by assumption)) | (exact shp_sr _ _ (shp_sr _ _ (by assumption))) | (exact shp_sr _ _ (shp_sr _ _ (shp_sr _ _ (by assumption)))) | (left; assumption) | (exact b2i_or _) | (simp; done)) only [e60_45, e60_47, eq_self, ne_a, ne_b, ne_c, Nat.reduceEqDiff, lt0, bnd_ok, psh_I, psh_L, psh_R, psh_U, gt_sr, gr_sr, sk_sr, nn_sr, ↓reduceIte, Int.toNat_natCast, Int.reduceToNat, show (((11 : Nat) : Int) - 5) = 6 from rfl, Int.reduceLT]
          exact hX _
        · intro k hk hk' ih q7
          have h4 : (k : Int) - 5 < 6 := by omega
          have e1 := hac ((r : Int) - 3) ((k : Int) - 5) (by omega) (by omega)
          have w1 : wr ((k : Int) - 5 + 1) = (k : Int) + 1 - 5 := by rw [wr_id (by omega) (by omega)]; omega
          have w2 : wr (wr (wr (100 * wr ((r : Int) - 3 + 3)) + ((k : Int) - 5)) + 5) = 100 * (r : Int) + (k : Int) := by
            rw [wr_id (z := (r : Int) - 3 + 3) (by omega) (by omega), wr_id (z := 100 * ((r : Int) - 3 + 3)) (by omega) (by omega), wr_id (z := 100 * ((r : Int) - 3 + 3) + ((k : Int) - 5)) (by omega) (by omega), wr_id (by omega) (by omega)]
            omega
          rw [mvF_s f hk] at ih
          rw [e60_43]
          by_cases h5 : f ((r : Int) - 3) ((k : Int) - 5) < (mvF f (r * 11 + k)).1
          · rw [if_pos h5] at ih
            simp (disch := first | assumption | omega | (exact shp_fok (by first | assumption | exact shp_sr _ _ (by assumption) | exact shp_sr _ _ (shp_sr _ _ (by assumption)) | exact shp_sr _ _ (shp_sr _ _ (shp_sr _ _ (by assumption)))) (by decide)) | (simp only [fok_sr, aok_sr]; first | assumption | (exact shp_fok (by first | assumption | exact shp_sr _ _ (by assumption) | exact shp_sr _ _ (shp_sr _ _ (by assumption)) | exact shp_sr _ _ (shp_sr _ _ (shp_sr _ _ (by assumption)))) (by decide))) | (refine shp_aok (by first | assumption | exact shp_sr _ _ (by assumption) | exact shp_sr _ _ (shp_sr _ _ (by assumption)) | exact shp_sr _ _ (shp_sr _ _ (shp_sr _ _ (by assumption)))) rfl rfl ?_ ?_ <;> omega) | (exact shp_sr _ _ (by assumption)) | (exact shp_sr _ _ (shp_sr _ _ (by assumption))) | (exact shp_sr _ _ (shp_sr _ _ (shp_sr _ _ (by assumption)))) | (left; assumption) | (exact b2i_or _) | (simp; done)) only [e60_45, e60_47, e60_50, e60_51, e60_54, e60_55, e60_57, e60_59, e60_62, e60_64, e60_66, e60_67, e60_70, e60_72, e60_73, e60_75, e60_77, e60_78, e60_79, e60_80, e60_82, e60_83, e60_84, e60_85, e60_87, e60_90, eq_self, ne_a, ne_b, ne_c, Nat.reduceEqDiff, lt0, bnd_ok, psh_I, psh_L, psh_R, psh_U, gt_sr, gr_sr, sk_sr, nn_sr, ↓reduceIte, Int.toNat_natCast, Int.reduceToNat, g1_0, h4, e1, h5, w1, w2]
            exact ih _
          · rw [if_neg h5] at ih
            simp (disch := first | assumption | omega | (exact shp_fok (by first | assumption | exact shp_sr _ _ (by assumption) | exact shp_sr _ _ (shp_sr _ _ (by assumption)) | exact shp_sr _ _ (shp_sr _ _ (shp_sr _ _ (by assumption)))) (by decide)) | (simp only [fok_sr, aok_sr]; first | assumption | (exact shp_fok (by first | assumption | exact shp_sr _ _ (by assumption) | exact shp_sr _ _ (shp_sr _ _ (by assumption)) | exact shp_sr _ _ (shp_sr _ _ (shp_sr _ _ (by assumption)))) (by decide))) | (refine shp_aok (by first | assumption | exact shp_sr _ _ (by assumption) | exact shp_sr _ _ (shp_sr _ _ (by assumption)) | exact shp_sr _ _ (shp_sr _ _ (shp_sr _ _ (by assumption)))) rfl rfl ?_ ?_ <;> omega) | (exact shp_sr _ _ (by assumption)) | (exact shp_sr _ _ (shp_sr _ _ (by assumption))) | (exact shp_sr _ _ (shp_sr _ _ (shp_sr _ _ (by assumption)))) | (left; assumption) | (exact b2i_or _) | (simp; done)) only [e60_45, e60_47, e60_50, e60_51, e60_54, e60_55, e60_57, e60_59, e60_62, e60_64, e60_66, e60_67, e60_70, e60_72, e60_73, e60_75, e60_77, e60_78, e60_79, e60_80, e60_82, e60_83, e60_84, e60_85, e60_87, e60_90, eq_self, ne_a, ne_b, ne_c, Nat.reduceEqDiff, lt0, bnd_ok, psh_I, psh_L, psh_R, psh_U, gt_sr, gr_sr, sk_sr, nn_sr, ↓reduceIte, Int.toNat_natCast, Int.reduceToNat, g1_0, h4, e1, h5, w1]
            exact ih _
      have outer : ∀ q6 q7, run 60 33 [vR 1, vI (s : Int), vI w, vI (mvF f (0 * 11)).1, vI (mvF f (0 * 11)).2, vI (0 - 3), q6, q7] [] σ = some (vI (if w = 0 then (mvF f 77).1 else (mvF f 77).2), σ) := by
        refine bk (P := fun r z => ∀ q6 q7, run 60 33 [vR 1, vI (s : Int), vI w, vI (mvF f (r * 11)).1, vI (mvF f (r * 11)).2, vI (z - 3), q6, q7] [] σ = some (vI (if w = 0 then (mvF f 77).1 else (mvF f 77).2), σ)) (n := 7) ?_ ?_
        · intro q6 q7
          rw [e60_33]
          by_cases h6 : w = 0
          · simp (disch := first | assumption | omega | (exact shp_fok (by first | assumption | exact shp_sr _ _ (by assumption) | exact shp_sr _ _ (shp_sr _ _ (by assumption)) | exact shp_sr _ _ (shp_sr _ _ (shp_sr _ _ (by assumption)))) (by decide)) | (simp only [fok_sr, aok_sr]; first | assumption | (exact shp_fok (by first | assumption | exact shp_sr _ _ (by assumption) | exact shp_sr _ _ (shp_sr _ _ (by assumption)) | exact shp_sr _ _ (shp_sr _ _ (shp_sr _ _ (by assumption)))) (by decide))) | (refine shp_aok (by first | assumption | exact shp_sr _ _ (by assumption) | exact shp_sr _ _ (shp_sr _ _ (by assumption)) | exact shp_sr _ _ (shp_sr _ _ (shp_sr _ _ (by assumption)))) rfl rfl ?_ ?_ <;> omega) | (exact shp_sr _ _ (by assumption)) | (exact shp_sr _ _ (shp_sr _ _ (by assumption))) | (exact shp_sr _ _ (shp_sr _ _ (shp_sr _ _ (by assumption)))) | (left; assumption) | (exact b2i_or _) | (simp; done)) only [e60_35, e60_36, e60_99, e60_100, e60_103, e60_104, e60_107, e60_109, eq_self, ne_a, ne_b, ne_c, Nat.reduceEqDiff, lt0, bnd_ok, psh_I, psh_L, psh_R, psh_U, gt_sr, gr_sr, sk_sr, nn_sr, ↓reduceIte, Int.toNat_natCast, Int.reduceToNat, show (((7 : Nat) : Int) - 3) = 4 from rfl, Int.reduceLT, h6]
            try rfl
          · simp (disch := first | assumption | omega | (exact shp_fok (by first | assumption | exact shp_sr _ _ (by assumption) | exact shp_sr _ _ (shp_sr _ _ (by assumption)) | exact shp_sr _ _ (shp_sr _ _ (shp_sr _ _ (by assumption)))) (by decide)) | (simp only [fok_sr, aok_sr]; first | assumption | (exact shp_fok (by first | assumption | exact shp_sr _ _ (by assumption) | exact shp_sr _ _ (shp_sr _ _ (by assumption)) | exact shp_sr _ _ (shp_sr _ _ (shp_sr _ _ (by assumption)))) (by decide))) | (refine shp_aok (by first | assumption | exact shp_sr _ _ (by assumption) | exact shp_sr _ _ (shp_sr _ _ (by assumption)) | exact shp_sr _ _ (shp_sr _ _ (shp_sr _ _ (by assumption)))) rfl rfl ?_ ?_ <;> omega) | (exact shp_sr _ _ (by assumption)) | (exact shp_sr _ _ (shp_sr _ _ (by assumption))) | (exact shp_sr _ _ (shp_sr _ _ (shp_sr _ _ (by assumption)))) | (left; assumption) | (exact b2i_or _) | (simp; done)) only [e60_35, e60_36, e60_99, e60_100, e60_103, e60_104, e60_107, e60_109, eq_self, ne_a, ne_b, ne_c, Nat.reduceEqDiff, lt0, bnd_ok, psh_I, psh_L, psh_R, psh_U, gt_sr, gr_sr, sk_sr, nn_sr, ↓reduceIte, Int.toNat_natCast, Int.reduceToNat, show (((7 : Nat) : Int) - 3) = 4 from rfl, Int.reduceLT, h6]
            try rfl
        · intro r hr hr' ih q6 q7
          have h4 : (r : Int) - 3 < 4 := by omega
          have w1 : wr ((r : Int) - 3 + 1) = (r : Int) + 1 - 3 := by rw [wr_id (by omega) (by omega)]; omega
          rw [e60_33]
          simp (disch := first | assumption | omega | (exact shp_fok (by first | assumption | exact shp_sr _ _ (by assumption) | exact shp_sr _ _ (shp_sr _ _ (by assumption)) | exact shp_sr _ _ (shp_sr _ _ (shp_sr _ _ (by assumption)))) (by decide)) | (simp only [fok_sr, aok_sr]; first | assumption | (exact shp_fok (by first | assumption | exact shp_sr _ _ (by assumption) | exact shp_sr _ _ (shp_sr _ _ (by assumption)) | exact shp_sr _ _ (shp_sr _ _ (shp_sr _ _ (by assumption)))) (by decide))) | (refine shp_aok (by first | assumption | exact shp_sr _ _ (by assumption) | exact shp_sr _ _ (shp_sr _ _ (by assumption)) | exact shp_sr _ _ (shp_sr _ _ (shp_sr _ _ (by assumption)))) rfl rfl ?_ ?_ <;> omega) | (exact shp_sr _ _ (by assumption)) | (exact shp_sr _ _ (shp_sr _ _ (by assumption))) | (exact shp_sr _ _ (shp_sr _ _ (shp_sr _ _ (by assumption)))) | (left; assumption) | (exact b2i_or _) | (simp; done)) only [e60_35, e60_36, e60_39, e60_41, eq_self, ne_a, ne_b, ne_c, Nat.reduceEqDiff, lt0, bnd_ok, psh_I, psh_L, psh_R, psh_U, gt_sr, gr_sr, sk_sr, nn_sr, ↓reduceIte, Int.toNat_natCast, Int.reduceToNat, h4]
          refine inner r hr _ (fun q7 => ?_) q7
          simp (disch := first | assumption | omega | (exact shp_fok (by first | assumption | exact shp_sr _ _ (by assumption) | exact shp_sr _ _ (shp_sr _ _ (by assumption)) | exact shp_sr _ _ (shp_sr _ _ (shp_sr _ _ (by assumption)))) (by decide)) | (simp only [fok_sr, aok_sr]; first | assumption | (exact shp_fok (by first | assumption | exact shp_sr _ _ (by assumption) | exact shp_sr _ _ (shp_sr _ _ (by assumption)) | exact shp_sr _ _ (shp_sr _ _ (shp_sr _ _ (by assumption)))) (by decide))) | (refine shp_aok (by first | assumption | exact shp_sr _ _ (by assumption) | exact shp_sr _ _ (shp_sr _ _ (by assumption)) | exact shp_sr _ _ (shp_sr _ _ (shp_sr _ _ (by assumption)))) rfl rfl ?_ ?_ <;> omega) | (exact shp_sr _ _ (by assumption)) | (exact shp_sr _ _ (shp_sr _ _ (by assumption))) | (exact shp_sr _ _ (shp_sr _ _ (shp_sr _ _ (by assumption)))) | (left; assumption) | (exact b2i_or _) | (simp; done)) only [e60_93, e60_96, eq_self, ne_a, ne_b, ne_c, Nat.reduceEqDiff, lt0, bnd_ok, psh_I, psh_L, psh_R, psh_U, gt_sr, gr_sr, sk_sr, nn_sr, ↓reduceIte, Int.toNat_natCast, Int.reduceToNat, w1]
          have := ih (vI 6) q7
          rw [Nat.add_mul] at this
          exact this
      rw [if_pos rfl, if_pos h1]
      have h0 := outer vU vU
      simp (disch := first | assumption | omega | (exact shp_fok (by first | assumption | exact shp_sr _ _ (by assumption) | exact shp_sr _ _ (shp_sr _ _ (by assumption)) | exact shp_sr _ _ (shp_sr _ _ (shp_sr _ _ (by assumption)))) (by decide)) | (simp only [fok_sr, aok_sr]; first | assumption | (exact shp_fok (by first | assumption | exact shp_sr _ _ (by assumption) | exact shp_sr _ _ (shp_sr _ _ (by assumption)) | exact shp_sr _ _ (shp_sr _ _ (shp_sr _ _ (by assumption)))) (by decide))) | (refine shp_aok (by first | assumption | exact shp_sr _ _ (by assumption) | exact shp_sr _ _ (shp_sr _ _ (by assumption)) | exact shp_sr _ _ (shp_sr _ _ (shp_sr _ _ (by assumption)))) rfl rfl ?_ ?_ <;> omega) | (exact shp_sr _ _ (by assumption)) | (exact shp_sr _ _ (shp_sr _ _ (by assumption))) | (exact shp_sr _ _ (shp_sr _ _ (shp_sr _ _ (by assumption)))) | (left; assumption) | (exact b2i_or _) | (simp; done)) only [e60_0, e60_1, e60_2, e60_5, e60_8, e60_9, e60_10, e60_11, e60_12, e60_13, e60_16, e60_19, e60_21, e60_22, e60_24, e60_25, e60_27, e60_29, e60_31, eq_self, ne_a, ne_b, ne_c, Nat.reduceEqDiff, lt0, bnd_ok, psh_I, psh_L, psh_R, psh_U, gt_sr, gr_sr, sk_sr, nn_sr, ↓reduceIte, Int.toNat_natCast, Int.reduceToNat, q1, b2i_t, c_isWithin, if_pos h1, Int.reduceEq]
      exact h0
    · rw [if_pos rfl, if_neg h1]
      simp (disch := first | assumption | omega | (exact shp_fok (by first | assumption | exact shp_sr _ _ (by assumption) | exact shp_sr _ _ (shp_sr _ _ (by assumption)) | exact shp_sr _ _ (shp_sr _ _ (shp_sr _ _ (by assumption)))) (by decide)) | (simp only [fok_sr, aok_sr]; first | assumption | (exact shp_fok (by first | assumption | exact shp_sr _ _ (by assumption) | exact shp_sr _ _ (shp_sr _ _ (by assumption)) | exact shp_sr _ _ (shp_sr _ _ (shp_sr _ _ (by assumption)))) (by decide))) | (refine shp_aok (by first | assumption | exact shp_sr _ _ (by assumption) | exact shp_sr _ _ (shp_sr _ _ (by assumption)) | exact shp_sr _ _ (shp_sr _ _ (shp_sr _ _ (by assumption)))) rfl rfl ?_ ?_ <;> omega) | (exact shp_sr _ _ (by assumption)) | (exact shp_sr _ _ (shp_sr _ _ (by assumption))) | (exact shp_sr _ _ (shp_sr _ _ (shp_sr _ _ (by assumption)))) | (left; assumption) | (exact b2i_or _) | (simp; done)) only [e60_0, e60_1, e60_2, e60_5, e60_8, e60_9, e60_10, e60_11, e60_12, e60_13, e60_16, e60_19, e60_21, eq_self, ne_a, ne_b, ne_c, Nat.reduceEqDiff, lt0, bnd_ok, psh_I, psh_L, psh_R, psh_U, gt_sr, gr_sr, sk_sr, nn_sr, ↓reduceIte, Int.toNat_natCast, Int.reduceToNat, q1, b2i_t, c_isWithin, if_neg h1, Int.reduceEq]
/-- twos of shapes apart: the i-th, or how many -/
def apF (i : Int) : List (Bool × Int) → Int → Int
  | [], n => if i = -1 then n else -6
  | (p, v) :: t, n => if p = true then (if n = i then v else apF i t (n + 1)) else apF i t n
theorem apF_c (i : Int) (p : Bool) (v : Int) (t : List (Bool × Int)) (n : Int) : apF i ((p, v) :: t) n = if p = true then (if n = i then v else apF i t (n + 1)) else apF i t n := rfl
def nvD (d : Dat) (s q : Nat) : Bool := anN (nvC d s q) (dn_ d)
def apL (f : Nat → Nat → Bool) : List (Bool × Int) := [(f 0 1, 1), (f 0 2, 2), (f 0 3, 3), (f 1 2, 12), (f 1 3, 13), (f 2 3, 23)]
def x_apart (d : Dat) (i : Int) : Int := apF i (apL (nvD d)) 0
set_option maxRecDepth 100000 in
set_option maxHeartbeats 4000000 in
theorem c_Fapart (i : Int) (d : Dat) (cn : Nat) (sg : Nat → Int) : cla 61 [vR 1, vI i, vU, vU, vU] d cn sg (vI (x_apart d i)) d cn sg := by
  intro σ h
  obtain ⟨⟨a1, a2, a3, a4⟩, a5, a6, a7⟩ := id h
  refine ⟨σ, ?_, CS_rf h⟩
  have hnv := fun (s q : Nat) (hs : s < 4) (hq : q < 4) => c_neverTogetherR a5 a6 hs hq
  clear a2 a3 a4 a5 a6 a7 h
  have T : ∀ (s q : Nat) (n : Int), s < 4 → q < 4 → 0 ≤ n ∧ n ≤ 10 → run 61 14 [vR 1, vI i, vI n, vI (s : Int), vI (q : Int)] [] σ = if nvD d s q = true then (if n = i then some (vI (10 * (s : Int) + (q : Int)), σ) else run 61 14 [vR 1, vI i, vI (n + 1), vI (s : Int), vI ((q : Int) + 1)] [] σ) else run 61 14 [vR 1, vI i, vI n, vI (s : Int), vI ((q : Int) + 1)] [] σ := by
    intro s q n hs hq hn
    have e1 := hnv s q hs hq
    have h4 : (q : Int) < 4 := by omega
    have w1 : wr (n + 1) = n + 1 := wr_id (by omega) (by omega)
    have w2 : wr ((q : Int) + 1) = (q : Int) + 1 := wr_id (by omega) (by omega)
    have w3 : wr (wr (10 * (s : Int)) + (q : Int)) = 10 * (s : Int) + (q : Int) := by
      rw [wr_id (z := 10 * (s : Int)) (by omega) (by omega), wr_id (by omega) (by omega)]
    have hd : nvD d s q = anN (nvC d s q) (dn_ d) := rfl
    rw [← hd] at e1
    rw [e61_14]
    cases hx : nvD d s q with
    | false =>
      rw [hx] at e1
      simp (disch := first | assumption | omega | (exact shp_fok (by first | assumption | exact shp_sr _ _ (by assumption) | exact shp_sr _ _ (shp_sr _ _ (by assumption)) | exact shp_sr _ _ (shp_sr _ _ (shp_sr _ _ (by assumption)))) (by decide)) | (simp only [fok_sr, aok_sr]; first | assumption | (exact shp_fok (by first | assumption | exact shp_sr _ _ (by assumption) | exact shp_sr _ _ (shp_sr _ _ (by assumption)) | exact shp_sr _ _ (shp_sr _ _ (shp_sr _ _ (by assumption)))) (by decide))) | (refine shp_aok (by first | assumption | exact shp_sr _ _ (by assumption) | exact shp_sr _ _ (shp_sr _ _ (by assumption)) | exact shp_sr _ _ (shp_sr _ _ (shp_sr _ _ (by assumption)))) rfl rfl ?_ ?_ <;> omega) | (exact shp_sr _ _ (by assumption)) | (exact shp_sr _ _ (shp_sr _ _ (by assumption))) | (exact shp_sr _ _ (shp_sr _ _ (shp_sr _ _ (by assumption)))) | (left; assumption) | (exact b2i_or _) | (simp; done)) only [e61_16, e61_17, e61_20, e61_21, e61_24, e61_25, e61_27, e61_30, e61_33, e61_34, e61_35, e61_38, e61_40, e61_41, e61_42, e61_44, e61_45, e61_46, e61_49, e61_52, eq_self, ne_a, ne_b, ne_c, Nat.reduceEqDiff, lt0, bnd_ok, psh_I, psh_L, psh_R, psh_U, gt_sr, gr_sr, sk_sr, nn_sr, ↓reduceIte, Int.toNat_natCast, Int.reduceToNat, g1_0, h4, e1, b2i_f, w2, Bool.false_eq_true]
    | true =>
      rw [hx] at e1
      by_cases h5 : n = i
      · simp (disch := first | assumption | omega | (exact shp_fok (by first | assumption | exact shp_sr _ _ (by assumption) | exact shp_sr _ _ (shp_sr _ _ (by assumption)) | exact shp_sr _ _ (shp_sr _ _ (shp_sr _ _ (by assumption)))) (by decide)) | (simp only [fok_sr, aok_sr]; first | assumption | (exact shp_fok (by first | assumption | exact shp_sr _ _ (by assumption) | exact shp_sr _ _ (shp_sr _ _ (by assumption)) | exact shp_sr _ _ (shp_sr _ _ (shp_sr _ _ (by assumption)))) (by decide))) | (refine shp_aok (by first | assumption | exact shp_sr _ _ (by assumption) | exact shp_sr _ _ (shp_sr _ _ (by assumption)) | exact shp_sr _ _ (shp_sr _ _ (shp_sr _ _ (by assumption)))) rfl rfl ?_ ?_ <;> omega) | (exact shp_sr _ _ (by assumption)) | (exact shp_sr _ _ (shp_sr _ _ (by assumption))) | (exact shp_sr _ _ (shp_sr _ _ (shp_sr _ _ (by assumption)))) | (left; assumption) | (exact b2i_or _) | (simp; done)) only [e61_16, e61_17, e61_20, e61_21, e61_24, e61_25, e61_27, e61_30, e61_33, e61_34, e61_35, e61_38, e61_40, e61_41, e61_42, e61_44, e61_45, e61_46, e61_49, e61_52, eq_self, ne_a, ne_b, ne_c, Nat.reduceEqDiff, lt0, bnd_ok, psh_I, psh_L, psh_R, psh_U, gt_sr, gr_sr, sk_sr, nn_sr, ↓reduceIte, Int.toNat_natCast, Int.reduceToNat, g1_0, h4, e1, b2i_t, h5, w3, Int.reduceEq]
      · simp (disch := first | assumption | omega | (exact shp_fok (by first | assumption | exact shp_sr _ _ (by assumption) | exact shp_sr _ _ (shp_sr _ _ (by assumption)) | exact shp_sr _ _ (shp_sr _ _ (shp_sr _ _ (by assumption)))) (by decide)) | (simp only [fok_sr, aok_sr]; first | assumption | (exact shp_fok (by first | assumption | exact shp_sr _ _ (by assumption) | exact shp_sr _ _ (shp_sr _ _ (by assumption)) | exact shp_sr _ _ (shp_sr _ _ (shp_sr _ _ (by assumption)))) (by decide))) | (refine shp_aok (by first | assumption | exact shp_sr _ _ (by assumption) | exact shp_sr _ _ (shp_sr _ _ (by assumption)) | exact shp_sr _ _ (shp_sr _ _ (shp_sr _ _ (by assumption)))) rfl rfl ?_ ?_ <;> omega) | (exact shp_sr _ _ (by assumption)) | (exact shp_sr _ _ (shp_sr _ _ (by assumption))) | (exact shp_sr _ _ (shp_sr _ _ (shp_sr _ _ (by assumption)))) | (left; assumption) | (exact b2i_or _) | (simp; done)) only [e61_16, e61_17, e61_20, e61_21, e61_24, e61_25, e61_27, e61_30, e61_33, e61_34, e61_35, e61_38, e61_40, e61_41, e61_42, e61_44, e61_45, e61_46, e61_49, e61_52, eq_self, ne_a, ne_b, ne_c, Nat.reduceEqDiff, lt0, bnd_ok, psh_I, psh_L, psh_R, psh_U, gt_sr, gr_sr, sk_sr, nn_sr, ↓reduceIte, Int.toNat_natCast, Int.reduceToNat, g1_0, h4, e1, b2i_t, h5, w1, w2, Int.reduceEq]
  have U : ∀ (n : Int), run 61 14 [vR 1, vI i, vI n, vI 0, vI 4] [] σ = run 61 14 [vR 1, vI i, vI n, vI 1, vI 2] [] σ ∧ run 61 14 [vR 1, vI i, vI n, vI 1, vI 4] [] σ = run 61 14 [vR 1, vI i, vI n, vI 2, vI 3] [] σ ∧ run 61 14 [vR 1, vI i, vI n, vI 2, vI 4] [] σ = some (vI (if i = -1 then n else -6), σ) := by
    intro n
    have w1 : wr (0 + 1) = 1 := wr_id (by omega) (by omega)
    have w2 : wr (1 + 1) = 2 := wr_id (by omega) (by omega)
    have w3 : wr (2 + 1) = 3 := wr_id (by omega) (by omega)
    have w4 : wr (3 + 1) = 4 := wr_id (by omega) (by omega)
    refine ⟨?_, ?_, ?_⟩
    · rw [e61_14]
      simp (disch := first | assumption | omega | (exact shp_fok (by first | assumption | exact shp_sr _ _ (by assumption) | exact shp_sr _ _ (shp_sr _ _ (by assumption)) | exact shp_sr _ _ (shp_sr _ _ (shp_sr _ _ (by assumption)))) (by decide)) | (simp only [fok_sr, aok_sr]; first | assumption | (exact shp_fok (by first | assumption | exact shp_sr _ _ (by assumption) | exact shp_sr _ _ (shp_sr _ _ (by assumption)) | exact shp_sr _ _ (shp_sr _ _ (shp_sr _ _ (by assumption)))) (by decide))) | (refine shp_aok (by first | assumption | exact shp_sr _ _ (by assumption) | exact shp_sr _ _ (shp_sr _ _ (by assumption)) | exact shp_sr _ _ (shp_sr _ _ (shp_sr _ _ (by assumption)))) rfl rfl ?_ ?_ <;> omega) | (exact shp_sr _ _ (by assumption)) | (exact shp_sr _ _ (shp_sr _ _ (by assumption))) | (exact shp_sr _ _ (shp_sr _ _ (shp_sr _ _ (by assumption)))) | (left; assumption) | (exact b2i_or _) | (simp; done)) only [e61_16, e61_17, e61_55, e61_58, eq_self, ne_a, ne_b, ne_c, Nat.reduceEqDiff, lt0, bnd_ok, psh_I, psh_L, psh_R, psh_U, gt_sr, gr_sr, sk_sr, nn_sr, ↓reduceIte, Int.toNat_natCast, Int.reduceToNat, w1, Int.reduceLT]
      rw [e61_4]
      simp (disch := first | assumption | omega | (exact shp_fok (by first | assumption | exact shp_sr _ _ (by assumption) | exact shp_sr _ _ (shp_sr _ _ (by assumption)) | exact shp_sr _ _ (shp_sr _ _ (shp_sr _ _ (by assumption)))) (by decide)) | (simp only [fok_sr, aok_sr]; first | assumption | (exact shp_fok (by first | assumption | exact shp_sr _ _ (by assumption) | exact shp_sr _ _ (shp_sr _ _ (by assumption)) | exact shp_sr _ _ (shp_sr _ _ (shp_sr _ _ (by assumption)))) (by decide))) | (refine shp_aok (by first | assumption | exact shp_sr _ _ (by assumption) | exact shp_sr _ _ (shp_sr _ _ (by assumption)) | exact shp_sr _ _ (shp_sr _ _ (shp_sr _ _ (by assumption)))) rfl rfl ?_ ?_ <;> omega) | (exact shp_sr _ _ (by assumption)) | (exact shp_sr _ _ (shp_sr _ _ (by assumption))) | (exact shp_sr _ _ (shp_sr _ _ (shp_sr _ _ (by assumption)))) | (left; assumption) | (exact b2i_or _) | (simp; done)) only [e61_5, e61_6, e61_9, e61_10, e61_11, e61_12, eq_self, ne_a, ne_b, ne_c, Nat.reduceEqDiff, lt0, bnd_ok, psh_I, psh_L, psh_R, psh_U, gt_sr, gr_sr, sk_sr, nn_sr, ↓reduceIte, Int.toNat_natCast, Int.reduceToNat, w2, Int.reduceLT]
    · rw [e61_14]
      simp (disch := first | assumption | omega | (exact shp_fok (by first | assumption | exact shp_sr _ _ (by assumption) | exact shp_sr _ _ (shp_sr _ _ (by assumption)) | exact shp_sr _ _ (shp_sr _ _ (shp_sr _ _ (by assumption)))) (by decide)) | (simp only [fok_sr, aok_sr]; first | assumption | (exact shp_fok (by first | assumption | exact shp_sr _ _ (by assumption) | exact shp_sr _ _ (shp_sr _ _ (by assumption)) | exact shp_sr _ _ (shp_sr _ _ (shp_sr _ _ (by assumption)))) (by decide))) | (refine shp_aok (by first | assumption | exact shp_sr _ _ (by assumption) | exact shp_sr _ _ (shp_sr _ _ (by assumption)) | exact shp_sr _ _ (shp_sr _ _ (shp_sr _ _ (by assumption)))) rfl rfl ?_ ?_ <;> omega) | (exact shp_sr _ _ (by assumption)) | (exact shp_sr _ _ (shp_sr _ _ (by assumption))) | (exact shp_sr _ _ (shp_sr _ _ (shp_sr _ _ (by assumption)))) | (left; assumption) | (exact b2i_or _) | (simp; done)) only [e61_16, e61_17, e61_55, e61_58, eq_self, ne_a, ne_b, ne_c, Nat.reduceEqDiff, lt0, bnd_ok, psh_I, psh_L, psh_R, psh_U, gt_sr, gr_sr, sk_sr, nn_sr, ↓reduceIte, Int.toNat_natCast, Int.reduceToNat, w2, Int.reduceLT]
      rw [e61_4]
      simp (disch := first | assumption | omega | (exact shp_fok (by first | assumption | exact shp_sr _ _ (by assumption) | exact shp_sr _ _ (shp_sr _ _ (by assumption)) | exact shp_sr _ _ (shp_sr _ _ (shp_sr _ _ (by assumption)))) (by decide)) | (simp only [fok_sr, aok_sr]; first | assumption | (exact shp_fok (by first | assumption | exact shp_sr _ _ (by assumption) | exact shp_sr _ _ (shp_sr _ _ (by assumption)) | exact shp_sr _ _ (shp_sr _ _ (shp_sr _ _ (by assumption)))) (by decide))) | (refine shp_aok (by first | assumption | exact shp_sr _ _ (by assumption) | exact shp_sr _ _ (shp_sr _ _ (by assumption)) | exact shp_sr _ _ (shp_sr _ _ (shp_sr _ _ (by assumption)))) rfl rfl ?_ ?_ <;> omega) | (exact shp_sr _ _ (by assumption)) | (exact shp_sr _ _ (shp_sr _ _ (by assumption))) | (exact shp_sr _ _ (shp_sr _ _ (shp_sr _ _ (by assumption)))) | (left; assumption) | (exact b2i_or _) | (simp; done)) only [e61_5, e61_6, e61_9, e61_10, e61_11, e61_12, eq_self, ne_a, ne_b, ne_c, Nat.reduceEqDiff, lt0, bnd_ok, psh_I, psh_L, psh_R, psh_U, gt_sr, gr_sr, sk_sr, nn_sr, ↓reduceIte, Int.toNat_natCast, Int.reduceToNat, w3, Int.reduceLT]
    · rw [e61_14]
      simp (disch := first | assumption | omega | (exact shp_fok (by first | assumption | exact shp_sr _ _ (by assumption) | exact shp_sr _ _ (shp_sr _ _ (by assumption)) | exact shp_sr _ _ (shp_sr _ _ (shp_sr _ _ (by assumption)))) (by decide)) | (simp only [fok_sr, aok_sr]; first | assumption | (exact shp_fok (by first | assumption | exact shp_sr _ _ (by assumption) | exact shp_sr _ _ (shp_sr _ _ (by assumption)) | exact shp_sr _ _ (shp_sr _ _ (shp_sr _ _ (by assumption)))) (by decide))) | (refine shp_aok (by first | assumption | exact shp_sr _ _ (by assumption) | exact shp_sr _ _ (shp_sr _ _ (by assumption)) | exact shp_sr _ _ (shp_sr _ _ (shp_sr _ _ (by assumption)))) rfl rfl ?_ ?_ <;> omega) | (exact shp_sr _ _ (by assumption)) | (exact shp_sr _ _ (shp_sr _ _ (by assumption))) | (exact shp_sr _ _ (shp_sr _ _ (shp_sr _ _ (by assumption)))) | (left; assumption) | (exact b2i_or _) | (simp; done)) only [e61_16, e61_17, e61_55, e61_58, eq_self, ne_a, ne_b, ne_c, Nat.reduceEqDiff, lt0, bnd_ok, psh_I, psh_L, psh_R, psh_U, gt_sr, gr_sr, sk_sr, nn_sr, ↓reduceIte, Int.toNat_natCast, Int.reduceToNat, w3, Int.reduceLT]
      rw [e61_4]
      simp (disch := first | assumption | omega | (exact shp_fok (by first | assumption | exact shp_sr _ _ (by assumption) | exact shp_sr _ _ (shp_sr _ _ (by assumption)) | exact shp_sr _ _ (shp_sr _ _ (shp_sr _ _ (by assumption)))) (by decide)) | (simp only [fok_sr, aok_sr]; first | assumption | (exact shp_fok (by first | assumption | exact shp_sr _ _ (by assumption) | exact shp_sr _ _ (shp_sr _ _ (by assumption)) | exact shp_sr _ _ (shp_sr _ _ (shp_sr _ _ (by assumption)))) (by decide))) | (refine shp_aok (by first | assumption | exact shp_sr _ _ (by assumption) | exact shp_sr _ _ (shp_sr _ _ (by assumption)) | exact shp_sr _ _ (shp_sr _ _ (shp_sr _ _ (by assumption)))) rfl rfl ?_ ?_ <;> omega) | (exact shp_sr _ _ (by assumption)) | (exact shp_sr _ _ (shp_sr _ _ (by assumption))) | (exact shp_sr _ _ (shp_sr _ _ (shp_sr _ _ (by assumption)))) | (left; assumption) | (exact b2i_or _) | (simp; done)) only [e61_5, e61_6, e61_9, e61_10, e61_11, e61_12, eq_self, ne_a, ne_b, ne_c, Nat.reduceEqDiff, lt0, bnd_ok, psh_I, psh_L, psh_R, psh_U, gt_sr, gr_sr, sk_sr, nn_sr, ↓reduceIte, Int.toNat_natCast, Int.reduceToNat, w4, Int.reduceLT]
      rw [e61_14]
      simp (disch := first | assumption | omega | (exact shp_fok (by first | assumption | exact shp_sr _ _ (by assumption) | exact shp_sr _ _ (shp_sr _ _ (by assumption)) | exact shp_sr _ _ (shp_sr _ _ (shp_sr _ _ (by assumption)))) (by decide)) | (simp only [fok_sr, aok_sr]; first | assumption | (exact shp_fok (by first | assumption | exact shp_sr _ _ (by assumption) | exact shp_sr _ _ (shp_sr _ _ (by assumption)) | exact shp_sr _ _ (shp_sr _ _ (shp_sr _ _ (by assumption)))) (by decide))) | (refine shp_aok (by first | assumption | exact shp_sr _ _ (by assumption) | exact shp_sr _ _ (shp_sr _ _ (by assumption)) | exact shp_sr _ _ (shp_sr _ _ (shp_sr _ _ (by assumption)))) rfl rfl ?_ ?_ <;> omega) | (exact shp_sr _ _ (by assumption)) | (exact shp_sr _ _ (shp_sr _ _ (by assumption))) | (exact shp_sr _ _ (shp_sr _ _ (shp_sr _ _ (by assumption)))) | (left; assumption) | (exact b2i_or _) | (simp; done)) only [e61_16, e61_17, e61_55, e61_58, eq_self, ne_a, ne_b, ne_c, Nat.reduceEqDiff, lt0, bnd_ok, psh_I, psh_L, psh_R, psh_U, gt_sr, gr_sr, sk_sr, nn_sr, ↓reduceIte, Int.toNat_natCast, Int.reduceToNat, w4, Int.reduceLT]
      rw [e61_4]
      by_cases h5 : i = -1
      · simp (disch := first | assumption | omega | (exact shp_fok (by first | assumption | exact shp_sr _ _ (by assumption) | exact shp_sr _ _ (shp_sr _ _ (by assumption)) | exact shp_sr _ _ (shp_sr _ _ (shp_sr _ _ (by assumption)))) (by decide)) | (simp only [fok_sr, aok_sr]; first | assumption | (exact shp_fok (by first | assumption | exact shp_sr _ _ (by assumption) | exact shp_sr _ _ (shp_sr _ _ (by assumption)) | exact shp_sr _ _ (shp_sr _ _ (shp_sr _ _ (by assumption)))) (by decide))) | (refine shp_aok (by first | assumption | exact shp_sr _ _ (by assumption) | exact shp_sr _ _ (shp_sr _ _ (by assumption)) | exact shp_sr _ _ (shp_sr _ _ (shp_sr _ _ (by assumption)))) rfl rfl ?_ ?_ <;> omega) | (exact shp_sr _ _ (by assumption)) | (exact shp_sr _ _ (shp_sr _ _ (by assumption))) | (exact shp_sr _ _ (shp_sr _ _ (shp_sr _ _ (by assumption)))) | (left; assumption) | (exact b2i_or _) | (simp; done)) only [e61_5, e61_6, e61_9, e61_10, e61_11, e61_12, e61_61, e61_62, e61_63, e61_66, e61_67, e61_70, e61_72, eq_self, ne_a, ne_b, ne_c, Nat.reduceEqDiff, lt0, bnd_ok, psh_I, psh_L, psh_R, psh_U, gt_sr, gr_sr, sk_sr, nn_sr, ↓reduceIte, Int.toNat_natCast, Int.reduceToNat, Int.reduceLT, h5]
      · simp (disch := first | assumption | omega | (exact shp_fok (by first | assumption | exact shp_sr _ _ (by assumption) | exact shp_sr _ _ (shp_sr _ _ (by assumption)) | exact shp_sr _ _ (shp_sr _ _ (shp_sr _ _ (by assumption)))) (by decide)) | (simp only [fok_sr, aok_sr]; first | assumption | (exact shp_fok (by first | assumption | exact shp_sr _ _ (by assumption) | exact shp_sr _ _ (shp_sr _ _ (by assumption)) | exact shp_sr _ _ (shp_sr _ _ (shp_sr _ _ (by assumption)))) (by decide))) | (refine shp_aok (by first | assumption | exact shp_sr _ _ (by assumption) | exact shp_sr _ _ (shp_sr _ _ (by assumption)) | exact shp_sr _ _ (shp_sr _ _ (shp_sr _ _ (by assumption)))) rfl rfl ?_ ?_ <;> omega) | (exact shp_sr _ _ (by assumption)) | (exact shp_sr _ _ (shp_sr _ _ (by assumption))) | (exact shp_sr _ _ (shp_sr _ _ (shp_sr _ _ (by assumption)))) | (left; assumption) | (exact b2i_or _) | (simp; done)) only [e61_5, e61_6, e61_9, e61_10, e61_11, e61_12, e61_61, e61_62, e61_63, e61_66, e61_67, e61_70, e61_72, eq_self, ne_a, ne_b, ne_c, Nat.reduceEqDiff, lt0, bnd_ok, psh_I, psh_L, psh_R, psh_U, gt_sr, gr_sr, sk_sr, nn_sr, ↓reduceIte, Int.toNat_natCast, Int.reduceToNat, Int.reduceLT, h5]
  have t23 : ∀ n, 0 ≤ n ∧ n ≤ 9 → run 61 14 [vR 1, vI i, vI n, vI 2, vI 3] [] σ = some (vI (apF i [(nvD d 2 3, 23)] n), σ) := by
    intro n hn
    have t := T 2 3 n (by omega) (by omega) (by omega)
    have u0 := (U n).2.2
    have u1 := (U (n + 1)).2.2
    simp only [Int.cast_ofNat_Int, Int.reduceAdd, Int.reduceMul] at t
    rw [t, u0, u1]
    unfold apF apF
    split
    · split <;> rfl
    · rfl
  have t13 : ∀ n, 0 ≤ n ∧ n ≤ 8 → run 61 14 [vR 1, vI i, vI n, vI 1, vI 3] [] σ = some (vI (apF i [(nvD d 1 3, 13), (nvD d 2 3, 23)] n), σ) := by
    intro n hn
    have t := T 1 3 n (by omega) (by omega) (by omega)
    have u0 := (U n).2.1
    have u1 := (U (n + 1)).2.1
    simp only [Int.cast_ofNat_Int, Int.reduceAdd, Int.reduceMul] at t
    rw [t, u0, u1, t23 n (by omega), t23 (n + 1) (by omega)]
    rw [apF_c i (nvD d 1 3) 13]
    split
    · split <;> rfl
    · rfl
  have t12 : ∀ n, 0 ≤ n ∧ n ≤ 7 → run 61 14 [vR 1, vI i, vI n, vI 1, vI 2] [] σ = some (vI (apF i [(nvD d 1 2, 12), (nvD d 1 3, 13), (nvD d 2 3, 23)] n), σ) := by
    intro n hn
    have t := T 1 2 n (by omega) (by omega) (by omega)
    simp only [Int.cast_ofNat_Int, Int.reduceAdd, Int.reduceMul] at t
    rw [t, t13 n (by omega), t13 (n + 1) (by omega)]
    rw [apF_c i (nvD d 1 2) 12]
    split
    · split <;> rfl
    · rfl
  have t03 : ∀ n, 0 ≤ n ∧ n ≤ 6 → run 61 14 [vR 1, vI i, vI n, vI 0, vI 3] [] σ = some (vI (apF i [(nvD d 0 3, 3), (nvD d 1 2, 12), (nvD d 1 3, 13), (nvD d 2 3, 23)] n), σ) := by
    intro n hn
    have t := T 0 3 n (by omega) (by omega) (by omega)
    have u0 := (U n).1
    have u1 := (U (n + 1)).1
    simp only [Int.cast_ofNat_Int, Int.reduceAdd, Int.reduceMul] at t
    rw [t, u0, u1, t12 n (by omega), t12 (n + 1) (by omega)]
    rw [apF_c i (nvD d 0 3) 3]
    split
    · split <;> rfl
    · rfl
  have t02 : ∀ n, 0 ≤ n ∧ n ≤ 5 → run 61 14 [vR 1, vI i, vI n, vI 0, vI 2] [] σ = some (vI (apF i [(nvD d 0 2, 2), (nvD d 0 3, 3), (nvD d 1 2, 12), (nvD d 1 3, 13), (nvD d 2 3, 23)] n), σ) := by
    intro n hn
    have t := T 0 2 n (by omega) (by omega) (by omega)
    simp only [Int.cast_ofNat_Int, Int.reduceAdd, Int.reduceMul] at t
    rw [t, t03 n (by omega), t03 (n + 1) (by omega)]
    rw [apF_c i (nvD d 0 2) 2]
    split
    · split <;> rfl
    · rfl
  have t01 : run 61 14 [vR 1, vI i, vI 0, vI 0, vI 1] [] σ = some (vI (apF i [(nvD d 0 1, 1), (nvD d 0 2, 2), (nvD d 0 3, 3), (nvD d 1 2, 12), (nvD d 1 3, 13), (nvD d 2 3, 23)] 0), σ) := by
    have t := T 0 1 0 (by omega) (by omega) (by omega)
    simp only [Int.cast_ofNat_Int, Int.reduceAdd, Int.reduceMul] at t
    rw [t, t02 0 (by omega), t02 1 (by omega)]
    rw [apF_c i (nvD d 0 1) 1]
    split
    · split <;> rfl
    · rfl
  have w1 : wr (0 + 1) = 1 := wr_id (by omega) (by omega)
  simp (disch := first | assumption | omega | (exact shp_fok (by first | assumption | exact shp_sr _ _ (by assumption) | exact shp_sr _ _ (shp_sr _ _ (by assumption)) | exact shp_sr _ _ (shp_sr _ _ (shp_sr _ _ (by assumption)))) (by decide)) | (simp only [fok_sr, aok_sr]; first | assumption | (exact shp_fok (by first | assumption | exact shp_sr _ _ (by assumption) | exact shp_sr _ _ (shp_sr _ _ (by assumption)) | exact shp_sr _ _ (shp_sr _ _ (shp_sr _ _ (by assumption)))) (by decide))) | (refine shp_aok (by first | assumption | exact shp_sr _ _ (by assumption) | exact shp_sr _ _ (shp_sr _ _ (by assumption)) | exact shp_sr _ _ (shp_sr _ _ (shp_sr _ _ (by assumption)))) rfl rfl ?_ ?_ <;> omega) | (exact shp_sr _ _ (by assumption)) | (exact shp_sr _ _ (shp_sr _ _ (by assumption))) | (exact shp_sr _ _ (shp_sr _ _ (shp_sr _ _ (by assumption)))) | (left; assumption) | (exact b2i_or _) | (simp; done)) only [e61_0, e61_1, e61_2, e61_3, eq_self, ne_a, ne_b, ne_c, Nat.reduceEqDiff, lt0, bnd_ok, psh_I, psh_L, psh_R, psh_U, gt_sr, gr_sr, sk_sr, nn_sr, ↓reduceIte, Int.toNat_natCast, Int.reduceToNat]
  rw [e61_4]
  simp (disch := first | assumption | omega | (exact shp_fok (by first | assumption | exact shp_sr _ _ (by assumption) | exact shp_sr _ _ (shp_sr _ _ (by assumption)) | exact shp_sr _ _ (shp_sr _ _ (shp_sr _ _ (by assumption)))) (by decide)) | (simp only [fok_sr, aok_sr]; first | assumption | (exact shp_fok (by first | assumption | exact shp_sr _ _ (by assumption) | exact shp_sr _ _ (shp_sr _ _ (by assumption)) | exact shp_sr _ _ (shp_sr _ _ (shp_sr _ _ (by assumption)))) (by decide))) | (refine shp_aok (by first | assumption | exact shp_sr _ _ (by assumption) | exact shp_sr _ _ (shp_sr _ _ (by assumption)) | exact shp_sr _ _ (shp_sr _ _ (shp_sr _ _ (by assumption)))) rfl rfl ?_ ?_ <;> omega) | (exact shp_sr _ _ (by assumption)) | (exact shp_sr _ _ (shp_sr _ _ (by assumption))) | (exact shp_sr _ _ (shp_sr _ _ (shp_sr _ _ (by assumption)))) | (left; assumption) | (exact b2i_or _) | (simp; done)) only [e61_5, e61_6, e61_9, e61_10, e61_11, e61_12, eq_self, ne_a, ne_b, ne_c, Nat.reduceEqDiff, lt0, bnd_ok, psh_I, psh_L, psh_R, psh_U, gt_sr, gr_sr, sk_sr, nn_sr, ↓reduceIte, Int.toNat_natCast, Int.reduceToNat, w1, Int.reduceLT]
  exact t01
/-- the crews' numbers, as bits, together -/
def nx (t : Nat → Int) (x : Nat) : Nat → Nat
  | 0 => 0
  | c + 1 => nx t x c ^^^ (if x.testBit c = true then (t c).toNat else 0)
theorem nx_lt {t : Nat → Int} (h : tk t) (x : Nat) : ∀ n, n ≤ 24 → nx t x n < 16
  | 0, _ => by unfold nx; omega
  | n + 1, hn => by
    have h1 := nx_lt h x n (by omega)
    have h2 := h n (by omega)
    unfold nx
    refine Nat.xor_lt_two_pow (n := 4) h1 ?_
    split <;> omega
def isX (d : Dat) (z : Int) : Prop := 0 ≤ z ∧ z ≤ ((2 ^ dn_ d : Nat) : Int) - 1
theorem pow24 {n : Nat} (h : n ≤ 24) : 1 ≤ 2 ^ n ∧ 2 ^ n ≤ 16777216 := ⟨Nat.one_le_two_pow, Nat.pow_le_pow_right (by omega) h⟩
set_option maxRecDepth 100000 in
set_option maxHeartbeats 4000000 in
theorem c_isSet {σ : St} {d : Dat} {cn : Nat} {sg : Nat → Int} (h : CS σ d cn sg) (z : Int) : run 70 0 [vR 1, vI z] [] σ = some (vI (if 0 ≤ z ∧ z ≤ ((2 ^ dn_ d : Nat) : Int) - 1 then 1 else 0), σ) := by
  obtain ⟨⟨a1, a2, a3, a4⟩, a5, a6, a7⟩ := id h
  have h24 := dn24 a6
  have hp := pow24 h24
  have d2 : gt σ 2 2 = ((dn_ d : Nat) : Int) := a5.2.1.2.2.1
  have o1 := bShl_N (a := 1) (k := dn_ d) (by omega) (by omega) (by omega)
  rw [Nat.one_mul, show ((1 : Nat) : Int) = 1 from rfl] at o1
  have w1 : wr (((2 ^ dn_ d : Nat) : Int) - 1) = ((2 ^ dn_ d : Nat) : Int) - 1 := wr_id (by omega) (by omega)
  clear hp
  generalize 2 ^ dn_ d = P at *
  by_cases h1 : 0 ≤ z ∧ z ≤ (P : Int) - 1
  · simp (disch := first | (left; rfl) | (right; rfl) | first | assumption | omega | (exact shp_fok (by first | assumption | exact shp_sr _ _ (by assumption) | exact shp_sr _ _ (shp_sr _ _ (by assumption)) | exact shp_sr _ _ (shp_sr _ _ (shp_sr _ _ (by assumption)))) (by decide)) | (simp only [fok_sr, aok_sr]; first | assumption | (exact shp_fok (by first | assumption | exact shp_sr _ _ (by assumption) | exact shp_sr _ _ (shp_sr _ _ (by assumption)) | exact shp_sr _ _ (shp_sr _ _ (shp_sr _ _ (by assumption)))) (by decide))) | (refine shp_aok (by first | assumption | exact shp_sr _ _ (by assumption) | exact shp_sr _ _ (shp_sr _ _ (by assumption)) | exact shp_sr _ _ (shp_sr _ _ (shp_sr _ _ (by assumption)))) rfl rfl ?_ ?_ <;> omega) | (exact shp_sr _ _ (by assumption)) | (exact shp_sr _ _ (shp_sr _ _ (by assumption))) | (exact shp_sr _ _ (shp_sr _ _ (shp_sr _ _ (by assumption)))) | (left; assumption) | (exact b2i_or _) | (simp; done)) only [e70_0, e70_1, e70_2, e70_3, e70_4, e70_7, e70_10, e70_11, e70_12, e70_13, e70_16, eq_self, ne_a, ne_b, ne_c, Nat.reduceEqDiff, lt0, bnd_ok, psh_I, psh_L, psh_R, psh_U, gt_sr, gr_sr, sk_sr, nn_sr, ↓reduceIte, Int.toNat_natCast, Int.reduceToNat, g1_0, d2, o1, w1, c_isWithin, if_pos h1]
  · simp (disch := first | (left; rfl) | (right; rfl) | first | assumption | omega | (exact shp_fok (by first | assumption | exact shp_sr _ _ (by assumption) | exact shp_sr _ _ (shp_sr _ _ (by assumption)) | exact shp_sr _ _ (shp_sr _ _ (shp_sr _ _ (by assumption)))) (by decide)) | (simp only [fok_sr, aok_sr]; first | assumption | (exact shp_fok (by first | assumption | exact shp_sr _ _ (by assumption) | exact shp_sr _ _ (shp_sr _ _ (by assumption)) | exact shp_sr _ _ (shp_sr _ _ (shp_sr _ _ (by assumption)))) (by decide))) | (refine shp_aok (by first | assumption | exact shp_sr _ _ (by assumption) | exact shp_sr _ _ (shp_sr _ _ (by assumption)) | exact shp_sr _ _ (shp_sr _ _ (shp_sr _ _ (by assumption)))) rfl rfl ?_ ?_ <;> omega) | (exact shp_sr _ _ (by assumption)) | (exact shp_sr _ _ (shp_sr _ _ (by assumption))) | (exact shp_sr _ _ (shp_sr _ _ (shp_sr _ _ (by assumption)))) | (left; assumption) | (exact b2i_or _) | (simp; done)) only [e70_0, e70_1, e70_2, e70_3, e70_4, e70_7, e70_10, e70_11, e70_12, e70_13, e70_16, eq_self, ne_a, ne_b, ne_c, Nat.reduceEqDiff, lt0, bnd_ok, psh_I, psh_L, psh_R, psh_U, gt_sr, gr_sr, sk_sr, nn_sr, ↓reduceIte, Int.toNat_natCast, Int.reduceToNat, g1_0, d2, o1, w1, c_isWithin, if_neg h1]
set_option maxRecDepth 100000 in
set_option maxHeartbeats 4000000 in
theorem c_nimSum {σ : St} {d : Dat} {cn : Nat} {sg : Nat → Int} (h : CS σ d cn sg) {x : Nat} (hx : x < 2147483648) : run 71 0 [vR 1, vI (x : Int), vU, vU] [] σ = some (vI (nx (dt d) x (dn_ d) : Nat), σ) := by
  obtain ⟨⟨a1, a2, a3, a4⟩, a5, a6, a7⟩ := id h
  have h24 := dn24 a6
  have d2 : gt σ 2 2 = ((dn_ d : Nat) : Int) := a5.2.1.2.2.1
  have i3 := shp_ia (k := 3) (n := 24) a1 (by decide)
  have e6 : gt σ 3 = dt d := a5.2.2.2.2.2.1
  have ht := ok_t a6
  have hlt := nx_lt ht x
  clear a2 a3 a4 a5 a6 a7 h
  have L : run 71 4 [vR 1, vI (x : Int), vI (nx (dt d) x 0 : Nat), vI 0] [] σ = some (vI (nx (dt d) x (dn_ d) : Nat), σ) := by
    refine bk (P := fun k z => run 71 4 [vR 1, vI (x : Int), vI (nx (dt d) x k : Nat), vI z] [] σ = some (vI (nx (dt d) x (dn_ d) : Nat), σ)) (n := dn_ d) ?_ ?_
    · have h4 : ¬ ((dn_ d : Nat) : Int) < (dn_ d : Int) := by omega
      rw [e71_4]
      simp (disch := first | assumption | omega | (exact shp_fok (by first | assumption | exact shp_sr _ _ (by assumption) | exact shp_sr _ _ (shp_sr _ _ (by assumption)) | exact shp_sr _ _ (shp_sr _ _ (shp_sr _ _ (by assumption)))) (by decide)) | (simp only [fok_sr, aok_sr]; first | assumption | (exact shp_fok (by first | assumption | exact shp_sr _ _ (by assumption) | exact shp_sr _ _ (shp_sr _ _ (by assumption)) | exact shp_sr _ _ (shp_sr _ _ (shp_sr _ _ (by assumption)))) (by decide))) | (refine shp_aok (by first | assumption | exact shp_sr _ _ (by assumption) | exact shp_sr _ _ (shp_sr _ _ (by assumption)) | exact shp_sr _ _ (shp_sr _ _ (shp_sr _ _ (by assumption)))) rfl rfl ?_ ?_ <;> omega) | (exact shp_sr _ _ (by assumption)) | (exact shp_sr _ _ (shp_sr _ _ (by assumption))) | (exact shp_sr _ _ (shp_sr _ _ (shp_sr _ _ (by assumption)))) | (left; assumption) | (exact b2i_or _) | (simp; done)) only [e71_0, e71_1, e71_2, e71_3, e71_5, e71_6, e71_9, e71_12, e71_15, e71_16, e71_17, e71_18, e71_19, e71_20, e71_21, e71_22, e71_25, e71_26, e71_29, e71_32, e71_33, e71_36, e71_39, e71_40, e71_41, e71_42, e71_45, e71_48, e71_49, eq_self, ne_a, ne_b, ne_c, Nat.reduceEqDiff, lt0, bnd_ok, psh_I, psh_L, psh_R, psh_U, gt_sr, gr_sr, sk_sr, nn_sr, ↓reduceIte, Int.toNat_natCast, Int.reduceToNat, g1_0, d2, h4]
    · intro k hk hk' ih
      have at1 := c_atN i3 (show k < 24 by omega)
      rw [e6] at at1
      have w5 : wr ((k : Int) + 1) = (k : Int) + 1 := wr_id (by omega) (by omega)
      have w6 := bit_N (a := x) (k := k) hx (by omega)
      have e3 : nx (dt d) x (k + 1) = nx (dt d) x k ^^^ (if x.testBit k = true then (dt d k).toNat else 0) := rfl
      have b1 := ht k (by omega)
      have b2 := hlt k (by omega)
      rw [e3] at ih
      rw [e71_4]
      cases hb : x.testBit k with
      | true =>
        rw [hb, if_pos rfl] at ih
        have e9 : bt x k = 1 := by unfold bt; rw [hb, if_pos rfl]
        obtain ⟨v, hv⟩ := nat_of b1.1
        rw [hv, Int.toNat_natCast] at ih
        have o1 := bXor_N (a := nx (dt d) x k) (b := v) (by omega) (by omega)
        simp (disch := first | assumption | omega | (exact shp_fok (by first | assumption | exact shp_sr _ _ (by assumption) | exact shp_sr _ _ (shp_sr _ _ (by assumption)) | exact shp_sr _ _ (shp_sr _ _ (shp_sr _ _ (by assumption)))) (by decide)) | (simp only [fok_sr, aok_sr]; first | assumption | (exact shp_fok (by first | assumption | exact shp_sr _ _ (by assumption) | exact shp_sr _ _ (shp_sr _ _ (by assumption)) | exact shp_sr _ _ (shp_sr _ _ (shp_sr _ _ (by assumption)))) (by decide))) | (refine shp_aok (by first | assumption | exact shp_sr _ _ (by assumption) | exact shp_sr _ _ (shp_sr _ _ (by assumption)) | exact shp_sr _ _ (shp_sr _ _ (shp_sr _ _ (by assumption)))) rfl rfl ?_ ?_ <;> omega) | (exact shp_sr _ _ (by assumption)) | (exact shp_sr _ _ (shp_sr _ _ (by assumption))) | (exact shp_sr _ _ (shp_sr _ _ (shp_sr _ _ (by assumption)))) | (left; assumption) | (exact b2i_or _) | (simp; done)) only [e71_0, e71_1, e71_2, e71_3, e71_5, e71_6, e71_9, e71_12, e71_15, e71_16, e71_17, e71_18, e71_19, e71_20, e71_21, e71_22, e71_25, e71_26, e71_29, e71_32, e71_33, e71_36, e71_39, e71_40, e71_41, e71_42, e71_45, e71_48, e71_49, eq_self, ne_a, ne_b, ne_c, Nat.reduceEqDiff, lt0, bnd_ok, psh_I, psh_L, psh_R, psh_U, gt_sr, gr_sr, sk_sr, nn_sr, ↓reduceIte, Int.toNat_natCast, Int.reduceToNat, g1_0, g2_6, d2, hk', w6, e9, at1, hv, o1, w5]
        exact ih
      | false =>
        rw [hb, if_neg Bool.false_ne_true] at ih
        have e9 : bt x k = 0 := by unfold bt; rw [hb]; rfl
        have o1 := bXor_N (a := nx (dt d) x k) (b := 0) (by omega) (by omega)
        rw [show ((0 : Nat) : Int) = 0 from rfl] at o1
        simp (disch := first | assumption | omega | (exact shp_fok (by first | assumption | exact shp_sr _ _ (by assumption) | exact shp_sr _ _ (shp_sr _ _ (by assumption)) | exact shp_sr _ _ (shp_sr _ _ (shp_sr _ _ (by assumption)))) (by decide)) | (simp only [fok_sr, aok_sr]; first | assumption | (exact shp_fok (by first | assumption | exact shp_sr _ _ (by assumption) | exact shp_sr _ _ (shp_sr _ _ (by assumption)) | exact shp_sr _ _ (shp_sr _ _ (shp_sr _ _ (by assumption)))) (by decide))) | (refine shp_aok (by first | assumption | exact shp_sr _ _ (by assumption) | exact shp_sr _ _ (shp_sr _ _ (by assumption)) | exact shp_sr _ _ (shp_sr _ _ (shp_sr _ _ (by assumption)))) rfl rfl ?_ ?_ <;> omega) | (exact shp_sr _ _ (by assumption)) | (exact shp_sr _ _ (shp_sr _ _ (by assumption))) | (exact shp_sr _ _ (shp_sr _ _ (shp_sr _ _ (by assumption)))) | (left; assumption) | (exact b2i_or _) | (simp; done)) only [e71_0, e71_1, e71_2, e71_3, e71_5, e71_6, e71_9, e71_12, e71_15, e71_16, e71_17, e71_18, e71_19, e71_20, e71_21, e71_22, e71_25, e71_26, e71_29, e71_32, e71_33, e71_36, e71_39, e71_40, e71_41, e71_42, e71_45, e71_48, e71_49, eq_self, ne_a, ne_b, ne_c, Nat.reduceEqDiff, lt0, bnd_ok, psh_I, psh_L, psh_R, psh_U, gt_sr, gr_sr, sk_sr, nn_sr, ↓reduceIte, Int.toNat_natCast, Int.reduceToNat, g1_0, d2, hk', w6, e9, o1, w5, Int.reduceEq]
        exact ih
  simp (disch := first | assumption | omega | (exact shp_fok (by first | assumption | exact shp_sr _ _ (by assumption) | exact shp_sr _ _ (shp_sr _ _ (by assumption)) | exact shp_sr _ _ (shp_sr _ _ (shp_sr _ _ (by assumption)))) (by decide)) | (simp only [fok_sr, aok_sr]; first | assumption | (exact shp_fok (by first | assumption | exact shp_sr _ _ (by assumption) | exact shp_sr _ _ (shp_sr _ _ (by assumption)) | exact shp_sr _ _ (shp_sr _ _ (shp_sr _ _ (by assumption)))) (by decide))) | (refine shp_aok (by first | assumption | exact shp_sr _ _ (by assumption) | exact shp_sr _ _ (shp_sr _ _ (by assumption)) | exact shp_sr _ _ (shp_sr _ _ (shp_sr _ _ (by assumption)))) rfl rfl ?_ ?_ <;> omega) | (exact shp_sr _ _ (by assumption)) | (exact shp_sr _ _ (shp_sr _ _ (by assumption))) | (exact shp_sr _ _ (shp_sr _ _ (shp_sr _ _ (by assumption)))) | (left; assumption) | (exact b2i_or _) | (simp; done)) only [e71_0, e71_1, e71_2, e71_3, e71_5, e71_6, e71_9, e71_12, e71_15, e71_16, e71_17, e71_18, e71_19, e71_20, e71_21, e71_22, e71_25, e71_26, e71_29, e71_32, e71_33, e71_36, e71_39, e71_40, e71_41, e71_42, e71_45, e71_48, e71_49, eq_self, ne_a, ne_b, ne_c, Nat.reduceEqDiff, lt0, bnd_ok, psh_I, psh_L, psh_R, psh_U, gt_sr, gr_sr, sk_sr, nn_sr, ↓reduceIte, Int.toNat_natCast, Int.reduceToNat]
  exact L
def x_wins (d : Dat) (z : Int) : Int := if 0 ≤ z ∧ z ≤ ((2 ^ dn_ d : Nat) : Int) - 1 then (if nx (dt d) z.toNat (dn_ d) = 0 then 1 else 0) else -2
set_option maxRecDepth 100000 in
set_option maxHeartbeats 4000000 in
theorem c_Fwins (z : Int) (d : Dat) (cn : Nat) (sg : Nat → Int) : cla 69 [vR 1, vI z] d cn sg (vI (x_wins d z)) d cn sg := by
  intro σ h
  have q1 := c_isSet h z
  have hp := pow24 (dn24 h.2.2.1)
  have hs := h.1.1
  refine ⟨σ, ?_, CS_rf h⟩
  unfold x_wins
  generalize hP : 2 ^ dn_ d = P at *
  by_cases h1 : 0 ≤ z ∧ z ≤ (P : Int) - 1
  · rw [if_pos h1] at q1 ⊢
    obtain ⟨x, rfl⟩ := nat_of h1.1
    rw [Int.toNat_natCast]
    have q2 := c_nimSum h (x := x) (by omega)
    by_cases h2 : nx (dt d) x (dn_ d) = 0
    · rw [if_pos h2]
      rw [h2] at q2
      simp (disch := first | assumption | omega | (exact shp_fok (by first | assumption | exact shp_sr _ _ (by assumption) | exact shp_sr _ _ (shp_sr _ _ (by assumption)) | exact shp_sr _ _ (shp_sr _ _ (shp_sr _ _ (by assumption)))) (by decide)) | (simp only [fok_sr, aok_sr]; first | assumption | (exact shp_fok (by first | assumption | exact shp_sr _ _ (by assumption) | exact shp_sr _ _ (shp_sr _ _ (by assumption)) | exact shp_sr _ _ (shp_sr _ _ (shp_sr _ _ (by assumption)))) (by decide))) | (refine shp_aok (by first | assumption | exact shp_sr _ _ (by assumption) | exact shp_sr _ _ (shp_sr _ _ (by assumption)) | exact shp_sr _ _ (shp_sr _ _ (shp_sr _ _ (by assumption)))) rfl rfl ?_ ?_ <;> omega) | (exact shp_sr _ _ (by assumption)) | (exact shp_sr _ _ (shp_sr _ _ (by assumption))) | (exact shp_sr _ _ (shp_sr _ _ (shp_sr _ _ (by assumption)))) | (left; assumption) | (exact b2i_or _) | (simp; done)) only [e69_0, e69_1, e69_2, e69_5, e69_8, e69_10, e69_11, e69_12, e69_13, e69_16, e69_19, e69_20, e69_23, e69_24, eq_self, ne_a, ne_b, ne_c, Nat.reduceEqDiff, lt0, bnd_ok, psh_I, psh_L, psh_R, psh_U, gt_sr, gr_sr, sk_sr, nn_sr, ↓reduceIte, Int.toNat_natCast, Int.reduceToNat, q1, q2, Int.reduceEq, Int.cast_ofNat_Int]
    · rw [if_neg h2]
      have h3 : ¬ ((nx (dt d) x (dn_ d) : Nat) : Int) = 0 := by omega
      simp (disch := first | assumption | omega | (exact shp_fok (by first | assumption | exact shp_sr _ _ (by assumption) | exact shp_sr _ _ (shp_sr _ _ (by assumption)) | exact shp_sr _ _ (shp_sr _ _ (shp_sr _ _ (by assumption)))) (by decide)) | (simp only [fok_sr, aok_sr]; first | assumption | (exact shp_fok (by first | assumption | exact shp_sr _ _ (by assumption) | exact shp_sr _ _ (shp_sr _ _ (by assumption)) | exact shp_sr _ _ (shp_sr _ _ (shp_sr _ _ (by assumption)))) (by decide))) | (refine shp_aok (by first | assumption | exact shp_sr _ _ (by assumption) | exact shp_sr _ _ (shp_sr _ _ (by assumption)) | exact shp_sr _ _ (shp_sr _ _ (shp_sr _ _ (by assumption)))) rfl rfl ?_ ?_ <;> omega) | (exact shp_sr _ _ (by assumption)) | (exact shp_sr _ _ (shp_sr _ _ (by assumption))) | (exact shp_sr _ _ (shp_sr _ _ (shp_sr _ _ (by assumption)))) | (left; assumption) | (exact b2i_or _) | (simp; done)) only [e69_0, e69_1, e69_2, e69_5, e69_8, e69_10, e69_11, e69_12, e69_13, e69_16, e69_19, e69_20, e69_23, e69_24, eq_self, ne_a, ne_b, ne_c, Nat.reduceEqDiff, lt0, bnd_ok, psh_I, psh_L, psh_R, psh_U, gt_sr, gr_sr, sk_sr, nn_sr, ↓reduceIte, Int.toNat_natCast, Int.reduceToNat, q1, q2, h3, Int.reduceEq]
  · rw [if_neg h1] at q1 ⊢
    simp (disch := first | assumption | omega | (exact shp_fok (by first | assumption | exact shp_sr _ _ (by assumption) | exact shp_sr _ _ (shp_sr _ _ (by assumption)) | exact shp_sr _ _ (shp_sr _ _ (shp_sr _ _ (by assumption)))) (by decide)) | (simp only [fok_sr, aok_sr]; first | assumption | (exact shp_fok (by first | assumption | exact shp_sr _ _ (by assumption) | exact shp_sr _ _ (shp_sr _ _ (by assumption)) | exact shp_sr _ _ (shp_sr _ _ (shp_sr _ _ (by assumption)))) (by decide))) | (refine shp_aok (by first | assumption | exact shp_sr _ _ (by assumption) | exact shp_sr _ _ (shp_sr _ _ (by assumption)) | exact shp_sr _ _ (shp_sr _ _ (shp_sr _ _ (by assumption)))) rfl rfl ?_ ?_ <;> omega) | (exact shp_sr _ _ (by assumption)) | (exact shp_sr _ _ (shp_sr _ _ (by assumption))) | (exact shp_sr _ _ (shp_sr _ _ (shp_sr _ _ (by assumption)))) | (left; assumption) | (exact b2i_or _) | (simp; done)) only [e69_0, e69_1, e69_2, e69_5, e69_8, e69_10, e69_11, e69_12, e69_13, e69_16, e69_19, e69_20, e69_23, e69_24, eq_self, ne_a, ne_b, ne_c, Nat.reduceEqDiff, lt0, bnd_ok, psh_I, psh_L, psh_R, psh_U, gt_sr, gr_sr, sk_sr, nn_sr, ↓reduceIte, Int.toNat_natCast, Int.reduceToNat, q1]
/-- the first cut of a cell from the k-th on that leaves nothing -/
def cuF (t : Nat → Int) (x S : Nat) : Nat → Nat → Int
  | 0, _ => -6
  | m + 1, c => if x.testBit c = true ∧ (t c).toNat ^^^ S < (t c).toNat then 10 * (c : Int) + (((t c).toNat ^^^ S : Nat) : Int) else cuF t x S m (c + 1)
def x_cut (d : Dat) (z : Int) : Int := if 0 ≤ z ∧ z ≤ ((2 ^ dn_ d : Nat) : Int) - 1 then cuF (dt d) z.toNat (nx (dt d) z.toNat (dn_ d)) (dn_ d) 0 else -2
set_option maxRecDepth 100000 in
set_option maxHeartbeats 4000000 in
theorem c_Fcut (z : Int) (d : Dat) (cn : Nat) (sg : Nat → Int) : cla 72 [vR 1, vI z, vU, vU, vU, vU] d cn sg (vI (x_cut d z)) d cn sg := by
  intro σ h
  have q1 := c_isSet h z
  have hp := pow24 (dn24 h.2.2.1)
  have hs0 := h.1.1
  refine ⟨σ, ?_, CS_rf h⟩
  unfold x_cut
  generalize hP : 2 ^ dn_ d = P at *
  by_cases h1 : 0 ≤ z ∧ z ≤ (P : Int) - 1
  · rw [if_pos h1] at q1 ⊢
    obtain ⟨x, rfl⟩ := nat_of h1.1
    rw [Int.toNat_natCast]
    have hx : x < 2147483648 := by omega
    have q2 := c_nimSum h hx
    obtain ⟨⟨a1, a2, a3, a4⟩, a5, a6, a7⟩ := id h
    have h24 := dn24 a6
    have d2 : gt σ 2 2 = ((dn_ d : Nat) : Int) := a5.2.1.2.2.1
    have i3 := shp_ia (k := 3) (n := 24) a1 (by decide)
    have e6 : gt σ 3 = dt d := a5.2.2.2.2.2.1
    have ht := ok_t a6
    have hlt := nx_lt ht x (dn_ d) h24
    clear a2 a3 a4 a5 a6 a7 h
    generalize hS : nx (dt d) x (dn_ d) = S at *
    have L : ∀ q4 q5, run 72 19 [vR 1, vI (x : Int), vI (S : Int), vI 0, q4, q5] [] σ = some (vI (cuF (dt d) x S (dn_ d - 0) 0), σ) := by
      refine bk (P := fun k z => ∀ q4 q5, run 72 19 [vR 1, vI (x : Int), vI (S : Int), vI z, q4, q5] [] σ = some (vI (cuF (dt d) x S (dn_ d - k) k), σ)) (n := dn_ d) ?_ ?_
      · intro q4 q5
        have h4 : ¬ ((dn_ d : Nat) : Int) < (dn_ d : Int) := by omega
        rw [e72_19]
        simp (disch := first | assumption | omega | (exact shp_fok (by first | assumption | exact shp_sr _ _ (by assumption) | exact shp_sr _ _ (shp_sr _ _ (by assumption)) | exact shp_sr _ _ (shp_sr _ _ (shp_sr _ _ (by assumption)))) (by decide)) | (simp only [fok_sr, aok_sr]; first | assumption | (exact shp_fok (by first | assumption | exact shp_sr _ _ (by assumption) | exact shp_sr _ _ (shp_sr _ _ (by assumption)) | exact shp_sr _ _ (shp_sr _ _ (shp_sr _ _ (by assumption)))) (by decide))) | (refine shp_aok (by first | assumption | exact shp_sr _ _ (by assumption) | exact shp_sr _ _ (shp_sr _ _ (by assumption)) | exact shp_sr _ _ (shp_sr _ _ (shp_sr _ _ (by assumption)))) rfl rfl ?_ ?_ <;> omega) | (exact shp_sr _ _ (by assumption)) | (exact shp_sr _ _ (shp_sr _ _ (by assumption))) | (exact shp_sr _ _ (shp_sr _ _ (shp_sr _ _ (by assumption)))) | (left; assumption) | (exact b2i_or _) | (simp; done)) only [e72_0, e72_1, e72_2, e72_5, e72_8, e72_10, e72_11, e72_12, e72_13, e72_16, e72_17, e72_18, e72_20, e72_21, e72_24, e72_27, e72_30, e72_31, e72_34, e72_37, e72_38, e72_41, e72_43, e72_45, e72_46, e72_47, e72_49, e72_50, e72_51, e72_52, e72_53, e72_54, e72_55, e72_58, e72_60, e72_62, e72_65, e72_67, e72_68, e72_69, e72_71, e72_72, e72_73, e72_76, e72_79, e72_81, eq_self, ne_a, ne_b, ne_c, Nat.reduceEqDiff, lt0, bnd_ok, psh_I, psh_L, psh_R, psh_U, gt_sr, gr_sr, sk_sr, nn_sr, ↓reduceIte, Int.toNat_natCast, Int.reduceToNat, g1_0, d2, h4]
        rw [Nat.sub_self]
        rfl
      · intro k hk hk' ih q4 q5
        have at1 := c_atN i3 (show k < 24 by omega)
        rw [e6] at at1
        have w5 : wr ((k : Int) + 1) = (k : Int) + 1 := wr_id (by omega) (by omega)
        have w6 := bit_N (a := x) (k := k) hx (by omega)
        have e3 : cuF (dt d) x S (dn_ d - k) k = if x.testBit k = true ∧ (dt d k).toNat ^^^ S < (dt d k).toNat then 10 * (k : Int) + (((dt d k).toNat ^^^ S : Nat) : Int) else cuF (dt d) x S (dn_ d - (k + 1)) (k + 1) := by
          rw [show dn_ d - k = (dn_ d - (k + 1)) + 1 by omega]
          rfl
        have b1 := ht k (by omega)
        rw [e3]
        obtain ⟨v, hv⟩ := nat_of b1.1
        rw [hv, Int.toNat_natCast]
        have o1 := bXor_N (a := v) (b := S) (by omega) (by omega)
        have hxs : v ^^^ S < 16 := Nat.xor_lt_two_pow (n := 4) (by omega) (by omega)
        generalize v ^^^ S = Y at *
        have w7 : wr (wr (10 * (k : Int)) + (Y : Int)) = 10 * (k : Int) + (Y : Int) := by
          rw [wr_id (z := 10 * (k : Int)) (by omega) (by omega), wr_id (by omega) (by omega)]
        rw [e72_19]
        cases hb : x.testBit k with
        | true =>
          have e9 : bt x k = 1 := by unfold bt; rw [hb, if_pos rfl]
          by_cases h5 : Y < v
          · rw [if_pos ⟨rfl, h5⟩]
            have h6 : (Y : Int) < (v : Int) := by omega
            simp (disch := first | assumption | omega | (exact shp_fok (by first | assumption | exact shp_sr _ _ (by assumption) | exact shp_sr _ _ (shp_sr _ _ (by assumption)) | exact shp_sr _ _ (shp_sr _ _ (shp_sr _ _ (by assumption)))) (by decide)) | (simp only [fok_sr, aok_sr]; first | assumption | (exact shp_fok (by first | assumption | exact shp_sr _ _ (by assumption) | exact shp_sr _ _ (shp_sr _ _ (by assumption)) | exact shp_sr _ _ (shp_sr _ _ (shp_sr _ _ (by assumption)))) (by decide))) | (refine shp_aok (by first | assumption | exact shp_sr _ _ (by assumption) | exact shp_sr _ _ (shp_sr _ _ (by assumption)) | exact shp_sr _ _ (shp_sr _ _ (shp_sr _ _ (by assumption)))) rfl rfl ?_ ?_ <;> omega) | (exact shp_sr _ _ (by assumption)) | (exact shp_sr _ _ (shp_sr _ _ (by assumption))) | (exact shp_sr _ _ (shp_sr _ _ (shp_sr _ _ (by assumption)))) | (left; assumption) | (exact b2i_or _) | (simp; done)) only [e72_0, e72_1, e72_2, e72_5, e72_8, e72_10, e72_11, e72_12, e72_13, e72_16, e72_17, e72_18, e72_20, e72_21, e72_24, e72_27, e72_30, e72_31, e72_34, e72_37, e72_38, e72_41, e72_43, e72_45, e72_46, e72_47, e72_49, e72_50, e72_51, e72_52, e72_53, e72_54, e72_55, e72_58, e72_60, e72_62, e72_65, e72_67, e72_68, e72_69, e72_71, e72_72, e72_73, e72_76, e72_79, e72_81, eq_self, ne_a, ne_b, ne_c, Nat.reduceEqDiff, lt0, bnd_ok, psh_I, psh_L, psh_R, psh_U, gt_sr, gr_sr, sk_sr, nn_sr, ↓reduceIte, Int.toNat_natCast, Int.reduceToNat, g1_0, g2_6, d2, hk', at1, hv, o1, w6, e9, h6, w7]
          · rw [if_neg (fun h => h5 h.2)]
            have h6 : ¬ (Y : Int) < (v : Int) := by omega
            simp (disch := first | assumption | omega | (exact shp_fok (by first | assumption | exact shp_sr _ _ (by assumption) | exact shp_sr _ _ (shp_sr _ _ (by assumption)) | exact shp_sr _ _ (shp_sr _ _ (shp_sr _ _ (by assumption)))) (by decide)) | (simp only [fok_sr, aok_sr]; first | assumption | (exact shp_fok (by first | assumption | exact shp_sr _ _ (by assumption) | exact shp_sr _ _ (shp_sr _ _ (by assumption)) | exact shp_sr _ _ (shp_sr _ _ (shp_sr _ _ (by assumption)))) (by decide))) | (refine shp_aok (by first | assumption | exact shp_sr _ _ (by assumption) | exact shp_sr _ _ (shp_sr _ _ (by assumption)) | exact shp_sr _ _ (shp_sr _ _ (shp_sr _ _ (by assumption)))) rfl rfl ?_ ?_ <;> omega) | (exact shp_sr _ _ (by assumption)) | (exact shp_sr _ _ (shp_sr _ _ (by assumption))) | (exact shp_sr _ _ (shp_sr _ _ (shp_sr _ _ (by assumption)))) | (left; assumption) | (exact b2i_or _) | (simp; done)) only [e72_0, e72_1, e72_2, e72_5, e72_8, e72_10, e72_11, e72_12, e72_13, e72_16, e72_17, e72_18, e72_20, e72_21, e72_24, e72_27, e72_30, e72_31, e72_34, e72_37, e72_38, e72_41, e72_43, e72_45, e72_46, e72_47, e72_49, e72_50, e72_51, e72_52, e72_53, e72_54, e72_55, e72_58, e72_60, e72_62, e72_65, e72_67, e72_68, e72_69, e72_71, e72_72, e72_73, e72_76, e72_79, e72_81, eq_self, ne_a, ne_b, ne_c, Nat.reduceEqDiff, lt0, bnd_ok, psh_I, psh_L, psh_R, psh_U, gt_sr, gr_sr, sk_sr, nn_sr, ↓reduceIte, Int.toNat_natCast, Int.reduceToNat, g1_0, g2_6, d2, hk', at1, hv, o1, w6, e9, h6, w5]
            exact ih _ _
        | false =>
          have e9 : bt x k = 0 := by unfold bt; rw [hb]; rfl
          rw [if_neg (fun h => Bool.false_ne_true h.1)]
          simp (disch := first | assumption | omega | (exact shp_fok (by first | assumption | exact shp_sr _ _ (by assumption) | exact shp_sr _ _ (shp_sr _ _ (by assumption)) | exact shp_sr _ _ (shp_sr _ _ (shp_sr _ _ (by assumption)))) (by decide)) | (simp only [fok_sr, aok_sr]; first | assumption | (exact shp_fok (by first | assumption | exact shp_sr _ _ (by assumption) | exact shp_sr _ _ (shp_sr _ _ (by assumption)) | exact shp_sr _ _ (shp_sr _ _ (shp_sr _ _ (by assumption)))) (by decide))) | (refine shp_aok (by first | assumption | exact shp_sr _ _ (by assumption) | exact shp_sr _ _ (shp_sr _ _ (by assumption)) | exact shp_sr _ _ (shp_sr _ _ (shp_sr _ _ (by assumption)))) rfl rfl ?_ ?_ <;> omega) | (exact shp_sr _ _ (by assumption)) | (exact shp_sr _ _ (shp_sr _ _ (by assumption))) | (exact shp_sr _ _ (shp_sr _ _ (shp_sr _ _ (by assumption)))) | (left; assumption) | (exact b2i_or _) | (simp; done)) only [e72_0, e72_1, e72_2, e72_5, e72_8, e72_10, e72_11, e72_12, e72_13, e72_16, e72_17, e72_18, e72_20, e72_21, e72_24, e72_27, e72_30, e72_31, e72_34, e72_37, e72_38, e72_41, e72_43, e72_45, e72_46, e72_47, e72_49, e72_50, e72_51, e72_52, e72_53, e72_54, e72_55, e72_58, e72_60, e72_62, e72_65, e72_67, e72_68, e72_69, e72_71, e72_72, e72_73, e72_76, e72_79, e72_81, eq_self, ne_a, ne_b, ne_c, Nat.reduceEqDiff, lt0, bnd_ok, psh_I, psh_L, psh_R, psh_U, gt_sr, gr_sr, sk_sr, nn_sr, ↓reduceIte, Int.toNat_natCast, Int.reduceToNat, g1_0, g2_6, d2, hk', at1, hv, o1, w6, e9, w5, Int.reduceEq]
          exact ih _ _
    have h0 := L vU vU
    rw [Nat.sub_zero] at h0
    simp (disch := first | assumption | omega | (exact shp_fok (by first | assumption | exact shp_sr _ _ (by assumption) | exact shp_sr _ _ (shp_sr _ _ (by assumption)) | exact shp_sr _ _ (shp_sr _ _ (shp_sr _ _ (by assumption)))) (by decide)) | (simp only [fok_sr, aok_sr]; first | assumption | (exact shp_fok (by first | assumption | exact shp_sr _ _ (by assumption) | exact shp_sr _ _ (shp_sr _ _ (by assumption)) | exact shp_sr _ _ (shp_sr _ _ (shp_sr _ _ (by assumption)))) (by decide))) | (refine shp_aok (by first | assumption | exact shp_sr _ _ (by assumption) | exact shp_sr _ _ (shp_sr _ _ (by assumption)) | exact shp_sr _ _ (shp_sr _ _ (shp_sr _ _ (by assumption)))) rfl rfl ?_ ?_ <;> omega) | (exact shp_sr _ _ (by assumption)) | (exact shp_sr _ _ (shp_sr _ _ (by assumption))) | (exact shp_sr _ _ (shp_sr _ _ (shp_sr _ _ (by assumption)))) | (left; assumption) | (exact b2i_or _) | (simp; done)) only [e72_0, e72_1, e72_2, e72_5, e72_8, e72_10, e72_11, e72_12, e72_13, e72_16, e72_17, e72_18, e72_20, e72_21, e72_24, e72_27, e72_30, e72_31, e72_34, e72_37, e72_38, e72_41, e72_43, e72_45, e72_46, e72_47, e72_49, e72_50, e72_51, e72_52, e72_53, e72_54, e72_55, e72_58, e72_60, e72_62, e72_65, e72_67, e72_68, e72_69, e72_71, e72_72, e72_73, e72_76, e72_79, e72_81, eq_self, ne_a, ne_b, ne_c, Nat.reduceEqDiff, lt0, bnd_ok, psh_I, psh_L, psh_R, psh_U, gt_sr, gr_sr, sk_sr, nn_sr, ↓reduceIte, Int.toNat_natCast, Int.reduceToNat, q1, q2, Int.reduceEq]
    exact h0
  · rw [if_neg h1] at q1 ⊢
    simp (disch := first | assumption | omega | (exact shp_fok (by first | assumption | exact shp_sr _ _ (by assumption) | exact shp_sr _ _ (shp_sr _ _ (by assumption)) | exact shp_sr _ _ (shp_sr _ _ (shp_sr _ _ (by assumption)))) (by decide)) | (simp only [fok_sr, aok_sr]; first | assumption | (exact shp_fok (by first | assumption | exact shp_sr _ _ (by assumption) | exact shp_sr _ _ (shp_sr _ _ (by assumption)) | exact shp_sr _ _ (shp_sr _ _ (shp_sr _ _ (by assumption)))) (by decide))) | (refine shp_aok (by first | assumption | exact shp_sr _ _ (by assumption) | exact shp_sr _ _ (shp_sr _ _ (by assumption)) | exact shp_sr _ _ (shp_sr _ _ (shp_sr _ _ (by assumption)))) rfl rfl ?_ ?_ <;> omega) | (exact shp_sr _ _ (by assumption)) | (exact shp_sr _ _ (shp_sr _ _ (by assumption))) | (exact shp_sr _ _ (shp_sr _ _ (shp_sr _ _ (by assumption)))) | (left; assumption) | (exact b2i_or _) | (simp; done)) only [e72_0, e72_1, e72_2, e72_5, e72_8, e72_10, e72_11, e72_12, e72_13, e72_16, e72_17, e72_18, e72_20, e72_21, e72_24, e72_27, e72_30, e72_31, e72_34, e72_37, e72_38, e72_41, e72_43, e72_45, e72_46, e72_47, e72_49, e72_50, e72_51, e72_52, e72_53, e72_54, e72_55, e72_58, e72_60, e72_62, e72_65, e72_67, e72_68, e72_69, e72_71, e72_72, e72_73, e72_76, e72_79, e72_81, eq_self, ne_a, ne_b, ne_c, Nat.reduceEqDiff, lt0, bnd_ok, psh_I, psh_L, psh_R, psh_U, gt_sr, gr_sr, sk_sr, nn_sr, ↓reduceIte, Int.toNat_natCast, Int.reduceToNat, q1]
def setI (d : Dat) (i : Nat) (sc sn : Nat → Int) : Dat := (dR d, dC d, dfe d, dsl d, i, dt d, dla d, dwa d, sc, sn)
noncomputable def x_seen (d : Dat) (c v : Int) : Int := if 0 ≤ c ∧ c < (dn_ d : Nat) then (if 0 ≤ v ∧ v ≤ 9 then (if dsi d = 8 then -4 else ((dsi d + 1 : Nat) : Int)) else -2) else -1
noncomputable def d_seen (d : Dat) (c v : Int) : Dat := if 0 ≤ c ∧ c < (dn_ d : Nat) then (if 0 ≤ v ∧ v ≤ 9 then (if dsi d = 8 then d else setI d (dsi d + 1) (ru (dsc d) (dsi d) c) (ru (dsn d) (dsi d) v)) else d) else d
theorem ok_seen {d : Dat} (h : okd d) {c v : Int} (hc : 0 ≤ c ∧ c < (dn_ d : Nat)) (hv : 0 ≤ v ∧ v ≤ 9) (h8 : dsi d < 8) : okd (setI d (dsi d + 1) (ru (dsc d) (dsi d) c) (ru (dsn d) (dsi d) v)) := by
  obtain ⟨o1, o2, o3, o4, o5, o6, o7, o8, o9, o10, o11, o12, o13, o14⟩ := h
  refine ⟨o1, o2, o3, (show dsi d + 1 ≤ 8 by omega), o5, o6, o7, o8, o9, o10, zr_ru o11 h8 _, zr_ru o12 h8 _, o13, ?_⟩
  intro i hi
  have hi' : i < dsi d + 1 := hi
  show (0 ≤ ru (dsc d) (dsi d) c i ∧ ru (dsc d) (dsi d) c i < (dn_ d : Nat)) ∧ (0 ≤ ru (dsn d) (dsi d) v i ∧ ru (dsn d) (dsi d) v i ≤ 9)
  unfold ru
  by_cases e : i = dsi d
  · rw [if_pos e, if_pos e]; exact ⟨hc, hv⟩
  · rw [if_neg e, if_neg e]; exact o14 i (by omega)
set_option maxRecDepth 100000 in
set_option maxHeartbeats 4000000 in
theorem c_Fseen (c v : Int) (d : Dat) (cn : Nat) (sg : Nat → Int) : cla 73 [vR 1, vI c, vI v] d cn sg (vI (x_seen d c v)) (d_seen d c v) cn sg := by
  intro σ h
  obtain ⟨⟨a1, a2, a3, a4⟩, a5, a6, a7⟩ := id h
  obtain ⟨b1, b2, b3, b4, b5, b6, b7, b8, b9, b10, b11⟩ := id a5
  have hh := c_hasR a5 c
  have h8 := a6.2.2.2.1
  unfold x_seen d_seen
  by_cases h1 : 0 ≤ c ∧ c < (dn_ d : Nat)
  · rw [if_pos h1] at hh
    rw [if_pos h1, if_pos h1]
    by_cases h2 : 0 ≤ v ∧ v ≤ 9
    · rw [if_pos h2, if_pos h2]
      by_cases h3 : dsi d = 8
      · rw [if_pos h3, if_pos h3]
        refine ⟨σ, ?_, CS_rf h⟩
        have h4 : ¬ (dsi d : Int) < 8 := by omega
        simp (disch := first | assumption | omega | (exact shp_fok (by first | assumption | exact shp_sr _ _ (by assumption) | exact shp_sr _ _ (shp_sr _ _ (by assumption)) | exact shp_sr _ _ (shp_sr _ _ (shp_sr _ _ (by assumption)))) (by decide)) | (simp only [fok_sr, aok_sr]; first | assumption | (exact shp_fok (by first | assumption | exact shp_sr _ _ (by assumption) | exact shp_sr _ _ (shp_sr _ _ (by assumption)) | exact shp_sr _ _ (shp_sr _ _ (shp_sr _ _ (by assumption)))) (by decide))) | (refine shp_aok (by first | assumption | exact shp_sr _ _ (by assumption) | exact shp_sr _ _ (shp_sr _ _ (by assumption)) | exact shp_sr _ _ (shp_sr _ _ (shp_sr _ _ (by assumption)))) rfl rfl ?_ ?_ <;> omega) | (exact shp_sr _ _ (by assumption)) | (exact shp_sr _ _ (shp_sr _ _ (by assumption))) | (exact shp_sr _ _ (shp_sr _ _ (shp_sr _ _ (by assumption)))) | (left; assumption) | (exact b2i_or _) | (simp; done)) only [e73_0, e73_1, e73_4, e73_5, e73_8, e73_11, e73_12, e73_13, e73_14, e73_15, e73_17, e73_20, e73_23, e73_25, e73_26, e73_27, e73_30, e73_33, e73_35, e73_38, e73_40, e73_41, e73_42, e73_45, e73_48, e73_49, e73_52, e73_55, e73_56, e73_59, e73_60, e73_63, e73_66, e73_67, e73_70, e73_73, e73_74, e73_77, e73_78, e73_81, e73_82, e73_85, e73_86, e73_87, e73_90, e73_91, e73_94, e73_97, eq_self, ne_a, ne_b, ne_c, Nat.reduceEqDiff, lt0, bnd_ok, psh_I, psh_L, psh_R, psh_U, gt_sr, gr_sr, sk_sr, nn_sr, ↓reduceIte, Int.toNat_natCast, Int.reduceToNat, g1_0, hh, c_isWithin, if_pos h2, b5, h4, Int.reduceEq]
      · rw [if_neg h3, if_neg h3]
        have h4 : (dsi d : Int) < 8 := by omega
        have e8 : gt σ 8 = dsc d := b10
        have e9 : gt σ 9 = dsn d := b11
        have p1 := c_putN (shp_ia (k := 8) (n := 8) a1 (by decide)) (j := dsi d) (by omega) c
        have p2 := c_putN (σ := sr σ 8 (ru (dsc d) (dsi d) c)) (shp_ia (k := 9) (n := 8) (σ := sr σ 8 (ru (dsc d) (dsi d) c)) a1 (by decide)) (j := dsi d) (by omega) v
        rw [e8] at p1
        rw [gt_n _ _ (by decide), e9] at p2
        have w1 : wr ((dsi d : Int) + 1) = ((dsi d + 1 : Nat) : Int) := by rw [wr_id (by omega) (by omega)]; omega
        have cA : chg [8, 9, 2] σ (sr (sr (sr σ 8 (ru (dsc d) (dsi d) c)) 9 (ru (dsn d) (dsi d) v)) 2 (ru (gt σ 2) 5 ((dsi d + 1 : Nat) : Int))) := chg_sr (chg_sr (chg_sr (chg_rf _ _) (by simp)) (by simp)) (by simp)
        refine ⟨sr (sr (sr σ 8 (ru (dsc d) (dsi d) c)) 9 (ru (dsn d) (dsi d) v)) 2 (ru (gt σ 2) 5 ((dsi d + 1 : Nat) : Int)), ?_, SC_mo cA rfl, CS_now h cA (by simp) ⟨b1, ?_, ?_, ?_, ?_, b6, b7, b8, b9, rfl, rfl⟩ (ok_seen a6 h1 h2 (by omega))⟩
        · simp (disch := first | assumption | omega | (exact shp_fok (by first | assumption | exact shp_sr _ _ (by assumption) | exact shp_sr _ _ (shp_sr _ _ (by assumption)) | exact shp_sr _ _ (shp_sr _ _ (shp_sr _ _ (by assumption)))) (by decide)) | (simp only [fok_sr, aok_sr]; first | assumption | (exact shp_fok (by first | assumption | exact shp_sr _ _ (by assumption) | exact shp_sr _ _ (shp_sr _ _ (by assumption)) | exact shp_sr _ _ (shp_sr _ _ (shp_sr _ _ (by assumption)))) (by decide))) | (refine shp_aok (by first | assumption | exact shp_sr _ _ (by assumption) | exact shp_sr _ _ (shp_sr _ _ (by assumption)) | exact shp_sr _ _ (shp_sr _ _ (shp_sr _ _ (by assumption)))) rfl rfl ?_ ?_ <;> omega) | (exact shp_sr _ _ (by assumption)) | (exact shp_sr _ _ (shp_sr _ _ (by assumption))) | (exact shp_sr _ _ (shp_sr _ _ (shp_sr _ _ (by assumption)))) | (left; assumption) | (exact b2i_or _) | (simp; done)) only [e73_0, e73_1, e73_4, e73_5, e73_8, e73_11, e73_12, e73_13, e73_14, e73_15, e73_17, e73_20, e73_23, e73_25, e73_26, e73_27, e73_30, e73_33, e73_35, e73_38, e73_40, e73_41, e73_42, e73_45, e73_48, e73_49, e73_52, e73_55, e73_56, e73_59, e73_60, e73_63, e73_66, e73_67, e73_70, e73_73, e73_74, e73_77, e73_78, e73_81, e73_82, e73_85, e73_86, e73_87, e73_90, e73_91, e73_94, e73_97, eq_self, ne_a, ne_b, ne_c, Nat.reduceEqDiff, lt0, bnd_ok, psh_I, psh_L, psh_R, psh_U, gt_sr, gr_sr, sk_sr, nn_sr, ↓reduceIte, Int.toNat_natCast, Int.reduceToNat, g1_0, g2_11, g2_12, hh, c_isWithin, if_pos h2, b5, h4, p1, p2, w1, ru_e, Int.reduceEq]
        · unfold dim
          rw [gt_e]
          simp only [ru, Nat.reduceEqDiff, ↓reduceIte]
          exact b2
        · rw [gt_e, ru_n _ _ (by decide)]; exact b3
        · rw [gt_e, ru_n _ _ (by decide)]; exact b4
        · rw [gt_e, ru_e]; rfl
    · rw [if_neg h2, if_neg h2]
      refine ⟨σ, ?_, CS_rf h⟩
      simp (disch := first | assumption | omega | (exact shp_fok (by first | assumption | exact shp_sr _ _ (by assumption) | exact shp_sr _ _ (shp_sr _ _ (by assumption)) | exact shp_sr _ _ (shp_sr _ _ (shp_sr _ _ (by assumption)))) (by decide)) | (simp only [fok_sr, aok_sr]; first | assumption | (exact shp_fok (by first | assumption | exact shp_sr _ _ (by assumption) | exact shp_sr _ _ (shp_sr _ _ (by assumption)) | exact shp_sr _ _ (shp_sr _ _ (shp_sr _ _ (by assumption)))) (by decide))) | (refine shp_aok (by first | assumption | exact shp_sr _ _ (by assumption) | exact shp_sr _ _ (shp_sr _ _ (by assumption)) | exact shp_sr _ _ (shp_sr _ _ (shp_sr _ _ (by assumption)))) rfl rfl ?_ ?_ <;> omega) | (exact shp_sr _ _ (by assumption)) | (exact shp_sr _ _ (shp_sr _ _ (by assumption))) | (exact shp_sr _ _ (shp_sr _ _ (shp_sr _ _ (by assumption)))) | (left; assumption) | (exact b2i_or _) | (simp; done)) only [e73_0, e73_1, e73_4, e73_5, e73_8, e73_11, e73_12, e73_13, e73_14, e73_15, e73_17, e73_20, e73_23, e73_25, e73_26, e73_27, e73_30, e73_33, e73_35, e73_38, e73_40, e73_41, e73_42, e73_45, e73_48, e73_49, e73_52, e73_55, e73_56, e73_59, e73_60, e73_63, e73_66, e73_67, e73_70, e73_73, e73_74, e73_77, e73_78, e73_81, e73_82, e73_85, e73_86, e73_87, e73_90, e73_91, e73_94, e73_97, eq_self, ne_a, ne_b, ne_c, Nat.reduceEqDiff, lt0, bnd_ok, psh_I, psh_L, psh_R, psh_U, gt_sr, gr_sr, sk_sr, nn_sr, ↓reduceIte, Int.toNat_natCast, Int.reduceToNat, g1_0, hh, c_isWithin, if_neg h2, Int.reduceEq]
  · rw [if_neg h1] at hh
    rw [if_neg h1, if_neg h1]
    refine ⟨σ, ?_, CS_rf h⟩
    simp (disch := first | assumption | omega | (exact shp_fok (by first | assumption | exact shp_sr _ _ (by assumption) | exact shp_sr _ _ (shp_sr _ _ (by assumption)) | exact shp_sr _ _ (shp_sr _ _ (shp_sr _ _ (by assumption)))) (by decide)) | (simp only [fok_sr, aok_sr]; first | assumption | (exact shp_fok (by first | assumption | exact shp_sr _ _ (by assumption) | exact shp_sr _ _ (shp_sr _ _ (by assumption)) | exact shp_sr _ _ (shp_sr _ _ (shp_sr _ _ (by assumption)))) (by decide))) | (refine shp_aok (by first | assumption | exact shp_sr _ _ (by assumption) | exact shp_sr _ _ (shp_sr _ _ (by assumption)) | exact shp_sr _ _ (shp_sr _ _ (shp_sr _ _ (by assumption)))) rfl rfl ?_ ?_ <;> omega) | (exact shp_sr _ _ (by assumption)) | (exact shp_sr _ _ (shp_sr _ _ (by assumption))) | (exact shp_sr _ _ (shp_sr _ _ (shp_sr _ _ (by assumption)))) | (left; assumption) | (exact b2i_or _) | (simp; done)) only [e73_0, e73_1, e73_4, e73_5, e73_8, e73_11, e73_12, e73_13, e73_14, e73_15, e73_17, e73_20, e73_23, e73_25, e73_26, e73_27, e73_30, e73_33, e73_35, e73_38, e73_40, e73_41, e73_42, e73_45, e73_48, e73_49, e73_52, e73_55, e73_56, e73_59, e73_60, e73_63, e73_66, e73_67, e73_70, e73_73, e73_74, e73_77, e73_78, e73_81, e73_82, e73_85, e73_86, e73_87, e73_90, e73_91, e73_94, e73_97, eq_self, ne_a, ne_b, ne_c, Nat.reduceEqDiff, lt0, bnd_ok, psh_I, psh_L, psh_R, psh_U, gt_sr, gr_sr, sk_sr, nn_sr, ↓reduceIte, Int.toNat_natCast, Int.reduceToNat, g1_0, hh]
theorem ok_forget {d : Dat} (h : okd d) : okd (setI d 0 (dsc d) (dsn d)) := by
  obtain ⟨o1, o2, o3, o4, o5, o6, o7, o8, o9, o10, o11, o12, o13, o14⟩ := h
  exact ⟨o1, o2, o3, Nat.zero_le _, o5, o6, o7, o8, o9, o10, o11, o12, o13, fun i hi => absurd hi (Nat.not_lt_zero i)⟩
set_option maxRecDepth 100000 in
set_option maxHeartbeats 4000000 in
theorem c_Fforget (d : Dat) (cn : Nat) (sg : Nat → Int) : cla 74 [vR 1, vU] d cn sg (vI (dsi d : Nat)) (setI d 0 (dsc d) (dsn d)) cn sg := by
  intro σ h
  obtain ⟨⟨a1, a2, a3, a4⟩, a5, a6, a7⟩ := id h
  obtain ⟨b1, b2, b3, b4, b5, b6, b7, b8, b9, b10, b11⟩ := id a5
  have cA : chg [2] σ (sr σ 2 (ru (gt σ 2) 5 0)) := chg_sr (chg_rf _ _) (by simp)
  refine ⟨sr σ 2 (ru (gt σ 2) 5 0), ?_, SC_mo cA rfl, CS_now h cA (by simp) ⟨b1, ?_, ?_, ?_, ?_, b6, b7, b8, b9, b10, b11⟩ (ok_forget a6)⟩
  · simp (disch := first | assumption | omega | (exact shp_fok (by first | assumption | exact shp_sr _ _ (by assumption) | exact shp_sr _ _ (shp_sr _ _ (by assumption)) | exact shp_sr _ _ (shp_sr _ _ (shp_sr _ _ (by assumption)))) (by decide)) | (simp only [fok_sr, aok_sr]; first | assumption | (exact shp_fok (by first | assumption | exact shp_sr _ _ (by assumption) | exact shp_sr _ _ (shp_sr _ _ (by assumption)) | exact shp_sr _ _ (shp_sr _ _ (shp_sr _ _ (by assumption)))) (by decide))) | (refine shp_aok (by first | assumption | exact shp_sr _ _ (by assumption) | exact shp_sr _ _ (shp_sr _ _ (by assumption)) | exact shp_sr _ _ (shp_sr _ _ (shp_sr _ _ (by assumption)))) rfl rfl ?_ ?_ <;> omega) | (exact shp_sr _ _ (by assumption)) | (exact shp_sr _ _ (shp_sr _ _ (by assumption))) | (exact shp_sr _ _ (shp_sr _ _ (shp_sr _ _ (by assumption)))) | (left; assumption) | (exact b2i_or _) | (simp; done)) only [e74_0, e74_1, e74_4, e74_7, e74_8, e74_9, e74_12, e74_13, e74_16, e74_17, eq_self, ne_a, ne_b, ne_c, Nat.reduceEqDiff, lt0, bnd_ok, psh_I, psh_L, psh_R, psh_U, gt_sr, gr_sr, sk_sr, nn_sr, ↓reduceIte, Int.toNat_natCast, Int.reduceToNat, g1_0, b5]
  · unfold dim
    rw [gt_e]
    simp only [ru, Nat.reduceEqDiff, ↓reduceIte]
    exact b2
  · rw [gt_e, ru_n _ _ (by decide)]; exact b3
  · rw [gt_e, ru_n _ _ (by decide)]; exact b4
  · rw [gt_e, ru_e]; rfl
noncomputable def x_told (d : Dat) (cn : Nat) (w : Int) : Int :=
  if w = 0 then (cn : Int) else if w = 1 then (dR d : Int) else if w = 2 then (dC d : Int) else if w = 3 then dfe d else if w = 4 then dsl d else if w = 5 then (lbD d : Int) else if w = 6 then (dsi d : Int) else if w = 7 then suD d else
  if (0 ≤ w.tdiv 100 - 1 ∧ w.tdiv 100 - 1 ≤ 3) ∧ (0 ≤ w.tmod 100 ∧ w.tmod 100 < (dn_ d : Nat)) then dwa d ((w.tdiv 100 - 1).toNat * 24 + (w.tmod 100).toNat) else -2
set_option maxRecDepth 100000 in
set_option maxHeartbeats 4000000 in
theorem c_Ftold (w : Int) (hw : -2147483648 ≤ w ∧ w < 2147483648) (d : Dat) (cn : Nat) (sg : Nat → Int) : cla 88 [vR 1, vI w, vU, vU] d cn sg (vI (x_told d cn w)) d cn sg := by
  intro σ h
  obtain ⟨⟨a1, a2, a3, a4⟩, a5, a6, a7⟩ := id h
  obtain ⟨b1, ⟨d0, d1, d2, -⟩, b3, b4, b5, b6, b7, b8, b9, b10, b11⟩ := id a5
  refine ⟨σ, ?_, CS_rf h⟩
  have h24 := dn24 a6
  have e1 := c_lampBitsR a5 a6
  have e2 := c_togetherR a5 a6
  have e3 := c_hasR a5 (w.tmod 100)
  have e4 := fun (s c : Nat) h1 h2 => c_wantsR a5 (s := s) (c := c) h1 h2
  clear h a3 a4 a5 a6 a7 b6 b7 b8 b9 b10 b11
  unfold x_told
  rw [e88_0, e88_1]
  simp only [sw_cons, sw_nil]
  by_cases k0 : w = 0
  · subst k0; simp (disch := first | assumption | omega | (exact shp_fok (by first | assumption | exact shp_sr _ _ (by assumption) | exact shp_sr _ _ (shp_sr _ _ (by assumption)) | exact shp_sr _ _ (shp_sr _ _ (shp_sr _ _ (by assumption)))) (by decide)) | (simp only [fok_sr, aok_sr]; first | assumption | (exact shp_fok (by first | assumption | exact shp_sr _ _ (by assumption) | exact shp_sr _ _ (shp_sr _ _ (by assumption)) | exact shp_sr _ _ (shp_sr _ _ (shp_sr _ _ (by assumption)))) (by decide))) | (refine shp_aok (by first | assumption | exact shp_sr _ _ (by assumption) | exact shp_sr _ _ (shp_sr _ _ (by assumption)) | exact shp_sr _ _ (shp_sr _ _ (shp_sr _ _ (by assumption)))) rfl rfl ?_ ?_ <;> omega) | (exact shp_sr _ _ (by assumption)) | (exact shp_sr _ _ (shp_sr _ _ (by assumption))) | (exact shp_sr _ _ (shp_sr _ _ (shp_sr _ _ (by assumption)))) | (left; assumption) | (exact b2i_or _) | (simp; done)) only [e88_48, e88_49, e88_52, e88_55, e88_56, e88_57, e88_60, e88_63, e88_64, e88_65, e88_68, e88_71, e88_72, e88_73, e88_76, e88_79, e88_80, e88_81, e88_84, e88_87, e88_88, e88_89, e88_92, e88_95, e88_96, e88_97, e88_100, e88_103, e88_104, e88_105, e88_108, e88_111, eq_self, ne_a, ne_b, ne_c, Nat.reduceEqDiff, lt0, bnd_ok, psh_I, psh_L, psh_R, psh_U, gt_sr, gr_sr, sk_sr, nn_sr, ↓reduceIte, Int.toNat_natCast, Int.reduceToNat, g1_0, g1_2, a2, Int.reduceEq]
  by_cases k1 : w = 1
  · subst k1; simp (disch := first | assumption | omega | (exact shp_fok (by first | assumption | exact shp_sr _ _ (by assumption) | exact shp_sr _ _ (shp_sr _ _ (by assumption)) | exact shp_sr _ _ (shp_sr _ _ (shp_sr _ _ (by assumption)))) (by decide)) | (simp only [fok_sr, aok_sr]; first | assumption | (exact shp_fok (by first | assumption | exact shp_sr _ _ (by assumption) | exact shp_sr _ _ (shp_sr _ _ (by assumption)) | exact shp_sr _ _ (shp_sr _ _ (shp_sr _ _ (by assumption)))) (by decide))) | (refine shp_aok (by first | assumption | exact shp_sr _ _ (by assumption) | exact shp_sr _ _ (shp_sr _ _ (by assumption)) | exact shp_sr _ _ (shp_sr _ _ (shp_sr _ _ (by assumption)))) rfl rfl ?_ ?_ <;> omega) | (exact shp_sr _ _ (by assumption)) | (exact shp_sr _ _ (shp_sr _ _ (by assumption))) | (exact shp_sr _ _ (shp_sr _ _ (shp_sr _ _ (by assumption)))) | (left; assumption) | (exact b2i_or _) | (simp; done)) only [e88_48, e88_49, e88_52, e88_55, e88_56, e88_57, e88_60, e88_63, e88_64, e88_65, e88_68, e88_71, e88_72, e88_73, e88_76, e88_79, e88_80, e88_81, e88_84, e88_87, e88_88, e88_89, e88_92, e88_95, e88_96, e88_97, e88_100, e88_103, e88_104, e88_105, e88_108, e88_111, eq_self, ne_a, ne_b, ne_c, Nat.reduceEqDiff, lt0, bnd_ok, psh_I, psh_L, psh_R, psh_U, gt_sr, gr_sr, sk_sr, nn_sr, ↓reduceIte, Int.toNat_natCast, Int.reduceToNat, g1_0, d0, Int.reduceEq]
  by_cases k2 : w = 2
  · subst k2; simp (disch := first | assumption | omega | (exact shp_fok (by first | assumption | exact shp_sr _ _ (by assumption) | exact shp_sr _ _ (shp_sr _ _ (by assumption)) | exact shp_sr _ _ (shp_sr _ _ (shp_sr _ _ (by assumption)))) (by decide)) | (simp only [fok_sr, aok_sr]; first | assumption | (exact shp_fok (by first | assumption | exact shp_sr _ _ (by assumption) | exact shp_sr _ _ (shp_sr _ _ (by assumption)) | exact shp_sr _ _ (shp_sr _ _ (shp_sr _ _ (by assumption)))) (by decide))) | (refine shp_aok (by first | assumption | exact shp_sr _ _ (by assumption) | exact shp_sr _ _ (shp_sr _ _ (by assumption)) | exact shp_sr _ _ (shp_sr _ _ (shp_sr _ _ (by assumption)))) rfl rfl ?_ ?_ <;> omega) | (exact shp_sr _ _ (by assumption)) | (exact shp_sr _ _ (shp_sr _ _ (by assumption))) | (exact shp_sr _ _ (shp_sr _ _ (shp_sr _ _ (by assumption)))) | (left; assumption) | (exact b2i_or _) | (simp; done)) only [e88_48, e88_49, e88_52, e88_55, e88_56, e88_57, e88_60, e88_63, e88_64, e88_65, e88_68, e88_71, e88_72, e88_73, e88_76, e88_79, e88_80, e88_81, e88_84, e88_87, e88_88, e88_89, e88_92, e88_95, e88_96, e88_97, e88_100, e88_103, e88_104, e88_105, e88_108, e88_111, eq_self, ne_a, ne_b, ne_c, Nat.reduceEqDiff, lt0, bnd_ok, psh_I, psh_L, psh_R, psh_U, gt_sr, gr_sr, sk_sr, nn_sr, ↓reduceIte, Int.toNat_natCast, Int.reduceToNat, g1_0, d1, Int.reduceEq]
  by_cases k3 : w = 3
  · subst k3; simp (disch := first | assumption | omega | (exact shp_fok (by first | assumption | exact shp_sr _ _ (by assumption) | exact shp_sr _ _ (shp_sr _ _ (by assumption)) | exact shp_sr _ _ (shp_sr _ _ (shp_sr _ _ (by assumption)))) (by decide)) | (simp only [fok_sr, aok_sr]; first | assumption | (exact shp_fok (by first | assumption | exact shp_sr _ _ (by assumption) | exact shp_sr _ _ (shp_sr _ _ (by assumption)) | exact shp_sr _ _ (shp_sr _ _ (shp_sr _ _ (by assumption)))) (by decide))) | (refine shp_aok (by first | assumption | exact shp_sr _ _ (by assumption) | exact shp_sr _ _ (shp_sr _ _ (by assumption)) | exact shp_sr _ _ (shp_sr _ _ (shp_sr _ _ (by assumption)))) rfl rfl ?_ ?_ <;> omega) | (exact shp_sr _ _ (by assumption)) | (exact shp_sr _ _ (shp_sr _ _ (by assumption))) | (exact shp_sr _ _ (shp_sr _ _ (shp_sr _ _ (by assumption)))) | (left; assumption) | (exact b2i_or _) | (simp; done)) only [e88_48, e88_49, e88_52, e88_55, e88_56, e88_57, e88_60, e88_63, e88_64, e88_65, e88_68, e88_71, e88_72, e88_73, e88_76, e88_79, e88_80, e88_81, e88_84, e88_87, e88_88, e88_89, e88_92, e88_95, e88_96, e88_97, e88_100, e88_103, e88_104, e88_105, e88_108, e88_111, eq_self, ne_a, ne_b, ne_c, Nat.reduceEqDiff, lt0, bnd_ok, psh_I, psh_L, psh_R, psh_U, gt_sr, gr_sr, sk_sr, nn_sr, ↓reduceIte, Int.toNat_natCast, Int.reduceToNat, g1_0, b3, Int.reduceEq]
  by_cases k4 : w = 4
  · subst k4; simp (disch := first | assumption | omega | (exact shp_fok (by first | assumption | exact shp_sr _ _ (by assumption) | exact shp_sr _ _ (shp_sr _ _ (by assumption)) | exact shp_sr _ _ (shp_sr _ _ (shp_sr _ _ (by assumption)))) (by decide)) | (simp only [fok_sr, aok_sr]; first | assumption | (exact shp_fok (by first | assumption | exact shp_sr _ _ (by assumption) | exact shp_sr _ _ (shp_sr _ _ (by assumption)) | exact shp_sr _ _ (shp_sr _ _ (shp_sr _ _ (by assumption)))) (by decide))) | (refine shp_aok (by first | assumption | exact shp_sr _ _ (by assumption) | exact shp_sr _ _ (shp_sr _ _ (by assumption)) | exact shp_sr _ _ (shp_sr _ _ (shp_sr _ _ (by assumption)))) rfl rfl ?_ ?_ <;> omega) | (exact shp_sr _ _ (by assumption)) | (exact shp_sr _ _ (shp_sr _ _ (by assumption))) | (exact shp_sr _ _ (shp_sr _ _ (shp_sr _ _ (by assumption)))) | (left; assumption) | (exact b2i_or _) | (simp; done)) only [e88_48, e88_49, e88_52, e88_55, e88_56, e88_57, e88_60, e88_63, e88_64, e88_65, e88_68, e88_71, e88_72, e88_73, e88_76, e88_79, e88_80, e88_81, e88_84, e88_87, e88_88, e88_89, e88_92, e88_95, e88_96, e88_97, e88_100, e88_103, e88_104, e88_105, e88_108, e88_111, eq_self, ne_a, ne_b, ne_c, Nat.reduceEqDiff, lt0, bnd_ok, psh_I, psh_L, psh_R, psh_U, gt_sr, gr_sr, sk_sr, nn_sr, ↓reduceIte, Int.toNat_natCast, Int.reduceToNat, g1_0, b4, Int.reduceEq]
  by_cases k5 : w = 5
  · subst k5; simp (disch := first | assumption | omega | (exact shp_fok (by first | assumption | exact shp_sr _ _ (by assumption) | exact shp_sr _ _ (shp_sr _ _ (by assumption)) | exact shp_sr _ _ (shp_sr _ _ (shp_sr _ _ (by assumption)))) (by decide)) | (simp only [fok_sr, aok_sr]; first | assumption | (exact shp_fok (by first | assumption | exact shp_sr _ _ (by assumption) | exact shp_sr _ _ (shp_sr _ _ (by assumption)) | exact shp_sr _ _ (shp_sr _ _ (shp_sr _ _ (by assumption)))) (by decide))) | (refine shp_aok (by first | assumption | exact shp_sr _ _ (by assumption) | exact shp_sr _ _ (shp_sr _ _ (by assumption)) | exact shp_sr _ _ (shp_sr _ _ (shp_sr _ _ (by assumption)))) rfl rfl ?_ ?_ <;> omega) | (exact shp_sr _ _ (by assumption)) | (exact shp_sr _ _ (shp_sr _ _ (by assumption))) | (exact shp_sr _ _ (shp_sr _ _ (shp_sr _ _ (by assumption)))) | (left; assumption) | (exact b2i_or _) | (simp; done)) only [e88_48, e88_49, e88_52, e88_55, e88_56, e88_57, e88_60, e88_63, e88_64, e88_65, e88_68, e88_71, e88_72, e88_73, e88_76, e88_79, e88_80, e88_81, e88_84, e88_87, e88_88, e88_89, e88_92, e88_95, e88_96, e88_97, e88_100, e88_103, e88_104, e88_105, e88_108, e88_111, eq_self, ne_a, ne_b, ne_c, Nat.reduceEqDiff, lt0, bnd_ok, psh_I, psh_L, psh_R, psh_U, gt_sr, gr_sr, sk_sr, nn_sr, ↓reduceIte, Int.toNat_natCast, Int.reduceToNat, g1_0, e1, Int.reduceEq]
  by_cases k6 : w = 6
  · subst k6; simp (disch := first | assumption | omega | (exact shp_fok (by first | assumption | exact shp_sr _ _ (by assumption) | exact shp_sr _ _ (shp_sr _ _ (by assumption)) | exact shp_sr _ _ (shp_sr _ _ (shp_sr _ _ (by assumption)))) (by decide)) | (simp only [fok_sr, aok_sr]; first | assumption | (exact shp_fok (by first | assumption | exact shp_sr _ _ (by assumption) | exact shp_sr _ _ (shp_sr _ _ (by assumption)) | exact shp_sr _ _ (shp_sr _ _ (shp_sr _ _ (by assumption)))) (by decide))) | (refine shp_aok (by first | assumption | exact shp_sr _ _ (by assumption) | exact shp_sr _ _ (shp_sr _ _ (by assumption)) | exact shp_sr _ _ (shp_sr _ _ (shp_sr _ _ (by assumption)))) rfl rfl ?_ ?_ <;> omega) | (exact shp_sr _ _ (by assumption)) | (exact shp_sr _ _ (shp_sr _ _ (by assumption))) | (exact shp_sr _ _ (shp_sr _ _ (shp_sr _ _ (by assumption)))) | (left; assumption) | (exact b2i_or _) | (simp; done)) only [e88_48, e88_49, e88_52, e88_55, e88_56, e88_57, e88_60, e88_63, e88_64, e88_65, e88_68, e88_71, e88_72, e88_73, e88_76, e88_79, e88_80, e88_81, e88_84, e88_87, e88_88, e88_89, e88_92, e88_95, e88_96, e88_97, e88_100, e88_103, e88_104, e88_105, e88_108, e88_111, eq_self, ne_a, ne_b, ne_c, Nat.reduceEqDiff, lt0, bnd_ok, psh_I, psh_L, psh_R, psh_U, gt_sr, gr_sr, sk_sr, nn_sr, ↓reduceIte, Int.toNat_natCast, Int.reduceToNat, g1_0, b5, Int.reduceEq]
  by_cases k7 : w = 7
  · subst k7; simp (disch := first | assumption | omega | (exact shp_fok (by first | assumption | exact shp_sr _ _ (by assumption) | exact shp_sr _ _ (shp_sr _ _ (by assumption)) | exact shp_sr _ _ (shp_sr _ _ (shp_sr _ _ (by assumption)))) (by decide)) | (simp only [fok_sr, aok_sr]; first | assumption | (exact shp_fok (by first | assumption | exact shp_sr _ _ (by assumption) | exact shp_sr _ _ (shp_sr _ _ (by assumption)) | exact shp_sr _ _ (shp_sr _ _ (shp_sr _ _ (by assumption)))) (by decide))) | (refine shp_aok (by first | assumption | exact shp_sr _ _ (by assumption) | exact shp_sr _ _ (shp_sr _ _ (by assumption)) | exact shp_sr _ _ (shp_sr _ _ (shp_sr _ _ (by assumption)))) rfl rfl ?_ ?_ <;> omega) | (exact shp_sr _ _ (by assumption)) | (exact shp_sr _ _ (shp_sr _ _ (by assumption))) | (exact shp_sr _ _ (shp_sr _ _ (shp_sr _ _ (by assumption)))) | (left; assumption) | (exact b2i_or _) | (simp; done)) only [e88_48, e88_49, e88_52, e88_55, e88_56, e88_57, e88_60, e88_63, e88_64, e88_65, e88_68, e88_71, e88_72, e88_73, e88_76, e88_79, e88_80, e88_81, e88_84, e88_87, e88_88, e88_89, e88_92, e88_95, e88_96, e88_97, e88_100, e88_103, e88_104, e88_105, e88_108, e88_111, eq_self, ne_a, ne_b, ne_c, Nat.reduceEqDiff, lt0, bnd_ok, psh_I, psh_L, psh_R, psh_U, gt_sr, gr_sr, sk_sr, nn_sr, ↓reduceIte, Int.toNat_natCast, Int.reduceToNat, g1_0, e2, Int.reduceEq]
  simp only [k0, k1, k2, k3, k4, k5, k6, k7, ↓reduceIte]
  have c100 : ¬ (100 : Int) = 0 := by decide
  have hdm := Int.mul_tdiv_add_tmod w 100
  have hm1 := Int.tmod_lt_of_pos w (show (0 : Int) < 100 by decide)
  have hm2 := Int.lt_tmod_of_pos w (show (0 : Int) < 100 by decide)
  have w1 : wr (w.tdiv 100) = w.tdiv 100 := wr_id (by omega) (by omega)
  have w2 : wr (w.tmod 100) = w.tmod 100 := wr_id (by omega) (by omega)
  generalize hQ : w.tdiv 100 = Q at *
  generalize hT : w.tmod 100 = T at *
  have w4 : wr (Q - 1) = Q - 1 := wr_id (by omega) (by omega)
  by_cases h1 : 0 ≤ Q - 1 ∧ Q - 1 ≤ 3
  · by_cases h2 : 0 ≤ T ∧ T < (dn_ d : Nat)
    · rw [if_pos h2] at e3
      rw [if_pos ⟨h1, h2⟩]
      obtain ⟨s, hs⟩ := nat_of h1.1
      obtain ⟨c, rfl⟩ := nat_of h2.1
      have e5 := e4 s c (by omega) (by omega)
      rw [hs, Int.toNat_natCast, Int.toNat_natCast]
      rw [hs] at h1 w4
      simp (disch := first | assumption | omega | (exact shp_fok (by first | assumption | exact shp_sr _ _ (by assumption) | exact shp_sr _ _ (shp_sr _ _ (by assumption)) | exact shp_sr _ _ (shp_sr _ _ (shp_sr _ _ (by assumption)))) (by decide)) | (simp only [fok_sr, aok_sr]; first | assumption | (exact shp_fok (by first | assumption | exact shp_sr _ _ (by assumption) | exact shp_sr _ _ (shp_sr _ _ (by assumption)) | exact shp_sr _ _ (shp_sr _ _ (shp_sr _ _ (by assumption)))) (by decide))) | (refine shp_aok (by first | assumption | exact shp_sr _ _ (by assumption) | exact shp_sr _ _ (shp_sr _ _ (by assumption)) | exact shp_sr _ _ (shp_sr _ _ (shp_sr _ _ (by assumption)))) rfl rfl ?_ ?_ <;> omega) | (exact shp_sr _ _ (by assumption)) | (exact shp_sr _ _ (shp_sr _ _ (by assumption))) | (exact shp_sr _ _ (shp_sr _ _ (shp_sr _ _ (by assumption)))) | (left; assumption) | (exact b2i_or _) | (simp; done)) only [e88_112, e88_113, e88_115, e88_116, e88_117, e88_118, e88_119, e88_120, e88_122, e88_123, e88_124, e88_125, e88_126, e88_127, e88_130, e88_133, e88_134, e88_137, e88_138, e88_141, e88_144, e88_145, e88_148, e88_149, e88_150, e88_153, e88_156, e88_158, eq_self, ne_a, ne_b, ne_c, Nat.reduceEqDiff, lt0, bnd_ok, psh_I, psh_L, psh_R, psh_U, gt_sr, gr_sr, sk_sr, nn_sr, ↓reduceIte, Int.toNat_natCast, Int.reduceToNat, g1_0, hQ, hT, hs, w1, w2, w4, c_isWithin, if_pos h1, e3, e5, Int.reduceEq]
    · rw [if_neg h2] at e3
      rw [if_neg (fun h => h2 h.2)]
      simp (disch := first | assumption | omega | (exact shp_fok (by first | assumption | exact shp_sr _ _ (by assumption) | exact shp_sr _ _ (shp_sr _ _ (by assumption)) | exact shp_sr _ _ (shp_sr _ _ (shp_sr _ _ (by assumption)))) (by decide)) | (simp only [fok_sr, aok_sr]; first | assumption | (exact shp_fok (by first | assumption | exact shp_sr _ _ (by assumption) | exact shp_sr _ _ (shp_sr _ _ (by assumption)) | exact shp_sr _ _ (shp_sr _ _ (shp_sr _ _ (by assumption)))) (by decide))) | (refine shp_aok (by first | assumption | exact shp_sr _ _ (by assumption) | exact shp_sr _ _ (shp_sr _ _ (by assumption)) | exact shp_sr _ _ (shp_sr _ _ (shp_sr _ _ (by assumption)))) rfl rfl ?_ ?_ <;> omega) | (exact shp_sr _ _ (by assumption)) | (exact shp_sr _ _ (shp_sr _ _ (by assumption))) | (exact shp_sr _ _ (shp_sr _ _ (shp_sr _ _ (by assumption)))) | (left; assumption) | (exact b2i_or _) | (simp; done)) only [e88_112, e88_113, e88_115, e88_116, e88_117, e88_118, e88_119, e88_120, e88_122, e88_123, e88_124, e88_125, e88_126, e88_127, e88_130, e88_133, e88_134, e88_137, e88_138, e88_141, e88_144, e88_145, e88_148, e88_149, e88_150, e88_153, e88_156, e88_158, eq_self, ne_a, ne_b, ne_c, Nat.reduceEqDiff, lt0, bnd_ok, psh_I, psh_L, psh_R, psh_U, gt_sr, gr_sr, sk_sr, nn_sr, ↓reduceIte, Int.toNat_natCast, Int.reduceToNat, g1_0, hQ, hT, w1, w2, w4, c_isWithin, if_pos h1, e3, Int.reduceEq]
  · rw [if_neg (fun h => h1 h.1)]
    simp (disch := first | assumption | omega | (exact shp_fok (by first | assumption | exact shp_sr _ _ (by assumption) | exact shp_sr _ _ (shp_sr _ _ (by assumption)) | exact shp_sr _ _ (shp_sr _ _ (shp_sr _ _ (by assumption)))) (by decide)) | (simp only [fok_sr, aok_sr]; first | assumption | (exact shp_fok (by first | assumption | exact shp_sr _ _ (by assumption) | exact shp_sr _ _ (shp_sr _ _ (by assumption)) | exact shp_sr _ _ (shp_sr _ _ (shp_sr _ _ (by assumption)))) (by decide))) | (refine shp_aok (by first | assumption | exact shp_sr _ _ (by assumption) | exact shp_sr _ _ (shp_sr _ _ (by assumption)) | exact shp_sr _ _ (shp_sr _ _ (shp_sr _ _ (by assumption)))) rfl rfl ?_ ?_ <;> omega) | (exact shp_sr _ _ (by assumption)) | (exact shp_sr _ _ (shp_sr _ _ (by assumption))) | (exact shp_sr _ _ (shp_sr _ _ (shp_sr _ _ (by assumption)))) | (left; assumption) | (exact b2i_or _) | (simp; done)) only [e88_112, e88_113, e88_115, e88_116, e88_117, e88_118, e88_119, e88_120, e88_122, e88_123, e88_124, e88_125, e88_126, e88_127, e88_130, e88_133, e88_134, e88_137, e88_138, e88_141, e88_144, e88_145, e88_148, e88_149, e88_150, e88_153, e88_156, e88_158, eq_self, ne_a, ne_b, ne_c, Nat.reduceEqDiff, lt0, bnd_ok, psh_I, psh_L, psh_R, psh_U, gt_sr, gr_sr, sk_sr, nn_sr, ↓reduceIte, Int.toNat_natCast, Int.reduceToNat, g1_0, hQ, hT, w1, w2, w4, c_isWithin, if_neg h1]
