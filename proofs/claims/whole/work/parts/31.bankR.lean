/-! a bank asked, by its data -/
theorem ok_t {d : Dat} (h : okd d) : tk (dt d) := h.2.2.2.2.1
theorem ok_l {d : Dat} (h : okd d) : lam (dla d) := h.2.2.2.2.2.1
theorem ok_w {d : Dat} (h : okd d) : wan (dwa d) := h.2.2.2.2.2.2.1
theorem rep_chg {S : List Nat} {σ σ' : St} {b : Nat} {d : Dat} (h : chg S σ σ') (hS : ∀ i, i < 8 → i ≠ 4 → b + i ∉ S) (hr : rep σ b d) : rep σ' b d := by
  have g : ∀ i, i < 8 → i ≠ 4 → gt σ' (b + i) = gt σ (b + i) := fun i hi h4 => h.2.2.2.2.2.2 _ (hS i hi h4)
  have g0 := g 0 (by omega) (by omega)
  rw [Nat.add_zero] at g0
  obtain ⟨hb, hd, e3, e4, e5, et, el, em, ew, es, en⟩ := hr
  refine ⟨bsh_chg h hb, ?_, ?_⟩
  · unfold dim; rw [g0]; exact hd
  · rw [g0, g 1 (by omega) (by omega), g 2 (by omega) (by omega), g 3 (by omega) (by omega), g 5 (by omega) (by omega), g 6 (by omega) (by omega), g 7 (by omega) (by omega)]
    exact ⟨e3, e4, e5, et, el, em, ew, es, en⟩
theorem jb_chg {S : List Nat} {σ σ' : St} {b : Nat} (h : chg S σ σ') (hS : ∀ i, i < 8 → i ≠ 4 → b + i ∉ S) (hr : jb σ b) : jb σ' b := by
  have g : ∀ i, i < 8 → i ≠ 4 → gt σ' (b + i) = gt σ (b + i) := fun i hi h4 => h.2.2.2.2.2.2 _ (hS i hi h4)
  obtain ⟨hb, hr⟩ := hr
  refine ⟨bsh_chg h hb, ?_⟩
  rw [g 1 (by omega) (by omega), g 2 (by omega) (by omega), g 3 (by omega) (by omega), g 5 (by omega) (by omega), g 6 (by omega) (by omega), g 7 (by omega) (by omega)]
  exact hr
def acD (d : Dat) (s : Nat) (dn on : Int) : Int := acs (dR d) (dC d) (dt d) (dwa d) (dsl d) s dn on (dR d * dC d)
def hoD (d : Dat) (s : Nat) : Bool := hol (dR d) (dC d) (dt d) (dwa d) (dsl d) s
def wiD (d : Dat) (s : Nat) : Int := wsh (dwa d) s (dn_ d)
def suD (d : Dat) : Int := smN (dt d) (dn_ d)
def mxD (d : Dat) : Int := mxN (dt d) (dn_ d)
def lbD (d : Dat) : Nat := laB (dla d) (dn_ d)
def isW (d : Dat) (c : Nat) : Bool := anN (fun s => decide (dwa d (s * 24 + c) ≠ -1)) 4
set_option maxRecDepth 100000 in
set_option maxHeartbeats 4000000 in
theorem c_hasR {σ : St} {b : Nat} {d : Dat} (hr : rep σ b d) (c : Int) : run 8 0 [vR b, vI c] [] σ = some (vI (if 0 ≤ c ∧ c < (dn_ d : Nat) then 1 else 0), σ) := c_has hr.1 hr.2.1 c
set_option maxRecDepth 100000 in
set_option maxHeartbeats 4000000 in
theorem c_tellR {σ : St} {b : Nat} {d : Dat} (hr : rep σ b d) {c : Nat} (hc : c < 24) (w : Int) : run 9 0 [vR b, vI (c : Int), vI w] [] σ = some (vI (if w = 0 then dt d c else dla d c), σ) := by
  have h := c_tell hr.1 hc w
  obtain ⟨hb, hd, e3, e4, e5, et, el, -⟩ := hr
  rw [et, el] at h
  exact h
set_option maxRecDepth 100000 in
set_option maxHeartbeats 4000000 in
theorem c_wantsR {σ : St} {b s c : Nat} {d : Dat} (hr : rep σ b d) (hs : s < 4) (hc : c < 24) : run 18 0 [vR b, vI (s : Int), vI (c : Int)] [] σ = some (vI (dwa d (s * 24 + c)), σ) := by
  have h := c_wants hr.1 hs hc
  obtain ⟨hb, hd, e3, e4, e5, et, el, em, ew, -⟩ := hr
  rw [ew] at h
  exact h
set_option maxRecDepth 100000 in
set_option maxHeartbeats 4000000 in
theorem c_wishesR {σ : St} {b s : Nat} {d : Dat} (hr : rep σ b d) (hs : s < 4) : run 17 0 [vR b, vI (s : Int), vU, vU] [] σ = some (vI (wiD d s), σ) := by
  have h := c_wishes hr.1 hr.2.1 hs
  obtain ⟨hb, hd, e3, e4, e5, et, el, em, ew, -⟩ := hr
  rw [ew] at h
  exact h
set_option maxRecDepth 100000 in
set_option maxHeartbeats 4000000 in
theorem c_togetherR {σ : St} {b : Nat} {d : Dat} (hr : rep σ b d) (ho : okd d) : run 85 0 [vR b, vU, vU] [] σ = some (vI (suD d), σ) := by
  obtain ⟨hb, hd, e3, e4, e5, et, -⟩ := hr
  have h := c_together hb hd (by rw [et]; exact ok_t ho)
  rw [et] at h
  exact h
set_option maxRecDepth 100000 in
set_option maxHeartbeats 4000000 in
theorem c_thickestR {σ : St} {b : Nat} {d : Dat} (hr : rep σ b d) : run 84 0 [vR b, vU, vU] [] σ = some (vI (mxD d), σ) := by
  obtain ⟨hb, hd, e3, e4, e5, et, -⟩ := hr
  have h := c_thickest hb hd
  rw [et] at h
  exact h
set_option maxRecDepth 100000 in
set_option maxHeartbeats 4000000 in
theorem c_lampBitsR {σ : St} {b : Nat} {d : Dat} (hr : rep σ b d) (ho : okd d) : run 56 0 [vR b, vU, vU] [] σ = some (vI (lbD d : Nat), σ) := by
  obtain ⟨hb, hd, e3, e4, e5, et, el, -⟩ := hr
  have h := c_lampBits hb hd (by rw [el]; exact ok_l ho)
  rw [el] at h
  exact h
set_option maxRecDepth 100000 in
set_option maxHeartbeats 4000000 in
theorem c_isWantedR {σ : St} {b c : Nat} {d : Dat} (hr : rep σ b d) (hc : c < 24) : run 66 0 [vR b, vI (c : Int), vU, vU] [] σ = some (vI (b2i (isW d c)), σ) := by
  have h := c_isWanted hr.1 hc
  obtain ⟨hb, hd, e3, e4, e5, et, el, em, ew, -⟩ := hr
  rw [ew] at h
  exact h
set_option maxRecDepth 100000 in
set_option maxHeartbeats 4000000 in
theorem c_actsR {σ : St} {b s : Nat} {d : Dat} (hr : rep σ b d) (ho : okd d) (hs : s < 4) {dn on : Int} (hdn : -3 ≤ dn ∧ dn ≤ 3) (hon : -5 ≤ on ∧ on ≤ 5) : run 36 0 [vR b, vI (s : Int), vI dn, vI on, vU, vU, vU, vU] [] σ = some (vI (acD d s dn on), σ) := by
  obtain ⟨hb, hd, e3, e4, e5, et, el, em, ew, -⟩ := hr
  have h := c_acts hb hd (by rw [et]; exact ok_t ho) (by rw [ew]; exact ok_w ho) (by rw [e4]; exact ho.2.2.1) hs hdn hon
  rw [et, ew, e4] at h
  exact h
set_option maxRecDepth 100000 in
set_option maxHeartbeats 4000000 in
theorem c_holdsR {σ : St} {b s : Nat} {d : Dat} (hr : rep σ b d) (ho : okd d) (hs : s < 4) : run 35 0 [vR b, vI (s : Int)] [] σ = some (vI (b2i (hoD d s)), σ) := by
  obtain ⟨hb, hd, e3, e4, e5, et, el, em, ew, -⟩ := hr
  have h := c_holds hb hd (by rw [et]; exact ok_t ho) (by rw [ew]; exact ok_w ho) (by rw [e4]; exact ho.2.2.1) hs
  rw [et, ew, e4] at h
  exact h
set_option maxRecDepth 100000 in
set_option maxHeartbeats 4000000 in
theorem c_besideR {σ : St} {b c : Nat} {d : Dat} (hr : rep σ b d) (hc : c < dn_ d) (s : Int) : run 67 0 [vR b, vI (c : Int), vI s] [] σ = some (vI (bsd (dR d) (dC d) c s), σ) := c_beside hr.1 hr.2.1 hc s
theorem b2i_t : b2i true = 1 := rfl
theorem b2i_f : b2i false = 0 := rfl
set_option maxRecDepth 100000 in
set_option maxHeartbeats 4000000 in
theorem c_someShapeFellR {σ : St} {b : Nat} {d : Dat} (hr : rep σ b d) (ho : okd d) : run 83 0 [vR b, vU, vU] [] σ = some (vI (b2i (anN (fun s => !hoD d s) 4)), σ) := by
  have a1 := fun (s : Nat) (hs : s < 4) => c_holdsR hr ho hs
  obtain ⟨hf, -⟩ := hr.1
  have L : run 83 4 [vR b, vI (b2i (anN (fun s => !hoD d s) 0)), vI 0] [] σ = some (vI (b2i (anN (fun s => !hoD d s) 4)), σ) := by
    refine bk (P := fun k z => run 83 4 [vR b, vI (b2i (anN (fun s => !hoD d s) k)), vI z] [] σ = some (vI (b2i (anN (fun s => !hoD d s) 4)), σ)) (n := 4) ?_ ?_
    · rw [e83_4]
      simp (disch := first | (exact b2i_or _) | first | assumption | omega | (left; assumption) | (refine aok_mk ?_ ?_ ?_ <;> first | assumption | omega) | (simp only [fok_sr, aok_sr]; first | assumption | omega | (left; assumption) | (refine aok_mk ?_ ?_ ?_ <;> first | assumption | omega)) | (simp; done)) only [e83_0, e83_1, e83_2, e83_3, e83_5, e83_6, e83_9, e83_10, e83_13, e83_14, e83_15, e83_18, e83_21, e83_22, e83_25, e83_26, e83_27, e83_30, e83_33, e83_34, eq_self, ne_a, ne_b, ne_c, Nat.reduceEqDiff, lt0, bnd_ok, psh_I, psh_L, psh_R, psh_U, gt_sr, gr_sr, sk_sr, nn_sr, ↓reduceIte, Int.toNat_natCast, Int.reduceToNat, Int.reduceLT, Int.cast_ofNat_Int]
    · intro k hk hk' ih
      have e2 : anN (fun s => !hoD d s) (k + 1) = (anN (fun s => !hoD d s) k || !hoD d k) := rfl
      have h4 : (k : Int) < 4 := by omega
      have e1 := a1 k hk
      rw [e2] at ih
      rw [e83_4]
      cases hx : anN (fun s => !hoD d s) k <;> cases h : hoD d k <;> rw [h] at e1 ih <;> rw [hx] at ih <;> simp (disch := first | assumption | omega | (left; assumption) | (refine aok_mk ?_ ?_ ?_ <;> first | assumption | omega) | (simp only [fok_sr, aok_sr]; first | assumption | omega | (left; assumption) | (refine aok_mk ?_ ?_ ?_ <;> first | assumption | omega)) | (simp; done)) only [e83_0, e83_1, e83_2, e83_3, e83_5, e83_6, e83_9, e83_10, e83_13, e83_14, e83_15, e83_18, e83_21, e83_22, e83_25, e83_26, e83_27, e83_30, e83_33, e83_34, eq_self, ne_a, ne_b, ne_c, Nat.reduceEqDiff, lt0, bnd_ok, psh_I, psh_L, psh_R, psh_U, gt_sr, gr_sr, sk_sr, nn_sr, ↓reduceIte, Int.toNat_natCast, Int.reduceToNat, h4, e1, b2i_t, b2i_f, Bool.or_true, Bool.or_false, Bool.true_or, Bool.false_or, Bool.not_true, Bool.not_false, wr_id, Int.reduceEq] at ih ⊢ <;> exact ih
  simp (disch := first | assumption | omega | (left; assumption) | (refine aok_mk ?_ ?_ ?_ <;> first | assumption | omega) | (simp only [fok_sr, aok_sr]; first | assumption | omega | (left; assumption) | (refine aok_mk ?_ ?_ ?_ <;> first | assumption | omega)) | (simp; done)) only [e83_0, e83_1, e83_2, e83_3, e83_5, e83_6, e83_9, e83_10, e83_13, e83_14, e83_15, e83_18, e83_21, e83_22, e83_25, e83_26, e83_27, e83_30, e83_33, e83_34, eq_self, ne_a, ne_b, ne_c, Nat.reduceEqDiff, lt0, bnd_ok, psh_I, psh_L, psh_R, psh_U, gt_sr, gr_sr, sk_sr, nn_sr, ↓reduceIte, Int.toNat_natCast, Int.reduceToNat]
  exact L
/-- two shapes that can not stand together, in one cell -/
def nvC (d : Dat) (s q c : Nat) : Bool := decide (dwa d (s * 24 + c) ≠ -1 ∧ dwa d (q * 24 + c) ≠ -1 ∧ 2 * dsl d < (dwa d (s * 24 + c) - dwa d (q * 24 + c)).natAbs)
set_option maxRecDepth 100000 in
set_option maxHeartbeats 4000000 in
theorem c_neverTogetherR {σ : St} {b s q : Nat} {d : Dat} (hr : rep σ b d) (ho : okd d) (hs : s < 4) (hq : q < 4) : run 62 0 [vR b, vI (s : Int), vI (q : Int), vU, vU, vU, vU, vU] [] σ = some (vI (b2i (anN (nvC d s q) (dn_ d))), σ) := by
  have a1 := fun (c : Nat) (hc : c < 24) => c_wantsR hr hs hc
  have a2 := fun (c : Nat) (hc : c < 24) => c_wantsR hr hq hc
  have hn := dn24 ho
  have hwa := ok_w ho
  have hsl := ho.2.2.1
  obtain ⟨⟨hf, -⟩, ⟨-, -, d2, -⟩, -, e4, -⟩ := hr
  have L : ∀ q5 q6 q7, run 62 5 [vR b, vI (s : Int), vI (q : Int), vI (b2i (anN (nvC d s q) 0)), vI 0, q5, q6, q7] [] σ = some (vI (b2i (anN (nvC d s q) (dn_ d))), σ) := by
    refine bk (P := fun k z => ∀ q5 q6 q7, run 62 5 [vR b, vI (s : Int), vI (q : Int), vI (b2i (anN (nvC d s q) k)), vI z, q5, q6, q7] [] σ = some (vI (b2i (anN (nvC d s q) (dn_ d))), σ)) (n := dn_ d) ?_ ?_
    · intro q5 q6 q7
      rw [e62_5]
      have h4 : ¬ ((dn_ d : Nat) : Int) < ((dR d * dC d : Nat) : Int) := by unfold dn_; omega
      simp (disch := first | (exact b2i_or _) | first | assumption | omega | (left; assumption) | (refine aok_mk ?_ ?_ ?_ <;> first | assumption | omega) | (simp only [fok_sr, aok_sr]; first | assumption | omega | (left; assumption) | (refine aok_mk ?_ ?_ ?_ <;> first | assumption | omega)) | (simp; done)) only [e62_0, e62_1, e62_2, e62_3, e62_7, e62_8, e62_11, e62_14, e62_15, e62_16, e62_18, e62_21, e62_23, e62_24, e62_25, e62_27, e62_30, e62_32, e62_34, e62_35, e62_38, e62_40, e62_41, e62_44, e62_45, e62_48, e62_49, e62_51, e62_52, e62_55, e62_57, e62_60, e62_62, e62_64, e62_65, e62_68, e62_69, e62_70, e62_73, e62_74, e62_77, e62_78, e62_81, e62_82, e62_83, e62_86, e62_89, e62_90, eq_self, ne_a, ne_b, ne_c, Nat.reduceEqDiff, lt0, bnd_ok, psh_I, psh_L, psh_R, psh_U, gt_sr, gr_sr, sk_sr, nn_sr, ↓reduceIte, Int.toNat_natCast, Int.reduceToNat, d2, h4]
    · intro k hk hk' ih q5 q6 q7
      have e1 := a1 k (by omega)
      have e2 := a2 k (by omega)
      have h4 : (k : Int) < ((dR d * dC d : Nat) : Int) := hk'
      have b1 := hwa (s * 24 + k) (by omega)
      have b2 := hwa (q * 24 + k) (by omega)
      have e3 : anN (nvC d s q) (k + 1) = (anN (nvC d s q) k || nvC d s q k) := rfl
      rw [e3] at ih
      have w1 : wr (dwa d (s * 24 + k) - dwa d (q * 24 + k)) = dwa d (s * 24 + k) - dwa d (q * 24 + k) := wr_id (by omega) (by omega)
      have w2 : wr (2 * dsl d) = 2 * dsl d := wr_id (by omega) (by omega)
      have w3 : wr (-(dwa d (s * 24 + k) - dwa d (q * 24 + k))) = -(dwa d (s * 24 + k) - dwa d (q * 24 + k)) := wr_id (by omega) (by omega)
      have w5 : wr ((k : Int) + 1) = (k : Int) + 1 := wr_id (by omega) (by omega)
      have w4 : (if 0 ≤ dwa d (s * 24 + k) - dwa d (q * 24 + k) then dwa d (s * 24 + k) - dwa d (q * 24 + k) else -(dwa d (s * 24 + k) - dwa d (q * 24 + k))) = ((dwa d (s * 24 + k) - dwa d (q * 24 + k)).natAbs : Int) := by split <;> omega
      rw [show nvC d s q k = decide (dwa d (s * 24 + k) ≠ -1 ∧ dwa d (q * 24 + k) ≠ -1 ∧ 2 * dsl d < (dwa d (s * 24 + k) - dwa d (q * 24 + k)).natAbs) from rfl] at ih
      generalize hA : dwa d (s * 24 + k) = A at *
      generalize hB : dwa d (q * 24 + k) = B at *
      clear b1 b2 hwa hA hB
      rw [e62_5]
      cases hx : anN (nvC d s q) k with
      | true =>
        rw [hx, Bool.true_or] at ih
        by_cases h1 : A = -1
        · subst h1
          simp (disch := first | assumption | omega | (left; assumption) | (refine aok_mk ?_ ?_ ?_ <;> first | assumption | omega) | (simp only [fok_sr, aok_sr]; first | assumption | omega | (left; assumption) | (refine aok_mk ?_ ?_ ?_ <;> first | assumption | omega)) | (simp; done)) only [e62_0, e62_1, e62_2, e62_3, e62_7, e62_8, e62_11, e62_14, e62_15, e62_16, e62_18, e62_21, e62_23, e62_24, e62_25, e62_27, e62_30, e62_32, e62_34, e62_35, e62_38, e62_40, e62_41, e62_44, e62_45, e62_48, e62_49, e62_51, e62_52, e62_55, e62_57, e62_60, e62_62, e62_64, e62_65, e62_68, e62_69, e62_70, e62_73, e62_74, e62_77, e62_78, e62_81, e62_82, e62_83, e62_86, e62_89, e62_90, eq_self, ne_a, ne_b, ne_c, Nat.reduceEqDiff, lt0, bnd_ok, psh_I, psh_L, psh_R, psh_U, gt_sr, gr_sr, sk_sr, nn_sr, ↓reduceIte, Int.toNat_natCast, Int.reduceToNat, d2, h4, e1, e2, b2i_t, Int.reduceEq, w5]
          exact ih _ _ _
        · by_cases h2 : B = -1
          · subst h2
            simp (disch := first | assumption | omega | (left; assumption) | (refine aok_mk ?_ ?_ ?_ <;> first | assumption | omega) | (simp only [fok_sr, aok_sr]; first | assumption | omega | (left; assumption) | (refine aok_mk ?_ ?_ ?_ <;> first | assumption | omega)) | (simp; done)) only [e62_0, e62_1, e62_2, e62_3, e62_7, e62_8, e62_11, e62_14, e62_15, e62_16, e62_18, e62_21, e62_23, e62_24, e62_25, e62_27, e62_30, e62_32, e62_34, e62_35, e62_38, e62_40, e62_41, e62_44, e62_45, e62_48, e62_49, e62_51, e62_52, e62_55, e62_57, e62_60, e62_62, e62_64, e62_65, e62_68, e62_69, e62_70, e62_73, e62_74, e62_77, e62_78, e62_81, e62_82, e62_83, e62_86, e62_89, e62_90, eq_self, ne_a, ne_b, ne_c, Nat.reduceEqDiff, lt0, bnd_ok, psh_I, psh_L, psh_R, psh_U, gt_sr, gr_sr, sk_sr, nn_sr, ↓reduceIte, Int.toNat_natCast, Int.reduceToNat, d2, h4, e1, e2, h1, b2i_t, Int.reduceEq, w5]
            exact ih _ _ _
          · simp (disch := first | assumption | omega | (left; assumption) | (refine aok_mk ?_ ?_ ?_ <;> first | assumption | omega) | (simp only [fok_sr, aok_sr]; first | assumption | omega | (left; assumption) | (refine aok_mk ?_ ?_ ?_ <;> first | assumption | omega)) | (simp; done)) only [e62_0, e62_1, e62_2, e62_3, e62_7, e62_8, e62_11, e62_14, e62_15, e62_16, e62_18, e62_21, e62_23, e62_24, e62_25, e62_27, e62_30, e62_32, e62_34, e62_35, e62_38, e62_40, e62_41, e62_44, e62_45, e62_48, e62_49, e62_51, e62_52, e62_55, e62_57, e62_60, e62_62, e62_64, e62_65, e62_68, e62_69, e62_70, e62_73, e62_74, e62_77, e62_78, e62_81, e62_82, e62_83, e62_86, e62_89, e62_90, eq_self, ne_a, ne_b, ne_c, Nat.reduceEqDiff, lt0, bnd_ok, psh_I, psh_L, psh_R, psh_U, gt_sr, gr_sr, sk_sr, nn_sr, ↓reduceIte, Int.toNat_natCast, Int.reduceToNat, d2, h4, e1, e2, h1, h2, b2i_t, Int.reduceEq, w5]
            exact ih _ _ _
      | false =>
        rw [hx, Bool.false_or] at ih
        by_cases h1 : A = -1
        · subst h1
          simp (disch := first | assumption | omega | (left; assumption) | (refine aok_mk ?_ ?_ ?_ <;> first | assumption | omega) | (simp only [fok_sr, aok_sr]; first | assumption | omega | (left; assumption) | (refine aok_mk ?_ ?_ ?_ <;> first | assumption | omega)) | (simp; done)) only [e62_0, e62_1, e62_2, e62_3, e62_7, e62_8, e62_11, e62_14, e62_15, e62_16, e62_18, e62_21, e62_23, e62_24, e62_25, e62_27, e62_30, e62_32, e62_34, e62_35, e62_38, e62_40, e62_41, e62_44, e62_45, e62_48, e62_49, e62_51, e62_52, e62_55, e62_57, e62_60, e62_62, e62_64, e62_65, e62_68, e62_69, e62_70, e62_73, e62_74, e62_77, e62_78, e62_81, e62_82, e62_83, e62_86, e62_89, e62_90, eq_self, ne_a, ne_b, ne_c, Nat.reduceEqDiff, lt0, bnd_ok, psh_I, psh_L, psh_R, psh_U, gt_sr, gr_sr, sk_sr, nn_sr, ↓reduceIte, Int.toNat_natCast, Int.reduceToNat, d2, h4, e1, e2, b2i_f, Int.reduceEq, w5]
          rw [decide_eq_false (fun h => h.1 rfl)] at ih
          exact ih _ _ _
        · by_cases h2 : B = -1
          · subst h2
            simp (disch := first | assumption | omega | (left; assumption) | (refine aok_mk ?_ ?_ ?_ <;> first | assumption | omega) | (simp only [fok_sr, aok_sr]; first | assumption | omega | (left; assumption) | (refine aok_mk ?_ ?_ ?_ <;> first | assumption | omega)) | (simp; done)) only [e62_0, e62_1, e62_2, e62_3, e62_7, e62_8, e62_11, e62_14, e62_15, e62_16, e62_18, e62_21, e62_23, e62_24, e62_25, e62_27, e62_30, e62_32, e62_34, e62_35, e62_38, e62_40, e62_41, e62_44, e62_45, e62_48, e62_49, e62_51, e62_52, e62_55, e62_57, e62_60, e62_62, e62_64, e62_65, e62_68, e62_69, e62_70, e62_73, e62_74, e62_77, e62_78, e62_81, e62_82, e62_83, e62_86, e62_89, e62_90, eq_self, ne_a, ne_b, ne_c, Nat.reduceEqDiff, lt0, bnd_ok, psh_I, psh_L, psh_R, psh_U, gt_sr, gr_sr, sk_sr, nn_sr, ↓reduceIte, Int.toNat_natCast, Int.reduceToNat, d2, h4, e1, e2, h1, b2i_f, Int.reduceEq, w5]
            rw [decide_eq_false (fun h => h.2.1 rfl)] at ih
            exact ih _ _ _
          · by_cases h3 : 2 * dsl d < ((A - B).natAbs : Int)
            · simp (disch := first | assumption | omega | (left; assumption) | (refine aok_mk ?_ ?_ ?_ <;> first | assumption | omega) | (simp only [fok_sr, aok_sr]; first | assumption | omega | (left; assumption) | (refine aok_mk ?_ ?_ ?_ <;> first | assumption | omega)) | (simp; done)) only [e62_0, e62_1, e62_2, e62_3, e62_7, e62_8, e62_11, e62_14, e62_15, e62_16, e62_18, e62_21, e62_23, e62_24, e62_25, e62_27, e62_30, e62_32, e62_34, e62_35, e62_38, e62_40, e62_41, e62_44, e62_45, e62_48, e62_49, e62_51, e62_52, e62_55, e62_57, e62_60, e62_62, e62_64, e62_65, e62_68, e62_69, e62_70, e62_73, e62_74, e62_77, e62_78, e62_81, e62_82, e62_83, e62_86, e62_89, e62_90, eq_self, ne_a, ne_b, ne_c, Nat.reduceEqDiff, lt0, bnd_ok, psh_I, psh_L, psh_R, psh_U, gt_sr, gr_sr, sk_sr, nn_sr, ↓reduceIte, Int.toNat_natCast, Int.reduceToNat, d2, h4, e1, e2, h1, h2, b2i_f, Int.reduceEq, w1, w2, w3, w4, e4, h3, w5]
              rw [decide_eq_true ⟨h1, h2, h3⟩] at ih
              exact ih _ _ _
            · simp (disch := first | assumption | omega | (left; assumption) | (refine aok_mk ?_ ?_ ?_ <;> first | assumption | omega) | (simp only [fok_sr, aok_sr]; first | assumption | omega | (left; assumption) | (refine aok_mk ?_ ?_ ?_ <;> first | assumption | omega)) | (simp; done)) only [e62_0, e62_1, e62_2, e62_3, e62_7, e62_8, e62_11, e62_14, e62_15, e62_16, e62_18, e62_21, e62_23, e62_24, e62_25, e62_27, e62_30, e62_32, e62_34, e62_35, e62_38, e62_40, e62_41, e62_44, e62_45, e62_48, e62_49, e62_51, e62_52, e62_55, e62_57, e62_60, e62_62, e62_64, e62_65, e62_68, e62_69, e62_70, e62_73, e62_74, e62_77, e62_78, e62_81, e62_82, e62_83, e62_86, e62_89, e62_90, eq_self, ne_a, ne_b, ne_c, Nat.reduceEqDiff, lt0, bnd_ok, psh_I, psh_L, psh_R, psh_U, gt_sr, gr_sr, sk_sr, nn_sr, ↓reduceIte, Int.toNat_natCast, Int.reduceToNat, d2, h4, e1, e2, h1, h2, b2i_f, Int.reduceEq, w1, w2, w3, w4, e4, h3, w5]
              rw [decide_eq_false (fun h => h3 h.2.2)] at ih
              exact ih _ _ _
  simp (disch := first | assumption | omega | (left; assumption) | (refine aok_mk ?_ ?_ ?_ <;> first | assumption | omega) | (simp only [fok_sr, aok_sr]; first | assumption | omega | (left; assumption) | (refine aok_mk ?_ ?_ ?_ <;> first | assumption | omega)) | (simp; done)) only [e62_0, e62_1, e62_2, e62_3, e62_7, e62_8, e62_11, e62_14, e62_15, e62_16, e62_18, e62_21, e62_23, e62_24, e62_25, e62_27, e62_30, e62_32, e62_34, e62_35, e62_38, e62_40, e62_41, e62_44, e62_45, e62_48, e62_49, e62_51, e62_52, e62_55, e62_57, e62_60, e62_62, e62_64, e62_65, e62_68, e62_69, e62_70, e62_73, e62_74, e62_77, e62_78, e62_81, e62_82, e62_83, e62_86, e62_89, e62_90, eq_self, ne_a, ne_b, ne_c, Nat.reduceEqDiff, lt0, bnd_ok, psh_I, psh_L, psh_R, psh_U, gt_sr, gr_sr, sk_sr, nn_sr, ↓reduceIte, Int.toNat_natCast, Int.reduceToNat]
  exact L _ _ _
/-- all sights hold -/
def siD (d : Dat) : Bool := alN (fun i => decide (dt d (dsc d i).toNat = dsn d i)) (dsi d)
set_option maxRecDepth 100000 in
set_option maxHeartbeats 4000000 in
theorem c_sightsHoldR {σ : St} {b : Nat} {d : Dat} (hr : rep σ b d) (ho : okd d) : run 77 0 [vR b, vU, vU] [] σ = some (vI (b2i (siD d)), σ) := by
  obtain ⟨hf, ⟨r6, r7, r8, r9, r10, r11, r12⟩, i1, i2, i3, i4, i5, i6, i7⟩ := hr.1
  obtain ⟨-, -, -, -, e5, et, -, -, -, es, en⟩ := hr
  have h8 := ho.2.2.2.1
  have hs := ho.2.2.2.2.2.2.2.2.2.2.2.2.2
  have hn := dn24 ho
  generalize hp : (fun i => decide (dt d (dsc d i).toNat = dsn d i)) = p
  have hpi : ∀ i, p i = decide (dt d (dsc d i).toNat = dsn d i) := fun i => by rw [← hp]
  have L : run 77 4 [vR b, vI (b2i (alN p 0)), vI 0] [] σ = some (vI (b2i (alN p (dsi d))), σ) := by
    refine bk (P := fun k z => run 77 4 [vR b, vI (b2i (alN p k)), vI z] [] σ = some (vI (b2i (alN p (dsi d))), σ)) (n := dsi d) ?_ ?_
    · rw [e77_4]
      have h4 : ¬ ((dsi d : Nat) : Int) < ((dsi d : Nat) : Int) := by omega
      simp (disch := first | (exact b2i_or _) | first | assumption | omega | (left; assumption) | (refine aok_mk ?_ ?_ ?_ <;> first | assumption | omega) | (simp only [fok_sr, aok_sr]; first | assumption | omega | (left; assumption) | (refine aok_mk ?_ ?_ ?_ <;> first | assumption | omega)) | (simp; done)) only [e77_0, e77_1, e77_2, e77_3, e77_5, e77_6, e77_9, e77_12, e77_13, e77_16, e77_17, e77_20, e77_21, e77_24, e77_25, e77_28, e77_31, e77_32, e77_35, e77_36, e77_39, e77_42, e77_43, e77_46, e77_47, e77_48, e77_51, e77_54, e77_55, eq_self, ne_a, ne_b, ne_c, Nat.reduceEqDiff, lt0, bnd_ok, psh_I, psh_L, psh_R, psh_U, gt_sr, gr_sr, sk_sr, nn_sr, ↓reduceIte, Int.toNat_natCast, Int.reduceToNat, e5, h4]
    · intro k hk hk' ih
      have e3 : alN p (k + 1) = (alN p k && p k) := rfl
      rw [e3, hpi] at ih
      have b1 := (hs k hk).1
      have a1 := c_atN i6 (show k < 8 by omega)
      have a2 := c_atN i7 (show k < 8 by omega)
      rw [es] at a1
      rw [en] at a2
      have a3 : run 10 0 [vR (b + 1), vI (dsc d k)] [] σ = some (vI (dt d (dsc d k).toNat), σ) := by
        have := c_atN i1 (show (dsc d k).toNat < 24 by omega)
        rw [et, Int.toNat_of_nonneg b1.1] at this
        exact this
      have w5 : wr ((k : Int) + 1) = (k : Int) + 1 := wr_id (by omega) (by omega)
      clear hs b1
      rw [e77_4]
      cases hx : alN p k with
      | false =>
        rw [hx, Bool.false_and] at ih
        simp (disch := first | assumption | omega | (left; assumption) | (refine aok_mk ?_ ?_ ?_ <;> first | assumption | omega) | (simp only [fok_sr, aok_sr]; first | assumption | omega | (left; assumption) | (refine aok_mk ?_ ?_ ?_ <;> first | assumption | omega)) | (simp; done)) only [e77_0, e77_1, e77_2, e77_3, e77_5, e77_6, e77_9, e77_12, e77_13, e77_16, e77_17, e77_20, e77_21, e77_24, e77_25, e77_28, e77_31, e77_32, e77_35, e77_36, e77_39, e77_42, e77_43, e77_46, e77_47, e77_48, e77_51, e77_54, e77_55, eq_self, ne_a, ne_b, ne_c, Nat.reduceEqDiff, lt0, bnd_ok, psh_I, psh_L, psh_R, psh_U, gt_sr, gr_sr, sk_sr, nn_sr, ↓reduceIte, Int.toNat_natCast, Int.reduceToNat, e5, hk', b2i_f, w5]
        exact ih
      | true =>
        rw [hx, Bool.true_and] at ih
        by_cases h : dt d (dsc d k).toNat = dsn d k
        · rw [decide_eq_true h] at ih
          simp (disch := first | assumption | omega | (left; assumption) | (refine aok_mk ?_ ?_ ?_ <;> first | assumption | omega) | (simp only [fok_sr, aok_sr]; first | assumption | omega | (left; assumption) | (refine aok_mk ?_ ?_ ?_ <;> first | assumption | omega)) | (simp; done)) only [e77_0, e77_1, e77_2, e77_3, e77_5, e77_6, e77_9, e77_12, e77_13, e77_16, e77_17, e77_20, e77_21, e77_24, e77_25, e77_28, e77_31, e77_32, e77_35, e77_36, e77_39, e77_42, e77_43, e77_46, e77_47, e77_48, e77_51, e77_54, e77_55, eq_self, ne_a, ne_b, ne_c, Nat.reduceEqDiff, lt0, bnd_ok, psh_I, psh_L, psh_R, psh_U, gt_sr, gr_sr, sk_sr, nn_sr, ↓reduceIte, Int.toNat_natCast, Int.reduceToNat, e5, hk', b2i_t, Int.reduceEq, r6, r11, r12, a1, a2, a3, h, w5]
          exact ih
        · rw [decide_eq_false h] at ih
          simp (disch := first | assumption | omega | (left; assumption) | (refine aok_mk ?_ ?_ ?_ <;> first | assumption | omega) | (simp only [fok_sr, aok_sr]; first | assumption | omega | (left; assumption) | (refine aok_mk ?_ ?_ ?_ <;> first | assumption | omega)) | (simp; done)) only [e77_0, e77_1, e77_2, e77_3, e77_5, e77_6, e77_9, e77_12, e77_13, e77_16, e77_17, e77_20, e77_21, e77_24, e77_25, e77_28, e77_31, e77_32, e77_35, e77_36, e77_39, e77_42, e77_43, e77_46, e77_47, e77_48, e77_51, e77_54, e77_55, eq_self, ne_a, ne_b, ne_c, Nat.reduceEqDiff, lt0, bnd_ok, psh_I, psh_L, psh_R, psh_U, gt_sr, gr_sr, sk_sr, nn_sr, ↓reduceIte, Int.toNat_natCast, Int.reduceToNat, e5, hk', b2i_t, Int.reduceEq, r6, r11, r12, a1, a2, a3, h, w5]
          exact ih
  simp (disch := first | assumption | omega | (left; assumption) | (refine aok_mk ?_ ?_ ?_ <;> first | assumption | omega) | (simp only [fok_sr, aok_sr]; first | assumption | omega | (left; assumption) | (refine aok_mk ?_ ?_ ?_ <;> first | assumption | omega)) | (simp; done)) only [e77_0, e77_1, e77_2, e77_3, e77_5, e77_6, e77_9, e77_12, e77_13, e77_16, e77_17, e77_20, e77_21, e77_24, e77_25, e77_28, e77_31, e77_32, e77_35, e77_36, e77_39, e77_42, e77_43, e77_46, e77_47, e77_48, e77_51, e77_54, e77_55, eq_self, ne_a, ne_b, ne_c, Nat.reduceEqDiff, lt0, bnd_ok, psh_I, psh_L, psh_R, psh_U, gt_sr, gr_sr, sk_sr, nn_sr, ↓reduceIte, Int.toNat_natCast, Int.reduceToNat]
  unfold siD
  rw [hp]
  exact L
