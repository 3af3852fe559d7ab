/-! a bank asked -/
set_option maxRecDepth 100000 in
set_option maxHeartbeats 4000000 in
theorem c_wants {σ : St} {b s c : Nat} (hb : bsh σ b) (hs : s < 4) (hc : c < 24) : run 18 0 [vR b, vI (s : Int), vI (c : Int)] [] σ = some (vI (gt σ (b + 5) (s * 24 + c)), σ) := by
  obtain ⟨hf, ⟨r6, r7, r8, r9, r10, r11, r12⟩, i1, i2, i3, i4, i5, i6, i7⟩ := hb
  have a1 := c_atN i5 (show s * 24 + c < 96 by omega)
  have w1 : wr (wr ((s : Int) * 24) + (c : Int)) = ((s * 24 + c : Nat) : Int) := by
    rw [wr_r (z := (s : Int) * 24) (by omega) (by omega), wr_r (by omega) (by omega)]; omega
  simp (disch := first | assumption | omega | (left; assumption) | (refine aok_mk ?_ ?_ ?_ <;> first | assumption | omega) | (simp only [fok_sr, aok_sr]; first | assumption | omega | (left; assumption) | (refine aok_mk ?_ ?_ ?_ <;> first | assumption | omega)) | (simp; done)) only [e18_0, e18_1, e18_4, e18_5, e18_7, e18_8, e18_9, e18_10, e18_13, eq_self, ne_a, ne_b, ne_c, Nat.reduceEqDiff, lt0, bnd_ok, psh_I, psh_L, psh_R, psh_U, gt_sr, gr_sr, sk_sr, nn_sr, ↓reduceIte, Int.toNat_natCast, Int.reduceToNat, r10, w1, a1]
set_option maxRecDepth 100000 in
set_option maxHeartbeats 4000000 in
theorem c_tell {σ : St} {b c : Nat} (hb : bsh σ b) (hc : c < 24) (w : Int) : run 9 0 [vR b, vI (c : Int), vI w] [] σ = some (vI (if w = 0 then gt σ (b + 1) c else gt σ (b + 2) c), σ) := by
  obtain ⟨hf, ⟨r6, r7, r8, r9, r10, r11, r12⟩, i1, i2, i3, i4, i5, i6, i7⟩ := hb
  have a1 := c_atN i1 hc
  have a2 := c_atN i2 hc
  simp (disch := first | assumption | omega | (left; assumption) | (refine aok_mk ?_ ?_ ?_ <;> first | assumption | omega) | (simp only [fok_sr, aok_sr]; first | assumption | omega | (left; assumption) | (refine aok_mk ?_ ?_ ?_ <;> first | assumption | omega)) | (simp; done)) only [e9_0, e9_1, e9_4, e9_5, e9_8, e9_9, e9_12, e9_15, e9_16, e9_19, e9_20, e9_23, eq_self, ne_a, ne_b, ne_c, Nat.reduceEqDiff, lt0, bnd_ok, psh_I, psh_L, psh_R, psh_U, gt_sr, gr_sr, sk_sr, nn_sr, ↓reduceIte, Int.toNat_natCast, Int.reduceToNat, r6, r7, a1, a2]
  by_cases h : w = 0
  · rw [if_pos h, if_pos h]
  · rw [if_neg h, if_neg h]
def wsh (wa : Nat → Int) (s n : Nat) : Int := smN (fun c => if wa (s * 24 + c) = -1 then 0 else 1) n
theorem wsh_bd (wa : Nat → Int) (s n : Nat) : 0 ≤ wsh wa s n ∧ wsh wa s n ≤ n := by
  have := smN_bd (f := fun c => if wa (s * 24 + c) = -1 then (0 : Int) else 1) (lo := 0) (hi := 1) (n := n) (fun i _ => by split <;> omega)
  unfold wsh
  omega
set_option maxRecDepth 100000 in
set_option maxHeartbeats 4000000 in
theorem c_wishes {σ : St} {b R C s : Nat} (hb : bsh σ b) (hd : dim σ b R C) (hs : s < 4) : run 17 0 [vR b, vI (s : Int), vU, vU] [] σ = some (vI (wsh (gt σ (b + 5)) s (R * C)), σ) := by
  have hle := dim_le hd
  have wa := fun (c : Nat) (hc : c < 24) => c_wants hb hs hc
  obtain ⟨hf, -⟩ := hb
  obtain ⟨-, -, d2, -⟩ := hd
  have loop : ∀ (m c : Nat), c + m = R * C → run 17 4 [vR b, vI (s : Int), vI (wsh (gt σ (b + 5)) s c), vI (c : Int)] [] σ = some (vI (wsh (gt σ (b + 5)) s (R * C)), σ) := by
    intro m
    induction m with
    | zero =>
      intro c hc
      have hc' : ¬ (c : Int) < ((R * C : Nat) : Int) := by omega
      rw [e17_4]
      simp (disch := first | assumption | omega | (left; assumption) | (refine aok_mk ?_ ?_ ?_ <;> first | assumption | omega) | (simp only [fok_sr, aok_sr]; first | assumption | omega | (left; assumption) | (refine aok_mk ?_ ?_ ?_ <;> first | assumption | omega)) | (simp; done)) only [e17_0, e17_1, e17_2, e17_3, e17_5, e17_6, e17_9, e17_12, e17_13, e17_14, e17_15, e17_16, e17_19, e17_20, e17_23, e17_24, e17_27, e17_28, e17_29, e17_30, e17_33, e17_36, e17_37, eq_self, ne_a, ne_b, ne_c, Nat.reduceEqDiff, lt0, bnd_ok, psh_I, psh_L, psh_R, psh_U, gt_sr, gr_sr, sk_sr, nn_sr, ↓reduceIte, Int.toNat_natCast, Int.reduceToNat, d2, hc']
      rw [show c = R * C by omega]
    | succ m ih =>
      intro c hc
      have hc' : (c : Int) < ((R * C : Nat) : Int) := by omega
      have w1 := wr_p (show c ≤ 100000 by omega)
      have e1 := wa c (by omega)
      have hbd := wsh_bd (gt σ (b + 5)) s c
      have hs9 : wsh (gt σ (b + 5)) s (c + 1) = wsh (gt σ (b + 5)) s c + (if gt σ (b + 5) (s * 24 + c) = -1 then 0 else 1) := rfl
      have hih := ih (c + 1) (by omega)
      rw [e17_4]
      by_cases h : gt σ (b + 5) (s * 24 + c) = -1
      · rw [if_pos h] at hs9
        have w2 : wr (wsh (gt σ (b + 5)) s c + 0) = wsh (gt σ (b + 5)) s (c + 1) := by rw [hs9]; exact wr_r (by omega) (by omega)
        rw [h] at e1
        simp (disch := first | assumption | omega | (left; assumption) | (refine aok_mk ?_ ?_ ?_ <;> first | assumption | omega) | (simp only [fok_sr, aok_sr]; first | assumption | omega | (left; assumption) | (refine aok_mk ?_ ?_ ?_ <;> first | assumption | omega)) | (simp; done)) only [e17_0, e17_1, e17_2, e17_3, e17_5, e17_6, e17_9, e17_12, e17_13, e17_14, e17_15, e17_16, e17_19, e17_20, e17_23, e17_24, e17_27, e17_28, e17_29, e17_30, e17_33, e17_36, e17_37, eq_self, ne_a, ne_b, ne_c, Nat.reduceEqDiff, lt0, bnd_ok, psh_I, psh_L, psh_R, psh_U, gt_sr, gr_sr, sk_sr, nn_sr, ↓reduceIte, Int.toNat_natCast, Int.reduceToNat, d2, hc', e1, w1, w2]
        exact hih
      · rw [if_neg h] at hs9
        have w2 : wr (wsh (gt σ (b + 5)) s c + 1) = wsh (gt σ (b + 5)) s (c + 1) := by rw [hs9]; exact wr_r (by omega) (by omega)
        simp (disch := first | assumption | omega | (left; assumption) | (refine aok_mk ?_ ?_ ?_ <;> first | assumption | omega) | (simp only [fok_sr, aok_sr]; first | assumption | omega | (left; assumption) | (refine aok_mk ?_ ?_ ?_ <;> first | assumption | omega)) | (simp; done)) only [e17_0, e17_1, e17_2, e17_3, e17_5, e17_6, e17_9, e17_12, e17_13, e17_14, e17_15, e17_16, e17_19, e17_20, e17_23, e17_24, e17_27, e17_28, e17_29, e17_30, e17_33, e17_36, e17_37, eq_self, ne_a, ne_b, ne_c, Nat.reduceEqDiff, lt0, bnd_ok, psh_I, psh_L, psh_R, psh_U, gt_sr, gr_sr, sk_sr, nn_sr, ↓reduceIte, Int.toNat_natCast, Int.reduceToNat, d2, hc', e1, h, w1, w2]
        exact hih
  have h0 := loop (R * C) 0 (by omega)
  simp (disch := first | assumption | omega | (left; assumption) | (refine aok_mk ?_ ?_ ?_ <;> first | assumption | omega) | (simp only [fok_sr, aok_sr]; first | assumption | omega | (left; assumption) | (refine aok_mk ?_ ?_ ?_ <;> first | assumption | omega)) | (simp; done)) only [e17_0, e17_1, e17_2, e17_3, e17_5, e17_6, e17_9, e17_12, e17_13, e17_14, e17_15, e17_16, e17_19, e17_20, e17_23, e17_24, e17_27, e17_28, e17_29, e17_30, e17_33, e17_36, e17_37, eq_self, ne_a, ne_b, ne_c, Nat.reduceEqDiff, lt0, bnd_ok, psh_I, psh_L, psh_R, psh_U, gt_sr, gr_sr, sk_sr, nn_sr, ↓reduceIte, Int.toNat_natCast, Int.reduceToNat]
  exact h0
set_option maxRecDepth 100000 in
set_option maxHeartbeats 4000000 in
theorem c_together {σ : St} {b R C : Nat} (hb : bsh σ b) (hd : dim σ b R C) (ht : tk (gt σ (b + 1))) : run 85 0 [vR b, vU, vU] [] σ = some (vI (smN (gt σ (b + 1)) (R * C)), σ) := by
  have hle := dim_le hd
  obtain ⟨hf, ⟨r6, r7, r8, r9, r10, r11, r12⟩, i1, i2, i3, i4, i5, i6, i7⟩ := hb
  obtain ⟨-, -, d2, -⟩ := hd
  have loop : ∀ (m c : Nat), c + m = R * C → run 85 4 [vR b, vI (smN (gt σ (b + 1)) c), vI (c : Int)] [] σ = some (vI (smN (gt σ (b + 1)) (R * C)), σ) := by
    intro m
    induction m with
    | zero =>
      intro c hc
      have hc' : ¬ (c : Int) < ((R * C : Nat) : Int) := by omega
      rw [e85_4]
      simp (disch := first | assumption | omega | (left; assumption) | (refine aok_mk ?_ ?_ ?_ <;> first | assumption | omega) | (simp only [fok_sr, aok_sr]; first | assumption | omega | (left; assumption) | (refine aok_mk ?_ ?_ ?_ <;> first | assumption | omega)) | (simp; done)) only [e85_0, e85_1, e85_2, e85_3, e85_5, e85_6, e85_9, e85_12, e85_13, e85_14, e85_17, e85_18, e85_21, e85_22, e85_23, e85_26, e85_29, e85_30, eq_self, ne_a, ne_b, ne_c, Nat.reduceEqDiff, lt0, bnd_ok, psh_I, psh_L, psh_R, psh_U, gt_sr, gr_sr, sk_sr, nn_sr, ↓reduceIte, Int.toNat_natCast, Int.reduceToNat, d2, hc']
      rw [show c = R * C by omega]
    | succ m ih =>
      intro c hc
      have hc' : (c : Int) < ((R * C : Nat) : Int) := by omega
      have w1 := wr_p (show c ≤ 100000 by omega)
      have e1 := c_atN i1 (show c < 24 by omega)
      have hbd := smN_bd (f := gt σ (b + 1)) (n := c) (lo := 0) (hi := 9) (fun i hi => ht i (by omega))
      have hb1 := ht c (by omega)
      have hih := ih (c + 1) (by omega)
      have w2 : wr (smN (gt σ (b + 1)) c + gt σ (b + 1) c) = smN (gt σ (b + 1)) (c + 1) := wr_r (by omega) (by omega)
      rw [e85_4]
      simp (disch := first | assumption | omega | (left; assumption) | (refine aok_mk ?_ ?_ ?_ <;> first | assumption | omega) | (simp only [fok_sr, aok_sr]; first | assumption | omega | (left; assumption) | (refine aok_mk ?_ ?_ ?_ <;> first | assumption | omega)) | (simp; done)) only [e85_0, e85_1, e85_2, e85_3, e85_5, e85_6, e85_9, e85_12, e85_13, e85_14, e85_17, e85_18, e85_21, e85_22, e85_23, e85_26, e85_29, e85_30, eq_self, ne_a, ne_b, ne_c, Nat.reduceEqDiff, lt0, bnd_ok, psh_I, psh_L, psh_R, psh_U, gt_sr, gr_sr, sk_sr, nn_sr, ↓reduceIte, Int.toNat_natCast, Int.reduceToNat, d2, hc', r6, e1, w1, w2]
      exact hih
  have h0 := loop (R * C) 0 (by omega)
  simp (disch := first | assumption | omega | (left; assumption) | (refine aok_mk ?_ ?_ ?_ <;> first | assumption | omega) | (simp only [fok_sr, aok_sr]; first | assumption | omega | (left; assumption) | (refine aok_mk ?_ ?_ ?_ <;> first | assumption | omega)) | (simp; done)) only [e85_0, e85_1, e85_2, e85_3, e85_5, e85_6, e85_9, e85_12, e85_13, e85_14, e85_17, e85_18, e85_21, e85_22, e85_23, e85_26, e85_29, e85_30, eq_self, ne_a, ne_b, ne_c, Nat.reduceEqDiff, lt0, bnd_ok, psh_I, psh_L, psh_R, psh_U, gt_sr, gr_sr, sk_sr, nn_sr, ↓reduceIte, Int.toNat_natCast, Int.reduceToNat]
  exact h0
/-- the most of the first n, 0 at least -/
def mxN (f : Nat → Int) : Nat → Int
  | 0 => 0
  | n + 1 => if mxN f n < f n then f n else mxN f n
set_option maxRecDepth 100000 in
set_option maxHeartbeats 4000000 in
theorem c_thickest {σ : St} {b R C : Nat} (hb : bsh σ b) (hd : dim σ b R C) : run 84 0 [vR b, vU, vU] [] σ = some (vI (mxN (gt σ (b + 1)) (R * C)), σ) := by
  have hle := dim_le hd
  obtain ⟨hf, ⟨r6, r7, r8, r9, r10, r11, r12⟩, i1, i2, i3, i4, i5, i6, i7⟩ := hb
  obtain ⟨-, -, d2, -⟩ := hd
  have loop : ∀ (m c : Nat), c + m = R * C → run 84 4 [vR b, vI (mxN (gt σ (b + 1)) c), vI (c : Int)] [] σ = some (vI (mxN (gt σ (b + 1)) (R * C)), σ) := by
    intro m
    induction m with
    | zero =>
      intro c hc
      have hc' : ¬ (c : Int) < ((R * C : Nat) : Int) := by omega
      rw [e84_4]
      simp (disch := first | assumption | omega | (left; assumption) | (refine aok_mk ?_ ?_ ?_ <;> first | assumption | omega) | (simp only [fok_sr, aok_sr]; first | assumption | omega | (left; assumption) | (refine aok_mk ?_ ?_ ?_ <;> first | assumption | omega)) | (simp; done)) only [e84_0, e84_1, e84_2, e84_3, e84_5, e84_6, e84_9, e84_12, e84_13, e84_14, e84_17, e84_18, e84_21, e84_24, e84_25, e84_28, e84_31, e84_32, eq_self, ne_a, ne_b, ne_c, Nat.reduceEqDiff, lt0, bnd_ok, psh_I, psh_L, psh_R, psh_U, gt_sr, gr_sr, sk_sr, nn_sr, ↓reduceIte, Int.toNat_natCast, Int.reduceToNat, d2, hc']
      rw [show c = R * C by omega]
    | succ m ih =>
      intro c hc
      have hc' : (c : Int) < ((R * C : Nat) : Int) := by omega
      have w1 := wr_p (show c ≤ 100000 by omega)
      have e1 := c_atN i1 (show c < 24 by omega)
      have hih := ih (c + 1) (by omega)
      have w2 : (if mxN (gt σ (b + 1)) c < gt σ (b + 1) c then gt σ (b + 1) c else mxN (gt σ (b + 1)) c) = mxN (gt σ (b + 1)) (c + 1) := rfl
      rw [e84_4]
      simp (disch := first | assumption | omega | (left; assumption) | (refine aok_mk ?_ ?_ ?_ <;> first | assumption | omega) | (simp only [fok_sr, aok_sr]; first | assumption | omega | (left; assumption) | (refine aok_mk ?_ ?_ ?_ <;> first | assumption | omega)) | (simp; done)) only [e84_0, e84_1, e84_2, e84_3, e84_5, e84_6, e84_9, e84_12, e84_13, e84_14, e84_17, e84_18, e84_21, e84_24, e84_25, e84_28, e84_31, e84_32, eq_self, ne_a, ne_b, ne_c, Nat.reduceEqDiff, lt0, bnd_ok, psh_I, psh_L, psh_R, psh_U, gt_sr, gr_sr, sk_sr, nn_sr, ↓reduceIte, Int.toNat_natCast, Int.reduceToNat, d2, hc', r6, e1, w1, w2]
      exact hih
  have h0 := loop (R * C) 0 (by omega)
  simp (disch := first | assumption | omega | (left; assumption) | (refine aok_mk ?_ ?_ ?_ <;> first | assumption | omega) | (simp only [fok_sr, aok_sr]; first | assumption | omega | (left; assumption) | (refine aok_mk ?_ ?_ ?_ <;> first | assumption | omega)) | (simp; done)) only [e84_0, e84_1, e84_2, e84_3, e84_5, e84_6, e84_9, e84_12, e84_13, e84_14, e84_17, e84_18, e84_21, e84_24, e84_25, e84_28, e84_31, e84_32, eq_self, ne_a, ne_b, ne_c, Nat.reduceEqDiff, lt0, bnd_ok, psh_I, psh_L, psh_R, psh_U, gt_sr, gr_sr, sk_sr, nn_sr, ↓reduceIte, Int.toNat_natCast, Int.reduceToNat]
  exact h0
def laB (la : Nat → Int) (n : Nat) : Nat := bsN (fun c => decide (la c = 1)) n
set_option maxRecDepth 100000 in
set_option maxHeartbeats 4000000 in
theorem c_lampBits {σ : St} {b R C : Nat} (hb : bsh σ b) (hd : dim σ b R C) (hl : lam (gt σ (b + 2))) : run 56 0 [vR b, vU, vU] [] σ = some (vI (laB (gt σ (b + 2)) (R * C) : Nat), σ) := by
  have hle := dim_le hd
  obtain ⟨hf, ⟨r6, r7, r8, r9, r10, r11, r12⟩, i1, i2, i3, i4, i5, i6, i7⟩ := hb
  obtain ⟨-, -, d2, -⟩ := hd
  have loop : ∀ (m c : Nat), c + m = R * C → run 56 4 [vR b, vI (laB (gt σ (b + 2)) c : Nat), vI (c : Int)] [] σ = some (vI (laB (gt σ (b + 2)) (R * C) : Nat), σ) := by
    intro m
    induction m with
    | zero =>
      intro c hc
      have hc' : ¬ (c : Int) < ((R * C : Nat) : Int) := by omega
      rw [e56_4]
      simp (disch := first | assumption | omega | (left; assumption) | (refine aok_mk ?_ ?_ ?_ <;> first | assumption | omega) | (simp only [fok_sr, aok_sr]; first | assumption | omega | (left; assumption) | (refine aok_mk ?_ ?_ ?_ <;> first | assumption | omega)) | (simp; done)) only [e56_0, e56_1, e56_2, e56_3, e56_5, e56_6, e56_9, e56_12, e56_13, e56_14, e56_17, e56_18, e56_21, e56_22, e56_23, e56_24, e56_25, e56_28, e56_31, e56_32, eq_self, ne_a, ne_b, ne_c, Nat.reduceEqDiff, lt0, bnd_ok, psh_I, psh_L, psh_R, psh_U, gt_sr, gr_sr, sk_sr, nn_sr, ↓reduceIte, Int.toNat_natCast, Int.reduceToNat, d2, hc']
      rw [show c = R * C by omega]
    | succ m ih =>
      intro c hc
      have hc' : (c : Int) < ((R * C : Nat) : Int) := by omega
      have w1 := wr_p (show c ≤ 100000 by omega)
      have e1 := c_atN i2 (show c < 24 by omega)
      have hih := ih (c + 1) (by omega)
      have hp : 2 ^ c ≤ 2 ^ 23 := Nat.pow_le_pow_right (by omega) (by omega)
      have hlt : laB (gt σ (b + 2)) c < 2147483648 := by
        have := bsN_lt (fun c => decide (gt σ (b + 2) c = 1)) c
        unfold laB
        omega
      have w2 : bOr (laB (gt σ (b + 2)) c : Nat) (bShl (gt σ (b + 2) c) (c : Int)) = ((laB (gt σ (b + 2)) (c + 1) : Nat) : Int) := by
        rcases hl c (by omega) with h | h
        · have := bShl_N (a := 0) (k := c) (by omega) (by omega) (by omega)
          rw [Nat.zero_mul] at this
          rw [h, show (0 : Int) = ((0 : Nat) : Int) from rfl, this, bOr_N hlt (by omega)]
          have e : laB (gt σ (b + 2)) (c + 1) = laB (gt σ (b + 2)) c ||| 0 := by
            show _ ||| (if decide (gt σ (b + 2) c = 1) = true then 2 ^ c else 0) = _
            rw [h]; rfl
          rw [e]
        · have := bShl_N (a := 1) (k := c) (by omega) (by omega) (by omega)
          rw [Nat.one_mul] at this
          rw [h, show (1 : Int) = ((1 : Nat) : Int) from rfl, this, bOr_N hlt (by omega)]
          have e : laB (gt σ (b + 2)) (c + 1) = laB (gt σ (b + 2)) c ||| 2 ^ c := by
            show _ ||| (if decide (gt σ (b + 2) c = 1) = true then 2 ^ c else 0) = _
            rw [h]; rfl
          rw [e]
      rw [e56_4]
      simp (disch := first | assumption | omega | (left; assumption) | (refine aok_mk ?_ ?_ ?_ <;> first | assumption | omega) | (simp only [fok_sr, aok_sr]; first | assumption | omega | (left; assumption) | (refine aok_mk ?_ ?_ ?_ <;> first | assumption | omega)) | (simp; done)) only [e56_0, e56_1, e56_2, e56_3, e56_5, e56_6, e56_9, e56_12, e56_13, e56_14, e56_17, e56_18, e56_21, e56_22, e56_23, e56_24, e56_25, e56_28, e56_31, e56_32, eq_self, ne_a, ne_b, ne_c, Nat.reduceEqDiff, lt0, bnd_ok, psh_I, psh_L, psh_R, psh_U, gt_sr, gr_sr, sk_sr, nn_sr, ↓reduceIte, Int.toNat_natCast, Int.reduceToNat, d2, hc', r7, e1, w1, w2]
      exact hih
  have h0 := loop (R * C) 0 (by omega)
  simp (disch := first | assumption | omega | (left; assumption) | (refine aok_mk ?_ ?_ ?_ <;> first | assumption | omega) | (simp only [fok_sr, aok_sr]; first | assumption | omega | (left; assumption) | (refine aok_mk ?_ ?_ ?_ <;> first | assumption | omega)) | (simp; done)) only [e56_0, e56_1, e56_2, e56_3, e56_5, e56_6, e56_9, e56_12, e56_13, e56_14, e56_17, e56_18, e56_21, e56_22, e56_23, e56_24, e56_25, e56_28, e56_31, e56_32, eq_self, ne_a, ne_b, ne_c, Nat.reduceEqDiff, lt0, bnd_ok, psh_I, psh_L, psh_R, psh_U, gt_sr, gr_sr, sk_sr, nn_sr, ↓reduceIte, Int.toNat_natCast, Int.reduceToNat]
  exact h0
def b2i (p : Bool) : Int := if p = true then 1 else 0
theorem b2i_or (p : Bool) : b2i p = 0 ∨ b2i p = 1 := by cases p <;> simp [b2i]
def anN (p : Nat → Bool) : Nat → Bool
  | 0 => false
  | n + 1 => anN p n || p n
def alN (p : Nat → Bool) : Nat → Bool
  | 0 => true
  | n + 1 => alN p n && p n
set_option maxRecDepth 100000 in
set_option maxHeartbeats 4000000 in
theorem c_isWanted {σ : St} {b c : Nat} (hb : bsh σ b) (hc : c < 24) : run 66 0 [vR b, vI (c : Int), vU, vU] [] σ = some (vI (b2i (anN (fun s => decide (gt σ (b + 5) (s * 24 + c) ≠ -1)) 4)), σ) := by
  have wa := fun (s : Nat) (hs : s < 4) => c_wants hb hs hc
  obtain ⟨hf, -⟩ := hb
  generalize hp : (fun s => decide (gt σ (b + 5) (s * 24 + c) ≠ -1)) = p
  have hps : ∀ s, p s = decide (gt σ (b + 5) (s * 24 + c) ≠ -1) := fun s => by rw [← hp]
  have loop : ∀ (m s : Nat), s + m = 4 → run 66 4 [vR b, vI (c : Int), vI (b2i (anN p s)), vI (s : Int)] [] σ = some (vI (b2i (anN p 4)), σ) := by
    intro m
    induction m with
    | zero =>
      intro s hs
      have hc' : ¬ (s : Int) < 4 := by omega
      rw [e66_4]
      simp (disch := first | (exact b2i_or _) | first | assumption | omega | (left; assumption) | (refine aok_mk ?_ ?_ ?_ <;> first | assumption | omega) | (simp only [fok_sr, aok_sr]; first | assumption | omega | (left; assumption) | (refine aok_mk ?_ ?_ ?_ <;> first | assumption | omega)) | (simp; done)) only [e66_0, e66_1, e66_2, e66_3, e66_5, e66_6, e66_9, e66_10, e66_13, e66_14, e66_15, e66_16, e66_19, e66_20, e66_23, e66_24, e66_27, e66_28, e66_29, e66_32, e66_35, e66_36, eq_self, ne_a, ne_b, ne_c, Nat.reduceEqDiff, lt0, bnd_ok, psh_I, psh_L, psh_R, psh_U, gt_sr, gr_sr, sk_sr, nn_sr, ↓reduceIte, Int.toNat_natCast, Int.reduceToNat, hc']
      rw [show s = 4 by omega]
    | succ m ih =>
      intro s hs
      have hc' : (s : Int) < 4 := by omega
      have w1 := wr_p (show s ≤ 100000 by omega)
      have e1 := wa s (by omega)
      have hih := ih (s + 1) (by omega)
      have e2 : anN p (s + 1) = (anN p s || p s) := rfl
      rw [e2, hps s] at hih
      rw [e66_4]
      cases h : anN p s with
      | true =>
        rw [h, Bool.true_or] at hih
        simp (disch := first | assumption | omega | (left; assumption) | (refine aok_mk ?_ ?_ ?_ <;> first | assumption | omega) | (simp only [fok_sr, aok_sr]; first | assumption | omega | (left; assumption) | (refine aok_mk ?_ ?_ ?_ <;> first | assumption | omega)) | (simp; done)) only [e66_0, e66_1, e66_2, e66_3, e66_5, e66_6, e66_9, e66_10, e66_13, e66_14, e66_15, e66_16, e66_19, e66_20, e66_23, e66_24, e66_27, e66_28, e66_29, e66_32, e66_35, e66_36, eq_self, ne_a, ne_b, ne_c, Nat.reduceEqDiff, lt0, bnd_ok, psh_I, psh_L, psh_R, psh_U, gt_sr, gr_sr, sk_sr, nn_sr, ↓reduceIte, Int.toNat_natCast, Int.reduceToNat, hc', w1, b2i, Int.reduceEq] at hih ⊢
        exact hih
      | false =>
        rw [h, Bool.false_or] at hih
        by_cases h2 : gt σ (b + 5) (s * 24 + c) = -1
        · rw [h2] at e1
          simp (disch := first | assumption | omega | (left; assumption) | (refine aok_mk ?_ ?_ ?_ <;> first | assumption | omega) | (simp only [fok_sr, aok_sr]; first | assumption | omega | (left; assumption) | (refine aok_mk ?_ ?_ ?_ <;> first | assumption | omega)) | (simp; done)) only [e66_0, e66_1, e66_2, e66_3, e66_5, e66_6, e66_9, e66_10, e66_13, e66_14, e66_15, e66_16, e66_19, e66_20, e66_23, e66_24, e66_27, e66_28, e66_29, e66_32, e66_35, e66_36, eq_self, ne_a, ne_b, ne_c, Nat.reduceEqDiff, lt0, bnd_ok, psh_I, psh_L, psh_R, psh_U, gt_sr, gr_sr, sk_sr, nn_sr, ↓reduceIte, Int.toNat_natCast, Int.reduceToNat, hc', w1, e1, h2, b2i, Int.reduceEq, ne_eq, not_true_eq_false, decide_false, Bool.false_eq_true] at hih ⊢
          exact hih
        · simp (disch := first | assumption | omega | (left; assumption) | (refine aok_mk ?_ ?_ ?_ <;> first | assumption | omega) | (simp only [fok_sr, aok_sr]; first | assumption | omega | (left; assumption) | (refine aok_mk ?_ ?_ ?_ <;> first | assumption | omega)) | (simp; done)) only [e66_0, e66_1, e66_2, e66_3, e66_5, e66_6, e66_9, e66_10, e66_13, e66_14, e66_15, e66_16, e66_19, e66_20, e66_23, e66_24, e66_27, e66_28, e66_29, e66_32, e66_35, e66_36, eq_self, ne_a, ne_b, ne_c, Nat.reduceEqDiff, lt0, bnd_ok, psh_I, psh_L, psh_R, psh_U, gt_sr, gr_sr, sk_sr, nn_sr, ↓reduceIte, Int.toNat_natCast, Int.reduceToNat, hc', w1, e1, h2, b2i, Int.reduceEq, ne_eq, not_false_eq_true, decide_true, Bool.false_eq_true] at hih ⊢
          exact hih
  have h0 := loop 4 0 (by omega)
  simp (disch := first | assumption | omega | (left; assumption) | (refine aok_mk ?_ ?_ ?_ <;> first | assumption | omega) | (simp only [fok_sr, aok_sr]; first | assumption | omega | (left; assumption) | (refine aok_mk ?_ ?_ ?_ <;> first | assumption | omega)) | (simp; done)) only [e66_0, e66_1, e66_2, e66_3, e66_5, e66_6, e66_9, e66_10, e66_13, e66_14, e66_15, e66_16, e66_19, e66_20, e66_23, e66_24, e66_27, e66_28, e66_29, e66_32, e66_35, e66_36, eq_self, ne_a, ne_b, ne_c, Nat.reduceEqDiff, lt0, bnd_ok, psh_I, psh_L, psh_R, psh_U, gt_sr, gr_sr, sk_sr, nn_sr, ↓reduceIte, Int.toNat_natCast, Int.reduceToNat]
  exact h0
/-- how many acts one cell takes; one that there is not takes too many -/
def aca (t : Nat → Int) (sl : Int) (j v : Int) : Int := if j = -1 then 1000000 else if v + sl < lv t j then 1 else mx (v - sl - lv t j)
theorem aca_bd {t : Nat → Int} (ht : tk t) {sl j v : Int} (h0 : 0 ≤ sl) (h3 : sl ≤ 3) (v0 : -1 ≤ v) (v9 : v ≤ 9) : 0 ≤ aca t sl j v ∧ aca t sl j v ≤ 1000000 := by
  have hl : 0 ≤ lv t j ∧ lv t j ≤ 9 := by
    unfold lv
    split
    · exact ht _ (by omega)
    · omega
  unfold aca mx
  split
  · omega
  · split
    · omega
    · split <;> omega
set_option maxRecDepth 100000 in
set_option maxHeartbeats 4000000 in
theorem c_actsAt {σ : St} {b : Nat} (hb : bsh σ b) (ht : tk (gt σ (b + 1))) (hsl : 0 ≤ gt σ b 4 ∧ gt σ b 4 ≤ 3) (j : Int) {v : Int} (hv : -1 ≤ v ∧ v ≤ 9) : run 37 0 [vR b, vI j, vI v, vU] [] σ = some (vI (aca (gt σ (b + 1)) (gt σ b 4) j v), σ) := by
  have hl : 0 ≤ lv (gt σ (b + 1)) j ∧ lv (gt σ (b + 1)) j ≤ 9 := by
    unfold lv
    split
    · exact ht _ (by omega)
    · omega
  obtain ⟨hf, ⟨r6, r7, r8, r9, r10, r11, r12⟩, i1, i2, i3, i4, i5, i6, i7⟩ := hb
  have a1 := c_at24 i1 j
  have w1 : wr (v + gt σ b 4) = v + gt σ b 4 := wr_r (by omega) (by omega)
  have w2 : wr (v - gt σ b 4) = v - gt σ b 4 := wr_r (by omega) (by omega)
  have w3 : wr (v - gt σ b 4 - lv (gt σ (b + 1)) j) = v - gt σ b 4 - lv (gt σ (b + 1)) j := wr_r (by omega) (by omega)
  unfold aca
  by_cases h1 : j = -1
  · simp (disch := first | assumption | omega | (left; assumption) | (refine aok_mk ?_ ?_ ?_ <;> first | assumption | omega) | (simp only [fok_sr, aok_sr]; first | assumption | omega | (left; assumption) | (refine aok_mk ?_ ?_ ?_ <;> first | assumption | omega)) | (simp; done)) only [e37_0, e37_1, e37_2, e37_5, e37_7, e37_8, e37_9, e37_12, e37_13, e37_16, e37_17, e37_18, e37_19, e37_20, e37_23, e37_24, e37_27, e37_28, e37_31, e37_32, e37_33, e37_34, e37_37, e37_38, e37_39, e37_40, e37_43, eq_self, ne_a, ne_b, ne_c, Nat.reduceEqDiff, lt0, bnd_ok, psh_I, psh_L, psh_R, psh_U, gt_sr, gr_sr, sk_sr, nn_sr, ↓reduceIte, Int.toNat_natCast, Int.reduceToNat, h1]
  · by_cases h2 : v + gt σ b 4 < lv (gt σ (b + 1)) j
    · simp (disch := first | assumption | omega | (left; assumption) | (refine aok_mk ?_ ?_ ?_ <;> first | assumption | omega) | (simp only [fok_sr, aok_sr]; first | assumption | omega | (left; assumption) | (refine aok_mk ?_ ?_ ?_ <;> first | assumption | omega)) | (simp; done)) only [e37_0, e37_1, e37_2, e37_5, e37_7, e37_8, e37_9, e37_12, e37_13, e37_16, e37_17, e37_18, e37_19, e37_20, e37_23, e37_24, e37_27, e37_28, e37_31, e37_32, e37_33, e37_34, e37_37, e37_38, e37_39, e37_40, e37_43, eq_self, ne_a, ne_b, ne_c, Nat.reduceEqDiff, lt0, bnd_ok, psh_I, psh_L, psh_R, psh_U, gt_sr, gr_sr, sk_sr, nn_sr, ↓reduceIte, Int.toNat_natCast, Int.reduceToNat, h1, r6, a1, w1, h2]
    · simp (disch := first | assumption | omega | (left; assumption) | (refine aok_mk ?_ ?_ ?_ <;> first | assumption | omega) | (simp only [fok_sr, aok_sr]; first | assumption | omega | (left; assumption) | (refine aok_mk ?_ ?_ ?_ <;> first | assumption | omega)) | (simp; done)) only [e37_0, e37_1, e37_2, e37_5, e37_7, e37_8, e37_9, e37_12, e37_13, e37_16, e37_17, e37_18, e37_19, e37_20, e37_23, e37_24, e37_27, e37_28, e37_31, e37_32, e37_33, e37_34, e37_37, e37_38, e37_39, e37_40, e37_43, eq_self, ne_a, ne_b, ne_c, Nat.reduceEqDiff, lt0, bnd_ok, psh_I, psh_L, psh_R, psh_U, gt_sr, gr_sr, sk_sr, nn_sr, ↓reduceIte, Int.toNat_natCast, Int.reduceToNat, h1, r6, a1, w1, h2, w2, w3]
      rfl
def wan (wa : Nat → Int) : Prop := ∀ i, i < 96 → -1 ≤ wa i ∧ wa i ≤ 9
/-- how many acts a shape takes in one cell, moved -/
def acf (R C : Nat) (t wa : Nat → Int) (sl : Int) (s : Nat) (dn on : Int) (r k : Nat) : Int := if wa (s * 24 + (r * C + k)) = -1 then 0 else aca t sl (cat R C ((r : Int) + dn) ((k : Int) + on)) (wa (s * 24 + (r * C + k)))
def acs (R C : Nat) (t wa : Nat → Int) (sl : Int) (s : Nat) (dn on : Int) (n : Nat) : Int := smN (fun c => acf R C t wa sl s dn on (c / C) (c % C)) n
theorem acf_bd {R C : Nat} {t wa : Nat → Int} (ht : tk t) (hw : wan wa) {sl : Int} (h0 : 0 ≤ sl) (h3 : sl ≤ 3) {s : Nat} (hs : s < 4) (dn on : Int) {r k : Nat} (hrk : r * C + k < 24) : 0 ≤ acf R C t wa sl s dn on r k ∧ acf R C t wa sl s dn on r k ≤ 1000000 := by
  unfold acf
  split
  · omega
  · have := hw (s * 24 + (r * C + k)) (by omega)
    exact aca_bd ht h0 h3 this.1 this.2
theorem acs_s {R C : Nat} {t wa : Nat → Int} {sl : Int} {s : Nat} {dn on : Int} {r k : Nat} (hk : k < C) : acs R C t wa sl s dn on (r * C + k) + acf R C t wa sl s dn on r k = acs R C t wa sl s dn on (r * C + (k + 1)) := by
  show _ = acs R C t wa sl s dn on (r * C + k) + acf R C t wa sl s dn on ((r * C + k) / C) ((r * C + k) % C)
  rw [(rk_dm hk).1, (rk_dm hk).2]
theorem acs_bd {R C : Nat} {t wa : Nat → Int} (ht : tk t) (hw : wan wa) {sl : Int} (h0 : 0 ≤ sl) (h3 : sl ≤ 3) {s : Nat} (hs : s < 4) (dn on : Int) {n : Nat} (hn : n ≤ 24) : 0 ≤ acs R C t wa sl s dn on n ∧ acs R C t wa sl s dn on n ≤ 24000000 := by
  have := smN_bd (f := fun c => acf R C t wa sl s dn on (c / C) (c % C)) (lo := 0) (hi := 1000000) (n := n) (fun i hi => acf_bd ht hw h0 h3 hs dn on (by
    have := Nat.div_add_mod i C
    rw [Nat.mul_comm] at this
    omega))
  unfold acs
  omega
set_option maxRecDepth 100000 in
set_option maxHeartbeats 4000000 in
theorem c_actsS {σ : St} {b R C s r k : Nat} (hb : bsh σ b) (hd : dim σ b R C) (ht : tk (gt σ (b + 1))) (hw : wan (gt σ (b + 5))) (hsl : 0 ≤ gt σ b 4 ∧ gt σ b 4 ≤ 3) (hs : s < 4) (hr : r < R) (hk : k < C) {dn on : Int} (hdn : -3 ≤ dn ∧ dn ≤ 3) (hon : -5 ≤ on ∧ on ≤ 5)
    {z : Int} (hz : 0 ≤ z ∧ z ≤ 24000000) (q7 : AV) : ∃ q7', run 36 18 [vR b, vI (s : Int), vI dn, vI on, vI z, vI r, vI k, q7] [] σ = run 36 18 [vR b, vI (s : Int), vI dn, vI on, vI (z + acf R C (gt σ (b + 1)) (gt σ (b + 5)) (gt σ b 4) s dn on r k), vI r, vI ((k + 1 : Nat) : Int), q7'] [] σ := by
  have hle := dim_le hd
  obtain ⟨hlt, hlt4, hr1, hk1⟩ := rk_lt hle hr hk
  have hc' : (k : Int) < (C : Int) := by omega
  have hww := hw (s * 24 + (r * C + k)) (by omega)
  have hac := acf_bd ht hw hsl.1 hsl.2 hs (R := R) dn on hlt4
  have w1 := wr_p hk1
  have w2 : wr ((r : Int) + dn) = (r : Int) + dn := wr_id (by omega) (by omega)
  have w3 : wr ((k : Int) + on) = (k : Int) + on := wr_id (by omega) (by omega)
  have w4 : wr (z + acf R C (gt σ (b + 1)) (gt σ (b + 5)) (gt σ b 4) s dn on r k) = z + acf R C (gt σ (b + 1)) (gt σ (b + 5)) (gt σ b 4) s dn on r k := wr_id (by omega) (by omega)
  have hwr := wr_rk hle hr hk
  have a1 := c_wants hb hs hlt4
  have a2 := c_cellAt hb hd ((r : Int) + dn) ((k : Int) + on)
  have a3 := c_actsAt hb ht hsl (cat R C ((r : Int) + dn) ((k : Int) + on)) hww
  obtain ⟨hf, -⟩ := hb
  obtain ⟨d0, d1, -⟩ := hd
  clear hle hlt hlt4 hr1 hk1 hww hac hw ht
  unfold acf at w4 ⊢
  by_cases h : gt σ (b + 5) (s * 24 + (r * C + k)) = -1
  · refine ⟨vI (-1), (e36_18 _ _ _ _ _ _ _ _ _ _).trans ?_⟩
    rw [h] at a1
    simp (disch := first | assumption | omega | (left; assumption) | (refine aok_mk ?_ ?_ ?_ <;> first | assumption | omega) | (simp only [fok_sr, aok_sr]; first | assumption | omega | (left; assumption) | (refine aok_mk ?_ ?_ ?_ <;> first | assumption | omega)) | (simp; done)) only [e36_0, e36_1, e36_3, e36_4, e36_8, e36_9, e36_12, e36_15, e36_16, e36_20, e36_21, e36_24, e36_27, e36_28, e36_29, e36_31, e36_32, e36_35, e36_36, e36_38, e36_39, e36_42, e36_44, e36_46, e36_47, e36_50, e36_52, e36_53, e36_54, e36_56, e36_57, e36_58, e36_60, e36_61, e36_62, e36_65, e36_67, e36_70, e36_71, e36_73, e36_76, e36_79, e36_82, e36_85, e36_87, eq_self, ne_a, ne_b, ne_c, Nat.reduceEqDiff, lt0, bnd_ok, psh_I, psh_L, psh_R, psh_U, gt_sr, gr_sr, sk_sr, nn_sr, ↓reduceIte, Int.toNat_natCast, Int.reduceToNat, d1, hc', hwr, a1, w1, h, Int.add_zero]
  · rw [if_neg h] at w4 ⊢
    refine ⟨vI (gt σ (b + 5) (s * 24 + (r * C + k))), (e36_18 _ _ _ _ _ _ _ _ _ _).trans ?_⟩
    simp (disch := first | assumption | omega | (left; assumption) | (refine aok_mk ?_ ?_ ?_ <;> first | assumption | omega) | (simp only [fok_sr, aok_sr]; first | assumption | omega | (left; assumption) | (refine aok_mk ?_ ?_ ?_ <;> first | assumption | omega)) | (simp; done)) only [e36_0, e36_1, e36_3, e36_4, e36_8, e36_9, e36_12, e36_15, e36_16, e36_20, e36_21, e36_24, e36_27, e36_28, e36_29, e36_31, e36_32, e36_35, e36_36, e36_38, e36_39, e36_42, e36_44, e36_46, e36_47, e36_50, e36_52, e36_53, e36_54, e36_56, e36_57, e36_58, e36_60, e36_61, e36_62, e36_65, e36_67, e36_70, e36_71, e36_73, e36_76, e36_79, e36_82, e36_85, e36_87, eq_self, ne_a, ne_b, ne_c, Nat.reduceEqDiff, lt0, bnd_ok, psh_I, psh_L, psh_R, psh_U, gt_sr, gr_sr, sk_sr, nn_sr, ↓reduceIte, Int.toNat_natCast, Int.reduceToNat, d1, hc', hwr, a1, w1, w2, w3, h, a2, a3, w4]
set_option maxRecDepth 100000 in
set_option maxHeartbeats 4000000 in
theorem c_acts {σ : St} {b R C s : Nat} (hb : bsh σ b) (hd : dim σ b R C) (ht : tk (gt σ (b + 1))) (hw : wan (gt σ (b + 5))) (hsl : 0 ≤ gt σ b 4 ∧ gt σ b 4 ≤ 3) (hs : s < 4) {dn on : Int} (hdn : -3 ≤ dn ∧ dn ≤ 3) (hon : -5 ≤ on ∧ on ≤ 5) :
    run 36 0 [vR b, vI (s : Int), vI dn, vI on, vU, vU, vU, vU] [] σ = some (vI (acs R C (gt σ (b + 1)) (gt σ (b + 5)) (gt σ b 4) s dn on (R * C)), σ) := by
  have hle := dim_le hd
  have aS := fun (r k : Nat) (hr : r < R) (hk : k < C) (z : Int) hz q7 => c_actsS hb hd ht hw hsl hs hr hk hdn hon (z := z) hz q7
  have bd := fun (n : Nat) (hn : n ≤ 24) => acs_bd (R := R) (C := C) ht hw hsl.1 hsl.2 hs dn on hn
  have hR4 : R ≤ 4 := hd.2.2.2.2.1
  obtain ⟨hf, -⟩ := hb
  obtain ⟨d0, d1, d2, -⟩ := hd
  clear ht hw
  generalize hA : acs R C (gt σ (b + 1)) (gt σ (b + 5)) (gt σ b 4) s dn on = A at *
  have hAs : ∀ r k, k < C → A (r * C + k) + acf R C (gt σ (b + 1)) (gt σ (b + 5)) (gt σ b 4) s dn on r k = A (r * C + (k + 1)) := fun r k hk => by rw [← hA]; exact acs_s hk
  have inner : ∀ (r : Nat), r < R → ∀ (X : Res), (∀ q7, run 36 79 [vR b, vI (s : Int), vI dn, vI on, vI (A (r * C + C)), vI r, vI C, q7] [] σ = X) → ∀ (m k : Nat), k + m = C → ∀ q7, run 36 18 [vR b, vI (s : Int), vI dn, vI on, vI (A (r * C + k)), vI r, vI k, q7] [] σ = X := by
    intro r hr X hX m
    induction m with
    | zero =>
      intro k hk q7
      have hc' : ¬ (k : Int) < (C : Int) := by omega
      rw [e36_18]
      simp (disch := first | assumption | omega | (left; assumption) | (refine aok_mk ?_ ?_ ?_ <;> first | assumption | omega) | (simp only [fok_sr, aok_sr]; first | assumption | omega | (left; assumption) | (refine aok_mk ?_ ?_ ?_ <;> first | assumption | omega)) | (simp; done)) only [e36_0, e36_1, e36_3, e36_4, e36_8, e36_9, e36_12, e36_15, e36_16, e36_20, e36_21, e36_24, e36_27, e36_28, e36_29, e36_31, e36_32, e36_35, e36_36, e36_38, e36_39, e36_42, e36_44, e36_46, e36_47, e36_50, e36_52, e36_53, e36_54, e36_56, e36_57, e36_58, e36_60, e36_61, e36_62, e36_65, e36_67, e36_70, e36_71, e36_73, e36_76, e36_82, e36_85, e36_87, eq_self, ne_a, ne_b, ne_c, Nat.reduceEqDiff, lt0, bnd_ok, psh_I, psh_L, psh_R, psh_U, gt_sr, gr_sr, sk_sr, nn_sr, ↓reduceIte, Int.toNat_natCast, Int.reduceToNat, d1, hc']
      rw [show k = C by omega]
      exact hX _
    | succ m ih =>
      intro k hk q7
      have hlt := (rk_lt hle hr (show k < C by omega)).2.1
      obtain ⟨q7', e⟩ := aS r k hr (by omega) (A (r * C + k)) (bd _ (by omega)) q7
      rw [e, hAs r k (by omega)]
      exact ih (k + 1) (by omega) _
  have outer : ∀ (m r : Nat), r + m = R → ∀ q6 q7, run 36 6 [vR b, vI (s : Int), vI dn, vI on, vI (A (r * C)), vI r, q6, q7] [] σ = some (vI (A (R * C)), σ) := by
    intro m
    induction m with
    | zero =>
      intro r hr q6 q7
      have hc' : ¬ (r : Int) < (R : Int) := by omega
      rw [e36_6]
      simp (disch := first | assumption | omega | (left; assumption) | (refine aok_mk ?_ ?_ ?_ <;> first | assumption | omega) | (simp only [fok_sr, aok_sr]; first | assumption | omega | (left; assumption) | (refine aok_mk ?_ ?_ ?_ <;> first | assumption | omega)) | (simp; done)) only [e36_0, e36_1, e36_3, e36_4, e36_8, e36_9, e36_12, e36_15, e36_16, e36_20, e36_21, e36_24, e36_27, e36_28, e36_29, e36_31, e36_32, e36_35, e36_36, e36_38, e36_39, e36_42, e36_44, e36_46, e36_47, e36_50, e36_52, e36_53, e36_54, e36_56, e36_57, e36_58, e36_60, e36_61, e36_62, e36_65, e36_67, e36_70, e36_71, e36_73, e36_76, e36_79, e36_82, e36_85, e36_87, eq_self, ne_a, ne_b, ne_c, Nat.reduceEqDiff, lt0, bnd_ok, psh_I, psh_L, psh_R, psh_U, gt_sr, gr_sr, sk_sr, nn_sr, ↓reduceIte, Int.toNat_natCast, Int.reduceToNat, d0, hc']
      rw [show r = R by omega]
    | succ m ih =>
      intro r hr q6 q7
      have hc' : (r : Int) < (R : Int) := by omega
      have w1 := wr_p (show r ≤ 100000 by omega)
      rw [e36_6]
      simp (disch := first | assumption | omega | (left; assumption) | (refine aok_mk ?_ ?_ ?_ <;> first | assumption | omega) | (simp only [fok_sr, aok_sr]; first | assumption | omega | (left; assumption) | (refine aok_mk ?_ ?_ ?_ <;> first | assumption | omega)) | (simp; done)) only [e36_0, e36_1, e36_3, e36_4, e36_8, e36_9, e36_12, e36_15, e36_16, e36_20, e36_21, e36_24, e36_27, e36_28, e36_29, e36_31, e36_32, e36_35, e36_36, e36_38, e36_39, e36_42, e36_44, e36_46, e36_47, e36_50, e36_52, e36_53, e36_54, e36_56, e36_57, e36_58, e36_60, e36_61, e36_62, e36_65, e36_67, e36_70, e36_71, e36_73, e36_76, e36_79, e36_82, e36_85, e36_87, eq_self, ne_a, ne_b, ne_c, Nat.reduceEqDiff, lt0, bnd_ok, psh_I, psh_L, psh_R, psh_U, gt_sr, gr_sr, sk_sr, nn_sr, ↓reduceIte, Int.toNat_natCast, Int.reduceToNat, d0, hc']
      refine inner r (by omega) _ (fun q7 => ?_) C 0 (by omega) q7
      have hih := ih (r + 1) (by omega) (vI C) q7
      rw [Nat.add_mul, Nat.one_mul] at hih
      simp (disch := first | assumption | omega | (left; assumption) | (refine aok_mk ?_ ?_ ?_ <;> first | assumption | omega) | (simp only [fok_sr, aok_sr]; first | assumption | omega | (left; assumption) | (refine aok_mk ?_ ?_ ?_ <;> first | assumption | omega)) | (simp; done)) only [e36_0, e36_1, e36_3, e36_4, e36_8, e36_9, e36_12, e36_15, e36_16, e36_20, e36_21, e36_24, e36_27, e36_28, e36_29, e36_31, e36_32, e36_35, e36_36, e36_38, e36_39, e36_42, e36_44, e36_46, e36_47, e36_50, e36_52, e36_53, e36_54, e36_56, e36_57, e36_58, e36_60, e36_61, e36_62, e36_65, e36_67, e36_70, e36_71, e36_73, e36_76, e36_79, e36_82, e36_85, e36_87, eq_self, ne_a, ne_b, ne_c, Nat.reduceEqDiff, lt0, bnd_ok, psh_I, psh_L, psh_R, psh_U, gt_sr, gr_sr, sk_sr, nn_sr, ↓reduceIte, Int.toNat_natCast, Int.reduceToNat, w1]
      exact hih
  have h0 := outer R 0 (by omega) vU vU
  have hz : A 0 = 0 := by rw [← hA]; rfl
  rw [Nat.zero_mul, hz] at h0
  simp (disch := first | assumption | omega | (left; assumption) | (refine aok_mk ?_ ?_ ?_ <;> first | assumption | omega) | (simp only [fok_sr, aok_sr]; first | assumption | omega | (left; assumption) | (refine aok_mk ?_ ?_ ?_ <;> first | assumption | omega)) | (simp; done)) only [e36_0, e36_1, e36_3, e36_4, e36_8, e36_9, e36_12, e36_15, e36_16, e36_20, e36_21, e36_24, e36_27, e36_28, e36_29, e36_31, e36_32, e36_35, e36_36, e36_38, e36_39, e36_42, e36_44, e36_46, e36_47, e36_50, e36_52, e36_53, e36_54, e36_56, e36_57, e36_58, e36_60, e36_61, e36_62, e36_65, e36_67, e36_70, e36_71, e36_73, e36_76, e36_79, e36_82, e36_85, e36_87, eq_self, ne_a, ne_b, ne_c, Nat.reduceEqDiff, lt0, bnd_ok, psh_I, psh_L, psh_R, psh_U, gt_sr, gr_sr, sk_sr, nn_sr, ↓reduceIte, Int.toNat_natCast, Int.reduceToNat]
  exact h0
/-- a shape stands: it takes no act -/
def hol (R C : Nat) (t wa : Nat → Int) (sl : Int) (s : Nat) : Bool := decide (acs R C t wa sl s 0 0 (R * C) = 0)
set_option maxRecDepth 100000 in
set_option maxHeartbeats 4000000 in
theorem c_holds {σ : St} {b R C s : Nat} (hb : bsh σ b) (hd : dim σ b R C) (ht : tk (gt σ (b + 1))) (hw : wan (gt σ (b + 5))) (hsl : 0 ≤ gt σ b 4 ∧ gt σ b 4 ≤ 3) (hs : s < 4) : run 35 0 [vR b, vI (s : Int)] [] σ = some (vI (b2i (hol R C (gt σ (b + 1)) (gt σ (b + 5)) (gt σ b 4) s)), σ) := by
  have a1 := c_acts hb hd ht hw hsl hs (dn := 0) (on := 0) (by omega) (by omega)
  obtain ⟨hf, -⟩ := hb
  unfold hol b2i
  by_cases h : acs R C (gt σ (b + 1)) (gt σ (b + 5)) (gt σ b 4) s 0 0 (R * C) = 0
  · rw [h] at a1
    simp (disch := first | (right; rfl) | first | assumption | omega | (left; assumption) | (refine aok_mk ?_ ?_ ?_ <;> first | assumption | omega) | (simp only [fok_sr, aok_sr]; first | assumption | omega | (left; assumption) | (refine aok_mk ?_ ?_ ?_ <;> first | assumption | omega)) | (simp; done)) only [e35_0, e35_1, e35_2, e35_3, e35_4, e35_7, e35_10, e35_11, e35_14, e35_15, eq_self, ne_a, ne_b, ne_c, Nat.reduceEqDiff, lt0, bnd_ok, psh_I, psh_L, psh_R, psh_U, gt_sr, gr_sr, sk_sr, nn_sr, ↓reduceIte, Int.toNat_natCast, Int.reduceToNat, a1, h, decide_true]
  · simp (disch := first | (left; rfl) | first | assumption | omega | (left; assumption) | (refine aok_mk ?_ ?_ ?_ <;> first | assumption | omega) | (simp only [fok_sr, aok_sr]; first | assumption | omega | (left; assumption) | (refine aok_mk ?_ ?_ ?_ <;> first | assumption | omega)) | (simp; done)) only [e35_0, e35_1, e35_2, e35_3, e35_4, e35_7, e35_10, e35_11, e35_14, e35_15, eq_self, ne_a, ne_b, ne_c, Nat.reduceEqDiff, lt0, bnd_ok, psh_I, psh_L, psh_R, psh_U, gt_sr, gr_sr, sk_sr, nn_sr, ↓reduceIte, Int.toNat_natCast, Int.reduceToNat, a1, h, decide_false, Bool.false_eq_true]
