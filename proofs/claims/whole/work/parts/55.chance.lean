/-! winds by chance -/
theorem wl_id {z : Int} (h1 : -9223372036854775808 ≤ z) (h2 : z < 9223372036854775808) : wl z = z := by
  rw [wl_def]
  exact Int.bmod_eq_of_le (by omega) (by omega)
theorem lCmp_0 (x : Nat) : lCmp (x : Int) 0 = if x = 0 then 0 else 1 := by
  unfold lCmp
  rw [if_neg (by omega)]
  by_cases h : x = 0
  · rw [if_pos h, if_pos (by omega)]
  · rw [if_neg h, if_neg (by omega)]
theorem pow_8 {b n : Nat} (hb : b ≤ 10) (hn : n ≤ 8) : b ^ n ≤ 100000000 := Nat.le_trans (Nat.pow_le_pow_left hb n) (Nat.le_trans (Nat.pow_le_pow_right (by omega) hn) (by decide))
set_option maxRecDepth 100000 in
set_option maxHeartbeats 4000000 in
theorem c_power {b n : Nat} (hb : b ≤ 10) (hn : n ≤ 8) (σ : St) : run 81 0 [vI (b : Int), vI (n : Int), vU, vU, vU] [] σ = some (vL (b ^ n : Nat), σ) := by
  have L : run 81 5 [vI (b : Int), vI (n : Int), vL (b ^ 0 : Nat), vH, vI 0] [] σ = some (vL (b ^ n : Nat), σ) := by
    refine bk (P := fun k z => run 81 5 [vI (b : Int), vI (n : Int), vL (b ^ k : Nat), vH, vI z] [] σ = some (vL (b ^ n : Nat), σ)) (n := n) ?_ ?_
    · have h4 : ¬ ((n : Nat) : Int) < ((n : Nat) : Int) := by omega
      rw [e81_5]
      simp (disch := first | assumption | omega | (exact shp_fok (by first | assumption | exact shp_sr _ _ (by assumption) | exact shp_sr _ _ (shp_sr _ _ (by assumption)) | exact shp_sr _ _ (shp_sr _ _ (shp_sr _ _ (by assumption)))) (by decide)) | (simp only [fok_sr, aok_sr]; first | assumption | (exact shp_fok (by first | assumption | exact shp_sr _ _ (by assumption) | exact shp_sr _ _ (shp_sr _ _ (by assumption)) | exact shp_sr _ _ (shp_sr _ _ (shp_sr _ _ (by assumption)))) (by decide))) | (refine shp_aok (by first | assumption | exact shp_sr _ _ (by assumption) | exact shp_sr _ _ (shp_sr _ _ (by assumption)) | exact shp_sr _ _ (shp_sr _ _ (shp_sr _ _ (by assumption)))) rfl rfl ?_ ?_ <;> omega) | (exact shp_sr _ _ (by assumption)) | (exact shp_sr _ _ (shp_sr _ _ (by assumption))) | (exact shp_sr _ _ (shp_sr _ _ (shp_sr _ _ (by assumption)))) | (left; assumption) | (exact b2i_or _) | (simp; done)) only [e81_0, e81_1, e81_2, e81_3, e81_7, e81_8, e81_11, e81_12, e81_13, e81_14, e81_15, e81_16, e81_19, e81_22, e81_23, eq_self, ne_a, ne_b, ne_c, Nat.reduceEqDiff, lt0, bnd_ok, psh_I, psh_L, psh_R, psh_U, gt_sr, gr_sr, sk_sr, nn_sr, ↓reduceIte, Int.toNat_natCast, Int.reduceToNat, h4]
    · intro k hk hk' ih
      have w5 : wr ((k : Int) + 1) = (k : Int) + 1 := wr_id (by omega) (by omega)
      have h8 := pow_8 hb (show k + 1 ≤ 8 by omega)
      have w6 : wl (((b ^ k : Nat) : Int) * (b : Int)) = ((b ^ (k + 1) : Nat) : Int) := by
        have e9 : ((b ^ k : Nat) : Int) * (b : Int) = ((b ^ (k + 1) : Nat) : Int) := by rw [Nat.pow_succ, Int.natCast_mul]
        rw [e9]
        exact wl_id (by omega) (by omega)
      rw [e81_5]
      simp (disch := first | assumption | omega | (exact shp_fok (by first | assumption | exact shp_sr _ _ (by assumption) | exact shp_sr _ _ (shp_sr _ _ (by assumption)) | exact shp_sr _ _ (shp_sr _ _ (shp_sr _ _ (by assumption)))) (by decide)) | (simp only [fok_sr, aok_sr]; first | assumption | (exact shp_fok (by first | assumption | exact shp_sr _ _ (by assumption) | exact shp_sr _ _ (shp_sr _ _ (by assumption)) | exact shp_sr _ _ (shp_sr _ _ (shp_sr _ _ (by assumption)))) (by decide))) | (refine shp_aok (by first | assumption | exact shp_sr _ _ (by assumption) | exact shp_sr _ _ (shp_sr _ _ (by assumption)) | exact shp_sr _ _ (shp_sr _ _ (shp_sr _ _ (by assumption)))) rfl rfl ?_ ?_ <;> omega) | (exact shp_sr _ _ (by assumption)) | (exact shp_sr _ _ (shp_sr _ _ (by assumption))) | (exact shp_sr _ _ (shp_sr _ _ (shp_sr _ _ (by assumption)))) | (left; assumption) | (exact b2i_or _) | (simp; done)) only [e81_0, e81_1, e81_2, e81_3, e81_7, e81_8, e81_11, e81_12, e81_13, e81_14, e81_15, e81_16, e81_19, e81_22, e81_23, eq_self, ne_a, ne_b, ne_c, Nat.reduceEqDiff, lt0, bnd_ok, psh_I, psh_L, psh_R, psh_U, gt_sr, gr_sr, sk_sr, nn_sr, ↓reduceIte, Int.toNat_natCast, Int.reduceToNat, hk', w6, w5]
      exact ih
  simp (disch := first | assumption | omega | (exact shp_fok (by first | assumption | exact shp_sr _ _ (by assumption) | exact shp_sr _ _ (shp_sr _ _ (by assumption)) | exact shp_sr _ _ (shp_sr _ _ (shp_sr _ _ (by assumption)))) (by decide)) | (simp only [fok_sr, aok_sr]; first | assumption | (exact shp_fok (by first | assumption | exact shp_sr _ _ (by assumption) | exact shp_sr _ _ (shp_sr _ _ (by assumption)) | exact shp_sr _ _ (shp_sr _ _ (shp_sr _ _ (by assumption)))) (by decide))) | (refine shp_aok (by first | assumption | exact shp_sr _ _ (by assumption) | exact shp_sr _ _ (shp_sr _ _ (by assumption)) | exact shp_sr _ _ (shp_sr _ _ (shp_sr _ _ (by assumption)))) rfl rfl ?_ ?_ <;> omega) | (exact shp_sr _ _ (by assumption)) | (exact shp_sr _ _ (shp_sr _ _ (by assumption))) | (exact shp_sr _ _ (shp_sr _ _ (shp_sr _ _ (by assumption)))) | (left; assumption) | (exact b2i_or _) | (simp; done)) only [e81_0, e81_1, e81_2, e81_3, e81_7, e81_8, e81_11, e81_12, e81_13, e81_14, e81_15, e81_16, e81_19, e81_22, e81_23, eq_self, ne_a, ne_b, ne_c, Nat.reduceEqDiff, lt0, bnd_ok, psh_I, psh_L, psh_R, psh_U, gt_sr, gr_sr, sk_sr, nn_sr, ↓reduceIte, Int.toNat_natCast, Int.reduceToNat]
  exact L
/-- the weight of one way that so many hours can go -/
def wgF (t x k : Nat) : Nat := t ^ ctN x.testBit k * (10 - t) ^ (k - ctN x.testBit k)
theorem wgF_s (t x k : Nat) : wgF t x (k + 1) = wgF t x k * (if x.testBit k = true then t else 10 - t) := by
  have h1 := (ct_mono x.testBit 0 k).2
  have h0 : ctN x.testBit 0 = 0 := rfl
  rw [Nat.zero_add] at h1
  have e : ctN x.testBit (k + 1) = ctN x.testBit k + (if x.testBit k = true then 1 else 0) := rfl
  unfold wgF
  rw [e]
  cases x.testBit k with
  | true =>
    rw [if_pos rfl, if_pos rfl, Nat.pow_succ, show k + 1 - (ctN x.testBit k + 1) = k - ctN x.testBit k by omega, Nat.mul_right_comm]
  | false =>
    rw [if_neg Bool.false_ne_true, if_neg Bool.false_ne_true, Nat.add_zero, show k + 1 - ctN x.testBit k = (k - ctN x.testBit k) + 1 by omega, Nat.pow_succ, Nat.mul_assoc]
theorem wgF_le {t : Nat} (ht : t ≤ 10) (x : Nat) : ∀ k, k ≤ 8 → wgF t x k ≤ 10 ^ k
  | 0, _ => by unfold wgF; exact Nat.le_refl _
  | k + 1, hk => by
    rw [wgF_s, Nat.pow_succ]
    refine Nat.mul_le_mul (wgF_le ht x k (by omega)) ?_
    split <;> omega
/-- hours that go as a way says -/
def pwH (d : Dat) (x : Nat) : Nat → Dat
  | 0 => d
  | i + 1 => pas (pwH d x i) (if x.testBit i = true then 1 else 5)
theorem ok_pw {d : Dat} (h : okd d) (x : Nat) : ∀ n, okd (pwH d x n)
  | 0 => h
  | n + 1 => ok_pas (ok_pw h x n) _
theorem pw_fog (x : Nat) (d : Dat) : ∀ n, pwH d x n = fog d (dt (pwH d x n)) (dla d)
  | 0 => rfl
  | n + 1 => by
    have ih := pw_fog x d n
    show pas (pwH d x n) (if x.testBit n = true then 1 else 5) = fog d (dt (pas (pwH d x n) (if x.testBit n = true then 1 else 5))) (dla d)
    generalize (if x.testBit n = true then (1 : Int) else 5) = h
    generalize dt (pwH d x n) = t at ih
    rw [ih]
    rfl
def hsH (d : Dat) (s m x : Nat) : Bool := hoD (pwH d x m) s
/-- the weight of all ways below that stand -/
def upF (d : Dat) (s t m : Nat) : Nat → Nat
  | 0 => 0
  | x + 1 => upF d s t m x + (if hsH d s m x = true then wgF t x m else 0)
theorem upF_leB {d : Dat} {s t m B : Nat} (hB : ∀ x, wgF t x m ≤ B) : ∀ x, upF d s t m x ≤ x * B
  | 0 => Nat.zero_le _
  | x + 1 => by
    have ih := upF_leB (d := d) (s := s) hB x
    have h1 := hB x
    show upF d s t m x + (if hsH d s m x = true then wgF t x m else 0) ≤ (x + 1) * B
    rw [Nat.succ_mul]
    split <;> omega
theorem upF_le {d : Dat} {s t m : Nat} (ht : t ≤ 10) (hm : m ≤ 8) (x : Nat) : upF d s t m x ≤ x * 100000000 := upF_leB (fun y => Nat.le_trans (wgF_le ht y m hm) (pow_8 (Nat.le_refl 10) hm)) x
theorem pc_ct {x m : Nat} (hx : x < 2 ^ m) (hm : m ≤ 24) : pcN x = (ctN x.testBit m : Int) := by
  rw [pc_low hx hm, ct_sum]
  rfl
set_option maxRecDepth 100000 in
set_option maxHeartbeats 8000000 in
set_option maxRecDepth 100000 in
set_option maxHeartbeats 4000000 in
theorem c_tenths {σ : St} {d : Dat} {cn : Nat} {sg : Nat → Int} (h : CS σ d cn sg) {s t m : Nat} (hs4 : s < 4) (ht : t ≤ 10) (hm : m ≤ 8) : ∃ σ', run 80 0 [vR 1, vI (s : Int), vI (t : Int), vI (m : Int), vU, vU, vU, vU, vU, vU, vU] [] σ = some (vL (upF d s t m (2 ^ m) : Nat), σ') ∧ chg SW σ σ' ∧ jb σ' 10 := by
  obtain ⟨a1, a5, a6, a7⟩ := id h
  have hs := a1.1
  obtain ⟨σ1, e1, c1, r1⟩ := c_copyAll a7 a5 a6 (by omega)
  have b1 := rep_chg c1 (b := 2) (by intro i hi _; simp; omega) a5
  have s1 := shp_chg c1 hs
  have hm2 : 2 ^ m ≤ 256 := Nat.le_trans (Nat.pow_le_pow_right (i := m) (j := 8) (by omega) hm) (by decide)
  have hm1 : 1 ≤ 2 ^ m := Nat.one_le_two_pow
  have o1 := bShl_N (a := 1) (k := m) (by omega) (by omega) (by omega)
  rw [Nat.one_mul, show ((1 : Nat) : Int) = 1 from rfl] at o1
  have hup := upF_le (d := d) (s := s) ht hm
  have L : ∀ q7 q8 q9 q10 τ, shp τ → rep τ 2 d → trR τ d → ∃ τ', run 80 17 [vR 1, vI (s : Int), vI (t : Int), vI (m : Int), vL (upF d s t m 0 : Nat), vH, vI 0, q7, q8, q9, q10] [] τ = some (vL (upF d s t m (2 ^ m) : Nat), τ') ∧ chg SW τ τ' ∧ jb τ' 10 := by
    refine bk (P := fun x z => ∀ q7 q8 q9 q10 τ, shp τ → rep τ 2 d → trR τ d → ∃ τ', run 80 17 [vR 1, vI (s : Int), vI (t : Int), vI (m : Int), vL (upF d s t m x : Nat), vH, vI z, q7, q8, q9, q10] [] τ = some (vL (upF d s t m (2 ^ m) : Nat), τ') ∧ chg SW τ τ' ∧ jb τ' 10) (n := 2 ^ m) ?_ ?_
    · intro q7 q8 q9 q10 τ ht0 hr htr
      have h4 : ¬ ((2 ^ m : Nat) : Int) < ((2 ^ m : Nat) : Int) := by omega
      refine ⟨τ, ?_, chg_rf _ _, trR_jb htr⟩
      rw [e80_17]
      simp (disch := first | assumption | omega | (exact shp_fok (by first | assumption | exact shp_sr _ _ (by assumption) | exact shp_sr _ _ (shp_sr _ _ (by assumption)) | exact shp_sr _ _ (shp_sr _ _ (shp_sr _ _ (by assumption)))) (by decide)) | (simp only [fok_sr, aok_sr]; first | assumption | (exact shp_fok (by first | assumption | exact shp_sr _ _ (by assumption) | exact shp_sr _ _ (shp_sr _ _ (by assumption)) | exact shp_sr _ _ (shp_sr _ _ (shp_sr _ _ (by assumption)))) (by decide))) | (refine shp_aok (by first | assumption | exact shp_sr _ _ (by assumption) | exact shp_sr _ _ (shp_sr _ _ (by assumption)) | exact shp_sr _ _ (shp_sr _ _ (shp_sr _ _ (by assumption)))) rfl rfl ?_ ?_ <;> omega) | (exact shp_sr _ _ (by assumption)) | (exact shp_sr _ _ (shp_sr _ _ (by assumption))) | (exact shp_sr _ _ (shp_sr _ _ (shp_sr _ _ (by assumption)))) | (left; assumption) | (exact b2i_or _) | (simp; done)) only [e80_19, e80_20, e80_21, e80_22, e80_136, e80_138, eq_self, ne_a, ne_b, ne_c, Nat.reduceEqDiff, lt0, bnd_ok, psh_I, psh_L, psh_R, psh_U, gt_sr, gr_sr, sk_sr, nn_sr, ↓reduceIte, Int.toNat_natCast, Int.reduceToNat, o1, h4]
    · intro x hx hx' ih q7 q8 q9 q10 τ ht0 hr htr
      have w5 : wr ((x : Int) + 1) = (x : Int) + 1 := wr_id (by omega) (by omega)
      have b2 := c_bitCount (a := x) (by omega) τ
      rw [pc_ct hx (by omega)] at b2
      have hct := (ct_mono x.testBit 0 m).2
      have h0 : ctN x.testBit 0 = 0 := rfl
      rw [Nat.zero_add] at hct
      have p1 := c_power ht (show ctN x.testBit m ≤ 8 by omega) τ
      have p2 := c_power (show 10 - t ≤ 10 by omega) (show m - ctN x.testBit m ≤ 8 by omega) τ
      have w6 : wr (10 - (t : Int)) = ((10 - t : Nat) : Int) := by rw [wr_id (by omega) (by omega)]; omega
      have w7 : wr ((m : Int) - (ctN x.testBit m : Int)) = ((m - ctN x.testBit m : Nat) : Int) := by rw [wr_id (by omega) (by omega)]; omega
      have hwg : ((t ^ ctN x.testBit m : Nat) : Int) * (((10 - t) ^ (m - ctN x.testBit m) : Nat) : Int) = ((wgF t x m : Nat) : Int) := by rw [← Int.natCast_mul]; rfl
      have hwl := wgF_le ht x m hm
      have h8 := pow_8 (Nat.le_refl 10) hm
      have w8 : wl (((t ^ ctN x.testBit m : Nat) : Int) * (((10 - t) ^ (m - ctN x.testBit m) : Nat) : Int)) = ((wgF t x m : Nat) : Int) := by rw [hwg]; exact wl_id (by omega) (by omega)
      have hus : upF d s t m (x + 1) = upF d s t m x + (if hsH d s m x = true then wgF t x m else 0) := rfl
      have hu1 := hup x
      have hcm := lCmp_0 (wgF t x m)
      by_cases hz : wgF t x m = 0
      · rw [if_pos hz] at hcm
        have hus' : upF d s t m (x + 1) = upF d s t m x := by rw [hus, hz]; split <;> omega
        obtain ⟨τ', e9, c9, j9⟩ := ih (vI (ctN x.testBit m : Nat)) (vL (wgF t x m : Nat)) vH q10 τ ht0 hr htr
        rw [hus'] at e9
        refine ⟨τ', ?_, c9, j9⟩
        rw [e80_17]
        simp (disch := first | assumption | omega | (exact shp_fok (by first | assumption | exact shp_sr _ _ (by assumption) | exact shp_sr _ _ (shp_sr _ _ (by assumption)) | exact shp_sr _ _ (shp_sr _ _ (shp_sr _ _ (by assumption)))) (by decide)) | (simp only [fok_sr, aok_sr]; first | assumption | (exact shp_fok (by first | assumption | exact shp_sr _ _ (by assumption) | exact shp_sr _ _ (shp_sr _ _ (by assumption)) | exact shp_sr _ _ (shp_sr _ _ (shp_sr _ _ (by assumption)))) (by decide))) | (refine shp_aok (by first | assumption | exact shp_sr _ _ (by assumption) | exact shp_sr _ _ (shp_sr _ _ (by assumption)) | exact shp_sr _ _ (shp_sr _ _ (shp_sr _ _ (by assumption)))) rfl rfl ?_ ?_ <;> omega) | (exact shp_sr _ _ (by assumption)) | (exact shp_sr _ _ (shp_sr _ _ (by assumption))) | (exact shp_sr _ _ (shp_sr _ _ (shp_sr _ _ (by assumption)))) | (left; assumption) | (exact b2i_or _) | (simp; done)) only [e80_19, e80_20, e80_21, e80_22, e80_25, e80_27, e80_30, e80_32, e80_33, e80_35, e80_38, e80_40, e80_41, e80_42, e80_43, e80_45, e80_46, e80_49, e80_50, e80_52, e80_54, e80_55, e80_56, e80_130, e80_133, eq_self, ne_a, ne_b, ne_c, Nat.reduceEqDiff, lt0, bnd_ok, psh_I, psh_L, psh_R, psh_U, gt_sr, gr_sr, sk_sr, nn_sr, ↓reduceIte, Int.toNat_natCast, Int.reduceToNat, o1, hx', b2, p1, p2, w6, w7, w8, hcm, w5]
        exact e9
      · rw [if_neg hz] at hcm
        obtain ⟨τ1, e2, c2, r2⟩ := c_copyFogT hr a6 htr
        have t2 := shp_chg c2 ht0
        have inner : ∀ τ1, shp τ1 → rep τ1 10 (pwH d x 0) → ∃ τ', run 80 73 [vR 1, vI (s : Int), vI (t : Int), vI (m : Int), vL (upF d s t m x : Nat), vH, vI (x : Int), vI (ctN x.testBit m : Nat), vL (wgF t x m : Nat), vH, vI 0] [] τ1 = run 80 108 [vR 1, vI (s : Int), vI (t : Int), vI (m : Int), vL (upF d s t m x : Nat), vH, vI (x : Int), vI (ctN x.testBit m : Nat), vL (wgF t x m : Nat), vH, vI (m : Int)] [] τ' ∧ chg [11, 14] τ1 τ' ∧ rep τ' 10 (pwH d x m) := by
          refine bk (P := fun i z => ∀ τ1, shp τ1 → rep τ1 10 (pwH d x i) → ∃ τ', run 80 73 [vR 1, vI (s : Int), vI (t : Int), vI (m : Int), vL (upF d s t m x : Nat), vH, vI (x : Int), vI (ctN x.testBit m : Nat), vL (wgF t x m : Nat), vH, vI z] [] τ1 = run 80 108 [vR 1, vI (s : Int), vI (t : Int), vI (m : Int), vL (upF d s t m x : Nat), vH, vI (x : Int), vI (ctN x.testBit m : Nat), vL (wgF t x m : Nat), vH, vI (m : Int)] [] τ' ∧ chg [11, 14] τ1 τ' ∧ rep τ' 10 (pwH d x m)) (n := m) ?_ ?_
          · intro τ1 q1 q2
            have h4 : ¬ ((m : Nat) : Int) < ((m : Nat) : Int) := by omega
            refine ⟨τ1, ?_, chg_rf _ _, q2⟩
            rw [e80_73]
            simp (disch := first | assumption | omega | (exact shp_fok (by first | assumption | exact shp_sr _ _ (by assumption) | exact shp_sr _ _ (shp_sr _ _ (by assumption)) | exact shp_sr _ _ (shp_sr _ _ (shp_sr _ _ (by assumption)))) (by decide)) | (simp only [fok_sr, aok_sr]; first | assumption | (exact shp_fok (by first | assumption | exact shp_sr _ _ (by assumption) | exact shp_sr _ _ (shp_sr _ _ (by assumption)) | exact shp_sr _ _ (shp_sr _ _ (shp_sr _ _ (by assumption)))) (by decide))) | (refine shp_aok (by first | assumption | exact shp_sr _ _ (by assumption) | exact shp_sr _ _ (shp_sr _ _ (by assumption)) | exact shp_sr _ _ (shp_sr _ _ (shp_sr _ _ (by assumption)))) rfl rfl ?_ ?_ <;> omega) | (exact shp_sr _ _ (by assumption)) | (exact shp_sr _ _ (shp_sr _ _ (by assumption))) | (exact shp_sr _ _ (shp_sr _ _ (shp_sr _ _ (by assumption)))) | (left; assumption) | (exact b2i_or _) | (simp; done)) only [e80_75, e80_76, eq_self, ne_a, ne_b, ne_c, Nat.reduceEqDiff, lt0, bnd_ok, psh_I, psh_L, psh_R, psh_U, gt_sr, gr_sr, sk_sr, nn_sr, ↓reduceIte, Int.toNat_natCast, Int.reduceToNat, h4]
          · intro i hi hi' ih2 τ1 q1 q2
            have w9 : wr ((i : Int) + 1) = (i : Int) + 1 := wr_id (by omega) (by omega)
            have w10 := bit_N (a := x) (k := i) (by omega) (by omega)
            have hps : pwH d x (i + 1) = pas (pwH d x i) (if x.testBit i = true then 1 else 5) := rfl
            have ok1 := ok_pw a6 x i
            rw [hps] at ih2
            cases hb : x.testBit i with
            | true =>
              have e8 : bt x i = 1 := by unfold bt; rw [hb, if_pos rfl]
              rw [hb, if_pos rfl] at ih2
              obtain ⟨τ2, e3, c3, r3⟩ := c_passR q2 ok1 (h := 1) (by omega) (by omega)
              obtain ⟨τ3, e4, c4, r4⟩ := ih2 τ2 (shp_chg c3 q1) r3
              refine ⟨τ3, ?_, chg_tr c3 c4 (fun _ h => h), r4⟩
              rw [← e4, e80_73]
              simp (disch := first | assumption | omega | (exact shp_fok (by first | assumption | exact shp_sr _ _ (by assumption) | exact shp_sr _ _ (shp_sr _ _ (by assumption)) | exact shp_sr _ _ (shp_sr _ _ (shp_sr _ _ (by assumption)))) (by decide)) | (simp only [fok_sr, aok_sr]; first | assumption | (exact shp_fok (by first | assumption | exact shp_sr _ _ (by assumption) | exact shp_sr _ _ (shp_sr _ _ (by assumption)) | exact shp_sr _ _ (shp_sr _ _ (shp_sr _ _ (by assumption)))) (by decide))) | (refine shp_aok (by first | assumption | exact shp_sr _ _ (by assumption) | exact shp_sr _ _ (shp_sr _ _ (by assumption)) | exact shp_sr _ _ (shp_sr _ _ (shp_sr _ _ (by assumption)))) rfl rfl ?_ ?_ <;> omega) | (exact shp_sr _ _ (by assumption)) | (exact shp_sr _ _ (shp_sr _ _ (by assumption))) | (exact shp_sr _ _ (shp_sr _ _ (shp_sr _ _ (by assumption)))) | (left; assumption) | (exact b2i_or _) | (simp; done)) only [e80_75, e80_76, e80_79, e80_80, e80_83, e80_85, e80_87, e80_88, e80_89, e80_90, e80_91, e80_94, e80_95, e80_98, e80_99, e80_102, e80_105, eq_self, ne_a, ne_b, ne_c, Nat.reduceEqDiff, lt0, bnd_ok, psh_I, psh_L, psh_R, psh_U, gt_sr, gr_sr, sk_sr, nn_sr, ↓reduceIte, Int.toNat_natCast, Int.reduceToNat, hi', g1_1, w10, e8, e3, w9]
            | false =>
              have e8 : bt x i = 0 := by unfold bt; rw [hb]; rfl
              rw [hb, if_neg Bool.false_ne_true] at ih2
              obtain ⟨τ2, e3, c3, r3⟩ := c_passR q2 ok1 (h := 5) (by omega) (by omega)
              obtain ⟨τ3, e4, c4, r4⟩ := ih2 τ2 (shp_chg c3 q1) r3
              refine ⟨τ3, ?_, chg_tr c3 c4 (fun _ h => h), r4⟩
              rw [← e4, e80_73]
              simp (disch := first | assumption | omega | (exact shp_fok (by first | assumption | exact shp_sr _ _ (by assumption) | exact shp_sr _ _ (shp_sr _ _ (by assumption)) | exact shp_sr _ _ (shp_sr _ _ (shp_sr _ _ (by assumption)))) (by decide)) | (simp only [fok_sr, aok_sr]; first | assumption | (exact shp_fok (by first | assumption | exact shp_sr _ _ (by assumption) | exact shp_sr _ _ (shp_sr _ _ (by assumption)) | exact shp_sr _ _ (shp_sr _ _ (shp_sr _ _ (by assumption)))) (by decide))) | (refine shp_aok (by first | assumption | exact shp_sr _ _ (by assumption) | exact shp_sr _ _ (shp_sr _ _ (by assumption)) | exact shp_sr _ _ (shp_sr _ _ (shp_sr _ _ (by assumption)))) rfl rfl ?_ ?_ <;> omega) | (exact shp_sr _ _ (by assumption)) | (exact shp_sr _ _ (shp_sr _ _ (by assumption))) | (exact shp_sr _ _ (shp_sr _ _ (shp_sr _ _ (by assumption)))) | (left; assumption) | (exact b2i_or _) | (simp; done)) only [e80_75, e80_76, e80_79, e80_80, e80_83, e80_85, e80_87, e80_88, e80_89, e80_90, e80_91, e80_94, e80_95, e80_98, e80_99, e80_102, e80_105, eq_self, ne_a, ne_b, ne_c, Nat.reduceEqDiff, lt0, bnd_ok, psh_I, psh_L, psh_R, psh_U, gt_sr, gr_sr, sk_sr, nn_sr, ↓reduceIte, Int.toNat_natCast, Int.reduceToNat, hi', g1_1, w10, e8, e3, w9, Int.reduceEq]
        obtain ⟨τ2, e3, c3, r3⟩ := inner τ1 t2 r2
        have o3 := ok_pw a6 x m
        have e4 := c_holdsR r3 o3 hs4
        have c23 : chg SW τ τ2 := chg_tr (chg_mo c2 (by decide)) c3 (by decide)
        have t3 := shp_chg c23 ht0
        have tr3 : trR τ2 d := by
          have e := pw_fog x d m
          generalize dt (pwH d x m) = T at e
          rw [e] at r3 o3
          exact ⟨T, dla d, r3, o3⟩
        have hr3 := rep_chg c23 (b := 2) (by intro i hi _; simp [SW]; omega) hr
        obtain ⟨τ3, e5, c5, j5⟩ := ih (vI (ctN x.testBit m : Nat)) (vL (wgF t x m : Nat)) vH (vI (m : Int)) τ2 t3 hr3 tr3
        refine ⟨τ3, ?_, chg_tr c23 c5 (fun _ h => h), j5⟩
        have hd : run 80 17 [vR 1, vI (s : Int), vI (t : Int), vI (m : Int), vL (upF d s t m x : Nat), vH, vI (x : Int), q7, q8, q9, q10] [] τ = run 80 108 [vR 1, vI (s : Int), vI (t : Int), vI (m : Int), vL (upF d s t m x : Nat), vH, vI (x : Int), vI (ctN x.testBit m : Nat), vL (wgF t x m : Nat), vH, vI (m : Int)] [] τ2 := by
          rw [← e3, e80_17]
          simp (disch := first | assumption | omega | (exact shp_fok (by first | assumption | exact shp_sr _ _ (by assumption) | exact shp_sr _ _ (shp_sr _ _ (by assumption)) | exact shp_sr _ _ (shp_sr _ _ (shp_sr _ _ (by assumption)))) (by decide)) | (simp only [fok_sr, aok_sr]; first | assumption | (exact shp_fok (by first | assumption | exact shp_sr _ _ (by assumption) | exact shp_sr _ _ (shp_sr _ _ (by assumption)) | exact shp_sr _ _ (shp_sr _ _ (shp_sr _ _ (by assumption)))) (by decide))) | (refine shp_aok (by first | assumption | exact shp_sr _ _ (by assumption) | exact shp_sr _ _ (shp_sr _ _ (by assumption)) | exact shp_sr _ _ (shp_sr _ _ (shp_sr _ _ (by assumption)))) rfl rfl ?_ ?_ <;> omega) | (exact shp_sr _ _ (by assumption)) | (exact shp_sr _ _ (shp_sr _ _ (by assumption))) | (exact shp_sr _ _ (shp_sr _ _ (shp_sr _ _ (by assumption)))) | (left; assumption) | (exact b2i_or _) | (simp; done)) only [e80_19, e80_20, e80_21, e80_22, e80_25, e80_27, e80_30, e80_32, e80_33, e80_35, e80_38, e80_40, e80_41, e80_42, e80_43, e80_45, e80_46, e80_49, e80_50, e80_52, e80_54, e80_55, e80_56, e80_59, e80_60, e80_63, e80_64, e80_67, e80_70, e80_71, eq_self, ne_a, ne_b, ne_c, Nat.reduceEqDiff, lt0, bnd_ok, psh_I, psh_L, psh_R, psh_U, gt_sr, gr_sr, sk_sr, nn_sr, ↓reduceIte, Int.toNat_natCast, Int.reduceToNat, o1, hx', b2, p1, p2, w6, w7, w8, hcm, g1_0, g1_1, e2, Int.reduceLT]
        rw [hd]
        have hsd : hsH d s m x = hoD (pwH d x m) s := rfl
        rw [← hsd] at e4
        cases hg : hsH d s m x with
        | true =>
          rw [hg] at e4
          rw [hg, if_pos rfl] at hus
          have w11 : wl ((upF d s t m x : Int) + (wgF t x m : Int)) = ((upF d s t m (x + 1) : Nat) : Int) := by rw [hus, wl_id (by omega) (by omega)]; omega
          simp (disch := first | assumption | omega | (exact shp_fok (by first | assumption | exact shp_sr _ _ (by assumption) | exact shp_sr _ _ (shp_sr _ _ (by assumption)) | exact shp_sr _ _ (shp_sr _ _ (shp_sr _ _ (by assumption)))) (by decide)) | (simp only [fok_sr, aok_sr]; first | assumption | (exact shp_fok (by first | assumption | exact shp_sr _ _ (by assumption) | exact shp_sr _ _ (shp_sr _ _ (by assumption)) | exact shp_sr _ _ (shp_sr _ _ (shp_sr _ _ (by assumption)))) (by decide))) | (refine shp_aok (by first | assumption | exact shp_sr _ _ (by assumption) | exact shp_sr _ _ (shp_sr _ _ (by assumption)) | exact shp_sr _ _ (shp_sr _ _ (shp_sr _ _ (by assumption)))) rfl rfl ?_ ?_ <;> omega) | (exact shp_sr _ _ (by assumption)) | (exact shp_sr _ _ (shp_sr _ _ (by assumption))) | (exact shp_sr _ _ (shp_sr _ _ (shp_sr _ _ (by assumption)))) | (left; assumption) | (exact b2i_or _) | (simp; done)) only [e80_108, e80_110, e80_111, e80_114, e80_115, e80_118, e80_121, e80_123, e80_126, e80_127, e80_128, e80_130, e80_133, eq_self, ne_a, ne_b, ne_c, Nat.reduceEqDiff, lt0, bnd_ok, psh_I, psh_L, psh_R, psh_U, gt_sr, gr_sr, sk_sr, nn_sr, ↓reduceIte, Int.toNat_natCast, Int.reduceToNat, g1_1, e4, b2i_t, w11, w5, Int.reduceEq]
          exact e5
        | false =>
          rw [hg] at e4
          rw [hg, if_neg Bool.false_ne_true] at hus
          have w11 : wl ((upF d s t m x : Int) + 0) = ((upF d s t m (x + 1) : Nat) : Int) := by rw [hus, wl_id (by omega) (by omega)]; omega
          simp (disch := first | assumption | omega | (exact shp_fok (by first | assumption | exact shp_sr _ _ (by assumption) | exact shp_sr _ _ (shp_sr _ _ (by assumption)) | exact shp_sr _ _ (shp_sr _ _ (shp_sr _ _ (by assumption)))) (by decide)) | (simp only [fok_sr, aok_sr]; first | assumption | (exact shp_fok (by first | assumption | exact shp_sr _ _ (by assumption) | exact shp_sr _ _ (shp_sr _ _ (by assumption)) | exact shp_sr _ _ (shp_sr _ _ (shp_sr _ _ (by assumption)))) (by decide))) | (refine shp_aok (by first | assumption | exact shp_sr _ _ (by assumption) | exact shp_sr _ _ (shp_sr _ _ (by assumption)) | exact shp_sr _ _ (shp_sr _ _ (shp_sr _ _ (by assumption)))) rfl rfl ?_ ?_ <;> omega) | (exact shp_sr _ _ (by assumption)) | (exact shp_sr _ _ (shp_sr _ _ (by assumption))) | (exact shp_sr _ _ (shp_sr _ _ (shp_sr _ _ (by assumption)))) | (left; assumption) | (exact b2i_or _) | (simp; done)) only [e80_108, e80_110, e80_111, e80_114, e80_115, e80_118, e80_121, e80_123, e80_126, e80_127, e80_128, e80_130, e80_133, eq_self, ne_a, ne_b, ne_c, Nat.reduceEqDiff, lt0, bnd_ok, psh_I, psh_L, psh_R, psh_U, gt_sr, gr_sr, sk_sr, nn_sr, ↓reduceIte, Int.toNat_natCast, Int.reduceToNat, g1_1, e4, b2i_f, w11, w5]
          exact e5
  obtain ⟨σ2, e2, c2, j2⟩ := L vU vU vU vU σ1 s1 b1 ⟨dt d, dla d, r1, a6⟩
  refine ⟨σ2, ?_, chg_tr (chg_mo c1 (by decide)) c2 (fun _ h => h), j2⟩
  simp (disch := first | assumption | omega | (exact shp_fok (by first | assumption | exact shp_sr _ _ (by assumption) | exact shp_sr _ _ (shp_sr _ _ (by assumption)) | exact shp_sr _ _ (shp_sr _ _ (shp_sr _ _ (by assumption)))) (by decide)) | (simp only [fok_sr, aok_sr]; first | assumption | (exact shp_fok (by first | assumption | exact shp_sr _ _ (by assumption) | exact shp_sr _ _ (shp_sr _ _ (by assumption)) | exact shp_sr _ _ (shp_sr _ _ (shp_sr _ _ (by assumption)))) (by decide))) | (refine shp_aok (by first | assumption | exact shp_sr _ _ (by assumption) | exact shp_sr _ _ (shp_sr _ _ (by assumption)) | exact shp_sr _ _ (shp_sr _ _ (shp_sr _ _ (by assumption)))) rfl rfl ?_ ?_ <;> omega) | (exact shp_sr _ _ (by assumption)) | (exact shp_sr _ _ (shp_sr _ _ (by assumption))) | (exact shp_sr _ _ (shp_sr _ _ (shp_sr _ _ (by assumption)))) | (left; assumption) | (exact b2i_or _) | (simp; done)) only [e80_0, e80_1, e80_3, e80_4, e80_7, e80_8, e80_11, e80_14, e80_15, eq_self, ne_a, ne_b, ne_c, Nat.reduceEqDiff, lt0, bnd_ok, psh_I, psh_L, psh_R, psh_U, gt_sr, gr_sr, sk_sr, nn_sr, ↓reduceIte, Int.toNat_natCast, Int.reduceToNat, g1_0, g1_1, e1]
  exact e2
/-! lowest terms -/
def rd1 (p : Nat) (q : Nat × Nat) : Nat × Nat := if q.1 % p = 0 ∧ q.2 % p = 0 then (q.1 / p, q.2 / p) else q
def rdN (q : Nat × Nat) : Nat → Nat × Nat
  | 0 => q
  | i + 1 => rd1 5 (rd1 2 (rdN q i))
/-- what is left of the reduction: a common factor taken out; of the lower number twos and fives -/
def rdI (U m i : Nat) (q : Nat × Nat) : Prop := ∃ G x y, q.1 * G = U ∧ q.2 * G = 10 ^ m ∧ q.2 = 2 ^ x * 5 ^ y ∧ (x ≤ m - i ∨ ¬ 2 ∣ q.1) ∧ (y ≤ m - i ∨ ¬ 5 ∣ q.1) ∧ x ≤ m ∧ y ≤ m
theorem p25 (x y : Nat) : (2 ^ x * 5 ^ y) % 2 = 0 ↔ 0 < x := by
  constructor
  · intro h
    rcases Nat.eq_zero_or_pos x with e | e
    · subst e
      rw [Nat.pow_zero, Nat.one_mul] at h
      have : 5 ^ y % 2 = 1 := by
        rw [Nat.pow_mod]
        show 1 ^ y % 2 = 1
        rw [Nat.one_pow]
      omega
    · exact e
  · intro h
    obtain ⟨k, rfl⟩ : ∃ k, x = k + 1 := ⟨x - 1, by omega⟩
    rw [Nat.pow_succ, Nat.mul_comm (2 ^ k) 2, Nat.mul_assoc]
    exact Nat.mul_mod_right _ _
theorem p52 (x y : Nat) : (2 ^ x * 5 ^ y) % 5 = 0 ↔ 0 < y := by
  constructor
  · intro h
    rcases Nat.eq_zero_or_pos y with e | e
    · subst e
      rw [Nat.pow_zero, Nat.mul_one] at h
      have hc : Nat.Coprime 5 (2 ^ x) := Nat.Coprime.pow_right x (by decide)
      have := Nat.Coprime.eq_one_of_dvd hc (Nat.dvd_of_mod_eq_zero h)
      omega
    · exact e
  · intro h
    obtain ⟨k, rfl⟩ : ∃ k, y = k + 1 := ⟨y - 1, by omega⟩
    rw [Nat.pow_succ, ← Nat.mul_assoc]
    exact Nat.mul_mod_left _ _
theorem rdI_2 {U m i : Nat} {q : Nat × Nat} (h : rdI U m i q) : ∃ G x y, (rd1 2 q).1 * G = U ∧ (rd1 2 q).2 * G = 10 ^ m ∧ (rd1 2 q).2 = 2 ^ x * 5 ^ y ∧ (x ≤ m - (i + 1) ∨ ¬ 2 ∣ (rd1 2 q).1) ∧ (y ≤ m - i ∨ ¬ 5 ∣ (rd1 2 q).1) ∧ x ≤ m ∧ y ≤ m := by
  obtain ⟨G, x, y, h1, h2, h3, h4, h5, h6, h7⟩ := h
  unfold rd1
  by_cases hc : q.1 % 2 = 0 ∧ q.2 % 2 = 0
  · rw [if_pos hc]
    obtain ⟨c1, c2⟩ := hc
    have hx : 0 < x := (p25 x y).mp (by rw [← h3]; exact c2)
    obtain ⟨k, rfl⟩ : ∃ k, x = k + 1 := ⟨x - 1, by omega⟩
    have e1 : q.1 = 2 * (q.1 / 2) := by omega
    have e2 : q.2 = 2 * (q.2 / 2) := by omega
    refine ⟨2 * G, k, y, ?_, ?_, ?_, ?_, ?_, by omega, h7⟩
    · show q.1 / 2 * (2 * G) = U
      rw [← h1]
      conv => rhs; rw [e1]
      rw [Nat.mul_left_comm, Nat.mul_assoc]
    · show q.2 / 2 * (2 * G) = 10 ^ m
      rw [← h2]
      conv => rhs; rw [e2]
      rw [Nat.mul_left_comm, Nat.mul_assoc]
    · show q.2 / 2 = 2 ^ k * 5 ^ y
      have : 2 * (q.2 / 2) = 2 * (2 ^ k * 5 ^ y) := by rw [← e2, h3, Nat.pow_succ, Nat.mul_comm (2 ^ k) 2, Nat.mul_assoc]
      omega
    · rcases h4 with h4 | h4
      · exact Or.inl (by omega)
      · exact absurd (Nat.dvd_of_mod_eq_zero c1) h4
    · rcases h5 with h5 | h5
      · exact Or.inl h5
      · refine Or.inr (fun hd => h5 ?_)
        rw [e1]
        exact Nat.dvd_trans hd ⟨2, Nat.mul_comm _ _⟩
  · rw [if_neg hc]
    refine ⟨G, x, y, h1, h2, h3, ?_, h5, h6, h7⟩
    by_cases c1 : q.1 % 2 = 0
    · have c2 : ¬ q.2 % 2 = 0 := fun e => hc ⟨c1, e⟩
      have : ¬ 0 < x := fun e => c2 (by rw [h3]; exact (p25 x y).mpr e)
      exact Or.inl (by omega)
    · exact Or.inr (fun hd => c1 (Nat.mod_eq_zero_of_dvd hd))
theorem rdI_5 {U m i : Nat} {q : Nat × Nat} (h : ∃ G x y, q.1 * G = U ∧ q.2 * G = 10 ^ m ∧ q.2 = 2 ^ x * 5 ^ y ∧ (x ≤ m - (i + 1) ∨ ¬ 2 ∣ q.1) ∧ (y ≤ m - i ∨ ¬ 5 ∣ q.1) ∧ x ≤ m ∧ y ≤ m) : rdI U m (i + 1) (rd1 5 q) := by
  obtain ⟨G, x, y, h1, h2, h3, h4, h5, h6, h7⟩ := h
  unfold rd1 rdI
  by_cases hc : q.1 % 5 = 0 ∧ q.2 % 5 = 0
  · rw [if_pos hc]
    obtain ⟨c1, c2⟩ := hc
    have hx : 0 < y := (p52 x y).mp (by rw [← h3]; exact c2)
    obtain ⟨k, rfl⟩ : ∃ k, y = k + 1 := ⟨y - 1, by omega⟩
    have e1 : q.1 = 5 * (q.1 / 5) := by omega
    have e2 : q.2 = 5 * (q.2 / 5) := by omega
    refine ⟨5 * G, x, k, ?_, ?_, ?_, ?_, ?_, h6, by omega⟩
    · show q.1 / 5 * (5 * G) = U
      rw [← h1]
      conv => rhs; rw [e1]
      rw [Nat.mul_left_comm, Nat.mul_assoc]
    · show q.2 / 5 * (5 * G) = 10 ^ m
      rw [← h2]
      conv => rhs; rw [e2]
      rw [Nat.mul_left_comm, Nat.mul_assoc]
    · show q.2 / 5 = 2 ^ x * 5 ^ k
      have : 5 * (q.2 / 5) = 5 * (2 ^ x * 5 ^ k) := by rw [← e2, h3, Nat.pow_succ, ← Nat.mul_assoc, Nat.mul_comm _ 5]
      omega
    · rcases h4 with h4 | h4
      · exact Or.inl h4
      · refine Or.inr (fun hd => h4 ?_)
        rw [e1]
        exact Nat.dvd_trans hd ⟨5, Nat.mul_comm _ _⟩
    · rcases h5 with h5 | h5
      · exact Or.inl (by omega)
      · exact absurd (Nat.dvd_of_mod_eq_zero c1) h5
  · rw [if_neg hc]
    refine ⟨G, x, y, h1, h2, h3, h4, ?_, h6, h7⟩
    by_cases c1 : q.1 % 5 = 0
    · have c2 : ¬ q.2 % 5 = 0 := fun e => hc ⟨c1, e⟩
      have : ¬ 0 < y := fun e => c2 (by rw [h3]; exact (p52 x y).mpr e)
      exact Or.inl (by omega)
    · exact Or.inr (fun hd => c1 (Nat.mod_eq_zero_of_dvd hd))
theorem rdI_N (U m : Nat) : ∀ i, rdI U m i (rdN (U, 10 ^ m) i)
  | 0 => ⟨1, m, m, Nat.mul_one _, Nat.mul_one _, by rw [← Nat.mul_pow]; rfl, Or.inl (Nat.le_refl _), Or.inl (Nat.le_refl _), Nat.le_refl _, Nat.le_refl _⟩
  | i + 1 => rdI_5 (rdI_2 (rdI_N U m i))
theorem cop_p {u p : Nat} (hp : p = 2 ∨ p = 5) (h : ¬ p ∣ u) : Nat.Coprime u p := by
  have hd := Nat.gcd_dvd_right u p
  have hu := Nat.gcd_dvd_left u p
  unfold Nat.Coprime
  generalize Nat.gcd u p = g at *
  rcases hp with rfl | rfl
  · have h1 : g ≤ 2 := Nat.le_of_dvd (by decide) hd
    obtain rfl | rfl | rfl : g = 0 ∨ g = 1 ∨ g = 2 := by omega
    · exact absurd hd (by decide)
    · rfl
    · exact absurd hu h
  · have h1 : g ≤ 5 := Nat.le_of_dvd (by decide) hd
    obtain rfl | rfl | rfl | rfl | rfl | rfl : g = 0 ∨ g = 1 ∨ g = 2 ∨ g = 3 ∨ g = 4 ∨ g = 5 := by omega
    · exact absurd hd (by decide)
    · rfl
    · exact absurd hd (by decide)
    · exact absurd hd (by decide)
    · exact absurd hd (by decide)
    · exact absurd hu h
/-- the reduction is by the greatest common factor -/
theorem rdN_gcd (U m : Nat) : (rdN (U, 10 ^ m) m).1 = U / Nat.gcd U (10 ^ m) ∧ (rdN (U, 10 ^ m) m).2 = 10 ^ m / Nat.gcd U (10 ^ m) := by
  obtain ⟨G, x, y, h1, h2, h3, h4, h5, h6, h7⟩ := rdI_N U m m
  generalize rdN (U, 10 ^ m) m = q at *
  have hcop : Nat.gcd q.1 q.2 = 1 := by
    rw [h3]
    refine Nat.Coprime.mul_right ?_ ?_
    · rcases h4 with h4 | h4
      · obtain rfl : x = 0 := by omega
        exact Nat.coprime_one_right _
      · exact Nat.Coprime.pow_right _ (cop_p (Or.inl rfl) h4)
    · rcases h5 with h5 | h5
      · obtain rfl : y = 0 := by omega
        exact Nat.coprime_one_right _
      · exact Nat.Coprime.pow_right _ (cop_p (Or.inr rfl) h5)
  have hg : Nat.gcd U (10 ^ m) = G := by rw [← h1, ← h2, Nat.gcd_mul_right, hcop, Nat.one_mul]
  have hG : 0 < G := by
    rcases Nat.eq_zero_or_pos G with e | e
    · rw [e, Nat.mul_zero] at h2
      have := Nat.pow_pos (n := m) (show 0 < 10 by decide)
      omega
    · exact e
  rw [hg, ← h1, ← h2]
  exact ⟨(Nat.mul_div_cancel _ hG).symm, (Nat.mul_div_cancel _ hG).symm⟩
def x_chance (d : Dat) (s t m p : Int) : Int := if isS d s = true then (if (0 ≤ t ∧ t ≤ 10) ∧ (0 ≤ m ∧ m ≤ 8) ∧ (0 ≤ p ∧ p ≤ 1) then (if p = 0 then ((upF d s.toNat t.toNat m.toNat (2 ^ m.toNat) / Nat.gcd (upF d s.toNat t.toNat m.toNat (2 ^ m.toNat)) (10 ^ m.toNat) : Nat) : Int) else ((10 ^ m.toNat / Nat.gcd (upF d s.toNat t.toNat m.toNat (2 ^ m.toNat)) (10 ^ m.toNat) : Nat) : Int)) else -1000000000000000002) else -1000000000000000001
theorem l_ops {a b : Nat} (hb : 0 < b) (ha : a < 9223372036854775808) : (a : Int).tmod (b : Int) = ((a % b : Nat) : Int) ∧ (a : Int).tdiv (b : Int) = ((a / b : Nat) : Int) ∧ wl ((a % b : Nat) : Int) = ((a % b : Nat) : Int) ∧ wl ((a / b : Nat) : Int) = ((a / b : Nat) : Int) := by
  have h1 : a % b ≤ a := Nat.mod_le _ _
  have h2 : a / b ≤ a := Nat.div_le_self _ _
  refine ⟨by rw [Int.tmod_eq_emod_of_nonneg (by omega)]; rfl, by rw [Int.tdiv_eq_ediv_of_nonneg (by omega)]; rfl, ?_, ?_⟩
  · generalize a % b = v at *
    exact wl_id (by omega) (by omega)
  · generalize a / b = v at *
    exact wl_id (by omega) (by omega)
theorem rd1_le (p : Nat) (q : Nat × Nat) : (rd1 p q).1 ≤ q.1 ∧ (rd1 p q).2 ≤ q.2 := by
  unfold rd1
  split
  · exact ⟨Nat.div_le_self _ _, Nat.div_le_self _ _⟩
  · exact ⟨Nat.le_refl _, Nat.le_refl _⟩
theorem rdN_le (q : Nat × Nat) : ∀ i, (rdN q i).1 ≤ q.1 ∧ (rdN q i).2 ≤ q.2
  | 0 => ⟨Nat.le_refl _, Nat.le_refl _⟩
  | i + 1 => by
    have h1 := rdN_le q i
    have h2 := rd1_le 2 (rdN q i)
    have h3 := rd1_le 5 (rd1 2 (rdN q i))
    unfold rdN
    omega
set_option maxRecDepth 100000 in
set_option maxHeartbeats 8000000 in
set_option maxRecDepth 100000 in
set_option maxHeartbeats 4000000 in
theorem c_Fchance (s t m p : Int) (d : Dat) (cn : Nat) (sg : Nat → Int) : cla 79 [vR 1, vI s, vI t, vI m, vI p, vU, vU, vU, vU, vU] d cn sg (vL (x_chance d s t m p)) d cn sg := by
  intro σ h
  have q1 := c_isShape h s
  have hs := h.1.1
  unfold x_chance
  cases hS : isS d s with
  | false =>
    rw [hS] at q1
    refine ⟨σ, ?_, CS_rf h⟩
    simp (disch := first | assumption | omega | (exact shp_fok (by first | assumption | exact shp_sr _ _ (by assumption) | exact shp_sr _ _ (shp_sr _ _ (by assumption)) | exact shp_sr _ _ (shp_sr _ _ (shp_sr _ _ (by assumption)))) (by decide)) | (simp only [fok_sr, aok_sr]; first | assumption | (exact shp_fok (by first | assumption | exact shp_sr _ _ (by assumption) | exact shp_sr _ _ (shp_sr _ _ (by assumption)) | exact shp_sr _ _ (shp_sr _ _ (shp_sr _ _ (by assumption)))) (by decide))) | (refine shp_aok (by first | assumption | exact shp_sr _ _ (by assumption) | exact shp_sr _ _ (shp_sr _ _ (by assumption)) | exact shp_sr _ _ (shp_sr _ _ (shp_sr _ _ (by assumption)))) rfl rfl ?_ ?_ <;> omega) | (exact shp_sr _ _ (by assumption)) | (exact shp_sr _ _ (shp_sr _ _ (by assumption))) | (exact shp_sr _ _ (shp_sr _ _ (shp_sr _ _ (by assumption)))) | (left; assumption) | (exact b2i_or _) | (simp; done)) only [e79_0, e79_1, e79_2, e79_5, e79_8, e79_11, e79_12, e79_13, e79_14, e79_16, e79_19, e79_22, e79_23, e79_24, e79_26, e79_29, e79_32, e79_34, e79_35, e79_36, e79_39, e79_42, e79_45, e79_46, e79_47, e79_48, e79_49, e79_50, e79_53, e79_55, e79_57, e79_58, e79_61, e79_63, e79_64, e79_68, e79_69, e79_72, e79_74, e79_77, e79_78, e79_79, e79_80, e79_83, e79_85, e79_88, e79_89, e79_90, e79_91, e79_94, e79_96, e79_99, e79_100, e79_102, e79_104, e79_107, e79_108, e79_110, e79_112, e79_115, e79_116, e79_117, e79_118, e79_121, e79_123, e79_126, e79_127, e79_128, e79_129, e79_132, e79_134, e79_137, e79_138, e79_140, e79_142, e79_145, e79_146, e79_148, e79_151, e79_154, e79_156, e79_159, e79_161, e79_164, e79_166, eq_self, ne_a, ne_b, ne_c, Nat.reduceEqDiff, lt0, bnd_ok, psh_I, psh_L, psh_R, psh_U, gt_sr, gr_sr, sk_sr, nn_sr, ↓reduceIte, Int.toNat_natCast, Int.reduceToNat, q1, b2i_f, Bool.false_eq_true]
  | true =>
    rw [hS] at q1
    obtain ⟨s, rfl, hs4, -⟩ := isS_n hS
    rw [Int.toNat_natCast, if_pos rfl]
    by_cases h1 : 0 ≤ t ∧ t ≤ 10
    · by_cases h2 : 0 ≤ m ∧ m ≤ 8
      · by_cases h3 : 0 ≤ p ∧ p ≤ 1
        · rw [if_pos ⟨h1, h2, h3⟩]
          obtain ⟨t, rfl⟩ := nat_of h1.1
          obtain ⟨m, rfl⟩ := nat_of h2.1
          rw [Int.toNat_natCast, Int.toNat_natCast]
          obtain ⟨σ1, e1, c1, j1⟩ := c_tenths h hs4 (t := t) (m := m) (by omega) (by omega)
          have hup := upF_le (d := d) (s := s) (t := t) (m := m) (by omega) (by omega) (2 ^ m)
          have hm2 : 2 ^ m ≤ 256 := Nat.le_trans (Nat.pow_le_pow_right (i := m) (j := 8) (by omega) (by omega)) (by decide)
          obtain ⟨g1, g2⟩ := rdN_gcd (upF d s t m (2 ^ m)) m
          have hle := rdN_le (upF d s t m (2 ^ m), 10 ^ m)
          have hpw := pow_8 (Nat.le_refl 10) (show m ≤ 8 by omega)
          generalize upF d s t m (2 ^ m) = U at *
          have pw := c_power (b := 10) (n := m) (by omega) (by omega) σ1
          refine ⟨σ1, ?_, SC_mo c1 rfl, CS_sc h c1 (sub_SC _ rfl) (by rw [chg_gt c1 (by decide)]; exact h.1.2.1) j1⟩
          have ht1 := shp_chg c1 hs
          rw [← g1, ← g2]
          have L : run 79 66 [vR 1, vI (s : Int), vI (t : Int), vI (m : Int), vI p, vL ((rdN (U, 10 ^ m) 0).1 : Nat), vH, vL ((rdN (U, 10 ^ m) 0).2 : Nat), vH, vI 0] [] σ1 = some (vL (if p = 0 then ((rdN (U, 10 ^ m) m).1 : Int) else ((rdN (U, 10 ^ m) m).2 : Int)), σ1) := by
            refine bk (P := fun i z => run 79 66 [vR 1, vI (s : Int), vI (t : Int), vI (m : Int), vI p, vL ((rdN (U, 10 ^ m) i).1 : Nat), vH, vL ((rdN (U, 10 ^ m) i).2 : Nat), vH, vI z] [] σ1 = some (vL (if p = 0 then ((rdN (U, 10 ^ m) m).1 : Int) else ((rdN (U, 10 ^ m) m).2 : Int)), σ1)) (n := m) ?_ ?_
            · have h4 : ¬ ((m : Nat) : Int) < ((m : Nat) : Int) := by omega
              rw [e79_66]
              by_cases hp0 : p = 0
              · simp (disch := first | assumption | omega | (exact shp_fok (by first | assumption | exact shp_sr _ _ (by assumption) | exact shp_sr _ _ (shp_sr _ _ (by assumption)) | exact shp_sr _ _ (shp_sr _ _ (shp_sr _ _ (by assumption)))) (by decide)) | (simp only [fok_sr, aok_sr]; first | assumption | (exact shp_fok (by first | assumption | exact shp_sr _ _ (by assumption) | exact shp_sr _ _ (shp_sr _ _ (by assumption)) | exact shp_sr _ _ (shp_sr _ _ (shp_sr _ _ (by assumption)))) (by decide))) | (refine shp_aok (by first | assumption | exact shp_sr _ _ (by assumption) | exact shp_sr _ _ (shp_sr _ _ (by assumption)) | exact shp_sr _ _ (shp_sr _ _ (shp_sr _ _ (by assumption)))) rfl rfl ?_ ?_ <;> omega) | (exact shp_sr _ _ (by assumption)) | (exact shp_sr _ _ (shp_sr _ _ (by assumption))) | (exact shp_sr _ _ (shp_sr _ _ (shp_sr _ _ (by assumption)))) | (left; assumption) | (exact b2i_or _) | (simp; done)) only [e79_68, e79_69, e79_154, e79_156, e79_159, e79_161, e79_164, e79_166, eq_self, ne_a, ne_b, ne_c, Nat.reduceEqDiff, lt0, bnd_ok, psh_I, psh_L, psh_R, psh_U, gt_sr, gr_sr, sk_sr, nn_sr, ↓reduceIte, Int.toNat_natCast, Int.reduceToNat, h4, hp0]
              · simp (disch := first | assumption | omega | (exact shp_fok (by first | assumption | exact shp_sr _ _ (by assumption) | exact shp_sr _ _ (shp_sr _ _ (by assumption)) | exact shp_sr _ _ (shp_sr _ _ (shp_sr _ _ (by assumption)))) (by decide)) | (simp only [fok_sr, aok_sr]; first | assumption | (exact shp_fok (by first | assumption | exact shp_sr _ _ (by assumption) | exact shp_sr _ _ (shp_sr _ _ (by assumption)) | exact shp_sr _ _ (shp_sr _ _ (shp_sr _ _ (by assumption)))) (by decide))) | (refine shp_aok (by first | assumption | exact shp_sr _ _ (by assumption) | exact shp_sr _ _ (shp_sr _ _ (by assumption)) | exact shp_sr _ _ (shp_sr _ _ (shp_sr _ _ (by assumption)))) rfl rfl ?_ ?_ <;> omega) | (exact shp_sr _ _ (by assumption)) | (exact shp_sr _ _ (shp_sr _ _ (by assumption))) | (exact shp_sr _ _ (shp_sr _ _ (shp_sr _ _ (by assumption)))) | (left; assumption) | (exact b2i_or _) | (simp; done)) only [e79_68, e79_69, e79_154, e79_156, e79_159, e79_161, e79_164, e79_166, eq_self, ne_a, ne_b, ne_c, Nat.reduceEqDiff, lt0, bnd_ok, psh_I, psh_L, psh_R, psh_U, gt_sr, gr_sr, sk_sr, nn_sr, ↓reduceIte, Int.toNat_natCast, Int.reduceToNat, h4, hp0]
            · intro i hi hi' ih
              have w5 : wr ((i : Int) + 1) = (i : Int) + 1 := wr_id (by omega) (by omega)
              have hs9 : rdN (U, 10 ^ m) (i + 1) = rd1 5 (rd1 2 (rdN (U, 10 ^ m) i)) := rfl
              have hl := hle i
              rw [hs9] at ih
              generalize rdN (U, 10 ^ m) i = q at *
              have hl2 := rd1_le 2 q
              have hl' : q.1 ≤ U ∧ q.2 ≤ 10 ^ m := hl
              have n2 : ¬ (2 : Int) = 0 := by decide
              have n5 : ¬ (5 : Int) = 0 := by decide
              -- by two
              have two : run 79 66 [vR 1, vI (s : Int), vI (t : Int), vI (m : Int), vI p, vL (q.1 : Nat), vH, vL (q.2 : Nat), vH, vI (i : Int)] [] σ1 = run 79 110 [vR 1, vI (s : Int), vI (t : Int), vI (m : Int), vI p, vL ((rd1 2 q).1 : Nat), vH, vL ((rd1 2 q).2 : Nat), vH, vI (i : Int)] [] σ1 := by
                obtain ⟨u1, u2, u3, u4⟩ := l_ops (a := q.1) (b := 2) (by omega) (by omega)
                obtain ⟨v1, v2, v3, v4⟩ := l_ops (a := q.2) (b := 2) (by omega) (by omega)
                rw [show ((2 : Nat) : Int) = 2 from rfl] at u1 u2 v1 v2
                have z1 := lCmp_0 (q.1 % 2)
                have z2 := lCmp_0 (q.2 % 2)
                rw [e79_66]
                unfold rd1
                by_cases k1 : q.1 % 2 = 0
                · rw [if_pos k1] at z1
                  by_cases k2 : q.2 % 2 = 0
                  · rw [if_pos k2] at z2
                    rw [if_pos ⟨k1, k2⟩]
                    simp (disch := first | assumption | omega | (exact shp_fok (by first | assumption | exact shp_sr _ _ (by assumption) | exact shp_sr _ _ (shp_sr _ _ (by assumption)) | exact shp_sr _ _ (shp_sr _ _ (shp_sr _ _ (by assumption)))) (by decide)) | (simp only [fok_sr, aok_sr]; first | assumption | (exact shp_fok (by first | assumption | exact shp_sr _ _ (by assumption) | exact shp_sr _ _ (shp_sr _ _ (by assumption)) | exact shp_sr _ _ (shp_sr _ _ (shp_sr _ _ (by assumption)))) (by decide))) | (refine shp_aok (by first | assumption | exact shp_sr _ _ (by assumption) | exact shp_sr _ _ (shp_sr _ _ (by assumption)) | exact shp_sr _ _ (shp_sr _ _ (shp_sr _ _ (by assumption)))) rfl rfl ?_ ?_ <;> omega) | (exact shp_sr _ _ (by assumption)) | (exact shp_sr _ _ (shp_sr _ _ (by assumption))) | (exact shp_sr _ _ (shp_sr _ _ (shp_sr _ _ (by assumption)))) | (left; assumption) | (exact b2i_or _) | (simp; done)) only [e79_68, e79_69, e79_72, e79_74, e79_77, e79_78, e79_79, e79_80, e79_83, e79_85, e79_88, e79_89, e79_90, e79_91, e79_94, e79_96, e79_99, e79_100, e79_102, e79_104, e79_107, e79_108, eq_self, ne_a, ne_b, ne_c, Nat.reduceEqDiff, lt0, bnd_ok, psh_I, psh_L, psh_R, psh_U, gt_sr, gr_sr, sk_sr, nn_sr, ↓reduceIte, Int.toNat_natCast, Int.reduceToNat, hi', n2, u1, u2, u3, u4, v1, v2, v3, v4, z1, z2]
                  · rw [if_neg k2] at z2
                    rw [if_neg (fun h => k2 h.2)]
                    simp (disch := first | assumption | omega | (exact shp_fok (by first | assumption | exact shp_sr _ _ (by assumption) | exact shp_sr _ _ (shp_sr _ _ (by assumption)) | exact shp_sr _ _ (shp_sr _ _ (shp_sr _ _ (by assumption)))) (by decide)) | (simp only [fok_sr, aok_sr]; first | assumption | (exact shp_fok (by first | assumption | exact shp_sr _ _ (by assumption) | exact shp_sr _ _ (shp_sr _ _ (by assumption)) | exact shp_sr _ _ (shp_sr _ _ (shp_sr _ _ (by assumption)))) (by decide))) | (refine shp_aok (by first | assumption | exact shp_sr _ _ (by assumption) | exact shp_sr _ _ (shp_sr _ _ (by assumption)) | exact shp_sr _ _ (shp_sr _ _ (shp_sr _ _ (by assumption)))) rfl rfl ?_ ?_ <;> omega) | (exact shp_sr _ _ (by assumption)) | (exact shp_sr _ _ (shp_sr _ _ (by assumption))) | (exact shp_sr _ _ (shp_sr _ _ (shp_sr _ _ (by assumption)))) | (left; assumption) | (exact b2i_or _) | (simp; done)) only [e79_68, e79_69, e79_72, e79_74, e79_77, e79_78, e79_79, e79_80, e79_83, e79_85, e79_88, e79_89, e79_90, e79_91, e79_94, e79_96, e79_99, e79_100, e79_102, e79_104, e79_107, e79_108, eq_self, ne_a, ne_b, ne_c, Nat.reduceEqDiff, lt0, bnd_ok, psh_I, psh_L, psh_R, psh_U, gt_sr, gr_sr, sk_sr, nn_sr, ↓reduceIte, Int.toNat_natCast, Int.reduceToNat, hi', n2, u1, u3, v1, v3, z1, z2, Int.reduceEq]
                · rw [if_neg k1] at z1
                  rw [if_neg (fun h => k1 h.1)]
                  simp (disch := first | assumption | omega | (exact shp_fok (by first | assumption | exact shp_sr _ _ (by assumption) | exact shp_sr _ _ (shp_sr _ _ (by assumption)) | exact shp_sr _ _ (shp_sr _ _ (shp_sr _ _ (by assumption)))) (by decide)) | (simp only [fok_sr, aok_sr]; first | assumption | (exact shp_fok (by first | assumption | exact shp_sr _ _ (by assumption) | exact shp_sr _ _ (shp_sr _ _ (by assumption)) | exact shp_sr _ _ (shp_sr _ _ (shp_sr _ _ (by assumption)))) (by decide))) | (refine shp_aok (by first | assumption | exact shp_sr _ _ (by assumption) | exact shp_sr _ _ (shp_sr _ _ (by assumption)) | exact shp_sr _ _ (shp_sr _ _ (shp_sr _ _ (by assumption)))) rfl rfl ?_ ?_ <;> omega) | (exact shp_sr _ _ (by assumption)) | (exact shp_sr _ _ (shp_sr _ _ (by assumption))) | (exact shp_sr _ _ (shp_sr _ _ (shp_sr _ _ (by assumption)))) | (left; assumption) | (exact b2i_or _) | (simp; done)) only [e79_68, e79_69, e79_72, e79_74, e79_77, e79_78, e79_79, e79_80, e79_83, e79_85, e79_88, e79_89, e79_90, e79_91, e79_94, e79_96, e79_99, e79_100, e79_102, e79_104, e79_107, e79_108, eq_self, ne_a, ne_b, ne_c, Nat.reduceEqDiff, lt0, bnd_ok, psh_I, psh_L, psh_R, psh_U, gt_sr, gr_sr, sk_sr, nn_sr, ↓reduceIte, Int.toNat_natCast, Int.reduceToNat, hi', n2, u1, u3, z1, Int.reduceEq]
              rw [two]
              generalize rd1 2 q = q at *
              obtain ⟨u1, u2, u3, u4⟩ := l_ops (a := q.1) (b := 5) (by omega) (by omega)
              obtain ⟨v1, v2, v3, v4⟩ := l_ops (a := q.2) (b := 5) (by omega) (by omega)
              rw [show ((5 : Nat) : Int) = 5 from rfl] at u1 u2 v1 v2
              have z1 := lCmp_0 (q.1 % 5)
              have z2 := lCmp_0 (q.2 % 5)
              unfold rd1 at ih
              by_cases k1 : q.1 % 5 = 0
              · rw [if_pos k1] at z1
                by_cases k2 : q.2 % 5 = 0
                · rw [if_pos k2] at z2
                  rw [if_pos ⟨k1, k2⟩] at ih
                  simp (disch := first | assumption | omega | (exact shp_fok (by first | assumption | exact shp_sr _ _ (by assumption) | exact shp_sr _ _ (shp_sr _ _ (by assumption)) | exact shp_sr _ _ (shp_sr _ _ (shp_sr _ _ (by assumption)))) (by decide)) | (simp only [fok_sr, aok_sr]; first | assumption | (exact shp_fok (by first | assumption | exact shp_sr _ _ (by assumption) | exact shp_sr _ _ (shp_sr _ _ (by assumption)) | exact shp_sr _ _ (shp_sr _ _ (shp_sr _ _ (by assumption)))) (by decide))) | (refine shp_aok (by first | assumption | exact shp_sr _ _ (by assumption) | exact shp_sr _ _ (shp_sr _ _ (by assumption)) | exact shp_sr _ _ (shp_sr _ _ (shp_sr _ _ (by assumption)))) rfl rfl ?_ ?_ <;> omega) | (exact shp_sr _ _ (by assumption)) | (exact shp_sr _ _ (shp_sr _ _ (by assumption))) | (exact shp_sr _ _ (shp_sr _ _ (shp_sr _ _ (by assumption)))) | (left; assumption) | (exact b2i_or _) | (simp; done)) only [e79_110, e79_112, e79_115, e79_116, e79_117, e79_118, e79_121, e79_123, e79_126, e79_127, e79_128, e79_129, e79_132, e79_134, e79_137, e79_138, e79_140, e79_142, e79_145, e79_146, e79_148, e79_151, eq_self, ne_a, ne_b, ne_c, Nat.reduceEqDiff, lt0, bnd_ok, psh_I, psh_L, psh_R, psh_U, gt_sr, gr_sr, sk_sr, nn_sr, ↓reduceIte, Int.toNat_natCast, Int.reduceToNat, n5, u1, u2, u3, u4, v1, v2, v3, v4, z1, z2, w5]
                  exact ih
                · rw [if_neg k2] at z2
                  rw [if_neg (fun h => k2 h.2)] at ih
                  simp (disch := first | assumption | omega | (exact shp_fok (by first | assumption | exact shp_sr _ _ (by assumption) | exact shp_sr _ _ (shp_sr _ _ (by assumption)) | exact shp_sr _ _ (shp_sr _ _ (shp_sr _ _ (by assumption)))) (by decide)) | (simp only [fok_sr, aok_sr]; first | assumption | (exact shp_fok (by first | assumption | exact shp_sr _ _ (by assumption) | exact shp_sr _ _ (shp_sr _ _ (by assumption)) | exact shp_sr _ _ (shp_sr _ _ (shp_sr _ _ (by assumption)))) (by decide))) | (refine shp_aok (by first | assumption | exact shp_sr _ _ (by assumption) | exact shp_sr _ _ (shp_sr _ _ (by assumption)) | exact shp_sr _ _ (shp_sr _ _ (shp_sr _ _ (by assumption)))) rfl rfl ?_ ?_ <;> omega) | (exact shp_sr _ _ (by assumption)) | (exact shp_sr _ _ (shp_sr _ _ (by assumption))) | (exact shp_sr _ _ (shp_sr _ _ (shp_sr _ _ (by assumption)))) | (left; assumption) | (exact b2i_or _) | (simp; done)) only [e79_110, e79_112, e79_115, e79_116, e79_117, e79_118, e79_121, e79_123, e79_126, e79_127, e79_128, e79_129, e79_132, e79_134, e79_137, e79_138, e79_140, e79_142, e79_145, e79_146, e79_148, e79_151, eq_self, ne_a, ne_b, ne_c, Nat.reduceEqDiff, lt0, bnd_ok, psh_I, psh_L, psh_R, psh_U, gt_sr, gr_sr, sk_sr, nn_sr, ↓reduceIte, Int.toNat_natCast, Int.reduceToNat, n5, u1, u3, v1, v3, z1, z2, w5, Int.reduceEq]
                  exact ih
              · rw [if_neg k1] at z1
                rw [if_neg (fun h => k1 h.1)] at ih
                simp (disch := first | assumption | omega | (exact shp_fok (by first | assumption | exact shp_sr _ _ (by assumption) | exact shp_sr _ _ (shp_sr _ _ (by assumption)) | exact shp_sr _ _ (shp_sr _ _ (shp_sr _ _ (by assumption)))) (by decide)) | (simp only [fok_sr, aok_sr]; first | assumption | (exact shp_fok (by first | assumption | exact shp_sr _ _ (by assumption) | exact shp_sr _ _ (shp_sr _ _ (by assumption)) | exact shp_sr _ _ (shp_sr _ _ (shp_sr _ _ (by assumption)))) (by decide))) | (refine shp_aok (by first | assumption | exact shp_sr _ _ (by assumption) | exact shp_sr _ _ (shp_sr _ _ (by assumption)) | exact shp_sr _ _ (shp_sr _ _ (shp_sr _ _ (by assumption)))) rfl rfl ?_ ?_ <;> omega) | (exact shp_sr _ _ (by assumption)) | (exact shp_sr _ _ (shp_sr _ _ (by assumption))) | (exact shp_sr _ _ (shp_sr _ _ (shp_sr _ _ (by assumption)))) | (left; assumption) | (exact b2i_or _) | (simp; done)) only [e79_110, e79_112, e79_115, e79_116, e79_117, e79_118, e79_121, e79_123, e79_126, e79_127, e79_128, e79_129, e79_132, e79_134, e79_137, e79_138, e79_140, e79_142, e79_145, e79_146, e79_148, e79_151, eq_self, ne_a, ne_b, ne_c, Nat.reduceEqDiff, lt0, bnd_ok, psh_I, psh_L, psh_R, psh_U, gt_sr, gr_sr, sk_sr, nn_sr, ↓reduceIte, Int.toNat_natCast, Int.reduceToNat, n5, u1, u3, z1, w5, Int.reduceEq]
                exact ih
          rw [show ((10 : Nat) : Int) = 10 from rfl] at pw
          simp (disch := first | assumption | omega | (exact shp_fok (by first | assumption | exact shp_sr _ _ (by assumption) | exact shp_sr _ _ (shp_sr _ _ (by assumption)) | exact shp_sr _ _ (shp_sr _ _ (shp_sr _ _ (by assumption)))) (by decide)) | (simp only [fok_sr, aok_sr]; first | assumption | (exact shp_fok (by first | assumption | exact shp_sr _ _ (by assumption) | exact shp_sr _ _ (shp_sr _ _ (by assumption)) | exact shp_sr _ _ (shp_sr _ _ (shp_sr _ _ (by assumption)))) (by decide))) | (refine shp_aok (by first | assumption | exact shp_sr _ _ (by assumption) | exact shp_sr _ _ (shp_sr _ _ (by assumption)) | exact shp_sr _ _ (shp_sr _ _ (shp_sr _ _ (by assumption)))) rfl rfl ?_ ?_ <;> omega) | (exact shp_sr _ _ (by assumption)) | (exact shp_sr _ _ (shp_sr _ _ (by assumption))) | (exact shp_sr _ _ (shp_sr _ _ (shp_sr _ _ (by assumption)))) | (left; assumption) | (exact b2i_or _) | (simp; done)) only [e79_0, e79_1, e79_2, e79_5, e79_8, e79_11, e79_12, e79_13, e79_14, e79_16, e79_19, e79_22, e79_23, e79_24, e79_26, e79_29, e79_32, e79_34, e79_35, e79_36, e79_39, e79_42, e79_45, e79_46, e79_47, e79_48, e79_49, e79_50, e79_53, e79_55, e79_57, e79_58, e79_61, e79_63, e79_64, eq_self, ne_a, ne_b, ne_c, Nat.reduceEqDiff, lt0, bnd_ok, psh_I, psh_L, psh_R, psh_U, gt_sr, gr_sr, sk_sr, nn_sr, ↓reduceIte, Int.toNat_natCast, Int.reduceToNat, q1, b2i_t, c_isWithin, if_pos h1, if_pos h2, if_pos h3, e1, pw, Int.reduceEq]
          exact L
        · rw [if_neg (fun h => h3 h.2.2)]
          refine ⟨σ, ?_, CS_rf h⟩
          simp (disch := first | assumption | omega | (exact shp_fok (by first | assumption | exact shp_sr _ _ (by assumption) | exact shp_sr _ _ (shp_sr _ _ (by assumption)) | exact shp_sr _ _ (shp_sr _ _ (shp_sr _ _ (by assumption)))) (by decide)) | (simp only [fok_sr, aok_sr]; first | assumption | (exact shp_fok (by first | assumption | exact shp_sr _ _ (by assumption) | exact shp_sr _ _ (shp_sr _ _ (by assumption)) | exact shp_sr _ _ (shp_sr _ _ (shp_sr _ _ (by assumption)))) (by decide))) | (refine shp_aok (by first | assumption | exact shp_sr _ _ (by assumption) | exact shp_sr _ _ (shp_sr _ _ (by assumption)) | exact shp_sr _ _ (shp_sr _ _ (shp_sr _ _ (by assumption)))) rfl rfl ?_ ?_ <;> omega) | (exact shp_sr _ _ (by assumption)) | (exact shp_sr _ _ (shp_sr _ _ (by assumption))) | (exact shp_sr _ _ (shp_sr _ _ (shp_sr _ _ (by assumption)))) | (left; assumption) | (exact b2i_or _) | (simp; done)) only [e79_0, e79_1, e79_2, e79_5, e79_8, e79_11, e79_12, e79_13, e79_14, e79_16, e79_19, e79_22, e79_23, e79_24, e79_26, e79_29, e79_32, e79_34, e79_35, e79_36, e79_39, e79_42, e79_45, e79_46, e79_47, e79_48, e79_49, e79_50, e79_53, e79_55, e79_57, e79_58, e79_61, e79_63, e79_64, eq_self, ne_a, ne_b, ne_c, Nat.reduceEqDiff, lt0, bnd_ok, psh_I, psh_L, psh_R, psh_U, gt_sr, gr_sr, sk_sr, nn_sr, ↓reduceIte, Int.toNat_natCast, Int.reduceToNat, q1, b2i_t, c_isWithin, if_pos h1, if_pos h2, if_neg h3, Int.reduceEq]
      · rw [if_neg (fun h => h2 h.2.1)]
        refine ⟨σ, ?_, CS_rf h⟩
        simp (disch := first | assumption | omega | (exact shp_fok (by first | assumption | exact shp_sr _ _ (by assumption) | exact shp_sr _ _ (shp_sr _ _ (by assumption)) | exact shp_sr _ _ (shp_sr _ _ (shp_sr _ _ (by assumption)))) (by decide)) | (simp only [fok_sr, aok_sr]; first | assumption | (exact shp_fok (by first | assumption | exact shp_sr _ _ (by assumption) | exact shp_sr _ _ (shp_sr _ _ (by assumption)) | exact shp_sr _ _ (shp_sr _ _ (shp_sr _ _ (by assumption)))) (by decide))) | (refine shp_aok (by first | assumption | exact shp_sr _ _ (by assumption) | exact shp_sr _ _ (shp_sr _ _ (by assumption)) | exact shp_sr _ _ (shp_sr _ _ (shp_sr _ _ (by assumption)))) rfl rfl ?_ ?_ <;> omega) | (exact shp_sr _ _ (by assumption)) | (exact shp_sr _ _ (shp_sr _ _ (by assumption))) | (exact shp_sr _ _ (shp_sr _ _ (shp_sr _ _ (by assumption)))) | (left; assumption) | (exact b2i_or _) | (simp; done)) only [e79_0, e79_1, e79_2, e79_5, e79_8, e79_11, e79_12, e79_13, e79_14, e79_16, e79_19, e79_22, e79_23, e79_24, e79_26, e79_29, e79_32, e79_34, e79_35, e79_36, e79_39, e79_42, e79_45, e79_46, e79_47, e79_48, e79_49, e79_50, e79_53, e79_55, e79_57, e79_58, e79_61, e79_63, e79_64, eq_self, ne_a, ne_b, ne_c, Nat.reduceEqDiff, lt0, bnd_ok, psh_I, psh_L, psh_R, psh_U, gt_sr, gr_sr, sk_sr, nn_sr, ↓reduceIte, Int.toNat_natCast, Int.reduceToNat, q1, b2i_t, c_isWithin, if_pos h1, if_neg h2, Int.reduceEq]
    · rw [if_neg (fun h => h1 h.1)]
      refine ⟨σ, ?_, CS_rf h⟩
      simp (disch := first | assumption | omega | (exact shp_fok (by first | assumption | exact shp_sr _ _ (by assumption) | exact shp_sr _ _ (shp_sr _ _ (by assumption)) | exact shp_sr _ _ (shp_sr _ _ (shp_sr _ _ (by assumption)))) (by decide)) | (simp only [fok_sr, aok_sr]; first | assumption | (exact shp_fok (by first | assumption | exact shp_sr _ _ (by assumption) | exact shp_sr _ _ (shp_sr _ _ (by assumption)) | exact shp_sr _ _ (shp_sr _ _ (shp_sr _ _ (by assumption)))) (by decide))) | (refine shp_aok (by first | assumption | exact shp_sr _ _ (by assumption) | exact shp_sr _ _ (shp_sr _ _ (by assumption)) | exact shp_sr _ _ (shp_sr _ _ (shp_sr _ _ (by assumption)))) rfl rfl ?_ ?_ <;> omega) | (exact shp_sr _ _ (by assumption)) | (exact shp_sr _ _ (shp_sr _ _ (by assumption))) | (exact shp_sr _ _ (shp_sr _ _ (shp_sr _ _ (by assumption)))) | (left; assumption) | (exact b2i_or _) | (simp; done)) only [e79_0, e79_1, e79_2, e79_5, e79_8, e79_11, e79_12, e79_13, e79_14, e79_16, e79_19, e79_22, e79_23, e79_24, e79_26, e79_29, e79_32, e79_34, e79_35, e79_36, e79_39, e79_42, e79_45, e79_46, e79_47, e79_48, e79_49, e79_50, e79_53, e79_55, e79_57, e79_58, e79_61, e79_63, e79_64, eq_self, ne_a, ne_b, ne_c, Nat.reduceEqDiff, lt0, bnd_ok, psh_I, psh_L, psh_R, psh_U, gt_sr, gr_sr, sk_sr, nn_sr, ↓reduceIte, Int.toNat_natCast, Int.reduceToNat, q1, b2i_t, c_isWithin, if_neg h1, Int.reduceEq]
