/-! the fewest lamps -/
def GS (p : Nat → Bool) (good : Nat → Prop) (B : Nat) : Prop := ∃ x, x < 2 ^ ctN p 24 ∧ B = exB p x 24 ∧ good B
theorem isB_of {p : Nat → Bool} {good : Nat → Prop} (hm : ctN p 24 ≤ 24) {x : Nat} (hx : x < 2 ^ ctN p 24) (hg : good (exB p x 24)) (hmin : ∀ x', x' < 2 ^ ctN p 24 → good (exB p x' 24) → pcN x < pcN x' ∨ (pcN x = pcN x' ∧ x ≤ x')) : isB (GS p good) (exB p x 24 : Nat) := by
  refine Or.inr ⟨_, ⟨x, hx, rfl, hg⟩, rfl, ?_⟩
  rintro B' ⟨x', hx', rfl, hg'⟩
  unfold lexL
  rw [pc_ex (Nat.le_refl _) hx hm, pc_ex (Nat.le_refl _) hx' hm]
  rcases hmin x' hx' hg' with h | ⟨h1, h2⟩
  · exact Or.inl h
  · refine Or.inr ⟨h1, ?_⟩
    by_cases e : x = x'
    · rw [e]; exact Nat.le_refl _
    · exact Nat.le_of_lt (exB_mono p 24 x x' (by omega) hx')
theorem isB_no {p : Nat → Bool} {good : Nat → Prop} (h : ∀ x, x < 2 ^ ctN p 24 → ¬ good (exB p x 24)) : isB (GS p good) (-6) := by
  refine Or.inl ⟨rfl, ?_⟩
  rintro B ⟨x, hx, rfl, hg⟩
  exact h x hx hg
theorem ct_sum (p : Nat → Bool) : ∀ N, (ctN p N : Int) = smN (fun c => if p c = true then 1 else 0) N
  | 0 => rfl
  | N + 1 => by
    show ((ctN p N + (if p N = true then 1 else 0) : Nat) : Int) = smN (fun c => if p c = true then 1 else 0) N + (if p N = true then 1 else 0)
    rw [← ct_sum p N]
    split <;> omega
theorem ct_24 (p : Nat → Bool) : ctN p 24 ≤ 24 := by
  have := (ct_mono p 0 24).2
  have h0 : ctN p 0 = 0 := rfl
  rw [Nat.zero_add] at this
  omega
theorem ct_n24 {p : Nat → Bool} {n : Nat} (hn : n ≤ 24) (h : ∀ c, n ≤ c → p c = false) : ctN p n = ctN p 24 := by
  have := ct_flat p n (24 - n) (fun i _ => h _ (by omega))
  rw [show n + (24 - n) = 24 by omega] at this
  exact this.symm
theorem arr_24 {p : Nat → Bool} {n : Nat} {a : Nat → Int} (h : ∀ c, n ≤ c → p c = false) (ha : arrF p n a) : arrF p 24 a := by
  intro k _ hp
  by_cases hk : k < n
  · exact ha k hk hp
  · rw [h k (by omega)] at hp; cases hp
/-- one more picked -/
theorem arr_s {p : Nat → Bool} {K : Nat} {a : Nat → Int} (ha : arrF p K a) (hp : p K = true) : arrF p (K + 1) (ru a (ctN p K) (K : Int)) := by
  intro k hk hpk
  by_cases e : k = K
  · rw [e, ru_e]
  · have := ct_lt (p := p) (c := k) (N := K) (by omega) hpk
    rw [ru_n _ _ (by omega)]
    exact ha k (by omega) hpk
theorem arr_n {p : Nat → Bool} {K : Nat} {a : Nat → Int} (ha : arrF p K a) (hp : p K = false) : arrF p (K + 1) a := by
  intro k hk hpk
  by_cases e : k = K
  · rw [e, hp] at hpk; cases hpk
  · exact ha k (by omega) hpk
/-- picked bits, from the row of the picked -/
def pkA (a : Nat → Int) (x : Nat) : Nat → Nat
  | 0 => 0
  | i + 1 => pkA a x i ||| (if x.testBit i = true then 2 ^ (a i).toNat else 0)
theorem pk_ex {p : Nat → Bool} {a : Nat → Int} (x : Nat) : ∀ N, arrF p N a → pkA a x (ctN p N) = exB p x N
  | 0, _ => rfl
  | N + 1, h => by
    have ih := pk_ex x N (fun k hk => h k (by omega))
    have e : ctN p (N + 1) = ctN p N + (if p N = true then 1 else 0) := rfl
    rw [e]
    unfold exB
    cases hp : p N with
    | true =>
      rw [if_pos rfl, Bool.true_and]
      show pkA a x (ctN p N) ||| _ = _
      rw [ih, h N (by omega) hp, Int.toNat_natCast]
    | false =>
      rw [if_neg Bool.false_ne_true, Bool.false_and, if_neg Bool.false_ne_true, Nat.or_zero, Nat.add_zero, ih]
set_option maxRecDepth 100000 in
set_option maxHeartbeats 4000000 in
theorem c_pickedBits {σ : St} (hs : shp σ) {p : Nat → Bool} (ha : arrF p 24 (gt σ 21)) {x : Nat} (hx : x < 2147483648) : run 53 0 [vR 1, vI (x : Int), vI (ctN p 24 : Nat), vU, vU] [] σ = some (vI (exB p x 24 : Nat), σ) := by
  have hct := ct_24 p
  have hpk := pk_ex x 24 ha
  have hsm : ∀ i, i ≤ ctN p 24 → pkA (gt σ 21) x i < 16777216 := by
    intro i
    induction i with
    | zero => intro _; unfold pkA; omega
    | succ i ih =>
      intro hi
      obtain ⟨j, q1, q2, q3⟩ := ct_ex (p := p) 24 i (by omega)
      have r2 := ha j q1 q2
      rw [q3] at r2
      have hp : 2 ^ j ≤ 2 ^ 23 := Nat.pow_le_pow_right (by omega) (by omega)
      unfold pkA
      rw [r2, Int.toNat_natCast]
      refine Nat.or_lt_two_pow (n := 24) (ih (by omega)) ?_
      split <;> omega
  have L : run 53 5 [vR 1, vI (x : Int), vI (ctN p 24 : Nat), vI (pkA (gt σ 21) x 0 : Nat), vI 0] [] σ = some (vI (exB p x 24 : Nat), σ) := by
    refine bk (P := fun k z => run 53 5 [vR 1, vI (x : Int), vI (ctN p 24 : Nat), vI (pkA (gt σ 21) x k : Nat), vI z] [] σ = some (vI (exB p x 24 : Nat), σ)) (n := ctN p 24) ?_ ?_
    · have h4 : ¬ ((ctN p 24 : Nat) : Int) < ((ctN p 24 : Nat) : Int) := by omega
      rw [e53_5]
      simp (disch := first | assumption | omega | (exact shp_fok (by first | assumption | exact shp_sr _ _ (by assumption) | exact shp_sr _ _ (shp_sr _ _ (by assumption)) | exact shp_sr _ _ (shp_sr _ _ (shp_sr _ _ (by assumption)))) (by decide)) | (simp only [fok_sr, aok_sr]; first | assumption | (exact shp_fok (by first | assumption | exact shp_sr _ _ (by assumption) | exact shp_sr _ _ (shp_sr _ _ (by assumption)) | exact shp_sr _ _ (shp_sr _ _ (shp_sr _ _ (by assumption)))) (by decide))) | (refine shp_aok (by first | assumption | exact shp_sr _ _ (by assumption) | exact shp_sr _ _ (shp_sr _ _ (by assumption)) | exact shp_sr _ _ (shp_sr _ _ (shp_sr _ _ (by assumption)))) rfl rfl ?_ ?_ <;> omega) | (exact shp_sr _ _ (by assumption)) | (exact shp_sr _ _ (shp_sr _ _ (by assumption))) | (exact shp_sr _ _ (shp_sr _ _ (shp_sr _ _ (by assumption)))) | (left; assumption) | (exact b2i_or _) | (simp; done)) only [e53_7, e53_8, e53_45, e53_46, eq_self, ne_a, ne_b, ne_c, Nat.reduceEqDiff, lt0, bnd_ok, psh_I, psh_L, psh_R, psh_U, gt_sr, gr_sr, sk_sr, nn_sr, ↓reduceIte, Int.toNat_natCast, Int.reduceToNat, h4]
      rw [hpk]
    · intro k hk hk' ih
      have w5 : wr ((k : Int) + 1) = (k : Int) + 1 := wr_id (by omega) (by omega)
      have w6 := bit_N (a := x) (k := k) hx (by omega)
      obtain ⟨j, q1, q2, q3⟩ := ct_ex (p := p) 24 k hk
      have r2 := ha j q1 q2
      rw [q3] at r2
      have at1 := c_atN (shp_ia (k := 21) (n := 24) hs (by decide)) (j := k) (by omega)
      rw [r2] at at1
      have e9 : pkA (gt σ 21) x (k + 1) = pkA (gt σ 21) x k ||| (if x.testBit k = true then 2 ^ j else 0) := by
        show pkA (gt σ 21) x k ||| (if x.testBit k = true then 2 ^ (gt σ 21 k).toNat else 0) = _
        rw [r2, Int.toNat_natCast]
      rw [e9] at ih
      have hlt := hsm k (by omega)
      have hp : 2 ^ j ≤ 2 ^ 23 := Nat.pow_le_pow_right (by omega) (by omega)
      rw [e53_5]
      cases hb : x.testBit k with
      | true =>
        have e8 : bt x k = 1 := by unfold bt; rw [hb, if_pos rfl]
        rw [hb, if_pos rfl] at ih
        have o1 := bShl_N (a := 1) (k := j) (by omega) (by omega) (by omega)
        rw [Nat.one_mul, show ((1 : Nat) : Int) = 1 from rfl] at o1
        have o2 := bOr_N (a := pkA (gt σ 21) x k) (b := 2 ^ j) (by omega) (by omega)
        simp (disch := first | assumption | omega | (exact shp_fok (by first | assumption | exact shp_sr _ _ (by assumption) | exact shp_sr _ _ (shp_sr _ _ (by assumption)) | exact shp_sr _ _ (shp_sr _ _ (shp_sr _ _ (by assumption)))) (by decide)) | (simp only [fok_sr, aok_sr]; first | assumption | (exact shp_fok (by first | assumption | exact shp_sr _ _ (by assumption) | exact shp_sr _ _ (shp_sr _ _ (by assumption)) | exact shp_sr _ _ (shp_sr _ _ (shp_sr _ _ (by assumption)))) (by decide))) | (refine shp_aok (by first | assumption | exact shp_sr _ _ (by assumption) | exact shp_sr _ _ (shp_sr _ _ (by assumption)) | exact shp_sr _ _ (shp_sr _ _ (shp_sr _ _ (by assumption)))) rfl rfl ?_ ?_ <;> omega) | (exact shp_sr _ _ (by assumption)) | (exact shp_sr _ _ (shp_sr _ _ (by assumption))) | (exact shp_sr _ _ (shp_sr _ _ (shp_sr _ _ (by assumption)))) | (left; assumption) | (exact b2i_or _) | (simp; done)) only [e53_7, e53_8, e53_11, e53_12, e53_13, e53_15, e53_16, e53_17, e53_18, e53_19, e53_22, e53_23, e53_24, e53_27, e53_29, e53_32, e53_33, e53_36, e53_37, e53_38, e53_39, e53_42, eq_self, ne_a, ne_b, ne_c, Nat.reduceEqDiff, lt0, bnd_ok, psh_I, psh_L, psh_R, psh_U, gt_sr, gr_sr, sk_sr, nn_sr, ↓reduceIte, Int.toNat_natCast, Int.reduceToNat, hk', w6, e8, g1_4, at1, o1, o2, w5]
        exact ih
      | false =>
        have e8 : bt x k = 0 := by unfold bt; rw [hb]; rfl
        rw [hb, if_neg Bool.false_ne_true] at ih
        have o2 := bOr_N (a := pkA (gt σ 21) x k) (b := 0) (by omega) (by omega)
        rw [show ((0 : Nat) : Int) = 0 from rfl] at o2
        simp (disch := first | assumption | omega | (exact shp_fok (by first | assumption | exact shp_sr _ _ (by assumption) | exact shp_sr _ _ (shp_sr _ _ (by assumption)) | exact shp_sr _ _ (shp_sr _ _ (shp_sr _ _ (by assumption)))) (by decide)) | (simp only [fok_sr, aok_sr]; first | assumption | (exact shp_fok (by first | assumption | exact shp_sr _ _ (by assumption) | exact shp_sr _ _ (shp_sr _ _ (by assumption)) | exact shp_sr _ _ (shp_sr _ _ (shp_sr _ _ (by assumption)))) (by decide))) | (refine shp_aok (by first | assumption | exact shp_sr _ _ (by assumption) | exact shp_sr _ _ (shp_sr _ _ (by assumption)) | exact shp_sr _ _ (shp_sr _ _ (shp_sr _ _ (by assumption)))) rfl rfl ?_ ?_ <;> omega) | (exact shp_sr _ _ (by assumption)) | (exact shp_sr _ _ (shp_sr _ _ (by assumption))) | (exact shp_sr _ _ (shp_sr _ _ (shp_sr _ _ (by assumption)))) | (left; assumption) | (exact b2i_or _) | (simp; done)) only [e53_7, e53_8, e53_11, e53_12, e53_13, e53_15, e53_16, e53_17, e53_18, e53_19, e53_22, e53_23, e53_24, e53_27, e53_29, e53_32, e53_33, e53_36, e53_37, e53_38, e53_39, e53_42, eq_self, ne_a, ne_b, ne_c, Nat.reduceEqDiff, lt0, bnd_ok, psh_I, psh_L, psh_R, psh_U, gt_sr, gr_sr, sk_sr, nn_sr, ↓reduceIte, Int.toNat_natCast, Int.reduceToNat, hk', w6, e8, o2, w5, Int.reduceEq]
        exact ih
  simp (disch := first | assumption | omega | (exact shp_fok (by first | assumption | exact shp_sr _ _ (by assumption) | exact shp_sr _ _ (shp_sr _ _ (by assumption)) | exact shp_sr _ _ (shp_sr _ _ (shp_sr _ _ (by assumption)))) (by decide)) | (simp only [fok_sr, aok_sr]; first | assumption | (exact shp_fok (by first | assumption | exact shp_sr _ _ (by assumption) | exact shp_sr _ _ (shp_sr _ _ (by assumption)) | exact shp_sr _ _ (shp_sr _ _ (shp_sr _ _ (by assumption)))) (by decide))) | (refine shp_aok (by first | assumption | exact shp_sr _ _ (by assumption) | exact shp_sr _ _ (shp_sr _ _ (by assumption)) | exact shp_sr _ _ (shp_sr _ _ (shp_sr _ _ (by assumption)))) rfl rfl ?_ ?_ <;> omega) | (exact shp_sr _ _ (by assumption)) | (exact shp_sr _ _ (shp_sr _ _ (by assumption))) | (exact shp_sr _ _ (shp_sr _ _ (shp_sr _ _ (by assumption)))) | (left; assumption) | (exact b2i_or _) | (simp; done)) only [e53_0, e53_1, e53_2, e53_3, eq_self, ne_a, ne_b, ne_c, Nat.reduceEqDiff, lt0, bnd_ok, psh_I, psh_L, psh_R, psh_U, gt_sr, gr_sr, sk_sr, nn_sr, ↓reduceIte, Int.toNat_natCast, Int.reduceToNat]
  exact L
/-- how many, or which -/
def cob (R : Int) (w : Int) : Int := if w = 0 ∧ R ≠ -6 then pcN R.toNat else R
set_option maxRecDepth 100000 in
set_option maxHeartbeats 4000000 in
theorem c_cob {G : Nat → Prop} {R : Int} (h : isB G R) (hG : ∀ B, G B → B < 16777216) (w : Int) (σ : St) : run 54 0 [vI R, vI w] [] σ = some (vI (cob R w), σ) := by
  unfold cob
  rcases h with ⟨rfl, -⟩ | ⟨B, hg, rfl, -⟩
  · rw [if_neg (fun h => h.2 rfl)]
    by_cases h1 : w = 0
    · simp (disch := first | assumption | omega | (exact shp_fok (by first | assumption | exact shp_sr _ _ (by assumption) | exact shp_sr _ _ (shp_sr _ _ (by assumption)) | exact shp_sr _ _ (shp_sr _ _ (shp_sr _ _ (by assumption)))) (by decide)) | (simp only [fok_sr, aok_sr]; first | assumption | (exact shp_fok (by first | assumption | exact shp_sr _ _ (by assumption) | exact shp_sr _ _ (shp_sr _ _ (by assumption)) | exact shp_sr _ _ (shp_sr _ _ (shp_sr _ _ (by assumption)))) (by decide))) | (refine shp_aok (by first | assumption | exact shp_sr _ _ (by assumption) | exact shp_sr _ _ (shp_sr _ _ (by assumption)) | exact shp_sr _ _ (shp_sr _ _ (shp_sr _ _ (by assumption)))) rfl rfl ?_ ?_ <;> omega) | (exact shp_sr _ _ (by assumption)) | (exact shp_sr _ _ (shp_sr _ _ (by assumption))) | (exact shp_sr _ _ (shp_sr _ _ (shp_sr _ _ (by assumption)))) | (left; assumption) | (exact b2i_or _) | (simp; done)) only [e54_0, e54_1, e54_4, e54_5, e54_7, e54_10, e54_11, e54_14, e54_17, e54_18, eq_self, ne_a, ne_b, ne_c, Nat.reduceEqDiff, lt0, bnd_ok, psh_I, psh_L, psh_R, psh_U, gt_sr, gr_sr, sk_sr, nn_sr, ↓reduceIte, Int.toNat_natCast, Int.reduceToNat, h1]
    · simp (disch := first | assumption | omega | (exact shp_fok (by first | assumption | exact shp_sr _ _ (by assumption) | exact shp_sr _ _ (shp_sr _ _ (by assumption)) | exact shp_sr _ _ (shp_sr _ _ (shp_sr _ _ (by assumption)))) (by decide)) | (simp only [fok_sr, aok_sr]; first | assumption | (exact shp_fok (by first | assumption | exact shp_sr _ _ (by assumption) | exact shp_sr _ _ (shp_sr _ _ (by assumption)) | exact shp_sr _ _ (shp_sr _ _ (shp_sr _ _ (by assumption)))) (by decide))) | (refine shp_aok (by first | assumption | exact shp_sr _ _ (by assumption) | exact shp_sr _ _ (shp_sr _ _ (by assumption)) | exact shp_sr _ _ (shp_sr _ _ (shp_sr _ _ (by assumption)))) rfl rfl ?_ ?_ <;> omega) | (exact shp_sr _ _ (by assumption)) | (exact shp_sr _ _ (shp_sr _ _ (by assumption))) | (exact shp_sr _ _ (shp_sr _ _ (shp_sr _ _ (by assumption)))) | (left; assumption) | (exact b2i_or _) | (simp; done)) only [e54_0, e54_1, e54_4, e54_5, e54_7, e54_10, e54_11, e54_14, e54_17, e54_18, eq_self, ne_a, ne_b, ne_c, Nat.reduceEqDiff, lt0, bnd_ok, psh_I, psh_L, psh_R, psh_U, gt_sr, gr_sr, sk_sr, nn_sr, ↓reduceIte, Int.toNat_natCast, Int.reduceToNat, h1]
  · have hb := c_bitCount (hG B hg) σ
    have hn : ¬ (B : Int) = -6 := by omega
    rw [Int.toNat_natCast]
    by_cases h1 : w = 0
    · rw [if_pos ⟨h1, hn⟩]
      simp (disch := first | assumption | omega | (exact shp_fok (by first | assumption | exact shp_sr _ _ (by assumption) | exact shp_sr _ _ (shp_sr _ _ (by assumption)) | exact shp_sr _ _ (shp_sr _ _ (shp_sr _ _ (by assumption)))) (by decide)) | (simp only [fok_sr, aok_sr]; first | assumption | (exact shp_fok (by first | assumption | exact shp_sr _ _ (by assumption) | exact shp_sr _ _ (shp_sr _ _ (by assumption)) | exact shp_sr _ _ (shp_sr _ _ (shp_sr _ _ (by assumption)))) (by decide))) | (refine shp_aok (by first | assumption | exact shp_sr _ _ (by assumption) | exact shp_sr _ _ (shp_sr _ _ (by assumption)) | exact shp_sr _ _ (shp_sr _ _ (shp_sr _ _ (by assumption)))) rfl rfl ?_ ?_ <;> omega) | (exact shp_sr _ _ (by assumption)) | (exact shp_sr _ _ (shp_sr _ _ (by assumption))) | (exact shp_sr _ _ (shp_sr _ _ (shp_sr _ _ (by assumption)))) | (left; assumption) | (exact b2i_or _) | (simp; done)) only [e54_0, e54_1, e54_4, e54_5, e54_7, e54_10, e54_11, e54_14, e54_17, e54_18, eq_self, ne_a, ne_b, ne_c, Nat.reduceEqDiff, lt0, bnd_ok, psh_I, psh_L, psh_R, psh_U, gt_sr, gr_sr, sk_sr, nn_sr, ↓reduceIte, Int.toNat_natCast, Int.reduceToNat, h1, hn, hb]
    · rw [if_neg (fun h => h1 h.1)]
      simp (disch := first | assumption | omega | (exact shp_fok (by first | assumption | exact shp_sr _ _ (by assumption) | exact shp_sr _ _ (shp_sr _ _ (by assumption)) | exact shp_sr _ _ (shp_sr _ _ (shp_sr _ _ (by assumption)))) (by decide)) | (simp only [fok_sr, aok_sr]; first | assumption | (exact shp_fok (by first | assumption | exact shp_sr _ _ (by assumption) | exact shp_sr _ _ (shp_sr _ _ (by assumption)) | exact shp_sr _ _ (shp_sr _ _ (shp_sr _ _ (by assumption)))) (by decide))) | (refine shp_aok (by first | assumption | exact shp_sr _ _ (by assumption) | exact shp_sr _ _ (shp_sr _ _ (by assumption)) | exact shp_sr _ _ (shp_sr _ _ (shp_sr _ _ (by assumption)))) rfl rfl ?_ ?_ <;> omega) | (exact shp_sr _ _ (by assumption)) | (exact shp_sr _ _ (shp_sr _ _ (by assumption))) | (exact shp_sr _ _ (shp_sr _ _ (shp_sr _ _ (by assumption)))) | (left; assumption) | (exact b2i_or _) | (simp; done)) only [e54_0, e54_1, e54_4, e54_5, e54_7, e54_10, e54_11, e54_14, e54_17, e54_18, eq_self, ne_a, ne_b, ne_c, Nat.reduceEqDiff, lt0, bnd_ok, psh_I, psh_L, psh_R, psh_U, gt_sr, gr_sr, sk_sr, nn_sr, ↓reduceIte, Int.toNat_natCast, Int.reduceToNat, h1]
theorem GS_lt {p : Nat → Bool} {good : Nat → Prop} : ∀ B, GS p good B → B < 16777216 := by
  rintro B ⟨x, hx, rfl, -⟩
  exact exB_lt p x 24
def selL (d : Dat) (c : Nat) : Bool := decide (c < dn_ d) && decide (dla d c = 1)
theorem selL_n (d : Dat) : ∀ c, dn_ d ≤ c → selL d c = false := fun c hc => by
  unfold selL
  rw [decide_eq_false (by omega), Bool.false_and]
def laO (d : Dat) (B : Nat) : Nat → Int := upto (dn_ d) (puo (dla d) B) (dla d)
def hsL (d : Dat) (sg : Nat → Int) (cn s B : Nat) : Bool := hoD (pah (fog d (dt d) (laO d B)) sg cn) s
def goodL (d : Dat) (sg : Nat → Int) (cn s B : Nat) : Prop := hsL d sg cn s B = true
theorem ok_laO {d : Dat} (ho : okd d) (B : Nat) : okd (fog d (dt d) (laO d B)) := by
  refine ok_fog ho (ok_t ho) ?_ (ok_zt ho) ?_
  · intro c hc
    have := ok_l ho c hc
    unfold laO upto puo
    split
    · split
      · exact Or.inl rfl
      · exact this
    · exact this
  · intro i hi
    unfold laO upto
    rw [if_neg (by omega)]
    exact ok_zl ho i hi
def SW : List Nat := [10, 11, 12, 13, 14, 15, 16, 17]
set_option maxRecDepth 100000 in
set_option maxHeartbeats 4000000 in
theorem c_standsWithout {τ : St} {d : Dat} {cn : Nat} {sg : Nat → Int} (hn : npd τ cn sg) (h2 : rep τ 2 d) (ho : okd d) (ht : trR τ d) (ha : alh cn sg = true) {s B : Nat} (hs4 : s < 4) (hB : B < 16777216) : ∃ τ', run 58 0 [vR 1, vI (s : Int), vI (B : Int)] [] τ = some (vI (b2i (hsL d sg cn s B)), τ') ∧ chg SW τ τ' ∧ trR τ' d := by
  obtain ⟨τ1, e1, c1, r1⟩ := c_copyFogT h2 ho ht
  obtain ⟨τ2, e2, c2, r2⟩ := c_putOutR (x := B) r1 ho (by omega)
  have o2 := ok_laO ho B
  have c12 : chg SW τ τ2 := chg_tr (chg_mo c1 (by decide)) c2 (by decide)
  have n2 := npd_chg c12 (by decide) (by decide) hn
  obtain ⟨τ3, e3, c3, r3⟩ := c_passHours n2 r2 o2 ha (by omega)
  have o3 := ok_pah o2 sg cn
  have e4 := c_holdsR r3 o3 hs4
  have h0 := hn.1
  have h1 := shp_chg c1 h0
  have h2 := n2.1
  have h3 := shp_chg c3 h2
  refine ⟨τ3, ?_, chg_tr c12 c3 (by decide), trR_pah r3 o3⟩
  unfold hsL laO
  simp (disch := first | assumption | omega | (exact shp_fok (by first | assumption | exact shp_sr _ _ (by assumption) | exact shp_sr _ _ (shp_sr _ _ (by assumption)) | exact shp_sr _ _ (shp_sr _ _ (shp_sr _ _ (by assumption)))) (by decide)) | (simp only [fok_sr, aok_sr]; first | assumption | (exact shp_fok (by first | assumption | exact shp_sr _ _ (by assumption) | exact shp_sr _ _ (shp_sr _ _ (by assumption)) | exact shp_sr _ _ (shp_sr _ _ (shp_sr _ _ (by assumption)))) (by decide))) | (refine shp_aok (by first | assumption | exact shp_sr _ _ (by assumption) | exact shp_sr _ _ (shp_sr _ _ (by assumption)) | exact shp_sr _ _ (shp_sr _ _ (shp_sr _ _ (by assumption)))) rfl rfl ?_ ?_ <;> omega) | (exact shp_sr _ _ (by assumption)) | (exact shp_sr _ _ (shp_sr _ _ (by assumption))) | (exact shp_sr _ _ (shp_sr _ _ (shp_sr _ _ (by assumption)))) | (left; assumption) | (exact b2i_or _) | (simp; done)) only [e58_0, e58_1, e58_4, e58_5, e58_8, e58_11, e58_12, e58_15, e58_16, e58_19, e58_20, e58_23, e58_24, e58_27, e58_30, e58_31, e58_34, e58_35, e58_38, eq_self, ne_a, ne_b, ne_c, Nat.reduceEqDiff, lt0, bnd_ok, psh_I, psh_L, psh_R, psh_U, gt_sr, gr_sr, sk_sr, nn_sr, ↓reduceIte, Int.toNat_natCast, Int.reduceToNat, g1_0, g1_1, g1_2, e1, e2, e3, e4]
/-- what a search among choices stands on -/
def srI (σ0 τ : St) (d : Dat) (cn : Nat) (sg : Nat → Int) (p : Nat → Bool) : Prop := npd τ cn sg ∧ rep τ 2 d ∧ trR τ d ∧ arrF p 24 (gt τ 21)
theorem srI_chg {σ0 τ τ' : St} {d : Dat} {cn : Nat} {sg : Nat → Int} {p : Nat → Bool} (h : srI σ0 τ d cn sg p) (hc : chg SW τ τ') (ht : trR τ' d) : srI σ0 τ' d cn sg p := by
  obtain ⟨h1, h2, h3, h4⟩ := h
  refine ⟨npd_chg hc (by decide) (by decide) h1, rep_chg hc (b := 2) (by intro i hi _; simp [SW]; omega) h2, ht, ?_⟩
  rw [chg_gt hc (by decide)]
  exact h4
theorem trR_21 {τ : St} {d : Dat} {F : Nat → Int} (h : trR τ d) : trR (sr τ 21 F) d := by
  obtain ⟨t, la, h1, h2⟩ := h
  exact ⟨t, la, rep_chg (chg_sr (S := [21]) (q := 21) (chg_rf _ τ) (by simp)) (by intro i hi _; simp; omega) h1, h2⟩
set_option maxRecDepth 100000 in
set_option maxHeartbeats 8000000 in
set_option maxRecDepth 100000 in
set_option maxHeartbeats 4000000 in
theorem c_fewestLamps {σ : St} {d : Dat} {cn : Nat} {sg : Nat → Int} (h : CS σ d cn sg) (ha : alh cn sg = true) {s : Nat} (hs4 : s < 4) (h8 : ctN (selL d) 24 ≤ 8) : ∃ σ' R, run 57 0 [vR 1, vI (s : Int), vU, vU, vU] [] σ = some (vI R, σ') ∧ isB (GS (selL d) (goodL d sg cn s)) R ∧ chg (21 :: SW) σ σ' ∧ jb σ' 10 := by
  obtain ⟨a1, a5, a6, a7⟩ := id h
  have hs := a1.1
  have h24 := dn24 a6
  have hsel := selL_n d
  have hcn := ct_n24 h24 hsel
  have hsd : ∀ c, c < dn_ d → selL d c = decide (dla d c = 1) := fun c hc => by unfold selL; rw [decide_eq_true hc, Bool.true_and]
  generalize hp : selL d = p at *
  have hct := ct_24 p
  have d2 : gt σ 2 2 = ((dn_ d : Nat) : Int) := a5.2.1.2.2.1
  have e4 : gt σ 4 = dla d := a5.2.2.2.2.2.2.1
  -- who is picked
  have A : ∀ a : Nat → Int, arrF p 0 a → ∀ q4, ∃ b, arrF p (dn_ d) b ∧ run 57 4 [vR 1, vI (s : Int), vI (ctN p 0 : Nat), vI 0, q4] [] (sr σ 21 a) = run 57 48 [vR 1, vI (s : Int), vI (ctN p (dn_ d) : Nat), vI (dn_ d : Nat), q4] [] (sr σ 21 b) := by
    refine bk (P := fun k z => ∀ a : Nat → Int, arrF p k a → ∀ q4, ∃ b, arrF p (dn_ d) b ∧ run 57 4 [vR 1, vI (s : Int), vI (ctN p k : Nat), vI z, q4] [] (sr σ 21 a) = run 57 48 [vR 1, vI (s : Int), vI (ctN p (dn_ d) : Nat), vI (dn_ d : Nat), q4] [] (sr σ 21 b)) (n := dn_ d) ?_ ?_
    · intro a har q4
      have h4 : ¬ ((dn_ d : Nat) : Int) < ((dn_ d : Nat) : Int) := by omega
      refine ⟨a, har, ?_⟩
      rw [e57_4]
      simp (disch := first | assumption | omega | (exact shp_fok (by first | assumption | exact shp_sr _ _ (by assumption) | exact shp_sr _ _ (shp_sr _ _ (by assumption)) | exact shp_sr _ _ (shp_sr _ _ (shp_sr _ _ (by assumption)))) (by decide)) | (simp only [fok_sr, aok_sr]; first | assumption | (exact shp_fok (by first | assumption | exact shp_sr _ _ (by assumption) | exact shp_sr _ _ (shp_sr _ _ (by assumption)) | exact shp_sr _ _ (shp_sr _ _ (shp_sr _ _ (by assumption)))) (by decide))) | (refine shp_aok (by first | assumption | exact shp_sr _ _ (by assumption) | exact shp_sr _ _ (shp_sr _ _ (by assumption)) | exact shp_sr _ _ (shp_sr _ _ (shp_sr _ _ (by assumption)))) rfl rfl ?_ ?_ <;> omega) | (exact shp_sr _ _ (by assumption)) | (exact shp_sr _ _ (shp_sr _ _ (by assumption))) | (exact shp_sr _ _ (shp_sr _ _ (shp_sr _ _ (by assumption)))) | (left; assumption) | (exact b2i_or _) | (simp; done)) only [e57_5, e57_6, e57_9, e57_12, eq_self, ne_a, ne_b, ne_c, Nat.reduceEqDiff, lt0, bnd_ok, psh_I, psh_L, psh_R, psh_U, gt_sr, gr_sr, sk_sr, nn_sr, ↓reduceIte, Int.toNat_natCast, Int.reduceToNat, g1_0, d2, h4]
    · intro k hk hk' ih a har q4
      have w5 : wr ((k : Int) + 1) = (k : Int) + 1 := wr_id (by omega) (by omega)
      have at1 := c_atN (σ := sr σ 21 a) (shp_ia (k := 4) (n := 24) (σ := sr σ 21 a) hs (by decide)) (j := k) (by omega)
      rw [gt_n _ _ (by decide), e4] at at1
      have hk9 := hsd k hk
      have hcm := (ct_mono p 0 k).2
      have hc0 : ctN p 0 = 0 := rfl
      rw [Nat.zero_add] at hcm
      have hcs : ctN p (k + 1) = ctN p k + (if p k = true then 1 else 0) := rfl
      by_cases hl : dla d k = 1
      · rw [decide_eq_true hl] at hk9
        rw [hk9, if_pos rfl] at hcs
        obtain ⟨b, hb1, hb2⟩ := ih _ (arr_s har hk9) q4
        refine ⟨b, hb1, ?_⟩
        have p1 := c_putN (σ := sr σ 21 a) (shp_ia (k := 21) (n := 24) (σ := sr σ 21 a) hs (by decide)) (j := ctN p k) (by omega) (k : Int)
        rw [gt_e, sr_sr] at p1
        have w6 : wr ((ctN p k : Int) + 1) = ((ctN p (k + 1) : Nat) : Int) := by rw [hcs, wr_id (by omega) (by omega)]; omega
        rw [← hb2, e57_4]
        simp (disch := first | assumption | omega | (exact shp_fok (by first | assumption | exact shp_sr _ _ (by assumption) | exact shp_sr _ _ (shp_sr _ _ (by assumption)) | exact shp_sr _ _ (shp_sr _ _ (shp_sr _ _ (by assumption)))) (by decide)) | (simp only [fok_sr, aok_sr]; first | assumption | (exact shp_fok (by first | assumption | exact shp_sr _ _ (by assumption) | exact shp_sr _ _ (shp_sr _ _ (by assumption)) | exact shp_sr _ _ (shp_sr _ _ (shp_sr _ _ (by assumption)))) (by decide))) | (refine shp_aok (by first | assumption | exact shp_sr _ _ (by assumption) | exact shp_sr _ _ (shp_sr _ _ (by assumption)) | exact shp_sr _ _ (shp_sr _ _ (shp_sr _ _ (by assumption)))) rfl rfl ?_ ?_ <;> omega) | (exact shp_sr _ _ (by assumption)) | (exact shp_sr _ _ (shp_sr _ _ (by assumption))) | (exact shp_sr _ _ (shp_sr _ _ (shp_sr _ _ (by assumption)))) | (left; assumption) | (exact b2i_or _) | (simp; done)) only [e57_5, e57_6, e57_9, e57_12, e57_15, e57_16, e57_19, e57_22, e57_23, e57_26, e57_27, e57_30, e57_31, e57_34, e57_35, e57_36, e57_39, e57_42, e57_45, eq_self, ne_a, ne_b, ne_c, Nat.reduceEqDiff, lt0, bnd_ok, psh_I, psh_L, psh_R, psh_U, gt_sr, gr_sr, sk_sr, nn_sr, ↓reduceIte, Int.toNat_natCast, Int.reduceToNat, g1_0, g1_4, g2_7, d2, hk', at1, hl, p1, w5, w6]
      · rw [decide_eq_false hl] at hk9
        rw [hk9, if_neg Bool.false_ne_true] at hcs
        have hcs' : ctN p (k + 1) = ctN p k := by omega
        obtain ⟨b, hb1, hb2⟩ := ih _ (arr_n har hk9) q4
        refine ⟨b, hb1, ?_⟩
        rw [hcs'] at hb2
        rw [← hb2, e57_4]
        simp (disch := first | assumption | omega | (exact shp_fok (by first | assumption | exact shp_sr _ _ (by assumption) | exact shp_sr _ _ (shp_sr _ _ (by assumption)) | exact shp_sr _ _ (shp_sr _ _ (shp_sr _ _ (by assumption)))) (by decide)) | (simp only [fok_sr, aok_sr]; first | assumption | (exact shp_fok (by first | assumption | exact shp_sr _ _ (by assumption) | exact shp_sr _ _ (shp_sr _ _ (by assumption)) | exact shp_sr _ _ (shp_sr _ _ (shp_sr _ _ (by assumption)))) (by decide))) | (refine shp_aok (by first | assumption | exact shp_sr _ _ (by assumption) | exact shp_sr _ _ (shp_sr _ _ (by assumption)) | exact shp_sr _ _ (shp_sr _ _ (shp_sr _ _ (by assumption)))) rfl rfl ?_ ?_ <;> omega) | (exact shp_sr _ _ (by assumption)) | (exact shp_sr _ _ (shp_sr _ _ (by assumption))) | (exact shp_sr _ _ (shp_sr _ _ (shp_sr _ _ (by assumption)))) | (left; assumption) | (exact b2i_or _) | (simp; done)) only [e57_5, e57_6, e57_9, e57_12, e57_15, e57_16, e57_19, e57_22, e57_23, e57_26, e57_27, e57_30, e57_31, e57_34, e57_35, e57_36, e57_39, e57_42, e57_45, eq_self, ne_a, ne_b, ne_c, Nat.reduceEqDiff, lt0, bnd_ok, psh_I, psh_L, psh_R, psh_U, gt_sr, gr_sr, sk_sr, nn_sr, ↓reduceIte, Int.toNat_natCast, Int.reduceToNat, g1_0, g2_7, d2, hk', at1, hl, w5]
  obtain ⟨b, hb1, hb2⟩ := A (gt σ 21) (fun k hk => absurd hk (Nat.not_lt_zero k)) vU
  rw [sr_self σ 21 _ rfl, hcn] at hb2
  have harr := arr_24 hsel hb1
  -- the trial bank
  have cB : chg [21] σ (sr σ 21 b) := chg_sr (chg_rf _ _) (by simp)
  have a5' := rep_chg cB (b := 2) (by intro i hi _; simp; omega) a5
  have a7' := jb_chg cB (b := 10) (by intro i hi _; simp; omega) a7
  obtain ⟨σ1, e1, c1, r1⟩ := c_copyAll a7' a5' a6 (by omega)
  have c01 : chg (21 :: SW) σ σ1 := chg_tr (chg_mo cB (by simp)) c1 (by decide)
  have I1 : srI σ σ1 d cn sg p := ⟨npd_chg c01 (by decide) (by decide) a1, rep_chg c01 (b := 2) (by intro i hi _; simp [SW]; omega) a5, ⟨dt d, dla d, r1, a6⟩, by rw [chg_gt c1 (by simp), gt_e]; exact harr⟩
  clear A hb1 a5' a7' r1 harr d2 e4
  have hstart : run 57 0 [vR 1, vI (s : Int), vU, vU, vU] [] σ = run 57 61 [vR 1, vI (s : Int), vI (ctN p 24 : Nat), vI 0, vU] [] σ1 := by
    have hc0 : ((ctN p 0 : Nat) : Int) = 0 := rfl
    rw [hc0] at hb2
    simp (disch := first | assumption | omega | (exact shp_fok (by first | assumption | exact shp_sr _ _ (by assumption) | exact shp_sr _ _ (shp_sr _ _ (by assumption)) | exact shp_sr _ _ (shp_sr _ _ (shp_sr _ _ (by assumption)))) (by decide)) | (simp only [fok_sr, aok_sr]; first | assumption | (exact shp_fok (by first | assumption | exact shp_sr _ _ (by assumption) | exact shp_sr _ _ (shp_sr _ _ (by assumption)) | exact shp_sr _ _ (shp_sr _ _ (shp_sr _ _ (by assumption)))) (by decide))) | (refine shp_aok (by first | assumption | exact shp_sr _ _ (by assumption) | exact shp_sr _ _ (shp_sr _ _ (by assumption)) | exact shp_sr _ _ (shp_sr _ _ (shp_sr _ _ (by assumption)))) rfl rfl ?_ ?_ <;> omega) | (exact shp_sr _ _ (by assumption)) | (exact shp_sr _ _ (shp_sr _ _ (by assumption))) | (exact shp_sr _ _ (shp_sr _ _ (shp_sr _ _ (by assumption)))) | (left; assumption) | (exact b2i_or _) | (simp; done)) only [e57_0, e57_1, e57_2, e57_3, eq_self, ne_a, ne_b, ne_c, Nat.reduceEqDiff, lt0, bnd_ok, psh_I, psh_L, psh_R, psh_U, gt_sr, gr_sr, sk_sr, nn_sr, ↓reduceIte, Int.toNat_natCast, Int.reduceToNat]
    rw [hb2]
    simp (disch := first | assumption | omega | (exact shp_fok (by first | assumption | exact shp_sr _ _ (by assumption) | exact shp_sr _ _ (shp_sr _ _ (by assumption)) | exact shp_sr _ _ (shp_sr _ _ (shp_sr _ _ (by assumption)))) (by decide)) | (simp only [fok_sr, aok_sr]; first | assumption | (exact shp_fok (by first | assumption | exact shp_sr _ _ (by assumption) | exact shp_sr _ _ (shp_sr _ _ (by assumption)) | exact shp_sr _ _ (shp_sr _ _ (shp_sr _ _ (by assumption)))) (by decide))) | (refine shp_aok (by first | assumption | exact shp_sr _ _ (by assumption) | exact shp_sr _ _ (shp_sr _ _ (by assumption)) | exact shp_sr _ _ (shp_sr _ _ (shp_sr _ _ (by assumption)))) rfl rfl ?_ ?_ <;> omega) | (exact shp_sr _ _ (by assumption)) | (exact shp_sr _ _ (shp_sr _ _ (by assumption))) | (exact shp_sr _ _ (shp_sr _ _ (shp_sr _ _ (by assumption)))) | (left; assumption) | (exact b2i_or _) | (simp; done)) only [e57_48, e57_49, e57_52, e57_53, e57_56, e57_59, e57_60, eq_self, ne_a, ne_b, ne_c, Nat.reduceEqDiff, lt0, bnd_ok, psh_I, psh_L, psh_R, psh_U, gt_sr, gr_sr, sk_sr, nn_sr, ↓reduceIte, Int.toNat_natCast, Int.reduceToNat, g1_0, g1_1, e1]
  clear hb2 c1 cB
  generalize hm : ctN p 24 = m at *
  have hm2 : 2 ^ m ≤ 256 := Nat.pow_le_pow_right (i := m) (j := 8) (by omega) h8
  have hm1 : 1 ≤ 2 ^ m := Nat.one_le_two_pow
  have o1 := bShl_N (a := 1) (k := m) (by omega) (by omega) (by omega)
  rw [Nat.one_mul, show ((1 : Nat) : Int) = 1 from rfl] at o1
  have hpc := fun x (hx : x < 2 ^ m) => pc_le hx (show m ≤ 24 by omega)
  have hE := fun x => exB_lt p x 24
  have S : (∀ x, x < 2 ^ m → goodL d sg cn s (exB p x 24) → ((0 : Nat) : Int) ≤ pcN x) → ∀ q4 τ, srI σ τ d cn sg p → ∃ τ' R, run 57 61 [vR 1, vI (s : Int), vI (m : Int), vI 0, q4] [] τ = some (vI R, τ') ∧ isB (GS p (goodL d sg cn s)) R ∧ chg SW τ τ' ∧ trR τ' d := by
    refine bk (P := fun z9 z => (∀ x, x < 2 ^ m → goodL d sg cn s (exB p x 24) → (z9 : Int) ≤ pcN x) → ∀ q4 τ, srI σ τ d cn sg p → ∃ τ' R, run 57 61 [vR 1, vI (s : Int), vI (m : Int), vI z, q4] [] τ = some (vI R, τ') ∧ isB (GS p (goodL d sg cn s)) R ∧ chg SW τ τ' ∧ trR τ' d) (n := m + 1) ?_ ?_
    · intro hno q4 τ hI
      refine ⟨τ, -6, ?_, isB_no (fun x hx hg => ?_), chg_rf _ _, hI.2.2.1⟩
      · have h4 : (m : Int) < ((m + 1 : Nat) : Int) := by omega
        rw [e57_61]
        simp (disch := first | assumption | omega | (exact shp_fok (by first | assumption | exact shp_sr _ _ (by assumption) | exact shp_sr _ _ (shp_sr _ _ (by assumption)) | exact shp_sr _ _ (shp_sr _ _ (shp_sr _ _ (by assumption)))) (by decide)) | (simp only [fok_sr, aok_sr]; first | assumption | (exact shp_fok (by first | assumption | exact shp_sr _ _ (by assumption) | exact shp_sr _ _ (shp_sr _ _ (by assumption)) | exact shp_sr _ _ (shp_sr _ _ (shp_sr _ _ (by assumption)))) (by decide))) | (refine shp_aok (by first | assumption | exact shp_sr _ _ (by assumption) | exact shp_sr _ _ (shp_sr _ _ (by assumption)) | exact shp_sr _ _ (shp_sr _ _ (shp_sr _ _ (by assumption)))) rfl rfl ?_ ?_ <;> omega) | (exact shp_sr _ _ (by assumption)) | (exact shp_sr _ _ (shp_sr _ _ (by assumption))) | (exact shp_sr _ _ (shp_sr _ _ (shp_sr _ _ (by assumption)))) | (left; assumption) | (exact b2i_or _) | (simp; done)) only [e57_62, e57_63, e57_121, e57_123, eq_self, ne_a, ne_b, ne_c, Nat.reduceEqDiff, lt0, bnd_ok, psh_I, psh_L, psh_R, psh_U, gt_sr, gr_sr, sk_sr, nn_sr, ↓reduceIte, Int.toNat_natCast, Int.reduceToNat, h4]
      · rw [hm] at hx
        have h1 := hno x hx hg
        have h2 := (hpc x hx).2
        omega
    · intro z9 hz hz' ih hno q4 τ hI
      have h4 : ¬ (m : Int) < (z9 : Int) := by omega
      have w5 : wr ((z9 : Int) + 1) = (z9 : Int) + 1 := wr_id (by omega) (by omega)
      have inner : (∀ x, x < 0 → ¬ (goodL d sg cn s (exB p x 24) ∧ pcN x = (z9 : Int))) → ∀ τ, srI σ τ d cn sg p → ∃ τ' R, run 57 69 [vR 1, vI (s : Int), vI (m : Int), vI (z9 : Int), vI 0] [] τ = some (vI R, τ') ∧ isB (GS p (goodL d sg cn s)) R ∧ chg SW τ τ' ∧ trR τ' d := by
        refine bk (P := fun x z => (∀ x', x' < x → ¬ (goodL d sg cn s (exB p x' 24) ∧ pcN x' = (z9 : Int))) → ∀ τ, srI σ τ d cn sg p → ∃ τ' R, run 57 69 [vR 1, vI (s : Int), vI (m : Int), vI (z9 : Int), vI z] [] τ = some (vI R, τ') ∧ isB (GS p (goodL d sg cn s)) R ∧ chg SW τ τ' ∧ trR τ' d) (n := 2 ^ m) ?_ ?_
        · intro hno2 τ hI
          have h6 : ¬ ((2 ^ m : Nat) : Int) < ((2 ^ m : Nat) : Int) := by omega
          obtain ⟨τ', R, e9, i9, c9, t9⟩ := ih (fun x hx hg => by
            have g1 := hno x hx hg
            have g2 := hno2 x hx
            by_cases g3 : pcN x = (z9 : Int)
            · exact absurd ⟨hg, g3⟩ g2
            · omega) (vI ((2 ^ m : Nat) : Int)) τ hI
          refine ⟨τ', R, ?_, i9, c9, t9⟩
          rw [e57_69]
          simp (disch := first | assumption | omega | (exact shp_fok (by first | assumption | exact shp_sr _ _ (by assumption) | exact shp_sr _ _ (shp_sr _ _ (by assumption)) | exact shp_sr _ _ (shp_sr _ _ (shp_sr _ _ (by assumption)))) (by decide)) | (simp only [fok_sr, aok_sr]; first | assumption | (exact shp_fok (by first | assumption | exact shp_sr _ _ (by assumption) | exact shp_sr _ _ (shp_sr _ _ (by assumption)) | exact shp_sr _ _ (shp_sr _ _ (shp_sr _ _ (by assumption)))) (by decide))) | (refine shp_aok (by first | assumption | exact shp_sr _ _ (by assumption) | exact shp_sr _ _ (shp_sr _ _ (by assumption)) | exact shp_sr _ _ (shp_sr _ _ (shp_sr _ _ (by assumption)))) rfl rfl ?_ ?_ <;> omega) | (exact shp_sr _ _ (by assumption)) | (exact shp_sr _ _ (shp_sr _ _ (by assumption))) | (exact shp_sr _ _ (shp_sr _ _ (shp_sr _ _ (by assumption)))) | (left; assumption) | (exact b2i_or _) | (simp; done)) only [e57_71, e57_72, e57_73, e57_74, e57_115, e57_118, eq_self, ne_a, ne_b, ne_c, Nat.reduceEqDiff, lt0, bnd_ok, psh_I, psh_L, psh_R, psh_U, gt_sr, gr_sr, sk_sr, nn_sr, ↓reduceIte, Int.toNat_natCast, Int.reduceToNat, o1, h6, w5]
          exact e9
        · intro x hx hx' ih2 hno2 τ hI
          have w6 : wr ((x : Int) + 1) = (x : Int) + 1 := wr_id (by omega) (by omega)
          have b1 := c_bitCount (a := x) (by omega) τ
          have ht := hI.1.1
          by_cases g1 : pcN x = (z9 : Int)
          · have pb := c_pickedBits ht hI.2.2.2 (x := x) (by omega)
            rw [hm] at pb
            obtain ⟨τ1, e2, c2, t2⟩ := c_standsWithout hI.1 hI.2.1 a6 hI.2.2.1 ha hs4 (B := exB p x 24) (hE x)
            have I2 := srI_chg hI c2 t2
            have ht2 := I2.1.1
            cases hg : hsL d sg cn s (exB p x 24) with
            | true =>
              have pb2 := c_pickedBits ht2 I2.2.2.2 (x := x) (by omega)
              rw [hm] at pb2
              rw [hg] at e2
              refine ⟨τ1, ((exB p x 24 : Nat) : Int), ?_, isB_of (by omega) (by rw [hm]; exact hx) hg (fun x' hx9 hg' => ?_), c2, t2⟩
              · rw [e57_69]
                simp (disch := first | assumption | omega | (exact shp_fok (by first | assumption | exact shp_sr _ _ (by assumption) | exact shp_sr _ _ (shp_sr _ _ (by assumption)) | exact shp_sr _ _ (shp_sr _ _ (shp_sr _ _ (by assumption)))) (by decide)) | (simp only [fok_sr, aok_sr]; first | assumption | (exact shp_fok (by first | assumption | exact shp_sr _ _ (by assumption) | exact shp_sr _ _ (shp_sr _ _ (by assumption)) | exact shp_sr _ _ (shp_sr _ _ (shp_sr _ _ (by assumption)))) (by decide))) | (refine shp_aok (by first | assumption | exact shp_sr _ _ (by assumption) | exact shp_sr _ _ (shp_sr _ _ (by assumption)) | exact shp_sr _ _ (shp_sr _ _ (shp_sr _ _ (by assumption)))) rfl rfl ?_ ?_ <;> omega) | (exact shp_sr _ _ (by assumption)) | (exact shp_sr _ _ (shp_sr _ _ (by assumption))) | (exact shp_sr _ _ (shp_sr _ _ (shp_sr _ _ (by assumption)))) | (left; assumption) | (exact b2i_or _) | (simp; done)) only [e57_71, e57_72, e57_73, e57_74, e57_77, e57_79, e57_82, e57_83, e57_86, e57_87, e57_88, e57_89, e57_91, e57_92, e57_95, e57_98, e57_101, e57_102, e57_104, e57_105, e57_108, e57_109, e57_112, eq_self, ne_a, ne_b, ne_c, Nat.reduceEqDiff, lt0, bnd_ok, psh_I, psh_L, psh_R, psh_U, gt_sr, gr_sr, sk_sr, nn_sr, ↓reduceIte, Int.toNat_natCast, Int.reduceToNat, o1, hx', b1, g1, pb, e2, b2i_t, pb2, Int.reduceEq]
              · rw [hm] at hx9
                have g4 := hno x' hx9 hg'
                by_cases g5 : pcN x' = (z9 : Int)
                · refine Or.inr ⟨by omega, ?_⟩
                  by_cases g6 : x' < x
                  · exact absurd ⟨hg', g5⟩ (hno2 x' g6)
                  · omega
                · exact Or.inl (by omega)
            | false =>
              rw [hg] at e2
              obtain ⟨τ2, R, e9, i9, c9, t9⟩ := ih2 (fun x' hx9 => by
                by_cases g6 : x' < x
                · exact hno2 x' g6
                · obtain rfl : x' = x := by omega
                  rintro ⟨g7, -⟩
                  unfold goodL at g7
                  rw [hg] at g7
                  cases g7) τ1 I2
              refine ⟨τ2, R, ?_, i9, chg_tr c2 c9 (fun _ h => h), t9⟩
              rw [e57_69]
              simp (disch := first | assumption | omega | (exact shp_fok (by first | assumption | exact shp_sr _ _ (by assumption) | exact shp_sr _ _ (shp_sr _ _ (by assumption)) | exact shp_sr _ _ (shp_sr _ _ (shp_sr _ _ (by assumption)))) (by decide)) | (simp only [fok_sr, aok_sr]; first | assumption | (exact shp_fok (by first | assumption | exact shp_sr _ _ (by assumption) | exact shp_sr _ _ (shp_sr _ _ (by assumption)) | exact shp_sr _ _ (shp_sr _ _ (shp_sr _ _ (by assumption)))) (by decide))) | (refine shp_aok (by first | assumption | exact shp_sr _ _ (by assumption) | exact shp_sr _ _ (shp_sr _ _ (by assumption)) | exact shp_sr _ _ (shp_sr _ _ (shp_sr _ _ (by assumption)))) rfl rfl ?_ ?_ <;> omega) | (exact shp_sr _ _ (by assumption)) | (exact shp_sr _ _ (shp_sr _ _ (by assumption))) | (exact shp_sr _ _ (shp_sr _ _ (shp_sr _ _ (by assumption)))) | (left; assumption) | (exact b2i_or _) | (simp; done)) only [e57_71, e57_72, e57_73, e57_74, e57_77, e57_79, e57_82, e57_83, e57_86, e57_87, e57_88, e57_89, e57_91, e57_92, e57_95, e57_98, e57_101, e57_102, e57_104, e57_105, e57_108, e57_109, e57_112, eq_self, ne_a, ne_b, ne_c, Nat.reduceEqDiff, lt0, bnd_ok, psh_I, psh_L, psh_R, psh_U, gt_sr, gr_sr, sk_sr, nn_sr, ↓reduceIte, Int.toNat_natCast, Int.reduceToNat, o1, hx', b1, g1, pb, e2, b2i_f, w6, Int.reduceEq]
              exact e9
          · obtain ⟨τ2, R, e9, i9, c9, t9⟩ := ih2 (fun x' hx9 => by
              by_cases g6 : x' < x
              · exact hno2 x' g6
              · obtain rfl : x' = x := by omega
                rintro ⟨-, g7⟩
                exact g1 g7) τ hI
            refine ⟨τ2, R, ?_, i9, c9, t9⟩
            rw [e57_69]
            simp (disch := first | assumption | omega | (exact shp_fok (by first | assumption | exact shp_sr _ _ (by assumption) | exact shp_sr _ _ (shp_sr _ _ (by assumption)) | exact shp_sr _ _ (shp_sr _ _ (shp_sr _ _ (by assumption)))) (by decide)) | (simp only [fok_sr, aok_sr]; first | assumption | (exact shp_fok (by first | assumption | exact shp_sr _ _ (by assumption) | exact shp_sr _ _ (shp_sr _ _ (by assumption)) | exact shp_sr _ _ (shp_sr _ _ (shp_sr _ _ (by assumption)))) (by decide))) | (refine shp_aok (by first | assumption | exact shp_sr _ _ (by assumption) | exact shp_sr _ _ (shp_sr _ _ (by assumption)) | exact shp_sr _ _ (shp_sr _ _ (shp_sr _ _ (by assumption)))) rfl rfl ?_ ?_ <;> omega) | (exact shp_sr _ _ (by assumption)) | (exact shp_sr _ _ (shp_sr _ _ (by assumption))) | (exact shp_sr _ _ (shp_sr _ _ (shp_sr _ _ (by assumption)))) | (left; assumption) | (exact b2i_or _) | (simp; done)) only [e57_71, e57_72, e57_73, e57_74, e57_77, e57_79, e57_82, e57_83, e57_86, e57_87, e57_88, e57_89, e57_91, e57_92, e57_95, e57_98, e57_101, e57_102, e57_104, e57_105, e57_108, e57_109, e57_112, eq_self, ne_a, ne_b, ne_c, Nat.reduceEqDiff, lt0, bnd_ok, psh_I, psh_L, psh_R, psh_U, gt_sr, gr_sr, sk_sr, nn_sr, ↓reduceIte, Int.toNat_natCast, Int.reduceToNat, o1, hx', b1, g1, w6]
            exact e9
      obtain ⟨τ', R, e9, i9, c9, t9⟩ := inner (fun x hx => absurd hx (Nat.not_lt_zero x)) τ hI
      refine ⟨τ', R, ?_, i9, c9, t9⟩
      rw [e57_61]
      simp (disch := first | assumption | omega | (exact shp_fok (by first | assumption | exact shp_sr _ _ (by assumption) | exact shp_sr _ _ (shp_sr _ _ (by assumption)) | exact shp_sr _ _ (shp_sr _ _ (shp_sr _ _ (by assumption)))) (by decide)) | (simp only [fok_sr, aok_sr]; first | assumption | (exact shp_fok (by first | assumption | exact shp_sr _ _ (by assumption) | exact shp_sr _ _ (shp_sr _ _ (by assumption)) | exact shp_sr _ _ (shp_sr _ _ (shp_sr _ _ (by assumption)))) (by decide))) | (refine shp_aok (by first | assumption | exact shp_sr _ _ (by assumption) | exact shp_sr _ _ (shp_sr _ _ (by assumption)) | exact shp_sr _ _ (shp_sr _ _ (shp_sr _ _ (by assumption)))) rfl rfl ?_ ?_ <;> omega) | (exact shp_sr _ _ (by assumption)) | (exact shp_sr _ _ (shp_sr _ _ (by assumption))) | (exact shp_sr _ _ (shp_sr _ _ (shp_sr _ _ (by assumption)))) | (left; assumption) | (exact b2i_or _) | (simp; done)) only [e57_62, e57_63, e57_66, e57_67, eq_self, ne_a, ne_b, ne_c, Nat.reduceEqDiff, lt0, bnd_ok, psh_I, psh_L, psh_R, psh_U, gt_sr, gr_sr, sk_sr, nn_sr, ↓reduceIte, Int.toNat_natCast, Int.reduceToNat, h4]
      exact e9
  obtain ⟨σ2, R, e2, i2, c2, t2⟩ := S (fun x hx hg => (hpc x hx).1) vU σ1 I1
  exact ⟨σ2, R, hstart.trans e2, i2, chg_tr c01 (chg_mo c2 (by decide)) (fun _ h => h), trR_jb t2⟩
theorem lb_selL {d : Dat} (ho : okd d) : lbD d = bsN (selL d) 24 := by
  have h24 := dn24 ho
  refine Nat.eq_of_testBit_eq fun i => ?_
  unfold lbD laB
  rw [bsN_tb, bsN_tb]
  unfold selL
  by_cases h : i < dn_ d
  · rw [decide_eq_true h, decide_eq_true (show i < 24 by omega), Bool.true_and, Bool.true_and]
  · rw [decide_eq_false h, Bool.false_and, Bool.and_false]
theorem pc_lamps {d : Dat} (ho : okd d) : pcN (lbD d) = (ctN (selL d) 24 : Int) := by
  rw [lb_selL ho, pc_bsN, ct_sum]
noncomputable def x_dark (d : Dat) (cn : Nat) (sg : Nat → Int) (s w : Int) : Int := if isS d s = true then (if 0 ≤ w ∧ w ≤ 1 then (if alh cn sg = true then (if ctN (selL d) 24 ≤ 8 then cob (lsB (GS (selL d) (goodL d sg cn s.toNat))) w else -4) else -5) else -2) else -1
set_option maxRecDepth 100000 in
set_option maxHeartbeats 4000000 in
theorem c_Fdark (s w : Int) (d : Dat) (cn : Nat) (sg : Nat → Int) : cla 55 [vR 1, vI s, vI w] d cn sg (vI (x_dark d cn sg s w)) d cn sg := by
  intro σ h
  have q1 := c_isShape h s
  have e0 := c_isHoursAlone h.1
  have hs := h.1.1
  unfold x_dark
  cases hS : isS d s with
  | false =>
    rw [hS] at q1
    refine ⟨σ, ?_, CS_rf h⟩
    simp (disch := first | assumption | omega | (exact shp_fok (by first | assumption | exact shp_sr _ _ (by assumption) | exact shp_sr _ _ (shp_sr _ _ (by assumption)) | exact shp_sr _ _ (shp_sr _ _ (shp_sr _ _ (by assumption)))) (by decide)) | (simp only [fok_sr, aok_sr]; first | assumption | (exact shp_fok (by first | assumption | exact shp_sr _ _ (by assumption) | exact shp_sr _ _ (shp_sr _ _ (by assumption)) | exact shp_sr _ _ (shp_sr _ _ (shp_sr _ _ (by assumption)))) (by decide))) | (refine shp_aok (by first | assumption | exact shp_sr _ _ (by assumption) | exact shp_sr _ _ (shp_sr _ _ (by assumption)) | exact shp_sr _ _ (shp_sr _ _ (shp_sr _ _ (by assumption)))) rfl rfl ?_ ?_ <;> omega) | (exact shp_sr _ _ (by assumption)) | (exact shp_sr _ _ (shp_sr _ _ (by assumption))) | (exact shp_sr _ _ (shp_sr _ _ (shp_sr _ _ (by assumption)))) | (left; assumption) | (exact b2i_or _) | (simp; done)) only [e55_0, e55_1, e55_2, e55_5, e55_8, e55_9, e55_10, e55_11, e55_12, e55_13, e55_16, e55_19, e55_21, e55_22, e55_23, e55_26, e55_29, e55_32, e55_34, e55_35, e55_36, e55_39, e55_42, e55_45, e55_47, e55_50, e55_52, e55_53, e55_54, e55_55, e55_58, e55_59, e55_62, eq_self, ne_a, ne_b, ne_c, Nat.reduceEqDiff, lt0, bnd_ok, psh_I, psh_L, psh_R, psh_U, gt_sr, gr_sr, sk_sr, nn_sr, ↓reduceIte, Int.toNat_natCast, Int.reduceToNat, q1, b2i_f, Bool.false_eq_true]
  | true =>
    rw [hS] at q1
    obtain ⟨s, rfl, hs4, -⟩ := isS_n hS
    rw [Int.toNat_natCast, if_pos rfl]
    by_cases h1 : 0 ≤ w ∧ w ≤ 1
    · rw [if_pos h1]
      cases ha : alh cn sg with
      | false =>
        rw [ha] at e0
        refine ⟨σ, ?_, CS_rf h⟩
        simp (disch := first | assumption | omega | (exact shp_fok (by first | assumption | exact shp_sr _ _ (by assumption) | exact shp_sr _ _ (shp_sr _ _ (by assumption)) | exact shp_sr _ _ (shp_sr _ _ (shp_sr _ _ (by assumption)))) (by decide)) | (simp only [fok_sr, aok_sr]; first | assumption | (exact shp_fok (by first | assumption | exact shp_sr _ _ (by assumption) | exact shp_sr _ _ (shp_sr _ _ (by assumption)) | exact shp_sr _ _ (shp_sr _ _ (shp_sr _ _ (by assumption)))) (by decide))) | (refine shp_aok (by first | assumption | exact shp_sr _ _ (by assumption) | exact shp_sr _ _ (shp_sr _ _ (by assumption)) | exact shp_sr _ _ (shp_sr _ _ (shp_sr _ _ (by assumption)))) rfl rfl ?_ ?_ <;> omega) | (exact shp_sr _ _ (by assumption)) | (exact shp_sr _ _ (shp_sr _ _ (by assumption))) | (exact shp_sr _ _ (shp_sr _ _ (shp_sr _ _ (by assumption)))) | (left; assumption) | (exact b2i_or _) | (simp; done)) only [e55_0, e55_1, e55_2, e55_5, e55_8, e55_9, e55_10, e55_11, e55_12, e55_13, e55_16, e55_19, e55_21, e55_22, e55_23, e55_26, e55_29, e55_32, e55_34, e55_35, e55_36, e55_39, e55_42, e55_45, e55_47, e55_50, e55_52, e55_53, e55_54, e55_55, e55_58, e55_59, e55_62, eq_self, ne_a, ne_b, ne_c, Nat.reduceEqDiff, lt0, bnd_ok, psh_I, psh_L, psh_R, psh_U, gt_sr, gr_sr, sk_sr, nn_sr, ↓reduceIte, Int.toNat_natCast, Int.reduceToNat, q1, b2i_t, b2i_f, c_isWithin, if_pos h1, g1_2, e0, Int.reduceEq, Bool.false_eq_true]
      | true =>
        rw [ha] at e0
        rw [if_pos rfl]
        have l1 := c_lampBitsR h.2.1 h.2.2.1
        have h24 := dn24 h.2.2.1
        have hlb : lbD d < 16777216 := by rw [lb_selL h.2.2.1]; exact bsN_lt _ 24
        have l2 := c_bitCount hlb σ
        rw [pc_lamps h.2.2.1] at l2
        by_cases h8 : ctN (selL d) 24 ≤ 8
        · rw [if_pos h8]
          obtain ⟨σ1, R, e1, i1, c1, j1⟩ := c_fewestLamps h ha hs4 h8
          have e2 := c_cob i1 GS_lt w σ1
          rw [lsB_eq i1] at e1 e2
          have h9 : ¬ 8 < (ctN (selL d) 24 : Int) := by omega
          refine ⟨σ1, ?_, SC_mo c1 rfl, CS_sc h c1 (sub_SC _ rfl) (by rw [chg_gt c1 (by decide)]; exact h.1.2.1) j1⟩
          simp (disch := first | assumption | omega | (exact shp_fok (by first | assumption | exact shp_sr _ _ (by assumption) | exact shp_sr _ _ (shp_sr _ _ (by assumption)) | exact shp_sr _ _ (shp_sr _ _ (shp_sr _ _ (by assumption)))) (by decide)) | (simp only [fok_sr, aok_sr]; first | assumption | (exact shp_fok (by first | assumption | exact shp_sr _ _ (by assumption) | exact shp_sr _ _ (shp_sr _ _ (by assumption)) | exact shp_sr _ _ (shp_sr _ _ (shp_sr _ _ (by assumption)))) (by decide))) | (refine shp_aok (by first | assumption | exact shp_sr _ _ (by assumption) | exact shp_sr _ _ (shp_sr _ _ (by assumption)) | exact shp_sr _ _ (shp_sr _ _ (shp_sr _ _ (by assumption)))) rfl rfl ?_ ?_ <;> omega) | (exact shp_sr _ _ (by assumption)) | (exact shp_sr _ _ (shp_sr _ _ (by assumption))) | (exact shp_sr _ _ (shp_sr _ _ (shp_sr _ _ (by assumption)))) | (left; assumption) | (exact b2i_or _) | (simp; done)) only [e55_0, e55_1, e55_2, e55_5, e55_8, e55_9, e55_10, e55_11, e55_12, e55_13, e55_16, e55_19, e55_21, e55_22, e55_23, e55_26, e55_29, e55_32, e55_34, e55_35, e55_36, e55_39, e55_42, e55_45, e55_47, e55_50, e55_52, e55_53, e55_54, e55_55, e55_58, e55_59, e55_62, eq_self, ne_a, ne_b, ne_c, Nat.reduceEqDiff, lt0, bnd_ok, psh_I, psh_L, psh_R, psh_U, gt_sr, gr_sr, sk_sr, nn_sr, ↓reduceIte, Int.toNat_natCast, Int.reduceToNat, q1, b2i_t, c_isWithin, if_pos h1, g1_0, g1_2, e0, l1, l2, h9, e1, e2, Int.reduceEq]
        · rw [if_neg h8]
          have h9 : 8 < (ctN (selL d) 24 : Int) := by omega
          refine ⟨σ, ?_, CS_rf h⟩
          simp (disch := first | assumption | omega | (exact shp_fok (by first | assumption | exact shp_sr _ _ (by assumption) | exact shp_sr _ _ (shp_sr _ _ (by assumption)) | exact shp_sr _ _ (shp_sr _ _ (shp_sr _ _ (by assumption)))) (by decide)) | (simp only [fok_sr, aok_sr]; first | assumption | (exact shp_fok (by first | assumption | exact shp_sr _ _ (by assumption) | exact shp_sr _ _ (shp_sr _ _ (by assumption)) | exact shp_sr _ _ (shp_sr _ _ (shp_sr _ _ (by assumption)))) (by decide))) | (refine shp_aok (by first | assumption | exact shp_sr _ _ (by assumption) | exact shp_sr _ _ (shp_sr _ _ (by assumption)) | exact shp_sr _ _ (shp_sr _ _ (shp_sr _ _ (by assumption)))) rfl rfl ?_ ?_ <;> omega) | (exact shp_sr _ _ (by assumption)) | (exact shp_sr _ _ (shp_sr _ _ (by assumption))) | (exact shp_sr _ _ (shp_sr _ _ (shp_sr _ _ (by assumption)))) | (left; assumption) | (exact b2i_or _) | (simp; done)) only [e55_0, e55_1, e55_2, e55_5, e55_8, e55_9, e55_10, e55_11, e55_12, e55_13, e55_16, e55_19, e55_21, e55_22, e55_23, e55_26, e55_29, e55_32, e55_34, e55_35, e55_36, e55_39, e55_42, e55_45, e55_47, e55_50, e55_52, e55_53, e55_54, e55_55, e55_58, e55_59, e55_62, eq_self, ne_a, ne_b, ne_c, Nat.reduceEqDiff, lt0, bnd_ok, psh_I, psh_L, psh_R, psh_U, gt_sr, gr_sr, sk_sr, nn_sr, ↓reduceIte, Int.toNat_natCast, Int.reduceToNat, q1, b2i_t, c_isWithin, if_pos h1, g1_0, g1_2, e0, l1, l2, h9, Int.reduceEq]
    · rw [if_neg h1]
      refine ⟨σ, ?_, CS_rf h⟩
      simp (disch := first | assumption | omega | (exact shp_fok (by first | assumption | exact shp_sr _ _ (by assumption) | exact shp_sr _ _ (shp_sr _ _ (by assumption)) | exact shp_sr _ _ (shp_sr _ _ (shp_sr _ _ (by assumption)))) (by decide)) | (simp only [fok_sr, aok_sr]; first | assumption | (exact shp_fok (by first | assumption | exact shp_sr _ _ (by assumption) | exact shp_sr _ _ (shp_sr _ _ (by assumption)) | exact shp_sr _ _ (shp_sr _ _ (shp_sr _ _ (by assumption)))) (by decide))) | (refine shp_aok (by first | assumption | exact shp_sr _ _ (by assumption) | exact shp_sr _ _ (shp_sr _ _ (by assumption)) | exact shp_sr _ _ (shp_sr _ _ (shp_sr _ _ (by assumption)))) rfl rfl ?_ ?_ <;> omega) | (exact shp_sr _ _ (by assumption)) | (exact shp_sr _ _ (shp_sr _ _ (by assumption))) | (exact shp_sr _ _ (shp_sr _ _ (shp_sr _ _ (by assumption)))) | (left; assumption) | (exact b2i_or _) | (simp; done)) only [e55_0, e55_1, e55_2, e55_5, e55_8, e55_9, e55_10, e55_11, e55_12, e55_13, e55_16, e55_19, e55_21, e55_22, e55_23, e55_26, e55_29, e55_32, e55_34, e55_35, e55_36, e55_39, e55_42, e55_45, e55_47, e55_50, e55_52, e55_53, e55_54, e55_55, e55_58, e55_59, e55_62, eq_self, ne_a, ne_b, ne_c, Nat.reduceEqDiff, lt0, bnd_ok, psh_I, psh_L, psh_R, psh_U, gt_sr, gr_sr, sk_sr, nn_sr, ↓reduceIte, Int.toNat_natCast, Int.reduceToNat, q1, b2i_t, c_isWithin, if_neg h1, Int.reduceEq]
theorem lb_out {d : Dat} (ho : okd d) {B : Nat} (hB : B < 16777216) : lbD (fog d (dt d) (laO d B)) = lbD d &&& (B ^^^ 4294967295) := by
  have h24 := dn24 ho
  have hlt : ∀ la, laB la (dn_ d) < 2147483648 := fun la => lb_lt h24 la
  refine Nat.eq_of_testBit_eq fun i => ?_
  show (laB (laO d B) (dn_ d)).testBit i = (laB (dla d) (dn_ d) &&& (B ^^^ 4294967295)).testBit i
  by_cases hi : i < 32
  · rw [anot_tb hi]
    unfold laB
    rw [bsN_tb, bsN_tb]
    by_cases h : i < dn_ d
    · rw [decide_eq_true h, Bool.true_and, Bool.true_and]
      unfold laO upto puo
      rw [if_pos h]
      cases hb : B.testBit i with
      | true => rw [if_pos rfl]; simp
      | false => rw [if_neg Bool.false_ne_true]; simp
    · rw [decide_eq_false h, Bool.false_and, Bool.false_and, Bool.false_and]
  · rw [tb_big (hlt _) (by omega), tb_big (Nat.lt_of_le_of_lt Nat.and_le_left (hlt _)) (by omega)]
/-- the best of the first so many codes -/
def isK (p : Nat → Bool) (good : Nat → Prop) (K : Nat) (F : Int) : Prop := (F = -6 ∧ ∀ x, x < K → ¬ good (exB p x 24)) ∨ ∃ x, x < K ∧ good (exB p x 24) ∧ F = (exB p x 24 : Nat) ∧ ∀ x', x' < K → good (exB p x' 24) → pcN x < pcN x' ∨ (pcN x = pcN x' ∧ x ≤ x')
set_option maxRecDepth 100000 in
set_option maxHeartbeats 4000000 in
theorem m_cob {G : Nat → Prop} {R : Int} (h : isB G R) (hG : ∀ B, G B → B < 16777216) {w : Int} (hw : 0 ≤ w ∧ w ≤ 1) : (R < 0 ∧ R = cob R w) ∨ ∃ B : Nat, R = (B : Int) ∧ B < 16777216 ∧ (if w = 1 then (B : Int) else pcN B) = cob R w := by
  unfold cob
  rcases h with ⟨rfl, -⟩ | ⟨B, hg, rfl, -⟩
  · exact Or.inl ⟨by decide, by rw [if_neg (fun h => h.2 rfl)]⟩
  · refine Or.inr ⟨B, rfl, hG B hg, ?_⟩
    rw [Int.toNat_natCast]
    obtain rfl | rfl : w = 0 ∨ w = 1 := by omega
    · rw [if_neg (by decide), if_pos ⟨rfl, by omega⟩]
    · rw [if_pos rfl, if_neg (fun h => absurd h.1 (by decide))]
set_option maxRecDepth 100000 in
set_option maxHeartbeats 8000000 in
set_option maxRecDepth 100000 in
set_option maxHeartbeats 4000000 in
theorem m_Mdark (s w : Int) (d : Dat) (cn : Nat) (sg : Nat → Int) : mla 125 [vR 24, vI s, vI w, vU, vU, vU, vU, vU, vU] d cn sg (vI (x_dark d cn sg s w)) d cn sg := by
  intro σ h
  have q1 := m_isShape h.1 h.2.2.2.2.2.2.2.2.1 s
  have e0 := m_areHours h
  have hs := h.1.1
  have ho := h.2.2.2.2.2.2.2.2.1
  unfold x_dark
  cases hS : isS d s with
  | false =>
    rw [hS] at q1
    refine ⟨σ, ?_, mdl_rf h⟩
    simp (disch := first | assumption | omega | (exact shp_fok (by first | assumption | exact shp_sr _ _ (by assumption) | exact shp_sr _ _ (shp_sr _ _ (by assumption)) | exact shp_sr _ _ (shp_sr _ _ (shp_sr _ _ (by assumption)))) (by decide)) | (simp only [fok_sr, aok_sr]; first | assumption | (exact shp_fok (by first | assumption | exact shp_sr _ _ (by assumption) | exact shp_sr _ _ (shp_sr _ _ (by assumption)) | exact shp_sr _ _ (shp_sr _ _ (shp_sr _ _ (by assumption)))) (by decide))) | (refine shp_aok (by first | assumption | exact shp_sr _ _ (by assumption) | exact shp_sr _ _ (shp_sr _ _ (by assumption)) | exact shp_sr _ _ (shp_sr _ _ (shp_sr _ _ (by assumption)))) rfl rfl ?_ ?_ <;> omega) | (exact shp_sr _ _ (by assumption)) | (exact shp_sr _ _ (shp_sr _ _ (by assumption))) | (exact shp_sr _ _ (shp_sr _ _ (shp_sr _ _ (by assumption)))) | (left; assumption) | (exact b2i_or _) | (simp; done)) only [e125_0, e125_1, e125_2, e125_5, e125_8, e125_9, eq_self, ne_a, ne_b, ne_c, Nat.reduceEqDiff, lt0, bnd_ok, psh_I, psh_L, psh_R, psh_U, gt_sr, gr_sr, sk_sr, nn_sr, ↓reduceIte, Int.toNat_natCast, Int.reduceToNat, q1, b2i_f, Bool.false_eq_true]
  | true =>
    rw [hS] at q1
    obtain ⟨s, rfl, hs4, -⟩ := isS_n hS
    rw [Int.toNat_natCast, if_pos rfl]
    by_cases h1 : 0 ≤ w ∧ w ≤ 1
    · rw [if_pos h1]
      cases ha : alh cn sg with
      | false =>
        rw [ha] at e0
        refine ⟨σ, ?_, mdl_rf h⟩
        simp (disch := first | assumption | omega | (exact shp_fok (by first | assumption | exact shp_sr _ _ (by assumption) | exact shp_sr _ _ (shp_sr _ _ (by assumption)) | exact shp_sr _ _ (shp_sr _ _ (shp_sr _ _ (by assumption)))) (by decide)) | (simp only [fok_sr, aok_sr]; first | assumption | (exact shp_fok (by first | assumption | exact shp_sr _ _ (by assumption) | exact shp_sr _ _ (shp_sr _ _ (by assumption)) | exact shp_sr _ _ (shp_sr _ _ (shp_sr _ _ (by assumption)))) (by decide))) | (refine shp_aok (by first | assumption | exact shp_sr _ _ (by assumption) | exact shp_sr _ _ (shp_sr _ _ (by assumption)) | exact shp_sr _ _ (shp_sr _ _ (shp_sr _ _ (by assumption)))) rfl rfl ?_ ?_ <;> omega) | (exact shp_sr _ _ (by assumption)) | (exact shp_sr _ _ (shp_sr _ _ (by assumption))) | (exact shp_sr _ _ (shp_sr _ _ (shp_sr _ _ (by assumption)))) | (left; assumption) | (exact b2i_or _) | (simp; done)) only [e125_0, e125_1, e125_2, e125_5, e125_8, e125_9, e125_10, e125_11, e125_12, e125_13, e125_16, e125_19, e125_21, e125_22, e125_23, e125_26, e125_29, e125_31, eq_self, ne_a, ne_b, ne_c, Nat.reduceEqDiff, lt0, bnd_ok, psh_I, psh_L, psh_R, psh_U, gt_sr, gr_sr, sk_sr, nn_sr, ↓reduceIte, Int.toNat_natCast, Int.reduceToNat, q1, b2i_t, b2i_f, m_in, if_pos h1, e0, Int.reduceEq, Bool.false_eq_true]
      | true =>
        rw [ha] at e0
        rw [if_pos rfl]
        have h24 := dn24 ho
        have hlb : lbD d < 2147483648 := lb_lt h24 _
        have l2 := fun σ => m_bits hlb σ
        rw [pc_lamps ho] at l2
        have hl3 : gt σ 24 3 = (lbD d : Int) := h.2.1
        have hlbt : ∀ c, c < 24 → (lbD d).testBit c = selL d c := fun c hc => by rw [lb_selL ho, bsN_tb, decide_eq_true hc, Bool.true_and]
        by_cases h8 : ctN (selL d) 24 ≤ 8
        · rw [if_pos h8]
          generalize hm : ctN (selL d) 24 = m at *
          have hm2 : 2 ^ m ≤ 256 := Nat.pow_le_pow_right (i := m) (j := 8) (by omega) h8
          have hm1 : 1 ≤ 2 ^ m := Nat.one_le_two_pow
          have o1 := bShl_N (a := 1) (k := m) (by omega) (by omega) (by omega)
          rw [Nat.one_mul, show ((1 : Nat) : Int) = 1 from rfl] at o1
          have hpx : ∀ x, x < 2 ^ m → pcN (exB (selL d) x 24) = pcN x := fun x hx => pc_ex (Nat.le_refl _) (by rw [hm]; exact hx) (by omega)
          have hE := fun x N => exB_lt (selL d) x N
          -- the bits of a code
          have inner : ∀ (τ : St) (F : Int) (x : Nat), x < 2 ^ m → mdl τ d cn sg → ∃ q8, run 125 73 [vR 24, vI (s : Int), vI w, vI (m : Int), vI F, vI (x : Int), vI (exB (selL d) x 0 : Nat), vI (ctN (selL d) 0 : Nat), vI 0] [] τ = run 125 124 [vR 24, vI (s : Int), vI w, vI (m : Int), vI F, vI (x : Int), vI (exB (selL d) x 24 : Nat), vI (m : Int), q8] [] τ := by
            intro τ F x hx hmm
            refine ⟨vI 24, ?_⟩
            have ht := hmm.1.1
            have hl := hmm.2.1
            refine bk (P := fun c z => run 125 73 [vR 24, vI (s : Int), vI w, vI (m : Int), vI F, vI (x : Int), vI (exB (selL d) x c : Nat), vI (ctN (selL d) c : Nat), vI z] [] τ = run 125 124 [vR 24, vI (s : Int), vI w, vI (m : Int), vI F, vI (x : Int), vI (exB (selL d) x 24 : Nat), vI (m : Int), vI 24] [] τ) (n := 24) ?_ ?_
            · rw [e125_73]
              simp (disch := first | assumption | omega | (exact shp_fok (by first | assumption | exact shp_sr _ _ (by assumption) | exact shp_sr _ _ (shp_sr _ _ (by assumption)) | exact shp_sr _ _ (shp_sr _ _ (shp_sr _ _ (by assumption)))) (by decide)) | (simp only [fok_sr, aok_sr]; first | assumption | (exact shp_fok (by first | assumption | exact shp_sr _ _ (by assumption) | exact shp_sr _ _ (shp_sr _ _ (by assumption)) | exact shp_sr _ _ (shp_sr _ _ (shp_sr _ _ (by assumption)))) (by decide))) | (refine shp_aok (by first | assumption | exact shp_sr _ _ (by assumption) | exact shp_sr _ _ (shp_sr _ _ (by assumption)) | exact shp_sr _ _ (shp_sr _ _ (shp_sr _ _ (by assumption)))) rfl rfl ?_ ?_ <;> omega) | (exact shp_sr _ _ (by assumption)) | (exact shp_sr _ _ (shp_sr _ _ (by assumption))) | (exact shp_sr _ _ (shp_sr _ _ (shp_sr _ _ (by assumption)))) | (left; assumption) | (exact b2i_or _) | (simp; done)) only [e125_75, e125_77, eq_self, ne_a, ne_b, ne_c, Nat.reduceEqDiff, lt0, bnd_ok, psh_I, psh_L, psh_R, psh_U, gt_sr, gr_sr, sk_sr, nn_sr, ↓reduceIte, Int.toNat_natCast, Int.reduceToNat, Int.cast_ofNat_Int, Int.reduceLT, hm]
            · intro c hc hc' ih
              have h4 : (c : Int) < 24 := hc'
              have w5 : wr ((c : Int) + 1) = (c : Int) + 1 := wr_id (by omega) (by omega)
              have hh := m_has (x := lbD d) (k := c) hlb (by omega) τ
              rw [hlbt c hc] at hh
              have hcm := (ct_mono (selL d) 0 c).2
              have hc0 : ctN (selL d) 0 = 0 := rfl
              rw [Nat.zero_add] at hcm
              have hcs : ctN (selL d) (c + 1) = ctN (selL d) c + (if selL d c = true then 1 else 0) := rfl
              have hes : exB (selL d) x (c + 1) = exB (selL d) x c ||| (if (selL d c && x.testBit (ctN (selL d) c)) = true then 2 ^ c else 0) := rfl
              have hlt := hE x c
              have hp : 2 ^ c ≤ 2 ^ 23 := Nat.pow_le_pow_right (by omega) (by omega)
              rw [e125_73]
              cases hb : selL d c with
              | false =>
                rw [hb] at hh
                rw [hb, if_neg Bool.false_ne_true] at hcs
                rw [hb, Bool.false_and, if_neg Bool.false_ne_true, Nat.or_zero] at hes
                have hcs' : ctN (selL d) (c + 1) = ctN (selL d) c := by omega
                rw [hes, hcs'] at ih
                simp (disch := first | assumption | omega | (exact shp_fok (by first | assumption | exact shp_sr _ _ (by assumption) | exact shp_sr _ _ (shp_sr _ _ (by assumption)) | exact shp_sr _ _ (shp_sr _ _ (shp_sr _ _ (by assumption)))) (by decide)) | (simp only [fok_sr, aok_sr]; first | assumption | (exact shp_fok (by first | assumption | exact shp_sr _ _ (by assumption) | exact shp_sr _ _ (shp_sr _ _ (by assumption)) | exact shp_sr _ _ (shp_sr _ _ (shp_sr _ _ (by assumption)))) (by decide))) | (refine shp_aok (by first | assumption | exact shp_sr _ _ (by assumption) | exact shp_sr _ _ (shp_sr _ _ (by assumption)) | exact shp_sr _ _ (shp_sr _ _ (shp_sr _ _ (by assumption)))) rfl rfl ?_ ?_ <;> omega) | (exact shp_sr _ _ (by assumption)) | (exact shp_sr _ _ (shp_sr _ _ (by assumption))) | (exact shp_sr _ _ (shp_sr _ _ (shp_sr _ _ (by assumption)))) | (left; assumption) | (exact b2i_or _) | (simp; done)) only [e125_75, e125_77, e125_80, e125_81, e125_84, e125_86, e125_89, e125_92, e125_94, e125_96, e125_98, e125_101, e125_104, e125_105, e125_107, e125_108, e125_111, e125_112, e125_113, e125_115, e125_118, e125_121, eq_self, ne_a, ne_b, ne_c, Nat.reduceEqDiff, lt0, bnd_ok, psh_I, psh_L, psh_R, psh_U, gt_sr, gr_sr, sk_sr, nn_sr, ↓reduceIte, Int.toNat_natCast, Int.reduceToNat, h4, hl, hh, b2i_f, w5]
                exact ih
              | true =>
                rw [hb] at hh
                rw [hb, if_pos rfl] at hcs
                rw [hb, Bool.true_and] at hes
                have hh2 := m_has (x := x) (k := ctN (selL d) c) (by omega) (by omega) τ
                have w6 : wr ((ctN (selL d) c : Int) + 1) = ((ctN (selL d) (c + 1) : Nat) : Int) := by rw [hcs, wr_id (by omega) (by omega)]; omega
                rw [hes] at ih
                cases hx2 : x.testBit (ctN (selL d) c) with
                | true =>
                  rw [hx2] at hh2 ih
                  rw [if_pos rfl] at ih
                  have o3 := bShl_N (a := 1) (k := c) (by omega) (by omega) (by omega)
                  rw [Nat.one_mul, show ((1 : Nat) : Int) = 1 from rfl] at o3
                  have o2 := bOr_N (a := exB (selL d) x c) (b := 2 ^ c) (by omega) (by omega)
                  simp (disch := first | assumption | omega | (exact shp_fok (by first | assumption | exact shp_sr _ _ (by assumption) | exact shp_sr _ _ (shp_sr _ _ (by assumption)) | exact shp_sr _ _ (shp_sr _ _ (shp_sr _ _ (by assumption)))) (by decide)) | (simp only [fok_sr, aok_sr]; first | assumption | (exact shp_fok (by first | assumption | exact shp_sr _ _ (by assumption) | exact shp_sr _ _ (shp_sr _ _ (by assumption)) | exact shp_sr _ _ (shp_sr _ _ (shp_sr _ _ (by assumption)))) (by decide))) | (refine shp_aok (by first | assumption | exact shp_sr _ _ (by assumption) | exact shp_sr _ _ (shp_sr _ _ (by assumption)) | exact shp_sr _ _ (shp_sr _ _ (shp_sr _ _ (by assumption)))) rfl rfl ?_ ?_ <;> omega) | (exact shp_sr _ _ (by assumption)) | (exact shp_sr _ _ (shp_sr _ _ (by assumption))) | (exact shp_sr _ _ (shp_sr _ _ (shp_sr _ _ (by assumption)))) | (left; assumption) | (exact b2i_or _) | (simp; done)) only [e125_75, e125_77, e125_80, e125_81, e125_84, e125_86, e125_89, e125_92, e125_94, e125_96, e125_98, e125_101, e125_104, e125_105, e125_107, e125_108, e125_111, e125_112, e125_113, e125_115, e125_118, e125_121, eq_self, ne_a, ne_b, ne_c, Nat.reduceEqDiff, lt0, bnd_ok, psh_I, psh_L, psh_R, psh_U, gt_sr, gr_sr, sk_sr, nn_sr, ↓reduceIte, Int.toNat_natCast, Int.reduceToNat, h4, hl, hh, b2i_t, hh2, o3, o2, w5, w6, Int.reduceEq]
                  exact ih
                | false =>
                  rw [hx2] at hh2 ih
                  rw [if_neg Bool.false_ne_true] at ih
                  have o2 := bOr_N (a := exB (selL d) x c) (b := 0) (by omega) (by omega)
                  rw [show ((0 : Nat) : Int) = 0 from rfl] at o2
                  simp (disch := first | assumption | omega | (exact shp_fok (by first | assumption | exact shp_sr _ _ (by assumption) | exact shp_sr _ _ (shp_sr _ _ (by assumption)) | exact shp_sr _ _ (shp_sr _ _ (shp_sr _ _ (by assumption)))) (by decide)) | (simp only [fok_sr, aok_sr]; first | assumption | (exact shp_fok (by first | assumption | exact shp_sr _ _ (by assumption) | exact shp_sr _ _ (shp_sr _ _ (by assumption)) | exact shp_sr _ _ (shp_sr _ _ (shp_sr _ _ (by assumption)))) (by decide))) | (refine shp_aok (by first | assumption | exact shp_sr _ _ (by assumption) | exact shp_sr _ _ (shp_sr _ _ (by assumption)) | exact shp_sr _ _ (shp_sr _ _ (shp_sr _ _ (by assumption)))) rfl rfl ?_ ?_ <;> omega) | (exact shp_sr _ _ (by assumption)) | (exact shp_sr _ _ (shp_sr _ _ (by assumption))) | (exact shp_sr _ _ (shp_sr _ _ (shp_sr _ _ (by assumption)))) | (left; assumption) | (exact b2i_or _) | (simp; done)) only [e125_75, e125_77, e125_80, e125_81, e125_84, e125_86, e125_89, e125_92, e125_94, e125_96, e125_98, e125_101, e125_104, e125_105, e125_107, e125_108, e125_111, e125_112, e125_113, e125_115, e125_118, e125_121, eq_self, ne_a, ne_b, ne_c, Nat.reduceEqDiff, lt0, bnd_ok, psh_I, psh_L, psh_R, psh_U, gt_sr, gr_sr, sk_sr, nn_sr, ↓reduceIte, Int.toNat_natCast, Int.reduceToNat, h4, hl, hh, b2i_t, b2i_f, hh2, o2, w5, w6, Int.reduceEq]
                  exact ih
          have L : ∀ (F : Int), isK (selL d) (goodL d sg cn s) 0 F → ∀ q6 q7 q8 τ, mdl τ d cn sg → ∃ F' q6' q7' q8' τ', isK (selL d) (goodL d sg cn s) (2 ^ m) F' ∧ run 125 56 [vR 24, vI (s : Int), vI w, vI (m : Int), vI F, vI 0, q6, q7, q8] [] τ = run 125 186 [vR 24, vI (s : Int), vI w, vI (m : Int), vI F', vI ((2 ^ m : Nat) : Int), q6', q7', q8'] [] τ' ∧ sch τ τ' ∧ mdl τ' d cn sg := by
            have T : ∀ (F : Int) (x : Nat) (q8 : AV) (τ : St), x < 2 ^ m → mdl τ d cn sg → ∃ τ', run 125 142 [vR 24, vI (s : Int), vI w, vI (m : Int), vI F, vI (x : Int), vI (exB (selL d) x 24 : Nat), vI (m : Int), q8] [] τ = run 125 56 [vR 24, vI (s : Int), vI w, vI (m : Int), vI (if hsL d sg cn s (exB (selL d) x 24) = true then ((exB (selL d) x 24 : Nat) : Int) else F), vI ((x : Int) + 1), vI (exB (selL d) x 24 : Nat), vI (m : Int), q8] [] τ' ∧ sch τ τ' ∧ mdl τ' d cn sg := by
              intro F x q8 τ hx hmm
              have hBlt := hE x 24
              generalize hB : exB (selL d) x 24 = B at *
              obtain ⟨τ1, e1, c1, r1⟩ := m_asNow hmm
              have m1 := mdl_sch hmm c1 (nowR_z r1)
              have hl1 : gt τ1 24 3 = (lbD d : Int) := m1.2.1
              have han := bAnot (a := lbD d) (b := B) hlb (by omega)
              rw [← lb_out ho (by omega)] at han
              obtain ⟨⟨f0, f1, f2, f3, f4, f5⟩, n1, n2, n3⟩ := r1
              have r2 : nowR (sr τ1 24 (ru (gt τ1 24) 13 ((lbD (fog d (dt d) (laO d B)) : Nat) : Int))) (fog d (dt d) (laO d B)) := by
                refine ⟨⟨f0, ?_, ?_, ?_, ?_, f5⟩, n1, ?_, ok_laO ho B⟩
                · rw [gt_e, ru_n _ _ (by decide)]; exact f1
                · rw [gt_e, ru_n _ _ (by decide)]; exact f2
                · rw [gt_e, ru_n _ _ (by decide)]; exact f3
                · rw [gt_e, ru_n _ _ (by decide)]; exact f4
                · rw [gt_e, ru_e]
              have c2 : sch τ1 (sr τ1 24 (ru (gt τ1 24) 13 ((lbD (fog d (dt d) (laO d B)) : Nat) : Int))) := sch_sr (fun i hi => ru_n _ _ (by omega))
              have k9 : gt (sr τ1 24 (ru (gt τ1 24) 13 ((lbD (fog d (dt d) (laO d B)) : Nat) : Int))) 24 9 = (cn : Int) := by rw [gt_e, ru_n _ _ (by decide)]; exact m1.2.2.2.1
              have k28 : gt (sr τ1 24 (ru (gt τ1 24) 13 ((lbD (fog d (dt d) (laO d B)) : Nat) : Int))) 28 = sg := by rw [gt_n _ _ (by decide)]; exact m1.2.2.2.2.2.2.1
              obtain ⟨τ3, e3, c3, r3⟩ := m_goHours r2 k9 k28 m1.2.2.2.2.2.2.2.1.1 ha
              have e4 := m_standsNow r3 hs4
              have sA := sch_tr (sch_tr c1 c2) (sch_of c3 rfl)
              refine ⟨τ3, ?_, sA, mdl_sch hmm sA (nowR_z r3)⟩
              have ht := hmm.1.1
              have ht3 := r3.1.1
              have w5 : wr ((x : Int) + 1) = (x : Int) + 1 := wr_id (by omega) (by omega)
              unfold hsL
              cases hg : hoD (pah (fog d (dt d) (laO d B)) sg cn) s with
              | true =>
                rw [hg] at e4
                simp (disch := first | assumption | omega | (exact shp_fok (by first | assumption | exact shp_sr _ _ (by assumption) | exact shp_sr _ _ (shp_sr _ _ (by assumption)) | exact shp_sr _ _ (shp_sr _ _ (shp_sr _ _ (by assumption)))) (by decide)) | (simp only [fok_sr, aok_sr]; first | assumption | (exact shp_fok (by first | assumption | exact shp_sr _ _ (by assumption) | exact shp_sr _ _ (shp_sr _ _ (by assumption)) | exact shp_sr _ _ (shp_sr _ _ (shp_sr _ _ (by assumption)))) (by decide))) | (refine shp_aok (by first | assumption | exact shp_sr _ _ (by assumption) | exact shp_sr _ _ (shp_sr _ _ (by assumption)) | exact shp_sr _ _ (shp_sr _ _ (shp_sr _ _ (by assumption)))) rfl rfl ?_ ?_ <;> omega) | (exact shp_sr _ _ (by assumption)) | (exact shp_sr _ _ (shp_sr _ _ (by assumption))) | (exact shp_sr _ _ (shp_sr _ _ (shp_sr _ _ (by assumption)))) | (left; assumption) | (exact b2i_or _) | (simp; done)) only [e125_142, e125_143, e125_146, e125_147, e125_148, e125_151, e125_153, e125_154, e125_155, e125_156, e125_159, e125_160, e125_163, e125_164, e125_165, e125_168, e125_171, e125_173, e125_176, e125_178, e125_180, e125_183, eq_self, ne_a, ne_b, ne_c, Nat.reduceEqDiff, lt0, bnd_ok, psh_I, psh_L, psh_R, psh_U, gt_sr, gr_sr, sk_sr, nn_sr, ↓reduceIte, Int.toNat_natCast, Int.reduceToNat, e1, hl1, han, e3, e4, b2i_t, w5, Int.reduceEq]
              | false =>
                rw [hg] at e4
                simp (disch := first | assumption | omega | (exact shp_fok (by first | assumption | exact shp_sr _ _ (by assumption) | exact shp_sr _ _ (shp_sr _ _ (by assumption)) | exact shp_sr _ _ (shp_sr _ _ (shp_sr _ _ (by assumption)))) (by decide)) | (simp only [fok_sr, aok_sr]; first | assumption | (exact shp_fok (by first | assumption | exact shp_sr _ _ (by assumption) | exact shp_sr _ _ (shp_sr _ _ (by assumption)) | exact shp_sr _ _ (shp_sr _ _ (shp_sr _ _ (by assumption)))) (by decide))) | (refine shp_aok (by first | assumption | exact shp_sr _ _ (by assumption) | exact shp_sr _ _ (shp_sr _ _ (by assumption)) | exact shp_sr _ _ (shp_sr _ _ (shp_sr _ _ (by assumption)))) rfl rfl ?_ ?_ <;> omega) | (exact shp_sr _ _ (by assumption)) | (exact shp_sr _ _ (shp_sr _ _ (by assumption))) | (exact shp_sr _ _ (shp_sr _ _ (shp_sr _ _ (by assumption)))) | (left; assumption) | (exact b2i_or _) | (simp; done)) only [e125_142, e125_143, e125_146, e125_147, e125_148, e125_151, e125_153, e125_154, e125_155, e125_156, e125_159, e125_160, e125_163, e125_164, e125_165, e125_168, e125_171, e125_173, e125_176, e125_178, e125_180, e125_183, eq_self, ne_a, ne_b, ne_c, Nat.reduceEqDiff, lt0, bnd_ok, psh_I, psh_L, psh_R, psh_U, gt_sr, gr_sr, sk_sr, nn_sr, ↓reduceIte, Int.toNat_natCast, Int.reduceToNat, e1, hl1, han, e3, e4, b2i_f, w5, Bool.false_eq_true]
            refine bk (P := fun K z => ∀ (F : Int), isK (selL d) (goodL d sg cn s) K F → ∀ q6 q7 q8 τ, mdl τ d cn sg → ∃ F' q6' q7' q8' τ', isK (selL d) (goodL d sg cn s) (2 ^ m) F' ∧ run 125 56 [vR 24, vI (s : Int), vI w, vI (m : Int), vI F, vI z, q6, q7, q8] [] τ = run 125 186 [vR 24, vI (s : Int), vI w, vI (m : Int), vI F', vI ((2 ^ m : Nat) : Int), q6', q7', q8'] [] τ' ∧ sch τ τ' ∧ mdl τ' d cn sg) (n := 2 ^ m) ?_ ?_
            · intro F hF q6 q7 q8 τ hmm
              have h6 : ¬ ((2 ^ m : Nat) : Int) < ((2 ^ m : Nat) : Int) := by omega
              refine ⟨F, q6, q7, q8, τ, hF, ?_, sch_rf _, hmm⟩
              rw [e125_56]
              simp (disch := first | assumption | omega | (exact shp_fok (by first | assumption | exact shp_sr _ _ (by assumption) | exact shp_sr _ _ (shp_sr _ _ (by assumption)) | exact shp_sr _ _ (shp_sr _ _ (shp_sr _ _ (by assumption)))) (by decide)) | (simp only [fok_sr, aok_sr]; first | assumption | (exact shp_fok (by first | assumption | exact shp_sr _ _ (by assumption) | exact shp_sr _ _ (shp_sr _ _ (by assumption)) | exact shp_sr _ _ (shp_sr _ _ (shp_sr _ _ (by assumption)))) (by decide))) | (refine shp_aok (by first | assumption | exact shp_sr _ _ (by assumption) | exact shp_sr _ _ (shp_sr _ _ (by assumption)) | exact shp_sr _ _ (shp_sr _ _ (shp_sr _ _ (by assumption)))) rfl rfl ?_ ?_ <;> omega) | (exact shp_sr _ _ (by assumption)) | (exact shp_sr _ _ (shp_sr _ _ (by assumption))) | (exact shp_sr _ _ (shp_sr _ _ (shp_sr _ _ (by assumption)))) | (left; assumption) | (exact b2i_or _) | (simp; done)) only [e125_58, e125_59, e125_60, e125_61, eq_self, ne_a, ne_b, ne_c, Nat.reduceEqDiff, lt0, bnd_ok, psh_I, psh_L, psh_R, psh_U, gt_sr, gr_sr, sk_sr, nn_sr, ↓reduceIte, Int.toNat_natCast, Int.reduceToNat, o1, h6]
            · intro x hx hx' ih F hF q6 q7 q8 τ hmm
              obtain ⟨q9, hin⟩ := inner τ F x hx hmm
              have hBlt := hE x 24
              have hpxx := hpx x hx
              have head : run 125 56 [vR 24, vI (s : Int), vI w, vI (m : Int), vI F, vI (x : Int), q6, q7, q8] [] τ = run 125 124 [vR 24, vI (s : Int), vI w, vI (m : Int), vI F, vI (x : Int), vI (exB (selL d) x 24 : Nat), vI (m : Int), q9] [] τ := by
                rw [← hin, e125_56]
                simp (disch := first | assumption | omega | (exact shp_fok (by first | assumption | exact shp_sr _ _ (by assumption) | exact shp_sr _ _ (shp_sr _ _ (by assumption)) | exact shp_sr _ _ (shp_sr _ _ (shp_sr _ _ (by assumption)))) (by decide)) | (simp only [fok_sr, aok_sr]; first | assumption | (exact shp_fok (by first | assumption | exact shp_sr _ _ (by assumption) | exact shp_sr _ _ (shp_sr _ _ (by assumption)) | exact shp_sr _ _ (shp_sr _ _ (shp_sr _ _ (by assumption)))) (by decide))) | (refine shp_aok (by first | assumption | exact shp_sr _ _ (by assumption) | exact shp_sr _ _ (shp_sr _ _ (by assumption)) | exact shp_sr _ _ (shp_sr _ _ (shp_sr _ _ (by assumption)))) rfl rfl ?_ ?_ <;> omega) | (exact shp_sr _ _ (by assumption)) | (exact shp_sr _ _ (shp_sr _ _ (by assumption))) | (exact shp_sr _ _ (shp_sr _ _ (shp_sr _ _ (by assumption)))) | (left; assumption) | (exact b2i_or _) | (simp; done)) only [e125_58, e125_59, e125_60, e125_61, e125_64, e125_65, e125_67, e125_68, e125_70, e125_71, eq_self, ne_a, ne_b, ne_c, Nat.reduceEqDiff, lt0, bnd_ok, psh_I, psh_L, psh_R, psh_U, gt_sr, gr_sr, sk_sr, nn_sr, ↓reduceIte, Int.toNat_natCast, Int.reduceToNat, o1, hx']
                rfl
              have b1 := m_bits (x := exB (selL d) x 24) (by omega) τ
              rw [hpxx] at b1
              -- the code tested
              have test : (∀ x', x' < x → goodL d sg cn s (exB (selL d) x' 24) → pcN x < pcN x') → run 125 124 [vR 24, vI (s : Int), vI w, vI (m : Int), vI F, vI (x : Int), vI (exB (selL d) x 24 : Nat), vI (m : Int), q9] [] τ = run 125 142 [vR 24, vI (s : Int), vI w, vI (m : Int), vI F, vI (x : Int), vI (exB (selL d) x 24 : Nat), vI (m : Int), q9] [] τ → ∃ F' q6' q7' q8' τ', isK (selL d) (goodL d sg cn s) (2 ^ m) F' ∧ run 125 56 [vR 24, vI (s : Int), vI w, vI (m : Int), vI F, vI (x : Int), q6, q7, q8] [] τ = run 125 186 [vR 24, vI (s : Int), vI w, vI (m : Int), vI F', vI ((2 ^ m : Nat) : Int), q6', q7', q8'] [] τ' ∧ sch τ τ' ∧ mdl τ' d cn sg := by
                intro hless hgo
                obtain ⟨τ1, e1, c1, m1⟩ := T F x q9 τ hx hmm
                have hF2 : isK (selL d) (goodL d sg cn s) (x + 1) (if hsL d sg cn s (exB (selL d) x 24) = true then ((exB (selL d) x 24 : Nat) : Int) else F) := by
                  cases hg : hsL d sg cn s (exB (selL d) x 24) with
                  | true =>
                    rw [if_pos rfl]
                    refine Or.inr ⟨x, by omega, hg, rfl, fun x' hx9 hg' => ?_⟩
                    by_cases e : x' = x
                    · rw [e]; exact Or.inr ⟨rfl, Nat.le_refl _⟩
                    · exact Or.inl (hless x' (by omega) hg')
                  | false =>
                    rw [if_neg Bool.false_ne_true]
                    have hng : ¬ goodL d sg cn s (exB (selL d) x 24) := fun h => by unfold goodL at h; rw [hg] at h; cases h
                    rcases hF with ⟨h1, h2⟩ | ⟨y, h1, h2, h3, h4⟩
                    · refine Or.inl ⟨h1, fun x' hx9 => ?_⟩
                      by_cases e : x' = x
                      · rw [e]; exact hng
                      · exact h2 x' (by omega)
                    · refine Or.inr ⟨y, by omega, h2, h3, fun x' hx9 hg' => ?_⟩
                      by_cases e : x' = x
                      · rw [e] at hg'; exact absurd hg' hng
                      · exact h4 x' (by omega) hg'
                obtain ⟨F', p6, p7, p8, τ2, i2, e2, c2, m2⟩ := ih _ hF2 (vI (exB (selL d) x 24 : Nat)) (vI (m : Int)) q9 τ1 m1
                exact ⟨F', p6, p7, p8, τ2, i2, head.trans (hgo.trans (e1.trans e2)), sch_tr c1 c2, m2⟩
              rcases id hF with ⟨h1, h2⟩ | ⟨y, h1, h2, h3, h4⟩
              · refine test (fun x' hx9 hg' => absurd hg' (h2 x' hx9)) ?_
                simp (disch := first | assumption | omega | (exact shp_fok (by first | assumption | exact shp_sr _ _ (by assumption) | exact shp_sr _ _ (shp_sr _ _ (by assumption)) | exact shp_sr _ _ (shp_sr _ _ (shp_sr _ _ (by assumption)))) (by decide)) | (simp only [fok_sr, aok_sr]; first | assumption | (exact shp_fok (by first | assumption | exact shp_sr _ _ (by assumption) | exact shp_sr _ _ (shp_sr _ _ (by assumption)) | exact shp_sr _ _ (shp_sr _ _ (shp_sr _ _ (by assumption)))) (by decide))) | (refine shp_aok (by first | assumption | exact shp_sr _ _ (by assumption) | exact shp_sr _ _ (shp_sr _ _ (by assumption)) | exact shp_sr _ _ (shp_sr _ _ (shp_sr _ _ (by assumption)))) rfl rfl ?_ ?_ <;> omega) | (exact shp_sr _ _ (by assumption)) | (exact shp_sr _ _ (shp_sr _ _ (by assumption))) | (exact shp_sr _ _ (shp_sr _ _ (shp_sr _ _ (by assumption)))) | (left; assumption) | (exact b2i_or _) | (simp; done)) only [e125_124, e125_126, eq_self, ne_a, ne_b, ne_c, Nat.reduceEqDiff, lt0, bnd_ok, psh_I, psh_L, psh_R, psh_U, gt_sr, gr_sr, sk_sr, nn_sr, ↓reduceIte, Int.toNat_natCast, Int.reduceToNat, h1, Int.reduceLT]
              · have hy := hpx y (by omega)
                have hElt := hE y 24
                have b2 := m_bits (x := exB (selL d) y 24) (by omega) τ
                rw [hy] at b2
                have hF0 : ¬ F < 0 := by omega
                by_cases hlt : pcN x < pcN y
                · refine test (fun x' hx9 hg' => ?_) ?_
                  · have := h4 x' hx9 hg'
                    omega
                  · rw [h3] at hF0 ⊢
                    simp (disch := first | assumption | omega | (exact shp_fok (by first | assumption | exact shp_sr _ _ (by assumption) | exact shp_sr _ _ (shp_sr _ _ (by assumption)) | exact shp_sr _ _ (shp_sr _ _ (shp_sr _ _ (by assumption)))) (by decide)) | (simp only [fok_sr, aok_sr]; first | assumption | (exact shp_fok (by first | assumption | exact shp_sr _ _ (by assumption) | exact shp_sr _ _ (shp_sr _ _ (by assumption)) | exact shp_sr _ _ (shp_sr _ _ (shp_sr _ _ (by assumption)))) (by decide))) | (refine shp_aok (by first | assumption | exact shp_sr _ _ (by assumption) | exact shp_sr _ _ (shp_sr _ _ (by assumption)) | exact shp_sr _ _ (shp_sr _ _ (shp_sr _ _ (by assumption)))) rfl rfl ?_ ?_ <;> omega) | (exact shp_sr _ _ (by assumption)) | (exact shp_sr _ _ (shp_sr _ _ (by assumption))) | (exact shp_sr _ _ (shp_sr _ _ (shp_sr _ _ (by assumption)))) | (left; assumption) | (exact b2i_or _) | (simp; done)) only [e125_124, e125_126, e125_129, e125_131, e125_134, e125_136, e125_139, eq_self, ne_a, ne_b, ne_c, Nat.reduceEqDiff, lt0, bnd_ok, psh_I, psh_L, psh_R, psh_U, gt_sr, gr_sr, sk_sr, nn_sr, ↓reduceIte, Int.toNat_natCast, Int.reduceToNat, hF0, b1, b2, hlt]
                · have hF2 : isK (selL d) (goodL d sg cn s) (x + 1) F := by
                    refine Or.inr ⟨y, by omega, h2, h3, fun x' hx9 hg' => ?_⟩
                    by_cases e : x' = x
                    · rw [e]
                      by_cases e2 : pcN y = pcN x
                      · exact Or.inr ⟨e2, by omega⟩
                      · exact Or.inl (by omega)
                    · exact h4 x' (by omega) hg'
                  obtain ⟨F', p6, p7, p8, τ2, i2, e2, c2, m2⟩ := ih _ hF2 (vI (exB (selL d) x 24 : Nat)) (vI (m : Int)) q9 τ hmm
                  refine ⟨F', p6, p7, p8, τ2, i2, ?_, c2, m2⟩
                  have w5 : wr ((x : Int) + 1) = (x : Int) + 1 := wr_id (by omega) (by omega)
                  rw [head, ← e2]
                  rw [h3] at hF0 ⊢
                  simp (disch := first | assumption | omega | (exact shp_fok (by first | assumption | exact shp_sr _ _ (by assumption) | exact shp_sr _ _ (shp_sr _ _ (by assumption)) | exact shp_sr _ _ (shp_sr _ _ (shp_sr _ _ (by assumption)))) (by decide)) | (simp only [fok_sr, aok_sr]; first | assumption | (exact shp_fok (by first | assumption | exact shp_sr _ _ (by assumption) | exact shp_sr _ _ (shp_sr _ _ (by assumption)) | exact shp_sr _ _ (shp_sr _ _ (shp_sr _ _ (by assumption)))) (by decide))) | (refine shp_aok (by first | assumption | exact shp_sr _ _ (by assumption) | exact shp_sr _ _ (shp_sr _ _ (by assumption)) | exact shp_sr _ _ (shp_sr _ _ (shp_sr _ _ (by assumption)))) rfl rfl ?_ ?_ <;> omega) | (exact shp_sr _ _ (by assumption)) | (exact shp_sr _ _ (shp_sr _ _ (by assumption))) | (exact shp_sr _ _ (shp_sr _ _ (shp_sr _ _ (by assumption)))) | (left; assumption) | (exact b2i_or _) | (simp; done)) only [e125_124, e125_126, e125_129, e125_131, e125_134, e125_136, e125_139, e125_180, e125_183, eq_self, ne_a, ne_b, ne_c, Nat.reduceEqDiff, lt0, bnd_ok, psh_I, psh_L, psh_R, psh_U, gt_sr, gr_sr, sk_sr, nn_sr, ↓reduceIte, Int.toNat_natCast, Int.reduceToNat, hF0, b1, b2, hlt, w5]
          obtain ⟨F', p6, p7, p8, τ2, i2, e2, c2, m2⟩ := L (-6) (Or.inl ⟨rfl, fun x hx => absurd hx (Nat.not_lt_zero x)⟩) vU vU vU σ h
          have iB : isB (GS (selL d) (goodL d sg cn s)) F' := by
            rcases i2 with ⟨rfl, g2⟩ | ⟨y, g1, g2, rfl, g4⟩
            · exact isB_no (by rw [hm]; exact g2)
            · exact isB_of (by omega) (by rw [hm]; exact g1) g2 (by rw [hm]; exact g4)
          rw [← lsB_eq iB]
          have h9 : ¬ 8 < (m : Int) := by omega
          refine ⟨τ2, ?_, sch_SMo c2, m2⟩
          have start : run 125 0 [vR 24, vI (s : Int), vI w, vU, vU, vU, vU, vU, vU] [] σ = run 125 56 [vR 24, vI (s : Int), vI w, vI (m : Int), vI (-6), vI 0, vU, vU, vU] [] σ := by
            simp (disch := first | assumption | omega | (exact shp_fok (by first | assumption | exact shp_sr _ _ (by assumption) | exact shp_sr _ _ (shp_sr _ _ (by assumption)) | exact shp_sr _ _ (shp_sr _ _ (shp_sr _ _ (by assumption)))) (by decide)) | (simp only [fok_sr, aok_sr]; first | assumption | (exact shp_fok (by first | assumption | exact shp_sr _ _ (by assumption) | exact shp_sr _ _ (shp_sr _ _ (by assumption)) | exact shp_sr _ _ (shp_sr _ _ (shp_sr _ _ (by assumption)))) (by decide))) | (refine shp_aok (by first | assumption | exact shp_sr _ _ (by assumption) | exact shp_sr _ _ (shp_sr _ _ (by assumption)) | exact shp_sr _ _ (shp_sr _ _ (shp_sr _ _ (by assumption)))) rfl rfl ?_ ?_ <;> omega) | (exact shp_sr _ _ (by assumption)) | (exact shp_sr _ _ (shp_sr _ _ (by assumption))) | (exact shp_sr _ _ (shp_sr _ _ (shp_sr _ _ (by assumption)))) | (left; assumption) | (exact b2i_or _) | (simp; done)) only [e125_0, e125_1, e125_2, e125_5, e125_8, e125_9, e125_10, e125_11, e125_12, e125_13, e125_16, e125_19, e125_21, e125_22, e125_23, e125_26, e125_29, e125_31, e125_32, e125_33, e125_36, e125_39, e125_40, e125_41, e125_43, e125_46, e125_48, e125_49, e125_51, e125_53, e125_54, eq_self, ne_a, ne_b, ne_c, Nat.reduceEqDiff, lt0, bnd_ok, psh_I, psh_L, psh_R, psh_U, gt_sr, gr_sr, sk_sr, nn_sr, ↓reduceIte, Int.toNat_natCast, Int.reduceToNat, q1, b2i_t, m_in, if_pos h1, e0, hl3, l2, h9, Int.reduceEq]
          rw [start, e2]
          rcases m_cob iB GS_lt h1 with ⟨g1, g2⟩ | ⟨B, g1, g2, g3⟩
          · rw [← g2]
            simp (disch := first | assumption | omega | (exact shp_fok (by first | assumption | exact shp_sr _ _ (by assumption) | exact shp_sr _ _ (shp_sr _ _ (by assumption)) | exact shp_sr _ _ (shp_sr _ _ (shp_sr _ _ (by assumption)))) (by decide)) | (simp only [fok_sr, aok_sr]; first | assumption | (exact shp_fok (by first | assumption | exact shp_sr _ _ (by assumption) | exact shp_sr _ _ (shp_sr _ _ (by assumption)) | exact shp_sr _ _ (shp_sr _ _ (shp_sr _ _ (by assumption)))) (by decide))) | (refine shp_aok (by first | assumption | exact shp_sr _ _ (by assumption) | exact shp_sr _ _ (shp_sr _ _ (by assumption)) | exact shp_sr _ _ (shp_sr _ _ (shp_sr _ _ (by assumption)))) rfl rfl ?_ ?_ <;> omega) | (exact shp_sr _ _ (by assumption)) | (exact shp_sr _ _ (shp_sr _ _ (by assumption))) | (exact shp_sr _ _ (shp_sr _ _ (shp_sr _ _ (by assumption)))) | (left; assumption) | (exact b2i_or _) | (simp; done)) only [e125_186, e125_188, e125_191, e125_192, e125_193, e125_196, e125_198, e125_201, e125_203, e125_206, eq_self, ne_a, ne_b, ne_c, Nat.reduceEqDiff, lt0, bnd_ok, psh_I, psh_L, psh_R, psh_U, gt_sr, gr_sr, sk_sr, nn_sr, ↓reduceIte, Int.toNat_natCast, Int.reduceToNat, g1]
          · rw [← g3, g1]
            have b3 := m_bits (x := B) (by omega) τ2
            have hB0 : ¬ (B : Int) < 0 := by omega
            obtain rfl | rfl : w = 0 ∨ w = 1 := by omega
            · simp (disch := first | assumption | omega | (exact shp_fok (by first | assumption | exact shp_sr _ _ (by assumption) | exact shp_sr _ _ (shp_sr _ _ (by assumption)) | exact shp_sr _ _ (shp_sr _ _ (shp_sr _ _ (by assumption)))) (by decide)) | (simp only [fok_sr, aok_sr]; first | assumption | (exact shp_fok (by first | assumption | exact shp_sr _ _ (by assumption) | exact shp_sr _ _ (shp_sr _ _ (by assumption)) | exact shp_sr _ _ (shp_sr _ _ (shp_sr _ _ (by assumption)))) (by decide))) | (refine shp_aok (by first | assumption | exact shp_sr _ _ (by assumption) | exact shp_sr _ _ (shp_sr _ _ (by assumption)) | exact shp_sr _ _ (shp_sr _ _ (shp_sr _ _ (by assumption)))) rfl rfl ?_ ?_ <;> omega) | (exact shp_sr _ _ (by assumption)) | (exact shp_sr _ _ (shp_sr _ _ (by assumption))) | (exact shp_sr _ _ (shp_sr _ _ (shp_sr _ _ (by assumption)))) | (left; assumption) | (exact b2i_or _) | (simp; done)) only [e125_186, e125_188, e125_191, e125_192, e125_193, e125_196, e125_198, e125_201, e125_203, e125_206, eq_self, ne_a, ne_b, ne_c, Nat.reduceEqDiff, lt0, bnd_ok, psh_I, psh_L, psh_R, psh_U, gt_sr, gr_sr, sk_sr, nn_sr, ↓reduceIte, Int.toNat_natCast, Int.reduceToNat, hB0, b3, Int.reduceEq]
            · simp (disch := first | assumption | omega | (exact shp_fok (by first | assumption | exact shp_sr _ _ (by assumption) | exact shp_sr _ _ (shp_sr _ _ (by assumption)) | exact shp_sr _ _ (shp_sr _ _ (shp_sr _ _ (by assumption)))) (by decide)) | (simp only [fok_sr, aok_sr]; first | assumption | (exact shp_fok (by first | assumption | exact shp_sr _ _ (by assumption) | exact shp_sr _ _ (shp_sr _ _ (by assumption)) | exact shp_sr _ _ (shp_sr _ _ (shp_sr _ _ (by assumption)))) (by decide))) | (refine shp_aok (by first | assumption | exact shp_sr _ _ (by assumption) | exact shp_sr _ _ (shp_sr _ _ (by assumption)) | exact shp_sr _ _ (shp_sr _ _ (shp_sr _ _ (by assumption)))) rfl rfl ?_ ?_ <;> omega) | (exact shp_sr _ _ (by assumption)) | (exact shp_sr _ _ (shp_sr _ _ (by assumption))) | (exact shp_sr _ _ (shp_sr _ _ (shp_sr _ _ (by assumption)))) | (left; assumption) | (exact b2i_or _) | (simp; done)) only [e125_186, e125_188, e125_191, e125_192, e125_193, e125_196, e125_198, e125_201, e125_203, e125_206, eq_self, ne_a, ne_b, ne_c, Nat.reduceEqDiff, lt0, bnd_ok, psh_I, psh_L, psh_R, psh_U, gt_sr, gr_sr, sk_sr, nn_sr, ↓reduceIte, Int.toNat_natCast, Int.reduceToNat, hB0]
        · rw [if_neg h8]
          have h9 : 8 < (ctN (selL d) 24 : Int) := by omega
          refine ⟨σ, ?_, mdl_rf h⟩
          simp (disch := first | assumption | omega | (exact shp_fok (by first | assumption | exact shp_sr _ _ (by assumption) | exact shp_sr _ _ (shp_sr _ _ (by assumption)) | exact shp_sr _ _ (shp_sr _ _ (shp_sr _ _ (by assumption)))) (by decide)) | (simp only [fok_sr, aok_sr]; first | assumption | (exact shp_fok (by first | assumption | exact shp_sr _ _ (by assumption) | exact shp_sr _ _ (shp_sr _ _ (by assumption)) | exact shp_sr _ _ (shp_sr _ _ (shp_sr _ _ (by assumption)))) (by decide))) | (refine shp_aok (by first | assumption | exact shp_sr _ _ (by assumption) | exact shp_sr _ _ (shp_sr _ _ (by assumption)) | exact shp_sr _ _ (shp_sr _ _ (shp_sr _ _ (by assumption)))) rfl rfl ?_ ?_ <;> omega) | (exact shp_sr _ _ (by assumption)) | (exact shp_sr _ _ (shp_sr _ _ (by assumption))) | (exact shp_sr _ _ (shp_sr _ _ (shp_sr _ _ (by assumption)))) | (left; assumption) | (exact b2i_or _) | (simp; done)) only [e125_0, e125_1, e125_2, e125_5, e125_8, e125_9, e125_10, e125_11, e125_12, e125_13, e125_16, e125_19, e125_21, e125_22, e125_23, e125_26, e125_29, e125_31, e125_32, e125_33, e125_36, e125_39, e125_40, e125_41, e125_43, e125_46, e125_48, eq_self, ne_a, ne_b, ne_c, Nat.reduceEqDiff, lt0, bnd_ok, psh_I, psh_L, psh_R, psh_U, gt_sr, gr_sr, sk_sr, nn_sr, ↓reduceIte, Int.toNat_natCast, Int.reduceToNat, q1, b2i_t, m_in, if_pos h1, e0, hl3, l2, h9, Int.reduceEq]
    · rw [if_neg h1]
      refine ⟨σ, ?_, mdl_rf h⟩
      simp (disch := first | assumption | omega | (exact shp_fok (by first | assumption | exact shp_sr _ _ (by assumption) | exact shp_sr _ _ (shp_sr _ _ (by assumption)) | exact shp_sr _ _ (shp_sr _ _ (shp_sr _ _ (by assumption)))) (by decide)) | (simp only [fok_sr, aok_sr]; first | assumption | (exact shp_fok (by first | assumption | exact shp_sr _ _ (by assumption) | exact shp_sr _ _ (shp_sr _ _ (by assumption)) | exact shp_sr _ _ (shp_sr _ _ (shp_sr _ _ (by assumption)))) (by decide))) | (refine shp_aok (by first | assumption | exact shp_sr _ _ (by assumption) | exact shp_sr _ _ (shp_sr _ _ (by assumption)) | exact shp_sr _ _ (shp_sr _ _ (shp_sr _ _ (by assumption)))) rfl rfl ?_ ?_ <;> omega) | (exact shp_sr _ _ (by assumption)) | (exact shp_sr _ _ (shp_sr _ _ (by assumption))) | (exact shp_sr _ _ (shp_sr _ _ (shp_sr _ _ (by assumption)))) | (left; assumption) | (exact b2i_or _) | (simp; done)) only [e125_0, e125_1, e125_2, e125_5, e125_8, e125_9, e125_10, e125_11, e125_12, e125_13, e125_16, e125_19, e125_21, eq_self, ne_a, ne_b, ne_c, Nat.reduceEqDiff, lt0, bnd_ok, psh_I, psh_L, psh_R, psh_U, gt_sr, gr_sr, sk_sr, nn_sr, ↓reduceIte, Int.toNat_natCast, Int.reduceToNat, q1, b2i_t, m_in, if_neg h1, Int.reduceEq]
