/-! the fewest cuts -/
def selW (d : Dat) (s c : Nat) : Bool := decide (c < dn_ d) && decide (dwa d (s * 24 + c) ≠ -1)
theorem selW_n (d : Dat) (s : Nat) : ∀ c, dn_ d ≤ c → selW d s c = false := fun c hc => by
  unfold selW
  rw [decide_eq_false (by omega), Bool.false_and]
theorem selW_lt {d : Dat} {s c : Nat} (h : selW d s c = true) : c < dn_ d := by
  unfold selW at h
  rw [Bool.and_eq_true] at h
  exact of_decide_eq_true h.1
theorem wi_ct {d : Dat} (ho : okd d) {s : Nat} (hs : s < 4) : wiD d s = (ctN (selW d s) 24 : Int) := by
  have h24 := dn24 ho
  rw [← ct_n24 h24 (selW_n d s), ct_sum]
  unfold wiD wsh
  refine smN_congr fun i hi => ?_
  unfold selW
  rw [decide_eq_true hi, Bool.true_and]
  by_cases e : dwa d (s * 24 + i) = -1
  · rw [if_pos e, decide_eq_false (fun h => h e), if_neg Bool.false_ne_true]
  · rw [if_neg e, decide_eq_true e, if_pos rfl]
theorem wn_sel {d : Dat} (ho : okd d) {s : Nat} (hs : s < 4) : wnB d s = bsN (selW d s) 24 := by
  refine Nat.eq_of_testBit_eq fun i => ?_
  unfold wnB
  rw [bsN_tb, bsN_tb]
  by_cases hi : i < 24
  · congr 1
    unfold selW
    by_cases h : i < dn_ d
    · have := ok_w ho (s * 24 + i) (by omega)
      rw [decide_eq_true h, Bool.true_and]
      by_cases e : dwa d (s * 24 + i) = -1
      · rw [e]; rfl
      · rw [decide_eq_true (by omega), decide_eq_true e]
    · rw [decide_eq_false h, Bool.false_and]
      refine decide_eq_false ?_
      rw [ho.2.2.2.2.2.2.2.2.2.2.2.2.1 s i hs (by omega) hi]
      decide
  · rw [decide_eq_false hi, Bool.false_and, Bool.false_and]
def thO (d : Dat) (B : Nat) (v : Nat → Nat) : Nat → Int := fun c => if B.testBit c = true then (v c : Int) else dt d c
def hsW (d : Dat) (sg : Nat → Int) (cn s B : Nat) (v : Nat → Nat) : Bool := hoD (pah (fog d (thO d B v) (dla d)) sg cn) s
def goodW (d : Dat) (sg : Nat → Int) (cn s B : Nat) : Prop := ∃ v : Nat → Nat, (∀ c, B.testBit c = true → (v c : Int) < dt d c) ∧ hsW d sg cn s B v = true
theorem ok_thO {d : Dat} (ho : okd d) {B : Nat} {v : Nat → Nat} (hv : ∀ c, B.testBit c = true → (v c : Int) < dt d c) : okd (fog d (thO d B v) (dla d)) := by
  refine ok_fog ho ?_ (ok_l ho) ?_ (ok_zl ho)
  · intro c hc
    have := ok_t ho c hc
    unfold thO
    split
    · next h => have := hv c h; omega
    · exact this
  · intro i hi
    unfold thO
    split
    · next h =>
      have := hv i h
      rw [ok_zt ho i hi] at this
      omega
    · exact ok_zt ho i hi
theorem prH_pos {h : Nat → Nat} : ∀ m, 0 < prH h m → ∀ i, i < m → 0 < h i
  | 0, _, i, hi => absurd hi (Nat.not_lt_zero i)
  | m + 1, hp, i, hi => by
    have e : prH h (m + 1) = prH h m * h m := rfl
    rw [e] at hp
    have h1 : 0 < prH h m := Nat.pos_of_mul_pos_right hp
    have h2 : 0 < h m := Nat.pos_of_mul_pos_left hp
    by_cases ei : i = m
    · rw [ei]; exact h2
    · exact prH_pos m h1 i (by omega)
theorem prH_le {h : Nat → Nat} {m : Nat} (hh : ∀ i, i < m → h i ≤ 9) : ∀ i, i ≤ m → prH h i ≤ 9 ^ i
  | 0, _ => Nat.le_refl _
  | i + 1, hi => by
    rw [Nat.pow_succ]
    exact Nat.mul_le_mul (prH_le hh i (by omega)) (hh i (by omega))
theorem div_prH {h : Nat → Nat} (x i : Nat) : x / prH h i / h i = x / prH h (i + 1) := by
  rw [Nat.div_div_eq_div_mul]
  rfl
/-- the digits of a code, by cells -/
def dgH (h : Nat → Nat) (p : Nat → Bool) (code c : Nat) : Nat := code / prH h (ctN p c) % h (ctN p c)
/-- fog cut by the first i picked -/
def tiH (d : Dat) (p : Nat → Bool) (x : Nat) (v : Nat → Nat) (i : Nat) : Nat → Int := fun c => if (p c && (decide (ctN p c < i) && x.testBit (ctN p c))) = true then (v c : Int) else dt d c
theorem tiH_0 (d : Dat) (p : Nat → Bool) (x : Nat) (v : Nat → Nat) : tiH d p x v 0 = dt d := by
  funext c
  unfold tiH
  rw [decide_eq_false (Nat.not_lt_zero _), Bool.false_and, Bool.and_false, if_neg Bool.false_ne_true]
theorem ct_inj {p : Nat → Bool} {c j : Nat} (hc : p c = true) (hj : p j = true) (h : ctN p c = ctN p j) : c = j := by
  by_cases h1 : c < j
  · have := ct_lt h1 hc; omega
  · by_cases h2 : j < c
    · have := ct_lt h2 hj; omega
    · omega
theorem tiH_s {d : Dat} {p : Nat → Bool} {x : Nat} {v : Nat → Nat} {i j : Nat} (hp : p j = true) (hi : ctN p j = i) (hx : x.testBit i = true) : ru (tiH d p x v i) j (v j : Int) = tiH d p x v (i + 1) := by
  funext c
  unfold ru tiH
  by_cases e : c = j
  · subst e
    rw [if_pos rfl, hp, hi, hx, decide_eq_true (Nat.lt_succ_self i)]
    rfl
  · rw [if_neg e]
    cases hc : p c with
    | false => rw [Bool.false_and, Bool.false_and]
    | true =>
      have hne : ctN p c ≠ i := fun h => e (ct_inj hc hp (by rw [h, hi]))
      by_cases h : ctN p c < i
      · rw [decide_eq_true h, decide_eq_true (show ctN p c < i + 1 by omega)]
      · rw [decide_eq_false h, decide_eq_false (show ¬ ctN p c < i + 1 by omega)]
theorem tiH_n {d : Dat} {p : Nat → Bool} {x : Nat} {v : Nat → Nat} {i : Nat} (hx : x.testBit i = false) : tiH d p x v (i + 1) = tiH d p x v i := by
  funext c
  unfold tiH
  by_cases h : ctN p c < i
  · rw [decide_eq_true h, decide_eq_true (show ctN p c < i + 1 by omega)]
  · rw [decide_eq_false h]
    by_cases h2 : ctN p c = i
    · rw [h2, hx, Bool.and_false, Bool.false_and]
    · rw [decide_eq_false (show ¬ ctN p c < i + 1 by omega)]
theorem tiH_m {d : Dat} {p : Nat → Bool} {x : Nat} {v : Nat → Nat} (hp : ∀ c, p c = true → c < 24) : tiH d p x v (ctN p 24) = thO d (exB p x 24) v := by
  funext c
  unfold tiH thO
  rw [exB_tb]
  cases hc : p c with
  | false => rw [Bool.false_and, Bool.false_and, Bool.and_false]
  | true =>
    rw [decide_eq_true (ct_lt (hp c hc) hc), decide_eq_true (hp c hc)]
theorem thO_cg {d : Dat} {B : Nat} {v u : Nat → Nat} (h : ∀ c, B.testBit c = true → v c = u c) : thO d B v = thO d B u := by
  funext c
  unfold thO
  split
  · next hb => rw [h c hb]
  · rfl
set_option maxRecDepth 100000 in
set_option maxHeartbeats 8000000 in
set_option maxRecDepth 100000 in
set_option maxHeartbeats 4000000 in
theorem c_standsByCuts {σ0 τ0 : St} {d : Dat} {cn : Nat} {sg : Nat → Int} {s : Nat} (hI : srI σ0 τ0 d cn sg (selW d s)) (ho : okd d) (ha : alh cn sg = true) (hs4 : s < 4) (h3 : ctN (selW d s) 24 ≤ 3) {x : Nat} (hx : x < 2 ^ ctN (selW d s) 24) :
    ∃ τ' r, run 51 0 [vR 1, vI (s : Int), vI (x : Int), vI (ctN (selW d s) 24 : Nat), vU, vU, vU, vU, vU, vU] [] τ0 = some (vI (b2i r), τ') ∧ (r = true ↔ goodW d sg cn s (exB (selW d s) x 24)) ∧ chg SW τ0 τ' ∧ trR τ' d := by
  have h24 := dn24 ho
  have hsel := fun c (h : selW d s c = true) => selW_lt h
  generalize hp : selW d s = p at *
  generalize hm : ctN p 24 = m at *
  have hm2 : 2 ^ m ≤ 8 := Nat.pow_le_pow_right (n := 2) (i := m) (j := 3) (by omega) h3
  have hp24 : ∀ c, p c = true → c < 24 := fun c h => by have := hsel c h; omega
  -- the number's cell
  have cellOf : ∀ i, i < m → ∃ j, j < dn_ d ∧ p j = true ∧ ctN p j = i := fun i hi => by
    obtain ⟨j, q1, q2, q3⟩ := ct_ex (p := p) 24 i (by omega)
    exact ⟨j, hsel j q2, q2, q3⟩
  have harr := hI.2.2.2
  obtain ⟨h, hh⟩ : ∃ h : Nat → Nat, h = fun i => if x.testBit i = true then (dt d (gt τ0 21 i).toNat).toNat else 1 := ⟨_, rfl⟩
  have hhi : ∀ i j, p j = true → j < 24 → ctN p j = i → h i = if x.testBit i = true then (dt d j).toNat else 1 := fun i j h1 h2 h3 => by
    rw [hh]
    have := harr j h2 h1
    rw [h3] at this
    show (if x.testBit i = true then (dt d (gt τ0 21 i).toNat).toNat else 1) = _
    rw [this, Int.toNat_natCast]
  have hh9 : ∀ i, i < m → h i ≤ 9 := fun i hi => by
    obtain ⟨j, q1, q2, q3⟩ := cellOf i hi
    have := ok_t ho j (by omega)
    rw [hhi i j q2 (by omega) q3]
    split <;> omega
  have hpr : ∀ i, i ≤ m → prH h i ≤ 729 := fun i hi => Nat.le_trans (prH_le hh9 i hi) (Nat.le_trans (Nat.pow_le_pow_right (by omega) (show i ≤ 3 by omega)) (by decide))
  clear hh
  -- the product
  have A : ∀ q6 q7 q8 q9, run 51 6 [vR 1, vI (s : Int), vI (x : Int), vI (m : Int), vI (prH h 0 : Nat), vI 0, q6, q7, q8, q9] [] τ0 = run 51 59 [vR 1, vI (s : Int), vI (x : Int), vI (m : Int), vI (prH h m : Nat), vI 0, q6, q7, q8, q9] [] τ0 := by
    intro q6 q7 q8 q9
    refine bk (P := fun i z => run 51 6 [vR 1, vI (s : Int), vI (x : Int), vI (m : Int), vI (prH h i : Nat), vI z, q6, q7, q8, q9] [] τ0 = run 51 59 [vR 1, vI (s : Int), vI (x : Int), vI (m : Int), vI (prH h m : Nat), vI 0, q6, q7, q8, q9] [] τ0) (n := m) ?_ ?_
    · have h4 : ¬ ((m : Nat) : Int) < ((m : Nat) : Int) := by omega
      rw [e51_6]
      simp (disch := first | assumption | omega | (exact shp_fok (by first | assumption | exact shp_sr _ _ (by assumption) | exact shp_sr _ _ (shp_sr _ _ (by assumption)) | exact shp_sr _ _ (shp_sr _ _ (shp_sr _ _ (by assumption)))) (by decide)) | (simp only [fok_sr, aok_sr]; first | assumption | (exact shp_fok (by first | assumption | exact shp_sr _ _ (by assumption) | exact shp_sr _ _ (shp_sr _ _ (by assumption)) | exact shp_sr _ _ (shp_sr _ _ (shp_sr _ _ (by assumption)))) (by decide))) | (refine shp_aok (by first | assumption | exact shp_sr _ _ (by assumption) | exact shp_sr _ _ (shp_sr _ _ (by assumption)) | exact shp_sr _ _ (shp_sr _ _ (shp_sr _ _ (by assumption)))) rfl rfl ?_ ?_ <;> omega) | (exact shp_sr _ _ (by assumption)) | (exact shp_sr _ _ (shp_sr _ _ (by assumption))) | (exact shp_sr _ _ (shp_sr _ _ (shp_sr _ _ (by assumption)))) | (left; assumption) | (exact b2i_or _) | (simp; done)) only [e51_8, e51_9, e51_56, e51_57, eq_self, ne_a, ne_b, ne_c, Nat.reduceEqDiff, lt0, bnd_ok, psh_I, psh_L, psh_R, psh_U, gt_sr, gr_sr, sk_sr, nn_sr, ↓reduceIte, Int.toNat_natCast, Int.reduceToNat, h4]
    · intro i hi hi' ih
      have ht := hI.1.1
      have w5 : wr ((i : Int) + 1) = (i : Int) + 1 := wr_id (by omega) (by omega)
      have w6 := bit_N (a := x) (k := i) (by omega) (by omega)
      obtain ⟨j, q1, q2, q3⟩ := cellOf i hi
      have hij := hhi i j q2 (by omega) q3
      have at1 := c_atN (shp_ia (k := 21) (n := 24) ht (by decide)) (j := i) (by omega)
      have r2 := harr j (by omega) q2
      rw [q3] at r2
      rw [r2] at at1
      have at2 := c_atN (shp_ia (k := 3) (n := 24) ht (by decide)) (j := j) (by omega)
      have e6 : gt τ0 3 = dt d := hI.2.1.2.2.2.2.2.1
      rw [e6] at at2
      have htj := ok_t ho j (by omega)
      have hpi := hpr i (by omega)
      have hpi1 := hpr (i + 1) (by omega)
      have he : prH h (i + 1) = prH h i * h i := rfl
      rw [e51_6]
      cases hb : x.testBit i with
      | true =>
        have e8 : bt x i = 1 := by unfold bt; rw [hb, if_pos rfl]
        rw [hb, if_pos rfl] at hij
        have w7 : wr ((prH h i : Int) * dt d j) = ((prH h (i + 1) : Nat) : Int) := by
          have : (prH h i : Int) * dt d j = ((prH h (i + 1) : Nat) : Int) := by
            rw [he, hij, Int.natCast_mul, Int.toNat_of_nonneg htj.1]
          rw [this]
          exact wr_id (by omega) (by omega)
        simp (disch := first | assumption | omega | (exact shp_fok (by first | assumption | exact shp_sr _ _ (by assumption) | exact shp_sr _ _ (shp_sr _ _ (by assumption)) | exact shp_sr _ _ (shp_sr _ _ (shp_sr _ _ (by assumption)))) (by decide)) | (simp only [fok_sr, aok_sr]; first | assumption | (exact shp_fok (by first | assumption | exact shp_sr _ _ (by assumption) | exact shp_sr _ _ (shp_sr _ _ (by assumption)) | exact shp_sr _ _ (shp_sr _ _ (shp_sr _ _ (by assumption)))) (by decide))) | (refine shp_aok (by first | assumption | exact shp_sr _ _ (by assumption) | exact shp_sr _ _ (shp_sr _ _ (by assumption)) | exact shp_sr _ _ (shp_sr _ _ (shp_sr _ _ (by assumption)))) rfl rfl ?_ ?_ <;> omega) | (exact shp_sr _ _ (by assumption)) | (exact shp_sr _ _ (shp_sr _ _ (by assumption))) | (exact shp_sr _ _ (shp_sr _ _ (shp_sr _ _ (by assumption)))) | (left; assumption) | (exact b2i_or _) | (simp; done)) only [e51_8, e51_9, e51_12, e51_14, e51_15, e51_17, e51_18, e51_19, e51_20, e51_21, e51_24, e51_25, e51_28, e51_31, e51_32, e51_35, e51_37, e51_40, e51_43, e51_46, e51_47, e51_48, e51_50, e51_53, eq_self, ne_a, ne_b, ne_c, Nat.reduceEqDiff, lt0, bnd_ok, psh_I, psh_L, psh_R, psh_U, gt_sr, gr_sr, sk_sr, nn_sr, ↓reduceIte, Int.toNat_natCast, Int.reduceToNat, hi', w6, e8, g1_0, g1_4, g2_6, at1, at2, w7, w5]
        exact ih
      | false =>
        have e8 : bt x i = 0 := by unfold bt; rw [hb]; rfl
        rw [hb, if_neg Bool.false_ne_true] at hij
        have w7 : wr ((prH h i : Int) * 1) = ((prH h (i + 1) : Nat) : Int) := by
          rw [he, hij, Nat.mul_one, Int.mul_one]
          exact wr_id (by omega) (by omega)
        simp (disch := first | assumption | omega | (exact shp_fok (by first | assumption | exact shp_sr _ _ (by assumption) | exact shp_sr _ _ (shp_sr _ _ (by assumption)) | exact shp_sr _ _ (shp_sr _ _ (shp_sr _ _ (by assumption)))) (by decide)) | (simp only [fok_sr, aok_sr]; first | assumption | (exact shp_fok (by first | assumption | exact shp_sr _ _ (by assumption) | exact shp_sr _ _ (shp_sr _ _ (by assumption)) | exact shp_sr _ _ (shp_sr _ _ (shp_sr _ _ (by assumption)))) (by decide))) | (refine shp_aok (by first | assumption | exact shp_sr _ _ (by assumption) | exact shp_sr _ _ (shp_sr _ _ (by assumption)) | exact shp_sr _ _ (shp_sr _ _ (shp_sr _ _ (by assumption)))) rfl rfl ?_ ?_ <;> omega) | (exact shp_sr _ _ (by assumption)) | (exact shp_sr _ _ (shp_sr _ _ (by assumption))) | (exact shp_sr _ _ (shp_sr _ _ (shp_sr _ _ (by assumption)))) | (left; assumption) | (exact b2i_or _) | (simp; done)) only [e51_8, e51_9, e51_12, e51_14, e51_15, e51_17, e51_18, e51_19, e51_20, e51_21, e51_24, e51_25, e51_28, e51_31, e51_32, e51_35, e51_37, e51_40, e51_43, e51_46, e51_47, e51_48, e51_50, e51_53, eq_self, ne_a, ne_b, ne_c, Nat.reduceEqDiff, lt0, bnd_ok, psh_I, psh_L, psh_R, psh_U, gt_sr, gr_sr, sk_sr, nn_sr, ↓reduceIte, Int.toNat_natCast, Int.reduceToNat, hi', w6, e8, w7, w5, Int.reduceEq]
        exact ih
  have hprm := hpr m (Nat.le_refl _)
  have hS24 : ∀ v, tiH d p x v m = thO d (exB p x 24) v := fun v => by
    have := tiH_m (d := d) (x := x) (p := p) (v := v) hp24
    rw [hm] at this
    exact this
  have hvd : ∀ code, code < prH h m → ∀ c, (exB p x 24).testBit c = true → ((dgH h p code c : Nat) : Int) < dt d c ∧ p c = true ∧ x.testBit (ctN p c) = true ∧ ctN p c < m := by
    intro code hcode c hb
    rw [exB_tb, Bool.and_eq_true, Bool.and_eq_true] at hb
    obtain ⟨b1, b2, b3⟩ := hb
    have b1 := of_decide_eq_true b1
    have hlt : ctN p c < m := by rw [← hm]; exact ct_lt b1 b2
    have hpos := prH_pos (h := h) m (by omega) (ctN p c) hlt
    have hij := hhi (ctN p c) c b2 b1 rfl
    rw [b3, if_pos rfl] at hij
    have := ok_t ho c b1
    refine ⟨?_, b2, b3, hlt⟩
    unfold dgH
    have := Nat.mod_lt (code / prH h (ctN p c)) hpos
    omega
  -- one code
  have turn : ∀ (code : Nat) (τ : St) (q6 q7 q8 q9 : AV), code < prH h m → srI σ0 τ d cn sg p → gt τ 21 = gt τ0 21 → ∃ τ' q6' q7' q8' q9', chg SW τ τ' ∧ trR τ' d ∧
      run 51 59 [vR 1, vI (s : Int), vI (x : Int), vI (m : Int), vI (prH h m : Nat), vI (code : Int), q6, q7, q8, q9] [] τ = (if hsW d sg cn s (exB p x 24) (dgH h p code) = true then some (vI 1, τ') else run 51 59 [vR 1, vI (s : Int), vI (x : Int), vI (m : Int), vI (prH h m : Nat), vI ((code : Int) + 1), q6', q7', q8', q9'] [] τ') := by
    intro code τ q6 q7 q8 q9 hcode hI1 h21
    obtain ⟨τ1, e1, c1, r1⟩ := c_copyFogT hI1.2.1 ho hI1.2.2.1
    have ht := hI1.1.1
    have ht1 := shp_chg c1 ht
    have hnow1 := rep_chg c1 (b := 2) (by intro i hi _; simp; omega) hI1.2.1
    have e6 : gt τ1 3 = dt d := hnow1.2.2.2.2.2.1
    have e11 : gt τ1 11 = dt d := r1.2.2.2.2.2.1
    have e21 : gt τ1 21 = gt τ0 21 := by rw [chg_gt c1 (by simp)]; exact h21
    have B : ∀ q8 q9, ∃ q8' q9', run 51 84 [vR 1, vI (s : Int), vI (x : Int), vI (m : Int), vI (prH h m : Nat), vI (code : Int), vI (code / prH h 0 : Nat), vI 0, q8, q9] [] (sr τ1 11 (tiH d p x (dgH h p code) 0)) = run 51 160 [vR 1, vI (s : Int), vI (x : Int), vI (m : Int), vI (prH h m : Nat), vI (code : Int), vI (code / prH h m : Nat), vI (m : Int), q8', q9'] [] (sr τ1 11 (tiH d p x (dgH h p code) m)) := by
      refine bk (P := fun i z => ∀ q8 q9, ∃ q8' q9', run 51 84 [vR 1, vI (s : Int), vI (x : Int), vI (m : Int), vI (prH h m : Nat), vI (code : Int), vI (code / prH h i : Nat), vI z, q8, q9] [] (sr τ1 11 (tiH d p x (dgH h p code) i)) = run 51 160 [vR 1, vI (s : Int), vI (x : Int), vI (m : Int), vI (prH h m : Nat), vI (code : Int), vI (code / prH h m : Nat), vI (m : Int), q8', q9'] [] (sr τ1 11 (tiH d p x (dgH h p code) m))) (n := m) ?_ ?_
      · intro q8 q9
        have h4 : ¬ ((m : Nat) : Int) < ((m : Nat) : Int) := by omega
        refine ⟨q8, q9, ?_⟩
        rw [e51_84]
        simp (disch := first | assumption | omega | (exact shp_fok (by first | assumption | exact shp_sr _ _ (by assumption) | exact shp_sr _ _ (shp_sr _ _ (by assumption)) | exact shp_sr _ _ (shp_sr _ _ (shp_sr _ _ (by assumption)))) (by decide)) | (simp only [fok_sr, aok_sr]; first | assumption | (exact shp_fok (by first | assumption | exact shp_sr _ _ (by assumption) | exact shp_sr _ _ (shp_sr _ _ (by assumption)) | exact shp_sr _ _ (shp_sr _ _ (shp_sr _ _ (by assumption)))) (by decide))) | (refine shp_aok (by first | assumption | exact shp_sr _ _ (by assumption) | exact shp_sr _ _ (shp_sr _ _ (by assumption)) | exact shp_sr _ _ (shp_sr _ _ (shp_sr _ _ (by assumption)))) rfl rfl ?_ ?_ <;> omega) | (exact shp_sr _ _ (by assumption)) | (exact shp_sr _ _ (shp_sr _ _ (by assumption))) | (exact shp_sr _ _ (shp_sr _ _ (shp_sr _ _ (by assumption)))) | (left; assumption) | (exact b2i_or _) | (simp; done)) only [e51_86, e51_87, eq_self, ne_a, ne_b, ne_c, Nat.reduceEqDiff, lt0, bnd_ok, psh_I, psh_L, psh_R, psh_U, gt_sr, gr_sr, sk_sr, nn_sr, ↓reduceIte, Int.toNat_natCast, Int.reduceToNat, h4]
      · intro i hi hi' ih q8 q9
        have w5 : wr ((i : Int) + 1) = (i : Int) + 1 := wr_id (by omega) (by omega)
        have w6 := bit_N (a := x) (k := i) (by omega) (by omega)
        obtain ⟨j, q1, q2, q3⟩ := cellOf i hi
        have hij := hhi i j q2 (by omega) q3
        have at1 := c_atN (σ := sr τ1 11 (tiH d p x (dgH h p code) i)) (shp_ia (k := 21) (n := 24) (σ := sr τ1 11 (tiH d p x (dgH h p code) i)) ht1 (by decide)) (j := i) (by omega)
        have r2 := harr j (by omega) q2
        rw [q3] at r2
        rw [gt_n _ _ (by decide), e21, r2] at at1
        have at2 := c_atN (σ := sr τ1 11 (tiH d p x (dgH h p code) i)) (shp_ia (k := 3) (n := 24) (σ := sr τ1 11 (tiH d p x (dgH h p code) i)) ht1 (by decide)) (j := j) (by omega)
        rw [gt_n _ _ (by decide), e6] at at2
        have htj := ok_t ho j (by omega)
        have hdiv := div_prH (h := h) code i
        obtain ⟨q8', q9', ih⟩ := ih (vI (j : Int)) (vI (dt d j))
        refine ⟨q8', q9', ?_⟩
        rw [← ih, e51_84]
        have hdle : code / prH h i ≤ code := Nat.div_le_self _ _
        cases hb : x.testBit i with
        | true =>
          have e8 : bt x i = 1 := by unfold bt; rw [hb, if_pos rfl]
          rw [hb, if_pos rfl] at hij
          have hpos := prH_pos (h := h) m (by omega) i hi
          have hti := tiH_s (d := d) (v := dgH h p code) q2 q3 hb
          have hdg : dgH h p code j = code / prH h i % h i := by unfold dgH; rw [q3]
          obtain ⟨t, htt⟩ := nat_of htj.1
          have htn : h i = t := by omega
          have p1 := c_putN (σ := sr τ1 11 (tiH d p x (dgH h p code) i)) (shp_ia (k := 11) (n := 24) (σ := sr τ1 11 (tiH d p x (dgH h p code) i)) ht1 (by decide)) (j := j) (by omega) ((dgH h p code j : Nat) : Int)
          rw [gt_e, sr_sr, hti] at p1
          rw [← hdiv]
          rw [htn] at hdg ⊢
          rw [hdg] at p1
          clear hti
          generalize code / prH h i = Q at *
          have hmd : (Q : Int).tmod (t : Int) = ((Q % t : Nat) : Int) := by rw [Int.tmod_eq_emod_of_nonneg (by omega)]; rfl
          have hdv : (Q : Int).tdiv (t : Int) = ((Q / t : Nat) : Int) := by rw [Int.tdiv_eq_ediv_of_nonneg (by omega)]; rfl
          have l1 : Q % t ≤ Q := Nat.mod_le _ _
          have l2 : Q / t ≤ Q := Nat.div_le_self _ _
          have w7 : wr ((Q % t : Nat) : Int) = ((Q % t : Nat) : Int) := by
            generalize Q % t = V at *
            exact wr_id (by omega) (by omega)
          have w8 : wr ((Q / t : Nat) : Int) = ((Q / t : Nat) : Int) := by
            generalize Q / t = V at *
            exact wr_id (by omega) (by omega)
          have ht0 : ¬ (t : Int) = 0 := by omega
          have htp : 0 < (t : Int) := by omega
          rw [htt] at at2 ⊢
          simp (disch := first | assumption | omega | (exact shp_fok (by first | assumption | exact shp_sr _ _ (by assumption) | exact shp_sr _ _ (shp_sr _ _ (by assumption)) | exact shp_sr _ _ (shp_sr _ _ (shp_sr _ _ (by assumption)))) (by decide)) | (simp only [fok_sr, aok_sr]; first | assumption | (exact shp_fok (by first | assumption | exact shp_sr _ _ (by assumption) | exact shp_sr _ _ (shp_sr _ _ (by assumption)) | exact shp_sr _ _ (shp_sr _ _ (shp_sr _ _ (by assumption)))) (by decide))) | (refine shp_aok (by first | assumption | exact shp_sr _ _ (by assumption) | exact shp_sr _ _ (shp_sr _ _ (by assumption)) | exact shp_sr _ _ (shp_sr _ _ (shp_sr _ _ (by assumption)))) rfl rfl ?_ ?_ <;> omega) | (exact shp_sr _ _ (by assumption)) | (exact shp_sr _ _ (shp_sr _ _ (by assumption))) | (exact shp_sr _ _ (shp_sr _ _ (shp_sr _ _ (by assumption)))) | (left; assumption) | (exact b2i_or _) | (simp; done)) only [e51_86, e51_87, e51_90, e51_91, e51_94, e51_96, e51_99, e51_101, e51_102, e51_105, e51_108, e51_110, e51_113, e51_115, e51_116, e51_118, e51_119, e51_120, e51_121, e51_122, e51_125, e51_127, e51_130, e51_131, e51_134, e51_137, e51_139, e51_141, e51_143, e51_144, e51_147, e51_149, e51_151, e51_152, e51_154, e51_157, eq_self, ne_a, ne_b, ne_c, Nat.reduceEqDiff, lt0, bnd_ok, psh_I, psh_L, psh_R, psh_U, gt_sr, gr_sr, sk_sr, nn_sr, ↓reduceIte, Int.toNat_natCast, Int.reduceToNat, hi', w6, e8, g1_0, g1_1, g1_4, g2_6, g10_6, at1, at2, ht0, htp, hmd, hdv, w7, w8, p1, w5]
        | false =>
          have e8 : bt x i = 0 := by unfold bt; rw [hb]; rfl
          rw [hb, if_neg Bool.false_ne_true] at hij
          rw [← hdiv, hij, Nat.div_one, tiH_n hb]
          simp (disch := first | assumption | omega | (exact shp_fok (by first | assumption | exact shp_sr _ _ (by assumption) | exact shp_sr _ _ (shp_sr _ _ (by assumption)) | exact shp_sr _ _ (shp_sr _ _ (shp_sr _ _ (by assumption)))) (by decide)) | (simp only [fok_sr, aok_sr]; first | assumption | (exact shp_fok (by first | assumption | exact shp_sr _ _ (by assumption) | exact shp_sr _ _ (shp_sr _ _ (by assumption)) | exact shp_sr _ _ (shp_sr _ _ (shp_sr _ _ (by assumption)))) (by decide))) | (refine shp_aok (by first | assumption | exact shp_sr _ _ (by assumption) | exact shp_sr _ _ (shp_sr _ _ (by assumption)) | exact shp_sr _ _ (shp_sr _ _ (shp_sr _ _ (by assumption)))) rfl rfl ?_ ?_ <;> omega) | (exact shp_sr _ _ (by assumption)) | (exact shp_sr _ _ (shp_sr _ _ (by assumption))) | (exact shp_sr _ _ (shp_sr _ _ (shp_sr _ _ (by assumption)))) | (left; assumption) | (exact b2i_or _) | (simp; done)) only [e51_86, e51_87, e51_90, e51_91, e51_94, e51_96, e51_99, e51_101, e51_102, e51_105, e51_108, e51_110, e51_113, e51_115, e51_116, e51_118, e51_119, e51_120, e51_121, e51_122, e51_125, e51_127, e51_130, e51_131, e51_134, e51_137, e51_139, e51_141, e51_143, e51_144, e51_147, e51_149, e51_151, e51_152, e51_154, e51_157, eq_self, ne_a, ne_b, ne_c, Nat.reduceEqDiff, lt0, bnd_ok, psh_I, psh_L, psh_R, psh_U, gt_sr, gr_sr, sk_sr, nn_sr, ↓reduceIte, Int.toNat_natCast, Int.reduceToNat, hi', w6, e8, g1_0, g1_1, g1_4, g2_6, at1, at2, w5, Int.reduceEq]
    obtain ⟨q8', q9', eB⟩ := B q8 q9
    rw [tiH_0, sr_self τ1 11 _ e11.symm, hS24] at eB
    have r2 := rep_t r1 (thO d (exB p x 24) (dgH h p code))
    have o2 := ok_thO ho (B := exB p x 24) (v := dgH h p code) (fun c hc => (hvd code hcode c hc).1)
    have c2 : chg SW τ (sr τ1 11 (thO d (exB p x 24) (dgH h p code))) := chg_sr (chg_mo c1 (by decide)) (by decide)
    have n2 := npd_chg c2 (by decide) (by decide) hI1.1
    obtain ⟨τ3, e3, c3, r3⟩ := c_passHours n2 r2 o2 ha (by omega)
    have o3 := ok_pah o2 sg cn
    have e4 := c_holdsR r3 o3 hs4
    have ht3 := shp_chg c3 n2.1
    have ht2 : shp (sr τ1 11 (thO d (exB p x 24) (dgH h p code))) := ht1
    have hcode' : (code : Int) < ((prH h m : Nat) : Int) := by omega
    have w9 : wr ((code : Int) + 1) = (code : Int) + 1 := wr_id (by omega) (by omega)
    refine ⟨τ3, vI (code / prH h m : Nat), vI (m : Int), q8', q9', chg_tr c2 c3 (by decide), trR_pah r3 o3, ?_⟩
    have hp0 : code / prH h 0 = code := Nat.div_one code
    rw [hp0] at eB
    have head : run 51 59 [vR 1, vI (s : Int), vI (x : Int), vI (m : Int), vI (prH h m : Nat), vI (code : Int), q6, q7, q8, q9] [] τ = run 51 160 [vR 1, vI (s : Int), vI (x : Int), vI (m : Int), vI (prH h m : Nat), vI (code : Int), vI (code / prH h m : Nat), vI (m : Int), q8', q9'] [] (sr τ1 11 (thO d (exB p x 24) (dgH h p code))) := by
      rw [← eB, e51_59]
      simp (disch := first | assumption | omega | (exact shp_fok (by first | assumption | exact shp_sr _ _ (by assumption) | exact shp_sr _ _ (shp_sr _ _ (by assumption)) | exact shp_sr _ _ (shp_sr _ _ (shp_sr _ _ (by assumption)))) (by decide)) | (simp only [fok_sr, aok_sr]; first | assumption | (exact shp_fok (by first | assumption | exact shp_sr _ _ (by assumption) | exact shp_sr _ _ (shp_sr _ _ (by assumption)) | exact shp_sr _ _ (shp_sr _ _ (shp_sr _ _ (by assumption)))) (by decide))) | (refine shp_aok (by first | assumption | exact shp_sr _ _ (by assumption) | exact shp_sr _ _ (shp_sr _ _ (by assumption)) | exact shp_sr _ _ (shp_sr _ _ (shp_sr _ _ (by assumption)))) rfl rfl ?_ ?_ <;> omega) | (exact shp_sr _ _ (by assumption)) | (exact shp_sr _ _ (shp_sr _ _ (by assumption))) | (exact shp_sr _ _ (shp_sr _ _ (shp_sr _ _ (by assumption)))) | (left; assumption) | (exact b2i_or _) | (simp; done)) only [e51_61, e51_63, e51_66, e51_67, e51_70, e51_71, e51_74, e51_77, e51_79, e51_81, e51_82, eq_self, ne_a, ne_b, ne_c, Nat.reduceEqDiff, lt0, bnd_ok, psh_I, psh_L, psh_R, psh_U, gt_sr, gr_sr, sk_sr, nn_sr, ↓reduceIte, Int.toNat_natCast, Int.reduceToNat, hcode', g1_0, g1_1, e1]
    rw [head]
    unfold hsW
    cases hg : hoD (pah (fog d (thO d (exB p x 24) (dgH h p code)) (dla d)) sg cn) s with
    | true =>
      rw [hg] at e4
      rw [if_pos rfl]
      simp (disch := first | assumption | omega | (exact shp_fok (by first | assumption | exact shp_sr _ _ (by assumption) | exact shp_sr _ _ (shp_sr _ _ (by assumption)) | exact shp_sr _ _ (shp_sr _ _ (shp_sr _ _ (by assumption)))) (by decide)) | (simp only [fok_sr, aok_sr]; first | assumption | (exact shp_fok (by first | assumption | exact shp_sr _ _ (by assumption) | exact shp_sr _ _ (shp_sr _ _ (by assumption)) | exact shp_sr _ _ (shp_sr _ _ (shp_sr _ _ (by assumption)))) (by decide))) | (refine shp_aok (by first | assumption | exact shp_sr _ _ (by assumption) | exact shp_sr _ _ (shp_sr _ _ (by assumption)) | exact shp_sr _ _ (shp_sr _ _ (shp_sr _ _ (by assumption)))) rfl rfl ?_ ?_ <;> omega) | (exact shp_sr _ _ (by assumption)) | (exact shp_sr _ _ (shp_sr _ _ (by assumption))) | (exact shp_sr _ _ (shp_sr _ _ (shp_sr _ _ (by assumption)))) | (left; assumption) | (exact b2i_or _) | (simp; done)) only [e51_160, e51_161, e51_164, e51_165, e51_168, e51_171, e51_172, e51_175, e51_176, e51_179, e51_182, e51_183, e51_184, e51_187, eq_self, ne_a, ne_b, ne_c, Nat.reduceEqDiff, lt0, bnd_ok, psh_I, psh_L, psh_R, psh_U, gt_sr, gr_sr, sk_sr, nn_sr, ↓reduceIte, Int.toNat_natCast, Int.reduceToNat, g1_1, g1_2, e3, e4, b2i_t, Int.reduceEq]
    | false =>
      rw [hg] at e4
      rw [if_neg Bool.false_ne_true]
      simp (disch := first | assumption | omega | (exact shp_fok (by first | assumption | exact shp_sr _ _ (by assumption) | exact shp_sr _ _ (shp_sr _ _ (by assumption)) | exact shp_sr _ _ (shp_sr _ _ (shp_sr _ _ (by assumption)))) (by decide)) | (simp only [fok_sr, aok_sr]; first | assumption | (exact shp_fok (by first | assumption | exact shp_sr _ _ (by assumption) | exact shp_sr _ _ (shp_sr _ _ (by assumption)) | exact shp_sr _ _ (shp_sr _ _ (shp_sr _ _ (by assumption)))) (by decide))) | (refine shp_aok (by first | assumption | exact shp_sr _ _ (by assumption) | exact shp_sr _ _ (shp_sr _ _ (by assumption)) | exact shp_sr _ _ (shp_sr _ _ (shp_sr _ _ (by assumption)))) rfl rfl ?_ ?_ <;> omega) | (exact shp_sr _ _ (by assumption)) | (exact shp_sr _ _ (shp_sr _ _ (by assumption))) | (exact shp_sr _ _ (shp_sr _ _ (shp_sr _ _ (by assumption)))) | (left; assumption) | (exact b2i_or _) | (simp; done)) only [e51_160, e51_161, e51_164, e51_165, e51_168, e51_171, e51_172, e51_175, e51_176, e51_179, e51_182, e51_183, e51_184, e51_187, eq_self, ne_a, ne_b, ne_c, Nat.reduceEqDiff, lt0, bnd_ok, psh_I, psh_L, psh_R, psh_U, gt_sr, gr_sr, sk_sr, nn_sr, ↓reduceIte, Int.toNat_natCast, Int.reduceToNat, g1_1, g1_2, e3, e4, b2i_f, w9]
  have S : (∀ code, code < 0 → hsW d sg cn s (exB p x 24) (dgH h p code) = false) → ∀ q6 q7 q8 q9 τ, srI σ0 τ d cn sg p → gt τ 21 = gt τ0 21 → ∃ τ' r, run 51 59 [vR 1, vI (s : Int), vI (x : Int), vI (m : Int), vI (prH h m : Nat), vI 0, q6, q7, q8, q9] [] τ = some (vI (b2i r), τ') ∧ (r = true ↔ goodW d sg cn s (exB p x 24)) ∧ chg SW τ τ' ∧ trR τ' d := by
    refine bk (P := fun K z => (∀ code, code < K → hsW d sg cn s (exB p x 24) (dgH h p code) = false) → ∀ q6 q7 q8 q9 τ, srI σ0 τ d cn sg p → gt τ 21 = gt τ0 21 → ∃ τ' r, run 51 59 [vR 1, vI (s : Int), vI (x : Int), vI (m : Int), vI (prH h m : Nat), vI z, q6, q7, q8, q9] [] τ = some (vI (b2i r), τ') ∧ (r = true ↔ goodW d sg cn s (exB p x 24)) ∧ chg SW τ τ' ∧ trR τ' d) (n := prH h m) ?_ ?_
    · intro hno q6 q7 q8 q9 τ hI1 h21
      have h4 : ¬ ((prH h m : Nat) : Int) < ((prH h m : Nat) : Int) := by omega
      have ht := hI1.1.1
      refine ⟨τ, false, ?_, ⟨fun h => Bool.noConfusion h, ?_⟩, chg_rf _ _, hI1.2.2.1⟩
      · rw [e51_59]
        simp (disch := first | assumption | omega | (exact shp_fok (by first | assumption | exact shp_sr _ _ (by assumption) | exact shp_sr _ _ (shp_sr _ _ (by assumption)) | exact shp_sr _ _ (shp_sr _ _ (shp_sr _ _ (by assumption)))) (by decide)) | (simp only [fok_sr, aok_sr]; first | assumption | (exact shp_fok (by first | assumption | exact shp_sr _ _ (by assumption) | exact shp_sr _ _ (shp_sr _ _ (by assumption)) | exact shp_sr _ _ (shp_sr _ _ (shp_sr _ _ (by assumption)))) (by decide))) | (refine shp_aok (by first | assumption | exact shp_sr _ _ (by assumption) | exact shp_sr _ _ (shp_sr _ _ (by assumption)) | exact shp_sr _ _ (shp_sr _ _ (shp_sr _ _ (by assumption)))) rfl rfl ?_ ?_ <;> omega) | (exact shp_sr _ _ (by assumption)) | (exact shp_sr _ _ (shp_sr _ _ (by assumption))) | (exact shp_sr _ _ (shp_sr _ _ (shp_sr _ _ (by assumption)))) | (left; assumption) | (exact b2i_or _) | (simp; done)) only [e51_61, e51_63, e51_190, e51_191, eq_self, ne_a, ne_b, ne_c, Nat.reduceEqDiff, lt0, bnd_ok, psh_I, psh_L, psh_R, psh_U, gt_sr, gr_sr, sk_sr, nn_sr, ↓reduceIte, Int.toNat_natCast, Int.reduceToNat, h4, b2i_f]
      · rintro ⟨v, hv, hst⟩
        exfalso
        obtain ⟨u, hu⟩ : ∃ u : Nat → Nat, u = fun i => if x.testBit i = true then v (gt τ0 21 i).toNat else 0 := ⟨_, rfl⟩
        have hui : ∀ i j, p j = true → j < 24 → ctN p j = i → u i = if x.testBit i = true then v j else 0 := fun i j h1 h2 h3 => by
          rw [hu]
          have := harr j h2 h1
          rw [h3] at this
          show (if x.testBit i = true then v (gt τ0 21 i).toNat else 0) = _
          rw [this, Int.toNat_natCast]
        have hult : ∀ i, i < m → u i < h i := by
          intro i hi
          obtain ⟨j, q1, q2, q3⟩ := cellOf i hi
          rw [hui i j q2 (by omega) q3, hhi i j q2 (by omega) q3]
          cases hb : x.testBit i with
          | true =>
            rw [if_pos rfl, if_pos rfl]
            have := hv j (by rw [exB_tb, q2, q3, hb, decide_eq_true (show j < 24 by omega)]; rfl)
            omega
          | false => rw [if_neg Bool.false_ne_true, if_neg Bool.false_ne_true]; omega
        have hcode := enH_lt m hult
        have hno2 := hno (enH h u m) hcode
        have hcg : thO d (exB p x 24) (dgH h p (enH h u m)) = thO d (exB p x 24) v := by
          refine thO_cg fun c hc => ?_
          rw [exB_tb, Bool.and_eq_true, Bool.and_eq_true] at hc
          obtain ⟨b1, b2, b3⟩ := hc
          have b1 := of_decide_eq_true b1
          have hlt : ctN p c < m := by rw [← hm]; exact ct_lt b1 b2
          unfold dgH
          rw [enH_dig hlt hult, hui (ctN p c) c b2 b1 rfl, b3, if_pos rfl]
        unfold hsW at hno2 hst
        rw [hcg, hst] at hno2
        cases hno2
    · intro code hcode hcode' ih hno q6 q7 q8 q9 τ hI1 h21
      obtain ⟨τ1, q6', q7', q8', q9', c1, t1, e1⟩ := turn code τ q6 q7 q8 q9 hcode hI1 h21
      have I2 := srI_chg hI1 c1 t1
      have k21 : gt τ1 21 = gt τ0 21 := by rw [chg_gt c1 (by decide)]; exact h21
      cases hg : hsW d sg cn s (exB p x 24) (dgH h p code) with
      | true =>
        rw [hg, if_pos rfl] at e1
        exact ⟨τ1, true, e1, ⟨fun _ => ⟨dgH h p code, fun c hc => (hvd code hcode c hc).1, hg⟩, fun _ => rfl⟩, c1, t1⟩
      | false =>
        rw [hg, if_neg Bool.false_ne_true] at e1
        obtain ⟨τ2, r, e2, i2, c2, t2⟩ := ih (fun y hy => by
          by_cases e : y = code
          · rw [e]; exact hg
          · exact hno y (by omega)) q6' q7' q8' q9' τ1 I2 k21
        exact ⟨τ2, r, e1.trans e2, i2, chg_tr c1 c2 (fun _ h => h), t2⟩
  obtain ⟨τ', r, e9, i9, c9, t9⟩ := S (fun c hc => absurd hc (Nat.not_lt_zero c)) vU vU vU vU τ0 hI rfl
  refine ⟨τ', r, ?_, i9, c9, t9⟩
  rw [← e9, ← A vU vU vU vU]
  simp (disch := first | assumption | omega | (exact shp_fok (by first | assumption | exact shp_sr _ _ (by assumption) | exact shp_sr _ _ (shp_sr _ _ (by assumption)) | exact shp_sr _ _ (shp_sr _ _ (shp_sr _ _ (by assumption)))) (by decide)) | (simp only [fok_sr, aok_sr]; first | assumption | (exact shp_fok (by first | assumption | exact shp_sr _ _ (by assumption) | exact shp_sr _ _ (shp_sr _ _ (by assumption)) | exact shp_sr _ _ (shp_sr _ _ (shp_sr _ _ (by assumption)))) (by decide))) | (refine shp_aok (by first | assumption | exact shp_sr _ _ (by assumption) | exact shp_sr _ _ (shp_sr _ _ (by assumption)) | exact shp_sr _ _ (shp_sr _ _ (shp_sr _ _ (by assumption)))) rfl rfl ?_ ?_ <;> omega) | (exact shp_sr _ _ (by assumption)) | (exact shp_sr _ _ (shp_sr _ _ (by assumption))) | (exact shp_sr _ _ (shp_sr _ _ (shp_sr _ _ (by assumption)))) | (left; assumption) | (exact b2i_or _) | (simp; done)) only [e51_0, e51_1, e51_3, e51_4, eq_self, ne_a, ne_b, ne_c, Nat.reduceEqDiff, lt0, bnd_ok, psh_I, psh_L, psh_R, psh_U, gt_sr, gr_sr, sk_sr, nn_sr, ↓reduceIte, Int.toNat_natCast, Int.reduceToNat]
  rfl
