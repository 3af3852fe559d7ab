/-! ways through -/
def wS (d : Dat) (c : Nat) : Int := if isW d c = true then 100 else 0
theorem wS_bd (d : Dat) (c : Nat) : 0 ≤ wS d c ∧ wS d c ≤ 100 := by unfold wS; split <;> omega
def bsW (d : Dat) (c w : Nat) : Int := bsd (dR d) (dC d) c (w : Int)
theorem bsW_cases {d : Dat} (ho : okd d) (c w : Nat) : bsW d c w = -1 ∨ ∃ o : Nat, o < dn_ d ∧ bsW d c w = (o : Int) := by
  rcases bsd_cases (R := dR d) (C := dC d) (dn24 ho) c (w : Int) with ⟨h, -⟩ | ⟨o, h1, h2, -⟩
  · exact Or.inl h
  · exact Or.inr ⟨o, h1, h2⟩
/-- one side of one cell looked at -/
def chW (d : Dat) (f : Nat → Int) (c w : Nat) : Bool := decide (0 ≤ bsW d c w ∧ f (bsW d c w).toNat + wS d (bsW d c w).toNat + 1 < f c)
def stW (d : Dat) (f : Nat → Int) (c w : Nat) : Nat → Int := if chW d f c w = true then ru f c (f (bsW d c w).toNat + wS d (bsW d c w).toNat + 1) else f
def rdW (d : Dat) (f : Nat → Int) : Nat → (Nat → Int)
  | 0 => f
  | j + 1 => stW d (rdW d f j) (j / 4) (j % 4)
def moW (d : Dat) (f : Nat → Int) : Nat → Bool
  | 0 => false
  | j + 1 => moW d f j || chW d (rdW d f j) (j / 4) (j % 4)
theorem stW_le (d : Dat) (f : Nat → Int) (c w i : Nat) : stW d f c w i ≤ f i := by
  unfold stW
  split
  · next h =>
    have h := (of_decide_eq_true h).2
    unfold ru
    split
    · next e => rw [e]; omega
    · omega
  · omega
theorem rdW_le (d : Dat) (f : Nat → Int) (i : Nat) : ∀ j, rdW d f j i ≤ f i
  | 0 => Int.le_refl _
  | j + 1 => Int.le_trans (stW_le d (rdW d f j) (j / 4) (j % 4) i) (rdW_le d f i j)
theorem rdW_an (d : Dat) (f : Nat → Int) (i j : Nat) : ∀ k, rdW d f (j + k) i ≤ rdW d f j i
  | 0 => Int.le_refl _
  | k + 1 => Int.le_trans (stW_le d (rdW d f (j + k)) ((j + k) / 4) ((j + k) % 4) i) (rdW_an d f i j k)
theorem moW_f {d : Dat} {f : Nat → Int} : ∀ j, moW d f j = false → rdW d f j = f
  | 0, _ => rfl
  | j + 1, h => by
    unfold moW at h
    rw [Bool.or_eq_false_iff] at h
    have ih := moW_f j h.1
    show stW d (rdW d f j) (j / 4) (j % 4) = f
    rw [stW, h.2, if_neg Bool.false_ne_true, ih]
theorem moW_an {d : Dat} {f : Nat → Int} (j : Nat) : ∀ k, moW d f (j + k) = false → moW d f j = false
  | 0, h => h
  | k + 1, h => by
    have h : (moW d f (j + k) || chW d (rdW d f (j + k)) ((j + k) / 4) ((j + k) % 4)) = false := h
    rw [Bool.or_eq_false_iff] at h
    exact moW_an j k h.1
theorem smN_ru {f : Nat → Int} {c : Nat} {v : Int} : ∀ n, c < n → smN (ru f c v) n = smN f n - f c + v
  | 0, h => absurd h (Nat.not_lt_zero _)
  | n + 1, h => by
    show smN (ru f c v) n + ru f c v n = smN f n + f n - f c + v
    by_cases e : c = n
    · subst e
      rw [ru_e]
      have : smN (ru f c v) c = smN f c := smN_congr (fun i hi => ru_n _ _ (by omega))
      rw [this]
      omega
    · rw [smN_ru n (by omega), ru_n _ _ (by omega)]
      omega
/-- the sum falls where something changed -/
theorem rd_sum {d : Dat} {f : Nat → Int} : ∀ j, j ≤ dn_ d * 4 → smN (rdW d f j) (dn_ d) ≤ smN f (dn_ d) - b2i (moW d f j)
  | 0, _ => by show smN f (dn_ d) ≤ smN f (dn_ d) - 0; omega
  | j + 1, h => by
    have ih := rd_sum (d := d) (f := f) j (by omega)
    have e1 : rdW d f (j + 1) = stW d (rdW d f j) (j / 4) (j % 4) := rfl
    have e2 : moW d f (j + 1) = (moW d f j || chW d (rdW d f j) (j / 4) (j % 4)) := rfl
    have hb := b2i_or (moW d f j)
    rw [e1, e2, stW]
    cases hc : chW d (rdW d f j) (j / 4) (j % 4) with
    | true =>
      have hc2 := (of_decide_eq_true hc).2
      rw [if_pos rfl, smN_ru (dn_ d) (by omega), Bool.or_true, b2i_t]
      omega
    | false =>
      rw [if_neg Bool.false_ne_true, Bool.or_false]
      exact ih
def clW (d : Dat) (f : Nat → Int) : Prop := ∀ c w o : Nat, c < dn_ d → w < 4 → bsW d c w = (o : Int) → f c ≤ f o + wS d o + 1
def okF (d : Dat) (to : Nat) (f : Nat → Int) : Prop := f to = 0 ∧ (∀ c, c < dn_ d → 0 ≤ f c ∧ f c ≤ 1000000) ∧ ∀ c, c < dn_ d → c ≠ to → f c = 1000000 ∨ ∃ w o : Nat, w < 4 ∧ o < dn_ d ∧ bsW d c w = (o : Int) ∧ f o + wS d o + 1 ≤ f c
def Sol (d : Dat) (to : Nat) (f : Nat → Int) : Prop := okF d to f ∧ clW d f
theorem ok_st {d : Dat} (ho : okd d) {to : Nat} {f : Nat → Int} (h : okF d to f) {c w : Nat} (hc : c < dn_ d) (hw : w < 4) : okF d to (stW d f c w) := by
  obtain ⟨h1, h2, h3⟩ := h
  have hle := stW_le d f c w
  unfold stW at hle ⊢
  cases hch : chW d f c w with
  | false => rw [if_neg Bool.false_ne_true]; exact ⟨h1, h2, h3⟩
  | true =>
    rw [hch, if_pos rfl] at hle
    rw [if_pos rfl]
    obtain ⟨k1, k2⟩ := of_decide_eq_true hch
    rcases bsW_cases ho c w with e | ⟨o, ho1, e⟩
    · rw [e] at k1; omega
    · rw [e, Int.toNat_natCast] at k2 hle ⊢
      have b1 := h2 o ho1
      have b2 := wS_bd d o
      have b3 := h2 c hc
      refine ⟨?_, ?_, ?_⟩
      · by_cases et : to = c
        · subst et; omega
        · rw [ru_n _ _ et]; exact h1
      · intro i hi
        unfold ru
        split
        · omega
        · exact h2 i hi
      · intro i hi hit
        by_cases ei : i = c
        · subst ei
          refine Or.inr ⟨w, o, hw, ho1, e, ?_⟩
          have := hle o
          rw [ru_e]
          omega
        · rw [ru_n _ _ ei]
          rcases h3 i hi hit with h4 | ⟨w', o', h5, h6, h7, h8⟩
          · exact Or.inl h4
          · refine Or.inr ⟨w', o', h5, h6, h7, ?_⟩
            have := hle o'
            omega
theorem ok_rd {d : Dat} (ho : okd d) {to : Nat} {f : Nat → Int} (h : okF d to f) : ∀ j, j ≤ dn_ d * 4 → okF d to (rdW d f j)
  | 0, _ => h
  | j + 1, hj => ok_st ho (ok_rd ho h j (by omega)) (by omega) (by omega)
theorem mo_cl {d : Dat} {f : Nat → Int} (h : moW d f (dn_ d * 4) = false) : clW d f := by
  intro c w o hc hw e
  have h1 := moW_an (d := d) (f := f) (c * 4 + w + 1) (dn_ d * 4 - (c * 4 + w + 1)) (by
    rw [show c * 4 + w + 1 + (dn_ d * 4 - (c * 4 + w + 1)) = dn_ d * 4 by omega]; exact h)
  have h1 : (moW d f (c * 4 + w) || chW d (rdW d f (c * 4 + w)) ((c * 4 + w) / 4) ((c * 4 + w) % 4)) = false := h1
  rw [Bool.or_eq_false_iff] at h1
  have h2 := moW_f _ h1.1
  have h3 := h1.2
  rw [h2, show (c * 4 + w) / 4 = c by omega, show (c * 4 + w) % 4 = w by omega] at h3
  have h4 := of_decide_eq_false h3
  rw [e, Int.toNat_natCast] at h4
  omega
/-- whatever goes on by rounds comes to an end -/
theorem wf_rounds {d : Dat} (ho : okd d) {to : Nat} {P : (Nat → Int) → Prop} (hfix : ∀ f, okF d to f → moW d f (dn_ d * 4) = false → P f) (hstep : ∀ f, okF d to f → moW d f (dn_ d * 4) = true → P (rdW d f (dn_ d * 4)) → P f) : ∀ N f, okF d to f → (smN f (dn_ d)).toNat ≤ N → P f := by
  intro N
  have pos : ∀ f, okF d to f → 0 ≤ smN f (dn_ d) := fun f hf => smN_ge (fun i hi => (hf.2.1 i hi).1) (dn_ d) (Nat.le_refl _)
  induction N with
  | zero =>
    intro f hf hN
    cases hm : moW d f (dn_ d * 4) with
    | false => exact hfix f hf hm
    | true =>
      exfalso
      have h1 := rd_sum (d := d) (f := f) (dn_ d * 4) (Nat.le_refl _)
      rw [hm, b2i_t] at h1
      have h2 := pos _ (ok_rd ho hf (dn_ d * 4) (Nat.le_refl _))
      omega
  | succ N ih =>
    intro f hf hN
    cases hm : moW d f (dn_ d * 4) with
    | false => exact hfix f hf hm
    | true =>
      have h1 := rd_sum (d := d) (f := f) (dn_ d * 4) (Nat.le_refl _)
      rw [hm, b2i_t] at h1
      have ok := ok_rd ho hf (dn_ d * 4) (Nat.le_refl _)
      have h2 := pos _ ok
      exact hstep f hf hm (ih _ ok (by omega))
def f0W (to : Nat) : Nat → Int := fun c => if c = to then 0 else 1000000
theorem ok_f0 (d : Dat) (to : Nat) : okF d to (f0W to) := by
  refine ⟨if_pos rfl, ?_, ?_⟩
  · intro c _
    unfold f0W
    split <;> omega
  · intro c _ h
    exact Or.inl (if_neg h)
theorem ex_sol {d : Dat} (ho : okd d) (to : Nat) : ∃ F, Sol d to F :=
  wf_rounds ho (P := fun _ => ∃ F, Sol d to F) (fun f hf hm => ⟨f, hf, mo_cl hm⟩) (fun _ _ _ h => h) _ (f0W to) (ok_f0 d to) (Nat.le_refl _)
/-! no cell is far -/
theorem bsW_at {d : Dat} {r k w : Nat} (hk : k < dC d) : bsW d (r * dC d + k) w = cat (dR d) (dC d) ((r : Int) + dnI (w : Int)) ((k : Int) + onI (w : Int)) := by
  unfold bsW bsd
  rw [(rk_dm hk).1, (rk_dm hk).2]
theorem goE {d : Dat} {F : Nat → Int} (h : clW d F) {r : Nat} (hr : r < dR d) : ∀ m k, k + m < dC d → F (r * dC d + k) ≤ F (r * dC d + (k + m)) + 101 * m ∧ F (r * dC d + (k + m)) ≤ F (r * dC d + k) + 101 * m
  | 0, k, _ => by rw [Nat.add_zero]; omega
  | m + 1, k, hk => by
    obtain ⟨ih1, ih2⟩ := goE h hr m k (by omega)
    have hn : r * dC d + dC d ≤ dR d * dC d := by
      have := Nat.mul_le_mul_right (dC d) (show r + 1 ≤ dR d by omega)
      rw [Nat.add_mul, Nat.one_mul] at this
      exact this
    have e1 : bsW d (r * dC d + (k + m)) 1 = ((r * dC d + (k + (m + 1)) : Nat) : Int) := by
      rw [bsW_at (by omega)]
      show cat (dR d) (dC d) ((r : Int) + 0) (((k + m : Nat) : Int) + 1) = _
      unfold cat
      rw [Int.add_zero, if_pos ⟨by omega, by omega, by omega, by omega⟩]
      have e9 : ((r * dC d : Nat) : Int) = (r : Int) * (dC d : Int) := Int.natCast_mul _ _
      rw [← e9]
      omega
    have e2 : bsW d (r * dC d + (k + (m + 1))) 3 = ((r * dC d + (k + m) : Nat) : Int) := by
      rw [bsW_at (by omega)]
      show cat (dR d) (dC d) ((r : Int) + 0) (((k + (m + 1) : Nat) : Int) + -1) = _
      unfold cat
      rw [Int.add_zero, if_pos ⟨by omega, by omega, by omega, by omega⟩]
      have e9 : ((r * dC d : Nat) : Int) = (r : Int) * (dC d : Int) := Int.natCast_mul _ _
      rw [← e9]
      omega
    have c1 := h _ 1 _ (show r * dC d + (k + m) < dn_ d by unfold dn_; omega) (by omega) e1
    have c2 := h _ 3 _ (show r * dC d + (k + (m + 1)) < dn_ d by unfold dn_; omega) (by omega) e2
    have b1 := wS_bd d (r * dC d + (k + (m + 1)))
    have b2 := wS_bd d (r * dC d + (k + m))
    omega
theorem goS {d : Dat} {F : Nat → Int} (h : clW d F) {k : Nat} (hk : k < dC d) : ∀ m r, r + m < dR d → F (r * dC d + k) ≤ F ((r + m) * dC d + k) + 101 * m ∧ F ((r + m) * dC d + k) ≤ F (r * dC d + k) + 101 * m
  | 0, r, _ => by rw [Nat.add_zero]; omega
  | m + 1, r, hr => by
    obtain ⟨ih1, ih2⟩ := goS h hk m r (by omega)
    have hn : ∀ r', r' < dR d → r' * dC d + k < dn_ d := fun r' hr' => by
      have := Nat.mul_le_mul_right (dC d) (show r' + 1 ≤ dR d by omega)
      rw [Nat.add_mul, Nat.one_mul] at this
      unfold dn_
      omega
    have e1 : bsW d ((r + m) * dC d + k) 2 = (((r + (m + 1)) * dC d + k : Nat) : Int) := by
      rw [bsW_at hk]
      show cat (dR d) (dC d) (((r + m : Nat) : Int) + 1) ((k : Int) + 0) = _
      rw [show ((r + m : Nat) : Int) + 1 = ((r + (m + 1) : Nat) : Int) by omega]
      unfold cat
      rw [Int.add_zero, if_pos ⟨by omega, by omega, by omega, by omega⟩, Int.natCast_add ((r + (m + 1)) * dC d) k, Int.natCast_mul]
    have e2 : bsW d ((r + (m + 1)) * dC d + k) 0 = (((r + m) * dC d + k : Nat) : Int) := by
      rw [bsW_at hk]
      show cat (dR d) (dC d) (((r + (m + 1) : Nat) : Int) + -1) ((k : Int) + 0) = _
      rw [show ((r + (m + 1) : Nat) : Int) + -1 = ((r + m : Nat) : Int) by omega]
      unfold cat
      rw [Int.add_zero, if_pos ⟨by omega, by omega, by omega, by omega⟩, Int.natCast_add ((r + m) * dC d) k, Int.natCast_mul]
    have c1 := h _ 2 _ (hn (r + m) (by omega)) (by omega) e1
    have c2 := h _ 0 _ (hn (r + (m + 1)) (by omega)) (by omega) e2
    have b1 := wS_bd d ((r + (m + 1)) * dC d + k)
    have b2 := wS_bd d ((r + m) * dC d + k)
    omega
theorem near {d : Dat} (ho : okd d) {F : Nat → Int} (h : clW d F) {to c : Nat} (ht : to < dn_ d) (hc : c < dn_ d) (h0 : F to = 0) : F c ≤ 1000 := by
  obtain ⟨hR1, hR4, hC1, hC6⟩ := ho.1
  have hC0 : 0 < dC d := by omega
  have hsp : ∀ x, x < dn_ d → ∃ r k, r < dR d ∧ k < dC d ∧ x = r * dC d + k := fun x hx => by
    refine ⟨x / dC d, x % dC d, (Nat.div_lt_iff_lt_mul hC0).mpr hx, Nat.mod_lt _ hC0, ?_⟩
    rw [Nat.mul_comm]
    exact (Nat.div_add_mod x (dC d)).symm
  obtain ⟨r, k, h1, h2, rfl⟩ := hsp c hc
  obtain ⟨r0, k0, h3, h4, rfl⟩ := hsp to ht
  have s1 : F (r * dC d + k) ≤ F (r * dC d + k0) + 505 := by
    by_cases hle : k ≤ k0
    · obtain ⟨m, rfl⟩ : ∃ m, k0 = k + m := ⟨k0 - k, by omega⟩
      have := (goE h h1 m k h4).1
      omega
    · obtain ⟨m, rfl⟩ : ∃ m, k = k0 + m := ⟨k - k0, by omega⟩
      have := (goE h h1 m k0 h2).2
      omega
  have s2 : F (r * dC d + k0) ≤ F (r0 * dC d + k0) + 303 := by
    by_cases hle : r ≤ r0
    · obtain ⟨m, rfl⟩ : ∃ m, r0 = r + m := ⟨r0 - r, by omega⟩
      have := (goS h h4 m r h3).1
      omega
    · obtain ⟨m, rfl⟩ : ∃ m, r = r0 + m := ⟨r - r0, by omega⟩
      have := (goS h h4 m r0 h1).2
      omega
  omega
/-! all agree -/
theorem sol_tight {d : Dat} (ho : okd d) {to : Nat} {F : Nat → Int} (h : Sol d to F) (ht : to < dn_ d) {c : Nat} (hc : c < dn_ d) (hct : c ≠ to) : ∃ w o : Nat, w < 4 ∧ o < dn_ d ∧ bsW d c w = (o : Int) ∧ F o + wS d o + 1 ≤ F c := by
  have hn := near ho h.2 ht hc h.1.1
  rcases h.1.2.2 c hc hct with e | e
  · omega
  · exact e
theorem sol_le {d : Dat} (ho : okd d) {to : Nat} {F G : Nat → Int} (h : Sol d to F) (ht : to < dn_ d) (hG : clW d G) (hG0 : G to = 0) : ∀ N c, c < dn_ d → (F c).toNat ≤ N → G c ≤ F c := by
  intro N
  induction N with
  | zero =>
    intro c hc hN
    by_cases hct : c = to
    · rw [hct, hG0, h.1.1]; exact Int.le_refl _
    · obtain ⟨w, o, h1, h2, h3, h4⟩ := sol_tight ho h ht hc hct
      have b1 := (h.1.2.1 o h2).1
      have b2 := wS_bd d o
      omega
  | succ N ih =>
    intro c hc hN
    by_cases hct : c = to
    · rw [hct, hG0, h.1.1]; exact Int.le_refl _
    · obtain ⟨w, o, h1, h2, h3, h4⟩ := sol_tight ho h ht hc hct
      have b1 := (h.1.2.1 o h2).1
      have b2 := wS_bd d o
      have := ih o h2 (by omega)
      have := hG c w o hc h1 h3
      omega
theorem sol_un {d : Dat} (ho : okd d) {to : Nat} {F G : Nat → Int} (hF : Sol d to F) (hG : Sol d to G) (ht : to < dn_ d) {c : Nat} (hc : c < dn_ d) : F c = G c := by
  have h1 := sol_le ho hF ht hG.2 hG.1.1 _ c hc (Nat.le_refl _)
  have h2 := sol_le ho hG ht hF.2 hF.1.1 _ c hc (Nat.le_refl _)
  omega
/-! so many rounds are enough -/
theorem st_ge {d : Dat} (ho : okd d) {F f : Nat → Int} (hF : clW d F) (h : ∀ c, c < dn_ d → F c ≤ f c) {c w : Nat} (hc : c < dn_ d) (hw : w < 4) : ∀ i, i < dn_ d → F i ≤ stW d f c w i := by
  intro i hi
  unfold stW
  split
  · next hch =>
    obtain ⟨k1, k2⟩ := of_decide_eq_true hch
    rcases bsW_cases ho c w with e | ⟨o, ho1, e⟩
    · rw [e] at k1; omega
    · rw [e, Int.toNat_natCast]
      unfold ru
      split
      · next ei =>
        rw [ei]
        have := hF c w o hc hw e
        have := h o ho1
        omega
      · exact h i hi
  · exact h i hi
theorem rd_ge {d : Dat} (ho : okd d) {F f : Nat → Int} (hF : clW d F) (h : ∀ c, c < dn_ d → F c ≤ f c) : ∀ j, j ≤ dn_ d * 4 → ∀ i, i < dn_ d → F i ≤ rdW d f j i
  | 0, _ => h
  | j + 1, hj => st_ge ho hF (rd_ge ho hF h j (by omega)) (by omega) (by omega)
theorem rd_relax {d : Dat} {f : Nat → Int} {c w o : Nat} (hc : c < dn_ d) (hw : w < 4) (e : bsW d c w = (o : Int)) : rdW d f (dn_ d * 4) c ≤ f o + wS d o + 1 := by
  have h1 := rdW_an d f c (c * 4 + w + 1) (dn_ d * 4 - (c * 4 + w + 1))
  rw [show c * 4 + w + 1 + (dn_ d * 4 - (c * 4 + w + 1)) = dn_ d * 4 by omega] at h1
  have h2 : rdW d f (c * 4 + w + 1) c ≤ rdW d f (c * 4 + w) o + wS d o + 1 := by
    show stW d (rdW d f (c * 4 + w)) ((c * 4 + w) / 4) ((c * 4 + w) % 4) c ≤ _
    rw [show (c * 4 + w) / 4 = c by omega, show (c * 4 + w) % 4 = w by omega]
    unfold stW
    cases hch : chW d (rdW d f (c * 4 + w)) c w with
    | true => rw [if_pos rfl, ru_e, e, Int.toNat_natCast]; exact Int.le_refl _
    | false =>
      rw [if_neg Bool.false_ne_true]
      have h4 := of_decide_eq_false hch
      rw [e, Int.toNat_natCast] at h4
      omega
  have h3 := rdW_le d f o (c * 4 + w)
  omega
def pF (F f : Nat → Int) (c : Nat) : Bool := decide (f c ≠ F c)
theorem ct_sub {p q : Nat → Bool} : ∀ N, (∀ c, c < N → q c = true → p c = true) → ctN q N ≤ ctN p N
  | 0, _ => Nat.le_refl _
  | N + 1, h => by
    have ih := ct_sub N (fun c hc => h c (by omega))
    have hN := h N (by omega)
    show ctN q N + _ ≤ ctN p N + _
    cases hq : q N with
    | false => rw [if_neg Bool.false_ne_true]; split <;> omega
    | true => rw [hN hq]; omega
theorem ct_ssub {p q : Nat → Bool} {c0 : Nat} (hp : p c0 = true) (hq : q c0 = false) : ∀ N, c0 < N → (∀ c, c < N → q c = true → p c = true) → ctN q N < ctN p N
  | 0, h, _ => absurd h (Nat.not_lt_zero _)
  | N + 1, h, hs => by
    show ctN q N + (if q N = true then 1 else 0) < ctN p N + (if p N = true then 1 else 0)
    by_cases e : c0 = N
    · rw [← e, hp, hq, if_pos rfl, if_neg Bool.false_ne_true]
      have := ct_sub (p := p) (q := q) c0 (fun c hc => hs c (by omega))
      omega
    · have ih := ct_ssub hp hq N (by omega) (fun c hc => hs c (by omega))
      have hN := hs N (by omega)
      cases hqN : q N with
      | false => rw [if_neg Bool.false_ne_true]; split <;> omega
      | true => rw [hN hqN]; omega
/-- of all of which p holds one of least F -/
theorem least_of {p : Nat → Bool} {F : Nat → Int} : ∀ N, (∃ c, c < N ∧ p c = true) → ∃ c, c < N ∧ p c = true ∧ ∀ c', c' < N → p c' = true → F c ≤ F c'
  | 0, h => by obtain ⟨c, h1, -⟩ := h; exact absurd h1 (Nat.not_lt_zero _)
  | N + 1, h => by
    obtain ⟨c, h1, h2⟩ := h
    by_cases hex : ∃ c, c < N ∧ p c = true
    · obtain ⟨a, a1, a2, a3⟩ := least_of (F := F) N hex
      by_cases hN : p N = true ∧ F N < F a
      · refine ⟨N, by omega, hN.1, fun c' hc' hp' => ?_⟩
        by_cases e : c' = N
        · rw [e]; exact Int.le_refl _
        · have := a3 c' (by omega) hp'
          omega
      · refine ⟨a, by omega, a2, fun c' hc' hp' => ?_⟩
        by_cases e : c' = N
        · subst e
          have : ¬ F c' < F a := fun h => hN ⟨hp', h⟩
          omega
        · exact a3 c' (by omega) hp'
    · have e : c = N := by
        by_cases e : c = N
        · exact e
        · exact absurd ⟨c, by omega, h2⟩ hex
      subst e
      refine ⟨c, by omega, h2, fun c' hc' hp' => ?_⟩
      by_cases e' : c' = c
      · rw [e']; exact Int.le_refl _
      · exact absurd ⟨c', by omega, hp'⟩ hex
theorem round_less {d : Dat} (ho : okd d) {to : Nat} (ht : to < dn_ d) {F f : Nat → Int} (hF : Sol d to F) (h0 : f to = 0) (h : ∀ c, c < dn_ d → F c ≤ f c) (hpos : 0 < ctN (pF F f) (dn_ d)) : ctN (pF F (rdW d f (dn_ d * 4))) (dn_ d) < ctN (pF F f) (dn_ d) := by
  have hge := rd_ge ho hF.2 h (dn_ d * 4) (Nat.le_refl _)
  have hle := fun c => rdW_le d f c (dn_ d * 4)
  have hsub : ∀ c, c < dn_ d → pF F (rdW d f (dn_ d * 4)) c = true → pF F f c = true := by
    intro c hc hp
    have h1 := of_decide_eq_true hp
    have h2 := hge c hc
    have h3 := hle c
    exact decide_eq_true (by omega)
  obtain ⟨j, j1, j2, -⟩ := ct_ex (p := pF F f) (dn_ d) 0 hpos
  obtain ⟨c, c1, c2, c3⟩ := least_of (p := pF F f) (F := F) (dn_ d) ⟨j, j1, j2⟩
  have hct : c ≠ to := fun e => by
    have := of_decide_eq_true c2
    rw [e, h0, hF.1.1] at this
    exact this rfl
  obtain ⟨w, o, h1, h2, h3, h4⟩ := sol_tight ho hF ht c1 hct
  have b2 := wS_bd d o
  have hfin : f o = F o := by
    by_cases e : f o = F o
    · exact e
    · have := c3 o h2 (decide_eq_true e)
      omega
  have h5 := rd_relax (f := f) c1 h1 h3
  have h6 := hge c c1
  refine ct_ssub c2 (decide_eq_false (fun hne => hne (by omega))) (dn_ d) c1 hsub
def itW (d : Dat) (f : Nat → Int) : Nat → (Nat → Int)
  | 0 => f
  | k + 1 => rdW d (itW d f k) (dn_ d * 4)
theorem it_inv {d : Dat} (ho : okd d) {to : Nat} (ht : to < dn_ d) {F f : Nat → Int} (hF : Sol d to F) (h0 : f to = 0) (h : ∀ c, c < dn_ d → F c ≤ f c) : ∀ k, itW d f k to = 0 ∧ (∀ c, c < dn_ d → F c ≤ itW d f k c ∧ itW d f k c ≤ f c) ∧ ctN (pF F (itW d f k)) (dn_ d) ≤ dn_ d - k
  | 0 => by
    refine ⟨h0, fun c hc => ⟨h c hc, Int.le_refl _⟩, ?_⟩
    have := (ct_mono (pF F f) 0 (dn_ d)).2
    have e : ctN (pF F f) 0 = 0 := rfl
    rw [Nat.zero_add, e] at this
    show ctN (pF F f) (dn_ d) ≤ _
    omega
  | k + 1 => by
    obtain ⟨i1, i2, i3⟩ := it_inv ho ht hF h0 h k
    have hge := rd_ge ho hF.2 (fun c hc => (i2 c hc).1) (dn_ d * 4) (Nat.le_refl _)
    have hle := fun c => rdW_le d (itW d f k) c (dn_ d * 4)
    have e : itW d f (k + 1) = rdW d (itW d f k) (dn_ d * 4) := rfl
    rw [e]
    refine ⟨?_, fun c hc => ⟨hge c hc, Int.le_trans (hle c) (i2 c hc).2⟩, ?_⟩
    · have h1 := hge to ht
      have h2 := hle to
      rw [hF.1.1] at h1
      omega
    · by_cases hp : 0 < ctN (pF F (itW d f k)) (dn_ d)
      · have := round_less ho ht hF i1 (fun c hc => (i2 c hc).1) hp
        omega
      · have := ct_sub (p := pF F (itW d f k)) (q := pF F (rdW d (itW d f k) (dn_ d * 4))) (dn_ d) (fun c hc hq => by
          have h1 := of_decide_eq_true hq
          have h2 := hge c hc
          have h3 := hle c
          exact decide_eq_true (by omega))
        omega
theorem it_sol {d : Dat} (ho : okd d) {to : Nat} (ht : to < dn_ d) {F f : Nat → Int} (hF : Sol d to F) (h0 : f to = 0) (h : ∀ c, c < dn_ d → F c ≤ f c) {c : Nat} (hc : c < dn_ d) : itW d f (dn_ d) c = F c := by
  have h1 := (it_inv ho ht hF h0 h (dn_ d)).2.2
  by_cases e : itW d f (dn_ d) c = F c
  · exact e
  · have := ct_lt (p := pF F (itW d f (dn_ d))) hc (decide_eq_true e)
    omega
/-- the first cell on a best way -/
def fsW (d : Dat) (F : Nat → Int) (fr : Nat) : Nat → Int
  | 0 => -6
  | w + 1 => if 0 ≤ bsW d fr w ∧ F (bsW d fr w).toNat + wS d (bsW d fr w).toNat + 1 = F fr ∧ (fsW d F fr w = -6 ∨ bsW d fr w < fsW d F fr w) then bsW d fr w else fsW d F fr w
theorem fsW_bd {d : Dat} (ho : okd d) (F : Nat → Int) (fr : Nat) : ∀ w, fsW d F fr w = -6 ∨ (0 ≤ fsW d F fr w ∧ fsW d F fr w < 24)
  | 0 => Or.inl rfl
  | w + 1 => by
    unfold fsW
    split
    · next h =>
      rcases bsW_cases ho fr w with e | ⟨o, ho1, e⟩
      · rw [e] at h; omega
      · have := dn24 ho
        rw [e]; omega
    · exact fsW_bd ho F fr w
noncomputable def slW (d : Dat) (to : Nat) : Nat → Int := @dite _ (∃ F, Sol d to F) (Classical.propDecidable _) (fun h => Classical.choose h) (fun _ => z0)
theorem slW_sol {d : Dat} (ho : okd d) (to : Nat) : Sol d to (slW d to) := by
  have h := ex_sol ho to
  unfold slW
  rw [dif_pos h]
  exact Classical.choose_spec h
noncomputable def x_walk (d : Dat) (fr to w : Int) : Int := if (0 ≤ fr ∧ fr < (dn_ d : Nat)) ∧ (0 ≤ to ∧ to < (dn_ d : Nat)) then (if 0 ≤ w ∧ w ≤ 2 then (if w = 0 then (slW d to.toNat fr.toNat + wS d fr.toNat) / 100 else if w = 1 then slW d to.toNat fr.toNat % 100 else if fr = to then -6 else fsW d (slW d to.toNat) fr.toNat 4) else -2) else -1
