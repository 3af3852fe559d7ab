/-! a bank, as data -/
/-- which rows of ints may have changed; all else is as it was -/
def chg (S : List Nat) (σ σ' : St) : Prop := nn σ' = nn σ ∧ nt σ' = nt σ ∧ sk σ' = sk σ ∧ gr σ' = gr σ ∧ sl σ' = sl σ ∧ sx σ' = sx σ ∧ ∀ k, k ∉ S → gt σ' k = gt σ k
theorem chg_rf (S : List Nat) (σ : St) : chg S σ σ := ⟨rfl, rfl, rfl, rfl, rfl, rfl, fun _ _ => rfl⟩
theorem chg_sr {S : List Nat} {σ σ' : St} {q : Nat} {f : Nat → Int} (h : chg S σ σ') (hq : q ∈ S) : chg S σ (sr σ' q f) :=
  ⟨h.1, h.2.1, h.2.2.1, h.2.2.2.1, h.2.2.2.2.1, h.2.2.2.2.2.1, fun k hk => by rw [gt_sr, if_neg (show ¬ k = q from fun e => hk (by rw [e]; exact hq))]; exact h.2.2.2.2.2.2 k hk⟩
theorem chg_tr {S T : List Nat} {σ σ1 σ2 : St} (h : chg S σ σ1) (h2 : chg T σ1 σ2) (hT : ∀ k ∈ T, k ∈ S) : chg S σ σ2 :=
  ⟨h2.1.trans h.1, h2.2.1.trans h.2.1, h2.2.2.1.trans h.2.2.1, h2.2.2.2.1.trans h.2.2.2.1, h2.2.2.2.2.1.trans h.2.2.2.2.1, h2.2.2.2.2.2.1.trans h.2.2.2.2.2.1, fun k hk => (h2.2.2.2.2.2.2 k (fun e => hk (hT k e))).trans (h.2.2.2.2.2.2 k hk)⟩
theorem chg_mo {S T : List Nat} {σ σ1 : St} (h : chg T σ σ1) (hT : ∀ k ∈ T, k ∈ S) : chg S σ σ1 := chg_tr (chg_rf S σ) h hT
theorem bsh_chg {S : List Nat} {σ σ' : St} {b : Nat} (h : chg S σ σ') (hb : bsh σ b) : bsh σ' b := by
  obtain ⟨h1, h2, h3, h4, -⟩ := h
  unfold bsh ia fok at hb ⊢
  rw [h1, h3, h4]
  exact hb
theorem ia_chg {S : List Nat} {σ σ' : St} {k n : Nat} (h : chg S σ σ') (hb : ia σ k n) : ia σ' k n := by
  obtain ⟨h1, h2, h3, h4, -⟩ := h
  unfold ia fok at hb ⊢
  rw [h1, h3]
  exact hb
theorem fok_chg {S : List Nat} {σ σ' : St} {k n : Nat} (h : chg S σ σ') (hb : fok σ k n) : fok σ' k n := by
  obtain ⟨h1, h2, h3, h4, -⟩ := h
  unfold fok at hb ⊢
  rw [h1, h3]
  exact hb
/-- rows, columns, feed, slack, sights; fog, lamps, wants, the sights' cells and numbers -/
abbrev Dat : Type := Nat × Nat × Int × Int × Nat × (Nat → Int) × (Nat → Int) × (Nat → Int) × (Nat → Int) × (Nat → Int)
def dR (d : Dat) : Nat := d.1
def dC (d : Dat) : Nat := d.2.1
def dfe (d : Dat) : Int := d.2.2.1
def dsl (d : Dat) : Int := d.2.2.2.1
def dsi (d : Dat) : Nat := d.2.2.2.2.1
def dt (d : Dat) : Nat → Int := d.2.2.2.2.2.1
def dla (d : Dat) : Nat → Int := d.2.2.2.2.2.2.1
def dwa (d : Dat) : Nat → Int := d.2.2.2.2.2.2.2.1
def dsc (d : Dat) : Nat → Int := d.2.2.2.2.2.2.2.2.1
def dsn (d : Dat) : Nat → Int := d.2.2.2.2.2.2.2.2.2
def dn_ (d : Dat) : Nat := dR d * dC d
def setT (d : Dat) (t : Nat → Int) : Dat := (dR d, dC d, dfe d, dsl d, dsi d, t, dla d, dwa d, dsc d, dsn d)
def setL (d : Dat) (la : Nat → Int) : Dat := (dR d, dC d, dfe d, dsl d, dsi d, dt d, la, dwa d, dsc d, dsn d)
def dme (d : Dat) : Nat → Int := upto (dR d * dC d) (mlt (dR d) (dC d) (dla d)) (fun _ => 0)
def zr (n : Nat) (f : Nat → Int) : Prop := ∀ i, n ≤ i → f i = 0
def okd (d : Dat) : Prop := (1 ≤ dR d ∧ dR d ≤ 4 ∧ 1 ≤ dC d ∧ dC d ≤ 6) ∧ (1 ≤ dfe d ∧ dfe d ≤ 5) ∧ (0 ≤ dsl d ∧ dsl d ≤ 3) ∧ dsi d ≤ 8 ∧ tk (dt d) ∧ lam (dla d) ∧ wan (dwa d) ∧
  zr (dn_ d) (dt d) ∧ zr (dn_ d) (dla d) ∧ zr 96 (dwa d) ∧ zr 8 (dsc d) ∧ zr 8 (dsn d) ∧ (∀ s c, s < 4 → dn_ d ≤ c → c < 24 → dwa d (s * 24 + c) = -1) ∧ (∀ i, i < dsi d → (0 ≤ dsc d i ∧ dsc d i < dn_ d) ∧ (0 ≤ dsn d i ∧ dsn d i ≤ 9))
def rep (σ : St) (b : Nat) (d : Dat) : Prop := bsh σ b ∧ dim σ b (dR d) (dC d) ∧ gt σ b 3 = dfe d ∧ gt σ b 4 = dsl d ∧ gt σ b 5 = (dsi d : Int) ∧ gt σ (b + 1) = dt d ∧ gt σ (b + 2) = dla d ∧ gt σ (b + 3) = dme d ∧ gt σ (b + 5) = dwa d ∧ gt σ (b + 6) = dsc d ∧ gt σ (b + 7) = dsn d
theorem mlt_bd {R C : Nat} {la : Nat → Int} (h : lam la) (c : Nat) : 0 ≤ mlt R C la c ∧ mlt R C la c ≤ 2 := by
  have hn : 0 ≤ nea R C la ((c / C : Nat) : Int) ((c % C : Nat) : Int) := by
    have n1 := (lv_lam h (cat R C (((c / C : Nat) : Int) - 1) ((c % C : Nat) : Int))).1
    have n2 := (lv_lam h (cat R C (((c / C : Nat) : Int) + 1) ((c % C : Nat) : Int))).1
    have n3 := (lv_lam h (cat R C ((c / C : Nat) : Int) (((c % C : Nat) : Int) - 1))).1
    have n4 := (lv_lam h (cat R C ((c / C : Nat) : Int) (((c % C : Nat) : Int) + 1))).1
    unfold nea
    omega
  unfold mlt mrk
  generalize nea R C la ((c / C : Nat) : Int) ((c % C : Nat) : Int) = N at *
  split
  · omega
  · split <;> omega
theorem mo2_dme {d : Dat} (h : okd d) : mo2 (dme d) := by
  intro c _
  unfold dme upto
  split
  · exact mlt_bd h.2.2.2.2.2.1 c
  · show (0 : Int) ≤ 0 ∧ (0 : Int) ≤ 2
    omega
def pas (d : Dat) (h : Int) : Dat := setT d (psm (dR d) (dC d) (dfe d) (dme d) h (dt d))
theorem zr_psm {d : Dat} (h : okd d) (q : Int) : zr (dn_ d) (psm (dR d) (dC d) (dfe d) (dme d) q (dt d)) := by
  obtain ⟨⟨r1, r4, c1, c6⟩, -, -, -, -, -, -, z1, -⟩ := h
  have hle : dR d * dC d ≤ 24 := Nat.le_trans (Nat.mul_le_mul r4 c6) (by decide)
  have zm : zr (dn_ d) (melt1 (dR d) (dC d) (dme d) (dt d)) := by
    intro i hi
    unfold melt1 upto
    rw [if_neg (by unfold dn_ at hi; omega)]
    exact z1 i hi
  have zb : ∀ (dn on : Int) (w : Nat → Int) (n : Nat), n ≤ dR d * dC d → ∀ t, zr (dn_ d) t → zr (dn_ d) (blo (dR d) (dC d) dn on w n t) := by
    intro dn on w n
    induction n with
    | zero => intro _ t ht; exact ht
    | succ n ih =>
      intro hn t ht i hi
      have h1 := ih (by omega) t ht i hi
      unfold blo brk
      have hne : i ≠ n / dC d * dC d + n % dC d := by
        have := Nat.div_add_mod n (dC d)
        rw [Nat.mul_comm] at this
        unfold dn_ at hi
        omega
      have hcc := cat_cases (dR d) (dC d) (((n / dC d : Nat) : Int) + dn) (((n % dC d : Nat) : Int) + on) hle
      try dsimp only
      split
      · split
        · unfold ru; rw [if_neg hne]; exact h1
        · exact h1
      · next hc =>
        split
        · rcases hcc with e | ⟨j, hj, e⟩
          · exact absurd e hc
          · rw [e, Int.toNat_natCast]
            unfold ru
            rw [if_neg (by unfold dn_ at hi; omega), if_neg hne]
            exact h1
        · exact h1
  unfold psm
  split
  · intro i hi
    unfold riv
    rw [if_neg (by unfold dn_ at hi; omega)]
    exact zm i hi
  · split
    · exact zm
    · exact zb _ _ _ _ (Nat.le_refl _) _ zm
set_option maxRecDepth 100000 in
set_option maxHeartbeats 4000000 in
theorem c_passR {σ : St} {b : Nat} {d : Dat} (hr : rep σ b d) (hok : okd d) {h : Int} (h0 : 0 ≤ h) (h5 : h ≤ 5) : ∃ σ', run 30 0 [vR b, vI h, vU, vU] [] σ = some (vU, σ') ∧ chg [b + 1, b + 4] σ σ' ∧ rep σ' b (pas d h) := by
  have hm := mo2_dme hok
  obtain ⟨hb, hd, e3, e4, e5, et, el, em, ew, es, en⟩ := hr
  obtain ⟨w, e⟩ := c_pass hb hd (by rw [et]; exact hok.2.2.2.2.1) (by rw [em]; exact hm) (by rw [e3]; exact hok.2.1) h0 h5
  refine ⟨_, e, chg_sr (chg_sr (chg_rf _ _) (by simp)) (by simp), hb, dim_stw hd, ?_⟩
  simp only [gt_stw, ne_a, ne_b, ne_c, ↓reduceIte, Nat.reduceEqDiff, e3, e4, e5, et, el, em, ew, es, en]
  exact ⟨rfl, rfl, rfl, rfl, rfl, rfl, rfl, rfl, rfl⟩
