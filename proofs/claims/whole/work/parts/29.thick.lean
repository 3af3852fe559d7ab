/-! thickness stays from 0 to 9 -/
theorem cat_val {R C : Nat} {r k : Int} {j : Nat} (h : cat R C r k = (j : Int)) : (j : Int) = r * C + k := by
  unfold cat at h
  split at h
  · exact h.symm
  · omega
theorem cat_inj {R C u v : Nat} {dn on : Int} {j : Nat} (hu : cat R C (((u / C : Nat) : Int) + dn) (((u % C : Nat) : Int) + on) = (j : Int)) (hv : cat R C (((v / C : Nat) : Int) + dn) (((v % C : Nat) : Int) + on) = (j : Int)) : u = v := by
  have h1 := cat_val hu
  have h2 := cat_val hv
  rw [Int.add_mul] at h1 h2
  have e1 : ((u / C : Nat) : Int) * (C : Int) + ((u % C : Nat) : Int) = (u : Int) := by
    rw [← Int.natCast_mul, ← Int.natCast_add, Nat.mul_comm, Nat.div_add_mod]
  have e2 : ((v / C : Nat) : Int) * (C : Int) + ((v % C : Nat) : Int) = (v : Int) := by
    rw [← Int.natCast_mul, ← Int.natCast_add, Nat.mul_comm, Nat.div_add_mod]
  generalize ((u / C : Nat) : Int) * (C : Int) = a1 at *
  generalize ((v / C : Nat) : Int) * (C : Int) = a2 at *
  generalize ((u % C : Nat) : Int) = a3 at *
  generalize ((v % C : Nat) : Int) = a4 at *
  generalize dn * (C : Int) = a5 at *
  omega
/-- what has become of a cell of thickness x when n cells have blown: a (it gave), b (it got) -/
def bst (R C : Nat) (dn on : Int) (w : Nat → Int) (n : Nat) (t : Nat → Int) (c : Nat) : Prop :=
  ∃ a b : Int, t c = w c - a + b ∧ (a = 0 ∨ (a = 1 ∧ 1 ≤ w c ∧ c < n)) ∧ (b = 0 ∨ (b = 1 ∧ w c ≤ 8 ∧ ∃ u, u < n ∧ cat R C (((u / C : Nat) : Int) + dn) (((u % C : Nat) : Int) + on) = (c : Int)))
theorem bst_mono {R C : Nat} {dn on : Int} {w : Nat → Int} {n : Nat} {t t' : Nat → Int} {c : Nat} (h : bst R C dn on w n t c) (e : t' c = t c) : bst R C dn on w (n + 1) t' c := by
  obtain ⟨a, b, h1, h2, h3⟩ := h
  refine ⟨a, b, by rw [e]; exact h1, h2.imp id (fun h => ⟨h.1, h.2.1, by omega⟩), h3.imp id (fun h => ⟨h.1, h.2.1, ?_⟩)⟩
  obtain ⟨u, hu, e2⟩ := h.2.2
  exact ⟨u, by omega, e2⟩
theorem blo_bst {R C : Nat} (hR : R * C ≤ 24) {dn on : Int} {w : Nat → Int} (hw : tk w) : ∀ n, n ≤ R * C → ∀ c, c < 24 → bst R C dn on w n (blo R C dn on w n w) c := by
  intro n
  induction n with
  | zero => intro _ c _; exact ⟨0, 0, by unfold blo; omega, Or.inl rfl, Or.inl rfl⟩
  | succ n ih =>
    intro hn c hc
    have hi := ih (by omega)
    have en : n / C * C + n % C = n := by rw [Nat.mul_comm]; exact Nat.div_add_mod n C
    have hself := hi n (by omega)
    unfold blo brk
    rw [en]
    generalize blo R C dn on w n w = t at *
    have hcc := cat_cases R C (((n / C : Nat) : Int) + dn) (((n % C : Nat) : Int) + on) hR
    try dsimp only
    have self : ∀ t', t' n = t n - 1 → 1 ≤ w n → bst R C dn on w (n + 1) t' n := by
      intro t' e1 e2
      obtain ⟨a, b, h1, h2, h3⟩ := hself
      rcases h2 with h2 | ⟨-, -, h2⟩
      · refine ⟨1, b, by omega, Or.inr ⟨rfl, e2, by omega⟩, h3.imp id (fun h => ⟨h.1, h.2.1, ?_⟩)⟩
        obtain ⟨u, hu, e2⟩ := h.2.2
        exact ⟨u, by omega, e2⟩
      · omega
    rcases hcc with e | ⟨j, hj, e⟩
    · rw [if_pos e]
      by_cases h : 0 < w n
      · rw [if_pos h]
        by_cases e2 : c = n
        · subst e2
          exact self _ (by unfold ru; rw [if_pos rfl]) (by omega)
        · exact bst_mono (hi c hc) (by unfold ru; rw [if_neg e2])
      · rw [if_neg h]
        exact bst_mono (hi c hc) rfl
    · rw [if_neg (by omega), e, lv_N (by omega), Int.toNat_natCast]
      by_cases h : w j < w n
      · rw [if_pos h]
        have hjn : j ≠ n := fun q => by rw [q] at h; omega
        have hwj := hw j (by omega)
        have hwn := hw n (by omega)
        by_cases e2 : c = j
        · subst e2
          obtain ⟨a, b, h1, h2, h3⟩ := hi c hc
          have hb0 : b = 0 := by
            rcases h3 with h3 | ⟨-, -, u, hu, e3⟩
            · exact h3
            · have := cat_inj e3 e
              omega
          refine ⟨a, 1, ?_, h2.imp id (fun h => ⟨h.1, h.2.1, by omega⟩), Or.inr ⟨rfl, by omega, n, by omega, e⟩⟩
          unfold ru
          rw [if_pos rfl, if_neg hjn]
          omega
        · by_cases e3 : c = n
          · subst e3
            exact self _ (by unfold ru; rw [if_neg e2, if_pos rfl]) (by omega)
          · exact bst_mono (hi c hc) (by unfold ru; rw [if_neg e2, if_neg e3])
      · rw [if_neg h]
        exact bst_mono (hi c hc) rfl
theorem tk_psm {d : Dat} (h : okd d) (q : Int) : tk (psm (dR d) (dC d) (dfe d) (dme d) q (dt d)) := by
  have hm := mo2_dme h
  obtain ⟨⟨r1, r4, c1, c6⟩, hfe, -, -, ht, -⟩ := h
  have hle : dR d * dC d ≤ 24 := Nat.le_trans (Nat.mul_le_mul r4 c6) (by decide)
  have h1 : tk (melt1 (dR d) (dC d) (dme d) (dt d)) := tk_melt ht hm
  unfold psm
  split
  · intro c hc
    have h2 := h1 c hc
    unfold riv mi9
    split
    · split <;> omega
    · exact h2
  · split
    · exact h1
    · intro c hc
      obtain ⟨a, b, e, h2, h3⟩ := blo_bst hle h1 (dn := dnI q) (on := onI q) _ (Nat.le_refl _) c hc
      have h4 := h1 c hc
      rw [e]
      rcases h2 with h2 | ⟨h2, h5, -⟩ <;> rcases h3 with h3 | ⟨h3, h6, -⟩ <;> omega
theorem ok_pas {d : Dat} (h : okd d) (q : Int) : okd (pas d q) :=
  ⟨h.1, h.2.1, h.2.2.1, h.2.2.2.1, tk_psm h q, h.2.2.2.2.2.1, h.2.2.2.2.2.2.1, zr_psm h q, h.2.2.2.2.2.2.2.2⟩
