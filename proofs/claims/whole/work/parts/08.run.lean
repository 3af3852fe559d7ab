/-! RUNS: how the fuel goes away -/
theorem ck_some {c : Prop} {x : Res} {r : AV × St} : ck c x = some r ↔ c ∧ x = some r := by
  unfold ck
  by_cases h : c
  · rw [if_pos h]; exact ⟨fun e => ⟨h, e⟩, fun e => e.2⟩
  · rw [if_neg h]; exact ⟨fun e => (by cases e), fun e => absurd e.1 h⟩
theorem bnd_some {o : Res} {f : AV → St → Res} {r : AV × St} : bnd o f = some r ↔ ∃ q, o = some q ∧ f q.1 q.2 = some r := by
  cases o with
  | none => exact ⟨fun e => (by cases e), fun ⟨q, e, _⟩ => (by cases e)⟩
  | some q => exact ⟨fun e => ⟨q, rfl, e⟩, fun ⟨q', e, h⟩ => by cases e; exact h⟩
set_option maxHeartbeats 4000000 in
theorem stp_mono {k k' : Nat → Nat → List AV → List AV → St → Res} (h : ∀ M pc ls st σ r, k M pc ls st σ = some r → k' M pc ls st σ = some r) (e : Ent) (M : Nat) (ls st : List AV) (σ : St) (r : AV × St) :
    stp k e M ls st σ = some r → stp k' e M ls st σ = some r := by
  obtain ⟨op, a, b, nx, ts⟩ := e
  unfold stp
  dsimp only
  split
  all_goals try (intro hh; exact h _ _ _ _ _ _ hh)
  all_goals try (split <;> first | (intro hh; exact h _ _ _ _ _ _ hh) | (intro hh; cases hh; done) | (intro hh; exact hh) | (intro hh; obtain ⟨h1, h2⟩ := ck_some.mp hh; exact ck_some.mpr ⟨h1, h _ _ _ _ _ _ h2⟩) | (split <;> first | (intro hh; exact h _ _ _ _ _ _ hh) | (intro hh; cases hh; done) | (intro hh; exact hh)))
  all_goals try (intro hh; obtain ⟨h1, h2⟩ := ck_some.mp hh; obtain ⟨q, h3, h4⟩ := bnd_some.mp h2; exact ck_some.mpr ⟨h1, bnd_some.mpr ⟨q, h _ _ _ _ _ _ h3, h _ _ _ _ _ _ h4⟩⟩)
  intro hh; exact hh
theorem ex_succ {n M pc : Nat} {ls st : List AV} {σ : St} {r : AV × St} : ex n M pc ls st σ = some r → ex (n + 1) M pc ls st σ = some r := by
  induction n generalizing M pc ls st σ r with
  | zero => intro h; cases h
  | succ n ih => intro h; exact stp_mono (k := ex n) (k' := ex (n + 1)) (fun M pc ls st σ r hh => ih hh) _ _ _ _ _ _ h
theorem ex_le {n m M pc : Nat} {ls st : List AV} {σ : St} {r : AV × St} (hm : n ≤ m) (h : ex n M pc ls st σ = some r) : ex m M pc ls st σ = some r := by
  induction m with
  | zero => cases Nat.le_zero.mp hm; exact h
  | succ m ih =>
    by_cases e : n = m + 1
    · rw [← e]; exact h
    · exact ex_succ (ih (by omega))
/-- the run itself, as much fuel as it takes -/
noncomputable def run (M pc : Nat) (ls st : List AV) (σ : St) : Res :=
  @dite _ (∃ n, (ex n M pc ls st σ).isSome = true) (Classical.propDecidable _) (fun h => ex (Classical.choose h) M pc ls st σ) (fun _ => none)
theorem run_some {M pc : Nat} {ls st : List AV} {σ : St} {r : AV × St} : run M pc ls st σ = some r ↔ ∃ n, ex n M pc ls st σ = some r := by
  unfold run
  by_cases h : ∃ n, (ex n M pc ls st σ).isSome = true
  · rw [dif_pos h]
    have h1 := Classical.choose_spec h
    refine ⟨fun e => ⟨_, e⟩, fun ⟨n, hn⟩ => ?_⟩
    obtain ⟨r', hr'⟩ := Option.isSome_iff_exists.mp h1
    rw [hr']
    have e1 := ex_le (Nat.le_max_left n (Classical.choose h)) hn
    have e2 := ex_le (Nat.le_max_right n (Classical.choose h)) hr'
    rw [← e1, ← e2]
  · rw [dif_neg h]
    refine ⟨fun e => (by cases e), fun ⟨n, hn⟩ => absurd ⟨n, by rw [hn]; rfl⟩ h⟩
set_option maxHeartbeats 4000000 in
/-- what one step with the whole run does, some fuel does -/
theorem stp_fin (e : Ent) (M : Nat) (ls st : List AV) (σ : St) (r : AV × St) :
    stp run e M ls st σ = some r → ∃ n, stp (ex n) e M ls st σ = some r := by
  obtain ⟨op, a, b, nx, ts⟩ := e
  unfold stp
  dsimp only
  split
  all_goals try (intro hh; obtain ⟨n, hn⟩ := run_some.mp hh; exact ⟨n, hn⟩)
  all_goals try (split <;> first | (intro hh; obtain ⟨n, hn⟩ := run_some.mp hh; exact ⟨n, hn⟩) | (intro hh; cases hh; done) | (intro hh; exact ⟨0, hh⟩) | (intro hh; obtain ⟨h1, h2⟩ := ck_some.mp hh; obtain ⟨n, hn⟩ := run_some.mp h2; exact ⟨n, ck_some.mpr ⟨h1, hn⟩⟩) | (split <;> first | (intro hh; obtain ⟨n, hn⟩ := run_some.mp hh; exact ⟨n, hn⟩) | (intro hh; cases hh; done) | (intro hh; exact ⟨0, hh⟩)))
  all_goals try (intro hh; obtain ⟨h1, h2⟩ := ck_some.mp hh; obtain ⟨q, h3, h4⟩ := bnd_some.mp h2; obtain ⟨n1, e1⟩ := run_some.mp h3; obtain ⟨n2, e2⟩ := run_some.mp h4; exact ⟨max n1 n2, ck_some.mpr ⟨h1, bnd_some.mpr ⟨q, ex_le (Nat.le_max_left _ _) e1, ex_le (Nat.le_max_right _ _) e2⟩⟩⟩)
  intro hh; exact ⟨0, hh⟩
/-- a run's first step -/
theorem run_eq (M pc : Nat) (ls st : List AV) (σ : St) : run M pc ls st σ = stp run (cd M pc) M ls st σ := by
  have h1 : ∀ r, run M pc ls st σ = some r ↔ stp run (cd M pc) M ls st σ = some r := by
    intro r
    refine ⟨fun h => ?_, fun h => ?_⟩
    · obtain ⟨n, hn⟩ := run_some.mp h
      have h2 := ex_succ hn
      exact stp_mono (fun M pc ls st σ r h => run_some.mpr ⟨n, h⟩) _ _ _ _ _ _ h2
    · obtain ⟨n, hn⟩ := stp_fin _ _ _ _ _ _ h
      exact run_some.mpr ⟨n + 1, hn⟩
  cases e : stp run (cd M pc) M ls st σ with
  | some r => exact (h1 r).mpr e
  | none =>
    cases e2 : run M pc ls st σ with
    | none => rfl
    | some r => rw [(h1 r).mp e2] at e; cases e
