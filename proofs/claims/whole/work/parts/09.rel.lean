/-! THE STORE AND THE HEAP -/
def ar (adl : List Nat) (bS : Nat) (t : AV) (v : Value) : Prop := match t with
  | (0, z, _) => ∃ x : Int32, v = .int x ∧ x.toInt = z
  | (1, _, k) => (k = 0 ∧ v = .null) ∨ ∃ a, 1 ≤ k ∧ adl[k - 1]? = some a ∧ v = .ref a
  | (2, z, _) => ∃ x : Int64, v = .long x ∧ x.toInt = z
  | (5, _, _) => v = .ref bS
  | _ => False
theorem pre_get {adl adl' : List Nat} (h : ∃ x, adl' = adl ++ x) {k a : Nat} (hk : adl[k]? = some a) : adl'[k]? = some a := by
  obtain ⟨x, rfl⟩ := h
  rw [List.getElem?_append_left (List.getElem?_eq_some_iff.mp hk).1]
  exact hk
theorem ar_pre {adl adl' : List Nat} {bS : Nat} (h : ∃ x, adl' = adl ++ x) {t : AV} {v : Value} (ha : ar adl bS t v) : ar adl' bS t v := by
  obtain ⟨g, z, k⟩ := t
  unfold ar at ha ⊢
  split at ha
  · exact ha
  · rcases ha with ha | ⟨a, h1, h2, h3⟩
    · exact Or.inl ha
    · exact Or.inr ⟨a, h1, pre_get h h2, h3⟩
  · exact ha
  · exact ha
  · exact ha.elim
/-- the claimed locals -/
def lr (adl : List Nat) (bS nL : Nat) (l : List AV) (als : Array Slot) : Prop := als.size = nL ∧ lv_wf als ∧ l.length = nL ∧ ∀ (i : Nat) (t : AV), l[i]? = some t → (t.1 = 0 ∨ t.1 = 1 ∨ t.1 = 5 ∨ (t.1 = 2 ∧ l[i + 1]? = some vH)) → ∃ v, als[i]? = some (.val v) ∧ ar adl bS t v
theorem lr_pre {adl adl' : List Nat} {bS nL : Nat} (h : ∃ x, adl' = adl ++ x) {l : List AV} {als : Array Slot} (hl : lr adl bS nL l als) : lr adl' bS nL l als :=
  ⟨hl.1, hl.2.1, hl.2.2.1, fun i t hi ht => by obtain ⟨v, h1, h2⟩ := hl.2.2.2 i t hi ht; exact ⟨v, h1, ar_pre h h2⟩⟩
def st2 (adl : List Nat) (bS : Nat) : List AV → List Value → Prop
  | [], [] => True
  | t :: ts, v :: vs => ar adl bS t v ∧ st2 adl bS ts vs
  | _, _ => False
theorem st2_cons {adl : List Nat} {bS : Nat} {t : AV} {ts : List AV} {vs : List Value} (h : st2 adl bS (t :: ts) vs) : ∃ v vs', vs = v :: vs' ∧ ar adl bS t v ∧ st2 adl bS ts vs' := by
  cases vs with
  | nil => exact h.elim
  | cons v vs => exact ⟨v, vs, rfl, h.1, h.2⟩
theorem st2_nil {adl : List Nat} {bS : Nat} {vs : List Value} (h : st2 adl bS [] vs) : vs = [] := by
  cases vs with
  | nil => rfl
  | cons v vs => exact h.elim
theorem st2_pre {adl adl' : List Nat} {bS : Nat} (h : ∃ x, adl' = adl ++ x) : ∀ {ts : List AV} {vs : List Value}, st2 adl bS ts vs → st2 adl' bS ts vs
  | [], [], _ => trivial
  | _ :: _, _ :: _, hs => ⟨ar_pre h hs.1, st2_pre h hs.2⟩
  | [], _ :: _, hs => hs.elim
  | _ :: _, [], hs => hs.elim
theorem st2_len {adl : List Nat} {bS : Nat} : ∀ {ts : List AV} {vs : List Value}, st2 adl bS ts vs → vs.length = ts.length
  | [], [], _ => rfl
  | _ :: _, _ :: _, hs => by simp [st2_len hs.2]
  | [], _ :: _, hs => hs.elim
  | _ :: _, [], hs => hs.elim
theorem st2_take {adl : List Nat} {bS : Nat} : ∀ {ts : List AV} {vs : List Value} (n : Nat), st2 adl bS ts vs → st2 adl bS (ts.take n) (vs.take n)
  | [], [], n, _ => by simp [st2]
  | _ :: _, _ :: _, 0, _ => by simp [st2]
  | _ :: _, _ :: _, n + 1, hs => ⟨hs.1, st2_take n hs.2⟩
  | [], _ :: _, _, hs => hs.elim
  | _ :: _, [], _, hs => hs.elim
theorem st2_drop {adl : List Nat} {bS : Nat} : ∀ {ts : List AV} {vs : List Value} (n : Nat), st2 adl bS ts vs → st2 adl bS (ts.drop n) (vs.drop n)
  | [], [], n, _ => by simp [st2]
  | _ :: _, _ :: _, 0, hs => hs
  | _ :: _, _ :: _, n + 1, hs => st2_drop n hs.2
  | [], _ :: _, _, hs => hs.elim
  | _ :: _, [], _, hs => hs.elim
theorem st2_app {adl : List Nat} {bS : Nat} {us : List AV} {ws : List Value} (h2 : st2 adl bS us ws) : ∀ {ts : List AV} {vs : List Value}, st2 adl bS ts vs → st2 adl bS (ts ++ us) (vs ++ ws)
  | [], [], _ => h2
  | _ :: _, _ :: _, hs => ⟨hs.1, st2_app h2 hs.2⟩
  | [], _ :: _, hs => hs.elim
  | _ :: _, [], hs => hs.elim
theorem st2_rev {adl : List Nat} {bS : Nat} : ∀ {ts : List AV} {vs : List Value}, st2 adl bS ts vs → st2 adl bS ts.reverse vs.reverse
  | [], [], _ => trivial
  | t :: ts, v :: vs, hs => by
    rw [List.reverse_cons, List.reverse_cons]
    exact st2_app (us := [t]) (ws := [v]) ⟨hs.1, trivial⟩ (st2_rev hs.2)
  | [], _ :: _, hs => hs.elim
  | _ :: _, [], hs => hs.elim
theorem st2_get {adl : List Nat} {bS : Nat} : ∀ {ts : List AV} {vs : List Value}, st2 adl bS ts vs → ∀ (i : Nat) (t : AV), ts[i]? = some t → ∃ v, vs[i]? = some v ∧ ar adl bS t v
  | [], [], _, i, t, h => by simp at h
  | _ :: _, v :: _, hs, 0, t, h => by
    simp only [List.getElem?_cons_zero, Option.some.injEq] at h
    subst h
    exact ⟨v, rfl, hs.1⟩
  | _ :: _, _ :: _, hs, i + 1, t, h => by
    simp only [List.getElem?_cons_succ] at h ⊢
    exact st2_get hs.2 i t h
  | [], _ :: _, hs, _, _, _ => hs.elim
  | _ :: _, [], hs, _, _, _ => hs.elim
/-- a cell -/
def cr (adl : List Nat) (bS cI cZ cO kd sz : Nat) (ri : Nat → Int) (rf : Nat → Nat) (e : va_E) : Prop :=
  (kd < 4 ∧ sz = cN kd ∧ ∃ fs : List Value, e = .inr (kd, fs) ∧ fs.length = sz ∧ ∀ j, j < sz → ∃ v, fs[j]? = some v ∧ ar adl bS (if isr kd j = true then vR (rf j) else vI (ri j)) v) ∨
  (kd = 4 ∧ sz ≤ 1000 ∧ ∃ f : Nat → Int32, e = .inl (cI, sz, .inl f) ∧ ∀ j, j < sz → (f j).toInt = ri j) ∨
  (kd = 5 ∧ sz ≤ 1000 ∧ ∃ f : Nat → Int32, e = .inl (cZ, sz, .inl f) ∧ ∀ j, j < sz → (f j).toInt = ri j) ∨
  (kd = 6 ∧ sz ≤ 1000 ∧ ∃ f : Nat → Option Nat, e = .inl (cO, sz, .inr (.inr (.inr (.inr f)))) ∧ ∀ j, j < sz → (rf j = 0 ∧ f j = none) ∨ ∃ a, 1 ≤ rf j ∧ adl[rf j - 1]? = some a ∧ f j = some a)
theorem cr_pre {adl adl' : List Nat} {bS cI cZ cO kd sz : Nat} {ri : Nat → Int} {rf : Nat → Nat} {e : va_E} (h : ∃ x, adl' = adl ++ x) (hc : cr adl bS cI cZ cO kd sz ri rf e) : cr adl' bS cI cZ cO kd sz ri rf e := by
  rcases hc with ⟨h1, h2, fs, h3, h4, h5⟩ | hc | hc | ⟨h1, h2, f, h3, h4⟩
  · exact Or.inl ⟨h1, h2, fs, h3, h4, fun j hj => by obtain ⟨v, a, b⟩ := h5 j hj; exact ⟨v, a, ar_pre h b⟩⟩
  · exact Or.inr (Or.inl hc)
  · exact Or.inr (Or.inr (Or.inl hc))
  · refine Or.inr (Or.inr (Or.inr ⟨h1, h2, f, h3, fun j hj => ?_⟩))
    rcases h4 j hj with a | ⟨a, b, c, d⟩
    · exact Or.inl a
    · exact Or.inr ⟨a, b, pre_get h c, d⟩
def wd (adl : List Nat) (bS cI cZ cO : Nat) (σ : St) (ws : va_W) : Prop := ws.length = nn σ ∧ adl.length = nn σ ∧ ∀ k, k < nn σ → ∃ a e, adl[k]? = some a ∧ ws[k]? = some (a, e) ∧ cr adl bS cI cZ cO (sk σ (k + 1)).1 (sk σ (k + 1)).2 (gt σ (k + 1)) (gr σ (k + 1)) e
/-- one cell anew -/
theorem wd_set {adl : List Nat} {bS cI cZ cO : Nat} {σ σ1 : St} {ws : va_W} (h : wd adl bS cI cZ cO σ ws) {q a : Nat} {e : va_E} (hq : 1 ≤ q) (hqn : q ≤ nn σ) (ha : adl[q - 1]? = some a) (hn : nn σ1 = nn σ) (hs : sk σ1 = sk σ)
    (hg : ∀ i, i ≠ q → gt σ1 i = gt σ i) (hr : ∀ i, i ≠ q → gr σ1 i = gr σ i) (hc : cr adl bS cI cZ cO (sk σ q).1 (sk σ q).2 (gt σ1 q) (gr σ1 q) e) : wd adl bS cI cZ cO σ1 (ws.set (q - 1) (a, e)) := by
  obtain ⟨h1, h2, h3⟩ := h
  refine ⟨by rw [List.length_set, h1, hn], by rw [h2, hn], fun k hk => ?_⟩
  rw [hn] at hk
  rw [hs]
  by_cases e1 : k = q - 1
  · subst e1
    have e2 : q - 1 + 1 = q := by omega
    rw [e2]
    exact ⟨a, e, ha, by rw [List.getElem?_set_self (by omega)], hc⟩
  · obtain ⟨a', e', g1, g2, g3⟩ := h3 k hk
    have e2 : k + 1 ≠ q := by omega
    exact ⟨a', e', g1, by rw [List.getElem?_set_ne (by omega)]; exact g2, by rw [hg _ e2, hr _ e2]; exact g3⟩
/-- one cell more -/
theorem wd_push {adl : List Nat} {bS cI cZ cO : Nat} {σ : St} {ws : va_W} (h : wd adl bS cI cZ cO σ ws) {a : Nat} {e : va_E} {kd sz : Nat} (hc : cr adl bS cI cZ cO kd sz (fun _ => 0) (fun _ => 0) e) : wd (adl ++ [a]) bS cI cZ cO (al σ kd sz) (ws ++ [(a, e)]) := by
  obtain ⟨h1, h2, h3⟩ := h
  have hnn : nn (al σ kd sz) = nn σ + 1 := rfl
  refine ⟨by rw [List.length_append, h1, hnn]; rfl, by rw [List.length_append, h2, hnn]; rfl, fun k hk => ?_⟩
  rw [hnn] at hk
  have e0 : sk (al σ kd sz) (k + 1) = if k + 1 = nn σ + 1 then (kd, sz) else sk σ (k + 1) := rfl
  have e1 : gt (al σ kd sz) (k + 1) = if k + 1 = nn σ + 1 then (fun _ => 0) else gt σ (k + 1) := rfl
  have e2 : gr (al σ kd sz) (k + 1) = if k + 1 = nn σ + 1 then (fun _ => 0) else gr σ (k + 1) := rfl
  by_cases hx : k = nn σ
  · subst hx
    rw [e0, e1, e2, if_pos rfl, if_pos rfl, if_pos rfl]
    exact ⟨a, e, by rw [List.getElem?_append_right (by omega), h2]; simp, by rw [List.getElem?_append_right (by omega), h1]; simp, cr_pre ⟨_, rfl⟩ hc⟩
  · rw [e0, e1, e2, if_neg (by omega), if_neg (by omega), if_neg (by omega)]
    obtain ⟨a', e', g1, g2, g3⟩ := h3 k (by omega)
    exact ⟨a', e', by rw [List.getElem?_append_left (by omega)]; exact g1, by rw [List.getElem?_append_left (by omega)]; exact g2, cr_pre ⟨_, rfl⟩ g3⟩
theorem wd_at {adl : List Nat} {bS cI cZ cO : Nat} {σ : St} {ws : va_W} (h : wd adl bS cI cZ cO σ ws) {q kd : Nat} (hf : fok σ q kd) : ∃ a e, adl[q - 1]? = some a ∧ ws[q - 1]? = some (a, e) ∧ cr adl bS cI cZ cO kd (sk σ q).2 (gt σ q) (gr σ q) e := by
  obtain ⟨h1, h2, h3⟩ := hf
  obtain ⟨a, e, g1, g2, g3⟩ := h.2.2 (q - 1) (by omega)
  rw [show q - 1 + 1 = q by omega, h3] at g3
  exact ⟨a, e, g1, g2, g3⟩
/-! locals: a value stored -/
def lvl (als : Array Slot) : List (Nat × Value) := (List.range als.size).filterMap fun i => match (als[i]? : Option Slot) with
  | some (Slot.val v) => some (i, v)
  | _ => none
theorem lvl_mem {als : Array Slot} {i : Nat} {v : Value} : (i, v) ∈ lvl als ↔ als[i]? = some (.val v) := by
  unfold lvl
  rw [List.mem_filterMap]
  constructor
  · rintro ⟨j, hj, h⟩
    split at h
    · next w hw => cases h; exact hw
    · cases h
  · intro h
    exact ⟨i, List.mem_range.mpr (lv_lt h), by rw [h]⟩
theorem lvl_has {als : Array Slot} {nL : Nat} (hs : als.size = nL) (hw : lv_wf als) : lv_has als nL (lvl als) := ⟨hs, hw, fun q hq => lvl_mem.mp hq⟩
theorem lr_set1 {adl : List Nat} {bS nL : Nat} {l : List AV} {als als' : Array Slot} {i : Nat} {t : AV} {v : Value} (h : lr adl bS nL l als) (hi : i < nL) (ht : t.1 = 0 ∨ t.1 = 1) (ha : ar adl bS t v)
    (h' : lv_has als' nL ((i, v) :: (lvl als).filter (fun q => !(q.1 == i) && !(q.1 + 1 == i && q.2.category == 2)))) : lr adl bS nL (l.set i t) als' := by
  obtain ⟨h1, h2, h3, h4⟩ := h
  obtain ⟨g1, g2, g3⟩ := h'
  refine ⟨g1, g2, by rw [List.length_set]; exact h3, fun j u hj hu => ?_⟩
  by_cases e : j = i
  · subst e
    rw [List.getElem?_set_self (by omega)] at hj
    cases hj
    exact ⟨v, g3 _ List.mem_cons_self, ha⟩
  · rw [List.getElem?_set_ne (fun q => e q.symm)] at hj
    have hu' : u.1 = 0 ∨ u.1 = 1 ∨ u.1 = 5 ∨ (u.1 = 2 ∧ l[j + 1]? = some vH) := by
      rcases hu with a | a | a | ⟨a, b⟩
      · exact Or.inl a
      · exact Or.inr (Or.inl a)
      · exact Or.inr (Or.inr (Or.inl a))
      · refine Or.inr (Or.inr (Or.inr ⟨a, ?_⟩))
        by_cases e2 : j + 1 = i
        · rw [e2, List.getElem?_set_self (by omega)] at b
          rcases ht with c | c <;> (cases b; cases c)
        · rwa [List.getElem?_set_ne (fun q => e2 q.symm)] at b
    obtain ⟨w, k1, k2⟩ := h4 j u hj hu'
    refine ⟨w, ?_, k2⟩
    refine g3 (j, w) (List.mem_cons_of_mem _ (List.mem_filter.mpr ⟨lvl_mem.mpr k1, ?_⟩))
    have e0 : (j == i) = false := beq_eq_false_iff_ne.mpr e
    have e9 : (j + 1 == i && w.category == 2) = false := by
      by_cases e2 : j + 1 = i
      · have hc : w.category ≠ 2 := by
          obtain ⟨g, z, k⟩ := u
          unfold ar at k2
          rcases hu with a | a | a | ⟨a, b⟩
          · cases a; obtain ⟨x, rfl, -⟩ := k2; show (1 : Nat) ≠ 2; decide
          · cases a
            rcases k2 with ⟨-, rfl⟩ | ⟨a, -, -, rfl⟩ <;> (show (1 : Nat) ≠ 2; decide)
          · cases a; cases k2; show (1 : Nat) ≠ 2; decide
          · rw [e2, List.getElem?_set_self (by omega)] at b
            rcases ht with c | c <;> (cases b; cases c)
        simp [hc]
      · simp [e2]
    simp only [e0, e9]
    rfl
theorem lr_set2 {adl : List Nat} {bS nL : Nat} {l : List AV} {als als' : Array Slot} {i : Nat} {z : Int} {k0 : Nat} {v : Value} (h : lr adl bS nL l als) (hi : i + 1 < nL) (ha : ar adl bS (2, z, k0) v)
    (h' : lv_has als' nL ((i, v) :: (lvl als).filter (fun q => !(q.1 == i) && (!(q.1 == i + 1) && !(q.1 + 1 == i && q.2.category == 2))))) : lr adl bS nL ((l.set i (2, z, k0)).set (i + 1) vH) als' := by
  obtain ⟨h1, h2, h3, h4⟩ := h
  obtain ⟨g1, g2, g3⟩ := h'
  refine ⟨g1, g2, by rw [List.length_set, List.length_set]; exact h3, fun j u hj hu => ?_⟩
  by_cases e : j = i
  · subst e
    rw [List.getElem?_set_ne (by omega), List.getElem?_set_self (by omega)] at hj
    cases hj
    exact ⟨v, g3 _ List.mem_cons_self, ha⟩
  · by_cases e1 : j = i + 1
    · subst e1
      rw [List.getElem?_set_self (by rw [List.length_set]; omega)] at hj
      cases hj
      rcases hu with a | a | a | ⟨a, b⟩ <;> cases a
    · rw [List.getElem?_set_ne (fun q => e1 q.symm), List.getElem?_set_ne (fun q => e q.symm)] at hj
      have hu' : (u.1 = 0 ∨ u.1 = 1 ∨ u.1 = 5 ∨ (u.1 = 2 ∧ l[j + 1]? = some vH)) ∧ (j + 1 = i → u.1 ≠ 2) := by
        rcases hu with a | a | a | ⟨a, b⟩
        · exact ⟨Or.inl a, fun _ q => by rw [a] at q; cases q⟩
        · exact ⟨Or.inr (Or.inl a), fun _ q => by rw [a] at q; cases q⟩
        · exact ⟨Or.inr (Or.inr (Or.inl a)), fun _ q => by rw [a] at q; cases q⟩
        · by_cases e2 : j + 1 = i
          · rw [e2, List.getElem?_set_ne (by omega), List.getElem?_set_self (by omega)] at b
            cases b
          · rw [List.getElem?_set_ne (by omega), List.getElem?_set_ne (fun q => e2 q.symm)] at b
            exact ⟨Or.inr (Or.inr (Or.inr ⟨a, b⟩)), fun q => absurd q e2⟩
      obtain ⟨w, k1, k2⟩ := h4 j u hj hu'.1
      refine ⟨w, ?_, k2⟩
      refine g3 (j, w) (List.mem_cons_of_mem _ (List.mem_filter.mpr ⟨lvl_mem.mpr k1, ?_⟩))
      have e0 : (j == i) = false := beq_eq_false_iff_ne.mpr e
      have e3 : (j == i + 1) = false := beq_eq_false_iff_ne.mpr e1
      have e9 : (j + 1 == i && w.category == 2) = false := by
        by_cases e2 : j + 1 = i
        · have hc : w.category ≠ 2 := by
            have hn2 := hu'.2 e2
            obtain ⟨g, z, k⟩ := u
            unfold ar at k2
            rcases hu'.1 with a | a | a | ⟨a, b⟩
            · cases a; obtain ⟨x, rfl, -⟩ := k2; show (1 : Nat) ≠ 2; decide
            · cases a
              rcases k2 with ⟨-, rfl⟩ | ⟨a, -, -, rfl⟩ <;> (show (1 : Nat) ≠ 2; decide)
            · cases a; cases k2; show (1 : Nat) ≠ 2; decide
            · exact absurd a hn2
          simp [hc]
        · simp [e2]
      simp only [e0, e3, e9]
      rfl
/-- the locals with which a method begins -/
theorem lr_entry {adl : List Nat} {bS : Nat} {as : List AV} {vs : List Value} (h : st2 adl bS as vs) (hc : ∀ t ∈ as, t.1 = 0 ∨ t.1 = 1 ∨ t.1 = 5) {n : Nat} (hn : as.length ≤ n) :
    lr adl bS n (pad as n) ((lg_sl vs ++ List.replicate (n - (lg_sl vs).length) Slot.unset).toArray) := by
  have hcat : ∀ v ∈ vs, v.category = 1 := by
    intro v hv
    obtain ⟨i, hi⟩ := List.getElem?_of_mem hv
    have hl := st2_len h
    have hil : i < as.length := by rw [← hl]; exact (List.getElem?_eq_some_iff.mp hi).1
    have ht : as[i]? = some as[i] := List.getElem?_eq_getElem hil
    obtain ⟨w, h1, h2⟩ := st2_get h i _ ht
    rw [hi] at h1
    cases h1
    have := hc _ (List.mem_of_getElem? ht)
    revert h2 this
    generalize as[i] = t
    obtain ⟨g, z, k⟩ := t
    intro h2 this
    unfold ar at h2
    rcases this with a | a | a <;> cases a
    · obtain ⟨x, rfl, -⟩ := h2; rfl
    · rcases h2 with ⟨-, rfl⟩ | ⟨a, -, -, rfl⟩ <;> rfl
    · cases h2; rfl
  have hsl : ∀ (vs : List Value), (∀ v ∈ vs, v.category = 1) → lg_sl vs = vs.map Slot.val := by
    intro vs
    induction vs with
    | nil => intro _; rfl
    | cons v vs ih =>
      intro h
      have h1 := h v List.mem_cons_self
      have h2 := ih fun w hw => h w (List.mem_cons_of_mem _ hw)
      simp only [lg_sl, List.flatMap_cons, List.map_cons] at h2 ⊢
      rw [h2, if_neg (by rw [h1]; decide)]
      rfl
  have hargs : ∀ (vs : List Value) (k : Nat), (∀ v ∈ vs, v.category = 1) → ∀ (i : Nat) (v : Value), vs[i]? = some v → (k + i, v) ∈ lv_args k vs := by
    intro vs
    induction vs with
    | nil => intro k _ i v h; simp at h
    | cons w vs ih =>
      intro k h i v hi
      have h1 := h w List.mem_cons_self
      unfold lv_args
      rw [if_neg (by rw [h1]; decide)]
      cases i with
      | zero => simp only [List.getElem?_cons_zero, Option.some.injEq] at hi; subst hi; exact List.mem_cons_self
      | succ i =>
        simp only [List.getElem?_cons_succ] at hi
        refine List.mem_cons_of_mem _ ?_
        have := ih (k + 1) (fun w hw => h w (List.mem_cons_of_mem _ hw)) i v hi
        rwa [show k + (i + 1) = k + 1 + i by omega]
  have hl := st2_len h
  have e := lv_entry vs (n := n) (by rw [hsl vs hcat, List.length_map]; omega)
  obtain ⟨e1, e2, e3⟩ := e
  refine ⟨e1, e2, by unfold pad; rw [List.length_append, List.length_replicate]; omega, fun i t hi ht => ?_⟩
  unfold pad at hi
  by_cases hia : i < as.length
  · rw [List.getElem?_append_left hia] at hi
    obtain ⟨v, h1, h2⟩ := st2_get h i t hi
    refine ⟨v, ?_, h2⟩
    have := e3 _ (hargs vs 0 hcat i v h1)
    simpa using this
  · rw [List.getElem?_append_right (by omega)] at hi
    have := List.eq_of_mem_replicate (List.mem_of_getElem? hi)
    subst this
    rcases ht with a | a | a | ⟨a, -⟩ <;> cases a
