/-! FIELDS, ROWS, NEW CELLS -/
theorem inX (k : Nat) (h : k < 4) : ∀ w ∈ u_ws (cR k) (cT k) (cN k), w ∈ gw := by
  match k, h with
  | 0, _ => exact inX0
  | 1, _ => exact inX1
  | 2, _ => exact inX2
  | 3, _ => exact inX3
theorem vwc_at {k : Nat} (h : k < 4) : vwc[k]? = some (cR k, cT k, cN k) := by
  match k, h with
  | 0, _ => rfl
  | 1, _ => rfl
  | 2, _ => rfl
  | 3, _ => rfl
theorem tyX_ok (k : Nat) (h : k < 4) : ∀ j, j < cN k → parseFieldDescriptor (cT k j).2.2.1 = some (cY k j) := by
  match k, h with
  | 0, _ => exact tyX0_ok
  | 1, _ => exact tyX1_ok
  | 2, _ => exact tyX2_ok
  | 3, _ => exact tyX3_ok
theorem nmX (k : Nat) (h : k < 4) : ∀ a, a < cN k → ∀ b, b < cN k → a ≠ b → (cT k a).2.1 ≠ (cT k b).2.1 := by
  match k, h with
  | 0, _ => exact nmX0
  | 1, _ => exact nmX1
  | 2, _ => exact nmX2
  | 3, _ => exact nmX3
def dfl (k : Nat) : List Value := (List.range (cN k)).map fun j => if isr k j = true then .null else .int 0
theorem dfl_ok : ∀ k, k < 4 → ∀ j, j < cN k → defaultValue (cY k j) = vp_V (dfl k) j := by
  intro k hk
  match k, hk with
  | 0, _ => intro j hj; match j, hj with
    | 0, _ => rfl
    | 1, _ => rfl
    | 2, _ => rfl
    | 3, _ => rfl
    | 4, _ => rfl
    | 5, _ => rfl
    | 6, _ => rfl
    | 7, _ => rfl
    | 8, _ => rfl
    | 9, _ => rfl
    | 10, _ => rfl
    | 11, _ => rfl
    | 12, _ => rfl
  | 1, _ => intro j hj; match j, hj with
    | 0, _ => rfl
    | 1, _ => rfl
    | 2, _ => rfl
    | 3, _ => rfl
    | 4, _ => rfl
    | 5, _ => rfl
  | 2, _ => intro j hj; match j, hj with
    | 0, _ => rfl
    | 1, _ => rfl
    | 2, _ => rfl
    | 3, _ => rfl
    | 4, _ => rfl
    | 5, _ => rfl
    | 6, _ => rfl
  | 3, _ =>
    intro j hj
    match j, hj with
    | 0, _ => exact rfl
    | 1, _ => exact rfl
    | 2, _ => exact rfl
    | 3, _ => exact rfl
    | 4, _ => exact rfl
    | 5, _ => exact rfl
    | 6, _ => exact rfl
    | 7, _ => exact rfl
    | 8, _ => exact rfl
    | 9, _ => exact rfl
    | 10, _ => exact rfl
    | 11, _ => exact rfl
    | 12, _ => exact rfl
    | 13, _ => exact rfl
    | 14, _ => exact rfl
    | 15, _ => exact rfl
    | 16, _ => exact rfl
    | 17, _ => exact rfl
    | 18, _ => exact rfl
    | 19, _ => exact rfl
    | n + 20, h => exact absurd (show n + 20 < 20 from h) (by omega)
/-- a slot's type: ints, or a reference's -/
theorem isr_ty {k j : Nat} (h : isr k j = false) : cY k j = .int := by
  unfold isr at h
  split at h
  · next e => exact e
  · cases h
theorem isr_rf : ∀ k, k < 4 → ∀ j, j < cN k → isr k j = true → (∃ t, cY k j = .array t) ∨ ∃ C, cY k j = .object C := by
  intro k hk j hj h
  have key : ∀ t : FieldType, (match t with | .array _ => true | .object _ => true | .int => true | _ => false) = true → t ≠ .int → (∃ u, t = .array u) ∨ ∃ C, t = .object C := by
    intro t h1 h2
    cases t <;> first | exact Or.inl ⟨_, rfl⟩ | exact Or.inr ⟨_, rfl⟩ | exact absurd rfl h2 | cases h1
  refine key _ ?_ ?_
  · have all : ∀ k, k < 4 → ∀ j, j < cN k → (match cY k j with | .array _ => true | .object _ => true | .int => true | _ => false) = true := by decide +kernel
    exact all k hk j hj
  · intro e
    unfold isr at h
    rw [e] at h
    cases h
theorem cr_obj {adl : List Nat} {bS cI cZ cO kd sz : Nat} {ri : Nat → Int} {rf : Nat → Nat} {e : va_E} (hk : kd < 4) (h : cr adl bS cI cZ cO kd sz ri rf e) : sz = cN kd ∧ ∃ fs : List Value, e = .inr (kd, fs) ∧ fs.length = sz ∧ ∀ j, j < sz → ∃ v, fs[j]? = some v ∧ ar adl bS (if isr kd j = true then vR (rf j) else vI (ri j)) v := by
  rcases h with ⟨-, h⟩ | ⟨h, -⟩ | ⟨h, -⟩ | ⟨h, -⟩
  · exact h
  · omega
  · omega
  · omega
theorem cr_ints {adl : List Nat} {bS cI cZ cO sz : Nat} {ri : Nat → Int} {rf : Nat → Nat} {e : va_E} (h : cr adl bS cI cZ cO 4 sz ri rf e) : sz ≤ 1000 ∧ ∃ f : Nat → Int32, e = .inl (cI, sz, .inl f) ∧ ∀ j, j < sz → (f j).toInt = ri j := by
  rcases h with ⟨h, -⟩ | ⟨-, h⟩ | ⟨h, -⟩ | ⟨h, -⟩
  · omega
  · exact h
  · omega
  · omega
theorem cr_bools {adl : List Nat} {bS cI cZ cO sz : Nat} {ri : Nat → Int} {rf : Nat → Nat} {e : va_E} (h : cr adl bS cI cZ cO 5 sz ri rf e) : sz ≤ 1000 ∧ ∃ f : Nat → Int32, e = .inl (cZ, sz, .inl f) ∧ ∀ j, j < sz → (f j).toInt = ri j := by
  rcases h with ⟨h, -⟩ | ⟨h, -⟩ | ⟨-, h⟩ | ⟨h, -⟩
  · omega
  · omega
  · exact h
  · omega
theorem cr_refs {adl : List Nat} {bS cI cZ cO sz : Nat} {ri : Nat → Int} {rf : Nat → Nat} {e : va_E} (h : cr adl bS cI cZ cO 6 sz ri rf e) : sz ≤ 1000 ∧ ∃ f : Nat → Option Nat, e = .inl (cO, sz, .inr (.inr (.inr (.inr f)))) ∧ ∀ j, j < sz → (rf j = 0 ∧ f j = none) ∨ ∃ a, 1 ≤ rf j ∧ adl[rf j - 1]? = some a ∧ f j = some a := by
  rcases h with ⟨h, -⟩ | ⟨h, -⟩ | ⟨h, -⟩ | ⟨-, h⟩
  · omega
  · omega
  · omega
  · exact h
theorem ar_at {adl : List Nat} {bS q a : Nat} {z : Int} {v : Value} (h : ar adl bS (1, z, q) v) (hq : 1 ≤ q) (ha : adl[q - 1]? = some a) : v = .ref a := by
  rcases h with ⟨h, -⟩ | ⟨b, -, h, rfl⟩
  · omega
  · rw [ha] at h; cases h; rfl
theorem gt_sr (σ : St) (q i : Nat) (F : Nat → Int) : gt (sr σ q F) i = if i = q then F else gt σ i := rfl
theorem gr_rr (σ : St) (q i : Nat) (F : Nat → Nat) : gr (rr σ q F) i = if i = q then F else gr σ i := rfl
section HP
variable {M pc : Nat} {ls st : List AV} {σ σ' : St} {r : AV}
theorem s_get {i k f : Nat} {z : Int} {q : Nat} (hq : fl.lookup (mo M, i) = some (k, f)) (hf : fok σ q k) (hd : decode (mb M) pc = .ok (.getfield i, 3)) (hk : simAt M (pc + 3) ls ((if isr k f = true then vR (gr σ q f) else vI (gt σ q f)) :: st) σ r σ') : simAt M pc ls ((1, z, q) :: st) σ r σ' := by
  intro p l e R s m args below meth c D A bS cI cZ cO L xs Q adl0 fc fs C E adl H locs cells slots als cst P hl hs
  have hs0 := st2_cons hs
  clear hs
  obtain ⟨v1, cst, rfl, h1, hs⟩ := hs0
  obtain ⟨ws, hx, hw, hP, hD, hS, hrest⟩ := id P
  obtain ⟨f1, f2, f3, -⟩ := ffacts _ (lookup_mem hq)
  obtain ⟨a, e', g1, g2, g3⟩ := wd_at hw hf
  obtain rfl := ar_at h1 hf.1 g1
  obtain ⟨c1, vs, rfl, c3, c4⟩ := cr_obj f1 g3
  obtain ⟨v, c5, c6⟩ := c4 f (by rw [c1]; exact f2)
  refine va_get (D := D) (ci := k) (v := v) (C := cR k) (T := cT k) (N := cN k) C.1 C.2.1 C.2.2.2.2.1 (inX k f1) C.2.2.2.1 C.2.2.2.2.2.2.2.2.1 hP (q - 1) g2 (vwc_at f1) f f2 (C.2.2.2.2.1 _ f3) (fun _ h9 => h9) c5 hd ?_
  exact hk p l e R s m args below meth c D A bS cI cZ cO L xs Q adl0 fc fs C E adl H locs cells slots als _ P hl ⟨c6, hs⟩
/-- a field set anew, an int or a reference -/
theorem s_put {i k f : Nat} {z0 : Int} {q : Nat} {t t' : AV} (hta : ∀ adl bS v, ar adl bS t v → ar adl bS t' v) {σ1 : St} (hq : fl.lookup (mo M, i) = some (k, f)) (hf : fok σ q k) (hfin : fin k f = true → (my M).name = "<init>" ∧ (cT k f).1 = oS (mo M))
    (hn : nn σ1 = nn σ) (hnt : nt σ1 = nt σ) (hsk : sk σ1 = sk σ) (hsl : sl σ1 = sl σ) (hsx : sx σ1 = sx σ) (hg : ∀ i, i ≠ q → gt σ1 i = gt σ i) (hr : ∀ i, i ≠ q → gr σ1 i = gr σ i)
    (hnew : ∀ j : Nat, (if isr k j = true then vR (gr σ1 q j) else vI (gt σ1 q j)) = if j = f then t' else (if isr k j = true then vR (gr σ q j) else vI (gt σ q j)))
    (hty : (isr k f = false ∧ t.1 = 0) ∨ (isr k f = true ∧ ∃ z w, t = (1, z, w) ∧ 1 ≤ w))
    (hd : decode (mb M) pc = .ok (.putfield i, 3)) (hk : simAt M (pc + 3) ls st σ1 r σ') : simAt M pc ls (t :: (1, z0, q) :: st) σ r σ' := by
  intro p l e R s m args below meth c D A bS cI cZ cO L xs Q adl0 fc fs C E adl H locs cells slots als cst P hl hs
  have hs0 := st2_cons hs
  clear hs
  obtain ⟨v1, cst, rfl, h1, hs⟩ := hs0
  have hs0 := st2_cons hs
  clear hs
  obtain ⟨v2, cst, rfl, h2, hs⟩ := hs0
  obtain ⟨ws, hx, hw, hP, hD, hS, hrest⟩ := P
  obtain ⟨f1, f2, f3, -⟩ := ffacts _ (lookup_mem hq)
  obtain ⟨a, e', g1, g2, g3⟩ := wd_at hw hf
  obtain rfl := ar_at h2 hf.1 g1
  obtain ⟨c1, vs, rfl, c3, c4⟩ := cr_obj f1 g3
  have hfl : f < vs.length := by rw [c3, c1]; exact f2
  have hnar : narrow (cY k f) v1 = v1 ∧ fits (cY k f) v1 = true := by
    rcases hty with ⟨a1, a2⟩ | ⟨a1, z, w, rfl, a2⟩
    · rw [isr_ty a1]
      obtain ⟨g, zz, kk⟩ := t
      cases a2
      obtain ⟨x, rfl, -⟩ := h1
      exact ⟨rfl, rfl⟩
    · rcases h1 with ⟨h, -⟩ | ⟨b, -, -, rfl⟩
      · omega
      · rcases isr_rf k f1 f f2 a1 with ⟨u, e⟩ | ⟨u, e⟩ <;> (rw [e]; exact ⟨rfl, rfl⟩)
  have fin' : ∀ (H1 : Heap) (locs1 : List Loc), va_P D vwc (ws.set (q - 1) (a, .inr (k, vs.set f v1))) H1 → va_D A (ws.set (q - 1) (a, .inr (k, vs.set f v1))) → va_S A s.heap H1 locs1 → W p l e R s m args below meth c H1 locs1 cells slots Q (F0 m (pc + 3) als cst) := by
    intro H1 locs1 hP1 hD1 hS1
    refine hk p l e R s m args below meth c D A bS cI cZ cO L xs Q adl0 fc fs C E adl H1 locs1 cells slots als _ ⟨_, hx, wd_set hw hf.1 hf.2.1 g1 hn hsk hg hr ?_, hP1, hD1, hS1, ?_⟩ hl hs
    · rw [hf.2.2]
      refine Or.inl ⟨f1, c1, _, rfl, by rw [List.length_set]; exact c3, fun j hj => ?_⟩
      rw [hnew j]
      by_cases e : j = f
      · subst e
        rw [if_pos rfl]
        exact ⟨v1, by rw [List.getElem?_set_self hfl], hta _ _ _ h1⟩
      · rw [if_neg e]
        obtain ⟨v, c5, c6⟩ := c4 j hj
        exact ⟨v, by rw [List.getElem?_set_ne (fun z => e z.symm)]; exact c5, c6⟩
    · rw [hn, hnt, hsl, hsx]
      exact hrest
  cases hfi : fin k f with
  | false => exact va_put (D := D) (ci := k) (v := v1) (ty := cY k f) (C := cR k) (T := cT k) (N := cN k) C.1 C.2.1 C.2.2.2.2.1 (inX k f1) (cY k) (tyX_ok k f1) (nmX k f1) C.2.2.2.1 C.2.2.2.2.2.2.2.2.1 hP hD hS (q - 1) g2 (vwc_at f1) f f2 (C.2.2.2.2.1 _ f3) (fun _ h9 => h9) hfi (tyX_ok k f1 f f2) hnar.1 hnar.2 hfl hd fin'
  | true => exact va_putF (D := D) (ci := k) (v := v1) (ty := cY k f) (C := cR k) (T := cT k) (N := cN k) C.1 C.2.1 C.2.2.2.2.1 (inX k f1) (cY k) (tyX_ok k f1) (nmX k f1) C.2.2.2.1 C.2.2.2.2.2.2.2.2.1 hP hD hS (q - 1) g2 (vwc_at f1) f f2 (C.2.2.2.2.1 _ f3) (fun _ h9 => h9) hfi (C.2.2.2.2.2.2.2.1 (hfin hfi).1) (hfin hfi).2 (tyX_ok k f1 f f2) hnar.1 hnar.2 hfl hd fin'
theorem vp_ofj {x : Int32} {j : Int} {n : Nat} (h : x.toInt = j) (h0 : 0 ≤ j) (h1 : j < (n : Int)) : vp_in x n := vp_in_iff.mpr (by rw [h]; exact ⟨h0, h1⟩)
theorem tnc {x : Int32} {j : Int} (h : x.toInt = j) : x.toNatClampNeg = j.toNat := by rw [← h]; rfl
theorem s_iald {z : Int} {j : Int} {q q1 : Nat} (hf : aok σ q 4 j) (hd : decode (mb M) pc = .ok (.iaload, 1)) (hk : simAt M (pc + 1) ls (vI (gt σ q j.toNat) :: st) σ r σ') : simAt M pc ls ((0, j, q1) :: (1, z, q) :: st) σ r σ' := by
  intro p l e R s m args below meth c D A bS cI cZ cO L xs Q adl0 fc fs C E adl H locs cells slots als cst P hl hs
  have hs0 := st2_cons hs
  clear hs
  obtain ⟨v1, cst, rfl, ⟨x1, rfl, h1⟩, hs⟩ := hs0
  have hs0 := st2_cons hs
  clear hs
  obtain ⟨v2, cst, rfl, h2, hs⟩ := hs0
  obtain ⟨ws, hx, hw, hP, hD, hS, hrest⟩ := id P
  obtain ⟨hf, j0, j1⟩ := hf
  obtain ⟨a, e', g1, g2, g3⟩ := wd_at hw hf
  obtain rfl := ar_at h2 hf.1 g1
  obtain ⟨c1, f, rfl, c2⟩ := cr_ints g3
  refine va_iald C.1 C.2.1 C.2.2.2.2.2.2.2.2.1 hP (q - 1) 0 g2 rfl (vp_ofj h1 j0 j1) hd ?_
  exact hk p l e R s m args below meth c D A bS cI cZ cO L xs Q adl0 fc fs C E adl H locs cells slots als _ P hl ⟨⟨_, rfl, by rw [tnc h1]; exact c2 _ (by omega)⟩, hs⟩
theorem s_zald {z : Int} {j : Int} {q q1 : Nat} (hf : aok σ q 5 j) (hd : decode (mb M) pc = .ok (.baload, 1)) (hk : simAt M (pc + 1) ls (vI (gt σ q j.toNat) :: st) σ r σ') : simAt M pc ls ((0, j, q1) :: (1, z, q) :: st) σ r σ' := by
  intro p l e R s m args below meth c D A bS cI cZ cO L xs Q adl0 fc fs C E adl H locs cells slots als cst P hl hs
  have hs0 := st2_cons hs
  clear hs
  obtain ⟨v1, cst, rfl, ⟨x1, rfl, h1⟩, hs⟩ := hs0
  have hs0 := st2_cons hs
  clear hs
  obtain ⟨v2, cst, rfl, h2, hs⟩ := hs0
  obtain ⟨ws, hx, hw, hP, hD, hS, hrest⟩ := id P
  obtain ⟨hf, j0, j1⟩ := hf
  obtain ⟨a, e', g1, g2, g3⟩ := wd_at hw hf
  obtain rfl := ar_at h2 hf.1 g1
  obtain ⟨c1, f, rfl, c2⟩ := cr_bools g3
  refine va_zald C.1 C.2.1 C.2.2.2.2.2.2.2.2.1 hP (q - 1) 1 g2 rfl (vp_ofj h1 j0 j1) hd ?_
  exact hk p l e R s m args below meth c D A bS cI cZ cO L xs Q adl0 fc fs C E adl H locs cells slots als _ P hl ⟨⟨_, rfl, by rw [tnc h1]; exact c2 _ (by omega)⟩, hs⟩
theorem s_aald {z : Int} {j : Int} {q q1 : Nat} (hf : aok σ q 6 j) (hd : decode (mb M) pc = .ok (.aaload, 1)) (hk : simAt M (pc + 1) ls (vR (gr σ q j.toNat) :: st) σ r σ') : simAt M pc ls ((0, j, q1) :: (1, z, q) :: st) σ r σ' := by
  intro p l e R s m args below meth c D A bS cI cZ cO L xs Q adl0 fc fs C E adl H locs cells slots als cst P hl hs
  have hs0 := st2_cons hs
  clear hs
  obtain ⟨v1, cst, rfl, ⟨x1, rfl, h1⟩, hs⟩ := hs0
  have hs0 := st2_cons hs
  clear hs
  obtain ⟨v2, cst, rfl, h2, hs⟩ := hs0
  obtain ⟨ws, hx, hw, hP, hD, hS, hrest⟩ := id P
  obtain ⟨hf, j0, j1⟩ := hf
  obtain ⟨a, e', g1, g2, g3⟩ := wd_at hw hf
  obtain rfl := ar_at h2 hf.1 g1
  obtain ⟨c1, f, rfl, c2⟩ := cr_refs g3
  refine va_aldq C.1 C.2.1 C.2.2.2.2.2.2.2.2.1 hP (q - 1) 2 g2 rfl (vp_ofj h1 j0 j1) hd ?_
  refine hk p l e R s m args below meth c D A bS cI cZ cO L xs Q adl0 fc fs C E adl H locs cells slots als _ P hl ⟨?_, hs⟩
  rw [tnc h1]
  rcases c2 _ (show j.toNat < (sk σ q).2 by omega) with ⟨b1, b2⟩ | ⟨b, b1, b2, b3⟩
  · exact Or.inl ⟨b1, by rw [b2]; rfl⟩
  · exact Or.inr ⟨b, b1, b2, by rw [b3]; rfl⟩
theorem s_iast {z y : Int} {j : Int} {q q1 q2 : Nat} (hf : aok σ q 4 j) (hd : decode (mb M) pc = .ok (.iastore, 1)) (hk : simAt M (pc + 1) ls st (sr σ q (ru (gt σ q) j.toNat y)) r σ') : simAt M pc ls ((0, y, q2) :: (0, j, q1) :: (1, z, q) :: st) σ r σ' := by
  intro p l e R s m args below meth c D A bS cI cZ cO L xs Q adl0 fc fs C E adl H locs cells slots als cst P hl hs
  have hs0 := st2_cons hs
  clear hs
  obtain ⟨v0, cst, rfl, ⟨x0, rfl, h0⟩, hs⟩ := hs0
  have hs0 := st2_cons hs
  clear hs
  obtain ⟨v1, cst, rfl, ⟨x1, rfl, h1⟩, hs⟩ := hs0
  have hs0 := st2_cons hs
  clear hs
  obtain ⟨v2, cst, rfl, h2, hs⟩ := hs0
  obtain ⟨ws, hx, hw, hP, hD, hS, hrest⟩ := P
  obtain ⟨hf, j0, j1⟩ := hf
  obtain ⟨a, e', g1, g2, g3⟩ := wd_at hw hf
  obtain rfl := ar_at h2 hf.1 g1
  obtain ⟨c1, f, rfl, c2⟩ := cr_ints g3
  refine va_iast C.1 C.2.1 C.2.2.2.2.2.2.2.2.1 hP hD hS (q - 1) 0 g2 rfl (vp_ofj h1 j0 j1) hd (fun H1 locs1 hP1 hD1 hS1 => ?_)
  refine hk p l e R s m args below meth c D A bS cI cZ cO L xs Q adl0 fc fs C E adl H1 locs1 cells slots als _ ⟨_, hx, wd_set hw hf.1 hf.2.1 g1 rfl rfl (fun i hi => by rw [gt_sr, if_neg hi]) (fun i _ => rfl) ?_, hP1, hD1, hS1, hrest⟩ hl hs
  rw [hf.2.2]
  refine Or.inr (Or.inl ⟨rfl, c1, _, rfl, fun i hi => ?_⟩)
  rw [gt_sr, if_pos rfl, tnc h1]
  unfold upd ru
  by_cases e : i = j.toNat
  · rw [if_pos e, if_pos e]; exact h0
  · rw [if_neg e, if_neg e]; exact c2 i hi
theorem s_zast {z y : Int} {j : Int} {q q1 q2 : Nat} (hf : aok σ q 5 j) (hy : y = 0 ∨ y = 1) (hd : decode (mb M) pc = .ok (.bastore, 1)) (hk : simAt M (pc + 1) ls st (sr σ q (ru (gt σ q) j.toNat y)) r σ') : simAt M pc ls ((0, y, q2) :: (0, j, q1) :: (1, z, q) :: st) σ r σ' := by
  intro p l e R s m args below meth c D A bS cI cZ cO L xs Q adl0 fc fs C E adl H locs cells slots als cst P hl hs
  have hs0 := st2_cons hs
  clear hs
  obtain ⟨v0, cst, rfl, ⟨x0, rfl, h0⟩, hs⟩ := hs0
  have hs0 := st2_cons hs
  clear hs
  obtain ⟨v1, cst, rfl, ⟨x1, rfl, h1⟩, hs⟩ := hs0
  have hs0 := st2_cons hs
  clear hs
  obtain ⟨v2, cst, rfl, h2, hs⟩ := hs0
  obtain ⟨ws, hx, hw, hP, hD, hS, hrest⟩ := P
  obtain ⟨hf, j0, j1⟩ := hf
  obtain ⟨a, e', g1, g2, g3⟩ := wd_at hw hf
  obtain rfl := ar_at h2 hf.1 g1
  obtain ⟨c1, f, rfl, c2⟩ := cr_bools g3
  have hnar : vp_nar .boolean x0 = x0 := by
    have : x0 = 0 ∨ x0 = 1 := by
      rcases hy with e | e
      · exact Or.inl (Int32.toInt_inj.mp (by rw [h0, e]; rfl))
      · exact Or.inr (Int32.toInt_inj.mp (by rw [h0, e]; rfl))
    rcases this with rfl | rfl <;> decide
  refine va_zast C.1 C.2.1 C.2.2.2.2.2.2.2.2.1 hP hD hS (q - 1) 1 g2 rfl (vp_ofj h1 j0 j1) hd (fun H1 locs1 hP1 hD1 hS1 => ?_)
  rw [hnar] at hP1 hD1
  refine hk p l e R s m args below meth c D A bS cI cZ cO L xs Q adl0 fc fs C E adl H1 locs1 cells slots als _ ⟨_, hx, wd_set hw hf.1 hf.2.1 g1 rfl rfl (fun i hi => by rw [gt_sr, if_neg hi]) (fun i _ => rfl) ?_, hP1, hD1, hS1, hrest⟩ hl hs
  rw [hf.2.2]
  refine Or.inr (Or.inr (Or.inl ⟨rfl, c1, _, rfl, fun i hi => ?_⟩))
  rw [gt_sr, if_pos rfl, tnc h1]
  unfold upd ru
  by_cases e : i = j.toNat
  · rw [if_pos e, if_pos e]; exact h0
  · rw [if_neg e, if_neg e]; exact c2 i hi
theorem s_aast {z z2 : Int} {j : Int} {q q1 w : Nat} (hf : aok σ q 6 j) (hw0 : fok σ w 0) (hd : decode (mb M) pc = .ok (.aastore, 1)) (hk : simAt M (pc + 1) ls st (rr σ q (ru (gr σ q) j.toNat w)) r σ') : simAt M pc ls ((1, z2, w) :: (0, j, q1) :: (1, z, q) :: st) σ r σ' := by
  intro p l e R s m args below meth c D A bS cI cZ cO L xs Q adl0 fc fs C E adl H locs cells slots als cst P hl hs
  have hs0 := st2_cons hs
  clear hs
  obtain ⟨v0, cst, rfl, h0, hs⟩ := hs0
  have hs0 := st2_cons hs
  clear hs
  obtain ⟨v1, cst, rfl, ⟨x1, rfl, h1⟩, hs⟩ := hs0
  have hs0 := st2_cons hs
  clear hs
  obtain ⟨v2, cst, rfl, h2, hs⟩ := hs0
  obtain ⟨ws, hx, hw, hP, hD, hS, hrest⟩ := P
  obtain ⟨hf, j0, j1⟩ := hf
  obtain ⟨a, e', g1, g2, g3⟩ := wd_at hw hf
  obtain rfl := ar_at h2 hf.1 g1
  obtain ⟨c1, f, rfl, c2⟩ := cr_refs g3
  obtain ⟨b, e2, k1, k2, k3⟩ := wd_at hw hw0
  obtain rfl := ar_at h0 hw0.1 k1
  obtain ⟨-, vs, rfl, -, -⟩ := cr_obj (by decide) k3
  refine va_astq (r := (RX0, TX0, 13)) C.1 C.2.1 C.2.2.2.2.2.2.2.2.1 hP hD hS (q - 1) 2 (w - 1) 0 g2 rfl k2 rfl (vp_ofj h1 j0 j1) hd (fun H1 locs1 hP1 hD1 hS1 => ?_)
  refine hk p l e R s m args below meth c D A bS cI cZ cO L xs Q adl0 fc fs C E adl H1 locs1 cells slots als _ ⟨_, hx, wd_set hw hf.1 hf.2.1 g1 rfl rfl (fun i _ => rfl) (fun i hi => by rw [gr_rr, if_neg hi]) ?_, hP1, hD1, hS1, hrest⟩ hl hs
  rw [hf.2.2]
  refine Or.inr (Or.inr (Or.inr ⟨rfl, c1, _, rfl, fun i hi => ?_⟩))
  rw [gr_rr, if_pos rfl, tnc h1]
  unfold va_up ru
  by_cases e : i = j.toNat
  · rw [if_pos e, if_pos e]; exact Or.inr ⟨b, hw0.1, k1, rfl⟩
  · rw [if_neg e, if_neg e]; exact c2 i hi
theorem s_alen {z : Int} {q : Nat} (hf : fok σ q 4 ∨ fok σ q 6) (hd : decode (mb M) pc = .ok (.arraylength, 1)) (hk : simAt M (pc + 1) ls (vI (sk σ q).2 :: st) σ r σ') : simAt M pc ls ((1, z, q) :: st) σ r σ' := by
  intro p l e R s m args below meth c D A bS cI cZ cO L xs Q adl0 fc fs C E adl H locs cells slots als cst P hl hs
  have hs0 := st2_cons hs
  clear hs
  obtain ⟨v2, cst, rfl, h2, hs⟩ := hs0
  obtain ⟨ws, hx, hw, hP, hD, hS, hrest⟩ := id P
  have hsz : ∀ n : Nat, n ≤ 1000 → (Int32.ofNat n).toInt = (n : Int) := fun n hn => i32_of (n := (n : Int)) (by omega) (by omega)
  rcases hf with hf | hf
  · obtain ⟨a, e', g1, g2, g3⟩ := wd_at hw hf
    obtain rfl := ar_at h2 hf.1 g1
    obtain ⟨c1, f, rfl, c2⟩ := cr_ints g3
    refine va_alen C.1 C.2.1 C.2.2.2.2.2.2.2.2.1 hP (q - 1) 0 g2 (ty := .int) rfl rfl hd ?_
    exact hk p l e R s m args below meth c D A bS cI cZ cO L xs Q adl0 fc fs C E adl H locs cells slots als _ P hl ⟨⟨_, rfl, hsz _ c1⟩, hs⟩
  · obtain ⟨a, e', g1, g2, g3⟩ := wd_at hw hf
    obtain rfl := ar_at h2 hf.1 g1
    obtain ⟨c1, f, rfl, c2⟩ := cr_refs g3
    refine va_alen C.1 C.2.1 C.2.2.2.2.2.2.2.2.1 hP (q - 1) 2 g2 (ty := .object RX0) rfl rfl hd ?_
    exact hk p l e R s m args below meth c D A bS cI cZ cO L xs Q adl0 fc fs C E adl H locs cells slots als _ P hl ⟨⟨_, rfl, hsz _ c1⟩, hs⟩
theorem s_slen {z : Int} {q : Nat} (hM : mo M = 4) (hd : decode (mb M) pc = .ok (.arraylength, 1)) (hk : simAt M (pc + 1) ls (vI (sl σ) :: st) σ r σ') : simAt M pc ls ((5, z, q) :: st) σ r σ' := by
  intro p l e R s m args below meth c D A bS cI cZ cO L xs Q adl0 fc fs C E adl H locs cells slots als cst P hl hs
  have hs0 := st2_cons hs
  clear hs
  obtain ⟨v2, cst, rfl, h2, hs⟩ := hs0
  cases h2
  obtain ⟨ws, hx, hw, hP, hD, hS, -, -, -, -, hscr⟩ := id P
  obtain ⟨c1, c2, c3, c4⟩ := C.2.2.2.2.2.2.2.2.2.2.1 hM
  refine va_slen C.1 C.2.1 c2 c3 c4 hS hd ?_
  refine hk p l e R s m args below meth c D A bS cI cZ cO L xs Q adl0 fc fs C E adl H locs cells slots als _ P hl ⟨⟨_, rfl, ?_⟩, hs⟩
  rw [(hscr hM).1]
  exact i32_of (n := (L : Int)) (by omega) (by omega)
theorem s_sald {z : Int} {j : Int} {q q1 : Nat} (hM : mo M = 4) (hj : 0 ≤ j ∧ j < (sl σ : Int)) (hd : decode (mb M) pc = .ok (.iaload, 1)) (hk : simAt M (pc + 1) ls (vI (sx σ j.toNat) :: st) σ r σ') : simAt M pc ls ((0, j, q1) :: (5, z, q) :: st) σ r σ' := by
  intro p l e R s m args below meth c D A bS cI cZ cO L xs Q adl0 fc fs C E adl H locs cells slots als cst P hl hs
  have hs0 := st2_cons hs
  clear hs
  obtain ⟨v1, cst, rfl, ⟨x1, rfl, h1⟩, hs⟩ := hs0
  have hs0 := st2_cons hs
  clear hs
  obtain ⟨v2, cst, rfl, h2, hs⟩ := hs0
  cases h2
  obtain ⟨ws, hx, hw, hP, hD, hS, -, -, -, -, hscr⟩ := id P
  obtain ⟨c1, c2, c3, c4⟩ := C.2.2.2.2.2.2.2.2.2.2.1 hM
  obtain ⟨d1, d2⟩ := hscr hM
  rw [d1] at hj
  refine va_sld C.1 C.2.1 c2 c3 c4 hS (vp_ofj h1 hj.1 hj.2) hd ?_
  refine hk p l e R s m args below meth c D A bS cI cZ cO L xs Q adl0 fc fs C E adl H locs cells slots als _ P hl ⟨⟨_, rfl, ?_⟩, hs⟩
  rw [tnc h1]
  exact d2 _ (by omega)
theorem al_nn (σ : St) (kd sz : Nat) : nn (al σ kd sz) = nn σ + 1 ∧ nt (al σ kd sz) = nt σ + sz := ⟨rfl, rfl⟩
/-- the world with one cell more -/
theorem wp_push {adl0 : List Nat} {bS cI cZ cO L : Nat} {xs : Nat → Int32} {s : State} {D : va_G} {A : Nat → Prop} {fc fs : Nat} {adl : List Nat} {H1 : Heap} {locs : List Loc} {cells slots kd sz a : Nat} {e : va_E} {ws : va_W}
    (hx : ∃ x, adl = adl0 ++ x) (hw : wd adl bS cI cZ cO σ ws) (hrest : cells + nn σ' = fc + nn σ ∧ slots + nt σ' = fs + nt σ ∧ nn σ ≤ nn σ' ∧ nt σ ≤ nt σ' ∧ (mo M = 4 → sl σ = L ∧ ∀ j : Nat, j < L → (xs j).toInt = sx σ j))
    (hg : nn (al σ kd sz) ≤ nn σ' ∧ nt (al σ kd sz) ≤ nt σ') (hc : cr adl bS cI cZ cO kd sz (fun _ => 0) (fun _ => 0) e) (hP1 : va_P D vwc (ws ++ [(a, e)]) H1) (hD1 : va_D A (ws ++ [(a, e)])) (hS1 : va_S A s.heap H1 locs) :
    wp adl0 bS cI cZ cO L xs M s D A fc fs σ' (al σ kd sz) (adl ++ [a]) H1 locs (cells + 1) (slots + sz) := by
  obtain ⟨x, rfl⟩ := hx
  obtain ⟨r1, r2, r3, r4, r5⟩ := hrest
  have e1 := (al_nn σ kd sz).1
  have e2 := (al_nn σ kd sz).2
  exact ⟨_, ⟨x ++ [a], by rw [List.append_assoc]⟩, wd_push hw hc, hP1, hD1, hS1, by omega, by omega, hg.1, hg.2, r5⟩
theorem s_newi {y : Int} {q : Nat} (hy : 0 ≤ y ∧ y ≤ 1000) (hg : nn (al σ 4 y.toNat) ≤ nn σ' ∧ nt (al σ 4 y.toNat) ≤ nt σ') (hd : decode (mb M) pc = .ok (.newarray .int, 2)) (hk : simAt M (pc + 2) ls (vR (nn σ + 1) :: st) (al σ 4 y.toNat) r σ') : simAt M pc ls ((0, y, q) :: st) σ r σ' := by
  intro p l e R s m args below meth c D A bS cI cZ cO L xs Q adl0 fc fs C E adl H locs cells slots als cst P hl hs
  have hs0 := st2_cons hs
  clear hs
  obtain ⟨v1, cst, rfl, ⟨x1, rfl, h1⟩, hs⟩ := hs0
  obtain ⟨ws, hx, hw, hP, hD, hS, hrest⟩ := P
  obtain ⟨-, -, r3, r4⟩ := C.2.2.2.2.2.2.2.2.2.2.2
  have hK := C.2.2.2.2.2.2.2.2.1
  obtain ⟨r5, r6, -⟩ := id hrest
  have e1 := (al_nn σ 4 y.toNat).1
  have e2 := (al_nn σ 4 y.toNat).2
  refine va_newa (atype := .int) (ty := .int) (a0 := (y.toNat, .inl (fun _ => 0))) (N' := y.toNat) C.1 C.2.1 (C.2.2.2.2.1 _ gw_arr.1) rfl hK hP hD hS C.2.2.2.2.2.2.2.2.2.1 (fun cA => rfl) (by rw [cv_lt h1]; omega) (tnc h1) (by show y.toNat * 4 ≤ _; omega) (by omega) (by omega) hd (fun q' cA H1 hK1 hP1 hD1 hS1 => ?_)
  have hcA : cA = cI := Option.some.inj (((hK1.2 3 _ rfl).2 : s.vm.findClass ("[" ++ FieldType.int.toString) = some cA).symm.trans ((hK.2 0 _ rfl).2 : s.vm.findClass ("[" ++ FieldType.int.toString) = some cI))
  subst hcA
  refine hk p l e R s m args below meth c D A bS cA cZ cO L xs Q adl0 fc fs C E (adl ++ [q']) H1 locs (cells + 1) (slots + y.toNat) als _ (wp_push hx hw hrest hg ?_ hP1 hD1 hS1) (lr_pre ⟨_, rfl⟩ hl) ⟨?_, st2_pre ⟨_, rfl⟩ hs⟩
  · exact Or.inr (Or.inl ⟨rfl, by omega, _, rfl, fun j _ => rfl⟩)
  · exact Or.inr ⟨q', by omega, by rw [show nn σ + 1 - 1 = nn σ by omega, ← hw.2.1]; simp, rfl⟩
theorem s_newz {y : Int} {q : Nat} (hy : 0 ≤ y ∧ y ≤ 1000) (hg : nn (al σ 5 y.toNat) ≤ nn σ' ∧ nt (al σ 5 y.toNat) ≤ nt σ') (hd : decode (mb M) pc = .ok (.newarray .boolean, 2)) (hk : simAt M (pc + 2) ls (vR (nn σ + 1) :: st) (al σ 5 y.toNat) r σ') : simAt M pc ls ((0, y, q) :: st) σ r σ' := by
  intro p l e R s m args below meth c D A bS cI cZ cO L xs Q adl0 fc fs C E adl H locs cells slots als cst P hl hs
  have hs0 := st2_cons hs
  clear hs
  obtain ⟨v1, cst, rfl, ⟨x1, rfl, h1⟩, hs⟩ := hs0
  obtain ⟨ws, hx, hw, hP, hD, hS, hrest⟩ := P
  obtain ⟨-, -, r3, r4⟩ := C.2.2.2.2.2.2.2.2.2.2.2
  have hK := C.2.2.2.2.2.2.2.2.1
  obtain ⟨r5, r6, -⟩ := id hrest
  have e1 := (al_nn σ 5 y.toNat).1
  have e2 := (al_nn σ 5 y.toNat).2
  refine va_newa (atype := .boolean) (ty := .boolean) (a0 := (y.toNat, .inl (fun _ => 0))) (N' := y.toNat) C.1 C.2.1 (C.2.2.2.2.1 _ gw_arr.2) rfl hK hP hD hS C.2.2.2.2.2.2.2.2.2.1 (fun cA => rfl) (by rw [cv_lt h1]; omega) (tnc h1) (by show y.toNat * 1 ≤ _; omega) (by omega) (by omega) hd (fun q' cA H1 hK1 hP1 hD1 hS1 => ?_)
  have hcA : cA = cZ := Option.some.inj (((hK1.2 3 _ rfl).2 : s.vm.findClass ("[" ++ FieldType.boolean.toString) = some cA).symm.trans ((hK.2 1 _ rfl).2 : s.vm.findClass ("[" ++ FieldType.boolean.toString) = some cZ))
  subst hcA
  refine hk p l e R s m args below meth c D A bS cI cA cO L xs Q adl0 fc fs C E (adl ++ [q']) H1 locs (cells + 1) (slots + y.toNat) als _ (wp_push hx hw hrest hg ?_ hP1 hD1 hS1) (lr_pre ⟨_, rfl⟩ hl) ⟨?_, st2_pre ⟨_, rfl⟩ hs⟩
  · exact Or.inr (Or.inr (Or.inl ⟨rfl, by omega, _, rfl, fun j _ => rfl⟩))
  · exact Or.inr ⟨q', by omega, by rw [show nn σ + 1 - 1 = nn σ by omega, ← hw.2.1]; simp, rfl⟩
theorem s_newr {y : Int} {q i : Nat} (hq : nlk.lookup (mo M, i) = some 0) (hy : 0 ≤ y ∧ y ≤ 1000) (hg : nn (al σ 6 y.toNat) ≤ nn σ' ∧ nt (al σ 6 y.toNat) ≤ nt σ') (hd : decode (mb M) pc = .ok (.anewarray i, 3)) (hk : simAt M (pc + 3) ls (vR (nn σ + 1) :: st) (al σ 6 y.toNat) r σ') : simAt M pc ls ((0, y, q) :: st) σ r σ' := by
  intro p l e R s m args below meth c D A bS cI cZ cO L xs Q adl0 fc fs C E adl H locs cells slots als cst P hl hs
  have hs0 := st2_cons hs
  clear hs
  obtain ⟨v1, cst, rfl, ⟨x1, rfl, h1⟩, hs⟩ := hs0
  obtain ⟨ws, hx, hw, hP, hD, hS, hrest⟩ := P
  obtain ⟨-, -, r3, r4⟩ := C.2.2.2.2.2.2.2.2.2.2.2
  have hK := C.2.2.2.2.2.2.2.2.1
  obtain ⟨r5, r6, -⟩ := id hrest
  have e1 := (al_nn σ 6 y.toNat).1
  have e2 := (al_nn σ 6 y.toNat).2
  obtain ⟨-, n1, n2, n3⟩ := nfacts _ (lookup_mem hq)
  refine va_newq (N' := y.toNat) C.1 C.2.1 C.2.2.2.1 (C.2.2.2.2.1 _ n1) C.2.2.2.2.2.2.1 hK hP hD hS C.2.2.2.2.2.2.2.2.2.1 (by rw [cv_lt h1]; omega) (tnc h1) (by omega) (by omega) (by omega) hd (fun q' cA H1 hK1 hP1 hD1 hS1 => ?_)
  have hcA : cA = cO := by
    obtain ⟨kA, comp, -, -, -, a1⟩ := (hK1.2 3 _ rfl).2
    obtain ⟨kB, comp', -, -, -, a2⟩ := (hK.2 2 _ rfl).2
    exact Option.some.inj (a1.symm.trans a2)
  subst hcA
  refine hk p l e R s m args below meth c D A bS cI cZ cA L xs Q adl0 fc fs C E (adl ++ [q']) H1 locs (cells + 1) (slots + y.toNat) als _ (wp_push hx hw hrest hg ?_ hP1 hD1 hS1) (lr_pre ⟨_, rfl⟩ hl) ⟨?_, st2_pre ⟨_, rfl⟩ hs⟩
  · exact Or.inr (Or.inr (Or.inr ⟨rfl, by omega, _, rfl, fun j _ => Or.inl ⟨rfl, rfl⟩⟩))
  · exact Or.inr ⟨q', by omega, by rw [show nn σ + 1 - 1 = nn σ by omega, ← hw.2.1]; simp, rfl⟩
theorem s_new {k i : Nat} (hq : nlk.lookup (mo M, i) = some k) (hg : nn (al σ k (cN k)) ≤ nn σ' ∧ nt (al σ k (cN k)) ≤ nt σ') (hd : decode (mb M) pc = .ok (.new i, 3)) (hk : simAt M (pc + 3) ls (vR (nn σ + 1) :: st) (al σ k (cN k)) r σ') : simAt M pc ls st σ r σ' := by
  intro p l e R s m args below meth c D A bS cI cZ cO L xs Q adl0 fc fs C E adl H locs cells slots als cst P hl hs
  obtain ⟨ws, hx, hw, hP, hD, hS, hrest⟩ := P
  obtain ⟨-, -, r3, r4⟩ := C.2.2.2.2.2.2.2.2.2.2.2
  have hK := C.2.2.2.2.2.2.2.2.1
  obtain ⟨r5, r6, -⟩ := id hrest
  have e1 := (al_nn σ k (cN k)).1
  have e2 := (al_nn σ k (cN k)).2
  obtain ⟨f1, n1, n2, n3⟩ := nfacts _ (lookup_mem hq)
  refine va_new (ci := k) (fs := dfl k) (C := cR k) (T := cT k) (N := cN k) C.1 C.2.1 C.2.2.2.2.1 (inX k f1) (cY k) (tyX_ok k f1) C.2.2.2.1 (C.2.2.2.2.1 _ n1) (C.2.2.2.2.1 _ n2) (C.2.2.2.2.1 _ n3) hK hP hD hS C.2.2.2.2.2.2.2.2.2.1 (vwc_at f1) (dfl_ok k f1) (by omega) (by omega) hd (fun q' H1 hP1 hD1 hS1 => ?_)
  refine hk p l e R s m args below meth c D A bS cI cZ cO L xs Q adl0 fc fs C E (adl ++ [q']) H1 locs (cells + 1) (slots + cN k) als _ (wp_push hx hw hrest hg ?_ hP1 hD1 hS1) (lr_pre ⟨_, rfl⟩ hl) ⟨?_, st2_pre ⟨_, rfl⟩ hs⟩
  · refine Or.inl ⟨f1, rfl, _, rfl, by unfold dfl; simp, fun j hj => ⟨if isr k j = true then .null else .int 0, by unfold dfl; simp [hj], ?_⟩⟩
    by_cases h : isr k j = true
    · rw [if_pos h, if_pos h]; exact Or.inl ⟨rfl, rfl⟩
    · rw [if_neg h, if_neg h]; exact ⟨0, rfl, rfl⟩
  · exact Or.inr ⟨q', by omega, by rw [show nn σ + 1 - 1 = nn σ by omega, ← hw.2.1]; simp, rfl⟩
end HP
