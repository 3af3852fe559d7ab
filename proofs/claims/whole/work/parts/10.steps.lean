theorem lookup_mem {α : Type} {l : List ((Nat × Nat) × α)} {k : Nat × Nat} {v : α} (h : l.lookup k = some v) : (k, v) ∈ l := by
  induction l with
  | nil => cases h
  | cons q l ih =>
    rw [List.lookup_cons] at h
    split at h
    · next hq =>
      have hq' : k = q.1 := by simpa using hq
      cases h
      rw [hq']
      exact List.mem_cons_self
    · exact List.mem_cons_of_mem _ (ih h)
theorem i32_of {n : Int} (h1 : -2147483648 ≤ n) (h2 : n < 2147483648) : (Int32.ofInt n).toInt = n := by
  rw [Int32.toInt_ofInt]
  exact Int.bmod_eq_of_le (by simp [Int32.size]; omega) (by simp [Int32.size]; omega)
theorem lg_some {ls : List AV} {i : Nat} {t : AV} (h : lg ls i = t) (ht : t.1 ≠ 9) : ls[i]? = some t := by
  unfold lg at h
  cases e : ls[i]? with
  | none => rw [e] at h; exact absurd (by rw [← h]; rfl) ht
  | some u => rw [e] at h; rw [← h]; rfl
theorem lr_get {adl : List Nat} {bS nL : Nat} {l : List AV} {als : Array Slot} (hl : lr adl bS nL l als) {i g : Nat} {z : Int} {q : Nat} (hg : lg l i = (g, z, q)) (ht : g = 0 ∨ g = 1 ∨ g = 5) : ∃ v, als[i]? = some (.val v) ∧ ar adl bS (g, z, q) v :=
  hl.2.2.2 i _ (lg_some hg (by rcases ht with rfl | rfl | rfl <;> (intro h; cases h))) (by rcases ht with h | h | h <;> simp [h])
theorem vH_of {ls : List AV} {i : Nat} {t : AV} (h : ls[i]? = some t) (h3 : t = vH) : ls[i]? = some vH := by rw [h, h3]
theorem lr_get2 {adl : List Nat} {bS nL : Nat} {l : List AV} {als : Array Slot} (hl : lr adl bS nL l als) {i : Nat} {z y : Int} {q q2 : Nat} (hg : lg l i = (2, z, q)) (hg2 : lg l (i + 1) = (3, y, q2)) (hy : (3, y, q2) = vH) : ∃ v, als[i]? = some (.val v) ∧ ar adl bS (2, z, q) v :=
  hl.2.2.2 i _ (lg_some hg (by intro h; cases h)) (Or.inr (Or.inr (Or.inr ⟨rfl, by rw [lg_some hg2 (by intro h; cases h), hy]⟩)))
theorem wr_rem (x y : Int) : Int.bmod (x - Int.bmod (Int.bmod (x.tdiv y) (2 ^ 32) * y) (2 ^ 32)) (2 ^ 32) = wr (x.tmod y) := by
  rw [wr_def]
  rw [Int.bmod_mul_bmod, Int.sub_bmod_bmod]
  congr 1
  have := Int.tmod_def x y
  rw [this, Int.mul_comm]
theorem wl_rem (x y : Int) : Int.bmod (x - Int.bmod (Int.bmod (x.tdiv y) (2 ^ 64) * y) (2 ^ 64)) (2 ^ 64) = wl (x.tmod y) := by
  rw [wl_def]
  rw [Int.bmod_mul_bmod, Int.sub_bmod_bmod]
  congr 1
  have := Int.tmod_def x y
  rw [this, Int.mul_comm]
theorem lcmp_eq (x y : Int64) : (lg_cmp x y).toInt = lCmp x.toInt y.toInt := by
  unfold lg_cmp lCmp
  have e1 : (x > y) ↔ y.toInt < x.toInt := Int64.lt_iff_toInt_lt
  have e2 : x = y ↔ x.toInt = y.toInt := Int64.toInt_inj.symm
  by_cases h1 : y.toInt < x.toInt
  · rw [if_pos (e1.mpr h1), if_neg (by omega), if_neg (by omega)]; rfl
  · rw [if_neg (fun h => h1 (e1.mp h))]
    by_cases h2 : x.toInt = y.toInt
    · rw [if_pos (e2.mpr h2), if_neg (by omega), if_pos h2]; rfl
    · rw [if_neg (fun h => h2 (e2.mp h)), if_pos (by omega)]; rfl
theorem tg_eq {pc : Nat} {off : Int} (h : tgo pc off = true) : (pc : Int) + off = (tg pc off : Int) := by
  have := of_decide_eq_true h
  unfold tg
  omega
section CV
variable {x y : Int} {x1 y1 : Int32}
theorem cv_eq (h : x1.toInt = x) : x1 = 0 ↔ x = 0 := by rw [← h, ← Int32.toInt_inj]; rfl
theorem cv_ne (h : x1.toInt = x) : (¬ x1 = 0) ↔ ¬ x = 0 := by rw [cv_eq h]
theorem cv_lt (h : x1.toInt = x) : x1 < 0 ↔ x < 0 := by rw [← h, Int32.lt_iff_toInt_lt]; rfl
theorem cv_ge (h : x1.toInt = x) : 0 ≤ x1 ↔ ¬ x < 0 := by rw [← h, Int32.le_iff_toInt_le, Int.not_lt]; rfl
theorem cv_gt (h : x1.toInt = x) : 0 < x1 ↔ 0 < x := by rw [← h, Int32.lt_iff_toInt_lt]; rfl
theorem cv_le (h : x1.toInt = x) : x1 ≤ 0 ↔ ¬ 0 < x := by rw [← h, Int32.le_iff_toInt_le, Int.not_lt]; rfl
theorem cv_eq2 (h1 : y1.toInt = y) (h : x1.toInt = x) : x1 = y1 ↔ x = y := by rw [← h, ← h1, ← Int32.toInt_inj]
theorem cv_ne2 (h1 : y1.toInt = y) (h : x1.toInt = x) : (¬ x1 = y1) ↔ ¬ x = y := by rw [cv_eq2 h1 h]
theorem cv_lt2 (h1 : y1.toInt = y) (h : x1.toInt = x) : x1 < y1 ↔ x < y := by rw [← h, ← h1, Int32.lt_iff_toInt_lt]
theorem cv_ge2 (h1 : y1.toInt = y) (h : x1.toInt = x) : y1 ≤ x1 ↔ ¬ x < y := by rw [← h, ← h1, Int32.le_iff_toInt_le, Int.not_lt]
theorem cv_gt2 (h1 : y1.toInt = y) (h : x1.toInt = x) : y1 < x1 ↔ y < x := by rw [← h, ← h1, Int32.lt_iff_toInt_lt]
theorem cv_le2 (h1 : y1.toInt = y) (h : x1.toInt = x) : x1 ≤ y1 ↔ ¬ y < x := by rw [← h, ← h1, Int32.le_iff_toInt_le, Int.not_lt]
end CV
theorem swr_out {pc d : Nat} {x : Int} : ∀ {os : List Int} {lo : Int}, x < lo ∨ lo + os.length ≤ x → sw (swr pc lo os) d x = d
  | [], lo, _ => rfl
  | o :: os, lo, h => by
    have ih := swr_out (pc := pc) (d := d) (x := x) (os := os) (lo := lo + 1) (by simp only [List.length_cons] at h; omega)
    unfold sw at ih ⊢
    unfold swr
    rw [List.lookup_cons]
    have e : (x == lo) = false := beq_eq_false_iff_ne.mpr (by simp only [List.length_cons] at h; omega)
    rw [e]
    exact ih
theorem swr_in {pc d : Nat} {x : Int} : ∀ {os : List Int} {lo : Int} {k : Nat}, x = lo + k → (h : k < os.length) → sw (swr pc lo os) d x = tg pc os[k]
  | [], lo, k, _, h => by simp at h
  | o :: os, lo, 0, e, h => by
    unfold sw swr
    rw [List.lookup_cons]
    have e1 : (x == lo) = true := beq_iff_eq.mpr (by omega)
    rw [e1]
    rfl
  | o :: os, lo, k + 1, e, h => by
    have ih := swr_in (pc := pc) (d := d) (x := x) (os := os) (lo := lo + 1) (k := k) (by omega) (by simpa using h)
    unfold sw at ih ⊢
    unfold swr
    rw [List.lookup_cons]
    have e1 : (x == lo) = false := beq_eq_false_iff_ne.mpr (by omega)
    rw [e1]
    simpa using ih
theorem swl_off {pc : Nat} {d : Int} : ∀ (ps : List (Int × Int)) (x : Int), tgo pc d = true → ps.all (fun q => tgo pc q.2) = true → ∃ off, tgo pc off = true ∧ sw (swl pc ps) (tg pc d) x = tg pc off ∧ Op.lookupswitch.offset ps d x = off
  | [], x, h, _ => ⟨d, h, rfl, rfl⟩
  | (a, o) :: ps, x, h, ha => by
    simp only [List.all_cons, Bool.and_eq_true] at ha
    obtain ⟨off, h1, h2, h3⟩ := swl_off ps x h ha.2
    by_cases e : x = a
    · refine ⟨o, ha.1, ?_, ?_⟩
      · unfold sw swl
        rw [List.map_cons, List.lookup_cons]
        have e1 : (x == a) = true := beq_iff_eq.mpr e
        simp only [e1]
        rfl
      · rw [Op.lookupswitch.offset, if_pos e.symm]
    · refine ⟨off, h1, ?_, ?_⟩
      · unfold sw swl at h2 ⊢
        rw [List.map_cons, List.lookup_cons]
        have e1 : (x == a) = false := beq_eq_false_iff_ne.mpr e
        simp only [e1]
        exact h2
      · show Op.lookupswitch.offset ((a, o) :: ps) d x = off
        rw [Op.lookupswitch.offset, if_neg (fun z => e z.symm)]
        exact h3
/-! EACH INSTRUCTION OF THE DATA IS THE MACHINE'S -/
def gtys (cI cZ cO : Nat) : List (ClassId × FieldType) := [(cI, .int), (cZ, .boolean), (cO, .object RX0)]
/-- a method's end -/
def en (M : Nat) (r : AV) (cst : List Value) (pc : Nat) : Prop :=
  (mk M = 0 ∧ r = vU ∧ cst = [] ∧ decode (mb M) pc = .ok (.return_, 1)) ∨
  ((mk M = 1 ∨ mk M = 2) ∧ ∃ v : Int32, r = vI v.toInt ∧ cst = [.int v] ∧ (mk M = 2 → v = 0 ∨ v = 1) ∧ decode (mb M) pc = .ok (.ireturn, 1)) ∨
  (mk M = 3 ∧ ∃ v : Int64, r = vL v.toInt ∧ cst = [.long v] ∧ decode (mb M) pc = .ok (.lreturn, 1))
/-- the world, the room used, the script -/
def wp (adl0 : List Nat) (bS cI cZ cO L : Nat) (xs : Nat → Int32) (M : Nat) (s : State) (D : va_G) (A : Nat → Prop) (fc fs : Nat) (σ' σ : St) (adl : List Nat) (H : Heap) (locs : List Loc) (cells slots : Nat) : Prop :=
  ∃ ws : va_W, (∃ x, adl = adl0 ++ x) ∧ wd adl bS cI cZ cO σ ws ∧ va_P D vwc ws H ∧ va_D A ws ∧ va_S A s.heap H locs ∧ cells + nn σ' = fc + nn σ ∧ slots + nt σ' = fs + nt σ ∧ nn σ ≤ nn σ' ∧ nt σ ≤ nt σ' ∧ (mo M = 4 → sl σ = L ∧ ∀ j : Nat, j < L → (xs j).toInt = sx σ j)
def cx (p : Program) (R : Room) (s : State) (m : MethodId) (args : Array Value) (meth : Method) (c : Code) (D : va_G) (A : Nat → Prop) (bS cI cZ cO L : Nat) (xs : Nat → Int32) (fc fs M : Nat) : Prop :=
  p.tables.exec = Jvm.exec ∧ c.code = mb M ∧ c.maxLocals = ml M ∧ s.vm.findClass (oS (mo M)) = some m.cls ∧ (∀ w ∈ gw, w.before args s = true) ∧ (∀ w ∈ nst, va_Nw w s) ∧ va_AO RX0 s ∧ ((my M).name = "<init>" → meth.name = "<init>") ∧ va_K D vwc (gtys cI cZ cO) s ∧ (∀ q : Nat, s.heap.size ≤ q → A q) ∧ (mo M = 4 → L < 2 ^ 31 ∧ va_X bS L xs s s.heap ∧ bS < s.heap.size ∧ ¬ A bS) ∧ (mf M ≤ R.frames ∧ mlo M ≤ R.locals ∧ fc ≤ R.cells ∧ fs ≤ R.slots)
def he (p : Program) (l : Launch) (e : Env) (R : Room) (s : State) (m : MethodId) (args : Array Value) (below : List Frame) (meth : Method) (c : Code) (D : va_G) (A : Nat → Prop) (bS cI cZ cO L : Nat) (xs : Nat → Int32) (Q : State → Prop) (adl0 : List Nat) (fc fs M : Nat) (r : AV) (σ' : St) : Prop :=
  ∀ (adl : List Nat) (H : Heap) (locs : List Loc) (als : Array Slot) (cst : List Value) (pc : Nat), wp adl0 bS cI cZ cO L xs M s D A fc fs σ' σ' adl H locs fc fs → en M r cst pc → W p l e R s m args below meth c H locs fc fs Q (F0 m pc als cst)
/-- from here on the machine comes to the method's end, with the answer and store of the run -/
def simAt (M pc : Nat) (ls st : List AV) (σ : St) (r : AV) (σ' : St) : Prop :=
  ∀ (p : Program) (l : Launch) (e : Env) (R : Room) (s : State) (m : MethodId) (args : Array Value) (below : List Frame) (meth : Method) (c : Code) (D : va_G) (A : Nat → Prop) (bS cI cZ cO L : Nat) (xs : Nat → Int32) (Q : State → Prop) (adl0 : List Nat) (fc fs : Nat),
    cx p R s m args meth c D A bS cI cZ cO L xs fc fs M → he p l e R s m args below meth c D A bS cI cZ cO L xs Q adl0 fc fs M r σ' →
    ∀ (adl : List Nat) (H : Heap) (locs : List Loc) (cells slots : Nat) (als : Array Slot) (cst : List Value), wp adl0 bS cI cZ cO L xs M s D A fc fs σ' σ adl H locs cells slots → lr adl bS (ml M) ls als → st2 adl bS st cst → W p l e R s m args below meth c H locs cells slots Q (F0 m pc als cst)

section SI
variable {M pc : Nat} {ls st : List AV} {σ σ' : St} {r : AV}

theorem s_iconst {n : Int} (hn : -1 ≤ n ∧ n ≤ 5) (hd : decode (mb M) pc = .ok (.iconst n, 1)) (hk : simAt M (pc + 1) ls (vI n :: st) σ r σ') : simAt M pc ls st σ r σ' := by
  intro p l e R s m args below meth c D A bS cI cZ cO L xs Q adl0 fc fs C E adl H locs cells slots als cst P hl hs
  refine lv_iconst (v := Int32.ofInt n) C.1 C.2.1 hd rfl ?_
  exact hk p l e R s m args below meth c D A bS cI cZ cO L xs Q adl0 fc fs C E adl H locs cells slots als _ P hl ⟨⟨_, rfl, by exact i32_of (by omega) (by omega)⟩, hs⟩

theorem s_bipush {n : Int} (hn : -128 ≤ n ∧ n ≤ 127) (hd : decode (mb M) pc = .ok (.bipush n, 2)) (hk : simAt M (pc + 2) ls (vI n :: st) σ r σ') : simAt M pc ls st σ r σ' := by
  intro p l e R s m args below meth c D A bS cI cZ cO L xs Q adl0 fc fs C E adl H locs cells slots als cst P hl hs
  refine lv_bipush C.1 C.2.1 hd rfl ?_
  exact hk p l e R s m args below meth c D A bS cI cZ cO L xs Q adl0 fc fs C E adl H locs cells slots als _ P hl ⟨⟨_, rfl, by rw [Int8.toInt_toInt32, Int8.toInt_ofInt]; exact Int.bmod_eq_of_le (by simp [Int8.size]; omega) (by simp [Int8.size]; omega)⟩, hs⟩

theorem s_sipush {n : Int} (hn : -32768 ≤ n ∧ n ≤ 32767) (hd : decode (mb M) pc = .ok (.sipush n, 3)) (hk : simAt M (pc + 3) ls (vI n :: st) σ r σ') : simAt M pc ls st σ r σ' := by
  intro p l e R s m args below meth c D A bS cI cZ cO L xs Q adl0 fc fs C E adl H locs cells slots als cst P hl hs
  refine lv_sipush C.1 C.2.1 hd rfl ?_
  exact hk p l e R s m args below meth c D A bS cI cZ cO L xs Q adl0 fc fs C E adl H locs cells slots als _ P hl ⟨⟨_, rfl, by rw [Int16.toInt_toInt32, Int16.toInt_ofInt]; exact Int.bmod_eq_of_le (by simp [Int16.size]; omega) (by simp [Int16.size]; omega)⟩, hs⟩

theorem s_ldc {i : Nat} {n : Int} (hq : clk.lookup (mo M, i) = some n) (hd : decode (mb M) pc = .ok (.ldc i, 2)) (hk : simAt M (pc + 2) ls (vI n :: st) σ r σ') : simAt M pc ls st σ r σ' := by
  intro p l e R s m args below meth c D A bS cI cZ cO L xs Q adl0 fc fs C E adl H locs cells slots als cst P hl hs
  obtain ⟨f1, f2⟩ := cfacts _ (lookup_mem hq)
  refine lv_ldc C.1 C.2.1 C.2.2.2.1 (C.2.2.2.2.1 _ f1) hd ?_
  exact hk p l e R s m args below meth c D A bS cI cZ cO L xs Q adl0 fc fs C E adl H locs cells slots als _ P hl ⟨⟨_, rfl, f2⟩, hs⟩

theorem s_ldcw {i : Nat} {n : Int} (hq : clk.lookup (mo M, i) = some n) (hd : decode (mb M) pc = .ok (.ldc_w i, 3)) (hk : simAt M (pc + 3) ls (vI n :: st) σ r σ') : simAt M pc ls st σ r σ' := by
  intro p l e R s m args below meth c D A bS cI cZ cO L xs Q adl0 fc fs C E adl H locs cells slots als cst P hl hs
  obtain ⟨f1, f2⟩ := cfacts _ (lookup_mem hq)
  refine lv_ldcw C.1 C.2.1 C.2.2.2.1 (C.2.2.2.2.1 _ f1) hd ?_
  exact hk p l e R s m args below meth c D A bS cI cZ cO L xs Q adl0 fc fs C E adl H locs cells slots als _ P hl ⟨⟨_, rfl, f2⟩, hs⟩

theorem s_ldc2 {i : Nat} {n : Int} (hq : cll.lookup (mo M, i) = some n) (hd : decode (mb M) pc = .ok (.ldc2_w i, 3)) (hk : simAt M (pc + 3) ls (vL n :: st) σ r σ') : simAt M pc ls st σ r σ' := by
  intro p l e R s m args below meth c D A bS cI cZ cO L xs Q adl0 fc fs C E adl H locs cells slots als cst P hl hs
  obtain ⟨f1, f2⟩ := clfacts _ (lookup_mem hq)
  refine lv_ldc2 C.1 C.2.1 C.2.2.2.1 (C.2.2.2.2.1 _ f1) hd ?_
  exact hk p l e R s m args below meth c D A bS cI cZ cO L xs Q adl0 fc fs C E adl H locs cells slots als _ P hl ⟨⟨_, rfl, f2⟩, hs⟩

theorem s_lconst {n : Fin 2} (hd : decode (mb M) pc = .ok (.lconst n, 1)) (hk : simAt M (pc + 1) ls (vL ((n : Nat) : Int) :: st) σ r σ') : simAt M pc ls st σ r σ' := by
  intro p l e R s m args below meth c D A bS cI cZ cO L xs Q adl0 fc fs C E adl H locs cells slots als cst P hl hs
  refine lv_lconst (v := Int64.ofNat (n : Nat)) C.1 C.2.1 hd rfl ?_
  refine hk p l e R s m args below meth c D A bS cI cZ cO L xs Q adl0 fc fs C E adl H locs cells slots als _ P hl ⟨⟨_, rfl, ?_⟩, hs⟩
  rcases n with ⟨n, h⟩
  have h2 : n = 0 ∨ n = 1 := by omega
  rcases h2 with rfl | rfl <;> rfl

theorem s_iload {i : Nat} {z : Int} {q : Nat} (hg : lg ls i = (0, z, q)) (hd : decode (mb M) pc = .ok (.iload i, 2)) (hk : simAt M (pc + 2) ls ((0, z, q) :: st) σ r σ') : simAt M pc ls st σ r σ' := by
  intro p l e R s m args below meth c D A bS cI cZ cO L xs Q adl0 fc fs C E adl H locs cells slots als cst P hl hs
  obtain ⟨v, h1, x, rfl, h2⟩ := lr_get hl hg (Or.inl rfl)
  refine lv_iload C.1 C.2.1 hd  h1 ?_
  exact hk p l e R s m args below meth c D A bS cI cZ cO L xs Q adl0 fc fs C E adl H locs cells slots als _ P hl ⟨⟨_, rfl, h2⟩, hs⟩

theorem s_iload_n {k4 : Fin 4} {z : Int} {q : Nat} (hg : lg ls (k4 : Nat) = (0, z, q)) (hd : decode (mb M) pc = .ok (.iload_n k4, 1)) (hk : simAt M (pc + 1) ls ((0, z, q) :: st) σ r σ') : simAt M pc ls st σ r σ' := by
  intro p l e R s m args below meth c D A bS cI cZ cO L xs Q adl0 fc fs C E adl H locs cells slots als cst P hl hs
  obtain ⟨v, h1, x, rfl, h2⟩ := lr_get hl hg (Or.inl rfl)
  refine lv_iload_n C.1 C.2.1 hd rfl h1 ?_
  exact hk p l e R s m args below meth c D A bS cI cZ cO L xs Q adl0 fc fs C E adl H locs cells slots als _ P hl ⟨⟨_, rfl, h2⟩, hs⟩

theorem s_lload {i : Nat} {z : Int} {q : Nat} (hg : lg ls i = (2, z, q)) (hg2 : lg ls (i + 1) = vH) (hd : decode (mb M) pc = .ok (.lload i, 2)) (hk : simAt M (pc + 2) ls ((2, z, q) :: st) σ r σ') : simAt M pc ls st σ r σ' := by
  intro p l e R s m args below meth c D A bS cI cZ cO L xs Q adl0 fc fs C E adl H locs cells slots als cst P hl hs
  obtain ⟨v, h1, x, rfl, h2⟩ := lr_get2 (y := 0) (q2 := 0) hl hg hg2 rfl
  refine lv_lload C.1 C.2.1 hd  h1 ?_
  exact hk p l e R s m args below meth c D A bS cI cZ cO L xs Q adl0 fc fs C E adl H locs cells slots als _ P hl ⟨⟨_, rfl, h2⟩, hs⟩

theorem s_lload_n {k4 : Fin 4} {z : Int} {q : Nat} (hg : lg ls (k4 : Nat) = (2, z, q)) (hg2 : lg ls ((k4 : Nat) + 1) = vH) (hd : decode (mb M) pc = .ok (.lload_n k4, 1)) (hk : simAt M (pc + 1) ls ((2, z, q) :: st) σ r σ') : simAt M pc ls st σ r σ' := by
  intro p l e R s m args below meth c D A bS cI cZ cO L xs Q adl0 fc fs C E adl H locs cells slots als cst P hl hs
  obtain ⟨v, h1, x, rfl, h2⟩ := lr_get2 (y := 0) (q2 := 0) hl hg hg2 rfl
  refine lv_lload_n C.1 C.2.1 hd rfl h1 ?_
  exact hk p l e R s m args below meth c D A bS cI cZ cO L xs Q adl0 fc fs C E adl H locs cells slots als _ P hl ⟨⟨_, rfl, h2⟩, hs⟩

theorem s_aload {i : Nat} {z : Int} {q : Nat} (hg : lg ls i = (1, z, q)) (hd : decode (mb M) pc = .ok (.aload i, 2)) (hk : simAt M (pc + 2) ls ((1, z, q) :: st) σ r σ') : simAt M pc ls st σ r σ' := by
  intro p l e R s m args below meth c D A bS cI cZ cO L xs Q adl0 fc fs C E adl H locs cells slots als cst P hl hs
  obtain ⟨v, h1, h2⟩ := lr_get hl hg (Or.inr (Or.inl rfl))
  rcases h2 with ⟨h3, rfl⟩ | ⟨a, h3, h4, rfl⟩
  · refine lv_aloadN C.1 C.2.1 hd  h1 ?_
    exact hk p l e R s m args below meth c D A bS cI cZ cO L xs Q adl0 fc fs C E adl H locs cells slots als _ P hl ⟨Or.inl ⟨h3, rfl⟩, hs⟩
  · refine lv_aload C.1 C.2.1 hd  h1 ?_
    exact hk p l e R s m args below meth c D A bS cI cZ cO L xs Q adl0 fc fs C E adl H locs cells slots als _ P hl ⟨Or.inr ⟨a, h3, h4, rfl⟩, hs⟩

theorem s_aloadS {i : Nat} {z : Int} {q : Nat} (hg : lg ls i = (5, z, q)) (hd : decode (mb M) pc = .ok (.aload i, 2)) (hk : simAt M (pc + 2) ls ((5, z, q) :: st) σ r σ') : simAt M pc ls st σ r σ' := by
  intro p l e R s m args below meth c D A bS cI cZ cO L xs Q adl0 fc fs C E adl H locs cells slots als cst P hl hs
  obtain ⟨v, h1, h2⟩ := lr_get hl hg (Or.inr (Or.inr rfl))
  cases h2
  refine lv_aload C.1 C.2.1 hd  h1 ?_
  exact hk p l e R s m args below meth c D A bS cI cZ cO L xs Q adl0 fc fs C E adl H locs cells slots als _ P hl ⟨rfl, hs⟩

theorem s_istore {i : Nat} (hi : i < ml M) {z : Int} {q : Nat} (hd : decode (mb M) pc = .ok (.istore i, 2)) (hk : simAt M (pc + 2) (ls.set i (0, z, q)) st σ r σ') : simAt M pc ls ((0, z, q) :: st) σ r σ' := by
  intro p l e R s m args below meth c D A bS cI cZ cO L xs Q adl0 fc fs C E adl H locs cells slots als cst P hl hs
  have hs0 := st2_cons hs
  clear hs
  obtain ⟨v1, cst, rfl, ⟨x, rfl, h1⟩, hs⟩ := hs0
  refine lv_istore C.1 C.2.1 hd  (lvl_has hl.1 hl.2.1) hi rfl (fun als2 h2 => ?_)
  exact hk p l e R s m args below meth c D A bS cI cZ cO L xs Q adl0 fc fs C E adl H locs cells slots als2 _ P (lr_set1 hl hi (Or.inl rfl) ⟨x, rfl, h1⟩ h2) hs

theorem s_astore {i : Nat} (hi : i < ml M) {z : Int} {q : Nat} (hd : decode (mb M) pc = .ok (.astore i, 2)) (hk : simAt M (pc + 2) (ls.set i (1, z, q)) st σ r σ') : simAt M pc ls ((1, z, q) :: st) σ r σ' := by
  intro p l e R s m args below meth c D A bS cI cZ cO L xs Q adl0 fc fs C E adl H locs cells slots als cst P hl hs
  have hs0 := st2_cons hs
  clear hs
  obtain ⟨v1, cst, rfl, h1, hs⟩ := hs0
  rcases id h1 with ⟨h3, rfl⟩ | ⟨a, h3, h4, rfl⟩
  · refine lv_astoreN C.1 C.2.1 hd  (lvl_has hl.1 hl.2.1) hi rfl (fun als2 h2 => ?_)
    exact hk p l e R s m args below meth c D A bS cI cZ cO L xs Q adl0 fc fs C E adl H locs cells slots als2 _ P (lr_set1 hl hi (Or.inr rfl) h1 h2) hs
  · refine lv_astore C.1 C.2.1 hd  (lvl_has hl.1 hl.2.1) hi rfl (fun als2 h2 => ?_)
    exact hk p l e R s m args below meth c D A bS cI cZ cO L xs Q adl0 fc fs C E adl H locs cells slots als2 _ P (lr_set1 hl hi (Or.inr rfl) h1 h2) hs

theorem s_lstore {i : Nat} (hi : i + 1 < ml M) {z : Int} {q : Nat} (hd : decode (mb M) pc = .ok (.lstore i, 2)) (hk : simAt M (pc + 2) ((ls.set i (2, z, q)).set (i + 1) vH) st σ r σ') : simAt M pc ls ((2, z, q) :: st) σ r σ' := by
  intro p l e R s m args below meth c D A bS cI cZ cO L xs Q adl0 fc fs C E adl H locs cells slots als cst P hl hs
  have hs0 := st2_cons hs
  clear hs
  obtain ⟨v1, cst, rfl, ⟨x, rfl, h1⟩, hs⟩ := hs0
  refine lv_lstore C.1 C.2.1 hd  (lvl_has hl.1 hl.2.1) hi rfl (fun als2 h2 => ?_)
  exact hk p l e R s m args below meth c D A bS cI cZ cO L xs Q adl0 fc fs C E adl H locs cells slots als2 _ P (lr_set2 hl hi ⟨x, rfl, h1⟩ h2) hs

theorem s_aload_n {k4 : Fin 4} {z : Int} {q : Nat} (hg : lg ls (k4 : Nat) = (1, z, q)) (hd : decode (mb M) pc = .ok (.aload_n k4, 1)) (hk : simAt M (pc + 1) ls ((1, z, q) :: st) σ r σ') : simAt M pc ls st σ r σ' := by
  intro p l e R s m args below meth c D A bS cI cZ cO L xs Q adl0 fc fs C E adl H locs cells slots als cst P hl hs
  obtain ⟨v, h1, h2⟩ := lr_get hl hg (Or.inr (Or.inl rfl))
  rcases h2 with ⟨h3, rfl⟩ | ⟨a, h3, h4, rfl⟩
  · refine lv_aload_nN C.1 C.2.1 hd rfl h1 ?_
    exact hk p l e R s m args below meth c D A bS cI cZ cO L xs Q adl0 fc fs C E adl H locs cells slots als _ P hl ⟨Or.inl ⟨h3, rfl⟩, hs⟩
  · refine lv_aload_n C.1 C.2.1 hd rfl h1 ?_
    exact hk p l e R s m args below meth c D A bS cI cZ cO L xs Q adl0 fc fs C E adl H locs cells slots als _ P hl ⟨Or.inr ⟨a, h3, h4, rfl⟩, hs⟩

theorem s_aloadS_n {k4 : Fin 4} {z : Int} {q : Nat} (hg : lg ls (k4 : Nat) = (5, z, q)) (hd : decode (mb M) pc = .ok (.aload_n k4, 1)) (hk : simAt M (pc + 1) ls ((5, z, q) :: st) σ r σ') : simAt M pc ls st σ r σ' := by
  intro p l e R s m args below meth c D A bS cI cZ cO L xs Q adl0 fc fs C E adl H locs cells slots als cst P hl hs
  obtain ⟨v, h1, h2⟩ := lr_get hl hg (Or.inr (Or.inr rfl))
  cases h2
  refine lv_aload_n C.1 C.2.1 hd rfl h1 ?_
  exact hk p l e R s m args below meth c D A bS cI cZ cO L xs Q adl0 fc fs C E adl H locs cells slots als _ P hl ⟨rfl, hs⟩

theorem s_istore_n {k4 : Fin 4} (hi : (k4 : Nat) < ml M) {z : Int} {q : Nat} (hd : decode (mb M) pc = .ok (.istore_n k4, 1)) (hk : simAt M (pc + 1) (ls.set (k4 : Nat) (0, z, q)) st σ r σ') : simAt M pc ls ((0, z, q) :: st) σ r σ' := by
  intro p l e R s m args below meth c D A bS cI cZ cO L xs Q adl0 fc fs C E adl H locs cells slots als cst P hl hs
  have hs0 := st2_cons hs
  clear hs
  obtain ⟨v1, cst, rfl, ⟨x, rfl, h1⟩, hs⟩ := hs0
  refine lv_istore_n C.1 C.2.1 hd rfl (lvl_has hl.1 hl.2.1) hi rfl (fun als2 h2 => ?_)
  exact hk p l e R s m args below meth c D A bS cI cZ cO L xs Q adl0 fc fs C E adl H locs cells slots als2 _ P (lr_set1 hl hi (Or.inl rfl) ⟨x, rfl, h1⟩ h2) hs

theorem s_astore_n {k4 : Fin 4} (hi : (k4 : Nat) < ml M) {z : Int} {q : Nat} (hd : decode (mb M) pc = .ok (.astore_n k4, 1)) (hk : simAt M (pc + 1) (ls.set (k4 : Nat) (1, z, q)) st σ r σ') : simAt M pc ls ((1, z, q) :: st) σ r σ' := by
  intro p l e R s m args below meth c D A bS cI cZ cO L xs Q adl0 fc fs C E adl H locs cells slots als cst P hl hs
  have hs0 := st2_cons hs
  clear hs
  obtain ⟨v1, cst, rfl, h1, hs⟩ := hs0
  rcases id h1 with ⟨h3, rfl⟩ | ⟨a, h3, h4, rfl⟩
  · refine lv_astore_nN C.1 C.2.1 hd rfl (lvl_has hl.1 hl.2.1) hi rfl (fun als2 h2 => ?_)
    exact hk p l e R s m args below meth c D A bS cI cZ cO L xs Q adl0 fc fs C E adl H locs cells slots als2 _ P (lr_set1 hl hi (Or.inr rfl) h1 h2) hs
  · refine lv_astore_n C.1 C.2.1 hd rfl (lvl_has hl.1 hl.2.1) hi rfl (fun als2 h2 => ?_)
    exact hk p l e R s m args below meth c D A bS cI cZ cO L xs Q adl0 fc fs C E adl H locs cells slots als2 _ P (lr_set1 hl hi (Or.inr rfl) h1 h2) hs

theorem s_lstore_n {k4 : Fin 4} (hi : (k4 : Nat) + 1 < ml M) {z : Int} {q : Nat} (hd : decode (mb M) pc = .ok (.lstore_n k4, 1)) (hk : simAt M (pc + 1) ((ls.set (k4 : Nat) (2, z, q)).set ((k4 : Nat) + 1) vH) st σ r σ') : simAt M pc ls ((2, z, q) :: st) σ r σ' := by
  intro p l e R s m args below meth c D A bS cI cZ cO L xs Q adl0 fc fs C E adl H locs cells slots als cst P hl hs
  have hs0 := st2_cons hs
  clear hs
  obtain ⟨v1, cst, rfl, ⟨x, rfl, h1⟩, hs⟩ := hs0
  refine lv_lstore_n C.1 C.2.1 hd rfl (lvl_has hl.1 hl.2.1) hi rfl (fun als2 h2 => ?_)
  exact hk p l e R s m args below meth c D A bS cI cZ cO L xs Q adl0 fc fs C E adl H locs cells slots als2 _ P (lr_set2 hl hi ⟨x, rfl, h1⟩ h2) hs

theorem s_iinc {i : Nat} {n : Int} (hn : -128 ≤ n ∧ n ≤ 127) {z : Int} {q : Nat} (hi : i < ml M) (hg : lg ls i = (0, z, q)) (hd : decode (mb M) pc = .ok (.iinc i n, 3)) (hk : simAt M (pc + 3) (ls.set i (vI (wr (z + n)))) st σ r σ') : simAt M pc ls st σ r σ' := by
  intro p l e R s m args below meth c D A bS cI cZ cO L xs Q adl0 fc fs C E adl H locs cells slots als cst P hl hs
  obtain ⟨v, h1, x, rfl, h2⟩ := lr_get hl hg (Or.inl rfl)
  obtain ⟨k, hk0⟩ := List.getElem?_of_mem (lvl_mem.mpr h1)
  refine lv_iinc C.1 C.2.1 hd (lvl_has hl.1 hl.2.1) hk0 rfl hi rfl (fun als2 h3 => ?_)
  exact hk p l e R s m args below meth c D A bS cI cZ cO L xs Q adl0 fc fs C E adl H locs cells slots als2 _ P (lr_set1 hl hi (Or.inl rfl) ⟨_, rfl, by rw [Int32.toInt_add, h2, Int32.toInt_ofInt, wr_def]; rw [show (2 : Nat) ^ 32 = 4294967296 from rfl]; simp [Int32.size, Int.add_bmod_bmod]⟩ h3) hs

theorem s_dup0 {z : Int} {q : Nat} (hd : decode (mb M) pc = .ok (.dup, 1)) (hk : simAt M (pc + 1) ls ((0, z, q) :: (0, z, q) :: st) σ r σ') : simAt M pc ls ((0, z, q) :: st) σ r σ' := by
  intro p l e R s m args below meth c D A bS cI cZ cO L xs Q adl0 fc fs C E adl H locs cells slots als cst P hl hs
  have hs0 := st2_cons hs
  clear hs
  obtain ⟨v1, cst, rfl, ⟨x, rfl, h1⟩, hs⟩ := hs0
  refine lv_dup C.1 C.2.1 hd rfl ?_
  exact hk p l e R s m args below meth c D A bS cI cZ cO L xs Q adl0 fc fs C E adl H locs cells slots als _ P hl ⟨⟨x, rfl, h1⟩, ⟨x, rfl, h1⟩, hs⟩

theorem s_dup1 {z : Int} {q : Nat} (hd : decode (mb M) pc = .ok (.dup, 1)) (hk : simAt M (pc + 1) ls ((1, z, q) :: (1, z, q) :: st) σ r σ') : simAt M pc ls ((1, z, q) :: st) σ r σ' := by
  intro p l e R s m args below meth c D A bS cI cZ cO L xs Q adl0 fc fs C E adl H locs cells slots als cst P hl hs
  have hs0 := st2_cons hs
  clear hs
  obtain ⟨v1, cst, rfl, h1, hs⟩ := hs0
  refine lv_dup C.1 C.2.1 hd (by rcases h1 with ⟨-, rfl⟩ | ⟨a, -, -, rfl⟩ <;> rfl) ?_
  exact hk p l e R s m args below meth c D A bS cI cZ cO L xs Q adl0 fc fs C E adl H locs cells slots als _ P hl ⟨h1, h1, hs⟩

theorem s_dup2 {y x : Int} {q p1 : Nat} (hd : decode (mb M) pc = .ok (.dup2, 1)) (hk : simAt M (pc + 1) ls ((0, y, q) :: (1, x, p1) :: (0, y, q) :: (1, x, p1) :: st) σ r σ') : simAt M pc ls ((0, y, q) :: (1, x, p1) :: st) σ r σ' := by
  intro p l e R s m args below meth c D A bS cI cZ cO L xs Q adl0 fc fs C E adl H locs cells slots als cst P hl hs
  have hs0 := st2_cons hs
  clear hs
  obtain ⟨v1, cst, rfl, ⟨y1, rfl, h1⟩, hs⟩ := hs0
  have hs0 := st2_cons hs
  clear hs
  obtain ⟨v2, cst, rfl, h2, hs⟩ := hs0
  refine lv_dup2_11 C.1 C.2.1 hd rfl (by rcases h2 with ⟨-, rfl⟩ | ⟨a, -, -, rfl⟩ <;> rfl) ?_
  exact hk p l e R s m args below meth c D A bS cI cZ cO L xs Q adl0 fc fs C E adl H locs cells slots als _ P hl ⟨⟨y1, rfl, h1⟩, h2, ⟨y1, rfl, h1⟩, h2, hs⟩

theorem s_iadd {y x : Int} {q1 q2 : Nat} (hd : decode (mb M) pc = .ok (.iadd, 1)) (hk : simAt M (pc + 1) ls (vI (wr (x + y)) :: st) σ r σ') : simAt M pc ls ((0, y, q1) :: (0, x, q2) :: st) σ r σ' := by
  intro p l e R s m args below meth c D A bS cI cZ cO L xs Q adl0 fc fs C E adl H locs cells slots als cst P hl hs
  have hs0 := st2_cons hs
  clear hs
  obtain ⟨v1, cst, rfl, ⟨y1, rfl, h1⟩, hs⟩ := hs0
  have hs0 := st2_cons hs
  clear hs
  obtain ⟨v2, cst, rfl, ⟨x1, rfl, h2⟩, hs⟩ := hs0
  refine lv_iadd C.1 C.2.1 hd ?_
  exact hk p l e R s m args below meth c D A bS cI cZ cO L xs Q adl0 fc fs C E adl H locs cells slots als _ P hl ⟨⟨_, rfl, by rw [Int32.toInt_add, h1, h2]; exact (wr_def _).symm⟩, hs⟩

theorem s_isub {y x : Int} {q1 q2 : Nat} (hd : decode (mb M) pc = .ok (.isub, 1)) (hk : simAt M (pc + 1) ls (vI (wr (x - y)) :: st) σ r σ') : simAt M pc ls ((0, y, q1) :: (0, x, q2) :: st) σ r σ' := by
  intro p l e R s m args below meth c D A bS cI cZ cO L xs Q adl0 fc fs C E adl H locs cells slots als cst P hl hs
  have hs0 := st2_cons hs
  clear hs
  obtain ⟨v1, cst, rfl, ⟨y1, rfl, h1⟩, hs⟩ := hs0
  have hs0 := st2_cons hs
  clear hs
  obtain ⟨v2, cst, rfl, ⟨x1, rfl, h2⟩, hs⟩ := hs0
  refine lv_isub C.1 C.2.1 hd ?_
  exact hk p l e R s m args below meth c D A bS cI cZ cO L xs Q adl0 fc fs C E adl H locs cells slots als _ P hl ⟨⟨_, rfl, by rw [Int32.toInt_sub, h1, h2]; exact (wr_def _).symm⟩, hs⟩

theorem s_imul {y x : Int} {q1 q2 : Nat} (hd : decode (mb M) pc = .ok (.imul, 1)) (hk : simAt M (pc + 1) ls (vI (wr (x * y)) :: st) σ r σ') : simAt M pc ls ((0, y, q1) :: (0, x, q2) :: st) σ r σ' := by
  intro p l e R s m args below meth c D A bS cI cZ cO L xs Q adl0 fc fs C E adl H locs cells slots als cst P hl hs
  have hs0 := st2_cons hs
  clear hs
  obtain ⟨v1, cst, rfl, ⟨y1, rfl, h1⟩, hs⟩ := hs0
  have hs0 := st2_cons hs
  clear hs
  obtain ⟨v2, cst, rfl, ⟨x1, rfl, h2⟩, hs⟩ := hs0
  refine lv_imul C.1 C.2.1 hd ?_
  exact hk p l e R s m args below meth c D A bS cI cZ cO L xs Q adl0 fc fs C E adl H locs cells slots als _ P hl ⟨⟨_, rfl, by rw [Int32.toInt_mul, h1, h2]; exact (wr_def _).symm⟩, hs⟩

theorem s_idiv {y x : Int} {q1 q2 : Nat} (hne : ¬ y = 0) (hd : decode (mb M) pc = .ok (.idiv, 1)) (hk : simAt M (pc + 1) ls (vI (wr (x.tdiv y)) :: st) σ r σ') : simAt M pc ls ((0, y, q1) :: (0, x, q2) :: st) σ r σ' := by
  intro p l e R s m args below meth c D A bS cI cZ cO L xs Q adl0 fc fs C E adl H locs cells slots als cst P hl hs
  have hs0 := st2_cons hs
  clear hs
  obtain ⟨v1, cst, rfl, ⟨y1, rfl, h1⟩, hs⟩ := hs0
  have hs0 := st2_cons hs
  clear hs
  obtain ⟨v2, cst, rfl, ⟨x1, rfl, h2⟩, hs⟩ := hs0
  refine lv_idiv C.1 C.2.1 hd (fun q => hne (by rw [← h1, q]; rfl)) ?_
  exact hk p l e R s m args below meth c D A bS cI cZ cO L xs Q adl0 fc fs C E adl H locs cells slots als _ P hl ⟨⟨_, rfl, by rw [Int32.toInt_div, h1, h2]; exact (wr_def _).symm⟩, hs⟩

theorem s_irem {y x : Int} {q1 q2 : Nat} (hne : ¬ y = 0) (hd : decode (mb M) pc = .ok (.irem, 1)) (hk : simAt M (pc + 1) ls (vI (wr (x.tmod y)) :: st) σ r σ') : simAt M pc ls ((0, y, q1) :: (0, x, q2) :: st) σ r σ' := by
  intro p l e R s m args below meth c D A bS cI cZ cO L xs Q adl0 fc fs C E adl H locs cells slots als cst P hl hs
  have hs0 := st2_cons hs
  clear hs
  obtain ⟨v1, cst, rfl, ⟨y1, rfl, h1⟩, hs⟩ := hs0
  have hs0 := st2_cons hs
  clear hs
  obtain ⟨v2, cst, rfl, ⟨x1, rfl, h2⟩, hs⟩ := hs0
  refine lv_irem C.1 C.2.1 hd (fun q => hne (by rw [← h1, q]; rfl)) ?_
  exact hk p l e R s m args below meth c D A bS cI cZ cO L xs Q adl0 fc fs C E adl H locs cells slots als _ P hl ⟨⟨_, rfl, by rw [Int32.toInt_sub, Int32.toInt_mul, Int32.toInt_div, h1, h2]; exact wr_rem x y⟩, hs⟩

theorem s_ishl {y x : Int} {q1 q2 : Nat} (hd : decode (mb M) pc = .ok (.ishl, 1)) (hk : simAt M (pc + 1) ls (vI (bShl x y) :: st) σ r σ') : simAt M pc ls ((0, y, q1) :: (0, x, q2) :: st) σ r σ' := by
  intro p l e R s m args below meth c D A bS cI cZ cO L xs Q adl0 fc fs C E adl H locs cells slots als cst P hl hs
  have hs0 := st2_cons hs
  clear hs
  obtain ⟨v1, cst, rfl, ⟨y1, rfl, h1⟩, hs⟩ := hs0
  have hs0 := st2_cons hs
  clear hs
  obtain ⟨v2, cst, rfl, ⟨x1, rfl, h2⟩, hs⟩ := hs0
  refine lv_ishl C.1 C.2.1 hd ?_
  exact hk p l e R s m args below meth c D A bS cI cZ cO L xs Q adl0 fc fs C E adl H locs cells slots als _ P hl ⟨⟨_, rfl, by rw [bShl_def, ← h1, ← h2, Int32.ofInt_toInt, Int32.ofInt_toInt]⟩, hs⟩

theorem s_ishr {y x : Int} {q1 q2 : Nat} (hd : decode (mb M) pc = .ok (.ishr, 1)) (hk : simAt M (pc + 1) ls (vI (bShr x y) :: st) σ r σ') : simAt M pc ls ((0, y, q1) :: (0, x, q2) :: st) σ r σ' := by
  intro p l e R s m args below meth c D A bS cI cZ cO L xs Q adl0 fc fs C E adl H locs cells slots als cst P hl hs
  have hs0 := st2_cons hs
  clear hs
  obtain ⟨v1, cst, rfl, ⟨y1, rfl, h1⟩, hs⟩ := hs0
  have hs0 := st2_cons hs
  clear hs
  obtain ⟨v2, cst, rfl, ⟨x1, rfl, h2⟩, hs⟩ := hs0
  refine lv_ishr C.1 C.2.1 hd ?_
  exact hk p l e R s m args below meth c D A bS cI cZ cO L xs Q adl0 fc fs C E adl H locs cells slots als _ P hl ⟨⟨_, rfl, by rw [bShr_def, ← h1, ← h2, Int32.ofInt_toInt, Int32.ofInt_toInt]⟩, hs⟩

theorem s_iand {y x : Int} {q1 q2 : Nat} (hd : decode (mb M) pc = .ok (.iand, 1)) (hk : simAt M (pc + 1) ls (vI (bAnd x y) :: st) σ r σ') : simAt M pc ls ((0, y, q1) :: (0, x, q2) :: st) σ r σ' := by
  intro p l e R s m args below meth c D A bS cI cZ cO L xs Q adl0 fc fs C E adl H locs cells slots als cst P hl hs
  have hs0 := st2_cons hs
  clear hs
  obtain ⟨v1, cst, rfl, ⟨y1, rfl, h1⟩, hs⟩ := hs0
  have hs0 := st2_cons hs
  clear hs
  obtain ⟨v2, cst, rfl, ⟨x1, rfl, h2⟩, hs⟩ := hs0
  refine lv_iand C.1 C.2.1 hd ?_
  exact hk p l e R s m args below meth c D A bS cI cZ cO L xs Q adl0 fc fs C E adl H locs cells slots als _ P hl ⟨⟨_, rfl, by rw [bAnd_def, ← h1, ← h2, Int32.ofInt_toInt, Int32.ofInt_toInt]⟩, hs⟩

theorem s_ior {y x : Int} {q1 q2 : Nat} (hd : decode (mb M) pc = .ok (.ior, 1)) (hk : simAt M (pc + 1) ls (vI (bOr x y) :: st) σ r σ') : simAt M pc ls ((0, y, q1) :: (0, x, q2) :: st) σ r σ' := by
  intro p l e R s m args below meth c D A bS cI cZ cO L xs Q adl0 fc fs C E adl H locs cells slots als cst P hl hs
  have hs0 := st2_cons hs
  clear hs
  obtain ⟨v1, cst, rfl, ⟨y1, rfl, h1⟩, hs⟩ := hs0
  have hs0 := st2_cons hs
  clear hs
  obtain ⟨v2, cst, rfl, ⟨x1, rfl, h2⟩, hs⟩ := hs0
  refine lv_ior C.1 C.2.1 hd ?_
  exact hk p l e R s m args below meth c D A bS cI cZ cO L xs Q adl0 fc fs C E adl H locs cells slots als _ P hl ⟨⟨_, rfl, by rw [bOr_def, ← h1, ← h2, Int32.ofInt_toInt, Int32.ofInt_toInt]⟩, hs⟩

theorem s_ixor {y x : Int} {q1 q2 : Nat} (hd : decode (mb M) pc = .ok (.ixor, 1)) (hk : simAt M (pc + 1) ls (vI (bXor x y) :: st) σ r σ') : simAt M pc ls ((0, y, q1) :: (0, x, q2) :: st) σ r σ' := by
  intro p l e R s m args below meth c D A bS cI cZ cO L xs Q adl0 fc fs C E adl H locs cells slots als cst P hl hs
  have hs0 := st2_cons hs
  clear hs
  obtain ⟨v1, cst, rfl, ⟨y1, rfl, h1⟩, hs⟩ := hs0
  have hs0 := st2_cons hs
  clear hs
  obtain ⟨v2, cst, rfl, ⟨x1, rfl, h2⟩, hs⟩ := hs0
  refine lv_ixor C.1 C.2.1 hd ?_
  exact hk p l e R s m args below meth c D A bS cI cZ cO L xs Q adl0 fc fs C E adl H locs cells slots als _ P hl ⟨⟨_, rfl, by rw [bXor_def, ← h1, ← h2, Int32.ofInt_toInt, Int32.ofInt_toInt]⟩, hs⟩

theorem s_iushr {y x : Int} {q1 q2 : Nat} (hd : decode (mb M) pc = .ok (.iushr, 1)) (hk : simAt M (pc + 1) ls (vI (bUsh x y) :: st) σ r σ') : simAt M pc ls ((0, y, q1) :: (0, x, q2) :: st) σ r σ' := by
  intro p l e R s m args below meth c D A bS cI cZ cO L xs Q adl0 fc fs C E adl H locs cells slots als cst P hl hs
  have hs0 := st2_cons hs
  clear hs
  obtain ⟨v1, cst, rfl, ⟨y1, rfl, h1⟩, hs⟩ := hs0
  have hs0 := st2_cons hs
  clear hs
  obtain ⟨v2, cst, rfl, ⟨x1, rfl, h2⟩, hs⟩ := hs0
  refine lv_iushr C.1 C.2.1 hd rfl ?_
  exact hk p l e R s m args below meth c D A bS cI cZ cO L xs Q adl0 fc fs C E adl H locs cells slots als _ P hl ⟨⟨_, rfl, by rw [bUsh_def, ← h1, ← h2, Int32.ofInt_toInt, Int32.ofInt_toInt]⟩, hs⟩

theorem s_ineg {x : Int} {q1 : Nat} (hd : decode (mb M) pc = .ok (.ineg, 1)) (hk : simAt M (pc + 1) ls (vI (wr (-x)) :: st) σ r σ') : simAt M pc ls ((0, x, q1) :: st) σ r σ' := by
  intro p l e R s m args below meth c D A bS cI cZ cO L xs Q adl0 fc fs C E adl H locs cells slots als cst P hl hs
  have hs0 := st2_cons hs
  clear hs
  obtain ⟨v1, cst, rfl, ⟨x1, rfl, h1⟩, hs⟩ := hs0
  refine lv_ineg C.1 C.2.1 hd ?_
  exact hk p l e R s m args below meth c D A bS cI cZ cO L xs Q adl0 fc fs C E adl H locs cells slots als _ P hl ⟨⟨_, rfl, by rw [Int32.toInt_neg, h1]; exact (wr_def _).symm⟩, hs⟩

theorem s_ladd {y x : Int} {q1 q2 : Nat} (hd : decode (mb M) pc = .ok (.ladd, 1)) (hk : simAt M (pc + 1) ls (vL (wl (x + y)) :: st) σ r σ') : simAt M pc ls ((2, y, q1) :: (2, x, q2) :: st) σ r σ' := by
  intro p l e R s m args below meth c D A bS cI cZ cO L xs Q adl0 fc fs C E adl H locs cells slots als cst P hl hs
  have hs0 := st2_cons hs
  clear hs
  obtain ⟨v1, cst, rfl, ⟨y1, rfl, h1⟩, hs⟩ := hs0
  have hs0 := st2_cons hs
  clear hs
  obtain ⟨v2, cst, rfl, ⟨x1, rfl, h2⟩, hs⟩ := hs0
  refine lv_ladd C.1 C.2.1 hd ?_
  exact hk p l e R s m args below meth c D A bS cI cZ cO L xs Q adl0 fc fs C E adl H locs cells slots als _ P hl ⟨⟨_, rfl, by rw [Int64.toInt_add, h1, h2]; exact (wl_def _).symm⟩, hs⟩

theorem s_lmul {y x : Int} {q1 q2 : Nat} (hd : decode (mb M) pc = .ok (.lmul, 1)) (hk : simAt M (pc + 1) ls (vL (wl (x * y)) :: st) σ r σ') : simAt M pc ls ((2, y, q1) :: (2, x, q2) :: st) σ r σ' := by
  intro p l e R s m args below meth c D A bS cI cZ cO L xs Q adl0 fc fs C E adl H locs cells slots als cst P hl hs
  have hs0 := st2_cons hs
  clear hs
  obtain ⟨v1, cst, rfl, ⟨y1, rfl, h1⟩, hs⟩ := hs0
  have hs0 := st2_cons hs
  clear hs
  obtain ⟨v2, cst, rfl, ⟨x1, rfl, h2⟩, hs⟩ := hs0
  refine lv_lmul C.1 C.2.1 hd ?_
  exact hk p l e R s m args below meth c D A bS cI cZ cO L xs Q adl0 fc fs C E adl H locs cells slots als _ P hl ⟨⟨_, rfl, by rw [Int64.toInt_mul, h1, h2]; exact (wl_def _).symm⟩, hs⟩

theorem s_ldiv {y x : Int} {q1 q2 : Nat} (hne : ¬ y = 0) (hd : decode (mb M) pc = .ok (.ldiv, 1)) (hk : simAt M (pc + 1) ls (vL (wl (x.tdiv y)) :: st) σ r σ') : simAt M pc ls ((2, y, q1) :: (2, x, q2) :: st) σ r σ' := by
  intro p l e R s m args below meth c D A bS cI cZ cO L xs Q adl0 fc fs C E adl H locs cells slots als cst P hl hs
  have hs0 := st2_cons hs
  clear hs
  obtain ⟨v1, cst, rfl, ⟨y1, rfl, h1⟩, hs⟩ := hs0
  have hs0 := st2_cons hs
  clear hs
  obtain ⟨v2, cst, rfl, ⟨x1, rfl, h2⟩, hs⟩ := hs0
  refine lv_ldiv C.1 C.2.1 hd (fun q => hne (by rw [← h1, q]; rfl)) ?_
  exact hk p l e R s m args below meth c D A bS cI cZ cO L xs Q adl0 fc fs C E adl H locs cells slots als _ P hl ⟨⟨_, rfl, by rw [Int64.toInt_div, h1, h2]; exact (wl_def _).symm⟩, hs⟩

theorem s_lrem {y x : Int} {q1 q2 : Nat} (hne : ¬ y = 0) (hd : decode (mb M) pc = .ok (.lrem, 1)) (hk : simAt M (pc + 1) ls (vL (wl (x.tmod y)) :: st) σ r σ') : simAt M pc ls ((2, y, q1) :: (2, x, q2) :: st) σ r σ' := by
  intro p l e R s m args below meth c D A bS cI cZ cO L xs Q adl0 fc fs C E adl H locs cells slots als cst P hl hs
  have hs0 := st2_cons hs
  clear hs
  obtain ⟨v1, cst, rfl, ⟨y1, rfl, h1⟩, hs⟩ := hs0
  have hs0 := st2_cons hs
  clear hs
  obtain ⟨v2, cst, rfl, ⟨x1, rfl, h2⟩, hs⟩ := hs0
  refine lv_lrem C.1 C.2.1 hd (fun q => hne (by rw [← h1, q]; rfl)) ?_
  exact hk p l e R s m args below meth c D A bS cI cZ cO L xs Q adl0 fc fs C E adl H locs cells slots als _ P hl ⟨⟨_, rfl, by rw [Int64.toInt_sub, Int64.toInt_mul, Int64.toInt_div, h1, h2]; exact wl_rem x y⟩, hs⟩

theorem s_lcmp {y x : Int} {q1 q2 : Nat} (hd : decode (mb M) pc = .ok (.lcmp, 1)) (hk : simAt M (pc + 1) ls (vI (lCmp x y) :: st) σ r σ') : simAt M pc ls ((2, y, q1) :: (2, x, q2) :: st) σ r σ' := by
  intro p l e R s m args below meth c D A bS cI cZ cO L xs Q adl0 fc fs C E adl H locs cells slots als cst P hl hs
  have hs0 := st2_cons hs
  clear hs
  obtain ⟨v1, cst, rfl, ⟨y1, rfl, h1⟩, hs⟩ := hs0
  have hs0 := st2_cons hs
  clear hs
  obtain ⟨v2, cst, rfl, ⟨x1, rfl, h2⟩, hs⟩ := hs0
  refine W.lcmp C.1 C.2.1 hd ?_
  exact hk p l e R s m args below meth c D A bS cI cZ cO L xs Q adl0 fc fs C E adl H locs cells slots als _ P hl ⟨⟨_, rfl, by rw [← h1, ← h2]; exact lcmp_eq _ _⟩, hs⟩

theorem s_i2l {x : Int} {q1 : Nat} (hd : decode (mb M) pc = .ok (.i2l, 1)) (hk : simAt M (pc + 1) ls (vL x :: st) σ r σ') : simAt M pc ls ((0, x, q1) :: st) σ r σ' := by
  intro p l e R s m args below meth c D A bS cI cZ cO L xs Q adl0 fc fs C E adl H locs cells slots als cst P hl hs
  have hs0 := st2_cons hs
  clear hs
  obtain ⟨v1, cst, rfl, ⟨x1, rfl, h1⟩, hs⟩ := hs0
  refine lv_i2l C.1 C.2.1 hd rfl ?_
  exact hk p l e R s m args below meth c D A bS cI cZ cO L xs Q adl0 fc fs C E adl H locs cells slots als _ P hl ⟨⟨_, rfl, by rw [Int32.toInt_toInt64, h1]⟩, hs⟩

theorem s_if_eq {x : Int} {q2 : Nat} {off : Int} (ho : tgo pc off = true) (hd : decode (mb M) pc = .ok (.ifCond .eq off, 3)) (hp : x = 0 → simAt M (tg pc off) ls st σ r σ') (hq : ¬ x = 0 → simAt M (pc + 3) ls st σ r σ') : simAt M pc ls ((0, x, q2) :: st) σ r σ' := by
  intro p l e R s m args below meth c D A bS cI cZ cO L xs Q adl0 fc fs C E adl H locs cells slots als cst P hl hs
  have hs0 := st2_cons hs
  clear hs
  obtain ⟨v2, cst, rfl, ⟨x1, rfl, h2⟩, hs⟩ := hs0
  refine lv_if_eq C.1 C.2.1 hd (tg_eq ho) (fun hc => ?_) (fun hc => ?_)
  · exact (fun hk => hk p l e R s m args below meth c D A bS cI cZ cO L xs Q adl0 fc fs C E adl H locs cells slots als _ P hl hs) (hp ((cv_eq h2).mp hc))
  · exact (fun hk => hk p l e R s m args below meth c D A bS cI cZ cO L xs Q adl0 fc fs C E adl H locs cells slots als _ P hl hs) (hq (fun z => hc ((cv_eq h2).mpr z)))

theorem s_icmp_eq {y : Int} {q1 : Nat} {x : Int} {q2 : Nat} {off : Int} (ho : tgo pc off = true) (hd : decode (mb M) pc = .ok (.if_icmp .eq off, 3)) (hp : x = y → simAt M (tg pc off) ls st σ r σ') (hq : ¬ x = y → simAt M (pc + 3) ls st σ r σ') : simAt M pc ls ((0, y, q1) :: (0, x, q2) :: st) σ r σ' := by
  intro p l e R s m args below meth c D A bS cI cZ cO L xs Q adl0 fc fs C E adl H locs cells slots als cst P hl hs
  have hs0 := st2_cons hs
  clear hs
  obtain ⟨v1, cst, rfl, ⟨y1, rfl, h1⟩, hs⟩ := hs0
  have hs0 := st2_cons hs
  clear hs
  obtain ⟨v2, cst, rfl, ⟨x1, rfl, h2⟩, hs⟩ := hs0
  refine lv_icmp_eq C.1 C.2.1 hd (tg_eq ho) (fun hc => ?_) (fun hc => ?_)
  · exact (fun hk => hk p l e R s m args below meth c D A bS cI cZ cO L xs Q adl0 fc fs C E adl H locs cells slots als _ P hl hs) (hp ((cv_eq2 h1 h2).mp hc))
  · exact (fun hk => hk p l e R s m args below meth c D A bS cI cZ cO L xs Q adl0 fc fs C E adl H locs cells slots als _ P hl hs) (hq (fun z => hc ((cv_eq2 h1 h2).mpr z)))

theorem s_if_ne {x : Int} {q2 : Nat} {off : Int} (ho : tgo pc off = true) (hd : decode (mb M) pc = .ok (.ifCond .ne off, 3)) (hp : x = 0 → simAt M (pc + 3) ls st σ r σ') (hq : ¬ x = 0 → simAt M (tg pc off) ls st σ r σ') : simAt M pc ls ((0, x, q2) :: st) σ r σ' := by
  intro p l e R s m args below meth c D A bS cI cZ cO L xs Q adl0 fc fs C E adl H locs cells slots als cst P hl hs
  have hs0 := st2_cons hs
  clear hs
  obtain ⟨v2, cst, rfl, ⟨x1, rfl, h2⟩, hs⟩ := hs0
  refine lv_if_ne C.1 C.2.1 hd (tg_eq ho) (fun hc => ?_) (fun hc => ?_)
  · exact (fun hk => hk p l e R s m args below meth c D A bS cI cZ cO L xs Q adl0 fc fs C E adl H locs cells slots als _ P hl hs) (hq ((cv_ne h2).mp hc))
  · exact (fun hk => hk p l e R s m args below meth c D A bS cI cZ cO L xs Q adl0 fc fs C E adl H locs cells slots als _ P hl hs) (hp ((cv_eq h2).mp hc))

theorem s_icmp_ne {y : Int} {q1 : Nat} {x : Int} {q2 : Nat} {off : Int} (ho : tgo pc off = true) (hd : decode (mb M) pc = .ok (.if_icmp .ne off, 3)) (hp : x = y → simAt M (pc + 3) ls st σ r σ') (hq : ¬ x = y → simAt M (tg pc off) ls st σ r σ') : simAt M pc ls ((0, y, q1) :: (0, x, q2) :: st) σ r σ' := by
  intro p l e R s m args below meth c D A bS cI cZ cO L xs Q adl0 fc fs C E adl H locs cells slots als cst P hl hs
  have hs0 := st2_cons hs
  clear hs
  obtain ⟨v1, cst, rfl, ⟨y1, rfl, h1⟩, hs⟩ := hs0
  have hs0 := st2_cons hs
  clear hs
  obtain ⟨v2, cst, rfl, ⟨x1, rfl, h2⟩, hs⟩ := hs0
  refine lv_icmp_ne C.1 C.2.1 hd (tg_eq ho) (fun hc => ?_) (fun hc => ?_)
  · exact (fun hk => hk p l e R s m args below meth c D A bS cI cZ cO L xs Q adl0 fc fs C E adl H locs cells slots als _ P hl hs) (hq ((cv_ne2 h1 h2).mp hc))
  · exact (fun hk => hk p l e R s m args below meth c D A bS cI cZ cO L xs Q adl0 fc fs C E adl H locs cells slots als _ P hl hs) (hp ((cv_eq2 h1 h2).mp hc))

theorem s_if_lt {x : Int} {q2 : Nat} {off : Int} (ho : tgo pc off = true) (hd : decode (mb M) pc = .ok (.ifCond .lt off, 3)) (hp : x < 0 → simAt M (tg pc off) ls st σ r σ') (hq : ¬ x < 0 → simAt M (pc + 3) ls st σ r σ') : simAt M pc ls ((0, x, q2) :: st) σ r σ' := by
  intro p l e R s m args below meth c D A bS cI cZ cO L xs Q adl0 fc fs C E adl H locs cells slots als cst P hl hs
  have hs0 := st2_cons hs
  clear hs
  obtain ⟨v2, cst, rfl, ⟨x1, rfl, h2⟩, hs⟩ := hs0
  refine lv_if_lt C.1 C.2.1 hd (tg_eq ho) (fun hc => ?_) (fun hc => ?_)
  · exact (fun hk => hk p l e R s m args below meth c D A bS cI cZ cO L xs Q adl0 fc fs C E adl H locs cells slots als _ P hl hs) (hp ((cv_lt h2).mp hc))
  · exact (fun hk => hk p l e R s m args below meth c D A bS cI cZ cO L xs Q adl0 fc fs C E adl H locs cells slots als _ P hl hs) (hq (fun z => hc ((cv_lt h2).mpr z)))

theorem s_icmp_lt {y : Int} {q1 : Nat} {x : Int} {q2 : Nat} {off : Int} (ho : tgo pc off = true) (hd : decode (mb M) pc = .ok (.if_icmp .lt off, 3)) (hp : x < y → simAt M (tg pc off) ls st σ r σ') (hq : ¬ x < y → simAt M (pc + 3) ls st σ r σ') : simAt M pc ls ((0, y, q1) :: (0, x, q2) :: st) σ r σ' := by
  intro p l e R s m args below meth c D A bS cI cZ cO L xs Q adl0 fc fs C E adl H locs cells slots als cst P hl hs
  have hs0 := st2_cons hs
  clear hs
  obtain ⟨v1, cst, rfl, ⟨y1, rfl, h1⟩, hs⟩ := hs0
  have hs0 := st2_cons hs
  clear hs
  obtain ⟨v2, cst, rfl, ⟨x1, rfl, h2⟩, hs⟩ := hs0
  refine lv_icmp_lt C.1 C.2.1 hd (tg_eq ho) (fun hc => ?_) (fun hc => ?_)
  · exact (fun hk => hk p l e R s m args below meth c D A bS cI cZ cO L xs Q adl0 fc fs C E adl H locs cells slots als _ P hl hs) (hp ((cv_lt2 h1 h2).mp hc))
  · exact (fun hk => hk p l e R s m args below meth c D A bS cI cZ cO L xs Q adl0 fc fs C E adl H locs cells slots als _ P hl hs) (hq (fun z => hc ((cv_lt2 h1 h2).mpr z)))

theorem s_if_ge {x : Int} {q2 : Nat} {off : Int} (ho : tgo pc off = true) (hd : decode (mb M) pc = .ok (.ifCond .ge off, 3)) (hp : x < 0 → simAt M (pc + 3) ls st σ r σ') (hq : ¬ x < 0 → simAt M (tg pc off) ls st σ r σ') : simAt M pc ls ((0, x, q2) :: st) σ r σ' := by
  intro p l e R s m args below meth c D A bS cI cZ cO L xs Q adl0 fc fs C E adl H locs cells slots als cst P hl hs
  have hs0 := st2_cons hs
  clear hs
  obtain ⟨v2, cst, rfl, ⟨x1, rfl, h2⟩, hs⟩ := hs0
  refine lv_if_ge C.1 C.2.1 hd (tg_eq ho) (fun hc => ?_) (fun hc => ?_)
  · exact (fun hk => hk p l e R s m args below meth c D A bS cI cZ cO L xs Q adl0 fc fs C E adl H locs cells slots als _ P hl hs) (hq ((cv_ge h2).mp hc))
  · exact (fun hk => hk p l e R s m args below meth c D A bS cI cZ cO L xs Q adl0 fc fs C E adl H locs cells slots als _ P hl hs) (hp (Classical.not_not.mp (fun z => hc ((cv_ge h2).mpr z))))

theorem s_icmp_ge {y : Int} {q1 : Nat} {x : Int} {q2 : Nat} {off : Int} (ho : tgo pc off = true) (hd : decode (mb M) pc = .ok (.if_icmp .ge off, 3)) (hp : x < y → simAt M (pc + 3) ls st σ r σ') (hq : ¬ x < y → simAt M (tg pc off) ls st σ r σ') : simAt M pc ls ((0, y, q1) :: (0, x, q2) :: st) σ r σ' := by
  intro p l e R s m args below meth c D A bS cI cZ cO L xs Q adl0 fc fs C E adl H locs cells slots als cst P hl hs
  have hs0 := st2_cons hs
  clear hs
  obtain ⟨v1, cst, rfl, ⟨y1, rfl, h1⟩, hs⟩ := hs0
  have hs0 := st2_cons hs
  clear hs
  obtain ⟨v2, cst, rfl, ⟨x1, rfl, h2⟩, hs⟩ := hs0
  refine lv_icmp_ge C.1 C.2.1 hd (tg_eq ho) (fun hc => ?_) (fun hc => ?_)
  · exact (fun hk => hk p l e R s m args below meth c D A bS cI cZ cO L xs Q adl0 fc fs C E adl H locs cells slots als _ P hl hs) (hq ((cv_ge2 h1 h2).mp hc))
  · exact (fun hk => hk p l e R s m args below meth c D A bS cI cZ cO L xs Q adl0 fc fs C E adl H locs cells slots als _ P hl hs) (hp (Classical.not_not.mp (fun z => hc ((cv_ge2 h1 h2).mpr z))))

theorem s_if_gt {x : Int} {q2 : Nat} {off : Int} (ho : tgo pc off = true) (hd : decode (mb M) pc = .ok (.ifCond .gt off, 3)) (hp : 0 < x → simAt M (tg pc off) ls st σ r σ') (hq : ¬ 0 < x → simAt M (pc + 3) ls st σ r σ') : simAt M pc ls ((0, x, q2) :: st) σ r σ' := by
  intro p l e R s m args below meth c D A bS cI cZ cO L xs Q adl0 fc fs C E adl H locs cells slots als cst P hl hs
  have hs0 := st2_cons hs
  clear hs
  obtain ⟨v2, cst, rfl, ⟨x1, rfl, h2⟩, hs⟩ := hs0
  refine lv_if_gt C.1 C.2.1 hd (tg_eq ho) (fun hc => ?_) (fun hc => ?_)
  · exact (fun hk => hk p l e R s m args below meth c D A bS cI cZ cO L xs Q adl0 fc fs C E adl H locs cells slots als _ P hl hs) (hp ((cv_gt h2).mp hc))
  · exact (fun hk => hk p l e R s m args below meth c D A bS cI cZ cO L xs Q adl0 fc fs C E adl H locs cells slots als _ P hl hs) (hq (fun z => hc ((cv_gt h2).mpr z)))

theorem s_icmp_gt {y : Int} {q1 : Nat} {x : Int} {q2 : Nat} {off : Int} (ho : tgo pc off = true) (hd : decode (mb M) pc = .ok (.if_icmp .gt off, 3)) (hp : y < x → simAt M (tg pc off) ls st σ r σ') (hq : ¬ y < x → simAt M (pc + 3) ls st σ r σ') : simAt M pc ls ((0, y, q1) :: (0, x, q2) :: st) σ r σ' := by
  intro p l e R s m args below meth c D A bS cI cZ cO L xs Q adl0 fc fs C E adl H locs cells slots als cst P hl hs
  have hs0 := st2_cons hs
  clear hs
  obtain ⟨v1, cst, rfl, ⟨y1, rfl, h1⟩, hs⟩ := hs0
  have hs0 := st2_cons hs
  clear hs
  obtain ⟨v2, cst, rfl, ⟨x1, rfl, h2⟩, hs⟩ := hs0
  refine lv_icmp_gt C.1 C.2.1 hd (tg_eq ho) (fun hc => ?_) (fun hc => ?_)
  · exact (fun hk => hk p l e R s m args below meth c D A bS cI cZ cO L xs Q adl0 fc fs C E adl H locs cells slots als _ P hl hs) (hp ((cv_gt2 h1 h2).mp hc))
  · exact (fun hk => hk p l e R s m args below meth c D A bS cI cZ cO L xs Q adl0 fc fs C E adl H locs cells slots als _ P hl hs) (hq (fun z => hc ((cv_gt2 h1 h2).mpr z)))

theorem s_if_le {x : Int} {q2 : Nat} {off : Int} (ho : tgo pc off = true) (hd : decode (mb M) pc = .ok (.ifCond .le off, 3)) (hp : 0 < x → simAt M (pc + 3) ls st σ r σ') (hq : ¬ 0 < x → simAt M (tg pc off) ls st σ r σ') : simAt M pc ls ((0, x, q2) :: st) σ r σ' := by
  intro p l e R s m args below meth c D A bS cI cZ cO L xs Q adl0 fc fs C E adl H locs cells slots als cst P hl hs
  have hs0 := st2_cons hs
  clear hs
  obtain ⟨v2, cst, rfl, ⟨x1, rfl, h2⟩, hs⟩ := hs0
  refine lv_if_le C.1 C.2.1 hd (tg_eq ho) (fun hc => ?_) (fun hc => ?_)
  · exact (fun hk => hk p l e R s m args below meth c D A bS cI cZ cO L xs Q adl0 fc fs C E adl H locs cells slots als _ P hl hs) (hq ((cv_le h2).mp hc))
  · exact (fun hk => hk p l e R s m args below meth c D A bS cI cZ cO L xs Q adl0 fc fs C E adl H locs cells slots als _ P hl hs) (hp (Classical.not_not.mp (fun z => hc ((cv_le h2).mpr z))))

theorem s_icmp_le {y : Int} {q1 : Nat} {x : Int} {q2 : Nat} {off : Int} (ho : tgo pc off = true) (hd : decode (mb M) pc = .ok (.if_icmp .le off, 3)) (hp : y < x → simAt M (pc + 3) ls st σ r σ') (hq : ¬ y < x → simAt M (tg pc off) ls st σ r σ') : simAt M pc ls ((0, y, q1) :: (0, x, q2) :: st) σ r σ' := by
  intro p l e R s m args below meth c D A bS cI cZ cO L xs Q adl0 fc fs C E adl H locs cells slots als cst P hl hs
  have hs0 := st2_cons hs
  clear hs
  obtain ⟨v1, cst, rfl, ⟨y1, rfl, h1⟩, hs⟩ := hs0
  have hs0 := st2_cons hs
  clear hs
  obtain ⟨v2, cst, rfl, ⟨x1, rfl, h2⟩, hs⟩ := hs0
  refine lv_icmp_le C.1 C.2.1 hd (tg_eq ho) (fun hc => ?_) (fun hc => ?_)
  · exact (fun hk => hk p l e R s m args below meth c D A bS cI cZ cO L xs Q adl0 fc fs C E adl H locs cells slots als _ P hl hs) (hq ((cv_le2 h1 h2).mp hc))
  · exact (fun hk => hk p l e R s m args below meth c D A bS cI cZ cO L xs Q adl0 fc fs C E adl H locs cells slots als _ P hl hs) (hp (Classical.not_not.mp (fun z => hc ((cv_le2 h1 h2).mpr z))))

theorem s_ifnull {z : Int} {q : Nat} {off : Int} (ho : tgo pc off = true) (hd : decode (mb M) pc = .ok (.ifnull off, 3)) (hp : q = 0 → simAt M (tg pc off) ls st σ r σ') (hq : ¬ q = 0 → simAt M (pc + 3) ls st σ r σ') : simAt M pc ls ((1, z, q) :: st) σ r σ' := by
  intro p l e R s m args below meth c D A bS cI cZ cO L xs Q adl0 fc fs C E adl H locs cells slots als cst P hl hs
  have hs0 := st2_cons hs
  clear hs
  obtain ⟨v1, cst, rfl, h1, hs⟩ := hs0
  rcases h1 with ⟨h3, rfl⟩ | ⟨a, h3, h4, rfl⟩
  · refine lv_ifnullN C.1 C.2.1 hd (tg_eq ho) ?_
    exact (fun hk => hk p l e R s m args below meth c D A bS cI cZ cO L xs Q adl0 fc fs C E adl H locs cells slots als _ P hl hs) (hp h3)
  · refine lv_ifnull C.1 C.2.1 hd ?_
    exact (fun hk => hk p l e R s m args below meth c D A bS cI cZ cO L xs Q adl0 fc fs C E adl H locs cells slots als _ P hl hs) (hq (by omega))

theorem s_ifnonnull {z : Int} {q : Nat} {off : Int} (ho : tgo pc off = true) (hd : decode (mb M) pc = .ok (.ifnonnull off, 3)) (hp : q = 0 → simAt M (pc + 3) ls st σ r σ') (hq : ¬ q = 0 → simAt M (tg pc off) ls st σ r σ') : simAt M pc ls ((1, z, q) :: st) σ r σ' := by
  intro p l e R s m args below meth c D A bS cI cZ cO L xs Q adl0 fc fs C E adl H locs cells slots als cst P hl hs
  have hs0 := st2_cons hs
  clear hs
  obtain ⟨v1, cst, rfl, h1, hs⟩ := hs0
  rcases h1 with ⟨h3, rfl⟩ | ⟨a, h3, h4, rfl⟩
  · refine lv_ifnonnullN C.1 C.2.1 hd ?_
    exact (fun hk => hk p l e R s m args below meth c D A bS cI cZ cO L xs Q adl0 fc fs C E adl H locs cells slots als _ P hl hs) (hp h3)
  · refine lv_ifnonnull C.1 C.2.1 hd (tg_eq ho) ?_
    exact (fun hk => hk p l e R s m args below meth c D A bS cI cZ cO L xs Q adl0 fc fs C E adl H locs cells slots als _ P hl hs) (hq (by omega))

theorem s_goto {off : Int} (ho : tgo pc off = true) (hd : decode (mb M) pc = .ok (.goto off, 3)) (hk : simAt M (tg pc off) ls st σ r σ') : simAt M pc ls st σ r σ' := by
  intro p l e R s m args below meth c D A bS cI cZ cO L xs Q adl0 fc fs C E adl H locs cells slots als cst P hl hs
  refine lv_goto C.1 C.2.1 hd (tg_eq ho) ?_
  exact hk p l e R s m args below meth c D A bS cI cZ cO L xs Q adl0 fc fs C E adl H locs cells slots als _ P hl hs

theorem s_table {d lo hi : Int} {offs : Array Int} {len : Nat} {x : Int} {q : Nat} (ho : tgo pc d = true ∧ offs.toList.all (tgo pc) = true ∧ (offs.size : Int) = hi - lo + 1) (hd : decode (mb M) pc = .ok (.tableswitch d lo hi offs, len)) (hk : simAt M (sw (swr pc lo offs.toList) (tg pc d) x) ls st σ r σ') : simAt M pc ls ((0, x, q) :: st) σ r σ' := by
  intro p l e R s m args below meth c D A bS cI cZ cO L xs Q adl0 fc fs C E adl H locs cells slots als cst P hl hs
  have hs0 := st2_cons hs
  clear hs
  obtain ⟨v1, cst, rfl, ⟨x1, rfl, h1⟩, hs⟩ := hs0
  by_cases hr : x < lo ∨ hi < x
  · rw [swr_out (by rw [Array.length_toList]; omega)] at hk
    refine lv_tableOut C.1 C.2.1 hd (by rw [h1]; exact hr) (tg_eq ho.1) ?_
    exact hk p l e R s m args below meth c D A bS cI cZ cO L xs Q adl0 fc fs C E adl H locs cells slots als _ P hl hs
  · have hlt : (x - lo).toNat < offs.toList.length := by rw [Array.length_toList]; omega
    rw [swr_in (k := (x - lo).toNat) (by omega) hlt] at hk
    refine lv_tableIn (off := offs.toList[(x - lo).toNat]) C.1 C.2.1 hd (by rw [h1]; omega) (by rw [h1]; omega) (by rw [h1, ← Array.getElem?_toList]; exact List.getElem?_eq_getElem hlt) (tg_eq (List.all_eq_true.mp ho.2.1 _ (List.getElem_mem hlt))) ?_
    exact hk p l e R s m args below meth c D A bS cI cZ cO L xs Q adl0 fc fs C E adl H locs cells slots als _ P hl hs

theorem s_lookup {d : Int} {ps : Array (Int × Int)} {len : Nat} {x : Int} {q : Nat} (ho : tgo pc d = true ∧ ps.toList.all (fun q => tgo pc q.2) = true ∧ (ps.toList.zip (ps.toList.drop 1)).all (fun (a, next) => a.1 < next.1) = true) (hd : decode (mb M) pc = .ok (.lookupswitch d ps, len)) (hk : simAt M (sw (swl pc ps.toList) (tg pc d) x) ls st σ r σ') : simAt M pc ls ((0, x, q) :: st) σ r σ' := by
  intro p l e R s m args below meth c D A bS cI cZ cO L xs Q adl0 fc fs C E adl H locs cells slots als cst P hl hs
  have hs0 := st2_cons hs
  clear hs
  obtain ⟨v1, cst, rfl, ⟨x1, rfl, h1⟩, hs⟩ := hs0
  obtain ⟨off, h3, h4, h5⟩ := swl_off ps.toList x ho.1 ho.2.1
  rw [h4] at hk
  refine lv_lookup C.1 C.2.1 hd ho.2.2 (by rw [h1]; exact h5) (tg_eq h3) ?_
  exact hk p l e R s m args below meth c D A bS cI cZ cO L xs Q adl0 fc fs C E adl H locs cells slots als _ P hl hs

end SI
