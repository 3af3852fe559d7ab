
/-! THE CLAIM OUT OF ONE WALK OF THE LAW'S BODY. Your part is whole_start (and what it stands on); all else here is the same for every law, but numbers. -/
def R_law : String := "FogCutsLaw"
def lw_P (b : Addr) (xs : List Int32) (args : Array Value) (s : State) : Prop := args = #[.ref b] ∧ s.IntsAt b xs ∧ xs.length ≤ 2560 ∧ (Jvm.Cond.and given_1 narrow_1).before args s = true
def lw_Q (_ : Array Value) (s : State) (o : Outcome) (t : State) : Prop := o = .returned (some (.int 1)) ∧ Framed s o t [] 600000 7302250
def lw_Z (below : List Frame) (a : Array Value) (s : State) : State → Prop := fun t => ∃ o, t.status = .running ∧ Ended t below o ∧ lw_Q a s o t
/-- the law's own end, with 1 on the stack, nothing written that was there before, its room as the claim has it -/
theorem lw_ret {p : Program} {l : Launch} {e : Env} {s : State} {m : MethodId} {below : List Frame} {meth : Method} {c : Code} {b : Nat} (hx : p.tables.exec = Jvm.exec) (hb : c.code = code) (hr : meth.sig.returnType = ret) (hlocks : meth.locks = false) {pc : Nat} {H : Heap} {ls : Array Slot} (hdg : decode code pc = .ok (.ireturn, 1)) : W p l e room_1 s m #[Value.ref b] below meth c H [] 600000 7302250 (lw_Z below #[Value.ref b] s) (F0 m pc ls [.int 1]) := by
  intro T hT X
  obtain ⟨fs, hret, hrun, hended, hW, hframe⟩ := X.leave (v := some (.int 1)) (hlocks := hlocks) (fun h => by rw [hr] at h; cases h)
  have hmeth' : T.vm.method? m = some meth := X.method'
  refine ⟨T.setFrames fs, ?_, .returned (some (.int 1)), hrun, hended, rfl, ⟨_, rfl⟩, hW, hframe⟩
  jvm_step X.here [X.here.top, hx, hb, hdg, hmeth', hr, ret, narrow_b1]
  (try refine ⟨rfl, ?_⟩); (try refine ⟨rfl, ?_⟩)
  first | (intro acts; rw [hret _ acts rfl rfl rfl]) | rw [hret _ _ rfl rfl rfl]
  exact Steps.refl _
/-- what holds at the law's entry: the machine, the code, the tables' words (any of lw_tbl by 'hts w (by decide +kernel)'), the script of L ints xs at the cell b, what the Statement gives of the start (any of its parts by flat_of_before) -/
def lw_At (p : Program) (s : State) (m : MethodId) (meth : Method) (c : Code) (b L : Nat) (xs : Nat → Int32) : Prop :=
  p.tables.exec = Jvm.exec ∧ c.code = code ∧ meth.sig.returnType = ret ∧ c.maxLocals = 4 ∧ s.vm.findClass R_law = some m.cls ∧ (∀ w ∈ lw_tbl, w.before #[Value.ref b] s = true) ∧ va_X b L xs s s.heap ∧ b < s.heap.size ∧ meth.locks = false ∧ (Jvm.Cond.and given_1 narrow_1).before #[Value.ref b] s = true
/-- the store before the law has made anything: the script alone -/
def st0 (L : Nat) (x : Nat → Int) : St := (0, 0, fun _ => (0, 0), fun _ _ => 0, fun _ _ => 0, L, x)
/-- WHAT IS LEFT: of every script, the data's run answers 1 within the room -/
def law_goal : Prop := ∀ (b L : Nat) (x : Nat → Int), L ≤ 2560 → (∀ j, -2147483648 ≤ x j ∧ x j < 2147483648) → ∃ σ' : St, run 148 0 [vS b, vU, vU, vU] [] (st0 L x) = some (vI 1, σ') ∧ nn σ' ≤ 600000 ∧ nt σ' ≤ 7302250
theorem kn_of {p : Program} {s : State} {m : MethodId} {meth : Method} {c : Code} {b L : Nat} {xs : Nat → Int32} (C0 : lw_At p s m meth c b L xs) : ∃ (D : va_G) (cI cZ cO : Nat), va_K D vwc (gtys cI cZ cO) s ∧ va_AO RX0 s ∧ (∀ w ∈ gw, w.before #[Value.ref b] s = true) ∧ ∀ w ∈ nst, va_Nw w s := by
  obtain ⟨hx, hb, hr, hml, hown, hts, hX, hbl, hlocks, hgv⟩ := C0
  have hgw : ∀ w ∈ gw, w.before #[Value.ref b] s = true := fun w h => hts w (List.mem_filter.mp h).1
  have hins : ∀ k, k < 4 → (Cond.instantiable (cR k) (cN k)).before #[Value.ref b] s = true := by
    have key : ∀ q ∈ nlk, (Cond.instantiable (cR q.2) (cN q.2)).before #[Value.ref b] s = true := fun q hq => hgw _ (nfacts q hq).2.2.1
    have all : ∀ k, k < 4 → ∃ q ∈ nlk, q.2 = k := by decide +kernel
    intro k hk
    obtain ⟨q, hq, rfl⟩ := all k hk
    exact key q hq
  have hkn : ∀ k, ∃ (cc : ClassId) (iS : Nat → Nat), k < 4 → u_Kn s (cR k) (cT k) (cN k) cc iS := by
    intro k
    by_cases hk : k < 4
    · obtain ⟨cc, iS, h⟩ := u_known (C := cR k) (T := cT k) (N := cN k) (n := cN k) hgw (inX k hk) (hins k hk)
      exact ⟨cc, iS, fun _ => h⟩
    · exact ⟨0, fun _ => 0, fun h => absurd h hk⟩
  obtain ⟨cI, kI, compI, i1, i2, i3⟩ := Cond.arrayClass_spec (hgw _ gw_arr.1)
  obtain ⟨cZ, kZ, compZ, z1, z2, z3⟩ := Cond.arrayClass_spec (hgw _ gw_arr.2)
  have hao : va_AO RX0 s := va_AO.of (hts _ tbl_over)
  obtain ⟨compO, cO, kO, o1, o2, o3, o4, o5⟩ := Cond.arrayOver_spec hao
  refine ⟨(fun k => Classical.choose (hkn k), fun k => Classical.choose (Classical.choose_spec (hkn k))), cI, cZ, cO, ⟨?_, ?_⟩, hao, hgw, fun w h => ?_⟩
  · intro k q hq
    have hk : k < 4 := (List.getElem?_eq_some_iff.mp hq).1
    have e := vwc_at hk
    rw [hq] at e
    cases e
    exact Classical.choose_spec (Classical.choose_spec (hkn k)) hk
  · intro k q hq
    match k, hq with
    | 0, hq => cases hq; exact ⟨fun n z => ⟨(fun k h => by cases h), kI, i2, compI, i3⟩, i1⟩
    | 1, hq => cases hq; exact ⟨fun n z => ⟨(fun k h => by cases h), kZ, z2, compZ, z3⟩, z1⟩
    | 2, hq => cases hq; exact ⟨fun n z => ⟨(fun k h => by cases h), kO, o3, compO, o4⟩, kO, compO, o3, o4, o1, o5⟩
    | k + 3, hq => simp [gtys] at hq
  · have honT : ∀ w ∈ nst, w.onTables = true := by
      intro w hw
      exact List.all_eq_true.mp (show (nst.all fun w => w.onTables) = true by decide +kernel) w hw
    exact va_Nw.of (honT w h) (hts w (tbl_nst w h))
theorem whole_of (hG : law_goal) {p : Program} {e : Env} {s : State} {m : MethodId} {below : List Frame} {meth : Method} {c : Code} (l : Launch) {b L : Nat} {xs : Nat → Int32} (hL : L ≤ 2560) (C0 : lw_At p s m meth c b L xs) : W p l e room_1 s m #[Value.ref b] below meth c s.heap [] 0 0 (lw_Z below #[Value.ref b] s) (entryFrame m ([Value.ref b] : List Value).toArray 4) := by
  obtain ⟨D, cI, cZ, cO, hK, hao, hgw, hnst⟩ := kn_of C0
  obtain ⟨hx, hb, hr, hml, hown, hts, hX, hbl, hlocks, hgv⟩ := id C0
  obtain ⟨σ', hrun, hn1, hn2⟩ := hG b L (fun j => (xs j).toInt) hL (fun j => ⟨Int32.le_toInt _, Int32.toInt_lt _⟩)
  obtain ⟨n, hn⟩ := run_some.mp hrun
  have hsim := sim n 148 0 [vS b, vU, vU, vU] [] _ _ _ rfl hn
  have hg := ex_grow _ _ _ _ _ _ _ hn
  rw [lg_entry_eq]
  refine hsim p l e room_1 s m #[Value.ref b] below meth c D (fun q : Nat => s.heap.size ≤ q) b cI cZ cO L xs _ [] (nn σ') (nt σ')
    ⟨hx, hb, hml, hown, hgw, hnst, hao, fun h => absurd h (by decide +kernel), hK, fun _ h => h, fun _ => ⟨by omega, hX, hbl, Nat.not_le.mpr hbl⟩, ⟨by decide +kernel, by decide +kernel, hn1, hn2⟩⟩ ?_ [] s.heap [] 0 0 _ _
    ⟨[], ⟨[], rfl⟩, ⟨rfl, rfl, fun k hk => absurd hk (Nat.not_lt_zero k)⟩, fun k q h => by simp at h, ⟨fun i j p q h => by simp at h, fun k q h => by simp at h⟩, va_S.rf, (by show 0 + nn σ' = nn σ' + 0; omega), (by show 0 + nt σ' = nt σ' + 0; omega), Nat.zero_le _, Nat.zero_le _, fun _ => ⟨rfl, fun j _ => rfl⟩⟩
    (lr_entry (as := [vS b]) (vs := [.ref b]) ⟨rfl, trivial⟩ (fun t ht => Or.inr (Or.inr (by rw [List.mem_singleton.mp ht]; rfl))) (by show 1 ≤ ml 148; decide +kernel)) trivial
  intro adl1 H1 locs1 als1 cst1 pc1 P1 hen
  obtain ⟨ws1, hx1, hw1, hP1, hD1, hS1, -⟩ := P1
  have m2 : mk 148 = 2 := by decide +kernel
  rcases hen with ⟨k1, -⟩ | ⟨k1, v, e1, rfl, k2, hd⟩ | ⟨k1, -⟩
  · rw [m2] at k1; cases k1
  · have e2 : v.toInt = 1 := by
      have := congrArg (fun t : AV => t.2.1) e1
      exact this.symm
    have e3 : v = 1 := Int32.toInt_inj.mp (by rw [e2]; rfl)
    subst e3
    refine va_forget (fun q hq => hS1.2.2 q hq) ?_
    refine W.widen (k := 600000) (n := 7302250) hn1 hn2 ?_
    exact lw_ret hx hb hr hlocks hd
  · rw [m2] at k1; cases k1
