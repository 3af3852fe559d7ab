/-! CALLS, AND THE WHOLE: a run of the data is a run of the machine -/
def grow (σ σ' : St) : Prop := nn σ ≤ nn σ' ∧ nt σ ≤ nt σ' ∧ sl σ' = sl σ ∧ sx σ' = sx σ
theorem grow_rf (σ : St) : grow σ σ := ⟨Nat.le_refl _, Nat.le_refl _, rfl, rfl⟩
theorem grow_tr {a b c : St} (h1 : grow a b) (h2 : grow b c) : grow a c := ⟨Nat.le_trans h1.1 h2.1, Nat.le_trans h1.2.1 h2.2.1, h2.2.2.1.trans h1.2.2.1, h2.2.2.2.trans h1.2.2.2⟩
theorem grow_al {σ σ' : St} {kd sz : Nat} (h : grow (al σ kd sz) σ') : grow σ σ' := ⟨Nat.le_trans (Nat.le_succ _) h.1, Nat.le_trans (Nat.le_add_right _ _) h.2.1, h.2.2.1, h.2.2.2⟩
set_option maxHeartbeats 4000000 in
theorem stp_grow {k : Nat → Nat → List AV → List AV → St → Res} (h : ∀ M pc ls st σ r, k M pc ls st σ = some r → grow σ r.2) (e : Ent) (M : Nat) (ls st : List AV) (σ : St) (r : AV × St) :
    stp k e M ls st σ = some r → grow σ r.2 := by
  obtain ⟨op, a, b, nx, ts⟩ := e
  unfold stp
  dsimp only
  split
  all_goals try (intro hh; have h3 := h _ _ _ _ _ _ hh; exact h3)
  all_goals try (intro hh; exact grow_al (h _ _ _ _ _ _ hh))
  all_goals try (split <;> first | (intro hh; have h3 := h _ _ _ _ _ _ hh; exact h3) | (intro hh; cases hh; done) | (intro hh; cases hh; exact grow_rf _) | (intro hh; obtain ⟨h1, h2⟩ := ck_some.mp hh; have h3 := h _ _ _ _ _ _ h2; exact h3) | (split <;> first | (intro hh; have h3 := h _ _ _ _ _ _ hh; exact h3) | (intro hh; exact grow_al (h _ _ _ _ _ _ hh)) | (intro hh; cases hh; done) | (intro hh; cases hh; exact grow_rf _)))
  all_goals try (intro hh; obtain ⟨h1, h2⟩ := ck_some.mp hh; obtain ⟨q, h3, h4⟩ := bnd_some.mp h2; exact grow_tr (h _ _ _ _ _ _ h3) (h _ _ _ _ _ _ h4))
  intro hh; cases hh
theorem ex_grow : ∀ (n M pc : Nat) (ls st : List AV) (σ : St) (r : AV × St), ex n M pc ls st σ = some r → grow σ r.2
  | 0, _, _, _, _, _, _, h => by cases h
  | n + 1, M, pc, ls, st, σ, r, h => stp_grow (ex_grow n) _ _ _ _ _ _ h
/-- an answer -/
def rv (r : AV) (v : Option Value) : Prop := (r = vU ∧ v = none) ∨ (∃ x : Int32, r = vI x.toInt ∧ v = some (.int x)) ∨ (∃ x : Int64, r = vL x.toInt ∧ v = some (.long x))
def ws_ (M : Nat) : List Cond := .code (my M) (mb M) (ml M) (rt (mk M)) :: gw
def qc (adl : List Nat) (bS cI cZ cO : Nat) (D : va_G) (r : AV) (σ' : St) (ws : va_W) (sz : Nat) (st : State) (oc : Outcome) (t : State) : Prop :=
  (∃ (v : Option Value) (adl1 : List Nat) (ws1 : va_W), oc = .returned v ∧ rv r v ∧ (∃ x, adl1 = adl ++ x) ∧ wd adl1 bS cI cZ cO σ' ws1 ∧ va_P D vwc ws1 t.heap ∧ va_D (va_A ws sz) ws1) ∧ va_F (va_A ws sz) st t
def pcs (cI cZ cO : Nat) (D : va_G) (ws : va_W) (sz : Nat) (U : State) : Prop := U.heap.size = sz ∧ va_P D vwc ws U.heap ∧ va_K D vwc (gtys cI cZ cO) U ∧ va_D (fun _ => True) ws ∧ (∀ w ∈ nst, va_Nw w U) ∧ va_AO RX0 U
theorem not_law : ∀ c, c < 148 → mo c ≠ 4 := by decide +kernel
theorem nst_warm {s U : State} (hW : s.WarmedH U.vm) (h : ∀ w ∈ nst, va_Nw w s) : ∀ w ∈ nst, va_Nw w U := by
  have key : ∀ (l : List Cond), (l.all fun w => match w with | .methodLinkNest .. => true | _ => false) = true → (∀ w ∈ l, va_Nw w s) → ∀ w ∈ l, va_Nw w U := by
    intro l h1 h2 w hw
    have h3 := List.all_eq_true.mp h1 w hw
    have h4 := h2 w hw
    cases w <;> first | exact va_Nw.warmM hW h4 | cases h3
  exact key nst (by decide +kernel) h
theorem nst_vm {s U : State} (hvm : s.vm = U.vm) (h : ∀ w ∈ nst, va_Nw w s) : ∀ w ∈ nst, va_Nw w U := by
  have key : ∀ (l : List Cond), (l.all fun w => w.onTables) = true → (∀ w ∈ l, va_Nw w s) → ∀ w ∈ l, va_Nw w U := by
    intro l h1 h2 w hw
    exact va_Nw.same (List.all_eq_true.mp h1 w hw) hvm (h2 w hw)
  exact key nst (by decide +kernel) h
theorem met_of {M : Nat} (hM : M < 148) {as : List AV} {σ σ' : St} {r : AV} (hsim : simAt M 0 (pad as (ml M)) [] σ r σ') (has : ∀ t ∈ as, t.1 = 0 ∨ t.1 = 1) (hlen : as.length ≤ ml M) (hg : grow σ σ')
    {adl : List Nat} {bS cI cZ cO : Nat} {D : va_G} {ws : va_W} {vs : List Value} (hw : wd adl bS cI cZ cO σ ws) (hs : st2 adl bS as vs) (l : Launch) (sz : Nat) :
    Met l (my M) (ws_ M) ({ frames := mf M, cells := nn σ' - nn σ, slots := nt σ' - nt σ, locals := mlo M }) (va_Pc vs (pcs cI cZ cO D ws sz)) (fun _ st oc t => qc adl bS cI cZ cO D r σ' ws sz st oc t) (nn σ' - nn σ) (nt σ' - nt σ) (va_A ws sz) := by
  obtain ⟨m1, m2, m3, m4, m5⟩ := mfacts M hM
  refine Met.ofW (cc := mb M) (maxL := ml M) (ret := rt (mk M)) m1 rfl ?_
  intro p e s m args below meth c s₁ B hml hv
  obtain ⟨rfl, hsz, hP, hK, hD0, hN, hO⟩ := hv
  have hts := atoms_spec (ws := ws_ M) B.pre
  have hown : s.vm.findClass (my M).cls = some m.cls := findClass_of_methodNamed B.named
  have hin : meth.name = (my M).name := (name_of_methodNamed B.named B.method).1
  have hr := B.returns
  have hlocks := B.notSynchronized
  subst hsz
  rw [lg_entry_eq]
  have hA : ∀ q : Nat, s.heap.size ≤ q → va_A ws s.heap.size q := fun q h => Or.inr h
  refine hsim p l e (headSpec (ws_ M) _).room s m vs.toArray below meth c D (va_A ws s.heap.size) bS cI cZ cO 0 (fun _ => 0) _ adl (nn σ' - nn σ) (nt σ' - nt σ)
    ⟨B.exec, B.bytes, hml, by rw [← show (my M).cls = oS (mo M) from m5]; exact hown, fun w h => hts w (List.mem_cons_of_mem _ h), hN, hO, fun h => hin.trans h, hK, hA, fun h => absurd h (not_law M hM), ⟨Nat.le_refl _, Nat.le_refl _, Nat.le_refl _, Nat.le_refl _⟩⟩
    ?_ adl s.heap [] 0 0 _ _ ⟨ws, ⟨[], by simp⟩, hw, hP, hD0.self, va_S.rf, by have := hg.1; omega, by have := hg.2.1; omega, hg.1, hg.2.1, fun h => absurd h (not_law M hM)⟩ (lr_entry hs (fun t ht => (has t ht).elim Or.inl (fun h => Or.inr (Or.inl h))) hlen) trivial
  intro adl1 H1 locs1 als1 cst1 pc1 P1 hen
  obtain ⟨ws1, hx1, hw1, hP1, hD1, hS1, -⟩ := P1
  rcases hen with ⟨k1, rfl, rfl, hd⟩ | ⟨k1, v, rfl, rfl, k2, hd⟩ | ⟨k1, v, rfl, rfl, hd⟩
  · rw [k1] at hr
    exact W.vret B.exec B.bytes hr (fun t ht hW => ⟨⟨none, adl1, ws1, rfl, Or.inl ⟨rfl, rfl⟩, hx1, hw1, by rw [ht]; exact hP1, hD1⟩, hS1.F ht⟩) hS1.2.2 hd
  · rcases k1 with k1 | k1
    · rw [k1] at hr
      exact W.iret (v := v) B.exec B.bytes hr (fun t ht hW => ⟨⟨some (.int v), adl1, ws1, rfl, Or.inr (Or.inl ⟨v, rfl, rfl⟩), hx1, hw1, by rw [ht]; exact hP1, hD1⟩, hS1.F ht⟩) hS1.2.2 hd
    · rw [k1] at hr
      exact W.zret (v := v) (ty := .boolean) B.exec B.bytes hr (by rcases k2 k1 with rfl | rfl <;> rfl) (fun t ht hW => ⟨⟨some (.int v), adl1, ws1, rfl, Or.inr (Or.inl ⟨v, rfl, rfl⟩), hx1, hw1, by rw [ht]; exact hP1, hD1⟩, hS1.F ht⟩) hS1.2.2 hd
  · rw [k1] at hr
    exact W.lret (v := v) B.exec B.bytes hr (fun t ht hW => ⟨⟨some (.long v), adl1, ws1, rfl, Or.inr (Or.inr ⟨v, rfl, rfl⟩), hx1, hw1, by rw [ht]; exact hP1, hD1⟩, hS1.F ht⟩) hS1.2.2 hd
theorem gw_good {c : Nat} (hc : c < 148) : GoodIn gw (ws_ c) := by
  intro w hw
  rcases List.mem_cons.mp hw with rfl | hw
  · exact ⟨(mfacts c hc).2.1, good_of_word (List.mem_filter.mp (mfacts c hc).2.1).2⟩
  · exact ⟨hw, good_of_word (List.mem_filter.mp hw).2⟩
theorem cat_le (v : Value) : v.category ≤ 2 := by rcases lv_cat v with h | h <;> omega
theorem cat_sum {st : List Value} (h : st.length ≤ 4) : (st.map fun v => v.category).sum ≤ 8 := by
  have key : ∀ (l : List Value), (l.map fun v => v.category).sum ≤ 2 * l.length := by
    intro l
    induction l with
    | nil => simp
    | cons v l ih => simp only [List.map_cons, List.sum_cons, List.length_cons]; have := cat_le v; omega
  have := key st
  omega
section CS
variable {M pc : Nat} {ls st : List AV} {σ σ1 σ' : St} {r r1 : AV}
theorem blind {vs : List Value} {cI cZ cO : Nat} {D : va_G} {ws : va_W} {sz : Nat} : FrameBlind (va_Pc vs (pcs cI cZ cO D ws sz)) := by
  intro a U g mk h
  obtain ⟨h0, h1, h2, h3, h4, h5, h6⟩ := h
  exact ⟨h0, h1, h2, va_K.moved (u := U) (U := U.calling g mk a) (Vm.Alike.refl U.vm) h3, h4, nst_vm (s := U) (U := U.calling g mk a) rfl h5, va_AO.moved (u := U) (U := U.calling g mk a) (Vm.Alike.refl U.vm) h6⟩
/-- behind a call -/
theorem s_back {p : Program} {l : Launch} {e : Env} {R : Room} {s : State} {m : MethodId} {args : Array Value} {below : List Frame} {meth : Method} {c : Code} {D : va_G} {A : Nat → Prop} {bS cI cZ cO L : Nat} {xs : Nat → Int32} {Q : State → Prop} {adl0 : List Nat} {fc fs : Nat}
    (C : cx p R s m args meth c D A bS cI cZ cO L xs fc fs M) (E : he p l e R s m args below meth c D A bS cI cZ cO L xs Q adl0 fc fs M r σ')
    {adl : List Nat} {H : Heap} {locs : List Loc} {cells slots : Nat} {als : Array Slot} {cst : List Value} {ws : va_W} {k : Nat}
    (hx : ∃ x, adl = adl0 ++ x) (hD : va_D A ws) (hS : va_S A s.heap H locs) (hrest : cells + nn σ' = fc + nn σ ∧ slots + nt σ' = fs + nt σ ∧ nn σ ≤ nn σ' ∧ nt σ ≤ nt σ' ∧ (mo M = 4 → sl σ = L ∧ ∀ j : Nat, j < L → (xs j).toInt = sx σ j))
    (g1 : grow σ σ1) (g2 : grow σ1 σ') (hl : lr adl bS (ml M) ls als) (hs : st2 adl bS (st.drop k) (cst.drop k))
    (hk : simAt M (pc + 3) ls (psh r1 (st.drop k)) σ1 r σ')
    (hr : va_Run p l e R s m args below meth c H locs cells slots (nn σ1 - nn σ) (nt σ1 - nt σ) (F0 m pc als cst) (cst.drop k) (qc adl bS cI cZ cO D r1 σ1 ws H.size) (va_A ws H.size)) :
    W p l e R s m args below meth c H locs cells slots Q (F0 m pc als cst) := by
  intro T hT X
  obtain ⟨v, st₀, t, T', L', h0, X', hL, e1, e2, ⟨⟨v', adl1, ws1, hv, hrv, hx1, hw1, hP1, hD1⟩, hz, hkeep⟩, stp'⟩ := hr T hT X
  cases hv
  rw [h0] at hz hkeep
  have hF : ∀ q, va_A ws H.size q → A q := by
    intro q h
    rcases h with ⟨k, e', h⟩ | h
    · exact hD.2 k _ h
    · exact C.2.2.2.2.2.2.2.2.2.1 q (Nat.le_trans hS.1 h)
  have hS1 : va_S A s.heap T'.heap (locs ++ L') := ⟨Nat.le_trans hS.1 (by rw [e1]; exact hz), fun q h1 h2 => by rw [e1, hkeep q (Nat.lt_of_lt_of_le h1 hS.1) (fun z => h2 (hF q z))]; exact hS.2.1 q h1 h2, fun q hq => by
      rcases List.mem_append.mp hq with h | h
      · exact hS.2.2 q h
      · exact hF _ (hL q h)⟩
  obtain ⟨r1', r2', r3', r4', r5'⟩ := hrest
  have hst : st2 adl1 bS (psh r1 (st.drop k)) (v.toList ++ cst.drop k) := by
    rcases hrv with ⟨rfl, rfl⟩ | ⟨x, rfl, rfl⟩ | ⟨x, rfl, rfl⟩
    · exact st2_pre hx1 hs
    · exact ⟨⟨x, rfl, rfl⟩, st2_pre hx1 hs⟩
    · exact ⟨⟨x, rfl, rfl⟩, st2_pre hx1 hs⟩
  have hxx : ∃ x, adl1 = adl0 ++ x := by
    obtain ⟨a, rfl⟩ := hx
    obtain ⟨b, rfl⟩ := hx1
    exact ⟨a ++ b, by rw [List.append_assoc]⟩
  have hfin := hk p l e R s m args below meth c D A bS cI cZ cO L xs Q adl0 fc fs C E adl1 T'.heap (locs ++ L') (cells + (nn σ1 - nn σ)) (slots + (nt σ1 - nt σ)) als (v.toList ++ cst.drop k)
    ⟨ws1, hxx, hw1, by rw [e1]; exact hP1, hD1.weaken (fun _ q _ h => hF q.1 h), hS1, by have := g1.1; omega, by have := g1.2.1; omega, g2.1, g2.2.1, fun h => by obtain ⟨a, b⟩ := r5' h; exact ⟨by rw [g1.2.2.1]; exact a, by rw [g1.2.2.2]; exact b⟩⟩ (lr_pre hx1 hl) hst
  obtain ⟨t2, a1, b1⟩ := hfin T' rfl X'
  exact ⟨t2, stp' t2 a1, b1⟩
theorem tags_of {l : List AV} (h : (l.all fun t => decide (t.1 ≤ 1)) = true) : ∀ t ∈ l.reverse, t.1 = 0 ∨ t.1 = 1 := by
  intro t ht
  have := of_decide_eq_true (List.all_eq_true.mp h t (List.mem_reverse.mp ht))
  omega
theorem rmo_of {M c : Nat} (h : rmo M c = true) : mf c + 1 ≤ mf M ∧ 8 + (ml c + 11) + mlo c ≤ mlo M := by
  simp only [rmo, Bool.and_eq_true, decide_eq_true_eq] at h
  exact h
theorem s_static {i c0 sy n : Nat} (hq : mlk.lookup (mo M, i) = some (c0, sy)) (hsy : sy = 0 ∨ sy = 1) (hrm : rmo M c0 = true) (hn : nar c0 = some n) (hnl : n ≤ ml c0)
    (ht : ((st.take n).all fun t => decide (t.1 ≤ 1)) = true) (hle : n ≤ st.length) (h4 : st.length - n ≤ 4) (g1 : grow σ σ1) (g2 : grow σ1 σ')
    (hsim : simAt c0 0 (pad (st.take n).reverse (ml c0)) [] σ r1 σ1) (hd : decode (mb M) pc = .ok (.invokestatic i, 3)) (hk : simAt M (pc + 3) ls (psh r1 (st.drop n)) σ1 r σ') : simAt M pc ls st σ r σ' := by
  intro p l e R s m args below meth c D A bS cI cZ cO L xs Q adl0 fc fs C E adl H locs cells slots als cst P hl hs
  obtain ⟨ws, hx, hw, hP, hD, hS, hrest⟩ := P
  have f0 := lfacts _ (lookup_mem hq)
  have f1 : c0 < 148 := f0.1
  have f2 := f0.2
  clear f0
  obtain ⟨m1, m2, m3, m4, m5⟩ := mfacts c0 f1
  have hts := C.2.2.2.2.1
  have hlen := st2_len hs
  have hrm := rmo_of hrm
  obtain ⟨ra, rb, rc, rd⟩ := C.2.2.2.2.2.2.2.2.2.2.2
  obtain ⟨q1, q2, -⟩ := id hrest
  have ga := g1.1
  have gb := g1.2.1
  have gc := g2.1
  have gd := g2.2.1
  have hmet := met_of (D := D) f1 hsim (tags_of ht) (by rw [List.length_reverse, List.length_take]; omega) g1 hw (st2_rev (st2_take n hs)) l H.size
  have hsd := st2_drop n hs
  have hroom : (mf c0 + 1 ≤ R.frames ∧ 8 + (ml c0 + 11) + mlo c0 ≤ R.locals) := ⟨Nat.le_trans hrm.1 ra, Nat.le_trans hrm.2 rb⟩
  have hpre : PreS s H (va_Pc (cst.take n).reverse (pcs cI cZ cO D ws H.size)) (cst.take n).reverse :=
    ⟨blind, fun U hU hW => ⟨rfl, by rw [hU], by rw [hU]; exact hP, va_K.moved hW.alike C.2.2.2.2.2.2.2.2.1, hD.weaken (fun _ _ _ _ => trivial), nst_warm hW C.2.2.2.2.2.1, va_AO.moved hW.alike C.2.2.2.2.2.2.1⟩⟩
  have hstack : cst = (cst.take n).reverse.reverse ++ cst.drop n := by rw [List.reverse_reverse, List.take_append_drop]
  have hcat : 2 * (F0 m pc als cst).monitorRoom + ((cst.drop n).map fun v => v.category).sum ≤ 8 := lv_room (cat_sum (by rw [List.length_drop]; omega))
  refine s_back C E hx hD hS hrest g1 g2 hl hsd hk ?_
  have hcells : cells + (nn σ1 - nn σ) ≤ R.cells ∧ slots + (nt σ1 - nt σ) ≤ R.slots := ⟨by omega, by omega⟩
  rcases hsy with rfl | rfl
  · exact va_runS (n := n) ⟨C.1, C.2.1, C.2.2.1, C.2.2.2.1, hts⟩ hmet ⟨callB_of n hts (gw_good f1) rfl rfl rfl (hts _ m3) (hts _ f2.1) ⟨m4.1, m4.2, hn⟩ hroom, hts _ f2.2⟩ hpre rfl (by rw [List.length_reverse, List.length_take]; omega) hl.1 hstack hcat hd hcells
  · exact va_runSN (n := n) ⟨C.1, C.2.1, C.2.2.1, C.2.2.2.1, hts⟩ hmet ⟨va_cnB n hts (gw_good f1) rfl rfl rfl (C.2.2.2.2.2.1 _ f2.1) (hts _ m3) ⟨m4.1, m4.2, hn⟩ hroom, hts _ f2.2, trivial⟩ hpre rfl (by rw [List.length_reverse, List.length_take]; omega) hl.1 hstack hcat hd hcells
theorem s_inst {i c0 sy n : Nat} {virt : Bool} (hq : mlk.lookup (mo M, i) = some (c0, sy)) (hsy : if virt = true then sy = 2 else sy = 3 ∨ sy = 4) (hrm : rmo M c0 = true) (hn : nar c0 = some n) (hnl : n + 1 ≤ ml c0)
    (ht : ((st.take (n + 1)).all fun t => decide (t.1 ≤ 1)) = true) (hle : n + 1 ≤ st.length) (h4 : st.length - (n + 1) ≤ 4) (g1 : grow σ σ1) (g2 : grow σ1 σ')
    (hr1 : (lg st n).1 = 1) (hr2 : if virt = true then fok σ (lg st n).2.2 (mo c0) else 1 ≤ (lg st n).2.2)
    (hsim : simAt c0 0 (pad (st.take (n + 1)).reverse (ml c0)) [] σ r1 σ1) (hd : decode (mb M) pc = .ok (if virt = true then .invokevirtual i else .invokespecial i, 3)) (hk : simAt M (pc + 3) ls (psh r1 (st.drop (n + 1))) σ1 r σ') : simAt M pc ls st σ r σ' := by
  intro p l e R s m args below meth c D A bS cI cZ cO L xs Q adl0 fc fs C E adl H locs cells slots als cst P hl hs
  obtain ⟨ws, hx, hw, hP, hD, hS, hrest⟩ := P
  have f0 := lfacts _ (lookup_mem hq)
  have f1 : c0 < 148 := f0.1
  have f2 := f0.2
  clear f0
  obtain ⟨m1, m2, m3, m4, m5⟩ := mfacts c0 f1
  have hts := C.2.2.2.2.1
  have hlen := st2_len hs
  have hrm := rmo_of hrm
  obtain ⟨ra, rb, rc, rd⟩ := C.2.2.2.2.2.2.2.2.2.2.2
  obtain ⟨q1, q2, -⟩ := id hrest
  have ga := g1.1
  have gb := g1.2.1
  have gc := g2.1
  have gd := g2.2.1
  have hmet := met_of (D := D) f1 hsim (tags_of ht) (by rw [List.length_reverse, List.length_take]; omega) g1 hw (st2_rev (st2_take (n + 1) hs)) l H.size
  have hsd := st2_drop (n + 1) hs
  have hroom : (mf c0 + 1 ≤ R.frames ∧ 8 + (ml c0 + 11) + mlo c0 ≤ R.locals) := ⟨Nat.le_trans hrm.1 ra, Nat.le_trans hrm.2 rb⟩
  have hlt : n < cst.length := by omega
  obtain ⟨b, hb1⟩ : ∃ b, cst[n]? = some (.ref b) ∧ ((lg st n).2.2 ≥ 1 → adl[(lg st n).2.2 - 1]? = some b) := by
    have hget : st[n]? = some (lg st n) := lg_some rfl (by rw [hr1]; decide)
    obtain ⟨v, h1, h2⟩ := st2_get hs n _ hget
    have h1' : 1 ≤ (lg st n).2.2 := by
      cases virt with
      | true => exact hr2.1
      | false => exact hr2
    revert h2 h1' hr1
    generalize lg st n = t
    obtain ⟨g, zz, kk⟩ := t
    intro hr1 h2 h1'
    cases hr1
    rcases h2 with ⟨h3, -⟩ | ⟨a, h3, h4', rfl⟩
    · exact absurd h1' (by show ¬ 1 ≤ kk; omega)
    · exact ⟨a, h1, fun _ => h4'⟩
  obtain ⟨hb1, hb2⟩ := hb1
  have htk : (cst.take (n + 1)).reverse = .ref b :: (cst.take n).reverse := by
    rw [List.take_add_one, hb1]; simp
  have hpre0 : ∀ U : State, U.heap = H → s.WarmedH U.vm → va_Pc (cst.take (n + 1)).reverse (pcs cI cZ cO D ws H.size) (Value.ref b :: (cst.take n).reverse).toArray U :=
    fun U hU hW => ⟨by rw [htk], by rw [hU], by rw [hU]; exact hP, va_K.moved hW.alike C.2.2.2.2.2.2.2.2.1, hD.weaken (fun _ _ _ _ => trivial), nst_warm hW C.2.2.2.2.2.1, va_AO.moved hW.alike C.2.2.2.2.2.2.1⟩
  have hstack : cst = (cst.take n).reverse.reverse ++ .ref b :: cst.drop (n + 1) := by
    rw [List.reverse_reverse]
    have e1 : cst[n]'hlt = .ref b := by
      rw [List.getElem?_eq_getElem hlt] at hb1
      exact Option.some.inj hb1
    rw [← e1, List.getElem_cons_drop, List.take_append_drop]
  have hcat : 2 * (F0 m pc als cst).monitorRoom + ((cst.drop (n + 1)).map fun v => v.category).sum ≤ 8 := lv_room (cat_sum (by rw [List.length_drop]; omega))
  refine s_back C E hx hD hS hrest g1 g2 hl hsd hk ?_
  have hcells : cells + (nn σ1 - nn σ) ≤ R.cells ∧ slots + (nt σ1 - nt σ) ≤ R.slots := ⟨by omega, by omega⟩
  cases virt with
  | true =>
    have hsy' : sy = 2 := hsy
    subst hsy'
    obtain ⟨f2a, f2b, f2c, f2d, f2e⟩ := f2
    have hf : fok σ (lg st n).2.2 (mo c0) := hr2
    obtain ⟨a, e', k1, k2, k3⟩ := wd_at hw hf
    have hab : a = b := Option.some.inj (k1.symm.trans (hb2 hf.1))
    subst hab
    obtain ⟨-, vs, rfl, -, -⟩ := cr_obj f2d k3
    have hrecv := va_recv C.2.2.2.2.2.2.2.2.1 hP (vwc_at f2d) k2
    exact va_runV (n := n) (C := (my c0).cls) ⟨C.1, C.2.1, C.2.2.1, C.2.2.2.1, hts⟩ hmet ⟨callB_of n hts (gw_good f1) rfl rfl rfl (hts _ m3) (hts _ f2a) ⟨m4.1, m4.2, hn⟩ hroom, hts _ f2b, hts _ f2c⟩ ⟨blind, by rw [f2e]; exact hrecv, hpre0⟩ rfl (by rw [List.length_reverse, List.length_take]; omega) hl.1 hstack hcat hd hcells
  | false =>
    have hsy' : sy = 3 ∨ sy = 4 := hsy
    rcases hsy' with rfl | rfl
    · obtain ⟨f2a, f2b, f2c, f2d⟩ := f2
      have hcb := callB_of (R := R) (s := s) (args := args) (own := oS (mo M)) (index := i) (y := my c0) (bytes := mb c0) (maxL := ml c0) (ret := rt (mk c0)) (rm := { frames := mf c0, cells := nn σ1 - nn σ, slots := nt σ1 - nt σ, locals := mlo c0 }) (mc := nn σ1 - nn σ) (ms := nt σ1 - nt σ) n hts (gw_good f1) rfl rfl rfl (hts _ m3) (hts _ f2a) ⟨m4.1, m4.2, hn⟩ hroom
      rw [f2d] at hcb
      exact va_runI (n := n) ⟨C.1, C.2.1, C.2.2.1, C.2.2.2.1, hts⟩ hmet ⟨hcb, f2c, hts _ f2b⟩ ⟨blind, hpre0⟩ rfl (by rw [List.length_reverse, List.length_take]; omega) hl.1 hstack hcat hd hcells
    · obtain ⟨f2a, f2b, f2c, f2d⟩ := f2
      have hcb := va_cnB (R := R) (s := s) (args := args) (own := oS (mo M)) (host := "FogCuts") (index := i) (y := my c0) (bytes := mb c0) (maxL := ml c0) (ret := rt (mk c0)) (rm := { frames := mf c0, cells := nn σ1 - nn σ, slots := nt σ1 - nt σ, locals := mlo c0 }) (mc := nn σ1 - nn σ) (ms := nt σ1 - nt σ) n hts (gw_good f1) rfl rfl rfl (C.2.2.2.2.2.1 _ f2a) (hts _ m3) ⟨m4.1, m4.2, hn⟩ hroom
      rw [f2d] at hcb
      exact va_runIN (n := n) ⟨C.1, C.2.1, C.2.2.1, C.2.2.2.1, hts⟩ hmet ⟨hcb, f2c, hts _ f2b⟩ ⟨blind, hpre0⟩ rfl (by rw [List.length_reverse, List.length_take]; omega) hl.1 hstack hcat hd hcells
theorem s_obj {i c0 q : Nat} {z : Int} (hq : mlk.lookup (mo M, i) = some (c0, 5)) (hr : 1 ≤ mf M ∧ 20 ≤ mlo M) (h1 : 1 ≤ q) (h4 : st.length ≤ 4) (hd : decode (mb M) pc = .ok (.invokespecial i, 3)) (hk : simAt M (pc + 3) ls st σ r σ') : simAt M pc ls ((1, z, q) :: st) σ r σ' := by
  intro p l e R s m args below meth c D A bS cI cZ cO L xs Q adl0 fc fs C E adl H locs cells slots als cst P hl hs
  have hs0 := st2_cons hs
  clear hs
  obtain ⟨v2, cst, rfl, h2, hs⟩ := hs0
  obtain ⟨ra, rb, -, -⟩ := C.2.2.2.2.2.2.2.2.2.2.2
  have hts := C.2.2.2.2.1
  rcases h2 with ⟨h3, -⟩ | ⟨a, h3, h5, rfl⟩
  · omega
  refine W.objInit (rest := cst) C.1 C.2.1 C.2.2.2.1 (hts _ (lfacts _ (lookup_mem hq)).2) (hts _ gw_obj.1) (hts _ gw_obj.2) rfl (by rw [C.2.2.1]; exact hl.1) rfl hd (Nat.le_trans hr.1 ra) ?_ ?_
  · have h := lv_room (m := m) (pc := pc) (ls := als) (rest := Value.ref a :: cst) (cat_sum (st := cst) (by rw [st2_len hs]; exact h4))
    have := hr.2
    omega
  · exact hk p l e R s m args below meth c D A bS cI cZ cO L xs Q adl0 fc fs C E adl H locs cells slots als _ P hl hs
theorem wp_room {p : Program} {R : Room} {s : State} {m : MethodId} {args : Array Value} {meth : Method} {c : Code} {D : va_G} {A : Nat → Prop} {bS cI cZ cO L : Nat} {xs : Nat → Int32} {adl0 : List Nat} {fc fs : Nat} {adl : List Nat} {H : Heap} {locs : List Loc} {cells slots : Nat}
    (C : cx p R s m args meth c D A bS cI cZ cO L xs fc fs M) (P : wp adl0 bS cI cZ cO L xs M s D A fc fs σ' σ adl H locs cells slots) : cells ≤ R.cells ∧ slots ≤ R.slots := by
  obtain ⟨ws, hx, hw, hP, hD, hS, r1', r2', r3', r4', -⟩ := P
  obtain ⟨-, -, rc, rd⟩ := C.2.2.2.2.2.2.2.2.2.2.2
  omega
theorem s_max {i c0 q1 q2 : Nat} {y x : Int} (hq : mlk.lookup (mo M, i) = some (c0, 6)) (hr : 1 ≤ mf M ∧ 21 ≤ mlo M) (h4 : st.length ≤ 4) (hd : decode (mb M) pc = .ok (.invokestatic i, 3)) (hk : simAt M (pc + 3) ls (vI (if x < y then y else x) :: st) σ r σ') : simAt M pc ls ((0, y, q1) :: (0, x, q2) :: st) σ r σ' := by
  intro p l e R s m args below meth c D A bS cI cZ cO L xs Q adl0 fc fs C E adl H locs cells slots als cst P hl hs
  have hs0 := st2_cons hs
  clear hs
  obtain ⟨v1, cst, rfl, ⟨y1, rfl, h1⟩, hs⟩ := hs0
  have hs0 := st2_cons hs
  clear hs
  obtain ⟨v2, cst, rfl, ⟨x1, rfl, h2⟩, hs⟩ := hs0
  obtain ⟨ra, rb, -, -⟩ := C.2.2.2.2.2.2.2.2.2.2.2
  have hts := C.2.2.2.2.1
  obtain ⟨w1, w2⟩ := wp_room C P
  refine va_mmax C.1 C.2.1 (C.2.2.1.trans hl.1.symm) C.2.2.2.1 (hts _ (lfacts _ (lookup_mem hq)).2) (hts _ gw_max.1) (hts _ gw_max.2.1) (hts _ gw_max.2.2) (Nat.le_trans hr.1 ra) ?_ w1 w2 hd ?_
  · have h := cat_sum (st := cst) (by rw [st2_len hs]; exact h4)
    have := hr.2
    omega
  · refine hk p l e R s m args below meth c D A bS cI cZ cO L xs Q adl0 fc fs C E adl H locs cells slots als _ P hl ⟨⟨_, rfl, ?_⟩, hs⟩
    by_cases h : x < y
    · rw [if_pos h, if_pos ((cv_lt2 h1 h2).mpr h)]; exact h1
    · rw [if_neg h, if_neg (fun z => h ((cv_lt2 h1 h2).mp z))]; exact h2
theorem s_min {i c0 q1 q2 : Nat} {y x : Int} (hq : mlk.lookup (mo M, i) = some (c0, 7)) (hr : 1 ≤ mf M ∧ 21 ≤ mlo M) (h4 : st.length ≤ 4) (hd : decode (mb M) pc = .ok (.invokestatic i, 3)) (hk : simAt M (pc + 3) ls (vI (if y < x then y else x) :: st) σ r σ') : simAt M pc ls ((0, y, q1) :: (0, x, q2) :: st) σ r σ' := by
  intro p l e R s m args below meth c D A bS cI cZ cO L xs Q adl0 fc fs C E adl H locs cells slots als cst P hl hs
  have hs0 := st2_cons hs
  clear hs
  obtain ⟨v1, cst, rfl, ⟨y1, rfl, h1⟩, hs⟩ := hs0
  have hs0 := st2_cons hs
  clear hs
  obtain ⟨v2, cst, rfl, ⟨x1, rfl, h2⟩, hs⟩ := hs0
  obtain ⟨ra, rb, -, -⟩ := C.2.2.2.2.2.2.2.2.2.2.2
  have hts := C.2.2.2.2.1
  obtain ⟨w1, w2⟩ := wp_room C P
  refine va_mmin C.1 C.2.1 (C.2.2.1.trans hl.1.symm) C.2.2.2.1 (hts _ (lfacts _ (lookup_mem hq)).2) (hts _ gw_min.1) (hts _ gw_min.2.1) (hts _ gw_min.2.2) (Nat.le_trans hr.1 ra) ?_ w1 w2 hd ?_
  · have h := cat_sum (st := cst) (by rw [st2_len hs]; exact h4)
    have := hr.2
    omega
  · refine hk p l e R s m args below meth c D A bS cI cZ cO L xs Q adl0 fc fs C E adl H locs cells slots als _ P hl ⟨⟨_, rfl, ?_⟩, hs⟩
    by_cases h : y < x
    · rw [if_pos h, if_pos ((cv_lt2 h2 h1).mpr h)]; exact h1
    · rw [if_neg h, if_neg (fun z => h ((cv_lt2 h2 h1).mp z))]; exact h2
theorem s_abs {i c0 q2 : Nat} {x : Int} (hq : mlk.lookup (mo M, i) = some (c0, 8)) (hr : 1 ≤ mf M ∧ 21 ≤ mlo M) (h4 : st.length ≤ 4) (hd : decode (mb M) pc = .ok (.invokestatic i, 3)) (hk : simAt M (pc + 3) ls (vI (if 0 ≤ x then x else wr (-x)) :: st) σ r σ') : simAt M pc ls ((0, x, q2) :: st) σ r σ' := by
  intro p l e R s m args below meth c D A bS cI cZ cO L xs Q adl0 fc fs C E adl H locs cells slots als cst P hl hs
  have hs0 := st2_cons hs
  clear hs
  obtain ⟨v2, cst, rfl, ⟨x1, rfl, h2⟩, hs⟩ := hs0
  obtain ⟨ra, rb, -, -⟩ := C.2.2.2.2.2.2.2.2.2.2.2
  have hts := C.2.2.2.2.1
  obtain ⟨w1, w2⟩ := wp_room C P
  refine va_mabs C.1 C.2.1 (C.2.2.1.trans hl.1.symm) C.2.2.2.1 (hts _ (lfacts _ (lookup_mem hq)).2) (hts _ gw_abs.1) (hts _ gw_abs.2.1) (hts _ gw_abs.2.2) (Nat.le_trans hr.1 ra) ?_ w1 w2 hd ?_
  · have h := cat_sum (st := cst) (by rw [st2_len hs]; exact h4)
    have := hr.2
    omega
  · refine hk p l e R s m args below meth c D A bS cI cZ cO L xs Q adl0 fc fs C E adl H locs cells slots als _ P hl ⟨⟨_, rfl, ?_⟩, hs⟩
    by_cases h : 0 ≤ x
    · rw [if_pos h, if_pos (by rw [cv_ge h2]; omega)]; exact h2
    · rw [if_neg h, if_neg (by rw [cv_ge h2]; omega), Int32.toInt_sub, h2]
      rw [wr_def]
      congr 1
      rw [show (0 : Int32).toInt = 0 from rfl]
      omega
end CS
