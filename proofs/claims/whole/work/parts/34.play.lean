/-! a night played -/
/-- an object's row of ints with some fields anew -/
def flN (wt f p : Int) (d : Dat) : Int := if wt ≠ -1 ∧ f = -6 ∧ hoD d wt.toNat = false then p else f
/-- so many signs left, the place, the parts so far, the part behind which the watched fell, the bank: where it halts and why (or -6), parts, fallen, bank -/
def pl (sg : Nat → Int) (wt : Int) : Nat → Nat → Int → Int → Dat → Int × Int × Int × Int × Dat
  | 0, _, p, f, d => (-6, -6, p, f, d)
  | 1, k, p, f, d => if hr (sg k) = -6 then (-6, -6, p, f, d) else (-6, -6, p + 1, flN wt f p (pas d (hr (sg k))), pas d (hr (sg k)))
  | m + 2, k, p, f, d => if hr (sg k) = -6 then
      (if acR d (sg k - 97).toNat (sg (k + 1)) = 0 then pl sg wt m (k + 2) (p + 1) (flN wt f p (actD d (sg k - 97).toNat (sg (k + 1)))) (actD d (sg k - 97).toNat (sg (k + 1)))
       else (p, acR d (sg k - 97).toNat (sg (k + 1)), p, f, d))
    else pl sg wt (m + 1) (k + 1) (p + 1) (flN wt f p (pas d (hr (sg k)))) (pas d (hr (sg k)))
/-- where there is no fault: what stands at a part's beginning -/
theorem flt_hour {n : Nat} (hn : n ≤ 24) {sg : Nat → Int} {m k : Nat} (hf : fac n sg k = false) (h : fltN n sg (m + 1) k = -6) (hh : hr (sg k) ≠ -6) : fac n sg (k + 1) = false ∧ fltN n sg m (k + 1) = -6 := by
  have f3 : fac n sg (k + 1) = isC n (sg k - 97) := by
    show (!fac n sg k && _) = _
    rw [hf, Bool.not_false, Bool.true_and]
  refine ⟨by rw [f3]; exact hr_isC hn hh, ?_⟩
  unfold fltN at h
  split at h
  · exact h
  · omega
theorem flt_act {n : Nat} {sg : Nat → Int} {m k : Nat} (hf : fac n sg k = false) (h : fltN n sg (m + 1) k = -6) (hh : hr (sg k) = -6) :
    ∃ m1, m = m1 + 1 ∧ (0 ≤ sg k - 97 ∧ sg k - 97 < (n : Int)) ∧ (sg (k + 1) = 42 ∨ sg (k + 1) = 43 ∨ (48 ≤ sg (k + 1) ∧ sg (k + 1) ≤ 57)) ∧ fac n sg (k + 2) = false ∧ fltN n sg m1 (k + 2) = -6 := by
  have f3 : fac n sg (k + 1) = isC n (sg k - 97) := by
    show (!fac n sg k && _) = _
    rw [hf, Bool.not_false, Bool.true_and]
  have f1 : fltN n sg (m + 1) k = if fits n sg k = true then fltN n sg m (k + 1) else (k : Int) := rfl
  have f2 : fits n sg k = (isC n (sg k - 97) || decide (hr (sg k) ≠ -6)) := by unfold fits; rw [hf]; rfl
  rw [hh, decide_eq_false (by simp), Bool.or_false] at f2
  rw [f1, f2] at h
  cases hc : isC n (sg k - 97) with
  | false =>
    rw [hc, if_neg Bool.false_ne_true] at h
    omega
  | true =>
    rw [hc, if_pos rfl] at h
    rw [hc] at f3
    cases m with
    | zero =>
      unfold fltN at h
      rw [f3, if_pos rfl] at h
      omega
    | succ m1 =>
      have f4 : fltN n sg (m1 + 1) (k + 1) = if fits n sg (k + 1) = true then fltN n sg m1 (k + 2) else ((k + 1 : Nat) : Int) := rfl
      have f5 : fits n sg (k + 1) = isA (sg (k + 1)) := by unfold fits; rw [f3]; rfl
      have f6 : fac n sg (k + 2) = false := by
        show (!fac n sg (k + 1) && _) = _
        rw [f3]; rfl
      rw [f4, f5] at h
      cases hA : isA (sg (k + 1)) with
      | false =>
        rw [hA, if_neg Bool.false_ne_true] at h
        omega
      | true =>
        rw [hA, if_pos rfl] at h
        have := of_decide_eq_true hA
        exact ⟨m1, rfl, of_decide_eq_true hc, by omega, f6, h⟩
set_option maxRecDepth 100000 in
set_option maxHeartbeats 4000000 in
/-- the watched shape looked at; the parts counted -/
theorem c_playT {σ : St} {d : Dat} (hs : shp σ) (hrp : rep σ 10 d) (ho : okd d) {wt : Int} (hw : -1 ≤ wt ∧ wt ≤ 3) {p f : Int} (hp : gt σ 18 2 = p) (hpb : 0 ≤ p ∧ p ≤ 100) (hfa : gt σ 18 5 = f) (q4 q5 q6 q7 : AV) :
    ∃ G, run 26 154 [vR 18, vR 2, vR 10, vI wt, q4, q5, q6, q7] [] σ = run 26 40 [vR 18, vR 2, vR 10, vI wt, q4, q5, q6, q7] [] (sr σ 18 G) ∧ G 1 = gt σ 18 1 ∧ G 2 = p + 1 ∧ G 3 = gt σ 18 3 ∧ G 4 = gt σ 18 4 ∧ G 5 = flN wt f p d := by
  have w1 : wr (p + 1) = p + 1 := wr_id (by omega) (by omega)
  have same : f = flN wt f p d → ∃ G, run 26 184 [vR 18, vR 2, vR 10, vI wt, q4, q5, q6, q7] [] σ = run 26 40 [vR 18, vR 2, vR 10, vI wt, q4, q5, q6, q7] [] (sr σ 18 G) ∧ G 1 = gt σ 18 1 ∧ G 2 = p + 1 ∧ G 3 = gt σ 18 3 ∧ G 4 = gt σ 18 4 ∧ G 5 = flN wt f p d := by
    intro hE
    refine ⟨ru (gt σ 18) 2 (p + 1), ?_, ru_n _ _ (by decide), ru_e _ _ _, ru_n _ _ (by decide), ru_n _ _ (by decide), ?_⟩
    · simp (disch := first | assumption | omega | (exact shp_fok (by first | assumption | exact shp_sr _ _ (by assumption) | exact shp_sr _ _ (shp_sr _ _ (by assumption)) | exact shp_sr _ _ (shp_sr _ _ (shp_sr _ _ (by assumption)))) (by decide)) | (simp only [fok_sr, aok_sr]; first | assumption | (exact shp_fok (by first | assumption | exact shp_sr _ _ (by assumption) | exact shp_sr _ _ (shp_sr _ _ (by assumption)) | exact shp_sr _ _ (shp_sr _ _ (shp_sr _ _ (by assumption)))) (by decide))) | (refine shp_aok (by first | assumption | exact shp_sr _ _ (by assumption) | exact shp_sr _ _ (shp_sr _ _ (by assumption)) | exact shp_sr _ _ (shp_sr _ _ (shp_sr _ _ (by assumption)))) rfl rfl ?_ ?_ <;> omega) | (exact shp_sr _ _ (by assumption)) | (exact shp_sr _ _ (shp_sr _ _ (by assumption))) | (exact shp_sr _ _ (shp_sr _ _ (shp_sr _ _ (by assumption)))) | (left; assumption) | (exact b2i_or _) | (simp; done)) only [e26_184, e26_185, e26_186, e26_189, e26_190, e26_191, e26_194, eq_self, ne_a, ne_b, ne_c, Nat.reduceEqDiff, lt0, bnd_ok, psh_I, psh_L, psh_R, psh_U, gt_sr, gr_sr, sk_sr, nn_sr, ↓reduceIte, Int.toNat_natCast, Int.reduceToNat, hp, w1]
    · rw [ru_n _ _ (by decide), hfa]; exact hE
  by_cases h1 : wt = -1
  · obtain ⟨G, e, hG⟩ := same (by unfold flN; rw [if_neg (fun h => h.1 h1)])
    refine ⟨G, ?_, hG⟩
    rw [← e]
    simp (disch := first | assumption | omega | (exact shp_fok (by first | assumption | exact shp_sr _ _ (by assumption) | exact shp_sr _ _ (shp_sr _ _ (by assumption)) | exact shp_sr _ _ (shp_sr _ _ (shp_sr _ _ (by assumption)))) (by decide)) | (simp only [fok_sr, aok_sr]; first | assumption | (exact shp_fok (by first | assumption | exact shp_sr _ _ (by assumption) | exact shp_sr _ _ (shp_sr _ _ (by assumption)) | exact shp_sr _ _ (shp_sr _ _ (shp_sr _ _ (by assumption)))) (by decide))) | (refine shp_aok (by first | assumption | exact shp_sr _ _ (by assumption) | exact shp_sr _ _ (shp_sr _ _ (by assumption)) | exact shp_sr _ _ (shp_sr _ _ (shp_sr _ _ (by assumption)))) rfl rfl ?_ ?_ <;> omega) | (exact shp_sr _ _ (by assumption)) | (exact shp_sr _ _ (shp_sr _ _ (by assumption))) | (exact shp_sr _ _ (shp_sr _ _ (shp_sr _ _ (by assumption)))) | (left; assumption) | (exact b2i_or _) | (simp; done)) only [e26_154, e26_155, e26_156, e26_159, e26_160, e26_163, e26_165, e26_168, e26_169, e26_170, e26_173, e26_176, e26_177, e26_178, e26_181, eq_self, ne_a, ne_b, ne_c, Nat.reduceEqDiff, lt0, bnd_ok, psh_I, psh_L, psh_R, psh_U, gt_sr, gr_sr, sk_sr, nn_sr, ↓reduceIte, Int.toNat_natCast, Int.reduceToNat, h1]
  · by_cases h2 : f = -6
    · obtain ⟨w, rfl⟩ : ∃ w : Nat, wt = (w : Int) := ⟨wt.toNat, by omega⟩
      have a1 := c_holdsR hrp ho (s := w) (by omega)
      cases h3 : hoD d w with
      | true =>
        rw [h3] at a1
        obtain ⟨G, e, hG⟩ := same (by unfold flN; rw [Int.toNat_natCast, h3, if_neg (fun h => Bool.noConfusion h.2.2)])
        refine ⟨G, ?_, hG⟩
        rw [← e]
        simp (disch := first | assumption | omega | (exact shp_fok (by first | assumption | exact shp_sr _ _ (by assumption) | exact shp_sr _ _ (shp_sr _ _ (by assumption)) | exact shp_sr _ _ (shp_sr _ _ (shp_sr _ _ (by assumption)))) (by decide)) | (simp only [fok_sr, aok_sr]; first | assumption | (exact shp_fok (by first | assumption | exact shp_sr _ _ (by assumption) | exact shp_sr _ _ (shp_sr _ _ (by assumption)) | exact shp_sr _ _ (shp_sr _ _ (shp_sr _ _ (by assumption)))) (by decide))) | (refine shp_aok (by first | assumption | exact shp_sr _ _ (by assumption) | exact shp_sr _ _ (shp_sr _ _ (by assumption)) | exact shp_sr _ _ (shp_sr _ _ (shp_sr _ _ (by assumption)))) rfl rfl ?_ ?_ <;> omega) | (exact shp_sr _ _ (by assumption)) | (exact shp_sr _ _ (shp_sr _ _ (by assumption))) | (exact shp_sr _ _ (shp_sr _ _ (shp_sr _ _ (by assumption)))) | (left; assumption) | (exact b2i_or _) | (simp; done)) only [e26_154, e26_155, e26_156, e26_159, e26_160, e26_163, e26_165, e26_168, e26_169, e26_170, e26_173, e26_176, e26_177, e26_178, e26_181, eq_self, ne_a, ne_b, ne_c, Nat.reduceEqDiff, lt0, bnd_ok, psh_I, psh_L, psh_R, psh_U, gt_sr, gr_sr, sk_sr, nn_sr, ↓reduceIte, Int.toNat_natCast, Int.reduceToNat, h1, hfa, h2, a1, b2i_t, Int.reduceEq]
      | false =>
        rw [h3] at a1
        refine ⟨ru (ru (gt σ 18) 5 p) 2 (p + 1), ?_, ?_, ru_e _ _ _, ?_, ?_, ?_⟩
        · simp (disch := first | assumption | omega | (exact shp_fok (by first | assumption | exact shp_sr _ _ (by assumption) | exact shp_sr _ _ (shp_sr _ _ (by assumption)) | exact shp_sr _ _ (shp_sr _ _ (shp_sr _ _ (by assumption)))) (by decide)) | (simp only [fok_sr, aok_sr]; first | assumption | (exact shp_fok (by first | assumption | exact shp_sr _ _ (by assumption) | exact shp_sr _ _ (shp_sr _ _ (by assumption)) | exact shp_sr _ _ (shp_sr _ _ (shp_sr _ _ (by assumption)))) (by decide))) | (refine shp_aok (by first | assumption | exact shp_sr _ _ (by assumption) | exact shp_sr _ _ (shp_sr _ _ (by assumption)) | exact shp_sr _ _ (shp_sr _ _ (shp_sr _ _ (by assumption)))) rfl rfl ?_ ?_ <;> omega) | (exact shp_sr _ _ (by assumption)) | (exact shp_sr _ _ (shp_sr _ _ (by assumption))) | (exact shp_sr _ _ (shp_sr _ _ (shp_sr _ _ (by assumption)))) | (left; assumption) | (exact b2i_or _) | (simp; done)) only [e26_154, e26_155, e26_156, e26_159, e26_160, e26_163, e26_165, e26_168, e26_169, e26_170, e26_173, e26_176, e26_177, e26_178, e26_181, e26_184, e26_185, e26_186, e26_189, e26_190, e26_191, e26_194, eq_self, ne_a, ne_b, ne_c, Nat.reduceEqDiff, lt0, bnd_ok, psh_I, psh_L, psh_R, psh_U, gt_sr, gr_sr, sk_sr, nn_sr, ↓reduceIte, Int.toNat_natCast, Int.reduceToNat, h1, hfa, h2, a1, b2i_f, Int.reduceEq, hp, sr_sr]
          rw [ru_n _ _ (by decide), hp, w1]
        · rw [ru_n _ _ (by decide), ru_n _ _ (by decide)]
        · rw [ru_n _ _ (by decide), ru_n _ _ (by decide)]
        · rw [ru_n _ _ (by decide), ru_n _ _ (by decide)]
        · rw [ru_n _ _ (by decide), ru_e]
          unfold flN
          rw [if_pos ⟨h1, h2, by rw [Int.toNat_natCast]; exact h3⟩]
    · obtain ⟨G, e, hG⟩ := same (by unfold flN; rw [if_neg (fun h => h2 h.2.1)])
      refine ⟨G, ?_, hG⟩
      rw [← e]
      simp (disch := first | assumption | omega | (exact shp_fok (by first | assumption | exact shp_sr _ _ (by assumption) | exact shp_sr _ _ (shp_sr _ _ (by assumption)) | exact shp_sr _ _ (shp_sr _ _ (shp_sr _ _ (by assumption)))) (by decide)) | (simp only [fok_sr, aok_sr]; first | assumption | (exact shp_fok (by first | assumption | exact shp_sr _ _ (by assumption) | exact shp_sr _ _ (shp_sr _ _ (by assumption)) | exact shp_sr _ _ (shp_sr _ _ (shp_sr _ _ (by assumption)))) (by decide))) | (refine shp_aok (by first | assumption | exact shp_sr _ _ (by assumption) | exact shp_sr _ _ (shp_sr _ _ (by assumption)) | exact shp_sr _ _ (shp_sr _ _ (shp_sr _ _ (by assumption)))) rfl rfl ?_ ?_ <;> omega) | (exact shp_sr _ _ (by assumption)) | (exact shp_sr _ _ (shp_sr _ _ (by assumption))) | (exact shp_sr _ _ (shp_sr _ _ (shp_sr _ _ (by assumption)))) | (left; assumption) | (exact b2i_or _) | (simp; done)) only [e26_154, e26_155, e26_156, e26_159, e26_160, e26_163, e26_165, e26_168, e26_169, e26_170, e26_173, e26_176, e26_177, e26_178, e26_181, eq_self, ne_a, ne_b, ne_c, Nat.reduceEqDiff, lt0, bnd_ok, psh_I, psh_L, psh_R, psh_U, gt_sr, gr_sr, sk_sr, nn_sr, ↓reduceIte, Int.toNat_natCast, Int.reduceToNat, h1, hfa, h2]
/-- what a night's play leaves -/
def pld (σ' : St) (R : Int × Int × Int × Int × Dat) : Prop := gt σ' 18 3 = R.1 ∧ gt σ' 18 4 = R.2.1 ∧ (R.1 = -6 → gt σ' 18 2 = R.2.2.1 ∧ gt σ' 18 5 = R.2.2.2.1 ∧ rep σ' 10 R.2.2.2.2 ∧ okd R.2.2.2.2)
def SP : List Nat := [10, 11, 12, 13, 14, 15, 16, 17, 18]
theorem ok_dn {d d' : Dat} (h : dn_ d' = dn_ d) (ho : okd d) : dn_ d' ≤ 24 := by rw [h]; exact dn24 ho
set_option maxRecDepth 100000 in
set_option maxHeartbeats 8000000 in
set_option maxRecDepth 100000 in
set_option maxHeartbeats 4000000 in
theorem c_playL {cn : Nat} {sg : Nat → Int} {n : Nat} (h60 : okp cn sg) {wt : Int} (hw : -1 ≤ wt ∧ wt ≤ 3) : ∀ M, ∀ m k : Nat, m ≤ M → k + m = cn → fac n sg k = false → fltN n sg m k = -6 → ∀ (σ : St) (d : Dat) (p f : Int) (q5 q6 q7 : AV), shp σ → rep σ 10 d → okd d → dn_ d = n → gt σ 18 1 = (cn : Int) → gt σ 19 = sg → gt σ 18 2 = p → (0 ≤ p ∧ p ≤ k) → gt σ 18 3 = -6 → gt σ 18 4 = -6 → gt σ 18 5 = f →
    ∃ σ', run 26 40 [vR 18, vR 2, vR 10, vI wt, vI (k : Int), q5, q6, q7] [] σ = some (vU, σ') ∧ chg SP σ σ' ∧ jb σ' 10 ∧ gt σ' 18 1 = (cn : Int) ∧ pld σ' (pl sg wt m k p f d) := by
  intro M
  induction M with
  | zero =>
    intro m k hm hk hfa hfl σ d p f q5 q6 q7 hs hrp ho hdn h1 h2 hp hpb h3 h4 h5
    obtain rfl : m = 0 := by omega
    have h9 : ¬ (k : Int) < (cn : Int) := by omega
    refine ⟨σ, ?_, chg_rf _ _, rep_jb hrp ho, h1, h3, h4, fun _ => ⟨hp, h5, hrp, ho⟩⟩
    rw [e26_40]
    simp (disch := first | assumption | omega | (exact shp_fok (by first | assumption | exact shp_sr _ _ (by assumption) | exact shp_sr _ _ (shp_sr _ _ (by assumption)) | exact shp_sr _ _ (shp_sr _ _ (shp_sr _ _ (by assumption)))) (by decide)) | (simp only [fok_sr, aok_sr]; first | assumption | (exact shp_fok (by first | assumption | exact shp_sr _ _ (by assumption) | exact shp_sr _ _ (shp_sr _ _ (by assumption)) | exact shp_sr _ _ (shp_sr _ _ (shp_sr _ _ (by assumption)))) (by decide))) | (refine shp_aok (by first | assumption | exact shp_sr _ _ (by assumption) | exact shp_sr _ _ (shp_sr _ _ (by assumption)) | exact shp_sr _ _ (shp_sr _ _ (shp_sr _ _ (by assumption)))) rfl rfl ?_ ?_ <;> omega) | (exact shp_sr _ _ (by assumption)) | (exact shp_sr _ _ (shp_sr _ _ (by assumption))) | (exact shp_sr _ _ (shp_sr _ _ (shp_sr _ _ (by assumption)))) | (left; assumption) | (exact b2i_or _) | (simp; done)) only [e26_0, e26_1, e26_4, e26_5, e26_8, e26_9, e26_10, e26_11, e26_14, e26_15, e26_16, e26_19, e26_20, e26_22, e26_25, e26_26, e26_28, e26_31, e26_32, e26_34, e26_37, e26_38, e26_42, e26_43, e26_46, e26_49, e26_50, e26_53, e26_55, e26_58, e26_59, e26_62, e26_64, e26_67, e26_69, e26_71, e26_74, e26_76, e26_78, e26_80, e26_83, e26_84, e26_86, e26_89, e26_92, e26_95, e26_96, e26_98, e26_100, e26_101, e26_102, e26_105, e26_107, e26_108, e26_109, e26_112, e26_115, e26_117, e26_118, e26_120, e26_123, e26_125, e26_128, e26_129, e26_132, e26_135, e26_136, e26_138, e26_141, e26_143, e26_146, e26_148, e26_151, e26_154, e26_155, e26_156, e26_159, e26_160, e26_163, e26_165, e26_168, e26_169, e26_170, e26_173, e26_176, e26_177, e26_178, e26_181, e26_184, e26_185, e26_186, e26_189, e26_190, e26_191, e26_194, e26_197, eq_self, ne_a, ne_b, ne_c, Nat.reduceEqDiff, lt0, bnd_ok, psh_I, psh_L, psh_R, psh_U, gt_sr, gr_sr, sk_sr, nn_sr, ↓reduceIte, Int.toNat_natCast, Int.reduceToNat, h1, h9]
  | succ M ih =>
    intro m k hm hk hfa hfl σ d p f q5 q6 q7 hs hrp ho hdn h1 h2 hp hpb h3 h4 h5
    by_cases hm0 : m = 0
    · exact ih m k (by omega) hk hfa hfl σ d p f q5 q6 q7 hs hrp ho hdn h1 h2 hp hpb h3 h4 h5
    obtain ⟨m1, rfl⟩ : ∃ m1, m = m1 + 1 := ⟨m - 1, by omega⟩
    have h9 : (k : Int) < (cn : Int) := by omega
    have hk60 : k < 60 := by have := h60.1; omega
    have a1 := c_sign hs h2 hk60
    have w5 : wr ((k : Int) + 1) = (k : Int) + 1 := wr_id (by omega) (by omega)
    have hn24 : n ≤ 24 := by rw [← hdn]; exact dn24 ho
    by_cases hh : hr (sg k) = -6
    · obtain ⟨m2, rfl, hc, hg, hfa2, hfl2⟩ := flt_act hfa hfl hh
      have hsk := h60.2 k (by omega)
      have w7 : wr (sg k - 97) = sg k - 97 := wr_id (by omega) (by omega)
      have w6 : wr ((k : Int) + 2) = (k : Int) + 2 := wr_id (by omega) (by omega)
      have w8 : ((k + 1 : Nat) : Int) = (k : Int) + 1 := by omega
      have a2 := c_sign hs h2 (show k + 1 < 60 by have := h60.1; omega)
      rw [w8] at a2
      obtain ⟨c, hcc⟩ : ∃ c : Nat, sg k - 97 = (c : Int) := ⟨(sg k - 97).toNat, by omega⟩
      have w10 : wr (c : Int) = (c : Int) := wr_id (by omega) (by omega)
      obtain ⟨σ1, e1, c1, r1⟩ := c_actR hrp ho (c := c) (by omega) hg
      have o1 := ok_act ho (c := c) (by omega) hg
      have s1 := shp_chg c1 hs
      have k1 : gt σ1 18 = gt σ 18 := chg_gt c1 (by simp)
      have k2 : gt σ1 19 = gt σ 19 := chg_gt c1 (by simp)
      have hpl : pl sg wt (m2 + 1 + 1) k p f d = if acR d c (sg (k + 1)) = 0 then pl sg wt m2 (k + 2) (p + 1) (flN wt f p (actD d c (sg (k + 1)))) (actD d c (sg (k + 1))) else (p, acR d c (sg (k + 1)), p, f, d) := by
        rw [pl, if_pos hh, hcc, Int.toNat_natCast]
      by_cases hR : acR d c (sg (k + 1)) = 0
      · rw [if_pos hR] at hpl
        have s2 : shp (sr σ1 18 (ru (ru (gt σ1 18) 3 (-6)) 4 (-6))) := s1
        obtain ⟨G, e2, g1, g2, g3, g4, g5⟩ := c_playT (σ := sr σ1 18 (ru (ru (gt σ1 18) 3 (-6)) 4 (-6))) s2 (rep_chg (chg_sr (S := [18]) (chg_rf _ _) (by simp)) (by intro i hi _; simp; omega) r1) o1 hw (p := p) (f := f) (by rw [gt_e, ru_n _ _ (by decide), ru_n _ _ (by decide), k1]; exact hp) (by omega) (by rw [gt_e, ru_n _ _ (by decide), ru_n _ _ (by decide), k1]; exact h5) (vI ((k : Int) + 2)) (vI (sg k)) (vI (-6)) (vI 0)
        rw [sr_sr] at e2
        rw [gt_e] at g1 g3 g4
        have cA : chg SP σ (sr σ1 18 G) := chg_sr (chg_mo c1 (by simp [SP])) (by simp [SP])
        obtain ⟨σ3, e3, c3, j3, n3, p3⟩ := ih m2 (k + 2) (by omega) (by omega) hfa2 hfl2 (sr σ1 18 G) (actD d c (sg (k + 1))) (p + 1) (flN wt f p (actD d c (sg (k + 1)))) (vI (sg k)) (vI (-6)) (vI 0) s1 (rep_chg (chg_sr (S := [18]) (chg_rf _ _) (by simp)) (by intro i hi _; simp; omega) r1) o1 hdn (by rw [gt_e, g1, ru_n _ _ (by decide), ru_n _ _ (by decide), k1]; exact h1) (by rw [gt_n _ _ (by decide), k2]; exact h2) (by rw [gt_e]; exact g2) (by omega) (by rw [gt_e, g3, ru_n _ _ (by decide), ru_e]) (by rw [gt_e, g4, ru_e]) (by rw [gt_e]; exact g5)
        refine ⟨σ3, ?_, chg_tr cA c3 (fun _ h => h), j3, n3, by rw [hpl]; exact p3⟩
        rw [hR] at e1
        rw [show ((k + 2 : Nat) : Int) = (k : Int) + 2 by omega] at e3
        rw [← e3, ← e2, e26_40]
        simp (disch := first | assumption | omega | (exact shp_fok (by first | assumption | exact shp_sr _ _ (by assumption) | exact shp_sr _ _ (shp_sr _ _ (by assumption)) | exact shp_sr _ _ (shp_sr _ _ (shp_sr _ _ (by assumption)))) (by decide)) | (simp only [fok_sr, aok_sr]; first | assumption | (exact shp_fok (by first | assumption | exact shp_sr _ _ (by assumption) | exact shp_sr _ _ (shp_sr _ _ (by assumption)) | exact shp_sr _ _ (shp_sr _ _ (shp_sr _ _ (by assumption)))) (by decide))) | (refine shp_aok (by first | assumption | exact shp_sr _ _ (by assumption) | exact shp_sr _ _ (shp_sr _ _ (by assumption)) | exact shp_sr _ _ (shp_sr _ _ (shp_sr _ _ (by assumption)))) rfl rfl ?_ ?_ <;> omega) | (exact shp_sr _ _ (by assumption)) | (exact shp_sr _ _ (shp_sr _ _ (by assumption))) | (exact shp_sr _ _ (shp_sr _ _ (shp_sr _ _ (by assumption)))) | (left; assumption) | (exact b2i_or _) | (simp; done)) only [e26_42, e26_43, e26_46, e26_49, e26_50, e26_53, e26_55, e26_58, e26_59, e26_62, e26_64, e26_67, e26_69, e26_71, e26_74, e26_76, e26_78, e26_80, e26_83, e26_84, e26_86, e26_89, e26_92, e26_95, e26_96, e26_98, e26_100, e26_101, e26_102, e26_105, e26_107, e26_108, e26_109, e26_112, e26_115, e26_117, e26_118, e26_120, e26_123, e26_125, e26_128, e26_129, e26_132, e26_135, e26_136, e26_138, e26_141, e26_143, e26_146, e26_148, e26_151, eq_self, ne_a, ne_b, ne_c, Nat.reduceEqDiff, lt0, bnd_ok, psh_I, psh_L, psh_R, psh_U, gt_sr, gr_sr, sk_sr, nn_sr, ↓reduceIte, Int.toNat_natCast, Int.reduceToNat, h1, h9, h3, g18_0, a1, a2, c_hourOfR, hh, w5, w6, w7, hcc, w10, e1, sr_sr, Int.reduceEq]
      · rw [if_neg hR] at hpl
        have s2 : shp (sr σ1 18 (ru (ru (gt σ1 18) 3 p) 4 (acR d c (sg (k + 1))))) := s1
        obtain ⟨G, e2, g1, g2, g3, g4, g5⟩ := c_playT (σ := sr σ1 18 (ru (ru (gt σ1 18) 3 p) 4 (acR d c (sg (k + 1))))) s2 (rep_chg (chg_sr (S := [18]) (chg_rf _ _) (by simp)) (by intro i hi _; simp; omega) r1) o1 hw (p := p) (f := f) (by rw [gt_e, ru_n _ _ (by decide), ru_n _ _ (by decide), k1]; exact hp) (by omega) (by rw [gt_e, ru_n _ _ (by decide), ru_n _ _ (by decide), k1]; exact h5) (vI ((k : Int) + 2)) (vI (sg k)) (vI (-6)) (vI (acR d c (sg (k + 1))))
        rw [sr_sr] at e2
        rw [gt_e] at g1 g3 g4
        rw [ru_n _ _ (by decide), ru_n _ _ (by decide)] at g1
        rw [ru_n _ _ (by decide), ru_e] at g3
        rw [ru_e] at g4
        have cA : chg SP σ (sr σ1 18 G) := chg_sr (chg_mo c1 (by simp [SP])) (by simp [SP])
        have rG : rep (sr σ1 18 G) 10 (actD d c (sg (k + 1))) := rep_chg (chg_sr (S := [18]) (chg_rf _ _) (by simp)) (by intro i hi _; simp; omega) r1
        refine ⟨sr σ1 18 G, ?_, cA, rep_jb rG o1, by rw [gt_e, g1, k1]; exact h1, ?_⟩
        · have hp6 : ¬ p = -6 := by omega
          have ex : run 26 40 [vR 18, vR 2, vR 10, vI wt, vI ((k : Int) + 2), vI (sg k), vI (-6), vI (acR d c (sg (k + 1)))] [] (sr σ1 18 G) = some (vU, sr σ1 18 G) := by
            have n1 : gt (sr σ1 18 G) 18 1 = (cn : Int) := by rw [gt_e, g1, k1]; exact h1
            have n3 : gt (sr σ1 18 G) 18 3 = p := by rw [gt_e]; exact g3
            have sG : shp (sr σ1 18 G) := s1
            by_cases hx : (k : Int) + 2 < (cn : Int)
            · rw [e26_40]
              simp (disch := first | assumption | omega | (exact shp_fok (by first | assumption | exact shp_sr _ _ (by assumption) | exact shp_sr _ _ (shp_sr _ _ (by assumption)) | exact shp_sr _ _ (shp_sr _ _ (shp_sr _ _ (by assumption)))) (by decide)) | (simp only [fok_sr, aok_sr]; first | assumption | (exact shp_fok (by first | assumption | exact shp_sr _ _ (by assumption) | exact shp_sr _ _ (shp_sr _ _ (by assumption)) | exact shp_sr _ _ (shp_sr _ _ (shp_sr _ _ (by assumption)))) (by decide))) | (refine shp_aok (by first | assumption | exact shp_sr _ _ (by assumption) | exact shp_sr _ _ (shp_sr _ _ (by assumption)) | exact shp_sr _ _ (shp_sr _ _ (shp_sr _ _ (by assumption)))) rfl rfl ?_ ?_ <;> omega) | (exact shp_sr _ _ (by assumption)) | (exact shp_sr _ _ (shp_sr _ _ (by assumption))) | (exact shp_sr _ _ (shp_sr _ _ (shp_sr _ _ (by assumption)))) | (left; assumption) | (exact b2i_or _) | (simp; done)) only [e26_42, e26_43, e26_46, e26_49, e26_50, e26_53, e26_55, e26_197, eq_self, bnd_ok, ↓reduceIte, n1, n3, hx, hp6]
            · rw [e26_40]
              simp (disch := first | assumption | omega | (exact shp_fok (by first | assumption | exact shp_sr _ _ (by assumption) | exact shp_sr _ _ (shp_sr _ _ (by assumption)) | exact shp_sr _ _ (shp_sr _ _ (shp_sr _ _ (by assumption)))) (by decide)) | (simp only [fok_sr, aok_sr]; first | assumption | (exact shp_fok (by first | assumption | exact shp_sr _ _ (by assumption) | exact shp_sr _ _ (shp_sr _ _ (by assumption)) | exact shp_sr _ _ (shp_sr _ _ (shp_sr _ _ (by assumption)))) (by decide))) | (refine shp_aok (by first | assumption | exact shp_sr _ _ (by assumption) | exact shp_sr _ _ (shp_sr _ _ (by assumption)) | exact shp_sr _ _ (shp_sr _ _ (shp_sr _ _ (by assumption)))) rfl rfl ?_ ?_ <;> omega) | (exact shp_sr _ _ (by assumption)) | (exact shp_sr _ _ (shp_sr _ _ (by assumption))) | (exact shp_sr _ _ (shp_sr _ _ (shp_sr _ _ (by assumption)))) | (left; assumption) | (exact b2i_or _) | (simp; done)) only [e26_42, e26_43, e26_46, e26_49, e26_50, e26_53, e26_55, e26_197, eq_self, bnd_ok, ↓reduceIte, n1, hx]
          rw [← ex, ← e2, e26_40]
          have hp1 : gt σ1 18 2 = p := by rw [k1]; exact hp
          simp (disch := first | assumption | omega | (exact shp_fok (by first | assumption | exact shp_sr _ _ (by assumption) | exact shp_sr _ _ (shp_sr _ _ (by assumption)) | exact shp_sr _ _ (shp_sr _ _ (shp_sr _ _ (by assumption)))) (by decide)) | (simp only [fok_sr, aok_sr]; first | assumption | (exact shp_fok (by first | assumption | exact shp_sr _ _ (by assumption) | exact shp_sr _ _ (shp_sr _ _ (by assumption)) | exact shp_sr _ _ (shp_sr _ _ (shp_sr _ _ (by assumption)))) (by decide))) | (refine shp_aok (by first | assumption | exact shp_sr _ _ (by assumption) | exact shp_sr _ _ (shp_sr _ _ (by assumption)) | exact shp_sr _ _ (shp_sr _ _ (shp_sr _ _ (by assumption)))) rfl rfl ?_ ?_ <;> omega) | (exact shp_sr _ _ (by assumption)) | (exact shp_sr _ _ (shp_sr _ _ (by assumption))) | (exact shp_sr _ _ (shp_sr _ _ (shp_sr _ _ (by assumption)))) | (left; assumption) | (exact b2i_or _) | (simp; done)) only [e26_42, e26_43, e26_46, e26_49, e26_50, e26_53, e26_55, e26_58, e26_59, e26_62, e26_64, e26_67, e26_69, e26_71, e26_74, e26_76, e26_78, e26_80, e26_83, e26_84, e26_86, e26_89, e26_92, e26_95, e26_96, e26_98, e26_100, e26_101, e26_102, e26_105, e26_107, e26_108, e26_109, e26_112, e26_115, e26_117, e26_118, e26_120, e26_123, e26_125, e26_128, e26_129, e26_132, e26_135, e26_136, e26_138, e26_141, e26_143, e26_146, e26_148, e26_151, eq_self, ne_a, ne_b, ne_c, Nat.reduceEqDiff, lt0, bnd_ok, psh_I, psh_L, psh_R, psh_U, gt_sr, gr_sr, sk_sr, nn_sr, ↓reduceIte, Int.toNat_natCast, Int.reduceToNat, h1, h9, h3, g18_0, a1, a2, c_hourOfR, hh, w5, w6, w7, hcc, w10, e1, hR, hp1, sr_sr, Int.reduceEq]
        · rw [hpl]
          refine ⟨by rw [gt_e]; exact g3, by rw [gt_e]; exact g4, fun h => ?_⟩
          have h' : p = -6 := h
          omega
    · obtain ⟨hfa2, hfl2⟩ := flt_hour hn24 hfa hfl hh
      have hbd := hr_bd (sg k)
      obtain ⟨σ1, e1, c1, r1⟩ := c_passR hrp ho (h := hr (sg k)) (by omega) (by omega)
      have o1 := ok_pas ho (hr (sg k))
      have s1 := shp_chg c1 hs
      have k1 : gt σ1 18 = gt σ 18 := chg_gt c1 (by simp)
      have k2 : gt σ1 19 = gt σ 19 := chg_gt c1 (by simp)
      have hpl : pl sg wt (m1 + 1) k p f d = pl sg wt m1 (k + 1) (p + 1) (flN wt f p (pas d (hr (sg k)))) (pas d (hr (sg k))) := by
        cases m1 with
        | zero =>
          show (if hr (sg k) = -6 then _ else _) = _
          rw [if_neg hh]
          rfl
        | succ m2 => rw [pl, if_neg hh]
      obtain ⟨G, e2, g1, g2, g3, g4, g5⟩ := c_playT (σ := σ1) s1 r1 o1 hw (p := p) (f := f) (by rw [k1]; exact hp) (by omega) (by rw [k1]; exact h5) (vI ((k : Int) + 1)) (vI (sg k)) (vI (hr (sg k))) q7
      have cA : chg SP σ (sr σ1 18 G) := chg_sr (chg_mo c1 (by simp [SP])) (by simp [SP])
      obtain ⟨σ3, e3, c3, j3, n3, p3⟩ := ih m1 (k + 1) (by omega) (by omega) hfa2 hfl2 (sr σ1 18 G) (pas d (hr (sg k))) (p + 1) (flN wt f p (pas d (hr (sg k)))) (vI (sg k)) (vI (hr (sg k))) q7 s1 (rep_chg (chg_sr (S := [18]) (chg_rf _ _) (by simp)) (by intro i hi _; simp; omega) r1) o1 hdn (by rw [gt_e, g1, k1]; exact h1) (by rw [gt_n _ _ (by decide), k2]; exact h2) (by rw [gt_e]; exact g2) (by omega) (by rw [gt_e, g3, k1]; exact h3) (by rw [gt_e, g4, k1]; exact h4) (by rw [gt_e]; exact g5)
      refine ⟨σ3, ?_, chg_tr cA c3 (fun _ h => h), j3, n3, by rw [hpl]; exact p3⟩
      rw [show ((k + 1 : Nat) : Int) = (k : Int) + 1 by omega] at e3
      rw [← e3, ← e2, e26_40]
      simp (disch := first | assumption | omega | (exact shp_fok (by first | assumption | exact shp_sr _ _ (by assumption) | exact shp_sr _ _ (shp_sr _ _ (by assumption)) | exact shp_sr _ _ (shp_sr _ _ (shp_sr _ _ (by assumption)))) (by decide)) | (simp only [fok_sr, aok_sr]; first | assumption | (exact shp_fok (by first | assumption | exact shp_sr _ _ (by assumption) | exact shp_sr _ _ (shp_sr _ _ (by assumption)) | exact shp_sr _ _ (shp_sr _ _ (shp_sr _ _ (by assumption)))) (by decide))) | (refine shp_aok (by first | assumption | exact shp_sr _ _ (by assumption) | exact shp_sr _ _ (shp_sr _ _ (by assumption)) | exact shp_sr _ _ (shp_sr _ _ (shp_sr _ _ (by assumption)))) rfl rfl ?_ ?_ <;> omega) | (exact shp_sr _ _ (by assumption)) | (exact shp_sr _ _ (shp_sr _ _ (by assumption))) | (exact shp_sr _ _ (shp_sr _ _ (shp_sr _ _ (by assumption)))) | (left; assumption) | (exact b2i_or _) | (simp; done)) only [e26_42, e26_43, e26_46, e26_49, e26_50, e26_53, e26_55, e26_58, e26_59, e26_62, e26_64, e26_67, e26_69, e26_71, e26_74, e26_76, e26_78, e26_80, e26_83, e26_84, e26_86, e26_89, e26_92, eq_self, ne_a, ne_b, ne_c, Nat.reduceEqDiff, lt0, bnd_ok, psh_I, psh_L, psh_R, psh_U, gt_sr, gr_sr, sk_sr, nn_sr, ↓reduceIte, Int.toNat_natCast, Int.reduceToNat, h1, h9, h3, g18_0, a1, c_hourOfR, hh, w5, e1, Int.reduceEq]
set_option maxRecDepth 100000 in
set_option maxHeartbeats 4000000 in
/-- a night played from the bank on in the trial bank -/
theorem c_play {σ : St} {d : Dat} {cn : Nat} {sg : Nat → Int} (h : npd σ cn sg) (h2 : rep σ 2 d) (ho : okd d) (hj : jb σ 10) (hfl : flt (dn_ d) cn sg = -6) {wt : Int} (hw : -1 ≤ wt ∧ wt ≤ 3) :
    ∃ σ', run 26 0 [vR 18, vR 2, vR 10, vI wt, vU, vU, vU, vU] [] σ = some (vU, σ') ∧ chg SP σ σ' ∧ jb σ' 10 ∧ gt σ' 18 1 = (cn : Int) ∧ pld σ' (pl sg wt cn 0 0 (-6) d) := by
  obtain ⟨hs, n1, n2, n3⟩ := h
  obtain ⟨σ1, e1, c1, r1⟩ := c_copyAll hj h2 ho (by omega)
  have s1 := shp_chg c1 hs
  have k1 : gt σ1 18 = gt σ 18 := chg_gt c1 (by simp)
  have k2 : gt σ1 19 = gt σ 19 := chg_gt c1 (by simp)
  generalize hG : ru (ru (ru (ru (gt σ1 18) 2 0) 3 (-6)) 4 (-6)) 5 (-6) = G
  have cA : chg SP σ (sr σ1 18 G) := chg_sr (chg_mo c1 (by simp [SP])) (by simp [SP])
  obtain ⟨σ3, e3, c3, j3, x3, p3⟩ := c_playL (n := dn_ d) n3 hw cn cn 0 (Nat.le_refl _) (by omega) rfl hfl (sr σ1 18 G) d 0 (-6) vU vU vU s1 (rep_chg (chg_sr (S := [18]) (chg_rf _ _) (by simp)) (by intro i hi _; simp; omega) r1) ho rfl (by rw [gt_e, ← hG]; simp only [ru, Nat.reduceEqDiff, ↓reduceIte]; rw [k1]; exact n1) (by rw [gt_n _ _ (by decide), k2]; exact n2) (by rw [gt_e, ← hG]; simp [ru]) (by omega) (by rw [gt_e, ← hG]; simp [ru]) (by rw [gt_e, ← hG]; simp [ru]) (by rw [gt_e, ← hG]; simp [ru])
  refine ⟨σ3, ?_, chg_tr cA c3 (fun _ h => h), j3, x3, p3⟩
  rw [← e3]
  simp (disch := first | assumption | omega | (exact shp_fok (by first | assumption | exact shp_sr _ _ (by assumption) | exact shp_sr _ _ (shp_sr _ _ (by assumption)) | exact shp_sr _ _ (shp_sr _ _ (shp_sr _ _ (by assumption)))) (by decide)) | (simp only [fok_sr, aok_sr]; first | assumption | (exact shp_fok (by first | assumption | exact shp_sr _ _ (by assumption) | exact shp_sr _ _ (shp_sr _ _ (by assumption)) | exact shp_sr _ _ (shp_sr _ _ (shp_sr _ _ (by assumption)))) (by decide))) | (refine shp_aok (by first | assumption | exact shp_sr _ _ (by assumption) | exact shp_sr _ _ (shp_sr _ _ (by assumption)) | exact shp_sr _ _ (shp_sr _ _ (shp_sr _ _ (by assumption)))) rfl rfl ?_ ?_ <;> omega) | (exact shp_sr _ _ (by assumption)) | (exact shp_sr _ _ (shp_sr _ _ (by assumption))) | (exact shp_sr _ _ (shp_sr _ _ (shp_sr _ _ (by assumption)))) | (left; assumption) | (exact b2i_or _) | (simp; done)) only [e26_0, e26_1, e26_4, e26_5, e26_8, e26_9, e26_10, e26_11, e26_14, e26_15, e26_16, e26_19, e26_20, e26_22, e26_25, e26_26, e26_28, e26_31, e26_32, e26_34, e26_37, e26_38, e26_42, e26_43, e26_46, e26_49, e26_50, e26_53, e26_55, e26_58, e26_59, e26_62, e26_64, e26_67, e26_69, e26_71, e26_74, e26_76, e26_78, e26_80, e26_83, e26_84, e26_86, e26_89, e26_92, e26_95, e26_96, e26_98, e26_100, e26_101, e26_102, e26_105, e26_107, e26_108, e26_109, e26_112, e26_115, e26_117, e26_118, e26_120, e26_123, e26_125, e26_128, e26_129, e26_132, e26_135, e26_136, e26_138, e26_141, e26_143, e26_146, e26_148, e26_151, e26_154, e26_155, e26_156, e26_159, e26_160, e26_163, e26_165, e26_168, e26_169, e26_170, e26_173, e26_176, e26_177, e26_178, e26_181, e26_184, e26_185, e26_186, e26_189, e26_190, e26_191, e26_194, e26_197, eq_self, ne_a, ne_b, ne_c, Nat.reduceEqDiff, lt0, bnd_ok, psh_I, psh_L, psh_R, psh_U, gt_sr, gr_sr, sk_sr, nn_sr, ↓reduceIte, Int.toNat_natCast, Int.reduceToNat, e1, sr_sr, hG, Nat.reduceEqDiff]
  rfl
