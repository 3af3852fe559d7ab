/-! all made -/
def D0 : Dat := nw 3 4 z0 z0
def rpG (σ : St) (b : Nat) : Prop := dim σ b (dR D0) (dC D0) ∧ gt σ b 3 = dfe D0 ∧ gt σ b 4 = dsl D0 ∧ gt σ b 5 = (dsi D0 : Int) ∧ gt σ (b + 1) = dt D0 ∧ gt σ (b + 2) = dla D0 ∧ gt σ (b + 3) = dme D0 ∧ gt σ (b + 5) = dwa D0 ∧ gt σ (b + 6) = dsc D0 ∧ gt σ (b + 7) = dsn D0
theorem rpG_cg {σ σ' : St} {b : Nat} (h : ∀ k, b ≤ k → k ≤ b + 7 → gt σ' k = gt σ k) (hr : rpG σ b) : rpG σ' b := by
  unfold rpG dim at hr ⊢
  rw [h b (by omega) (by omega), h (b + 1) (by omega) (by omega), h (b + 2) (by omega) (by omega), h (b + 3) (by omega) (by omega), h (b + 5) (by omega) (by omega), h (b + 6) (by omega) (by omega), h (b + 7) (by omega) (by omega)]
  exact hr
/-- what has been made so far: n rows, t room, these links, these fields of the model -/
def IN (L : Nat) (x : Nat → Int) (n t : Nat) (T : List (Nat × Nat × Nat)) (G : Nat → Int) (σ : St) : Prop := nn σ = n ∧ nt σ = t ∧ sl σ = L ∧ sx σ = x ∧ (∀ k, 1 ≤ k → k ≤ n → sk σ k = skK k) ∧ (∀ p ∈ T, gr σ p.1 p.2.1 = p.2.2) ∧ (20 ≤ n → ∀ i, gr σ 20 i = 0) ∧ (∀ k, k ≤ n → k < 2 ∨ 18 ≤ k → k ≠ 24 → gt σ k = z0) ∧ (24 ≤ n → gt σ 24 = G) ∧ (9 ≤ n → rpG σ 2) ∧ (17 ≤ n → rpG σ 10)
variable {L : Nat} {x : Nat → Int}
theorem in_fok {n t : Nat} {T : List (Nat × Nat × Nat)} {G : Nat → Int} {σ : St} (h : IN L x n t T G σ) {k c : Nat} (hk : 1 ≤ k ∧ k ≤ n ∧ (skK k).1 = c) : fok σ k c := ⟨hk.1, by rw [h.1]; exact hk.2.1, by rw [h.2.2.2.2.1 k hk.1 hk.2.1]; exact hk.2.2⟩
theorem in_al {n t : Nat} {T : List (Nat × Nat × Nat)} {G : Nat → Int} {σ : St} (h : IN L x n t T G σ) {kd sz : Nat} (hs : skK (n + 1) = (kd, sz)) (hT : ∀ p ∈ T, p.1 ≤ n) (h9 : n ≠ 8 ∧ n ≠ 16) (hG : n = 23 → G = z0) : IN L x (n + 1) (t + sz) T G (al σ kd sz) := by
  obtain ⟨h1, h2, h3, h4, h5, h6, h7, h8, h9', h10, h11⟩ := h
  have g : ∀ k, k ≤ n → gt (al σ kd sz) k = gt σ k := fun k hk => by rw [gt_al, h1, if_neg (by omega)]
  refine ⟨by rw [nn_al, h1], by rw [nt_al, h2], h3, h4, fun k k1 k2 => ?_, fun p hp => ?_, fun h20 i => ?_, fun k k1 k2 k3 => ?_, fun h24 => ?_, fun h9n => rpG_cg (fun k k1 k2 => g k (by omega)) (h10 (by omega)), fun h17 => rpG_cg (fun k k1 k2 => g k (by omega)) (h11 (by omega))⟩
  · rw [sk_al, h1]
    by_cases hk : k = n + 1
    · rw [if_pos hk, hk, hs]
    · rw [if_neg hk]; exact h5 k k1 (by omega)
  · have := hT p hp
    rw [gr_al, h1, if_neg (by omega)]
    exact h6 p hp
  · rw [gr_al, h1]
    by_cases hk : 20 = n + 1
    · rw [if_pos hk]
    · rw [if_neg hk]; exact h7 (by omega) i
  · rw [gt_al, h1]
    by_cases hk : k = n + 1
    · rw [if_pos hk]; rfl
    · rw [if_neg hk]; exact h8 k (by omega) k2 k3
  · rw [gt_al, h1]
    by_cases hk : 24 = n + 1
    · rw [if_pos hk, hG (by omega)]; rfl
    · rw [if_neg hk]; exact h9' (by omega)
theorem in_rr {n t : Nat} {T : List (Nat × Nat × Nat)} {G : Nat → Int} {σ : St} (h : IN L x n t T G σ) {b f v : Nat} (hb : b ≠ 20) (hT : ∀ p ∈ T, ¬ (p.1 = b ∧ p.2.1 = f)) : IN L x n t ((b, f, v) :: T) G (rr σ b (ru (gr σ b) f v)) := by
  obtain ⟨h1, h2, h3, h4, h5, h6, h7, h8, h9, h10, h11⟩ := h
  refine ⟨h1, h2, h3, h4, h5, fun p hp => ?_, fun h20 i => ?_, h8, h9, h10, h11⟩
  · rcases List.mem_cons.mp hp with rfl | hp
    · rw [gr_rr, if_pos rfl, ru_e]
    · have h := hT p hp
      rw [gr_rr]
      by_cases hk : p.1 = b
      · rw [if_pos hk, ru_n _ _ (fun e => h ⟨hk, e⟩), ← hk]; exact h6 p hp
      · rw [if_neg hk]; exact h6 p hp
  · rw [gr_rr, if_neg (fun e => hb e.symm)]; exact h7 h20 i
theorem in_sr {n t : Nat} {T : List (Nat × Nat × Nat)} {G : Nat → Int} {σ : St} (h : IN L x n t T G σ) (hn : 24 ≤ n) (f : Nat) (v : Int) : IN L x n t T (ru G f v) (sr σ 24 (ru (gt σ 24) f v)) := by
  obtain ⟨h1, h2, h3, h4, h5, h6, h7, h8, h9, h10, h11⟩ := h
  refine ⟨h1, h2, h3, h4, h5, h6, h7, fun k k1 k2 k3 => by rw [gt_n _ _ k3]; exact h8 k k1 k2 k3, fun _ => by rw [gt_e, h9 hn], fun q => rpG_cg (fun k k1 k2 => gt_n _ _ (by omega)) (h10 q), fun q => rpG_cg (fun k k1 k2 => gt_n _ _ (by omega)) (h11 q)⟩
def lks (b : Nat) : List (Nat × Nat × Nat) := [(b, 6, b + 1), (b, 7, b + 2), (b, 8, b + 3), (b, 9, b + 4), (b, 10, b + 5), (b, 11, b + 6), (b, 12, b + 7)]
set_option maxRecDepth 100000 in
set_option maxHeartbeats 4000000 in
theorem k_inB {b t : Nat} {T : List (Nat × Nat × Nat)} {G : Nat → Int} {σ : St} (h : IN L x b t T G σ) (hb : b = 2 ∨ b = 10) (hT : ∀ p ∈ T, p.1 < b) : ∃ σ', run 1 0 [vR b] [] σ = some (vU, σ') ∧ IN L x (b + 7) (t + 208) (lks b ++ T) G σ' := by
  have hf : fok σ b 0 := in_fok h (by obtain rfl | rfl := hb <;> decide)
  obtain ⟨σ', k1, k2, k3, k4, k5, k6, k7, k8⟩ := c_Binit hf h.1
  obtain ⟨h1, h2, h3, h4, h5, h6, h7, h8, h9, h10, h11⟩ := h
  refine ⟨σ', k1, k2, by rw [k3, h2], by rw [k4, h3], by rw [k5, h4], fun k q1 q2 => ?_, fun p hp => ?_, fun q => absurd q (by omega), fun k q1 q2 q3 => ?_, fun q => absurd q (by omega), fun q => ?_, fun q => ?_⟩
  · by_cases hk : k ≤ b
    · rw [k6 k hk]; exact h5 k q1 hk
    · have hi : ∀ j, 1 ≤ j → j ≤ 7 → sk σ' (b + j) = (4, if j = 5 then 96 else if 6 ≤ j then 8 else 24) := by
        obtain ⟨⟨-, -, i1, i2, i3, i4, i5, i6, i7⟩, -⟩ := k8
        intro j j1 j2
        obtain rfl | rfl | rfl | rfl | rfl | rfl | rfl : j = 1 ∨ j = 2 ∨ j = 3 ∨ j = 4 ∨ j = 5 ∨ j = 6 ∨ j = 7 := by omega
        · exact Prod.ext i1.1.2.2 i1.2
        · exact Prod.ext i2.1.2.2 i2.2
        · exact Prod.ext i3.1.2.2 i3.2
        · exact Prod.ext i4.1.2.2 i4.2
        · exact Prod.ext i5.1.2.2 i5.2
        · exact Prod.ext i6.1.2.2 i6.2
        · exact Prod.ext i7.1.2.2 i7.2
      obtain ⟨j, rfl⟩ : ∃ j, k = b + j := ⟨k - b, by omega⟩
      rw [hi j (by omega) (by omega)]
      obtain rfl | rfl | rfl | rfl | rfl | rfl | rfl : j = 1 ∨ j = 2 ∨ j = 3 ∨ j = 4 ∨ j = 5 ∨ j = 6 ∨ j = 7 := by omega
      all_goals (obtain rfl | rfl := hb <;> rfl)
  · rcases List.mem_append.mp hp with hp | hp
    · obtain ⟨⟨-, ⟨r6, r7, r8, r9, r10, r11, r12⟩, -⟩, -⟩ := k8
      simp only [lks, List.mem_cons, List.not_mem_nil, or_false] at hp
      rcases hp with rfl | rfl | rfl | rfl | rfl | rfl | rfl
      · exact r6
      · exact r7
      · exact r8
      · exact r9
      · exact r10
      · exact r11
      · exact r12
    · rw [(k7 p.1 (hT p hp)).1]; exact h6 p hp
  · rw [(k7 k (by omega)).2]; exact h8 k (by omega) q2 q3
  · obtain rfl | rfl := hb
    · exact k8.2
    · exact rpG_cg (fun k q1 q2 => (k7 k (by omega)).2) (h10 (by omega))
  · obtain rfl | rfl := hb
    · omega
    · exact k8.2
theorem in_st0 : IN L x 0 0 [] z0 (st0 L x) := ⟨rfl, rfl, rfl, rfl, fun k h1 h2 => absurd h1 (by omega), fun p hp => absurd hp List.not_mem_nil, fun h => absurd h (by omega), fun k _ _ _ => rfl, fun h => absurd h (by omega), fun h => absurd h (by omega), fun h => absurd h (by omega)⟩
set_option maxRecDepth 100000 in
set_option maxHeartbeats 4000000 in
theorem k_f1 {G : Nat → Int} {σ : St} (h : IN L x 1 7 [] G σ) : ∃ σ', run 0 4 [vR 1] [] σ = run 0 15 [vR 1] [] σ' ∧ IN L x 9 228 [(1, 0, 2), (2, 6, 3), (2, 7, 4), (2, 8, 5), (2, 9, 6), (2, 10, 7), (2, 11, 8), (2, 12, 9)] G σ' := by
  have hn : nn σ = 1 := h.1
  have a1 := in_al (kd := 0) (sz := 13) h rfl (by decide) (by decide) (fun e => absurd e (by decide))
  obtain ⟨σ1, k1, a2⟩ := k_inB a1 (by decide) (by decide)
  have f1 : fok σ1 1 2 := in_fok a2 (by decide)
  have a3 := in_rr (b := 1) (f := 0) (v := 2) a2 (by decide) (by decide)
  refine ⟨rr σ1 1 (ru (gr σ1 1) 0 2), ?_, a3⟩
  simp (disch := first | assumption | omega | (exact Nat.le_of_ble_eq_true rfl) | fail) only [e0_4, e0_5, e0_8, e0_9, e0_12, eq_self, ne_a, ne_b, ne_c, Nat.reduceEqDiff, lt0, bnd_ok, psh_I, psh_L, psh_R, psh_U, gt_sr, gr_sr, sk_sr, nn_sr, ↓reduceIte, Int.toNat_natCast, Int.reduceToNat, hn, Nat.reduceAdd]
  first | (rw [k1]; simp (disch := first | assumption | omega | (exact Nat.le_of_ble_eq_true rfl) | fail) only [e0_4, e0_5, e0_8, e0_9, e0_12, eq_self, ne_a, ne_b, ne_c, Nat.reduceEqDiff, lt0, bnd_ok, psh_I, psh_L, psh_R, psh_U, gt_sr, gr_sr, sk_sr, nn_sr, ↓reduceIte, Int.toNat_natCast, Int.reduceToNat, hn, Nat.reduceAdd]) | skip
set_option maxRecDepth 100000 in
set_option maxHeartbeats 4000000 in
theorem k_f2 {G : Nat → Int} {σ : St} (h : IN L x 9 228 [(1, 0, 2), (2, 6, 3), (2, 7, 4), (2, 8, 5), (2, 9, 6), (2, 10, 7), (2, 11, 8), (2, 12, 9)] G σ) : ∃ σ', run 0 15 [vR 1] [] σ = run 0 26 [vR 1] [] σ' ∧ IN L x 17 449 [(1, 1, 10), (10, 6, 11), (10, 7, 12), (10, 8, 13), (10, 9, 14), (10, 10, 15), (10, 11, 16), (10, 12, 17), (1, 0, 2), (2, 6, 3), (2, 7, 4), (2, 8, 5), (2, 9, 6), (2, 10, 7), (2, 11, 8), (2, 12, 9)] G σ' := by
  have hn : nn σ = 9 := h.1
  have a1 := in_al (kd := 0) (sz := 13) h rfl (by decide) (by decide) (fun e => absurd e (by decide))
  obtain ⟨σ1, k1, a2⟩ := k_inB a1 (by decide) (by decide)
  have f1 : fok σ1 1 2 := in_fok a2 (by decide)
  have a3 := in_rr (b := 1) (f := 1) (v := 10) a2 (by decide) (by decide)
  refine ⟨rr σ1 1 (ru (gr σ1 1) 1 10), ?_, a3⟩
  simp (disch := first | assumption | omega | (exact Nat.le_of_ble_eq_true rfl) | fail) only [e0_15, e0_16, e0_19, e0_20, e0_23, eq_self, ne_a, ne_b, ne_c, Nat.reduceEqDiff, lt0, bnd_ok, psh_I, psh_L, psh_R, psh_U, gt_sr, gr_sr, sk_sr, nn_sr, ↓reduceIte, Int.toNat_natCast, Int.reduceToNat, hn, Nat.reduceAdd]
  first | (rw [k1]; simp (disch := first | assumption | omega | (exact Nat.le_of_ble_eq_true rfl) | fail) only [e0_15, e0_16, e0_19, e0_20, e0_23, eq_self, ne_a, ne_b, ne_c, Nat.reduceEqDiff, lt0, bnd_ok, psh_I, psh_L, psh_R, psh_U, gt_sr, gr_sr, sk_sr, nn_sr, ↓reduceIte, Int.toNat_natCast, Int.reduceToNat, hn, Nat.reduceAdd]) | skip
set_option maxRecDepth 100000 in
set_option maxHeartbeats 4000000 in
theorem k_f3 {G : Nat → Int} {σ : St} (h : IN L x 17 449 [(1, 1, 10), (10, 6, 11), (10, 7, 12), (10, 8, 13), (10, 9, 14), (10, 10, 15), (10, 11, 16), (10, 12, 17), (1, 0, 2), (2, 6, 3), (2, 7, 4), (2, 8, 5), (2, 9, 6), (2, 10, 7), (2, 11, 8), (2, 12, 9)] G σ) : ∃ σ', run 0 26 [vR 1] [] σ = run 0 37 [vR 1] [] σ' ∧ IN L x 19 515 [(1, 2, 18), (18, 0, 19), (1, 1, 10), (10, 6, 11), (10, 7, 12), (10, 8, 13), (10, 9, 14), (10, 10, 15), (10, 11, 16), (10, 12, 17), (1, 0, 2), (2, 6, 3), (2, 7, 4), (2, 8, 5), (2, 9, 6), (2, 10, 7), (2, 11, 8), (2, 12, 9)] G σ' := by
  have hn : nn σ = 17 := h.1
  have a1 := in_al (kd := 1) (sz := 6) h rfl (by decide) (by decide) (fun e => absurd e (by decide))
  have hn1 : nn (al σ 1 6) = 18 := a1.1
  have a2 := in_al (kd := 4) (sz := 60) a1 rfl (by decide) (by decide) (fun e => absurd e (by decide))
  have f2 : fok (al (al σ 1 6) 4 60) 18 1 := in_fok a2 (by decide)
  have a3 := in_rr (b := 18) (f := 0) (v := 19) a2 (by decide) (by decide)
  generalize hτ : rr (al (al σ 1 6) 4 60) 18 (ru (gr (al (al σ 1 6) 4 60) 18) 0 19) = τ at a3
  have k1 : run 4 0 [vR 18] [] (al σ 1 6) = some (vU, τ) := by
    simp (disch := first | assumption | omega | (exact Nat.le_of_ble_eq_true rfl) | fail) only [e4_0, e4_1, e4_4, e4_5, e4_7, e4_9, e4_12, eq_self, ne_a, ne_b, ne_c, Nat.reduceEqDiff, lt0, bnd_ok, psh_I, psh_L, psh_R, psh_U, gt_sr, gr_sr, sk_sr, nn_sr, ↓reduceIte, Int.toNat_natCast, Int.reduceToNat, hn1, Nat.reduceAdd, hτ]
  have f1 : fok τ 1 2 := in_fok a3 (by decide)
  have a4 := in_rr (b := 1) (f := 2) (v := 18) a3 (by decide) (by decide)
  refine ⟨rr τ 1 (ru (gr τ 1) 2 18), ?_, a4⟩
  simp (disch := first | assumption | omega | (exact Nat.le_of_ble_eq_true rfl) | fail) only [e0_26, e0_27, e0_30, e0_31, e0_34, eq_self, ne_a, ne_b, ne_c, Nat.reduceEqDiff, lt0, bnd_ok, psh_I, psh_L, psh_R, psh_U, gt_sr, gr_sr, sk_sr, nn_sr, ↓reduceIte, Int.toNat_natCast, Int.reduceToNat, hn, Nat.reduceAdd, k1]
set_option maxRecDepth 100000 in
set_option maxHeartbeats 4000000 in
theorem k_f4 {G : Nat → Int} {σ : St} (h : IN L x 19 515 [(1, 2, 18), (18, 0, 19), (1, 1, 10), (10, 6, 11), (10, 7, 12), (10, 8, 13), (10, 9, 14), (10, 10, 15), (10, 11, 16), (10, 12, 17), (1, 0, 2), (2, 6, 3), (2, 7, 4), (2, 8, 5), (2, 9, 6), (2, 10, 7), (2, 11, 8), (2, 12, 9)] G σ) : ∃ σ', run 0 37 [vR 1] [] σ = run 0 45 [vR 1] [] σ' ∧ IN L x 20 517 [(1, 3, 20), (1, 2, 18), (18, 0, 19), (1, 1, 10), (10, 6, 11), (10, 7, 12), (10, 8, 13), (10, 9, 14), (10, 10, 15), (10, 11, 16), (10, 12, 17), (1, 0, 2), (2, 6, 3), (2, 7, 4), (2, 8, 5), (2, 9, 6), (2, 10, 7), (2, 11, 8), (2, 12, 9)] G σ' := by
  have hn : nn σ = 19 := h.1
  have a1 := in_al (kd := 6) (sz := 2) h rfl (by decide) (by decide) (fun e => absurd e (by decide))
  have f1 : fok (al σ 6 2) 1 2 := in_fok a1 (by decide)
  have a3 := in_rr (b := 1) (f := 3) (v := 20) a1 (by decide) (by decide)
  refine ⟨_, ?_, a3⟩
  simp (disch := first | assumption | omega | (exact Nat.le_of_ble_eq_true rfl) | fail) only [e0_37, e0_38, e0_39, e0_42, eq_self, ne_a, ne_b, ne_c, Nat.reduceEqDiff, lt0, bnd_ok, psh_I, psh_L, psh_R, psh_U, gt_sr, gr_sr, sk_sr, nn_sr, ↓reduceIte, Int.toNat_natCast, Int.reduceToNat, hn, Nat.reduceAdd]
set_option maxRecDepth 100000 in
set_option maxHeartbeats 4000000 in
theorem k_f5 {G : Nat → Int} {σ : St} (h : IN L x 20 517 [(1, 3, 20), (1, 2, 18), (18, 0, 19), (1, 1, 10), (10, 6, 11), (10, 7, 12), (10, 8, 13), (10, 9, 14), (10, 10, 15), (10, 11, 16), (10, 12, 17), (1, 0, 2), (2, 6, 3), (2, 7, 4), (2, 8, 5), (2, 9, 6), (2, 10, 7), (2, 11, 8), (2, 12, 9)] G σ) : ∃ σ', run 0 45 [vR 1] [] σ = run 0 53 [vR 1] [] σ' ∧ IN L x 21 541 [(1, 4, 21), (1, 3, 20), (1, 2, 18), (18, 0, 19), (1, 1, 10), (10, 6, 11), (10, 7, 12), (10, 8, 13), (10, 9, 14), (10, 10, 15), (10, 11, 16), (10, 12, 17), (1, 0, 2), (2, 6, 3), (2, 7, 4), (2, 8, 5), (2, 9, 6), (2, 10, 7), (2, 11, 8), (2, 12, 9)] G σ' := by
  have hn : nn σ = 20 := h.1
  have a1 := in_al (kd := 4) (sz := 24) h rfl (by decide) (by decide) (fun e => absurd e (by decide))
  have f1 : fok (al σ 4 24) 1 2 := in_fok a1 (by decide)
  have a3 := in_rr (b := 1) (f := 4) (v := 21) a1 (by decide) (by decide)
  refine ⟨_, ?_, a3⟩
  simp (disch := first | assumption | omega | (exact Nat.le_of_ble_eq_true rfl) | fail) only [e0_45, e0_46, e0_48, e0_50, eq_self, ne_a, ne_b, ne_c, Nat.reduceEqDiff, lt0, bnd_ok, psh_I, psh_L, psh_R, psh_U, gt_sr, gr_sr, sk_sr, nn_sr, ↓reduceIte, Int.toNat_natCast, Int.reduceToNat, hn, Nat.reduceAdd]
set_option maxRecDepth 100000 in
set_option maxHeartbeats 4000000 in
theorem k_f6 {G : Nat → Int} {σ : St} (h : IN L x 21 541 [(1, 4, 21), (1, 3, 20), (1, 2, 18), (18, 0, 19), (1, 1, 10), (10, 6, 11), (10, 7, 12), (10, 8, 13), (10, 9, 14), (10, 10, 15), (10, 11, 16), (10, 12, 17), (1, 0, 2), (2, 6, 3), (2, 7, 4), (2, 8, 5), (2, 9, 6), (2, 10, 7), (2, 11, 8), (2, 12, 9)] G σ) : ∃ σ', run 0 53 [vR 1] [] σ = run 0 62 [vR 1] [] σ' ∧ IN L x 22 757 [(1, 5, 22), (1, 4, 21), (1, 3, 20), (1, 2, 18), (18, 0, 19), (1, 1, 10), (10, 6, 11), (10, 7, 12), (10, 8, 13), (10, 9, 14), (10, 10, 15), (10, 11, 16), (10, 12, 17), (1, 0, 2), (2, 6, 3), (2, 7, 4), (2, 8, 5), (2, 9, 6), (2, 10, 7), (2, 11, 8), (2, 12, 9)] G σ' := by
  have hn : nn σ = 21 := h.1
  have a1 := in_al (kd := 4) (sz := 216) h rfl (by decide) (by decide) (fun e => absurd e (by decide))
  have f1 : fok (al σ 4 216) 1 2 := in_fok a1 (by decide)
  have a3 := in_rr (b := 1) (f := 5) (v := 22) a1 (by decide) (by decide)
  refine ⟨_, ?_, a3⟩
  simp (disch := first | assumption | omega | (exact Nat.le_of_ble_eq_true rfl) | fail) only [e0_53, e0_54, e0_57, e0_59, eq_self, ne_a, ne_b, ne_c, Nat.reduceEqDiff, lt0, bnd_ok, psh_I, psh_L, psh_R, psh_U, gt_sr, gr_sr, sk_sr, nn_sr, ↓reduceIte, Int.toNat_natCast, Int.reduceToNat, hn, Nat.reduceAdd]
set_option maxRecDepth 100000 in
set_option maxHeartbeats 4000000 in
theorem k_f7 {G : Nat → Int} {σ : St} (h : IN L x 22 757 [(1, 5, 22), (1, 4, 21), (1, 3, 20), (1, 2, 18), (18, 0, 19), (1, 1, 10), (10, 6, 11), (10, 7, 12), (10, 8, 13), (10, 9, 14), (10, 10, 15), (10, 11, 16), (10, 12, 17), (1, 0, 2), (2, 6, 3), (2, 7, 4), (2, 8, 5), (2, 9, 6), (2, 10, 7), (2, 11, 8), (2, 12, 9)] G σ) : ∃ σ', run 0 62 [vR 1] [] σ = run 0 70 [vR 1] [] σ' ∧ IN L x 23 781 [(1, 6, 23), (1, 5, 22), (1, 4, 21), (1, 3, 20), (1, 2, 18), (18, 0, 19), (1, 1, 10), (10, 6, 11), (10, 7, 12), (10, 8, 13), (10, 9, 14), (10, 10, 15), (10, 11, 16), (10, 12, 17), (1, 0, 2), (2, 6, 3), (2, 7, 4), (2, 8, 5), (2, 9, 6), (2, 10, 7), (2, 11, 8), (2, 12, 9)] G σ' := by
  have hn : nn σ = 22 := h.1
  have a1 := in_al (kd := 4) (sz := 24) h rfl (by decide) (by decide) (fun e => absurd e (by decide))
  have f1 : fok (al σ 4 24) 1 2 := in_fok a1 (by decide)
  have a3 := in_rr (b := 1) (f := 6) (v := 23) a1 (by decide) (by decide)
  refine ⟨_, ?_, a3⟩
  simp (disch := first | assumption | omega | (exact Nat.le_of_ble_eq_true rfl) | fail) only [e0_62, e0_63, e0_65, e0_67, eq_self, ne_a, ne_b, ne_c, Nat.reduceEqDiff, lt0, bnd_ok, psh_I, psh_L, psh_R, psh_U, gt_sr, gr_sr, sk_sr, nn_sr, ↓reduceIte, Int.toNat_natCast, Int.reduceToNat, hn, Nat.reduceAdd]
set_option maxRecDepth 100000 in
set_option maxHeartbeats 4000000 in
theorem c_Finit {G : Nat → Int} {σ : St} (h : IN L x 1 7 [] G σ) : ∃ σ', run 0 0 [vR 1] [] σ = some (vU, σ') ∧ IN L x 23 781 [(1, 6, 23), (1, 5, 22), (1, 4, 21), (1, 3, 20), (1, 2, 18), (18, 0, 19), (1, 1, 10), (10, 6, 11), (10, 7, 12), (10, 8, 13), (10, 9, 14), (10, 10, 15), (10, 11, 16), (10, 12, 17), (1, 0, 2), (2, 6, 3), (2, 7, 4), (2, 8, 5), (2, 9, 6), (2, 10, 7), (2, 11, 8), (2, 12, 9)] G σ' := by
  obtain ⟨σ1, r1, i1⟩ := k_f1 h
  obtain ⟨σ2, r2, i2⟩ := k_f2 i1
  obtain ⟨σ3, r3, i3⟩ := k_f3 i2
  obtain ⟨σ4, r4, i4⟩ := k_f4 i3
  obtain ⟨σ5, r5, i5⟩ := k_f5 i4
  obtain ⟨σ6, r6, i6⟩ := k_f6 i5
  obtain ⟨σ7, r7, i7⟩ := k_f7 i6
  refine ⟨σ7, ?_, i7⟩
  have s : run 0 0 [vR 1] [] σ = run 0 4 [vR 1] [] σ := by
    simp (disch := first | assumption | omega | (exact Nat.le_of_ble_eq_true rfl) | fail) only [e0_0, e0_1, eq_self, ne_a, ne_b, ne_c, Nat.reduceEqDiff, lt0, bnd_ok, psh_I, psh_L, psh_R, psh_U, gt_sr, gr_sr, sk_sr, nn_sr, ↓reduceIte, Int.toNat_natCast, Int.reduceToNat]
  have s9 : run 0 70 [vR 1] [] σ7 = some (vU, σ7) := by
    simp (disch := first | assumption | omega | (exact Nat.le_of_ble_eq_true rfl) | fail) only [e0_70, eq_self, ne_a, ne_b, ne_c, Nat.reduceEqDiff, lt0, bnd_ok, psh_I, psh_L, psh_R, psh_U, gt_sr, gr_sr, sk_sr, nn_sr, ↓reduceIte, Int.toNat_natCast, Int.reduceToNat]
  rw [s, r1, r2, r3, r4, r5, r6, r7, s9]
set_option maxRecDepth 100000 in
set_option maxHeartbeats 4000000 in
theorem k_m1 {G : Nat → Int} {σ : St} (h : IN L x 24 801 [(1, 6, 23), (1, 5, 22), (1, 4, 21), (1, 3, 20), (1, 2, 18), (18, 0, 19), (1, 1, 10), (10, 6, 11), (10, 7, 12), (10, 8, 13), (10, 9, 14), (10, 10, 15), (10, 11, 16), (10, 12, 17), (1, 0, 2), (2, 6, 3), (2, 7, 4), (2, 8, 5), (2, 9, 6), (2, 10, 7), (2, 11, 8), (2, 12, 9)] G σ) : ∃ σ', run 89 4 [vR 24] [] σ = run 89 9 [vR 24] [] σ' ∧ IN L x 24 801 [(1, 6, 23), (1, 5, 22), (1, 4, 21), (1, 3, 20), (1, 2, 18), (18, 0, 19), (1, 1, 10), (10, 6, 11), (10, 7, 12), (10, 8, 13), (10, 9, 14), (10, 10, 15), (10, 11, 16), (10, 12, 17), (1, 0, 2), (2, 6, 3), (2, 7, 4), (2, 8, 5), (2, 9, 6), (2, 10, 7), (2, 11, 8), (2, 12, 9)] (ru G 0 3) σ' := by
  have f1 : fok σ 24 3 := in_fok h (by decide)
  refine ⟨_, ?_, in_sr h (by decide) 0 3⟩
  simp (disch := first | assumption | omega | (exact Nat.le_of_ble_eq_true rfl) | fail) only [e89_4, e89_5, e89_6, eq_self, ne_a, ne_b, ne_c, Nat.reduceEqDiff, lt0, bnd_ok, psh_I, psh_L, psh_R, psh_U, gt_sr, gr_sr, sk_sr, nn_sr, ↓reduceIte, Int.toNat_natCast, Int.reduceToNat]
set_option maxRecDepth 100000 in
set_option maxHeartbeats 4000000 in
theorem k_m2 {G : Nat → Int} {σ : St} (h : IN L x 24 801 [(1, 6, 23), (1, 5, 22), (1, 4, 21), (1, 3, 20), (1, 2, 18), (18, 0, 19), (1, 1, 10), (10, 6, 11), (10, 7, 12), (10, 8, 13), (10, 9, 14), (10, 10, 15), (10, 11, 16), (10, 12, 17), (1, 0, 2), (2, 6, 3), (2, 7, 4), (2, 8, 5), (2, 9, 6), (2, 10, 7), (2, 11, 8), (2, 12, 9)] G σ) : ∃ σ', run 89 9 [vR 24] [] σ = run 89 14 [vR 24] [] σ' ∧ IN L x 24 801 [(1, 6, 23), (1, 5, 22), (1, 4, 21), (1, 3, 20), (1, 2, 18), (18, 0, 19), (1, 1, 10), (10, 6, 11), (10, 7, 12), (10, 8, 13), (10, 9, 14), (10, 10, 15), (10, 11, 16), (10, 12, 17), (1, 0, 2), (2, 6, 3), (2, 7, 4), (2, 8, 5), (2, 9, 6), (2, 10, 7), (2, 11, 8), (2, 12, 9)] (ru G 1 4) σ' := by
  have f1 : fok σ 24 3 := in_fok h (by decide)
  refine ⟨_, ?_, in_sr h (by decide) 1 4⟩
  simp (disch := first | assumption | omega | (exact Nat.le_of_ble_eq_true rfl) | fail) only [e89_9, e89_10, e89_11, eq_self, ne_a, ne_b, ne_c, Nat.reduceEqDiff, lt0, bnd_ok, psh_I, psh_L, psh_R, psh_U, gt_sr, gr_sr, sk_sr, nn_sr, ↓reduceIte, Int.toNat_natCast, Int.reduceToNat]
set_option maxRecDepth 100000 in
set_option maxHeartbeats 4000000 in
theorem k_m3 {G : Nat → Int} {σ : St} (h : IN L x 24 801 [(1, 6, 23), (1, 5, 22), (1, 4, 21), (1, 3, 20), (1, 2, 18), (18, 0, 19), (1, 1, 10), (10, 6, 11), (10, 7, 12), (10, 8, 13), (10, 9, 14), (10, 10, 15), (10, 11, 16), (10, 12, 17), (1, 0, 2), (2, 6, 3), (2, 7, 4), (2, 8, 5), (2, 9, 6), (2, 10, 7), (2, 11, 8), (2, 12, 9)] G σ) : ∃ σ', run 89 14 [vR 24] [] σ = run 89 22 [vR 24] [] σ' ∧ IN L x 25 825 [(24, 2, 25), (1, 6, 23), (1, 5, 22), (1, 4, 21), (1, 3, 20), (1, 2, 18), (18, 0, 19), (1, 1, 10), (10, 6, 11), (10, 7, 12), (10, 8, 13), (10, 9, 14), (10, 10, 15), (10, 11, 16), (10, 12, 17), (1, 0, 2), (2, 6, 3), (2, 7, 4), (2, 8, 5), (2, 9, 6), (2, 10, 7), (2, 11, 8), (2, 12, 9)] G σ' := by
  have hn : nn σ = 24 := h.1
  have a1 := in_al (kd := 4) (sz := 24) h rfl (by decide) (by decide) (fun e => absurd e (by decide))
  have f1 : fok (al σ 4 24) 24 3 := in_fok a1 (by decide)
  have a3 := in_rr (b := 24) (f := 2) (v := 25) a1 (by decide) (by decide)
  refine ⟨_, ?_, a3⟩
  simp (disch := first | assumption | omega | (exact Nat.le_of_ble_eq_true rfl) | fail) only [e89_14, e89_15, e89_17, e89_19, eq_self, ne_a, ne_b, ne_c, Nat.reduceEqDiff, lt0, bnd_ok, psh_I, psh_L, psh_R, psh_U, gt_sr, gr_sr, sk_sr, nn_sr, ↓reduceIte, Int.toNat_natCast, Int.reduceToNat, hn, Nat.reduceAdd]
set_option maxRecDepth 100000 in
set_option maxHeartbeats 4000000 in
theorem k_m4 {G : Nat → Int} {σ : St} (h : IN L x 25 825 [(24, 2, 25), (1, 6, 23), (1, 5, 22), (1, 4, 21), (1, 3, 20), (1, 2, 18), (18, 0, 19), (1, 1, 10), (10, 6, 11), (10, 7, 12), (10, 8, 13), (10, 9, 14), (10, 10, 15), (10, 11, 16), (10, 12, 17), (1, 0, 2), (2, 6, 3), (2, 7, 4), (2, 8, 5), (2, 9, 6), (2, 10, 7), (2, 11, 8), (2, 12, 9)] G σ) : ∃ σ', run 89 22 [vR 24] [] σ = run 89 27 [vR 24] [] σ' ∧ IN L x 25 825 [(24, 2, 25), (1, 6, 23), (1, 5, 22), (1, 4, 21), (1, 3, 20), (1, 2, 18), (18, 0, 19), (1, 1, 10), (10, 6, 11), (10, 7, 12), (10, 8, 13), (10, 9, 14), (10, 10, 15), (10, 11, 16), (10, 12, 17), (1, 0, 2), (2, 6, 3), (2, 7, 4), (2, 8, 5), (2, 9, 6), (2, 10, 7), (2, 11, 8), (2, 12, 9)] (ru G 4 2) σ' := by
  have f1 : fok σ 24 3 := in_fok h (by decide)
  refine ⟨_, ?_, in_sr h (by decide) 4 2⟩
  simp (disch := first | assumption | omega | (exact Nat.le_of_ble_eq_true rfl) | fail) only [e89_22, e89_23, e89_24, eq_self, ne_a, ne_b, ne_c, Nat.reduceEqDiff, lt0, bnd_ok, psh_I, psh_L, psh_R, psh_U, gt_sr, gr_sr, sk_sr, nn_sr, ↓reduceIte, Int.toNat_natCast, Int.reduceToNat]
set_option maxRecDepth 100000 in
set_option maxHeartbeats 4000000 in
theorem k_m5 {G : Nat → Int} {σ : St} (h : IN L x 25 825 [(24, 2, 25), (1, 6, 23), (1, 5, 22), (1, 4, 21), (1, 3, 20), (1, 2, 18), (18, 0, 19), (1, 1, 10), (10, 6, 11), (10, 7, 12), (10, 8, 13), (10, 9, 14), (10, 10, 15), (10, 11, 16), (10, 12, 17), (1, 0, 2), (2, 6, 3), (2, 7, 4), (2, 8, 5), (2, 9, 6), (2, 10, 7), (2, 11, 8), (2, 12, 9)] G σ) : ∃ σ', run 89 27 [vR 24] [] σ = run 89 32 [vR 24] [] σ' ∧ IN L x 25 825 [(24, 2, 25), (1, 6, 23), (1, 5, 22), (1, 4, 21), (1, 3, 20), (1, 2, 18), (18, 0, 19), (1, 1, 10), (10, 6, 11), (10, 7, 12), (10, 8, 13), (10, 9, 14), (10, 10, 15), (10, 11, 16), (10, 12, 17), (1, 0, 2), (2, 6, 3), (2, 7, 4), (2, 8, 5), (2, 9, 6), (2, 10, 7), (2, 11, 8), (2, 12, 9)] (ru G 5 1) σ' := by
  have f1 : fok σ 24 3 := in_fok h (by decide)
  refine ⟨_, ?_, in_sr h (by decide) 5 1⟩
  simp (disch := first | assumption | omega | (exact Nat.le_of_ble_eq_true rfl) | fail) only [e89_27, e89_28, e89_29, eq_self, ne_a, ne_b, ne_c, Nat.reduceEqDiff, lt0, bnd_ok, psh_I, psh_L, psh_R, psh_U, gt_sr, gr_sr, sk_sr, nn_sr, ↓reduceIte, Int.toNat_natCast, Int.reduceToNat]
set_option maxRecDepth 100000 in
set_option maxHeartbeats 4000000 in
theorem k_m6 {G : Nat → Int} {σ : St} (h : IN L x 25 825 [(24, 2, 25), (1, 6, 23), (1, 5, 22), (1, 4, 21), (1, 3, 20), (1, 2, 18), (18, 0, 19), (1, 1, 10), (10, 6, 11), (10, 7, 12), (10, 8, 13), (10, 9, 14), (10, 10, 15), (10, 11, 16), (10, 12, 17), (1, 0, 2), (2, 6, 3), (2, 7, 4), (2, 8, 5), (2, 9, 6), (2, 10, 7), (2, 11, 8), (2, 12, 9)] G σ) : ∃ σ', run 89 32 [vR 24] [] σ = run 89 40 [vR 24] [] σ' ∧ IN L x 26 921 [(24, 6, 26), (24, 2, 25), (1, 6, 23), (1, 5, 22), (1, 4, 21), (1, 3, 20), (1, 2, 18), (18, 0, 19), (1, 1, 10), (10, 6, 11), (10, 7, 12), (10, 8, 13), (10, 9, 14), (10, 10, 15), (10, 11, 16), (10, 12, 17), (1, 0, 2), (2, 6, 3), (2, 7, 4), (2, 8, 5), (2, 9, 6), (2, 10, 7), (2, 11, 8), (2, 12, 9)] G σ' := by
  have hn : nn σ = 25 := h.1
  have a1 := in_al (kd := 4) (sz := 96) h rfl (by decide) (by decide) (fun e => absurd e (by decide))
  have f1 : fok (al σ 4 96) 24 3 := in_fok a1 (by decide)
  have a3 := in_rr (b := 24) (f := 6) (v := 26) a1 (by decide) (by decide)
  refine ⟨_, ?_, a3⟩
  simp (disch := first | assumption | omega | (exact Nat.le_of_ble_eq_true rfl) | fail) only [e89_32, e89_33, e89_35, e89_37, eq_self, ne_a, ne_b, ne_c, Nat.reduceEqDiff, lt0, bnd_ok, psh_I, psh_L, psh_R, psh_U, gt_sr, gr_sr, sk_sr, nn_sr, ↓reduceIte, Int.toNat_natCast, Int.reduceToNat, hn, Nat.reduceAdd]
set_option maxRecDepth 100000 in
set_option maxHeartbeats 4000000 in
theorem k_m7 {G : Nat → Int} {σ : St} (h : IN L x 26 921 [(24, 6, 26), (24, 2, 25), (1, 6, 23), (1, 5, 22), (1, 4, 21), (1, 3, 20), (1, 2, 18), (18, 0, 19), (1, 1, 10), (10, 6, 11), (10, 7, 12), (10, 8, 13), (10, 9, 14), (10, 10, 15), (10, 11, 16), (10, 12, 17), (1, 0, 2), (2, 6, 3), (2, 7, 4), (2, 8, 5), (2, 9, 6), (2, 10, 7), (2, 11, 8), (2, 12, 9)] G σ) : ∃ σ', run 89 40 [vR 24] [] σ = run 89 48 [vR 24] [] σ' ∧ IN L x 27 937 [(24, 8, 27), (24, 6, 26), (24, 2, 25), (1, 6, 23), (1, 5, 22), (1, 4, 21), (1, 3, 20), (1, 2, 18), (18, 0, 19), (1, 1, 10), (10, 6, 11), (10, 7, 12), (10, 8, 13), (10, 9, 14), (10, 10, 15), (10, 11, 16), (10, 12, 17), (1, 0, 2), (2, 6, 3), (2, 7, 4), (2, 8, 5), (2, 9, 6), (2, 10, 7), (2, 11, 8), (2, 12, 9)] G σ' := by
  have hn : nn σ = 26 := h.1
  have a1 := in_al (kd := 4) (sz := 16) h rfl (by decide) (by decide) (fun e => absurd e (by decide))
  have f1 : fok (al σ 4 16) 24 3 := in_fok a1 (by decide)
  have a3 := in_rr (b := 24) (f := 8) (v := 27) a1 (by decide) (by decide)
  refine ⟨_, ?_, a3⟩
  simp (disch := first | assumption | omega | (exact Nat.le_of_ble_eq_true rfl) | fail) only [e89_40, e89_41, e89_43, e89_45, eq_self, ne_a, ne_b, ne_c, Nat.reduceEqDiff, lt0, bnd_ok, psh_I, psh_L, psh_R, psh_U, gt_sr, gr_sr, sk_sr, nn_sr, ↓reduceIte, Int.toNat_natCast, Int.reduceToNat, hn, Nat.reduceAdd]
set_option maxRecDepth 100000 in
set_option maxHeartbeats 4000000 in
theorem k_m8 {G : Nat → Int} {σ : St} (h : IN L x 27 937 [(24, 8, 27), (24, 6, 26), (24, 2, 25), (1, 6, 23), (1, 5, 22), (1, 4, 21), (1, 3, 20), (1, 2, 18), (18, 0, 19), (1, 1, 10), (10, 6, 11), (10, 7, 12), (10, 8, 13), (10, 9, 14), (10, 10, 15), (10, 11, 16), (10, 12, 17), (1, 0, 2), (2, 6, 3), (2, 7, 4), (2, 8, 5), (2, 9, 6), (2, 10, 7), (2, 11, 8), (2, 12, 9)] G σ) : ∃ σ', run 89 48 [vR 24] [] σ = run 89 56 [vR 24] [] σ' ∧ IN L x 28 997 [(24, 10, 28), (24, 8, 27), (24, 6, 26), (24, 2, 25), (1, 6, 23), (1, 5, 22), (1, 4, 21), (1, 3, 20), (1, 2, 18), (18, 0, 19), (1, 1, 10), (10, 6, 11), (10, 7, 12), (10, 8, 13), (10, 9, 14), (10, 10, 15), (10, 11, 16), (10, 12, 17), (1, 0, 2), (2, 6, 3), (2, 7, 4), (2, 8, 5), (2, 9, 6), (2, 10, 7), (2, 11, 8), (2, 12, 9)] G σ' := by
  have hn : nn σ = 27 := h.1
  have a1 := in_al (kd := 4) (sz := 60) h rfl (by decide) (by decide) (fun e => absurd e (by decide))
  have f1 : fok (al σ 4 60) 24 3 := in_fok a1 (by decide)
  have a3 := in_rr (b := 24) (f := 10) (v := 28) a1 (by decide) (by decide)
  refine ⟨_, ?_, a3⟩
  simp (disch := first | assumption | omega | (exact Nat.le_of_ble_eq_true rfl) | fail) only [e89_48, e89_49, e89_51, e89_53, eq_self, ne_a, ne_b, ne_c, Nat.reduceEqDiff, lt0, bnd_ok, psh_I, psh_L, psh_R, psh_U, gt_sr, gr_sr, sk_sr, nn_sr, ↓reduceIte, Int.toNat_natCast, Int.reduceToNat, hn, Nat.reduceAdd]
set_option maxRecDepth 100000 in
set_option maxHeartbeats 4000000 in
theorem k_m9 {G : Nat → Int} {σ : St} (h : IN L x 28 997 [(24, 10, 28), (24, 8, 27), (24, 6, 26), (24, 2, 25), (1, 6, 23), (1, 5, 22), (1, 4, 21), (1, 3, 20), (1, 2, 18), (18, 0, 19), (1, 1, 10), (10, 6, 11), (10, 7, 12), (10, 8, 13), (10, 9, 14), (10, 10, 15), (10, 11, 16), (10, 12, 17), (1, 0, 2), (2, 6, 3), (2, 7, 4), (2, 8, 5), (2, 9, 6), (2, 10, 7), (2, 11, 8), (2, 12, 9)] G σ) : ∃ σ', run 89 56 [vR 24] [] σ = run 89 64 [vR 24] [] σ' ∧ IN L x 29 1021 [(24, 11, 29), (24, 10, 28), (24, 8, 27), (24, 6, 26), (24, 2, 25), (1, 6, 23), (1, 5, 22), (1, 4, 21), (1, 3, 20), (1, 2, 18), (18, 0, 19), (1, 1, 10), (10, 6, 11), (10, 7, 12), (10, 8, 13), (10, 9, 14), (10, 10, 15), (10, 11, 16), (10, 12, 17), (1, 0, 2), (2, 6, 3), (2, 7, 4), (2, 8, 5), (2, 9, 6), (2, 10, 7), (2, 11, 8), (2, 12, 9)] G σ' := by
  have hn : nn σ = 28 := h.1
  have a1 := in_al (kd := 4) (sz := 24) h rfl (by decide) (by decide) (fun e => absurd e (by decide))
  have f1 : fok (al σ 4 24) 24 3 := in_fok a1 (by decide)
  have a3 := in_rr (b := 24) (f := 11) (v := 29) a1 (by decide) (by decide)
  refine ⟨_, ?_, a3⟩
  simp (disch := first | assumption | omega | (exact Nat.le_of_ble_eq_true rfl) | fail) only [e89_56, e89_57, e89_59, e89_61, eq_self, ne_a, ne_b, ne_c, Nat.reduceEqDiff, lt0, bnd_ok, psh_I, psh_L, psh_R, psh_U, gt_sr, gr_sr, sk_sr, nn_sr, ↓reduceIte, Int.toNat_natCast, Int.reduceToNat, hn, Nat.reduceAdd]
set_option maxRecDepth 100000 in
set_option maxHeartbeats 4000000 in
theorem k_m10 {G : Nat → Int} {σ : St} (h : IN L x 29 1021 [(24, 11, 29), (24, 10, 28), (24, 8, 27), (24, 6, 26), (24, 2, 25), (1, 6, 23), (1, 5, 22), (1, 4, 21), (1, 3, 20), (1, 2, 18), (18, 0, 19), (1, 1, 10), (10, 6, 11), (10, 7, 12), (10, 8, 13), (10, 9, 14), (10, 10, 15), (10, 11, 16), (10, 12, 17), (1, 0, 2), (2, 6, 3), (2, 7, 4), (2, 8, 5), (2, 9, 6), (2, 10, 7), (2, 11, 8), (2, 12, 9)] G σ) : ∃ σ', run 89 64 [vR 24] [] σ = run 89 72 [vR 24] [] σ' ∧ IN L x 30 1045 [(24, 12, 30), (24, 11, 29), (24, 10, 28), (24, 8, 27), (24, 6, 26), (24, 2, 25), (1, 6, 23), (1, 5, 22), (1, 4, 21), (1, 3, 20), (1, 2, 18), (18, 0, 19), (1, 1, 10), (10, 6, 11), (10, 7, 12), (10, 8, 13), (10, 9, 14), (10, 10, 15), (10, 11, 16), (10, 12, 17), (1, 0, 2), (2, 6, 3), (2, 7, 4), (2, 8, 5), (2, 9, 6), (2, 10, 7), (2, 11, 8), (2, 12, 9)] G σ' := by
  have hn : nn σ = 29 := h.1
  have a1 := in_al (kd := 4) (sz := 24) h rfl (by decide) (by decide) (fun e => absurd e (by decide))
  have f1 : fok (al σ 4 24) 24 3 := in_fok a1 (by decide)
  have a3 := in_rr (b := 24) (f := 12) (v := 30) a1 (by decide) (by decide)
  refine ⟨_, ?_, a3⟩
  simp (disch := first | assumption | omega | (exact Nat.le_of_ble_eq_true rfl) | fail) only [e89_64, e89_65, e89_67, e89_69, eq_self, ne_a, ne_b, ne_c, Nat.reduceEqDiff, lt0, bnd_ok, psh_I, psh_L, psh_R, psh_U, gt_sr, gr_sr, sk_sr, nn_sr, ↓reduceIte, Int.toNat_natCast, Int.reduceToNat, hn, Nat.reduceAdd]
set_option maxRecDepth 100000 in
set_option maxHeartbeats 4000000 in
theorem k_m11 {G : Nat → Int} {σ : St} (h : IN L x 30 1045 [(24, 12, 30), (24, 11, 29), (24, 10, 28), (24, 8, 27), (24, 6, 26), (24, 2, 25), (1, 6, 23), (1, 5, 22), (1, 4, 21), (1, 3, 20), (1, 2, 18), (18, 0, 19), (1, 1, 10), (10, 6, 11), (10, 7, 12), (10, 8, 13), (10, 9, 14), (10, 10, 15), (10, 11, 16), (10, 12, 17), (1, 0, 2), (2, 6, 3), (2, 7, 4), (2, 8, 5), (2, 9, 6), (2, 10, 7), (2, 11, 8), (2, 12, 9)] G σ) : ∃ σ', run 89 72 [vR 24] [] σ = run 89 80 [vR 24] [] σ' ∧ IN L x 31 1069 [(24, 17, 31), (24, 12, 30), (24, 11, 29), (24, 10, 28), (24, 8, 27), (24, 6, 26), (24, 2, 25), (1, 6, 23), (1, 5, 22), (1, 4, 21), (1, 3, 20), (1, 2, 18), (18, 0, 19), (1, 1, 10), (10, 6, 11), (10, 7, 12), (10, 8, 13), (10, 9, 14), (10, 10, 15), (10, 11, 16), (10, 12, 17), (1, 0, 2), (2, 6, 3), (2, 7, 4), (2, 8, 5), (2, 9, 6), (2, 10, 7), (2, 11, 8), (2, 12, 9)] G σ' := by
  have hn : nn σ = 30 := h.1
  have a1 := in_al (kd := 4) (sz := 24) h rfl (by decide) (by decide) (fun e => absurd e (by decide))
  have f1 : fok (al σ 4 24) 24 3 := in_fok a1 (by decide)
  have a3 := in_rr (b := 24) (f := 17) (v := 31) a1 (by decide) (by decide)
  refine ⟨_, ?_, a3⟩
  simp (disch := first | assumption | omega | (exact Nat.le_of_ble_eq_true rfl) | fail) only [e89_72, e89_73, e89_75, e89_77, eq_self, ne_a, ne_b, ne_c, Nat.reduceEqDiff, lt0, bnd_ok, psh_I, psh_L, psh_R, psh_U, gt_sr, gr_sr, sk_sr, nn_sr, ↓reduceIte, Int.toNat_natCast, Int.reduceToNat, hn, Nat.reduceAdd]
set_option maxRecDepth 100000 in
set_option maxHeartbeats 4000000 in
theorem k_m12 {G : Nat → Int} {σ : St} (h : IN L x 31 1069 [(24, 17, 31), (24, 12, 30), (24, 11, 29), (24, 10, 28), (24, 8, 27), (24, 6, 26), (24, 2, 25), (1, 6, 23), (1, 5, 22), (1, 4, 21), (1, 3, 20), (1, 2, 18), (18, 0, 19), (1, 1, 10), (10, 6, 11), (10, 7, 12), (10, 8, 13), (10, 9, 14), (10, 10, 15), (10, 11, 16), (10, 12, 17), (1, 0, 2), (2, 6, 3), (2, 7, 4), (2, 8, 5), (2, 9, 6), (2, 10, 7), (2, 11, 8), (2, 12, 9)] G σ) : ∃ σ', run 89 80 [vR 24] [] σ = run 89 89 [vR 24] [] σ' ∧ IN L x 32 1389 [(24, 18, 32), (24, 17, 31), (24, 12, 30), (24, 11, 29), (24, 10, 28), (24, 8, 27), (24, 6, 26), (24, 2, 25), (1, 6, 23), (1, 5, 22), (1, 4, 21), (1, 3, 20), (1, 2, 18), (18, 0, 19), (1, 1, 10), (10, 6, 11), (10, 7, 12), (10, 8, 13), (10, 9, 14), (10, 10, 15), (10, 11, 16), (10, 12, 17), (1, 0, 2), (2, 6, 3), (2, 7, 4), (2, 8, 5), (2, 9, 6), (2, 10, 7), (2, 11, 8), (2, 12, 9)] G σ' := by
  have hn : nn σ = 31 := h.1
  have a1 := in_al (kd := 4) (sz := 320) h rfl (by decide) (by decide) (fun e => absurd e (by decide))
  have f1 : fok (al σ 4 320) 24 3 := in_fok a1 (by decide)
  have a3 := in_rr (b := 24) (f := 18) (v := 32) a1 (by decide) (by decide)
  refine ⟨_, ?_, a3⟩
  simp (disch := first | assumption | omega | (exact Nat.le_of_ble_eq_true rfl) | fail) only [e89_80, e89_81, e89_84, e89_86, eq_self, ne_a, ne_b, ne_c, Nat.reduceEqDiff, lt0, bnd_ok, psh_I, psh_L, psh_R, psh_U, gt_sr, gr_sr, sk_sr, nn_sr, ↓reduceIte, Int.toNat_natCast, Int.reduceToNat, hn, Nat.reduceAdd]
set_option maxRecDepth 100000 in
set_option maxHeartbeats 4000000 in
theorem k_m13 {G : Nat → Int} {σ : St} (h : IN L x 32 1389 [(24, 18, 32), (24, 17, 31), (24, 12, 30), (24, 11, 29), (24, 10, 28), (24, 8, 27), (24, 6, 26), (24, 2, 25), (1, 6, 23), (1, 5, 22), (1, 4, 21), (1, 3, 20), (1, 2, 18), (18, 0, 19), (1, 1, 10), (10, 6, 11), (10, 7, 12), (10, 8, 13), (10, 9, 14), (10, 10, 15), (10, 11, 16), (10, 12, 17), (1, 0, 2), (2, 6, 3), (2, 7, 4), (2, 8, 5), (2, 9, 6), (2, 10, 7), (2, 11, 8), (2, 12, 9)] G σ) : ∃ σ', run 89 89 [vR 24] [] σ = run 89 96 [vR 24] [] σ' ∧ IN L x 33 1391 [(24, 19, 33), (24, 18, 32), (24, 17, 31), (24, 12, 30), (24, 11, 29), (24, 10, 28), (24, 8, 27), (24, 6, 26), (24, 2, 25), (1, 6, 23), (1, 5, 22), (1, 4, 21), (1, 3, 20), (1, 2, 18), (18, 0, 19), (1, 1, 10), (10, 6, 11), (10, 7, 12), (10, 8, 13), (10, 9, 14), (10, 10, 15), (10, 11, 16), (10, 12, 17), (1, 0, 2), (2, 6, 3), (2, 7, 4), (2, 8, 5), (2, 9, 6), (2, 10, 7), (2, 11, 8), (2, 12, 9)] G σ' := by
  have hn : nn σ = 32 := h.1
  have a1 := in_al (kd := 5) (sz := 2) h rfl (by decide) (by decide) (fun e => absurd e (by decide))
  have f1 : fok (al σ 5 2) 24 3 := in_fok a1 (by decide)
  have a3 := in_rr (b := 24) (f := 19) (v := 33) a1 (by decide) (by decide)
  refine ⟨_, ?_, a3⟩
  simp (disch := first | assumption | omega | (exact Nat.le_of_ble_eq_true rfl) | fail) only [e89_89, e89_90, e89_91, e89_93, eq_self, ne_a, ne_b, ne_c, Nat.reduceEqDiff, lt0, bnd_ok, psh_I, psh_L, psh_R, psh_U, gt_sr, gr_sr, sk_sr, nn_sr, ↓reduceIte, Int.toNat_natCast, Int.reduceToNat, hn, Nat.reduceAdd]
def dN : Dat := (4, 6, 1, 0, 0, z0, z0, z0, z0, z0)
theorem ok_dN : okd dN := by
  refine ⟨(show 1 ≤ 4 ∧ 4 ≤ 4 ∧ 1 ≤ 6 ∧ 6 ≤ 6 by decide), (show (1 : Int) ≤ 1 ∧ (1 : Int) ≤ 5 by decide), (show (0 : Int) ≤ 0 ∧ (0 : Int) ≤ 3 by decide), Nat.zero_le _, fun c _ => (show (0 : Int) ≤ 0 ∧ (0 : Int) ≤ 9 by decide), fun c _ => Or.inl rfl, fun c _ => (show (-1 : Int) ≤ 0 ∧ (0 : Int) ≤ 9 by decide), zr_z0 _, zr_z0 _, zr_z0 _, zr_z0 _, zr_z0 _, ?_, fun i hi => absurd hi (Nat.not_lt_zero i)⟩
  intro s c _ h1 h2
  have : dn_ dN = 24 := rfl
  omega
theorem okp0 : okp 0 z0 := ⟨Nat.zero_le _, fun i hi => absurd hi (Nat.not_lt_zero i)⟩
set_option maxRecDepth 100000 in
set_option maxHeartbeats 4000000 in
theorem c_Minit {σ : St} (h : IN L x 24 801 [(1, 6, 23), (1, 5, 22), (1, 4, 21), (1, 3, 20), (1, 2, 18), (18, 0, 19), (1, 1, 10), (10, 6, 11), (10, 7, 12), (10, 8, 13), (10, 9, 14), (10, 10, 15), (10, 11, 16), (10, 12, 17), (1, 0, 2), (2, 6, 3), (2, 7, 4), (2, 8, 5), (2, 9, 6), (2, 10, 7), (2, 11, 8), (2, 12, 9)] z0 σ) : ∃ σ', run 89 0 [vR 24] [] σ = some (vU, σ') ∧ TS L x σ' D0 0 z0 (fun _ => none) := by
  obtain ⟨σ1, r1, i1⟩ := k_m1 h
  obtain ⟨σ2, r2, i2⟩ := k_m2 i1
  obtain ⟨σ3, r3, i3⟩ := k_m3 i2
  obtain ⟨σ4, r4, i4⟩ := k_m4 i3
  obtain ⟨σ5, r5, i5⟩ := k_m5 i4
  obtain ⟨σ6, r6, i6⟩ := k_m6 i5
  obtain ⟨σ7, r7, i7⟩ := k_m7 i6
  obtain ⟨σ8, r8, i8⟩ := k_m8 i7
  obtain ⟨σ9, r9, i9⟩ := k_m9 i8
  obtain ⟨σ10, r10, i10⟩ := k_m10 i9
  obtain ⟨σ11, r11, i11⟩ := k_m11 i10
  obtain ⟨σ12, r12, i12⟩ := k_m12 i11
  obtain ⟨τ, r13, i13⟩ := k_m13 i12
  obtain ⟨n1, n2, n3, n4, n5, n6, n7, n8, n9, n10, n11⟩ := id i13
  have hs : shp τ := ⟨by omega, fun k k1 k2 => n5 k k1 k2, fun p hp => n6 p (by
    have := List.all_eq_true.mp (show (grT.all fun p => decide (p ∈ [(24, 19, 33), (24, 18, 32), (24, 17, 31), (24, 12, 30), (24, 11, 29), (24, 10, 28), (24, 8, 27), (24, 6, 26), (24, 2, 25), (1, 6, 23), (1, 5, 22), (1, 4, 21), (1, 3, 20), (1, 2, 18), (18, 0, 19), (1, 1, 10), (10, 6, 11), (10, 7, 12), (10, 8, 13), (10, 9, 14), (10, 10, 15), (10, 11, 16), (10, 12, 17), (1, 0, 2), (2, 6, 3), (2, 7, 4), (2, 8, 5), (2, 9, 6), (2, 10, 7), (2, 11, 8), (2, 12, 9)])) = true by decide) p hp
    exact of_decide_eq_true this)⟩
  have z : ∀ k, k ≤ 33 → 18 ≤ k → k ≠ 24 → gt τ k = z0 := fun k k1 k2 k3 => n8 k k1 (Or.inr k2) k3
  have hG : gt τ 24 = _ := n9 (by decide)
  have hm : mdl (sr τ 24 (ru (ru (ru (ru z0 0 4) 1 6) 3 (lbD dN : Int)) 4 1)) dN 0 z0 := by
    refine ⟨⟨hs, ?_, ?_, ?_, ?_, ?_⟩, ?_, ?_, ?_, ?_, fun i hi => absurd hi (Nat.not_lt_zero i), ?_, okp0, ok_dN, ?_⟩
    · rw [gt_e]; rfl
    · rw [gt_e]; rfl
    · rw [gt_e]; rfl
    · rw [gt_e]; rfl
    · rw [gt_n _ _ (by decide), z 26 (by decide) (by decide) (by decide)]; rfl
    · rw [gt_e]; rfl
    · rw [gt_e]; rfl
    · rw [gt_e]; rfl
    · rw [gt_n _ _ (by decide), z 25 (by decide) (by decide) (by decide)]; rfl
    · rw [gt_n _ _ (by decide), z 28 (by decide) (by decide) (by decide)]
    · rw [gt_n _ _ (by decide), z 29 (by decide) (by decide) (by decide)]; exact zr_z0 24
  obtain ⟨σ', e1, c1, m1⟩ := m_clear (R := 3) (C := 4) hm (by decide) (F := gt τ 24) (by rw [hG]; exact ⟨rfl, rfl, rfl⟩)
  rw [sr_sr, sr_self τ 24 _ rfl] at e1
  have c2 : chg SMo τ σ' := chg_tr (chg_sr (chg_rf _ _) (by decide)) c1 (fun _ h => h)
  have f24 : fok τ 24 3 := in_fok i13 (by decide)
  have okD : okd D0 := ok_nw (by decide) (zr_z0 8) (zr_z0 8)
  have cs : CS τ D0 0 z0 := ⟨⟨hs, by rw [z 18 (by decide) (by decide) (by decide)]; rfl, z 19 (by decide) (by decide) (by decide), okp0⟩, ⟨bsh_2 hs, n10 (by decide)⟩, okD, rep_jb ⟨bsh_10 hs, n11 (by decide)⟩ okD⟩
  have ic : imsC τ (fun _ => none) := ⟨fun i _ => Or.inl ⟨rfl, n7 (by decide) i⟩, fun h => absurd rfl h⟩
  have imm : imsM τ (fun _ => none) := fun i _ => Or.inl ⟨rfl, by rw [z 33 (by decide) (by decide) (by decide)]; rfl⟩
  have hSM : ∀ i ∈ SMo, 24 ≤ i ∧ i < 32 := fun i hi => by
    have := mem_all (p := fun i => decide (24 ≤ i ∧ i < 32)) (S := SMo) rfl i hi
    exact of_decide_eq_true this
  refine ⟨σ', ?_, CS_chg c2 (fun i hi => (hSM i hi).1) cs, m1, imsC_chg c2 (fun i hi => by have := hSM i hi; omega) ic, imsM_chg c2 (by decide) imm, ?_, ?_, ?_, ?_⟩
  · have s : run 89 0 [vR 24] [] σ = run 89 4 [vR 24] [] σ := by
      simp (disch := first | assumption | omega | (exact Nat.le_of_ble_eq_true rfl) | fail) only [e89_0, e89_1, eq_self, ne_a, ne_b, ne_c, Nat.reduceEqDiff, lt0, bnd_ok, psh_I, psh_L, psh_R, psh_U, gt_sr, gr_sr, sk_sr, nn_sr, ↓reduceIte, Int.toNat_natCast, Int.reduceToNat]
    have s9 : run 89 96 [vR 24] [] τ = some (vU, σ') := by
      simp (disch := first | assumption | omega | (exact Nat.le_of_ble_eq_true rfl) | fail) only [e89_96, e89_97, e89_100, eq_self, ne_a, ne_b, ne_c, Nat.reduceEqDiff, lt0, bnd_ok, psh_I, psh_L, psh_R, psh_U, gt_sr, gr_sr, sk_sr, nn_sr, ↓reduceIte, Int.toNat_natCast, Int.reduceToNat, e1]
    rw [s, r1, r2, r3, r4, r5, r6, r7, r8, r9, r10, r11, r12, r13, s9]
  · rw [c2.2.2.2.2.1]; exact n3
  · rw [c2.2.2.2.2.2.1]; exact n4
  · rw [c2.1, n1]; omega
  · rw [c2.2.1, n2]; omega
set_option maxRecDepth 100000 in
set_option maxHeartbeats 4000000 in
theorem k_law : law_goal := by
  intro b L x hL hx
  have a1 := in_al (kd := 2) (sz := 7) (in_st0 (L := L) (x := x)) rfl (by decide) (by decide) (fun e => absurd e (by decide))
  obtain ⟨σ1, k1, i1⟩ := c_Finit a1
  have hn1 : nn σ1 = 23 := i1.1
  have a2 := in_al (kd := 3) (sz := 20) i1 rfl (by decide) (by decide) (fun _ => rfl)
  obtain ⟨σ2, k2, i2⟩ := c_Minit a2
  obtain ⟨σ3, k3, n1, n2⟩ := k_loop (b := b) hL hx (L + 1) 0 D0 0 z0 (fun _ => none) σ2 (by omega) (by omega) i2
  have hn0 : nn (st0 L x) = 0 := rfl
  refine ⟨σ3, ?_, n1, n2⟩
  rw [← k3]
  show run 148 0 [vS b, vU, vU, vU] [] (st0 L x) = run 148 18 [vS b, vR 1, vR 24, vI 0] [] σ2
  simp (disch := first | assumption | omega | (exact Nat.le_of_ble_eq_true rfl) | fail) only [e148_0, e148_3, e148_4, e148_7, e148_8, e148_11, e148_12, e148_15, e148_16, e148_17, eq_self, ne_a, ne_b, ne_c, Nat.reduceEqDiff, lt0, bnd_ok, psh_I, psh_L, psh_R, psh_U, gt_sr, gr_sr, sk_sr, nn_sr, ↓reduceIte, Int.toNat_natCast, Int.reduceToNat, hn0, hn1, Nat.reduceAdd, k1, k2]
