/-! B_init -/
theorem e1_0 (l st : List AV) (σ : St) (x : Nat) : run 1 0 (vR x :: l) (st) σ = run 1 1 (vR x :: l) (vR x :: st) σ := (run_eq 1 0 _ _ σ).trans rfl
theorem e1_1 (ls st : List AV) (σ : St) (x : Nat) (h : 1 ≤ x) (h4 : st.length ≤ 4) : run 1 1 (ls) (vR x :: st) σ = run 1 4 (ls) (st) σ := (run_eq 1 1 _ _ σ).trans (if_pos ⟨h, h4⟩)
theorem e1_4 (l st : List AV) (σ : St) (x : Nat) : run 1 4 (vR x :: l) (st) σ = run 1 5 (vR x :: l) (vR x :: st) σ := (run_eq 1 4 _ _ σ).trans rfl
theorem e1_5 (ls st : List AV) (σ : St) : run 1 5 (ls) (st) σ = run 1 7 (ls) (vI 24 :: st) σ := (run_eq 1 5 _ _ σ).trans rfl
theorem e1_7 (ls st : List AV) (σ : St) (z : Int) (h : 0 ≤ z ∧ z ≤ 1000) : run 1 7 (ls) (vI z :: st) σ = run 1 9 (ls) (vR (nn σ + 1) :: st) (al σ 4 z.toNat) := (run_eq 1 7 _ _ σ).trans (if_pos h)
theorem e1_9 (ls st : List AV) (σ : St) (z x : Nat) (h : fok σ x 0) (h2 : 1 ≤ z) : run 1 9 (ls) (vR z :: vR x :: st) σ = run 1 12 (ls) (st) (rr σ x (ru (gr σ x) 6 z)) := (run_eq 1 9 _ _ σ).trans (if_pos ⟨h, h2⟩)
theorem e1_12 (l st : List AV) (σ : St) (x : Nat) : run 1 12 (vR x :: l) (st) σ = run 1 13 (vR x :: l) (vR x :: st) σ := (run_eq 1 12 _ _ σ).trans rfl
theorem e1_13 (ls st : List AV) (σ : St) : run 1 13 (ls) (st) σ = run 1 15 (ls) (vI 24 :: st) σ := (run_eq 1 13 _ _ σ).trans rfl
theorem e1_15 (ls st : List AV) (σ : St) (z : Int) (h : 0 ≤ z ∧ z ≤ 1000) : run 1 15 (ls) (vI z :: st) σ = run 1 17 (ls) (vR (nn σ + 1) :: st) (al σ 4 z.toNat) := (run_eq 1 15 _ _ σ).trans (if_pos h)
theorem e1_17 (ls st : List AV) (σ : St) (z x : Nat) (h : fok σ x 0) (h2 : 1 ≤ z) : run 1 17 (ls) (vR z :: vR x :: st) σ = run 1 20 (ls) (st) (rr σ x (ru (gr σ x) 7 z)) := (run_eq 1 17 _ _ σ).trans (if_pos ⟨h, h2⟩)
theorem e1_20 (l st : List AV) (σ : St) (x : Nat) : run 1 20 (vR x :: l) (st) σ = run 1 21 (vR x :: l) (vR x :: st) σ := (run_eq 1 20 _ _ σ).trans rfl
theorem e1_21 (ls st : List AV) (σ : St) : run 1 21 (ls) (st) σ = run 1 23 (ls) (vI 24 :: st) σ := (run_eq 1 21 _ _ σ).trans rfl
theorem e1_23 (ls st : List AV) (σ : St) (z : Int) (h : 0 ≤ z ∧ z ≤ 1000) : run 1 23 (ls) (vI z :: st) σ = run 1 25 (ls) (vR (nn σ + 1) :: st) (al σ 4 z.toNat) := (run_eq 1 23 _ _ σ).trans (if_pos h)
theorem e1_25 (ls st : List AV) (σ : St) (z x : Nat) (h : fok σ x 0) (h2 : 1 ≤ z) : run 1 25 (ls) (vR z :: vR x :: st) σ = run 1 28 (ls) (st) (rr σ x (ru (gr σ x) 8 z)) := (run_eq 1 25 _ _ σ).trans (if_pos ⟨h, h2⟩)
theorem e1_28 (l st : List AV) (σ : St) (x : Nat) : run 1 28 (vR x :: l) (st) σ = run 1 29 (vR x :: l) (vR x :: st) σ := (run_eq 1 28 _ _ σ).trans rfl
theorem e1_29 (ls st : List AV) (σ : St) : run 1 29 (ls) (st) σ = run 1 31 (ls) (vI 24 :: st) σ := (run_eq 1 29 _ _ σ).trans rfl
theorem e1_31 (ls st : List AV) (σ : St) (z : Int) (h : 0 ≤ z ∧ z ≤ 1000) : run 1 31 (ls) (vI z :: st) σ = run 1 33 (ls) (vR (nn σ + 1) :: st) (al σ 4 z.toNat) := (run_eq 1 31 _ _ σ).trans (if_pos h)
theorem e1_33 (ls st : List AV) (σ : St) (z x : Nat) (h : fok σ x 0) (h2 : 1 ≤ z) : run 1 33 (ls) (vR z :: vR x :: st) σ = run 1 36 (ls) (st) (rr σ x (ru (gr σ x) 9 z)) := (run_eq 1 33 _ _ σ).trans (if_pos ⟨h, h2⟩)
theorem e1_36 (l st : List AV) (σ : St) (x : Nat) : run 1 36 (vR x :: l) (st) σ = run 1 37 (vR x :: l) (vR x :: st) σ := (run_eq 1 36 _ _ σ).trans rfl
theorem e1_37 (ls st : List AV) (σ : St) : run 1 37 (ls) (st) σ = run 1 39 (ls) (vI 96 :: st) σ := (run_eq 1 37 _ _ σ).trans rfl
theorem e1_39 (ls st : List AV) (σ : St) (z : Int) (h : 0 ≤ z ∧ z ≤ 1000) : run 1 39 (ls) (vI z :: st) σ = run 1 41 (ls) (vR (nn σ + 1) :: st) (al σ 4 z.toNat) := (run_eq 1 39 _ _ σ).trans (if_pos h)
theorem e1_41 (ls st : List AV) (σ : St) (z x : Nat) (h : fok σ x 0) (h2 : 1 ≤ z) : run 1 41 (ls) (vR z :: vR x :: st) σ = run 1 44 (ls) (st) (rr σ x (ru (gr σ x) 10 z)) := (run_eq 1 41 _ _ σ).trans (if_pos ⟨h, h2⟩)
theorem e1_44 (l st : List AV) (σ : St) (x : Nat) : run 1 44 (vR x :: l) (st) σ = run 1 45 (vR x :: l) (vR x :: st) σ := (run_eq 1 44 _ _ σ).trans rfl
theorem e1_45 (ls st : List AV) (σ : St) : run 1 45 (ls) (st) σ = run 1 47 (ls) (vI 8 :: st) σ := (run_eq 1 45 _ _ σ).trans rfl
theorem e1_47 (ls st : List AV) (σ : St) (z : Int) (h : 0 ≤ z ∧ z ≤ 1000) : run 1 47 (ls) (vI z :: st) σ = run 1 49 (ls) (vR (nn σ + 1) :: st) (al σ 4 z.toNat) := (run_eq 1 47 _ _ σ).trans (if_pos h)
theorem e1_49 (ls st : List AV) (σ : St) (z x : Nat) (h : fok σ x 0) (h2 : 1 ≤ z) : run 1 49 (ls) (vR z :: vR x :: st) σ = run 1 52 (ls) (st) (rr σ x (ru (gr σ x) 11 z)) := (run_eq 1 49 _ _ σ).trans (if_pos ⟨h, h2⟩)
theorem e1_52 (l st : List AV) (σ : St) (x : Nat) : run 1 52 (vR x :: l) (st) σ = run 1 53 (vR x :: l) (vR x :: st) σ := (run_eq 1 52 _ _ σ).trans rfl
theorem e1_53 (ls st : List AV) (σ : St) : run 1 53 (ls) (st) σ = run 1 55 (ls) (vI 8 :: st) σ := (run_eq 1 53 _ _ σ).trans rfl
theorem e1_55 (ls st : List AV) (σ : St) (z : Int) (h : 0 ≤ z ∧ z ≤ 1000) : run 1 55 (ls) (vI z :: st) σ = run 1 57 (ls) (vR (nn σ + 1) :: st) (al σ 4 z.toNat) := (run_eq 1 55 _ _ σ).trans (if_pos h)
theorem e1_57 (ls st : List AV) (σ : St) (z x : Nat) (h : fok σ x 0) (h2 : 1 ≤ z) : run 1 57 (ls) (vR z :: vR x :: st) σ = run 1 60 (ls) (st) (rr σ x (ru (gr σ x) 12 z)) := (run_eq 1 57 _ _ σ).trans (if_pos ⟨h, h2⟩)
theorem e1_60 (l st : List AV) (σ : St) (x : Nat) : run 1 60 (vR x :: l) (st) σ = run 1 61 (vR x :: l) (vR x :: st) σ := (run_eq 1 60 _ _ σ).trans rfl
theorem e1_61 (ls st : List AV) (σ : St) : run 1 61 (ls) (st) σ = run 1 62 (ls) (vI 3 :: st) σ := (run_eq 1 61 _ _ σ).trans rfl
theorem e1_62 (ls st : List AV) (σ : St) : run 1 62 (ls) (st) σ = run 1 63 (ls) (vI 4 :: st) σ := (run_eq 1 62 _ _ σ).trans rfl
theorem e1_63 (ls st : List AV) (σ : St) (x0 : Nat) (x1 : Int) (x2 : Int) (h4 : st.length ≤ 4) (h : fok σ x0 0) : run 1 63 ls (vI x2 :: vI x1 :: vR x0 :: st) σ = bnd (run 2 0 [vR x0, vI x1, vI x2] [] σ) (fun r σ => run 1 66 ls (psh r st) σ) := (run_eq 1 63 _ _ σ).trans (if_pos ⟨rfl, by simp, by simpa using h4, rfl, h⟩)
theorem e1_66 (ls : List AV) (σ : St) : run 1 66 ls [] σ = some (vU, σ) := (run_eq 1 66 _ _ σ).trans rfl
/-! B_clear -/
theorem e2_0 (l st : List AV) (σ : St) (x : Nat) : run 2 0 (vR x :: l) (st) σ = run 2 1 (vR x :: l) (vR x :: st) σ := (run_eq 2 0 _ _ σ).trans rfl
theorem e2_1 (a0 : AV) (l st : List AV) (σ : St) (x : Int) : run 2 1 (a0 :: vI x :: l) (st) σ = run 2 2 (a0 :: vI x :: l) (vI x :: st) σ := (run_eq 2 1 _ _ σ).trans rfl
theorem e2_2 (ls st : List AV) (σ : St) (z : Int) (x : Nat) (h : fok σ x 0) : run 2 2 (ls) (vI z :: vR x :: st) σ = run 2 5 (ls) (st) (sr σ x (ru (gt σ x) 0 z)) := (run_eq 2 2 _ _ σ).trans (if_pos h)
theorem e2_5 (l st : List AV) (σ : St) (x : Nat) : run 2 5 (vR x :: l) (st) σ = run 2 6 (vR x :: l) (vR x :: st) σ := (run_eq 2 5 _ _ σ).trans rfl
theorem e2_6 (a0 a1 : AV) (l st : List AV) (σ : St) (x : Int) : run 2 6 (a0 :: a1 :: vI x :: l) (st) σ = run 2 7 (a0 :: a1 :: vI x :: l) (vI x :: st) σ := (run_eq 2 6 _ _ σ).trans rfl
theorem e2_7 (ls st : List AV) (σ : St) (z : Int) (x : Nat) (h : fok σ x 0) : run 2 7 (ls) (vI z :: vR x :: st) σ = run 2 10 (ls) (st) (sr σ x (ru (gt σ x) 1 z)) := (run_eq 2 7 _ _ σ).trans (if_pos h)
theorem e2_10 (l st : List AV) (σ : St) (x : Nat) : run 2 10 (vR x :: l) (st) σ = run 2 11 (vR x :: l) (vR x :: st) σ := (run_eq 2 10 _ _ σ).trans rfl
theorem e2_11 (a0 : AV) (l st : List AV) (σ : St) (x : Int) : run 2 11 (a0 :: vI x :: l) (st) σ = run 2 12 (a0 :: vI x :: l) (vI x :: st) σ := (run_eq 2 11 _ _ σ).trans rfl
theorem e2_12 (a0 a1 : AV) (l st : List AV) (σ : St) (x : Int) : run 2 12 (a0 :: a1 :: vI x :: l) (st) σ = run 2 13 (a0 :: a1 :: vI x :: l) (vI x :: st) σ := (run_eq 2 12 _ _ σ).trans rfl
theorem e2_13 (ls st : List AV) (σ : St) (y x : Int) : run 2 13 (ls) (vI y :: vI x :: st) σ = run 2 14 (ls) (vI (wr (x * y)) :: st) σ := (run_eq 2 13 _ _ σ).trans rfl
theorem e2_14 (ls st : List AV) (σ : St) (z : Int) (x : Nat) (h : fok σ x 0) : run 2 14 (ls) (vI z :: vR x :: st) σ = run 2 17 (ls) (st) (sr σ x (ru (gt σ x) 2 z)) := (run_eq 2 14 _ _ σ).trans (if_pos h)
theorem e2_17 (l st : List AV) (σ : St) (x : Nat) : run 2 17 (vR x :: l) (st) σ = run 2 18 (vR x :: l) (vR x :: st) σ := (run_eq 2 17 _ _ σ).trans rfl
theorem e2_18 (ls st : List AV) (σ : St) : run 2 18 (ls) (st) σ = run 2 19 (ls) (vI 2 :: st) σ := (run_eq 2 18 _ _ σ).trans rfl
theorem e2_19 (ls st : List AV) (σ : St) (z : Int) (x : Nat) (h : fok σ x 0) : run 2 19 (ls) (vI z :: vR x :: st) σ = run 2 22 (ls) (st) (sr σ x (ru (gt σ x) 3 z)) := (run_eq 2 19 _ _ σ).trans (if_pos h)
theorem e2_22 (l st : List AV) (σ : St) (x : Nat) : run 2 22 (vR x :: l) (st) σ = run 2 23 (vR x :: l) (vR x :: st) σ := (run_eq 2 22 _ _ σ).trans rfl
theorem e2_23 (ls st : List AV) (σ : St) : run 2 23 (ls) (st) σ = run 2 24 (ls) (vI 1 :: st) σ := (run_eq 2 23 _ _ σ).trans rfl
theorem e2_24 (ls st : List AV) (σ : St) (z : Int) (x : Nat) (h : fok σ x 0) : run 2 24 (ls) (vI z :: vR x :: st) σ = run 2 27 (ls) (st) (sr σ x (ru (gt σ x) 4 z)) := (run_eq 2 24 _ _ σ).trans (if_pos h)
theorem e2_27 (l st : List AV) (σ : St) (x : Nat) : run 2 27 (vR x :: l) (st) σ = run 2 28 (vR x :: l) (vR x :: st) σ := (run_eq 2 27 _ _ σ).trans rfl
theorem e2_28 (ls st : List AV) (σ : St) : run 2 28 (ls) (st) σ = run 2 29 (ls) (vI 0 :: st) σ := (run_eq 2 28 _ _ σ).trans rfl
theorem e2_29 (ls st : List AV) (σ : St) (z : Int) (x : Nat) (h : fok σ x 0) : run 2 29 (ls) (vI z :: vR x :: st) σ = run 2 32 (ls) (st) (sr σ x (ru (gt σ x) 5 z)) := (run_eq 2 29 _ _ σ).trans (if_pos h)
theorem e2_32 (l st : List AV) (σ : St) (x : Nat) : run 2 32 (vR x :: l) (st) σ = run 2 33 (vR x :: l) (vR x :: st) σ := (run_eq 2 32 _ _ σ).trans rfl
theorem e2_33 (ls st : List AV) (σ : St) (x : Nat) (h : fok σ x 0) : run 2 33 (ls) (vR x :: st) σ = run 2 36 (ls) (vR (gr σ x 6) :: st) σ := (run_eq 2 33 _ _ σ).trans (if_pos h)
theorem e2_36 (ls st : List AV) (σ : St) : run 2 36 (ls) (st) σ = run 2 37 (ls) (vI 0 :: st) σ := (run_eq 2 36 _ _ σ).trans rfl
theorem e2_37 (ls st : List AV) (σ : St) (x0 : Nat) (x1 : Int) (h4 : st.length ≤ 4) : run 2 37 ls (vI x1 :: vR x0 :: st) σ = bnd (run 3 0 [vR x0, vI x1, vU] [] σ) (fun r σ => run 2 40 ls (psh r st) σ) := (run_eq 2 37 _ _ σ).trans (if_pos ⟨rfl, by simp, by simpa using h4⟩)
theorem e2_40 (l st : List AV) (σ : St) (x : Nat) : run 2 40 (vR x :: l) (st) σ = run 2 41 (vR x :: l) (vR x :: st) σ := (run_eq 2 40 _ _ σ).trans rfl
theorem e2_41 (ls st : List AV) (σ : St) (x : Nat) (h : fok σ x 0) : run 2 41 (ls) (vR x :: st) σ = run 2 44 (ls) (vR (gr σ x 7) :: st) σ := (run_eq 2 41 _ _ σ).trans (if_pos h)
theorem e2_44 (ls st : List AV) (σ : St) : run 2 44 (ls) (st) σ = run 2 45 (ls) (vI 0 :: st) σ := (run_eq 2 44 _ _ σ).trans rfl
theorem e2_45 (ls st : List AV) (σ : St) (x0 : Nat) (x1 : Int) (h4 : st.length ≤ 4) : run 2 45 ls (vI x1 :: vR x0 :: st) σ = bnd (run 3 0 [vR x0, vI x1, vU] [] σ) (fun r σ => run 2 48 ls (psh r st) σ) := (run_eq 2 45 _ _ σ).trans (if_pos ⟨rfl, by simp, by simpa using h4⟩)
theorem e2_48 (l st : List AV) (σ : St) (x : Nat) : run 2 48 (vR x :: l) (st) σ = run 2 49 (vR x :: l) (vR x :: st) σ := (run_eq 2 48 _ _ σ).trans rfl
theorem e2_49 (ls st : List AV) (σ : St) (x : Nat) (h : fok σ x 0) : run 2 49 (ls) (vR x :: st) σ = run 2 52 (ls) (vR (gr σ x 8) :: st) σ := (run_eq 2 49 _ _ σ).trans (if_pos h)
theorem e2_52 (ls st : List AV) (σ : St) : run 2 52 (ls) (st) σ = run 2 53 (ls) (vI 0 :: st) σ := (run_eq 2 52 _ _ σ).trans rfl
theorem e2_53 (ls st : List AV) (σ : St) (x0 : Nat) (x1 : Int) (h4 : st.length ≤ 4) : run 2 53 ls (vI x1 :: vR x0 :: st) σ = bnd (run 3 0 [vR x0, vI x1, vU] [] σ) (fun r σ => run 2 56 ls (psh r st) σ) := (run_eq 2 53 _ _ σ).trans (if_pos ⟨rfl, by simp, by simpa using h4⟩)
theorem e2_56 (l st : List AV) (σ : St) (x : Nat) : run 2 56 (vR x :: l) (st) σ = run 2 57 (vR x :: l) (vR x :: st) σ := (run_eq 2 56 _ _ σ).trans rfl
theorem e2_57 (ls st : List AV) (σ : St) (x : Nat) (h : fok σ x 0) : run 2 57 (ls) (vR x :: st) σ = run 2 60 (ls) (vR (gr σ x 10) :: st) σ := (run_eq 2 57 _ _ σ).trans (if_pos h)
theorem e2_60 (ls st : List AV) (σ : St) : run 2 60 (ls) (st) σ = run 2 61 (ls) (vI (-1) :: st) σ := (run_eq 2 60 _ _ σ).trans rfl
theorem e2_61 (ls st : List AV) (σ : St) (x0 : Nat) (x1 : Int) (h4 : st.length ≤ 4) : run 2 61 ls (vI x1 :: vR x0 :: st) σ = bnd (run 3 0 [vR x0, vI x1, vU] [] σ) (fun r σ => run 2 64 ls (psh r st) σ) := (run_eq 2 61 _ _ σ).trans (if_pos ⟨rfl, by simp, by simpa using h4⟩)
theorem e2_64 (ls : List AV) (σ : St) : run 2 64 ls [] σ = some (vU, σ) := (run_eq 2 64 _ _ σ).trans rfl
/-! N_init -/
theorem e4_0 (l st : List AV) (σ : St) (x : Nat) : run 4 0 (vR x :: l) (st) σ = run 4 1 (vR x :: l) (vR x :: st) σ := (run_eq 4 0 _ _ σ).trans rfl
theorem e4_1 (ls st : List AV) (σ : St) (x : Nat) (h : 1 ≤ x) (h4 : st.length ≤ 4) : run 4 1 (ls) (vR x :: st) σ = run 4 4 (ls) (st) σ := (run_eq 4 1 _ _ σ).trans (if_pos ⟨h, h4⟩)
theorem e4_4 (l st : List AV) (σ : St) (x : Nat) : run 4 4 (vR x :: l) (st) σ = run 4 5 (vR x :: l) (vR x :: st) σ := (run_eq 4 4 _ _ σ).trans rfl
theorem e4_5 (ls st : List AV) (σ : St) : run 4 5 (ls) (st) σ = run 4 7 (ls) (vI 60 :: st) σ := (run_eq 4 5 _ _ σ).trans rfl
theorem e4_7 (ls st : List AV) (σ : St) (z : Int) (h : 0 ≤ z ∧ z ≤ 1000) : run 4 7 (ls) (vI z :: st) σ = run 4 9 (ls) (vR (nn σ + 1) :: st) (al σ 4 z.toNat) := (run_eq 4 7 _ _ σ).trans (if_pos h)
theorem e4_9 (ls st : List AV) (σ : St) (z x : Nat) (h : fok σ x 1) (h2 : 1 ≤ z) : run 4 9 (ls) (vR z :: vR x :: st) σ = run 4 12 (ls) (st) (rr σ x (ru (gr σ x) 0 z)) := (run_eq 4 9 _ _ σ).trans (if_pos ⟨h, h2⟩)
theorem e4_12 (ls : List AV) (σ : St) : run 4 12 ls [] σ = some (vU, σ) := (run_eq 4 12 _ _ σ).trans rfl
/-! B_has -/
theorem e8_0 (a0 : AV) (l st : List AV) (σ : St) (x : Int) : run 8 0 (a0 :: vI x :: l) (st) σ = run 8 1 (a0 :: vI x :: l) (vI x :: st) σ := (run_eq 8 0 _ _ σ).trans rfl
theorem e8_1 (ls st : List AV) (σ : St) (x : Int) : run 8 1 (ls) (vI x :: st) σ = if x < 0 then run 8 16 (ls) (st) σ else run 8 4 (ls) (st) σ := (run_eq 8 1 _ _ σ).trans rfl
theorem e8_4 (a0 : AV) (l st : List AV) (σ : St) (x : Int) : run 8 4 (a0 :: vI x :: l) (st) σ = run 8 5 (a0 :: vI x :: l) (vI x :: st) σ := (run_eq 8 4 _ _ σ).trans rfl
theorem e8_5 (l st : List AV) (σ : St) (x : Nat) : run 8 5 (vR x :: l) (st) σ = run 8 6 (vR x :: l) (vR x :: st) σ := (run_eq 8 5 _ _ σ).trans rfl
theorem e8_6 (ls st : List AV) (σ : St) (x : Nat) (h : fok σ x 0) : run 8 6 (ls) (vR x :: st) σ = run 8 9 (ls) (vI (gt σ x 2) :: st) σ := (run_eq 8 6 _ _ σ).trans (if_pos h)
theorem e8_9 (ls st : List AV) (σ : St) (y x : Int) : run 8 9 (ls) (vI y :: vI x :: st) σ = if x < y then run 8 12 (ls) (st) σ else run 8 16 (ls) (st) σ := (run_eq 8 9 _ _ σ).trans rfl
theorem e8_12 (ls st : List AV) (σ : St) : run 8 12 (ls) (st) σ = run 8 13 (ls) (vI 1 :: st) σ := (run_eq 8 12 _ _ σ).trans rfl
theorem e8_13 (ls st : List AV) (σ : St) : run 8 13 (ls) (st) σ = run 8 17 (ls) (st) σ := (run_eq 8 13 _ _ σ).trans rfl
theorem e8_16 (ls st : List AV) (σ : St) : run 8 16 (ls) (st) σ = run 8 17 (ls) (vI 0 :: st) σ := (run_eq 8 16 _ _ σ).trans rfl
theorem e8_17 (ls : List AV) (σ : St) (x : Int) (h : x = 0 ∨ x = 1) : run 8 17 ls [vI x] σ = some (vI x, σ) := (run_eq 8 17 _ _ σ).trans (if_pos h)
/-! B_tell -/
theorem e9_0 (a0 a1 : AV) (l st : List AV) (σ : St) (x : Int) : run 9 0 (a0 :: a1 :: vI x :: l) (st) σ = run 9 1 (a0 :: a1 :: vI x :: l) (vI x :: st) σ := (run_eq 9 0 _ _ σ).trans rfl
theorem e9_1 (ls st : List AV) (σ : St) (x : Int) : run 9 1 (ls) (vI x :: st) σ = if x = 0 then run 9 4 (ls) (st) σ else run 9 15 (ls) (st) σ := (run_eq 9 1 _ _ σ).trans rfl
theorem e9_4 (l st : List AV) (σ : St) (x : Nat) : run 9 4 (vR x :: l) (st) σ = run 9 5 (vR x :: l) (vR x :: st) σ := (run_eq 9 4 _ _ σ).trans rfl
theorem e9_5 (ls st : List AV) (σ : St) (x : Nat) (h : fok σ x 0) : run 9 5 (ls) (vR x :: st) σ = run 9 8 (ls) (vR (gr σ x 6) :: st) σ := (run_eq 9 5 _ _ σ).trans (if_pos h)
theorem e9_8 (a0 : AV) (l st : List AV) (σ : St) (x : Int) : run 9 8 (a0 :: vI x :: l) (st) σ = run 9 9 (a0 :: vI x :: l) (vI x :: st) σ := (run_eq 9 8 _ _ σ).trans rfl
theorem e9_9 (ls st : List AV) (σ : St) (x0 : Nat) (x1 : Int) (h4 : st.length ≤ 4) : run 9 9 ls (vI x1 :: vR x0 :: st) σ = bnd (run 10 0 [vR x0, vI x1] [] σ) (fun r σ => run 9 12 ls (psh r st) σ) := (run_eq 9 9 _ _ σ).trans (if_pos ⟨rfl, by simp, by simpa using h4⟩)
theorem e9_12 (ls st : List AV) (σ : St) : run 9 12 (ls) (st) σ = run 9 23 (ls) (st) σ := (run_eq 9 12 _ _ σ).trans rfl
theorem e9_15 (l st : List AV) (σ : St) (x : Nat) : run 9 15 (vR x :: l) (st) σ = run 9 16 (vR x :: l) (vR x :: st) σ := (run_eq 9 15 _ _ σ).trans rfl
theorem e9_16 (ls st : List AV) (σ : St) (x : Nat) (h : fok σ x 0) : run 9 16 (ls) (vR x :: st) σ = run 9 19 (ls) (vR (gr σ x 7) :: st) σ := (run_eq 9 16 _ _ σ).trans (if_pos h)
theorem e9_19 (a0 : AV) (l st : List AV) (σ : St) (x : Int) : run 9 19 (a0 :: vI x :: l) (st) σ = run 9 20 (a0 :: vI x :: l) (vI x :: st) σ := (run_eq 9 19 _ _ σ).trans rfl
theorem e9_20 (ls st : List AV) (σ : St) (x0 : Nat) (x1 : Int) (h4 : st.length ≤ 4) : run 9 20 ls (vI x1 :: vR x0 :: st) σ = bnd (run 10 0 [vR x0, vI x1] [] σ) (fun r σ => run 9 23 ls (psh r st) σ) := (run_eq 9 20 _ _ σ).trans (if_pos ⟨rfl, by simp, by simpa using h4⟩)
theorem e9_23 (ls : List AV) (σ : St) (x : Int) : run 9 23 ls [vI x] σ = some (vI x, σ) := (run_eq 9 23 _ _ σ).trans rfl
/-! B_light -/
theorem e12_0 (l st : List AV) (σ : St) (x : Nat) : run 12 0 (vR x :: l) (st) σ = run 12 1 (vR x :: l) (vR x :: st) σ := (run_eq 12 0 _ _ σ).trans rfl
theorem e12_1 (ls st : List AV) (σ : St) (x : Nat) (h : fok σ x 0) : run 12 1 (ls) (vR x :: st) σ = run 12 4 (ls) (vR (gr σ x 7) :: st) σ := (run_eq 12 1 _ _ σ).trans (if_pos h)
theorem e12_4 (a0 : AV) (l st : List AV) (σ : St) (x : Int) : run 12 4 (a0 :: vI x :: l) (st) σ = run 12 5 (a0 :: vI x :: l) (vI x :: st) σ := (run_eq 12 4 _ _ σ).trans rfl
theorem e12_5 (a0 a1 : AV) (l st : List AV) (σ : St) (x : Int) : run 12 5 (a0 :: a1 :: vI x :: l) (st) σ = run 12 6 (a0 :: a1 :: vI x :: l) (vI x :: st) σ := (run_eq 12 5 _ _ σ).trans rfl
theorem e12_6 (ls st : List AV) (σ : St) (x0 : Nat) (x1 : Int) (x2 : Int) (h4 : st.length ≤ 4) : run 12 6 ls (vI x2 :: vI x1 :: vR x0 :: st) σ = bnd (run 11 0 [vR x0, vI x1, vI x2] [] σ) (fun r σ => run 12 9 ls (psh r st) σ) := (run_eq 12 6 _ _ σ).trans (if_pos ⟨rfl, by simp, by simpa using h4⟩)
theorem e12_9 (l st : List AV) (σ : St) (x : Nat) : run 12 9 (vR x :: l) (st) σ = run 12 10 (vR x :: l) (vR x :: st) σ := (run_eq 12 9 _ _ σ).trans rfl
theorem e12_10 (ls st : List AV) (σ : St) (x0 : Nat) (h4 : st.length ≤ 4) (h : fok σ x0 0) : run 12 10 ls (vR x0 :: st) σ = bnd (run 13 0 [vR x0, vU, vU, vU, vU] [] σ) (fun r σ => run 12 13 ls (psh r st) σ) := (run_eq 12 10 _ _ σ).trans (if_pos ⟨rfl, by simp, by simpa using h4, rfl, h⟩)
theorem e12_13 (ls : List AV) (σ : St) : run 12 13 ls [] σ = some (vU, σ) := (run_eq 12 13 _ _ σ).trans rfl
/-! B_warm -/
theorem e13_0 (ls st : List AV) (σ : St) : run 13 0 (ls) (st) σ = run 13 1 (ls) (vI 0 :: st) σ := (run_eq 13 0 _ _ σ).trans rfl
theorem e13_1 (a0 : AV) (l st : List AV) (σ : St) (q : AV) (x : Int) : run 13 1 (a0 :: q :: l) (vI x :: st) σ = run 13 2 (a0 :: vI x :: l) (st) σ := (run_eq 13 1 _ _ σ).trans rfl
theorem e13_2 (a0 : AV) (l st : List AV) (σ : St) (x : Int) : run 13 2 (a0 :: vI x :: l) (st) σ = run 13 3 (a0 :: vI x :: l) (vI x :: st) σ := (run_eq 13 2 _ _ σ).trans rfl
theorem e13_3 (l st : List AV) (σ : St) (x : Nat) : run 13 3 (vR x :: l) (st) σ = run 13 4 (vR x :: l) (vR x :: st) σ := (run_eq 13 3 _ _ σ).trans rfl
theorem e13_4 (ls st : List AV) (σ : St) (x : Nat) (h : fok σ x 0) : run 13 4 (ls) (vR x :: st) σ = run 13 7 (ls) (vI (gt σ x 0) :: st) σ := (run_eq 13 4 _ _ σ).trans (if_pos h)
theorem e13_7 (ls st : List AV) (σ : St) (y x : Int) : run 13 7 (ls) (vI y :: vI x :: st) σ = if x < y then run 13 10 (ls) (st) σ else run 13 136 (ls) (st) σ := (run_eq 13 7 _ _ σ).trans rfl
theorem e13_10 (ls st : List AV) (σ : St) : run 13 10 (ls) (st) σ = run 13 11 (ls) (vI 0 :: st) σ := (run_eq 13 10 _ _ σ).trans rfl
theorem e13_11 (a0 a1 : AV) (l st : List AV) (σ : St) (q : AV) (x : Int) : run 13 11 (a0 :: a1 :: q :: l) (vI x :: st) σ = run 13 12 (a0 :: a1 :: vI x :: l) (st) σ := (run_eq 13 11 _ _ σ).trans rfl
theorem e13_12 (a0 a1 : AV) (l st : List AV) (σ : St) (x : Int) : run 13 12 (a0 :: a1 :: vI x :: l) (st) σ = run 13 13 (a0 :: a1 :: vI x :: l) (vI x :: st) σ := (run_eq 13 12 _ _ σ).trans rfl
theorem e13_13 (l st : List AV) (σ : St) (x : Nat) : run 13 13 (vR x :: l) (st) σ = run 13 14 (vR x :: l) (vR x :: st) σ := (run_eq 13 13 _ _ σ).trans rfl
theorem e13_14 (ls st : List AV) (σ : St) (x : Nat) (h : fok σ x 0) : run 13 14 (ls) (vR x :: st) σ = run 13 17 (ls) (vI (gt σ x 1) :: st) σ := (run_eq 13 14 _ _ σ).trans (if_pos h)
theorem e13_17 (ls st : List AV) (σ : St) (y x : Int) : run 13 17 (ls) (vI y :: vI x :: st) σ = if x < y then run 13 20 (ls) (st) σ else run 13 130 (ls) (st) σ := (run_eq 13 17 _ _ σ).trans rfl
theorem e13_20 (a0 : AV) (l st : List AV) (σ : St) (x : Int) : run 13 20 (a0 :: vI x :: l) (st) σ = run 13 21 (a0 :: vI x :: l) (vI x :: st) σ := (run_eq 13 20 _ _ σ).trans rfl
theorem e13_21 (l st : List AV) (σ : St) (x : Nat) : run 13 21 (vR x :: l) (st) σ = run 13 22 (vR x :: l) (vR x :: st) σ := (run_eq 13 21 _ _ σ).trans rfl
theorem e13_22 (ls st : List AV) (σ : St) (x : Nat) (h : fok σ x 0) : run 13 22 (ls) (vR x :: st) σ = run 13 25 (ls) (vI (gt σ x 1) :: st) σ := (run_eq 13 22 _ _ σ).trans (if_pos h)
theorem e13_25 (ls st : List AV) (σ : St) (y x : Int) : run 13 25 (ls) (vI y :: vI x :: st) σ = run 13 26 (ls) (vI (wr (x * y)) :: st) σ := (run_eq 13 25 _ _ σ).trans rfl
theorem e13_26 (a0 a1 : AV) (l st : List AV) (σ : St) (x : Int) : run 13 26 (a0 :: a1 :: vI x :: l) (st) σ = run 13 27 (a0 :: a1 :: vI x :: l) (vI x :: st) σ := (run_eq 13 26 _ _ σ).trans rfl
theorem e13_27 (ls st : List AV) (σ : St) (y x : Int) : run 13 27 (ls) (vI y :: vI x :: st) σ = run 13 28 (ls) (vI (wr (x + y)) :: st) σ := (run_eq 13 27 _ _ σ).trans rfl
theorem e13_28 (a0 a1 a2 : AV) (l st : List AV) (σ : St) (q : AV) (x : Int) : run 13 28 (a0 :: a1 :: a2 :: q :: l) (vI x :: st) σ = run 13 29 (a0 :: a1 :: a2 :: vI x :: l) (st) σ := (run_eq 13 28 _ _ σ).trans rfl
theorem e13_29 (l st : List AV) (σ : St) (x : Nat) : run 13 29 (vR x :: l) (st) σ = run 13 30 (vR x :: l) (vR x :: st) σ := (run_eq 13 29 _ _ σ).trans rfl
theorem e13_30 (ls st : List AV) (σ : St) (x : Nat) (h : fok σ x 0) : run 13 30 (ls) (vR x :: st) σ = run 13 33 (ls) (vR (gr σ x 7) :: st) σ := (run_eq 13 30 _ _ σ).trans (if_pos h)
theorem e13_33 (l st : List AV) (σ : St) (x : Nat) : run 13 33 (vR x :: l) (st) σ = run 13 34 (vR x :: l) (vR x :: st) σ := (run_eq 13 33 _ _ σ).trans rfl
theorem e13_34 (a0 : AV) (l st : List AV) (σ : St) (x : Int) : run 13 34 (a0 :: vI x :: l) (st) σ = run 13 35 (a0 :: vI x :: l) (vI x :: st) σ := (run_eq 13 34 _ _ σ).trans rfl
theorem e13_35 (ls st : List AV) (σ : St) : run 13 35 (ls) (st) σ = run 13 36 (ls) (vI 1 :: st) σ := (run_eq 13 35 _ _ σ).trans rfl
theorem e13_36 (ls st : List AV) (σ : St) (y x : Int) : run 13 36 (ls) (vI y :: vI x :: st) σ = run 13 37 (ls) (vI (wr (x - y)) :: st) σ := (run_eq 13 36 _ _ σ).trans rfl
theorem e13_37 (a0 a1 : AV) (l st : List AV) (σ : St) (x : Int) : run 13 37 (a0 :: a1 :: vI x :: l) (st) σ = run 13 38 (a0 :: a1 :: vI x :: l) (vI x :: st) σ := (run_eq 13 37 _ _ σ).trans rfl
theorem e13_38 (ls st : List AV) (σ : St) (x0 : Nat) (x1 : Int) (x2 : Int) (h4 : st.length ≤ 4) (h : fok σ x0 0) : run 13 38 ls (vI x2 :: vI x1 :: vR x0 :: st) σ = bnd (run 14 0 [vR x0, vI x1, vI x2, vU] [] σ) (fun r σ => run 13 41 ls (psh r st) σ) := (run_eq 13 38 _ _ σ).trans (if_pos ⟨rfl, by simp, by simpa using h4, rfl, h⟩)
theorem e13_41 (ls st : List AV) (σ : St) (x0 : Nat) (x1 : Int) (h4 : st.length ≤ 4) : run 13 41 ls (vI x1 :: vR x0 :: st) σ = bnd (run 10 0 [vR x0, vI x1] [] σ) (fun r σ => run 13 44 ls (psh r st) σ) := (run_eq 13 41 _ _ σ).trans (if_pos ⟨rfl, by simp, by simpa using h4⟩)
theorem e13_44 (l st : List AV) (σ : St) (x : Nat) : run 13 44 (vR x :: l) (st) σ = run 13 45 (vR x :: l) (vR x :: st) σ := (run_eq 13 44 _ _ σ).trans rfl
theorem e13_45 (ls st : List AV) (σ : St) (x : Nat) (h : fok σ x 0) : run 13 45 (ls) (vR x :: st) σ = run 13 48 (ls) (vR (gr σ x 7) :: st) σ := (run_eq 13 45 _ _ σ).trans (if_pos h)
theorem e13_48 (l st : List AV) (σ : St) (x : Nat) : run 13 48 (vR x :: l) (st) σ = run 13 49 (vR x :: l) (vR x :: st) σ := (run_eq 13 48 _ _ σ).trans rfl
theorem e13_49 (a0 : AV) (l st : List AV) (σ : St) (x : Int) : run 13 49 (a0 :: vI x :: l) (st) σ = run 13 50 (a0 :: vI x :: l) (vI x :: st) σ := (run_eq 13 49 _ _ σ).trans rfl
theorem e13_50 (ls st : List AV) (σ : St) : run 13 50 (ls) (st) σ = run 13 51 (ls) (vI 1 :: st) σ := (run_eq 13 50 _ _ σ).trans rfl
theorem e13_51 (ls st : List AV) (σ : St) (y x : Int) : run 13 51 (ls) (vI y :: vI x :: st) σ = run 13 52 (ls) (vI (wr (x + y)) :: st) σ := (run_eq 13 51 _ _ σ).trans rfl
theorem e13_52 (a0 a1 : AV) (l st : List AV) (σ : St) (x : Int) : run 13 52 (a0 :: a1 :: vI x :: l) (st) σ = run 13 53 (a0 :: a1 :: vI x :: l) (vI x :: st) σ := (run_eq 13 52 _ _ σ).trans rfl
theorem e13_53 (ls st : List AV) (σ : St) (x0 : Nat) (x1 : Int) (x2 : Int) (h4 : st.length ≤ 4) (h : fok σ x0 0) : run 13 53 ls (vI x2 :: vI x1 :: vR x0 :: st) σ = bnd (run 14 0 [vR x0, vI x1, vI x2, vU] [] σ) (fun r σ => run 13 56 ls (psh r st) σ) := (run_eq 13 53 _ _ σ).trans (if_pos ⟨rfl, by simp, by simpa using h4, rfl, h⟩)
theorem e13_56 (ls st : List AV) (σ : St) (x0 : Nat) (x1 : Int) (h4 : st.length ≤ 4) : run 13 56 ls (vI x1 :: vR x0 :: st) σ = bnd (run 10 0 [vR x0, vI x1] [] σ) (fun r σ => run 13 59 ls (psh r st) σ) := (run_eq 13 56 _ _ σ).trans (if_pos ⟨rfl, by simp, by simpa using h4⟩)
theorem e13_59 (ls st : List AV) (σ : St) (y x : Int) : run 13 59 (ls) (vI y :: vI x :: st) σ = run 13 60 (ls) (vI (wr (x + y)) :: st) σ := (run_eq 13 59 _ _ σ).trans rfl
theorem e13_60 (l st : List AV) (σ : St) (x : Nat) : run 13 60 (vR x :: l) (st) σ = run 13 61 (vR x :: l) (vR x :: st) σ := (run_eq 13 60 _ _ σ).trans rfl
theorem e13_61 (ls st : List AV) (σ : St) (x : Nat) (h : fok σ x 0) : run 13 61 (ls) (vR x :: st) σ = run 13 64 (ls) (vR (gr σ x 7) :: st) σ := (run_eq 13 61 _ _ σ).trans (if_pos h)
theorem e13_64 (l st : List AV) (σ : St) (x : Nat) : run 13 64 (vR x :: l) (st) σ = run 13 65 (vR x :: l) (vR x :: st) σ := (run_eq 13 64 _ _ σ).trans rfl
theorem e13_65 (a0 : AV) (l st : List AV) (σ : St) (x : Int) : run 13 65 (a0 :: vI x :: l) (st) σ = run 13 66 (a0 :: vI x :: l) (vI x :: st) σ := (run_eq 13 65 _ _ σ).trans rfl
theorem e13_66 (a0 a1 : AV) (l st : List AV) (σ : St) (x : Int) : run 13 66 (a0 :: a1 :: vI x :: l) (st) σ = run 13 67 (a0 :: a1 :: vI x :: l) (vI x :: st) σ := (run_eq 13 66 _ _ σ).trans rfl
theorem e13_67 (ls st : List AV) (σ : St) : run 13 67 (ls) (st) σ = run 13 68 (ls) (vI 1 :: st) σ := (run_eq 13 67 _ _ σ).trans rfl
theorem e13_68 (ls st : List AV) (σ : St) (y x : Int) : run 13 68 (ls) (vI y :: vI x :: st) σ = run 13 69 (ls) (vI (wr (x - y)) :: st) σ := (run_eq 13 68 _ _ σ).trans rfl
theorem e13_69 (ls st : List AV) (σ : St) (x0 : Nat) (x1 : Int) (x2 : Int) (h4 : st.length ≤ 4) (h : fok σ x0 0) : run 13 69 ls (vI x2 :: vI x1 :: vR x0 :: st) σ = bnd (run 14 0 [vR x0, vI x1, vI x2, vU] [] σ) (fun r σ => run 13 72 ls (psh r st) σ) := (run_eq 13 69 _ _ σ).trans (if_pos ⟨rfl, by simp, by simpa using h4, rfl, h⟩)
theorem e13_72 (ls st : List AV) (σ : St) (x0 : Nat) (x1 : Int) (h4 : st.length ≤ 4) : run 13 72 ls (vI x1 :: vR x0 :: st) σ = bnd (run 10 0 [vR x0, vI x1] [] σ) (fun r σ => run 13 75 ls (psh r st) σ) := (run_eq 13 72 _ _ σ).trans (if_pos ⟨rfl, by simp, by simpa using h4⟩)
theorem e13_75 (ls st : List AV) (σ : St) (y x : Int) : run 13 75 (ls) (vI y :: vI x :: st) σ = run 13 76 (ls) (vI (wr (x + y)) :: st) σ := (run_eq 13 75 _ _ σ).trans rfl
theorem e13_76 (l st : List AV) (σ : St) (x : Nat) : run 13 76 (vR x :: l) (st) σ = run 13 77 (vR x :: l) (vR x :: st) σ := (run_eq 13 76 _ _ σ).trans rfl
theorem e13_77 (ls st : List AV) (σ : St) (x : Nat) (h : fok σ x 0) : run 13 77 (ls) (vR x :: st) σ = run 13 80 (ls) (vR (gr σ x 7) :: st) σ := (run_eq 13 77 _ _ σ).trans (if_pos h)
theorem e13_80 (l st : List AV) (σ : St) (x : Nat) : run 13 80 (vR x :: l) (st) σ = run 13 81 (vR x :: l) (vR x :: st) σ := (run_eq 13 80 _ _ σ).trans rfl
theorem e13_81 (a0 : AV) (l st : List AV) (σ : St) (x : Int) : run 13 81 (a0 :: vI x :: l) (st) σ = run 13 82 (a0 :: vI x :: l) (vI x :: st) σ := (run_eq 13 81 _ _ σ).trans rfl
theorem e13_82 (a0 a1 : AV) (l st : List AV) (σ : St) (x : Int) : run 13 82 (a0 :: a1 :: vI x :: l) (st) σ = run 13 83 (a0 :: a1 :: vI x :: l) (vI x :: st) σ := (run_eq 13 82 _ _ σ).trans rfl
theorem e13_83 (ls st : List AV) (σ : St) : run 13 83 (ls) (st) σ = run 13 84 (ls) (vI 1 :: st) σ := (run_eq 13 83 _ _ σ).trans rfl
theorem e13_84 (ls st : List AV) (σ : St) (y x : Int) : run 13 84 (ls) (vI y :: vI x :: st) σ = run 13 85 (ls) (vI (wr (x + y)) :: st) σ := (run_eq 13 84 _ _ σ).trans rfl
theorem e13_85 (ls st : List AV) (σ : St) (x0 : Nat) (x1 : Int) (x2 : Int) (h4 : st.length ≤ 4) (h : fok σ x0 0) : run 13 85 ls (vI x2 :: vI x1 :: vR x0 :: st) σ = bnd (run 14 0 [vR x0, vI x1, vI x2, vU] [] σ) (fun r σ => run 13 88 ls (psh r st) σ) := (run_eq 13 85 _ _ σ).trans (if_pos ⟨rfl, by simp, by simpa using h4, rfl, h⟩)
theorem e13_88 (ls st : List AV) (σ : St) (x0 : Nat) (x1 : Int) (h4 : st.length ≤ 4) : run 13 88 ls (vI x1 :: vR x0 :: st) σ = bnd (run 10 0 [vR x0, vI x1] [] σ) (fun r σ => run 13 91 ls (psh r st) σ) := (run_eq 13 88 _ _ σ).trans (if_pos ⟨rfl, by simp, by simpa using h4⟩)
theorem e13_91 (ls st : List AV) (σ : St) (y x : Int) : run 13 91 (ls) (vI y :: vI x :: st) σ = run 13 92 (ls) (vI (wr (x + y)) :: st) σ := (run_eq 13 91 _ _ σ).trans rfl
theorem e13_92 (a0 a1 a2 a3 : AV) (l st : List AV) (σ : St) (q : AV) (x : Int) : run 13 92 (a0 :: a1 :: a2 :: a3 :: q :: l) (vI x :: st) σ = run 13 94 (a0 :: a1 :: a2 :: a3 :: vI x :: l) (st) σ := (run_eq 13 92 _ _ σ).trans rfl
theorem e13_94 (l st : List AV) (σ : St) (x : Nat) : run 13 94 (vR x :: l) (st) σ = run 13 95 (vR x :: l) (vR x :: st) σ := (run_eq 13 94 _ _ σ).trans rfl
theorem e13_95 (ls st : List AV) (σ : St) (x : Nat) (h : fok σ x 0) : run 13 95 (ls) (vR x :: st) σ = run 13 98 (ls) (vR (gr σ x 8) :: st) σ := (run_eq 13 95 _ _ σ).trans (if_pos h)
theorem e13_98 (a0 a1 a2 : AV) (l st : List AV) (σ : St) (x : Int) : run 13 98 (a0 :: a1 :: a2 :: vI x :: l) (st) σ = run 13 99 (a0 :: a1 :: a2 :: vI x :: l) (vI x :: st) σ := (run_eq 13 98 _ _ σ).trans rfl
theorem e13_99 (l st : List AV) (σ : St) (x : Nat) : run 13 99 (vR x :: l) (st) σ = run 13 100 (vR x :: l) (vR x :: st) σ := (run_eq 13 99 _ _ σ).trans rfl
theorem e13_100 (ls st : List AV) (σ : St) (x : Nat) (h : fok σ x 0) : run 13 100 (ls) (vR x :: st) σ = run 13 103 (ls) (vR (gr σ x 7) :: st) σ := (run_eq 13 100 _ _ σ).trans (if_pos h)
theorem e13_103 (a0 a1 a2 : AV) (l st : List AV) (σ : St) (x : Int) : run 13 103 (a0 :: a1 :: a2 :: vI x :: l) (st) σ = run 13 104 (a0 :: a1 :: a2 :: vI x :: l) (vI x :: st) σ := (run_eq 13 103 _ _ σ).trans rfl
theorem e13_104 (ls st : List AV) (σ : St) (x0 : Nat) (x1 : Int) (h4 : st.length ≤ 4) : run 13 104 ls (vI x1 :: vR x0 :: st) σ = bnd (run 10 0 [vR x0, vI x1] [] σ) (fun r σ => run 13 107 ls (psh r st) σ) := (run_eq 13 104 _ _ σ).trans (if_pos ⟨rfl, by simp, by simpa using h4⟩)
theorem e13_107 (ls st : List AV) (σ : St) : run 13 107 (ls) (st) σ = run 13 108 (ls) (vI 1 :: st) σ := (run_eq 13 107 _ _ σ).trans rfl
theorem e13_108 (ls st : List AV) (σ : St) (y x : Int) : run 13 108 (ls) (vI y :: vI x :: st) σ = if x = y then run 13 111 (ls) (st) σ else run 13 115 (ls) (st) σ := (run_eq 13 108 _ _ σ).trans rfl
theorem e13_111 (ls st : List AV) (σ : St) : run 13 111 (ls) (st) σ = run 13 112 (ls) (vI 2 :: st) σ := (run_eq 13 111 _ _ σ).trans rfl
theorem e13_112 (ls st : List AV) (σ : St) : run 13 112 (ls) (st) σ = run 13 121 (ls) (st) σ := (run_eq 13 112 _ _ σ).trans rfl
theorem e13_115 (a0 a1 a2 a3 : AV) (l st : List AV) (σ : St) (x : Int) : run 13 115 (a0 :: a1 :: a2 :: a3 :: vI x :: l) (st) σ = run 13 117 (a0 :: a1 :: a2 :: a3 :: vI x :: l) (vI x :: st) σ := (run_eq 13 115 _ _ σ).trans rfl
theorem e13_117 (ls st : List AV) (σ : St) : run 13 117 (ls) (st) σ = run 13 118 (ls) (vI 1 :: st) σ := (run_eq 13 117 _ _ σ).trans rfl
theorem e13_118 (ls st : List AV) (σ : St) (y x : Int) (h4 : st.length ≤ 4) : run 13 118 (ls) (vI y :: vI x :: st) σ = run 13 121 (ls) (vI (if y < x then y else x) :: st) σ := (run_eq 13 118 _ _ σ).trans (if_pos h4)
theorem e13_121 (ls st : List AV) (σ : St) (x0 : Nat) (x1 : Int) (x2 : Int) (h4 : st.length ≤ 4) : run 13 121 ls (vI x2 :: vI x1 :: vR x0 :: st) σ = bnd (run 11 0 [vR x0, vI x1, vI x2] [] σ) (fun r σ => run 13 124 ls (psh r st) σ) := (run_eq 13 121 _ _ σ).trans (if_pos ⟨rfl, by simp, by simpa using h4⟩)
theorem e13_124 (a0 a1 : AV) (l st : List AV) (σ : St) (x : Int) : run 13 124 (a0 :: a1 :: vI x :: l) (st) σ = run 13 127 (a0 :: a1 :: vI (wr (x + 1)) :: l) (st) σ := (run_eq 13 124 _ _ σ).trans rfl
theorem e13_127 (ls st : List AV) (σ : St) : run 13 127 (ls) (st) σ = run 13 12 (ls) (st) σ := (run_eq 13 127 _ _ σ).trans rfl
theorem e13_130 (a0 : AV) (l st : List AV) (σ : St) (x : Int) : run 13 130 (a0 :: vI x :: l) (st) σ = run 13 133 (a0 :: vI (wr (x + 1)) :: l) (st) σ := (run_eq 13 130 _ _ σ).trans rfl
theorem e13_133 (ls st : List AV) (σ : St) : run 13 133 (ls) (st) σ = run 13 2 (ls) (st) σ := (run_eq 13 133 _ _ σ).trans rfl
theorem e13_136 (ls : List AV) (σ : St) : run 13 136 ls [] σ = some (vU, σ) := (run_eq 13 136 _ _ σ).trans rfl
/-! B_cellAt -/
theorem e14_0 (a0 : AV) (l st : List AV) (σ : St) (x : Int) : run 14 0 (a0 :: vI x :: l) (st) σ = run 14 1 (a0 :: vI x :: l) (vI x :: st) σ := (run_eq 14 0 _ _ σ).trans rfl
theorem e14_1 (ls st : List AV) (σ : St) (x : Int) : run 14 1 (ls) (vI x :: st) σ = if x < 0 then run 14 28 (ls) (st) σ else run 14 4 (ls) (st) σ := (run_eq 14 1 _ _ σ).trans rfl
theorem e14_4 (a0 : AV) (l st : List AV) (σ : St) (x : Int) : run 14 4 (a0 :: vI x :: l) (st) σ = run 14 5 (a0 :: vI x :: l) (vI x :: st) σ := (run_eq 14 4 _ _ σ).trans rfl
theorem e14_5 (l st : List AV) (σ : St) (x : Nat) : run 14 5 (vR x :: l) (st) σ = run 14 6 (vR x :: l) (vR x :: st) σ := (run_eq 14 5 _ _ σ).trans rfl
theorem e14_6 (ls st : List AV) (σ : St) (x : Nat) (h : fok σ x 0) : run 14 6 (ls) (vR x :: st) σ = run 14 9 (ls) (vI (gt σ x 0) :: st) σ := (run_eq 14 6 _ _ σ).trans (if_pos h)
theorem e14_9 (ls st : List AV) (σ : St) (y x : Int) : run 14 9 (ls) (vI y :: vI x :: st) σ = if x < y then run 14 12 (ls) (st) σ else run 14 28 (ls) (st) σ := (run_eq 14 9 _ _ σ).trans rfl
theorem e14_12 (a0 a1 : AV) (l st : List AV) (σ : St) (x : Int) : run 14 12 (a0 :: a1 :: vI x :: l) (st) σ = run 14 13 (a0 :: a1 :: vI x :: l) (vI x :: st) σ := (run_eq 14 12 _ _ σ).trans rfl
theorem e14_13 (ls st : List AV) (σ : St) (x : Int) : run 14 13 (ls) (vI x :: st) σ = if x < 0 then run 14 28 (ls) (st) σ else run 14 16 (ls) (st) σ := (run_eq 14 13 _ _ σ).trans rfl
theorem e14_16 (a0 a1 : AV) (l st : List AV) (σ : St) (x : Int) : run 14 16 (a0 :: a1 :: vI x :: l) (st) σ = run 14 17 (a0 :: a1 :: vI x :: l) (vI x :: st) σ := (run_eq 14 16 _ _ σ).trans rfl
theorem e14_17 (l st : List AV) (σ : St) (x : Nat) : run 14 17 (vR x :: l) (st) σ = run 14 18 (vR x :: l) (vR x :: st) σ := (run_eq 14 17 _ _ σ).trans rfl
theorem e14_18 (ls st : List AV) (σ : St) (x : Nat) (h : fok σ x 0) : run 14 18 (ls) (vR x :: st) σ = run 14 21 (ls) (vI (gt σ x 1) :: st) σ := (run_eq 14 18 _ _ σ).trans (if_pos h)
theorem e14_21 (ls st : List AV) (σ : St) (y x : Int) : run 14 21 (ls) (vI y :: vI x :: st) σ = if x < y then run 14 24 (ls) (st) σ else run 14 28 (ls) (st) σ := (run_eq 14 21 _ _ σ).trans rfl
theorem e14_24 (ls st : List AV) (σ : St) : run 14 24 (ls) (st) σ = run 14 25 (ls) (vI 1 :: st) σ := (run_eq 14 24 _ _ σ).trans rfl
theorem e14_25 (ls st : List AV) (σ : St) : run 14 25 (ls) (st) σ = run 14 29 (ls) (st) σ := (run_eq 14 25 _ _ σ).trans rfl
theorem e14_28 (ls st : List AV) (σ : St) : run 14 28 (ls) (st) σ = run 14 29 (ls) (vI 0 :: st) σ := (run_eq 14 28 _ _ σ).trans rfl
theorem e14_29 (a0 a1 a2 : AV) (l st : List AV) (σ : St) (q : AV) (x : Int) : run 14 29 (a0 :: a1 :: a2 :: q :: l) (vI x :: st) σ = run 14 30 (a0 :: a1 :: a2 :: vI x :: l) (st) σ := (run_eq 14 29 _ _ σ).trans rfl
theorem e14_30 (a0 a1 a2 : AV) (l st : List AV) (σ : St) (x : Int) : run 14 30 (a0 :: a1 :: a2 :: vI x :: l) (st) σ = run 14 31 (a0 :: a1 :: a2 :: vI x :: l) (vI x :: st) σ := (run_eq 14 30 _ _ σ).trans rfl
theorem e14_31 (ls st : List AV) (σ : St) (x : Int) : run 14 31 (ls) (vI x :: st) σ = if x = 0 then run 14 45 (ls) (st) σ else run 14 34 (ls) (st) σ := (run_eq 14 31 _ _ σ).trans rfl
theorem e14_34 (a0 : AV) (l st : List AV) (σ : St) (x : Int) : run 14 34 (a0 :: vI x :: l) (st) σ = run 14 35 (a0 :: vI x :: l) (vI x :: st) σ := (run_eq 14 34 _ _ σ).trans rfl
theorem e14_35 (l st : List AV) (σ : St) (x : Nat) : run 14 35 (vR x :: l) (st) σ = run 14 36 (vR x :: l) (vR x :: st) σ := (run_eq 14 35 _ _ σ).trans rfl
theorem e14_36 (ls st : List AV) (σ : St) (x : Nat) (h : fok σ x 0) : run 14 36 (ls) (vR x :: st) σ = run 14 39 (ls) (vI (gt σ x 1) :: st) σ := (run_eq 14 36 _ _ σ).trans (if_pos h)
theorem e14_39 (ls st : List AV) (σ : St) (y x : Int) : run 14 39 (ls) (vI y :: vI x :: st) σ = run 14 40 (ls) (vI (wr (x * y)) :: st) σ := (run_eq 14 39 _ _ σ).trans rfl
theorem e14_40 (a0 a1 : AV) (l st : List AV) (σ : St) (x : Int) : run 14 40 (a0 :: a1 :: vI x :: l) (st) σ = run 14 41 (a0 :: a1 :: vI x :: l) (vI x :: st) σ := (run_eq 14 40 _ _ σ).trans rfl
theorem e14_41 (ls st : List AV) (σ : St) (y x : Int) : run 14 41 (ls) (vI y :: vI x :: st) σ = run 14 42 (ls) (vI (wr (x + y)) :: st) σ := (run_eq 14 41 _ _ σ).trans rfl
theorem e14_42 (ls st : List AV) (σ : St) : run 14 42 (ls) (st) σ = run 14 46 (ls) (st) σ := (run_eq 14 42 _ _ σ).trans rfl
theorem e14_45 (ls st : List AV) (σ : St) : run 14 45 (ls) (st) σ = run 14 46 (ls) (vI (-1) :: st) σ := (run_eq 14 45 _ _ σ).trans rfl
theorem e14_46 (ls : List AV) (σ : St) (x : Int) : run 14 46 ls [vI x] σ = some (vI x, σ) := (run_eq 14 46 _ _ σ).trans rfl
/-! B_wishes -/
theorem e17_0 (ls st : List AV) (σ : St) : run 17 0 (ls) (st) σ = run 17 1 (ls) (vI 0 :: st) σ := (run_eq 17 0 _ _ σ).trans rfl
theorem e17_1 (a0 a1 : AV) (l st : List AV) (σ : St) (q : AV) (x : Int) : run 17 1 (a0 :: a1 :: q :: l) (vI x :: st) σ = run 17 2 (a0 :: a1 :: vI x :: l) (st) σ := (run_eq 17 1 _ _ σ).trans rfl
theorem e17_2 (ls st : List AV) (σ : St) : run 17 2 (ls) (st) σ = run 17 3 (ls) (vI 0 :: st) σ := (run_eq 17 2 _ _ σ).trans rfl
theorem e17_3 (a0 a1 a2 : AV) (l st : List AV) (σ : St) (q : AV) (x : Int) : run 17 3 (a0 :: a1 :: a2 :: q :: l) (vI x :: st) σ = run 17 4 (a0 :: a1 :: a2 :: vI x :: l) (st) σ := (run_eq 17 3 _ _ σ).trans rfl
theorem e17_4 (a0 a1 a2 : AV) (l st : List AV) (σ : St) (x : Int) : run 17 4 (a0 :: a1 :: a2 :: vI x :: l) (st) σ = run 17 5 (a0 :: a1 :: a2 :: vI x :: l) (vI x :: st) σ := (run_eq 17 4 _ _ σ).trans rfl
theorem e17_5 (l st : List AV) (σ : St) (x : Nat) : run 17 5 (vR x :: l) (st) σ = run 17 6 (vR x :: l) (vR x :: st) σ := (run_eq 17 5 _ _ σ).trans rfl
theorem e17_6 (ls st : List AV) (σ : St) (x : Nat) (h : fok σ x 0) : run 17 6 (ls) (vR x :: st) σ = run 17 9 (ls) (vI (gt σ x 2) :: st) σ := (run_eq 17 6 _ _ σ).trans (if_pos h)
theorem e17_9 (ls st : List AV) (σ : St) (y x : Int) : run 17 9 (ls) (vI y :: vI x :: st) σ = if x < y then run 17 12 (ls) (st) σ else run 17 36 (ls) (st) σ := (run_eq 17 9 _ _ σ).trans rfl
theorem e17_12 (a0 a1 : AV) (l st : List AV) (σ : St) (x : Int) : run 17 12 (a0 :: a1 :: vI x :: l) (st) σ = run 17 13 (a0 :: a1 :: vI x :: l) (vI x :: st) σ := (run_eq 17 12 _ _ σ).trans rfl
theorem e17_13 (l st : List AV) (σ : St) (x : Nat) : run 17 13 (vR x :: l) (st) σ = run 17 14 (vR x :: l) (vR x :: st) σ := (run_eq 17 13 _ _ σ).trans rfl
theorem e17_14 (a0 : AV) (l st : List AV) (σ : St) (x : Int) : run 17 14 (a0 :: vI x :: l) (st) σ = run 17 15 (a0 :: vI x :: l) (vI x :: st) σ := (run_eq 17 14 _ _ σ).trans rfl
theorem e17_15 (a0 a1 a2 : AV) (l st : List AV) (σ : St) (x : Int) : run 17 15 (a0 :: a1 :: a2 :: vI x :: l) (st) σ = run 17 16 (a0 :: a1 :: a2 :: vI x :: l) (vI x :: st) σ := (run_eq 17 15 _ _ σ).trans rfl
theorem e17_16 (ls st : List AV) (σ : St) (x0 : Nat) (x1 : Int) (x2 : Int) (h4 : st.length ≤ 4) (h : fok σ x0 0) : run 17 16 ls (vI x2 :: vI x1 :: vR x0 :: st) σ = bnd (run 18 0 [vR x0, vI x1, vI x2] [] σ) (fun r σ => run 17 19 ls (psh r st) σ) := (run_eq 17 16 _ _ σ).trans (if_pos ⟨rfl, by simp, by simpa using h4, rfl, h⟩)
theorem e17_19 (ls st : List AV) (σ : St) : run 17 19 (ls) (st) σ = run 17 20 (ls) (vI (-1) :: st) σ := (run_eq 17 19 _ _ σ).trans rfl
theorem e17_20 (ls st : List AV) (σ : St) (y x : Int) : run 17 20 (ls) (vI y :: vI x :: st) σ = if x = y then run 17 23 (ls) (st) σ else run 17 27 (ls) (st) σ := (run_eq 17 20 _ _ σ).trans rfl
theorem e17_23 (ls st : List AV) (σ : St) : run 17 23 (ls) (st) σ = run 17 24 (ls) (vI 0 :: st) σ := (run_eq 17 23 _ _ σ).trans rfl
theorem e17_24 (ls st : List AV) (σ : St) : run 17 24 (ls) (st) σ = run 17 28 (ls) (st) σ := (run_eq 17 24 _ _ σ).trans rfl
theorem e17_27 (ls st : List AV) (σ : St) : run 17 27 (ls) (st) σ = run 17 28 (ls) (vI 1 :: st) σ := (run_eq 17 27 _ _ σ).trans rfl
theorem e17_28 (ls st : List AV) (σ : St) (y x : Int) : run 17 28 (ls) (vI y :: vI x :: st) σ = run 17 29 (ls) (vI (wr (x + y)) :: st) σ := (run_eq 17 28 _ _ σ).trans rfl
theorem e17_29 (a0 a1 : AV) (l st : List AV) (σ : St) (q : AV) (x : Int) : run 17 29 (a0 :: a1 :: q :: l) (vI x :: st) σ = run 17 30 (a0 :: a1 :: vI x :: l) (st) σ := (run_eq 17 29 _ _ σ).trans rfl
theorem e17_30 (a0 a1 a2 : AV) (l st : List AV) (σ : St) (x : Int) : run 17 30 (a0 :: a1 :: a2 :: vI x :: l) (st) σ = run 17 33 (a0 :: a1 :: a2 :: vI (wr (x + 1)) :: l) (st) σ := (run_eq 17 30 _ _ σ).trans rfl
theorem e17_33 (ls st : List AV) (σ : St) : run 17 33 (ls) (st) σ = run 17 4 (ls) (st) σ := (run_eq 17 33 _ _ σ).trans rfl
theorem e17_36 (a0 a1 : AV) (l st : List AV) (σ : St) (x : Int) : run 17 36 (a0 :: a1 :: vI x :: l) (st) σ = run 17 37 (a0 :: a1 :: vI x :: l) (vI x :: st) σ := (run_eq 17 36 _ _ σ).trans rfl
theorem e17_37 (ls : List AV) (σ : St) (x : Int) : run 17 37 ls [vI x] σ = some (vI x, σ) := (run_eq 17 37 _ _ σ).trans rfl
/-! B_wants -/
theorem e18_0 (l st : List AV) (σ : St) (x : Nat) : run 18 0 (vR x :: l) (st) σ = run 18 1 (vR x :: l) (vR x :: st) σ := (run_eq 18 0 _ _ σ).trans rfl
theorem e18_1 (ls st : List AV) (σ : St) (x : Nat) (h : fok σ x 0) : run 18 1 (ls) (vR x :: st) σ = run 18 4 (ls) (vR (gr σ x 10) :: st) σ := (run_eq 18 1 _ _ σ).trans (if_pos h)
theorem e18_4 (a0 : AV) (l st : List AV) (σ : St) (x : Int) : run 18 4 (a0 :: vI x :: l) (st) σ = run 18 5 (a0 :: vI x :: l) (vI x :: st) σ := (run_eq 18 4 _ _ σ).trans rfl
theorem e18_5 (ls st : List AV) (σ : St) : run 18 5 (ls) (st) σ = run 18 7 (ls) (vI 24 :: st) σ := (run_eq 18 5 _ _ σ).trans rfl
theorem e18_7 (ls st : List AV) (σ : St) (y x : Int) : run 18 7 (ls) (vI y :: vI x :: st) σ = run 18 8 (ls) (vI (wr (x * y)) :: st) σ := (run_eq 18 7 _ _ σ).trans rfl
theorem e18_8 (a0 a1 : AV) (l st : List AV) (σ : St) (x : Int) : run 18 8 (a0 :: a1 :: vI x :: l) (st) σ = run 18 9 (a0 :: a1 :: vI x :: l) (vI x :: st) σ := (run_eq 18 8 _ _ σ).trans rfl
theorem e18_9 (ls st : List AV) (σ : St) (y x : Int) : run 18 9 (ls) (vI y :: vI x :: st) σ = run 18 10 (ls) (vI (wr (x + y)) :: st) σ := (run_eq 18 9 _ _ σ).trans rfl
theorem e18_10 (ls st : List AV) (σ : St) (x0 : Nat) (x1 : Int) (h4 : st.length ≤ 4) : run 18 10 ls (vI x1 :: vR x0 :: st) σ = bnd (run 10 0 [vR x0, vI x1] [] σ) (fun r σ => run 18 13 ls (psh r st) σ) := (run_eq 18 10 _ _ σ).trans (if_pos ⟨rfl, by simp, by simpa using h4⟩)
theorem e18_13 (ls : List AV) (σ : St) (x : Int) : run 18 13 ls [vI x] σ = some (vI x, σ) := (run_eq 18 13 _ _ σ).trans rfl
/-! N_firstFault -/
theorem e22_0 (ls st : List AV) (σ : St) : run 22 0 (ls) (st) σ = run 22 1 (ls) (vI 0 :: st) σ := (run_eq 22 0 _ _ σ).trans rfl
theorem e22_1 (a0 a1 : AV) (l st : List AV) (σ : St) (q : AV) (x : Int) : run 22 1 (a0 :: a1 :: q :: l) (vI x :: st) σ = run 22 2 (a0 :: a1 :: vI x :: l) (st) σ := (run_eq 22 1 _ _ σ).trans rfl
theorem e22_2 (a0 a1 : AV) (l st : List AV) (σ : St) (x : Int) : run 22 2 (a0 :: a1 :: vI x :: l) (st) σ = run 22 3 (a0 :: a1 :: vI x :: l) (vI x :: st) σ := (run_eq 22 2 _ _ σ).trans rfl
theorem e22_3 (l st : List AV) (σ : St) (x : Nat) : run 22 3 (vR x :: l) (st) σ = run 22 4 (vR x :: l) (vR x :: st) σ := (run_eq 22 3 _ _ σ).trans rfl
theorem e22_4 (ls st : List AV) (σ : St) (x : Nat) (h : fok σ x 1) : run 22 4 (ls) (vR x :: st) σ = run 22 7 (ls) (vI (gt σ x 1) :: st) σ := (run_eq 22 4 _ _ σ).trans (if_pos h)
theorem e22_7 (ls st : List AV) (σ : St) (y x : Int) : run 22 7 (ls) (vI y :: vI x :: st) σ = if x < y then run 22 10 (ls) (st) σ else run 22 92 (ls) (st) σ := (run_eq 22 7 _ _ σ).trans rfl
theorem e22_10 (l st : List AV) (σ : St) (x : Nat) : run 22 10 (vR x :: l) (st) σ = run 22 11 (vR x :: l) (vR x :: st) σ := (run_eq 22 10 _ _ σ).trans rfl
theorem e22_11 (ls st : List AV) (σ : St) (x : Nat) (h : fok σ x 1) : run 22 11 (ls) (vR x :: st) σ = run 22 14 (ls) (vR (gr σ x 0) :: st) σ := (run_eq 22 11 _ _ σ).trans (if_pos h)
theorem e22_14 (a0 a1 : AV) (l st : List AV) (σ : St) (x : Int) : run 22 14 (a0 :: a1 :: vI x :: l) (st) σ = run 22 15 (a0 :: a1 :: vI x :: l) (vI x :: st) σ := (run_eq 22 14 _ _ σ).trans rfl
theorem e22_15 (ls st : List AV) (σ : St) (x0 : Nat) (x1 : Int) (h4 : st.length ≤ 4) : run 22 15 ls (vI x1 :: vR x0 :: st) σ = bnd (run 10 0 [vR x0, vI x1] [] σ) (fun r σ => run 22 18 ls (psh r st) σ) := (run_eq 22 15 _ _ σ).trans (if_pos ⟨rfl, by simp, by simpa using h4⟩)
theorem e22_18 (a0 a1 a2 : AV) (l st : List AV) (σ : St) (q : AV) (x : Int) : run 22 18 (a0 :: a1 :: a2 :: q :: l) (vI x :: st) σ = run 22 19 (a0 :: a1 :: a2 :: vI x :: l) (st) σ := (run_eq 22 18 _ _ σ).trans rfl
theorem e22_19 (a0 a1 a2 : AV) (l st : List AV) (σ : St) (x : Int) : run 22 19 (a0 :: a1 :: a2 :: vI x :: l) (st) σ = run 22 20 (a0 :: a1 :: a2 :: vI x :: l) (vI x :: st) σ := (run_eq 22 19 _ _ σ).trans rfl
theorem e22_20 (ls st : List AV) (σ : St) (x0 : Int) (h4 : st.length ≤ 4) : run 22 20 ls (vI x0 :: st) σ = bnd (run 23 0 [vI x0] [] σ) (fun r σ => run 22 23 ls (psh r st) σ) := (run_eq 22 20 _ _ σ).trans (if_pos ⟨rfl, by simp, by simpa using h4⟩)
theorem e22_23 (ls st : List AV) (σ : St) : run 22 23 (ls) (st) σ = run 22 25 (ls) (vI (-6) :: st) σ := (run_eq 22 23 _ _ σ).trans rfl
theorem e22_25 (ls st : List AV) (σ : St) (y x : Int) : run 22 25 (ls) (vI y :: vI x :: st) σ = if x = y then run 22 34 (ls) (st) σ else run 22 28 (ls) (st) σ := (run_eq 22 25 _ _ σ).trans rfl
theorem e22_28 (a0 a1 : AV) (l st : List AV) (σ : St) (x : Int) : run 22 28 (a0 :: a1 :: vI x :: l) (st) σ = run 22 31 (a0 :: a1 :: vI (wr (x + 1)) :: l) (st) σ := (run_eq 22 28 _ _ σ).trans rfl
theorem e22_31 (ls st : List AV) (σ : St) : run 22 31 (ls) (st) σ = run 22 89 (ls) (st) σ := (run_eq 22 31 _ _ σ).trans rfl
theorem e22_34 (a0 : AV) (l st : List AV) (σ : St) (x : Nat) : run 22 34 (a0 :: vR x :: l) (st) σ = run 22 35 (a0 :: vR x :: l) (vR x :: st) σ := (run_eq 22 34 _ _ σ).trans rfl
theorem e22_35 (ls st : List AV) (σ : St) (x : Nat) : run 22 35 (ls) (vR x :: st) σ = if x = 0 then run 22 49 (ls) (st) σ else run 22 38 (ls) (st) σ := (run_eq 22 35 _ _ σ).trans rfl
theorem e22_38 (a0 : AV) (l st : List AV) (σ : St) (x : Nat) : run 22 38 (a0 :: vR x :: l) (st) σ = run 22 39 (a0 :: vR x :: l) (vR x :: st) σ := (run_eq 22 38 _ _ σ).trans rfl
theorem e22_39 (a0 a1 a2 : AV) (l st : List AV) (σ : St) (x : Int) : run 22 39 (a0 :: a1 :: a2 :: vI x :: l) (st) σ = run 22 40 (a0 :: a1 :: a2 :: vI x :: l) (vI x :: st) σ := (run_eq 22 39 _ _ σ).trans rfl
theorem e22_40 (ls st : List AV) (σ : St) : run 22 40 (ls) (st) σ = run 22 42 (ls) (vI 97 :: st) σ := (run_eq 22 40 _ _ σ).trans rfl
theorem e22_42 (ls st : List AV) (σ : St) (y x : Int) : run 22 42 (ls) (vI y :: vI x :: st) σ = run 22 43 (ls) (vI (wr (x - y)) :: st) σ := (run_eq 22 42 _ _ σ).trans rfl
theorem e22_43 (ls st : List AV) (σ : St) (x0 : Nat) (x1 : Int) (h4 : st.length ≤ 4) (h : fok σ x0 0) : run 22 43 ls (vI x1 :: vR x0 :: st) σ = bnd (run 8 0 [vR x0, vI x1] [] σ) (fun r σ => run 22 46 ls (psh r st) σ) := (run_eq 22 43 _ _ σ).trans (if_pos ⟨rfl, by simp, by simpa using h4, rfl, h⟩)
theorem e22_46 (ls st : List AV) (σ : St) (x : Int) : run 22 46 (ls) (vI x :: st) σ = if x = 0 then run 22 49 (ls) (st) σ else run 22 51 (ls) (st) σ := (run_eq 22 46 _ _ σ).trans rfl
theorem e22_49 (a0 a1 : AV) (l st : List AV) (σ : St) (x : Int) : run 22 49 (a0 :: a1 :: vI x :: l) (st) σ = run 22 50 (a0 :: a1 :: vI x :: l) (vI x :: st) σ := (run_eq 22 49 _ _ σ).trans rfl
theorem e22_50 (ls : List AV) (σ : St) (x : Int) : run 22 50 ls [vI x] σ = some (vI x, σ) := (run_eq 22 50 _ _ σ).trans rfl
theorem e22_51 (a0 a1 : AV) (l st : List AV) (σ : St) (x : Int) : run 22 51 (a0 :: a1 :: vI x :: l) (st) σ = run 22 52 (a0 :: a1 :: vI x :: l) (vI x :: st) σ := (run_eq 22 51 _ _ σ).trans rfl
theorem e22_52 (ls st : List AV) (σ : St) : run 22 52 (ls) (st) σ = run 22 53 (ls) (vI 1 :: st) σ := (run_eq 22 52 _ _ σ).trans rfl
theorem e22_53 (ls st : List AV) (σ : St) (y x : Int) : run 22 53 (ls) (vI y :: vI x :: st) σ = run 22 54 (ls) (vI (wr (x + y)) :: st) σ := (run_eq 22 53 _ _ σ).trans rfl
theorem e22_54 (l st : List AV) (σ : St) (x : Nat) : run 22 54 (vR x :: l) (st) σ = run 22 55 (vR x :: l) (vR x :: st) σ := (run_eq 22 54 _ _ σ).trans rfl
theorem e22_55 (ls st : List AV) (σ : St) (x : Nat) (h : fok σ x 1) : run 22 55 (ls) (vR x :: st) σ = run 22 58 (ls) (vI (gt σ x 1) :: st) σ := (run_eq 22 55 _ _ σ).trans (if_pos h)
theorem e22_58 (ls st : List AV) (σ : St) (y x : Int) : run 22 58 (ls) (vI y :: vI x :: st) σ = if x = y then run 22 61 (ls) (st) σ else run 22 66 (ls) (st) σ := (run_eq 22 58 _ _ σ).trans rfl
theorem e22_61 (l st : List AV) (σ : St) (x : Nat) : run 22 61 (vR x :: l) (st) σ = run 22 62 (vR x :: l) (vR x :: st) σ := (run_eq 22 61 _ _ σ).trans rfl
theorem e22_62 (ls st : List AV) (σ : St) (x : Nat) (h : fok σ x 1) : run 22 62 (ls) (vR x :: st) σ = run 22 65 (ls) (vI (gt σ x 1) :: st) σ := (run_eq 22 62 _ _ σ).trans (if_pos h)
theorem e22_65 (ls : List AV) (σ : St) (x : Int) : run 22 65 ls [vI x] σ = some (vI x, σ) := (run_eq 22 65 _ _ σ).trans rfl
theorem e22_66 (l st : List AV) (σ : St) (x : Nat) : run 22 66 (vR x :: l) (st) σ = run 22 67 (vR x :: l) (vR x :: st) σ := (run_eq 22 66 _ _ σ).trans rfl
theorem e22_67 (ls st : List AV) (σ : St) (x : Nat) (h : fok σ x 1) : run 22 67 (ls) (vR x :: st) σ = run 22 70 (ls) (vR (gr σ x 0) :: st) σ := (run_eq 22 67 _ _ σ).trans (if_pos h)
theorem e22_70 (a0 a1 : AV) (l st : List AV) (σ : St) (x : Int) : run 22 70 (a0 :: a1 :: vI x :: l) (st) σ = run 22 71 (a0 :: a1 :: vI x :: l) (vI x :: st) σ := (run_eq 22 70 _ _ σ).trans rfl
theorem e22_71 (ls st : List AV) (σ : St) : run 22 71 (ls) (st) σ = run 22 72 (ls) (vI 1 :: st) σ := (run_eq 22 71 _ _ σ).trans rfl
theorem e22_72 (ls st : List AV) (σ : St) (y x : Int) : run 22 72 (ls) (vI y :: vI x :: st) σ = run 22 73 (ls) (vI (wr (x + y)) :: st) σ := (run_eq 22 72 _ _ σ).trans rfl
theorem e22_73 (ls st : List AV) (σ : St) (x0 : Nat) (x1 : Int) (h4 : st.length ≤ 4) : run 22 73 ls (vI x1 :: vR x0 :: st) σ = bnd (run 10 0 [vR x0, vI x1] [] σ) (fun r σ => run 22 76 ls (psh r st) σ) := (run_eq 22 73 _ _ σ).trans (if_pos ⟨rfl, by simp, by simpa using h4⟩)
theorem e22_76 (ls st : List AV) (σ : St) (x0 : Int) (h4 : st.length ≤ 4) : run 22 76 ls (vI x0 :: st) σ = bnd (run 24 0 [vI x0] [] σ) (fun r σ => run 22 79 ls (psh r st) σ) := (run_eq 22 76 _ _ σ).trans (if_pos ⟨rfl, by simp, by simpa using h4⟩)
theorem e22_79 (ls st : List AV) (σ : St) (x : Int) : run 22 79 (ls) (vI x :: st) σ = if x = 0 then run 22 82 (ls) (st) σ else run 22 86 (ls) (st) σ := (run_eq 22 79 _ _ σ).trans rfl
theorem e22_82 (a0 a1 : AV) (l st : List AV) (σ : St) (x : Int) : run 22 82 (a0 :: a1 :: vI x :: l) (st) σ = run 22 83 (a0 :: a1 :: vI x :: l) (vI x :: st) σ := (run_eq 22 82 _ _ σ).trans rfl
theorem e22_83 (ls st : List AV) (σ : St) : run 22 83 (ls) (st) σ = run 22 84 (ls) (vI 1 :: st) σ := (run_eq 22 83 _ _ σ).trans rfl
theorem e22_84 (ls st : List AV) (σ : St) (y x : Int) : run 22 84 (ls) (vI y :: vI x :: st) σ = run 22 85 (ls) (vI (wr (x + y)) :: st) σ := (run_eq 22 84 _ _ σ).trans rfl
theorem e22_85 (ls : List AV) (σ : St) (x : Int) : run 22 85 ls [vI x] σ = some (vI x, σ) := (run_eq 22 85 _ _ σ).trans rfl
theorem e22_86 (a0 a1 : AV) (l st : List AV) (σ : St) (x : Int) : run 22 86 (a0 :: a1 :: vI x :: l) (st) σ = run 22 89 (a0 :: a1 :: vI (wr (x + 2)) :: l) (st) σ := (run_eq 22 86 _ _ σ).trans rfl
theorem e22_89 (ls st : List AV) (σ : St) : run 22 89 (ls) (st) σ = run 22 2 (ls) (st) σ := (run_eq 22 89 _ _ σ).trans rfl
theorem e22_92 (ls st : List AV) (σ : St) : run 22 92 (ls) (st) σ = run 22 94 (ls) (vI (-6) :: st) σ := (run_eq 22 92 _ _ σ).trans rfl
theorem e22_94 (ls : List AV) (σ : St) (x : Int) : run 22 94 ls [vI x] σ = some (vI x, σ) := (run_eq 22 94 _ _ σ).trans rfl
/-! N_isAct -/
theorem e24_0 (l st : List AV) (σ : St) (x : Int) : run 24 0 (vI x :: l) (st) σ = run 24 1 (vI x :: l) (vI x :: st) σ := (run_eq 24 0 _ _ σ).trans rfl
theorem e24_1 (ls st : List AV) (σ : St) : run 24 1 (ls) (st) σ = run 24 3 (ls) (vI 43 :: st) σ := (run_eq 24 1 _ _ σ).trans rfl
theorem e24_3 (ls st : List AV) (σ : St) (y x : Int) : run 24 3 (ls) (vI y :: vI x :: st) σ = if x = y then run 24 23 (ls) (st) σ else run 24 6 (ls) (st) σ := (run_eq 24 3 _ _ σ).trans rfl
theorem e24_6 (l st : List AV) (σ : St) (x : Int) : run 24 6 (vI x :: l) (st) σ = run 24 7 (vI x :: l) (vI x :: st) σ := (run_eq 24 6 _ _ σ).trans rfl
theorem e24_7 (ls st : List AV) (σ : St) : run 24 7 (ls) (st) σ = run 24 9 (ls) (vI 42 :: st) σ := (run_eq 24 7 _ _ σ).trans rfl
theorem e24_9 (ls st : List AV) (σ : St) (y x : Int) : run 24 9 (ls) (vI y :: vI x :: st) σ = if x = y then run 24 23 (ls) (st) σ else run 24 12 (ls) (st) σ := (run_eq 24 9 _ _ σ).trans rfl
theorem e24_12 (l st : List AV) (σ : St) (x : Int) : run 24 12 (vI x :: l) (st) σ = run 24 13 (vI x :: l) (vI x :: st) σ := (run_eq 24 12 _ _ σ).trans rfl
theorem e24_13 (ls st : List AV) (σ : St) : run 24 13 (ls) (st) σ = run 24 15 (ls) (vI 48 :: st) σ := (run_eq 24 13 _ _ σ).trans rfl
theorem e24_15 (ls st : List AV) (σ : St) : run 24 15 (ls) (st) σ = run 24 17 (ls) (vI 57 :: st) σ := (run_eq 24 15 _ _ σ).trans rfl
theorem e24_17 (ls st : List AV) (σ : St) (x0 : Int) (x1 : Int) (x2 : Int) (h4 : st.length ≤ 4) : run 24 17 ls (vI x2 :: vI x1 :: vI x0 :: st) σ = bnd (run 6 0 [vI x0, vI x1, vI x2] [] σ) (fun r σ => run 24 20 ls (psh r st) σ) := (run_eq 24 17 _ _ σ).trans (if_pos ⟨rfl, by simp, by simpa using h4⟩)
theorem e24_20 (ls st : List AV) (σ : St) (x : Int) : run 24 20 (ls) (vI x :: st) σ = if x = 0 then run 24 27 (ls) (st) σ else run 24 23 (ls) (st) σ := (run_eq 24 20 _ _ σ).trans rfl
theorem e24_23 (ls st : List AV) (σ : St) : run 24 23 (ls) (st) σ = run 24 24 (ls) (vI 1 :: st) σ := (run_eq 24 23 _ _ σ).trans rfl
theorem e24_24 (ls st : List AV) (σ : St) : run 24 24 (ls) (st) σ = run 24 28 (ls) (st) σ := (run_eq 24 24 _ _ σ).trans rfl
theorem e24_27 (ls st : List AV) (σ : St) : run 24 27 (ls) (st) σ = run 24 28 (ls) (vI 0 :: st) σ := (run_eq 24 27 _ _ σ).trans rfl
theorem e24_28 (ls : List AV) (σ : St) (x : Int) (h : x = 0 ∨ x = 1) : run 24 28 ls [vI x] σ = some (vI x, σ) := (run_eq 24 28 _ _ σ).trans (if_pos h)
/-! N_play -/
theorem e26_0 (a0 : AV) (l st : List AV) (σ : St) (x : Nat) : run 26 0 (a0 :: vR x :: l) (st) σ = run 26 1 (a0 :: vR x :: l) (vR x :: st) σ := (run_eq 26 0 _ _ σ).trans rfl
theorem e26_1 (ls st : List AV) (σ : St) (x : Nat) : run 26 1 (ls) (vR x :: st) σ = if x = 0 then run 26 8 (ls) (st) σ else run 26 4 (ls) (st) σ := (run_eq 26 1 _ _ σ).trans rfl
theorem e26_4 (a0 a1 : AV) (l st : List AV) (σ : St) (x : Nat) : run 26 4 (a0 :: a1 :: vR x :: l) (st) σ = run 26 5 (a0 :: a1 :: vR x :: l) (vR x :: st) σ := (run_eq 26 4 _ _ σ).trans rfl
theorem e26_5 (ls st : List AV) (σ : St) (x : Nat) : run 26 5 (ls) (vR x :: st) σ = if x = 0 then run 26 8 (ls) (st) σ else run 26 9 (ls) (st) σ := (run_eq 26 5 _ _ σ).trans rfl
theorem e26_8 (ls : List AV) (σ : St) : run 26 8 ls [] σ = some (vU, σ) := (run_eq 26 8 _ _ σ).trans rfl
theorem e26_9 (a0 a1 : AV) (l st : List AV) (σ : St) (x : Nat) : run 26 9 (a0 :: a1 :: vR x :: l) (st) σ = run 26 10 (a0 :: a1 :: vR x :: l) (vR x :: st) σ := (run_eq 26 9 _ _ σ).trans rfl
theorem e26_10 (a0 : AV) (l st : List AV) (σ : St) (x : Nat) : run 26 10 (a0 :: vR x :: l) (st) σ = run 26 11 (a0 :: vR x :: l) (vR x :: st) σ := (run_eq 26 10 _ _ σ).trans rfl
theorem e26_11 (ls st : List AV) (σ : St) (x0 : Nat) (x1 : Nat) (h4 : st.length ≤ 4) (h : fok σ x0 0) : run 26 11 ls (vR x1 :: vR x0 :: st) σ = bnd (run 27 0 [vR x0, vR x1] [] σ) (fun r σ => run 26 14 ls (psh r st) σ) := (run_eq 26 11 _ _ σ).trans (if_pos ⟨rfl, by simp, by simpa using h4, rfl, h⟩)
theorem e26_14 (l st : List AV) (σ : St) (x : Nat) : run 26 14 (vR x :: l) (st) σ = run 26 15 (vR x :: l) (vR x :: st) σ := (run_eq 26 14 _ _ σ).trans rfl
theorem e26_15 (ls st : List AV) (σ : St) : run 26 15 (ls) (st) σ = run 26 16 (ls) (vI 0 :: st) σ := (run_eq 26 15 _ _ σ).trans rfl
theorem e26_16 (ls st : List AV) (σ : St) (z : Int) (x : Nat) (h : fok σ x 1) : run 26 16 (ls) (vI z :: vR x :: st) σ = run 26 19 (ls) (st) (sr σ x (ru (gt σ x) 2 z)) := (run_eq 26 16 _ _ σ).trans (if_pos h)
theorem e26_19 (l st : List AV) (σ : St) (x : Nat) : run 26 19 (vR x :: l) (st) σ = run 26 20 (vR x :: l) (vR x :: st) σ := (run_eq 26 19 _ _ σ).trans rfl
theorem e26_20 (ls st : List AV) (σ : St) : run 26 20 (ls) (st) σ = run 26 22 (ls) (vI (-6) :: st) σ := (run_eq 26 20 _ _ σ).trans rfl
theorem e26_22 (ls st : List AV) (σ : St) (z : Int) (x : Nat) (h : fok σ x 1) : run 26 22 (ls) (vI z :: vR x :: st) σ = run 26 25 (ls) (st) (sr σ x (ru (gt σ x) 3 z)) := (run_eq 26 22 _ _ σ).trans (if_pos h)
theorem e26_25 (l st : List AV) (σ : St) (x : Nat) : run 26 25 (vR x :: l) (st) σ = run 26 26 (vR x :: l) (vR x :: st) σ := (run_eq 26 25 _ _ σ).trans rfl
theorem e26_26 (ls st : List AV) (σ : St) : run 26 26 (ls) (st) σ = run 26 28 (ls) (vI (-6) :: st) σ := (run_eq 26 26 _ _ σ).trans rfl
theorem e26_28 (ls st : List AV) (σ : St) (z : Int) (x : Nat) (h : fok σ x 1) : run 26 28 (ls) (vI z :: vR x :: st) σ = run 26 31 (ls) (st) (sr σ x (ru (gt σ x) 4 z)) := (run_eq 26 28 _ _ σ).trans (if_pos h)
theorem e26_31 (l st : List AV) (σ : St) (x : Nat) : run 26 31 (vR x :: l) (st) σ = run 26 32 (vR x :: l) (vR x :: st) σ := (run_eq 26 31 _ _ σ).trans rfl
theorem e26_32 (ls st : List AV) (σ : St) : run 26 32 (ls) (st) σ = run 26 34 (ls) (vI (-6) :: st) σ := (run_eq 26 32 _ _ σ).trans rfl
theorem e26_34 (ls st : List AV) (σ : St) (z : Int) (x : Nat) (h : fok σ x 1) : run 26 34 (ls) (vI z :: vR x :: st) σ = run 26 37 (ls) (st) (sr σ x (ru (gt σ x) 5 z)) := (run_eq 26 34 _ _ σ).trans (if_pos h)
theorem e26_37 (ls st : List AV) (σ : St) : run 26 37 (ls) (st) σ = run 26 38 (ls) (vI 0 :: st) σ := (run_eq 26 37 _ _ σ).trans rfl
theorem e26_38 (a0 a1 a2 a3 : AV) (l st : List AV) (σ : St) (q : AV) (x : Int) : run 26 38 (a0 :: a1 :: a2 :: a3 :: q :: l) (vI x :: st) σ = run 26 40 (a0 :: a1 :: a2 :: a3 :: vI x :: l) (st) σ := (run_eq 26 38 _ _ σ).trans rfl
theorem e26_40 (a0 a1 a2 a3 : AV) (l st : List AV) (σ : St) (x : Int) : run 26 40 (a0 :: a1 :: a2 :: a3 :: vI x :: l) (st) σ = run 26 42 (a0 :: a1 :: a2 :: a3 :: vI x :: l) (vI x :: st) σ := (run_eq 26 40 _ _ σ).trans rfl
theorem e26_42 (l st : List AV) (σ : St) (x : Nat) : run 26 42 (vR x :: l) (st) σ = run 26 43 (vR x :: l) (vR x :: st) σ := (run_eq 26 42 _ _ σ).trans rfl
theorem e26_43 (ls st : List AV) (σ : St) (x : Nat) (h : fok σ x 1) : run 26 43 (ls) (vR x :: st) σ = run 26 46 (ls) (vI (gt σ x 1) :: st) σ := (run_eq 26 43 _ _ σ).trans (if_pos h)
theorem e26_46 (ls st : List AV) (σ : St) (y x : Int) : run 26 46 (ls) (vI y :: vI x :: st) σ = if x < y then run 26 49 (ls) (st) σ else run 26 197 (ls) (st) σ := (run_eq 26 46 _ _ σ).trans rfl
theorem e26_49 (l st : List AV) (σ : St) (x : Nat) : run 26 49 (vR x :: l) (st) σ = run 26 50 (vR x :: l) (vR x :: st) σ := (run_eq 26 49 _ _ σ).trans rfl
theorem e26_50 (ls st : List AV) (σ : St) (x : Nat) (h : fok σ x 1) : run 26 50 (ls) (vR x :: st) σ = run 26 53 (ls) (vI (gt σ x 3) :: st) σ := (run_eq 26 50 _ _ σ).trans (if_pos h)
theorem e26_53 (ls st : List AV) (σ : St) : run 26 53 (ls) (st) σ = run 26 55 (ls) (vI (-6) :: st) σ := (run_eq 26 53 _ _ σ).trans rfl
theorem e26_55 (ls st : List AV) (σ : St) (y x : Int) : run 26 55 (ls) (vI y :: vI x :: st) σ = if x = y then run 26 58 (ls) (st) σ else run 26 197 (ls) (st) σ := (run_eq 26 55 _ _ σ).trans rfl
theorem e26_58 (l st : List AV) (σ : St) (x : Nat) : run 26 58 (vR x :: l) (st) σ = run 26 59 (vR x :: l) (vR x :: st) σ := (run_eq 26 58 _ _ σ).trans rfl
theorem e26_59 (ls st : List AV) (σ : St) (x : Nat) (h : fok σ x 1) : run 26 59 (ls) (vR x :: st) σ = run 26 62 (ls) (vR (gr σ x 0) :: st) σ := (run_eq 26 59 _ _ σ).trans (if_pos h)
theorem e26_62 (a0 a1 a2 a3 : AV) (l st : List AV) (σ : St) (x : Int) : run 26 62 (a0 :: a1 :: a2 :: a3 :: vI x :: l) (st) σ = run 26 64 (a0 :: a1 :: a2 :: a3 :: vI x :: l) (vI x :: st) σ := (run_eq 26 62 _ _ σ).trans rfl
theorem e26_64 (ls st : List AV) (σ : St) (x0 : Nat) (x1 : Int) (h4 : st.length ≤ 4) : run 26 64 ls (vI x1 :: vR x0 :: st) σ = bnd (run 10 0 [vR x0, vI x1] [] σ) (fun r σ => run 26 67 ls (psh r st) σ) := (run_eq 26 64 _ _ σ).trans (if_pos ⟨rfl, by simp, by simpa using h4⟩)
theorem e26_67 (a0 a1 a2 a3 a4 : AV) (l st : List AV) (σ : St) (q : AV) (x : Int) : run 26 67 (a0 :: a1 :: a2 :: a3 :: a4 :: q :: l) (vI x :: st) σ = run 26 69 (a0 :: a1 :: a2 :: a3 :: a4 :: vI x :: l) (st) σ := (run_eq 26 67 _ _ σ).trans rfl
theorem e26_69 (a0 a1 a2 a3 a4 : AV) (l st : List AV) (σ : St) (x : Int) : run 26 69 (a0 :: a1 :: a2 :: a3 :: a4 :: vI x :: l) (st) σ = run 26 71 (a0 :: a1 :: a2 :: a3 :: a4 :: vI x :: l) (vI x :: st) σ := (run_eq 26 69 _ _ σ).trans rfl
theorem e26_71 (ls st : List AV) (σ : St) (x0 : Int) (h4 : st.length ≤ 4) : run 26 71 ls (vI x0 :: st) σ = bnd (run 23 0 [vI x0] [] σ) (fun r σ => run 26 74 ls (psh r st) σ) := (run_eq 26 71 _ _ σ).trans (if_pos ⟨rfl, by simp, by simpa using h4⟩)
theorem e26_74 (a0 a1 a2 a3 a4 a5 : AV) (l st : List AV) (σ : St) (q : AV) (x : Int) : run 26 74 (a0 :: a1 :: a2 :: a3 :: a4 :: a5 :: q :: l) (vI x :: st) σ = run 26 76 (a0 :: a1 :: a2 :: a3 :: a4 :: a5 :: vI x :: l) (st) σ := (run_eq 26 74 _ _ σ).trans rfl
theorem e26_76 (a0 a1 a2 a3 a4 a5 : AV) (l st : List AV) (σ : St) (x : Int) : run 26 76 (a0 :: a1 :: a2 :: a3 :: a4 :: a5 :: vI x :: l) (st) σ = run 26 78 (a0 :: a1 :: a2 :: a3 :: a4 :: a5 :: vI x :: l) (vI x :: st) σ := (run_eq 26 76 _ _ σ).trans rfl
theorem e26_78 (ls st : List AV) (σ : St) : run 26 78 (ls) (st) σ = run 26 80 (ls) (vI (-6) :: st) σ := (run_eq 26 78 _ _ σ).trans rfl
theorem e26_80 (ls st : List AV) (σ : St) (y x : Int) : run 26 80 (ls) (vI y :: vI x :: st) σ = if x = y then run 26 95 (ls) (st) σ else run 26 83 (ls) (st) σ := (run_eq 26 80 _ _ σ).trans rfl
theorem e26_83 (a0 a1 : AV) (l st : List AV) (σ : St) (x : Nat) : run 26 83 (a0 :: a1 :: vR x :: l) (st) σ = run 26 84 (a0 :: a1 :: vR x :: l) (vR x :: st) σ := (run_eq 26 83 _ _ σ).trans rfl
theorem e26_84 (a0 a1 a2 a3 a4 a5 : AV) (l st : List AV) (σ : St) (x : Int) : run 26 84 (a0 :: a1 :: a2 :: a3 :: a4 :: a5 :: vI x :: l) (st) σ = run 26 86 (a0 :: a1 :: a2 :: a3 :: a4 :: a5 :: vI x :: l) (vI x :: st) σ := (run_eq 26 84 _ _ σ).trans rfl
theorem e26_86 (ls st : List AV) (σ : St) (x0 : Nat) (x1 : Int) (h4 : st.length ≤ 4) (h : fok σ x0 0) : run 26 86 ls (vI x1 :: vR x0 :: st) σ = bnd (run 30 0 [vR x0, vI x1, vU, vU] [] σ) (fun r σ => run 26 89 ls (psh r st) σ) := (run_eq 26 86 _ _ σ).trans (if_pos ⟨rfl, by simp, by simpa using h4, rfl, h⟩)
theorem e26_89 (a0 a1 a2 a3 : AV) (l st : List AV) (σ : St) (x : Int) : run 26 89 (a0 :: a1 :: a2 :: a3 :: vI x :: l) (st) σ = run 26 92 (a0 :: a1 :: a2 :: a3 :: vI (wr (x + 1)) :: l) (st) σ := (run_eq 26 89 _ _ σ).trans rfl
theorem e26_92 (ls st : List AV) (σ : St) : run 26 92 (ls) (st) σ = run 26 154 (ls) (st) σ := (run_eq 26 92 _ _ σ).trans rfl
theorem e26_95 (a0 a1 : AV) (l st : List AV) (σ : St) (x : Nat) : run 26 95 (a0 :: a1 :: vR x :: l) (st) σ = run 26 96 (a0 :: a1 :: vR x :: l) (vR x :: st) σ := (run_eq 26 95 _ _ σ).trans rfl
theorem e26_96 (a0 a1 a2 a3 a4 : AV) (l st : List AV) (σ : St) (x : Int) : run 26 96 (a0 :: a1 :: a2 :: a3 :: a4 :: vI x :: l) (st) σ = run 26 98 (a0 :: a1 :: a2 :: a3 :: a4 :: vI x :: l) (vI x :: st) σ := (run_eq 26 96 _ _ σ).trans rfl
theorem e26_98 (ls st : List AV) (σ : St) : run 26 98 (ls) (st) σ = run 26 100 (ls) (vI 97 :: st) σ := (run_eq 26 98 _ _ σ).trans rfl
theorem e26_100 (ls st : List AV) (σ : St) (y x : Int) : run 26 100 (ls) (vI y :: vI x :: st) σ = run 26 101 (ls) (vI (wr (x - y)) :: st) σ := (run_eq 26 100 _ _ σ).trans rfl
theorem e26_101 (l st : List AV) (σ : St) (x : Nat) : run 26 101 (vR x :: l) (st) σ = run 26 102 (vR x :: l) (vR x :: st) σ := (run_eq 26 101 _ _ σ).trans rfl
theorem e26_102 (ls st : List AV) (σ : St) (x : Nat) (h : fok σ x 1) : run 26 102 (ls) (vR x :: st) σ = run 26 105 (ls) (vR (gr σ x 0) :: st) σ := (run_eq 26 102 _ _ σ).trans (if_pos h)
theorem e26_105 (a0 a1 a2 a3 : AV) (l st : List AV) (σ : St) (x : Int) : run 26 105 (a0 :: a1 :: a2 :: a3 :: vI x :: l) (st) σ = run 26 107 (a0 :: a1 :: a2 :: a3 :: vI x :: l) (vI x :: st) σ := (run_eq 26 105 _ _ σ).trans rfl
theorem e26_107 (ls st : List AV) (σ : St) : run 26 107 (ls) (st) σ = run 26 108 (ls) (vI 1 :: st) σ := (run_eq 26 107 _ _ σ).trans rfl
theorem e26_108 (ls st : List AV) (σ : St) (y x : Int) : run 26 108 (ls) (vI y :: vI x :: st) σ = run 26 109 (ls) (vI (wr (x + y)) :: st) σ := (run_eq 26 108 _ _ σ).trans rfl
theorem e26_109 (ls st : List AV) (σ : St) (x0 : Nat) (x1 : Int) (h4 : st.length ≤ 4) : run 26 109 ls (vI x1 :: vR x0 :: st) σ = bnd (run 10 0 [vR x0, vI x1] [] σ) (fun r σ => run 26 112 ls (psh r st) σ) := (run_eq 26 109 _ _ σ).trans (if_pos ⟨rfl, by simp, by simpa using h4⟩)
theorem e26_112 (ls st : List AV) (σ : St) (x0 : Nat) (x1 : Int) (x2 : Int) (h4 : st.length ≤ 4) (h : fok σ x0 0) : run 26 112 ls (vI x2 :: vI x1 :: vR x0 :: st) σ = bnd (run 34 0 [vR x0, vI x1, vI x2, vU, vU] [] σ) (fun r σ => run 26 115 ls (psh r st) σ) := (run_eq 26 112 _ _ σ).trans (if_pos ⟨rfl, by simp, by simpa using h4, rfl, h⟩)
theorem e26_115 (a0 a1 a2 a3 a4 a5 a6 : AV) (l st : List AV) (σ : St) (q : AV) (x : Int) : run 26 115 (a0 :: a1 :: a2 :: a3 :: a4 :: a5 :: a6 :: q :: l) (vI x :: st) σ = run 26 117 (a0 :: a1 :: a2 :: a3 :: a4 :: a5 :: a6 :: vI x :: l) (st) σ := (run_eq 26 115 _ _ σ).trans rfl
theorem e26_117 (l st : List AV) (σ : St) (x : Nat) : run 26 117 (vR x :: l) (st) σ = run 26 118 (vR x :: l) (vR x :: st) σ := (run_eq 26 117 _ _ σ).trans rfl
theorem e26_118 (a0 a1 a2 a3 a4 a5 a6 : AV) (l st : List AV) (σ : St) (x : Int) : run 26 118 (a0 :: a1 :: a2 :: a3 :: a4 :: a5 :: a6 :: vI x :: l) (st) σ = run 26 120 (a0 :: a1 :: a2 :: a3 :: a4 :: a5 :: a6 :: vI x :: l) (vI x :: st) σ := (run_eq 26 118 _ _ σ).trans rfl
theorem e26_120 (ls st : List AV) (σ : St) (x : Int) : run 26 120 (ls) (vI x :: st) σ = if x = 0 then run 26 123 (ls) (st) σ else run 26 128 (ls) (st) σ := (run_eq 26 120 _ _ σ).trans rfl
theorem e26_123 (ls st : List AV) (σ : St) : run 26 123 (ls) (st) σ = run 26 125 (ls) (vI (-6) :: st) σ := (run_eq 26 123 _ _ σ).trans rfl
theorem e26_125 (ls st : List AV) (σ : St) : run 26 125 (ls) (st) σ = run 26 132 (ls) (st) σ := (run_eq 26 125 _ _ σ).trans rfl
theorem e26_128 (l st : List AV) (σ : St) (x : Nat) : run 26 128 (vR x :: l) (st) σ = run 26 129 (vR x :: l) (vR x :: st) σ := (run_eq 26 128 _ _ σ).trans rfl
theorem e26_129 (ls st : List AV) (σ : St) (x : Nat) (h : fok σ x 1) : run 26 129 (ls) (vR x :: st) σ = run 26 132 (ls) (vI (gt σ x 2) :: st) σ := (run_eq 26 129 _ _ σ).trans (if_pos h)
theorem e26_132 (ls st : List AV) (σ : St) (z : Int) (x : Nat) (h : fok σ x 1) : run 26 132 (ls) (vI z :: vR x :: st) σ = run 26 135 (ls) (st) (sr σ x (ru (gt σ x) 3 z)) := (run_eq 26 132 _ _ σ).trans (if_pos h)
theorem e26_135 (l st : List AV) (σ : St) (x : Nat) : run 26 135 (vR x :: l) (st) σ = run 26 136 (vR x :: l) (vR x :: st) σ := (run_eq 26 135 _ _ σ).trans rfl
theorem e26_136 (a0 a1 a2 a3 a4 a5 a6 : AV) (l st : List AV) (σ : St) (x : Int) : run 26 136 (a0 :: a1 :: a2 :: a3 :: a4 :: a5 :: a6 :: vI x :: l) (st) σ = run 26 138 (a0 :: a1 :: a2 :: a3 :: a4 :: a5 :: a6 :: vI x :: l) (vI x :: st) σ := (run_eq 26 136 _ _ σ).trans rfl
theorem e26_138 (ls st : List AV) (σ : St) (x : Int) : run 26 138 (ls) (vI x :: st) σ = if x = 0 then run 26 141 (ls) (st) σ else run 26 146 (ls) (st) σ := (run_eq 26 138 _ _ σ).trans rfl
theorem e26_141 (ls st : List AV) (σ : St) : run 26 141 (ls) (st) σ = run 26 143 (ls) (vI (-6) :: st) σ := (run_eq 26 141 _ _ σ).trans rfl
theorem e26_143 (ls st : List AV) (σ : St) : run 26 143 (ls) (st) σ = run 26 148 (ls) (st) σ := (run_eq 26 143 _ _ σ).trans rfl
theorem e26_146 (a0 a1 a2 a3 a4 a5 a6 : AV) (l st : List AV) (σ : St) (x : Int) : run 26 146 (a0 :: a1 :: a2 :: a3 :: a4 :: a5 :: a6 :: vI x :: l) (st) σ = run 26 148 (a0 :: a1 :: a2 :: a3 :: a4 :: a5 :: a6 :: vI x :: l) (vI x :: st) σ := (run_eq 26 146 _ _ σ).trans rfl
theorem e26_148 (ls st : List AV) (σ : St) (z : Int) (x : Nat) (h : fok σ x 1) : run 26 148 (ls) (vI z :: vR x :: st) σ = run 26 151 (ls) (st) (sr σ x (ru (gt σ x) 4 z)) := (run_eq 26 148 _ _ σ).trans (if_pos h)
theorem e26_151 (a0 a1 a2 a3 : AV) (l st : List AV) (σ : St) (x : Int) : run 26 151 (a0 :: a1 :: a2 :: a3 :: vI x :: l) (st) σ = run 26 154 (a0 :: a1 :: a2 :: a3 :: vI (wr (x + 2)) :: l) (st) σ := (run_eq 26 151 _ _ σ).trans rfl
theorem e26_154 (a0 a1 a2 : AV) (l st : List AV) (σ : St) (x : Int) : run 26 154 (a0 :: a1 :: a2 :: vI x :: l) (st) σ = run 26 155 (a0 :: a1 :: a2 :: vI x :: l) (vI x :: st) σ := (run_eq 26 154 _ _ σ).trans rfl
theorem e26_155 (ls st : List AV) (σ : St) : run 26 155 (ls) (st) σ = run 26 156 (ls) (vI (-1) :: st) σ := (run_eq 26 155 _ _ σ).trans rfl
theorem e26_156 (ls st : List AV) (σ : St) (y x : Int) : run 26 156 (ls) (vI y :: vI x :: st) σ = if x = y then run 26 184 (ls) (st) σ else run 26 159 (ls) (st) σ := (run_eq 26 156 _ _ σ).trans rfl
theorem e26_159 (l st : List AV) (σ : St) (x : Nat) : run 26 159 (vR x :: l) (st) σ = run 26 160 (vR x :: l) (vR x :: st) σ := (run_eq 26 159 _ _ σ).trans rfl
theorem e26_160 (ls st : List AV) (σ : St) (x : Nat) (h : fok σ x 1) : run 26 160 (ls) (vR x :: st) σ = run 26 163 (ls) (vI (gt σ x 5) :: st) σ := (run_eq 26 160 _ _ σ).trans (if_pos h)
theorem e26_163 (ls st : List AV) (σ : St) : run 26 163 (ls) (st) σ = run 26 165 (ls) (vI (-6) :: st) σ := (run_eq 26 163 _ _ σ).trans rfl
theorem e26_165 (ls st : List AV) (σ : St) (y x : Int) : run 26 165 (ls) (vI y :: vI x :: st) σ = if x = y then run 26 168 (ls) (st) σ else run 26 184 (ls) (st) σ := (run_eq 26 165 _ _ σ).trans rfl
theorem e26_168 (a0 a1 : AV) (l st : List AV) (σ : St) (x : Nat) : run 26 168 (a0 :: a1 :: vR x :: l) (st) σ = run 26 169 (a0 :: a1 :: vR x :: l) (vR x :: st) σ := (run_eq 26 168 _ _ σ).trans rfl
theorem e26_169 (a0 a1 a2 : AV) (l st : List AV) (σ : St) (x : Int) : run 26 169 (a0 :: a1 :: a2 :: vI x :: l) (st) σ = run 26 170 (a0 :: a1 :: a2 :: vI x :: l) (vI x :: st) σ := (run_eq 26 169 _ _ σ).trans rfl
theorem e26_170 (ls st : List AV) (σ : St) (x0 : Nat) (x1 : Int) (h4 : st.length ≤ 4) (h : fok σ x0 0) : run 26 170 ls (vI x1 :: vR x0 :: st) σ = bnd (run 35 0 [vR x0, vI x1] [] σ) (fun r σ => run 26 173 ls (psh r st) σ) := (run_eq 26 170 _ _ σ).trans (if_pos ⟨rfl, by simp, by simpa using h4, rfl, h⟩)
theorem e26_173 (ls st : List AV) (σ : St) (x : Int) : run 26 173 (ls) (vI x :: st) σ = if x = 0 then run 26 176 (ls) (st) σ else run 26 184 (ls) (st) σ := (run_eq 26 173 _ _ σ).trans rfl
theorem e26_176 (l st : List AV) (σ : St) (x : Nat) : run 26 176 (vR x :: l) (st) σ = run 26 177 (vR x :: l) (vR x :: st) σ := (run_eq 26 176 _ _ σ).trans rfl
theorem e26_177 (l st : List AV) (σ : St) (x : Nat) : run 26 177 (vR x :: l) (st) σ = run 26 178 (vR x :: l) (vR x :: st) σ := (run_eq 26 177 _ _ σ).trans rfl
theorem e26_178 (ls st : List AV) (σ : St) (x : Nat) (h : fok σ x 1) : run 26 178 (ls) (vR x :: st) σ = run 26 181 (ls) (vI (gt σ x 2) :: st) σ := (run_eq 26 178 _ _ σ).trans (if_pos h)
theorem e26_181 (ls st : List AV) (σ : St) (z : Int) (x : Nat) (h : fok σ x 1) : run 26 181 (ls) (vI z :: vR x :: st) σ = run 26 184 (ls) (st) (sr σ x (ru (gt σ x) 5 z)) := (run_eq 26 181 _ _ σ).trans (if_pos h)
theorem e26_184 (l st : List AV) (σ : St) (x : Nat) : run 26 184 (vR x :: l) (st) σ = run 26 185 (vR x :: l) (vR x :: st) σ := (run_eq 26 184 _ _ σ).trans rfl
theorem e26_185 (ls st : List AV) (σ : St) (x : Nat) : run 26 185 ls (vR x :: st) σ = run 26 186 ls (vR x :: vR x :: st) σ := (run_eq 26 185 _ _ σ).trans rfl
theorem e26_186 (ls st : List AV) (σ : St) (x : Nat) (h : fok σ x 1) : run 26 186 (ls) (vR x :: st) σ = run 26 189 (ls) (vI (gt σ x 2) :: st) σ := (run_eq 26 186 _ _ σ).trans (if_pos h)
theorem e26_189 (ls st : List AV) (σ : St) : run 26 189 (ls) (st) σ = run 26 190 (ls) (vI 1 :: st) σ := (run_eq 26 189 _ _ σ).trans rfl
theorem e26_190 (ls st : List AV) (σ : St) (y x : Int) : run 26 190 (ls) (vI y :: vI x :: st) σ = run 26 191 (ls) (vI (wr (x + y)) :: st) σ := (run_eq 26 190 _ _ σ).trans rfl
theorem e26_191 (ls st : List AV) (σ : St) (z : Int) (x : Nat) (h : fok σ x 1) : run 26 191 (ls) (vI z :: vR x :: st) σ = run 26 194 (ls) (st) (sr σ x (ru (gt σ x) 2 z)) := (run_eq 26 191 _ _ σ).trans (if_pos h)
theorem e26_194 (ls st : List AV) (σ : St) : run 26 194 (ls) (st) σ = run 26 40 (ls) (st) σ := (run_eq 26 194 _ _ σ).trans rfl
theorem e26_197 (ls : List AV) (σ : St) : run 26 197 ls [] σ = some (vU, σ) := (run_eq 26 197 _ _ σ).trans rfl
/-! B_copyAll -/
theorem e27_0 (a0 : AV) (l st : List AV) (σ : St) (x : Nat) : run 27 0 (a0 :: vR x :: l) (st) σ = run 27 1 (a0 :: vR x :: l) (vR x :: st) σ := (run_eq 27 0 _ _ σ).trans rfl
theorem e27_1 (ls st : List AV) (σ : St) (x : Nat) : run 27 1 (ls) (vR x :: st) σ = if x = 0 then run 27 4 (ls) (st) σ else run 27 5 (ls) (st) σ := (run_eq 27 1 _ _ σ).trans rfl
theorem e27_4 (ls : List AV) (σ : St) : run 27 4 ls [] σ = some (vU, σ) := (run_eq 27 4 _ _ σ).trans rfl
theorem e27_5 (l st : List AV) (σ : St) (x : Nat) : run 27 5 (vR x :: l) (st) σ = run 27 6 (vR x :: l) (vR x :: st) σ := (run_eq 27 5 _ _ σ).trans rfl
theorem e27_6 (a0 : AV) (l st : List AV) (σ : St) (x : Nat) : run 27 6 (a0 :: vR x :: l) (st) σ = run 27 7 (a0 :: vR x :: l) (vR x :: st) σ := (run_eq 27 6 _ _ σ).trans rfl
theorem e27_7 (ls st : List AV) (σ : St) (x : Nat) (h : fok σ x 0) : run 27 7 (ls) (vR x :: st) σ = run 27 10 (ls) (vI (gt σ x 0) :: st) σ := (run_eq 27 7 _ _ σ).trans (if_pos h)
theorem e27_10 (ls st : List AV) (σ : St) (z : Int) (x : Nat) (h : fok σ x 0) : run 27 10 (ls) (vI z :: vR x :: st) σ = run 27 13 (ls) (st) (sr σ x (ru (gt σ x) 0 z)) := (run_eq 27 10 _ _ σ).trans (if_pos h)
theorem e27_13 (l st : List AV) (σ : St) (x : Nat) : run 27 13 (vR x :: l) (st) σ = run 27 14 (vR x :: l) (vR x :: st) σ := (run_eq 27 13 _ _ σ).trans rfl
theorem e27_14 (a0 : AV) (l st : List AV) (σ : St) (x : Nat) : run 27 14 (a0 :: vR x :: l) (st) σ = run 27 15 (a0 :: vR x :: l) (vR x :: st) σ := (run_eq 27 14 _ _ σ).trans rfl
theorem e27_15 (ls st : List AV) (σ : St) (x : Nat) (h : fok σ x 0) : run 27 15 (ls) (vR x :: st) σ = run 27 18 (ls) (vI (gt σ x 1) :: st) σ := (run_eq 27 15 _ _ σ).trans (if_pos h)
theorem e27_18 (ls st : List AV) (σ : St) (z : Int) (x : Nat) (h : fok σ x 0) : run 27 18 (ls) (vI z :: vR x :: st) σ = run 27 21 (ls) (st) (sr σ x (ru (gt σ x) 1 z)) := (run_eq 27 18 _ _ σ).trans (if_pos h)
theorem e27_21 (l st : List AV) (σ : St) (x : Nat) : run 27 21 (vR x :: l) (st) σ = run 27 22 (vR x :: l) (vR x :: st) σ := (run_eq 27 21 _ _ σ).trans rfl
theorem e27_22 (a0 : AV) (l st : List AV) (σ : St) (x : Nat) : run 27 22 (a0 :: vR x :: l) (st) σ = run 27 23 (a0 :: vR x :: l) (vR x :: st) σ := (run_eq 27 22 _ _ σ).trans rfl
theorem e27_23 (ls st : List AV) (σ : St) (x : Nat) (h : fok σ x 0) : run 27 23 (ls) (vR x :: st) σ = run 27 26 (ls) (vI (gt σ x 2) :: st) σ := (run_eq 27 23 _ _ σ).trans (if_pos h)
theorem e27_26 (ls st : List AV) (σ : St) (z : Int) (x : Nat) (h : fok σ x 0) : run 27 26 (ls) (vI z :: vR x :: st) σ = run 27 29 (ls) (st) (sr σ x (ru (gt σ x) 2 z)) := (run_eq 27 26 _ _ σ).trans (if_pos h)
theorem e27_29 (l st : List AV) (σ : St) (x : Nat) : run 27 29 (vR x :: l) (st) σ = run 27 30 (vR x :: l) (vR x :: st) σ := (run_eq 27 29 _ _ σ).trans rfl
theorem e27_30 (a0 : AV) (l st : List AV) (σ : St) (x : Nat) : run 27 30 (a0 :: vR x :: l) (st) σ = run 27 31 (a0 :: vR x :: l) (vR x :: st) σ := (run_eq 27 30 _ _ σ).trans rfl
theorem e27_31 (ls st : List AV) (σ : St) (x : Nat) (h : fok σ x 0) : run 27 31 (ls) (vR x :: st) σ = run 27 34 (ls) (vI (gt σ x 3) :: st) σ := (run_eq 27 31 _ _ σ).trans (if_pos h)
theorem e27_34 (ls st : List AV) (σ : St) (z : Int) (x : Nat) (h : fok σ x 0) : run 27 34 (ls) (vI z :: vR x :: st) σ = run 27 37 (ls) (st) (sr σ x (ru (gt σ x) 3 z)) := (run_eq 27 34 _ _ σ).trans (if_pos h)
theorem e27_37 (l st : List AV) (σ : St) (x : Nat) : run 27 37 (vR x :: l) (st) σ = run 27 38 (vR x :: l) (vR x :: st) σ := (run_eq 27 37 _ _ σ).trans rfl
theorem e27_38 (a0 : AV) (l st : List AV) (σ : St) (x : Nat) : run 27 38 (a0 :: vR x :: l) (st) σ = run 27 39 (a0 :: vR x :: l) (vR x :: st) σ := (run_eq 27 38 _ _ σ).trans rfl
theorem e27_39 (ls st : List AV) (σ : St) (x : Nat) (h : fok σ x 0) : run 27 39 (ls) (vR x :: st) σ = run 27 42 (ls) (vI (gt σ x 4) :: st) σ := (run_eq 27 39 _ _ σ).trans (if_pos h)
theorem e27_42 (ls st : List AV) (σ : St) (z : Int) (x : Nat) (h : fok σ x 0) : run 27 42 (ls) (vI z :: vR x :: st) σ = run 27 45 (ls) (st) (sr σ x (ru (gt σ x) 4 z)) := (run_eq 27 42 _ _ σ).trans (if_pos h)
theorem e27_45 (l st : List AV) (σ : St) (x : Nat) : run 27 45 (vR x :: l) (st) σ = run 27 46 (vR x :: l) (vR x :: st) σ := (run_eq 27 45 _ _ σ).trans rfl
theorem e27_46 (a0 : AV) (l st : List AV) (σ : St) (x : Nat) : run 27 46 (a0 :: vR x :: l) (st) σ = run 27 47 (a0 :: vR x :: l) (vR x :: st) σ := (run_eq 27 46 _ _ σ).trans rfl
theorem e27_47 (ls st : List AV) (σ : St) (x : Nat) (h : fok σ x 0) : run 27 47 (ls) (vR x :: st) σ = run 27 50 (ls) (vI (gt σ x 5) :: st) σ := (run_eq 27 47 _ _ σ).trans (if_pos h)
theorem e27_50 (ls st : List AV) (σ : St) (z : Int) (x : Nat) (h : fok σ x 0) : run 27 50 (ls) (vI z :: vR x :: st) σ = run 27 53 (ls) (st) (sr σ x (ru (gt σ x) 5 z)) := (run_eq 27 50 _ _ σ).trans (if_pos h)
theorem e27_53 (a0 : AV) (l st : List AV) (σ : St) (x : Nat) : run 27 53 (a0 :: vR x :: l) (st) σ = run 27 54 (a0 :: vR x :: l) (vR x :: st) σ := (run_eq 27 53 _ _ σ).trans rfl
theorem e27_54 (ls st : List AV) (σ : St) (x : Nat) (h : fok σ x 0) : run 27 54 (ls) (vR x :: st) σ = run 27 57 (ls) (vR (gr σ x 10) :: st) σ := (run_eq 27 54 _ _ σ).trans (if_pos h)
theorem e27_57 (l st : List AV) (σ : St) (x : Nat) : run 27 57 (vR x :: l) (st) σ = run 27 58 (vR x :: l) (vR x :: st) σ := (run_eq 27 57 _ _ σ).trans rfl
theorem e27_58 (ls st : List AV) (σ : St) (x : Nat) (h : fok σ x 0) : run 27 58 (ls) (vR x :: st) σ = run 27 61 (ls) (vR (gr σ x 10) :: st) σ := (run_eq 27 58 _ _ σ).trans (if_pos h)
theorem e27_61 (ls st : List AV) (σ : St) (x0 : Nat) (x1 : Nat) (h4 : st.length ≤ 4) : run 27 61 ls (vR x1 :: vR x0 :: st) σ = bnd (run 28 0 [vR x0, vR x1, vU] [] σ) (fun r σ => run 27 64 ls (psh r st) σ) := (run_eq 27 61 _ _ σ).trans (if_pos ⟨rfl, by simp, by simpa using h4⟩)
theorem e27_64 (a0 : AV) (l st : List AV) (σ : St) (x : Nat) : run 27 64 (a0 :: vR x :: l) (st) σ = run 27 65 (a0 :: vR x :: l) (vR x :: st) σ := (run_eq 27 64 _ _ σ).trans rfl
theorem e27_65 (ls st : List AV) (σ : St) (x : Nat) (h : fok σ x 0) : run 27 65 (ls) (vR x :: st) σ = run 27 68 (ls) (vR (gr σ x 11) :: st) σ := (run_eq 27 65 _ _ σ).trans (if_pos h)
theorem e27_68 (l st : List AV) (σ : St) (x : Nat) : run 27 68 (vR x :: l) (st) σ = run 27 69 (vR x :: l) (vR x :: st) σ := (run_eq 27 68 _ _ σ).trans rfl
theorem e27_69 (ls st : List AV) (σ : St) (x : Nat) (h : fok σ x 0) : run 27 69 (ls) (vR x :: st) σ = run 27 72 (ls) (vR (gr σ x 11) :: st) σ := (run_eq 27 69 _ _ σ).trans (if_pos h)
theorem e27_72 (ls st : List AV) (σ : St) (x0 : Nat) (x1 : Nat) (h4 : st.length ≤ 4) : run 27 72 ls (vR x1 :: vR x0 :: st) σ = bnd (run 28 0 [vR x0, vR x1, vU] [] σ) (fun r σ => run 27 75 ls (psh r st) σ) := (run_eq 27 72 _ _ σ).trans (if_pos ⟨rfl, by simp, by simpa using h4⟩)
theorem e27_75 (a0 : AV) (l st : List AV) (σ : St) (x : Nat) : run 27 75 (a0 :: vR x :: l) (st) σ = run 27 76 (a0 :: vR x :: l) (vR x :: st) σ := (run_eq 27 75 _ _ σ).trans rfl
theorem e27_76 (ls st : List AV) (σ : St) (x : Nat) (h : fok σ x 0) : run 27 76 (ls) (vR x :: st) σ = run 27 79 (ls) (vR (gr σ x 12) :: st) σ := (run_eq 27 76 _ _ σ).trans (if_pos h)
theorem e27_79 (l st : List AV) (σ : St) (x : Nat) : run 27 79 (vR x :: l) (st) σ = run 27 80 (vR x :: l) (vR x :: st) σ := (run_eq 27 79 _ _ σ).trans rfl
theorem e27_80 (ls st : List AV) (σ : St) (x : Nat) (h : fok σ x 0) : run 27 80 (ls) (vR x :: st) σ = run 27 83 (ls) (vR (gr σ x 12) :: st) σ := (run_eq 27 80 _ _ σ).trans (if_pos h)
theorem e27_83 (ls st : List AV) (σ : St) (x0 : Nat) (x1 : Nat) (h4 : st.length ≤ 4) : run 27 83 ls (vR x1 :: vR x0 :: st) σ = bnd (run 28 0 [vR x0, vR x1, vU] [] σ) (fun r σ => run 27 86 ls (psh r st) σ) := (run_eq 27 83 _ _ σ).trans (if_pos ⟨rfl, by simp, by simpa using h4⟩)
theorem e27_86 (l st : List AV) (σ : St) (x : Nat) : run 27 86 (vR x :: l) (st) σ = run 27 87 (vR x :: l) (vR x :: st) σ := (run_eq 27 86 _ _ σ).trans rfl
theorem e27_87 (a0 : AV) (l st : List AV) (σ : St) (x : Nat) : run 27 87 (a0 :: vR x :: l) (st) σ = run 27 88 (a0 :: vR x :: l) (vR x :: st) σ := (run_eq 27 87 _ _ σ).trans rfl
theorem e27_88 (ls st : List AV) (σ : St) (x0 : Nat) (x1 : Nat) (h4 : st.length ≤ 4) (h : fok σ x0 0) : run 27 88 ls (vR x1 :: vR x0 :: st) σ = bnd (run 29 0 [vR x0, vR x1] [] σ) (fun r σ => run 27 91 ls (psh r st) σ) := (run_eq 27 88 _ _ σ).trans (if_pos ⟨rfl, by simp, by simpa using h4, rfl, h⟩)
theorem e27_91 (ls : List AV) (σ : St) : run 27 91 ls [] σ = some (vU, σ) := (run_eq 27 91 _ _ σ).trans rfl
/-! B_copyFog -/
theorem e29_0 (a0 : AV) (l st : List AV) (σ : St) (x : Nat) : run 29 0 (a0 :: vR x :: l) (st) σ = run 29 1 (a0 :: vR x :: l) (vR x :: st) σ := (run_eq 29 0 _ _ σ).trans rfl
theorem e29_1 (ls st : List AV) (σ : St) (x : Nat) : run 29 1 (ls) (vR x :: st) σ = if x = 0 then run 29 4 (ls) (st) σ else run 29 5 (ls) (st) σ := (run_eq 29 1 _ _ σ).trans rfl
theorem e29_4 (ls : List AV) (σ : St) : run 29 4 ls [] σ = some (vU, σ) := (run_eq 29 4 _ _ σ).trans rfl
theorem e29_5 (a0 : AV) (l st : List AV) (σ : St) (x : Nat) : run 29 5 (a0 :: vR x :: l) (st) σ = run 29 6 (a0 :: vR x :: l) (vR x :: st) σ := (run_eq 29 5 _ _ σ).trans rfl
theorem e29_6 (ls st : List AV) (σ : St) (x : Nat) (h : fok σ x 0) : run 29 6 (ls) (vR x :: st) σ = run 29 9 (ls) (vR (gr σ x 6) :: st) σ := (run_eq 29 6 _ _ σ).trans (if_pos h)
theorem e29_9 (l st : List AV) (σ : St) (x : Nat) : run 29 9 (vR x :: l) (st) σ = run 29 10 (vR x :: l) (vR x :: st) σ := (run_eq 29 9 _ _ σ).trans rfl
theorem e29_10 (ls st : List AV) (σ : St) (x : Nat) (h : fok σ x 0) : run 29 10 (ls) (vR x :: st) σ = run 29 13 (ls) (vR (gr σ x 6) :: st) σ := (run_eq 29 10 _ _ σ).trans (if_pos h)
theorem e29_13 (ls st : List AV) (σ : St) (x0 : Nat) (x1 : Nat) (h4 : st.length ≤ 4) : run 29 13 ls (vR x1 :: vR x0 :: st) σ = bnd (run 28 0 [vR x0, vR x1, vU] [] σ) (fun r σ => run 29 16 ls (psh r st) σ) := (run_eq 29 13 _ _ σ).trans (if_pos ⟨rfl, by simp, by simpa using h4⟩)
theorem e29_16 (a0 : AV) (l st : List AV) (σ : St) (x : Nat) : run 29 16 (a0 :: vR x :: l) (st) σ = run 29 17 (a0 :: vR x :: l) (vR x :: st) σ := (run_eq 29 16 _ _ σ).trans rfl
theorem e29_17 (ls st : List AV) (σ : St) (x : Nat) (h : fok σ x 0) : run 29 17 (ls) (vR x :: st) σ = run 29 20 (ls) (vR (gr σ x 7) :: st) σ := (run_eq 29 17 _ _ σ).trans (if_pos h)
theorem e29_20 (l st : List AV) (σ : St) (x : Nat) : run 29 20 (vR x :: l) (st) σ = run 29 21 (vR x :: l) (vR x :: st) σ := (run_eq 29 20 _ _ σ).trans rfl
theorem e29_21 (ls st : List AV) (σ : St) (x : Nat) (h : fok σ x 0) : run 29 21 (ls) (vR x :: st) σ = run 29 24 (ls) (vR (gr σ x 7) :: st) σ := (run_eq 29 21 _ _ σ).trans (if_pos h)
theorem e29_24 (ls st : List AV) (σ : St) (x0 : Nat) (x1 : Nat) (h4 : st.length ≤ 4) : run 29 24 ls (vR x1 :: vR x0 :: st) σ = bnd (run 28 0 [vR x0, vR x1, vU] [] σ) (fun r σ => run 29 27 ls (psh r st) σ) := (run_eq 29 24 _ _ σ).trans (if_pos ⟨rfl, by simp, by simpa using h4⟩)
theorem e29_27 (a0 : AV) (l st : List AV) (σ : St) (x : Nat) : run 29 27 (a0 :: vR x :: l) (st) σ = run 29 28 (a0 :: vR x :: l) (vR x :: st) σ := (run_eq 29 27 _ _ σ).trans rfl
theorem e29_28 (ls st : List AV) (σ : St) (x : Nat) (h : fok σ x 0) : run 29 28 (ls) (vR x :: st) σ = run 29 31 (ls) (vR (gr σ x 8) :: st) σ := (run_eq 29 28 _ _ σ).trans (if_pos h)
theorem e29_31 (l st : List AV) (σ : St) (x : Nat) : run 29 31 (vR x :: l) (st) σ = run 29 32 (vR x :: l) (vR x :: st) σ := (run_eq 29 31 _ _ σ).trans rfl
theorem e29_32 (ls st : List AV) (σ : St) (x : Nat) (h : fok σ x 0) : run 29 32 (ls) (vR x :: st) σ = run 29 35 (ls) (vR (gr σ x 8) :: st) σ := (run_eq 29 32 _ _ σ).trans (if_pos h)
theorem e29_35 (ls st : List AV) (σ : St) (x0 : Nat) (x1 : Nat) (h4 : st.length ≤ 4) : run 29 35 ls (vR x1 :: vR x0 :: st) σ = bnd (run 28 0 [vR x0, vR x1, vU] [] σ) (fun r σ => run 29 38 ls (psh r st) σ) := (run_eq 29 35 _ _ σ).trans (if_pos ⟨rfl, by simp, by simpa using h4⟩)
theorem e29_38 (ls : List AV) (σ : St) : run 29 38 ls [] σ = some (vU, σ) := (run_eq 29 38 _ _ σ).trans rfl
/-! B_pass -/
theorem e30_0 (ls st : List AV) (σ : St) : run 30 0 (ls) (st) σ = run 30 1 (ls) (vI 0 :: st) σ := (run_eq 30 0 _ _ σ).trans rfl
theorem e30_1 (a0 a1 : AV) (l st : List AV) (σ : St) (q : AV) (x : Int) : run 30 1 (a0 :: a1 :: q :: l) (vI x :: st) σ = run 30 2 (a0 :: a1 :: vI x :: l) (st) σ := (run_eq 30 1 _ _ σ).trans rfl
theorem e30_2 (a0 a1 : AV) (l st : List AV) (σ : St) (x : Int) : run 30 2 (a0 :: a1 :: vI x :: l) (st) σ = run 30 3 (a0 :: a1 :: vI x :: l) (vI x :: st) σ := (run_eq 30 2 _ _ σ).trans rfl
theorem e30_3 (l st : List AV) (σ : St) (x : Nat) : run 30 3 (vR x :: l) (st) σ = run 30 4 (vR x :: l) (vR x :: st) σ := (run_eq 30 3 _ _ σ).trans rfl
theorem e30_4 (ls st : List AV) (σ : St) (x : Nat) (h : fok σ x 0) : run 30 4 (ls) (vR x :: st) σ = run 30 7 (ls) (vI (gt σ x 2) :: st) σ := (run_eq 30 4 _ _ σ).trans (if_pos h)
theorem e30_7 (ls st : List AV) (σ : St) (y x : Int) : run 30 7 (ls) (vI y :: vI x :: st) σ = if x < y then run 30 10 (ls) (st) σ else run 30 45 (ls) (st) σ := (run_eq 30 7 _ _ σ).trans rfl
theorem e30_10 (l st : List AV) (σ : St) (x : Nat) : run 30 10 (vR x :: l) (st) σ = run 30 11 (vR x :: l) (vR x :: st) σ := (run_eq 30 10 _ _ σ).trans rfl
theorem e30_11 (ls st : List AV) (σ : St) (x : Nat) (h : fok σ x 0) : run 30 11 (ls) (vR x :: st) σ = run 30 14 (ls) (vR (gr σ x 6) :: st) σ := (run_eq 30 11 _ _ σ).trans (if_pos h)
theorem e30_14 (a0 a1 : AV) (l st : List AV) (σ : St) (x : Int) : run 30 14 (a0 :: a1 :: vI x :: l) (st) σ = run 30 15 (a0 :: a1 :: vI x :: l) (vI x :: st) σ := (run_eq 30 14 _ _ σ).trans rfl
theorem e30_15 (ls st : List AV) (σ : St) : run 30 15 (ls) (st) σ = run 30 16 (ls) (vI 0 :: st) σ := (run_eq 30 15 _ _ σ).trans rfl
theorem e30_16 (l st : List AV) (σ : St) (x : Nat) : run 30 16 (vR x :: l) (st) σ = run 30 17 (vR x :: l) (vR x :: st) σ := (run_eq 30 16 _ _ σ).trans rfl
theorem e30_17 (ls st : List AV) (σ : St) (x : Nat) (h : fok σ x 0) : run 30 17 (ls) (vR x :: st) σ = run 30 20 (ls) (vR (gr σ x 6) :: st) σ := (run_eq 30 17 _ _ σ).trans (if_pos h)
theorem e30_20 (a0 a1 : AV) (l st : List AV) (σ : St) (x : Int) : run 30 20 (a0 :: a1 :: vI x :: l) (st) σ = run 30 21 (a0 :: a1 :: vI x :: l) (vI x :: st) σ := (run_eq 30 20 _ _ σ).trans rfl
theorem e30_21 (ls st : List AV) (σ : St) (x0 : Nat) (x1 : Int) (h4 : st.length ≤ 4) : run 30 21 ls (vI x1 :: vR x0 :: st) σ = bnd (run 10 0 [vR x0, vI x1] [] σ) (fun r σ => run 30 24 ls (psh r st) σ) := (run_eq 30 21 _ _ σ).trans (if_pos ⟨rfl, by simp, by simpa using h4⟩)
theorem e30_24 (l st : List AV) (σ : St) (x : Nat) : run 30 24 (vR x :: l) (st) σ = run 30 25 (vR x :: l) (vR x :: st) σ := (run_eq 30 24 _ _ σ).trans rfl
theorem e30_25 (ls st : List AV) (σ : St) (x : Nat) (h : fok σ x 0) : run 30 25 (ls) (vR x :: st) σ = run 30 28 (ls) (vR (gr σ x 8) :: st) σ := (run_eq 30 25 _ _ σ).trans (if_pos h)
theorem e30_28 (a0 a1 : AV) (l st : List AV) (σ : St) (x : Int) : run 30 28 (a0 :: a1 :: vI x :: l) (st) σ = run 30 29 (a0 :: a1 :: vI x :: l) (vI x :: st) σ := (run_eq 30 28 _ _ σ).trans rfl
theorem e30_29 (ls st : List AV) (σ : St) (x0 : Nat) (x1 : Int) (h4 : st.length ≤ 4) : run 30 29 ls (vI x1 :: vR x0 :: st) σ = bnd (run 10 0 [vR x0, vI x1] [] σ) (fun r σ => run 30 32 ls (psh r st) σ) := (run_eq 30 29 _ _ σ).trans (if_pos ⟨rfl, by simp, by simpa using h4⟩)
theorem e30_32 (ls st : List AV) (σ : St) (y x : Int) : run 30 32 (ls) (vI y :: vI x :: st) σ = run 30 33 (ls) (vI (wr (x - y)) :: st) σ := (run_eq 30 32 _ _ σ).trans rfl
theorem e30_33 (ls st : List AV) (σ : St) (y x : Int) (h4 : st.length ≤ 4) : run 30 33 (ls) (vI y :: vI x :: st) σ = run 30 36 (ls) (vI (if x < y then y else x) :: st) σ := (run_eq 30 33 _ _ σ).trans (if_pos h4)
theorem e30_36 (ls st : List AV) (σ : St) (x0 : Nat) (x1 : Int) (x2 : Int) (h4 : st.length ≤ 4) : run 30 36 ls (vI x2 :: vI x1 :: vR x0 :: st) σ = bnd (run 11 0 [vR x0, vI x1, vI x2] [] σ) (fun r σ => run 30 39 ls (psh r st) σ) := (run_eq 30 36 _ _ σ).trans (if_pos ⟨rfl, by simp, by simpa using h4⟩)
theorem e30_39 (a0 a1 : AV) (l st : List AV) (σ : St) (x : Int) : run 30 39 (a0 :: a1 :: vI x :: l) (st) σ = run 30 42 (a0 :: a1 :: vI (wr (x + 1)) :: l) (st) σ := (run_eq 30 39 _ _ σ).trans rfl
theorem e30_42 (ls st : List AV) (σ : St) : run 30 42 (ls) (st) σ = run 30 2 (ls) (st) σ := (run_eq 30 42 _ _ σ).trans rfl
theorem e30_45 (a0 : AV) (l st : List AV) (σ : St) (x : Int) : run 30 45 (a0 :: vI x :: l) (st) σ = run 30 46 (a0 :: vI x :: l) (vI x :: st) σ := (run_eq 30 45 _ _ σ).trans rfl
theorem e30_46 (ls st : List AV) (σ : St) : run 30 46 (ls) (st) σ = run 30 47 (ls) (vI 4 :: st) σ := (run_eq 30 46 _ _ σ).trans rfl
theorem e30_47 (ls st : List AV) (σ : St) (y x : Int) : run 30 47 (ls) (vI y :: vI x :: st) σ = if x = y then run 30 50 (ls) (st) σ else run 30 102 (ls) (st) σ := (run_eq 30 47 _ _ σ).trans rfl
theorem e30_50 (ls st : List AV) (σ : St) : run 30 50 (ls) (st) σ = run 30 51 (ls) (vI 0 :: st) σ := (run_eq 30 50 _ _ σ).trans rfl
theorem e30_51 (a0 a1 : AV) (l st : List AV) (σ : St) (q : AV) (x : Int) : run 30 51 (a0 :: a1 :: q :: l) (vI x :: st) σ = run 30 52 (a0 :: a1 :: vI x :: l) (st) σ := (run_eq 30 51 _ _ σ).trans rfl
theorem e30_52 (a0 a1 : AV) (l st : List AV) (σ : St) (x : Int) : run 30 52 (a0 :: a1 :: vI x :: l) (st) σ = run 30 53 (a0 :: a1 :: vI x :: l) (vI x :: st) σ := (run_eq 30 52 _ _ σ).trans rfl
theorem e30_53 (l st : List AV) (σ : St) (x : Nat) : run 30 53 (vR x :: l) (st) σ = run 30 54 (vR x :: l) (vR x :: st) σ := (run_eq 30 53 _ _ σ).trans rfl
theorem e30_54 (ls st : List AV) (σ : St) (x : Nat) (h : fok σ x 0) : run 30 54 (ls) (vR x :: st) σ = run 30 57 (ls) (vI (gt σ x 0) :: st) σ := (run_eq 30 54 _ _ σ).trans (if_pos h)
theorem e30_57 (ls st : List AV) (σ : St) (y x : Int) : run 30 57 (ls) (vI y :: vI x :: st) σ = if x < y then run 30 60 (ls) (st) σ else run 30 99 (ls) (st) σ := (run_eq 30 57 _ _ σ).trans rfl
theorem e30_60 (a0 a1 : AV) (l st : List AV) (σ : St) (x : Int) : run 30 60 (a0 :: a1 :: vI x :: l) (st) σ = run 30 61 (a0 :: a1 :: vI x :: l) (vI x :: st) σ := (run_eq 30 60 _ _ σ).trans rfl
theorem e30_61 (l st : List AV) (σ : St) (x : Nat) : run 30 61 (vR x :: l) (st) σ = run 30 62 (vR x :: l) (vR x :: st) σ := (run_eq 30 61 _ _ σ).trans rfl
theorem e30_62 (ls st : List AV) (σ : St) (x : Nat) (h : fok σ x 0) : run 30 62 (ls) (vR x :: st) σ = run 30 65 (ls) (vI (gt σ x 1) :: st) σ := (run_eq 30 62 _ _ σ).trans (if_pos h)
theorem e30_65 (ls st : List AV) (σ : St) (y x : Int) : run 30 65 (ls) (vI y :: vI x :: st) σ = run 30 66 (ls) (vI (wr (x * y)) :: st) σ := (run_eq 30 65 _ _ σ).trans rfl
theorem e30_66 (a0 a1 a2 : AV) (l st : List AV) (σ : St) (q : AV) (x : Int) : run 30 66 (a0 :: a1 :: a2 :: q :: l) (vI x :: st) σ = run 30 67 (a0 :: a1 :: a2 :: vI x :: l) (st) σ := (run_eq 30 66 _ _ σ).trans rfl
theorem e30_67 (l st : List AV) (σ : St) (x : Nat) : run 30 67 (vR x :: l) (st) σ = run 30 68 (vR x :: l) (vR x :: st) σ := (run_eq 30 67 _ _ σ).trans rfl
theorem e30_68 (ls st : List AV) (σ : St) (x : Nat) (h : fok σ x 0) : run 30 68 (ls) (vR x :: st) σ = run 30 71 (ls) (vR (gr σ x 6) :: st) σ := (run_eq 30 68 _ _ σ).trans (if_pos h)
theorem e30_71 (a0 a1 a2 : AV) (l st : List AV) (σ : St) (x : Int) : run 30 71 (a0 :: a1 :: a2 :: vI x :: l) (st) σ = run 30 72 (a0 :: a1 :: a2 :: vI x :: l) (vI x :: st) σ := (run_eq 30 71 _ _ σ).trans rfl
theorem e30_72 (ls st : List AV) (σ : St) : run 30 72 (ls) (st) σ = run 30 74 (ls) (vI 9 :: st) σ := (run_eq 30 72 _ _ σ).trans rfl
theorem e30_74 (l st : List AV) (σ : St) (x : Nat) : run 30 74 (vR x :: l) (st) σ = run 30 75 (vR x :: l) (vR x :: st) σ := (run_eq 30 74 _ _ σ).trans rfl
theorem e30_75 (ls st : List AV) (σ : St) (x : Nat) (h : fok σ x 0) : run 30 75 (ls) (vR x :: st) σ = run 30 78 (ls) (vR (gr σ x 6) :: st) σ := (run_eq 30 75 _ _ σ).trans (if_pos h)
theorem e30_78 (a0 a1 a2 : AV) (l st : List AV) (σ : St) (x : Int) : run 30 78 (a0 :: a1 :: a2 :: vI x :: l) (st) σ = run 30 79 (a0 :: a1 :: a2 :: vI x :: l) (vI x :: st) σ := (run_eq 30 78 _ _ σ).trans rfl
theorem e30_79 (ls st : List AV) (σ : St) (x0 : Nat) (x1 : Int) (h4 : st.length ≤ 4) : run 30 79 ls (vI x1 :: vR x0 :: st) σ = bnd (run 10 0 [vR x0, vI x1] [] σ) (fun r σ => run 30 82 ls (psh r st) σ) := (run_eq 30 79 _ _ σ).trans (if_pos ⟨rfl, by simp, by simpa using h4⟩)
theorem e30_82 (l st : List AV) (σ : St) (x : Nat) : run 30 82 (vR x :: l) (st) σ = run 30 83 (vR x :: l) (vR x :: st) σ := (run_eq 30 82 _ _ σ).trans rfl
theorem e30_83 (ls st : List AV) (σ : St) (x : Nat) (h : fok σ x 0) : run 30 83 (ls) (vR x :: st) σ = run 30 86 (ls) (vI (gt σ x 3) :: st) σ := (run_eq 30 83 _ _ σ).trans (if_pos h)
theorem e30_86 (ls st : List AV) (σ : St) (y x : Int) : run 30 86 (ls) (vI y :: vI x :: st) σ = run 30 87 (ls) (vI (wr (x + y)) :: st) σ := (run_eq 30 86 _ _ σ).trans rfl
theorem e30_87 (ls st : List AV) (σ : St) (y x : Int) (h4 : st.length ≤ 4) : run 30 87 (ls) (vI y :: vI x :: st) σ = run 30 90 (ls) (vI (if y < x then y else x) :: st) σ := (run_eq 30 87 _ _ σ).trans (if_pos h4)
theorem e30_90 (ls st : List AV) (σ : St) (x0 : Nat) (x1 : Int) (x2 : Int) (h4 : st.length ≤ 4) : run 30 90 ls (vI x2 :: vI x1 :: vR x0 :: st) σ = bnd (run 11 0 [vR x0, vI x1, vI x2] [] σ) (fun r σ => run 30 93 ls (psh r st) σ) := (run_eq 30 90 _ _ σ).trans (if_pos ⟨rfl, by simp, by simpa using h4⟩)
theorem e30_93 (a0 a1 : AV) (l st : List AV) (σ : St) (x : Int) : run 30 93 (a0 :: a1 :: vI x :: l) (st) σ = run 30 96 (a0 :: a1 :: vI (wr (x + 1)) :: l) (st) σ := (run_eq 30 93 _ _ σ).trans rfl
theorem e30_96 (ls st : List AV) (σ : St) : run 30 96 (ls) (st) σ = run 30 52 (ls) (st) σ := (run_eq 30 96 _ _ σ).trans rfl
theorem e30_99 (ls st : List AV) (σ : St) : run 30 99 (ls) (st) σ = run 30 119 (ls) (st) σ := (run_eq 30 99 _ _ σ).trans rfl
theorem e30_102 (a0 : AV) (l st : List AV) (σ : St) (x : Int) : run 30 102 (a0 :: vI x :: l) (st) σ = run 30 103 (a0 :: vI x :: l) (vI x :: st) σ := (run_eq 30 102 _ _ σ).trans rfl
theorem e30_103 (ls st : List AV) (σ : St) : run 30 103 (ls) (st) σ = run 30 104 (ls) (vI 5 :: st) σ := (run_eq 30 103 _ _ σ).trans rfl
theorem e30_104 (ls st : List AV) (σ : St) (y x : Int) : run 30 104 (ls) (vI y :: vI x :: st) σ = if x = y then run 30 119 (ls) (st) σ else run 30 107 (ls) (st) σ := (run_eq 30 104 _ _ σ).trans rfl
theorem e30_107 (l st : List AV) (σ : St) (x : Nat) : run 30 107 (vR x :: l) (st) σ = run 30 108 (vR x :: l) (vR x :: st) σ := (run_eq 30 107 _ _ σ).trans rfl
theorem e30_108 (a0 : AV) (l st : List AV) (σ : St) (x : Int) : run 30 108 (a0 :: vI x :: l) (st) σ = run 30 109 (a0 :: vI x :: l) (vI x :: st) σ := (run_eq 30 108 _ _ σ).trans rfl
theorem e30_109 (ls st : List AV) (σ : St) (x0 : Int) (h4 : st.length ≤ 4) : run 30 109 ls (vI x0 :: st) σ = bnd (run 31 0 [vI x0] [] σ) (fun r σ => run 30 112 ls (psh r st) σ) := (run_eq 30 109 _ _ σ).trans (if_pos ⟨rfl, by simp, by simpa using h4⟩)
theorem e30_112 (a0 : AV) (l st : List AV) (σ : St) (x : Int) : run 30 112 (a0 :: vI x :: l) (st) σ = run 30 113 (a0 :: vI x :: l) (vI x :: st) σ := (run_eq 30 112 _ _ σ).trans rfl
theorem e30_113 (ls st : List AV) (σ : St) (x0 : Int) (h4 : st.length ≤ 4) : run 30 113 ls (vI x0 :: st) σ = bnd (run 32 0 [vI x0] [] σ) (fun r σ => run 30 116 ls (psh r st) σ) := (run_eq 30 113 _ _ σ).trans (if_pos ⟨rfl, by simp, by simpa using h4⟩)
theorem e30_116 (ls st : List AV) (σ : St) (x0 : Nat) (x1 : Int) (x2 : Int) (h4 : st.length ≤ 4) (h : fok σ x0 0) : run 30 116 ls (vI x2 :: vI x1 :: vR x0 :: st) σ = bnd (run 33 0 [vR x0, vI x1, vI x2, vU, vU, vU, vU, vU] [] σ) (fun r σ => run 30 119 ls (psh r st) σ) := (run_eq 30 116 _ _ σ).trans (if_pos ⟨rfl, by simp, by simpa using h4, rfl, h⟩)
theorem e30_119 (ls : List AV) (σ : St) : run 30 119 ls [] σ = some (vU, σ) := (run_eq 30 119 _ _ σ).trans rfl
/-! B_down -/
theorem e31_0 (l st : List AV) (σ : St) (x : Int) : run 31 0 (vI x :: l) (st) σ = run 31 1 (vI x :: l) (vI x :: st) σ := (run_eq 31 0 _ _ σ).trans rfl
theorem e31_1 (ls st : List AV) (σ : St) : run 31 1 (ls) (st) σ = run 31 2 (ls) (vI 2 :: st) σ := (run_eq 31 1 _ _ σ).trans rfl
theorem e31_2 (ls st : List AV) (σ : St) (y x : Int) : run 31 2 (ls) (vI y :: vI x :: st) σ = if x = y then run 31 5 (ls) (st) σ else run 31 9 (ls) (st) σ := (run_eq 31 2 _ _ σ).trans rfl
theorem e31_5 (ls st : List AV) (σ : St) : run 31 5 (ls) (st) σ = run 31 6 (ls) (vI 1 :: st) σ := (run_eq 31 5 _ _ σ).trans rfl
theorem e31_6 (ls st : List AV) (σ : St) : run 31 6 (ls) (st) σ = run 31 18 (ls) (st) σ := (run_eq 31 6 _ _ σ).trans rfl
theorem e31_9 (l st : List AV) (σ : St) (x : Int) : run 31 9 (vI x :: l) (st) σ = run 31 10 (vI x :: l) (vI x :: st) σ := (run_eq 31 9 _ _ σ).trans rfl
theorem e31_10 (ls st : List AV) (σ : St) (x : Int) : run 31 10 (ls) (vI x :: st) σ = if x = 0 then run 31 13 (ls) (st) σ else run 31 17 (ls) (st) σ := (run_eq 31 10 _ _ σ).trans rfl
theorem e31_13 (ls st : List AV) (σ : St) : run 31 13 (ls) (st) σ = run 31 14 (ls) (vI (-1) :: st) σ := (run_eq 31 13 _ _ σ).trans rfl
theorem e31_14 (ls st : List AV) (σ : St) : run 31 14 (ls) (st) σ = run 31 18 (ls) (st) σ := (run_eq 31 14 _ _ σ).trans rfl
theorem e31_17 (ls st : List AV) (σ : St) : run 31 17 (ls) (st) σ = run 31 18 (ls) (vI 0 :: st) σ := (run_eq 31 17 _ _ σ).trans rfl
theorem e31_18 (ls : List AV) (σ : St) (x : Int) : run 31 18 ls [vI x] σ = some (vI x, σ) := (run_eq 31 18 _ _ σ).trans rfl
/-! B_on -/
theorem e32_0 (l st : List AV) (σ : St) (x : Int) : run 32 0 (vI x :: l) (st) σ = run 32 1 (vI x :: l) (vI x :: st) σ := (run_eq 32 0 _ _ σ).trans rfl
theorem e32_1 (ls st : List AV) (σ : St) : run 32 1 (ls) (st) σ = run 32 2 (ls) (vI 1 :: st) σ := (run_eq 32 1 _ _ σ).trans rfl
theorem e32_2 (ls st : List AV) (σ : St) (y x : Int) : run 32 2 (ls) (vI y :: vI x :: st) σ = if x = y then run 32 5 (ls) (st) σ else run 32 9 (ls) (st) σ := (run_eq 32 2 _ _ σ).trans rfl
theorem e32_5 (ls st : List AV) (σ : St) : run 32 5 (ls) (st) σ = run 32 6 (ls) (vI 1 :: st) σ := (run_eq 32 5 _ _ σ).trans rfl
theorem e32_6 (ls st : List AV) (σ : St) : run 32 6 (ls) (st) σ = run 32 19 (ls) (st) σ := (run_eq 32 6 _ _ σ).trans rfl
theorem e32_9 (l st : List AV) (σ : St) (x : Int) : run 32 9 (vI x :: l) (st) σ = run 32 10 (vI x :: l) (vI x :: st) σ := (run_eq 32 9 _ _ σ).trans rfl
theorem e32_10 (ls st : List AV) (σ : St) : run 32 10 (ls) (st) σ = run 32 11 (ls) (vI 3 :: st) σ := (run_eq 32 10 _ _ σ).trans rfl
theorem e32_11 (ls st : List AV) (σ : St) (y x : Int) : run 32 11 (ls) (vI y :: vI x :: st) σ = if x = y then run 32 14 (ls) (st) σ else run 32 18 (ls) (st) σ := (run_eq 32 11 _ _ σ).trans rfl
theorem e32_14 (ls st : List AV) (σ : St) : run 32 14 (ls) (st) σ = run 32 15 (ls) (vI (-1) :: st) σ := (run_eq 32 14 _ _ σ).trans rfl
theorem e32_15 (ls st : List AV) (σ : St) : run 32 15 (ls) (st) σ = run 32 19 (ls) (st) σ := (run_eq 32 15 _ _ σ).trans rfl
theorem e32_18 (ls st : List AV) (σ : St) : run 32 18 (ls) (st) σ = run 32 19 (ls) (vI 0 :: st) σ := (run_eq 32 18 _ _ σ).trans rfl
theorem e32_19 (ls : List AV) (σ : St) (x : Int) : run 32 19 ls [vI x] σ = some (vI x, σ) := (run_eq 32 19 _ _ σ).trans rfl
/-! B_blow -/
theorem e33_0 (l st : List AV) (σ : St) (x : Nat) : run 33 0 (vR x :: l) (st) σ = run 33 1 (vR x :: l) (vR x :: st) σ := (run_eq 33 0 _ _ σ).trans rfl
theorem e33_1 (ls st : List AV) (σ : St) (x : Nat) (h : fok σ x 0) : run 33 1 (ls) (vR x :: st) σ = run 33 4 (ls) (vR (gr σ x 6) :: st) σ := (run_eq 33 1 _ _ σ).trans (if_pos h)
theorem e33_4 (l st : List AV) (σ : St) (x : Nat) : run 33 4 (vR x :: l) (st) σ = run 33 5 (vR x :: l) (vR x :: st) σ := (run_eq 33 4 _ _ σ).trans rfl
theorem e33_5 (ls st : List AV) (σ : St) (x : Nat) (h : fok σ x 0) : run 33 5 (ls) (vR x :: st) σ = run 33 8 (ls) (vR (gr σ x 9) :: st) σ := (run_eq 33 5 _ _ σ).trans (if_pos h)
theorem e33_8 (ls st : List AV) (σ : St) (x0 : Nat) (x1 : Nat) (h4 : st.length ≤ 4) : run 33 8 ls (vR x1 :: vR x0 :: st) σ = bnd (run 28 0 [vR x0, vR x1, vU] [] σ) (fun r σ => run 33 11 ls (psh r st) σ) := (run_eq 33 8 _ _ σ).trans (if_pos ⟨rfl, by simp, by simpa using h4⟩)
theorem e33_11 (ls st : List AV) (σ : St) : run 33 11 (ls) (st) σ = run 33 12 (ls) (vI 0 :: st) σ := (run_eq 33 11 _ _ σ).trans rfl
theorem e33_12 (a0 a1 a2 : AV) (l st : List AV) (σ : St) (q : AV) (x : Int) : run 33 12 (a0 :: a1 :: a2 :: q :: l) (vI x :: st) σ = run 33 13 (a0 :: a1 :: a2 :: vI x :: l) (st) σ := (run_eq 33 12 _ _ σ).trans rfl
theorem e33_13 (a0 a1 a2 : AV) (l st : List AV) (σ : St) (x : Int) : run 33 13 (a0 :: a1 :: a2 :: vI x :: l) (st) σ = run 33 14 (a0 :: a1 :: a2 :: vI x :: l) (vI x :: st) σ := (run_eq 33 13 _ _ σ).trans rfl
theorem e33_14 (l st : List AV) (σ : St) (x : Nat) : run 33 14 (vR x :: l) (st) σ = run 33 15 (vR x :: l) (vR x :: st) σ := (run_eq 33 14 _ _ σ).trans rfl
theorem e33_15 (ls st : List AV) (σ : St) (x : Nat) (h : fok σ x 0) : run 33 15 (ls) (vR x :: st) σ = run 33 18 (ls) (vI (gt σ x 0) :: st) σ := (run_eq 33 15 _ _ σ).trans (if_pos h)
theorem e33_18 (ls st : List AV) (σ : St) (y x : Int) : run 33 18 (ls) (vI y :: vI x :: st) σ = if x < y then run 33 21 (ls) (st) σ else run 33 144 (ls) (st) σ := (run_eq 33 18 _ _ σ).trans rfl
theorem e33_21 (ls st : List AV) (σ : St) : run 33 21 (ls) (st) σ = run 33 22 (ls) (vI 0 :: st) σ := (run_eq 33 21 _ _ σ).trans rfl
theorem e33_22 (a0 a1 a2 a3 : AV) (l st : List AV) (σ : St) (q : AV) (x : Int) : run 33 22 (a0 :: a1 :: a2 :: a3 :: q :: l) (vI x :: st) σ = run 33 24 (a0 :: a1 :: a2 :: a3 :: vI x :: l) (st) σ := (run_eq 33 22 _ _ σ).trans rfl
theorem e33_24 (a0 a1 a2 a3 : AV) (l st : List AV) (σ : St) (x : Int) : run 33 24 (a0 :: a1 :: a2 :: a3 :: vI x :: l) (st) σ = run 33 26 (a0 :: a1 :: a2 :: a3 :: vI x :: l) (vI x :: st) σ := (run_eq 33 24 _ _ σ).trans rfl
theorem e33_26 (l st : List AV) (σ : St) (x : Nat) : run 33 26 (vR x :: l) (st) σ = run 33 27 (vR x :: l) (vR x :: st) σ := (run_eq 33 26 _ _ σ).trans rfl
theorem e33_27 (ls st : List AV) (σ : St) (x : Nat) (h : fok σ x 0) : run 33 27 (ls) (vR x :: st) σ = run 33 30 (ls) (vI (gt σ x 1) :: st) σ := (run_eq 33 27 _ _ σ).trans (if_pos h)
theorem e33_30 (ls st : List AV) (σ : St) (y x : Int) : run 33 30 (ls) (vI y :: vI x :: st) σ = if x < y then run 33 33 (ls) (st) σ else run 33 138 (ls) (st) σ := (run_eq 33 30 _ _ σ).trans rfl
theorem e33_33 (a0 a1 a2 : AV) (l st : List AV) (σ : St) (x : Int) : run 33 33 (a0 :: a1 :: a2 :: vI x :: l) (st) σ = run 33 34 (a0 :: a1 :: a2 :: vI x :: l) (vI x :: st) σ := (run_eq 33 33 _ _ σ).trans rfl
theorem e33_34 (l st : List AV) (σ : St) (x : Nat) : run 33 34 (vR x :: l) (st) σ = run 33 35 (vR x :: l) (vR x :: st) σ := (run_eq 33 34 _ _ σ).trans rfl
theorem e33_35 (ls st : List AV) (σ : St) (x : Nat) (h : fok σ x 0) : run 33 35 (ls) (vR x :: st) σ = run 33 38 (ls) (vI (gt σ x 1) :: st) σ := (run_eq 33 35 _ _ σ).trans (if_pos h)
theorem e33_38 (ls st : List AV) (σ : St) (y x : Int) : run 33 38 (ls) (vI y :: vI x :: st) σ = run 33 39 (ls) (vI (wr (x * y)) :: st) σ := (run_eq 33 38 _ _ σ).trans rfl
theorem e33_39 (a0 a1 a2 a3 : AV) (l st : List AV) (σ : St) (x : Int) : run 33 39 (a0 :: a1 :: a2 :: a3 :: vI x :: l) (st) σ = run 33 41 (a0 :: a1 :: a2 :: a3 :: vI x :: l) (vI x :: st) σ := (run_eq 33 39 _ _ σ).trans rfl
theorem e33_41 (ls st : List AV) (σ : St) (y x : Int) : run 33 41 (ls) (vI y :: vI x :: st) σ = run 33 42 (ls) (vI (wr (x + y)) :: st) σ := (run_eq 33 41 _ _ σ).trans rfl
theorem e33_42 (a0 a1 a2 a3 a4 : AV) (l st : List AV) (σ : St) (q : AV) (x : Int) : run 33 42 (a0 :: a1 :: a2 :: a3 :: a4 :: q :: l) (vI x :: st) σ = run 33 44 (a0 :: a1 :: a2 :: a3 :: a4 :: vI x :: l) (st) σ := (run_eq 33 42 _ _ σ).trans rfl
theorem e33_44 (l st : List AV) (σ : St) (x : Nat) : run 33 44 (vR x :: l) (st) σ = run 33 45 (vR x :: l) (vR x :: st) σ := (run_eq 33 44 _ _ σ).trans rfl
theorem e33_45 (a0 a1 a2 : AV) (l st : List AV) (σ : St) (x : Int) : run 33 45 (a0 :: a1 :: a2 :: vI x :: l) (st) σ = run 33 46 (a0 :: a1 :: a2 :: vI x :: l) (vI x :: st) σ := (run_eq 33 45 _ _ σ).trans rfl
theorem e33_46 (a0 : AV) (l st : List AV) (σ : St) (x : Int) : run 33 46 (a0 :: vI x :: l) (st) σ = run 33 47 (a0 :: vI x :: l) (vI x :: st) σ := (run_eq 33 46 _ _ σ).trans rfl
theorem e33_47 (ls st : List AV) (σ : St) (y x : Int) : run 33 47 (ls) (vI y :: vI x :: st) σ = run 33 48 (ls) (vI (wr (x + y)) :: st) σ := (run_eq 33 47 _ _ σ).trans rfl
theorem e33_48 (a0 a1 a2 a3 : AV) (l st : List AV) (σ : St) (x : Int) : run 33 48 (a0 :: a1 :: a2 :: a3 :: vI x :: l) (st) σ = run 33 50 (a0 :: a1 :: a2 :: a3 :: vI x :: l) (vI x :: st) σ := (run_eq 33 48 _ _ σ).trans rfl
theorem e33_50 (a0 a1 : AV) (l st : List AV) (σ : St) (x : Int) : run 33 50 (a0 :: a1 :: vI x :: l) (st) σ = run 33 51 (a0 :: a1 :: vI x :: l) (vI x :: st) σ := (run_eq 33 50 _ _ σ).trans rfl
theorem e33_51 (ls st : List AV) (σ : St) (y x : Int) : run 33 51 (ls) (vI y :: vI x :: st) σ = run 33 52 (ls) (vI (wr (x + y)) :: st) σ := (run_eq 33 51 _ _ σ).trans rfl
theorem e33_52 (ls st : List AV) (σ : St) (x0 : Nat) (x1 : Int) (x2 : Int) (h4 : st.length ≤ 4) (h : fok σ x0 0) : run 33 52 ls (vI x2 :: vI x1 :: vR x0 :: st) σ = bnd (run 14 0 [vR x0, vI x1, vI x2, vU] [] σ) (fun r σ => run 33 55 ls (psh r st) σ) := (run_eq 33 52 _ _ σ).trans (if_pos ⟨rfl, by simp, by simpa using h4, rfl, h⟩)
theorem e33_55 (a0 a1 a2 a3 a4 a5 : AV) (l st : List AV) (σ : St) (q : AV) (x : Int) : run 33 55 (a0 :: a1 :: a2 :: a3 :: a4 :: a5 :: q :: l) (vI x :: st) σ = run 33 57 (a0 :: a1 :: a2 :: a3 :: a4 :: a5 :: vI x :: l) (st) σ := (run_eq 33 55 _ _ σ).trans rfl
theorem e33_57 (a0 a1 a2 a3 a4 a5 : AV) (l st : List AV) (σ : St) (x : Int) : run 33 57 (a0 :: a1 :: a2 :: a3 :: a4 :: a5 :: vI x :: l) (st) σ = run 33 59 (a0 :: a1 :: a2 :: a3 :: a4 :: a5 :: vI x :: l) (vI x :: st) σ := (run_eq 33 57 _ _ σ).trans rfl
theorem e33_59 (ls st : List AV) (σ : St) : run 33 59 (ls) (st) σ = run 33 60 (ls) (vI (-1) :: st) σ := (run_eq 33 59 _ _ σ).trans rfl
theorem e33_60 (ls st : List AV) (σ : St) (y x : Int) : run 33 60 (ls) (vI y :: vI x :: st) σ = if x = y then run 33 63 (ls) (st) σ else run 33 67 (ls) (st) σ := (run_eq 33 60 _ _ σ).trans rfl
theorem e33_63 (ls st : List AV) (σ : St) : run 33 63 (ls) (st) σ = run 33 64 (ls) (vI 0 :: st) σ := (run_eq 33 63 _ _ σ).trans rfl
theorem e33_64 (ls st : List AV) (σ : St) : run 33 64 (ls) (st) σ = run 33 76 (ls) (st) σ := (run_eq 33 64 _ _ σ).trans rfl
theorem e33_67 (l st : List AV) (σ : St) (x : Nat) : run 33 67 (vR x :: l) (st) σ = run 33 68 (vR x :: l) (vR x :: st) σ := (run_eq 33 67 _ _ σ).trans rfl
theorem e33_68 (ls st : List AV) (σ : St) (x : Nat) (h : fok σ x 0) : run 33 68 (ls) (vR x :: st) σ = run 33 71 (ls) (vR (gr σ x 9) :: st) σ := (run_eq 33 68 _ _ σ).trans (if_pos h)
theorem e33_71 (a0 a1 a2 a3 a4 a5 : AV) (l st : List AV) (σ : St) (x : Int) : run 33 71 (a0 :: a1 :: a2 :: a3 :: a4 :: a5 :: vI x :: l) (st) σ = run 33 73 (a0 :: a1 :: a2 :: a3 :: a4 :: a5 :: vI x :: l) (vI x :: st) σ := (run_eq 33 71 _ _ σ).trans rfl
theorem e33_73 (ls st : List AV) (σ : St) (x0 : Nat) (x1 : Int) (h4 : st.length ≤ 4) : run 33 73 ls (vI x1 :: vR x0 :: st) σ = bnd (run 10 0 [vR x0, vI x1] [] σ) (fun r σ => run 33 76 ls (psh r st) σ) := (run_eq 33 73 _ _ σ).trans (if_pos ⟨rfl, by simp, by simpa using h4⟩)
theorem e33_76 (a0 a1 a2 a3 a4 a5 a6 : AV) (l st : List AV) (σ : St) (q : AV) (x : Int) : run 33 76 (a0 :: a1 :: a2 :: a3 :: a4 :: a5 :: a6 :: q :: l) (vI x :: st) σ = run 33 78 (a0 :: a1 :: a2 :: a3 :: a4 :: a5 :: a6 :: vI x :: l) (st) σ := (run_eq 33 76 _ _ σ).trans rfl
theorem e33_78 (a0 a1 a2 a3 a4 a5 a6 : AV) (l st : List AV) (σ : St) (x : Int) : run 33 78 (a0 :: a1 :: a2 :: a3 :: a4 :: a5 :: a6 :: vI x :: l) (st) σ = run 33 80 (a0 :: a1 :: a2 :: a3 :: a4 :: a5 :: a6 :: vI x :: l) (vI x :: st) σ := (run_eq 33 78 _ _ σ).trans rfl
theorem e33_80 (l st : List AV) (σ : St) (x : Nat) : run 33 80 (vR x :: l) (st) σ = run 33 81 (vR x :: l) (vR x :: st) σ := (run_eq 33 80 _ _ σ).trans rfl
theorem e33_81 (ls st : List AV) (σ : St) (x : Nat) (h : fok σ x 0) : run 33 81 (ls) (vR x :: st) σ = run 33 84 (ls) (vR (gr σ x 9) :: st) σ := (run_eq 33 81 _ _ σ).trans (if_pos h)
theorem e33_84 (a0 a1 a2 a3 a4 : AV) (l st : List AV) (σ : St) (x : Int) : run 33 84 (a0 :: a1 :: a2 :: a3 :: a4 :: vI x :: l) (st) σ = run 33 86 (a0 :: a1 :: a2 :: a3 :: a4 :: vI x :: l) (vI x :: st) σ := (run_eq 33 84 _ _ σ).trans rfl
theorem e33_86 (ls st : List AV) (σ : St) (x0 : Nat) (x1 : Int) (h4 : st.length ≤ 4) : run 33 86 ls (vI x1 :: vR x0 :: st) σ = bnd (run 10 0 [vR x0, vI x1] [] σ) (fun r σ => run 33 89 ls (psh r st) σ) := (run_eq 33 86 _ _ σ).trans (if_pos ⟨rfl, by simp, by simpa using h4⟩)
theorem e33_89 (ls st : List AV) (σ : St) (y x : Int) : run 33 89 (ls) (vI y :: vI x :: st) σ = if x < y then run 33 92 (ls) (st) σ else run 33 132 (ls) (st) σ := (run_eq 33 89 _ _ σ).trans rfl
theorem e33_92 (l st : List AV) (σ : St) (x : Nat) : run 33 92 (vR x :: l) (st) σ = run 33 93 (vR x :: l) (vR x :: st) σ := (run_eq 33 92 _ _ σ).trans rfl
theorem e33_93 (ls st : List AV) (σ : St) (x : Nat) (h : fok σ x 0) : run 33 93 (ls) (vR x :: st) σ = run 33 96 (ls) (vR (gr σ x 6) :: st) σ := (run_eq 33 93 _ _ σ).trans (if_pos h)
theorem e33_96 (a0 a1 a2 a3 a4 : AV) (l st : List AV) (σ : St) (x : Int) : run 33 96 (a0 :: a1 :: a2 :: a3 :: a4 :: vI x :: l) (st) σ = run 33 98 (a0 :: a1 :: a2 :: a3 :: a4 :: vI x :: l) (vI x :: st) σ := (run_eq 33 96 _ _ σ).trans rfl
theorem e33_98 (l st : List AV) (σ : St) (x : Nat) : run 33 98 (vR x :: l) (st) σ = run 33 99 (vR x :: l) (vR x :: st) σ := (run_eq 33 98 _ _ σ).trans rfl
theorem e33_99 (ls st : List AV) (σ : St) (x : Nat) (h : fok σ x 0) : run 33 99 (ls) (vR x :: st) σ = run 33 102 (ls) (vR (gr σ x 6) :: st) σ := (run_eq 33 99 _ _ σ).trans (if_pos h)
theorem e33_102 (a0 a1 a2 a3 a4 : AV) (l st : List AV) (σ : St) (x : Int) : run 33 102 (a0 :: a1 :: a2 :: a3 :: a4 :: vI x :: l) (st) σ = run 33 104 (a0 :: a1 :: a2 :: a3 :: a4 :: vI x :: l) (vI x :: st) σ := (run_eq 33 102 _ _ σ).trans rfl
theorem e33_104 (ls st : List AV) (σ : St) (x0 : Nat) (x1 : Int) (h4 : st.length ≤ 4) : run 33 104 ls (vI x1 :: vR x0 :: st) σ = bnd (run 10 0 [vR x0, vI x1] [] σ) (fun r σ => run 33 107 ls (psh r st) σ) := (run_eq 33 104 _ _ σ).trans (if_pos ⟨rfl, by simp, by simpa using h4⟩)
theorem e33_107 (ls st : List AV) (σ : St) : run 33 107 (ls) (st) σ = run 33 108 (ls) (vI 1 :: st) σ := (run_eq 33 107 _ _ σ).trans rfl
theorem e33_108 (ls st : List AV) (σ : St) (y x : Int) : run 33 108 (ls) (vI y :: vI x :: st) σ = run 33 109 (ls) (vI (wr (x - y)) :: st) σ := (run_eq 33 108 _ _ σ).trans rfl
theorem e33_109 (ls st : List AV) (σ : St) (x0 : Nat) (x1 : Int) (x2 : Int) (h4 : st.length ≤ 4) : run 33 109 ls (vI x2 :: vI x1 :: vR x0 :: st) σ = bnd (run 11 0 [vR x0, vI x1, vI x2] [] σ) (fun r σ => run 33 112 ls (psh r st) σ) := (run_eq 33 109 _ _ σ).trans (if_pos ⟨rfl, by simp, by simpa using h4⟩)
theorem e33_112 (l st : List AV) (σ : St) (x : Nat) : run 33 112 (vR x :: l) (st) σ = run 33 113 (vR x :: l) (vR x :: st) σ := (run_eq 33 112 _ _ σ).trans rfl
theorem e33_113 (ls st : List AV) (σ : St) (x : Nat) (h : fok σ x 0) : run 33 113 (ls) (vR x :: st) σ = run 33 116 (ls) (vR (gr σ x 6) :: st) σ := (run_eq 33 113 _ _ σ).trans (if_pos h)
theorem e33_116 (a0 a1 a2 a3 a4 a5 : AV) (l st : List AV) (σ : St) (x : Int) : run 33 116 (a0 :: a1 :: a2 :: a3 :: a4 :: a5 :: vI x :: l) (st) σ = run 33 118 (a0 :: a1 :: a2 :: a3 :: a4 :: a5 :: vI x :: l) (vI x :: st) σ := (run_eq 33 116 _ _ σ).trans rfl
theorem e33_118 (l st : List AV) (σ : St) (x : Nat) : run 33 118 (vR x :: l) (st) σ = run 33 119 (vR x :: l) (vR x :: st) σ := (run_eq 33 118 _ _ σ).trans rfl
theorem e33_119 (ls st : List AV) (σ : St) (x : Nat) (h : fok σ x 0) : run 33 119 (ls) (vR x :: st) σ = run 33 122 (ls) (vR (gr σ x 6) :: st) σ := (run_eq 33 119 _ _ σ).trans (if_pos h)
theorem e33_122 (a0 a1 a2 a3 a4 a5 : AV) (l st : List AV) (σ : St) (x : Int) : run 33 122 (a0 :: a1 :: a2 :: a3 :: a4 :: a5 :: vI x :: l) (st) σ = run 33 124 (a0 :: a1 :: a2 :: a3 :: a4 :: a5 :: vI x :: l) (vI x :: st) σ := (run_eq 33 122 _ _ σ).trans rfl
theorem e33_124 (ls st : List AV) (σ : St) (x0 : Nat) (x1 : Int) (h4 : st.length ≤ 4) : run 33 124 ls (vI x1 :: vR x0 :: st) σ = bnd (run 10 0 [vR x0, vI x1] [] σ) (fun r σ => run 33 127 ls (psh r st) σ) := (run_eq 33 124 _ _ σ).trans (if_pos ⟨rfl, by simp, by simpa using h4⟩)
theorem e33_127 (ls st : List AV) (σ : St) : run 33 127 (ls) (st) σ = run 33 128 (ls) (vI 1 :: st) σ := (run_eq 33 127 _ _ σ).trans rfl
theorem e33_128 (ls st : List AV) (σ : St) (y x : Int) : run 33 128 (ls) (vI y :: vI x :: st) σ = run 33 129 (ls) (vI (wr (x + y)) :: st) σ := (run_eq 33 128 _ _ σ).trans rfl
theorem e33_129 (ls st : List AV) (σ : St) (x0 : Nat) (x1 : Int) (x2 : Int) (h4 : st.length ≤ 4) : run 33 129 ls (vI x2 :: vI x1 :: vR x0 :: st) σ = bnd (run 11 0 [vR x0, vI x1, vI x2] [] σ) (fun r σ => run 33 132 ls (psh r st) σ) := (run_eq 33 129 _ _ σ).trans (if_pos ⟨rfl, by simp, by simpa using h4⟩)
theorem e33_132 (a0 a1 a2 a3 : AV) (l st : List AV) (σ : St) (x : Int) : run 33 132 (a0 :: a1 :: a2 :: a3 :: vI x :: l) (st) σ = run 33 135 (a0 :: a1 :: a2 :: a3 :: vI (wr (x + 1)) :: l) (st) σ := (run_eq 33 132 _ _ σ).trans rfl
theorem e33_135 (ls st : List AV) (σ : St) : run 33 135 (ls) (st) σ = run 33 24 (ls) (st) σ := (run_eq 33 135 _ _ σ).trans rfl
theorem e33_138 (a0 a1 a2 : AV) (l st : List AV) (σ : St) (x : Int) : run 33 138 (a0 :: a1 :: a2 :: vI x :: l) (st) σ = run 33 141 (a0 :: a1 :: a2 :: vI (wr (x + 1)) :: l) (st) σ := (run_eq 33 138 _ _ σ).trans rfl
theorem e33_141 (ls st : List AV) (σ : St) : run 33 141 (ls) (st) σ = run 33 13 (ls) (st) σ := (run_eq 33 141 _ _ σ).trans rfl
theorem e33_144 (ls : List AV) (σ : St) : run 33 144 ls [] σ = some (vU, σ) := (run_eq 33 144 _ _ σ).trans rfl
/-! B_act -/
theorem e34_0 (l st : List AV) (σ : St) (x : Nat) : run 34 0 (vR x :: l) (st) σ = run 34 1 (vR x :: l) (vR x :: st) σ := (run_eq 34 0 _ _ σ).trans rfl
theorem e34_1 (ls st : List AV) (σ : St) (x : Nat) (h : fok σ x 0) : run 34 1 (ls) (vR x :: st) σ = run 34 4 (ls) (vR (gr σ x 6) :: st) σ := (run_eq 34 1 _ _ σ).trans (if_pos h)
theorem e34_4 (a0 : AV) (l st : List AV) (σ : St) (x : Int) : run 34 4 (a0 :: vI x :: l) (st) σ = run 34 5 (a0 :: vI x :: l) (vI x :: st) σ := (run_eq 34 4 _ _ σ).trans rfl
theorem e34_5 (ls st : List AV) (σ : St) (x0 : Nat) (x1 : Int) (h4 : st.length ≤ 4) : run 34 5 ls (vI x1 :: vR x0 :: st) σ = bnd (run 10 0 [vR x0, vI x1] [] σ) (fun r σ => run 34 8 ls (psh r st) σ) := (run_eq 34 5 _ _ σ).trans (if_pos ⟨rfl, by simp, by simpa using h4⟩)
theorem e34_8 (a0 a1 a2 : AV) (l st : List AV) (σ : St) (q : AV) (x : Int) : run 34 8 (a0 :: a1 :: a2 :: q :: l) (vI x :: st) σ = run 34 9 (a0 :: a1 :: a2 :: vI x :: l) (st) σ := (run_eq 34 8 _ _ σ).trans rfl
theorem e34_9 (a0 a1 : AV) (l st : List AV) (σ : St) (x : Int) : run 34 9 (a0 :: a1 :: vI x :: l) (st) σ = run 34 10 (a0 :: a1 :: vI x :: l) (vI x :: st) σ := (run_eq 34 9 _ _ σ).trans rfl
theorem e34_10 (ls st : List AV) (σ : St) : run 34 10 (ls) (st) σ = run 34 12 (ls) (vI 42 :: st) σ := (run_eq 34 10 _ _ σ).trans rfl
theorem e34_12 (ls st : List AV) (σ : St) (y x : Int) : run 34 12 (ls) (vI y :: vI x :: st) σ = if x = y then run 34 15 (ls) (st) σ else run 34 32 (ls) (st) σ := (run_eq 34 12 _ _ σ).trans rfl
theorem e34_15 (l st : List AV) (σ : St) (x : Nat) : run 34 15 (vR x :: l) (st) σ = run 34 16 (vR x :: l) (vR x :: st) σ := (run_eq 34 15 _ _ σ).trans rfl
theorem e34_16 (a0 : AV) (l st : List AV) (σ : St) (x : Int) : run 34 16 (a0 :: vI x :: l) (st) σ = run 34 17 (a0 :: vI x :: l) (vI x :: st) σ := (run_eq 34 16 _ _ σ).trans rfl
theorem e34_17 (ls st : List AV) (σ : St) : run 34 17 (ls) (st) σ = run 34 18 (ls) (vI 1 :: st) σ := (run_eq 34 17 _ _ σ).trans rfl
theorem e34_18 (l st : List AV) (σ : St) (x : Nat) : run 34 18 (vR x :: l) (st) σ = run 34 19 (vR x :: l) (vR x :: st) σ := (run_eq 34 18 _ _ σ).trans rfl
theorem e34_19 (ls st : List AV) (σ : St) (x : Nat) (h : fok σ x 0) : run 34 19 (ls) (vR x :: st) σ = run 34 22 (ls) (vR (gr σ x 7) :: st) σ := (run_eq 34 19 _ _ σ).trans (if_pos h)
theorem e34_22 (a0 : AV) (l st : List AV) (σ : St) (x : Int) : run 34 22 (a0 :: vI x :: l) (st) σ = run 34 23 (a0 :: vI x :: l) (vI x :: st) σ := (run_eq 34 22 _ _ σ).trans rfl
theorem e34_23 (ls st : List AV) (σ : St) (x0 : Nat) (x1 : Int) (h4 : st.length ≤ 4) : run 34 23 ls (vI x1 :: vR x0 :: st) σ = bnd (run 10 0 [vR x0, vI x1] [] σ) (fun r σ => run 34 26 ls (psh r st) σ) := (run_eq 34 23 _ _ σ).trans (if_pos ⟨rfl, by simp, by simpa using h4⟩)
theorem e34_26 (ls st : List AV) (σ : St) (y x : Int) : run 34 26 (ls) (vI y :: vI x :: st) σ = run 34 27 (ls) (vI (wr (x - y)) :: st) σ := (run_eq 34 26 _ _ σ).trans rfl
theorem e34_27 (ls st : List AV) (σ : St) (x0 : Nat) (x1 : Int) (x2 : Int) (h4 : st.length ≤ 4) (h : fok σ x0 0) : run 34 27 ls (vI x2 :: vI x1 :: vR x0 :: st) σ = bnd (run 12 0 [vR x0, vI x1, vI x2] [] σ) (fun r σ => run 34 30 ls (psh r st) σ) := (run_eq 34 27 _ _ σ).trans (if_pos ⟨rfl, by simp, by simpa using h4, rfl, h⟩)
theorem e34_30 (ls st : List AV) (σ : St) : run 34 30 (ls) (st) σ = run 34 31 (ls) (vI 0 :: st) σ := (run_eq 34 30 _ _ σ).trans rfl
theorem e34_31 (ls : List AV) (σ : St) (x : Int) : run 34 31 ls [vI x] σ = some (vI x, σ) := (run_eq 34 31 _ _ σ).trans rfl
theorem e34_32 (a0 a1 : AV) (l st : List AV) (σ : St) (x : Int) : run 34 32 (a0 :: a1 :: vI x :: l) (st) σ = run 34 33 (a0 :: a1 :: vI x :: l) (vI x :: st) σ := (run_eq 34 32 _ _ σ).trans rfl
theorem e34_33 (ls st : List AV) (σ : St) : run 34 33 (ls) (st) σ = run 34 35 (ls) (vI 43 :: st) σ := (run_eq 34 33 _ _ σ).trans rfl
theorem e34_35 (ls st : List AV) (σ : St) (y x : Int) : run 34 35 (ls) (vI y :: vI x :: st) σ = if x = y then run 34 38 (ls) (st) σ else run 34 66 (ls) (st) σ := (run_eq 34 35 _ _ σ).trans rfl
theorem e34_38 (l st : List AV) (σ : St) (x : Nat) : run 34 38 (vR x :: l) (st) σ = run 34 39 (vR x :: l) (vR x :: st) σ := (run_eq 34 38 _ _ σ).trans rfl
theorem e34_39 (ls st : List AV) (σ : St) (x : Nat) (h : fok σ x 0) : run 34 39 (ls) (vR x :: st) σ = run 34 42 (ls) (vR (gr σ x 6) :: st) σ := (run_eq 34 39 _ _ σ).trans (if_pos h)
theorem e34_42 (a0 : AV) (l st : List AV) (σ : St) (x : Int) : run 34 42 (a0 :: vI x :: l) (st) σ = run 34 43 (a0 :: vI x :: l) (vI x :: st) σ := (run_eq 34 42 _ _ σ).trans rfl
theorem e34_43 (ls st : List AV) (σ : St) : run 34 43 (ls) (st) σ = run 34 45 (ls) (vI 9 :: st) σ := (run_eq 34 43 _ _ σ).trans rfl
theorem e34_45 (a0 a1 a2 : AV) (l st : List AV) (σ : St) (x : Int) : run 34 45 (a0 :: a1 :: a2 :: vI x :: l) (st) σ = run 34 46 (a0 :: a1 :: a2 :: vI x :: l) (vI x :: st) σ := (run_eq 34 45 _ _ σ).trans rfl
theorem e34_46 (ls st : List AV) (σ : St) : run 34 46 (ls) (st) σ = run 34 47 (ls) (vI 1 :: st) σ := (run_eq 34 46 _ _ σ).trans rfl
theorem e34_47 (ls st : List AV) (σ : St) (y x : Int) : run 34 47 (ls) (vI y :: vI x :: st) σ = run 34 48 (ls) (vI (wr (x + y)) :: st) σ := (run_eq 34 47 _ _ σ).trans rfl
theorem e34_48 (ls st : List AV) (σ : St) (y x : Int) (h4 : st.length ≤ 4) : run 34 48 (ls) (vI y :: vI x :: st) σ = run 34 51 (ls) (vI (if y < x then y else x) :: st) σ := (run_eq 34 48 _ _ σ).trans (if_pos h4)
theorem e34_51 (ls st : List AV) (σ : St) (x0 : Nat) (x1 : Int) (x2 : Int) (h4 : st.length ≤ 4) : run 34 51 ls (vI x2 :: vI x1 :: vR x0 :: st) σ = bnd (run 11 0 [vR x0, vI x1, vI x2] [] σ) (fun r σ => run 34 54 ls (psh r st) σ) := (run_eq 34 51 _ _ σ).trans (if_pos ⟨rfl, by simp, by simpa using h4⟩)
theorem e34_54 (a0 a1 a2 : AV) (l st : List AV) (σ : St) (x : Int) : run 34 54 (a0 :: a1 :: a2 :: vI x :: l) (st) σ = run 34 55 (a0 :: a1 :: a2 :: vI x :: l) (vI x :: st) σ := (run_eq 34 54 _ _ σ).trans rfl
theorem e34_55 (ls st : List AV) (σ : St) : run 34 55 (ls) (st) σ = run 34 57 (ls) (vI 9 :: st) σ := (run_eq 34 55 _ _ σ).trans rfl
theorem e34_57 (ls st : List AV) (σ : St) (y x : Int) : run 34 57 (ls) (vI y :: vI x :: st) σ = if x < y then run 34 64 (ls) (st) σ else run 34 60 (ls) (st) σ := (run_eq 34 57 _ _ σ).trans rfl
theorem e34_60 (ls st : List AV) (σ : St) : run 34 60 (ls) (st) σ = run 34 61 (ls) (vI 2 :: st) σ := (run_eq 34 60 _ _ σ).trans rfl
theorem e34_61 (ls st : List AV) (σ : St) : run 34 61 (ls) (st) σ = run 34 65 (ls) (st) σ := (run_eq 34 61 _ _ σ).trans rfl
theorem e34_64 (ls st : List AV) (σ : St) : run 34 64 (ls) (st) σ = run 34 65 (ls) (vI 0 :: st) σ := (run_eq 34 64 _ _ σ).trans rfl
theorem e34_65 (ls : List AV) (σ : St) (x : Int) : run 34 65 ls [vI x] σ = some (vI x, σ) := (run_eq 34 65 _ _ σ).trans rfl
theorem e34_66 (a0 a1 : AV) (l st : List AV) (σ : St) (x : Int) : run 34 66 (a0 :: a1 :: vI x :: l) (st) σ = run 34 67 (a0 :: a1 :: vI x :: l) (vI x :: st) σ := (run_eq 34 66 _ _ σ).trans rfl
theorem e34_67 (ls st : List AV) (σ : St) : run 34 67 (ls) (st) σ = run 34 69 (ls) (vI 48 :: st) σ := (run_eq 34 67 _ _ σ).trans rfl
theorem e34_69 (ls st : List AV) (σ : St) (y x : Int) : run 34 69 (ls) (vI y :: vI x :: st) σ = run 34 70 (ls) (vI (wr (x - y)) :: st) σ := (run_eq 34 69 _ _ σ).trans rfl
theorem e34_70 (a0 a1 a2 a3 : AV) (l st : List AV) (σ : St) (q : AV) (x : Int) : run 34 70 (a0 :: a1 :: a2 :: a3 :: q :: l) (vI x :: st) σ = run 34 72 (a0 :: a1 :: a2 :: a3 :: vI x :: l) (st) σ := (run_eq 34 70 _ _ σ).trans rfl
theorem e34_72 (l st : List AV) (σ : St) (x : Nat) : run 34 72 (vR x :: l) (st) σ = run 34 73 (vR x :: l) (vR x :: st) σ := (run_eq 34 72 _ _ σ).trans rfl
theorem e34_73 (ls st : List AV) (σ : St) (x : Nat) (h : fok σ x 0) : run 34 73 (ls) (vR x :: st) σ = run 34 76 (ls) (vR (gr σ x 6) :: st) σ := (run_eq 34 73 _ _ σ).trans (if_pos h)
theorem e34_76 (a0 : AV) (l st : List AV) (σ : St) (x : Int) : run 34 76 (a0 :: vI x :: l) (st) σ = run 34 77 (a0 :: vI x :: l) (vI x :: st) σ := (run_eq 34 76 _ _ σ).trans rfl
theorem e34_77 (a0 a1 a2 a3 : AV) (l st : List AV) (σ : St) (x : Int) : run 34 77 (a0 :: a1 :: a2 :: a3 :: vI x :: l) (st) σ = run 34 79 (a0 :: a1 :: a2 :: a3 :: vI x :: l) (vI x :: st) σ := (run_eq 34 77 _ _ σ).trans rfl
theorem e34_79 (a0 a1 a2 : AV) (l st : List AV) (σ : St) (x : Int) : run 34 79 (a0 :: a1 :: a2 :: vI x :: l) (st) σ = run 34 80 (a0 :: a1 :: a2 :: vI x :: l) (vI x :: st) σ := (run_eq 34 79 _ _ σ).trans rfl
theorem e34_80 (ls st : List AV) (σ : St) (y x : Int) (h4 : st.length ≤ 4) : run 34 80 (ls) (vI y :: vI x :: st) σ = run 34 83 (ls) (vI (if y < x then y else x) :: st) σ := (run_eq 34 80 _ _ σ).trans (if_pos h4)
theorem e34_83 (ls st : List AV) (σ : St) (x0 : Nat) (x1 : Int) (x2 : Int) (h4 : st.length ≤ 4) : run 34 83 ls (vI x2 :: vI x1 :: vR x0 :: st) σ = bnd (run 11 0 [vR x0, vI x1, vI x2] [] σ) (fun r σ => run 34 86 ls (psh r st) σ) := (run_eq 34 83 _ _ σ).trans (if_pos ⟨rfl, by simp, by simpa using h4⟩)
theorem e34_86 (a0 a1 a2 : AV) (l st : List AV) (σ : St) (x : Int) : run 34 86 (a0 :: a1 :: a2 :: vI x :: l) (st) σ = run 34 87 (a0 :: a1 :: a2 :: vI x :: l) (vI x :: st) σ := (run_eq 34 86 _ _ σ).trans rfl
theorem e34_87 (a0 a1 a2 a3 : AV) (l st : List AV) (σ : St) (x : Int) : run 34 87 (a0 :: a1 :: a2 :: a3 :: vI x :: l) (st) σ = run 34 89 (a0 :: a1 :: a2 :: a3 :: vI x :: l) (vI x :: st) σ := (run_eq 34 87 _ _ σ).trans rfl
theorem e34_89 (ls st : List AV) (σ : St) (y x : Int) : run 34 89 (ls) (vI y :: vI x :: st) σ = if y < x then run 34 96 (ls) (st) σ else run 34 92 (ls) (st) σ := (run_eq 34 89 _ _ σ).trans rfl
theorem e34_92 (ls st : List AV) (σ : St) : run 34 92 (ls) (st) σ = run 34 93 (ls) (vI 1 :: st) σ := (run_eq 34 92 _ _ σ).trans rfl
theorem e34_93 (ls st : List AV) (σ : St) : run 34 93 (ls) (st) σ = run 34 97 (ls) (st) σ := (run_eq 34 93 _ _ σ).trans rfl
theorem e34_96 (ls st : List AV) (σ : St) : run 34 96 (ls) (st) σ = run 34 97 (ls) (vI 0 :: st) σ := (run_eq 34 96 _ _ σ).trans rfl
theorem e34_97 (ls : List AV) (σ : St) (x : Int) : run 34 97 ls [vI x] σ = some (vI x, σ) := (run_eq 34 97 _ _ σ).trans rfl
/-! B_holds -/
theorem e35_0 (l st : List AV) (σ : St) (x : Nat) : run 35 0 (vR x :: l) (st) σ = run 35 1 (vR x :: l) (vR x :: st) σ := (run_eq 35 0 _ _ σ).trans rfl
theorem e35_1 (a0 : AV) (l st : List AV) (σ : St) (x : Int) : run 35 1 (a0 :: vI x :: l) (st) σ = run 35 2 (a0 :: vI x :: l) (vI x :: st) σ := (run_eq 35 1 _ _ σ).trans rfl
theorem e35_2 (ls st : List AV) (σ : St) : run 35 2 (ls) (st) σ = run 35 3 (ls) (vI 0 :: st) σ := (run_eq 35 2 _ _ σ).trans rfl
theorem e35_3 (ls st : List AV) (σ : St) : run 35 3 (ls) (st) σ = run 35 4 (ls) (vI 0 :: st) σ := (run_eq 35 3 _ _ σ).trans rfl
theorem e35_4 (ls st : List AV) (σ : St) (x0 : Nat) (x1 : Int) (x2 : Int) (x3 : Int) (h4 : st.length ≤ 4) (h : fok σ x0 0) : run 35 4 ls (vI x3 :: vI x2 :: vI x1 :: vR x0 :: st) σ = bnd (run 36 0 [vR x0, vI x1, vI x2, vI x3, vU, vU, vU, vU] [] σ) (fun r σ => run 35 7 ls (psh r st) σ) := (run_eq 35 4 _ _ σ).trans (if_pos ⟨rfl, by simp, by simpa using h4, rfl, h⟩)
theorem e35_7 (ls st : List AV) (σ : St) (x : Int) : run 35 7 (ls) (vI x :: st) σ = if x = 0 then run 35 10 (ls) (st) σ else run 35 14 (ls) (st) σ := (run_eq 35 7 _ _ σ).trans rfl
theorem e35_10 (ls st : List AV) (σ : St) : run 35 10 (ls) (st) σ = run 35 11 (ls) (vI 1 :: st) σ := (run_eq 35 10 _ _ σ).trans rfl
theorem e35_11 (ls st : List AV) (σ : St) : run 35 11 (ls) (st) σ = run 35 15 (ls) (st) σ := (run_eq 35 11 _ _ σ).trans rfl
theorem e35_14 (ls st : List AV) (σ : St) : run 35 14 (ls) (st) σ = run 35 15 (ls) (vI 0 :: st) σ := (run_eq 35 14 _ _ σ).trans rfl
theorem e35_15 (ls : List AV) (σ : St) (x : Int) (h : x = 0 ∨ x = 1) : run 35 15 ls [vI x] σ = some (vI x, σ) := (run_eq 35 15 _ _ σ).trans (if_pos h)
/-! B_acts -/
theorem e36_0 (ls st : List AV) (σ : St) : run 36 0 (ls) (st) σ = run 36 1 (ls) (vI 0 :: st) σ := (run_eq 36 0 _ _ σ).trans rfl
theorem e36_1 (a0 a1 a2 a3 : AV) (l st : List AV) (σ : St) (q : AV) (x : Int) : run 36 1 (a0 :: a1 :: a2 :: a3 :: q :: l) (vI x :: st) σ = run 36 3 (a0 :: a1 :: a2 :: a3 :: vI x :: l) (st) σ := (run_eq 36 1 _ _ σ).trans rfl
theorem e36_3 (ls st : List AV) (σ : St) : run 36 3 (ls) (st) σ = run 36 4 (ls) (vI 0 :: st) σ := (run_eq 36 3 _ _ σ).trans rfl
theorem e36_4 (a0 a1 a2 a3 a4 : AV) (l st : List AV) (σ : St) (q : AV) (x : Int) : run 36 4 (a0 :: a1 :: a2 :: a3 :: a4 :: q :: l) (vI x :: st) σ = run 36 6 (a0 :: a1 :: a2 :: a3 :: a4 :: vI x :: l) (st) σ := (run_eq 36 4 _ _ σ).trans rfl
theorem e36_6 (a0 a1 a2 a3 a4 : AV) (l st : List AV) (σ : St) (x : Int) : run 36 6 (a0 :: a1 :: a2 :: a3 :: a4 :: vI x :: l) (st) σ = run 36 8 (a0 :: a1 :: a2 :: a3 :: a4 :: vI x :: l) (vI x :: st) σ := (run_eq 36 6 _ _ σ).trans rfl
theorem e36_8 (l st : List AV) (σ : St) (x : Nat) : run 36 8 (vR x :: l) (st) σ = run 36 9 (vR x :: l) (vR x :: st) σ := (run_eq 36 8 _ _ σ).trans rfl
theorem e36_9 (ls st : List AV) (σ : St) (x : Nat) (h : fok σ x 0) : run 36 9 (ls) (vR x :: st) σ = run 36 12 (ls) (vI (gt σ x 0) :: st) σ := (run_eq 36 9 _ _ σ).trans (if_pos h)
theorem e36_12 (ls st : List AV) (σ : St) (y x : Int) : run 36 12 (ls) (vI y :: vI x :: st) σ = if x < y then run 36 15 (ls) (st) σ else run 36 85 (ls) (st) σ := (run_eq 36 12 _ _ σ).trans rfl
theorem e36_15 (ls st : List AV) (σ : St) : run 36 15 (ls) (st) σ = run 36 16 (ls) (vI 0 :: st) σ := (run_eq 36 15 _ _ σ).trans rfl
theorem e36_16 (a0 a1 a2 a3 a4 a5 : AV) (l st : List AV) (σ : St) (q : AV) (x : Int) : run 36 16 (a0 :: a1 :: a2 :: a3 :: a4 :: a5 :: q :: l) (vI x :: st) σ = run 36 18 (a0 :: a1 :: a2 :: a3 :: a4 :: a5 :: vI x :: l) (st) σ := (run_eq 36 16 _ _ σ).trans rfl
theorem e36_18 (a0 a1 a2 a3 a4 a5 : AV) (l st : List AV) (σ : St) (x : Int) : run 36 18 (a0 :: a1 :: a2 :: a3 :: a4 :: a5 :: vI x :: l) (st) σ = run 36 20 (a0 :: a1 :: a2 :: a3 :: a4 :: a5 :: vI x :: l) (vI x :: st) σ := (run_eq 36 18 _ _ σ).trans rfl
theorem e36_20 (l st : List AV) (σ : St) (x : Nat) : run 36 20 (vR x :: l) (st) σ = run 36 21 (vR x :: l) (vR x :: st) σ := (run_eq 36 20 _ _ σ).trans rfl
theorem e36_21 (ls st : List AV) (σ : St) (x : Nat) (h : fok σ x 0) : run 36 21 (ls) (vR x :: st) σ = run 36 24 (ls) (vI (gt σ x 1) :: st) σ := (run_eq 36 21 _ _ σ).trans (if_pos h)
theorem e36_24 (ls st : List AV) (σ : St) (y x : Int) : run 36 24 (ls) (vI y :: vI x :: st) σ = if x < y then run 36 27 (ls) (st) σ else run 36 79 (ls) (st) σ := (run_eq 36 24 _ _ σ).trans rfl
theorem e36_27 (l st : List AV) (σ : St) (x : Nat) : run 36 27 (vR x :: l) (st) σ = run 36 28 (vR x :: l) (vR x :: st) σ := (run_eq 36 27 _ _ σ).trans rfl
theorem e36_28 (a0 : AV) (l st : List AV) (σ : St) (x : Int) : run 36 28 (a0 :: vI x :: l) (st) σ = run 36 29 (a0 :: vI x :: l) (vI x :: st) σ := (run_eq 36 28 _ _ σ).trans rfl
theorem e36_29 (a0 a1 a2 a3 a4 : AV) (l st : List AV) (σ : St) (x : Int) : run 36 29 (a0 :: a1 :: a2 :: a3 :: a4 :: vI x :: l) (st) σ = run 36 31 (a0 :: a1 :: a2 :: a3 :: a4 :: vI x :: l) (vI x :: st) σ := (run_eq 36 29 _ _ σ).trans rfl
theorem e36_31 (l st : List AV) (σ : St) (x : Nat) : run 36 31 (vR x :: l) (st) σ = run 36 32 (vR x :: l) (vR x :: st) σ := (run_eq 36 31 _ _ σ).trans rfl
theorem e36_32 (ls st : List AV) (σ : St) (x : Nat) (h : fok σ x 0) : run 36 32 (ls) (vR x :: st) σ = run 36 35 (ls) (vI (gt σ x 1) :: st) σ := (run_eq 36 32 _ _ σ).trans (if_pos h)
theorem e36_35 (ls st : List AV) (σ : St) (y x : Int) : run 36 35 (ls) (vI y :: vI x :: st) σ = run 36 36 (ls) (vI (wr (x * y)) :: st) σ := (run_eq 36 35 _ _ σ).trans rfl
theorem e36_36 (a0 a1 a2 a3 a4 a5 : AV) (l st : List AV) (σ : St) (x : Int) : run 36 36 (a0 :: a1 :: a2 :: a3 :: a4 :: a5 :: vI x :: l) (st) σ = run 36 38 (a0 :: a1 :: a2 :: a3 :: a4 :: a5 :: vI x :: l) (vI x :: st) σ := (run_eq 36 36 _ _ σ).trans rfl
theorem e36_38 (ls st : List AV) (σ : St) (y x : Int) : run 36 38 (ls) (vI y :: vI x :: st) σ = run 36 39 (ls) (vI (wr (x + y)) :: st) σ := (run_eq 36 38 _ _ σ).trans rfl
theorem e36_39 (ls st : List AV) (σ : St) (x0 : Nat) (x1 : Int) (x2 : Int) (h4 : st.length ≤ 4) (h : fok σ x0 0) : run 36 39 ls (vI x2 :: vI x1 :: vR x0 :: st) σ = bnd (run 18 0 [vR x0, vI x1, vI x2] [] σ) (fun r σ => run 36 42 ls (psh r st) σ) := (run_eq 36 39 _ _ σ).trans (if_pos ⟨rfl, by simp, by simpa using h4, rfl, h⟩)
theorem e36_42 (a0 a1 a2 a3 a4 a5 a6 : AV) (l st : List AV) (σ : St) (q : AV) (x : Int) : run 36 42 (a0 :: a1 :: a2 :: a3 :: a4 :: a5 :: a6 :: q :: l) (vI x :: st) σ = run 36 44 (a0 :: a1 :: a2 :: a3 :: a4 :: a5 :: a6 :: vI x :: l) (st) σ := (run_eq 36 42 _ _ σ).trans rfl
theorem e36_44 (a0 a1 a2 a3 a4 a5 a6 : AV) (l st : List AV) (σ : St) (x : Int) : run 36 44 (a0 :: a1 :: a2 :: a3 :: a4 :: a5 :: a6 :: vI x :: l) (st) σ = run 36 46 (a0 :: a1 :: a2 :: a3 :: a4 :: a5 :: a6 :: vI x :: l) (vI x :: st) σ := (run_eq 36 44 _ _ σ).trans rfl
theorem e36_46 (ls st : List AV) (σ : St) : run 36 46 (ls) (st) σ = run 36 47 (ls) (vI (-1) :: st) σ := (run_eq 36 46 _ _ σ).trans rfl
theorem e36_47 (ls st : List AV) (σ : St) (y x : Int) : run 36 47 (ls) (vI y :: vI x :: st) σ = if x = y then run 36 73 (ls) (st) σ else run 36 50 (ls) (st) σ := (run_eq 36 47 _ _ σ).trans rfl
theorem e36_50 (a0 a1 a2 a3 : AV) (l st : List AV) (σ : St) (x : Int) : run 36 50 (a0 :: a1 :: a2 :: a3 :: vI x :: l) (st) σ = run 36 52 (a0 :: a1 :: a2 :: a3 :: vI x :: l) (vI x :: st) σ := (run_eq 36 50 _ _ σ).trans rfl
theorem e36_52 (l st : List AV) (σ : St) (x : Nat) : run 36 52 (vR x :: l) (st) σ = run 36 53 (vR x :: l) (vR x :: st) σ := (run_eq 36 52 _ _ σ).trans rfl
theorem e36_53 (l st : List AV) (σ : St) (x : Nat) : run 36 53 (vR x :: l) (st) σ = run 36 54 (vR x :: l) (vR x :: st) σ := (run_eq 36 53 _ _ σ).trans rfl
theorem e36_54 (a0 a1 a2 a3 a4 : AV) (l st : List AV) (σ : St) (x : Int) : run 36 54 (a0 :: a1 :: a2 :: a3 :: a4 :: vI x :: l) (st) σ = run 36 56 (a0 :: a1 :: a2 :: a3 :: a4 :: vI x :: l) (vI x :: st) σ := (run_eq 36 54 _ _ σ).trans rfl
theorem e36_56 (a0 a1 : AV) (l st : List AV) (σ : St) (x : Int) : run 36 56 (a0 :: a1 :: vI x :: l) (st) σ = run 36 57 (a0 :: a1 :: vI x :: l) (vI x :: st) σ := (run_eq 36 56 _ _ σ).trans rfl
theorem e36_57 (ls st : List AV) (σ : St) (y x : Int) : run 36 57 (ls) (vI y :: vI x :: st) σ = run 36 58 (ls) (vI (wr (x + y)) :: st) σ := (run_eq 36 57 _ _ σ).trans rfl
theorem e36_58 (a0 a1 a2 a3 a4 a5 : AV) (l st : List AV) (σ : St) (x : Int) : run 36 58 (a0 :: a1 :: a2 :: a3 :: a4 :: a5 :: vI x :: l) (st) σ = run 36 60 (a0 :: a1 :: a2 :: a3 :: a4 :: a5 :: vI x :: l) (vI x :: st) σ := (run_eq 36 58 _ _ σ).trans rfl
theorem e36_60 (a0 a1 a2 : AV) (l st : List AV) (σ : St) (x : Int) : run 36 60 (a0 :: a1 :: a2 :: vI x :: l) (st) σ = run 36 61 (a0 :: a1 :: a2 :: vI x :: l) (vI x :: st) σ := (run_eq 36 60 _ _ σ).trans rfl
theorem e36_61 (ls st : List AV) (σ : St) (y x : Int) : run 36 61 (ls) (vI y :: vI x :: st) σ = run 36 62 (ls) (vI (wr (x + y)) :: st) σ := (run_eq 36 61 _ _ σ).trans rfl
theorem e36_62 (ls st : List AV) (σ : St) (x0 : Nat) (x1 : Int) (x2 : Int) (h4 : st.length ≤ 4) (h : fok σ x0 0) : run 36 62 ls (vI x2 :: vI x1 :: vR x0 :: st) σ = bnd (run 14 0 [vR x0, vI x1, vI x2, vU] [] σ) (fun r σ => run 36 65 ls (psh r st) σ) := (run_eq 36 62 _ _ σ).trans (if_pos ⟨rfl, by simp, by simpa using h4, rfl, h⟩)
theorem e36_65 (a0 a1 a2 a3 a4 a5 a6 : AV) (l st : List AV) (σ : St) (x : Int) : run 36 65 (a0 :: a1 :: a2 :: a3 :: a4 :: a5 :: a6 :: vI x :: l) (st) σ = run 36 67 (a0 :: a1 :: a2 :: a3 :: a4 :: a5 :: a6 :: vI x :: l) (vI x :: st) σ := (run_eq 36 65 _ _ σ).trans rfl
theorem e36_67 (ls st : List AV) (σ : St) (x0 : Nat) (x1 : Int) (x2 : Int) (h4 : st.length ≤ 4) (h : fok σ x0 0) : run 36 67 ls (vI x2 :: vI x1 :: vR x0 :: st) σ = bnd (run 37 0 [vR x0, vI x1, vI x2, vU] [] σ) (fun r σ => run 36 70 ls (psh r st) σ) := (run_eq 36 67 _ _ σ).trans (if_pos ⟨rfl, by simp, by simpa using h4, rfl, h⟩)
theorem e36_70 (ls st : List AV) (σ : St) (y x : Int) : run 36 70 (ls) (vI y :: vI x :: st) σ = run 36 71 (ls) (vI (wr (x + y)) :: st) σ := (run_eq 36 70 _ _ σ).trans rfl
theorem e36_71 (a0 a1 a2 a3 : AV) (l st : List AV) (σ : St) (q : AV) (x : Int) : run 36 71 (a0 :: a1 :: a2 :: a3 :: q :: l) (vI x :: st) σ = run 36 73 (a0 :: a1 :: a2 :: a3 :: vI x :: l) (st) σ := (run_eq 36 71 _ _ σ).trans rfl
theorem e36_73 (a0 a1 a2 a3 a4 a5 : AV) (l st : List AV) (σ : St) (x : Int) : run 36 73 (a0 :: a1 :: a2 :: a3 :: a4 :: a5 :: vI x :: l) (st) σ = run 36 76 (a0 :: a1 :: a2 :: a3 :: a4 :: a5 :: vI (wr (x + 1)) :: l) (st) σ := (run_eq 36 73 _ _ σ).trans rfl
theorem e36_76 (ls st : List AV) (σ : St) : run 36 76 (ls) (st) σ = run 36 18 (ls) (st) σ := (run_eq 36 76 _ _ σ).trans rfl
theorem e36_79 (a0 a1 a2 a3 a4 : AV) (l st : List AV) (σ : St) (x : Int) : run 36 79 (a0 :: a1 :: a2 :: a3 :: a4 :: vI x :: l) (st) σ = run 36 82 (a0 :: a1 :: a2 :: a3 :: a4 :: vI (wr (x + 1)) :: l) (st) σ := (run_eq 36 79 _ _ σ).trans rfl
theorem e36_82 (ls st : List AV) (σ : St) : run 36 82 (ls) (st) σ = run 36 6 (ls) (st) σ := (run_eq 36 82 _ _ σ).trans rfl
theorem e36_85 (a0 a1 a2 a3 : AV) (l st : List AV) (σ : St) (x : Int) : run 36 85 (a0 :: a1 :: a2 :: a3 :: vI x :: l) (st) σ = run 36 87 (a0 :: a1 :: a2 :: a3 :: vI x :: l) (vI x :: st) σ := (run_eq 36 85 _ _ σ).trans rfl
theorem e36_87 (ls : List AV) (σ : St) (x : Int) : run 36 87 ls [vI x] σ = some (vI x, σ) := (run_eq 36 87 _ _ σ).trans rfl
/-! B_actsAt -/
theorem e37_0 (a0 : AV) (l st : List AV) (σ : St) (x : Int) : run 37 0 (a0 :: vI x :: l) (st) σ = run 37 1 (a0 :: vI x :: l) (vI x :: st) σ := (run_eq 37 0 _ _ σ).trans rfl
theorem e37_1 (ls st : List AV) (σ : St) : run 37 1 (ls) (st) σ = run 37 2 (ls) (vI (-1) :: st) σ := (run_eq 37 1 _ _ σ).trans rfl
theorem e37_2 (ls st : List AV) (σ : St) (y x : Int) : run 37 2 (ls) (vI y :: vI x :: st) σ = if x = y then run 37 5 (ls) (st) σ else run 37 8 (ls) (st) σ := (run_eq 37 2 _ _ σ).trans rfl
theorem e37_5 (ls st : List AV) (σ : St) : run 37 5 (ls) (st) σ = run 37 7 (ls) (vI 1000000 :: st) σ := (run_eq 37 5 _ _ σ).trans rfl
theorem e37_7 (ls : List AV) (σ : St) (x : Int) : run 37 7 ls [vI x] σ = some (vI x, σ) := (run_eq 37 7 _ _ σ).trans rfl
theorem e37_8 (l st : List AV) (σ : St) (x : Nat) : run 37 8 (vR x :: l) (st) σ = run 37 9 (vR x :: l) (vR x :: st) σ := (run_eq 37 8 _ _ σ).trans rfl
theorem e37_9 (ls st : List AV) (σ : St) (x : Nat) (h : fok σ x 0) : run 37 9 (ls) (vR x :: st) σ = run 37 12 (ls) (vR (gr σ x 6) :: st) σ := (run_eq 37 9 _ _ σ).trans (if_pos h)
theorem e37_12 (a0 : AV) (l st : List AV) (σ : St) (x : Int) : run 37 12 (a0 :: vI x :: l) (st) σ = run 37 13 (a0 :: vI x :: l) (vI x :: st) σ := (run_eq 37 12 _ _ σ).trans rfl
theorem e37_13 (ls st : List AV) (σ : St) (x0 : Nat) (x1 : Int) (h4 : st.length ≤ 4) : run 37 13 ls (vI x1 :: vR x0 :: st) σ = bnd (run 10 0 [vR x0, vI x1] [] σ) (fun r σ => run 37 16 ls (psh r st) σ) := (run_eq 37 13 _ _ σ).trans (if_pos ⟨rfl, by simp, by simpa using h4⟩)
theorem e37_16 (a0 a1 a2 : AV) (l st : List AV) (σ : St) (q : AV) (x : Int) : run 37 16 (a0 :: a1 :: a2 :: q :: l) (vI x :: st) σ = run 37 17 (a0 :: a1 :: a2 :: vI x :: l) (st) σ := (run_eq 37 16 _ _ σ).trans rfl
theorem e37_17 (a0 a1 a2 : AV) (l st : List AV) (σ : St) (x : Int) : run 37 17 (a0 :: a1 :: a2 :: vI x :: l) (st) σ = run 37 18 (a0 :: a1 :: a2 :: vI x :: l) (vI x :: st) σ := (run_eq 37 17 _ _ σ).trans rfl
theorem e37_18 (a0 a1 : AV) (l st : List AV) (σ : St) (x : Int) : run 37 18 (a0 :: a1 :: vI x :: l) (st) σ = run 37 19 (a0 :: a1 :: vI x :: l) (vI x :: st) σ := (run_eq 37 18 _ _ σ).trans rfl
theorem e37_19 (l st : List AV) (σ : St) (x : Nat) : run 37 19 (vR x :: l) (st) σ = run 37 20 (vR x :: l) (vR x :: st) σ := (run_eq 37 19 _ _ σ).trans rfl
theorem e37_20 (ls st : List AV) (σ : St) (x : Nat) (h : fok σ x 0) : run 37 20 (ls) (vR x :: st) σ = run 37 23 (ls) (vI (gt σ x 4) :: st) σ := (run_eq 37 20 _ _ σ).trans (if_pos h)
theorem e37_23 (ls st : List AV) (σ : St) (y x : Int) : run 37 23 (ls) (vI y :: vI x :: st) σ = run 37 24 (ls) (vI (wr (x + y)) :: st) σ := (run_eq 37 23 _ _ σ).trans rfl
theorem e37_24 (ls st : List AV) (σ : St) (y x : Int) : run 37 24 (ls) (vI y :: vI x :: st) σ = if y < x then run 37 27 (ls) (st) σ else run 37 31 (ls) (st) σ := (run_eq 37 24 _ _ σ).trans rfl
theorem e37_27 (ls st : List AV) (σ : St) : run 37 27 (ls) (st) σ = run 37 28 (ls) (vI 1 :: st) σ := (run_eq 37 27 _ _ σ).trans rfl
theorem e37_28 (ls st : List AV) (σ : St) : run 37 28 (ls) (st) σ = run 37 43 (ls) (st) σ := (run_eq 37 28 _ _ σ).trans rfl
theorem e37_31 (ls st : List AV) (σ : St) : run 37 31 (ls) (st) σ = run 37 32 (ls) (vI 0 :: st) σ := (run_eq 37 31 _ _ σ).trans rfl
theorem e37_32 (a0 a1 : AV) (l st : List AV) (σ : St) (x : Int) : run 37 32 (a0 :: a1 :: vI x :: l) (st) σ = run 37 33 (a0 :: a1 :: vI x :: l) (vI x :: st) σ := (run_eq 37 32 _ _ σ).trans rfl
theorem e37_33 (l st : List AV) (σ : St) (x : Nat) : run 37 33 (vR x :: l) (st) σ = run 37 34 (vR x :: l) (vR x :: st) σ := (run_eq 37 33 _ _ σ).trans rfl
theorem e37_34 (ls st : List AV) (σ : St) (x : Nat) (h : fok σ x 0) : run 37 34 (ls) (vR x :: st) σ = run 37 37 (ls) (vI (gt σ x 4) :: st) σ := (run_eq 37 34 _ _ σ).trans (if_pos h)
theorem e37_37 (ls st : List AV) (σ : St) (y x : Int) : run 37 37 (ls) (vI y :: vI x :: st) σ = run 37 38 (ls) (vI (wr (x - y)) :: st) σ := (run_eq 37 37 _ _ σ).trans rfl
theorem e37_38 (a0 a1 a2 : AV) (l st : List AV) (σ : St) (x : Int) : run 37 38 (a0 :: a1 :: a2 :: vI x :: l) (st) σ = run 37 39 (a0 :: a1 :: a2 :: vI x :: l) (vI x :: st) σ := (run_eq 37 38 _ _ σ).trans rfl
theorem e37_39 (ls st : List AV) (σ : St) (y x : Int) : run 37 39 (ls) (vI y :: vI x :: st) σ = run 37 40 (ls) (vI (wr (x - y)) :: st) σ := (run_eq 37 39 _ _ σ).trans rfl
theorem e37_40 (ls st : List AV) (σ : St) (y x : Int) (h4 : st.length ≤ 4) : run 37 40 (ls) (vI y :: vI x :: st) σ = run 37 43 (ls) (vI (if x < y then y else x) :: st) σ := (run_eq 37 40 _ _ σ).trans (if_pos h4)
theorem e37_43 (ls : List AV) (σ : St) (x : Int) : run 37 43 ls [vI x] σ = some (vI x, σ) := (run_eq 37 43 _ _ σ).trans rfl
/-! N_isHoursAlone -/
theorem e48_0 (ls st : List AV) (σ : St) : run 48 0 (ls) (st) σ = run 48 1 (ls) (vI 1 :: st) σ := (run_eq 48 0 _ _ σ).trans rfl
theorem e48_1 (a0 : AV) (l st : List AV) (σ : St) (q : AV) (x : Int) : run 48 1 (a0 :: q :: l) (vI x :: st) σ = run 48 2 (a0 :: vI x :: l) (st) σ := (run_eq 48 1 _ _ σ).trans rfl
theorem e48_2 (ls st : List AV) (σ : St) : run 48 2 (ls) (st) σ = run 48 3 (ls) (vI 0 :: st) σ := (run_eq 48 2 _ _ σ).trans rfl
theorem e48_3 (a0 a1 : AV) (l st : List AV) (σ : St) (q : AV) (x : Int) : run 48 3 (a0 :: a1 :: q :: l) (vI x :: st) σ = run 48 4 (a0 :: a1 :: vI x :: l) (st) σ := (run_eq 48 3 _ _ σ).trans rfl
theorem e48_4 (a0 a1 : AV) (l st : List AV) (σ : St) (x : Int) : run 48 4 (a0 :: a1 :: vI x :: l) (st) σ = run 48 5 (a0 :: a1 :: vI x :: l) (vI x :: st) σ := (run_eq 48 4 _ _ σ).trans rfl
theorem e48_5 (l st : List AV) (σ : St) (x : Nat) : run 48 5 (vR x :: l) (st) σ = run 48 6 (vR x :: l) (vR x :: st) σ := (run_eq 48 5 _ _ σ).trans rfl
theorem e48_6 (ls st : List AV) (σ : St) (x : Nat) (h : fok σ x 1) : run 48 6 (ls) (vR x :: st) σ = run 48 9 (ls) (vI (gt σ x 1) :: st) σ := (run_eq 48 6 _ _ σ).trans (if_pos h)
theorem e48_9 (ls st : List AV) (σ : St) (y x : Int) : run 48 9 (ls) (vI y :: vI x :: st) σ = if x < y then run 48 12 (ls) (st) σ else run 48 44 (ls) (st) σ := (run_eq 48 9 _ _ σ).trans rfl
theorem e48_12 (a0 : AV) (l st : List AV) (σ : St) (x : Int) : run 48 12 (a0 :: vI x :: l) (st) σ = run 48 13 (a0 :: vI x :: l) (vI x :: st) σ := (run_eq 48 12 _ _ σ).trans rfl
theorem e48_13 (ls st : List AV) (σ : St) (x : Int) : run 48 13 (ls) (vI x :: st) σ = if x = 0 then run 48 36 (ls) (st) σ else run 48 16 (ls) (st) σ := (run_eq 48 13 _ _ σ).trans rfl
theorem e48_16 (l st : List AV) (σ : St) (x : Nat) : run 48 16 (vR x :: l) (st) σ = run 48 17 (vR x :: l) (vR x :: st) σ := (run_eq 48 16 _ _ σ).trans rfl
theorem e48_17 (ls st : List AV) (σ : St) (x : Nat) (h : fok σ x 1) : run 48 17 (ls) (vR x :: st) σ = run 48 20 (ls) (vR (gr σ x 0) :: st) σ := (run_eq 48 17 _ _ σ).trans (if_pos h)
theorem e48_20 (a0 a1 : AV) (l st : List AV) (σ : St) (x : Int) : run 48 20 (a0 :: a1 :: vI x :: l) (st) σ = run 48 21 (a0 :: a1 :: vI x :: l) (vI x :: st) σ := (run_eq 48 20 _ _ σ).trans rfl
theorem e48_21 (ls st : List AV) (σ : St) (x0 : Nat) (x1 : Int) (h4 : st.length ≤ 4) : run 48 21 ls (vI x1 :: vR x0 :: st) σ = bnd (run 10 0 [vR x0, vI x1] [] σ) (fun r σ => run 48 24 ls (psh r st) σ) := (run_eq 48 21 _ _ σ).trans (if_pos ⟨rfl, by simp, by simpa using h4⟩)
theorem e48_24 (ls st : List AV) (σ : St) (x0 : Int) (h4 : st.length ≤ 4) : run 48 24 ls (vI x0 :: st) σ = bnd (run 23 0 [vI x0] [] σ) (fun r σ => run 48 27 ls (psh r st) σ) := (run_eq 48 24 _ _ σ).trans (if_pos ⟨rfl, by simp, by simpa using h4⟩)
theorem e48_27 (ls st : List AV) (σ : St) : run 48 27 (ls) (st) σ = run 48 29 (ls) (vI (-6) :: st) σ := (run_eq 48 27 _ _ σ).trans rfl
theorem e48_29 (ls st : List AV) (σ : St) (y x : Int) : run 48 29 (ls) (vI y :: vI x :: st) σ = if x = y then run 48 36 (ls) (st) σ else run 48 32 (ls) (st) σ := (run_eq 48 29 _ _ σ).trans rfl
theorem e48_32 (ls st : List AV) (σ : St) : run 48 32 (ls) (st) σ = run 48 33 (ls) (vI 1 :: st) σ := (run_eq 48 32 _ _ σ).trans rfl
theorem e48_33 (ls st : List AV) (σ : St) : run 48 33 (ls) (st) σ = run 48 37 (ls) (st) σ := (run_eq 48 33 _ _ σ).trans rfl
theorem e48_36 (ls st : List AV) (σ : St) : run 48 36 (ls) (st) σ = run 48 37 (ls) (vI 0 :: st) σ := (run_eq 48 36 _ _ σ).trans rfl
theorem e48_37 (a0 : AV) (l st : List AV) (σ : St) (q : AV) (x : Int) : run 48 37 (a0 :: q :: l) (vI x :: st) σ = run 48 38 (a0 :: vI x :: l) (st) σ := (run_eq 48 37 _ _ σ).trans rfl
theorem e48_38 (a0 a1 : AV) (l st : List AV) (σ : St) (x : Int) : run 48 38 (a0 :: a1 :: vI x :: l) (st) σ = run 48 41 (a0 :: a1 :: vI (wr (x + 1)) :: l) (st) σ := (run_eq 48 38 _ _ σ).trans rfl
theorem e48_41 (ls st : List AV) (σ : St) : run 48 41 (ls) (st) σ = run 48 4 (ls) (st) σ := (run_eq 48 41 _ _ σ).trans rfl
theorem e48_44 (a0 : AV) (l st : List AV) (σ : St) (x : Int) : run 48 44 (a0 :: vI x :: l) (st) σ = run 48 45 (a0 :: vI x :: l) (vI x :: st) σ := (run_eq 48 44 _ _ σ).trans rfl
theorem e48_45 (ls : List AV) (σ : St) (x : Int) (h : x = 0 ∨ x = 1) : run 48 45 ls [vI x] σ = some (vI x, σ) := (run_eq 48 45 _ _ σ).trans (if_pos h)
/-! I_bitCount -/
theorem e50_0 (l st : List AV) (σ : St) (x : Int) : run 50 0 (vI x :: l) (st) σ = run 50 1 (vI x :: l) (vI x :: st) σ := (run_eq 50 0 _ _ σ).trans rfl
theorem e50_1 (l st : List AV) (σ : St) (x : Int) : run 50 1 (vI x :: l) (st) σ = run 50 2 (vI x :: l) (vI x :: st) σ := (run_eq 50 1 _ _ σ).trans rfl
theorem e50_2 (ls st : List AV) (σ : St) : run 50 2 (ls) (st) σ = run 50 3 (ls) (vI 1 :: st) σ := (run_eq 50 2 _ _ σ).trans rfl
theorem e50_3 (ls st : List AV) (σ : St) (y x : Int) : run 50 3 (ls) (vI y :: vI x :: st) σ = run 50 4 (ls) (vI (bUsh x y) :: st) σ := (run_eq 50 3 _ _ σ).trans rfl
theorem e50_4 (ls st : List AV) (σ : St) : run 50 4 (ls) (st) σ = run 50 7 (ls) (vI 1431655765 :: st) σ := (run_eq 50 4 _ _ σ).trans rfl
theorem e50_7 (ls st : List AV) (σ : St) (y x : Int) : run 50 7 (ls) (vI y :: vI x :: st) σ = run 50 8 (ls) (vI (bAnd x y) :: st) σ := (run_eq 50 7 _ _ σ).trans rfl
theorem e50_8 (ls st : List AV) (σ : St) (y x : Int) : run 50 8 (ls) (vI y :: vI x :: st) σ = run 50 9 (ls) (vI (wr (x - y)) :: st) σ := (run_eq 50 8 _ _ σ).trans rfl
theorem e50_9 (l st : List AV) (σ : St) (q : AV) (x : Int) : run 50 9 (q :: l) (vI x :: st) σ = run 50 10 (vI x :: l) (st) σ := (run_eq 50 9 _ _ σ).trans rfl
theorem e50_10 (l st : List AV) (σ : St) (x : Int) : run 50 10 (vI x :: l) (st) σ = run 50 11 (vI x :: l) (vI x :: st) σ := (run_eq 50 10 _ _ σ).trans rfl
theorem e50_11 (ls st : List AV) (σ : St) : run 50 11 (ls) (st) σ = run 50 14 (ls) (vI 858993459 :: st) σ := (run_eq 50 11 _ _ σ).trans rfl
theorem e50_14 (ls st : List AV) (σ : St) (y x : Int) : run 50 14 (ls) (vI y :: vI x :: st) σ = run 50 15 (ls) (vI (bAnd x y) :: st) σ := (run_eq 50 14 _ _ σ).trans rfl
theorem e50_15 (l st : List AV) (σ : St) (x : Int) : run 50 15 (vI x :: l) (st) σ = run 50 16 (vI x :: l) (vI x :: st) σ := (run_eq 50 15 _ _ σ).trans rfl
theorem e50_16 (ls st : List AV) (σ : St) : run 50 16 (ls) (st) σ = run 50 17 (ls) (vI 2 :: st) σ := (run_eq 50 16 _ _ σ).trans rfl
theorem e50_17 (ls st : List AV) (σ : St) (y x : Int) : run 50 17 (ls) (vI y :: vI x :: st) σ = run 50 18 (ls) (vI (bUsh x y) :: st) σ := (run_eq 50 17 _ _ σ).trans rfl
theorem e50_18 (ls st : List AV) (σ : St) : run 50 18 (ls) (st) σ = run 50 21 (ls) (vI 858993459 :: st) σ := (run_eq 50 18 _ _ σ).trans rfl
theorem e50_21 (ls st : List AV) (σ : St) (y x : Int) : run 50 21 (ls) (vI y :: vI x :: st) σ = run 50 22 (ls) (vI (bAnd x y) :: st) σ := (run_eq 50 21 _ _ σ).trans rfl
theorem e50_22 (ls st : List AV) (σ : St) (y x : Int) : run 50 22 (ls) (vI y :: vI x :: st) σ = run 50 23 (ls) (vI (wr (x + y)) :: st) σ := (run_eq 50 22 _ _ σ).trans rfl
theorem e50_23 (l st : List AV) (σ : St) (q : AV) (x : Int) : run 50 23 (q :: l) (vI x :: st) σ = run 50 24 (vI x :: l) (st) σ := (run_eq 50 23 _ _ σ).trans rfl
theorem e50_24 (l st : List AV) (σ : St) (x : Int) : run 50 24 (vI x :: l) (st) σ = run 50 25 (vI x :: l) (vI x :: st) σ := (run_eq 50 24 _ _ σ).trans rfl
theorem e50_25 (l st : List AV) (σ : St) (x : Int) : run 50 25 (vI x :: l) (st) σ = run 50 26 (vI x :: l) (vI x :: st) σ := (run_eq 50 25 _ _ σ).trans rfl
theorem e50_26 (ls st : List AV) (σ : St) : run 50 26 (ls) (st) σ = run 50 27 (ls) (vI 4 :: st) σ := (run_eq 50 26 _ _ σ).trans rfl
theorem e50_27 (ls st : List AV) (σ : St) (y x : Int) : run 50 27 (ls) (vI y :: vI x :: st) σ = run 50 28 (ls) (vI (bUsh x y) :: st) σ := (run_eq 50 27 _ _ σ).trans rfl
theorem e50_28 (ls st : List AV) (σ : St) (y x : Int) : run 50 28 (ls) (vI y :: vI x :: st) σ = run 50 29 (ls) (vI (wr (x + y)) :: st) σ := (run_eq 50 28 _ _ σ).trans rfl
theorem e50_29 (ls st : List AV) (σ : St) : run 50 29 (ls) (st) σ = run 50 32 (ls) (vI 252645135 :: st) σ := (run_eq 50 29 _ _ σ).trans rfl
theorem e50_32 (ls st : List AV) (σ : St) (y x : Int) : run 50 32 (ls) (vI y :: vI x :: st) σ = run 50 33 (ls) (vI (bAnd x y) :: st) σ := (run_eq 50 32 _ _ σ).trans rfl
theorem e50_33 (l st : List AV) (σ : St) (q : AV) (x : Int) : run 50 33 (q :: l) (vI x :: st) σ = run 50 34 (vI x :: l) (st) σ := (run_eq 50 33 _ _ σ).trans rfl
theorem e50_34 (l st : List AV) (σ : St) (x : Int) : run 50 34 (vI x :: l) (st) σ = run 50 35 (vI x :: l) (vI x :: st) σ := (run_eq 50 34 _ _ σ).trans rfl
theorem e50_35 (l st : List AV) (σ : St) (x : Int) : run 50 35 (vI x :: l) (st) σ = run 50 36 (vI x :: l) (vI x :: st) σ := (run_eq 50 35 _ _ σ).trans rfl
theorem e50_36 (ls st : List AV) (σ : St) : run 50 36 (ls) (st) σ = run 50 38 (ls) (vI 8 :: st) σ := (run_eq 50 36 _ _ σ).trans rfl
theorem e50_38 (ls st : List AV) (σ : St) (y x : Int) : run 50 38 (ls) (vI y :: vI x :: st) σ = run 50 39 (ls) (vI (bUsh x y) :: st) σ := (run_eq 50 38 _ _ σ).trans rfl
theorem e50_39 (ls st : List AV) (σ : St) (y x : Int) : run 50 39 (ls) (vI y :: vI x :: st) σ = run 50 40 (ls) (vI (wr (x + y)) :: st) σ := (run_eq 50 39 _ _ σ).trans rfl
theorem e50_40 (l st : List AV) (σ : St) (q : AV) (x : Int) : run 50 40 (q :: l) (vI x :: st) σ = run 50 41 (vI x :: l) (st) σ := (run_eq 50 40 _ _ σ).trans rfl
theorem e50_41 (l st : List AV) (σ : St) (x : Int) : run 50 41 (vI x :: l) (st) σ = run 50 42 (vI x :: l) (vI x :: st) σ := (run_eq 50 41 _ _ σ).trans rfl
theorem e50_42 (l st : List AV) (σ : St) (x : Int) : run 50 42 (vI x :: l) (st) σ = run 50 43 (vI x :: l) (vI x :: st) σ := (run_eq 50 42 _ _ σ).trans rfl
theorem e50_43 (ls st : List AV) (σ : St) : run 50 43 (ls) (st) σ = run 50 45 (ls) (vI 16 :: st) σ := (run_eq 50 43 _ _ σ).trans rfl
theorem e50_45 (ls st : List AV) (σ : St) (y x : Int) : run 50 45 (ls) (vI y :: vI x :: st) σ = run 50 46 (ls) (vI (bUsh x y) :: st) σ := (run_eq 50 45 _ _ σ).trans rfl
theorem e50_46 (ls st : List AV) (σ : St) (y x : Int) : run 50 46 (ls) (vI y :: vI x :: st) σ = run 50 47 (ls) (vI (wr (x + y)) :: st) σ := (run_eq 50 46 _ _ σ).trans rfl
theorem e50_47 (l st : List AV) (σ : St) (q : AV) (x : Int) : run 50 47 (q :: l) (vI x :: st) σ = run 50 48 (vI x :: l) (st) σ := (run_eq 50 47 _ _ σ).trans rfl
theorem e50_48 (l st : List AV) (σ : St) (x : Int) : run 50 48 (vI x :: l) (st) σ = run 50 49 (vI x :: l) (vI x :: st) σ := (run_eq 50 48 _ _ σ).trans rfl
theorem e50_49 (ls st : List AV) (σ : St) : run 50 49 (ls) (st) σ = run 50 51 (ls) (vI 63 :: st) σ := (run_eq 50 49 _ _ σ).trans rfl
theorem e50_51 (ls st : List AV) (σ : St) (y x : Int) : run 50 51 (ls) (vI y :: vI x :: st) σ = run 50 52 (ls) (vI (bAnd x y) :: st) σ := (run_eq 50 51 _ _ σ).trans rfl
theorem e50_52 (ls : List AV) (σ : St) (x : Int) : run 50 52 ls [vI x] σ = some (vI x, σ) := (run_eq 50 52 _ _ σ).trans rfl
/-! N_passHours -/
theorem e52_0 (ls st : List AV) (σ : St) : run 52 0 (ls) (st) σ = run 52 1 (ls) (vI 0 :: st) σ := (run_eq 52 0 _ _ σ).trans rfl
theorem e52_1 (a0 a1 : AV) (l st : List AV) (σ : St) (q : AV) (x : Int) : run 52 1 (a0 :: a1 :: q :: l) (vI x :: st) σ = run 52 2 (a0 :: a1 :: vI x :: l) (st) σ := (run_eq 52 1 _ _ σ).trans rfl
theorem e52_2 (a0 a1 : AV) (l st : List AV) (σ : St) (x : Int) : run 52 2 (a0 :: a1 :: vI x :: l) (st) σ = run 52 3 (a0 :: a1 :: vI x :: l) (vI x :: st) σ := (run_eq 52 2 _ _ σ).trans rfl
theorem e52_3 (l st : List AV) (σ : St) (x : Nat) : run 52 3 (vR x :: l) (st) σ = run 52 4 (vR x :: l) (vR x :: st) σ := (run_eq 52 3 _ _ σ).trans rfl
theorem e52_4 (ls st : List AV) (σ : St) (x : Nat) (h : fok σ x 1) : run 52 4 (ls) (vR x :: st) σ = run 52 7 (ls) (vI (gt σ x 1) :: st) σ := (run_eq 52 4 _ _ σ).trans (if_pos h)
theorem e52_7 (ls st : List AV) (σ : St) (y x : Int) : run 52 7 (ls) (vI y :: vI x :: st) σ = if x < y then run 52 10 (ls) (st) σ else run 52 35 (ls) (st) σ := (run_eq 52 7 _ _ σ).trans rfl
theorem e52_10 (a0 : AV) (l st : List AV) (σ : St) (x : Nat) : run 52 10 (a0 :: vR x :: l) (st) σ = run 52 11 (a0 :: vR x :: l) (vR x :: st) σ := (run_eq 52 10 _ _ σ).trans rfl
theorem e52_11 (ls st : List AV) (σ : St) (x : Nat) : run 52 11 (ls) (vR x :: st) σ = if x = 0 then run 52 35 (ls) (st) σ else run 52 14 (ls) (st) σ := (run_eq 52 11 _ _ σ).trans rfl
theorem e52_14 (a0 : AV) (l st : List AV) (σ : St) (x : Nat) : run 52 14 (a0 :: vR x :: l) (st) σ = run 52 15 (a0 :: vR x :: l) (vR x :: st) σ := (run_eq 52 14 _ _ σ).trans rfl
theorem e52_15 (l st : List AV) (σ : St) (x : Nat) : run 52 15 (vR x :: l) (st) σ = run 52 16 (vR x :: l) (vR x :: st) σ := (run_eq 52 15 _ _ σ).trans rfl
theorem e52_16 (ls st : List AV) (σ : St) (x : Nat) (h : fok σ x 1) : run 52 16 (ls) (vR x :: st) σ = run 52 19 (ls) (vR (gr σ x 0) :: st) σ := (run_eq 52 16 _ _ σ).trans (if_pos h)
theorem e52_19 (a0 a1 : AV) (l st : List AV) (σ : St) (x : Int) : run 52 19 (a0 :: a1 :: vI x :: l) (st) σ = run 52 20 (a0 :: a1 :: vI x :: l) (vI x :: st) σ := (run_eq 52 19 _ _ σ).trans rfl
theorem e52_20 (ls st : List AV) (σ : St) (x0 : Nat) (x1 : Int) (h4 : st.length ≤ 4) : run 52 20 ls (vI x1 :: vR x0 :: st) σ = bnd (run 10 0 [vR x0, vI x1] [] σ) (fun r σ => run 52 23 ls (psh r st) σ) := (run_eq 52 20 _ _ σ).trans (if_pos ⟨rfl, by simp, by simpa using h4⟩)
theorem e52_23 (ls st : List AV) (σ : St) (x0 : Int) (h4 : st.length ≤ 4) : run 52 23 ls (vI x0 :: st) σ = bnd (run 23 0 [vI x0] [] σ) (fun r σ => run 52 26 ls (psh r st) σ) := (run_eq 52 23 _ _ σ).trans (if_pos ⟨rfl, by simp, by simpa using h4⟩)
theorem e52_26 (ls st : List AV) (σ : St) (x0 : Nat) (x1 : Int) (h4 : st.length ≤ 4) (h : fok σ x0 0) : run 52 26 ls (vI x1 :: vR x0 :: st) σ = bnd (run 30 0 [vR x0, vI x1, vU, vU] [] σ) (fun r σ => run 52 29 ls (psh r st) σ) := (run_eq 52 26 _ _ σ).trans (if_pos ⟨rfl, by simp, by simpa using h4, rfl, h⟩)
theorem e52_29 (a0 a1 : AV) (l st : List AV) (σ : St) (x : Int) : run 52 29 (a0 :: a1 :: vI x :: l) (st) σ = run 52 32 (a0 :: a1 :: vI (wr (x + 1)) :: l) (st) σ := (run_eq 52 29 _ _ σ).trans rfl
theorem e52_32 (ls st : List AV) (σ : St) : run 52 32 (ls) (st) σ = run 52 2 (ls) (st) σ := (run_eq 52 32 _ _ σ).trans rfl
theorem e52_35 (ls : List AV) (σ : St) : run 52 35 ls [] σ = some (vU, σ) := (run_eq 52 35 _ _ σ).trans rfl
/-! B_lampBits -/
theorem e56_0 (ls st : List AV) (σ : St) : run 56 0 (ls) (st) σ = run 56 1 (ls) (vI 0 :: st) σ := (run_eq 56 0 _ _ σ).trans rfl
theorem e56_1 (a0 : AV) (l st : List AV) (σ : St) (q : AV) (x : Int) : run 56 1 (a0 :: q :: l) (vI x :: st) σ = run 56 2 (a0 :: vI x :: l) (st) σ := (run_eq 56 1 _ _ σ).trans rfl
theorem e56_2 (ls st : List AV) (σ : St) : run 56 2 (ls) (st) σ = run 56 3 (ls) (vI 0 :: st) σ := (run_eq 56 2 _ _ σ).trans rfl
theorem e56_3 (a0 a1 : AV) (l st : List AV) (σ : St) (q : AV) (x : Int) : run 56 3 (a0 :: a1 :: q :: l) (vI x :: st) σ = run 56 4 (a0 :: a1 :: vI x :: l) (st) σ := (run_eq 56 3 _ _ σ).trans rfl
theorem e56_4 (a0 a1 : AV) (l st : List AV) (σ : St) (x : Int) : run 56 4 (a0 :: a1 :: vI x :: l) (st) σ = run 56 5 (a0 :: a1 :: vI x :: l) (vI x :: st) σ := (run_eq 56 4 _ _ σ).trans rfl
theorem e56_5 (l st : List AV) (σ : St) (x : Nat) : run 56 5 (vR x :: l) (st) σ = run 56 6 (vR x :: l) (vR x :: st) σ := (run_eq 56 5 _ _ σ).trans rfl
theorem e56_6 (ls st : List AV) (σ : St) (x : Nat) (h : fok σ x 0) : run 56 6 (ls) (vR x :: st) σ = run 56 9 (ls) (vI (gt σ x 2) :: st) σ := (run_eq 56 6 _ _ σ).trans (if_pos h)
theorem e56_9 (ls st : List AV) (σ : St) (y x : Int) : run 56 9 (ls) (vI y :: vI x :: st) σ = if x < y then run 56 12 (ls) (st) σ else run 56 31 (ls) (st) σ := (run_eq 56 9 _ _ σ).trans rfl
theorem e56_12 (a0 : AV) (l st : List AV) (σ : St) (x : Int) : run 56 12 (a0 :: vI x :: l) (st) σ = run 56 13 (a0 :: vI x :: l) (vI x :: st) σ := (run_eq 56 12 _ _ σ).trans rfl
theorem e56_13 (l st : List AV) (σ : St) (x : Nat) : run 56 13 (vR x :: l) (st) σ = run 56 14 (vR x :: l) (vR x :: st) σ := (run_eq 56 13 _ _ σ).trans rfl
theorem e56_14 (ls st : List AV) (σ : St) (x : Nat) (h : fok σ x 0) : run 56 14 (ls) (vR x :: st) σ = run 56 17 (ls) (vR (gr σ x 7) :: st) σ := (run_eq 56 14 _ _ σ).trans (if_pos h)
theorem e56_17 (a0 a1 : AV) (l st : List AV) (σ : St) (x : Int) : run 56 17 (a0 :: a1 :: vI x :: l) (st) σ = run 56 18 (a0 :: a1 :: vI x :: l) (vI x :: st) σ := (run_eq 56 17 _ _ σ).trans rfl
theorem e56_18 (ls st : List AV) (σ : St) (x0 : Nat) (x1 : Int) (h4 : st.length ≤ 4) : run 56 18 ls (vI x1 :: vR x0 :: st) σ = bnd (run 10 0 [vR x0, vI x1] [] σ) (fun r σ => run 56 21 ls (psh r st) σ) := (run_eq 56 18 _ _ σ).trans (if_pos ⟨rfl, by simp, by simpa using h4⟩)
theorem e56_21 (a0 a1 : AV) (l st : List AV) (σ : St) (x : Int) : run 56 21 (a0 :: a1 :: vI x :: l) (st) σ = run 56 22 (a0 :: a1 :: vI x :: l) (vI x :: st) σ := (run_eq 56 21 _ _ σ).trans rfl
theorem e56_22 (ls st : List AV) (σ : St) (y x : Int) : run 56 22 (ls) (vI y :: vI x :: st) σ = run 56 23 (ls) (vI (bShl x y) :: st) σ := (run_eq 56 22 _ _ σ).trans rfl
theorem e56_23 (ls st : List AV) (σ : St) (y x : Int) : run 56 23 (ls) (vI y :: vI x :: st) σ = run 56 24 (ls) (vI (bOr x y) :: st) σ := (run_eq 56 23 _ _ σ).trans rfl
theorem e56_24 (a0 : AV) (l st : List AV) (σ : St) (q : AV) (x : Int) : run 56 24 (a0 :: q :: l) (vI x :: st) σ = run 56 25 (a0 :: vI x :: l) (st) σ := (run_eq 56 24 _ _ σ).trans rfl
theorem e56_25 (a0 a1 : AV) (l st : List AV) (σ : St) (x : Int) : run 56 25 (a0 :: a1 :: vI x :: l) (st) σ = run 56 28 (a0 :: a1 :: vI (wr (x + 1)) :: l) (st) σ := (run_eq 56 25 _ _ σ).trans rfl
theorem e56_28 (ls st : List AV) (σ : St) : run 56 28 (ls) (st) σ = run 56 4 (ls) (st) σ := (run_eq 56 28 _ _ σ).trans rfl
theorem e56_31 (a0 : AV) (l st : List AV) (σ : St) (x : Int) : run 56 31 (a0 :: vI x :: l) (st) σ = run 56 32 (a0 :: vI x :: l) (vI x :: st) σ := (run_eq 56 31 _ _ σ).trans rfl
theorem e56_32 (ls : List AV) (σ : St) (x : Int) : run 56 32 ls [vI x] σ = some (vI x, σ) := (run_eq 56 32 _ _ σ).trans rfl
/-! B_putOut -/
theorem e59_0 (ls st : List AV) (σ : St) : run 59 0 (ls) (st) σ = run 59 1 (ls) (vI 0 :: st) σ := (run_eq 59 0 _ _ σ).trans rfl
theorem e59_1 (a0 a1 : AV) (l st : List AV) (σ : St) (q : AV) (x : Int) : run 59 1 (a0 :: a1 :: q :: l) (vI x :: st) σ = run 59 2 (a0 :: a1 :: vI x :: l) (st) σ := (run_eq 59 1 _ _ σ).trans rfl
theorem e59_2 (a0 a1 : AV) (l st : List AV) (σ : St) (x : Int) : run 59 2 (a0 :: a1 :: vI x :: l) (st) σ = run 59 3 (a0 :: a1 :: vI x :: l) (vI x :: st) σ := (run_eq 59 2 _ _ σ).trans rfl
theorem e59_3 (l st : List AV) (σ : St) (x : Nat) : run 59 3 (vR x :: l) (st) σ = run 59 4 (vR x :: l) (vR x :: st) σ := (run_eq 59 3 _ _ σ).trans rfl
theorem e59_4 (ls st : List AV) (σ : St) (x : Nat) (h : fok σ x 0) : run 59 4 (ls) (vR x :: st) σ = run 59 7 (ls) (vI (gt σ x 2) :: st) σ := (run_eq 59 4 _ _ σ).trans (if_pos h)
theorem e59_7 (ls st : List AV) (σ : St) (y x : Int) : run 59 7 (ls) (vI y :: vI x :: st) σ = if x < y then run 59 10 (ls) (st) σ else run 59 34 (ls) (st) σ := (run_eq 59 7 _ _ σ).trans rfl
theorem e59_10 (a0 : AV) (l st : List AV) (σ : St) (x : Int) : run 59 10 (a0 :: vI x :: l) (st) σ = run 59 11 (a0 :: vI x :: l) (vI x :: st) σ := (run_eq 59 10 _ _ σ).trans rfl
theorem e59_11 (a0 a1 : AV) (l st : List AV) (σ : St) (x : Int) : run 59 11 (a0 :: a1 :: vI x :: l) (st) σ = run 59 12 (a0 :: a1 :: vI x :: l) (vI x :: st) σ := (run_eq 59 11 _ _ σ).trans rfl
theorem e59_12 (ls st : List AV) (σ : St) (y x : Int) : run 59 12 (ls) (vI y :: vI x :: st) σ = run 59 13 (ls) (vI (bShr x y) :: st) σ := (run_eq 59 12 _ _ σ).trans rfl
theorem e59_13 (ls st : List AV) (σ : St) : run 59 13 (ls) (st) σ = run 59 14 (ls) (vI 1 :: st) σ := (run_eq 59 13 _ _ σ).trans rfl
theorem e59_14 (ls st : List AV) (σ : St) (y x : Int) : run 59 14 (ls) (vI y :: vI x :: st) σ = run 59 15 (ls) (vI (bAnd x y) :: st) σ := (run_eq 59 14 _ _ σ).trans rfl
theorem e59_15 (ls st : List AV) (σ : St) : run 59 15 (ls) (st) σ = run 59 16 (ls) (vI 1 :: st) σ := (run_eq 59 15 _ _ σ).trans rfl
theorem e59_16 (ls st : List AV) (σ : St) (y x : Int) : run 59 16 (ls) (vI y :: vI x :: st) σ = if x = y then run 59 19 (ls) (st) σ else run 59 28 (ls) (st) σ := (run_eq 59 16 _ _ σ).trans rfl
theorem e59_19 (l st : List AV) (σ : St) (x : Nat) : run 59 19 (vR x :: l) (st) σ = run 59 20 (vR x :: l) (vR x :: st) σ := (run_eq 59 19 _ _ σ).trans rfl
theorem e59_20 (ls st : List AV) (σ : St) (x : Nat) (h : fok σ x 0) : run 59 20 (ls) (vR x :: st) σ = run 59 23 (ls) (vR (gr σ x 7) :: st) σ := (run_eq 59 20 _ _ σ).trans (if_pos h)
theorem e59_23 (a0 a1 : AV) (l st : List AV) (σ : St) (x : Int) : run 59 23 (a0 :: a1 :: vI x :: l) (st) σ = run 59 24 (a0 :: a1 :: vI x :: l) (vI x :: st) σ := (run_eq 59 23 _ _ σ).trans rfl
theorem e59_24 (ls st : List AV) (σ : St) : run 59 24 (ls) (st) σ = run 59 25 (ls) (vI 0 :: st) σ := (run_eq 59 24 _ _ σ).trans rfl
theorem e59_25 (ls st : List AV) (σ : St) (x0 : Nat) (x1 : Int) (x2 : Int) (h4 : st.length ≤ 4) : run 59 25 ls (vI x2 :: vI x1 :: vR x0 :: st) σ = bnd (run 11 0 [vR x0, vI x1, vI x2] [] σ) (fun r σ => run 59 28 ls (psh r st) σ) := (run_eq 59 25 _ _ σ).trans (if_pos ⟨rfl, by simp, by simpa using h4⟩)
theorem e59_28 (a0 a1 : AV) (l st : List AV) (σ : St) (x : Int) : run 59 28 (a0 :: a1 :: vI x :: l) (st) σ = run 59 31 (a0 :: a1 :: vI (wr (x + 1)) :: l) (st) σ := (run_eq 59 28 _ _ σ).trans rfl
theorem e59_31 (ls st : List AV) (σ : St) : run 59 31 (ls) (st) σ = run 59 2 (ls) (st) σ := (run_eq 59 31 _ _ σ).trans rfl
theorem e59_34 (l st : List AV) (σ : St) (x : Nat) : run 59 34 (vR x :: l) (st) σ = run 59 35 (vR x :: l) (vR x :: st) σ := (run_eq 59 34 _ _ σ).trans rfl
theorem e59_35 (ls st : List AV) (σ : St) (x0 : Nat) (h4 : st.length ≤ 4) (h : fok σ x0 0) : run 59 35 ls (vR x0 :: st) σ = bnd (run 13 0 [vR x0, vU, vU, vU, vU] [] σ) (fun r σ => run 59 38 ls (psh r st) σ) := (run_eq 59 35 _ _ σ).trans (if_pos ⟨rfl, by simp, by simpa using h4, rfl, h⟩)
theorem e59_38 (ls : List AV) (σ : St) : run 59 38 ls [] σ = some (vU, σ) := (run_eq 59 38 _ _ σ).trans rfl
/-! B_neverTogether -/
theorem e62_0 (ls st : List AV) (σ : St) : run 62 0 (ls) (st) σ = run 62 1 (ls) (vI 0 :: st) σ := (run_eq 62 0 _ _ σ).trans rfl
theorem e62_1 (a0 a1 a2 : AV) (l st : List AV) (σ : St) (q : AV) (x : Int) : run 62 1 (a0 :: a1 :: a2 :: q :: l) (vI x :: st) σ = run 62 2 (a0 :: a1 :: a2 :: vI x :: l) (st) σ := (run_eq 62 1 _ _ σ).trans rfl
theorem e62_2 (ls st : List AV) (σ : St) : run 62 2 (ls) (st) σ = run 62 3 (ls) (vI 0 :: st) σ := (run_eq 62 2 _ _ σ).trans rfl
theorem e62_3 (a0 a1 a2 a3 : AV) (l st : List AV) (σ : St) (q : AV) (x : Int) : run 62 3 (a0 :: a1 :: a2 :: a3 :: q :: l) (vI x :: st) σ = run 62 5 (a0 :: a1 :: a2 :: a3 :: vI x :: l) (st) σ := (run_eq 62 3 _ _ σ).trans rfl
theorem e62_5 (a0 a1 a2 a3 : AV) (l st : List AV) (σ : St) (x : Int) : run 62 5 (a0 :: a1 :: a2 :: a3 :: vI x :: l) (st) σ = run 62 7 (a0 :: a1 :: a2 :: a3 :: vI x :: l) (vI x :: st) σ := (run_eq 62 5 _ _ σ).trans rfl
theorem e62_7 (l st : List AV) (σ : St) (x : Nat) : run 62 7 (vR x :: l) (st) σ = run 62 8 (vR x :: l) (vR x :: st) σ := (run_eq 62 7 _ _ σ).trans rfl
theorem e62_8 (ls st : List AV) (σ : St) (x : Nat) (h : fok σ x 0) : run 62 8 (ls) (vR x :: st) σ = run 62 11 (ls) (vI (gt σ x 2) :: st) σ := (run_eq 62 8 _ _ σ).trans (if_pos h)
theorem e62_11 (ls st : List AV) (σ : St) (y x : Int) : run 62 11 (ls) (vI y :: vI x :: st) σ = if x < y then run 62 14 (ls) (st) σ else run 62 89 (ls) (st) σ := (run_eq 62 11 _ _ σ).trans rfl
theorem e62_14 (l st : List AV) (σ : St) (x : Nat) : run 62 14 (vR x :: l) (st) σ = run 62 15 (vR x :: l) (vR x :: st) σ := (run_eq 62 14 _ _ σ).trans rfl
theorem e62_15 (a0 : AV) (l st : List AV) (σ : St) (x : Int) : run 62 15 (a0 :: vI x :: l) (st) σ = run 62 16 (a0 :: vI x :: l) (vI x :: st) σ := (run_eq 62 15 _ _ σ).trans rfl
theorem e62_16 (a0 a1 a2 a3 : AV) (l st : List AV) (σ : St) (x : Int) : run 62 16 (a0 :: a1 :: a2 :: a3 :: vI x :: l) (st) σ = run 62 18 (a0 :: a1 :: a2 :: a3 :: vI x :: l) (vI x :: st) σ := (run_eq 62 16 _ _ σ).trans rfl
theorem e62_18 (ls st : List AV) (σ : St) (x0 : Nat) (x1 : Int) (x2 : Int) (h4 : st.length ≤ 4) (h : fok σ x0 0) : run 62 18 ls (vI x2 :: vI x1 :: vR x0 :: st) σ = bnd (run 18 0 [vR x0, vI x1, vI x2] [] σ) (fun r σ => run 62 21 ls (psh r st) σ) := (run_eq 62 18 _ _ σ).trans (if_pos ⟨rfl, by simp, by simpa using h4, rfl, h⟩)
theorem e62_21 (a0 a1 a2 a3 a4 : AV) (l st : List AV) (σ : St) (q : AV) (x : Int) : run 62 21 (a0 :: a1 :: a2 :: a3 :: a4 :: q :: l) (vI x :: st) σ = run 62 23 (a0 :: a1 :: a2 :: a3 :: a4 :: vI x :: l) (st) σ := (run_eq 62 21 _ _ σ).trans rfl
theorem e62_23 (l st : List AV) (σ : St) (x : Nat) : run 62 23 (vR x :: l) (st) σ = run 62 24 (vR x :: l) (vR x :: st) σ := (run_eq 62 23 _ _ σ).trans rfl
theorem e62_24 (a0 a1 : AV) (l st : List AV) (σ : St) (x : Int) : run 62 24 (a0 :: a1 :: vI x :: l) (st) σ = run 62 25 (a0 :: a1 :: vI x :: l) (vI x :: st) σ := (run_eq 62 24 _ _ σ).trans rfl
theorem e62_25 (a0 a1 a2 a3 : AV) (l st : List AV) (σ : St) (x : Int) : run 62 25 (a0 :: a1 :: a2 :: a3 :: vI x :: l) (st) σ = run 62 27 (a0 :: a1 :: a2 :: a3 :: vI x :: l) (vI x :: st) σ := (run_eq 62 25 _ _ σ).trans rfl
theorem e62_27 (ls st : List AV) (σ : St) (x0 : Nat) (x1 : Int) (x2 : Int) (h4 : st.length ≤ 4) (h : fok σ x0 0) : run 62 27 ls (vI x2 :: vI x1 :: vR x0 :: st) σ = bnd (run 18 0 [vR x0, vI x1, vI x2] [] σ) (fun r σ => run 62 30 ls (psh r st) σ) := (run_eq 62 27 _ _ σ).trans (if_pos ⟨rfl, by simp, by simpa using h4, rfl, h⟩)
theorem e62_30 (a0 a1 a2 a3 a4 a5 : AV) (l st : List AV) (σ : St) (q : AV) (x : Int) : run 62 30 (a0 :: a1 :: a2 :: a3 :: a4 :: a5 :: q :: l) (vI x :: st) σ = run 62 32 (a0 :: a1 :: a2 :: a3 :: a4 :: a5 :: vI x :: l) (st) σ := (run_eq 62 30 _ _ σ).trans rfl
theorem e62_32 (a0 a1 a2 a3 a4 : AV) (l st : List AV) (σ : St) (x : Int) : run 62 32 (a0 :: a1 :: a2 :: a3 :: a4 :: vI x :: l) (st) σ = run 62 34 (a0 :: a1 :: a2 :: a3 :: a4 :: vI x :: l) (vI x :: st) σ := (run_eq 62 32 _ _ σ).trans rfl
theorem e62_34 (ls st : List AV) (σ : St) : run 62 34 (ls) (st) σ = run 62 35 (ls) (vI (-1) :: st) σ := (run_eq 62 34 _ _ σ).trans rfl
theorem e62_35 (ls st : List AV) (σ : St) (y x : Int) : run 62 35 (ls) (vI y :: vI x :: st) σ = if x = y then run 62 48 (ls) (st) σ else run 62 38 (ls) (st) σ := (run_eq 62 35 _ _ σ).trans rfl
theorem e62_38 (a0 a1 a2 a3 a4 a5 : AV) (l st : List AV) (σ : St) (x : Int) : run 62 38 (a0 :: a1 :: a2 :: a3 :: a4 :: a5 :: vI x :: l) (st) σ = run 62 40 (a0 :: a1 :: a2 :: a3 :: a4 :: a5 :: vI x :: l) (vI x :: st) σ := (run_eq 62 38 _ _ σ).trans rfl
theorem e62_40 (ls st : List AV) (σ : St) : run 62 40 (ls) (st) σ = run 62 41 (ls) (vI (-1) :: st) σ := (run_eq 62 40 _ _ σ).trans rfl
theorem e62_41 (ls st : List AV) (σ : St) (y x : Int) : run 62 41 (ls) (vI y :: vI x :: st) σ = if x = y then run 62 48 (ls) (st) σ else run 62 44 (ls) (st) σ := (run_eq 62 41 _ _ σ).trans rfl
theorem e62_44 (ls st : List AV) (σ : St) : run 62 44 (ls) (st) σ = run 62 45 (ls) (vI 1 :: st) σ := (run_eq 62 44 _ _ σ).trans rfl
theorem e62_45 (ls st : List AV) (σ : St) : run 62 45 (ls) (st) σ = run 62 49 (ls) (st) σ := (run_eq 62 45 _ _ σ).trans rfl
theorem e62_48 (ls st : List AV) (σ : St) : run 62 48 (ls) (st) σ = run 62 49 (ls) (vI 0 :: st) σ := (run_eq 62 48 _ _ σ).trans rfl
theorem e62_49 (a0 a1 a2 a3 a4 a5 a6 : AV) (l st : List AV) (σ : St) (q : AV) (x : Int) : run 62 49 (a0 :: a1 :: a2 :: a3 :: a4 :: a5 :: a6 :: q :: l) (vI x :: st) σ = run 62 51 (a0 :: a1 :: a2 :: a3 :: a4 :: a5 :: a6 :: vI x :: l) (st) σ := (run_eq 62 49 _ _ σ).trans rfl
theorem e62_51 (a0 a1 a2 : AV) (l st : List AV) (σ : St) (x : Int) : run 62 51 (a0 :: a1 :: a2 :: vI x :: l) (st) σ = run 62 52 (a0 :: a1 :: a2 :: vI x :: l) (vI x :: st) σ := (run_eq 62 51 _ _ σ).trans rfl
theorem e62_52 (ls st : List AV) (σ : St) (x : Int) : run 62 52 (ls) (vI x :: st) σ = if x = 0 then run 62 55 (ls) (st) σ else run 62 77 (ls) (st) σ := (run_eq 62 52 _ _ σ).trans rfl
theorem e62_55 (a0 a1 a2 a3 a4 a5 a6 : AV) (l st : List AV) (σ : St) (x : Int) : run 62 55 (a0 :: a1 :: a2 :: a3 :: a4 :: a5 :: a6 :: vI x :: l) (st) σ = run 62 57 (a0 :: a1 :: a2 :: a3 :: a4 :: a5 :: a6 :: vI x :: l) (vI x :: st) σ := (run_eq 62 55 _ _ σ).trans rfl
theorem e62_57 (ls st : List AV) (σ : St) (x : Int) : run 62 57 (ls) (vI x :: st) σ = if x = 0 then run 62 81 (ls) (st) σ else run 62 60 (ls) (st) σ := (run_eq 62 57 _ _ σ).trans rfl
theorem e62_60 (a0 a1 a2 a3 a4 : AV) (l st : List AV) (σ : St) (x : Int) : run 62 60 (a0 :: a1 :: a2 :: a3 :: a4 :: vI x :: l) (st) σ = run 62 62 (a0 :: a1 :: a2 :: a3 :: a4 :: vI x :: l) (vI x :: st) σ := (run_eq 62 60 _ _ σ).trans rfl
theorem e62_62 (a0 a1 a2 a3 a4 a5 : AV) (l st : List AV) (σ : St) (x : Int) : run 62 62 (a0 :: a1 :: a2 :: a3 :: a4 :: a5 :: vI x :: l) (st) σ = run 62 64 (a0 :: a1 :: a2 :: a3 :: a4 :: a5 :: vI x :: l) (vI x :: st) σ := (run_eq 62 62 _ _ σ).trans rfl
theorem e62_64 (ls st : List AV) (σ : St) (y x : Int) : run 62 64 (ls) (vI y :: vI x :: st) σ = run 62 65 (ls) (vI (wr (x - y)) :: st) σ := (run_eq 62 64 _ _ σ).trans rfl
theorem e62_65 (ls st : List AV) (σ : St) (x : Int) (h4 : st.length ≤ 4) : run 62 65 (ls) (vI x :: st) σ = run 62 68 (ls) (vI (if 0 ≤ x then x else wr (-x)) :: st) σ := (run_eq 62 65 _ _ σ).trans (if_pos h4)
theorem e62_68 (ls st : List AV) (σ : St) : run 62 68 (ls) (st) σ = run 62 69 (ls) (vI 2 :: st) σ := (run_eq 62 68 _ _ σ).trans rfl
theorem e62_69 (l st : List AV) (σ : St) (x : Nat) : run 62 69 (vR x :: l) (st) σ = run 62 70 (vR x :: l) (vR x :: st) σ := (run_eq 62 69 _ _ σ).trans rfl
theorem e62_70 (ls st : List AV) (σ : St) (x : Nat) (h : fok σ x 0) : run 62 70 (ls) (vR x :: st) σ = run 62 73 (ls) (vI (gt σ x 4) :: st) σ := (run_eq 62 70 _ _ σ).trans (if_pos h)
theorem e62_73 (ls st : List AV) (σ : St) (y x : Int) : run 62 73 (ls) (vI y :: vI x :: st) σ = run 62 74 (ls) (vI (wr (x * y)) :: st) σ := (run_eq 62 73 _ _ σ).trans rfl
theorem e62_74 (ls st : List AV) (σ : St) (y x : Int) : run 62 74 (ls) (vI y :: vI x :: st) σ = if y < x then run 62 77 (ls) (st) σ else run 62 81 (ls) (st) σ := (run_eq 62 74 _ _ σ).trans rfl
theorem e62_77 (ls st : List AV) (σ : St) : run 62 77 (ls) (st) σ = run 62 78 (ls) (vI 1 :: st) σ := (run_eq 62 77 _ _ σ).trans rfl
theorem e62_78 (ls st : List AV) (σ : St) : run 62 78 (ls) (st) σ = run 62 82 (ls) (st) σ := (run_eq 62 78 _ _ σ).trans rfl
theorem e62_81 (ls st : List AV) (σ : St) : run 62 81 (ls) (st) σ = run 62 82 (ls) (vI 0 :: st) σ := (run_eq 62 81 _ _ σ).trans rfl
theorem e62_82 (a0 a1 a2 : AV) (l st : List AV) (σ : St) (q : AV) (x : Int) : run 62 82 (a0 :: a1 :: a2 :: q :: l) (vI x :: st) σ = run 62 83 (a0 :: a1 :: a2 :: vI x :: l) (st) σ := (run_eq 62 82 _ _ σ).trans rfl
theorem e62_83 (a0 a1 a2 a3 : AV) (l st : List AV) (σ : St) (x : Int) : run 62 83 (a0 :: a1 :: a2 :: a3 :: vI x :: l) (st) σ = run 62 86 (a0 :: a1 :: a2 :: a3 :: vI (wr (x + 1)) :: l) (st) σ := (run_eq 62 83 _ _ σ).trans rfl
theorem e62_86 (ls st : List AV) (σ : St) : run 62 86 (ls) (st) σ = run 62 5 (ls) (st) σ := (run_eq 62 86 _ _ σ).trans rfl
theorem e62_89 (a0 a1 a2 : AV) (l st : List AV) (σ : St) (x : Int) : run 62 89 (a0 :: a1 :: a2 :: vI x :: l) (st) σ = run 62 90 (a0 :: a1 :: a2 :: vI x :: l) (vI x :: st) σ := (run_eq 62 89 _ _ σ).trans rfl
theorem e62_90 (ls : List AV) (σ : St) (x : Int) (h : x = 0 ∨ x = 1) : run 62 90 ls [vI x] σ = some (vI x, σ) := (run_eq 62 90 _ _ σ).trans (if_pos h)
/-! B_isWanted -/
theorem e66_0 (ls st : List AV) (σ : St) : run 66 0 (ls) (st) σ = run 66 1 (ls) (vI 0 :: st) σ := (run_eq 66 0 _ _ σ).trans rfl
theorem e66_1 (a0 a1 : AV) (l st : List AV) (σ : St) (q : AV) (x : Int) : run 66 1 (a0 :: a1 :: q :: l) (vI x :: st) σ = run 66 2 (a0 :: a1 :: vI x :: l) (st) σ := (run_eq 66 1 _ _ σ).trans rfl
theorem e66_2 (ls st : List AV) (σ : St) : run 66 2 (ls) (st) σ = run 66 3 (ls) (vI 0 :: st) σ := (run_eq 66 2 _ _ σ).trans rfl
theorem e66_3 (a0 a1 a2 : AV) (l st : List AV) (σ : St) (q : AV) (x : Int) : run 66 3 (a0 :: a1 :: a2 :: q :: l) (vI x :: st) σ = run 66 4 (a0 :: a1 :: a2 :: vI x :: l) (st) σ := (run_eq 66 3 _ _ σ).trans rfl
theorem e66_4 (a0 a1 a2 : AV) (l st : List AV) (σ : St) (x : Int) : run 66 4 (a0 :: a1 :: a2 :: vI x :: l) (st) σ = run 66 5 (a0 :: a1 :: a2 :: vI x :: l) (vI x :: st) σ := (run_eq 66 4 _ _ σ).trans rfl
theorem e66_5 (ls st : List AV) (σ : St) : run 66 5 (ls) (st) σ = run 66 6 (ls) (vI 4 :: st) σ := (run_eq 66 5 _ _ σ).trans rfl
theorem e66_6 (ls st : List AV) (σ : St) (y x : Int) : run 66 6 (ls) (vI y :: vI x :: st) σ = if x < y then run 66 9 (ls) (st) σ else run 66 35 (ls) (st) σ := (run_eq 66 6 _ _ σ).trans rfl
theorem e66_9 (a0 a1 : AV) (l st : List AV) (σ : St) (x : Int) : run 66 9 (a0 :: a1 :: vI x :: l) (st) σ = run 66 10 (a0 :: a1 :: vI x :: l) (vI x :: st) σ := (run_eq 66 9 _ _ σ).trans rfl
theorem e66_10 (ls st : List AV) (σ : St) (x : Int) : run 66 10 (ls) (vI x :: st) σ = if x = 0 then run 66 13 (ls) (st) σ else run 66 23 (ls) (st) σ := (run_eq 66 10 _ _ σ).trans rfl
theorem e66_13 (l st : List AV) (σ : St) (x : Nat) : run 66 13 (vR x :: l) (st) σ = run 66 14 (vR x :: l) (vR x :: st) σ := (run_eq 66 13 _ _ σ).trans rfl
theorem e66_14 (a0 a1 a2 : AV) (l st : List AV) (σ : St) (x : Int) : run 66 14 (a0 :: a1 :: a2 :: vI x :: l) (st) σ = run 66 15 (a0 :: a1 :: a2 :: vI x :: l) (vI x :: st) σ := (run_eq 66 14 _ _ σ).trans rfl
theorem e66_15 (a0 : AV) (l st : List AV) (σ : St) (x : Int) : run 66 15 (a0 :: vI x :: l) (st) σ = run 66 16 (a0 :: vI x :: l) (vI x :: st) σ := (run_eq 66 15 _ _ σ).trans rfl
theorem e66_16 (ls st : List AV) (σ : St) (x0 : Nat) (x1 : Int) (x2 : Int) (h4 : st.length ≤ 4) (h : fok σ x0 0) : run 66 16 ls (vI x2 :: vI x1 :: vR x0 :: st) σ = bnd (run 18 0 [vR x0, vI x1, vI x2] [] σ) (fun r σ => run 66 19 ls (psh r st) σ) := (run_eq 66 16 _ _ σ).trans (if_pos ⟨rfl, by simp, by simpa using h4, rfl, h⟩)
theorem e66_19 (ls st : List AV) (σ : St) : run 66 19 (ls) (st) σ = run 66 20 (ls) (vI (-1) :: st) σ := (run_eq 66 19 _ _ σ).trans rfl
theorem e66_20 (ls st : List AV) (σ : St) (y x : Int) : run 66 20 (ls) (vI y :: vI x :: st) σ = if x = y then run 66 27 (ls) (st) σ else run 66 23 (ls) (st) σ := (run_eq 66 20 _ _ σ).trans rfl
theorem e66_23 (ls st : List AV) (σ : St) : run 66 23 (ls) (st) σ = run 66 24 (ls) (vI 1 :: st) σ := (run_eq 66 23 _ _ σ).trans rfl
theorem e66_24 (ls st : List AV) (σ : St) : run 66 24 (ls) (st) σ = run 66 28 (ls) (st) σ := (run_eq 66 24 _ _ σ).trans rfl
theorem e66_27 (ls st : List AV) (σ : St) : run 66 27 (ls) (st) σ = run 66 28 (ls) (vI 0 :: st) σ := (run_eq 66 27 _ _ σ).trans rfl
theorem e66_28 (a0 a1 : AV) (l st : List AV) (σ : St) (q : AV) (x : Int) : run 66 28 (a0 :: a1 :: q :: l) (vI x :: st) σ = run 66 29 (a0 :: a1 :: vI x :: l) (st) σ := (run_eq 66 28 _ _ σ).trans rfl
theorem e66_29 (a0 a1 a2 : AV) (l st : List AV) (σ : St) (x : Int) : run 66 29 (a0 :: a1 :: a2 :: vI x :: l) (st) σ = run 66 32 (a0 :: a1 :: a2 :: vI (wr (x + 1)) :: l) (st) σ := (run_eq 66 29 _ _ σ).trans rfl
theorem e66_32 (ls st : List AV) (σ : St) : run 66 32 (ls) (st) σ = run 66 4 (ls) (st) σ := (run_eq 66 32 _ _ σ).trans rfl
theorem e66_35 (a0 a1 : AV) (l st : List AV) (σ : St) (x : Int) : run 66 35 (a0 :: a1 :: vI x :: l) (st) σ = run 66 36 (a0 :: a1 :: vI x :: l) (vI x :: st) σ := (run_eq 66 35 _ _ σ).trans rfl
theorem e66_36 (ls : List AV) (σ : St) (x : Int) (h : x = 0 ∨ x = 1) : run 66 36 ls [vI x] σ = some (vI x, σ) := (run_eq 66 36 _ _ σ).trans (if_pos h)
/-! B_beside -/
theorem e67_0 (l st : List AV) (σ : St) (x : Nat) : run 67 0 (vR x :: l) (st) σ = run 67 1 (vR x :: l) (vR x :: st) σ := (run_eq 67 0 _ _ σ).trans rfl
theorem e67_1 (ls st : List AV) (σ : St) (x : Nat) (h : fok σ x 0) : run 67 1 (ls) (vR x :: st) σ = run 67 4 (ls) (vI (gt σ x 1) :: st) σ := (run_eq 67 1 _ _ σ).trans (if_pos h)
theorem e67_4 (ls st : List AV) (σ : St) : run 67 4 (ls) (st) σ = run 67 5 (ls) (vI 1 :: st) σ := (run_eq 67 4 _ _ σ).trans rfl
theorem e67_5 (ls st : List AV) (σ : St) (y x : Int) : run 67 5 (ls) (vI y :: vI x :: st) σ = if x < y then run 67 8 (ls) (st) σ else run 67 10 (ls) (st) σ := (run_eq 67 5 _ _ σ).trans rfl
theorem e67_8 (ls st : List AV) (σ : St) : run 67 8 (ls) (st) σ = run 67 9 (ls) (vI (-1) :: st) σ := (run_eq 67 8 _ _ σ).trans rfl
theorem e67_9 (ls : List AV) (σ : St) (x : Int) : run 67 9 ls [vI x] σ = some (vI x, σ) := (run_eq 67 9 _ _ σ).trans rfl
theorem e67_10 (l st : List AV) (σ : St) (x : Nat) : run 67 10 (vR x :: l) (st) σ = run 67 11 (vR x :: l) (vR x :: st) σ := (run_eq 67 10 _ _ σ).trans rfl
theorem e67_11 (a0 : AV) (l st : List AV) (σ : St) (x : Int) : run 67 11 (a0 :: vI x :: l) (st) σ = run 67 12 (a0 :: vI x :: l) (vI x :: st) σ := (run_eq 67 11 _ _ σ).trans rfl
theorem e67_12 (l st : List AV) (σ : St) (x : Nat) : run 67 12 (vR x :: l) (st) σ = run 67 13 (vR x :: l) (vR x :: st) σ := (run_eq 67 12 _ _ σ).trans rfl
theorem e67_13 (ls st : List AV) (σ : St) (x : Nat) (h : fok σ x 0) : run 67 13 (ls) (vR x :: st) σ = run 67 16 (ls) (vI (gt σ x 1) :: st) σ := (run_eq 67 13 _ _ σ).trans (if_pos h)
theorem e67_16 (ls st : List AV) (σ : St) (y x : Int) (h : ¬ y = 0) : run 67 16 (ls) (vI y :: vI x :: st) σ = run 67 17 (ls) (vI (wr (x.tdiv y)) :: st) σ := (run_eq 67 16 _ _ σ).trans (if_neg h)
theorem e67_17 (a0 a1 : AV) (l st : List AV) (σ : St) (x : Int) : run 67 17 (a0 :: a1 :: vI x :: l) (st) σ = run 67 18 (a0 :: a1 :: vI x :: l) (vI x :: st) σ := (run_eq 67 17 _ _ σ).trans rfl
theorem e67_18 (ls st : List AV) (σ : St) (x0 : Int) (h4 : st.length ≤ 4) : run 67 18 ls (vI x0 :: st) σ = bnd (run 31 0 [vI x0] [] σ) (fun r σ => run 67 21 ls (psh r st) σ) := (run_eq 67 18 _ _ σ).trans (if_pos ⟨rfl, by simp, by simpa using h4⟩)
theorem e67_21 (ls st : List AV) (σ : St) (y x : Int) : run 67 21 (ls) (vI y :: vI x :: st) σ = run 67 22 (ls) (vI (wr (x + y)) :: st) σ := (run_eq 67 21 _ _ σ).trans rfl
theorem e67_22 (a0 : AV) (l st : List AV) (σ : St) (x : Int) : run 67 22 (a0 :: vI x :: l) (st) σ = run 67 23 (a0 :: vI x :: l) (vI x :: st) σ := (run_eq 67 22 _ _ σ).trans rfl
theorem e67_23 (l st : List AV) (σ : St) (x : Nat) : run 67 23 (vR x :: l) (st) σ = run 67 24 (vR x :: l) (vR x :: st) σ := (run_eq 67 23 _ _ σ).trans rfl
theorem e67_24 (ls st : List AV) (σ : St) (x : Nat) (h : fok σ x 0) : run 67 24 (ls) (vR x :: st) σ = run 67 27 (ls) (vI (gt σ x 1) :: st) σ := (run_eq 67 24 _ _ σ).trans (if_pos h)
theorem e67_27 (ls st : List AV) (σ : St) (y x : Int) (h : ¬ y = 0) : run 67 27 (ls) (vI y :: vI x :: st) σ = run 67 28 (ls) (vI (wr (x.tmod y)) :: st) σ := (run_eq 67 27 _ _ σ).trans (if_neg h)
theorem e67_28 (a0 a1 : AV) (l st : List AV) (σ : St) (x : Int) : run 67 28 (a0 :: a1 :: vI x :: l) (st) σ = run 67 29 (a0 :: a1 :: vI x :: l) (vI x :: st) σ := (run_eq 67 28 _ _ σ).trans rfl
theorem e67_29 (ls st : List AV) (σ : St) (x0 : Int) (h4 : st.length ≤ 4) : run 67 29 ls (vI x0 :: st) σ = bnd (run 32 0 [vI x0] [] σ) (fun r σ => run 67 32 ls (psh r st) σ) := (run_eq 67 29 _ _ σ).trans (if_pos ⟨rfl, by simp, by simpa using h4⟩)
theorem e67_32 (ls st : List AV) (σ : St) (y x : Int) : run 67 32 (ls) (vI y :: vI x :: st) σ = run 67 33 (ls) (vI (wr (x + y)) :: st) σ := (run_eq 67 32 _ _ σ).trans rfl
theorem e67_33 (ls st : List AV) (σ : St) (x0 : Nat) (x1 : Int) (x2 : Int) (h4 : st.length ≤ 4) (h : fok σ x0 0) : run 67 33 ls (vI x2 :: vI x1 :: vR x0 :: st) σ = bnd (run 14 0 [vR x0, vI x1, vI x2, vU] [] σ) (fun r σ => run 67 36 ls (psh r st) σ) := (run_eq 67 33 _ _ σ).trans (if_pos ⟨rfl, by simp, by simpa using h4, rfl, h⟩)
theorem e67_36 (ls : List AV) (σ : St) (x : Int) : run 67 36 ls [vI x] σ = some (vI x, σ) := (run_eq 67 36 _ _ σ).trans rfl
/-! B_sightsHold -/
theorem e77_0 (ls st : List AV) (σ : St) : run 77 0 (ls) (st) σ = run 77 1 (ls) (vI 1 :: st) σ := (run_eq 77 0 _ _ σ).trans rfl
theorem e77_1 (a0 : AV) (l st : List AV) (σ : St) (q : AV) (x : Int) : run 77 1 (a0 :: q :: l) (vI x :: st) σ = run 77 2 (a0 :: vI x :: l) (st) σ := (run_eq 77 1 _ _ σ).trans rfl
theorem e77_2 (ls st : List AV) (σ : St) : run 77 2 (ls) (st) σ = run 77 3 (ls) (vI 0 :: st) σ := (run_eq 77 2 _ _ σ).trans rfl
theorem e77_3 (a0 a1 : AV) (l st : List AV) (σ : St) (q : AV) (x : Int) : run 77 3 (a0 :: a1 :: q :: l) (vI x :: st) σ = run 77 4 (a0 :: a1 :: vI x :: l) (st) σ := (run_eq 77 3 _ _ σ).trans rfl
theorem e77_4 (a0 a1 : AV) (l st : List AV) (σ : St) (x : Int) : run 77 4 (a0 :: a1 :: vI x :: l) (st) σ = run 77 5 (a0 :: a1 :: vI x :: l) (vI x :: st) σ := (run_eq 77 4 _ _ σ).trans rfl
theorem e77_5 (l st : List AV) (σ : St) (x : Nat) : run 77 5 (vR x :: l) (st) σ = run 77 6 (vR x :: l) (vR x :: st) σ := (run_eq 77 5 _ _ σ).trans rfl
theorem e77_6 (ls st : List AV) (σ : St) (x : Nat) (h : fok σ x 0) : run 77 6 (ls) (vR x :: st) σ = run 77 9 (ls) (vI (gt σ x 5) :: st) σ := (run_eq 77 6 _ _ σ).trans (if_pos h)
theorem e77_9 (ls st : List AV) (σ : St) (y x : Int) : run 77 9 (ls) (vI y :: vI x :: st) σ = if x < y then run 77 12 (ls) (st) σ else run 77 54 (ls) (st) σ := (run_eq 77 9 _ _ σ).trans rfl
theorem e77_12 (a0 : AV) (l st : List AV) (σ : St) (x : Int) : run 77 12 (a0 :: vI x :: l) (st) σ = run 77 13 (a0 :: vI x :: l) (vI x :: st) σ := (run_eq 77 12 _ _ σ).trans rfl
theorem e77_13 (ls st : List AV) (σ : St) (x : Int) : run 77 13 (ls) (vI x :: st) σ = if x = 0 then run 77 46 (ls) (st) σ else run 77 16 (ls) (st) σ := (run_eq 77 13 _ _ σ).trans rfl
theorem e77_16 (l st : List AV) (σ : St) (x : Nat) : run 77 16 (vR x :: l) (st) σ = run 77 17 (vR x :: l) (vR x :: st) σ := (run_eq 77 16 _ _ σ).trans rfl
theorem e77_17 (ls st : List AV) (σ : St) (x : Nat) (h : fok σ x 0) : run 77 17 (ls) (vR x :: st) σ = run 77 20 (ls) (vR (gr σ x 6) :: st) σ := (run_eq 77 17 _ _ σ).trans (if_pos h)
theorem e77_20 (l st : List AV) (σ : St) (x : Nat) : run 77 20 (vR x :: l) (st) σ = run 77 21 (vR x :: l) (vR x :: st) σ := (run_eq 77 20 _ _ σ).trans rfl
theorem e77_21 (ls st : List AV) (σ : St) (x : Nat) (h : fok σ x 0) : run 77 21 (ls) (vR x :: st) σ = run 77 24 (ls) (vR (gr σ x 11) :: st) σ := (run_eq 77 21 _ _ σ).trans (if_pos h)
theorem e77_24 (a0 a1 : AV) (l st : List AV) (σ : St) (x : Int) : run 77 24 (a0 :: a1 :: vI x :: l) (st) σ = run 77 25 (a0 :: a1 :: vI x :: l) (vI x :: st) σ := (run_eq 77 24 _ _ σ).trans rfl
theorem e77_25 (ls st : List AV) (σ : St) (x0 : Nat) (x1 : Int) (h4 : st.length ≤ 4) : run 77 25 ls (vI x1 :: vR x0 :: st) σ = bnd (run 10 0 [vR x0, vI x1] [] σ) (fun r σ => run 77 28 ls (psh r st) σ) := (run_eq 77 25 _ _ σ).trans (if_pos ⟨rfl, by simp, by simpa using h4⟩)
theorem e77_28 (ls st : List AV) (σ : St) (x0 : Nat) (x1 : Int) (h4 : st.length ≤ 4) : run 77 28 ls (vI x1 :: vR x0 :: st) σ = bnd (run 10 0 [vR x0, vI x1] [] σ) (fun r σ => run 77 31 ls (psh r st) σ) := (run_eq 77 28 _ _ σ).trans (if_pos ⟨rfl, by simp, by simpa using h4⟩)
theorem e77_31 (l st : List AV) (σ : St) (x : Nat) : run 77 31 (vR x :: l) (st) σ = run 77 32 (vR x :: l) (vR x :: st) σ := (run_eq 77 31 _ _ σ).trans rfl
theorem e77_32 (ls st : List AV) (σ : St) (x : Nat) (h : fok σ x 0) : run 77 32 (ls) (vR x :: st) σ = run 77 35 (ls) (vR (gr σ x 12) :: st) σ := (run_eq 77 32 _ _ σ).trans (if_pos h)
theorem e77_35 (a0 a1 : AV) (l st : List AV) (σ : St) (x : Int) : run 77 35 (a0 :: a1 :: vI x :: l) (st) σ = run 77 36 (a0 :: a1 :: vI x :: l) (vI x :: st) σ := (run_eq 77 35 _ _ σ).trans rfl
theorem e77_36 (ls st : List AV) (σ : St) (x0 : Nat) (x1 : Int) (h4 : st.length ≤ 4) : run 77 36 ls (vI x1 :: vR x0 :: st) σ = bnd (run 10 0 [vR x0, vI x1] [] σ) (fun r σ => run 77 39 ls (psh r st) σ) := (run_eq 77 36 _ _ σ).trans (if_pos ⟨rfl, by simp, by simpa using h4⟩)
theorem e77_39 (ls st : List AV) (σ : St) (y x : Int) : run 77 39 (ls) (vI y :: vI x :: st) σ = if x = y then run 77 42 (ls) (st) σ else run 77 46 (ls) (st) σ := (run_eq 77 39 _ _ σ).trans rfl
theorem e77_42 (ls st : List AV) (σ : St) : run 77 42 (ls) (st) σ = run 77 43 (ls) (vI 1 :: st) σ := (run_eq 77 42 _ _ σ).trans rfl
theorem e77_43 (ls st : List AV) (σ : St) : run 77 43 (ls) (st) σ = run 77 47 (ls) (st) σ := (run_eq 77 43 _ _ σ).trans rfl
theorem e77_46 (ls st : List AV) (σ : St) : run 77 46 (ls) (st) σ = run 77 47 (ls) (vI 0 :: st) σ := (run_eq 77 46 _ _ σ).trans rfl
theorem e77_47 (a0 : AV) (l st : List AV) (σ : St) (q : AV) (x : Int) : run 77 47 (a0 :: q :: l) (vI x :: st) σ = run 77 48 (a0 :: vI x :: l) (st) σ := (run_eq 77 47 _ _ σ).trans rfl
theorem e77_48 (a0 a1 : AV) (l st : List AV) (σ : St) (x : Int) : run 77 48 (a0 :: a1 :: vI x :: l) (st) σ = run 77 51 (a0 :: a1 :: vI (wr (x + 1)) :: l) (st) σ := (run_eq 77 48 _ _ σ).trans rfl
theorem e77_51 (ls st : List AV) (σ : St) : run 77 51 (ls) (st) σ = run 77 4 (ls) (st) σ := (run_eq 77 51 _ _ σ).trans rfl
theorem e77_54 (a0 : AV) (l st : List AV) (σ : St) (x : Int) : run 77 54 (a0 :: vI x :: l) (st) σ = run 77 55 (a0 :: vI x :: l) (vI x :: st) σ := (run_eq 77 54 _ _ σ).trans rfl
theorem e77_55 (ls : List AV) (σ : St) (x : Int) (h : x = 0 ∨ x = 1) : run 77 55 ls [vI x] σ = some (vI x, σ) := (run_eq 77 55 _ _ σ).trans (if_pos h)
/-! B_someShapeFell -/
theorem e83_0 (ls st : List AV) (σ : St) : run 83 0 (ls) (st) σ = run 83 1 (ls) (vI 0 :: st) σ := (run_eq 83 0 _ _ σ).trans rfl
theorem e83_1 (a0 : AV) (l st : List AV) (σ : St) (q : AV) (x : Int) : run 83 1 (a0 :: q :: l) (vI x :: st) σ = run 83 2 (a0 :: vI x :: l) (st) σ := (run_eq 83 1 _ _ σ).trans rfl
theorem e83_2 (ls st : List AV) (σ : St) : run 83 2 (ls) (st) σ = run 83 3 (ls) (vI 0 :: st) σ := (run_eq 83 2 _ _ σ).trans rfl
theorem e83_3 (a0 a1 : AV) (l st : List AV) (σ : St) (q : AV) (x : Int) : run 83 3 (a0 :: a1 :: q :: l) (vI x :: st) σ = run 83 4 (a0 :: a1 :: vI x :: l) (st) σ := (run_eq 83 3 _ _ σ).trans rfl
theorem e83_4 (a0 a1 : AV) (l st : List AV) (σ : St) (x : Int) : run 83 4 (a0 :: a1 :: vI x :: l) (st) σ = run 83 5 (a0 :: a1 :: vI x :: l) (vI x :: st) σ := (run_eq 83 4 _ _ σ).trans rfl
theorem e83_5 (ls st : List AV) (σ : St) : run 83 5 (ls) (st) σ = run 83 6 (ls) (vI 4 :: st) σ := (run_eq 83 5 _ _ σ).trans rfl
theorem e83_6 (ls st : List AV) (σ : St) (y x : Int) : run 83 6 (ls) (vI y :: vI x :: st) σ = if x < y then run 83 9 (ls) (st) σ else run 83 33 (ls) (st) σ := (run_eq 83 6 _ _ σ).trans rfl
theorem e83_9 (a0 : AV) (l st : List AV) (σ : St) (x : Int) : run 83 9 (a0 :: vI x :: l) (st) σ = run 83 10 (a0 :: vI x :: l) (vI x :: st) σ := (run_eq 83 9 _ _ σ).trans rfl
theorem e83_10 (ls st : List AV) (σ : St) (x : Int) : run 83 10 (ls) (vI x :: st) σ = if x = 0 then run 83 13 (ls) (st) σ else run 83 21 (ls) (st) σ := (run_eq 83 10 _ _ σ).trans rfl
theorem e83_13 (l st : List AV) (σ : St) (x : Nat) : run 83 13 (vR x :: l) (st) σ = run 83 14 (vR x :: l) (vR x :: st) σ := (run_eq 83 13 _ _ σ).trans rfl
theorem e83_14 (a0 a1 : AV) (l st : List AV) (σ : St) (x : Int) : run 83 14 (a0 :: a1 :: vI x :: l) (st) σ = run 83 15 (a0 :: a1 :: vI x :: l) (vI x :: st) σ := (run_eq 83 14 _ _ σ).trans rfl
theorem e83_15 (ls st : List AV) (σ : St) (x0 : Nat) (x1 : Int) (h4 : st.length ≤ 4) (h : fok σ x0 0) : run 83 15 ls (vI x1 :: vR x0 :: st) σ = bnd (run 35 0 [vR x0, vI x1] [] σ) (fun r σ => run 83 18 ls (psh r st) σ) := (run_eq 83 15 _ _ σ).trans (if_pos ⟨rfl, by simp, by simpa using h4, rfl, h⟩)
theorem e83_18 (ls st : List AV) (σ : St) (x : Int) : run 83 18 (ls) (vI x :: st) σ = if x = 0 then run 83 21 (ls) (st) σ else run 83 25 (ls) (st) σ := (run_eq 83 18 _ _ σ).trans rfl
theorem e83_21 (ls st : List AV) (σ : St) : run 83 21 (ls) (st) σ = run 83 22 (ls) (vI 1 :: st) σ := (run_eq 83 21 _ _ σ).trans rfl
theorem e83_22 (ls st : List AV) (σ : St) : run 83 22 (ls) (st) σ = run 83 26 (ls) (st) σ := (run_eq 83 22 _ _ σ).trans rfl
theorem e83_25 (ls st : List AV) (σ : St) : run 83 25 (ls) (st) σ = run 83 26 (ls) (vI 0 :: st) σ := (run_eq 83 25 _ _ σ).trans rfl
theorem e83_26 (a0 : AV) (l st : List AV) (σ : St) (q : AV) (x : Int) : run 83 26 (a0 :: q :: l) (vI x :: st) σ = run 83 27 (a0 :: vI x :: l) (st) σ := (run_eq 83 26 _ _ σ).trans rfl
theorem e83_27 (a0 a1 : AV) (l st : List AV) (σ : St) (x : Int) : run 83 27 (a0 :: a1 :: vI x :: l) (st) σ = run 83 30 (a0 :: a1 :: vI (wr (x + 1)) :: l) (st) σ := (run_eq 83 27 _ _ σ).trans rfl
theorem e83_30 (ls st : List AV) (σ : St) : run 83 30 (ls) (st) σ = run 83 4 (ls) (st) σ := (run_eq 83 30 _ _ σ).trans rfl
theorem e83_33 (a0 : AV) (l st : List AV) (σ : St) (x : Int) : run 83 33 (a0 :: vI x :: l) (st) σ = run 83 34 (a0 :: vI x :: l) (vI x :: st) σ := (run_eq 83 33 _ _ σ).trans rfl
theorem e83_34 (ls : List AV) (σ : St) (x : Int) (h : x = 0 ∨ x = 1) : run 83 34 ls [vI x] σ = some (vI x, σ) := (run_eq 83 34 _ _ σ).trans (if_pos h)
/-! B_thickest -/
theorem e84_0 (ls st : List AV) (σ : St) : run 84 0 (ls) (st) σ = run 84 1 (ls) (vI 0 :: st) σ := (run_eq 84 0 _ _ σ).trans rfl
theorem e84_1 (a0 : AV) (l st : List AV) (σ : St) (q : AV) (x : Int) : run 84 1 (a0 :: q :: l) (vI x :: st) σ = run 84 2 (a0 :: vI x :: l) (st) σ := (run_eq 84 1 _ _ σ).trans rfl
theorem e84_2 (ls st : List AV) (σ : St) : run 84 2 (ls) (st) σ = run 84 3 (ls) (vI 0 :: st) σ := (run_eq 84 2 _ _ σ).trans rfl
theorem e84_3 (a0 a1 : AV) (l st : List AV) (σ : St) (q : AV) (x : Int) : run 84 3 (a0 :: a1 :: q :: l) (vI x :: st) σ = run 84 4 (a0 :: a1 :: vI x :: l) (st) σ := (run_eq 84 3 _ _ σ).trans rfl
theorem e84_4 (a0 a1 : AV) (l st : List AV) (σ : St) (x : Int) : run 84 4 (a0 :: a1 :: vI x :: l) (st) σ = run 84 5 (a0 :: a1 :: vI x :: l) (vI x :: st) σ := (run_eq 84 4 _ _ σ).trans rfl
theorem e84_5 (l st : List AV) (σ : St) (x : Nat) : run 84 5 (vR x :: l) (st) σ = run 84 6 (vR x :: l) (vR x :: st) σ := (run_eq 84 5 _ _ σ).trans rfl
theorem e84_6 (ls st : List AV) (σ : St) (x : Nat) (h : fok σ x 0) : run 84 6 (ls) (vR x :: st) σ = run 84 9 (ls) (vI (gt σ x 2) :: st) σ := (run_eq 84 6 _ _ σ).trans (if_pos h)
theorem e84_9 (ls st : List AV) (σ : St) (y x : Int) : run 84 9 (ls) (vI y :: vI x :: st) σ = if x < y then run 84 12 (ls) (st) σ else run 84 31 (ls) (st) σ := (run_eq 84 9 _ _ σ).trans rfl
theorem e84_12 (a0 : AV) (l st : List AV) (σ : St) (x : Int) : run 84 12 (a0 :: vI x :: l) (st) σ = run 84 13 (a0 :: vI x :: l) (vI x :: st) σ := (run_eq 84 12 _ _ σ).trans rfl
theorem e84_13 (l st : List AV) (σ : St) (x : Nat) : run 84 13 (vR x :: l) (st) σ = run 84 14 (vR x :: l) (vR x :: st) σ := (run_eq 84 13 _ _ σ).trans rfl
theorem e84_14 (ls st : List AV) (σ : St) (x : Nat) (h : fok σ x 0) : run 84 14 (ls) (vR x :: st) σ = run 84 17 (ls) (vR (gr σ x 6) :: st) σ := (run_eq 84 14 _ _ σ).trans (if_pos h)
theorem e84_17 (a0 a1 : AV) (l st : List AV) (σ : St) (x : Int) : run 84 17 (a0 :: a1 :: vI x :: l) (st) σ = run 84 18 (a0 :: a1 :: vI x :: l) (vI x :: st) σ := (run_eq 84 17 _ _ σ).trans rfl
theorem e84_18 (ls st : List AV) (σ : St) (x0 : Nat) (x1 : Int) (h4 : st.length ≤ 4) : run 84 18 ls (vI x1 :: vR x0 :: st) σ = bnd (run 10 0 [vR x0, vI x1] [] σ) (fun r σ => run 84 21 ls (psh r st) σ) := (run_eq 84 18 _ _ σ).trans (if_pos ⟨rfl, by simp, by simpa using h4⟩)
theorem e84_21 (ls st : List AV) (σ : St) (y x : Int) (h4 : st.length ≤ 4) : run 84 21 (ls) (vI y :: vI x :: st) σ = run 84 24 (ls) (vI (if x < y then y else x) :: st) σ := (run_eq 84 21 _ _ σ).trans (if_pos h4)
theorem e84_24 (a0 : AV) (l st : List AV) (σ : St) (q : AV) (x : Int) : run 84 24 (a0 :: q :: l) (vI x :: st) σ = run 84 25 (a0 :: vI x :: l) (st) σ := (run_eq 84 24 _ _ σ).trans rfl
theorem e84_25 (a0 a1 : AV) (l st : List AV) (σ : St) (x : Int) : run 84 25 (a0 :: a1 :: vI x :: l) (st) σ = run 84 28 (a0 :: a1 :: vI (wr (x + 1)) :: l) (st) σ := (run_eq 84 25 _ _ σ).trans rfl
theorem e84_28 (ls st : List AV) (σ : St) : run 84 28 (ls) (st) σ = run 84 4 (ls) (st) σ := (run_eq 84 28 _ _ σ).trans rfl
theorem e84_31 (a0 : AV) (l st : List AV) (σ : St) (x : Int) : run 84 31 (a0 :: vI x :: l) (st) σ = run 84 32 (a0 :: vI x :: l) (vI x :: st) σ := (run_eq 84 31 _ _ σ).trans rfl
theorem e84_32 (ls : List AV) (σ : St) (x : Int) : run 84 32 ls [vI x] σ = some (vI x, σ) := (run_eq 84 32 _ _ σ).trans rfl
/-! B_together -/
theorem e85_0 (ls st : List AV) (σ : St) : run 85 0 (ls) (st) σ = run 85 1 (ls) (vI 0 :: st) σ := (run_eq 85 0 _ _ σ).trans rfl
theorem e85_1 (a0 : AV) (l st : List AV) (σ : St) (q : AV) (x : Int) : run 85 1 (a0 :: q :: l) (vI x :: st) σ = run 85 2 (a0 :: vI x :: l) (st) σ := (run_eq 85 1 _ _ σ).trans rfl
theorem e85_2 (ls st : List AV) (σ : St) : run 85 2 (ls) (st) σ = run 85 3 (ls) (vI 0 :: st) σ := (run_eq 85 2 _ _ σ).trans rfl
theorem e85_3 (a0 a1 : AV) (l st : List AV) (σ : St) (q : AV) (x : Int) : run 85 3 (a0 :: a1 :: q :: l) (vI x :: st) σ = run 85 4 (a0 :: a1 :: vI x :: l) (st) σ := (run_eq 85 3 _ _ σ).trans rfl
theorem e85_4 (a0 a1 : AV) (l st : List AV) (σ : St) (x : Int) : run 85 4 (a0 :: a1 :: vI x :: l) (st) σ = run 85 5 (a0 :: a1 :: vI x :: l) (vI x :: st) σ := (run_eq 85 4 _ _ σ).trans rfl
theorem e85_5 (l st : List AV) (σ : St) (x : Nat) : run 85 5 (vR x :: l) (st) σ = run 85 6 (vR x :: l) (vR x :: st) σ := (run_eq 85 5 _ _ σ).trans rfl
theorem e85_6 (ls st : List AV) (σ : St) (x : Nat) (h : fok σ x 0) : run 85 6 (ls) (vR x :: st) σ = run 85 9 (ls) (vI (gt σ x 2) :: st) σ := (run_eq 85 6 _ _ σ).trans (if_pos h)
theorem e85_9 (ls st : List AV) (σ : St) (y x : Int) : run 85 9 (ls) (vI y :: vI x :: st) σ = if x < y then run 85 12 (ls) (st) σ else run 85 29 (ls) (st) σ := (run_eq 85 9 _ _ σ).trans rfl
theorem e85_12 (a0 : AV) (l st : List AV) (σ : St) (x : Int) : run 85 12 (a0 :: vI x :: l) (st) σ = run 85 13 (a0 :: vI x :: l) (vI x :: st) σ := (run_eq 85 12 _ _ σ).trans rfl
theorem e85_13 (l st : List AV) (σ : St) (x : Nat) : run 85 13 (vR x :: l) (st) σ = run 85 14 (vR x :: l) (vR x :: st) σ := (run_eq 85 13 _ _ σ).trans rfl
theorem e85_14 (ls st : List AV) (σ : St) (x : Nat) (h : fok σ x 0) : run 85 14 (ls) (vR x :: st) σ = run 85 17 (ls) (vR (gr σ x 6) :: st) σ := (run_eq 85 14 _ _ σ).trans (if_pos h)
theorem e85_17 (a0 a1 : AV) (l st : List AV) (σ : St) (x : Int) : run 85 17 (a0 :: a1 :: vI x :: l) (st) σ = run 85 18 (a0 :: a1 :: vI x :: l) (vI x :: st) σ := (run_eq 85 17 _ _ σ).trans rfl
theorem e85_18 (ls st : List AV) (σ : St) (x0 : Nat) (x1 : Int) (h4 : st.length ≤ 4) : run 85 18 ls (vI x1 :: vR x0 :: st) σ = bnd (run 10 0 [vR x0, vI x1] [] σ) (fun r σ => run 85 21 ls (psh r st) σ) := (run_eq 85 18 _ _ σ).trans (if_pos ⟨rfl, by simp, by simpa using h4⟩)
theorem e85_21 (ls st : List AV) (σ : St) (y x : Int) : run 85 21 (ls) (vI y :: vI x :: st) σ = run 85 22 (ls) (vI (wr (x + y)) :: st) σ := (run_eq 85 21 _ _ σ).trans rfl
theorem e85_22 (a0 : AV) (l st : List AV) (σ : St) (q : AV) (x : Int) : run 85 22 (a0 :: q :: l) (vI x :: st) σ = run 85 23 (a0 :: vI x :: l) (st) σ := (run_eq 85 22 _ _ σ).trans rfl
theorem e85_23 (a0 a1 : AV) (l st : List AV) (σ : St) (x : Int) : run 85 23 (a0 :: a1 :: vI x :: l) (st) σ = run 85 26 (a0 :: a1 :: vI (wr (x + 1)) :: l) (st) σ := (run_eq 85 23 _ _ σ).trans rfl
theorem e85_26 (ls st : List AV) (σ : St) : run 85 26 (ls) (st) σ = run 85 4 (ls) (st) σ := (run_eq 85 26 _ _ σ).trans rfl
theorem e85_29 (a0 : AV) (l st : List AV) (σ : St) (x : Int) : run 85 29 (a0 :: vI x :: l) (st) σ = run 85 30 (a0 :: vI x :: l) (vI x :: st) σ := (run_eq 85 29 _ _ σ).trans rfl
theorem e85_30 (ls : List AV) (σ : St) (x : Int) : run 85 30 ls [vI x] σ = some (vI x, σ) := (run_eq 85 30 _ _ σ).trans rfl
