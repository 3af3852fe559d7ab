/-! F_init -/
theorem e0_0 (l st : List AV) (σ : St) (x : Nat) : run 0 0 (vR x :: l) (st) σ = run 0 1 (vR x :: l) (vR x :: st) σ := (run_eq 0 0 _ _ σ).trans rfl
theorem e0_1 (ls st : List AV) (σ : St) (x : Nat) (h : 1 ≤ x) (h4 : st.length ≤ 4) : run 0 1 (ls) (vR x :: st) σ = run 0 4 (ls) (st) σ := (run_eq 0 1 _ _ σ).trans (if_pos ⟨h, h4⟩)
theorem e0_4 (l st : List AV) (σ : St) (x : Nat) : run 0 4 (vR x :: l) (st) σ = run 0 5 (vR x :: l) (vR x :: st) σ := (run_eq 0 4 _ _ σ).trans rfl
theorem e0_5 (ls st : List AV) (σ : St) : run 0 5 (ls) (st) σ = run 0 8 (ls) (vR (nn σ + 1) :: st) (al σ 0 13) := (run_eq 0 5 _ _ σ).trans rfl
theorem e0_8 (ls st : List AV) (σ : St) (x : Nat) : run 0 8 ls (vR x :: st) σ = run 0 9 ls (vR x :: vR x :: st) σ := (run_eq 0 8 _ _ σ).trans rfl
theorem e0_9 (ls st : List AV) (σ : St) (x0 : Nat) (h4 : st.length ≤ 4) (h : 1 ≤ x0) : run 0 9 ls (vR x0 :: st) σ = bnd (run 1 0 [vR x0] [] σ) (fun r σ => run 0 12 ls (psh r st) σ) := (run_eq 0 9 _ _ σ).trans (if_pos ⟨rfl, by simp, by simpa using h4, rfl, h⟩)
theorem e0_12 (ls st : List AV) (σ : St) (z x : Nat) (h : fok σ x 2) (h2 : 1 ≤ z) : run 0 12 (ls) (vR z :: vR x :: st) σ = run 0 15 (ls) (st) (rr σ x (ru (gr σ x) 0 z)) := (run_eq 0 12 _ _ σ).trans (if_pos ⟨h, h2⟩)
theorem e0_15 (l st : List AV) (σ : St) (x : Nat) : run 0 15 (vR x :: l) (st) σ = run 0 16 (vR x :: l) (vR x :: st) σ := (run_eq 0 15 _ _ σ).trans rfl
theorem e0_16 (ls st : List AV) (σ : St) : run 0 16 (ls) (st) σ = run 0 19 (ls) (vR (nn σ + 1) :: st) (al σ 0 13) := (run_eq 0 16 _ _ σ).trans rfl
theorem e0_19 (ls st : List AV) (σ : St) (x : Nat) : run 0 19 ls (vR x :: st) σ = run 0 20 ls (vR x :: vR x :: st) σ := (run_eq 0 19 _ _ σ).trans rfl
theorem e0_20 (ls st : List AV) (σ : St) (x0 : Nat) (h4 : st.length ≤ 4) (h : 1 ≤ x0) : run 0 20 ls (vR x0 :: st) σ = bnd (run 1 0 [vR x0] [] σ) (fun r σ => run 0 23 ls (psh r st) σ) := (run_eq 0 20 _ _ σ).trans (if_pos ⟨rfl, by simp, by simpa using h4, rfl, h⟩)
theorem e0_23 (ls st : List AV) (σ : St) (z x : Nat) (h : fok σ x 2) (h2 : 1 ≤ z) : run 0 23 (ls) (vR z :: vR x :: st) σ = run 0 26 (ls) (st) (rr σ x (ru (gr σ x) 1 z)) := (run_eq 0 23 _ _ σ).trans (if_pos ⟨h, h2⟩)
theorem e0_26 (l st : List AV) (σ : St) (x : Nat) : run 0 26 (vR x :: l) (st) σ = run 0 27 (vR x :: l) (vR x :: st) σ := (run_eq 0 26 _ _ σ).trans rfl
theorem e0_27 (ls st : List AV) (σ : St) : run 0 27 (ls) (st) σ = run 0 30 (ls) (vR (nn σ + 1) :: st) (al σ 1 6) := (run_eq 0 27 _ _ σ).trans rfl
theorem e0_30 (ls st : List AV) (σ : St) (x : Nat) : run 0 30 ls (vR x :: st) σ = run 0 31 ls (vR x :: vR x :: st) σ := (run_eq 0 30 _ _ σ).trans rfl
theorem e0_31 (ls st : List AV) (σ : St) (x0 : Nat) (h4 : st.length ≤ 4) (h : 1 ≤ x0) : run 0 31 ls (vR x0 :: st) σ = bnd (run 4 0 [vR x0] [] σ) (fun r σ => run 0 34 ls (psh r st) σ) := (run_eq 0 31 _ _ σ).trans (if_pos ⟨rfl, by simp, by simpa using h4, rfl, h⟩)
theorem e0_34 (ls st : List AV) (σ : St) (z x : Nat) (h : fok σ x 2) (h2 : 1 ≤ z) : run 0 34 (ls) (vR z :: vR x :: st) σ = run 0 37 (ls) (st) (rr σ x (ru (gr σ x) 2 z)) := (run_eq 0 34 _ _ σ).trans (if_pos ⟨h, h2⟩)
theorem e0_37 (l st : List AV) (σ : St) (x : Nat) : run 0 37 (vR x :: l) (st) σ = run 0 38 (vR x :: l) (vR x :: st) σ := (run_eq 0 37 _ _ σ).trans rfl
theorem e0_38 (ls st : List AV) (σ : St) : run 0 38 (ls) (st) σ = run 0 39 (ls) (vI 2 :: st) σ := (run_eq 0 38 _ _ σ).trans rfl
theorem e0_39 (ls st : List AV) (σ : St) (z : Int) (h : 0 ≤ z ∧ z ≤ 1000) : run 0 39 (ls) (vI z :: st) σ = run 0 42 (ls) (vR (nn σ + 1) :: st) (al σ 6 z.toNat) := (run_eq 0 39 _ _ σ).trans (if_pos h)
theorem e0_42 (ls st : List AV) (σ : St) (z x : Nat) (h : fok σ x 2) (h2 : 1 ≤ z) : run 0 42 (ls) (vR z :: vR x :: st) σ = run 0 45 (ls) (st) (rr σ x (ru (gr σ x) 3 z)) := (run_eq 0 42 _ _ σ).trans (if_pos ⟨h, h2⟩)
theorem e0_45 (l st : List AV) (σ : St) (x : Nat) : run 0 45 (vR x :: l) (st) σ = run 0 46 (vR x :: l) (vR x :: st) σ := (run_eq 0 45 _ _ σ).trans rfl
theorem e0_46 (ls st : List AV) (σ : St) : run 0 46 (ls) (st) σ = run 0 48 (ls) (vI 24 :: st) σ := (run_eq 0 46 _ _ σ).trans rfl
theorem e0_48 (ls st : List AV) (σ : St) (z : Int) (h : 0 ≤ z ∧ z ≤ 1000) : run 0 48 (ls) (vI z :: st) σ = run 0 50 (ls) (vR (nn σ + 1) :: st) (al σ 4 z.toNat) := (run_eq 0 48 _ _ σ).trans (if_pos h)
theorem e0_50 (ls st : List AV) (σ : St) (z x : Nat) (h : fok σ x 2) (h2 : 1 ≤ z) : run 0 50 (ls) (vR z :: vR x :: st) σ = run 0 53 (ls) (st) (rr σ x (ru (gr σ x) 4 z)) := (run_eq 0 50 _ _ σ).trans (if_pos ⟨h, h2⟩)
theorem e0_53 (l st : List AV) (σ : St) (x : Nat) : run 0 53 (vR x :: l) (st) σ = run 0 54 (vR x :: l) (vR x :: st) σ := (run_eq 0 53 _ _ σ).trans rfl
theorem e0_54 (ls st : List AV) (σ : St) : run 0 54 (ls) (st) σ = run 0 57 (ls) (vI 216 :: st) σ := (run_eq 0 54 _ _ σ).trans rfl
theorem e0_57 (ls st : List AV) (σ : St) (z : Int) (h : 0 ≤ z ∧ z ≤ 1000) : run 0 57 (ls) (vI z :: st) σ = run 0 59 (ls) (vR (nn σ + 1) :: st) (al σ 4 z.toNat) := (run_eq 0 57 _ _ σ).trans (if_pos h)
theorem e0_59 (ls st : List AV) (σ : St) (z x : Nat) (h : fok σ x 2) (h2 : 1 ≤ z) : run 0 59 (ls) (vR z :: vR x :: st) σ = run 0 62 (ls) (st) (rr σ x (ru (gr σ x) 5 z)) := (run_eq 0 59 _ _ σ).trans (if_pos ⟨h, h2⟩)
theorem e0_62 (l st : List AV) (σ : St) (x : Nat) : run 0 62 (vR x :: l) (st) σ = run 0 63 (vR x :: l) (vR x :: st) σ := (run_eq 0 62 _ _ σ).trans rfl
theorem e0_63 (ls st : List AV) (σ : St) : run 0 63 (ls) (st) σ = run 0 65 (ls) (vI 24 :: st) σ := (run_eq 0 63 _ _ σ).trans rfl
theorem e0_65 (ls st : List AV) (σ : St) (z : Int) (h : 0 ≤ z ∧ z ≤ 1000) : run 0 65 (ls) (vI z :: st) σ = run 0 67 (ls) (vR (nn σ + 1) :: st) (al σ 4 z.toNat) := (run_eq 0 65 _ _ σ).trans (if_pos h)
theorem e0_67 (ls st : List AV) (σ : St) (z x : Nat) (h : fok σ x 2) (h2 : 1 ≤ z) : run 0 67 (ls) (vR z :: vR x :: st) σ = run 0 70 (ls) (st) (rr σ x (ru (gr σ x) 6 z)) := (run_eq 0 67 _ _ σ).trans (if_pos ⟨h, h2⟩)
theorem e0_70 (ls : List AV) (σ : St) : run 0 70 ls [] σ = some (vU, σ) := (run_eq 0 70 _ _ σ).trans rfl
/-! F_fill -/
theorem e3_0 (l st : List AV) (σ : St) (x : Nat) : run 3 0 (vR x :: l) (st) σ = run 3 1 (vR x :: l) (vR x :: st) σ := (run_eq 3 0 _ _ σ).trans rfl
theorem e3_1 (ls st : List AV) (σ : St) (x : Nat) : run 3 1 (ls) (vR x :: st) σ = if x = 0 then run 3 22 (ls) (st) σ else run 3 4 (ls) (st) σ := (run_eq 3 1 _ _ σ).trans rfl
theorem e3_4 (ls st : List AV) (σ : St) : run 3 4 (ls) (st) σ = run 3 5 (ls) (vI 0 :: st) σ := (run_eq 3 4 _ _ σ).trans rfl
theorem e3_5 (a0 a1 : AV) (l st : List AV) (σ : St) (q : AV) (x : Int) : run 3 5 (a0 :: a1 :: q :: l) (vI x :: st) σ = run 3 6 (a0 :: a1 :: vI x :: l) (st) σ := (run_eq 3 5 _ _ σ).trans rfl
theorem e3_6 (a0 a1 : AV) (l st : List AV) (σ : St) (x : Int) : run 3 6 (a0 :: a1 :: vI x :: l) (st) σ = run 3 7 (a0 :: a1 :: vI x :: l) (vI x :: st) σ := (run_eq 3 6 _ _ σ).trans rfl
theorem e3_7 (l st : List AV) (σ : St) (x : Nat) : run 3 7 (vR x :: l) (st) σ = run 3 8 (vR x :: l) (vR x :: st) σ := (run_eq 3 7 _ _ σ).trans rfl
theorem e3_8 (ls st : List AV) (σ : St) (x : Nat) (h : fok σ x 4 ∨ fok σ x 6) : run 3 8 (ls) (vR x :: st) σ = run 3 9 (ls) (vI (sk σ x).2 :: st) σ := (run_eq 3 8 _ _ σ).trans (if_pos h)
theorem e3_9 (ls st : List AV) (σ : St) (y x : Int) : run 3 9 (ls) (vI y :: vI x :: st) σ = if x < y then run 3 12 (ls) (st) σ else run 3 22 (ls) (st) σ := (run_eq 3 9 _ _ σ).trans rfl
theorem e3_12 (l st : List AV) (σ : St) (x : Nat) : run 3 12 (vR x :: l) (st) σ = run 3 13 (vR x :: l) (vR x :: st) σ := (run_eq 3 12 _ _ σ).trans rfl
theorem e3_13 (a0 a1 : AV) (l st : List AV) (σ : St) (x : Int) : run 3 13 (a0 :: a1 :: vI x :: l) (st) σ = run 3 14 (a0 :: a1 :: vI x :: l) (vI x :: st) σ := (run_eq 3 13 _ _ σ).trans rfl
theorem e3_14 (a0 : AV) (l st : List AV) (σ : St) (x : Int) : run 3 14 (a0 :: vI x :: l) (st) σ = run 3 15 (a0 :: vI x :: l) (vI x :: st) σ := (run_eq 3 14 _ _ σ).trans rfl
theorem e3_15 (ls st : List AV) (σ : St) (z j : Int) (x : Nat) (h : aok σ x 4 j) : run 3 15 (ls) (vI z :: vI j :: vR x :: st) σ = run 3 16 (ls) (st) (sr σ x (ru (gt σ x) j.toNat z)) := (run_eq 3 15 _ _ σ).trans (if_pos h)
theorem e3_16 (a0 a1 : AV) (l st : List AV) (σ : St) (x : Int) : run 3 16 (a0 :: a1 :: vI x :: l) (st) σ = run 3 19 (a0 :: a1 :: vI (wr (x + 1)) :: l) (st) σ := (run_eq 3 16 _ _ σ).trans rfl
theorem e3_19 (ls st : List AV) (σ : St) : run 3 19 (ls) (st) σ = run 3 6 (ls) (st) σ := (run_eq 3 19 _ _ σ).trans rfl
theorem e3_22 (ls : List AV) (σ : St) : run 3 22 ls [] σ = some (vU, σ) := (run_eq 3 22 _ _ σ).trans rfl
/-! F_bank -/
theorem e5_0 (a0 : AV) (l st : List AV) (σ : St) (x : Int) : run 5 0 (a0 :: vI x :: l) (st) σ = run 5 1 (a0 :: vI x :: l) (vI x :: st) σ := (run_eq 5 0 _ _ σ).trans rfl
theorem e5_1 (ls st : List AV) (σ : St) : run 5 1 (ls) (st) σ = run 5 2 (ls) (vI 1 :: st) σ := (run_eq 5 1 _ _ σ).trans rfl
theorem e5_2 (ls st : List AV) (σ : St) : run 5 2 (ls) (st) σ = run 5 3 (ls) (vI 4 :: st) σ := (run_eq 5 2 _ _ σ).trans rfl
theorem e5_3 (ls st : List AV) (σ : St) (x0 : Int) (x1 : Int) (x2 : Int) (h4 : st.length ≤ 4) : run 5 3 ls (vI x2 :: vI x1 :: vI x0 :: st) σ = bnd (run 6 0 [vI x0, vI x1, vI x2] [] σ) (fun r σ => run 5 6 ls (psh r st) σ) := (run_eq 5 3 _ _ σ).trans (if_pos ⟨rfl, by simp, by simpa using h4⟩)
theorem e5_6 (ls st : List AV) (σ : St) (x : Int) : run 5 6 (ls) (vI x :: st) σ = if x = 0 then run 5 19 (ls) (st) σ else run 5 9 (ls) (st) σ := (run_eq 5 6 _ _ σ).trans rfl
theorem e5_9 (a0 a1 : AV) (l st : List AV) (σ : St) (x : Int) : run 5 9 (a0 :: a1 :: vI x :: l) (st) σ = run 5 10 (a0 :: a1 :: vI x :: l) (vI x :: st) σ := (run_eq 5 9 _ _ σ).trans rfl
theorem e5_10 (ls st : List AV) (σ : St) : run 5 10 (ls) (st) σ = run 5 11 (ls) (vI 1 :: st) σ := (run_eq 5 10 _ _ σ).trans rfl
theorem e5_11 (ls st : List AV) (σ : St) : run 5 11 (ls) (st) σ = run 5 13 (ls) (vI 6 :: st) σ := (run_eq 5 11 _ _ σ).trans rfl
theorem e5_13 (ls st : List AV) (σ : St) (x0 : Int) (x1 : Int) (x2 : Int) (h4 : st.length ≤ 4) : run 5 13 ls (vI x2 :: vI x1 :: vI x0 :: st) σ = bnd (run 6 0 [vI x0, vI x1, vI x2] [] σ) (fun r σ => run 5 16 ls (psh r st) σ) := (run_eq 5 13 _ _ σ).trans (if_pos ⟨rfl, by simp, by simpa using h4⟩)
theorem e5_16 (ls st : List AV) (σ : St) (x : Int) : run 5 16 (ls) (vI x :: st) σ = if x = 0 then run 5 19 (ls) (st) σ else run 5 22 (ls) (st) σ := (run_eq 5 16 _ _ σ).trans rfl
theorem e5_19 (ls st : List AV) (σ : St) : run 5 19 (ls) (st) σ = run 5 21 (ls) (vI (-2) :: st) σ := (run_eq 5 19 _ _ σ).trans rfl
theorem e5_21 (ls : List AV) (σ : St) (x : Int) : run 5 21 ls [vI x] σ = some (vI x, σ) := (run_eq 5 21 _ _ σ).trans rfl
theorem e5_22 (l st : List AV) (σ : St) (x : Nat) : run 5 22 (vR x :: l) (st) σ = run 5 23 (vR x :: l) (vR x :: st) σ := (run_eq 5 22 _ _ σ).trans rfl
theorem e5_23 (ls st : List AV) (σ : St) (x : Nat) (h : fok σ x 2) : run 5 23 (ls) (vR x :: st) σ = run 5 26 (ls) (vR (gr σ x 0) :: st) σ := (run_eq 5 23 _ _ σ).trans (if_pos h)
theorem e5_26 (a0 : AV) (l st : List AV) (σ : St) (x : Int) : run 5 26 (a0 :: vI x :: l) (st) σ = run 5 27 (a0 :: vI x :: l) (vI x :: st) σ := (run_eq 5 26 _ _ σ).trans rfl
theorem e5_27 (a0 a1 : AV) (l st : List AV) (σ : St) (x : Int) : run 5 27 (a0 :: a1 :: vI x :: l) (st) σ = run 5 28 (a0 :: a1 :: vI x :: l) (vI x :: st) σ := (run_eq 5 27 _ _ σ).trans rfl
theorem e5_28 (ls st : List AV) (σ : St) (x0 : Nat) (x1 : Int) (x2 : Int) (h4 : st.length ≤ 4) (h : fok σ x0 0) : run 5 28 ls (vI x2 :: vI x1 :: vR x0 :: st) σ = bnd (run 2 0 [vR x0, vI x1, vI x2] [] σ) (fun r σ => run 5 31 ls (psh r st) σ) := (run_eq 5 28 _ _ σ).trans (if_pos ⟨rfl, by simp, by simpa using h4, rfl, h⟩)
theorem e5_31 (l st : List AV) (σ : St) (x : Nat) : run 5 31 (vR x :: l) (st) σ = run 5 32 (vR x :: l) (vR x :: st) σ := (run_eq 5 31 _ _ σ).trans rfl
theorem e5_32 (ls st : List AV) (σ : St) (x : Nat) (h : fok σ x 2) : run 5 32 (ls) (vR x :: st) σ = run 5 35 (ls) (vR (gr σ x 0) :: st) σ := (run_eq 5 32 _ _ σ).trans (if_pos h)
theorem e5_35 (ls st : List AV) (σ : St) (x : Nat) (h : fok σ x 0) : run 5 35 (ls) (vR x :: st) σ = run 5 38 (ls) (vI (gt σ x 2) :: st) σ := (run_eq 5 35 _ _ σ).trans (if_pos h)
theorem e5_38 (ls : List AV) (σ : St) (x : Int) : run 5 38 ls [vI x] σ = some (vI x, σ) := (run_eq 5 38 _ _ σ).trans rfl
/-! F_isWithin -/
theorem e6_0 (l st : List AV) (σ : St) (x : Int) : run 6 0 (vI x :: l) (st) σ = run 6 1 (vI x :: l) (vI x :: st) σ := (run_eq 6 0 _ _ σ).trans rfl
theorem e6_1 (a0 : AV) (l st : List AV) (σ : St) (x : Int) : run 6 1 (a0 :: vI x :: l) (st) σ = run 6 2 (a0 :: vI x :: l) (vI x :: st) σ := (run_eq 6 1 _ _ σ).trans rfl
theorem e6_2 (ls st : List AV) (σ : St) (y x : Int) : run 6 2 (ls) (vI y :: vI x :: st) σ = if x < y then run 6 14 (ls) (st) σ else run 6 5 (ls) (st) σ := (run_eq 6 2 _ _ σ).trans rfl
theorem e6_5 (l st : List AV) (σ : St) (x : Int) : run 6 5 (vI x :: l) (st) σ = run 6 6 (vI x :: l) (vI x :: st) σ := (run_eq 6 5 _ _ σ).trans rfl
theorem e6_6 (a0 a1 : AV) (l st : List AV) (σ : St) (x : Int) : run 6 6 (a0 :: a1 :: vI x :: l) (st) σ = run 6 7 (a0 :: a1 :: vI x :: l) (vI x :: st) σ := (run_eq 6 6 _ _ σ).trans rfl
theorem e6_7 (ls st : List AV) (σ : St) (y x : Int) : run 6 7 (ls) (vI y :: vI x :: st) σ = if y < x then run 6 14 (ls) (st) σ else run 6 10 (ls) (st) σ := (run_eq 6 7 _ _ σ).trans rfl
theorem e6_10 (ls st : List AV) (σ : St) : run 6 10 (ls) (st) σ = run 6 11 (ls) (vI 1 :: st) σ := (run_eq 6 10 _ _ σ).trans rfl
theorem e6_11 (ls st : List AV) (σ : St) : run 6 11 (ls) (st) σ = run 6 15 (ls) (st) σ := (run_eq 6 11 _ _ σ).trans rfl
theorem e6_14 (ls st : List AV) (σ : St) : run 6 14 (ls) (st) σ = run 6 15 (ls) (vI 0 :: st) σ := (run_eq 6 14 _ _ σ).trans rfl
theorem e6_15 (ls : List AV) (σ : St) (x : Int) (h : x = 0 ∨ x = 1) : run 6 15 ls [vI x] σ = some (vI x, σ) := (run_eq 6 15 _ _ σ).trans (if_pos h)
/-! F_cell -/
theorem e7_0 (l st : List AV) (σ : St) (x : Nat) : run 7 0 (vR x :: l) (st) σ = run 7 1 (vR x :: l) (vR x :: st) σ := (run_eq 7 0 _ _ σ).trans rfl
theorem e7_1 (ls st : List AV) (σ : St) (x : Nat) (h : fok σ x 2) : run 7 1 (ls) (vR x :: st) σ = run 7 4 (ls) (vR (gr σ x 0) :: st) σ := (run_eq 7 1 _ _ σ).trans (if_pos h)
theorem e7_4 (a0 : AV) (l st : List AV) (σ : St) (x : Int) : run 7 4 (a0 :: vI x :: l) (st) σ = run 7 5 (a0 :: vI x :: l) (vI x :: st) σ := (run_eq 7 4 _ _ σ).trans rfl
theorem e7_5 (ls st : List AV) (σ : St) (x0 : Nat) (x1 : Int) (h4 : st.length ≤ 4) (h : fok σ x0 0) : run 7 5 ls (vI x1 :: vR x0 :: st) σ = bnd (run 8 0 [vR x0, vI x1] [] σ) (fun r σ => run 7 8 ls (psh r st) σ) := (run_eq 7 5 _ _ σ).trans (if_pos ⟨rfl, by simp, by simpa using h4, rfl, h⟩)
theorem e7_8 (ls st : List AV) (σ : St) (x : Int) : run 7 8 (ls) (vI x :: st) σ = if x = 0 then run 7 11 (ls) (st) σ else run 7 13 (ls) (st) σ := (run_eq 7 8 _ _ σ).trans rfl
theorem e7_11 (ls st : List AV) (σ : St) : run 7 11 (ls) (st) σ = run 7 12 (ls) (vI (-1) :: st) σ := (run_eq 7 11 _ _ σ).trans rfl
theorem e7_12 (ls : List AV) (σ : St) (x : Int) : run 7 12 ls [vI x] σ = some (vI x, σ) := (run_eq 7 12 _ _ σ).trans rfl
theorem e7_13 (a0 a1 : AV) (l st : List AV) (σ : St) (x : Int) : run 7 13 (a0 :: a1 :: vI x :: l) (st) σ = run 7 14 (a0 :: a1 :: vI x :: l) (vI x :: st) σ := (run_eq 7 13 _ _ σ).trans rfl
theorem e7_14 (ls st : List AV) (σ : St) : run 7 14 (ls) (st) σ = run 7 15 (ls) (vI 0 :: st) σ := (run_eq 7 14 _ _ σ).trans rfl
theorem e7_15 (ls st : List AV) (σ : St) : run 7 15 (ls) (st) σ = run 7 16 (ls) (vI 1 :: st) σ := (run_eq 7 15 _ _ σ).trans rfl
theorem e7_16 (ls st : List AV) (σ : St) (x0 : Int) (x1 : Int) (x2 : Int) (h4 : st.length ≤ 4) : run 7 16 ls (vI x2 :: vI x1 :: vI x0 :: st) σ = bnd (run 6 0 [vI x0, vI x1, vI x2] [] σ) (fun r σ => run 7 19 ls (psh r st) σ) := (run_eq 7 16 _ _ σ).trans (if_pos ⟨rfl, by simp, by simpa using h4⟩)
theorem e7_19 (ls st : List AV) (σ : St) (x : Int) : run 7 19 (ls) (vI x :: st) σ = if x = 0 then run 7 40 (ls) (st) σ else run 7 22 (ls) (st) σ := (run_eq 7 19 _ _ σ).trans rfl
theorem e7_22 (a0 a1 a2 : AV) (l st : List AV) (σ : St) (x : Int) : run 7 22 (a0 :: a1 :: a2 :: vI x :: l) (st) σ = run 7 23 (a0 :: a1 :: a2 :: vI x :: l) (vI x :: st) σ := (run_eq 7 22 _ _ σ).trans rfl
theorem e7_23 (ls st : List AV) (σ : St) : run 7 23 (ls) (st) σ = run 7 24 (ls) (vI 0 :: st) σ := (run_eq 7 23 _ _ σ).trans rfl
theorem e7_24 (a0 a1 : AV) (l st : List AV) (σ : St) (x : Int) : run 7 24 (a0 :: a1 :: vI x :: l) (st) σ = run 7 25 (a0 :: a1 :: vI x :: l) (vI x :: st) σ := (run_eq 7 24 _ _ σ).trans rfl
theorem e7_25 (ls st : List AV) (σ : St) (x : Int) : run 7 25 (ls) (vI x :: st) σ = if x = 0 then run 7 28 (ls) (st) σ else run 7 33 (ls) (st) σ := (run_eq 7 25 _ _ σ).trans rfl
theorem e7_28 (ls st : List AV) (σ : St) : run 7 28 (ls) (st) σ = run 7 30 (ls) (vI 9 :: st) σ := (run_eq 7 28 _ _ σ).trans rfl
theorem e7_30 (ls st : List AV) (σ : St) : run 7 30 (ls) (st) σ = run 7 34 (ls) (st) σ := (run_eq 7 30 _ _ σ).trans rfl
theorem e7_33 (ls st : List AV) (σ : St) : run 7 33 (ls) (st) σ = run 7 34 (ls) (vI 1 :: st) σ := (run_eq 7 33 _ _ σ).trans rfl
theorem e7_34 (ls st : List AV) (σ : St) (x0 : Int) (x1 : Int) (x2 : Int) (h4 : st.length ≤ 4) : run 7 34 ls (vI x2 :: vI x1 :: vI x0 :: st) σ = bnd (run 6 0 [vI x0, vI x1, vI x2] [] σ) (fun r σ => run 7 37 ls (psh r st) σ) := (run_eq 7 34 _ _ σ).trans (if_pos ⟨rfl, by simp, by simpa using h4⟩)
theorem e7_37 (ls st : List AV) (σ : St) (x : Int) : run 7 37 (ls) (vI x :: st) σ = if x = 0 then run 7 40 (ls) (st) σ else run 7 43 (ls) (st) σ := (run_eq 7 37 _ _ σ).trans rfl
theorem e7_40 (ls st : List AV) (σ : St) : run 7 40 (ls) (st) σ = run 7 42 (ls) (vI (-2) :: st) σ := (run_eq 7 40 _ _ σ).trans rfl
theorem e7_42 (ls : List AV) (σ : St) (x : Int) : run 7 42 ls [vI x] σ = some (vI x, σ) := (run_eq 7 42 _ _ σ).trans rfl
theorem e7_43 (l st : List AV) (σ : St) (x : Nat) : run 7 43 (vR x :: l) (st) σ = run 7 44 (vR x :: l) (vR x :: st) σ := (run_eq 7 43 _ _ σ).trans rfl
theorem e7_44 (ls st : List AV) (σ : St) (x : Nat) (h : fok σ x 2) : run 7 44 (ls) (vR x :: st) σ = run 7 47 (ls) (vR (gr σ x 0) :: st) σ := (run_eq 7 44 _ _ σ).trans (if_pos h)
theorem e7_47 (a0 : AV) (l st : List AV) (σ : St) (x : Int) : run 7 47 (a0 :: vI x :: l) (st) σ = run 7 48 (a0 :: vI x :: l) (vI x :: st) σ := (run_eq 7 47 _ _ σ).trans rfl
theorem e7_48 (a0 a1 : AV) (l st : List AV) (σ : St) (x : Int) : run 7 48 (a0 :: a1 :: vI x :: l) (st) σ = run 7 49 (a0 :: a1 :: vI x :: l) (vI x :: st) σ := (run_eq 7 48 _ _ σ).trans rfl
theorem e7_49 (ls st : List AV) (σ : St) (x0 : Nat) (x1 : Int) (x2 : Int) (h4 : st.length ≤ 4) (h : fok σ x0 0) : run 7 49 ls (vI x2 :: vI x1 :: vR x0 :: st) σ = bnd (run 9 0 [vR x0, vI x1, vI x2] [] σ) (fun r σ => run 7 52 ls (psh r st) σ) := (run_eq 7 49 _ _ σ).trans (if_pos ⟨rfl, by simp, by simpa using h4, rfl, h⟩)
theorem e7_52 (a0 a1 a2 a3 : AV) (l st : List AV) (σ : St) (q : AV) (x : Int) : run 7 52 (a0 :: a1 :: a2 :: a3 :: q :: l) (vI x :: st) σ = run 7 54 (a0 :: a1 :: a2 :: a3 :: vI x :: l) (st) σ := (run_eq 7 52 _ _ σ).trans rfl
theorem e7_54 (a0 a1 : AV) (l st : List AV) (σ : St) (x : Int) : run 7 54 (a0 :: a1 :: vI x :: l) (st) σ = run 7 55 (a0 :: a1 :: vI x :: l) (vI x :: st) σ := (run_eq 7 54 _ _ σ).trans rfl
theorem e7_55 (ls st : List AV) (σ : St) (x : Int) : run 7 55 (ls) (vI x :: st) σ = if x = 0 then run 7 58 (ls) (st) σ else run 7 73 (ls) (st) σ := (run_eq 7 55 _ _ σ).trans rfl
theorem e7_58 (l st : List AV) (σ : St) (x : Nat) : run 7 58 (vR x :: l) (st) σ = run 7 59 (vR x :: l) (vR x :: st) σ := (run_eq 7 58 _ _ σ).trans rfl
theorem e7_59 (ls st : List AV) (σ : St) (x : Nat) (h : fok σ x 2) : run 7 59 (ls) (vR x :: st) σ = run 7 62 (ls) (vR (gr σ x 0) :: st) σ := (run_eq 7 59 _ _ σ).trans (if_pos h)
theorem e7_62 (ls st : List AV) (σ : St) (x : Nat) (h : fok σ x 0) : run 7 62 (ls) (vR x :: st) σ = run 7 65 (ls) (vR (gr σ x 6) :: st) σ := (run_eq 7 62 _ _ σ).trans (if_pos h)
theorem e7_65 (a0 : AV) (l st : List AV) (σ : St) (x : Int) : run 7 65 (a0 :: vI x :: l) (st) σ = run 7 66 (a0 :: vI x :: l) (vI x :: st) σ := (run_eq 7 65 _ _ σ).trans rfl
theorem e7_66 (a0 a1 a2 : AV) (l st : List AV) (σ : St) (x : Int) : run 7 66 (a0 :: a1 :: a2 :: vI x :: l) (st) σ = run 7 67 (a0 :: a1 :: a2 :: vI x :: l) (vI x :: st) σ := (run_eq 7 66 _ _ σ).trans rfl
theorem e7_67 (ls st : List AV) (σ : St) (x0 : Nat) (x1 : Int) (x2 : Int) (h4 : st.length ≤ 4) : run 7 67 ls (vI x2 :: vI x1 :: vR x0 :: st) σ = bnd (run 11 0 [vR x0, vI x1, vI x2] [] σ) (fun r σ => run 7 70 ls (psh r st) σ) := (run_eq 7 67 _ _ σ).trans (if_pos ⟨rfl, by simp, by simpa using h4⟩)
theorem e7_70 (ls st : List AV) (σ : St) : run 7 70 (ls) (st) σ = run 7 82 (ls) (st) σ := (run_eq 7 70 _ _ σ).trans rfl
theorem e7_73 (l st : List AV) (σ : St) (x : Nat) : run 7 73 (vR x :: l) (st) σ = run 7 74 (vR x :: l) (vR x :: st) σ := (run_eq 7 73 _ _ σ).trans rfl
theorem e7_74 (ls st : List AV) (σ : St) (x : Nat) (h : fok σ x 2) : run 7 74 (ls) (vR x :: st) σ = run 7 77 (ls) (vR (gr σ x 0) :: st) σ := (run_eq 7 74 _ _ σ).trans (if_pos h)
theorem e7_77 (a0 : AV) (l st : List AV) (σ : St) (x : Int) : run 7 77 (a0 :: vI x :: l) (st) σ = run 7 78 (a0 :: vI x :: l) (vI x :: st) σ := (run_eq 7 77 _ _ σ).trans rfl
theorem e7_78 (a0 a1 a2 : AV) (l st : List AV) (σ : St) (x : Int) : run 7 78 (a0 :: a1 :: a2 :: vI x :: l) (st) σ = run 7 79 (a0 :: a1 :: a2 :: vI x :: l) (vI x :: st) σ := (run_eq 7 78 _ _ σ).trans rfl
theorem e7_79 (ls st : List AV) (σ : St) (x0 : Nat) (x1 : Int) (x2 : Int) (h4 : st.length ≤ 4) (h : fok σ x0 0) : run 7 79 ls (vI x2 :: vI x1 :: vR x0 :: st) σ = bnd (run 12 0 [vR x0, vI x1, vI x2] [] σ) (fun r σ => run 7 82 ls (psh r st) σ) := (run_eq 7 79 _ _ σ).trans (if_pos ⟨rfl, by simp, by simpa using h4, rfl, h⟩)
theorem e7_82 (a0 a1 a2 a3 : AV) (l st : List AV) (σ : St) (x : Int) : run 7 82 (a0 :: a1 :: a2 :: a3 :: vI x :: l) (st) σ = run 7 84 (a0 :: a1 :: a2 :: a3 :: vI x :: l) (vI x :: st) σ := (run_eq 7 82 _ _ σ).trans rfl
theorem e7_84 (ls : List AV) (σ : St) (x : Int) : run 7 84 ls [vI x] σ = some (vI x, σ) := (run_eq 7 84 _ _ σ).trans rfl
/-! F_at -/
theorem e10_0 (l st : List AV) (σ : St) (x : Nat) : run 10 0 (vR x :: l) (st) σ = run 10 1 (vR x :: l) (vR x :: st) σ := (run_eq 10 0 _ _ σ).trans rfl
theorem e10_1 (ls st : List AV) (σ : St) (x : Nat) : run 10 1 (ls) (vR x :: st) σ = if x = 0 then run 10 20 (ls) (st) σ else run 10 4 (ls) (st) σ := (run_eq 10 1 _ _ σ).trans rfl
theorem e10_4 (a0 : AV) (l st : List AV) (σ : St) (x : Int) : run 10 4 (a0 :: vI x :: l) (st) σ = run 10 5 (a0 :: vI x :: l) (vI x :: st) σ := (run_eq 10 4 _ _ σ).trans rfl
theorem e10_5 (ls st : List AV) (σ : St) (x : Int) : run 10 5 (ls) (vI x :: st) σ = if x < 0 then run 10 20 (ls) (st) σ else run 10 8 (ls) (st) σ := (run_eq 10 5 _ _ σ).trans rfl
theorem e10_8 (a0 : AV) (l st : List AV) (σ : St) (x : Int) : run 10 8 (a0 :: vI x :: l) (st) σ = run 10 9 (a0 :: vI x :: l) (vI x :: st) σ := (run_eq 10 8 _ _ σ).trans rfl
theorem e10_9 (l st : List AV) (σ : St) (x : Nat) : run 10 9 (vR x :: l) (st) σ = run 10 10 (vR x :: l) (vR x :: st) σ := (run_eq 10 9 _ _ σ).trans rfl
theorem e10_10 (ls st : List AV) (σ : St) (x : Nat) (h : fok σ x 4 ∨ fok σ x 6) : run 10 10 (ls) (vR x :: st) σ = run 10 11 (ls) (vI (sk σ x).2 :: st) σ := (run_eq 10 10 _ _ σ).trans (if_pos h)
theorem e10_11 (ls st : List AV) (σ : St) (y x : Int) : run 10 11 (ls) (vI y :: vI x :: st) σ = if x < y then run 10 14 (ls) (st) σ else run 10 20 (ls) (st) σ := (run_eq 10 11 _ _ σ).trans rfl
theorem e10_14 (l st : List AV) (σ : St) (x : Nat) : run 10 14 (vR x :: l) (st) σ = run 10 15 (vR x :: l) (vR x :: st) σ := (run_eq 10 14 _ _ σ).trans rfl
theorem e10_15 (a0 : AV) (l st : List AV) (σ : St) (x : Int) : run 10 15 (a0 :: vI x :: l) (st) σ = run 10 16 (a0 :: vI x :: l) (vI x :: st) σ := (run_eq 10 15 _ _ σ).trans rfl
theorem e10_16 (ls st : List AV) (σ : St) (j : Int) (x : Nat) (h : aok σ x 4 j) : run 10 16 (ls) (vI j :: vR x :: st) σ = run 10 17 (ls) (vI (gt σ x j.toNat) :: st) σ := (run_eq 10 16 _ _ σ).trans (if_pos h)
theorem e10_17 (ls st : List AV) (σ : St) : run 10 17 (ls) (st) σ = run 10 21 (ls) (st) σ := (run_eq 10 17 _ _ σ).trans rfl
theorem e10_20 (ls st : List AV) (σ : St) : run 10 20 (ls) (st) σ = run 10 21 (ls) (vI 0 :: st) σ := (run_eq 10 20 _ _ σ).trans rfl
theorem e10_21 (ls : List AV) (σ : St) (x : Int) : run 10 21 ls [vI x] σ = some (vI x, σ) := (run_eq 10 21 _ _ σ).trans rfl
/-! F_put -/
theorem e11_0 (l st : List AV) (σ : St) (x : Nat) : run 11 0 (vR x :: l) (st) σ = run 11 1 (vR x :: l) (vR x :: st) σ := (run_eq 11 0 _ _ σ).trans rfl
theorem e11_1 (ls st : List AV) (σ : St) (x : Nat) : run 11 1 (ls) (vR x :: st) σ = if x = 0 then run 11 18 (ls) (st) σ else run 11 4 (ls) (st) σ := (run_eq 11 1 _ _ σ).trans rfl
theorem e11_4 (a0 : AV) (l st : List AV) (σ : St) (x : Int) : run 11 4 (a0 :: vI x :: l) (st) σ = run 11 5 (a0 :: vI x :: l) (vI x :: st) σ := (run_eq 11 4 _ _ σ).trans rfl
theorem e11_5 (ls st : List AV) (σ : St) (x : Int) : run 11 5 (ls) (vI x :: st) σ = if x < 0 then run 11 18 (ls) (st) σ else run 11 8 (ls) (st) σ := (run_eq 11 5 _ _ σ).trans rfl
theorem e11_8 (a0 : AV) (l st : List AV) (σ : St) (x : Int) : run 11 8 (a0 :: vI x :: l) (st) σ = run 11 9 (a0 :: vI x :: l) (vI x :: st) σ := (run_eq 11 8 _ _ σ).trans rfl
theorem e11_9 (l st : List AV) (σ : St) (x : Nat) : run 11 9 (vR x :: l) (st) σ = run 11 10 (vR x :: l) (vR x :: st) σ := (run_eq 11 9 _ _ σ).trans rfl
theorem e11_10 (ls st : List AV) (σ : St) (x : Nat) (h : fok σ x 4 ∨ fok σ x 6) : run 11 10 (ls) (vR x :: st) σ = run 11 11 (ls) (vI (sk σ x).2 :: st) σ := (run_eq 11 10 _ _ σ).trans (if_pos h)
theorem e11_11 (ls st : List AV) (σ : St) (y x : Int) : run 11 11 (ls) (vI y :: vI x :: st) σ = if x < y then run 11 14 (ls) (st) σ else run 11 18 (ls) (st) σ := (run_eq 11 11 _ _ σ).trans rfl
theorem e11_14 (l st : List AV) (σ : St) (x : Nat) : run 11 14 (vR x :: l) (st) σ = run 11 15 (vR x :: l) (vR x :: st) σ := (run_eq 11 14 _ _ σ).trans rfl
theorem e11_15 (a0 : AV) (l st : List AV) (σ : St) (x : Int) : run 11 15 (a0 :: vI x :: l) (st) σ = run 11 16 (a0 :: vI x :: l) (vI x :: st) σ := (run_eq 11 15 _ _ σ).trans rfl
theorem e11_16 (a0 a1 : AV) (l st : List AV) (σ : St) (x : Int) : run 11 16 (a0 :: a1 :: vI x :: l) (st) σ = run 11 17 (a0 :: a1 :: vI x :: l) (vI x :: st) σ := (run_eq 11 16 _ _ σ).trans rfl
theorem e11_17 (ls st : List AV) (σ : St) (z j : Int) (x : Nat) (h : aok σ x 4 j) : run 11 17 (ls) (vI z :: vI j :: vR x :: st) σ = run 11 18 (ls) (st) (sr σ x (ru (gt σ x) j.toNat z)) := (run_eq 11 17 _ _ σ).trans (if_pos h)
theorem e11_18 (ls : List AV) (σ : St) : run 11 18 ls [] σ = some (vU, σ) := (run_eq 11 18 _ _ σ).trans rfl
/-! F_set -/
theorem e15_0 (a0 : AV) (l st : List AV) (σ : St) (x : Int) : run 15 0 (a0 :: vI x :: l) (st) σ = run 15 1 (a0 :: vI x :: l) (vI x :: st) σ := (run_eq 15 0 _ _ σ).trans rfl
theorem e15_1 (ls st : List AV) (σ : St) (x : Int) : run 15 1 (ls) (vI x :: st) σ = if x = 0 then run 15 4 (ls) (st) σ else run 15 31 (ls) (st) σ := (run_eq 15 1 _ _ σ).trans rfl
theorem e15_4 (a0 a1 : AV) (l st : List AV) (σ : St) (x : Int) : run 15 4 (a0 :: a1 :: vI x :: l) (st) σ = run 15 5 (a0 :: a1 :: vI x :: l) (vI x :: st) σ := (run_eq 15 4 _ _ σ).trans rfl
theorem e15_5 (ls st : List AV) (σ : St) : run 15 5 (ls) (st) σ = run 15 6 (ls) (vI 1 :: st) σ := (run_eq 15 5 _ _ σ).trans rfl
theorem e15_6 (ls st : List AV) (σ : St) : run 15 6 (ls) (st) σ = run 15 7 (ls) (vI 5 :: st) σ := (run_eq 15 6 _ _ σ).trans rfl
theorem e15_7 (ls st : List AV) (σ : St) (x0 : Int) (x1 : Int) (x2 : Int) (h4 : st.length ≤ 4) : run 15 7 ls (vI x2 :: vI x1 :: vI x0 :: st) σ = bnd (run 6 0 [vI x0, vI x1, vI x2] [] σ) (fun r σ => run 15 10 ls (psh r st) σ) := (run_eq 15 7 _ _ σ).trans (if_pos ⟨rfl, by simp, by simpa using h4⟩)
theorem e15_10 (ls st : List AV) (σ : St) (x : Int) : run 15 10 (ls) (vI x :: st) σ = if x = 0 then run 15 31 (ls) (st) σ else run 15 13 (ls) (st) σ := (run_eq 15 10 _ _ σ).trans rfl
theorem e15_13 (l st : List AV) (σ : St) (x : Nat) : run 15 13 (vR x :: l) (st) σ = run 15 14 (vR x :: l) (vR x :: st) σ := (run_eq 15 13 _ _ σ).trans rfl
theorem e15_14 (ls st : List AV) (σ : St) (x : Nat) (h : fok σ x 2) : run 15 14 (ls) (vR x :: st) σ = run 15 17 (ls) (vR (gr σ x 0) :: st) σ := (run_eq 15 14 _ _ σ).trans (if_pos h)
theorem e15_17 (ls st : List AV) (σ : St) (x : Nat) (h : fok σ x 0) : run 15 17 (ls) (vR x :: st) σ = run 15 20 (ls) (vI (gt σ x 3) :: st) σ := (run_eq 15 17 _ _ σ).trans (if_pos h)
theorem e15_20 (a0 a1 a2 : AV) (l st : List AV) (σ : St) (q : AV) (x : Int) : run 15 20 (a0 :: a1 :: a2 :: q :: l) (vI x :: st) σ = run 15 21 (a0 :: a1 :: a2 :: vI x :: l) (st) σ := (run_eq 15 20 _ _ σ).trans rfl
theorem e15_21 (l st : List AV) (σ : St) (x : Nat) : run 15 21 (vR x :: l) (st) σ = run 15 22 (vR x :: l) (vR x :: st) σ := (run_eq 15 21 _ _ σ).trans rfl
theorem e15_22 (ls st : List AV) (σ : St) (x : Nat) (h : fok σ x 2) : run 15 22 (ls) (vR x :: st) σ = run 15 25 (ls) (vR (gr σ x 0) :: st) σ := (run_eq 15 22 _ _ σ).trans (if_pos h)
theorem e15_25 (a0 a1 : AV) (l st : List AV) (σ : St) (x : Int) : run 15 25 (a0 :: a1 :: vI x :: l) (st) σ = run 15 26 (a0 :: a1 :: vI x :: l) (vI x :: st) σ := (run_eq 15 25 _ _ σ).trans rfl
theorem e15_26 (ls st : List AV) (σ : St) (z : Int) (x : Nat) (h : fok σ x 0) : run 15 26 (ls) (vI z :: vR x :: st) σ = run 15 29 (ls) (st) (sr σ x (ru (gt σ x) 3 z)) := (run_eq 15 26 _ _ σ).trans (if_pos h)
theorem e15_29 (a0 a1 a2 : AV) (l st : List AV) (σ : St) (x : Int) : run 15 29 (a0 :: a1 :: a2 :: vI x :: l) (st) σ = run 15 30 (a0 :: a1 :: a2 :: vI x :: l) (vI x :: st) σ := (run_eq 15 29 _ _ σ).trans rfl
theorem e15_30 (ls : List AV) (σ : St) (x : Int) : run 15 30 ls [vI x] σ = some (vI x, σ) := (run_eq 15 30 _ _ σ).trans rfl
theorem e15_31 (a0 : AV) (l st : List AV) (σ : St) (x : Int) : run 15 31 (a0 :: vI x :: l) (st) σ = run 15 32 (a0 :: vI x :: l) (vI x :: st) σ := (run_eq 15 31 _ _ σ).trans rfl
theorem e15_32 (ls st : List AV) (σ : St) : run 15 32 (ls) (st) σ = run 15 33 (ls) (vI 1 :: st) σ := (run_eq 15 32 _ _ σ).trans rfl
theorem e15_33 (ls st : List AV) (σ : St) (y x : Int) : run 15 33 (ls) (vI y :: vI x :: st) σ = if x = y then run 15 36 (ls) (st) σ else run 15 63 (ls) (st) σ := (run_eq 15 33 _ _ σ).trans rfl
theorem e15_36 (a0 a1 : AV) (l st : List AV) (σ : St) (x : Int) : run 15 36 (a0 :: a1 :: vI x :: l) (st) σ = run 15 37 (a0 :: a1 :: vI x :: l) (vI x :: st) σ := (run_eq 15 36 _ _ σ).trans rfl
theorem e15_37 (ls st : List AV) (σ : St) : run 15 37 (ls) (st) σ = run 15 38 (ls) (vI 0 :: st) σ := (run_eq 15 37 _ _ σ).trans rfl
theorem e15_38 (ls st : List AV) (σ : St) : run 15 38 (ls) (st) σ = run 15 39 (ls) (vI 3 :: st) σ := (run_eq 15 38 _ _ σ).trans rfl
theorem e15_39 (ls st : List AV) (σ : St) (x0 : Int) (x1 : Int) (x2 : Int) (h4 : st.length ≤ 4) : run 15 39 ls (vI x2 :: vI x1 :: vI x0 :: st) σ = bnd (run 6 0 [vI x0, vI x1, vI x2] [] σ) (fun r σ => run 15 42 ls (psh r st) σ) := (run_eq 15 39 _ _ σ).trans (if_pos ⟨rfl, by simp, by simpa using h4⟩)
theorem e15_42 (ls st : List AV) (σ : St) (x : Int) : run 15 42 (ls) (vI x :: st) σ = if x = 0 then run 15 63 (ls) (st) σ else run 15 45 (ls) (st) σ := (run_eq 15 42 _ _ σ).trans rfl
theorem e15_45 (l st : List AV) (σ : St) (x : Nat) : run 15 45 (vR x :: l) (st) σ = run 15 46 (vR x :: l) (vR x :: st) σ := (run_eq 15 45 _ _ σ).trans rfl
theorem e15_46 (ls st : List AV) (σ : St) (x : Nat) (h : fok σ x 2) : run 15 46 (ls) (vR x :: st) σ = run 15 49 (ls) (vR (gr σ x 0) :: st) σ := (run_eq 15 46 _ _ σ).trans (if_pos h)
theorem e15_49 (ls st : List AV) (σ : St) (x : Nat) (h : fok σ x 0) : run 15 49 (ls) (vR x :: st) σ = run 15 52 (ls) (vI (gt σ x 4) :: st) σ := (run_eq 15 49 _ _ σ).trans (if_pos h)
theorem e15_52 (a0 a1 a2 : AV) (l st : List AV) (σ : St) (q : AV) (x : Int) : run 15 52 (a0 :: a1 :: a2 :: q :: l) (vI x :: st) σ = run 15 53 (a0 :: a1 :: a2 :: vI x :: l) (st) σ := (run_eq 15 52 _ _ σ).trans rfl
theorem e15_53 (l st : List AV) (σ : St) (x : Nat) : run 15 53 (vR x :: l) (st) σ = run 15 54 (vR x :: l) (vR x :: st) σ := (run_eq 15 53 _ _ σ).trans rfl
theorem e15_54 (ls st : List AV) (σ : St) (x : Nat) (h : fok σ x 2) : run 15 54 (ls) (vR x :: st) σ = run 15 57 (ls) (vR (gr σ x 0) :: st) σ := (run_eq 15 54 _ _ σ).trans (if_pos h)
theorem e15_57 (a0 a1 : AV) (l st : List AV) (σ : St) (x : Int) : run 15 57 (a0 :: a1 :: vI x :: l) (st) σ = run 15 58 (a0 :: a1 :: vI x :: l) (vI x :: st) σ := (run_eq 15 57 _ _ σ).trans rfl
theorem e15_58 (ls st : List AV) (σ : St) (z : Int) (x : Nat) (h : fok σ x 0) : run 15 58 (ls) (vI z :: vR x :: st) σ = run 15 61 (ls) (st) (sr σ x (ru (gt σ x) 4 z)) := (run_eq 15 58 _ _ σ).trans (if_pos h)
theorem e15_61 (a0 a1 a2 : AV) (l st : List AV) (σ : St) (x : Int) : run 15 61 (a0 :: a1 :: a2 :: vI x :: l) (st) σ = run 15 62 (a0 :: a1 :: a2 :: vI x :: l) (vI x :: st) σ := (run_eq 15 61 _ _ σ).trans rfl
theorem e15_62 (ls : List AV) (σ : St) (x : Int) : run 15 62 ls [vI x] σ = some (vI x, σ) := (run_eq 15 62 _ _ σ).trans rfl
theorem e15_63 (ls st : List AV) (σ : St) : run 15 63 (ls) (st) σ = run 15 65 (ls) (vI (-2) :: st) σ := (run_eq 15 63 _ _ σ).trans rfl
theorem e15_65 (ls : List AV) (σ : St) (x : Int) : run 15 65 ls [vI x] σ = some (vI x, σ) := (run_eq 15 65 _ _ σ).trans rfl
/-! F_shape -/
theorem e16_0 (a0 : AV) (l st : List AV) (σ : St) (x : Int) : run 16 0 (a0 :: vI x :: l) (st) σ = run 16 1 (a0 :: vI x :: l) (vI x :: st) σ := (run_eq 16 0 _ _ σ).trans rfl
theorem e16_1 (ls st : List AV) (σ : St) : run 16 1 (ls) (st) σ = run 16 2 (ls) (vI 0 :: st) σ := (run_eq 16 1 _ _ σ).trans rfl
theorem e16_2 (ls st : List AV) (σ : St) : run 16 2 (ls) (st) σ = run 16 3 (ls) (vI 3 :: st) σ := (run_eq 16 2 _ _ σ).trans rfl
theorem e16_3 (ls st : List AV) (σ : St) (x0 : Int) (x1 : Int) (x2 : Int) (h4 : st.length ≤ 4) : run 16 3 ls (vI x2 :: vI x1 :: vI x0 :: st) σ = bnd (run 6 0 [vI x0, vI x1, vI x2] [] σ) (fun r σ => run 16 6 ls (psh r st) σ) := (run_eq 16 3 _ _ σ).trans (if_pos ⟨rfl, by simp, by simpa using h4⟩)
theorem e16_6 (ls st : List AV) (σ : St) (x : Int) : run 16 6 (ls) (vI x :: st) σ = if x = 0 then run 16 20 (ls) (st) σ else run 16 9 (ls) (st) σ := (run_eq 16 6 _ _ σ).trans rfl
theorem e16_9 (l st : List AV) (σ : St) (x : Nat) : run 16 9 (vR x :: l) (st) σ = run 16 10 (vR x :: l) (vR x :: st) σ := (run_eq 16 9 _ _ σ).trans rfl
theorem e16_10 (ls st : List AV) (σ : St) (x : Nat) (h : fok σ x 2) : run 16 10 (ls) (vR x :: st) σ = run 16 13 (ls) (vR (gr σ x 0) :: st) σ := (run_eq 16 10 _ _ σ).trans (if_pos h)
theorem e16_13 (a0 a1 : AV) (l st : List AV) (σ : St) (x : Int) : run 16 13 (a0 :: a1 :: vI x :: l) (st) σ = run 16 14 (a0 :: a1 :: vI x :: l) (vI x :: st) σ := (run_eq 16 13 _ _ σ).trans rfl
theorem e16_14 (ls st : List AV) (σ : St) (x0 : Nat) (x1 : Int) (h4 : st.length ≤ 4) (h : fok σ x0 0) : run 16 14 ls (vI x1 :: vR x0 :: st) σ = bnd (run 8 0 [vR x0, vI x1] [] σ) (fun r σ => run 16 17 ls (psh r st) σ) := (run_eq 16 14 _ _ σ).trans (if_pos ⟨rfl, by simp, by simpa using h4, rfl, h⟩)
theorem e16_17 (ls st : List AV) (σ : St) (x : Int) : run 16 17 (ls) (vI x :: st) σ = if x = 0 then run 16 20 (ls) (st) σ else run 16 22 (ls) (st) σ := (run_eq 16 17 _ _ σ).trans rfl
theorem e16_20 (ls st : List AV) (σ : St) : run 16 20 (ls) (st) σ = run 16 21 (ls) (vI (-1) :: st) σ := (run_eq 16 20 _ _ σ).trans rfl
theorem e16_21 (ls : List AV) (σ : St) (x : Int) : run 16 21 ls [vI x] σ = some (vI x, σ) := (run_eq 16 21 _ _ σ).trans rfl
theorem e16_22 (a0 a1 a2 : AV) (l st : List AV) (σ : St) (x : Int) : run 16 22 (a0 :: a1 :: a2 :: vI x :: l) (st) σ = run 16 23 (a0 :: a1 :: a2 :: vI x :: l) (vI x :: st) σ := (run_eq 16 22 _ _ σ).trans rfl
theorem e16_23 (ls st : List AV) (σ : St) : run 16 23 (ls) (st) σ = run 16 24 (ls) (vI (-1) :: st) σ := (run_eq 16 23 _ _ σ).trans rfl
theorem e16_24 (ls st : List AV) (σ : St) : run 16 24 (ls) (st) σ = run 16 26 (ls) (vI 9 :: st) σ := (run_eq 16 24 _ _ σ).trans rfl
theorem e16_26 (ls st : List AV) (σ : St) (x0 : Int) (x1 : Int) (x2 : Int) (h4 : st.length ≤ 4) : run 16 26 ls (vI x2 :: vI x1 :: vI x0 :: st) σ = bnd (run 6 0 [vI x0, vI x1, vI x2] [] σ) (fun r σ => run 16 29 ls (psh r st) σ) := (run_eq 16 26 _ _ σ).trans (if_pos ⟨rfl, by simp, by simpa using h4⟩)
theorem e16_29 (ls st : List AV) (σ : St) (x : Int) : run 16 29 (ls) (vI x :: st) σ = if x = 0 then run 16 32 (ls) (st) σ else run 16 35 (ls) (st) σ := (run_eq 16 29 _ _ σ).trans rfl
theorem e16_32 (ls st : List AV) (σ : St) : run 16 32 (ls) (st) σ = run 16 34 (ls) (vI (-2) :: st) σ := (run_eq 16 32 _ _ σ).trans rfl
theorem e16_34 (ls : List AV) (σ : St) (x : Int) : run 16 34 ls [vI x] σ = some (vI x, σ) := (run_eq 16 34 _ _ σ).trans rfl
theorem e16_35 (l st : List AV) (σ : St) (x : Nat) : run 16 35 (vR x :: l) (st) σ = run 16 36 (vR x :: l) (vR x :: st) σ := (run_eq 16 35 _ _ σ).trans rfl
theorem e16_36 (ls st : List AV) (σ : St) (x : Nat) (h : fok σ x 2) : run 16 36 (ls) (vR x :: st) σ = run 16 39 (ls) (vR (gr σ x 0) :: st) σ := (run_eq 16 36 _ _ σ).trans (if_pos h)
theorem e16_39 (ls st : List AV) (σ : St) (x : Nat) (h : fok σ x 0) : run 16 39 (ls) (vR x :: st) σ = run 16 42 (ls) (vR (gr σ x 10) :: st) σ := (run_eq 16 39 _ _ σ).trans (if_pos h)
theorem e16_42 (a0 : AV) (l st : List AV) (σ : St) (x : Int) : run 16 42 (a0 :: vI x :: l) (st) σ = run 16 43 (a0 :: vI x :: l) (vI x :: st) σ := (run_eq 16 42 _ _ σ).trans rfl
theorem e16_43 (ls st : List AV) (σ : St) : run 16 43 (ls) (st) σ = run 16 45 (ls) (vI 24 :: st) σ := (run_eq 16 43 _ _ σ).trans rfl
theorem e16_45 (ls st : List AV) (σ : St) (y x : Int) : run 16 45 (ls) (vI y :: vI x :: st) σ = run 16 46 (ls) (vI (wr (x * y)) :: st) σ := (run_eq 16 45 _ _ σ).trans rfl
theorem e16_46 (a0 a1 : AV) (l st : List AV) (σ : St) (x : Int) : run 16 46 (a0 :: a1 :: vI x :: l) (st) σ = run 16 47 (a0 :: a1 :: vI x :: l) (vI x :: st) σ := (run_eq 16 46 _ _ σ).trans rfl
theorem e16_47 (ls st : List AV) (σ : St) (y x : Int) : run 16 47 (ls) (vI y :: vI x :: st) σ = run 16 48 (ls) (vI (wr (x + y)) :: st) σ := (run_eq 16 47 _ _ σ).trans rfl
theorem e16_48 (a0 a1 a2 : AV) (l st : List AV) (σ : St) (x : Int) : run 16 48 (a0 :: a1 :: a2 :: vI x :: l) (st) σ = run 16 49 (a0 :: a1 :: a2 :: vI x :: l) (vI x :: st) σ := (run_eq 16 48 _ _ σ).trans rfl
theorem e16_49 (ls st : List AV) (σ : St) (x0 : Nat) (x1 : Int) (x2 : Int) (h4 : st.length ≤ 4) : run 16 49 ls (vI x2 :: vI x1 :: vR x0 :: st) σ = bnd (run 11 0 [vR x0, vI x1, vI x2] [] σ) (fun r σ => run 16 52 ls (psh r st) σ) := (run_eq 16 49 _ _ σ).trans (if_pos ⟨rfl, by simp, by simpa using h4⟩)
theorem e16_52 (l st : List AV) (σ : St) (x : Nat) : run 16 52 (vR x :: l) (st) σ = run 16 53 (vR x :: l) (vR x :: st) σ := (run_eq 16 52 _ _ σ).trans rfl
theorem e16_53 (ls st : List AV) (σ : St) (x : Nat) (h : fok σ x 2) : run 16 53 (ls) (vR x :: st) σ = run 16 56 (ls) (vR (gr σ x 0) :: st) σ := (run_eq 16 53 _ _ σ).trans (if_pos h)
theorem e16_56 (a0 : AV) (l st : List AV) (σ : St) (x : Int) : run 16 56 (a0 :: vI x :: l) (st) σ = run 16 57 (a0 :: vI x :: l) (vI x :: st) σ := (run_eq 16 56 _ _ σ).trans rfl
theorem e16_57 (ls st : List AV) (σ : St) (x0 : Nat) (x1 : Int) (h4 : st.length ≤ 4) (h : fok σ x0 0) : run 16 57 ls (vI x1 :: vR x0 :: st) σ = bnd (run 17 0 [vR x0, vI x1, vU, vU] [] σ) (fun r σ => run 16 60 ls (psh r st) σ) := (run_eq 16 57 _ _ σ).trans (if_pos ⟨rfl, by simp, by simpa using h4, rfl, h⟩)
theorem e16_60 (ls : List AV) (σ : St) (x : Int) : run 16 60 ls [vI x] σ = some (vI x, σ) := (run_eq 16 60 _ _ σ).trans rfl
/-! F_say -/
theorem e19_0 (a0 : AV) (l st : List AV) (σ : St) (x : Int) : run 19 0 (a0 :: vI x :: l) (st) σ = run 19 1 (a0 :: vI x :: l) (vI x :: st) σ := (run_eq 19 0 _ _ σ).trans rfl
theorem e19_1 (ls st : List AV) (σ : St) : run 19 1 (ls) (st) σ = run 19 3 (ls) (vI 33 :: st) σ := (run_eq 19 1 _ _ σ).trans rfl
theorem e19_3 (ls st : List AV) (σ : St) : run 19 3 (ls) (st) σ = run 19 5 (ls) (vI 126 :: st) σ := (run_eq 19 3 _ _ σ).trans rfl
theorem e19_5 (ls st : List AV) (σ : St) (x0 : Int) (x1 : Int) (x2 : Int) (h4 : st.length ≤ 4) : run 19 5 ls (vI x2 :: vI x1 :: vI x0 :: st) σ = bnd (run 6 0 [vI x0, vI x1, vI x2] [] σ) (fun r σ => run 19 8 ls (psh r st) σ) := (run_eq 19 5 _ _ σ).trans (if_pos ⟨rfl, by simp, by simpa using h4⟩)
theorem e19_8 (ls st : List AV) (σ : St) (x : Int) : run 19 8 (ls) (vI x :: st) σ = if x = 0 then run 19 11 (ls) (st) σ else run 19 14 (ls) (st) σ := (run_eq 19 8 _ _ σ).trans rfl
theorem e19_11 (ls st : List AV) (σ : St) : run 19 11 (ls) (st) σ = run 19 13 (ls) (vI (-2) :: st) σ := (run_eq 19 11 _ _ σ).trans rfl
theorem e19_13 (ls : List AV) (σ : St) (x : Int) : run 19 13 ls [vI x] σ = some (vI x, σ) := (run_eq 19 13 _ _ σ).trans rfl
theorem e19_14 (l st : List AV) (σ : St) (x : Nat) : run 19 14 (vR x :: l) (st) σ = run 19 15 (vR x :: l) (vR x :: st) σ := (run_eq 19 14 _ _ σ).trans rfl
theorem e19_15 (ls st : List AV) (σ : St) (x : Nat) (h : fok σ x 2) : run 19 15 (ls) (vR x :: st) σ = run 19 18 (ls) (vR (gr σ x 2) :: st) σ := (run_eq 19 15 _ _ σ).trans (if_pos h)
theorem e19_18 (ls st : List AV) (σ : St) (x : Nat) (h : fok σ x 1) : run 19 18 (ls) (vR x :: st) σ = run 19 21 (ls) (vI (gt σ x 1) :: st) σ := (run_eq 19 18 _ _ σ).trans (if_pos h)
theorem e19_21 (ls st : List AV) (σ : St) : run 19 21 (ls) (st) σ = run 19 23 (ls) (vI 60 :: st) σ := (run_eq 19 21 _ _ σ).trans rfl
theorem e19_23 (ls st : List AV) (σ : St) (y x : Int) : run 19 23 (ls) (vI y :: vI x :: st) σ = if x < y then run 19 29 (ls) (st) σ else run 19 26 (ls) (st) σ := (run_eq 19 23 _ _ σ).trans rfl
theorem e19_26 (ls st : List AV) (σ : St) : run 19 26 (ls) (st) σ = run 19 28 (ls) (vI (-4) :: st) σ := (run_eq 19 26 _ _ σ).trans rfl
theorem e19_28 (ls : List AV) (σ : St) (x : Int) : run 19 28 ls [vI x] σ = some (vI x, σ) := (run_eq 19 28 _ _ σ).trans rfl
theorem e19_29 (l st : List AV) (σ : St) (x : Nat) : run 19 29 (vR x :: l) (st) σ = run 19 30 (vR x :: l) (vR x :: st) σ := (run_eq 19 29 _ _ σ).trans rfl
theorem e19_30 (ls st : List AV) (σ : St) (x : Nat) (h : fok σ x 2) : run 19 30 (ls) (vR x :: st) σ = run 19 33 (ls) (vR (gr σ x 2) :: st) σ := (run_eq 19 30 _ _ σ).trans (if_pos h)
theorem e19_33 (ls st : List AV) (σ : St) (x : Nat) (h : fok σ x 1) : run 19 33 (ls) (vR x :: st) σ = run 19 36 (ls) (vR (gr σ x 0) :: st) σ := (run_eq 19 33 _ _ σ).trans (if_pos h)
theorem e19_36 (l st : List AV) (σ : St) (x : Nat) : run 19 36 (vR x :: l) (st) σ = run 19 37 (vR x :: l) (vR x :: st) σ := (run_eq 19 36 _ _ σ).trans rfl
theorem e19_37 (ls st : List AV) (σ : St) (x : Nat) (h : fok σ x 2) : run 19 37 (ls) (vR x :: st) σ = run 19 40 (ls) (vR (gr σ x 2) :: st) σ := (run_eq 19 37 _ _ σ).trans (if_pos h)
theorem e19_40 (ls st : List AV) (σ : St) (x : Nat) (h : fok σ x 1) : run 19 40 (ls) (vR x :: st) σ = run 19 43 (ls) (vI (gt σ x 1) :: st) σ := (run_eq 19 40 _ _ σ).trans (if_pos h)
theorem e19_43 (a0 : AV) (l st : List AV) (σ : St) (x : Int) : run 19 43 (a0 :: vI x :: l) (st) σ = run 19 44 (a0 :: vI x :: l) (vI x :: st) σ := (run_eq 19 43 _ _ σ).trans rfl
theorem e19_44 (ls st : List AV) (σ : St) (x0 : Nat) (x1 : Int) (x2 : Int) (h4 : st.length ≤ 4) : run 19 44 ls (vI x2 :: vI x1 :: vR x0 :: st) σ = bnd (run 11 0 [vR x0, vI x1, vI x2] [] σ) (fun r σ => run 19 47 ls (psh r st) σ) := (run_eq 19 44 _ _ σ).trans (if_pos ⟨rfl, by simp, by simpa using h4⟩)
theorem e19_47 (l st : List AV) (σ : St) (x : Nat) : run 19 47 (vR x :: l) (st) σ = run 19 48 (vR x :: l) (vR x :: st) σ := (run_eq 19 47 _ _ σ).trans rfl
theorem e19_48 (ls st : List AV) (σ : St) (x : Nat) (h : fok σ x 2) : run 19 48 (ls) (vR x :: st) σ = run 19 51 (ls) (vR (gr σ x 2) :: st) σ := (run_eq 19 48 _ _ σ).trans (if_pos h)
theorem e19_51 (ls st : List AV) (σ : St) (x : Nat) : run 19 51 ls (vR x :: st) σ = run 19 52 ls (vR x :: vR x :: st) σ := (run_eq 19 51 _ _ σ).trans rfl
theorem e19_52 (ls st : List AV) (σ : St) (x : Nat) (h : fok σ x 1) : run 19 52 (ls) (vR x :: st) σ = run 19 55 (ls) (vI (gt σ x 1) :: st) σ := (run_eq 19 52 _ _ σ).trans (if_pos h)
theorem e19_55 (ls st : List AV) (σ : St) : run 19 55 (ls) (st) σ = run 19 56 (ls) (vI 1 :: st) σ := (run_eq 19 55 _ _ σ).trans rfl
theorem e19_56 (ls st : List AV) (σ : St) (y x : Int) : run 19 56 (ls) (vI y :: vI x :: st) σ = run 19 57 (ls) (vI (wr (x + y)) :: st) σ := (run_eq 19 56 _ _ σ).trans rfl
theorem e19_57 (ls st : List AV) (σ : St) (z : Int) (x : Nat) (h : fok σ x 1) : run 19 57 (ls) (vI z :: vR x :: st) σ = run 19 60 (ls) (st) (sr σ x (ru (gt σ x) 1 z)) := (run_eq 19 57 _ _ σ).trans (if_pos h)
theorem e19_60 (l st : List AV) (σ : St) (x : Nat) : run 19 60 (vR x :: l) (st) σ = run 19 61 (vR x :: l) (vR x :: st) σ := (run_eq 19 60 _ _ σ).trans rfl
theorem e19_61 (ls st : List AV) (σ : St) (x : Nat) (h : fok σ x 2) : run 19 61 (ls) (vR x :: st) σ = run 19 64 (ls) (vR (gr σ x 2) :: st) σ := (run_eq 19 61 _ _ σ).trans (if_pos h)
theorem e19_64 (ls st : List AV) (σ : St) (x : Nat) (h : fok σ x 1) : run 19 64 (ls) (vR x :: st) σ = run 19 67 (ls) (vI (gt σ x 1) :: st) σ := (run_eq 19 64 _ _ σ).trans (if_pos h)
theorem e19_67 (ls : List AV) (σ : St) (x : Int) : run 19 67 ls [vI x] σ = some (vI x, σ) := (run_eq 19 67 _ _ σ).trans rfl
/-! F_wipe -/
theorem e20_0 (l st : List AV) (σ : St) (x : Nat) : run 20 0 (vR x :: l) (st) σ = run 20 1 (vR x :: l) (vR x :: st) σ := (run_eq 20 0 _ _ σ).trans rfl
theorem e20_1 (ls st : List AV) (σ : St) (x : Nat) (h : fok σ x 2) : run 20 1 (ls) (vR x :: st) σ = run 20 4 (ls) (vR (gr σ x 2) :: st) σ := (run_eq 20 1 _ _ σ).trans (if_pos h)
theorem e20_4 (ls st : List AV) (σ : St) (x : Nat) (h : fok σ x 1) : run 20 4 (ls) (vR x :: st) σ = run 20 7 (ls) (vI (gt σ x 1) :: st) σ := (run_eq 20 4 _ _ σ).trans (if_pos h)
theorem e20_7 (a0 : AV) (l st : List AV) (σ : St) (q : AV) (x : Int) : run 20 7 (a0 :: q :: l) (vI x :: st) σ = run 20 8 (a0 :: vI x :: l) (st) σ := (run_eq 20 7 _ _ σ).trans rfl
theorem e20_8 (l st : List AV) (σ : St) (x : Nat) : run 20 8 (vR x :: l) (st) σ = run 20 9 (vR x :: l) (vR x :: st) σ := (run_eq 20 8 _ _ σ).trans rfl
theorem e20_9 (ls st : List AV) (σ : St) (x : Nat) (h : fok σ x 2) : run 20 9 (ls) (vR x :: st) σ = run 20 12 (ls) (vR (gr σ x 2) :: st) σ := (run_eq 20 9 _ _ σ).trans (if_pos h)
theorem e20_12 (ls st : List AV) (σ : St) : run 20 12 (ls) (st) σ = run 20 13 (ls) (vI 0 :: st) σ := (run_eq 20 12 _ _ σ).trans rfl
theorem e20_13 (ls st : List AV) (σ : St) (z : Int) (x : Nat) (h : fok σ x 1) : run 20 13 (ls) (vI z :: vR x :: st) σ = run 20 16 (ls) (st) (sr σ x (ru (gt σ x) 1 z)) := (run_eq 20 13 _ _ σ).trans (if_pos h)
theorem e20_16 (a0 : AV) (l st : List AV) (σ : St) (x : Int) : run 20 16 (a0 :: vI x :: l) (st) σ = run 20 17 (a0 :: vI x :: l) (vI x :: st) σ := (run_eq 20 16 _ _ σ).trans rfl
theorem e20_17 (ls : List AV) (σ : St) (x : Int) : run 20 17 ls [vI x] σ = some (vI x, σ) := (run_eq 20 17 _ _ σ).trans rfl
/-! F_fault -/
theorem e21_0 (l st : List AV) (σ : St) (x : Nat) : run 21 0 (vR x :: l) (st) σ = run 21 1 (vR x :: l) (vR x :: st) σ := (run_eq 21 0 _ _ σ).trans rfl
theorem e21_1 (ls st : List AV) (σ : St) (x : Nat) (h : fok σ x 2) : run 21 1 (ls) (vR x :: st) σ = run 21 4 (ls) (vR (gr σ x 2) :: st) σ := (run_eq 21 1 _ _ σ).trans (if_pos h)
theorem e21_4 (l st : List AV) (σ : St) (x : Nat) : run 21 4 (vR x :: l) (st) σ = run 21 5 (vR x :: l) (vR x :: st) σ := (run_eq 21 4 _ _ σ).trans rfl
theorem e21_5 (ls st : List AV) (σ : St) (x : Nat) (h : fok σ x 2) : run 21 5 (ls) (vR x :: st) σ = run 21 8 (ls) (vR (gr σ x 0) :: st) σ := (run_eq 21 5 _ _ σ).trans (if_pos h)
theorem e21_8 (ls st : List AV) (σ : St) (x0 : Nat) (x1 : Nat) (h4 : st.length ≤ 4) (h : fok σ x0 1) : run 21 8 ls (vR x1 :: vR x0 :: st) σ = bnd (run 22 0 [vR x0, vR x1, vU, vU] [] σ) (fun r σ => run 21 11 ls (psh r st) σ) := (run_eq 21 8 _ _ σ).trans (if_pos ⟨rfl, by simp, by simpa using h4, rfl, h⟩)
theorem e21_11 (ls : List AV) (σ : St) (x : Int) : run 21 11 ls [vI x] σ = some (vI x, σ) := (run_eq 21 11 _ _ σ).trans rfl
/-! F_hourOf -/
theorem e23_0 (l st : List AV) (σ : St) (x : Int) : run 23 0 (vI x :: l) (st) σ = run 23 1 (vI x :: l) (vI x :: st) σ := (run_eq 23 0 _ _ σ).trans rfl
theorem e23_1 (ls st : List AV) (σ : St) (x : Int) : run 23 1 (ls) (vI x :: st) σ = run 23 (sw [(46, 70), (60, 66), (62, 62), (94, 60), (95, 64), (126, 68)] 72 x) ls st σ := (run_eq 23 1 _ _ σ).trans rfl
theorem e23_60 (ls st : List AV) (σ : St) : run 23 60 (ls) (st) σ = run 23 61 (ls) (vI 0 :: st) σ := (run_eq 23 60 _ _ σ).trans rfl
theorem e23_61 (ls : List AV) (σ : St) (x : Int) : run 23 61 ls [vI x] σ = some (vI x, σ) := (run_eq 23 61 _ _ σ).trans rfl
theorem e23_62 (ls st : List AV) (σ : St) : run 23 62 (ls) (st) σ = run 23 63 (ls) (vI 1 :: st) σ := (run_eq 23 62 _ _ σ).trans rfl
theorem e23_63 (ls : List AV) (σ : St) (x : Int) : run 23 63 ls [vI x] σ = some (vI x, σ) := (run_eq 23 63 _ _ σ).trans rfl
theorem e23_64 (ls st : List AV) (σ : St) : run 23 64 (ls) (st) σ = run 23 65 (ls) (vI 2 :: st) σ := (run_eq 23 64 _ _ σ).trans rfl
theorem e23_65 (ls : List AV) (σ : St) (x : Int) : run 23 65 ls [vI x] σ = some (vI x, σ) := (run_eq 23 65 _ _ σ).trans rfl
theorem e23_66 (ls st : List AV) (σ : St) : run 23 66 (ls) (st) σ = run 23 67 (ls) (vI 3 :: st) σ := (run_eq 23 66 _ _ σ).trans rfl
theorem e23_67 (ls : List AV) (σ : St) (x : Int) : run 23 67 ls [vI x] σ = some (vI x, σ) := (run_eq 23 67 _ _ σ).trans rfl
theorem e23_68 (ls st : List AV) (σ : St) : run 23 68 (ls) (st) σ = run 23 69 (ls) (vI 4 :: st) σ := (run_eq 23 68 _ _ σ).trans rfl
theorem e23_69 (ls : List AV) (σ : St) (x : Int) : run 23 69 ls [vI x] σ = some (vI x, σ) := (run_eq 23 69 _ _ σ).trans rfl
theorem e23_70 (ls st : List AV) (σ : St) : run 23 70 (ls) (st) σ = run 23 71 (ls) (vI 5 :: st) σ := (run_eq 23 70 _ _ σ).trans rfl
theorem e23_71 (ls : List AV) (σ : St) (x : Int) : run 23 71 ls [vI x] σ = some (vI x, σ) := (run_eq 23 71 _ _ σ).trans rfl
theorem e23_72 (ls st : List AV) (σ : St) : run 23 72 (ls) (st) σ = run 23 74 (ls) (vI (-6) :: st) σ := (run_eq 23 72 _ _ σ).trans rfl
theorem e23_74 (ls : List AV) (σ : St) (x : Int) : run 23 74 ls [vI x] σ = some (vI x, σ) := (run_eq 23 74 _ _ σ).trans rfl
/-! F_judge -/
theorem e25_0 (a0 : AV) (l st : List AV) (σ : St) (x : Int) : run 25 0 (a0 :: vI x :: l) (st) σ = run 25 1 (a0 :: vI x :: l) (vI x :: st) σ := (run_eq 25 0 _ _ σ).trans rfl
theorem e25_1 (ls st : List AV) (σ : St) : run 25 1 (ls) (st) σ = run 25 2 (ls) (vI 0 :: st) σ := (run_eq 25 1 _ _ σ).trans rfl
theorem e25_2 (ls st : List AV) (σ : St) : run 25 2 (ls) (st) σ = run 25 3 (ls) (vI 1 :: st) σ := (run_eq 25 2 _ _ σ).trans rfl
theorem e25_3 (ls st : List AV) (σ : St) (x0 : Int) (x1 : Int) (x2 : Int) (h4 : st.length ≤ 4) : run 25 3 ls (vI x2 :: vI x1 :: vI x0 :: st) σ = bnd (run 6 0 [vI x0, vI x1, vI x2] [] σ) (fun r σ => run 25 6 ls (psh r st) σ) := (run_eq 25 3 _ _ σ).trans (if_pos ⟨rfl, by simp, by simpa using h4⟩)
theorem e25_6 (ls st : List AV) (σ : St) (x : Int) : run 25 6 (ls) (vI x :: st) σ = if x = 0 then run 25 9 (ls) (st) σ else run 25 12 (ls) (st) σ := (run_eq 25 6 _ _ σ).trans rfl
theorem e25_9 (ls st : List AV) (σ : St) : run 25 9 (ls) (st) σ = run 25 11 (ls) (vI (-2) :: st) σ := (run_eq 25 9 _ _ σ).trans rfl
theorem e25_11 (ls : List AV) (σ : St) (x : Int) : run 25 11 ls [vI x] σ = some (vI x, σ) := (run_eq 25 11 _ _ σ).trans rfl
theorem e25_12 (l st : List AV) (σ : St) (x : Nat) : run 25 12 (vR x :: l) (st) σ = run 25 13 (vR x :: l) (vR x :: st) σ := (run_eq 25 12 _ _ σ).trans rfl
theorem e25_13 (ls st : List AV) (σ : St) (x : Nat) (h : fok σ x 2) : run 25 13 (ls) (vR x :: st) σ = run 25 16 (ls) (vR (gr σ x 2) :: st) σ := (run_eq 25 13 _ _ σ).trans (if_pos h)
theorem e25_16 (l st : List AV) (σ : St) (x : Nat) : run 25 16 (vR x :: l) (st) σ = run 25 17 (vR x :: l) (vR x :: st) σ := (run_eq 25 16 _ _ σ).trans rfl
theorem e25_17 (ls st : List AV) (σ : St) (x : Nat) (h : fok σ x 2) : run 25 17 (ls) (vR x :: st) σ = run 25 20 (ls) (vR (gr σ x 0) :: st) σ := (run_eq 25 17 _ _ σ).trans (if_pos h)
theorem e25_20 (ls st : List AV) (σ : St) (x0 : Nat) (x1 : Nat) (h4 : st.length ≤ 4) (h : fok σ x0 1) : run 25 20 ls (vR x1 :: vR x0 :: st) σ = bnd (run 22 0 [vR x0, vR x1, vU, vU] [] σ) (fun r σ => run 25 23 ls (psh r st) σ) := (run_eq 25 20 _ _ σ).trans (if_pos ⟨rfl, by simp, by simpa using h4, rfl, h⟩)
theorem e25_23 (ls st : List AV) (σ : St) : run 25 23 (ls) (st) σ = run 25 25 (ls) (vI (-6) :: st) σ := (run_eq 25 23 _ _ σ).trans rfl
theorem e25_25 (ls st : List AV) (σ : St) (y x : Int) : run 25 25 (ls) (vI y :: vI x :: st) σ = if x = y then run 25 31 (ls) (st) σ else run 25 28 (ls) (st) σ := (run_eq 25 25 _ _ σ).trans rfl
theorem e25_28 (ls st : List AV) (σ : St) : run 25 28 (ls) (st) σ = run 25 30 (ls) (vI (-5) :: st) σ := (run_eq 25 28 _ _ σ).trans rfl
theorem e25_30 (ls : List AV) (σ : St) (x : Int) : run 25 30 ls [vI x] σ = some (vI x, σ) := (run_eq 25 30 _ _ σ).trans rfl
theorem e25_31 (l st : List AV) (σ : St) (x : Nat) : run 25 31 (vR x :: l) (st) σ = run 25 32 (vR x :: l) (vR x :: st) σ := (run_eq 25 31 _ _ σ).trans rfl
theorem e25_32 (ls st : List AV) (σ : St) (x : Nat) (h : fok σ x 2) : run 25 32 (ls) (vR x :: st) σ = run 25 35 (ls) (vR (gr σ x 2) :: st) σ := (run_eq 25 32 _ _ σ).trans (if_pos h)
theorem e25_35 (l st : List AV) (σ : St) (x : Nat) : run 25 35 (vR x :: l) (st) σ = run 25 36 (vR x :: l) (vR x :: st) σ := (run_eq 25 35 _ _ σ).trans rfl
theorem e25_36 (ls st : List AV) (σ : St) (x : Nat) (h : fok σ x 2) : run 25 36 (ls) (vR x :: st) σ = run 25 39 (ls) (vR (gr σ x 0) :: st) σ := (run_eq 25 36 _ _ σ).trans (if_pos h)
theorem e25_39 (l st : List AV) (σ : St) (x : Nat) : run 25 39 (vR x :: l) (st) σ = run 25 40 (vR x :: l) (vR x :: st) σ := (run_eq 25 39 _ _ σ).trans rfl
theorem e25_40 (ls st : List AV) (σ : St) (x : Nat) (h : fok σ x 2) : run 25 40 (ls) (vR x :: st) σ = run 25 43 (ls) (vR (gr σ x 1) :: st) σ := (run_eq 25 40 _ _ σ).trans (if_pos h)
theorem e25_43 (ls st : List AV) (σ : St) : run 25 43 (ls) (st) σ = run 25 44 (ls) (vI (-1) :: st) σ := (run_eq 25 43 _ _ σ).trans rfl
theorem e25_44 (ls st : List AV) (σ : St) (x0 : Nat) (x1 : Nat) (x2 : Nat) (x3 : Int) (h4 : st.length ≤ 4) (h : fok σ x0 1) : run 25 44 ls (vI x3 :: vR x2 :: vR x1 :: vR x0 :: st) σ = bnd (run 26 0 [vR x0, vR x1, vR x2, vI x3, vU, vU, vU, vU] [] σ) (fun r σ => run 25 47 ls (psh r st) σ) := (run_eq 25 44 _ _ σ).trans (if_pos ⟨rfl, by simp, by simpa using h4, rfl, h⟩)
theorem e25_47 (a0 : AV) (l st : List AV) (σ : St) (x : Int) : run 25 47 (a0 :: vI x :: l) (st) σ = run 25 48 (a0 :: vI x :: l) (vI x :: st) σ := (run_eq 25 47 _ _ σ).trans rfl
theorem e25_48 (ls st : List AV) (σ : St) (x : Int) : run 25 48 (ls) (vI x :: st) σ = if x = 0 then run 25 51 (ls) (st) σ else run 25 61 (ls) (st) σ := (run_eq 25 48 _ _ σ).trans rfl
theorem e25_51 (l st : List AV) (σ : St) (x : Nat) : run 25 51 (vR x :: l) (st) σ = run 25 52 (vR x :: l) (vR x :: st) σ := (run_eq 25 51 _ _ σ).trans rfl
theorem e25_52 (ls st : List AV) (σ : St) (x : Nat) (h : fok σ x 2) : run 25 52 (ls) (vR x :: st) σ = run 25 55 (ls) (vR (gr σ x 2) :: st) σ := (run_eq 25 52 _ _ σ).trans (if_pos h)
theorem e25_55 (ls st : List AV) (σ : St) (x : Nat) (h : fok σ x 1) : run 25 55 (ls) (vR x :: st) σ = run 25 58 (ls) (vI (gt σ x 3) :: st) σ := (run_eq 25 55 _ _ σ).trans (if_pos h)
theorem e25_58 (ls st : List AV) (σ : St) : run 25 58 (ls) (st) σ = run 25 68 (ls) (st) σ := (run_eq 25 58 _ _ σ).trans rfl
theorem e25_61 (l st : List AV) (σ : St) (x : Nat) : run 25 61 (vR x :: l) (st) σ = run 25 62 (vR x :: l) (vR x :: st) σ := (run_eq 25 61 _ _ σ).trans rfl
theorem e25_62 (ls st : List AV) (σ : St) (x : Nat) (h : fok σ x 2) : run 25 62 (ls) (vR x :: st) σ = run 25 65 (ls) (vR (gr σ x 2) :: st) σ := (run_eq 25 62 _ _ σ).trans (if_pos h)
theorem e25_65 (ls st : List AV) (σ : St) (x : Nat) (h : fok σ x 1) : run 25 65 (ls) (vR x :: st) σ = run 25 68 (ls) (vI (gt σ x 4) :: st) σ := (run_eq 25 65 _ _ σ).trans (if_pos h)
theorem e25_68 (ls : List AV) (σ : St) (x : Int) : run 25 68 ls [vI x] σ = some (vI x, σ) := (run_eq 25 68 _ _ σ).trans rfl
/-! F_copyRow -/
theorem e28_0 (l st : List AV) (σ : St) (x : Nat) : run 28 0 (vR x :: l) (st) σ = run 28 1 (vR x :: l) (vR x :: st) σ := (run_eq 28 0 _ _ σ).trans rfl
theorem e28_1 (ls st : List AV) (σ : St) (x : Nat) : run 28 1 (ls) (vR x :: st) σ = if x = 0 then run 28 34 (ls) (st) σ else run 28 4 (ls) (st) σ := (run_eq 28 1 _ _ σ).trans rfl
theorem e28_4 (a0 : AV) (l st : List AV) (σ : St) (x : Nat) : run 28 4 (a0 :: vR x :: l) (st) σ = run 28 5 (a0 :: vR x :: l) (vR x :: st) σ := (run_eq 28 4 _ _ σ).trans rfl
theorem e28_5 (ls st : List AV) (σ : St) (x : Nat) : run 28 5 (ls) (vR x :: st) σ = if x = 0 then run 28 34 (ls) (st) σ else run 28 8 (ls) (st) σ := (run_eq 28 5 _ _ σ).trans rfl
theorem e28_8 (ls st : List AV) (σ : St) : run 28 8 (ls) (st) σ = run 28 9 (ls) (vI 0 :: st) σ := (run_eq 28 8 _ _ σ).trans rfl
theorem e28_9 (a0 a1 : AV) (l st : List AV) (σ : St) (q : AV) (x : Int) : run 28 9 (a0 :: a1 :: q :: l) (vI x :: st) σ = run 28 10 (a0 :: a1 :: vI x :: l) (st) σ := (run_eq 28 9 _ _ σ).trans rfl
theorem e28_10 (a0 a1 : AV) (l st : List AV) (σ : St) (x : Int) : run 28 10 (a0 :: a1 :: vI x :: l) (st) σ = run 28 11 (a0 :: a1 :: vI x :: l) (vI x :: st) σ := (run_eq 28 10 _ _ σ).trans rfl
theorem e28_11 (l st : List AV) (σ : St) (x : Nat) : run 28 11 (vR x :: l) (st) σ = run 28 12 (vR x :: l) (vR x :: st) σ := (run_eq 28 11 _ _ σ).trans rfl
theorem e28_12 (ls st : List AV) (σ : St) (x : Nat) (h : fok σ x 4 ∨ fok σ x 6) : run 28 12 (ls) (vR x :: st) σ = run 28 13 (ls) (vI (sk σ x).2 :: st) σ := (run_eq 28 12 _ _ σ).trans (if_pos h)
theorem e28_13 (ls st : List AV) (σ : St) (y x : Int) : run 28 13 (ls) (vI y :: vI x :: st) σ = if x < y then run 28 16 (ls) (st) σ else run 28 34 (ls) (st) σ := (run_eq 28 13 _ _ σ).trans rfl
theorem e28_16 (a0 a1 : AV) (l st : List AV) (σ : St) (x : Int) : run 28 16 (a0 :: a1 :: vI x :: l) (st) σ = run 28 17 (a0 :: a1 :: vI x :: l) (vI x :: st) σ := (run_eq 28 16 _ _ σ).trans rfl
theorem e28_17 (a0 : AV) (l st : List AV) (σ : St) (x : Nat) : run 28 17 (a0 :: vR x :: l) (st) σ = run 28 18 (a0 :: vR x :: l) (vR x :: st) σ := (run_eq 28 17 _ _ σ).trans rfl
theorem e28_18 (ls st : List AV) (σ : St) (x : Nat) (h : fok σ x 4 ∨ fok σ x 6) : run 28 18 (ls) (vR x :: st) σ = run 28 19 (ls) (vI (sk σ x).2 :: st) σ := (run_eq 28 18 _ _ σ).trans (if_pos h)
theorem e28_19 (ls st : List AV) (σ : St) (y x : Int) : run 28 19 (ls) (vI y :: vI x :: st) σ = if x < y then run 28 22 (ls) (st) σ else run 28 34 (ls) (st) σ := (run_eq 28 19 _ _ σ).trans rfl
theorem e28_22 (a0 : AV) (l st : List AV) (σ : St) (x : Nat) : run 28 22 (a0 :: vR x :: l) (st) σ = run 28 23 (a0 :: vR x :: l) (vR x :: st) σ := (run_eq 28 22 _ _ σ).trans rfl
theorem e28_23 (a0 a1 : AV) (l st : List AV) (σ : St) (x : Int) : run 28 23 (a0 :: a1 :: vI x :: l) (st) σ = run 28 24 (a0 :: a1 :: vI x :: l) (vI x :: st) σ := (run_eq 28 23 _ _ σ).trans rfl
theorem e28_24 (l st : List AV) (σ : St) (x : Nat) : run 28 24 (vR x :: l) (st) σ = run 28 25 (vR x :: l) (vR x :: st) σ := (run_eq 28 24 _ _ σ).trans rfl
theorem e28_25 (a0 a1 : AV) (l st : List AV) (σ : St) (x : Int) : run 28 25 (a0 :: a1 :: vI x :: l) (st) σ = run 28 26 (a0 :: a1 :: vI x :: l) (vI x :: st) σ := (run_eq 28 25 _ _ σ).trans rfl
theorem e28_26 (ls st : List AV) (σ : St) (j : Int) (x : Nat) (h : aok σ x 4 j) : run 28 26 (ls) (vI j :: vR x :: st) σ = run 28 27 (ls) (vI (gt σ x j.toNat) :: st) σ := (run_eq 28 26 _ _ σ).trans (if_pos h)
theorem e28_27 (ls st : List AV) (σ : St) (z j : Int) (x : Nat) (h : aok σ x 4 j) : run 28 27 (ls) (vI z :: vI j :: vR x :: st) σ = run 28 28 (ls) (st) (sr σ x (ru (gt σ x) j.toNat z)) := (run_eq 28 27 _ _ σ).trans (if_pos h)
theorem e28_28 (a0 a1 : AV) (l st : List AV) (σ : St) (x : Int) : run 28 28 (a0 :: a1 :: vI x :: l) (st) σ = run 28 31 (a0 :: a1 :: vI (wr (x + 1)) :: l) (st) σ := (run_eq 28 28 _ _ σ).trans rfl
theorem e28_31 (ls st : List AV) (σ : St) : run 28 31 (ls) (st) σ = run 28 10 (ls) (st) σ := (run_eq 28 31 _ _ σ).trans rfl
theorem e28_34 (ls : List AV) (σ : St) : run 28 34 ls [] σ = some (vU, σ) := (run_eq 28 34 _ _ σ).trans rfl
/-! F_done -/
theorem e38_0 (l st : List AV) (σ : St) (x : Nat) : run 38 0 (vR x :: l) (st) σ = run 38 1 (vR x :: l) (vR x :: st) σ := (run_eq 38 0 _ _ σ).trans rfl
theorem e38_1 (ls st : List AV) (σ : St) : run 38 1 (ls) (st) σ = run 38 2 (ls) (vI (-1) :: st) σ := (run_eq 38 1 _ _ σ).trans rfl
theorem e38_2 (ls st : List AV) (σ : St) (x0 : Nat) (x1 : Int) (h4 : st.length ≤ 4) (h : fok σ x0 2) : run 38 2 ls (vI x1 :: vR x0 :: st) σ = bnd (run 39 0 [vR x0, vI x1] [] σ) (fun r σ => run 38 5 ls (psh r st) σ) := (run_eq 38 2 _ _ σ).trans (if_pos ⟨rfl, by simp, by simpa using h4, rfl, h⟩)
theorem e38_5 (ls st : List AV) (σ : St) (x : Int) : run 38 5 (ls) (vI x :: st) σ = if x = 0 then run 38 8 (ls) (st) σ else run 38 11 (ls) (st) σ := (run_eq 38 5 _ _ σ).trans rfl
theorem e38_8 (ls st : List AV) (σ : St) : run 38 8 (ls) (st) σ = run 38 10 (ls) (vI (-5) :: st) σ := (run_eq 38 8 _ _ σ).trans rfl
theorem e38_10 (ls : List AV) (σ : St) (x : Int) : run 38 10 ls [vI x] σ = some (vI x, σ) := (run_eq 38 10 _ _ σ).trans rfl
theorem e38_11 (l st : List AV) (σ : St) (x : Nat) : run 38 11 (vR x :: l) (st) σ = run 38 12 (vR x :: l) (vR x :: st) σ := (run_eq 38 11 _ _ σ).trans rfl
theorem e38_12 (ls st : List AV) (σ : St) (x : Nat) (h : fok σ x 2) : run 38 12 (ls) (vR x :: st) σ = run 38 15 (ls) (vR (gr σ x 0) :: st) σ := (run_eq 38 12 _ _ σ).trans (if_pos h)
theorem e38_15 (l st : List AV) (σ : St) (x : Nat) : run 38 15 (vR x :: l) (st) σ = run 38 16 (vR x :: l) (vR x :: st) σ := (run_eq 38 15 _ _ σ).trans rfl
theorem e38_16 (ls st : List AV) (σ : St) (x : Nat) (h : fok σ x 2) : run 38 16 (ls) (vR x :: st) σ = run 38 19 (ls) (vR (gr σ x 1) :: st) σ := (run_eq 38 16 _ _ σ).trans (if_pos h)
theorem e38_19 (ls st : List AV) (σ : St) (x0 : Nat) (x1 : Nat) (h4 : st.length ≤ 4) (h : fok σ x0 0) : run 38 19 ls (vR x1 :: vR x0 :: st) σ = bnd (run 29 0 [vR x0, vR x1] [] σ) (fun r σ => run 38 22 ls (psh r st) σ) := (run_eq 38 19 _ _ σ).trans (if_pos ⟨rfl, by simp, by simpa using h4, rfl, h⟩)
theorem e38_22 (l st : List AV) (σ : St) (x : Nat) : run 38 22 (vR x :: l) (st) σ = run 38 23 (vR x :: l) (vR x :: st) σ := (run_eq 38 22 _ _ σ).trans rfl
theorem e38_23 (ls st : List AV) (σ : St) (x : Nat) (h : fok σ x 2) : run 38 23 (ls) (vR x :: st) σ = run 38 26 (ls) (vR (gr σ x 2) :: st) σ := (run_eq 38 23 _ _ σ).trans (if_pos h)
theorem e38_26 (ls st : List AV) (σ : St) : run 38 26 (ls) (st) σ = run 38 27 (ls) (vI 0 :: st) σ := (run_eq 38 26 _ _ σ).trans rfl
theorem e38_27 (ls st : List AV) (σ : St) (z : Int) (x : Nat) (h : fok σ x 1) : run 38 27 (ls) (vI z :: vR x :: st) σ = run 38 30 (ls) (st) (sr σ x (ru (gt σ x) 1 z)) := (run_eq 38 27 _ _ σ).trans (if_pos h)
theorem e38_30 (l st : List AV) (σ : St) (x : Nat) : run 38 30 (vR x :: l) (st) σ = run 38 31 (vR x :: l) (vR x :: st) σ := (run_eq 38 30 _ _ σ).trans rfl
theorem e38_31 (ls st : List AV) (σ : St) (x : Nat) (h : fok σ x 2) : run 38 31 (ls) (vR x :: st) σ = run 38 34 (ls) (vR (gr σ x 2) :: st) σ := (run_eq 38 31 _ _ σ).trans (if_pos h)
theorem e38_34 (ls st : List AV) (σ : St) (x : Nat) (h : fok σ x 1) : run 38 34 (ls) (vR x :: st) σ = run 38 37 (ls) (vI (gt σ x 2) :: st) σ := (run_eq 38 34 _ _ σ).trans (if_pos h)
theorem e38_37 (ls : List AV) (σ : St) (x : Int) : run 38 37 ls [vI x] σ = some (vI x, σ) := (run_eq 38 37 _ _ σ).trans rfl
/-! F_canBeDone -/
theorem e39_0 (l st : List AV) (σ : St) (x : Nat) : run 39 0 (vR x :: l) (st) σ = run 39 1 (vR x :: l) (vR x :: st) σ := (run_eq 39 0 _ _ σ).trans rfl
theorem e39_1 (ls st : List AV) (σ : St) (x : Nat) (h : fok σ x 2) : run 39 1 (ls) (vR x :: st) σ = run 39 4 (ls) (vR (gr σ x 2) :: st) σ := (run_eq 39 1 _ _ σ).trans (if_pos h)
theorem e39_4 (l st : List AV) (σ : St) (x : Nat) : run 39 4 (vR x :: l) (st) σ = run 39 5 (vR x :: l) (vR x :: st) σ := (run_eq 39 4 _ _ σ).trans rfl
theorem e39_5 (ls st : List AV) (σ : St) (x : Nat) (h : fok σ x 2) : run 39 5 (ls) (vR x :: st) σ = run 39 8 (ls) (vR (gr σ x 0) :: st) σ := (run_eq 39 5 _ _ σ).trans (if_pos h)
theorem e39_8 (ls st : List AV) (σ : St) (x0 : Nat) (x1 : Nat) (h4 : st.length ≤ 4) (h : fok σ x0 1) : run 39 8 ls (vR x1 :: vR x0 :: st) σ = bnd (run 22 0 [vR x0, vR x1, vU, vU] [] σ) (fun r σ => run 39 11 ls (psh r st) σ) := (run_eq 39 8 _ _ σ).trans (if_pos ⟨rfl, by simp, by simpa using h4, rfl, h⟩)
theorem e39_11 (ls st : List AV) (σ : St) : run 39 11 (ls) (st) σ = run 39 13 (ls) (vI (-6) :: st) σ := (run_eq 39 11 _ _ σ).trans rfl
theorem e39_13 (ls st : List AV) (σ : St) (y x : Int) : run 39 13 (ls) (vI y :: vI x :: st) σ = if x = y then run 39 18 (ls) (st) σ else run 39 16 (ls) (st) σ := (run_eq 39 13 _ _ σ).trans rfl
theorem e39_16 (ls st : List AV) (σ : St) : run 39 16 (ls) (st) σ = run 39 17 (ls) (vI 0 :: st) σ := (run_eq 39 16 _ _ σ).trans rfl
theorem e39_17 (ls : List AV) (σ : St) (x : Int) (h : x = 0 ∨ x = 1) : run 39 17 ls [vI x] σ = some (vI x, σ) := (run_eq 39 17 _ _ σ).trans (if_pos h)
theorem e39_18 (l st : List AV) (σ : St) (x : Nat) : run 39 18 (vR x :: l) (st) σ = run 39 19 (vR x :: l) (vR x :: st) σ := (run_eq 39 18 _ _ σ).trans rfl
theorem e39_19 (ls st : List AV) (σ : St) (x : Nat) (h : fok σ x 2) : run 39 19 (ls) (vR x :: st) σ = run 39 22 (ls) (vR (gr σ x 2) :: st) σ := (run_eq 39 19 _ _ σ).trans (if_pos h)
theorem e39_22 (l st : List AV) (σ : St) (x : Nat) : run 39 22 (vR x :: l) (st) σ = run 39 23 (vR x :: l) (vR x :: st) σ := (run_eq 39 22 _ _ σ).trans rfl
theorem e39_23 (ls st : List AV) (σ : St) (x : Nat) (h : fok σ x 2) : run 39 23 (ls) (vR x :: st) σ = run 39 26 (ls) (vR (gr σ x 0) :: st) σ := (run_eq 39 23 _ _ σ).trans (if_pos h)
theorem e39_26 (l st : List AV) (σ : St) (x : Nat) : run 39 26 (vR x :: l) (st) σ = run 39 27 (vR x :: l) (vR x :: st) σ := (run_eq 39 26 _ _ σ).trans rfl
theorem e39_27 (ls st : List AV) (σ : St) (x : Nat) (h : fok σ x 2) : run 39 27 (ls) (vR x :: st) σ = run 39 30 (ls) (vR (gr σ x 1) :: st) σ := (run_eq 39 27 _ _ σ).trans (if_pos h)
theorem e39_30 (a0 : AV) (l st : List AV) (σ : St) (x : Int) : run 39 30 (a0 :: vI x :: l) (st) σ = run 39 31 (a0 :: vI x :: l) (vI x :: st) σ := (run_eq 39 30 _ _ σ).trans rfl
theorem e39_31 (ls st : List AV) (σ : St) (x0 : Nat) (x1 : Nat) (x2 : Nat) (x3 : Int) (h4 : st.length ≤ 4) (h : fok σ x0 1) : run 39 31 ls (vI x3 :: vR x2 :: vR x1 :: vR x0 :: st) σ = bnd (run 26 0 [vR x0, vR x1, vR x2, vI x3, vU, vU, vU, vU] [] σ) (fun r σ => run 39 34 ls (psh r st) σ) := (run_eq 39 31 _ _ σ).trans (if_pos ⟨rfl, by simp, by simpa using h4, rfl, h⟩)
theorem e39_34 (l st : List AV) (σ : St) (x : Nat) : run 39 34 (vR x :: l) (st) σ = run 39 35 (vR x :: l) (vR x :: st) σ := (run_eq 39 34 _ _ σ).trans rfl
theorem e39_35 (ls st : List AV) (σ : St) (x : Nat) (h : fok σ x 2) : run 39 35 (ls) (vR x :: st) σ = run 39 38 (ls) (vR (gr σ x 2) :: st) σ := (run_eq 39 35 _ _ σ).trans (if_pos h)
theorem e39_38 (ls st : List AV) (σ : St) (x : Nat) (h : fok σ x 1) : run 39 38 (ls) (vR x :: st) σ = run 39 41 (ls) (vI (gt σ x 3) :: st) σ := (run_eq 39 38 _ _ σ).trans (if_pos h)
theorem e39_41 (ls st : List AV) (σ : St) : run 39 41 (ls) (st) σ = run 39 43 (ls) (vI (-6) :: st) σ := (run_eq 39 41 _ _ σ).trans rfl
theorem e39_43 (ls st : List AV) (σ : St) (y x : Int) : run 39 43 (ls) (vI y :: vI x :: st) σ = if x = y then run 39 46 (ls) (st) σ else run 39 50 (ls) (st) σ := (run_eq 39 43 _ _ σ).trans rfl
theorem e39_46 (ls st : List AV) (σ : St) : run 39 46 (ls) (st) σ = run 39 47 (ls) (vI 1 :: st) σ := (run_eq 39 46 _ _ σ).trans rfl
theorem e39_47 (ls st : List AV) (σ : St) : run 39 47 (ls) (st) σ = run 39 51 (ls) (st) σ := (run_eq 39 47 _ _ σ).trans rfl
theorem e39_50 (ls st : List AV) (σ : St) : run 39 50 (ls) (st) σ = run 39 51 (ls) (vI 0 :: st) σ := (run_eq 39 50 _ _ σ).trans rfl
theorem e39_51 (ls : List AV) (σ : St) (x : Int) (h : x = 0 ∨ x = 1) : run 39 51 ls [vI x] σ = some (vI x, σ) := (run_eq 39 51 _ _ σ).trans (if_pos h)
/-! F_state -/
theorem e40_0 (l st : List AV) (σ : St) (x : Nat) : run 40 0 (vR x :: l) (st) σ = run 40 1 (vR x :: l) (vR x :: st) σ := (run_eq 40 0 _ _ σ).trans rfl
theorem e40_1 (ls st : List AV) (σ : St) (x : Nat) (h : fok σ x 2) : run 40 1 (ls) (vR x :: st) σ = run 40 4 (ls) (vR (gr σ x 0) :: st) σ := (run_eq 40 1 _ _ σ).trans (if_pos h)
theorem e40_4 (a0 : AV) (l st : List AV) (σ : St) (x : Int) : run 40 4 (a0 :: vI x :: l) (st) σ = run 40 5 (a0 :: vI x :: l) (vI x :: st) σ := (run_eq 40 4 _ _ σ).trans rfl
theorem e40_5 (ls st : List AV) (σ : St) (x0 : Nat) (x1 : Int) (h4 : st.length ≤ 4) (h : fok σ x0 0) : run 40 5 ls (vI x1 :: vR x0 :: st) σ = bnd (run 8 0 [vR x0, vI x1] [] σ) (fun r σ => run 40 8 ls (psh r st) σ) := (run_eq 40 5 _ _ σ).trans (if_pos ⟨rfl, by simp, by simpa using h4, rfl, h⟩)
theorem e40_8 (ls st : List AV) (σ : St) (x : Int) : run 40 8 (ls) (vI x :: st) σ = if x = 0 then run 40 11 (ls) (st) σ else run 40 13 (ls) (st) σ := (run_eq 40 8 _ _ σ).trans rfl
theorem e40_11 (ls st : List AV) (σ : St) : run 40 11 (ls) (st) σ = run 40 12 (ls) (vI (-1) :: st) σ := (run_eq 40 11 _ _ σ).trans rfl
theorem e40_12 (ls : List AV) (σ : St) (x : Int) : run 40 12 ls [vI x] σ = some (vI x, σ) := (run_eq 40 12 _ _ σ).trans rfl
theorem e40_13 (a0 a1 : AV) (l st : List AV) (σ : St) (x : Int) : run 40 13 (a0 :: a1 :: vI x :: l) (st) σ = run 40 14 (a0 :: a1 :: vI x :: l) (vI x :: st) σ := (run_eq 40 13 _ _ σ).trans rfl
theorem e40_14 (ls st : List AV) (σ : St) : run 40 14 (ls) (st) σ = run 40 15 (ls) (vI 0 :: st) σ := (run_eq 40 14 _ _ σ).trans rfl
theorem e40_15 (ls st : List AV) (σ : St) : run 40 15 (ls) (st) σ = run 40 16 (ls) (vI 1 :: st) σ := (run_eq 40 15 _ _ σ).trans rfl
theorem e40_16 (ls st : List AV) (σ : St) (x0 : Int) (x1 : Int) (x2 : Int) (h4 : st.length ≤ 4) : run 40 16 ls (vI x2 :: vI x1 :: vI x0 :: st) σ = bnd (run 6 0 [vI x0, vI x1, vI x2] [] σ) (fun r σ => run 40 19 ls (psh r st) σ) := (run_eq 40 16 _ _ σ).trans (if_pos ⟨rfl, by simp, by simpa using h4⟩)
theorem e40_19 (ls st : List AV) (σ : St) (x : Int) : run 40 19 (ls) (vI x :: st) σ = if x = 0 then run 40 34 (ls) (st) σ else run 40 22 (ls) (st) σ := (run_eq 40 19 _ _ σ).trans rfl
theorem e40_22 (l st : List AV) (σ : St) (x : Nat) : run 40 22 (vR x :: l) (st) σ = run 40 23 (vR x :: l) (vR x :: st) σ := (run_eq 40 22 _ _ σ).trans rfl
theorem e40_23 (ls st : List AV) (σ : St) (x : Nat) (h : fok σ x 2) : run 40 23 (ls) (vR x :: st) σ = run 40 26 (ls) (vR (gr σ x 0) :: st) σ := (run_eq 40 23 _ _ σ).trans (if_pos h)
theorem e40_26 (a0 : AV) (l st : List AV) (σ : St) (x : Int) : run 40 26 (a0 :: vI x :: l) (st) σ = run 40 27 (a0 :: vI x :: l) (vI x :: st) σ := (run_eq 40 26 _ _ σ).trans rfl
theorem e40_27 (a0 a1 : AV) (l st : List AV) (σ : St) (x : Int) : run 40 27 (a0 :: a1 :: vI x :: l) (st) σ = run 40 28 (a0 :: a1 :: vI x :: l) (vI x :: st) σ := (run_eq 40 27 _ _ σ).trans rfl
theorem e40_28 (ls st : List AV) (σ : St) (x0 : Nat) (x1 : Int) (x2 : Int) (h4 : st.length ≤ 4) (h : fok σ x0 0) : run 40 28 ls (vI x2 :: vI x1 :: vR x0 :: st) σ = bnd (run 9 0 [vR x0, vI x1, vI x2] [] σ) (fun r σ => run 40 31 ls (psh r st) σ) := (run_eq 40 28 _ _ σ).trans (if_pos ⟨rfl, by simp, by simpa using h4, rfl, h⟩)
theorem e40_31 (ls st : List AV) (σ : St) : run 40 31 (ls) (st) σ = run 40 36 (ls) (st) σ := (run_eq 40 31 _ _ σ).trans rfl
theorem e40_34 (ls st : List AV) (σ : St) : run 40 34 (ls) (st) σ = run 40 36 (ls) (vI (-2) :: st) σ := (run_eq 40 34 _ _ σ).trans rfl
theorem e40_36 (ls : List AV) (σ : St) (x : Int) : run 40 36 ls [vI x] σ = some (vI x, σ) := (run_eq 40 36 _ _ σ).trans rfl
/-! F_behind -/
theorem e41_0 (l st : List AV) (σ : St) (x : Nat) : run 41 0 (vR x :: l) (st) σ = run 41 1 (vR x :: l) (vR x :: st) σ := (run_eq 41 0 _ _ σ).trans rfl
theorem e41_1 (ls st : List AV) (σ : St) (x : Nat) (h : fok σ x 2) : run 41 1 (ls) (vR x :: st) σ = run 41 4 (ls) (vR (gr σ x 0) :: st) σ := (run_eq 41 1 _ _ σ).trans (if_pos h)
theorem e41_4 (a0 : AV) (l st : List AV) (σ : St) (x : Int) : run 41 4 (a0 :: vI x :: l) (st) σ = run 41 5 (a0 :: vI x :: l) (vI x :: st) σ := (run_eq 41 4 _ _ σ).trans rfl
theorem e41_5 (ls st : List AV) (σ : St) (x0 : Nat) (x1 : Int) (h4 : st.length ≤ 4) (h : fok σ x0 0) : run 41 5 ls (vI x1 :: vR x0 :: st) σ = bnd (run 8 0 [vR x0, vI x1] [] σ) (fun r σ => run 41 8 ls (psh r st) σ) := (run_eq 41 5 _ _ σ).trans (if_pos ⟨rfl, by simp, by simpa using h4, rfl, h⟩)
theorem e41_8 (ls st : List AV) (σ : St) (x : Int) : run 41 8 (ls) (vI x :: st) σ = if x = 0 then run 41 11 (ls) (st) σ else run 41 13 (ls) (st) σ := (run_eq 41 8 _ _ σ).trans rfl
theorem e41_11 (ls st : List AV) (σ : St) : run 41 11 (ls) (st) σ = run 41 12 (ls) (vI (-1) :: st) σ := (run_eq 41 11 _ _ σ).trans rfl
theorem e41_12 (ls : List AV) (σ : St) (x : Int) : run 41 12 ls [vI x] σ = some (vI x, σ) := (run_eq 41 12 _ _ σ).trans rfl
theorem e41_13 (a0 a1 : AV) (l st : List AV) (σ : St) (x : Int) : run 41 13 (a0 :: a1 :: vI x :: l) (st) σ = run 41 14 (a0 :: a1 :: vI x :: l) (vI x :: st) σ := (run_eq 41 13 _ _ σ).trans rfl
theorem e41_14 (ls st : List AV) (σ : St) : run 41 14 (ls) (st) σ = run 41 15 (ls) (vI 0 :: st) σ := (run_eq 41 14 _ _ σ).trans rfl
theorem e41_15 (ls st : List AV) (σ : St) : run 41 15 (ls) (st) σ = run 41 16 (ls) (vI 1 :: st) σ := (run_eq 41 15 _ _ σ).trans rfl
theorem e41_16 (ls st : List AV) (σ : St) (x0 : Int) (x1 : Int) (x2 : Int) (h4 : st.length ≤ 4) : run 41 16 ls (vI x2 :: vI x1 :: vI x0 :: st) σ = bnd (run 6 0 [vI x0, vI x1, vI x2] [] σ) (fun r σ => run 41 19 ls (psh r st) σ) := (run_eq 41 16 _ _ σ).trans (if_pos ⟨rfl, by simp, by simpa using h4⟩)
theorem e41_19 (ls st : List AV) (σ : St) (x : Int) : run 41 19 (ls) (vI x :: st) σ = if x = 0 then run 41 22 (ls) (st) σ else run 41 25 (ls) (st) σ := (run_eq 41 19 _ _ σ).trans rfl
theorem e41_22 (ls st : List AV) (σ : St) : run 41 22 (ls) (st) σ = run 41 24 (ls) (vI (-2) :: st) σ := (run_eq 41 22 _ _ σ).trans rfl
theorem e41_24 (ls : List AV) (σ : St) (x : Int) : run 41 24 ls [vI x] σ = some (vI x, σ) := (run_eq 41 24 _ _ σ).trans rfl
theorem e41_25 (l st : List AV) (σ : St) (x : Nat) : run 41 25 (vR x :: l) (st) σ = run 41 26 (vR x :: l) (vR x :: st) σ := (run_eq 41 25 _ _ σ).trans rfl
theorem e41_26 (ls st : List AV) (σ : St) : run 41 26 (ls) (st) σ = run 41 27 (ls) (vI (-1) :: st) σ := (run_eq 41 26 _ _ σ).trans rfl
theorem e41_27 (ls st : List AV) (σ : St) (x0 : Nat) (x1 : Int) (h4 : st.length ≤ 4) (h : fok σ x0 2) : run 41 27 ls (vI x1 :: vR x0 :: st) σ = bnd (run 39 0 [vR x0, vI x1] [] σ) (fun r σ => run 41 30 ls (psh r st) σ) := (run_eq 41 27 _ _ σ).trans (if_pos ⟨rfl, by simp, by simpa using h4, rfl, h⟩)
theorem e41_30 (ls st : List AV) (σ : St) (x : Int) : run 41 30 (ls) (vI x :: st) σ = if x = 0 then run 41 45 (ls) (st) σ else run 41 33 (ls) (st) σ := (run_eq 41 30 _ _ σ).trans rfl
theorem e41_33 (l st : List AV) (σ : St) (x : Nat) : run 41 33 (vR x :: l) (st) σ = run 41 34 (vR x :: l) (vR x :: st) σ := (run_eq 41 33 _ _ σ).trans rfl
theorem e41_34 (ls st : List AV) (σ : St) (x : Nat) (h : fok σ x 2) : run 41 34 (ls) (vR x :: st) σ = run 41 37 (ls) (vR (gr σ x 1) :: st) σ := (run_eq 41 34 _ _ σ).trans (if_pos h)
theorem e41_37 (a0 : AV) (l st : List AV) (σ : St) (x : Int) : run 41 37 (a0 :: vI x :: l) (st) σ = run 41 38 (a0 :: vI x :: l) (vI x :: st) σ := (run_eq 41 37 _ _ σ).trans rfl
theorem e41_38 (a0 a1 : AV) (l st : List AV) (σ : St) (x : Int) : run 41 38 (a0 :: a1 :: vI x :: l) (st) σ = run 41 39 (a0 :: a1 :: vI x :: l) (vI x :: st) σ := (run_eq 41 38 _ _ σ).trans rfl
theorem e41_39 (ls st : List AV) (σ : St) (x0 : Nat) (x1 : Int) (x2 : Int) (h4 : st.length ≤ 4) (h : fok σ x0 0) : run 41 39 ls (vI x2 :: vI x1 :: vR x0 :: st) σ = bnd (run 9 0 [vR x0, vI x1, vI x2] [] σ) (fun r σ => run 41 42 ls (psh r st) σ) := (run_eq 41 39 _ _ σ).trans (if_pos ⟨rfl, by simp, by simpa using h4, rfl, h⟩)
theorem e41_42 (ls st : List AV) (σ : St) : run 41 42 (ls) (st) σ = run 41 47 (ls) (st) σ := (run_eq 41 42 _ _ σ).trans rfl
theorem e41_45 (ls st : List AV) (σ : St) : run 41 45 (ls) (st) σ = run 41 47 (ls) (vI (-5) :: st) σ := (run_eq 41 45 _ _ σ).trans rfl
theorem e41_47 (ls : List AV) (σ : St) (x : Int) : run 41 47 ls [vI x] σ = some (vI x, σ) := (run_eq 41 47 _ _ σ).trans rfl
/-! F_stands -/
theorem e42_0 (l st : List AV) (σ : St) (x : Nat) : run 42 0 (vR x :: l) (st) σ = run 42 1 (vR x :: l) (vR x :: st) σ := (run_eq 42 0 _ _ σ).trans rfl
theorem e42_1 (a0 : AV) (l st : List AV) (σ : St) (x : Int) : run 42 1 (a0 :: vI x :: l) (st) σ = run 42 2 (a0 :: vI x :: l) (vI x :: st) σ := (run_eq 42 1 _ _ σ).trans rfl
theorem e42_2 (ls st : List AV) (σ : St) (x0 : Nat) (x1 : Int) (h4 : st.length ≤ 4) (h : fok σ x0 2) : run 42 2 ls (vI x1 :: vR x0 :: st) σ = bnd (run 43 0 [vR x0, vI x1] [] σ) (fun r σ => run 42 5 ls (psh r st) σ) := (run_eq 42 2 _ _ σ).trans (if_pos ⟨rfl, by simp, by simpa using h4, rfl, h⟩)
theorem e42_5 (ls st : List AV) (σ : St) (x : Int) : run 42 5 (ls) (vI x :: st) σ = if x = 0 then run 42 8 (ls) (st) σ else run 42 10 (ls) (st) σ := (run_eq 42 5 _ _ σ).trans rfl
theorem e42_8 (ls st : List AV) (σ : St) : run 42 8 (ls) (st) σ = run 42 9 (ls) (vI (-1) :: st) σ := (run_eq 42 8 _ _ σ).trans rfl
theorem e42_9 (ls : List AV) (σ : St) (x : Int) : run 42 9 ls [vI x] σ = some (vI x, σ) := (run_eq 42 9 _ _ σ).trans rfl
theorem e42_10 (l st : List AV) (σ : St) (x : Nat) : run 42 10 (vR x :: l) (st) σ = run 42 11 (vR x :: l) (vR x :: st) σ := (run_eq 42 10 _ _ σ).trans rfl
theorem e42_11 (ls st : List AV) (σ : St) (x : Nat) (h : fok σ x 2) : run 42 11 (ls) (vR x :: st) σ = run 42 14 (ls) (vR (gr σ x 0) :: st) σ := (run_eq 42 11 _ _ σ).trans (if_pos h)
theorem e42_14 (a0 : AV) (l st : List AV) (σ : St) (x : Int) : run 42 14 (a0 :: vI x :: l) (st) σ = run 42 15 (a0 :: vI x :: l) (vI x :: st) σ := (run_eq 42 14 _ _ σ).trans rfl
theorem e42_15 (ls st : List AV) (σ : St) (x0 : Nat) (x1 : Int) (h4 : st.length ≤ 4) (h : fok σ x0 0) : run 42 15 ls (vI x1 :: vR x0 :: st) σ = bnd (run 35 0 [vR x0, vI x1] [] σ) (fun r σ => run 42 18 ls (psh r st) σ) := (run_eq 42 15 _ _ σ).trans (if_pos ⟨rfl, by simp, by simpa using h4, rfl, h⟩)
theorem e42_18 (ls st : List AV) (σ : St) (x : Int) : run 42 18 (ls) (vI x :: st) σ = if x = 0 then run 42 25 (ls) (st) σ else run 42 21 (ls) (st) σ := (run_eq 42 18 _ _ σ).trans rfl
theorem e42_21 (ls st : List AV) (σ : St) : run 42 21 (ls) (st) σ = run 42 22 (ls) (vI 1 :: st) σ := (run_eq 42 21 _ _ σ).trans rfl
theorem e42_22 (ls st : List AV) (σ : St) : run 42 22 (ls) (st) σ = run 42 26 (ls) (st) σ := (run_eq 42 22 _ _ σ).trans rfl
theorem e42_25 (ls st : List AV) (σ : St) : run 42 25 (ls) (st) σ = run 42 26 (ls) (vI 0 :: st) σ := (run_eq 42 25 _ _ σ).trans rfl
theorem e42_26 (ls : List AV) (σ : St) (x : Int) : run 42 26 ls [vI x] σ = some (vI x, σ) := (run_eq 42 26 _ _ σ).trans rfl
/-! F_isShape -/
theorem e43_0 (a0 : AV) (l st : List AV) (σ : St) (x : Int) : run 43 0 (a0 :: vI x :: l) (st) σ = run 43 1 (a0 :: vI x :: l) (vI x :: st) σ := (run_eq 43 0 _ _ σ).trans rfl
theorem e43_1 (ls st : List AV) (σ : St) : run 43 1 (ls) (st) σ = run 43 2 (ls) (vI 0 :: st) σ := (run_eq 43 1 _ _ σ).trans rfl
theorem e43_2 (ls st : List AV) (σ : St) : run 43 2 (ls) (st) σ = run 43 3 (ls) (vI 3 :: st) σ := (run_eq 43 2 _ _ σ).trans rfl
theorem e43_3 (ls st : List AV) (σ : St) (x0 : Int) (x1 : Int) (x2 : Int) (h4 : st.length ≤ 4) : run 43 3 ls (vI x2 :: vI x1 :: vI x0 :: st) σ = bnd (run 6 0 [vI x0, vI x1, vI x2] [] σ) (fun r σ => run 43 6 ls (psh r st) σ) := (run_eq 43 3 _ _ σ).trans (if_pos ⟨rfl, by simp, by simpa using h4⟩)
theorem e43_6 (ls st : List AV) (σ : St) (x : Int) : run 43 6 (ls) (vI x :: st) σ = if x = 0 then run 43 24 (ls) (st) σ else run 43 9 (ls) (st) σ := (run_eq 43 6 _ _ σ).trans rfl
theorem e43_9 (l st : List AV) (σ : St) (x : Nat) : run 43 9 (vR x :: l) (st) σ = run 43 10 (vR x :: l) (vR x :: st) σ := (run_eq 43 9 _ _ σ).trans rfl
theorem e43_10 (ls st : List AV) (σ : St) (x : Nat) (h : fok σ x 2) : run 43 10 (ls) (vR x :: st) σ = run 43 13 (ls) (vR (gr σ x 0) :: st) σ := (run_eq 43 10 _ _ σ).trans (if_pos h)
theorem e43_13 (a0 : AV) (l st : List AV) (σ : St) (x : Int) : run 43 13 (a0 :: vI x :: l) (st) σ = run 43 14 (a0 :: vI x :: l) (vI x :: st) σ := (run_eq 43 13 _ _ σ).trans rfl
theorem e43_14 (ls st : List AV) (σ : St) (x0 : Nat) (x1 : Int) (h4 : st.length ≤ 4) (h : fok σ x0 0) : run 43 14 ls (vI x1 :: vR x0 :: st) σ = bnd (run 17 0 [vR x0, vI x1, vU, vU] [] σ) (fun r σ => run 43 17 ls (psh r st) σ) := (run_eq 43 14 _ _ σ).trans (if_pos ⟨rfl, by simp, by simpa using h4, rfl, h⟩)
theorem e43_17 (ls st : List AV) (σ : St) (x : Int) : run 43 17 (ls) (vI x :: st) σ = if 0 < x then run 43 20 (ls) (st) σ else run 43 24 (ls) (st) σ := (run_eq 43 17 _ _ σ).trans rfl
theorem e43_20 (ls st : List AV) (σ : St) : run 43 20 (ls) (st) σ = run 43 21 (ls) (vI 1 :: st) σ := (run_eq 43 20 _ _ σ).trans rfl
theorem e43_21 (ls st : List AV) (σ : St) : run 43 21 (ls) (st) σ = run 43 25 (ls) (st) σ := (run_eq 43 21 _ _ σ).trans rfl
theorem e43_24 (ls st : List AV) (σ : St) : run 43 24 (ls) (st) σ = run 43 25 (ls) (vI 0 :: st) σ := (run_eq 43 24 _ _ σ).trans rfl
theorem e43_25 (ls : List AV) (σ : St) (x : Int) (h : x = 0 ∨ x = 1) : run 43 25 ls [vI x] σ = some (vI x, σ) := (run_eq 43 25 _ _ σ).trans (if_pos h)
/-! F_lost -/
theorem e44_0 (l st : List AV) (σ : St) (x : Nat) : run 44 0 (vR x :: l) (st) σ = run 44 1 (vR x :: l) (vR x :: st) σ := (run_eq 44 0 _ _ σ).trans rfl
theorem e44_1 (a0 : AV) (l st : List AV) (σ : St) (x : Int) : run 44 1 (a0 :: vI x :: l) (st) σ = run 44 2 (a0 :: vI x :: l) (vI x :: st) σ := (run_eq 44 1 _ _ σ).trans rfl
theorem e44_2 (ls st : List AV) (σ : St) (x0 : Nat) (x1 : Int) (h4 : st.length ≤ 4) (h : fok σ x0 2) : run 44 2 ls (vI x1 :: vR x0 :: st) σ = bnd (run 43 0 [vR x0, vI x1] [] σ) (fun r σ => run 44 5 ls (psh r st) σ) := (run_eq 44 2 _ _ σ).trans (if_pos ⟨rfl, by simp, by simpa using h4, rfl, h⟩)
theorem e44_5 (ls st : List AV) (σ : St) (x : Int) : run 44 5 (ls) (vI x :: st) σ = if x = 0 then run 44 8 (ls) (st) σ else run 44 10 (ls) (st) σ := (run_eq 44 5 _ _ σ).trans rfl
theorem e44_8 (ls st : List AV) (σ : St) : run 44 8 (ls) (st) σ = run 44 9 (ls) (vI (-1) :: st) σ := (run_eq 44 8 _ _ σ).trans rfl
theorem e44_9 (ls : List AV) (σ : St) (x : Int) : run 44 9 ls [vI x] σ = some (vI x, σ) := (run_eq 44 9 _ _ σ).trans rfl
theorem e44_10 (l st : List AV) (σ : St) (x : Nat) : run 44 10 (vR x :: l) (st) σ = run 44 11 (vR x :: l) (vR x :: st) σ := (run_eq 44 10 _ _ σ).trans rfl
theorem e44_11 (a0 : AV) (l st : List AV) (σ : St) (x : Int) : run 44 11 (a0 :: vI x :: l) (st) σ = run 44 12 (a0 :: vI x :: l) (vI x :: st) σ := (run_eq 44 11 _ _ σ).trans rfl
theorem e44_12 (ls st : List AV) (σ : St) (x0 : Nat) (x1 : Int) (h4 : st.length ≤ 4) (h : fok σ x0 2) : run 44 12 ls (vI x1 :: vR x0 :: st) σ = bnd (run 39 0 [vR x0, vI x1] [] σ) (fun r σ => run 44 15 ls (psh r st) σ) := (run_eq 44 12 _ _ σ).trans (if_pos ⟨rfl, by simp, by simpa using h4, rfl, h⟩)
theorem e44_15 (ls st : List AV) (σ : St) (x : Int) : run 44 15 (ls) (vI x :: st) σ = if x = 0 then run 44 28 (ls) (st) σ else run 44 18 (ls) (st) σ := (run_eq 44 15 _ _ σ).trans rfl
theorem e44_18 (l st : List AV) (σ : St) (x : Nat) : run 44 18 (vR x :: l) (st) σ = run 44 19 (vR x :: l) (vR x :: st) σ := (run_eq 44 18 _ _ σ).trans rfl
theorem e44_19 (ls st : List AV) (σ : St) (x : Nat) (h : fok σ x 2) : run 44 19 (ls) (vR x :: st) σ = run 44 22 (ls) (vR (gr σ x 2) :: st) σ := (run_eq 44 19 _ _ σ).trans (if_pos h)
theorem e44_22 (ls st : List AV) (σ : St) (x : Nat) (h : fok σ x 1) : run 44 22 (ls) (vR x :: st) σ = run 44 25 (ls) (vI (gt σ x 5) :: st) σ := (run_eq 44 22 _ _ σ).trans (if_pos h)
theorem e44_25 (ls st : List AV) (σ : St) : run 44 25 (ls) (st) σ = run 44 30 (ls) (st) σ := (run_eq 44 25 _ _ σ).trans rfl
theorem e44_28 (ls st : List AV) (σ : St) : run 44 28 (ls) (st) σ = run 44 30 (ls) (vI (-5) :: st) σ := (run_eq 44 28 _ _ σ).trans rfl
theorem e44_30 (ls : List AV) (σ : St) (x : Int) : run 44 30 ls [vI x] σ = some (vI x, σ) := (run_eq 44 30 _ _ σ).trans rfl
/-! F_through -/
theorem e45_0 (ls st : List AV) (σ : St) : run 45 0 (ls) (st) σ = run 45 1 (ls) (vI 0 :: st) σ := (run_eq 45 0 _ _ σ).trans rfl
theorem e45_1 (a0 : AV) (l st : List AV) (σ : St) (q : AV) (x : Int) : run 45 1 (a0 :: q :: l) (vI x :: st) σ = run 45 2 (a0 :: vI x :: l) (st) σ := (run_eq 45 1 _ _ σ).trans rfl
theorem e45_2 (ls st : List AV) (σ : St) : run 45 2 (ls) (st) σ = run 45 3 (ls) (vI 0 :: st) σ := (run_eq 45 2 _ _ σ).trans rfl
theorem e45_3 (a0 a1 : AV) (l st : List AV) (σ : St) (q : AV) (x : Int) : run 45 3 (a0 :: a1 :: q :: l) (vI x :: st) σ = run 45 4 (a0 :: a1 :: vI x :: l) (st) σ := (run_eq 45 3 _ _ σ).trans rfl
theorem e45_4 (a0 a1 : AV) (l st : List AV) (σ : St) (x : Int) : run 45 4 (a0 :: a1 :: vI x :: l) (st) σ = run 45 5 (a0 :: a1 :: vI x :: l) (vI x :: st) σ := (run_eq 45 4 _ _ σ).trans rfl
theorem e45_5 (l st : List AV) (σ : St) (x : Nat) : run 45 5 (vR x :: l) (st) σ = run 45 6 (vR x :: l) (vR x :: st) σ := (run_eq 45 5 _ _ σ).trans rfl
theorem e45_6 (ls st : List AV) (σ : St) (x : Nat) (h : fok σ x 2) : run 45 6 (ls) (vR x :: st) σ = run 45 9 (ls) (vR (gr σ x 0) :: st) σ := (run_eq 45 6 _ _ σ).trans (if_pos h)
theorem e45_9 (ls st : List AV) (σ : St) (x : Nat) (h : fok σ x 0) : run 45 9 (ls) (vR x :: st) σ = run 45 12 (ls) (vI (gt σ x 0) :: st) σ := (run_eq 45 9 _ _ σ).trans (if_pos h)
theorem e45_12 (ls st : List AV) (σ : St) (y x : Int) : run 45 12 (ls) (vI y :: vI x :: st) σ = if x < y then run 45 15 (ls) (st) σ else run 45 93 (ls) (st) σ := (run_eq 45 12 _ _ σ).trans rfl
theorem e45_15 (ls st : List AV) (σ : St) : run 45 15 (ls) (st) σ = run 45 16 (ls) (vI 1 :: st) σ := (run_eq 45 15 _ _ σ).trans rfl
theorem e45_16 (a0 a1 a2 : AV) (l st : List AV) (σ : St) (q : AV) (x : Int) : run 45 16 (a0 :: a1 :: a2 :: q :: l) (vI x :: st) σ = run 45 17 (a0 :: a1 :: a2 :: vI x :: l) (st) σ := (run_eq 45 16 _ _ σ).trans rfl
theorem e45_17 (ls st : List AV) (σ : St) : run 45 17 (ls) (st) σ = run 45 18 (ls) (vI 0 :: st) σ := (run_eq 45 17 _ _ σ).trans rfl
theorem e45_18 (a0 a1 a2 a3 : AV) (l st : List AV) (σ : St) (q : AV) (x : Int) : run 45 18 (a0 :: a1 :: a2 :: a3 :: q :: l) (vI x :: st) σ = run 45 20 (a0 :: a1 :: a2 :: a3 :: vI x :: l) (st) σ := (run_eq 45 18 _ _ σ).trans rfl
theorem e45_20 (a0 a1 a2 a3 : AV) (l st : List AV) (σ : St) (x : Int) : run 45 20 (a0 :: a1 :: a2 :: a3 :: vI x :: l) (st) σ = run 45 22 (a0 :: a1 :: a2 :: a3 :: vI x :: l) (vI x :: st) σ := (run_eq 45 20 _ _ σ).trans rfl
theorem e45_22 (l st : List AV) (σ : St) (x : Nat) : run 45 22 (vR x :: l) (st) σ = run 45 23 (vR x :: l) (vR x :: st) σ := (run_eq 45 22 _ _ σ).trans rfl
theorem e45_23 (ls st : List AV) (σ : St) (x : Nat) (h : fok σ x 2) : run 45 23 (ls) (vR x :: st) σ = run 45 26 (ls) (vR (gr σ x 0) :: st) σ := (run_eq 45 23 _ _ σ).trans (if_pos h)
theorem e45_26 (ls st : List AV) (σ : St) (x : Nat) (h : fok σ x 0) : run 45 26 (ls) (vR x :: st) σ = run 45 29 (ls) (vI (gt σ x 1) :: st) σ := (run_eq 45 26 _ _ σ).trans (if_pos h)
theorem e45_29 (ls st : List AV) (σ : St) (y x : Int) : run 45 29 (ls) (vI y :: vI x :: st) σ = if x < y then run 45 32 (ls) (st) σ else run 45 73 (ls) (st) σ := (run_eq 45 29 _ _ σ).trans rfl
theorem e45_32 (a0 a1 a2 : AV) (l st : List AV) (σ : St) (x : Int) : run 45 32 (a0 :: a1 :: a2 :: vI x :: l) (st) σ = run 45 33 (a0 :: a1 :: a2 :: vI x :: l) (vI x :: st) σ := (run_eq 45 32 _ _ σ).trans rfl
theorem e45_33 (ls st : List AV) (σ : St) (x : Int) : run 45 33 (ls) (vI x :: st) σ = if x = 0 then run 45 65 (ls) (st) σ else run 45 36 (ls) (st) σ := (run_eq 45 33 _ _ σ).trans rfl
theorem e45_36 (l st : List AV) (σ : St) (x : Nat) : run 45 36 (vR x :: l) (st) σ = run 45 37 (vR x :: l) (vR x :: st) σ := (run_eq 45 36 _ _ σ).trans rfl
theorem e45_37 (ls st : List AV) (σ : St) (x : Nat) (h : fok σ x 2) : run 45 37 (ls) (vR x :: st) σ = run 45 40 (ls) (vR (gr σ x 0) :: st) σ := (run_eq 45 37 _ _ σ).trans (if_pos h)
theorem e45_40 (ls st : List AV) (σ : St) (x : Nat) (h : fok σ x 0) : run 45 40 (ls) (vR x :: st) σ = run 45 43 (ls) (vR (gr σ x 6) :: st) σ := (run_eq 45 40 _ _ σ).trans (if_pos h)
theorem e45_43 (a0 a1 : AV) (l st : List AV) (σ : St) (x : Int) : run 45 43 (a0 :: a1 :: vI x :: l) (st) σ = run 45 44 (a0 :: a1 :: vI x :: l) (vI x :: st) σ := (run_eq 45 43 _ _ σ).trans rfl
theorem e45_44 (l st : List AV) (σ : St) (x : Nat) : run 45 44 (vR x :: l) (st) σ = run 45 45 (vR x :: l) (vR x :: st) σ := (run_eq 45 44 _ _ σ).trans rfl
theorem e45_45 (ls st : List AV) (σ : St) (x : Nat) (h : fok σ x 2) : run 45 45 (ls) (vR x :: st) σ = run 45 48 (ls) (vR (gr σ x 0) :: st) σ := (run_eq 45 45 _ _ σ).trans (if_pos h)
theorem e45_48 (ls st : List AV) (σ : St) (x : Nat) (h : fok σ x 0) : run 45 48 (ls) (vR x :: st) σ = run 45 51 (ls) (vI (gt σ x 1) :: st) σ := (run_eq 45 48 _ _ σ).trans (if_pos h)
theorem e45_51 (ls st : List AV) (σ : St) (y x : Int) : run 45 51 (ls) (vI y :: vI x :: st) σ = run 45 52 (ls) (vI (wr (x * y)) :: st) σ := (run_eq 45 51 _ _ σ).trans rfl
theorem e45_52 (a0 a1 a2 a3 : AV) (l st : List AV) (σ : St) (x : Int) : run 45 52 (a0 :: a1 :: a2 :: a3 :: vI x :: l) (st) σ = run 45 54 (a0 :: a1 :: a2 :: a3 :: vI x :: l) (vI x :: st) σ := (run_eq 45 52 _ _ σ).trans rfl
theorem e45_54 (ls st : List AV) (σ : St) (y x : Int) : run 45 54 (ls) (vI y :: vI x :: st) σ = run 45 55 (ls) (vI (wr (x + y)) :: st) σ := (run_eq 45 54 _ _ σ).trans rfl
theorem e45_55 (ls st : List AV) (σ : St) (x0 : Nat) (x1 : Int) (h4 : st.length ≤ 4) : run 45 55 ls (vI x1 :: vR x0 :: st) σ = bnd (run 10 0 [vR x0, vI x1] [] σ) (fun r σ => run 45 58 ls (psh r st) σ) := (run_eq 45 55 _ _ σ).trans (if_pos ⟨rfl, by simp, by simpa using h4⟩)
theorem e45_58 (ls st : List AV) (σ : St) (x : Int) : run 45 58 (ls) (vI x :: st) σ = if x = 0 then run 45 61 (ls) (st) σ else run 45 65 (ls) (st) σ := (run_eq 45 58 _ _ σ).trans rfl
theorem e45_61 (ls st : List AV) (σ : St) : run 45 61 (ls) (st) σ = run 45 62 (ls) (vI 1 :: st) σ := (run_eq 45 61 _ _ σ).trans rfl
theorem e45_62 (ls st : List AV) (σ : St) : run 45 62 (ls) (st) σ = run 45 66 (ls) (st) σ := (run_eq 45 62 _ _ σ).trans rfl
theorem e45_65 (ls st : List AV) (σ : St) : run 45 65 (ls) (st) σ = run 45 66 (ls) (vI 0 :: st) σ := (run_eq 45 65 _ _ σ).trans rfl
theorem e45_66 (a0 a1 a2 : AV) (l st : List AV) (σ : St) (q : AV) (x : Int) : run 45 66 (a0 :: a1 :: a2 :: q :: l) (vI x :: st) σ = run 45 67 (a0 :: a1 :: a2 :: vI x :: l) (st) σ := (run_eq 45 66 _ _ σ).trans rfl
theorem e45_67 (a0 a1 a2 a3 : AV) (l st : List AV) (σ : St) (x : Int) : run 45 67 (a0 :: a1 :: a2 :: a3 :: vI x :: l) (st) σ = run 45 70 (a0 :: a1 :: a2 :: a3 :: vI (wr (x + 1)) :: l) (st) σ := (run_eq 45 67 _ _ σ).trans rfl
theorem e45_70 (ls st : List AV) (σ : St) : run 45 70 (ls) (st) σ = run 45 20 (ls) (st) σ := (run_eq 45 70 _ _ σ).trans rfl
theorem e45_73 (a0 : AV) (l st : List AV) (σ : St) (x : Int) : run 45 73 (a0 :: vI x :: l) (st) σ = run 45 74 (a0 :: vI x :: l) (vI x :: st) σ := (run_eq 45 73 _ _ σ).trans rfl
theorem e45_74 (a0 a1 a2 : AV) (l st : List AV) (σ : St) (x : Int) : run 45 74 (a0 :: a1 :: a2 :: vI x :: l) (st) σ = run 45 75 (a0 :: a1 :: a2 :: vI x :: l) (vI x :: st) σ := (run_eq 45 74 _ _ σ).trans rfl
theorem e45_75 (ls st : List AV) (σ : St) (x : Int) : run 45 75 (ls) (vI x :: st) σ = if x = 0 then run 45 84 (ls) (st) σ else run 45 78 (ls) (st) σ := (run_eq 45 75 _ _ σ).trans rfl
theorem e45_78 (ls st : List AV) (σ : St) : run 45 78 (ls) (st) σ = run 45 79 (ls) (vI 1 :: st) σ := (run_eq 45 78 _ _ σ).trans rfl
theorem e45_79 (a0 a1 : AV) (l st : List AV) (σ : St) (x : Int) : run 45 79 (a0 :: a1 :: vI x :: l) (st) σ = run 45 80 (a0 :: a1 :: vI x :: l) (vI x :: st) σ := (run_eq 45 79 _ _ σ).trans rfl
theorem e45_80 (ls st : List AV) (σ : St) (y x : Int) : run 45 80 (ls) (vI y :: vI x :: st) σ = run 45 81 (ls) (vI (bShl x y) :: st) σ := (run_eq 45 80 _ _ σ).trans rfl
theorem e45_81 (ls st : List AV) (σ : St) : run 45 81 (ls) (st) σ = run 45 85 (ls) (st) σ := (run_eq 45 81 _ _ σ).trans rfl
theorem e45_84 (ls st : List AV) (σ : St) : run 45 84 (ls) (st) σ = run 45 85 (ls) (vI 0 :: st) σ := (run_eq 45 84 _ _ σ).trans rfl
theorem e45_85 (ls st : List AV) (σ : St) (y x : Int) : run 45 85 (ls) (vI y :: vI x :: st) σ = run 45 86 (ls) (vI (bOr x y) :: st) σ := (run_eq 45 85 _ _ σ).trans rfl
theorem e45_86 (a0 : AV) (l st : List AV) (σ : St) (q : AV) (x : Int) : run 45 86 (a0 :: q :: l) (vI x :: st) σ = run 45 87 (a0 :: vI x :: l) (st) σ := (run_eq 45 86 _ _ σ).trans rfl
theorem e45_87 (a0 a1 : AV) (l st : List AV) (σ : St) (x : Int) : run 45 87 (a0 :: a1 :: vI x :: l) (st) σ = run 45 90 (a0 :: a1 :: vI (wr (x + 1)) :: l) (st) σ := (run_eq 45 87 _ _ σ).trans rfl
theorem e45_90 (ls st : List AV) (σ : St) : run 45 90 (ls) (st) σ = run 45 4 (ls) (st) σ := (run_eq 45 90 _ _ σ).trans rfl
theorem e45_93 (a0 : AV) (l st : List AV) (σ : St) (x : Int) : run 45 93 (a0 :: vI x :: l) (st) σ = run 45 94 (a0 :: vI x :: l) (vI x :: st) σ := (run_eq 45 93 _ _ σ).trans rfl
theorem e45_94 (ls : List AV) (σ : St) (x : Int) : run 45 94 ls [vI x] σ = some (vI x, σ) := (run_eq 45 94 _ _ σ).trans rfl
/-! F_carved -/
theorem e46_0 (l st : List AV) (σ : St) (x : Nat) : run 46 0 (vR x :: l) (st) σ = run 46 1 (vR x :: l) (vR x :: st) σ := (run_eq 46 0 _ _ σ).trans rfl
theorem e46_1 (a0 : AV) (l st : List AV) (σ : St) (x : Int) : run 46 1 (a0 :: vI x :: l) (st) σ = run 46 2 (a0 :: vI x :: l) (vI x :: st) σ := (run_eq 46 1 _ _ σ).trans rfl
theorem e46_2 (ls st : List AV) (σ : St) (x0 : Nat) (x1 : Int) (h4 : st.length ≤ 4) (h : fok σ x0 2) : run 46 2 ls (vI x1 :: vR x0 :: st) σ = bnd (run 43 0 [vR x0, vI x1] [] σ) (fun r σ => run 46 5 ls (psh r st) σ) := (run_eq 46 2 _ _ σ).trans (if_pos ⟨rfl, by simp, by simpa using h4, rfl, h⟩)
theorem e46_5 (ls st : List AV) (σ : St) (x : Int) : run 46 5 (ls) (vI x :: st) σ = if x = 0 then run 46 21 (ls) (st) σ else run 46 8 (ls) (st) σ := (run_eq 46 5 _ _ σ).trans rfl
theorem e46_8 (l st : List AV) (σ : St) (x : Nat) : run 46 8 (vR x :: l) (st) σ = run 46 9 (vR x :: l) (vR x :: st) σ := (run_eq 46 8 _ _ σ).trans rfl
theorem e46_9 (ls st : List AV) (σ : St) (x : Nat) (h : fok σ x 2) : run 46 9 (ls) (vR x :: st) σ = run 46 12 (ls) (vR (gr σ x 0) :: st) σ := (run_eq 46 9 _ _ σ).trans (if_pos h)
theorem e46_12 (a0 : AV) (l st : List AV) (σ : St) (x : Int) : run 46 12 (a0 :: vI x :: l) (st) σ = run 46 13 (a0 :: vI x :: l) (vI x :: st) σ := (run_eq 46 12 _ _ σ).trans rfl
theorem e46_13 (ls st : List AV) (σ : St) : run 46 13 (ls) (st) σ = run 46 14 (ls) (vI 0 :: st) σ := (run_eq 46 13 _ _ σ).trans rfl
theorem e46_14 (ls st : List AV) (σ : St) : run 46 14 (ls) (st) σ = run 46 15 (ls) (vI 0 :: st) σ := (run_eq 46 14 _ _ σ).trans rfl
theorem e46_15 (ls st : List AV) (σ : St) (x0 : Nat) (x1 : Int) (x2 : Int) (x3 : Int) (h4 : st.length ≤ 4) (h : fok σ x0 0) : run 46 15 ls (vI x3 :: vI x2 :: vI x1 :: vR x0 :: st) σ = bnd (run 36 0 [vR x0, vI x1, vI x2, vI x3, vU, vU, vU, vU] [] σ) (fun r σ => run 46 18 ls (psh r st) σ) := (run_eq 46 15 _ _ σ).trans (if_pos ⟨rfl, by simp, by simpa using h4, rfl, h⟩)
theorem e46_18 (ls st : List AV) (σ : St) : run 46 18 (ls) (st) σ = run 46 22 (ls) (st) σ := (run_eq 46 18 _ _ σ).trans rfl
theorem e46_21 (ls st : List AV) (σ : St) : run 46 21 (ls) (st) σ = run 46 22 (ls) (vI (-1) :: st) σ := (run_eq 46 21 _ _ σ).trans rfl
theorem e46_22 (ls : List AV) (σ : St) (x : Int) : run 46 22 ls [vI x] σ = some (vI x, σ) := (run_eq 46 22 _ _ σ).trans rfl
/-! F_nowThen -/
theorem e47_0 (l st : List AV) (σ : St) (x : Nat) : run 47 0 (vR x :: l) (st) σ = run 47 1 (vR x :: l) (vR x :: st) σ := (run_eq 47 0 _ _ σ).trans rfl
theorem e47_1 (a0 : AV) (l st : List AV) (σ : St) (x : Int) : run 47 1 (a0 :: vI x :: l) (st) σ = run 47 2 (a0 :: vI x :: l) (vI x :: st) σ := (run_eq 47 1 _ _ σ).trans rfl
theorem e47_2 (ls st : List AV) (σ : St) (x0 : Nat) (x1 : Int) (h4 : st.length ≤ 4) (h : fok σ x0 2) : run 47 2 ls (vI x1 :: vR x0 :: st) σ = bnd (run 43 0 [vR x0, vI x1] [] σ) (fun r σ => run 47 5 ls (psh r st) σ) := (run_eq 47 2 _ _ σ).trans (if_pos ⟨rfl, by simp, by simpa using h4, rfl, h⟩)
theorem e47_5 (ls st : List AV) (σ : St) (x : Int) : run 47 5 (ls) (vI x :: st) σ = if x = 0 then run 47 8 (ls) (st) σ else run 47 10 (ls) (st) σ := (run_eq 47 5 _ _ σ).trans rfl
theorem e47_8 (ls st : List AV) (σ : St) : run 47 8 (ls) (st) σ = run 47 9 (ls) (vI (-1) :: st) σ := (run_eq 47 8 _ _ σ).trans rfl
theorem e47_9 (ls : List AV) (σ : St) (x : Int) : run 47 9 ls [vI x] σ = some (vI x, σ) := (run_eq 47 9 _ _ σ).trans rfl
theorem e47_10 (a0 a1 : AV) (l st : List AV) (σ : St) (x : Int) : run 47 10 (a0 :: a1 :: vI x :: l) (st) σ = run 47 11 (a0 :: a1 :: vI x :: l) (vI x :: st) σ := (run_eq 47 10 _ _ σ).trans rfl
theorem e47_11 (ls st : List AV) (σ : St) : run 47 11 (ls) (st) σ = run 47 12 (ls) (vI 0 :: st) σ := (run_eq 47 11 _ _ σ).trans rfl
theorem e47_12 (ls st : List AV) (σ : St) : run 47 12 (ls) (st) σ = run 47 13 (ls) (vI 1 :: st) σ := (run_eq 47 12 _ _ σ).trans rfl
theorem e47_13 (ls st : List AV) (σ : St) (x0 : Int) (x1 : Int) (x2 : Int) (h4 : st.length ≤ 4) : run 47 13 ls (vI x2 :: vI x1 :: vI x0 :: st) σ = bnd (run 6 0 [vI x0, vI x1, vI x2] [] σ) (fun r σ => run 47 16 ls (psh r st) σ) := (run_eq 47 13 _ _ σ).trans (if_pos ⟨rfl, by simp, by simpa using h4⟩)
theorem e47_16 (ls st : List AV) (σ : St) (x : Int) : run 47 16 (ls) (vI x :: st) σ = if x = 0 then run 47 19 (ls) (st) σ else run 47 22 (ls) (st) σ := (run_eq 47 16 _ _ σ).trans rfl
theorem e47_19 (ls st : List AV) (σ : St) : run 47 19 (ls) (st) σ = run 47 21 (ls) (vI (-2) :: st) σ := (run_eq 47 19 _ _ σ).trans rfl
theorem e47_21 (ls : List AV) (σ : St) (x : Int) : run 47 21 ls [vI x] σ = some (vI x, σ) := (run_eq 47 21 _ _ σ).trans rfl
theorem e47_22 (l st : List AV) (σ : St) (x : Nat) : run 47 22 (vR x :: l) (st) σ = run 47 23 (vR x :: l) (vR x :: st) σ := (run_eq 47 22 _ _ σ).trans rfl
theorem e47_23 (ls st : List AV) (σ : St) (x : Nat) (h : fok σ x 2) : run 47 23 (ls) (vR x :: st) σ = run 47 26 (ls) (vR (gr σ x 2) :: st) σ := (run_eq 47 23 _ _ σ).trans (if_pos h)
theorem e47_26 (ls st : List AV) (σ : St) (x0 : Nat) (h4 : st.length ≤ 4) (h : fok σ x0 1) : run 47 26 ls (vR x0 :: st) σ = bnd (run 48 0 [vR x0, vU, vU] [] σ) (fun r σ => run 47 29 ls (psh r st) σ) := (run_eq 47 26 _ _ σ).trans (if_pos ⟨rfl, by simp, by simpa using h4, rfl, h⟩)
theorem e47_29 (ls st : List AV) (σ : St) (x : Int) : run 47 29 (ls) (vI x :: st) σ = if x = 0 then run 47 32 (ls) (st) σ else run 47 35 (ls) (st) σ := (run_eq 47 29 _ _ σ).trans rfl
theorem e47_32 (ls st : List AV) (σ : St) : run 47 32 (ls) (st) σ = run 47 34 (ls) (vI (-5) :: st) σ := (run_eq 47 32 _ _ σ).trans rfl
theorem e47_34 (ls : List AV) (σ : St) (x : Int) : run 47 34 ls [vI x] σ = some (vI x, σ) := (run_eq 47 34 _ _ σ).trans rfl
theorem e47_35 (l st : List AV) (σ : St) (x : Nat) : run 47 35 (vR x :: l) (st) σ = run 47 36 (vR x :: l) (vR x :: st) σ := (run_eq 47 35 _ _ σ).trans rfl
theorem e47_36 (ls st : List AV) (σ : St) (x : Nat) (h : fok σ x 2) : run 47 36 (ls) (vR x :: st) σ = run 47 39 (ls) (vR (gr σ x 0) :: st) σ := (run_eq 47 36 _ _ σ).trans (if_pos h)
theorem e47_39 (a0 : AV) (l st : List AV) (σ : St) (x : Int) : run 47 39 (a0 :: vI x :: l) (st) σ = run 47 40 (a0 :: vI x :: l) (vI x :: st) σ := (run_eq 47 39 _ _ σ).trans rfl
theorem e47_40 (ls st : List AV) (σ : St) (x0 : Nat) (x1 : Int) (h4 : st.length ≤ 4) (h : fok σ x0 0) : run 47 40 ls (vI x1 :: vR x0 :: st) σ = bnd (run 17 0 [vR x0, vI x1, vU, vU] [] σ) (fun r σ => run 47 43 ls (psh r st) σ) := (run_eq 47 40 _ _ σ).trans (if_pos ⟨rfl, by simp, by simpa using h4, rfl, h⟩)
theorem e47_43 (ls st : List AV) (σ : St) : run 47 43 (ls) (st) σ = run 47 44 (ls) (vI 3 :: st) σ := (run_eq 47 43 _ _ σ).trans rfl
theorem e47_44 (ls st : List AV) (σ : St) (y x : Int) : run 47 44 (ls) (vI y :: vI x :: st) σ = if y < x then run 47 47 (ls) (st) σ else run 47 50 (ls) (st) σ := (run_eq 47 44 _ _ σ).trans rfl
theorem e47_47 (ls st : List AV) (σ : St) : run 47 47 (ls) (st) σ = run 47 49 (ls) (vI (-4) :: st) σ := (run_eq 47 47 _ _ σ).trans rfl
theorem e47_49 (ls : List AV) (σ : St) (x : Int) : run 47 49 ls [vI x] σ = some (vI x, σ) := (run_eq 47 49 _ _ σ).trans rfl
theorem e47_50 (l st : List AV) (σ : St) (x : Nat) : run 47 50 (vR x :: l) (st) σ = run 47 51 (vR x :: l) (vR x :: st) σ := (run_eq 47 50 _ _ σ).trans rfl
theorem e47_51 (a0 : AV) (l st : List AV) (σ : St) (x : Int) : run 47 51 (a0 :: vI x :: l) (st) σ = run 47 52 (a0 :: vI x :: l) (vI x :: st) σ := (run_eq 47 51 _ _ σ).trans rfl
theorem e47_52 (ls st : List AV) (σ : St) (x0 : Nat) (x1 : Int) (h4 : st.length ≤ 4) (h : fok σ x0 2) : run 47 52 ls (vI x1 :: vR x0 :: st) σ = bnd (run 49 0 [vR x0, vI x1, vU, vU, vU] [] σ) (fun r σ => run 47 55 ls (psh r st) σ) := (run_eq 47 52 _ _ σ).trans (if_pos ⟨rfl, by simp, by simpa using h4, rfl, h⟩)
theorem e47_55 (a0 a1 : AV) (l st : List AV) (σ : St) (x : Int) : run 47 55 (a0 :: a1 :: vI x :: l) (st) σ = run 47 56 (a0 :: a1 :: vI x :: l) (vI x :: st) σ := (run_eq 47 55 _ _ σ).trans rfl
theorem e47_56 (ls st : List AV) (σ : St) (x0 : Int) (x1 : Int) (h4 : st.length ≤ 4) : run 47 56 ls (vI x1 :: vI x0 :: st) σ = bnd (run 54 0 [vI x0, vI x1] [] σ) (fun r σ => run 47 59 ls (psh r st) σ) := (run_eq 47 56 _ _ σ).trans (if_pos ⟨rfl, by simp, by simpa using h4⟩)
theorem e47_59 (ls : List AV) (σ : St) (x : Int) : run 47 59 ls [vI x] σ = some (vI x, σ) := (run_eq 47 59 _ _ σ).trans rfl
/-! F_fewestCuts -/
theorem e49_0 (ls st : List AV) (σ : St) : run 49 0 (ls) (st) σ = run 49 1 (ls) (vI 0 :: st) σ := (run_eq 49 0 _ _ σ).trans rfl
theorem e49_1 (a0 a1 : AV) (l st : List AV) (σ : St) (q : AV) (x : Int) : run 49 1 (a0 :: a1 :: q :: l) (vI x :: st) σ = run 49 2 (a0 :: a1 :: vI x :: l) (st) σ := (run_eq 49 1 _ _ σ).trans rfl
theorem e49_2 (ls st : List AV) (σ : St) : run 49 2 (ls) (st) σ = run 49 3 (ls) (vI 0 :: st) σ := (run_eq 49 2 _ _ σ).trans rfl
theorem e49_3 (a0 a1 a2 : AV) (l st : List AV) (σ : St) (q : AV) (x : Int) : run 49 3 (a0 :: a1 :: a2 :: q :: l) (vI x :: st) σ = run 49 4 (a0 :: a1 :: a2 :: vI x :: l) (st) σ := (run_eq 49 3 _ _ σ).trans rfl
theorem e49_4 (a0 a1 a2 : AV) (l st : List AV) (σ : St) (x : Int) : run 49 4 (a0 :: a1 :: a2 :: vI x :: l) (st) σ = run 49 5 (a0 :: a1 :: a2 :: vI x :: l) (vI x :: st) σ := (run_eq 49 4 _ _ σ).trans rfl
theorem e49_5 (l st : List AV) (σ : St) (x : Nat) : run 49 5 (vR x :: l) (st) σ = run 49 6 (vR x :: l) (vR x :: st) σ := (run_eq 49 5 _ _ σ).trans rfl
theorem e49_6 (ls st : List AV) (σ : St) (x : Nat) (h : fok σ x 2) : run 49 6 (ls) (vR x :: st) σ = run 49 9 (ls) (vR (gr σ x 0) :: st) σ := (run_eq 49 6 _ _ σ).trans (if_pos h)
theorem e49_9 (ls st : List AV) (σ : St) (x : Nat) (h : fok σ x 0) : run 49 9 (ls) (vR x :: st) σ = run 49 12 (ls) (vI (gt σ x 2) :: st) σ := (run_eq 49 9 _ _ σ).trans (if_pos h)
theorem e49_12 (ls st : List AV) (σ : St) (y x : Int) : run 49 12 (ls) (vI y :: vI x :: st) σ = if x < y then run 49 15 (ls) (st) σ else run 49 46 (ls) (st) σ := (run_eq 49 12 _ _ σ).trans rfl
theorem e49_15 (l st : List AV) (σ : St) (x : Nat) : run 49 15 (vR x :: l) (st) σ = run 49 16 (vR x :: l) (vR x :: st) σ := (run_eq 49 15 _ _ σ).trans rfl
theorem e49_16 (ls st : List AV) (σ : St) (x : Nat) (h : fok σ x 2) : run 49 16 (ls) (vR x :: st) σ = run 49 19 (ls) (vR (gr σ x 0) :: st) σ := (run_eq 49 16 _ _ σ).trans (if_pos h)
theorem e49_19 (a0 : AV) (l st : List AV) (σ : St) (x : Int) : run 49 19 (a0 :: vI x :: l) (st) σ = run 49 20 (a0 :: vI x :: l) (vI x :: st) σ := (run_eq 49 19 _ _ σ).trans rfl
theorem e49_20 (a0 a1 a2 : AV) (l st : List AV) (σ : St) (x : Int) : run 49 20 (a0 :: a1 :: a2 :: vI x :: l) (st) σ = run 49 21 (a0 :: a1 :: a2 :: vI x :: l) (vI x :: st) σ := (run_eq 49 20 _ _ σ).trans rfl
theorem e49_21 (ls st : List AV) (σ : St) (x0 : Nat) (x1 : Int) (x2 : Int) (h4 : st.length ≤ 4) (h : fok σ x0 0) : run 49 21 ls (vI x2 :: vI x1 :: vR x0 :: st) σ = bnd (run 18 0 [vR x0, vI x1, vI x2] [] σ) (fun r σ => run 49 24 ls (psh r st) σ) := (run_eq 49 21 _ _ σ).trans (if_pos ⟨rfl, by simp, by simpa using h4, rfl, h⟩)
theorem e49_24 (ls st : List AV) (σ : St) : run 49 24 (ls) (st) σ = run 49 25 (ls) (vI (-1) :: st) σ := (run_eq 49 24 _ _ σ).trans rfl
theorem e49_25 (ls st : List AV) (σ : St) (y x : Int) : run 49 25 (ls) (vI y :: vI x :: st) σ = if x = y then run 49 40 (ls) (st) σ else run 49 28 (ls) (st) σ := (run_eq 49 25 _ _ σ).trans rfl
theorem e49_28 (l st : List AV) (σ : St) (x : Nat) : run 49 28 (vR x :: l) (st) σ = run 49 29 (vR x :: l) (vR x :: st) σ := (run_eq 49 28 _ _ σ).trans rfl
theorem e49_29 (ls st : List AV) (σ : St) (x : Nat) (h : fok σ x 2) : run 49 29 (ls) (vR x :: st) σ = run 49 32 (ls) (vR (gr σ x 4) :: st) σ := (run_eq 49 29 _ _ σ).trans (if_pos h)
theorem e49_32 (a0 a1 : AV) (l st : List AV) (σ : St) (x : Int) : run 49 32 (a0 :: a1 :: vI x :: l) (st) σ = run 49 33 (a0 :: a1 :: vI x :: l) (vI x :: st) σ := (run_eq 49 32 _ _ σ).trans rfl
theorem e49_33 (a0 a1 a2 : AV) (l st : List AV) (σ : St) (x : Int) : run 49 33 (a0 :: a1 :: a2 :: vI x :: l) (st) σ = run 49 34 (a0 :: a1 :: a2 :: vI x :: l) (vI x :: st) σ := (run_eq 49 33 _ _ σ).trans rfl
theorem e49_34 (ls st : List AV) (σ : St) (x0 : Nat) (x1 : Int) (x2 : Int) (h4 : st.length ≤ 4) : run 49 34 ls (vI x2 :: vI x1 :: vR x0 :: st) σ = bnd (run 11 0 [vR x0, vI x1, vI x2] [] σ) (fun r σ => run 49 37 ls (psh r st) σ) := (run_eq 49 34 _ _ σ).trans (if_pos ⟨rfl, by simp, by simpa using h4⟩)
theorem e49_37 (a0 a1 : AV) (l st : List AV) (σ : St) (x : Int) : run 49 37 (a0 :: a1 :: vI x :: l) (st) σ = run 49 40 (a0 :: a1 :: vI (wr (x + 1)) :: l) (st) σ := (run_eq 49 37 _ _ σ).trans rfl
theorem e49_40 (a0 a1 a2 : AV) (l st : List AV) (σ : St) (x : Int) : run 49 40 (a0 :: a1 :: a2 :: vI x :: l) (st) σ = run 49 43 (a0 :: a1 :: a2 :: vI (wr (x + 1)) :: l) (st) σ := (run_eq 49 40 _ _ σ).trans rfl
theorem e49_43 (ls st : List AV) (σ : St) : run 49 43 (ls) (st) σ = run 49 4 (ls) (st) σ := (run_eq 49 43 _ _ σ).trans rfl
theorem e49_46 (l st : List AV) (σ : St) (x : Nat) : run 49 46 (vR x :: l) (st) σ = run 49 47 (vR x :: l) (vR x :: st) σ := (run_eq 49 46 _ _ σ).trans rfl
theorem e49_47 (ls st : List AV) (σ : St) (x : Nat) (h : fok σ x 2) : run 49 47 (ls) (vR x :: st) σ = run 49 50 (ls) (vR (gr σ x 1) :: st) σ := (run_eq 49 47 _ _ σ).trans (if_pos h)
theorem e49_50 (l st : List AV) (σ : St) (x : Nat) : run 49 50 (vR x :: l) (st) σ = run 49 51 (vR x :: l) (vR x :: st) σ := (run_eq 49 50 _ _ σ).trans rfl
theorem e49_51 (ls st : List AV) (σ : St) (x : Nat) (h : fok σ x 2) : run 49 51 (ls) (vR x :: st) σ = run 49 54 (ls) (vR (gr σ x 0) :: st) σ := (run_eq 49 51 _ _ σ).trans (if_pos h)
theorem e49_54 (ls st : List AV) (σ : St) (x0 : Nat) (x1 : Nat) (h4 : st.length ≤ 4) (h : fok σ x0 0) : run 49 54 ls (vR x1 :: vR x0 :: st) σ = bnd (run 27 0 [vR x0, vR x1] [] σ) (fun r σ => run 49 57 ls (psh r st) σ) := (run_eq 49 54 _ _ σ).trans (if_pos ⟨rfl, by simp, by simpa using h4, rfl, h⟩)
theorem e49_57 (ls st : List AV) (σ : St) : run 49 57 (ls) (st) σ = run 49 58 (ls) (vI 0 :: st) σ := (run_eq 49 57 _ _ σ).trans rfl
theorem e49_58 (a0 a1 a2 : AV) (l st : List AV) (σ : St) (q : AV) (x : Int) : run 49 58 (a0 :: a1 :: a2 :: q :: l) (vI x :: st) σ = run 49 59 (a0 :: a1 :: a2 :: vI x :: l) (st) σ := (run_eq 49 58 _ _ σ).trans rfl
theorem e49_59 (a0 a1 a2 : AV) (l st : List AV) (σ : St) (x : Int) : run 49 59 (a0 :: a1 :: a2 :: vI x :: l) (st) σ = run 49 60 (a0 :: a1 :: a2 :: vI x :: l) (vI x :: st) σ := (run_eq 49 59 _ _ σ).trans rfl
theorem e49_60 (a0 a1 : AV) (l st : List AV) (σ : St) (x : Int) : run 49 60 (a0 :: a1 :: vI x :: l) (st) σ = run 49 61 (a0 :: a1 :: vI x :: l) (vI x :: st) σ := (run_eq 49 60 _ _ σ).trans rfl
theorem e49_61 (ls st : List AV) (σ : St) (y x : Int) : run 49 61 (ls) (vI y :: vI x :: st) σ = if y < x then run 49 115 (ls) (st) σ else run 49 64 (ls) (st) σ := (run_eq 49 61 _ _ σ).trans rfl
theorem e49_64 (ls st : List AV) (σ : St) : run 49 64 (ls) (st) σ = run 49 65 (ls) (vI 0 :: st) σ := (run_eq 49 64 _ _ σ).trans rfl
theorem e49_65 (a0 a1 a2 a3 : AV) (l st : List AV) (σ : St) (q : AV) (x : Int) : run 49 65 (a0 :: a1 :: a2 :: a3 :: q :: l) (vI x :: st) σ = run 49 67 (a0 :: a1 :: a2 :: a3 :: vI x :: l) (st) σ := (run_eq 49 65 _ _ σ).trans rfl
theorem e49_67 (a0 a1 a2 a3 : AV) (l st : List AV) (σ : St) (x : Int) : run 49 67 (a0 :: a1 :: a2 :: a3 :: vI x :: l) (st) σ = run 49 69 (a0 :: a1 :: a2 :: a3 :: vI x :: l) (vI x :: st) σ := (run_eq 49 67 _ _ σ).trans rfl
theorem e49_69 (ls st : List AV) (σ : St) : run 49 69 (ls) (st) σ = run 49 70 (ls) (vI 1 :: st) σ := (run_eq 49 69 _ _ σ).trans rfl
theorem e49_70 (a0 a1 : AV) (l st : List AV) (σ : St) (x : Int) : run 49 70 (a0 :: a1 :: vI x :: l) (st) σ = run 49 71 (a0 :: a1 :: vI x :: l) (vI x :: st) σ := (run_eq 49 70 _ _ σ).trans rfl
theorem e49_71 (ls st : List AV) (σ : St) (y x : Int) : run 49 71 (ls) (vI y :: vI x :: st) σ = run 49 72 (ls) (vI (bShl x y) :: st) σ := (run_eq 49 71 _ _ σ).trans rfl
theorem e49_72 (ls st : List AV) (σ : St) (y x : Int) : run 49 72 (ls) (vI y :: vI x :: st) σ = if x < y then run 49 75 (ls) (st) σ else run 49 109 (ls) (st) σ := (run_eq 49 72 _ _ σ).trans rfl
theorem e49_75 (a0 a1 a2 a3 : AV) (l st : List AV) (σ : St) (x : Int) : run 49 75 (a0 :: a1 :: a2 :: a3 :: vI x :: l) (st) σ = run 49 77 (a0 :: a1 :: a2 :: a3 :: vI x :: l) (vI x :: st) σ := (run_eq 49 75 _ _ σ).trans rfl
theorem e49_77 (ls st : List AV) (σ : St) (x0 : Int) (h4 : st.length ≤ 4) : run 49 77 ls (vI x0 :: st) σ = bnd (run 50 0 [vI x0] [] σ) (fun r σ => run 49 80 ls (psh r st) σ) := (run_eq 49 77 _ _ σ).trans (if_pos ⟨rfl, by simp, by simpa using h4⟩)
theorem e49_80 (a0 a1 a2 : AV) (l st : List AV) (σ : St) (x : Int) : run 49 80 (a0 :: a1 :: a2 :: vI x :: l) (st) σ = run 49 81 (a0 :: a1 :: a2 :: vI x :: l) (vI x :: st) σ := (run_eq 49 80 _ _ σ).trans rfl
theorem e49_81 (ls st : List AV) (σ : St) (y x : Int) : run 49 81 (ls) (vI y :: vI x :: st) σ = if x = y then run 49 84 (ls) (st) σ else run 49 103 (ls) (st) σ := (run_eq 49 81 _ _ σ).trans rfl
theorem e49_84 (l st : List AV) (σ : St) (x : Nat) : run 49 84 (vR x :: l) (st) σ = run 49 85 (vR x :: l) (vR x :: st) σ := (run_eq 49 84 _ _ σ).trans rfl
theorem e49_85 (a0 : AV) (l st : List AV) (σ : St) (x : Int) : run 49 85 (a0 :: vI x :: l) (st) σ = run 49 86 (a0 :: vI x :: l) (vI x :: st) σ := (run_eq 49 85 _ _ σ).trans rfl
theorem e49_86 (a0 a1 a2 a3 : AV) (l st : List AV) (σ : St) (x : Int) : run 49 86 (a0 :: a1 :: a2 :: a3 :: vI x :: l) (st) σ = run 49 88 (a0 :: a1 :: a2 :: a3 :: vI x :: l) (vI x :: st) σ := (run_eq 49 86 _ _ σ).trans rfl
theorem e49_88 (a0 a1 : AV) (l st : List AV) (σ : St) (x : Int) : run 49 88 (a0 :: a1 :: vI x :: l) (st) σ = run 49 89 (a0 :: a1 :: vI x :: l) (vI x :: st) σ := (run_eq 49 88 _ _ σ).trans rfl
theorem e49_89 (ls st : List AV) (σ : St) (x0 : Nat) (x1 : Int) (x2 : Int) (x3 : Int) (h4 : st.length ≤ 4) (h : fok σ x0 2) : run 49 89 ls (vI x3 :: vI x2 :: vI x1 :: vR x0 :: st) σ = bnd (run 51 0 [vR x0, vI x1, vI x2, vI x3, vU, vU, vU, vU, vU, vU] [] σ) (fun r σ => run 49 92 ls (psh r st) σ) := (run_eq 49 89 _ _ σ).trans (if_pos ⟨rfl, by simp, by simpa using h4, rfl, h⟩)
theorem e49_92 (ls st : List AV) (σ : St) (x : Int) : run 49 92 (ls) (vI x :: st) σ = if x = 0 then run 49 103 (ls) (st) σ else run 49 95 (ls) (st) σ := (run_eq 49 92 _ _ σ).trans rfl
theorem e49_95 (l st : List AV) (σ : St) (x : Nat) : run 49 95 (vR x :: l) (st) σ = run 49 96 (vR x :: l) (vR x :: st) σ := (run_eq 49 95 _ _ σ).trans rfl
theorem e49_96 (a0 a1 a2 a3 : AV) (l st : List AV) (σ : St) (x : Int) : run 49 96 (a0 :: a1 :: a2 :: a3 :: vI x :: l) (st) σ = run 49 98 (a0 :: a1 :: a2 :: a3 :: vI x :: l) (vI x :: st) σ := (run_eq 49 96 _ _ σ).trans rfl
theorem e49_98 (a0 a1 : AV) (l st : List AV) (σ : St) (x : Int) : run 49 98 (a0 :: a1 :: vI x :: l) (st) σ = run 49 99 (a0 :: a1 :: vI x :: l) (vI x :: st) σ := (run_eq 49 98 _ _ σ).trans rfl
theorem e49_99 (ls st : List AV) (σ : St) (x0 : Nat) (x1 : Int) (x2 : Int) (h4 : st.length ≤ 4) (h : fok σ x0 2) : run 49 99 ls (vI x2 :: vI x1 :: vR x0 :: st) σ = bnd (run 53 0 [vR x0, vI x1, vI x2, vU, vU] [] σ) (fun r σ => run 49 102 ls (psh r st) σ) := (run_eq 49 99 _ _ σ).trans (if_pos ⟨rfl, by simp, by simpa using h4, rfl, h⟩)
theorem e49_102 (ls : List AV) (σ : St) (x : Int) : run 49 102 ls [vI x] σ = some (vI x, σ) := (run_eq 49 102 _ _ σ).trans rfl
theorem e49_103 (a0 a1 a2 a3 : AV) (l st : List AV) (σ : St) (x : Int) : run 49 103 (a0 :: a1 :: a2 :: a3 :: vI x :: l) (st) σ = run 49 106 (a0 :: a1 :: a2 :: a3 :: vI (wr (x + 1)) :: l) (st) σ := (run_eq 49 103 _ _ σ).trans rfl
theorem e49_106 (ls st : List AV) (σ : St) : run 49 106 (ls) (st) σ = run 49 67 (ls) (st) σ := (run_eq 49 106 _ _ σ).trans rfl
theorem e49_109 (a0 a1 a2 : AV) (l st : List AV) (σ : St) (x : Int) : run 49 109 (a0 :: a1 :: a2 :: vI x :: l) (st) σ = run 49 112 (a0 :: a1 :: a2 :: vI (wr (x + 1)) :: l) (st) σ := (run_eq 49 109 _ _ σ).trans rfl
theorem e49_112 (ls st : List AV) (σ : St) : run 49 112 (ls) (st) σ = run 49 59 (ls) (st) σ := (run_eq 49 112 _ _ σ).trans rfl
theorem e49_115 (ls st : List AV) (σ : St) : run 49 115 (ls) (st) σ = run 49 117 (ls) (vI (-6) :: st) σ := (run_eq 49 115 _ _ σ).trans rfl
theorem e49_117 (ls : List AV) (σ : St) (x : Int) : run 49 117 ls [vI x] σ = some (vI x, σ) := (run_eq 49 117 _ _ σ).trans rfl
/-! F_standsByCuts -/
theorem e51_0 (ls st : List AV) (σ : St) : run 51 0 (ls) (st) σ = run 51 1 (ls) (vI 1 :: st) σ := (run_eq 51 0 _ _ σ).trans rfl
theorem e51_1 (a0 a1 a2 a3 : AV) (l st : List AV) (σ : St) (q : AV) (x : Int) : run 51 1 (a0 :: a1 :: a2 :: a3 :: q :: l) (vI x :: st) σ = run 51 3 (a0 :: a1 :: a2 :: a3 :: vI x :: l) (st) σ := (run_eq 51 1 _ _ σ).trans rfl
theorem e51_3 (ls st : List AV) (σ : St) : run 51 3 (ls) (st) σ = run 51 4 (ls) (vI 0 :: st) σ := (run_eq 51 3 _ _ σ).trans rfl
theorem e51_4 (a0 a1 a2 a3 a4 : AV) (l st : List AV) (σ : St) (q : AV) (x : Int) : run 51 4 (a0 :: a1 :: a2 :: a3 :: a4 :: q :: l) (vI x :: st) σ = run 51 6 (a0 :: a1 :: a2 :: a3 :: a4 :: vI x :: l) (st) σ := (run_eq 51 4 _ _ σ).trans rfl
theorem e51_6 (a0 a1 a2 a3 a4 : AV) (l st : List AV) (σ : St) (x : Int) : run 51 6 (a0 :: a1 :: a2 :: a3 :: a4 :: vI x :: l) (st) σ = run 51 8 (a0 :: a1 :: a2 :: a3 :: a4 :: vI x :: l) (vI x :: st) σ := (run_eq 51 6 _ _ σ).trans rfl
theorem e51_8 (a0 a1 a2 : AV) (l st : List AV) (σ : St) (x : Int) : run 51 8 (a0 :: a1 :: a2 :: vI x :: l) (st) σ = run 51 9 (a0 :: a1 :: a2 :: vI x :: l) (vI x :: st) σ := (run_eq 51 8 _ _ σ).trans rfl
theorem e51_9 (ls st : List AV) (σ : St) (y x : Int) : run 51 9 (ls) (vI y :: vI x :: st) σ = if x < y then run 51 12 (ls) (st) σ else run 51 56 (ls) (st) σ := (run_eq 51 9 _ _ σ).trans rfl
theorem e51_12 (a0 a1 a2 a3 : AV) (l st : List AV) (σ : St) (x : Int) : run 51 12 (a0 :: a1 :: a2 :: a3 :: vI x :: l) (st) σ = run 51 14 (a0 :: a1 :: a2 :: a3 :: vI x :: l) (vI x :: st) σ := (run_eq 51 12 _ _ σ).trans rfl
theorem e51_14 (a0 a1 : AV) (l st : List AV) (σ : St) (x : Int) : run 51 14 (a0 :: a1 :: vI x :: l) (st) σ = run 51 15 (a0 :: a1 :: vI x :: l) (vI x :: st) σ := (run_eq 51 14 _ _ σ).trans rfl
theorem e51_15 (a0 a1 a2 a3 a4 : AV) (l st : List AV) (σ : St) (x : Int) : run 51 15 (a0 :: a1 :: a2 :: a3 :: a4 :: vI x :: l) (st) σ = run 51 17 (a0 :: a1 :: a2 :: a3 :: a4 :: vI x :: l) (vI x :: st) σ := (run_eq 51 15 _ _ σ).trans rfl
theorem e51_17 (ls st : List AV) (σ : St) (y x : Int) : run 51 17 (ls) (vI y :: vI x :: st) σ = run 51 18 (ls) (vI (bShr x y) :: st) σ := (run_eq 51 17 _ _ σ).trans rfl
theorem e51_18 (ls st : List AV) (σ : St) : run 51 18 (ls) (st) σ = run 51 19 (ls) (vI 1 :: st) σ := (run_eq 51 18 _ _ σ).trans rfl
theorem e51_19 (ls st : List AV) (σ : St) (y x : Int) : run 51 19 (ls) (vI y :: vI x :: st) σ = run 51 20 (ls) (vI (bAnd x y) :: st) σ := (run_eq 51 19 _ _ σ).trans rfl
theorem e51_20 (ls st : List AV) (σ : St) : run 51 20 (ls) (st) σ = run 51 21 (ls) (vI 1 :: st) σ := (run_eq 51 20 _ _ σ).trans rfl
theorem e51_21 (ls st : List AV) (σ : St) (y x : Int) : run 51 21 (ls) (vI y :: vI x :: st) σ = if x = y then run 51 24 (ls) (st) σ else run 51 46 (ls) (st) σ := (run_eq 51 21 _ _ σ).trans rfl
theorem e51_24 (l st : List AV) (σ : St) (x : Nat) : run 51 24 (vR x :: l) (st) σ = run 51 25 (vR x :: l) (vR x :: st) σ := (run_eq 51 24 _ _ σ).trans rfl
theorem e51_25 (ls st : List AV) (σ : St) (x : Nat) (h : fok σ x 2) : run 51 25 (ls) (vR x :: st) σ = run 51 28 (ls) (vR (gr σ x 0) :: st) σ := (run_eq 51 25 _ _ σ).trans (if_pos h)
theorem e51_28 (ls st : List AV) (σ : St) (x : Nat) (h : fok σ x 0) : run 51 28 (ls) (vR x :: st) σ = run 51 31 (ls) (vR (gr σ x 6) :: st) σ := (run_eq 51 28 _ _ σ).trans (if_pos h)
theorem e51_31 (l st : List AV) (σ : St) (x : Nat) : run 51 31 (vR x :: l) (st) σ = run 51 32 (vR x :: l) (vR x :: st) σ := (run_eq 51 31 _ _ σ).trans rfl
theorem e51_32 (ls st : List AV) (σ : St) (x : Nat) (h : fok σ x 2) : run 51 32 (ls) (vR x :: st) σ = run 51 35 (ls) (vR (gr σ x 4) :: st) σ := (run_eq 51 32 _ _ σ).trans (if_pos h)
theorem e51_35 (a0 a1 a2 a3 a4 : AV) (l st : List AV) (σ : St) (x : Int) : run 51 35 (a0 :: a1 :: a2 :: a3 :: a4 :: vI x :: l) (st) σ = run 51 37 (a0 :: a1 :: a2 :: a3 :: a4 :: vI x :: l) (vI x :: st) σ := (run_eq 51 35 _ _ σ).trans rfl
theorem e51_37 (ls st : List AV) (σ : St) (x0 : Nat) (x1 : Int) (h4 : st.length ≤ 4) : run 51 37 ls (vI x1 :: vR x0 :: st) σ = bnd (run 10 0 [vR x0, vI x1] [] σ) (fun r σ => run 51 40 ls (psh r st) σ) := (run_eq 51 37 _ _ σ).trans (if_pos ⟨rfl, by simp, by simpa using h4⟩)
theorem e51_40 (ls st : List AV) (σ : St) (x0 : Nat) (x1 : Int) (h4 : st.length ≤ 4) : run 51 40 ls (vI x1 :: vR x0 :: st) σ = bnd (run 10 0 [vR x0, vI x1] [] σ) (fun r σ => run 51 43 ls (psh r st) σ) := (run_eq 51 40 _ _ σ).trans (if_pos ⟨rfl, by simp, by simpa using h4⟩)
theorem e51_43 (ls st : List AV) (σ : St) : run 51 43 (ls) (st) σ = run 51 47 (ls) (st) σ := (run_eq 51 43 _ _ σ).trans rfl
theorem e51_46 (ls st : List AV) (σ : St) : run 51 46 (ls) (st) σ = run 51 47 (ls) (vI 1 :: st) σ := (run_eq 51 46 _ _ σ).trans rfl
theorem e51_47 (ls st : List AV) (σ : St) (y x : Int) : run 51 47 (ls) (vI y :: vI x :: st) σ = run 51 48 (ls) (vI (wr (x * y)) :: st) σ := (run_eq 51 47 _ _ σ).trans rfl
theorem e51_48 (a0 a1 a2 a3 : AV) (l st : List AV) (σ : St) (q : AV) (x : Int) : run 51 48 (a0 :: a1 :: a2 :: a3 :: q :: l) (vI x :: st) σ = run 51 50 (a0 :: a1 :: a2 :: a3 :: vI x :: l) (st) σ := (run_eq 51 48 _ _ σ).trans rfl
theorem e51_50 (a0 a1 a2 a3 a4 : AV) (l st : List AV) (σ : St) (x : Int) : run 51 50 (a0 :: a1 :: a2 :: a3 :: a4 :: vI x :: l) (st) σ = run 51 53 (a0 :: a1 :: a2 :: a3 :: a4 :: vI (wr (x + 1)) :: l) (st) σ := (run_eq 51 50 _ _ σ).trans rfl
theorem e51_53 (ls st : List AV) (σ : St) : run 51 53 (ls) (st) σ = run 51 6 (ls) (st) σ := (run_eq 51 53 _ _ σ).trans rfl
theorem e51_56 (ls st : List AV) (σ : St) : run 51 56 (ls) (st) σ = run 51 57 (ls) (vI 0 :: st) σ := (run_eq 51 56 _ _ σ).trans rfl
theorem e51_57 (a0 a1 a2 a3 a4 : AV) (l st : List AV) (σ : St) (q : AV) (x : Int) : run 51 57 (a0 :: a1 :: a2 :: a3 :: a4 :: q :: l) (vI x :: st) σ = run 51 59 (a0 :: a1 :: a2 :: a3 :: a4 :: vI x :: l) (st) σ := (run_eq 51 57 _ _ σ).trans rfl
theorem e51_59 (a0 a1 a2 a3 a4 : AV) (l st : List AV) (σ : St) (x : Int) : run 51 59 (a0 :: a1 :: a2 :: a3 :: a4 :: vI x :: l) (st) σ = run 51 61 (a0 :: a1 :: a2 :: a3 :: a4 :: vI x :: l) (vI x :: st) σ := (run_eq 51 59 _ _ σ).trans rfl
theorem e51_61 (a0 a1 a2 a3 : AV) (l st : List AV) (σ : St) (x : Int) : run 51 61 (a0 :: a1 :: a2 :: a3 :: vI x :: l) (st) σ = run 51 63 (a0 :: a1 :: a2 :: a3 :: vI x :: l) (vI x :: st) σ := (run_eq 51 61 _ _ σ).trans rfl
theorem e51_63 (ls st : List AV) (σ : St) (y x : Int) : run 51 63 (ls) (vI y :: vI x :: st) σ = if x < y then run 51 66 (ls) (st) σ else run 51 190 (ls) (st) σ := (run_eq 51 63 _ _ σ).trans rfl
theorem e51_66 (l st : List AV) (σ : St) (x : Nat) : run 51 66 (vR x :: l) (st) σ = run 51 67 (vR x :: l) (vR x :: st) σ := (run_eq 51 66 _ _ σ).trans rfl
theorem e51_67 (ls st : List AV) (σ : St) (x : Nat) (h : fok σ x 2) : run 51 67 (ls) (vR x :: st) σ = run 51 70 (ls) (vR (gr σ x 1) :: st) σ := (run_eq 51 67 _ _ σ).trans (if_pos h)
theorem e51_70 (l st : List AV) (σ : St) (x : Nat) : run 51 70 (vR x :: l) (st) σ = run 51 71 (vR x :: l) (vR x :: st) σ := (run_eq 51 70 _ _ σ).trans rfl
theorem e51_71 (ls st : List AV) (σ : St) (x : Nat) (h : fok σ x 2) : run 51 71 (ls) (vR x :: st) σ = run 51 74 (ls) (vR (gr σ x 0) :: st) σ := (run_eq 51 71 _ _ σ).trans (if_pos h)
theorem e51_74 (ls st : List AV) (σ : St) (x0 : Nat) (x1 : Nat) (h4 : st.length ≤ 4) (h : fok σ x0 0) : run 51 74 ls (vR x1 :: vR x0 :: st) σ = bnd (run 29 0 [vR x0, vR x1] [] σ) (fun r σ => run 51 77 ls (psh r st) σ) := (run_eq 51 74 _ _ σ).trans (if_pos ⟨rfl, by simp, by simpa using h4, rfl, h⟩)
theorem e51_77 (a0 a1 a2 a3 a4 : AV) (l st : List AV) (σ : St) (x : Int) : run 51 77 (a0 :: a1 :: a2 :: a3 :: a4 :: vI x :: l) (st) σ = run 51 79 (a0 :: a1 :: a2 :: a3 :: a4 :: vI x :: l) (vI x :: st) σ := (run_eq 51 77 _ _ σ).trans rfl
theorem e51_79 (a0 a1 a2 a3 a4 a5 : AV) (l st : List AV) (σ : St) (q : AV) (x : Int) : run 51 79 (a0 :: a1 :: a2 :: a3 :: a4 :: a5 :: q :: l) (vI x :: st) σ = run 51 81 (a0 :: a1 :: a2 :: a3 :: a4 :: a5 :: vI x :: l) (st) σ := (run_eq 51 79 _ _ σ).trans rfl
theorem e51_81 (ls st : List AV) (σ : St) : run 51 81 (ls) (st) σ = run 51 82 (ls) (vI 0 :: st) σ := (run_eq 51 81 _ _ σ).trans rfl
theorem e51_82 (a0 a1 a2 a3 a4 a5 a6 : AV) (l st : List AV) (σ : St) (q : AV) (x : Int) : run 51 82 (a0 :: a1 :: a2 :: a3 :: a4 :: a5 :: a6 :: q :: l) (vI x :: st) σ = run 51 84 (a0 :: a1 :: a2 :: a3 :: a4 :: a5 :: a6 :: vI x :: l) (st) σ := (run_eq 51 82 _ _ σ).trans rfl
theorem e51_84 (a0 a1 a2 a3 a4 a5 a6 : AV) (l st : List AV) (σ : St) (x : Int) : run 51 84 (a0 :: a1 :: a2 :: a3 :: a4 :: a5 :: a6 :: vI x :: l) (st) σ = run 51 86 (a0 :: a1 :: a2 :: a3 :: a4 :: a5 :: a6 :: vI x :: l) (vI x :: st) σ := (run_eq 51 84 _ _ σ).trans rfl
theorem e51_86 (a0 a1 a2 : AV) (l st : List AV) (σ : St) (x : Int) : run 51 86 (a0 :: a1 :: a2 :: vI x :: l) (st) σ = run 51 87 (a0 :: a1 :: a2 :: vI x :: l) (vI x :: st) σ := (run_eq 51 86 _ _ σ).trans rfl
theorem e51_87 (ls st : List AV) (σ : St) (y x : Int) : run 51 87 (ls) (vI y :: vI x :: st) σ = if x < y then run 51 90 (ls) (st) σ else run 51 160 (ls) (st) σ := (run_eq 51 87 _ _ σ).trans rfl
theorem e51_90 (l st : List AV) (σ : St) (x : Nat) : run 51 90 (vR x :: l) (st) σ = run 51 91 (vR x :: l) (vR x :: st) σ := (run_eq 51 90 _ _ σ).trans rfl
theorem e51_91 (ls st : List AV) (σ : St) (x : Nat) (h : fok σ x 2) : run 51 91 (ls) (vR x :: st) σ = run 51 94 (ls) (vR (gr σ x 4) :: st) σ := (run_eq 51 91 _ _ σ).trans (if_pos h)
theorem e51_94 (a0 a1 a2 a3 a4 a5 a6 : AV) (l st : List AV) (σ : St) (x : Int) : run 51 94 (a0 :: a1 :: a2 :: a3 :: a4 :: a5 :: a6 :: vI x :: l) (st) σ = run 51 96 (a0 :: a1 :: a2 :: a3 :: a4 :: a5 :: a6 :: vI x :: l) (vI x :: st) σ := (run_eq 51 94 _ _ σ).trans rfl
theorem e51_96 (ls st : List AV) (σ : St) (x0 : Nat) (x1 : Int) (h4 : st.length ≤ 4) : run 51 96 ls (vI x1 :: vR x0 :: st) σ = bnd (run 10 0 [vR x0, vI x1] [] σ) (fun r σ => run 51 99 ls (psh r st) σ) := (run_eq 51 96 _ _ σ).trans (if_pos ⟨rfl, by simp, by simpa using h4⟩)
theorem e51_99 (a0 a1 a2 a3 a4 a5 a6 a7 : AV) (l st : List AV) (σ : St) (q : AV) (x : Int) : run 51 99 (a0 :: a1 :: a2 :: a3 :: a4 :: a5 :: a6 :: a7 :: q :: l) (vI x :: st) σ = run 51 101 (a0 :: a1 :: a2 :: a3 :: a4 :: a5 :: a6 :: a7 :: vI x :: l) (st) σ := (run_eq 51 99 _ _ σ).trans rfl
theorem e51_101 (l st : List AV) (σ : St) (x : Nat) : run 51 101 (vR x :: l) (st) σ = run 51 102 (vR x :: l) (vR x :: st) σ := (run_eq 51 101 _ _ σ).trans rfl
theorem e51_102 (ls st : List AV) (σ : St) (x : Nat) (h : fok σ x 2) : run 51 102 (ls) (vR x :: st) σ = run 51 105 (ls) (vR (gr σ x 0) :: st) σ := (run_eq 51 102 _ _ σ).trans (if_pos h)
theorem e51_105 (ls st : List AV) (σ : St) (x : Nat) (h : fok σ x 0) : run 51 105 (ls) (vR x :: st) σ = run 51 108 (ls) (vR (gr σ x 6) :: st) σ := (run_eq 51 105 _ _ σ).trans (if_pos h)
theorem e51_108 (a0 a1 a2 a3 a4 a5 a6 a7 : AV) (l st : List AV) (σ : St) (x : Int) : run 51 108 (a0 :: a1 :: a2 :: a3 :: a4 :: a5 :: a6 :: a7 :: vI x :: l) (st) σ = run 51 110 (a0 :: a1 :: a2 :: a3 :: a4 :: a5 :: a6 :: a7 :: vI x :: l) (vI x :: st) σ := (run_eq 51 108 _ _ σ).trans rfl
theorem e51_110 (ls st : List AV) (σ : St) (x0 : Nat) (x1 : Int) (h4 : st.length ≤ 4) : run 51 110 ls (vI x1 :: vR x0 :: st) σ = bnd (run 10 0 [vR x0, vI x1] [] σ) (fun r σ => run 51 113 ls (psh r st) σ) := (run_eq 51 110 _ _ σ).trans (if_pos ⟨rfl, by simp, by simpa using h4⟩)
theorem e51_113 (a0 a1 a2 a3 a4 a5 a6 a7 a8 : AV) (l st : List AV) (σ : St) (q : AV) (x : Int) : run 51 113 (a0 :: a1 :: a2 :: a3 :: a4 :: a5 :: a6 :: a7 :: a8 :: q :: l) (vI x :: st) σ = run 51 115 (a0 :: a1 :: a2 :: a3 :: a4 :: a5 :: a6 :: a7 :: a8 :: vI x :: l) (st) σ := (run_eq 51 113 _ _ σ).trans rfl
theorem e51_115 (a0 a1 : AV) (l st : List AV) (σ : St) (x : Int) : run 51 115 (a0 :: a1 :: vI x :: l) (st) σ = run 51 116 (a0 :: a1 :: vI x :: l) (vI x :: st) σ := (run_eq 51 115 _ _ σ).trans rfl
theorem e51_116 (a0 a1 a2 a3 a4 a5 a6 : AV) (l st : List AV) (σ : St) (x : Int) : run 51 116 (a0 :: a1 :: a2 :: a3 :: a4 :: a5 :: a6 :: vI x :: l) (st) σ = run 51 118 (a0 :: a1 :: a2 :: a3 :: a4 :: a5 :: a6 :: vI x :: l) (vI x :: st) σ := (run_eq 51 116 _ _ σ).trans rfl
theorem e51_118 (ls st : List AV) (σ : St) (y x : Int) : run 51 118 (ls) (vI y :: vI x :: st) σ = run 51 119 (ls) (vI (bShr x y) :: st) σ := (run_eq 51 118 _ _ σ).trans rfl
theorem e51_119 (ls st : List AV) (σ : St) : run 51 119 (ls) (st) σ = run 51 120 (ls) (vI 1 :: st) σ := (run_eq 51 119 _ _ σ).trans rfl
theorem e51_120 (ls st : List AV) (σ : St) (y x : Int) : run 51 120 (ls) (vI y :: vI x :: st) σ = run 51 121 (ls) (vI (bAnd x y) :: st) σ := (run_eq 51 120 _ _ σ).trans rfl
theorem e51_121 (ls st : List AV) (σ : St) : run 51 121 (ls) (st) σ = run 51 122 (ls) (vI 1 :: st) σ := (run_eq 51 121 _ _ σ).trans rfl
theorem e51_122 (ls st : List AV) (σ : St) (y x : Int) : run 51 122 (ls) (vI y :: vI x :: st) σ = if x = y then run 51 125 (ls) (st) σ else run 51 154 (ls) (st) σ := (run_eq 51 122 _ _ σ).trans rfl
theorem e51_125 (a0 a1 a2 a3 a4 a5 a6 a7 a8 : AV) (l st : List AV) (σ : St) (x : Int) : run 51 125 (a0 :: a1 :: a2 :: a3 :: a4 :: a5 :: a6 :: a7 :: a8 :: vI x :: l) (st) σ = run 51 127 (a0 :: a1 :: a2 :: a3 :: a4 :: a5 :: a6 :: a7 :: a8 :: vI x :: l) (vI x :: st) σ := (run_eq 51 125 _ _ σ).trans rfl
theorem e51_127 (ls st : List AV) (σ : St) (x : Int) : run 51 127 (ls) (vI x :: st) σ = if 0 < x then run 51 130 (ls) (st) σ else run 51 154 (ls) (st) σ := (run_eq 51 127 _ _ σ).trans rfl
theorem e51_130 (l st : List AV) (σ : St) (x : Nat) : run 51 130 (vR x :: l) (st) σ = run 51 131 (vR x :: l) (vR x :: st) σ := (run_eq 51 130 _ _ σ).trans rfl
theorem e51_131 (ls st : List AV) (σ : St) (x : Nat) (h : fok σ x 2) : run 51 131 (ls) (vR x :: st) σ = run 51 134 (ls) (vR (gr σ x 1) :: st) σ := (run_eq 51 131 _ _ σ).trans (if_pos h)
theorem e51_134 (ls st : List AV) (σ : St) (x : Nat) (h : fok σ x 0) : run 51 134 (ls) (vR x :: st) σ = run 51 137 (ls) (vR (gr σ x 6) :: st) σ := (run_eq 51 134 _ _ σ).trans (if_pos h)
theorem e51_137 (a0 a1 a2 a3 a4 a5 a6 a7 : AV) (l st : List AV) (σ : St) (x : Int) : run 51 137 (a0 :: a1 :: a2 :: a3 :: a4 :: a5 :: a6 :: a7 :: vI x :: l) (st) σ = run 51 139 (a0 :: a1 :: a2 :: a3 :: a4 :: a5 :: a6 :: a7 :: vI x :: l) (vI x :: st) σ := (run_eq 51 137 _ _ σ).trans rfl
theorem e51_139 (a0 a1 a2 a3 a4 a5 : AV) (l st : List AV) (σ : St) (x : Int) : run 51 139 (a0 :: a1 :: a2 :: a3 :: a4 :: a5 :: vI x :: l) (st) σ = run 51 141 (a0 :: a1 :: a2 :: a3 :: a4 :: a5 :: vI x :: l) (vI x :: st) σ := (run_eq 51 139 _ _ σ).trans rfl
theorem e51_141 (a0 a1 a2 a3 a4 a5 a6 a7 a8 : AV) (l st : List AV) (σ : St) (x : Int) : run 51 141 (a0 :: a1 :: a2 :: a3 :: a4 :: a5 :: a6 :: a7 :: a8 :: vI x :: l) (st) σ = run 51 143 (a0 :: a1 :: a2 :: a3 :: a4 :: a5 :: a6 :: a7 :: a8 :: vI x :: l) (vI x :: st) σ := (run_eq 51 141 _ _ σ).trans rfl
theorem e51_143 (ls st : List AV) (σ : St) (y x : Int) (h : ¬ y = 0) : run 51 143 (ls) (vI y :: vI x :: st) σ = run 51 144 (ls) (vI (wr (x.tmod y)) :: st) σ := (run_eq 51 143 _ _ σ).trans (if_neg h)
theorem e51_144 (ls st : List AV) (σ : St) (x0 : Nat) (x1 : Int) (x2 : Int) (h4 : st.length ≤ 4) : run 51 144 ls (vI x2 :: vI x1 :: vR x0 :: st) σ = bnd (run 11 0 [vR x0, vI x1, vI x2] [] σ) (fun r σ => run 51 147 ls (psh r st) σ) := (run_eq 51 144 _ _ σ).trans (if_pos ⟨rfl, by simp, by simpa using h4⟩)
theorem e51_147 (a0 a1 a2 a3 a4 a5 : AV) (l st : List AV) (σ : St) (x : Int) : run 51 147 (a0 :: a1 :: a2 :: a3 :: a4 :: a5 :: vI x :: l) (st) σ = run 51 149 (a0 :: a1 :: a2 :: a3 :: a4 :: a5 :: vI x :: l) (vI x :: st) σ := (run_eq 51 147 _ _ σ).trans rfl
theorem e51_149 (a0 a1 a2 a3 a4 a5 a6 a7 a8 : AV) (l st : List AV) (σ : St) (x : Int) : run 51 149 (a0 :: a1 :: a2 :: a3 :: a4 :: a5 :: a6 :: a7 :: a8 :: vI x :: l) (st) σ = run 51 151 (a0 :: a1 :: a2 :: a3 :: a4 :: a5 :: a6 :: a7 :: a8 :: vI x :: l) (vI x :: st) σ := (run_eq 51 149 _ _ σ).trans rfl
theorem e51_151 (ls st : List AV) (σ : St) (y x : Int) (h : ¬ y = 0) : run 51 151 (ls) (vI y :: vI x :: st) σ = run 51 152 (ls) (vI (wr (x.tdiv y)) :: st) σ := (run_eq 51 151 _ _ σ).trans (if_neg h)
theorem e51_152 (a0 a1 a2 a3 a4 a5 : AV) (l st : List AV) (σ : St) (q : AV) (x : Int) : run 51 152 (a0 :: a1 :: a2 :: a3 :: a4 :: a5 :: q :: l) (vI x :: st) σ = run 51 154 (a0 :: a1 :: a2 :: a3 :: a4 :: a5 :: vI x :: l) (st) σ := (run_eq 51 152 _ _ σ).trans rfl
theorem e51_154 (a0 a1 a2 a3 a4 a5 a6 : AV) (l st : List AV) (σ : St) (x : Int) : run 51 154 (a0 :: a1 :: a2 :: a3 :: a4 :: a5 :: a6 :: vI x :: l) (st) σ = run 51 157 (a0 :: a1 :: a2 :: a3 :: a4 :: a5 :: a6 :: vI (wr (x + 1)) :: l) (st) σ := (run_eq 51 154 _ _ σ).trans rfl
theorem e51_157 (ls st : List AV) (σ : St) : run 51 157 (ls) (st) σ = run 51 84 (ls) (st) σ := (run_eq 51 157 _ _ σ).trans rfl
theorem e51_160 (l st : List AV) (σ : St) (x : Nat) : run 51 160 (vR x :: l) (st) σ = run 51 161 (vR x :: l) (vR x :: st) σ := (run_eq 51 160 _ _ σ).trans rfl
theorem e51_161 (ls st : List AV) (σ : St) (x : Nat) (h : fok σ x 2) : run 51 161 (ls) (vR x :: st) σ = run 51 164 (ls) (vR (gr σ x 2) :: st) σ := (run_eq 51 161 _ _ σ).trans (if_pos h)
theorem e51_164 (l st : List AV) (σ : St) (x : Nat) : run 51 164 (vR x :: l) (st) σ = run 51 165 (vR x :: l) (vR x :: st) σ := (run_eq 51 164 _ _ σ).trans rfl
theorem e51_165 (ls st : List AV) (σ : St) (x : Nat) (h : fok σ x 2) : run 51 165 (ls) (vR x :: st) σ = run 51 168 (ls) (vR (gr σ x 1) :: st) σ := (run_eq 51 165 _ _ σ).trans (if_pos h)
theorem e51_168 (ls st : List AV) (σ : St) (x0 : Nat) (x1 : Nat) (h4 : st.length ≤ 4) (h : fok σ x0 1) : run 51 168 ls (vR x1 :: vR x0 :: st) σ = bnd (run 52 0 [vR x0, vR x1, vU] [] σ) (fun r σ => run 51 171 ls (psh r st) σ) := (run_eq 51 168 _ _ σ).trans (if_pos ⟨rfl, by simp, by simpa using h4, rfl, h⟩)
theorem e51_171 (l st : List AV) (σ : St) (x : Nat) : run 51 171 (vR x :: l) (st) σ = run 51 172 (vR x :: l) (vR x :: st) σ := (run_eq 51 171 _ _ σ).trans rfl
theorem e51_172 (ls st : List AV) (σ : St) (x : Nat) (h : fok σ x 2) : run 51 172 (ls) (vR x :: st) σ = run 51 175 (ls) (vR (gr σ x 1) :: st) σ := (run_eq 51 172 _ _ σ).trans (if_pos h)
theorem e51_175 (a0 : AV) (l st : List AV) (σ : St) (x : Int) : run 51 175 (a0 :: vI x :: l) (st) σ = run 51 176 (a0 :: vI x :: l) (vI x :: st) σ := (run_eq 51 175 _ _ σ).trans rfl
theorem e51_176 (ls st : List AV) (σ : St) (x0 : Nat) (x1 : Int) (h4 : st.length ≤ 4) (h : fok σ x0 0) : run 51 176 ls (vI x1 :: vR x0 :: st) σ = bnd (run 35 0 [vR x0, vI x1] [] σ) (fun r σ => run 51 179 ls (psh r st) σ) := (run_eq 51 176 _ _ σ).trans (if_pos ⟨rfl, by simp, by simpa using h4, rfl, h⟩)
theorem e51_179 (ls st : List AV) (σ : St) (x : Int) : run 51 179 (ls) (vI x :: st) σ = if x = 0 then run 51 184 (ls) (st) σ else run 51 182 (ls) (st) σ := (run_eq 51 179 _ _ σ).trans rfl
theorem e51_182 (ls st : List AV) (σ : St) : run 51 182 (ls) (st) σ = run 51 183 (ls) (vI 1 :: st) σ := (run_eq 51 182 _ _ σ).trans rfl
theorem e51_183 (ls : List AV) (σ : St) (x : Int) (h : x = 0 ∨ x = 1) : run 51 183 ls [vI x] σ = some (vI x, σ) := (run_eq 51 183 _ _ σ).trans (if_pos h)
theorem e51_184 (a0 a1 a2 a3 a4 : AV) (l st : List AV) (σ : St) (x : Int) : run 51 184 (a0 :: a1 :: a2 :: a3 :: a4 :: vI x :: l) (st) σ = run 51 187 (a0 :: a1 :: a2 :: a3 :: a4 :: vI (wr (x + 1)) :: l) (st) σ := (run_eq 51 184 _ _ σ).trans rfl
theorem e51_187 (ls st : List AV) (σ : St) : run 51 187 (ls) (st) σ = run 51 59 (ls) (st) σ := (run_eq 51 187 _ _ σ).trans rfl
theorem e51_190 (ls st : List AV) (σ : St) : run 51 190 (ls) (st) σ = run 51 191 (ls) (vI 0 :: st) σ := (run_eq 51 190 _ _ σ).trans rfl
theorem e51_191 (ls : List AV) (σ : St) (x : Int) (h : x = 0 ∨ x = 1) : run 51 191 ls [vI x] σ = some (vI x, σ) := (run_eq 51 191 _ _ σ).trans (if_pos h)
/-! F_pickedBits -/
theorem e53_0 (ls st : List AV) (σ : St) : run 53 0 (ls) (st) σ = run 53 1 (ls) (vI 0 :: st) σ := (run_eq 53 0 _ _ σ).trans rfl
theorem e53_1 (a0 a1 a2 : AV) (l st : List AV) (σ : St) (q : AV) (x : Int) : run 53 1 (a0 :: a1 :: a2 :: q :: l) (vI x :: st) σ = run 53 2 (a0 :: a1 :: a2 :: vI x :: l) (st) σ := (run_eq 53 1 _ _ σ).trans rfl
theorem e53_2 (ls st : List AV) (σ : St) : run 53 2 (ls) (st) σ = run 53 3 (ls) (vI 0 :: st) σ := (run_eq 53 2 _ _ σ).trans rfl
theorem e53_3 (a0 a1 a2 a3 : AV) (l st : List AV) (σ : St) (q : AV) (x : Int) : run 53 3 (a0 :: a1 :: a2 :: a3 :: q :: l) (vI x :: st) σ = run 53 5 (a0 :: a1 :: a2 :: a3 :: vI x :: l) (st) σ := (run_eq 53 3 _ _ σ).trans rfl
theorem e53_5 (a0 a1 a2 a3 : AV) (l st : List AV) (σ : St) (x : Int) : run 53 5 (a0 :: a1 :: a2 :: a3 :: vI x :: l) (st) σ = run 53 7 (a0 :: a1 :: a2 :: a3 :: vI x :: l) (vI x :: st) σ := (run_eq 53 5 _ _ σ).trans rfl
theorem e53_7 (a0 a1 : AV) (l st : List AV) (σ : St) (x : Int) : run 53 7 (a0 :: a1 :: vI x :: l) (st) σ = run 53 8 (a0 :: a1 :: vI x :: l) (vI x :: st) σ := (run_eq 53 7 _ _ σ).trans rfl
theorem e53_8 (ls st : List AV) (σ : St) (y x : Int) : run 53 8 (ls) (vI y :: vI x :: st) σ = if x < y then run 53 11 (ls) (st) σ else run 53 45 (ls) (st) σ := (run_eq 53 8 _ _ σ).trans rfl
theorem e53_11 (a0 a1 a2 : AV) (l st : List AV) (σ : St) (x : Int) : run 53 11 (a0 :: a1 :: a2 :: vI x :: l) (st) σ = run 53 12 (a0 :: a1 :: a2 :: vI x :: l) (vI x :: st) σ := (run_eq 53 11 _ _ σ).trans rfl
theorem e53_12 (a0 : AV) (l st : List AV) (σ : St) (x : Int) : run 53 12 (a0 :: vI x :: l) (st) σ = run 53 13 (a0 :: vI x :: l) (vI x :: st) σ := (run_eq 53 12 _ _ σ).trans rfl
theorem e53_13 (a0 a1 a2 a3 : AV) (l st : List AV) (σ : St) (x : Int) : run 53 13 (a0 :: a1 :: a2 :: a3 :: vI x :: l) (st) σ = run 53 15 (a0 :: a1 :: a2 :: a3 :: vI x :: l) (vI x :: st) σ := (run_eq 53 13 _ _ σ).trans rfl
theorem e53_15 (ls st : List AV) (σ : St) (y x : Int) : run 53 15 (ls) (vI y :: vI x :: st) σ = run 53 16 (ls) (vI (bShr x y) :: st) σ := (run_eq 53 15 _ _ σ).trans rfl
theorem e53_16 (ls st : List AV) (σ : St) : run 53 16 (ls) (st) σ = run 53 17 (ls) (vI 1 :: st) σ := (run_eq 53 16 _ _ σ).trans rfl
theorem e53_17 (ls st : List AV) (σ : St) (y x : Int) : run 53 17 (ls) (vI y :: vI x :: st) σ = run 53 18 (ls) (vI (bAnd x y) :: st) σ := (run_eq 53 17 _ _ σ).trans rfl
theorem e53_18 (ls st : List AV) (σ : St) : run 53 18 (ls) (st) σ = run 53 19 (ls) (vI 1 :: st) σ := (run_eq 53 18 _ _ σ).trans rfl
theorem e53_19 (ls st : List AV) (σ : St) (y x : Int) : run 53 19 (ls) (vI y :: vI x :: st) σ = if x = y then run 53 22 (ls) (st) σ else run 53 36 (ls) (st) σ := (run_eq 53 19 _ _ σ).trans rfl
theorem e53_22 (ls st : List AV) (σ : St) : run 53 22 (ls) (st) σ = run 53 23 (ls) (vI 1 :: st) σ := (run_eq 53 22 _ _ σ).trans rfl
theorem e53_23 (l st : List AV) (σ : St) (x : Nat) : run 53 23 (vR x :: l) (st) σ = run 53 24 (vR x :: l) (vR x :: st) σ := (run_eq 53 23 _ _ σ).trans rfl
theorem e53_24 (ls st : List AV) (σ : St) (x : Nat) (h : fok σ x 2) : run 53 24 (ls) (vR x :: st) σ = run 53 27 (ls) (vR (gr σ x 4) :: st) σ := (run_eq 53 24 _ _ σ).trans (if_pos h)
theorem e53_27 (a0 a1 a2 a3 : AV) (l st : List AV) (σ : St) (x : Int) : run 53 27 (a0 :: a1 :: a2 :: a3 :: vI x :: l) (st) σ = run 53 29 (a0 :: a1 :: a2 :: a3 :: vI x :: l) (vI x :: st) σ := (run_eq 53 27 _ _ σ).trans rfl
theorem e53_29 (ls st : List AV) (σ : St) (x0 : Nat) (x1 : Int) (h4 : st.length ≤ 4) : run 53 29 ls (vI x1 :: vR x0 :: st) σ = bnd (run 10 0 [vR x0, vI x1] [] σ) (fun r σ => run 53 32 ls (psh r st) σ) := (run_eq 53 29 _ _ σ).trans (if_pos ⟨rfl, by simp, by simpa using h4⟩)
theorem e53_32 (ls st : List AV) (σ : St) (y x : Int) : run 53 32 (ls) (vI y :: vI x :: st) σ = run 53 33 (ls) (vI (bShl x y) :: st) σ := (run_eq 53 32 _ _ σ).trans rfl
theorem e53_33 (ls st : List AV) (σ : St) : run 53 33 (ls) (st) σ = run 53 37 (ls) (st) σ := (run_eq 53 33 _ _ σ).trans rfl
theorem e53_36 (ls st : List AV) (σ : St) : run 53 36 (ls) (st) σ = run 53 37 (ls) (vI 0 :: st) σ := (run_eq 53 36 _ _ σ).trans rfl
theorem e53_37 (ls st : List AV) (σ : St) (y x : Int) : run 53 37 (ls) (vI y :: vI x :: st) σ = run 53 38 (ls) (vI (bOr x y) :: st) σ := (run_eq 53 37 _ _ σ).trans rfl
theorem e53_38 (a0 a1 a2 : AV) (l st : List AV) (σ : St) (q : AV) (x : Int) : run 53 38 (a0 :: a1 :: a2 :: q :: l) (vI x :: st) σ = run 53 39 (a0 :: a1 :: a2 :: vI x :: l) (st) σ := (run_eq 53 38 _ _ σ).trans rfl
theorem e53_39 (a0 a1 a2 a3 : AV) (l st : List AV) (σ : St) (x : Int) : run 53 39 (a0 :: a1 :: a2 :: a3 :: vI x :: l) (st) σ = run 53 42 (a0 :: a1 :: a2 :: a3 :: vI (wr (x + 1)) :: l) (st) σ := (run_eq 53 39 _ _ σ).trans rfl
theorem e53_42 (ls st : List AV) (σ : St) : run 53 42 (ls) (st) σ = run 53 5 (ls) (st) σ := (run_eq 53 42 _ _ σ).trans rfl
theorem e53_45 (a0 a1 a2 : AV) (l st : List AV) (σ : St) (x : Int) : run 53 45 (a0 :: a1 :: a2 :: vI x :: l) (st) σ = run 53 46 (a0 :: a1 :: a2 :: vI x :: l) (vI x :: st) σ := (run_eq 53 45 _ _ σ).trans rfl
theorem e53_46 (ls : List AV) (σ : St) (x : Int) : run 53 46 ls [vI x] σ = some (vI x, σ) := (run_eq 53 46 _ _ σ).trans rfl
/-! F_countOrBits -/
theorem e54_0 (a0 : AV) (l st : List AV) (σ : St) (x : Int) : run 54 0 (a0 :: vI x :: l) (st) σ = run 54 1 (a0 :: vI x :: l) (vI x :: st) σ := (run_eq 54 0 _ _ σ).trans rfl
theorem e54_1 (ls st : List AV) (σ : St) (x : Int) : run 54 1 (ls) (vI x :: st) σ = if x = 0 then run 54 4 (ls) (st) σ else run 54 17 (ls) (st) σ := (run_eq 54 1 _ _ σ).trans rfl
theorem e54_4 (l st : List AV) (σ : St) (x : Int) : run 54 4 (vI x :: l) (st) σ = run 54 5 (vI x :: l) (vI x :: st) σ := (run_eq 54 4 _ _ σ).trans rfl
theorem e54_5 (ls st : List AV) (σ : St) : run 54 5 (ls) (st) σ = run 54 7 (ls) (vI (-6) :: st) σ := (run_eq 54 5 _ _ σ).trans rfl
theorem e54_7 (ls st : List AV) (σ : St) (y x : Int) : run 54 7 (ls) (vI y :: vI x :: st) σ = if x = y then run 54 17 (ls) (st) σ else run 54 10 (ls) (st) σ := (run_eq 54 7 _ _ σ).trans rfl
theorem e54_10 (l st : List AV) (σ : St) (x : Int) : run 54 10 (vI x :: l) (st) σ = run 54 11 (vI x :: l) (vI x :: st) σ := (run_eq 54 10 _ _ σ).trans rfl
theorem e54_11 (ls st : List AV) (σ : St) (x0 : Int) (h4 : st.length ≤ 4) : run 54 11 ls (vI x0 :: st) σ = bnd (run 50 0 [vI x0] [] σ) (fun r σ => run 54 14 ls (psh r st) σ) := (run_eq 54 11 _ _ σ).trans (if_pos ⟨rfl, by simp, by simpa using h4⟩)
theorem e54_14 (ls st : List AV) (σ : St) : run 54 14 (ls) (st) σ = run 54 18 (ls) (st) σ := (run_eq 54 14 _ _ σ).trans rfl
theorem e54_17 (l st : List AV) (σ : St) (x : Int) : run 54 17 (vI x :: l) (st) σ = run 54 18 (vI x :: l) (vI x :: st) σ := (run_eq 54 17 _ _ σ).trans rfl
theorem e54_18 (ls : List AV) (σ : St) (x : Int) : run 54 18 ls [vI x] σ = some (vI x, σ) := (run_eq 54 18 _ _ σ).trans rfl
/-! F_dark -/
theorem e55_0 (l st : List AV) (σ : St) (x : Nat) : run 55 0 (vR x :: l) (st) σ = run 55 1 (vR x :: l) (vR x :: st) σ := (run_eq 55 0 _ _ σ).trans rfl
theorem e55_1 (a0 : AV) (l st : List AV) (σ : St) (x : Int) : run 55 1 (a0 :: vI x :: l) (st) σ = run 55 2 (a0 :: vI x :: l) (vI x :: st) σ := (run_eq 55 1 _ _ σ).trans rfl
theorem e55_2 (ls st : List AV) (σ : St) (x0 : Nat) (x1 : Int) (h4 : st.length ≤ 4) (h : fok σ x0 2) : run 55 2 ls (vI x1 :: vR x0 :: st) σ = bnd (run 43 0 [vR x0, vI x1] [] σ) (fun r σ => run 55 5 ls (psh r st) σ) := (run_eq 55 2 _ _ σ).trans (if_pos ⟨rfl, by simp, by simpa using h4, rfl, h⟩)
theorem e55_5 (ls st : List AV) (σ : St) (x : Int) : run 55 5 (ls) (vI x :: st) σ = if x = 0 then run 55 8 (ls) (st) σ else run 55 10 (ls) (st) σ := (run_eq 55 5 _ _ σ).trans rfl
theorem e55_8 (ls st : List AV) (σ : St) : run 55 8 (ls) (st) σ = run 55 9 (ls) (vI (-1) :: st) σ := (run_eq 55 8 _ _ σ).trans rfl
theorem e55_9 (ls : List AV) (σ : St) (x : Int) : run 55 9 ls [vI x] σ = some (vI x, σ) := (run_eq 55 9 _ _ σ).trans rfl
theorem e55_10 (a0 a1 : AV) (l st : List AV) (σ : St) (x : Int) : run 55 10 (a0 :: a1 :: vI x :: l) (st) σ = run 55 11 (a0 :: a1 :: vI x :: l) (vI x :: st) σ := (run_eq 55 10 _ _ σ).trans rfl
theorem e55_11 (ls st : List AV) (σ : St) : run 55 11 (ls) (st) σ = run 55 12 (ls) (vI 0 :: st) σ := (run_eq 55 11 _ _ σ).trans rfl
theorem e55_12 (ls st : List AV) (σ : St) : run 55 12 (ls) (st) σ = run 55 13 (ls) (vI 1 :: st) σ := (run_eq 55 12 _ _ σ).trans rfl
theorem e55_13 (ls st : List AV) (σ : St) (x0 : Int) (x1 : Int) (x2 : Int) (h4 : st.length ≤ 4) : run 55 13 ls (vI x2 :: vI x1 :: vI x0 :: st) σ = bnd (run 6 0 [vI x0, vI x1, vI x2] [] σ) (fun r σ => run 55 16 ls (psh r st) σ) := (run_eq 55 13 _ _ σ).trans (if_pos ⟨rfl, by simp, by simpa using h4⟩)
theorem e55_16 (ls st : List AV) (σ : St) (x : Int) : run 55 16 (ls) (vI x :: st) σ = if x = 0 then run 55 19 (ls) (st) σ else run 55 22 (ls) (st) σ := (run_eq 55 16 _ _ σ).trans rfl
theorem e55_19 (ls st : List AV) (σ : St) : run 55 19 (ls) (st) σ = run 55 21 (ls) (vI (-2) :: st) σ := (run_eq 55 19 _ _ σ).trans rfl
theorem e55_21 (ls : List AV) (σ : St) (x : Int) : run 55 21 ls [vI x] σ = some (vI x, σ) := (run_eq 55 21 _ _ σ).trans rfl
theorem e55_22 (l st : List AV) (σ : St) (x : Nat) : run 55 22 (vR x :: l) (st) σ = run 55 23 (vR x :: l) (vR x :: st) σ := (run_eq 55 22 _ _ σ).trans rfl
theorem e55_23 (ls st : List AV) (σ : St) (x : Nat) (h : fok σ x 2) : run 55 23 (ls) (vR x :: st) σ = run 55 26 (ls) (vR (gr σ x 2) :: st) σ := (run_eq 55 23 _ _ σ).trans (if_pos h)
theorem e55_26 (ls st : List AV) (σ : St) (x0 : Nat) (h4 : st.length ≤ 4) (h : fok σ x0 1) : run 55 26 ls (vR x0 :: st) σ = bnd (run 48 0 [vR x0, vU, vU] [] σ) (fun r σ => run 55 29 ls (psh r st) σ) := (run_eq 55 26 _ _ σ).trans (if_pos ⟨rfl, by simp, by simpa using h4, rfl, h⟩)
theorem e55_29 (ls st : List AV) (σ : St) (x : Int) : run 55 29 (ls) (vI x :: st) σ = if x = 0 then run 55 32 (ls) (st) σ else run 55 35 (ls) (st) σ := (run_eq 55 29 _ _ σ).trans rfl
theorem e55_32 (ls st : List AV) (σ : St) : run 55 32 (ls) (st) σ = run 55 34 (ls) (vI (-5) :: st) σ := (run_eq 55 32 _ _ σ).trans rfl
theorem e55_34 (ls : List AV) (σ : St) (x : Int) : run 55 34 ls [vI x] σ = some (vI x, σ) := (run_eq 55 34 _ _ σ).trans rfl
theorem e55_35 (l st : List AV) (σ : St) (x : Nat) : run 55 35 (vR x :: l) (st) σ = run 55 36 (vR x :: l) (vR x :: st) σ := (run_eq 55 35 _ _ σ).trans rfl
theorem e55_36 (ls st : List AV) (σ : St) (x : Nat) (h : fok σ x 2) : run 55 36 (ls) (vR x :: st) σ = run 55 39 (ls) (vR (gr σ x 0) :: st) σ := (run_eq 55 36 _ _ σ).trans (if_pos h)
theorem e55_39 (ls st : List AV) (σ : St) (x0 : Nat) (h4 : st.length ≤ 4) (h : fok σ x0 0) : run 55 39 ls (vR x0 :: st) σ = bnd (run 56 0 [vR x0, vU, vU] [] σ) (fun r σ => run 55 42 ls (psh r st) σ) := (run_eq 55 39 _ _ σ).trans (if_pos ⟨rfl, by simp, by simpa using h4, rfl, h⟩)
theorem e55_42 (ls st : List AV) (σ : St) (x0 : Int) (h4 : st.length ≤ 4) : run 55 42 ls (vI x0 :: st) σ = bnd (run 50 0 [vI x0] [] σ) (fun r σ => run 55 45 ls (psh r st) σ) := (run_eq 55 42 _ _ σ).trans (if_pos ⟨rfl, by simp, by simpa using h4⟩)
theorem e55_45 (ls st : List AV) (σ : St) : run 55 45 (ls) (st) σ = run 55 47 (ls) (vI 8 :: st) σ := (run_eq 55 45 _ _ σ).trans rfl
theorem e55_47 (ls st : List AV) (σ : St) (y x : Int) : run 55 47 (ls) (vI y :: vI x :: st) σ = if y < x then run 55 50 (ls) (st) σ else run 55 53 (ls) (st) σ := (run_eq 55 47 _ _ σ).trans rfl
theorem e55_50 (ls st : List AV) (σ : St) : run 55 50 (ls) (st) σ = run 55 52 (ls) (vI (-4) :: st) σ := (run_eq 55 50 _ _ σ).trans rfl
theorem e55_52 (ls : List AV) (σ : St) (x : Int) : run 55 52 ls [vI x] σ = some (vI x, σ) := (run_eq 55 52 _ _ σ).trans rfl
theorem e55_53 (l st : List AV) (σ : St) (x : Nat) : run 55 53 (vR x :: l) (st) σ = run 55 54 (vR x :: l) (vR x :: st) σ := (run_eq 55 53 _ _ σ).trans rfl
theorem e55_54 (a0 : AV) (l st : List AV) (σ : St) (x : Int) : run 55 54 (a0 :: vI x :: l) (st) σ = run 55 55 (a0 :: vI x :: l) (vI x :: st) σ := (run_eq 55 54 _ _ σ).trans rfl
theorem e55_55 (ls st : List AV) (σ : St) (x0 : Nat) (x1 : Int) (h4 : st.length ≤ 4) (h : fok σ x0 2) : run 55 55 ls (vI x1 :: vR x0 :: st) σ = bnd (run 57 0 [vR x0, vI x1, vU, vU, vU] [] σ) (fun r σ => run 55 58 ls (psh r st) σ) := (run_eq 55 55 _ _ σ).trans (if_pos ⟨rfl, by simp, by simpa using h4, rfl, h⟩)
theorem e55_58 (a0 a1 : AV) (l st : List AV) (σ : St) (x : Int) : run 55 58 (a0 :: a1 :: vI x :: l) (st) σ = run 55 59 (a0 :: a1 :: vI x :: l) (vI x :: st) σ := (run_eq 55 58 _ _ σ).trans rfl
theorem e55_59 (ls st : List AV) (σ : St) (x0 : Int) (x1 : Int) (h4 : st.length ≤ 4) : run 55 59 ls (vI x1 :: vI x0 :: st) σ = bnd (run 54 0 [vI x0, vI x1] [] σ) (fun r σ => run 55 62 ls (psh r st) σ) := (run_eq 55 59 _ _ σ).trans (if_pos ⟨rfl, by simp, by simpa using h4⟩)
theorem e55_62 (ls : List AV) (σ : St) (x : Int) : run 55 62 ls [vI x] σ = some (vI x, σ) := (run_eq 55 62 _ _ σ).trans rfl
/-! F_fewestLamps -/
theorem e57_0 (ls st : List AV) (σ : St) : run 57 0 (ls) (st) σ = run 57 1 (ls) (vI 0 :: st) σ := (run_eq 57 0 _ _ σ).trans rfl
theorem e57_1 (a0 a1 : AV) (l st : List AV) (σ : St) (q : AV) (x : Int) : run 57 1 (a0 :: a1 :: q :: l) (vI x :: st) σ = run 57 2 (a0 :: a1 :: vI x :: l) (st) σ := (run_eq 57 1 _ _ σ).trans rfl
theorem e57_2 (ls st : List AV) (σ : St) : run 57 2 (ls) (st) σ = run 57 3 (ls) (vI 0 :: st) σ := (run_eq 57 2 _ _ σ).trans rfl
theorem e57_3 (a0 a1 a2 : AV) (l st : List AV) (σ : St) (q : AV) (x : Int) : run 57 3 (a0 :: a1 :: a2 :: q :: l) (vI x :: st) σ = run 57 4 (a0 :: a1 :: a2 :: vI x :: l) (st) σ := (run_eq 57 3 _ _ σ).trans rfl
theorem e57_4 (a0 a1 a2 : AV) (l st : List AV) (σ : St) (x : Int) : run 57 4 (a0 :: a1 :: a2 :: vI x :: l) (st) σ = run 57 5 (a0 :: a1 :: a2 :: vI x :: l) (vI x :: st) σ := (run_eq 57 4 _ _ σ).trans rfl
theorem e57_5 (l st : List AV) (σ : St) (x : Nat) : run 57 5 (vR x :: l) (st) σ = run 57 6 (vR x :: l) (vR x :: st) σ := (run_eq 57 5 _ _ σ).trans rfl
theorem e57_6 (ls st : List AV) (σ : St) (x : Nat) (h : fok σ x 2) : run 57 6 (ls) (vR x :: st) σ = run 57 9 (ls) (vR (gr σ x 0) :: st) σ := (run_eq 57 6 _ _ σ).trans (if_pos h)
theorem e57_9 (ls st : List AV) (σ : St) (x : Nat) (h : fok σ x 0) : run 57 9 (ls) (vR x :: st) σ = run 57 12 (ls) (vI (gt σ x 2) :: st) σ := (run_eq 57 9 _ _ σ).trans (if_pos h)
theorem e57_12 (ls st : List AV) (σ : St) (y x : Int) : run 57 12 (ls) (vI y :: vI x :: st) σ = if x < y then run 57 15 (ls) (st) σ else run 57 48 (ls) (st) σ := (run_eq 57 12 _ _ σ).trans rfl
theorem e57_15 (l st : List AV) (σ : St) (x : Nat) : run 57 15 (vR x :: l) (st) σ = run 57 16 (vR x :: l) (vR x :: st) σ := (run_eq 57 15 _ _ σ).trans rfl
theorem e57_16 (ls st : List AV) (σ : St) (x : Nat) (h : fok σ x 2) : run 57 16 (ls) (vR x :: st) σ = run 57 19 (ls) (vR (gr σ x 0) :: st) σ := (run_eq 57 16 _ _ σ).trans (if_pos h)
theorem e57_19 (ls st : List AV) (σ : St) (x : Nat) (h : fok σ x 0) : run 57 19 (ls) (vR x :: st) σ = run 57 22 (ls) (vR (gr σ x 7) :: st) σ := (run_eq 57 19 _ _ σ).trans (if_pos h)
theorem e57_22 (a0 a1 a2 : AV) (l st : List AV) (σ : St) (x : Int) : run 57 22 (a0 :: a1 :: a2 :: vI x :: l) (st) σ = run 57 23 (a0 :: a1 :: a2 :: vI x :: l) (vI x :: st) σ := (run_eq 57 22 _ _ σ).trans rfl
theorem e57_23 (ls st : List AV) (σ : St) (x0 : Nat) (x1 : Int) (h4 : st.length ≤ 4) : run 57 23 ls (vI x1 :: vR x0 :: st) σ = bnd (run 10 0 [vR x0, vI x1] [] σ) (fun r σ => run 57 26 ls (psh r st) σ) := (run_eq 57 23 _ _ σ).trans (if_pos ⟨rfl, by simp, by simpa using h4⟩)
theorem e57_26 (ls st : List AV) (σ : St) : run 57 26 (ls) (st) σ = run 57 27 (ls) (vI 1 :: st) σ := (run_eq 57 26 _ _ σ).trans rfl
theorem e57_27 (ls st : List AV) (σ : St) (y x : Int) : run 57 27 (ls) (vI y :: vI x :: st) σ = if x = y then run 57 30 (ls) (st) σ else run 57 42 (ls) (st) σ := (run_eq 57 27 _ _ σ).trans rfl
theorem e57_30 (l st : List AV) (σ : St) (x : Nat) : run 57 30 (vR x :: l) (st) σ = run 57 31 (vR x :: l) (vR x :: st) σ := (run_eq 57 30 _ _ σ).trans rfl
theorem e57_31 (ls st : List AV) (σ : St) (x : Nat) (h : fok σ x 2) : run 57 31 (ls) (vR x :: st) σ = run 57 34 (ls) (vR (gr σ x 4) :: st) σ := (run_eq 57 31 _ _ σ).trans (if_pos h)
theorem e57_34 (a0 a1 : AV) (l st : List AV) (σ : St) (x : Int) : run 57 34 (a0 :: a1 :: vI x :: l) (st) σ = run 57 35 (a0 :: a1 :: vI x :: l) (vI x :: st) σ := (run_eq 57 34 _ _ σ).trans rfl
theorem e57_35 (a0 a1 a2 : AV) (l st : List AV) (σ : St) (x : Int) : run 57 35 (a0 :: a1 :: a2 :: vI x :: l) (st) σ = run 57 36 (a0 :: a1 :: a2 :: vI x :: l) (vI x :: st) σ := (run_eq 57 35 _ _ σ).trans rfl
theorem e57_36 (ls st : List AV) (σ : St) (x0 : Nat) (x1 : Int) (x2 : Int) (h4 : st.length ≤ 4) : run 57 36 ls (vI x2 :: vI x1 :: vR x0 :: st) σ = bnd (run 11 0 [vR x0, vI x1, vI x2] [] σ) (fun r σ => run 57 39 ls (psh r st) σ) := (run_eq 57 36 _ _ σ).trans (if_pos ⟨rfl, by simp, by simpa using h4⟩)
theorem e57_39 (a0 a1 : AV) (l st : List AV) (σ : St) (x : Int) : run 57 39 (a0 :: a1 :: vI x :: l) (st) σ = run 57 42 (a0 :: a1 :: vI (wr (x + 1)) :: l) (st) σ := (run_eq 57 39 _ _ σ).trans rfl
theorem e57_42 (a0 a1 a2 : AV) (l st : List AV) (σ : St) (x : Int) : run 57 42 (a0 :: a1 :: a2 :: vI x :: l) (st) σ = run 57 45 (a0 :: a1 :: a2 :: vI (wr (x + 1)) :: l) (st) σ := (run_eq 57 42 _ _ σ).trans rfl
theorem e57_45 (ls st : List AV) (σ : St) : run 57 45 (ls) (st) σ = run 57 4 (ls) (st) σ := (run_eq 57 45 _ _ σ).trans rfl
theorem e57_48 (l st : List AV) (σ : St) (x : Nat) : run 57 48 (vR x :: l) (st) σ = run 57 49 (vR x :: l) (vR x :: st) σ := (run_eq 57 48 _ _ σ).trans rfl
theorem e57_49 (ls st : List AV) (σ : St) (x : Nat) (h : fok σ x 2) : run 57 49 (ls) (vR x :: st) σ = run 57 52 (ls) (vR (gr σ x 1) :: st) σ := (run_eq 57 49 _ _ σ).trans (if_pos h)
theorem e57_52 (l st : List AV) (σ : St) (x : Nat) : run 57 52 (vR x :: l) (st) σ = run 57 53 (vR x :: l) (vR x :: st) σ := (run_eq 57 52 _ _ σ).trans rfl
theorem e57_53 (ls st : List AV) (σ : St) (x : Nat) (h : fok σ x 2) : run 57 53 (ls) (vR x :: st) σ = run 57 56 (ls) (vR (gr σ x 0) :: st) σ := (run_eq 57 53 _ _ σ).trans (if_pos h)
theorem e57_56 (ls st : List AV) (σ : St) (x0 : Nat) (x1 : Nat) (h4 : st.length ≤ 4) (h : fok σ x0 0) : run 57 56 ls (vR x1 :: vR x0 :: st) σ = bnd (run 27 0 [vR x0, vR x1] [] σ) (fun r σ => run 57 59 ls (psh r st) σ) := (run_eq 57 56 _ _ σ).trans (if_pos ⟨rfl, by simp, by simpa using h4, rfl, h⟩)
theorem e57_59 (ls st : List AV) (σ : St) : run 57 59 (ls) (st) σ = run 57 60 (ls) (vI 0 :: st) σ := (run_eq 57 59 _ _ σ).trans rfl
theorem e57_60 (a0 a1 a2 : AV) (l st : List AV) (σ : St) (q : AV) (x : Int) : run 57 60 (a0 :: a1 :: a2 :: q :: l) (vI x :: st) σ = run 57 61 (a0 :: a1 :: a2 :: vI x :: l) (st) σ := (run_eq 57 60 _ _ σ).trans rfl
theorem e57_61 (a0 a1 a2 : AV) (l st : List AV) (σ : St) (x : Int) : run 57 61 (a0 :: a1 :: a2 :: vI x :: l) (st) σ = run 57 62 (a0 :: a1 :: a2 :: vI x :: l) (vI x :: st) σ := (run_eq 57 61 _ _ σ).trans rfl
theorem e57_62 (a0 a1 : AV) (l st : List AV) (σ : St) (x : Int) : run 57 62 (a0 :: a1 :: vI x :: l) (st) σ = run 57 63 (a0 :: a1 :: vI x :: l) (vI x :: st) σ := (run_eq 57 62 _ _ σ).trans rfl
theorem e57_63 (ls st : List AV) (σ : St) (y x : Int) : run 57 63 (ls) (vI y :: vI x :: st) σ = if y < x then run 57 121 (ls) (st) σ else run 57 66 (ls) (st) σ := (run_eq 57 63 _ _ σ).trans rfl
theorem e57_66 (ls st : List AV) (σ : St) : run 57 66 (ls) (st) σ = run 57 67 (ls) (vI 0 :: st) σ := (run_eq 57 66 _ _ σ).trans rfl
theorem e57_67 (a0 a1 a2 a3 : AV) (l st : List AV) (σ : St) (q : AV) (x : Int) : run 57 67 (a0 :: a1 :: a2 :: a3 :: q :: l) (vI x :: st) σ = run 57 69 (a0 :: a1 :: a2 :: a3 :: vI x :: l) (st) σ := (run_eq 57 67 _ _ σ).trans rfl
theorem e57_69 (a0 a1 a2 a3 : AV) (l st : List AV) (σ : St) (x : Int) : run 57 69 (a0 :: a1 :: a2 :: a3 :: vI x :: l) (st) σ = run 57 71 (a0 :: a1 :: a2 :: a3 :: vI x :: l) (vI x :: st) σ := (run_eq 57 69 _ _ σ).trans rfl
theorem e57_71 (ls st : List AV) (σ : St) : run 57 71 (ls) (st) σ = run 57 72 (ls) (vI 1 :: st) σ := (run_eq 57 71 _ _ σ).trans rfl
theorem e57_72 (a0 a1 : AV) (l st : List AV) (σ : St) (x : Int) : run 57 72 (a0 :: a1 :: vI x :: l) (st) σ = run 57 73 (a0 :: a1 :: vI x :: l) (vI x :: st) σ := (run_eq 57 72 _ _ σ).trans rfl
theorem e57_73 (ls st : List AV) (σ : St) (y x : Int) : run 57 73 (ls) (vI y :: vI x :: st) σ = run 57 74 (ls) (vI (bShl x y) :: st) σ := (run_eq 57 73 _ _ σ).trans rfl
theorem e57_74 (ls st : List AV) (σ : St) (y x : Int) : run 57 74 (ls) (vI y :: vI x :: st) σ = if x < y then run 57 77 (ls) (st) σ else run 57 115 (ls) (st) σ := (run_eq 57 74 _ _ σ).trans rfl
theorem e57_77 (a0 a1 a2 a3 : AV) (l st : List AV) (σ : St) (x : Int) : run 57 77 (a0 :: a1 :: a2 :: a3 :: vI x :: l) (st) σ = run 57 79 (a0 :: a1 :: a2 :: a3 :: vI x :: l) (vI x :: st) σ := (run_eq 57 77 _ _ σ).trans rfl
theorem e57_79 (ls st : List AV) (σ : St) (x0 : Int) (h4 : st.length ≤ 4) : run 57 79 ls (vI x0 :: st) σ = bnd (run 50 0 [vI x0] [] σ) (fun r σ => run 57 82 ls (psh r st) σ) := (run_eq 57 79 _ _ σ).trans (if_pos ⟨rfl, by simp, by simpa using h4⟩)
theorem e57_82 (a0 a1 a2 : AV) (l st : List AV) (σ : St) (x : Int) : run 57 82 (a0 :: a1 :: a2 :: vI x :: l) (st) σ = run 57 83 (a0 :: a1 :: a2 :: vI x :: l) (vI x :: st) σ := (run_eq 57 82 _ _ σ).trans rfl
theorem e57_83 (ls st : List AV) (σ : St) (y x : Int) : run 57 83 (ls) (vI y :: vI x :: st) σ = if x = y then run 57 86 (ls) (st) σ else run 57 109 (ls) (st) σ := (run_eq 57 83 _ _ σ).trans rfl
theorem e57_86 (l st : List AV) (σ : St) (x : Nat) : run 57 86 (vR x :: l) (st) σ = run 57 87 (vR x :: l) (vR x :: st) σ := (run_eq 57 86 _ _ σ).trans rfl
theorem e57_87 (a0 : AV) (l st : List AV) (σ : St) (x : Int) : run 57 87 (a0 :: vI x :: l) (st) σ = run 57 88 (a0 :: vI x :: l) (vI x :: st) σ := (run_eq 57 87 _ _ σ).trans rfl
theorem e57_88 (l st : List AV) (σ : St) (x : Nat) : run 57 88 (vR x :: l) (st) σ = run 57 89 (vR x :: l) (vR x :: st) σ := (run_eq 57 88 _ _ σ).trans rfl
theorem e57_89 (a0 a1 a2 a3 : AV) (l st : List AV) (σ : St) (x : Int) : run 57 89 (a0 :: a1 :: a2 :: a3 :: vI x :: l) (st) σ = run 57 91 (a0 :: a1 :: a2 :: a3 :: vI x :: l) (vI x :: st) σ := (run_eq 57 89 _ _ σ).trans rfl
theorem e57_91 (a0 a1 : AV) (l st : List AV) (σ : St) (x : Int) : run 57 91 (a0 :: a1 :: vI x :: l) (st) σ = run 57 92 (a0 :: a1 :: vI x :: l) (vI x :: st) σ := (run_eq 57 91 _ _ σ).trans rfl
theorem e57_92 (ls st : List AV) (σ : St) (x0 : Nat) (x1 : Int) (x2 : Int) (h4 : st.length ≤ 4) (h : fok σ x0 2) : run 57 92 ls (vI x2 :: vI x1 :: vR x0 :: st) σ = bnd (run 53 0 [vR x0, vI x1, vI x2, vU, vU] [] σ) (fun r σ => run 57 95 ls (psh r st) σ) := (run_eq 57 92 _ _ σ).trans (if_pos ⟨rfl, by simp, by simpa using h4, rfl, h⟩)
theorem e57_95 (ls st : List AV) (σ : St) (x0 : Nat) (x1 : Int) (x2 : Int) (h4 : st.length ≤ 4) (h : fok σ x0 2) : run 57 95 ls (vI x2 :: vI x1 :: vR x0 :: st) σ = bnd (run 58 0 [vR x0, vI x1, vI x2] [] σ) (fun r σ => run 57 98 ls (psh r st) σ) := (run_eq 57 95 _ _ σ).trans (if_pos ⟨rfl, by simp, by simpa using h4, rfl, h⟩)
theorem e57_98 (ls st : List AV) (σ : St) (x : Int) : run 57 98 (ls) (vI x :: st) σ = if x = 0 then run 57 109 (ls) (st) σ else run 57 101 (ls) (st) σ := (run_eq 57 98 _ _ σ).trans rfl
theorem e57_101 (l st : List AV) (σ : St) (x : Nat) : run 57 101 (vR x :: l) (st) σ = run 57 102 (vR x :: l) (vR x :: st) σ := (run_eq 57 101 _ _ σ).trans rfl
theorem e57_102 (a0 a1 a2 a3 : AV) (l st : List AV) (σ : St) (x : Int) : run 57 102 (a0 :: a1 :: a2 :: a3 :: vI x :: l) (st) σ = run 57 104 (a0 :: a1 :: a2 :: a3 :: vI x :: l) (vI x :: st) σ := (run_eq 57 102 _ _ σ).trans rfl
theorem e57_104 (a0 a1 : AV) (l st : List AV) (σ : St) (x : Int) : run 57 104 (a0 :: a1 :: vI x :: l) (st) σ = run 57 105 (a0 :: a1 :: vI x :: l) (vI x :: st) σ := (run_eq 57 104 _ _ σ).trans rfl
theorem e57_105 (ls st : List AV) (σ : St) (x0 : Nat) (x1 : Int) (x2 : Int) (h4 : st.length ≤ 4) (h : fok σ x0 2) : run 57 105 ls (vI x2 :: vI x1 :: vR x0 :: st) σ = bnd (run 53 0 [vR x0, vI x1, vI x2, vU, vU] [] σ) (fun r σ => run 57 108 ls (psh r st) σ) := (run_eq 57 105 _ _ σ).trans (if_pos ⟨rfl, by simp, by simpa using h4, rfl, h⟩)
theorem e57_108 (ls : List AV) (σ : St) (x : Int) : run 57 108 ls [vI x] σ = some (vI x, σ) := (run_eq 57 108 _ _ σ).trans rfl
theorem e57_109 (a0 a1 a2 a3 : AV) (l st : List AV) (σ : St) (x : Int) : run 57 109 (a0 :: a1 :: a2 :: a3 :: vI x :: l) (st) σ = run 57 112 (a0 :: a1 :: a2 :: a3 :: vI (wr (x + 1)) :: l) (st) σ := (run_eq 57 109 _ _ σ).trans rfl
theorem e57_112 (ls st : List AV) (σ : St) : run 57 112 (ls) (st) σ = run 57 69 (ls) (st) σ := (run_eq 57 112 _ _ σ).trans rfl
theorem e57_115 (a0 a1 a2 : AV) (l st : List AV) (σ : St) (x : Int) : run 57 115 (a0 :: a1 :: a2 :: vI x :: l) (st) σ = run 57 118 (a0 :: a1 :: a2 :: vI (wr (x + 1)) :: l) (st) σ := (run_eq 57 115 _ _ σ).trans rfl
theorem e57_118 (ls st : List AV) (σ : St) : run 57 118 (ls) (st) σ = run 57 61 (ls) (st) σ := (run_eq 57 118 _ _ σ).trans rfl
theorem e57_121 (ls st : List AV) (σ : St) : run 57 121 (ls) (st) σ = run 57 123 (ls) (vI (-6) :: st) σ := (run_eq 57 121 _ _ σ).trans rfl
theorem e57_123 (ls : List AV) (σ : St) (x : Int) : run 57 123 ls [vI x] σ = some (vI x, σ) := (run_eq 57 123 _ _ σ).trans rfl
/-! F_standsWithout -/
theorem e58_0 (l st : List AV) (σ : St) (x : Nat) : run 58 0 (vR x :: l) (st) σ = run 58 1 (vR x :: l) (vR x :: st) σ := (run_eq 58 0 _ _ σ).trans rfl
theorem e58_1 (ls st : List AV) (σ : St) (x : Nat) (h : fok σ x 2) : run 58 1 (ls) (vR x :: st) σ = run 58 4 (ls) (vR (gr σ x 1) :: st) σ := (run_eq 58 1 _ _ σ).trans (if_pos h)
theorem e58_4 (l st : List AV) (σ : St) (x : Nat) : run 58 4 (vR x :: l) (st) σ = run 58 5 (vR x :: l) (vR x :: st) σ := (run_eq 58 4 _ _ σ).trans rfl
theorem e58_5 (ls st : List AV) (σ : St) (x : Nat) (h : fok σ x 2) : run 58 5 (ls) (vR x :: st) σ = run 58 8 (ls) (vR (gr σ x 0) :: st) σ := (run_eq 58 5 _ _ σ).trans (if_pos h)
theorem e58_8 (ls st : List AV) (σ : St) (x0 : Nat) (x1 : Nat) (h4 : st.length ≤ 4) (h : fok σ x0 0) : run 58 8 ls (vR x1 :: vR x0 :: st) σ = bnd (run 29 0 [vR x0, vR x1] [] σ) (fun r σ => run 58 11 ls (psh r st) σ) := (run_eq 58 8 _ _ σ).trans (if_pos ⟨rfl, by simp, by simpa using h4, rfl, h⟩)
theorem e58_11 (l st : List AV) (σ : St) (x : Nat) : run 58 11 (vR x :: l) (st) σ = run 58 12 (vR x :: l) (vR x :: st) σ := (run_eq 58 11 _ _ σ).trans rfl
theorem e58_12 (ls st : List AV) (σ : St) (x : Nat) (h : fok σ x 2) : run 58 12 (ls) (vR x :: st) σ = run 58 15 (ls) (vR (gr σ x 1) :: st) σ := (run_eq 58 12 _ _ σ).trans (if_pos h)
theorem e58_15 (a0 a1 : AV) (l st : List AV) (σ : St) (x : Int) : run 58 15 (a0 :: a1 :: vI x :: l) (st) σ = run 58 16 (a0 :: a1 :: vI x :: l) (vI x :: st) σ := (run_eq 58 15 _ _ σ).trans rfl
theorem e58_16 (ls st : List AV) (σ : St) (x0 : Nat) (x1 : Int) (h4 : st.length ≤ 4) (h : fok σ x0 0) : run 58 16 ls (vI x1 :: vR x0 :: st) σ = bnd (run 59 0 [vR x0, vI x1, vU] [] σ) (fun r σ => run 58 19 ls (psh r st) σ) := (run_eq 58 16 _ _ σ).trans (if_pos ⟨rfl, by simp, by simpa using h4, rfl, h⟩)
theorem e58_19 (l st : List AV) (σ : St) (x : Nat) : run 58 19 (vR x :: l) (st) σ = run 58 20 (vR x :: l) (vR x :: st) σ := (run_eq 58 19 _ _ σ).trans rfl
theorem e58_20 (ls st : List AV) (σ : St) (x : Nat) (h : fok σ x 2) : run 58 20 (ls) (vR x :: st) σ = run 58 23 (ls) (vR (gr σ x 2) :: st) σ := (run_eq 58 20 _ _ σ).trans (if_pos h)
theorem e58_23 (l st : List AV) (σ : St) (x : Nat) : run 58 23 (vR x :: l) (st) σ = run 58 24 (vR x :: l) (vR x :: st) σ := (run_eq 58 23 _ _ σ).trans rfl
theorem e58_24 (ls st : List AV) (σ : St) (x : Nat) (h : fok σ x 2) : run 58 24 (ls) (vR x :: st) σ = run 58 27 (ls) (vR (gr σ x 1) :: st) σ := (run_eq 58 24 _ _ σ).trans (if_pos h)
theorem e58_27 (ls st : List AV) (σ : St) (x0 : Nat) (x1 : Nat) (h4 : st.length ≤ 4) (h : fok σ x0 1) : run 58 27 ls (vR x1 :: vR x0 :: st) σ = bnd (run 52 0 [vR x0, vR x1, vU] [] σ) (fun r σ => run 58 30 ls (psh r st) σ) := (run_eq 58 27 _ _ σ).trans (if_pos ⟨rfl, by simp, by simpa using h4, rfl, h⟩)
theorem e58_30 (l st : List AV) (σ : St) (x : Nat) : run 58 30 (vR x :: l) (st) σ = run 58 31 (vR x :: l) (vR x :: st) σ := (run_eq 58 30 _ _ σ).trans rfl
theorem e58_31 (ls st : List AV) (σ : St) (x : Nat) (h : fok σ x 2) : run 58 31 (ls) (vR x :: st) σ = run 58 34 (ls) (vR (gr σ x 1) :: st) σ := (run_eq 58 31 _ _ σ).trans (if_pos h)
theorem e58_34 (a0 : AV) (l st : List AV) (σ : St) (x : Int) : run 58 34 (a0 :: vI x :: l) (st) σ = run 58 35 (a0 :: vI x :: l) (vI x :: st) σ := (run_eq 58 34 _ _ σ).trans rfl
theorem e58_35 (ls st : List AV) (σ : St) (x0 : Nat) (x1 : Int) (h4 : st.length ≤ 4) (h : fok σ x0 0) : run 58 35 ls (vI x1 :: vR x0 :: st) σ = bnd (run 35 0 [vR x0, vI x1] [] σ) (fun r σ => run 58 38 ls (psh r st) σ) := (run_eq 58 35 _ _ σ).trans (if_pos ⟨rfl, by simp, by simpa using h4, rfl, h⟩)
theorem e58_38 (ls : List AV) (σ : St) (x : Int) (h : x = 0 ∨ x = 1) : run 58 38 ls [vI x] σ = some (vI x, σ) := (run_eq 58 38 _ _ σ).trans (if_pos h)
/-! F_moved -/
theorem e60_0 (l st : List AV) (σ : St) (x : Nat) : run 60 0 (vR x :: l) (st) σ = run 60 1 (vR x :: l) (vR x :: st) σ := (run_eq 60 0 _ _ σ).trans rfl
theorem e60_1 (a0 : AV) (l st : List AV) (σ : St) (x : Int) : run 60 1 (a0 :: vI x :: l) (st) σ = run 60 2 (a0 :: vI x :: l) (vI x :: st) σ := (run_eq 60 1 _ _ σ).trans rfl
theorem e60_2 (ls st : List AV) (σ : St) (x0 : Nat) (x1 : Int) (h4 : st.length ≤ 4) (h : fok σ x0 2) : run 60 2 ls (vI x1 :: vR x0 :: st) σ = bnd (run 43 0 [vR x0, vI x1] [] σ) (fun r σ => run 60 5 ls (psh r st) σ) := (run_eq 60 2 _ _ σ).trans (if_pos ⟨rfl, by simp, by simpa using h4, rfl, h⟩)
theorem e60_5 (ls st : List AV) (σ : St) (x : Int) : run 60 5 (ls) (vI x :: st) σ = if x = 0 then run 60 8 (ls) (st) σ else run 60 10 (ls) (st) σ := (run_eq 60 5 _ _ σ).trans rfl
theorem e60_8 (ls st : List AV) (σ : St) : run 60 8 (ls) (st) σ = run 60 9 (ls) (vI (-1) :: st) σ := (run_eq 60 8 _ _ σ).trans rfl
theorem e60_9 (ls : List AV) (σ : St) (x : Int) : run 60 9 ls [vI x] σ = some (vI x, σ) := (run_eq 60 9 _ _ σ).trans rfl
theorem e60_10 (a0 a1 : AV) (l st : List AV) (σ : St) (x : Int) : run 60 10 (a0 :: a1 :: vI x :: l) (st) σ = run 60 11 (a0 :: a1 :: vI x :: l) (vI x :: st) σ := (run_eq 60 10 _ _ σ).trans rfl
theorem e60_11 (ls st : List AV) (σ : St) : run 60 11 (ls) (st) σ = run 60 12 (ls) (vI 0 :: st) σ := (run_eq 60 11 _ _ σ).trans rfl
theorem e60_12 (ls st : List AV) (σ : St) : run 60 12 (ls) (st) σ = run 60 13 (ls) (vI 1 :: st) σ := (run_eq 60 12 _ _ σ).trans rfl
theorem e60_13 (ls st : List AV) (σ : St) (x0 : Int) (x1 : Int) (x2 : Int) (h4 : st.length ≤ 4) : run 60 13 ls (vI x2 :: vI x1 :: vI x0 :: st) σ = bnd (run 6 0 [vI x0, vI x1, vI x2] [] σ) (fun r σ => run 60 16 ls (psh r st) σ) := (run_eq 60 13 _ _ σ).trans (if_pos ⟨rfl, by simp, by simpa using h4⟩)
theorem e60_16 (ls st : List AV) (σ : St) (x : Int) : run 60 16 (ls) (vI x :: st) σ = if x = 0 then run 60 19 (ls) (st) σ else run 60 22 (ls) (st) σ := (run_eq 60 16 _ _ σ).trans rfl
theorem e60_19 (ls st : List AV) (σ : St) : run 60 19 (ls) (st) σ = run 60 21 (ls) (vI (-2) :: st) σ := (run_eq 60 19 _ _ σ).trans rfl
theorem e60_21 (ls : List AV) (σ : St) (x : Int) : run 60 21 ls [vI x] σ = some (vI x, σ) := (run_eq 60 21 _ _ σ).trans rfl
theorem e60_22 (ls st : List AV) (σ : St) : run 60 22 (ls) (st) σ = run 60 24 (ls) (vI 1000000 :: st) σ := (run_eq 60 22 _ _ σ).trans rfl
theorem e60_24 (a0 a1 a2 : AV) (l st : List AV) (σ : St) (q : AV) (x : Int) : run 60 24 (a0 :: a1 :: a2 :: q :: l) (vI x :: st) σ = run 60 25 (a0 :: a1 :: a2 :: vI x :: l) (st) σ := (run_eq 60 24 _ _ σ).trans rfl
theorem e60_25 (ls st : List AV) (σ : St) : run 60 25 (ls) (st) σ = run 60 27 (ls) (vI (-6) :: st) σ := (run_eq 60 25 _ _ σ).trans rfl
theorem e60_27 (a0 a1 a2 a3 : AV) (l st : List AV) (σ : St) (q : AV) (x : Int) : run 60 27 (a0 :: a1 :: a2 :: a3 :: q :: l) (vI x :: st) σ = run 60 29 (a0 :: a1 :: a2 :: a3 :: vI x :: l) (st) σ := (run_eq 60 27 _ _ σ).trans rfl
theorem e60_29 (ls st : List AV) (σ : St) : run 60 29 (ls) (st) σ = run 60 31 (ls) (vI (-3) :: st) σ := (run_eq 60 29 _ _ σ).trans rfl
theorem e60_31 (a0 a1 a2 a3 a4 : AV) (l st : List AV) (σ : St) (q : AV) (x : Int) : run 60 31 (a0 :: a1 :: a2 :: a3 :: a4 :: q :: l) (vI x :: st) σ = run 60 33 (a0 :: a1 :: a2 :: a3 :: a4 :: vI x :: l) (st) σ := (run_eq 60 31 _ _ σ).trans rfl
theorem e60_33 (a0 a1 a2 a3 a4 : AV) (l st : List AV) (σ : St) (x : Int) : run 60 33 (a0 :: a1 :: a2 :: a3 :: a4 :: vI x :: l) (st) σ = run 60 35 (a0 :: a1 :: a2 :: a3 :: a4 :: vI x :: l) (vI x :: st) σ := (run_eq 60 33 _ _ σ).trans rfl
theorem e60_35 (ls st : List AV) (σ : St) : run 60 35 (ls) (st) σ = run 60 36 (ls) (vI 4 :: st) σ := (run_eq 60 35 _ _ σ).trans rfl
theorem e60_36 (ls st : List AV) (σ : St) (y x : Int) : run 60 36 (ls) (vI y :: vI x :: st) σ = if x < y then run 60 39 (ls) (st) σ else run 60 99 (ls) (st) σ := (run_eq 60 36 _ _ σ).trans rfl
theorem e60_39 (ls st : List AV) (σ : St) : run 60 39 (ls) (st) σ = run 60 41 (ls) (vI (-5) :: st) σ := (run_eq 60 39 _ _ σ).trans rfl
theorem e60_41 (a0 a1 a2 a3 a4 a5 : AV) (l st : List AV) (σ : St) (q : AV) (x : Int) : run 60 41 (a0 :: a1 :: a2 :: a3 :: a4 :: a5 :: q :: l) (vI x :: st) σ = run 60 43 (a0 :: a1 :: a2 :: a3 :: a4 :: a5 :: vI x :: l) (st) σ := (run_eq 60 41 _ _ σ).trans rfl
theorem e60_43 (a0 a1 a2 a3 a4 a5 : AV) (l st : List AV) (σ : St) (x : Int) : run 60 43 (a0 :: a1 :: a2 :: a3 :: a4 :: a5 :: vI x :: l) (st) σ = run 60 45 (a0 :: a1 :: a2 :: a3 :: a4 :: a5 :: vI x :: l) (vI x :: st) σ := (run_eq 60 43 _ _ σ).trans rfl
theorem e60_45 (ls st : List AV) (σ : St) : run 60 45 (ls) (st) σ = run 60 47 (ls) (vI 6 :: st) σ := (run_eq 60 45 _ _ σ).trans rfl
theorem e60_47 (ls st : List AV) (σ : St) (y x : Int) : run 60 47 (ls) (vI y :: vI x :: st) σ = if x < y then run 60 50 (ls) (st) σ else run 60 93 (ls) (st) σ := (run_eq 60 47 _ _ σ).trans rfl
theorem e60_50 (l st : List AV) (σ : St) (x : Nat) : run 60 50 (vR x :: l) (st) σ = run 60 51 (vR x :: l) (vR x :: st) σ := (run_eq 60 50 _ _ σ).trans rfl
theorem e60_51 (ls st : List AV) (σ : St) (x : Nat) (h : fok σ x 2) : run 60 51 (ls) (vR x :: st) σ = run 60 54 (ls) (vR (gr σ x 0) :: st) σ := (run_eq 60 51 _ _ σ).trans (if_pos h)
theorem e60_54 (a0 : AV) (l st : List AV) (σ : St) (x : Int) : run 60 54 (a0 :: vI x :: l) (st) σ = run 60 55 (a0 :: vI x :: l) (vI x :: st) σ := (run_eq 60 54 _ _ σ).trans rfl
theorem e60_55 (a0 a1 a2 a3 a4 : AV) (l st : List AV) (σ : St) (x : Int) : run 60 55 (a0 :: a1 :: a2 :: a3 :: a4 :: vI x :: l) (st) σ = run 60 57 (a0 :: a1 :: a2 :: a3 :: a4 :: vI x :: l) (vI x :: st) σ := (run_eq 60 55 _ _ σ).trans rfl
theorem e60_57 (a0 a1 a2 a3 a4 a5 : AV) (l st : List AV) (σ : St) (x : Int) : run 60 57 (a0 :: a1 :: a2 :: a3 :: a4 :: a5 :: vI x :: l) (st) σ = run 60 59 (a0 :: a1 :: a2 :: a3 :: a4 :: a5 :: vI x :: l) (vI x :: st) σ := (run_eq 60 57 _ _ σ).trans rfl
theorem e60_59 (ls st : List AV) (σ : St) (x0 : Nat) (x1 : Int) (x2 : Int) (x3 : Int) (h4 : st.length ≤ 4) (h : fok σ x0 0) : run 60 59 ls (vI x3 :: vI x2 :: vI x1 :: vR x0 :: st) σ = bnd (run 36 0 [vR x0, vI x1, vI x2, vI x3, vU, vU, vU, vU] [] σ) (fun r σ => run 60 62 ls (psh r st) σ) := (run_eq 60 59 _ _ σ).trans (if_pos ⟨rfl, by simp, by simpa using h4, rfl, h⟩)
theorem e60_62 (a0 a1 a2 a3 a4 a5 a6 : AV) (l st : List AV) (σ : St) (q : AV) (x : Int) : run 60 62 (a0 :: a1 :: a2 :: a3 :: a4 :: a5 :: a6 :: q :: l) (vI x :: st) σ = run 60 64 (a0 :: a1 :: a2 :: a3 :: a4 :: a5 :: a6 :: vI x :: l) (st) σ := (run_eq 60 62 _ _ σ).trans rfl
theorem e60_64 (a0 a1 a2 a3 a4 a5 a6 : AV) (l st : List AV) (σ : St) (x : Int) : run 60 64 (a0 :: a1 :: a2 :: a3 :: a4 :: a5 :: a6 :: vI x :: l) (st) σ = run 60 66 (a0 :: a1 :: a2 :: a3 :: a4 :: a5 :: a6 :: vI x :: l) (vI x :: st) σ := (run_eq 60 64 _ _ σ).trans rfl
theorem e60_66 (a0 a1 a2 : AV) (l st : List AV) (σ : St) (x : Int) : run 60 66 (a0 :: a1 :: a2 :: vI x :: l) (st) σ = run 60 67 (a0 :: a1 :: a2 :: vI x :: l) (vI x :: st) σ := (run_eq 60 66 _ _ σ).trans rfl
theorem e60_67 (ls st : List AV) (σ : St) (y x : Int) : run 60 67 (ls) (vI y :: vI x :: st) σ = if x < y then run 60 70 (ls) (st) σ else run 60 87 (ls) (st) σ := (run_eq 60 67 _ _ σ).trans rfl
theorem e60_70 (a0 a1 a2 a3 a4 a5 a6 : AV) (l st : List AV) (σ : St) (x : Int) : run 60 70 (a0 :: a1 :: a2 :: a3 :: a4 :: a5 :: a6 :: vI x :: l) (st) σ = run 60 72 (a0 :: a1 :: a2 :: a3 :: a4 :: a5 :: a6 :: vI x :: l) (vI x :: st) σ := (run_eq 60 70 _ _ σ).trans rfl
theorem e60_72 (a0 a1 a2 : AV) (l st : List AV) (σ : St) (q : AV) (x : Int) : run 60 72 (a0 :: a1 :: a2 :: q :: l) (vI x :: st) σ = run 60 73 (a0 :: a1 :: a2 :: vI x :: l) (st) σ := (run_eq 60 72 _ _ σ).trans rfl
theorem e60_73 (ls st : List AV) (σ : St) : run 60 73 (ls) (st) σ = run 60 75 (ls) (vI 100 :: st) σ := (run_eq 60 73 _ _ σ).trans rfl
theorem e60_75 (a0 a1 a2 a3 a4 : AV) (l st : List AV) (σ : St) (x : Int) : run 60 75 (a0 :: a1 :: a2 :: a3 :: a4 :: vI x :: l) (st) σ = run 60 77 (a0 :: a1 :: a2 :: a3 :: a4 :: vI x :: l) (vI x :: st) σ := (run_eq 60 75 _ _ σ).trans rfl
theorem e60_77 (ls st : List AV) (σ : St) : run 60 77 (ls) (st) σ = run 60 78 (ls) (vI 3 :: st) σ := (run_eq 60 77 _ _ σ).trans rfl
theorem e60_78 (ls st : List AV) (σ : St) (y x : Int) : run 60 78 (ls) (vI y :: vI x :: st) σ = run 60 79 (ls) (vI (wr (x + y)) :: st) σ := (run_eq 60 78 _ _ σ).trans rfl
theorem e60_79 (ls st : List AV) (σ : St) (y x : Int) : run 60 79 (ls) (vI y :: vI x :: st) σ = run 60 80 (ls) (vI (wr (x * y)) :: st) σ := (run_eq 60 79 _ _ σ).trans rfl
theorem e60_80 (a0 a1 a2 a3 a4 a5 : AV) (l st : List AV) (σ : St) (x : Int) : run 60 80 (a0 :: a1 :: a2 :: a3 :: a4 :: a5 :: vI x :: l) (st) σ = run 60 82 (a0 :: a1 :: a2 :: a3 :: a4 :: a5 :: vI x :: l) (vI x :: st) σ := (run_eq 60 80 _ _ σ).trans rfl
theorem e60_82 (ls st : List AV) (σ : St) (y x : Int) : run 60 82 (ls) (vI y :: vI x :: st) σ = run 60 83 (ls) (vI (wr (x + y)) :: st) σ := (run_eq 60 82 _ _ σ).trans rfl
theorem e60_83 (ls st : List AV) (σ : St) : run 60 83 (ls) (st) σ = run 60 84 (ls) (vI 5 :: st) σ := (run_eq 60 83 _ _ σ).trans rfl
theorem e60_84 (ls st : List AV) (σ : St) (y x : Int) : run 60 84 (ls) (vI y :: vI x :: st) σ = run 60 85 (ls) (vI (wr (x + y)) :: st) σ := (run_eq 60 84 _ _ σ).trans rfl
theorem e60_85 (a0 a1 a2 a3 : AV) (l st : List AV) (σ : St) (q : AV) (x : Int) : run 60 85 (a0 :: a1 :: a2 :: a3 :: q :: l) (vI x :: st) σ = run 60 87 (a0 :: a1 :: a2 :: a3 :: vI x :: l) (st) σ := (run_eq 60 85 _ _ σ).trans rfl
theorem e60_87 (a0 a1 a2 a3 a4 a5 : AV) (l st : List AV) (σ : St) (x : Int) : run 60 87 (a0 :: a1 :: a2 :: a3 :: a4 :: a5 :: vI x :: l) (st) σ = run 60 90 (a0 :: a1 :: a2 :: a3 :: a4 :: a5 :: vI (wr (x + 1)) :: l) (st) σ := (run_eq 60 87 _ _ σ).trans rfl
theorem e60_90 (ls st : List AV) (σ : St) : run 60 90 (ls) (st) σ = run 60 43 (ls) (st) σ := (run_eq 60 90 _ _ σ).trans rfl
theorem e60_93 (a0 a1 a2 a3 a4 : AV) (l st : List AV) (σ : St) (x : Int) : run 60 93 (a0 :: a1 :: a2 :: a3 :: a4 :: vI x :: l) (st) σ = run 60 96 (a0 :: a1 :: a2 :: a3 :: a4 :: vI (wr (x + 1)) :: l) (st) σ := (run_eq 60 93 _ _ σ).trans rfl
theorem e60_96 (ls st : List AV) (σ : St) : run 60 96 (ls) (st) σ = run 60 33 (ls) (st) σ := (run_eq 60 96 _ _ σ).trans rfl
theorem e60_99 (a0 a1 : AV) (l st : List AV) (σ : St) (x : Int) : run 60 99 (a0 :: a1 :: vI x :: l) (st) σ = run 60 100 (a0 :: a1 :: vI x :: l) (vI x :: st) σ := (run_eq 60 99 _ _ σ).trans rfl
theorem e60_100 (ls st : List AV) (σ : St) (x : Int) : run 60 100 (ls) (vI x :: st) σ = if x = 0 then run 60 103 (ls) (st) σ else run 60 107 (ls) (st) σ := (run_eq 60 100 _ _ σ).trans rfl
theorem e60_103 (a0 a1 a2 : AV) (l st : List AV) (σ : St) (x : Int) : run 60 103 (a0 :: a1 :: a2 :: vI x :: l) (st) σ = run 60 104 (a0 :: a1 :: a2 :: vI x :: l) (vI x :: st) σ := (run_eq 60 103 _ _ σ).trans rfl
theorem e60_104 (ls st : List AV) (σ : St) : run 60 104 (ls) (st) σ = run 60 109 (ls) (st) σ := (run_eq 60 104 _ _ σ).trans rfl
theorem e60_107 (a0 a1 a2 a3 : AV) (l st : List AV) (σ : St) (x : Int) : run 60 107 (a0 :: a1 :: a2 :: a3 :: vI x :: l) (st) σ = run 60 109 (a0 :: a1 :: a2 :: a3 :: vI x :: l) (vI x :: st) σ := (run_eq 60 107 _ _ σ).trans rfl
theorem e60_109 (ls : List AV) (σ : St) (x : Int) : run 60 109 ls [vI x] σ = some (vI x, σ) := (run_eq 60 109 _ _ σ).trans rfl
/-! F_apart -/
theorem e61_0 (ls st : List AV) (σ : St) : run 61 0 (ls) (st) σ = run 61 1 (ls) (vI 0 :: st) σ := (run_eq 61 0 _ _ σ).trans rfl
theorem e61_1 (a0 a1 : AV) (l st : List AV) (σ : St) (q : AV) (x : Int) : run 61 1 (a0 :: a1 :: q :: l) (vI x :: st) σ = run 61 2 (a0 :: a1 :: vI x :: l) (st) σ := (run_eq 61 1 _ _ σ).trans rfl
theorem e61_2 (ls st : List AV) (σ : St) : run 61 2 (ls) (st) σ = run 61 3 (ls) (vI 0 :: st) σ := (run_eq 61 2 _ _ σ).trans rfl
theorem e61_3 (a0 a1 a2 : AV) (l st : List AV) (σ : St) (q : AV) (x : Int) : run 61 3 (a0 :: a1 :: a2 :: q :: l) (vI x :: st) σ = run 61 4 (a0 :: a1 :: a2 :: vI x :: l) (st) σ := (run_eq 61 3 _ _ σ).trans rfl
theorem e61_4 (a0 a1 a2 : AV) (l st : List AV) (σ : St) (x : Int) : run 61 4 (a0 :: a1 :: a2 :: vI x :: l) (st) σ = run 61 5 (a0 :: a1 :: a2 :: vI x :: l) (vI x :: st) σ := (run_eq 61 4 _ _ σ).trans rfl
theorem e61_5 (ls st : List AV) (σ : St) : run 61 5 (ls) (st) σ = run 61 6 (ls) (vI 4 :: st) σ := (run_eq 61 5 _ _ σ).trans rfl
theorem e61_6 (ls st : List AV) (σ : St) (y x : Int) : run 61 6 (ls) (vI y :: vI x :: st) σ = if x < y then run 61 9 (ls) (st) σ else run 61 61 (ls) (st) σ := (run_eq 61 6 _ _ σ).trans rfl
theorem e61_9 (a0 a1 a2 : AV) (l st : List AV) (σ : St) (x : Int) : run 61 9 (a0 :: a1 :: a2 :: vI x :: l) (st) σ = run 61 10 (a0 :: a1 :: a2 :: vI x :: l) (vI x :: st) σ := (run_eq 61 9 _ _ σ).trans rfl
theorem e61_10 (ls st : List AV) (σ : St) : run 61 10 (ls) (st) σ = run 61 11 (ls) (vI 1 :: st) σ := (run_eq 61 10 _ _ σ).trans rfl
theorem e61_11 (ls st : List AV) (σ : St) (y x : Int) : run 61 11 (ls) (vI y :: vI x :: st) σ = run 61 12 (ls) (vI (wr (x + y)) :: st) σ := (run_eq 61 11 _ _ σ).trans rfl
theorem e61_12 (a0 a1 a2 a3 : AV) (l st : List AV) (σ : St) (q : AV) (x : Int) : run 61 12 (a0 :: a1 :: a2 :: a3 :: q :: l) (vI x :: st) σ = run 61 14 (a0 :: a1 :: a2 :: a3 :: vI x :: l) (st) σ := (run_eq 61 12 _ _ σ).trans rfl
theorem e61_14 (a0 a1 a2 a3 : AV) (l st : List AV) (σ : St) (x : Int) : run 61 14 (a0 :: a1 :: a2 :: a3 :: vI x :: l) (st) σ = run 61 16 (a0 :: a1 :: a2 :: a3 :: vI x :: l) (vI x :: st) σ := (run_eq 61 14 _ _ σ).trans rfl
theorem e61_16 (ls st : List AV) (σ : St) : run 61 16 (ls) (st) σ = run 61 17 (ls) (vI 4 :: st) σ := (run_eq 61 16 _ _ σ).trans rfl
theorem e61_17 (ls st : List AV) (σ : St) (y x : Int) : run 61 17 (ls) (vI y :: vI x :: st) σ = if x < y then run 61 20 (ls) (st) σ else run 61 55 (ls) (st) σ := (run_eq 61 17 _ _ σ).trans rfl
theorem e61_20 (l st : List AV) (σ : St) (x : Nat) : run 61 20 (vR x :: l) (st) σ = run 61 21 (vR x :: l) (vR x :: st) σ := (run_eq 61 20 _ _ σ).trans rfl
theorem e61_21 (ls st : List AV) (σ : St) (x : Nat) (h : fok σ x 2) : run 61 21 (ls) (vR x :: st) σ = run 61 24 (ls) (vR (gr σ x 0) :: st) σ := (run_eq 61 21 _ _ σ).trans (if_pos h)
theorem e61_24 (a0 a1 a2 : AV) (l st : List AV) (σ : St) (x : Int) : run 61 24 (a0 :: a1 :: a2 :: vI x :: l) (st) σ = run 61 25 (a0 :: a1 :: a2 :: vI x :: l) (vI x :: st) σ := (run_eq 61 24 _ _ σ).trans rfl
theorem e61_25 (a0 a1 a2 a3 : AV) (l st : List AV) (σ : St) (x : Int) : run 61 25 (a0 :: a1 :: a2 :: a3 :: vI x :: l) (st) σ = run 61 27 (a0 :: a1 :: a2 :: a3 :: vI x :: l) (vI x :: st) σ := (run_eq 61 25 _ _ σ).trans rfl
theorem e61_27 (ls st : List AV) (σ : St) (x0 : Nat) (x1 : Int) (x2 : Int) (h4 : st.length ≤ 4) (h : fok σ x0 0) : run 61 27 ls (vI x2 :: vI x1 :: vR x0 :: st) σ = bnd (run 62 0 [vR x0, vI x1, vI x2, vU, vU, vU, vU, vU] [] σ) (fun r σ => run 61 30 ls (psh r st) σ) := (run_eq 61 27 _ _ σ).trans (if_pos ⟨rfl, by simp, by simpa using h4, rfl, h⟩)
theorem e61_30 (ls st : List AV) (σ : St) (x : Int) : run 61 30 (ls) (vI x :: st) σ = if x = 0 then run 61 49 (ls) (st) σ else run 61 33 (ls) (st) σ := (run_eq 61 30 _ _ σ).trans rfl
theorem e61_33 (a0 a1 : AV) (l st : List AV) (σ : St) (x : Int) : run 61 33 (a0 :: a1 :: vI x :: l) (st) σ = run 61 34 (a0 :: a1 :: vI x :: l) (vI x :: st) σ := (run_eq 61 33 _ _ σ).trans rfl
theorem e61_34 (a0 : AV) (l st : List AV) (σ : St) (x : Int) : run 61 34 (a0 :: vI x :: l) (st) σ = run 61 35 (a0 :: vI x :: l) (vI x :: st) σ := (run_eq 61 34 _ _ σ).trans rfl
theorem e61_35 (ls st : List AV) (σ : St) (y x : Int) : run 61 35 (ls) (vI y :: vI x :: st) σ = if x = y then run 61 38 (ls) (st) σ else run 61 46 (ls) (st) σ := (run_eq 61 35 _ _ σ).trans rfl
theorem e61_38 (ls st : List AV) (σ : St) : run 61 38 (ls) (st) σ = run 61 40 (ls) (vI 10 :: st) σ := (run_eq 61 38 _ _ σ).trans rfl
theorem e61_40 (a0 a1 a2 : AV) (l st : List AV) (σ : St) (x : Int) : run 61 40 (a0 :: a1 :: a2 :: vI x :: l) (st) σ = run 61 41 (a0 :: a1 :: a2 :: vI x :: l) (vI x :: st) σ := (run_eq 61 40 _ _ σ).trans rfl
theorem e61_41 (ls st : List AV) (σ : St) (y x : Int) : run 61 41 (ls) (vI y :: vI x :: st) σ = run 61 42 (ls) (vI (wr (x * y)) :: st) σ := (run_eq 61 41 _ _ σ).trans rfl
theorem e61_42 (a0 a1 a2 a3 : AV) (l st : List AV) (σ : St) (x : Int) : run 61 42 (a0 :: a1 :: a2 :: a3 :: vI x :: l) (st) σ = run 61 44 (a0 :: a1 :: a2 :: a3 :: vI x :: l) (vI x :: st) σ := (run_eq 61 42 _ _ σ).trans rfl
theorem e61_44 (ls st : List AV) (σ : St) (y x : Int) : run 61 44 (ls) (vI y :: vI x :: st) σ = run 61 45 (ls) (vI (wr (x + y)) :: st) σ := (run_eq 61 44 _ _ σ).trans rfl
theorem e61_45 (ls : List AV) (σ : St) (x : Int) : run 61 45 ls [vI x] σ = some (vI x, σ) := (run_eq 61 45 _ _ σ).trans rfl
theorem e61_46 (a0 a1 : AV) (l st : List AV) (σ : St) (x : Int) : run 61 46 (a0 :: a1 :: vI x :: l) (st) σ = run 61 49 (a0 :: a1 :: vI (wr (x + 1)) :: l) (st) σ := (run_eq 61 46 _ _ σ).trans rfl
theorem e61_49 (a0 a1 a2 a3 : AV) (l st : List AV) (σ : St) (x : Int) : run 61 49 (a0 :: a1 :: a2 :: a3 :: vI x :: l) (st) σ = run 61 52 (a0 :: a1 :: a2 :: a3 :: vI (wr (x + 1)) :: l) (st) σ := (run_eq 61 49 _ _ σ).trans rfl
theorem e61_52 (ls st : List AV) (σ : St) : run 61 52 (ls) (st) σ = run 61 14 (ls) (st) σ := (run_eq 61 52 _ _ σ).trans rfl
theorem e61_55 (a0 a1 a2 : AV) (l st : List AV) (σ : St) (x : Int) : run 61 55 (a0 :: a1 :: a2 :: vI x :: l) (st) σ = run 61 58 (a0 :: a1 :: a2 :: vI (wr (x + 1)) :: l) (st) σ := (run_eq 61 55 _ _ σ).trans rfl
theorem e61_58 (ls st : List AV) (σ : St) : run 61 58 (ls) (st) σ = run 61 4 (ls) (st) σ := (run_eq 61 58 _ _ σ).trans rfl
theorem e61_61 (a0 : AV) (l st : List AV) (σ : St) (x : Int) : run 61 61 (a0 :: vI x :: l) (st) σ = run 61 62 (a0 :: vI x :: l) (vI x :: st) σ := (run_eq 61 61 _ _ σ).trans rfl
theorem e61_62 (ls st : List AV) (σ : St) : run 61 62 (ls) (st) σ = run 61 63 (ls) (vI (-1) :: st) σ := (run_eq 61 62 _ _ σ).trans rfl
theorem e61_63 (ls st : List AV) (σ : St) (y x : Int) : run 61 63 (ls) (vI y :: vI x :: st) σ = if x = y then run 61 66 (ls) (st) σ else run 61 70 (ls) (st) σ := (run_eq 61 63 _ _ σ).trans rfl
theorem e61_66 (a0 a1 : AV) (l st : List AV) (σ : St) (x : Int) : run 61 66 (a0 :: a1 :: vI x :: l) (st) σ = run 61 67 (a0 :: a1 :: vI x :: l) (vI x :: st) σ := (run_eq 61 66 _ _ σ).trans rfl
theorem e61_67 (ls st : List AV) (σ : St) : run 61 67 (ls) (st) σ = run 61 72 (ls) (st) σ := (run_eq 61 67 _ _ σ).trans rfl
theorem e61_70 (ls st : List AV) (σ : St) : run 61 70 (ls) (st) σ = run 61 72 (ls) (vI (-6) :: st) σ := (run_eq 61 70 _ _ σ).trans rfl
theorem e61_72 (ls : List AV) (σ : St) (x : Int) : run 61 72 ls [vI x] σ = some (vI x, σ) := (run_eq 61 72 _ _ σ).trans rfl
/-! F_walk -/
theorem e63_0 (l st : List AV) (σ : St) (x : Nat) : run 63 0 (vR x :: l) (st) σ = run 63 1 (vR x :: l) (vR x :: st) σ := (run_eq 63 0 _ _ σ).trans rfl
theorem e63_1 (ls st : List AV) (σ : St) (x : Nat) (h : fok σ x 2) : run 63 1 (ls) (vR x :: st) σ = run 63 4 (ls) (vR (gr σ x 0) :: st) σ := (run_eq 63 1 _ _ σ).trans (if_pos h)
theorem e63_4 (a0 : AV) (l st : List AV) (σ : St) (x : Int) : run 63 4 (a0 :: vI x :: l) (st) σ = run 63 5 (a0 :: vI x :: l) (vI x :: st) σ := (run_eq 63 4 _ _ σ).trans rfl
theorem e63_5 (ls st : List AV) (σ : St) (x0 : Nat) (x1 : Int) (h4 : st.length ≤ 4) (h : fok σ x0 0) : run 63 5 ls (vI x1 :: vR x0 :: st) σ = bnd (run 8 0 [vR x0, vI x1] [] σ) (fun r σ => run 63 8 ls (psh r st) σ) := (run_eq 63 5 _ _ σ).trans (if_pos ⟨rfl, by simp, by simpa using h4, rfl, h⟩)
theorem e63_8 (ls st : List AV) (σ : St) (x : Int) : run 63 8 (ls) (vI x :: st) σ = if x = 0 then run 63 22 (ls) (st) σ else run 63 11 (ls) (st) σ := (run_eq 63 8 _ _ σ).trans rfl
theorem e63_11 (l st : List AV) (σ : St) (x : Nat) : run 63 11 (vR x :: l) (st) σ = run 63 12 (vR x :: l) (vR x :: st) σ := (run_eq 63 11 _ _ σ).trans rfl
theorem e63_12 (ls st : List AV) (σ : St) (x : Nat) (h : fok σ x 2) : run 63 12 (ls) (vR x :: st) σ = run 63 15 (ls) (vR (gr σ x 0) :: st) σ := (run_eq 63 12 _ _ σ).trans (if_pos h)
theorem e63_15 (a0 a1 : AV) (l st : List AV) (σ : St) (x : Int) : run 63 15 (a0 :: a1 :: vI x :: l) (st) σ = run 63 16 (a0 :: a1 :: vI x :: l) (vI x :: st) σ := (run_eq 63 15 _ _ σ).trans rfl
theorem e63_16 (ls st : List AV) (σ : St) (x0 : Nat) (x1 : Int) (h4 : st.length ≤ 4) (h : fok σ x0 0) : run 63 16 ls (vI x1 :: vR x0 :: st) σ = bnd (run 8 0 [vR x0, vI x1] [] σ) (fun r σ => run 63 19 ls (psh r st) σ) := (run_eq 63 16 _ _ σ).trans (if_pos ⟨rfl, by simp, by simpa using h4, rfl, h⟩)
theorem e63_19 (ls st : List AV) (σ : St) (x : Int) : run 63 19 (ls) (vI x :: st) σ = if x = 0 then run 63 22 (ls) (st) σ else run 63 24 (ls) (st) σ := (run_eq 63 19 _ _ σ).trans rfl
theorem e63_22 (ls st : List AV) (σ : St) : run 63 22 (ls) (st) σ = run 63 23 (ls) (vI (-1) :: st) σ := (run_eq 63 22 _ _ σ).trans rfl
theorem e63_23 (ls : List AV) (σ : St) (x : Int) : run 63 23 ls [vI x] σ = some (vI x, σ) := (run_eq 63 23 _ _ σ).trans rfl
theorem e63_24 (a0 a1 a2 : AV) (l st : List AV) (σ : St) (x : Int) : run 63 24 (a0 :: a1 :: a2 :: vI x :: l) (st) σ = run 63 25 (a0 :: a1 :: a2 :: vI x :: l) (vI x :: st) σ := (run_eq 63 24 _ _ σ).trans rfl
theorem e63_25 (ls st : List AV) (σ : St) : run 63 25 (ls) (st) σ = run 63 26 (ls) (vI 0 :: st) σ := (run_eq 63 25 _ _ σ).trans rfl
theorem e63_26 (ls st : List AV) (σ : St) : run 63 26 (ls) (st) σ = run 63 27 (ls) (vI 2 :: st) σ := (run_eq 63 26 _ _ σ).trans rfl
theorem e63_27 (ls st : List AV) (σ : St) (x0 : Int) (x1 : Int) (x2 : Int) (h4 : st.length ≤ 4) : run 63 27 ls (vI x2 :: vI x1 :: vI x0 :: st) σ = bnd (run 6 0 [vI x0, vI x1, vI x2] [] σ) (fun r σ => run 63 30 ls (psh r st) σ) := (run_eq 63 27 _ _ σ).trans (if_pos ⟨rfl, by simp, by simpa using h4⟩)
theorem e63_30 (ls st : List AV) (σ : St) (x : Int) : run 63 30 (ls) (vI x :: st) σ = if x = 0 then run 63 33 (ls) (st) σ else run 63 36 (ls) (st) σ := (run_eq 63 30 _ _ σ).trans rfl
theorem e63_33 (ls st : List AV) (σ : St) : run 63 33 (ls) (st) σ = run 63 35 (ls) (vI (-2) :: st) σ := (run_eq 63 33 _ _ σ).trans rfl
theorem e63_35 (ls : List AV) (σ : St) (x : Int) : run 63 35 ls [vI x] σ = some (vI x, σ) := (run_eq 63 35 _ _ σ).trans rfl
theorem e63_36 (l st : List AV) (σ : St) (x : Nat) : run 63 36 (vR x :: l) (st) σ = run 63 37 (vR x :: l) (vR x :: st) σ := (run_eq 63 36 _ _ σ).trans rfl
theorem e63_37 (a0 a1 : AV) (l st : List AV) (σ : St) (x : Int) : run 63 37 (a0 :: a1 :: vI x :: l) (st) σ = run 63 38 (a0 :: a1 :: vI x :: l) (vI x :: st) σ := (run_eq 63 37 _ _ σ).trans rfl
theorem e63_38 (ls st : List AV) (σ : St) (x0 : Nat) (x1 : Int) (h4 : st.length ≤ 4) (h : fok σ x0 2) : run 63 38 ls (vI x1 :: vR x0 :: st) σ = bnd (run 64 0 [vR x0, vI x1, vU, vU, vU, vU, vU] [] σ) (fun r σ => run 63 41 ls (psh r st) σ) := (run_eq 63 38 _ _ σ).trans (if_pos ⟨rfl, by simp, by simpa using h4, rfl, h⟩)
theorem e63_41 (l st : List AV) (σ : St) (x : Nat) : run 63 41 (vR x :: l) (st) σ = run 63 42 (vR x :: l) (vR x :: st) σ := (run_eq 63 41 _ _ σ).trans rfl
theorem e63_42 (ls st : List AV) (σ : St) (x : Nat) (h : fok σ x 2) : run 63 42 (ls) (vR x :: st) σ = run 63 45 (ls) (vR (gr σ x 6) :: st) σ := (run_eq 63 42 _ _ σ).trans (if_pos h)
theorem e63_45 (a0 : AV) (l st : List AV) (σ : St) (x : Int) : run 63 45 (a0 :: vI x :: l) (st) σ = run 63 46 (a0 :: vI x :: l) (vI x :: st) σ := (run_eq 63 45 _ _ σ).trans rfl
theorem e63_46 (ls st : List AV) (σ : St) (x0 : Nat) (x1 : Int) (h4 : st.length ≤ 4) : run 63 46 ls (vI x1 :: vR x0 :: st) σ = bnd (run 10 0 [vR x0, vI x1] [] σ) (fun r σ => run 63 49 ls (psh r st) σ) := (run_eq 63 46 _ _ σ).trans (if_pos ⟨rfl, by simp, by simpa using h4⟩)
theorem e63_49 (a0 a1 a2 a3 : AV) (l st : List AV) (σ : St) (q : AV) (x : Int) : run 63 49 (a0 :: a1 :: a2 :: a3 :: q :: l) (vI x :: st) σ = run 63 51 (a0 :: a1 :: a2 :: a3 :: vI x :: l) (st) σ := (run_eq 63 49 _ _ σ).trans rfl
theorem e63_51 (a0 a1 a2 : AV) (l st : List AV) (σ : St) (x : Int) : run 63 51 (a0 :: a1 :: a2 :: vI x :: l) (st) σ = run 63 52 (a0 :: a1 :: a2 :: vI x :: l) (vI x :: st) σ := (run_eq 63 51 _ _ σ).trans rfl
theorem e63_52 (ls st : List AV) (σ : St) (x : Int) : run 63 52 (ls) (vI x :: st) σ = if x = 0 then run 63 55 (ls) (st) σ else run 63 61 (ls) (st) σ := (run_eq 63 52 _ _ σ).trans rfl
theorem e63_55 (a0 a1 a2 a3 : AV) (l st : List AV) (σ : St) (x : Int) : run 63 55 (a0 :: a1 :: a2 :: a3 :: vI x :: l) (st) σ = run 63 57 (a0 :: a1 :: a2 :: a3 :: vI x :: l) (vI x :: st) σ := (run_eq 63 55 _ _ σ).trans rfl
theorem e63_57 (ls st : List AV) (σ : St) : run 63 57 (ls) (st) σ = run 63 59 (ls) (vI 100 :: st) σ := (run_eq 63 57 _ _ σ).trans rfl
theorem e63_59 (ls st : List AV) (σ : St) (y x : Int) (h : ¬ y = 0) : run 63 59 (ls) (vI y :: vI x :: st) σ = run 63 60 (ls) (vI (wr (x.tdiv y)) :: st) σ := (run_eq 63 59 _ _ σ).trans (if_neg h)
theorem e63_60 (ls : List AV) (σ : St) (x : Int) : run 63 60 ls [vI x] σ = some (vI x, σ) := (run_eq 63 60 _ _ σ).trans rfl
theorem e63_61 (a0 a1 a2 : AV) (l st : List AV) (σ : St) (x : Int) : run 63 61 (a0 :: a1 :: a2 :: vI x :: l) (st) σ = run 63 62 (a0 :: a1 :: a2 :: vI x :: l) (vI x :: st) σ := (run_eq 63 61 _ _ σ).trans rfl
theorem e63_62 (ls st : List AV) (σ : St) : run 63 62 (ls) (st) σ = run 63 63 (ls) (vI 1 :: st) σ := (run_eq 63 62 _ _ σ).trans rfl
theorem e63_63 (ls st : List AV) (σ : St) (y x : Int) : run 63 63 (ls) (vI y :: vI x :: st) σ = if x = y then run 63 66 (ls) (st) σ else run 63 74 (ls) (st) σ := (run_eq 63 63 _ _ σ).trans rfl
theorem e63_66 (a0 a1 a2 a3 : AV) (l st : List AV) (σ : St) (x : Int) : run 63 66 (a0 :: a1 :: a2 :: a3 :: vI x :: l) (st) σ = run 63 68 (a0 :: a1 :: a2 :: a3 :: vI x :: l) (vI x :: st) σ := (run_eq 63 66 _ _ σ).trans rfl
theorem e63_68 (ls st : List AV) (σ : St) : run 63 68 (ls) (st) σ = run 63 70 (ls) (vI 100 :: st) σ := (run_eq 63 68 _ _ σ).trans rfl
theorem e63_70 (ls st : List AV) (σ : St) (y x : Int) (h : ¬ y = 0) : run 63 70 (ls) (vI y :: vI x :: st) σ = run 63 71 (ls) (vI (wr (x.tmod y)) :: st) σ := (run_eq 63 70 _ _ σ).trans (if_neg h)
theorem e63_71 (ls st : List AV) (σ : St) : run 63 71 (ls) (st) σ = run 63 80 (ls) (st) σ := (run_eq 63 71 _ _ σ).trans rfl
theorem e63_74 (l st : List AV) (σ : St) (x : Nat) : run 63 74 (vR x :: l) (st) σ = run 63 75 (vR x :: l) (vR x :: st) σ := (run_eq 63 74 _ _ σ).trans rfl
theorem e63_75 (a0 : AV) (l st : List AV) (σ : St) (x : Int) : run 63 75 (a0 :: vI x :: l) (st) σ = run 63 76 (a0 :: vI x :: l) (vI x :: st) σ := (run_eq 63 75 _ _ σ).trans rfl
theorem e63_76 (a0 a1 : AV) (l st : List AV) (σ : St) (x : Int) : run 63 76 (a0 :: a1 :: vI x :: l) (st) σ = run 63 77 (a0 :: a1 :: vI x :: l) (vI x :: st) σ := (run_eq 63 76 _ _ σ).trans rfl
theorem e63_77 (ls st : List AV) (σ : St) (x0 : Nat) (x1 : Int) (x2 : Int) (h4 : st.length ≤ 4) (h : fok σ x0 2) : run 63 77 ls (vI x2 :: vI x1 :: vR x0 :: st) σ = bnd (run 68 0 [vR x0, vI x1, vI x2, vU, vU, vU, vU] [] σ) (fun r σ => run 63 80 ls (psh r st) σ) := (run_eq 63 77 _ _ σ).trans (if_pos ⟨rfl, by simp, by simpa using h4, rfl, h⟩)
theorem e63_80 (ls : List AV) (σ : St) (x : Int) : run 63 80 ls [vI x] σ = some (vI x, σ) := (run_eq 63 80 _ _ σ).trans rfl
/-! F_weighWays -/
theorem e64_0 (ls st : List AV) (σ : St) : run 64 0 (ls) (st) σ = run 64 1 (ls) (vI 0 :: st) σ := (run_eq 64 0 _ _ σ).trans rfl
theorem e64_1 (a0 a1 : AV) (l st : List AV) (σ : St) (q : AV) (x : Int) : run 64 1 (a0 :: a1 :: q :: l) (vI x :: st) σ = run 64 2 (a0 :: a1 :: vI x :: l) (st) σ := (run_eq 64 1 _ _ σ).trans rfl
theorem e64_2 (a0 a1 : AV) (l st : List AV) (σ : St) (x : Int) : run 64 2 (a0 :: a1 :: vI x :: l) (st) σ = run 64 3 (a0 :: a1 :: vI x :: l) (vI x :: st) σ := (run_eq 64 2 _ _ σ).trans rfl
theorem e64_3 (l st : List AV) (σ : St) (x : Nat) : run 64 3 (vR x :: l) (st) σ = run 64 4 (vR x :: l) (vR x :: st) σ := (run_eq 64 3 _ _ σ).trans rfl
theorem e64_4 (ls st : List AV) (σ : St) (x : Nat) (h : fok σ x 2) : run 64 4 (ls) (vR x :: st) σ = run 64 7 (ls) (vR (gr σ x 0) :: st) σ := (run_eq 64 4 _ _ σ).trans (if_pos h)
theorem e64_7 (ls st : List AV) (σ : St) (x : Nat) (h : fok σ x 0) : run 64 7 (ls) (vR x :: st) σ = run 64 10 (ls) (vI (gt σ x 2) :: st) σ := (run_eq 64 7 _ _ σ).trans (if_pos h)
theorem e64_10 (ls st : List AV) (σ : St) (y x : Int) : run 64 10 (ls) (vI y :: vI x :: st) σ = if x < y then run 64 13 (ls) (st) σ else run 64 42 (ls) (st) σ := (run_eq 64 10 _ _ σ).trans rfl
theorem e64_13 (l st : List AV) (σ : St) (x : Nat) : run 64 13 (vR x :: l) (st) σ = run 64 14 (vR x :: l) (vR x :: st) σ := (run_eq 64 13 _ _ σ).trans rfl
theorem e64_14 (ls st : List AV) (σ : St) (x : Nat) (h : fok σ x 2) : run 64 14 (ls) (vR x :: st) σ = run 64 17 (ls) (vR (gr σ x 6) :: st) σ := (run_eq 64 14 _ _ σ).trans (if_pos h)
theorem e64_17 (a0 a1 : AV) (l st : List AV) (σ : St) (x : Int) : run 64 17 (a0 :: a1 :: vI x :: l) (st) σ = run 64 18 (a0 :: a1 :: vI x :: l) (vI x :: st) σ := (run_eq 64 17 _ _ σ).trans rfl
theorem e64_18 (a0 a1 : AV) (l st : List AV) (σ : St) (x : Int) : run 64 18 (a0 :: a1 :: vI x :: l) (st) σ = run 64 19 (a0 :: a1 :: vI x :: l) (vI x :: st) σ := (run_eq 64 18 _ _ σ).trans rfl
theorem e64_19 (a0 : AV) (l st : List AV) (σ : St) (x : Int) : run 64 19 (a0 :: vI x :: l) (st) σ = run 64 20 (a0 :: vI x :: l) (vI x :: st) σ := (run_eq 64 19 _ _ σ).trans rfl
theorem e64_20 (ls st : List AV) (σ : St) (y x : Int) : run 64 20 (ls) (vI y :: vI x :: st) σ = if x = y then run 64 23 (ls) (st) σ else run 64 31 (ls) (st) σ := (run_eq 64 20 _ _ σ).trans rfl
theorem e64_23 (l st : List AV) (σ : St) (x : Nat) : run 64 23 (vR x :: l) (st) σ = run 64 24 (vR x :: l) (vR x :: st) σ := (run_eq 64 23 _ _ σ).trans rfl
theorem e64_24 (a0 a1 : AV) (l st : List AV) (σ : St) (x : Int) : run 64 24 (a0 :: a1 :: vI x :: l) (st) σ = run 64 25 (a0 :: a1 :: vI x :: l) (vI x :: st) σ := (run_eq 64 24 _ _ σ).trans rfl
theorem e64_25 (ls st : List AV) (σ : St) (x0 : Nat) (x1 : Int) (h4 : st.length ≤ 4) (h : fok σ x0 2) : run 64 25 ls (vI x1 :: vR x0 :: st) σ = bnd (run 65 0 [vR x0, vI x1] [] σ) (fun r σ => run 64 28 ls (psh r st) σ) := (run_eq 64 25 _ _ σ).trans (if_pos ⟨rfl, by simp, by simpa using h4, rfl, h⟩)
theorem e64_28 (ls st : List AV) (σ : St) : run 64 28 (ls) (st) σ = run 64 33 (ls) (st) σ := (run_eq 64 28 _ _ σ).trans rfl
theorem e64_31 (ls st : List AV) (σ : St) : run 64 31 (ls) (st) σ = run 64 33 (ls) (vI 1000000 :: st) σ := (run_eq 64 31 _ _ σ).trans rfl
theorem e64_33 (ls st : List AV) (σ : St) (x0 : Nat) (x1 : Int) (x2 : Int) (h4 : st.length ≤ 4) : run 64 33 ls (vI x2 :: vI x1 :: vR x0 :: st) σ = bnd (run 11 0 [vR x0, vI x1, vI x2] [] σ) (fun r σ => run 64 36 ls (psh r st) σ) := (run_eq 64 33 _ _ σ).trans (if_pos ⟨rfl, by simp, by simpa using h4⟩)
theorem e64_36 (a0 a1 : AV) (l st : List AV) (σ : St) (x : Int) : run 64 36 (a0 :: a1 :: vI x :: l) (st) σ = run 64 39 (a0 :: a1 :: vI (wr (x + 1)) :: l) (st) σ := (run_eq 64 36 _ _ σ).trans rfl
theorem e64_39 (ls st : List AV) (σ : St) : run 64 39 (ls) (st) σ = run 64 2 (ls) (st) σ := (run_eq 64 39 _ _ σ).trans rfl
theorem e64_42 (ls st : List AV) (σ : St) : run 64 42 (ls) (st) σ = run 64 43 (ls) (vI 0 :: st) σ := (run_eq 64 42 _ _ σ).trans rfl
theorem e64_43 (a0 a1 : AV) (l st : List AV) (σ : St) (q : AV) (x : Int) : run 64 43 (a0 :: a1 :: q :: l) (vI x :: st) σ = run 64 44 (a0 :: a1 :: vI x :: l) (st) σ := (run_eq 64 43 _ _ σ).trans rfl
theorem e64_44 (a0 a1 : AV) (l st : List AV) (σ : St) (x : Int) : run 64 44 (a0 :: a1 :: vI x :: l) (st) σ = run 64 45 (a0 :: a1 :: vI x :: l) (vI x :: st) σ := (run_eq 64 44 _ _ σ).trans rfl
theorem e64_45 (l st : List AV) (σ : St) (x : Nat) : run 64 45 (vR x :: l) (st) σ = run 64 46 (vR x :: l) (vR x :: st) σ := (run_eq 64 45 _ _ σ).trans rfl
theorem e64_46 (ls st : List AV) (σ : St) (x : Nat) (h : fok σ x 2) : run 64 46 (ls) (vR x :: st) σ = run 64 49 (ls) (vR (gr σ x 0) :: st) σ := (run_eq 64 46 _ _ σ).trans (if_pos h)
theorem e64_49 (ls st : List AV) (σ : St) (x : Nat) (h : fok σ x 0) : run 64 49 (ls) (vR x :: st) σ = run 64 52 (ls) (vI (gt σ x 2) :: st) σ := (run_eq 64 49 _ _ σ).trans (if_pos h)
theorem e64_52 (ls st : List AV) (σ : St) (y x : Int) : run 64 52 (ls) (vI y :: vI x :: st) σ = if x < y then run 64 55 (ls) (st) σ else run 64 153 (ls) (st) σ := (run_eq 64 52 _ _ σ).trans rfl
theorem e64_55 (ls st : List AV) (σ : St) : run 64 55 (ls) (st) σ = run 64 56 (ls) (vI 0 :: st) σ := (run_eq 64 55 _ _ σ).trans rfl
theorem e64_56 (a0 a1 a2 : AV) (l st : List AV) (σ : St) (q : AV) (x : Int) : run 64 56 (a0 :: a1 :: a2 :: q :: l) (vI x :: st) σ = run 64 57 (a0 :: a1 :: a2 :: vI x :: l) (st) σ := (run_eq 64 56 _ _ σ).trans rfl
theorem e64_57 (a0 a1 a2 : AV) (l st : List AV) (σ : St) (x : Int) : run 64 57 (a0 :: a1 :: a2 :: vI x :: l) (st) σ = run 64 58 (a0 :: a1 :: a2 :: vI x :: l) (vI x :: st) σ := (run_eq 64 57 _ _ σ).trans rfl
theorem e64_58 (l st : List AV) (σ : St) (x : Nat) : run 64 58 (vR x :: l) (st) σ = run 64 59 (vR x :: l) (vR x :: st) σ := (run_eq 64 58 _ _ σ).trans rfl
theorem e64_59 (ls st : List AV) (σ : St) (x : Nat) (h : fok σ x 2) : run 64 59 (ls) (vR x :: st) σ = run 64 62 (ls) (vR (gr σ x 0) :: st) σ := (run_eq 64 59 _ _ σ).trans (if_pos h)
theorem e64_62 (ls st : List AV) (σ : St) (x : Nat) (h : fok σ x 0) : run 64 62 (ls) (vR x :: st) σ = run 64 65 (ls) (vI (gt σ x 2) :: st) σ := (run_eq 64 62 _ _ σ).trans (if_pos h)
theorem e64_65 (ls st : List AV) (σ : St) (y x : Int) : run 64 65 (ls) (vI y :: vI x :: st) σ = if x < y then run 64 68 (ls) (st) σ else run 64 147 (ls) (st) σ := (run_eq 64 65 _ _ σ).trans rfl
theorem e64_68 (ls st : List AV) (σ : St) : run 64 68 (ls) (st) σ = run 64 69 (ls) (vI 0 :: st) σ := (run_eq 64 68 _ _ σ).trans rfl
theorem e64_69 (a0 a1 a2 a3 : AV) (l st : List AV) (σ : St) (q : AV) (x : Int) : run 64 69 (a0 :: a1 :: a2 :: a3 :: q :: l) (vI x :: st) σ = run 64 71 (a0 :: a1 :: a2 :: a3 :: vI x :: l) (st) σ := (run_eq 64 69 _ _ σ).trans rfl
theorem e64_71 (a0 a1 a2 a3 : AV) (l st : List AV) (σ : St) (x : Int) : run 64 71 (a0 :: a1 :: a2 :: a3 :: vI x :: l) (st) σ = run 64 73 (a0 :: a1 :: a2 :: a3 :: vI x :: l) (vI x :: st) σ := (run_eq 64 71 _ _ σ).trans rfl
theorem e64_73 (ls st : List AV) (σ : St) : run 64 73 (ls) (st) σ = run 64 74 (ls) (vI 4 :: st) σ := (run_eq 64 73 _ _ σ).trans rfl
theorem e64_74 (ls st : List AV) (σ : St) (y x : Int) : run 64 74 (ls) (vI y :: vI x :: st) σ = if x < y then run 64 77 (ls) (st) σ else run 64 141 (ls) (st) σ := (run_eq 64 74 _ _ σ).trans rfl
theorem e64_77 (l st : List AV) (σ : St) (x : Nat) : run 64 77 (vR x :: l) (st) σ = run 64 78 (vR x :: l) (vR x :: st) σ := (run_eq 64 77 _ _ σ).trans rfl
theorem e64_78 (ls st : List AV) (σ : St) (x : Nat) (h : fok σ x 2) : run 64 78 (ls) (vR x :: st) σ = run 64 81 (ls) (vR (gr σ x 0) :: st) σ := (run_eq 64 78 _ _ σ).trans (if_pos h)
theorem e64_81 (a0 a1 a2 : AV) (l st : List AV) (σ : St) (x : Int) : run 64 81 (a0 :: a1 :: a2 :: vI x :: l) (st) σ = run 64 82 (a0 :: a1 :: a2 :: vI x :: l) (vI x :: st) σ := (run_eq 64 81 _ _ σ).trans rfl
theorem e64_82 (a0 a1 a2 a3 : AV) (l st : List AV) (σ : St) (x : Int) : run 64 82 (a0 :: a1 :: a2 :: a3 :: vI x :: l) (st) σ = run 64 84 (a0 :: a1 :: a2 :: a3 :: vI x :: l) (vI x :: st) σ := (run_eq 64 82 _ _ σ).trans rfl
theorem e64_84 (ls st : List AV) (σ : St) (x0 : Nat) (x1 : Int) (x2 : Int) (h4 : st.length ≤ 4) (h : fok σ x0 0) : run 64 84 ls (vI x2 :: vI x1 :: vR x0 :: st) σ = bnd (run 67 0 [vR x0, vI x1, vI x2] [] σ) (fun r σ => run 64 87 ls (psh r st) σ) := (run_eq 64 84 _ _ σ).trans (if_pos ⟨rfl, by simp, by simpa using h4, rfl, h⟩)
theorem e64_87 (a0 a1 a2 a3 a4 : AV) (l st : List AV) (σ : St) (q : AV) (x : Int) : run 64 87 (a0 :: a1 :: a2 :: a3 :: a4 :: q :: l) (vI x :: st) σ = run 64 89 (a0 :: a1 :: a2 :: a3 :: a4 :: vI x :: l) (st) σ := (run_eq 64 87 _ _ σ).trans rfl
theorem e64_89 (a0 a1 a2 a3 a4 : AV) (l st : List AV) (σ : St) (x : Int) : run 64 89 (a0 :: a1 :: a2 :: a3 :: a4 :: vI x :: l) (st) σ = run 64 91 (a0 :: a1 :: a2 :: a3 :: a4 :: vI x :: l) (vI x :: st) σ := (run_eq 64 89 _ _ σ).trans rfl
theorem e64_91 (ls st : List AV) (σ : St) : run 64 91 (ls) (st) σ = run 64 92 (ls) (vI (-1) :: st) σ := (run_eq 64 91 _ _ σ).trans rfl
theorem e64_92 (ls st : List AV) (σ : St) (y x : Int) : run 64 92 (ls) (vI y :: vI x :: st) σ = if x = y then run 64 135 (ls) (st) σ else run 64 95 (ls) (st) σ := (run_eq 64 92 _ _ σ).trans rfl
theorem e64_95 (l st : List AV) (σ : St) (x : Nat) : run 64 95 (vR x :: l) (st) σ = run 64 96 (vR x :: l) (vR x :: st) σ := (run_eq 64 95 _ _ σ).trans rfl
theorem e64_96 (ls st : List AV) (σ : St) (x : Nat) (h : fok σ x 2) : run 64 96 (ls) (vR x :: st) σ = run 64 99 (ls) (vR (gr σ x 6) :: st) σ := (run_eq 64 96 _ _ σ).trans (if_pos h)
theorem e64_99 (a0 a1 a2 a3 a4 : AV) (l st : List AV) (σ : St) (x : Int) : run 64 99 (a0 :: a1 :: a2 :: a3 :: a4 :: vI x :: l) (st) σ = run 64 101 (a0 :: a1 :: a2 :: a3 :: a4 :: vI x :: l) (vI x :: st) σ := (run_eq 64 99 _ _ σ).trans rfl
theorem e64_101 (ls st : List AV) (σ : St) (x0 : Nat) (x1 : Int) (h4 : st.length ≤ 4) : run 64 101 ls (vI x1 :: vR x0 :: st) σ = bnd (run 10 0 [vR x0, vI x1] [] σ) (fun r σ => run 64 104 ls (psh r st) σ) := (run_eq 64 101 _ _ σ).trans (if_pos ⟨rfl, by simp, by simpa using h4⟩)
theorem e64_104 (ls st : List AV) (σ : St) : run 64 104 (ls) (st) σ = run 64 105 (ls) (vI 1 :: st) σ := (run_eq 64 104 _ _ σ).trans rfl
theorem e64_105 (ls st : List AV) (σ : St) (y x : Int) : run 64 105 (ls) (vI y :: vI x :: st) σ = run 64 106 (ls) (vI (wr (x + y)) :: st) σ := (run_eq 64 105 _ _ σ).trans rfl
theorem e64_106 (l st : List AV) (σ : St) (x : Nat) : run 64 106 (vR x :: l) (st) σ = run 64 107 (vR x :: l) (vR x :: st) σ := (run_eq 64 106 _ _ σ).trans rfl
theorem e64_107 (a0 a1 a2 : AV) (l st : List AV) (σ : St) (x : Int) : run 64 107 (a0 :: a1 :: a2 :: vI x :: l) (st) σ = run 64 108 (a0 :: a1 :: a2 :: vI x :: l) (vI x :: st) σ := (run_eq 64 107 _ _ σ).trans rfl
theorem e64_108 (ls st : List AV) (σ : St) (x0 : Nat) (x1 : Int) (h4 : st.length ≤ 4) (h : fok σ x0 2) : run 64 108 ls (vI x1 :: vR x0 :: st) σ = bnd (run 65 0 [vR x0, vI x1] [] σ) (fun r σ => run 64 111 ls (psh r st) σ) := (run_eq 64 108 _ _ σ).trans (if_pos ⟨rfl, by simp, by simpa using h4, rfl, h⟩)
theorem e64_111 (ls st : List AV) (σ : St) (y x : Int) : run 64 111 (ls) (vI y :: vI x :: st) σ = run 64 112 (ls) (vI (wr (x + y)) :: st) σ := (run_eq 64 111 _ _ σ).trans rfl
theorem e64_112 (a0 a1 a2 a3 a4 a5 : AV) (l st : List AV) (σ : St) (q : AV) (x : Int) : run 64 112 (a0 :: a1 :: a2 :: a3 :: a4 :: a5 :: q :: l) (vI x :: st) σ = run 64 114 (a0 :: a1 :: a2 :: a3 :: a4 :: a5 :: vI x :: l) (st) σ := (run_eq 64 112 _ _ σ).trans rfl
theorem e64_114 (l st : List AV) (σ : St) (x : Nat) : run 64 114 (vR x :: l) (st) σ = run 64 115 (vR x :: l) (vR x :: st) σ := (run_eq 64 114 _ _ σ).trans rfl
theorem e64_115 (ls st : List AV) (σ : St) (x : Nat) (h : fok σ x 2) : run 64 115 (ls) (vR x :: st) σ = run 64 118 (ls) (vR (gr σ x 6) :: st) σ := (run_eq 64 115 _ _ σ).trans (if_pos h)
theorem e64_118 (a0 a1 a2 : AV) (l st : List AV) (σ : St) (x : Int) : run 64 118 (a0 :: a1 :: a2 :: vI x :: l) (st) σ = run 64 119 (a0 :: a1 :: a2 :: vI x :: l) (vI x :: st) σ := (run_eq 64 118 _ _ σ).trans rfl
theorem e64_119 (l st : List AV) (σ : St) (x : Nat) : run 64 119 (vR x :: l) (st) σ = run 64 120 (vR x :: l) (vR x :: st) σ := (run_eq 64 119 _ _ σ).trans rfl
theorem e64_120 (ls st : List AV) (σ : St) (x : Nat) (h : fok σ x 2) : run 64 120 (ls) (vR x :: st) σ = run 64 123 (ls) (vR (gr σ x 6) :: st) σ := (run_eq 64 120 _ _ σ).trans (if_pos h)
theorem e64_123 (a0 a1 a2 : AV) (l st : List AV) (σ : St) (x : Int) : run 64 123 (a0 :: a1 :: a2 :: vI x :: l) (st) σ = run 64 124 (a0 :: a1 :: a2 :: vI x :: l) (vI x :: st) σ := (run_eq 64 123 _ _ σ).trans rfl
theorem e64_124 (ls st : List AV) (σ : St) (x0 : Nat) (x1 : Int) (h4 : st.length ≤ 4) : run 64 124 ls (vI x1 :: vR x0 :: st) σ = bnd (run 10 0 [vR x0, vI x1] [] σ) (fun r σ => run 64 127 ls (psh r st) σ) := (run_eq 64 124 _ _ σ).trans (if_pos ⟨rfl, by simp, by simpa using h4⟩)
theorem e64_127 (a0 a1 a2 a3 a4 a5 : AV) (l st : List AV) (σ : St) (x : Int) : run 64 127 (a0 :: a1 :: a2 :: a3 :: a4 :: a5 :: vI x :: l) (st) σ = run 64 129 (a0 :: a1 :: a2 :: a3 :: a4 :: a5 :: vI x :: l) (vI x :: st) σ := (run_eq 64 127 _ _ σ).trans rfl
theorem e64_129 (ls st : List AV) (σ : St) (y x : Int) (h4 : st.length ≤ 4) : run 64 129 (ls) (vI y :: vI x :: st) σ = run 64 132 (ls) (vI (if y < x then y else x) :: st) σ := (run_eq 64 129 _ _ σ).trans (if_pos h4)
theorem e64_132 (ls st : List AV) (σ : St) (x0 : Nat) (x1 : Int) (x2 : Int) (h4 : st.length ≤ 4) : run 64 132 ls (vI x2 :: vI x1 :: vR x0 :: st) σ = bnd (run 11 0 [vR x0, vI x1, vI x2] [] σ) (fun r σ => run 64 135 ls (psh r st) σ) := (run_eq 64 132 _ _ σ).trans (if_pos ⟨rfl, by simp, by simpa using h4⟩)
theorem e64_135 (a0 a1 a2 a3 : AV) (l st : List AV) (σ : St) (x : Int) : run 64 135 (a0 :: a1 :: a2 :: a3 :: vI x :: l) (st) σ = run 64 138 (a0 :: a1 :: a2 :: a3 :: vI (wr (x + 1)) :: l) (st) σ := (run_eq 64 135 _ _ σ).trans rfl
theorem e64_138 (ls st : List AV) (σ : St) : run 64 138 (ls) (st) σ = run 64 71 (ls) (st) σ := (run_eq 64 138 _ _ σ).trans rfl
theorem e64_141 (a0 a1 a2 : AV) (l st : List AV) (σ : St) (x : Int) : run 64 141 (a0 :: a1 :: a2 :: vI x :: l) (st) σ = run 64 144 (a0 :: a1 :: a2 :: vI (wr (x + 1)) :: l) (st) σ := (run_eq 64 141 _ _ σ).trans rfl
theorem e64_144 (ls st : List AV) (σ : St) : run 64 144 (ls) (st) σ = run 64 57 (ls) (st) σ := (run_eq 64 144 _ _ σ).trans rfl
theorem e64_147 (a0 a1 : AV) (l st : List AV) (σ : St) (x : Int) : run 64 147 (a0 :: a1 :: vI x :: l) (st) σ = run 64 150 (a0 :: a1 :: vI (wr (x + 1)) :: l) (st) σ := (run_eq 64 147 _ _ σ).trans rfl
theorem e64_150 (ls st : List AV) (σ : St) : run 64 150 (ls) (st) σ = run 64 44 (ls) (st) σ := (run_eq 64 150 _ _ σ).trans rfl
theorem e64_153 (ls : List AV) (σ : St) : run 64 153 ls [] σ = some (vU, σ) := (run_eq 64 153 _ _ σ).trans rfl
/-! F_spoiltIn -/
theorem e65_0 (l st : List AV) (σ : St) (x : Nat) : run 65 0 (vR x :: l) (st) σ = run 65 1 (vR x :: l) (vR x :: st) σ := (run_eq 65 0 _ _ σ).trans rfl
theorem e65_1 (ls st : List AV) (σ : St) (x : Nat) (h : fok σ x 2) : run 65 1 (ls) (vR x :: st) σ = run 65 4 (ls) (vR (gr σ x 0) :: st) σ := (run_eq 65 1 _ _ σ).trans (if_pos h)
theorem e65_4 (a0 : AV) (l st : List AV) (σ : St) (x : Int) : run 65 4 (a0 :: vI x :: l) (st) σ = run 65 5 (a0 :: vI x :: l) (vI x :: st) σ := (run_eq 65 4 _ _ σ).trans rfl
theorem e65_5 (ls st : List AV) (σ : St) (x0 : Nat) (x1 : Int) (h4 : st.length ≤ 4) (h : fok σ x0 0) : run 65 5 ls (vI x1 :: vR x0 :: st) σ = bnd (run 66 0 [vR x0, vI x1, vU, vU] [] σ) (fun r σ => run 65 8 ls (psh r st) σ) := (run_eq 65 5 _ _ σ).trans (if_pos ⟨rfl, by simp, by simpa using h4, rfl, h⟩)
theorem e65_8 (ls st : List AV) (σ : St) (x : Int) : run 65 8 (ls) (vI x :: st) σ = if x = 0 then run 65 16 (ls) (st) σ else run 65 11 (ls) (st) σ := (run_eq 65 8 _ _ σ).trans rfl
theorem e65_11 (ls st : List AV) (σ : St) : run 65 11 (ls) (st) σ = run 65 13 (ls) (vI 100 :: st) σ := (run_eq 65 11 _ _ σ).trans rfl
theorem e65_13 (ls st : List AV) (σ : St) : run 65 13 (ls) (st) σ = run 65 17 (ls) (st) σ := (run_eq 65 13 _ _ σ).trans rfl
theorem e65_16 (ls st : List AV) (σ : St) : run 65 16 (ls) (st) σ = run 65 17 (ls) (vI 0 :: st) σ := (run_eq 65 16 _ _ σ).trans rfl
theorem e65_17 (ls : List AV) (σ : St) (x : Int) : run 65 17 ls [vI x] σ = some (vI x, σ) := (run_eq 65 17 _ _ σ).trans rfl
/-! F_firstStep -/
theorem e68_0 (ls st : List AV) (σ : St) : run 68 0 (ls) (st) σ = run 68 2 (ls) (vI (-6) :: st) σ := (run_eq 68 0 _ _ σ).trans rfl
theorem e68_2 (a0 a1 a2 : AV) (l st : List AV) (σ : St) (q : AV) (x : Int) : run 68 2 (a0 :: a1 :: a2 :: q :: l) (vI x :: st) σ = run 68 3 (a0 :: a1 :: a2 :: vI x :: l) (st) σ := (run_eq 68 2 _ _ σ).trans rfl
theorem e68_3 (ls st : List AV) (σ : St) : run 68 3 (ls) (st) σ = run 68 4 (ls) (vI 0 :: st) σ := (run_eq 68 3 _ _ σ).trans rfl
theorem e68_4 (a0 a1 a2 a3 : AV) (l st : List AV) (σ : St) (q : AV) (x : Int) : run 68 4 (a0 :: a1 :: a2 :: a3 :: q :: l) (vI x :: st) σ = run 68 6 (a0 :: a1 :: a2 :: a3 :: vI x :: l) (st) σ := (run_eq 68 4 _ _ σ).trans rfl
theorem e68_6 (a0 a1 a2 a3 : AV) (l st : List AV) (σ : St) (x : Int) : run 68 6 (a0 :: a1 :: a2 :: a3 :: vI x :: l) (st) σ = run 68 8 (a0 :: a1 :: a2 :: a3 :: vI x :: l) (vI x :: st) σ := (run_eq 68 6 _ _ σ).trans rfl
theorem e68_8 (ls st : List AV) (σ : St) : run 68 8 (ls) (st) σ = run 68 9 (ls) (vI 4 :: st) σ := (run_eq 68 8 _ _ σ).trans rfl
theorem e68_9 (ls st : List AV) (σ : St) (y x : Int) : run 68 9 (ls) (vI y :: vI x :: st) σ = if x < y then run 68 12 (ls) (st) σ else run 68 96 (ls) (st) σ := (run_eq 68 9 _ _ σ).trans rfl
theorem e68_12 (a0 : AV) (l st : List AV) (σ : St) (x : Int) : run 68 12 (a0 :: vI x :: l) (st) σ = run 68 13 (a0 :: vI x :: l) (vI x :: st) σ := (run_eq 68 12 _ _ σ).trans rfl
theorem e68_13 (a0 a1 : AV) (l st : List AV) (σ : St) (x : Int) : run 68 13 (a0 :: a1 :: vI x :: l) (st) σ = run 68 14 (a0 :: a1 :: vI x :: l) (vI x :: st) σ := (run_eq 68 13 _ _ σ).trans rfl
theorem e68_14 (ls st : List AV) (σ : St) (y x : Int) : run 68 14 (ls) (vI y :: vI x :: st) σ = if x = y then run 68 96 (ls) (st) σ else run 68 17 (ls) (st) σ := (run_eq 68 14 _ _ σ).trans rfl
theorem e68_17 (l st : List AV) (σ : St) (x : Nat) : run 68 17 (vR x :: l) (st) σ = run 68 18 (vR x :: l) (vR x :: st) σ := (run_eq 68 17 _ _ σ).trans rfl
theorem e68_18 (ls st : List AV) (σ : St) (x : Nat) (h : fok σ x 2) : run 68 18 (ls) (vR x :: st) σ = run 68 21 (ls) (vR (gr σ x 0) :: st) σ := (run_eq 68 18 _ _ σ).trans (if_pos h)
theorem e68_21 (a0 : AV) (l st : List AV) (σ : St) (x : Int) : run 68 21 (a0 :: vI x :: l) (st) σ = run 68 22 (a0 :: vI x :: l) (vI x :: st) σ := (run_eq 68 21 _ _ σ).trans rfl
theorem e68_22 (a0 a1 a2 a3 : AV) (l st : List AV) (σ : St) (x : Int) : run 68 22 (a0 :: a1 :: a2 :: a3 :: vI x :: l) (st) σ = run 68 24 (a0 :: a1 :: a2 :: a3 :: vI x :: l) (vI x :: st) σ := (run_eq 68 22 _ _ σ).trans rfl
theorem e68_24 (ls st : List AV) (σ : St) (x0 : Nat) (x1 : Int) (x2 : Int) (h4 : st.length ≤ 4) (h : fok σ x0 0) : run 68 24 ls (vI x2 :: vI x1 :: vR x0 :: st) σ = bnd (run 67 0 [vR x0, vI x1, vI x2] [] σ) (fun r σ => run 68 27 ls (psh r st) σ) := (run_eq 68 24 _ _ σ).trans (if_pos ⟨rfl, by simp, by simpa using h4, rfl, h⟩)
theorem e68_27 (a0 a1 a2 a3 a4 : AV) (l st : List AV) (σ : St) (q : AV) (x : Int) : run 68 27 (a0 :: a1 :: a2 :: a3 :: a4 :: q :: l) (vI x :: st) σ = run 68 29 (a0 :: a1 :: a2 :: a3 :: a4 :: vI x :: l) (st) σ := (run_eq 68 27 _ _ σ).trans rfl
theorem e68_29 (a0 a1 a2 a3 a4 : AV) (l st : List AV) (σ : St) (x : Int) : run 68 29 (a0 :: a1 :: a2 :: a3 :: a4 :: vI x :: l) (st) σ = run 68 31 (a0 :: a1 :: a2 :: a3 :: a4 :: vI x :: l) (vI x :: st) σ := (run_eq 68 29 _ _ σ).trans rfl
theorem e68_31 (ls st : List AV) (σ : St) : run 68 31 (ls) (st) σ = run 68 32 (ls) (vI (-1) :: st) σ := (run_eq 68 31 _ _ σ).trans rfl
theorem e68_32 (ls st : List AV) (σ : St) (y x : Int) : run 68 32 (ls) (vI y :: vI x :: st) σ = if x = y then run 68 67 (ls) (st) σ else run 68 35 (ls) (st) σ := (run_eq 68 32 _ _ σ).trans rfl
theorem e68_35 (l st : List AV) (σ : St) (x : Nat) : run 68 35 (vR x :: l) (st) σ = run 68 36 (vR x :: l) (vR x :: st) σ := (run_eq 68 35 _ _ σ).trans rfl
theorem e68_36 (ls st : List AV) (σ : St) (x : Nat) (h : fok σ x 2) : run 68 36 (ls) (vR x :: st) σ = run 68 39 (ls) (vR (gr σ x 6) :: st) σ := (run_eq 68 36 _ _ σ).trans (if_pos h)
theorem e68_39 (a0 a1 a2 a3 a4 : AV) (l st : List AV) (σ : St) (x : Int) : run 68 39 (a0 :: a1 :: a2 :: a3 :: a4 :: vI x :: l) (st) σ = run 68 41 (a0 :: a1 :: a2 :: a3 :: a4 :: vI x :: l) (vI x :: st) σ := (run_eq 68 39 _ _ σ).trans rfl
theorem e68_41 (ls st : List AV) (σ : St) (x0 : Nat) (x1 : Int) (h4 : st.length ≤ 4) : run 68 41 ls (vI x1 :: vR x0 :: st) σ = bnd (run 10 0 [vR x0, vI x1] [] σ) (fun r σ => run 68 44 ls (psh r st) σ) := (run_eq 68 41 _ _ σ).trans (if_pos ⟨rfl, by simp, by simpa using h4⟩)
theorem e68_44 (ls st : List AV) (σ : St) : run 68 44 (ls) (st) σ = run 68 45 (ls) (vI 1 :: st) σ := (run_eq 68 44 _ _ σ).trans rfl
theorem e68_45 (ls st : List AV) (σ : St) (y x : Int) : run 68 45 (ls) (vI y :: vI x :: st) σ = run 68 46 (ls) (vI (wr (x + y)) :: st) σ := (run_eq 68 45 _ _ σ).trans rfl
theorem e68_46 (l st : List AV) (σ : St) (x : Nat) : run 68 46 (vR x :: l) (st) σ = run 68 47 (vR x :: l) (vR x :: st) σ := (run_eq 68 46 _ _ σ).trans rfl
theorem e68_47 (a0 : AV) (l st : List AV) (σ : St) (x : Int) : run 68 47 (a0 :: vI x :: l) (st) σ = run 68 48 (a0 :: vI x :: l) (vI x :: st) σ := (run_eq 68 47 _ _ σ).trans rfl
theorem e68_48 (ls st : List AV) (σ : St) (x0 : Nat) (x1 : Int) (h4 : st.length ≤ 4) (h : fok σ x0 2) : run 68 48 ls (vI x1 :: vR x0 :: st) σ = bnd (run 65 0 [vR x0, vI x1] [] σ) (fun r σ => run 68 51 ls (psh r st) σ) := (run_eq 68 48 _ _ σ).trans (if_pos ⟨rfl, by simp, by simpa using h4, rfl, h⟩)
theorem e68_51 (ls st : List AV) (σ : St) (y x : Int) : run 68 51 (ls) (vI y :: vI x :: st) σ = run 68 52 (ls) (vI (wr (x + y)) :: st) σ := (run_eq 68 51 _ _ σ).trans rfl
theorem e68_52 (l st : List AV) (σ : St) (x : Nat) : run 68 52 (vR x :: l) (st) σ = run 68 53 (vR x :: l) (vR x :: st) σ := (run_eq 68 52 _ _ σ).trans rfl
theorem e68_53 (ls st : List AV) (σ : St) (x : Nat) (h : fok σ x 2) : run 68 53 (ls) (vR x :: st) σ = run 68 56 (ls) (vR (gr σ x 6) :: st) σ := (run_eq 68 53 _ _ σ).trans (if_pos h)
theorem e68_56 (a0 : AV) (l st : List AV) (σ : St) (x : Int) : run 68 56 (a0 :: vI x :: l) (st) σ = run 68 57 (a0 :: vI x :: l) (vI x :: st) σ := (run_eq 68 56 _ _ σ).trans rfl
theorem e68_57 (ls st : List AV) (σ : St) (x0 : Nat) (x1 : Int) (h4 : st.length ≤ 4) : run 68 57 ls (vI x1 :: vR x0 :: st) σ = bnd (run 10 0 [vR x0, vI x1] [] σ) (fun r σ => run 68 60 ls (psh r st) σ) := (run_eq 68 57 _ _ σ).trans (if_pos ⟨rfl, by simp, by simpa using h4⟩)
theorem e68_60 (ls st : List AV) (σ : St) (y x : Int) : run 68 60 (ls) (vI y :: vI x :: st) σ = if x = y then run 68 63 (ls) (st) σ else run 68 67 (ls) (st) σ := (run_eq 68 60 _ _ σ).trans rfl
theorem e68_63 (ls st : List AV) (σ : St) : run 68 63 (ls) (st) σ = run 68 64 (ls) (vI 1 :: st) σ := (run_eq 68 63 _ _ σ).trans rfl
theorem e68_64 (ls st : List AV) (σ : St) : run 68 64 (ls) (st) σ = run 68 68 (ls) (st) σ := (run_eq 68 64 _ _ σ).trans rfl
theorem e68_67 (ls st : List AV) (σ : St) : run 68 67 (ls) (st) σ = run 68 68 (ls) (vI 0 :: st) σ := (run_eq 68 67 _ _ σ).trans rfl
theorem e68_68 (a0 a1 a2 a3 a4 a5 : AV) (l st : List AV) (σ : St) (q : AV) (x : Int) : run 68 68 (a0 :: a1 :: a2 :: a3 :: a4 :: a5 :: q :: l) (vI x :: st) σ = run 68 70 (a0 :: a1 :: a2 :: a3 :: a4 :: a5 :: vI x :: l) (st) σ := (run_eq 68 68 _ _ σ).trans rfl
theorem e68_70 (a0 a1 a2 a3 a4 a5 : AV) (l st : List AV) (σ : St) (x : Int) : run 68 70 (a0 :: a1 :: a2 :: a3 :: a4 :: a5 :: vI x :: l) (st) σ = run 68 72 (a0 :: a1 :: a2 :: a3 :: a4 :: a5 :: vI x :: l) (vI x :: st) σ := (run_eq 68 70 _ _ σ).trans rfl
theorem e68_72 (ls st : List AV) (σ : St) (x : Int) : run 68 72 (ls) (vI x :: st) σ = if x = 0 then run 68 90 (ls) (st) σ else run 68 75 (ls) (st) σ := (run_eq 68 72 _ _ σ).trans rfl
theorem e68_75 (a0 a1 a2 : AV) (l st : List AV) (σ : St) (x : Int) : run 68 75 (a0 :: a1 :: a2 :: vI x :: l) (st) σ = run 68 76 (a0 :: a1 :: a2 :: vI x :: l) (vI x :: st) σ := (run_eq 68 75 _ _ σ).trans rfl
theorem e68_76 (ls st : List AV) (σ : St) : run 68 76 (ls) (st) σ = run 68 78 (ls) (vI (-6) :: st) σ := (run_eq 68 76 _ _ σ).trans rfl
theorem e68_78 (ls st : List AV) (σ : St) (y x : Int) : run 68 78 (ls) (vI y :: vI x :: st) σ = if x = y then run 68 87 (ls) (st) σ else run 68 81 (ls) (st) σ := (run_eq 68 78 _ _ σ).trans rfl
theorem e68_81 (a0 a1 a2 a3 a4 : AV) (l st : List AV) (σ : St) (x : Int) : run 68 81 (a0 :: a1 :: a2 :: a3 :: a4 :: vI x :: l) (st) σ = run 68 83 (a0 :: a1 :: a2 :: a3 :: a4 :: vI x :: l) (vI x :: st) σ := (run_eq 68 81 _ _ σ).trans rfl
theorem e68_83 (a0 a1 a2 : AV) (l st : List AV) (σ : St) (x : Int) : run 68 83 (a0 :: a1 :: a2 :: vI x :: l) (st) σ = run 68 84 (a0 :: a1 :: a2 :: vI x :: l) (vI x :: st) σ := (run_eq 68 83 _ _ σ).trans rfl
theorem e68_84 (ls st : List AV) (σ : St) (y x : Int) : run 68 84 (ls) (vI y :: vI x :: st) σ = if x < y then run 68 87 (ls) (st) σ else run 68 90 (ls) (st) σ := (run_eq 68 84 _ _ σ).trans rfl
theorem e68_87 (a0 a1 a2 a3 a4 : AV) (l st : List AV) (σ : St) (x : Int) : run 68 87 (a0 :: a1 :: a2 :: a3 :: a4 :: vI x :: l) (st) σ = run 68 89 (a0 :: a1 :: a2 :: a3 :: a4 :: vI x :: l) (vI x :: st) σ := (run_eq 68 87 _ _ σ).trans rfl
theorem e68_89 (a0 a1 a2 : AV) (l st : List AV) (σ : St) (q : AV) (x : Int) : run 68 89 (a0 :: a1 :: a2 :: q :: l) (vI x :: st) σ = run 68 90 (a0 :: a1 :: a2 :: vI x :: l) (st) σ := (run_eq 68 89 _ _ σ).trans rfl
theorem e68_90 (a0 a1 a2 a3 : AV) (l st : List AV) (σ : St) (x : Int) : run 68 90 (a0 :: a1 :: a2 :: a3 :: vI x :: l) (st) σ = run 68 93 (a0 :: a1 :: a2 :: a3 :: vI (wr (x + 1)) :: l) (st) σ := (run_eq 68 90 _ _ σ).trans rfl
theorem e68_93 (ls st : List AV) (σ : St) : run 68 93 (ls) (st) σ = run 68 6 (ls) (st) σ := (run_eq 68 93 _ _ σ).trans rfl
theorem e68_96 (a0 a1 a2 : AV) (l st : List AV) (σ : St) (x : Int) : run 68 96 (a0 :: a1 :: a2 :: vI x :: l) (st) σ = run 68 97 (a0 :: a1 :: a2 :: vI x :: l) (vI x :: st) σ := (run_eq 68 96 _ _ σ).trans rfl
theorem e68_97 (ls : List AV) (σ : St) (x : Int) : run 68 97 ls [vI x] σ = some (vI x, σ) := (run_eq 68 97 _ _ σ).trans rfl
/-! F_wins -/
theorem e69_0 (l st : List AV) (σ : St) (x : Nat) : run 69 0 (vR x :: l) (st) σ = run 69 1 (vR x :: l) (vR x :: st) σ := (run_eq 69 0 _ _ σ).trans rfl
theorem e69_1 (a0 : AV) (l st : List AV) (σ : St) (x : Int) : run 69 1 (a0 :: vI x :: l) (st) σ = run 69 2 (a0 :: vI x :: l) (vI x :: st) σ := (run_eq 69 1 _ _ σ).trans rfl
theorem e69_2 (ls st : List AV) (σ : St) (x0 : Nat) (x1 : Int) (h4 : st.length ≤ 4) (h : fok σ x0 2) : run 69 2 ls (vI x1 :: vR x0 :: st) σ = bnd (run 70 0 [vR x0, vI x1] [] σ) (fun r σ => run 69 5 ls (psh r st) σ) := (run_eq 69 2 _ _ σ).trans (if_pos ⟨rfl, by simp, by simpa using h4, rfl, h⟩)
theorem e69_5 (ls st : List AV) (σ : St) (x : Int) : run 69 5 (ls) (vI x :: st) σ = if x = 0 then run 69 8 (ls) (st) σ else run 69 11 (ls) (st) σ := (run_eq 69 5 _ _ σ).trans rfl
theorem e69_8 (ls st : List AV) (σ : St) : run 69 8 (ls) (st) σ = run 69 10 (ls) (vI (-2) :: st) σ := (run_eq 69 8 _ _ σ).trans rfl
theorem e69_10 (ls : List AV) (σ : St) (x : Int) : run 69 10 ls [vI x] σ = some (vI x, σ) := (run_eq 69 10 _ _ σ).trans rfl
theorem e69_11 (l st : List AV) (σ : St) (x : Nat) : run 69 11 (vR x :: l) (st) σ = run 69 12 (vR x :: l) (vR x :: st) σ := (run_eq 69 11 _ _ σ).trans rfl
theorem e69_12 (a0 : AV) (l st : List AV) (σ : St) (x : Int) : run 69 12 (a0 :: vI x :: l) (st) σ = run 69 13 (a0 :: vI x :: l) (vI x :: st) σ := (run_eq 69 12 _ _ σ).trans rfl
theorem e69_13 (ls st : List AV) (σ : St) (x0 : Nat) (x1 : Int) (h4 : st.length ≤ 4) (h : fok σ x0 2) : run 69 13 ls (vI x1 :: vR x0 :: st) σ = bnd (run 71 0 [vR x0, vI x1, vU, vU] [] σ) (fun r σ => run 69 16 ls (psh r st) σ) := (run_eq 69 13 _ _ σ).trans (if_pos ⟨rfl, by simp, by simpa using h4, rfl, h⟩)
theorem e69_16 (ls st : List AV) (σ : St) (x : Int) : run 69 16 (ls) (vI x :: st) σ = if x = 0 then run 69 23 (ls) (st) σ else run 69 19 (ls) (st) σ := (run_eq 69 16 _ _ σ).trans rfl
theorem e69_19 (ls st : List AV) (σ : St) : run 69 19 (ls) (st) σ = run 69 20 (ls) (vI 0 :: st) σ := (run_eq 69 19 _ _ σ).trans rfl
theorem e69_20 (ls st : List AV) (σ : St) : run 69 20 (ls) (st) σ = run 69 24 (ls) (st) σ := (run_eq 69 20 _ _ σ).trans rfl
theorem e69_23 (ls st : List AV) (σ : St) : run 69 23 (ls) (st) σ = run 69 24 (ls) (vI 1 :: st) σ := (run_eq 69 23 _ _ σ).trans rfl
theorem e69_24 (ls : List AV) (σ : St) (x : Int) : run 69 24 ls [vI x] σ = some (vI x, σ) := (run_eq 69 24 _ _ σ).trans rfl
/-! F_isSet -/
theorem e70_0 (a0 : AV) (l st : List AV) (σ : St) (x : Int) : run 70 0 (a0 :: vI x :: l) (st) σ = run 70 1 (a0 :: vI x :: l) (vI x :: st) σ := (run_eq 70 0 _ _ σ).trans rfl
theorem e70_1 (ls st : List AV) (σ : St) : run 70 1 (ls) (st) σ = run 70 2 (ls) (vI 0 :: st) σ := (run_eq 70 1 _ _ σ).trans rfl
theorem e70_2 (ls st : List AV) (σ : St) : run 70 2 (ls) (st) σ = run 70 3 (ls) (vI 1 :: st) σ := (run_eq 70 2 _ _ σ).trans rfl
theorem e70_3 (l st : List AV) (σ : St) (x : Nat) : run 70 3 (vR x :: l) (st) σ = run 70 4 (vR x :: l) (vR x :: st) σ := (run_eq 70 3 _ _ σ).trans rfl
theorem e70_4 (ls st : List AV) (σ : St) (x : Nat) (h : fok σ x 2) : run 70 4 (ls) (vR x :: st) σ = run 70 7 (ls) (vR (gr σ x 0) :: st) σ := (run_eq 70 4 _ _ σ).trans (if_pos h)
theorem e70_7 (ls st : List AV) (σ : St) (x : Nat) (h : fok σ x 0) : run 70 7 (ls) (vR x :: st) σ = run 70 10 (ls) (vI (gt σ x 2) :: st) σ := (run_eq 70 7 _ _ σ).trans (if_pos h)
theorem e70_10 (ls st : List AV) (σ : St) (y x : Int) : run 70 10 (ls) (vI y :: vI x :: st) σ = run 70 11 (ls) (vI (bShl x y) :: st) σ := (run_eq 70 10 _ _ σ).trans rfl
theorem e70_11 (ls st : List AV) (σ : St) : run 70 11 (ls) (st) σ = run 70 12 (ls) (vI 1 :: st) σ := (run_eq 70 11 _ _ σ).trans rfl
theorem e70_12 (ls st : List AV) (σ : St) (y x : Int) : run 70 12 (ls) (vI y :: vI x :: st) σ = run 70 13 (ls) (vI (wr (x - y)) :: st) σ := (run_eq 70 12 _ _ σ).trans rfl
theorem e70_13 (ls st : List AV) (σ : St) (x0 : Int) (x1 : Int) (x2 : Int) (h4 : st.length ≤ 4) : run 70 13 ls (vI x2 :: vI x1 :: vI x0 :: st) σ = bnd (run 6 0 [vI x0, vI x1, vI x2] [] σ) (fun r σ => run 70 16 ls (psh r st) σ) := (run_eq 70 13 _ _ σ).trans (if_pos ⟨rfl, by simp, by simpa using h4⟩)
theorem e70_16 (ls : List AV) (σ : St) (x : Int) (h : x = 0 ∨ x = 1) : run 70 16 ls [vI x] σ = some (vI x, σ) := (run_eq 70 16 _ _ σ).trans (if_pos h)
/-! F_nimSum -/
theorem e71_0 (ls st : List AV) (σ : St) : run 71 0 (ls) (st) σ = run 71 1 (ls) (vI 0 :: st) σ := (run_eq 71 0 _ _ σ).trans rfl
theorem e71_1 (a0 a1 : AV) (l st : List AV) (σ : St) (q : AV) (x : Int) : run 71 1 (a0 :: a1 :: q :: l) (vI x :: st) σ = run 71 2 (a0 :: a1 :: vI x :: l) (st) σ := (run_eq 71 1 _ _ σ).trans rfl
theorem e71_2 (ls st : List AV) (σ : St) : run 71 2 (ls) (st) σ = run 71 3 (ls) (vI 0 :: st) σ := (run_eq 71 2 _ _ σ).trans rfl
theorem e71_3 (a0 a1 a2 : AV) (l st : List AV) (σ : St) (q : AV) (x : Int) : run 71 3 (a0 :: a1 :: a2 :: q :: l) (vI x :: st) σ = run 71 4 (a0 :: a1 :: a2 :: vI x :: l) (st) σ := (run_eq 71 3 _ _ σ).trans rfl
theorem e71_4 (a0 a1 a2 : AV) (l st : List AV) (σ : St) (x : Int) : run 71 4 (a0 :: a1 :: a2 :: vI x :: l) (st) σ = run 71 5 (a0 :: a1 :: a2 :: vI x :: l) (vI x :: st) σ := (run_eq 71 4 _ _ σ).trans rfl
theorem e71_5 (l st : List AV) (σ : St) (x : Nat) : run 71 5 (vR x :: l) (st) σ = run 71 6 (vR x :: l) (vR x :: st) σ := (run_eq 71 5 _ _ σ).trans rfl
theorem e71_6 (ls st : List AV) (σ : St) (x : Nat) (h : fok σ x 2) : run 71 6 (ls) (vR x :: st) σ = run 71 9 (ls) (vR (gr σ x 0) :: st) σ := (run_eq 71 6 _ _ σ).trans (if_pos h)
theorem e71_9 (ls st : List AV) (σ : St) (x : Nat) (h : fok σ x 0) : run 71 9 (ls) (vR x :: st) σ = run 71 12 (ls) (vI (gt σ x 2) :: st) σ := (run_eq 71 9 _ _ σ).trans (if_pos h)
theorem e71_12 (ls st : List AV) (σ : St) (y x : Int) : run 71 12 (ls) (vI y :: vI x :: st) σ = if x < y then run 71 15 (ls) (st) σ else run 71 48 (ls) (st) σ := (run_eq 71 12 _ _ σ).trans rfl
theorem e71_15 (a0 a1 : AV) (l st : List AV) (σ : St) (x : Int) : run 71 15 (a0 :: a1 :: vI x :: l) (st) σ = run 71 16 (a0 :: a1 :: vI x :: l) (vI x :: st) σ := (run_eq 71 15 _ _ σ).trans rfl
theorem e71_16 (a0 : AV) (l st : List AV) (σ : St) (x : Int) : run 71 16 (a0 :: vI x :: l) (st) σ = run 71 17 (a0 :: vI x :: l) (vI x :: st) σ := (run_eq 71 16 _ _ σ).trans rfl
theorem e71_17 (a0 a1 a2 : AV) (l st : List AV) (σ : St) (x : Int) : run 71 17 (a0 :: a1 :: a2 :: vI x :: l) (st) σ = run 71 18 (a0 :: a1 :: a2 :: vI x :: l) (vI x :: st) σ := (run_eq 71 17 _ _ σ).trans rfl
theorem e71_18 (ls st : List AV) (σ : St) (y x : Int) : run 71 18 (ls) (vI y :: vI x :: st) σ = run 71 19 (ls) (vI (bShr x y) :: st) σ := (run_eq 71 18 _ _ σ).trans rfl
theorem e71_19 (ls st : List AV) (σ : St) : run 71 19 (ls) (st) σ = run 71 20 (ls) (vI 1 :: st) σ := (run_eq 71 19 _ _ σ).trans rfl
theorem e71_20 (ls st : List AV) (σ : St) (y x : Int) : run 71 20 (ls) (vI y :: vI x :: st) σ = run 71 21 (ls) (vI (bAnd x y) :: st) σ := (run_eq 71 20 _ _ σ).trans rfl
theorem e71_21 (ls st : List AV) (σ : St) : run 71 21 (ls) (st) σ = run 71 22 (ls) (vI 1 :: st) σ := (run_eq 71 21 _ _ σ).trans rfl
theorem e71_22 (ls st : List AV) (σ : St) (y x : Int) : run 71 22 (ls) (vI y :: vI x :: st) σ = if x = y then run 71 25 (ls) (st) σ else run 71 39 (ls) (st) σ := (run_eq 71 22 _ _ σ).trans rfl
theorem e71_25 (l st : List AV) (σ : St) (x : Nat) : run 71 25 (vR x :: l) (st) σ = run 71 26 (vR x :: l) (vR x :: st) σ := (run_eq 71 25 _ _ σ).trans rfl
theorem e71_26 (ls st : List AV) (σ : St) (x : Nat) (h : fok σ x 2) : run 71 26 (ls) (vR x :: st) σ = run 71 29 (ls) (vR (gr σ x 0) :: st) σ := (run_eq 71 26 _ _ σ).trans (if_pos h)
theorem e71_29 (ls st : List AV) (σ : St) (x : Nat) (h : fok σ x 0) : run 71 29 (ls) (vR x :: st) σ = run 71 32 (ls) (vR (gr σ x 6) :: st) σ := (run_eq 71 29 _ _ σ).trans (if_pos h)
theorem e71_32 (a0 a1 a2 : AV) (l st : List AV) (σ : St) (x : Int) : run 71 32 (a0 :: a1 :: a2 :: vI x :: l) (st) σ = run 71 33 (a0 :: a1 :: a2 :: vI x :: l) (vI x :: st) σ := (run_eq 71 32 _ _ σ).trans rfl
theorem e71_33 (ls st : List AV) (σ : St) (x0 : Nat) (x1 : Int) (h4 : st.length ≤ 4) : run 71 33 ls (vI x1 :: vR x0 :: st) σ = bnd (run 10 0 [vR x0, vI x1] [] σ) (fun r σ => run 71 36 ls (psh r st) σ) := (run_eq 71 33 _ _ σ).trans (if_pos ⟨rfl, by simp, by simpa using h4⟩)
theorem e71_36 (ls st : List AV) (σ : St) : run 71 36 (ls) (st) σ = run 71 40 (ls) (st) σ := (run_eq 71 36 _ _ σ).trans rfl
theorem e71_39 (ls st : List AV) (σ : St) : run 71 39 (ls) (st) σ = run 71 40 (ls) (vI 0 :: st) σ := (run_eq 71 39 _ _ σ).trans rfl
theorem e71_40 (ls st : List AV) (σ : St) (y x : Int) : run 71 40 (ls) (vI y :: vI x :: st) σ = run 71 41 (ls) (vI (bXor x y) :: st) σ := (run_eq 71 40 _ _ σ).trans rfl
theorem e71_41 (a0 a1 : AV) (l st : List AV) (σ : St) (q : AV) (x : Int) : run 71 41 (a0 :: a1 :: q :: l) (vI x :: st) σ = run 71 42 (a0 :: a1 :: vI x :: l) (st) σ := (run_eq 71 41 _ _ σ).trans rfl
theorem e71_42 (a0 a1 a2 : AV) (l st : List AV) (σ : St) (x : Int) : run 71 42 (a0 :: a1 :: a2 :: vI x :: l) (st) σ = run 71 45 (a0 :: a1 :: a2 :: vI (wr (x + 1)) :: l) (st) σ := (run_eq 71 42 _ _ σ).trans rfl
theorem e71_45 (ls st : List AV) (σ : St) : run 71 45 (ls) (st) σ = run 71 4 (ls) (st) σ := (run_eq 71 45 _ _ σ).trans rfl
theorem e71_48 (a0 a1 : AV) (l st : List AV) (σ : St) (x : Int) : run 71 48 (a0 :: a1 :: vI x :: l) (st) σ = run 71 49 (a0 :: a1 :: vI x :: l) (vI x :: st) σ := (run_eq 71 48 _ _ σ).trans rfl
theorem e71_49 (ls : List AV) (σ : St) (x : Int) : run 71 49 ls [vI x] σ = some (vI x, σ) := (run_eq 71 49 _ _ σ).trans rfl
/-! F_cut -/
theorem e72_0 (l st : List AV) (σ : St) (x : Nat) : run 72 0 (vR x :: l) (st) σ = run 72 1 (vR x :: l) (vR x :: st) σ := (run_eq 72 0 _ _ σ).trans rfl
theorem e72_1 (a0 : AV) (l st : List AV) (σ : St) (x : Int) : run 72 1 (a0 :: vI x :: l) (st) σ = run 72 2 (a0 :: vI x :: l) (vI x :: st) σ := (run_eq 72 1 _ _ σ).trans rfl
theorem e72_2 (ls st : List AV) (σ : St) (x0 : Nat) (x1 : Int) (h4 : st.length ≤ 4) (h : fok σ x0 2) : run 72 2 ls (vI x1 :: vR x0 :: st) σ = bnd (run 70 0 [vR x0, vI x1] [] σ) (fun r σ => run 72 5 ls (psh r st) σ) := (run_eq 72 2 _ _ σ).trans (if_pos ⟨rfl, by simp, by simpa using h4, rfl, h⟩)
theorem e72_5 (ls st : List AV) (σ : St) (x : Int) : run 72 5 (ls) (vI x :: st) σ = if x = 0 then run 72 8 (ls) (st) σ else run 72 11 (ls) (st) σ := (run_eq 72 5 _ _ σ).trans rfl
theorem e72_8 (ls st : List AV) (σ : St) : run 72 8 (ls) (st) σ = run 72 10 (ls) (vI (-2) :: st) σ := (run_eq 72 8 _ _ σ).trans rfl
theorem e72_10 (ls : List AV) (σ : St) (x : Int) : run 72 10 ls [vI x] σ = some (vI x, σ) := (run_eq 72 10 _ _ σ).trans rfl
theorem e72_11 (l st : List AV) (σ : St) (x : Nat) : run 72 11 (vR x :: l) (st) σ = run 72 12 (vR x :: l) (vR x :: st) σ := (run_eq 72 11 _ _ σ).trans rfl
theorem e72_12 (a0 : AV) (l st : List AV) (σ : St) (x : Int) : run 72 12 (a0 :: vI x :: l) (st) σ = run 72 13 (a0 :: vI x :: l) (vI x :: st) σ := (run_eq 72 12 _ _ σ).trans rfl
theorem e72_13 (ls st : List AV) (σ : St) (x0 : Nat) (x1 : Int) (h4 : st.length ≤ 4) (h : fok σ x0 2) : run 72 13 ls (vI x1 :: vR x0 :: st) σ = bnd (run 71 0 [vR x0, vI x1, vU, vU] [] σ) (fun r σ => run 72 16 ls (psh r st) σ) := (run_eq 72 13 _ _ σ).trans (if_pos ⟨rfl, by simp, by simpa using h4, rfl, h⟩)
theorem e72_16 (a0 a1 : AV) (l st : List AV) (σ : St) (q : AV) (x : Int) : run 72 16 (a0 :: a1 :: q :: l) (vI x :: st) σ = run 72 17 (a0 :: a1 :: vI x :: l) (st) σ := (run_eq 72 16 _ _ σ).trans rfl
theorem e72_17 (ls st : List AV) (σ : St) : run 72 17 (ls) (st) σ = run 72 18 (ls) (vI 0 :: st) σ := (run_eq 72 17 _ _ σ).trans rfl
theorem e72_18 (a0 a1 a2 : AV) (l st : List AV) (σ : St) (q : AV) (x : Int) : run 72 18 (a0 :: a1 :: a2 :: q :: l) (vI x :: st) σ = run 72 19 (a0 :: a1 :: a2 :: vI x :: l) (st) σ := (run_eq 72 18 _ _ σ).trans rfl
theorem e72_19 (a0 a1 a2 : AV) (l st : List AV) (σ : St) (x : Int) : run 72 19 (a0 :: a1 :: a2 :: vI x :: l) (st) σ = run 72 20 (a0 :: a1 :: a2 :: vI x :: l) (vI x :: st) σ := (run_eq 72 19 _ _ σ).trans rfl
theorem e72_20 (l st : List AV) (σ : St) (x : Nat) : run 72 20 (vR x :: l) (st) σ = run 72 21 (vR x :: l) (vR x :: st) σ := (run_eq 72 20 _ _ σ).trans rfl
theorem e72_21 (ls st : List AV) (σ : St) (x : Nat) (h : fok σ x 2) : run 72 21 (ls) (vR x :: st) σ = run 72 24 (ls) (vR (gr σ x 0) :: st) σ := (run_eq 72 21 _ _ σ).trans (if_pos h)
theorem e72_24 (ls st : List AV) (σ : St) (x : Nat) (h : fok σ x 0) : run 72 24 (ls) (vR x :: st) σ = run 72 27 (ls) (vI (gt σ x 2) :: st) σ := (run_eq 72 24 _ _ σ).trans (if_pos h)
theorem e72_27 (ls st : List AV) (σ : St) (y x : Int) : run 72 27 (ls) (vI y :: vI x :: st) σ = if x < y then run 72 30 (ls) (st) σ else run 72 79 (ls) (st) σ := (run_eq 72 27 _ _ σ).trans rfl
theorem e72_30 (l st : List AV) (σ : St) (x : Nat) : run 72 30 (vR x :: l) (st) σ = run 72 31 (vR x :: l) (vR x :: st) σ := (run_eq 72 30 _ _ σ).trans rfl
theorem e72_31 (ls st : List AV) (σ : St) (x : Nat) (h : fok σ x 2) : run 72 31 (ls) (vR x :: st) σ = run 72 34 (ls) (vR (gr σ x 0) :: st) σ := (run_eq 72 31 _ _ σ).trans (if_pos h)
theorem e72_34 (ls st : List AV) (σ : St) (x : Nat) (h : fok σ x 0) : run 72 34 (ls) (vR x :: st) σ = run 72 37 (ls) (vR (gr σ x 6) :: st) σ := (run_eq 72 34 _ _ σ).trans (if_pos h)
theorem e72_37 (a0 a1 a2 : AV) (l st : List AV) (σ : St) (x : Int) : run 72 37 (a0 :: a1 :: a2 :: vI x :: l) (st) σ = run 72 38 (a0 :: a1 :: a2 :: vI x :: l) (vI x :: st) σ := (run_eq 72 37 _ _ σ).trans rfl
theorem e72_38 (ls st : List AV) (σ : St) (x0 : Nat) (x1 : Int) (h4 : st.length ≤ 4) : run 72 38 ls (vI x1 :: vR x0 :: st) σ = bnd (run 10 0 [vR x0, vI x1] [] σ) (fun r σ => run 72 41 ls (psh r st) σ) := (run_eq 72 38 _ _ σ).trans (if_pos ⟨rfl, by simp, by simpa using h4⟩)
theorem e72_41 (a0 a1 a2 a3 : AV) (l st : List AV) (σ : St) (q : AV) (x : Int) : run 72 41 (a0 :: a1 :: a2 :: a3 :: q :: l) (vI x :: st) σ = run 72 43 (a0 :: a1 :: a2 :: a3 :: vI x :: l) (st) σ := (run_eq 72 41 _ _ σ).trans rfl
theorem e72_43 (a0 a1 a2 a3 : AV) (l st : List AV) (σ : St) (x : Int) : run 72 43 (a0 :: a1 :: a2 :: a3 :: vI x :: l) (st) σ = run 72 45 (a0 :: a1 :: a2 :: a3 :: vI x :: l) (vI x :: st) σ := (run_eq 72 43 _ _ σ).trans rfl
theorem e72_45 (a0 a1 : AV) (l st : List AV) (σ : St) (x : Int) : run 72 45 (a0 :: a1 :: vI x :: l) (st) σ = run 72 46 (a0 :: a1 :: vI x :: l) (vI x :: st) σ := (run_eq 72 45 _ _ σ).trans rfl
theorem e72_46 (ls st : List AV) (σ : St) (y x : Int) : run 72 46 (ls) (vI y :: vI x :: st) σ = run 72 47 (ls) (vI (bXor x y) :: st) σ := (run_eq 72 46 _ _ σ).trans rfl
theorem e72_47 (a0 a1 a2 a3 a4 : AV) (l st : List AV) (σ : St) (q : AV) (x : Int) : run 72 47 (a0 :: a1 :: a2 :: a3 :: a4 :: q :: l) (vI x :: st) σ = run 72 49 (a0 :: a1 :: a2 :: a3 :: a4 :: vI x :: l) (st) σ := (run_eq 72 47 _ _ σ).trans rfl
theorem e72_49 (a0 : AV) (l st : List AV) (σ : St) (x : Int) : run 72 49 (a0 :: vI x :: l) (st) σ = run 72 50 (a0 :: vI x :: l) (vI x :: st) σ := (run_eq 72 49 _ _ σ).trans rfl
theorem e72_50 (a0 a1 a2 : AV) (l st : List AV) (σ : St) (x : Int) : run 72 50 (a0 :: a1 :: a2 :: vI x :: l) (st) σ = run 72 51 (a0 :: a1 :: a2 :: vI x :: l) (vI x :: st) σ := (run_eq 72 50 _ _ σ).trans rfl
theorem e72_51 (ls st : List AV) (σ : St) (y x : Int) : run 72 51 (ls) (vI y :: vI x :: st) σ = run 72 52 (ls) (vI (bShr x y) :: st) σ := (run_eq 72 51 _ _ σ).trans rfl
theorem e72_52 (ls st : List AV) (σ : St) : run 72 52 (ls) (st) σ = run 72 53 (ls) (vI 1 :: st) σ := (run_eq 72 52 _ _ σ).trans rfl
theorem e72_53 (ls st : List AV) (σ : St) (y x : Int) : run 72 53 (ls) (vI y :: vI x :: st) σ = run 72 54 (ls) (vI (bAnd x y) :: st) σ := (run_eq 72 53 _ _ σ).trans rfl
theorem e72_54 (ls st : List AV) (σ : St) : run 72 54 (ls) (st) σ = run 72 55 (ls) (vI 1 :: st) σ := (run_eq 72 54 _ _ σ).trans rfl
theorem e72_55 (ls st : List AV) (σ : St) (y x : Int) : run 72 55 (ls) (vI y :: vI x :: st) σ = if x = y then run 72 58 (ls) (st) σ else run 72 73 (ls) (st) σ := (run_eq 72 55 _ _ σ).trans rfl
theorem e72_58 (a0 a1 a2 a3 a4 : AV) (l st : List AV) (σ : St) (x : Int) : run 72 58 (a0 :: a1 :: a2 :: a3 :: a4 :: vI x :: l) (st) σ = run 72 60 (a0 :: a1 :: a2 :: a3 :: a4 :: vI x :: l) (vI x :: st) σ := (run_eq 72 58 _ _ σ).trans rfl
theorem e72_60 (a0 a1 a2 a3 : AV) (l st : List AV) (σ : St) (x : Int) : run 72 60 (a0 :: a1 :: a2 :: a3 :: vI x :: l) (st) σ = run 72 62 (a0 :: a1 :: a2 :: a3 :: vI x :: l) (vI x :: st) σ := (run_eq 72 60 _ _ σ).trans rfl
theorem e72_62 (ls st : List AV) (σ : St) (y x : Int) : run 72 62 (ls) (vI y :: vI x :: st) σ = if x < y then run 72 65 (ls) (st) σ else run 72 73 (ls) (st) σ := (run_eq 72 62 _ _ σ).trans rfl
theorem e72_65 (ls st : List AV) (σ : St) : run 72 65 (ls) (st) σ = run 72 67 (ls) (vI 10 :: st) σ := (run_eq 72 65 _ _ σ).trans rfl
theorem e72_67 (a0 a1 a2 : AV) (l st : List AV) (σ : St) (x : Int) : run 72 67 (a0 :: a1 :: a2 :: vI x :: l) (st) σ = run 72 68 (a0 :: a1 :: a2 :: vI x :: l) (vI x :: st) σ := (run_eq 72 67 _ _ σ).trans rfl
theorem e72_68 (ls st : List AV) (σ : St) (y x : Int) : run 72 68 (ls) (vI y :: vI x :: st) σ = run 72 69 (ls) (vI (wr (x * y)) :: st) σ := (run_eq 72 68 _ _ σ).trans rfl
theorem e72_69 (a0 a1 a2 a3 a4 : AV) (l st : List AV) (σ : St) (x : Int) : run 72 69 (a0 :: a1 :: a2 :: a3 :: a4 :: vI x :: l) (st) σ = run 72 71 (a0 :: a1 :: a2 :: a3 :: a4 :: vI x :: l) (vI x :: st) σ := (run_eq 72 69 _ _ σ).trans rfl
theorem e72_71 (ls st : List AV) (σ : St) (y x : Int) : run 72 71 (ls) (vI y :: vI x :: st) σ = run 72 72 (ls) (vI (wr (x + y)) :: st) σ := (run_eq 72 71 _ _ σ).trans rfl
theorem e72_72 (ls : List AV) (σ : St) (x : Int) : run 72 72 ls [vI x] σ = some (vI x, σ) := (run_eq 72 72 _ _ σ).trans rfl
theorem e72_73 (a0 a1 a2 : AV) (l st : List AV) (σ : St) (x : Int) : run 72 73 (a0 :: a1 :: a2 :: vI x :: l) (st) σ = run 72 76 (a0 :: a1 :: a2 :: vI (wr (x + 1)) :: l) (st) σ := (run_eq 72 73 _ _ σ).trans rfl
theorem e72_76 (ls st : List AV) (σ : St) : run 72 76 (ls) (st) σ = run 72 19 (ls) (st) σ := (run_eq 72 76 _ _ σ).trans rfl
theorem e72_79 (ls st : List AV) (σ : St) : run 72 79 (ls) (st) σ = run 72 81 (ls) (vI (-6) :: st) σ := (run_eq 72 79 _ _ σ).trans rfl
theorem e72_81 (ls : List AV) (σ : St) (x : Int) : run 72 81 ls [vI x] σ = some (vI x, σ) := (run_eq 72 81 _ _ σ).trans rfl
/-! F_seen -/
theorem e73_0 (l st : List AV) (σ : St) (x : Nat) : run 73 0 (vR x :: l) (st) σ = run 73 1 (vR x :: l) (vR x :: st) σ := (run_eq 73 0 _ _ σ).trans rfl
theorem e73_1 (ls st : List AV) (σ : St) (x : Nat) (h : fok σ x 2) : run 73 1 (ls) (vR x :: st) σ = run 73 4 (ls) (vR (gr σ x 0) :: st) σ := (run_eq 73 1 _ _ σ).trans (if_pos h)
theorem e73_4 (a0 : AV) (l st : List AV) (σ : St) (x : Int) : run 73 4 (a0 :: vI x :: l) (st) σ = run 73 5 (a0 :: vI x :: l) (vI x :: st) σ := (run_eq 73 4 _ _ σ).trans rfl
theorem e73_5 (ls st : List AV) (σ : St) (x0 : Nat) (x1 : Int) (h4 : st.length ≤ 4) (h : fok σ x0 0) : run 73 5 ls (vI x1 :: vR x0 :: st) σ = bnd (run 8 0 [vR x0, vI x1] [] σ) (fun r σ => run 73 8 ls (psh r st) σ) := (run_eq 73 5 _ _ σ).trans (if_pos ⟨rfl, by simp, by simpa using h4, rfl, h⟩)
theorem e73_8 (ls st : List AV) (σ : St) (x : Int) : run 73 8 (ls) (vI x :: st) σ = if x = 0 then run 73 11 (ls) (st) σ else run 73 13 (ls) (st) σ := (run_eq 73 8 _ _ σ).trans rfl
theorem e73_11 (ls st : List AV) (σ : St) : run 73 11 (ls) (st) σ = run 73 12 (ls) (vI (-1) :: st) σ := (run_eq 73 11 _ _ σ).trans rfl
theorem e73_12 (ls : List AV) (σ : St) (x : Int) : run 73 12 ls [vI x] σ = some (vI x, σ) := (run_eq 73 12 _ _ σ).trans rfl
theorem e73_13 (a0 a1 : AV) (l st : List AV) (σ : St) (x : Int) : run 73 13 (a0 :: a1 :: vI x :: l) (st) σ = run 73 14 (a0 :: a1 :: vI x :: l) (vI x :: st) σ := (run_eq 73 13 _ _ σ).trans rfl
theorem e73_14 (ls st : List AV) (σ : St) : run 73 14 (ls) (st) σ = run 73 15 (ls) (vI 0 :: st) σ := (run_eq 73 14 _ _ σ).trans rfl
theorem e73_15 (ls st : List AV) (σ : St) : run 73 15 (ls) (st) σ = run 73 17 (ls) (vI 9 :: st) σ := (run_eq 73 15 _ _ σ).trans rfl
theorem e73_17 (ls st : List AV) (σ : St) (x0 : Int) (x1 : Int) (x2 : Int) (h4 : st.length ≤ 4) : run 73 17 ls (vI x2 :: vI x1 :: vI x0 :: st) σ = bnd (run 6 0 [vI x0, vI x1, vI x2] [] σ) (fun r σ => run 73 20 ls (psh r st) σ) := (run_eq 73 17 _ _ σ).trans (if_pos ⟨rfl, by simp, by simpa using h4⟩)
theorem e73_20 (ls st : List AV) (σ : St) (x : Int) : run 73 20 (ls) (vI x :: st) σ = if x = 0 then run 73 23 (ls) (st) σ else run 73 26 (ls) (st) σ := (run_eq 73 20 _ _ σ).trans rfl
theorem e73_23 (ls st : List AV) (σ : St) : run 73 23 (ls) (st) σ = run 73 25 (ls) (vI (-2) :: st) σ := (run_eq 73 23 _ _ σ).trans rfl
theorem e73_25 (ls : List AV) (σ : St) (x : Int) : run 73 25 ls [vI x] σ = some (vI x, σ) := (run_eq 73 25 _ _ σ).trans rfl
theorem e73_26 (l st : List AV) (σ : St) (x : Nat) : run 73 26 (vR x :: l) (st) σ = run 73 27 (vR x :: l) (vR x :: st) σ := (run_eq 73 26 _ _ σ).trans rfl
theorem e73_27 (ls st : List AV) (σ : St) (x : Nat) (h : fok σ x 2) : run 73 27 (ls) (vR x :: st) σ = run 73 30 (ls) (vR (gr σ x 0) :: st) σ := (run_eq 73 27 _ _ σ).trans (if_pos h)
theorem e73_30 (ls st : List AV) (σ : St) (x : Nat) (h : fok σ x 0) : run 73 30 (ls) (vR x :: st) σ = run 73 33 (ls) (vI (gt σ x 5) :: st) σ := (run_eq 73 30 _ _ σ).trans (if_pos h)
theorem e73_33 (ls st : List AV) (σ : St) : run 73 33 (ls) (st) σ = run 73 35 (ls) (vI 8 :: st) σ := (run_eq 73 33 _ _ σ).trans rfl
theorem e73_35 (ls st : List AV) (σ : St) (y x : Int) : run 73 35 (ls) (vI y :: vI x :: st) σ = if x < y then run 73 41 (ls) (st) σ else run 73 38 (ls) (st) σ := (run_eq 73 35 _ _ σ).trans rfl
theorem e73_38 (ls st : List AV) (σ : St) : run 73 38 (ls) (st) σ = run 73 40 (ls) (vI (-4) :: st) σ := (run_eq 73 38 _ _ σ).trans rfl
theorem e73_40 (ls : List AV) (σ : St) (x : Int) : run 73 40 ls [vI x] σ = some (vI x, σ) := (run_eq 73 40 _ _ σ).trans rfl
theorem e73_41 (l st : List AV) (σ : St) (x : Nat) : run 73 41 (vR x :: l) (st) σ = run 73 42 (vR x :: l) (vR x :: st) σ := (run_eq 73 41 _ _ σ).trans rfl
theorem e73_42 (ls st : List AV) (σ : St) (x : Nat) (h : fok σ x 2) : run 73 42 (ls) (vR x :: st) σ = run 73 45 (ls) (vR (gr σ x 0) :: st) σ := (run_eq 73 42 _ _ σ).trans (if_pos h)
theorem e73_45 (ls st : List AV) (σ : St) (x : Nat) (h : fok σ x 0) : run 73 45 (ls) (vR x :: st) σ = run 73 48 (ls) (vR (gr σ x 11) :: st) σ := (run_eq 73 45 _ _ σ).trans (if_pos h)
theorem e73_48 (l st : List AV) (σ : St) (x : Nat) : run 73 48 (vR x :: l) (st) σ = run 73 49 (vR x :: l) (vR x :: st) σ := (run_eq 73 48 _ _ σ).trans rfl
theorem e73_49 (ls st : List AV) (σ : St) (x : Nat) (h : fok σ x 2) : run 73 49 (ls) (vR x :: st) σ = run 73 52 (ls) (vR (gr σ x 0) :: st) σ := (run_eq 73 49 _ _ σ).trans (if_pos h)
theorem e73_52 (ls st : List AV) (σ : St) (x : Nat) (h : fok σ x 0) : run 73 52 (ls) (vR x :: st) σ = run 73 55 (ls) (vI (gt σ x 5) :: st) σ := (run_eq 73 52 _ _ σ).trans (if_pos h)
theorem e73_55 (a0 : AV) (l st : List AV) (σ : St) (x : Int) : run 73 55 (a0 :: vI x :: l) (st) σ = run 73 56 (a0 :: vI x :: l) (vI x :: st) σ := (run_eq 73 55 _ _ σ).trans rfl
theorem e73_56 (ls st : List AV) (σ : St) (x0 : Nat) (x1 : Int) (x2 : Int) (h4 : st.length ≤ 4) : run 73 56 ls (vI x2 :: vI x1 :: vR x0 :: st) σ = bnd (run 11 0 [vR x0, vI x1, vI x2] [] σ) (fun r σ => run 73 59 ls (psh r st) σ) := (run_eq 73 56 _ _ σ).trans (if_pos ⟨rfl, by simp, by simpa using h4⟩)
theorem e73_59 (l st : List AV) (σ : St) (x : Nat) : run 73 59 (vR x :: l) (st) σ = run 73 60 (vR x :: l) (vR x :: st) σ := (run_eq 73 59 _ _ σ).trans rfl
theorem e73_60 (ls st : List AV) (σ : St) (x : Nat) (h : fok σ x 2) : run 73 60 (ls) (vR x :: st) σ = run 73 63 (ls) (vR (gr σ x 0) :: st) σ := (run_eq 73 60 _ _ σ).trans (if_pos h)
theorem e73_63 (ls st : List AV) (σ : St) (x : Nat) (h : fok σ x 0) : run 73 63 (ls) (vR x :: st) σ = run 73 66 (ls) (vR (gr σ x 12) :: st) σ := (run_eq 73 63 _ _ σ).trans (if_pos h)
theorem e73_66 (l st : List AV) (σ : St) (x : Nat) : run 73 66 (vR x :: l) (st) σ = run 73 67 (vR x :: l) (vR x :: st) σ := (run_eq 73 66 _ _ σ).trans rfl
theorem e73_67 (ls st : List AV) (σ : St) (x : Nat) (h : fok σ x 2) : run 73 67 (ls) (vR x :: st) σ = run 73 70 (ls) (vR (gr σ x 0) :: st) σ := (run_eq 73 67 _ _ σ).trans (if_pos h)
theorem e73_70 (ls st : List AV) (σ : St) (x : Nat) (h : fok σ x 0) : run 73 70 (ls) (vR x :: st) σ = run 73 73 (ls) (vI (gt σ x 5) :: st) σ := (run_eq 73 70 _ _ σ).trans (if_pos h)
theorem e73_73 (a0 a1 : AV) (l st : List AV) (σ : St) (x : Int) : run 73 73 (a0 :: a1 :: vI x :: l) (st) σ = run 73 74 (a0 :: a1 :: vI x :: l) (vI x :: st) σ := (run_eq 73 73 _ _ σ).trans rfl
theorem e73_74 (ls st : List AV) (σ : St) (x0 : Nat) (x1 : Int) (x2 : Int) (h4 : st.length ≤ 4) : run 73 74 ls (vI x2 :: vI x1 :: vR x0 :: st) σ = bnd (run 11 0 [vR x0, vI x1, vI x2] [] σ) (fun r σ => run 73 77 ls (psh r st) σ) := (run_eq 73 74 _ _ σ).trans (if_pos ⟨rfl, by simp, by simpa using h4⟩)
theorem e73_77 (l st : List AV) (σ : St) (x : Nat) : run 73 77 (vR x :: l) (st) σ = run 73 78 (vR x :: l) (vR x :: st) σ := (run_eq 73 77 _ _ σ).trans rfl
theorem e73_78 (ls st : List AV) (σ : St) (x : Nat) (h : fok σ x 2) : run 73 78 (ls) (vR x :: st) σ = run 73 81 (ls) (vR (gr σ x 0) :: st) σ := (run_eq 73 78 _ _ σ).trans (if_pos h)
theorem e73_81 (ls st : List AV) (σ : St) (x : Nat) : run 73 81 ls (vR x :: st) σ = run 73 82 ls (vR x :: vR x :: st) σ := (run_eq 73 81 _ _ σ).trans rfl
theorem e73_82 (ls st : List AV) (σ : St) (x : Nat) (h : fok σ x 0) : run 73 82 (ls) (vR x :: st) σ = run 73 85 (ls) (vI (gt σ x 5) :: st) σ := (run_eq 73 82 _ _ σ).trans (if_pos h)
theorem e73_85 (ls st : List AV) (σ : St) : run 73 85 (ls) (st) σ = run 73 86 (ls) (vI 1 :: st) σ := (run_eq 73 85 _ _ σ).trans rfl
theorem e73_86 (ls st : List AV) (σ : St) (y x : Int) : run 73 86 (ls) (vI y :: vI x :: st) σ = run 73 87 (ls) (vI (wr (x + y)) :: st) σ := (run_eq 73 86 _ _ σ).trans rfl
theorem e73_87 (ls st : List AV) (σ : St) (z : Int) (x : Nat) (h : fok σ x 0) : run 73 87 (ls) (vI z :: vR x :: st) σ = run 73 90 (ls) (st) (sr σ x (ru (gt σ x) 5 z)) := (run_eq 73 87 _ _ σ).trans (if_pos h)
theorem e73_90 (l st : List AV) (σ : St) (x : Nat) : run 73 90 (vR x :: l) (st) σ = run 73 91 (vR x :: l) (vR x :: st) σ := (run_eq 73 90 _ _ σ).trans rfl
theorem e73_91 (ls st : List AV) (σ : St) (x : Nat) (h : fok σ x 2) : run 73 91 (ls) (vR x :: st) σ = run 73 94 (ls) (vR (gr σ x 0) :: st) σ := (run_eq 73 91 _ _ σ).trans (if_pos h)
theorem e73_94 (ls st : List AV) (σ : St) (x : Nat) (h : fok σ x 0) : run 73 94 (ls) (vR x :: st) σ = run 73 97 (ls) (vI (gt σ x 5) :: st) σ := (run_eq 73 94 _ _ σ).trans (if_pos h)
theorem e73_97 (ls : List AV) (σ : St) (x : Int) : run 73 97 ls [vI x] σ = some (vI x, σ) := (run_eq 73 97 _ _ σ).trans rfl
/-! F_forget -/
theorem e74_0 (l st : List AV) (σ : St) (x : Nat) : run 74 0 (vR x :: l) (st) σ = run 74 1 (vR x :: l) (vR x :: st) σ := (run_eq 74 0 _ _ σ).trans rfl
theorem e74_1 (ls st : List AV) (σ : St) (x : Nat) (h : fok σ x 2) : run 74 1 (ls) (vR x :: st) σ = run 74 4 (ls) (vR (gr σ x 0) :: st) σ := (run_eq 74 1 _ _ σ).trans (if_pos h)
theorem e74_4 (ls st : List AV) (σ : St) (x : Nat) (h : fok σ x 0) : run 74 4 (ls) (vR x :: st) σ = run 74 7 (ls) (vI (gt σ x 5) :: st) σ := (run_eq 74 4 _ _ σ).trans (if_pos h)
theorem e74_7 (a0 : AV) (l st : List AV) (σ : St) (q : AV) (x : Int) : run 74 7 (a0 :: q :: l) (vI x :: st) σ = run 74 8 (a0 :: vI x :: l) (st) σ := (run_eq 74 7 _ _ σ).trans rfl
theorem e74_8 (l st : List AV) (σ : St) (x : Nat) : run 74 8 (vR x :: l) (st) σ = run 74 9 (vR x :: l) (vR x :: st) σ := (run_eq 74 8 _ _ σ).trans rfl
theorem e74_9 (ls st : List AV) (σ : St) (x : Nat) (h : fok σ x 2) : run 74 9 (ls) (vR x :: st) σ = run 74 12 (ls) (vR (gr σ x 0) :: st) σ := (run_eq 74 9 _ _ σ).trans (if_pos h)
theorem e74_12 (ls st : List AV) (σ : St) : run 74 12 (ls) (st) σ = run 74 13 (ls) (vI 0 :: st) σ := (run_eq 74 12 _ _ σ).trans rfl
theorem e74_13 (ls st : List AV) (σ : St) (z : Int) (x : Nat) (h : fok σ x 0) : run 74 13 (ls) (vI z :: vR x :: st) σ = run 74 16 (ls) (st) (sr σ x (ru (gt σ x) 5 z)) := (run_eq 74 13 _ _ σ).trans (if_pos h)
theorem e74_16 (a0 : AV) (l st : List AV) (σ : St) (x : Int) : run 74 16 (a0 :: vI x :: l) (st) σ = run 74 17 (a0 :: vI x :: l) (vI x :: st) σ := (run_eq 74 16 _ _ σ).trans rfl
theorem e74_17 (ls : List AV) (σ : St) (x : Int) : run 74 17 ls [vI x] σ = some (vI x, σ) := (run_eq 74 17 _ _ σ).trans rfl
/-! F_what -/
theorem e75_0 (l st : List AV) (σ : St) (x : Nat) : run 75 0 (vR x :: l) (st) σ = run 75 1 (vR x :: l) (vR x :: st) σ := (run_eq 75 0 _ _ σ).trans rfl
theorem e75_1 (ls st : List AV) (σ : St) (x : Nat) (h : fok σ x 2) : run 75 1 (ls) (vR x :: st) σ = run 75 4 (ls) (vR (gr σ x 2) :: st) σ := (run_eq 75 1 _ _ σ).trans (if_pos h)
theorem e75_4 (ls st : List AV) (σ : St) (x0 : Nat) (h4 : st.length ≤ 4) (h : fok σ x0 1) : run 75 4 ls (vR x0 :: st) σ = bnd (run 48 0 [vR x0, vU, vU] [] σ) (fun r σ => run 75 7 ls (psh r st) σ) := (run_eq 75 4 _ _ σ).trans (if_pos ⟨rfl, by simp, by simpa using h4, rfl, h⟩)
theorem e75_7 (ls st : List AV) (σ : St) (x : Int) : run 75 7 (ls) (vI x :: st) σ = if x = 0 then run 75 10 (ls) (st) σ else run 75 13 (ls) (st) σ := (run_eq 75 7 _ _ σ).trans rfl
theorem e75_10 (ls st : List AV) (σ : St) : run 75 10 (ls) (st) σ = run 75 12 (ls) (vI (-5) :: st) σ := (run_eq 75 10 _ _ σ).trans rfl
theorem e75_12 (ls : List AV) (σ : St) (x : Int) : run 75 12 ls [vI x] σ = some (vI x, σ) := (run_eq 75 12 _ _ σ).trans rfl
theorem e75_13 (l st : List AV) (σ : St) (x : Nat) : run 75 13 (vR x :: l) (st) σ = run 75 14 (vR x :: l) (vR x :: st) σ := (run_eq 75 13 _ _ σ).trans rfl
theorem e75_14 (ls st : List AV) (σ : St) (x0 : Nat) (h4 : st.length ≤ 4) (h : fok σ x0 2) : run 75 14 ls (vR x0 :: st) σ = bnd (run 76 0 [vR x0, vU, vU, vU, vU] [] σ) (fun r σ => run 75 17 ls (psh r st) σ) := (run_eq 75 14 _ _ σ).trans (if_pos ⟨rfl, by simp, by simpa using h4, rfl, h⟩)
theorem e75_17 (a0 a1 : AV) (l st : List AV) (σ : St) (q : AV) (x : Int) : run 75 17 (a0 :: a1 :: q :: l) (vI x :: st) σ = run 75 18 (a0 :: a1 :: vI x :: l) (st) σ := (run_eq 75 17 _ _ σ).trans rfl
theorem e75_18 (a0 : AV) (l st : List AV) (σ : St) (x : Int) : run 75 18 (a0 :: vI x :: l) (st) σ = run 75 19 (a0 :: vI x :: l) (vI x :: st) σ := (run_eq 75 18 _ _ σ).trans rfl
theorem e75_19 (ls st : List AV) (σ : St) : run 75 19 (ls) (st) σ = run 75 20 (ls) (vI (-1) :: st) σ := (run_eq 75 19 _ _ σ).trans rfl
theorem e75_20 (ls st : List AV) (σ : St) (y x : Int) : run 75 20 (ls) (vI y :: vI x :: st) σ = if x = y then run 75 23 (ls) (st) σ else run 75 25 (ls) (st) σ := (run_eq 75 20 _ _ σ).trans rfl
theorem e75_23 (a0 a1 : AV) (l st : List AV) (σ : St) (x : Int) : run 75 23 (a0 :: a1 :: vI x :: l) (st) σ = run 75 24 (a0 :: a1 :: vI x :: l) (vI x :: st) σ := (run_eq 75 23 _ _ σ).trans rfl
theorem e75_24 (ls : List AV) (σ : St) (x : Int) : run 75 24 ls [vI x] σ = some (vI x, σ) := (run_eq 75 24 _ _ σ).trans rfl
theorem e75_25 (a0 : AV) (l st : List AV) (σ : St) (x : Int) : run 75 25 (a0 :: vI x :: l) (st) σ = run 75 26 (a0 :: vI x :: l) (vI x :: st) σ := (run_eq 75 25 _ _ σ).trans rfl
theorem e75_26 (ls st : List AV) (σ : St) : run 75 26 (ls) (st) σ = run 75 27 (ls) (vI 0 :: st) σ := (run_eq 75 26 _ _ σ).trans rfl
theorem e75_27 (a0 a1 : AV) (l st : List AV) (σ : St) (x : Int) : run 75 27 (a0 :: a1 :: vI x :: l) (st) σ = run 75 28 (a0 :: a1 :: vI x :: l) (vI x :: st) σ := (run_eq 75 27 _ _ σ).trans rfl
theorem e75_28 (ls st : List AV) (σ : St) : run 75 28 (ls) (st) σ = run 75 29 (ls) (vI 1 :: st) σ := (run_eq 75 28 _ _ σ).trans rfl
theorem e75_29 (ls st : List AV) (σ : St) (y x : Int) : run 75 29 (ls) (vI y :: vI x :: st) σ = run 75 30 (ls) (vI (wr (x - y)) :: st) σ := (run_eq 75 29 _ _ σ).trans rfl
theorem e75_30 (ls st : List AV) (σ : St) (x0 : Int) (x1 : Int) (x2 : Int) (h4 : st.length ≤ 4) : run 75 30 ls (vI x2 :: vI x1 :: vI x0 :: st) σ = bnd (run 6 0 [vI x0, vI x1, vI x2] [] σ) (fun r σ => run 75 33 ls (psh r st) σ) := (run_eq 75 30 _ _ σ).trans (if_pos ⟨rfl, by simp, by simpa using h4⟩)
theorem e75_33 (ls st : List AV) (σ : St) (x : Int) : run 75 33 (ls) (vI x :: st) σ = if x = 0 then run 75 47 (ls) (st) σ else run 75 36 (ls) (st) σ := (run_eq 75 33 _ _ σ).trans rfl
theorem e75_36 (l st : List AV) (σ : St) (x : Nat) : run 75 36 (vR x :: l) (st) σ = run 75 37 (vR x :: l) (vR x :: st) σ := (run_eq 75 36 _ _ σ).trans rfl
theorem e75_37 (ls st : List AV) (σ : St) (x : Nat) (h : fok σ x 2) : run 75 37 (ls) (vR x :: st) σ = run 75 40 (ls) (vR (gr σ x 5) :: st) σ := (run_eq 75 37 _ _ σ).trans (if_pos h)
theorem e75_40 (a0 : AV) (l st : List AV) (σ : St) (x : Int) : run 75 40 (a0 :: vI x :: l) (st) σ = run 75 41 (a0 :: vI x :: l) (vI x :: st) σ := (run_eq 75 40 _ _ σ).trans rfl
theorem e75_41 (ls st : List AV) (σ : St) (x0 : Nat) (x1 : Int) (h4 : st.length ≤ 4) : run 75 41 ls (vI x1 :: vR x0 :: st) σ = bnd (run 10 0 [vR x0, vI x1] [] σ) (fun r σ => run 75 44 ls (psh r st) σ) := (run_eq 75 41 _ _ σ).trans (if_pos ⟨rfl, by simp, by simpa using h4⟩)
theorem e75_44 (ls st : List AV) (σ : St) : run 75 44 (ls) (st) σ = run 75 49 (ls) (st) σ := (run_eq 75 44 _ _ σ).trans rfl
theorem e75_47 (ls st : List AV) (σ : St) : run 75 47 (ls) (st) σ = run 75 49 (ls) (vI (-6) :: st) σ := (run_eq 75 47 _ _ σ).trans rfl
theorem e75_49 (ls : List AV) (σ : St) (x : Int) : run 75 49 ls [vI x] σ = some (vI x, σ) := (run_eq 75 49 _ _ σ).trans rfl
/-! F_findFitting -/
theorem e76_0 (ls st : List AV) (σ : St) : run 76 0 (ls) (st) σ = run 76 1 (ls) (vI 0 :: st) σ := (run_eq 76 0 _ _ σ).trans rfl
theorem e76_1 (a0 : AV) (l st : List AV) (σ : St) (q : AV) (x : Int) : run 76 1 (a0 :: q :: l) (vI x :: st) σ = run 76 2 (a0 :: vI x :: l) (st) σ := (run_eq 76 1 _ _ σ).trans rfl
theorem e76_2 (l st : List AV) (σ : St) (x : Nat) : run 76 2 (vR x :: l) (st) σ = run 76 3 (vR x :: l) (vR x :: st) σ := (run_eq 76 2 _ _ σ).trans rfl
theorem e76_3 (ls st : List AV) (σ : St) (x : Nat) (h : fok σ x 2) : run 76 3 (ls) (vR x :: st) σ = run 76 6 (ls) (vR (gr σ x 1) :: st) σ := (run_eq 76 3 _ _ σ).trans (if_pos h)
theorem e76_6 (l st : List AV) (σ : St) (x : Nat) : run 76 6 (vR x :: l) (st) σ = run 76 7 (vR x :: l) (vR x :: st) σ := (run_eq 76 6 _ _ σ).trans rfl
theorem e76_7 (ls st : List AV) (σ : St) (x : Nat) (h : fok σ x 2) : run 76 7 (ls) (vR x :: st) σ = run 76 10 (ls) (vR (gr σ x 0) :: st) σ := (run_eq 76 7 _ _ σ).trans (if_pos h)
theorem e76_10 (ls st : List AV) (σ : St) (x0 : Nat) (x1 : Nat) (h4 : st.length ≤ 4) (h : fok σ x0 0) : run 76 10 ls (vR x1 :: vR x0 :: st) σ = bnd (run 27 0 [vR x0, vR x1] [] σ) (fun r σ => run 76 13 ls (psh r st) σ) := (run_eq 76 10 _ _ σ).trans (if_pos ⟨rfl, by simp, by simpa using h4, rfl, h⟩)
theorem e76_13 (ls st : List AV) (σ : St) : run 76 13 (ls) (st) σ = run 76 14 (ls) (vI 0 :: st) σ := (run_eq 76 13 _ _ σ).trans rfl
theorem e76_14 (a0 a1 : AV) (l st : List AV) (σ : St) (q : AV) (x : Int) : run 76 14 (a0 :: a1 :: q :: l) (vI x :: st) σ = run 76 15 (a0 :: a1 :: vI x :: l) (st) σ := (run_eq 76 14 _ _ σ).trans rfl
theorem e76_15 (a0 a1 : AV) (l st : List AV) (σ : St) (x : Int) : run 76 15 (a0 :: a1 :: vI x :: l) (st) σ = run 76 16 (a0 :: a1 :: vI x :: l) (vI x :: st) σ := (run_eq 76 15 _ _ σ).trans rfl
theorem e76_16 (l st : List AV) (σ : St) (x : Nat) : run 76 16 (vR x :: l) (st) σ = run 76 17 (vR x :: l) (vR x :: st) σ := (run_eq 76 16 _ _ σ).trans rfl
theorem e76_17 (ls st : List AV) (σ : St) (x : Nat) (h : fok σ x 2) : run 76 17 (ls) (vR x :: st) σ = run 76 20 (ls) (vR (gr σ x 0) :: st) σ := (run_eq 76 17 _ _ σ).trans (if_pos h)
theorem e76_20 (ls st : List AV) (σ : St) (x : Nat) (h : fok σ x 0) : run 76 20 (ls) (vR x :: st) σ = run 76 23 (ls) (vI (gt σ x 2) :: st) σ := (run_eq 76 20 _ _ σ).trans (if_pos h)
theorem e76_23 (ls st : List AV) (σ : St) (y x : Int) : run 76 23 (ls) (vI y :: vI x :: st) σ = if x < y then run 76 26 (ls) (st) σ else run 76 122 (ls) (st) σ := (run_eq 76 23 _ _ σ).trans rfl
theorem e76_26 (l st : List AV) (σ : St) (x : Nat) : run 76 26 (vR x :: l) (st) σ = run 76 27 (vR x :: l) (vR x :: st) σ := (run_eq 76 26 _ _ σ).trans rfl
theorem e76_27 (ls st : List AV) (σ : St) (x : Nat) (h : fok σ x 2) : run 76 27 (ls) (vR x :: st) σ = run 76 30 (ls) (vR (gr σ x 0) :: st) σ := (run_eq 76 27 _ _ σ).trans (if_pos h)
theorem e76_30 (ls st : List AV) (σ : St) (x : Nat) (h : fok σ x 0) : run 76 30 (ls) (vR x :: st) σ = run 76 33 (ls) (vR (gr σ x 6) :: st) σ := (run_eq 76 30 _ _ σ).trans (if_pos h)
theorem e76_33 (a0 a1 : AV) (l st : List AV) (σ : St) (x : Int) : run 76 33 (a0 :: a1 :: vI x :: l) (st) σ = run 76 34 (a0 :: a1 :: vI x :: l) (vI x :: st) σ := (run_eq 76 33 _ _ σ).trans rfl
theorem e76_34 (ls st : List AV) (σ : St) (x0 : Nat) (x1 : Int) (h4 : st.length ≤ 4) : run 76 34 ls (vI x1 :: vR x0 :: st) σ = bnd (run 10 0 [vR x0, vI x1] [] σ) (fun r σ => run 76 37 ls (psh r st) σ) := (run_eq 76 34 _ _ σ).trans (if_pos ⟨rfl, by simp, by simpa using h4⟩)
theorem e76_37 (a0 a1 a2 : AV) (l st : List AV) (σ : St) (q : AV) (x : Int) : run 76 37 (a0 :: a1 :: a2 :: q :: l) (vI x :: st) σ = run 76 38 (a0 :: a1 :: a2 :: vI x :: l) (st) σ := (run_eq 76 37 _ _ σ).trans rfl
theorem e76_38 (ls st : List AV) (σ : St) : run 76 38 (ls) (st) σ = run 76 39 (ls) (vI 0 :: st) σ := (run_eq 76 38 _ _ σ).trans rfl
theorem e76_39 (a0 a1 a2 a3 : AV) (l st : List AV) (σ : St) (q : AV) (x : Int) : run 76 39 (a0 :: a1 :: a2 :: a3 :: q :: l) (vI x :: st) σ = run 76 41 (a0 :: a1 :: a2 :: a3 :: vI x :: l) (st) σ := (run_eq 76 39 _ _ σ).trans rfl
theorem e76_41 (a0 a1 a2 a3 : AV) (l st : List AV) (σ : St) (x : Int) : run 76 41 (a0 :: a1 :: a2 :: a3 :: vI x :: l) (st) σ = run 76 43 (a0 :: a1 :: a2 :: a3 :: vI x :: l) (vI x :: st) σ := (run_eq 76 41 _ _ σ).trans rfl
theorem e76_43 (a0 a1 a2 : AV) (l st : List AV) (σ : St) (x : Int) : run 76 43 (a0 :: a1 :: a2 :: vI x :: l) (st) σ = run 76 44 (a0 :: a1 :: a2 :: vI x :: l) (vI x :: st) σ := (run_eq 76 43 _ _ σ).trans rfl
theorem e76_44 (ls st : List AV) (σ : St) (y x : Int) : run 76 44 (ls) (vI y :: vI x :: st) σ = if x < y then run 76 47 (ls) (st) σ else run 76 116 (ls) (st) σ := (run_eq 76 44 _ _ σ).trans rfl
theorem e76_47 (l st : List AV) (σ : St) (x : Nat) : run 76 47 (vR x :: l) (st) σ = run 76 48 (vR x :: l) (vR x :: st) σ := (run_eq 76 47 _ _ σ).trans rfl
theorem e76_48 (ls st : List AV) (σ : St) (x : Nat) (h : fok σ x 2) : run 76 48 (ls) (vR x :: st) σ = run 76 51 (ls) (vR (gr σ x 1) :: st) σ := (run_eq 76 48 _ _ σ).trans (if_pos h)
theorem e76_51 (l st : List AV) (σ : St) (x : Nat) : run 76 51 (vR x :: l) (st) σ = run 76 52 (vR x :: l) (vR x :: st) σ := (run_eq 76 51 _ _ σ).trans rfl
theorem e76_52 (ls st : List AV) (σ : St) (x : Nat) (h : fok σ x 2) : run 76 52 (ls) (vR x :: st) σ = run 76 55 (ls) (vR (gr σ x 0) :: st) σ := (run_eq 76 52 _ _ σ).trans (if_pos h)
theorem e76_55 (ls st : List AV) (σ : St) (x0 : Nat) (x1 : Nat) (h4 : st.length ≤ 4) (h : fok σ x0 0) : run 76 55 ls (vR x1 :: vR x0 :: st) σ = bnd (run 29 0 [vR x0, vR x1] [] σ) (fun r σ => run 76 58 ls (psh r st) σ) := (run_eq 76 55 _ _ σ).trans (if_pos ⟨rfl, by simp, by simpa using h4, rfl, h⟩)
theorem e76_58 (l st : List AV) (σ : St) (x : Nat) : run 76 58 (vR x :: l) (st) σ = run 76 59 (vR x :: l) (vR x :: st) σ := (run_eq 76 58 _ _ σ).trans rfl
theorem e76_59 (ls st : List AV) (σ : St) (x : Nat) (h : fok σ x 2) : run 76 59 (ls) (vR x :: st) σ = run 76 62 (ls) (vR (gr σ x 1) :: st) σ := (run_eq 76 59 _ _ σ).trans (if_pos h)
theorem e76_62 (ls st : List AV) (σ : St) (x : Nat) (h : fok σ x 0) : run 76 62 (ls) (vR x :: st) σ = run 76 65 (ls) (vR (gr σ x 6) :: st) σ := (run_eq 76 62 _ _ σ).trans (if_pos h)
theorem e76_65 (a0 a1 : AV) (l st : List AV) (σ : St) (x : Int) : run 76 65 (a0 :: a1 :: vI x :: l) (st) σ = run 76 66 (a0 :: a1 :: vI x :: l) (vI x :: st) σ := (run_eq 76 65 _ _ σ).trans rfl
theorem e76_66 (a0 a1 a2 a3 : AV) (l st : List AV) (σ : St) (x : Int) : run 76 66 (a0 :: a1 :: a2 :: a3 :: vI x :: l) (st) σ = run 76 68 (a0 :: a1 :: a2 :: a3 :: vI x :: l) (vI x :: st) σ := (run_eq 76 66 _ _ σ).trans rfl
theorem e76_68 (ls st : List AV) (σ : St) (x0 : Nat) (x1 : Int) (x2 : Int) (h4 : st.length ≤ 4) : run 76 68 ls (vI x2 :: vI x1 :: vR x0 :: st) σ = bnd (run 11 0 [vR x0, vI x1, vI x2] [] σ) (fun r σ => run 76 71 ls (psh r st) σ) := (run_eq 76 68 _ _ σ).trans (if_pos ⟨rfl, by simp, by simpa using h4⟩)
theorem e76_71 (l st : List AV) (σ : St) (x : Nat) : run 76 71 (vR x :: l) (st) σ = run 76 72 (vR x :: l) (vR x :: st) σ := (run_eq 76 71 _ _ σ).trans rfl
theorem e76_72 (ls st : List AV) (σ : St) (x : Nat) (h : fok σ x 2) : run 76 72 (ls) (vR x :: st) σ = run 76 75 (ls) (vR (gr σ x 2) :: st) σ := (run_eq 76 72 _ _ σ).trans (if_pos h)
theorem e76_75 (l st : List AV) (σ : St) (x : Nat) : run 76 75 (vR x :: l) (st) σ = run 76 76 (vR x :: l) (vR x :: st) σ := (run_eq 76 75 _ _ σ).trans rfl
theorem e76_76 (ls st : List AV) (σ : St) (x : Nat) (h : fok σ x 2) : run 76 76 (ls) (vR x :: st) σ = run 76 79 (ls) (vR (gr σ x 1) :: st) σ := (run_eq 76 76 _ _ σ).trans (if_pos h)
theorem e76_79 (ls st : List AV) (σ : St) (x0 : Nat) (x1 : Nat) (h4 : st.length ≤ 4) (h : fok σ x0 1) : run 76 79 ls (vR x1 :: vR x0 :: st) σ = bnd (run 52 0 [vR x0, vR x1, vU] [] σ) (fun r σ => run 76 82 ls (psh r st) σ) := (run_eq 76 79 _ _ σ).trans (if_pos ⟨rfl, by simp, by simpa using h4, rfl, h⟩)
theorem e76_82 (l st : List AV) (σ : St) (x : Nat) : run 76 82 (vR x :: l) (st) σ = run 76 83 (vR x :: l) (vR x :: st) σ := (run_eq 76 82 _ _ σ).trans rfl
theorem e76_83 (ls st : List AV) (σ : St) (x : Nat) (h : fok σ x 2) : run 76 83 (ls) (vR x :: st) σ = run 76 86 (ls) (vR (gr σ x 1) :: st) σ := (run_eq 76 83 _ _ σ).trans (if_pos h)
theorem e76_86 (ls st : List AV) (σ : St) (x0 : Nat) (h4 : st.length ≤ 4) (h : fok σ x0 0) : run 76 86 ls (vR x0 :: st) σ = bnd (run 77 0 [vR x0, vU, vU] [] σ) (fun r σ => run 76 89 ls (psh r st) σ) := (run_eq 76 86 _ _ σ).trans (if_pos ⟨rfl, by simp, by simpa using h4, rfl, h⟩)
theorem e76_89 (ls st : List AV) (σ : St) (x : Int) : run 76 89 (ls) (vI x :: st) σ = if x = 0 then run 76 110 (ls) (st) σ else run 76 92 (ls) (st) σ := (run_eq 76 89 _ _ σ).trans rfl
theorem e76_92 (l st : List AV) (σ : St) (x : Nat) : run 76 92 (vR x :: l) (st) σ = run 76 93 (vR x :: l) (vR x :: st) σ := (run_eq 76 92 _ _ σ).trans rfl
theorem e76_93 (ls st : List AV) (σ : St) (x : Nat) (h : fok σ x 2) : run 76 93 (ls) (vR x :: st) σ = run 76 96 (ls) (vR (gr σ x 5) :: st) σ := (run_eq 76 93 _ _ σ).trans (if_pos h)
theorem e76_96 (a0 : AV) (l st : List AV) (σ : St) (x : Int) : run 76 96 (a0 :: vI x :: l) (st) σ = run 76 97 (a0 :: vI x :: l) (vI x :: st) σ := (run_eq 76 96 _ _ σ).trans rfl
theorem e76_97 (ls st : List AV) (σ : St) : run 76 97 (ls) (st) σ = run 76 99 (ls) (vI 10 :: st) σ := (run_eq 76 97 _ _ σ).trans rfl
theorem e76_99 (a0 a1 : AV) (l st : List AV) (σ : St) (x : Int) : run 76 99 (a0 :: a1 :: vI x :: l) (st) σ = run 76 100 (a0 :: a1 :: vI x :: l) (vI x :: st) σ := (run_eq 76 99 _ _ σ).trans rfl
theorem e76_100 (ls st : List AV) (σ : St) (y x : Int) : run 76 100 (ls) (vI y :: vI x :: st) σ = run 76 101 (ls) (vI (wr (x * y)) :: st) σ := (run_eq 76 100 _ _ σ).trans rfl
theorem e76_101 (a0 a1 a2 a3 : AV) (l st : List AV) (σ : St) (x : Int) : run 76 101 (a0 :: a1 :: a2 :: a3 :: vI x :: l) (st) σ = run 76 103 (a0 :: a1 :: a2 :: a3 :: vI x :: l) (vI x :: st) σ := (run_eq 76 101 _ _ σ).trans rfl
theorem e76_103 (ls st : List AV) (σ : St) (y x : Int) : run 76 103 (ls) (vI y :: vI x :: st) σ = run 76 104 (ls) (vI (wr (x + y)) :: st) σ := (run_eq 76 103 _ _ σ).trans rfl
theorem e76_104 (ls st : List AV) (σ : St) (x0 : Nat) (x1 : Int) (x2 : Int) (h4 : st.length ≤ 4) : run 76 104 ls (vI x2 :: vI x1 :: vR x0 :: st) σ = bnd (run 11 0 [vR x0, vI x1, vI x2] [] σ) (fun r σ => run 76 107 ls (psh r st) σ) := (run_eq 76 104 _ _ σ).trans (if_pos ⟨rfl, by simp, by simpa using h4⟩)
theorem e76_107 (a0 : AV) (l st : List AV) (σ : St) (x : Int) : run 76 107 (a0 :: vI x :: l) (st) σ = run 76 110 (a0 :: vI (wr (x + 1)) :: l) (st) σ := (run_eq 76 107 _ _ σ).trans rfl
theorem e76_110 (a0 a1 a2 a3 : AV) (l st : List AV) (σ : St) (x : Int) : run 76 110 (a0 :: a1 :: a2 :: a3 :: vI x :: l) (st) σ = run 76 113 (a0 :: a1 :: a2 :: a3 :: vI (wr (x + 1)) :: l) (st) σ := (run_eq 76 110 _ _ σ).trans rfl
theorem e76_113 (ls st : List AV) (σ : St) : run 76 113 (ls) (st) σ = run 76 41 (ls) (st) σ := (run_eq 76 113 _ _ σ).trans rfl
theorem e76_116 (a0 a1 : AV) (l st : List AV) (σ : St) (x : Int) : run 76 116 (a0 :: a1 :: vI x :: l) (st) σ = run 76 119 (a0 :: a1 :: vI (wr (x + 1)) :: l) (st) σ := (run_eq 76 116 _ _ σ).trans rfl
theorem e76_119 (ls st : List AV) (σ : St) : run 76 119 (ls) (st) σ = run 76 15 (ls) (st) σ := (run_eq 76 119 _ _ σ).trans rfl
theorem e76_122 (a0 : AV) (l st : List AV) (σ : St) (x : Int) : run 76 122 (a0 :: vI x :: l) (st) σ = run 76 123 (a0 :: vI x :: l) (vI x :: st) σ := (run_eq 76 122 _ _ σ).trans rfl
theorem e76_123 (ls : List AV) (σ : St) (x : Int) : run 76 123 ls [vI x] σ = some (vI x, σ) := (run_eq 76 123 _ _ σ).trans rfl
/-! F_where -/
theorem e78_0 (l st : List AV) (σ : St) (x : Nat) : run 78 0 (vR x :: l) (st) σ = run 78 1 (vR x :: l) (vR x :: st) σ := (run_eq 78 0 _ _ σ).trans rfl
theorem e78_1 (ls st : List AV) (σ : St) (x : Nat) (h : fok σ x 2) : run 78 1 (ls) (vR x :: st) σ = run 78 4 (ls) (vR (gr σ x 2) :: st) σ := (run_eq 78 1 _ _ σ).trans (if_pos h)
theorem e78_4 (ls st : List AV) (σ : St) (x0 : Nat) (h4 : st.length ≤ 4) (h : fok σ x0 1) : run 78 4 ls (vR x0 :: st) σ = bnd (run 48 0 [vR x0, vU, vU] [] σ) (fun r σ => run 78 7 ls (psh r st) σ) := (run_eq 78 4 _ _ σ).trans (if_pos ⟨rfl, by simp, by simpa using h4, rfl, h⟩)
theorem e78_7 (ls st : List AV) (σ : St) (x : Int) : run 78 7 (ls) (vI x :: st) σ = if x = 0 then run 78 10 (ls) (st) σ else run 78 13 (ls) (st) σ := (run_eq 78 7 _ _ σ).trans rfl
theorem e78_10 (ls st : List AV) (σ : St) : run 78 10 (ls) (st) σ = run 78 12 (ls) (vI (-5) :: st) σ := (run_eq 78 10 _ _ σ).trans rfl
theorem e78_12 (ls : List AV) (σ : St) (x : Int) : run 78 12 ls [vI x] σ = some (vI x, σ) := (run_eq 78 12 _ _ σ).trans rfl
theorem e78_13 (l st : List AV) (σ : St) (x : Nat) : run 78 13 (vR x :: l) (st) σ = run 78 14 (vR x :: l) (vR x :: st) σ := (run_eq 78 13 _ _ σ).trans rfl
theorem e78_14 (ls st : List AV) (σ : St) (x0 : Nat) (h4 : st.length ≤ 4) (h : fok σ x0 2) : run 78 14 ls (vR x0 :: st) σ = bnd (run 76 0 [vR x0, vU, vU, vU, vU] [] σ) (fun r σ => run 78 17 ls (psh r st) σ) := (run_eq 78 14 _ _ σ).trans (if_pos ⟨rfl, by simp, by simpa using h4, rfl, h⟩)
theorem e78_17 (a0 : AV) (l st : List AV) (σ : St) (q : AV) (x : Int) : run 78 17 (a0 :: q :: l) (vI x :: st) σ = run 78 18 (a0 :: vI x :: l) (st) σ := (run_eq 78 17 _ _ σ).trans rfl
theorem e78_18 (ls st : List AV) (σ : St) : run 78 18 (ls) (st) σ = run 78 19 (ls) (vI 0 :: st) σ := (run_eq 78 18 _ _ σ).trans rfl
theorem e78_19 (a0 a1 : AV) (l st : List AV) (σ : St) (q : AV) (x : Int) : run 78 19 (a0 :: a1 :: q :: l) (vI x :: st) σ = run 78 20 (a0 :: a1 :: vI x :: l) (st) σ := (run_eq 78 19 _ _ σ).trans rfl
theorem e78_20 (ls st : List AV) (σ : St) : run 78 20 (ls) (st) σ = run 78 21 (ls) (vI 0 :: st) σ := (run_eq 78 20 _ _ σ).trans rfl
theorem e78_21 (a0 a1 a2 : AV) (l st : List AV) (σ : St) (q : AV) (x : Int) : run 78 21 (a0 :: a1 :: a2 :: q :: l) (vI x :: st) σ = run 78 22 (a0 :: a1 :: a2 :: vI x :: l) (st) σ := (run_eq 78 21 _ _ σ).trans rfl
theorem e78_22 (a0 a1 a2 : AV) (l st : List AV) (σ : St) (x : Int) : run 78 22 (a0 :: a1 :: a2 :: vI x :: l) (st) σ = run 78 23 (a0 :: a1 :: a2 :: vI x :: l) (vI x :: st) σ := (run_eq 78 22 _ _ σ).trans rfl
theorem e78_23 (a0 : AV) (l st : List AV) (σ : St) (x : Int) : run 78 23 (a0 :: vI x :: l) (st) σ = run 78 24 (a0 :: vI x :: l) (vI x :: st) σ := (run_eq 78 23 _ _ σ).trans rfl
theorem e78_24 (ls st : List AV) (σ : St) (y x : Int) : run 78 24 (ls) (vI y :: vI x :: st) σ = if x < y then run 78 27 (ls) (st) σ else run 78 49 (ls) (st) σ := (run_eq 78 24 _ _ σ).trans rfl
theorem e78_27 (a0 a1 : AV) (l st : List AV) (σ : St) (x : Int) : run 78 27 (a0 :: a1 :: vI x :: l) (st) σ = run 78 28 (a0 :: a1 :: vI x :: l) (vI x :: st) σ := (run_eq 78 27 _ _ σ).trans rfl
theorem e78_28 (ls st : List AV) (σ : St) : run 78 28 (ls) (st) σ = run 78 29 (ls) (vI 1 :: st) σ := (run_eq 78 28 _ _ σ).trans rfl
theorem e78_29 (l st : List AV) (σ : St) (x : Nat) : run 78 29 (vR x :: l) (st) σ = run 78 30 (vR x :: l) (vR x :: st) σ := (run_eq 78 29 _ _ σ).trans rfl
theorem e78_30 (ls st : List AV) (σ : St) (x : Nat) (h : fok σ x 2) : run 78 30 (ls) (vR x :: st) σ = run 78 33 (ls) (vR (gr σ x 5) :: st) σ := (run_eq 78 30 _ _ σ).trans (if_pos h)
theorem e78_33 (a0 a1 a2 : AV) (l st : List AV) (σ : St) (x : Int) : run 78 33 (a0 :: a1 :: a2 :: vI x :: l) (st) σ = run 78 34 (a0 :: a1 :: a2 :: vI x :: l) (vI x :: st) σ := (run_eq 78 33 _ _ σ).trans rfl
theorem e78_34 (ls st : List AV) (σ : St) (x0 : Nat) (x1 : Int) (h4 : st.length ≤ 4) : run 78 34 ls (vI x1 :: vR x0 :: st) σ = bnd (run 10 0 [vR x0, vI x1] [] σ) (fun r σ => run 78 37 ls (psh r st) σ) := (run_eq 78 34 _ _ σ).trans (if_pos ⟨rfl, by simp, by simpa using h4⟩)
theorem e78_37 (ls st : List AV) (σ : St) : run 78 37 (ls) (st) σ = run 78 39 (ls) (vI 10 :: st) σ := (run_eq 78 37 _ _ σ).trans rfl
theorem e78_39 (ls st : List AV) (σ : St) (y x : Int) (h : ¬ y = 0) : run 78 39 (ls) (vI y :: vI x :: st) σ = run 78 40 (ls) (vI (wr (x.tdiv y)) :: st) σ := (run_eq 78 39 _ _ σ).trans (if_neg h)
theorem e78_40 (ls st : List AV) (σ : St) (y x : Int) : run 78 40 (ls) (vI y :: vI x :: st) σ = run 78 41 (ls) (vI (bShl x y) :: st) σ := (run_eq 78 40 _ _ σ).trans rfl
theorem e78_41 (ls st : List AV) (σ : St) (y x : Int) : run 78 41 (ls) (vI y :: vI x :: st) σ = run 78 42 (ls) (vI (bOr x y) :: st) σ := (run_eq 78 41 _ _ σ).trans rfl
theorem e78_42 (a0 a1 : AV) (l st : List AV) (σ : St) (q : AV) (x : Int) : run 78 42 (a0 :: a1 :: q :: l) (vI x :: st) σ = run 78 43 (a0 :: a1 :: vI x :: l) (st) σ := (run_eq 78 42 _ _ σ).trans rfl
theorem e78_43 (a0 a1 a2 : AV) (l st : List AV) (σ : St) (x : Int) : run 78 43 (a0 :: a1 :: a2 :: vI x :: l) (st) σ = run 78 46 (a0 :: a1 :: a2 :: vI (wr (x + 1)) :: l) (st) σ := (run_eq 78 43 _ _ σ).trans rfl
theorem e78_46 (ls st : List AV) (σ : St) : run 78 46 (ls) (st) σ = run 78 22 (ls) (st) σ := (run_eq 78 46 _ _ σ).trans rfl
theorem e78_49 (a0 a1 : AV) (l st : List AV) (σ : St) (x : Int) : run 78 49 (a0 :: a1 :: vI x :: l) (st) σ = run 78 50 (a0 :: a1 :: vI x :: l) (vI x :: st) σ := (run_eq 78 49 _ _ σ).trans rfl
theorem e78_50 (ls : List AV) (σ : St) (x : Int) : run 78 50 ls [vI x] σ = some (vI x, σ) := (run_eq 78 50 _ _ σ).trans rfl
/-! F_chance -/
theorem e79_0 (l st : List AV) (σ : St) (x : Nat) : run 79 0 (vR x :: l) (st) σ = run 79 1 (vR x :: l) (vR x :: st) σ := (run_eq 79 0 _ _ σ).trans rfl
theorem e79_1 (a0 : AV) (l st : List AV) (σ : St) (x : Int) : run 79 1 (a0 :: vI x :: l) (st) σ = run 79 2 (a0 :: vI x :: l) (vI x :: st) σ := (run_eq 79 1 _ _ σ).trans rfl
theorem e79_2 (ls st : List AV) (σ : St) (x0 : Nat) (x1 : Int) (h4 : st.length ≤ 4) (h : fok σ x0 2) : run 79 2 ls (vI x1 :: vR x0 :: st) σ = bnd (run 43 0 [vR x0, vI x1] [] σ) (fun r σ => run 79 5 ls (psh r st) σ) := (run_eq 79 2 _ _ σ).trans (if_pos ⟨rfl, by simp, by simpa using h4, rfl, h⟩)
theorem e79_5 (ls st : List AV) (σ : St) (x : Int) : run 79 5 (ls) (vI x :: st) σ = if x = 0 then run 79 8 (ls) (st) σ else run 79 12 (ls) (st) σ := (run_eq 79 5 _ _ σ).trans rfl
theorem e79_8 (ls st : List AV) (σ : St) : run 79 8 (ls) (st) σ = run 79 11 (ls) (vL (-1000000000000000001) :: st) σ := (run_eq 79 8 _ _ σ).trans rfl
theorem e79_11 (ls : List AV) (σ : St) (x : Int) : run 79 11 ls [vL x] σ = some (vL x, σ) := (run_eq 79 11 _ _ σ).trans rfl
theorem e79_12 (a0 a1 : AV) (l st : List AV) (σ : St) (x : Int) : run 79 12 (a0 :: a1 :: vI x :: l) (st) σ = run 79 13 (a0 :: a1 :: vI x :: l) (vI x :: st) σ := (run_eq 79 12 _ _ σ).trans rfl
theorem e79_13 (ls st : List AV) (σ : St) : run 79 13 (ls) (st) σ = run 79 14 (ls) (vI 0 :: st) σ := (run_eq 79 13 _ _ σ).trans rfl
theorem e79_14 (ls st : List AV) (σ : St) : run 79 14 (ls) (st) σ = run 79 16 (ls) (vI 10 :: st) σ := (run_eq 79 14 _ _ σ).trans rfl
theorem e79_16 (ls st : List AV) (σ : St) (x0 : Int) (x1 : Int) (x2 : Int) (h4 : st.length ≤ 4) : run 79 16 ls (vI x2 :: vI x1 :: vI x0 :: st) σ = bnd (run 6 0 [vI x0, vI x1, vI x2] [] σ) (fun r σ => run 79 19 ls (psh r st) σ) := (run_eq 79 16 _ _ σ).trans (if_pos ⟨rfl, by simp, by simpa using h4⟩)
theorem e79_19 (ls st : List AV) (σ : St) (x : Int) : run 79 19 (ls) (vI x :: st) σ = if x = 0 then run 79 42 (ls) (st) σ else run 79 22 (ls) (st) σ := (run_eq 79 19 _ _ σ).trans rfl
theorem e79_22 (a0 a1 a2 : AV) (l st : List AV) (σ : St) (x : Int) : run 79 22 (a0 :: a1 :: a2 :: vI x :: l) (st) σ = run 79 23 (a0 :: a1 :: a2 :: vI x :: l) (vI x :: st) σ := (run_eq 79 22 _ _ σ).trans rfl
theorem e79_23 (ls st : List AV) (σ : St) : run 79 23 (ls) (st) σ = run 79 24 (ls) (vI 0 :: st) σ := (run_eq 79 23 _ _ σ).trans rfl
theorem e79_24 (ls st : List AV) (σ : St) : run 79 24 (ls) (st) σ = run 79 26 (ls) (vI 8 :: st) σ := (run_eq 79 24 _ _ σ).trans rfl
theorem e79_26 (ls st : List AV) (σ : St) (x0 : Int) (x1 : Int) (x2 : Int) (h4 : st.length ≤ 4) : run 79 26 ls (vI x2 :: vI x1 :: vI x0 :: st) σ = bnd (run 6 0 [vI x0, vI x1, vI x2] [] σ) (fun r σ => run 79 29 ls (psh r st) σ) := (run_eq 79 26 _ _ σ).trans (if_pos ⟨rfl, by simp, by simpa using h4⟩)
theorem e79_29 (ls st : List AV) (σ : St) (x : Int) : run 79 29 (ls) (vI x :: st) σ = if x = 0 then run 79 42 (ls) (st) σ else run 79 32 (ls) (st) σ := (run_eq 79 29 _ _ σ).trans rfl
theorem e79_32 (a0 a1 a2 a3 : AV) (l st : List AV) (σ : St) (x : Int) : run 79 32 (a0 :: a1 :: a2 :: a3 :: vI x :: l) (st) σ = run 79 34 (a0 :: a1 :: a2 :: a3 :: vI x :: l) (vI x :: st) σ := (run_eq 79 32 _ _ σ).trans rfl
theorem e79_34 (ls st : List AV) (σ : St) : run 79 34 (ls) (st) σ = run 79 35 (ls) (vI 0 :: st) σ := (run_eq 79 34 _ _ σ).trans rfl
theorem e79_35 (ls st : List AV) (σ : St) : run 79 35 (ls) (st) σ = run 79 36 (ls) (vI 1 :: st) σ := (run_eq 79 35 _ _ σ).trans rfl
theorem e79_36 (ls st : List AV) (σ : St) (x0 : Int) (x1 : Int) (x2 : Int) (h4 : st.length ≤ 4) : run 79 36 ls (vI x2 :: vI x1 :: vI x0 :: st) σ = bnd (run 6 0 [vI x0, vI x1, vI x2] [] σ) (fun r σ => run 79 39 ls (psh r st) σ) := (run_eq 79 36 _ _ σ).trans (if_pos ⟨rfl, by simp, by simpa using h4⟩)
theorem e79_39 (ls st : List AV) (σ : St) (x : Int) : run 79 39 (ls) (vI x :: st) σ = if x = 0 then run 79 42 (ls) (st) σ else run 79 46 (ls) (st) σ := (run_eq 79 39 _ _ σ).trans rfl
theorem e79_42 (ls st : List AV) (σ : St) : run 79 42 (ls) (st) σ = run 79 45 (ls) (vL (-1000000000000000002) :: st) σ := (run_eq 79 42 _ _ σ).trans rfl
theorem e79_45 (ls : List AV) (σ : St) (x : Int) : run 79 45 ls [vL x] σ = some (vL x, σ) := (run_eq 79 45 _ _ σ).trans rfl
theorem e79_46 (l st : List AV) (σ : St) (x : Nat) : run 79 46 (vR x :: l) (st) σ = run 79 47 (vR x :: l) (vR x :: st) σ := (run_eq 79 46 _ _ σ).trans rfl
theorem e79_47 (a0 : AV) (l st : List AV) (σ : St) (x : Int) : run 79 47 (a0 :: vI x :: l) (st) σ = run 79 48 (a0 :: vI x :: l) (vI x :: st) σ := (run_eq 79 47 _ _ σ).trans rfl
theorem e79_48 (a0 a1 : AV) (l st : List AV) (σ : St) (x : Int) : run 79 48 (a0 :: a1 :: vI x :: l) (st) σ = run 79 49 (a0 :: a1 :: vI x :: l) (vI x :: st) σ := (run_eq 79 48 _ _ σ).trans rfl
theorem e79_49 (a0 a1 a2 : AV) (l st : List AV) (σ : St) (x : Int) : run 79 49 (a0 :: a1 :: a2 :: vI x :: l) (st) σ = run 79 50 (a0 :: a1 :: a2 :: vI x :: l) (vI x :: st) σ := (run_eq 79 49 _ _ σ).trans rfl
theorem e79_50 (ls st : List AV) (σ : St) (x0 : Nat) (x1 : Int) (x2 : Int) (x3 : Int) (h4 : st.length ≤ 4) (h : fok σ x0 2) : run 79 50 ls (vI x3 :: vI x2 :: vI x1 :: vR x0 :: st) σ = bnd (run 80 0 [vR x0, vI x1, vI x2, vI x3, vU, vU, vU, vU, vU, vU, vU] [] σ) (fun r σ => run 79 53 ls (psh r st) σ) := (run_eq 79 50 _ _ σ).trans (if_pos ⟨rfl, by simp, by simpa using h4, rfl, h⟩)
theorem e79_53 (a0 a1 a2 a3 a4 : AV) (l st : List AV) (σ : St) (q q2 : AV) (x : Int) : run 79 53 (a0 :: a1 :: a2 :: a3 :: a4 :: q :: q2 :: l) (vL x :: st) σ = run 79 55 (a0 :: a1 :: a2 :: a3 :: a4 :: vL x :: vH :: l) (st) σ := (run_eq 79 53 _ _ σ).trans rfl
theorem e79_55 (ls st : List AV) (σ : St) : run 79 55 (ls) (st) σ = run 79 57 (ls) (vI 10 :: st) σ := (run_eq 79 55 _ _ σ).trans rfl
theorem e79_57 (a0 a1 a2 : AV) (l st : List AV) (σ : St) (x : Int) : run 79 57 (a0 :: a1 :: a2 :: vI x :: l) (st) σ = run 79 58 (a0 :: a1 :: a2 :: vI x :: l) (vI x :: st) σ := (run_eq 79 57 _ _ σ).trans rfl
theorem e79_58 (ls st : List AV) (σ : St) (x0 : Int) (x1 : Int) (h4 : st.length ≤ 4) : run 79 58 ls (vI x1 :: vI x0 :: st) σ = bnd (run 81 0 [vI x0, vI x1, vU, vU, vU] [] σ) (fun r σ => run 79 61 ls (psh r st) σ) := (run_eq 79 58 _ _ σ).trans (if_pos ⟨rfl, by simp, by simpa using h4⟩)
theorem e79_61 (a0 a1 a2 a3 a4 a5 a6 : AV) (l st : List AV) (σ : St) (q q2 : AV) (x : Int) : run 79 61 (a0 :: a1 :: a2 :: a3 :: a4 :: a5 :: a6 :: q :: q2 :: l) (vL x :: st) σ = run 79 63 (a0 :: a1 :: a2 :: a3 :: a4 :: a5 :: a6 :: vL x :: vH :: l) (st) σ := (run_eq 79 61 _ _ σ).trans rfl
theorem e79_63 (ls st : List AV) (σ : St) : run 79 63 (ls) (st) σ = run 79 64 (ls) (vI 0 :: st) σ := (run_eq 79 63 _ _ σ).trans rfl
theorem e79_64 (a0 a1 a2 a3 a4 a5 a6 a7 a8 : AV) (l st : List AV) (σ : St) (q : AV) (x : Int) : run 79 64 (a0 :: a1 :: a2 :: a3 :: a4 :: a5 :: a6 :: a7 :: a8 :: q :: l) (vI x :: st) σ = run 79 66 (a0 :: a1 :: a2 :: a3 :: a4 :: a5 :: a6 :: a7 :: a8 :: vI x :: l) (st) σ := (run_eq 79 64 _ _ σ).trans rfl
theorem e79_66 (a0 a1 a2 a3 a4 a5 a6 a7 a8 : AV) (l st : List AV) (σ : St) (x : Int) : run 79 66 (a0 :: a1 :: a2 :: a3 :: a4 :: a5 :: a6 :: a7 :: a8 :: vI x :: l) (st) σ = run 79 68 (a0 :: a1 :: a2 :: a3 :: a4 :: a5 :: a6 :: a7 :: a8 :: vI x :: l) (vI x :: st) σ := (run_eq 79 66 _ _ σ).trans rfl
theorem e79_68 (a0 a1 a2 : AV) (l st : List AV) (σ : St) (x : Int) : run 79 68 (a0 :: a1 :: a2 :: vI x :: l) (st) σ = run 79 69 (a0 :: a1 :: a2 :: vI x :: l) (vI x :: st) σ := (run_eq 79 68 _ _ σ).trans rfl
theorem e79_69 (ls st : List AV) (σ : St) (y x : Int) : run 79 69 (ls) (vI y :: vI x :: st) σ = if x < y then run 79 72 (ls) (st) σ else run 79 154 (ls) (st) σ := (run_eq 79 69 _ _ σ).trans rfl
theorem e79_72 (a0 a1 a2 a3 a4 : AV) (l st : List AV) (σ : St) (x : Int) : run 79 72 (a0 :: a1 :: a2 :: a3 :: a4 :: vL x :: vH :: l) (st) σ = run 79 74 (a0 :: a1 :: a2 :: a3 :: a4 :: vL x :: vH :: l) (vL x :: st) σ := (run_eq 79 72 _ _ σ).trans rfl
theorem e79_74 (ls st : List AV) (σ : St) : run 79 74 (ls) (st) σ = run 79 77 (ls) (vL 2 :: st) σ := (run_eq 79 74 _ _ σ).trans rfl
theorem e79_77 (ls st : List AV) (σ : St) (y x : Int) (h : ¬ y = 0) : run 79 77 (ls) (vL y :: vL x :: st) σ = run 79 78 (ls) (vL (wl (x.tmod y)) :: st) σ := (run_eq 79 77 _ _ σ).trans (if_neg h)
theorem e79_78 (ls st : List AV) (σ : St) : run 79 78 (ls) (st) σ = run 79 79 (ls) (vL 0 :: st) σ := (run_eq 79 78 _ _ σ).trans rfl
theorem e79_79 (ls st : List AV) (σ : St) (y x : Int) : run 79 79 (ls) (vL y :: vL x :: st) σ = run 79 80 (ls) (vI (lCmp x y) :: st) σ := (run_eq 79 79 _ _ σ).trans rfl
theorem e79_80 (ls st : List AV) (σ : St) (x : Int) : run 79 80 (ls) (vI x :: st) σ = if x = 0 then run 79 83 (ls) (st) σ else run 79 110 (ls) (st) σ := (run_eq 79 80 _ _ σ).trans rfl
theorem e79_83 (a0 a1 a2 a3 a4 a5 a6 : AV) (l st : List AV) (σ : St) (x : Int) : run 79 83 (a0 :: a1 :: a2 :: a3 :: a4 :: a5 :: a6 :: vL x :: vH :: l) (st) σ = run 79 85 (a0 :: a1 :: a2 :: a3 :: a4 :: a5 :: a6 :: vL x :: vH :: l) (vL x :: st) σ := (run_eq 79 83 _ _ σ).trans rfl
theorem e79_85 (ls st : List AV) (σ : St) : run 79 85 (ls) (st) σ = run 79 88 (ls) (vL 2 :: st) σ := (run_eq 79 85 _ _ σ).trans rfl
theorem e79_88 (ls st : List AV) (σ : St) (y x : Int) (h : ¬ y = 0) : run 79 88 (ls) (vL y :: vL x :: st) σ = run 79 89 (ls) (vL (wl (x.tmod y)) :: st) σ := (run_eq 79 88 _ _ σ).trans (if_neg h)
theorem e79_89 (ls st : List AV) (σ : St) : run 79 89 (ls) (st) σ = run 79 90 (ls) (vL 0 :: st) σ := (run_eq 79 89 _ _ σ).trans rfl
theorem e79_90 (ls st : List AV) (σ : St) (y x : Int) : run 79 90 (ls) (vL y :: vL x :: st) σ = run 79 91 (ls) (vI (lCmp x y) :: st) σ := (run_eq 79 90 _ _ σ).trans rfl
theorem e79_91 (ls st : List AV) (σ : St) (x : Int) : run 79 91 (ls) (vI x :: st) σ = if x = 0 then run 79 94 (ls) (st) σ else run 79 110 (ls) (st) σ := (run_eq 79 91 _ _ σ).trans rfl
theorem e79_94 (a0 a1 a2 a3 a4 : AV) (l st : List AV) (σ : St) (x : Int) : run 79 94 (a0 :: a1 :: a2 :: a3 :: a4 :: vL x :: vH :: l) (st) σ = run 79 96 (a0 :: a1 :: a2 :: a3 :: a4 :: vL x :: vH :: l) (vL x :: st) σ := (run_eq 79 94 _ _ σ).trans rfl
theorem e79_96 (ls st : List AV) (σ : St) : run 79 96 (ls) (st) σ = run 79 99 (ls) (vL 2 :: st) σ := (run_eq 79 96 _ _ σ).trans rfl
theorem e79_99 (ls st : List AV) (σ : St) (y x : Int) (h : ¬ y = 0) : run 79 99 (ls) (vL y :: vL x :: st) σ = run 79 100 (ls) (vL (wl (x.tdiv y)) :: st) σ := (run_eq 79 99 _ _ σ).trans (if_neg h)
theorem e79_100 (a0 a1 a2 a3 a4 : AV) (l st : List AV) (σ : St) (q q2 : AV) (x : Int) : run 79 100 (a0 :: a1 :: a2 :: a3 :: a4 :: q :: q2 :: l) (vL x :: st) σ = run 79 102 (a0 :: a1 :: a2 :: a3 :: a4 :: vL x :: vH :: l) (st) σ := (run_eq 79 100 _ _ σ).trans rfl
theorem e79_102 (a0 a1 a2 a3 a4 a5 a6 : AV) (l st : List AV) (σ : St) (x : Int) : run 79 102 (a0 :: a1 :: a2 :: a3 :: a4 :: a5 :: a6 :: vL x :: vH :: l) (st) σ = run 79 104 (a0 :: a1 :: a2 :: a3 :: a4 :: a5 :: a6 :: vL x :: vH :: l) (vL x :: st) σ := (run_eq 79 102 _ _ σ).trans rfl
theorem e79_104 (ls st : List AV) (σ : St) : run 79 104 (ls) (st) σ = run 79 107 (ls) (vL 2 :: st) σ := (run_eq 79 104 _ _ σ).trans rfl
theorem e79_107 (ls st : List AV) (σ : St) (y x : Int) (h : ¬ y = 0) : run 79 107 (ls) (vL y :: vL x :: st) σ = run 79 108 (ls) (vL (wl (x.tdiv y)) :: st) σ := (run_eq 79 107 _ _ σ).trans (if_neg h)
theorem e79_108 (a0 a1 a2 a3 a4 a5 a6 : AV) (l st : List AV) (σ : St) (q q2 : AV) (x : Int) : run 79 108 (a0 :: a1 :: a2 :: a3 :: a4 :: a5 :: a6 :: q :: q2 :: l) (vL x :: st) σ = run 79 110 (a0 :: a1 :: a2 :: a3 :: a4 :: a5 :: a6 :: vL x :: vH :: l) (st) σ := (run_eq 79 108 _ _ σ).trans rfl
theorem e79_110 (a0 a1 a2 a3 a4 : AV) (l st : List AV) (σ : St) (x : Int) : run 79 110 (a0 :: a1 :: a2 :: a3 :: a4 :: vL x :: vH :: l) (st) σ = run 79 112 (a0 :: a1 :: a2 :: a3 :: a4 :: vL x :: vH :: l) (vL x :: st) σ := (run_eq 79 110 _ _ σ).trans rfl
theorem e79_112 (ls st : List AV) (σ : St) : run 79 112 (ls) (st) σ = run 79 115 (ls) (vL 5 :: st) σ := (run_eq 79 112 _ _ σ).trans rfl
theorem e79_115 (ls st : List AV) (σ : St) (y x : Int) (h : ¬ y = 0) : run 79 115 (ls) (vL y :: vL x :: st) σ = run 79 116 (ls) (vL (wl (x.tmod y)) :: st) σ := (run_eq 79 115 _ _ σ).trans (if_neg h)
theorem e79_116 (ls st : List AV) (σ : St) : run 79 116 (ls) (st) σ = run 79 117 (ls) (vL 0 :: st) σ := (run_eq 79 116 _ _ σ).trans rfl
theorem e79_117 (ls st : List AV) (σ : St) (y x : Int) : run 79 117 (ls) (vL y :: vL x :: st) σ = run 79 118 (ls) (vI (lCmp x y) :: st) σ := (run_eq 79 117 _ _ σ).trans rfl
theorem e79_118 (ls st : List AV) (σ : St) (x : Int) : run 79 118 (ls) (vI x :: st) σ = if x = 0 then run 79 121 (ls) (st) σ else run 79 148 (ls) (st) σ := (run_eq 79 118 _ _ σ).trans rfl
theorem e79_121 (a0 a1 a2 a3 a4 a5 a6 : AV) (l st : List AV) (σ : St) (x : Int) : run 79 121 (a0 :: a1 :: a2 :: a3 :: a4 :: a5 :: a6 :: vL x :: vH :: l) (st) σ = run 79 123 (a0 :: a1 :: a2 :: a3 :: a4 :: a5 :: a6 :: vL x :: vH :: l) (vL x :: st) σ := (run_eq 79 121 _ _ σ).trans rfl
theorem e79_123 (ls st : List AV) (σ : St) : run 79 123 (ls) (st) σ = run 79 126 (ls) (vL 5 :: st) σ := (run_eq 79 123 _ _ σ).trans rfl
theorem e79_126 (ls st : List AV) (σ : St) (y x : Int) (h : ¬ y = 0) : run 79 126 (ls) (vL y :: vL x :: st) σ = run 79 127 (ls) (vL (wl (x.tmod y)) :: st) σ := (run_eq 79 126 _ _ σ).trans (if_neg h)
theorem e79_127 (ls st : List AV) (σ : St) : run 79 127 (ls) (st) σ = run 79 128 (ls) (vL 0 :: st) σ := (run_eq 79 127 _ _ σ).trans rfl
theorem e79_128 (ls st : List AV) (σ : St) (y x : Int) : run 79 128 (ls) (vL y :: vL x :: st) σ = run 79 129 (ls) (vI (lCmp x y) :: st) σ := (run_eq 79 128 _ _ σ).trans rfl
theorem e79_129 (ls st : List AV) (σ : St) (x : Int) : run 79 129 (ls) (vI x :: st) σ = if x = 0 then run 79 132 (ls) (st) σ else run 79 148 (ls) (st) σ := (run_eq 79 129 _ _ σ).trans rfl
theorem e79_132 (a0 a1 a2 a3 a4 : AV) (l st : List AV) (σ : St) (x : Int) : run 79 132 (a0 :: a1 :: a2 :: a3 :: a4 :: vL x :: vH :: l) (st) σ = run 79 134 (a0 :: a1 :: a2 :: a3 :: a4 :: vL x :: vH :: l) (vL x :: st) σ := (run_eq 79 132 _ _ σ).trans rfl
theorem e79_134 (ls st : List AV) (σ : St) : run 79 134 (ls) (st) σ = run 79 137 (ls) (vL 5 :: st) σ := (run_eq 79 134 _ _ σ).trans rfl
theorem e79_137 (ls st : List AV) (σ : St) (y x : Int) (h : ¬ y = 0) : run 79 137 (ls) (vL y :: vL x :: st) σ = run 79 138 (ls) (vL (wl (x.tdiv y)) :: st) σ := (run_eq 79 137 _ _ σ).trans (if_neg h)
theorem e79_138 (a0 a1 a2 a3 a4 : AV) (l st : List AV) (σ : St) (q q2 : AV) (x : Int) : run 79 138 (a0 :: a1 :: a2 :: a3 :: a4 :: q :: q2 :: l) (vL x :: st) σ = run 79 140 (a0 :: a1 :: a2 :: a3 :: a4 :: vL x :: vH :: l) (st) σ := (run_eq 79 138 _ _ σ).trans rfl
theorem e79_140 (a0 a1 a2 a3 a4 a5 a6 : AV) (l st : List AV) (σ : St) (x : Int) : run 79 140 (a0 :: a1 :: a2 :: a3 :: a4 :: a5 :: a6 :: vL x :: vH :: l) (st) σ = run 79 142 (a0 :: a1 :: a2 :: a3 :: a4 :: a5 :: a6 :: vL x :: vH :: l) (vL x :: st) σ := (run_eq 79 140 _ _ σ).trans rfl
theorem e79_142 (ls st : List AV) (σ : St) : run 79 142 (ls) (st) σ = run 79 145 (ls) (vL 5 :: st) σ := (run_eq 79 142 _ _ σ).trans rfl
theorem e79_145 (ls st : List AV) (σ : St) (y x : Int) (h : ¬ y = 0) : run 79 145 (ls) (vL y :: vL x :: st) σ = run 79 146 (ls) (vL (wl (x.tdiv y)) :: st) σ := (run_eq 79 145 _ _ σ).trans (if_neg h)
theorem e79_146 (a0 a1 a2 a3 a4 a5 a6 : AV) (l st : List AV) (σ : St) (q q2 : AV) (x : Int) : run 79 146 (a0 :: a1 :: a2 :: a3 :: a4 :: a5 :: a6 :: q :: q2 :: l) (vL x :: st) σ = run 79 148 (a0 :: a1 :: a2 :: a3 :: a4 :: a5 :: a6 :: vL x :: vH :: l) (st) σ := (run_eq 79 146 _ _ σ).trans rfl
theorem e79_148 (a0 a1 a2 a3 a4 a5 a6 a7 a8 : AV) (l st : List AV) (σ : St) (x : Int) : run 79 148 (a0 :: a1 :: a2 :: a3 :: a4 :: a5 :: a6 :: a7 :: a8 :: vI x :: l) (st) σ = run 79 151 (a0 :: a1 :: a2 :: a3 :: a4 :: a5 :: a6 :: a7 :: a8 :: vI (wr (x + 1)) :: l) (st) σ := (run_eq 79 148 _ _ σ).trans rfl
theorem e79_151 (ls st : List AV) (σ : St) : run 79 151 (ls) (st) σ = run 79 66 (ls) (st) σ := (run_eq 79 151 _ _ σ).trans rfl
theorem e79_154 (a0 a1 a2 a3 : AV) (l st : List AV) (σ : St) (x : Int) : run 79 154 (a0 :: a1 :: a2 :: a3 :: vI x :: l) (st) σ = run 79 156 (a0 :: a1 :: a2 :: a3 :: vI x :: l) (vI x :: st) σ := (run_eq 79 154 _ _ σ).trans rfl
theorem e79_156 (ls st : List AV) (σ : St) (x : Int) : run 79 156 (ls) (vI x :: st) σ = if x = 0 then run 79 159 (ls) (st) σ else run 79 164 (ls) (st) σ := (run_eq 79 156 _ _ σ).trans rfl
theorem e79_159 (a0 a1 a2 a3 a4 : AV) (l st : List AV) (σ : St) (x : Int) : run 79 159 (a0 :: a1 :: a2 :: a3 :: a4 :: vL x :: vH :: l) (st) σ = run 79 161 (a0 :: a1 :: a2 :: a3 :: a4 :: vL x :: vH :: l) (vL x :: st) σ := (run_eq 79 159 _ _ σ).trans rfl
theorem e79_161 (ls st : List AV) (σ : St) : run 79 161 (ls) (st) σ = run 79 166 (ls) (st) σ := (run_eq 79 161 _ _ σ).trans rfl
theorem e79_164 (a0 a1 a2 a3 a4 a5 a6 : AV) (l st : List AV) (σ : St) (x : Int) : run 79 164 (a0 :: a1 :: a2 :: a3 :: a4 :: a5 :: a6 :: vL x :: vH :: l) (st) σ = run 79 166 (a0 :: a1 :: a2 :: a3 :: a4 :: a5 :: a6 :: vL x :: vH :: l) (vL x :: st) σ := (run_eq 79 164 _ _ σ).trans rfl
theorem e79_166 (ls : List AV) (σ : St) (x : Int) : run 79 166 ls [vL x] σ = some (vL x, σ) := (run_eq 79 166 _ _ σ).trans rfl
/-! F_tenthsThatStand -/
theorem e80_0 (ls st : List AV) (σ : St) : run 80 0 (ls) (st) σ = run 80 1 (ls) (vL 0 :: st) σ := (run_eq 80 0 _ _ σ).trans rfl
theorem e80_1 (a0 a1 a2 a3 : AV) (l st : List AV) (σ : St) (q q2 : AV) (x : Int) : run 80 1 (a0 :: a1 :: a2 :: a3 :: q :: q2 :: l) (vL x :: st) σ = run 80 3 (a0 :: a1 :: a2 :: a3 :: vL x :: vH :: l) (st) σ := (run_eq 80 1 _ _ σ).trans rfl
theorem e80_3 (l st : List AV) (σ : St) (x : Nat) : run 80 3 (vR x :: l) (st) σ = run 80 4 (vR x :: l) (vR x :: st) σ := (run_eq 80 3 _ _ σ).trans rfl
theorem e80_4 (ls st : List AV) (σ : St) (x : Nat) (h : fok σ x 2) : run 80 4 (ls) (vR x :: st) σ = run 80 7 (ls) (vR (gr σ x 1) :: st) σ := (run_eq 80 4 _ _ σ).trans (if_pos h)
theorem e80_7 (l st : List AV) (σ : St) (x : Nat) : run 80 7 (vR x :: l) (st) σ = run 80 8 (vR x :: l) (vR x :: st) σ := (run_eq 80 7 _ _ σ).trans rfl
theorem e80_8 (ls st : List AV) (σ : St) (x : Nat) (h : fok σ x 2) : run 80 8 (ls) (vR x :: st) σ = run 80 11 (ls) (vR (gr σ x 0) :: st) σ := (run_eq 80 8 _ _ σ).trans (if_pos h)
theorem e80_11 (ls st : List AV) (σ : St) (x0 : Nat) (x1 : Nat) (h4 : st.length ≤ 4) (h : fok σ x0 0) : run 80 11 ls (vR x1 :: vR x0 :: st) σ = bnd (run 27 0 [vR x0, vR x1] [] σ) (fun r σ => run 80 14 ls (psh r st) σ) := (run_eq 80 11 _ _ σ).trans (if_pos ⟨rfl, by simp, by simpa using h4, rfl, h⟩)
theorem e80_14 (ls st : List AV) (σ : St) : run 80 14 (ls) (st) σ = run 80 15 (ls) (vI 0 :: st) σ := (run_eq 80 14 _ _ σ).trans rfl
theorem e80_15 (a0 a1 a2 a3 a4 a5 : AV) (l st : List AV) (σ : St) (q : AV) (x : Int) : run 80 15 (a0 :: a1 :: a2 :: a3 :: a4 :: a5 :: q :: l) (vI x :: st) σ = run 80 17 (a0 :: a1 :: a2 :: a3 :: a4 :: a5 :: vI x :: l) (st) σ := (run_eq 80 15 _ _ σ).trans rfl
theorem e80_17 (a0 a1 a2 a3 a4 a5 : AV) (l st : List AV) (σ : St) (x : Int) : run 80 17 (a0 :: a1 :: a2 :: a3 :: a4 :: a5 :: vI x :: l) (st) σ = run 80 19 (a0 :: a1 :: a2 :: a3 :: a4 :: a5 :: vI x :: l) (vI x :: st) σ := (run_eq 80 17 _ _ σ).trans rfl
theorem e80_19 (ls st : List AV) (σ : St) : run 80 19 (ls) (st) σ = run 80 20 (ls) (vI 1 :: st) σ := (run_eq 80 19 _ _ σ).trans rfl
theorem e80_20 (a0 a1 a2 : AV) (l st : List AV) (σ : St) (x : Int) : run 80 20 (a0 :: a1 :: a2 :: vI x :: l) (st) σ = run 80 21 (a0 :: a1 :: a2 :: vI x :: l) (vI x :: st) σ := (run_eq 80 20 _ _ σ).trans rfl
theorem e80_21 (ls st : List AV) (σ : St) (y x : Int) : run 80 21 (ls) (vI y :: vI x :: st) σ = run 80 22 (ls) (vI (bShl x y) :: st) σ := (run_eq 80 21 _ _ σ).trans rfl
theorem e80_22 (ls st : List AV) (σ : St) (y x : Int) : run 80 22 (ls) (vI y :: vI x :: st) σ = if x < y then run 80 25 (ls) (st) σ else run 80 136 (ls) (st) σ := (run_eq 80 22 _ _ σ).trans rfl
theorem e80_25 (a0 a1 a2 a3 a4 a5 : AV) (l st : List AV) (σ : St) (x : Int) : run 80 25 (a0 :: a1 :: a2 :: a3 :: a4 :: a5 :: vI x :: l) (st) σ = run 80 27 (a0 :: a1 :: a2 :: a3 :: a4 :: a5 :: vI x :: l) (vI x :: st) σ := (run_eq 80 25 _ _ σ).trans rfl
theorem e80_27 (ls st : List AV) (σ : St) (x0 : Int) (h4 : st.length ≤ 4) : run 80 27 ls (vI x0 :: st) σ = bnd (run 50 0 [vI x0] [] σ) (fun r σ => run 80 30 ls (psh r st) σ) := (run_eq 80 27 _ _ σ).trans (if_pos ⟨rfl, by simp, by simpa using h4⟩)
theorem e80_30 (a0 a1 a2 a3 a4 a5 a6 : AV) (l st : List AV) (σ : St) (q : AV) (x : Int) : run 80 30 (a0 :: a1 :: a2 :: a3 :: a4 :: a5 :: a6 :: q :: l) (vI x :: st) σ = run 80 32 (a0 :: a1 :: a2 :: a3 :: a4 :: a5 :: a6 :: vI x :: l) (st) σ := (run_eq 80 30 _ _ σ).trans rfl
theorem e80_32 (a0 a1 : AV) (l st : List AV) (σ : St) (x : Int) : run 80 32 (a0 :: a1 :: vI x :: l) (st) σ = run 80 33 (a0 :: a1 :: vI x :: l) (vI x :: st) σ := (run_eq 80 32 _ _ σ).trans rfl
theorem e80_33 (a0 a1 a2 a3 a4 a5 a6 : AV) (l st : List AV) (σ : St) (x : Int) : run 80 33 (a0 :: a1 :: a2 :: a3 :: a4 :: a5 :: a6 :: vI x :: l) (st) σ = run 80 35 (a0 :: a1 :: a2 :: a3 :: a4 :: a5 :: a6 :: vI x :: l) (vI x :: st) σ := (run_eq 80 33 _ _ σ).trans rfl
theorem e80_35 (ls st : List AV) (σ : St) (x0 : Int) (x1 : Int) (h4 : st.length ≤ 4) : run 80 35 ls (vI x1 :: vI x0 :: st) σ = bnd (run 81 0 [vI x0, vI x1, vU, vU, vU] [] σ) (fun r σ => run 80 38 ls (psh r st) σ) := (run_eq 80 35 _ _ σ).trans (if_pos ⟨rfl, by simp, by simpa using h4⟩)
theorem e80_38 (ls st : List AV) (σ : St) : run 80 38 (ls) (st) σ = run 80 40 (ls) (vI 10 :: st) σ := (run_eq 80 38 _ _ σ).trans rfl
theorem e80_40 (a0 a1 : AV) (l st : List AV) (σ : St) (x : Int) : run 80 40 (a0 :: a1 :: vI x :: l) (st) σ = run 80 41 (a0 :: a1 :: vI x :: l) (vI x :: st) σ := (run_eq 80 40 _ _ σ).trans rfl
theorem e80_41 (ls st : List AV) (σ : St) (y x : Int) : run 80 41 (ls) (vI y :: vI x :: st) σ = run 80 42 (ls) (vI (wr (x - y)) :: st) σ := (run_eq 80 41 _ _ σ).trans rfl
theorem e80_42 (a0 a1 a2 : AV) (l st : List AV) (σ : St) (x : Int) : run 80 42 (a0 :: a1 :: a2 :: vI x :: l) (st) σ = run 80 43 (a0 :: a1 :: a2 :: vI x :: l) (vI x :: st) σ := (run_eq 80 42 _ _ σ).trans rfl
theorem e80_43 (a0 a1 a2 a3 a4 a5 a6 : AV) (l st : List AV) (σ : St) (x : Int) : run 80 43 (a0 :: a1 :: a2 :: a3 :: a4 :: a5 :: a6 :: vI x :: l) (st) σ = run 80 45 (a0 :: a1 :: a2 :: a3 :: a4 :: a5 :: a6 :: vI x :: l) (vI x :: st) σ := (run_eq 80 43 _ _ σ).trans rfl
theorem e80_45 (ls st : List AV) (σ : St) (y x : Int) : run 80 45 (ls) (vI y :: vI x :: st) σ = run 80 46 (ls) (vI (wr (x - y)) :: st) σ := (run_eq 80 45 _ _ σ).trans rfl
theorem e80_46 (ls st : List AV) (σ : St) (x0 : Int) (x1 : Int) (h4 : st.length ≤ 4) : run 80 46 ls (vI x1 :: vI x0 :: st) σ = bnd (run 81 0 [vI x0, vI x1, vU, vU, vU] [] σ) (fun r σ => run 80 49 ls (psh r st) σ) := (run_eq 80 46 _ _ σ).trans (if_pos ⟨rfl, by simp, by simpa using h4⟩)
theorem e80_49 (ls st : List AV) (σ : St) (y x : Int) : run 80 49 (ls) (vL y :: vL x :: st) σ = run 80 50 (ls) (vL (wl (x * y)) :: st) σ := (run_eq 80 49 _ _ σ).trans rfl
theorem e80_50 (a0 a1 a2 a3 a4 a5 a6 a7 : AV) (l st : List AV) (σ : St) (q q2 : AV) (x : Int) : run 80 50 (a0 :: a1 :: a2 :: a3 :: a4 :: a5 :: a6 :: a7 :: q :: q2 :: l) (vL x :: st) σ = run 80 52 (a0 :: a1 :: a2 :: a3 :: a4 :: a5 :: a6 :: a7 :: vL x :: vH :: l) (st) σ := (run_eq 80 50 _ _ σ).trans rfl
theorem e80_52 (a0 a1 a2 a3 a4 a5 a6 a7 : AV) (l st : List AV) (σ : St) (x : Int) : run 80 52 (a0 :: a1 :: a2 :: a3 :: a4 :: a5 :: a6 :: a7 :: vL x :: vH :: l) (st) σ = run 80 54 (a0 :: a1 :: a2 :: a3 :: a4 :: a5 :: a6 :: a7 :: vL x :: vH :: l) (vL x :: st) σ := (run_eq 80 52 _ _ σ).trans rfl
theorem e80_54 (ls st : List AV) (σ : St) : run 80 54 (ls) (st) σ = run 80 55 (ls) (vL 0 :: st) σ := (run_eq 80 54 _ _ σ).trans rfl
theorem e80_55 (ls st : List AV) (σ : St) (y x : Int) : run 80 55 (ls) (vL y :: vL x :: st) σ = run 80 56 (ls) (vI (lCmp x y) :: st) σ := (run_eq 80 55 _ _ σ).trans rfl
theorem e80_56 (ls st : List AV) (σ : St) (x : Int) : run 80 56 (ls) (vI x :: st) σ = if 0 < x then run 80 59 (ls) (st) σ else run 80 130 (ls) (st) σ := (run_eq 80 56 _ _ σ).trans rfl
theorem e80_59 (l st : List AV) (σ : St) (x : Nat) : run 80 59 (vR x :: l) (st) σ = run 80 60 (vR x :: l) (vR x :: st) σ := (run_eq 80 59 _ _ σ).trans rfl
theorem e80_60 (ls st : List AV) (σ : St) (x : Nat) (h : fok σ x 2) : run 80 60 (ls) (vR x :: st) σ = run 80 63 (ls) (vR (gr σ x 1) :: st) σ := (run_eq 80 60 _ _ σ).trans (if_pos h)
theorem e80_63 (l st : List AV) (σ : St) (x : Nat) : run 80 63 (vR x :: l) (st) σ = run 80 64 (vR x :: l) (vR x :: st) σ := (run_eq 80 63 _ _ σ).trans rfl
theorem e80_64 (ls st : List AV) (σ : St) (x : Nat) (h : fok σ x 2) : run 80 64 (ls) (vR x :: st) σ = run 80 67 (ls) (vR (gr σ x 0) :: st) σ := (run_eq 80 64 _ _ σ).trans (if_pos h)
theorem e80_67 (ls st : List AV) (σ : St) (x0 : Nat) (x1 : Nat) (h4 : st.length ≤ 4) (h : fok σ x0 0) : run 80 67 ls (vR x1 :: vR x0 :: st) σ = bnd (run 29 0 [vR x0, vR x1] [] σ) (fun r σ => run 80 70 ls (psh r st) σ) := (run_eq 80 67 _ _ σ).trans (if_pos ⟨rfl, by simp, by simpa using h4, rfl, h⟩)
theorem e80_70 (ls st : List AV) (σ : St) : run 80 70 (ls) (st) σ = run 80 71 (ls) (vI 0 :: st) σ := (run_eq 80 70 _ _ σ).trans rfl
theorem e80_71 (a0 a1 a2 a3 a4 a5 a6 a7 a8 a9 : AV) (l st : List AV) (σ : St) (q : AV) (x : Int) : run 80 71 (a0 :: a1 :: a2 :: a3 :: a4 :: a5 :: a6 :: a7 :: a8 :: a9 :: q :: l) (vI x :: st) σ = run 80 73 (a0 :: a1 :: a2 :: a3 :: a4 :: a5 :: a6 :: a7 :: a8 :: a9 :: vI x :: l) (st) σ := (run_eq 80 71 _ _ σ).trans rfl
theorem e80_73 (a0 a1 a2 a3 a4 a5 a6 a7 a8 a9 : AV) (l st : List AV) (σ : St) (x : Int) : run 80 73 (a0 :: a1 :: a2 :: a3 :: a4 :: a5 :: a6 :: a7 :: a8 :: a9 :: vI x :: l) (st) σ = run 80 75 (a0 :: a1 :: a2 :: a3 :: a4 :: a5 :: a6 :: a7 :: a8 :: a9 :: vI x :: l) (vI x :: st) σ := (run_eq 80 73 _ _ σ).trans rfl
theorem e80_75 (a0 a1 a2 : AV) (l st : List AV) (σ : St) (x : Int) : run 80 75 (a0 :: a1 :: a2 :: vI x :: l) (st) σ = run 80 76 (a0 :: a1 :: a2 :: vI x :: l) (vI x :: st) σ := (run_eq 80 75 _ _ σ).trans rfl
theorem e80_76 (ls st : List AV) (σ : St) (y x : Int) : run 80 76 (ls) (vI y :: vI x :: st) σ = if x < y then run 80 79 (ls) (st) σ else run 80 108 (ls) (st) σ := (run_eq 80 76 _ _ σ).trans rfl
theorem e80_79 (l st : List AV) (σ : St) (x : Nat) : run 80 79 (vR x :: l) (st) σ = run 80 80 (vR x :: l) (vR x :: st) σ := (run_eq 80 79 _ _ σ).trans rfl
theorem e80_80 (ls st : List AV) (σ : St) (x : Nat) (h : fok σ x 2) : run 80 80 (ls) (vR x :: st) σ = run 80 83 (ls) (vR (gr σ x 1) :: st) σ := (run_eq 80 80 _ _ σ).trans (if_pos h)
theorem e80_83 (a0 a1 a2 a3 a4 a5 : AV) (l st : List AV) (σ : St) (x : Int) : run 80 83 (a0 :: a1 :: a2 :: a3 :: a4 :: a5 :: vI x :: l) (st) σ = run 80 85 (a0 :: a1 :: a2 :: a3 :: a4 :: a5 :: vI x :: l) (vI x :: st) σ := (run_eq 80 83 _ _ σ).trans rfl
theorem e80_85 (a0 a1 a2 a3 a4 a5 a6 a7 a8 a9 : AV) (l st : List AV) (σ : St) (x : Int) : run 80 85 (a0 :: a1 :: a2 :: a3 :: a4 :: a5 :: a6 :: a7 :: a8 :: a9 :: vI x :: l) (st) σ = run 80 87 (a0 :: a1 :: a2 :: a3 :: a4 :: a5 :: a6 :: a7 :: a8 :: a9 :: vI x :: l) (vI x :: st) σ := (run_eq 80 85 _ _ σ).trans rfl
theorem e80_87 (ls st : List AV) (σ : St) (y x : Int) : run 80 87 (ls) (vI y :: vI x :: st) σ = run 80 88 (ls) (vI (bShr x y) :: st) σ := (run_eq 80 87 _ _ σ).trans rfl
theorem e80_88 (ls st : List AV) (σ : St) : run 80 88 (ls) (st) σ = run 80 89 (ls) (vI 1 :: st) σ := (run_eq 80 88 _ _ σ).trans rfl
theorem e80_89 (ls st : List AV) (σ : St) (y x : Int) : run 80 89 (ls) (vI y :: vI x :: st) σ = run 80 90 (ls) (vI (bAnd x y) :: st) σ := (run_eq 80 89 _ _ σ).trans rfl
theorem e80_90 (ls st : List AV) (σ : St) : run 80 90 (ls) (st) σ = run 80 91 (ls) (vI 1 :: st) σ := (run_eq 80 90 _ _ σ).trans rfl
theorem e80_91 (ls st : List AV) (σ : St) (y x : Int) : run 80 91 (ls) (vI y :: vI x :: st) σ = if x = y then run 80 94 (ls) (st) σ else run 80 98 (ls) (st) σ := (run_eq 80 91 _ _ σ).trans rfl
theorem e80_94 (ls st : List AV) (σ : St) : run 80 94 (ls) (st) σ = run 80 95 (ls) (vI 1 :: st) σ := (run_eq 80 94 _ _ σ).trans rfl
theorem e80_95 (ls st : List AV) (σ : St) : run 80 95 (ls) (st) σ = run 80 99 (ls) (st) σ := (run_eq 80 95 _ _ σ).trans rfl
theorem e80_98 (ls st : List AV) (σ : St) : run 80 98 (ls) (st) σ = run 80 99 (ls) (vI 5 :: st) σ := (run_eq 80 98 _ _ σ).trans rfl
theorem e80_99 (ls st : List AV) (σ : St) (x0 : Nat) (x1 : Int) (h4 : st.length ≤ 4) (h : fok σ x0 0) : run 80 99 ls (vI x1 :: vR x0 :: st) σ = bnd (run 30 0 [vR x0, vI x1, vU, vU] [] σ) (fun r σ => run 80 102 ls (psh r st) σ) := (run_eq 80 99 _ _ σ).trans (if_pos ⟨rfl, by simp, by simpa using h4, rfl, h⟩)
theorem e80_102 (a0 a1 a2 a3 a4 a5 a6 a7 a8 a9 : AV) (l st : List AV) (σ : St) (x : Int) : run 80 102 (a0 :: a1 :: a2 :: a3 :: a4 :: a5 :: a6 :: a7 :: a8 :: a9 :: vI x :: l) (st) σ = run 80 105 (a0 :: a1 :: a2 :: a3 :: a4 :: a5 :: a6 :: a7 :: a8 :: a9 :: vI (wr (x + 1)) :: l) (st) σ := (run_eq 80 102 _ _ σ).trans rfl
theorem e80_105 (ls st : List AV) (σ : St) : run 80 105 (ls) (st) σ = run 80 73 (ls) (st) σ := (run_eq 80 105 _ _ σ).trans rfl
theorem e80_108 (a0 a1 a2 a3 : AV) (l st : List AV) (σ : St) (x : Int) : run 80 108 (a0 :: a1 :: a2 :: a3 :: vL x :: vH :: l) (st) σ = run 80 110 (a0 :: a1 :: a2 :: a3 :: vL x :: vH :: l) (vL x :: st) σ := (run_eq 80 108 _ _ σ).trans rfl
theorem e80_110 (l st : List AV) (σ : St) (x : Nat) : run 80 110 (vR x :: l) (st) σ = run 80 111 (vR x :: l) (vR x :: st) σ := (run_eq 80 110 _ _ σ).trans rfl
theorem e80_111 (ls st : List AV) (σ : St) (x : Nat) (h : fok σ x 2) : run 80 111 (ls) (vR x :: st) σ = run 80 114 (ls) (vR (gr σ x 1) :: st) σ := (run_eq 80 111 _ _ σ).trans (if_pos h)
theorem e80_114 (a0 : AV) (l st : List AV) (σ : St) (x : Int) : run 80 114 (a0 :: vI x :: l) (st) σ = run 80 115 (a0 :: vI x :: l) (vI x :: st) σ := (run_eq 80 114 _ _ σ).trans rfl
theorem e80_115 (ls st : List AV) (σ : St) (x0 : Nat) (x1 : Int) (h4 : st.length ≤ 4) (h : fok σ x0 0) : run 80 115 ls (vI x1 :: vR x0 :: st) σ = bnd (run 35 0 [vR x0, vI x1] [] σ) (fun r σ => run 80 118 ls (psh r st) σ) := (run_eq 80 115 _ _ σ).trans (if_pos ⟨rfl, by simp, by simpa using h4, rfl, h⟩)
theorem e80_118 (ls st : List AV) (σ : St) (x : Int) : run 80 118 (ls) (vI x :: st) σ = if x = 0 then run 80 126 (ls) (st) σ else run 80 121 (ls) (st) σ := (run_eq 80 118 _ _ σ).trans rfl
theorem e80_121 (a0 a1 a2 a3 a4 a5 a6 a7 : AV) (l st : List AV) (σ : St) (x : Int) : run 80 121 (a0 :: a1 :: a2 :: a3 :: a4 :: a5 :: a6 :: a7 :: vL x :: vH :: l) (st) σ = run 80 123 (a0 :: a1 :: a2 :: a3 :: a4 :: a5 :: a6 :: a7 :: vL x :: vH :: l) (vL x :: st) σ := (run_eq 80 121 _ _ σ).trans rfl
theorem e80_123 (ls st : List AV) (σ : St) : run 80 123 (ls) (st) σ = run 80 127 (ls) (st) σ := (run_eq 80 123 _ _ σ).trans rfl
theorem e80_126 (ls st : List AV) (σ : St) : run 80 126 (ls) (st) σ = run 80 127 (ls) (vL 0 :: st) σ := (run_eq 80 126 _ _ σ).trans rfl
theorem e80_127 (ls st : List AV) (σ : St) (y x : Int) : run 80 127 (ls) (vL y :: vL x :: st) σ = run 80 128 (ls) (vL (wl (x + y)) :: st) σ := (run_eq 80 127 _ _ σ).trans rfl
theorem e80_128 (a0 a1 a2 a3 : AV) (l st : List AV) (σ : St) (q q2 : AV) (x : Int) : run 80 128 (a0 :: a1 :: a2 :: a3 :: q :: q2 :: l) (vL x :: st) σ = run 80 130 (a0 :: a1 :: a2 :: a3 :: vL x :: vH :: l) (st) σ := (run_eq 80 128 _ _ σ).trans rfl
theorem e80_130 (a0 a1 a2 a3 a4 a5 : AV) (l st : List AV) (σ : St) (x : Int) : run 80 130 (a0 :: a1 :: a2 :: a3 :: a4 :: a5 :: vI x :: l) (st) σ = run 80 133 (a0 :: a1 :: a2 :: a3 :: a4 :: a5 :: vI (wr (x + 1)) :: l) (st) σ := (run_eq 80 130 _ _ σ).trans rfl
theorem e80_133 (ls st : List AV) (σ : St) : run 80 133 (ls) (st) σ = run 80 17 (ls) (st) σ := (run_eq 80 133 _ _ σ).trans rfl
theorem e80_136 (a0 a1 a2 a3 : AV) (l st : List AV) (σ : St) (x : Int) : run 80 136 (a0 :: a1 :: a2 :: a3 :: vL x :: vH :: l) (st) σ = run 80 138 (a0 :: a1 :: a2 :: a3 :: vL x :: vH :: l) (vL x :: st) σ := (run_eq 80 136 _ _ σ).trans rfl
theorem e80_138 (ls : List AV) (σ : St) (x : Int) : run 80 138 ls [vL x] σ = some (vL x, σ) := (run_eq 80 138 _ _ σ).trans rfl
/-! F_power -/
theorem e81_0 (ls st : List AV) (σ : St) : run 81 0 (ls) (st) σ = run 81 1 (ls) (vL 1 :: st) σ := (run_eq 81 0 _ _ σ).trans rfl
theorem e81_1 (a0 a1 : AV) (l st : List AV) (σ : St) (q q2 : AV) (x : Int) : run 81 1 (a0 :: a1 :: q :: q2 :: l) (vL x :: st) σ = run 81 2 (a0 :: a1 :: vL x :: vH :: l) (st) σ := (run_eq 81 1 _ _ σ).trans rfl
theorem e81_2 (ls st : List AV) (σ : St) : run 81 2 (ls) (st) σ = run 81 3 (ls) (vI 0 :: st) σ := (run_eq 81 2 _ _ σ).trans rfl
theorem e81_3 (a0 a1 a2 a3 : AV) (l st : List AV) (σ : St) (q : AV) (x : Int) : run 81 3 (a0 :: a1 :: a2 :: a3 :: q :: l) (vI x :: st) σ = run 81 5 (a0 :: a1 :: a2 :: a3 :: vI x :: l) (st) σ := (run_eq 81 3 _ _ σ).trans rfl
theorem e81_5 (a0 a1 a2 a3 : AV) (l st : List AV) (σ : St) (x : Int) : run 81 5 (a0 :: a1 :: a2 :: a3 :: vI x :: l) (st) σ = run 81 7 (a0 :: a1 :: a2 :: a3 :: vI x :: l) (vI x :: st) σ := (run_eq 81 5 _ _ σ).trans rfl
theorem e81_7 (a0 : AV) (l st : List AV) (σ : St) (x : Int) : run 81 7 (a0 :: vI x :: l) (st) σ = run 81 8 (a0 :: vI x :: l) (vI x :: st) σ := (run_eq 81 7 _ _ σ).trans rfl
theorem e81_8 (ls st : List AV) (σ : St) (y x : Int) : run 81 8 (ls) (vI y :: vI x :: st) σ = if x < y then run 81 11 (ls) (st) σ else run 81 22 (ls) (st) σ := (run_eq 81 8 _ _ σ).trans rfl
theorem e81_11 (a0 a1 : AV) (l st : List AV) (σ : St) (x : Int) : run 81 11 (a0 :: a1 :: vL x :: vH :: l) (st) σ = run 81 12 (a0 :: a1 :: vL x :: vH :: l) (vL x :: st) σ := (run_eq 81 11 _ _ σ).trans rfl
theorem e81_12 (l st : List AV) (σ : St) (x : Int) : run 81 12 (vI x :: l) (st) σ = run 81 13 (vI x :: l) (vI x :: st) σ := (run_eq 81 12 _ _ σ).trans rfl
theorem e81_13 (ls st : List AV) (σ : St) (x : Int) : run 81 13 (ls) (vI x :: st) σ = run 81 14 (ls) (vL x :: st) σ := (run_eq 81 13 _ _ σ).trans rfl
theorem e81_14 (ls st : List AV) (σ : St) (y x : Int) : run 81 14 (ls) (vL y :: vL x :: st) σ = run 81 15 (ls) (vL (wl (x * y)) :: st) σ := (run_eq 81 14 _ _ σ).trans rfl
theorem e81_15 (a0 a1 : AV) (l st : List AV) (σ : St) (q q2 : AV) (x : Int) : run 81 15 (a0 :: a1 :: q :: q2 :: l) (vL x :: st) σ = run 81 16 (a0 :: a1 :: vL x :: vH :: l) (st) σ := (run_eq 81 15 _ _ σ).trans rfl
theorem e81_16 (a0 a1 a2 a3 : AV) (l st : List AV) (σ : St) (x : Int) : run 81 16 (a0 :: a1 :: a2 :: a3 :: vI x :: l) (st) σ = run 81 19 (a0 :: a1 :: a2 :: a3 :: vI (wr (x + 1)) :: l) (st) σ := (run_eq 81 16 _ _ σ).trans rfl
theorem e81_19 (ls st : List AV) (σ : St) : run 81 19 (ls) (st) σ = run 81 5 (ls) (st) σ := (run_eq 81 19 _ _ σ).trans rfl
theorem e81_22 (a0 a1 : AV) (l st : List AV) (σ : St) (x : Int) : run 81 22 (a0 :: a1 :: vL x :: vH :: l) (st) σ = run 81 23 (a0 :: a1 :: vL x :: vH :: l) (vL x :: st) σ := (run_eq 81 22 _ _ σ).trans rfl
theorem e81_23 (ls : List AV) (σ : St) (x : Int) : run 81 23 ls [vL x] σ = some (vL x, σ) := (run_eq 81 23 _ _ σ).trans rfl
/-! F_year -/
theorem e82_0 (a0 : AV) (l st : List AV) (σ : St) (x : Int) : run 82 0 (a0 :: vI x :: l) (st) σ = run 82 1 (a0 :: vI x :: l) (vI x :: st) σ := (run_eq 82 0 _ _ σ).trans rfl
theorem e82_1 (ls st : List AV) (σ : St) : run 82 1 (ls) (st) σ = run 82 2 (ls) (vI 0 :: st) σ := (run_eq 82 1 _ _ σ).trans rfl
theorem e82_2 (ls st : List AV) (σ : St) : run 82 2 (ls) (st) σ = run 82 5 (ls) (vI 9999 :: st) σ := (run_eq 82 2 _ _ σ).trans rfl
theorem e82_5 (ls st : List AV) (σ : St) (x0 : Int) (x1 : Int) (x2 : Int) (h4 : st.length ≤ 4) : run 82 5 ls (vI x2 :: vI x1 :: vI x0 :: st) σ = bnd (run 6 0 [vI x0, vI x1, vI x2] [] σ) (fun r σ => run 82 8 ls (psh r st) σ) := (run_eq 82 5 _ _ σ).trans (if_pos ⟨rfl, by simp, by simpa using h4⟩)
theorem e82_8 (ls st : List AV) (σ : St) (x : Int) : run 82 8 (ls) (vI x :: st) σ = if x = 0 then run 82 30 (ls) (st) σ else run 82 11 (ls) (st) σ := (run_eq 82 8 _ _ σ).trans rfl
theorem e82_11 (a0 a1 : AV) (l st : List AV) (σ : St) (x : Int) : run 82 11 (a0 :: a1 :: vI x :: l) (st) σ = run 82 12 (a0 :: a1 :: vI x :: l) (vI x :: st) σ := (run_eq 82 11 _ _ σ).trans rfl
theorem e82_12 (ls st : List AV) (σ : St) : run 82 12 (ls) (st) σ = run 82 13 (ls) (vI 1 :: st) σ := (run_eq 82 12 _ _ σ).trans rfl
theorem e82_13 (ls st : List AV) (σ : St) : run 82 13 (ls) (st) σ = run 82 15 (ls) (vI 99 :: st) σ := (run_eq 82 13 _ _ σ).trans rfl
theorem e82_15 (ls st : List AV) (σ : St) (x0 : Int) (x1 : Int) (x2 : Int) (h4 : st.length ≤ 4) : run 82 15 ls (vI x2 :: vI x1 :: vI x0 :: st) σ = bnd (run 6 0 [vI x0, vI x1, vI x2] [] σ) (fun r σ => run 82 18 ls (psh r st) σ) := (run_eq 82 15 _ _ σ).trans (if_pos ⟨rfl, by simp, by simpa using h4⟩)
theorem e82_18 (ls st : List AV) (σ : St) (x : Int) : run 82 18 (ls) (vI x :: st) σ = if x = 0 then run 82 30 (ls) (st) σ else run 82 21 (ls) (st) σ := (run_eq 82 18 _ _ σ).trans rfl
theorem e82_21 (a0 a1 a2 : AV) (l st : List AV) (σ : St) (x : Int) : run 82 21 (a0 :: a1 :: a2 :: vI x :: l) (st) σ = run 82 22 (a0 :: a1 :: a2 :: vI x :: l) (vI x :: st) σ := (run_eq 82 21 _ _ σ).trans rfl
theorem e82_22 (ls st : List AV) (σ : St) : run 82 22 (ls) (st) σ = run 82 23 (ls) (vI 0 :: st) σ := (run_eq 82 22 _ _ σ).trans rfl
theorem e82_23 (ls st : List AV) (σ : St) : run 82 23 (ls) (st) σ = run 82 24 (ls) (vI 2 :: st) σ := (run_eq 82 23 _ _ σ).trans rfl
theorem e82_24 (ls st : List AV) (σ : St) (x0 : Int) (x1 : Int) (x2 : Int) (h4 : st.length ≤ 4) : run 82 24 ls (vI x2 :: vI x1 :: vI x0 :: st) σ = bnd (run 6 0 [vI x0, vI x1, vI x2] [] σ) (fun r σ => run 82 27 ls (psh r st) σ) := (run_eq 82 24 _ _ σ).trans (if_pos ⟨rfl, by simp, by simpa using h4⟩)
theorem e82_27 (ls st : List AV) (σ : St) (x : Int) : run 82 27 (ls) (vI x :: st) σ = if x = 0 then run 82 30 (ls) (st) σ else run 82 33 (ls) (st) σ := (run_eq 82 27 _ _ σ).trans rfl
theorem e82_30 (ls st : List AV) (σ : St) : run 82 30 (ls) (st) σ = run 82 32 (ls) (vI (-2) :: st) σ := (run_eq 82 30 _ _ σ).trans rfl
theorem e82_32 (ls : List AV) (σ : St) (x : Int) : run 82 32 ls [vI x] σ = some (vI x, σ) := (run_eq 82 32 _ _ σ).trans rfl
theorem e82_33 (l st : List AV) (σ : St) (x : Nat) : run 82 33 (vR x :: l) (st) σ = run 82 34 (vR x :: l) (vR x :: st) σ := (run_eq 82 33 _ _ σ).trans rfl
theorem e82_34 (ls st : List AV) (σ : St) (x : Nat) (h : fok σ x 2) : run 82 34 (ls) (vR x :: st) σ = run 82 37 (ls) (vR (gr σ x 1) :: st) σ := (run_eq 82 34 _ _ σ).trans (if_pos h)
theorem e82_37 (l st : List AV) (σ : St) (x : Nat) : run 82 37 (vR x :: l) (st) σ = run 82 38 (vR x :: l) (vR x :: st) σ := (run_eq 82 37 _ _ σ).trans rfl
theorem e82_38 (ls st : List AV) (σ : St) (x : Nat) (h : fok σ x 2) : run 82 38 (ls) (vR x :: st) σ = run 82 41 (ls) (vR (gr σ x 0) :: st) σ := (run_eq 82 38 _ _ σ).trans (if_pos h)
theorem e82_41 (ls st : List AV) (σ : St) (x0 : Nat) (x1 : Nat) (h4 : st.length ≤ 4) (h : fok σ x0 0) : run 82 41 ls (vR x1 :: vR x0 :: st) σ = bnd (run 27 0 [vR x0, vR x1] [] σ) (fun r σ => run 82 44 ls (psh r st) σ) := (run_eq 82 41 _ _ σ).trans (if_pos ⟨rfl, by simp, by simpa using h4, rfl, h⟩)
theorem e82_44 (a0 : AV) (l st : List AV) (σ : St) (x : Int) : run 82 44 (a0 :: vI x :: l) (st) σ = run 82 45 (a0 :: vI x :: l) (vI x :: st) σ := (run_eq 82 44 _ _ σ).trans rfl
theorem e82_45 (a0 a1 a2 a3 : AV) (l st : List AV) (σ : St) (q : AV) (x : Int) : run 82 45 (a0 :: a1 :: a2 :: a3 :: q :: l) (vI x :: st) σ = run 82 47 (a0 :: a1 :: a2 :: a3 :: vI x :: l) (st) σ := (run_eq 82 45 _ _ σ).trans rfl
theorem e82_47 (ls st : List AV) (σ : St) : run 82 47 (ls) (st) σ = run 82 48 (ls) (vI 0 :: st) σ := (run_eq 82 47 _ _ σ).trans rfl
theorem e82_48 (a0 a1 a2 a3 a4 : AV) (l st : List AV) (σ : St) (q : AV) (x : Int) : run 82 48 (a0 :: a1 :: a2 :: a3 :: a4 :: q :: l) (vI x :: st) σ = run 82 50 (a0 :: a1 :: a2 :: a3 :: a4 :: vI x :: l) (st) σ := (run_eq 82 48 _ _ σ).trans rfl
theorem e82_50 (ls st : List AV) (σ : St) : run 82 50 (ls) (st) σ = run 82 51 (ls) (vI 0 :: st) σ := (run_eq 82 50 _ _ σ).trans rfl
theorem e82_51 (a0 a1 a2 a3 a4 a5 : AV) (l st : List AV) (σ : St) (q : AV) (x : Int) : run 82 51 (a0 :: a1 :: a2 :: a3 :: a4 :: a5 :: q :: l) (vI x :: st) σ = run 82 53 (a0 :: a1 :: a2 :: a3 :: a4 :: a5 :: vI x :: l) (st) σ := (run_eq 82 51 _ _ σ).trans rfl
theorem e82_53 (ls st : List AV) (σ : St) : run 82 53 (ls) (st) σ = run 82 54 (ls) (vI 0 :: st) σ := (run_eq 82 53 _ _ σ).trans rfl
theorem e82_54 (a0 a1 a2 a3 a4 a5 a6 : AV) (l st : List AV) (σ : St) (q : AV) (x : Int) : run 82 54 (a0 :: a1 :: a2 :: a3 :: a4 :: a5 :: a6 :: q :: l) (vI x :: st) σ = run 82 56 (a0 :: a1 :: a2 :: a3 :: a4 :: a5 :: a6 :: vI x :: l) (st) σ := (run_eq 82 54 _ _ σ).trans rfl
theorem e82_56 (a0 a1 a2 a3 a4 a5 a6 : AV) (l st : List AV) (σ : St) (x : Int) : run 82 56 (a0 :: a1 :: a2 :: a3 :: a4 :: a5 :: a6 :: vI x :: l) (st) σ = run 82 58 (a0 :: a1 :: a2 :: a3 :: a4 :: a5 :: a6 :: vI x :: l) (vI x :: st) σ := (run_eq 82 56 _ _ σ).trans rfl
theorem e82_58 (a0 a1 : AV) (l st : List AV) (σ : St) (x : Int) : run 82 58 (a0 :: a1 :: vI x :: l) (st) σ = run 82 59 (a0 :: a1 :: vI x :: l) (vI x :: st) σ := (run_eq 82 58 _ _ σ).trans rfl
theorem e82_59 (ls st : List AV) (σ : St) (y x : Int) : run 82 59 (ls) (vI y :: vI x :: st) σ = if x < y then run 82 62 (ls) (st) σ else run 82 131 (ls) (st) σ := (run_eq 82 59 _ _ σ).trans rfl
theorem e82_62 (ls st : List AV) (σ : St) : run 82 62 (ls) (st) σ = run 82 64 (ls) (vI 75 :: st) σ := (run_eq 82 62 _ _ σ).trans rfl
theorem e82_64 (a0 a1 a2 a3 : AV) (l st : List AV) (σ : St) (x : Int) : run 82 64 (a0 :: a1 :: a2 :: a3 :: vI x :: l) (st) σ = run 82 66 (a0 :: a1 :: a2 :: a3 :: vI x :: l) (vI x :: st) σ := (run_eq 82 64 _ _ σ).trans rfl
theorem e82_66 (ls st : List AV) (σ : St) (y x : Int) : run 82 66 (ls) (vI y :: vI x :: st) σ = run 82 67 (ls) (vI (wr (x * y)) :: st) σ := (run_eq 82 66 _ _ σ).trans rfl
theorem e82_67 (ls st : List AV) (σ : St) : run 82 67 (ls) (st) σ = run 82 69 (ls) (vI 74 :: st) σ := (run_eq 82 67 _ _ σ).trans rfl
theorem e82_69 (ls st : List AV) (σ : St) (y x : Int) : run 82 69 (ls) (vI y :: vI x :: st) σ = run 82 70 (ls) (vI (wr (x + y)) :: st) σ := (run_eq 82 69 _ _ σ).trans rfl
theorem e82_70 (ls st : List AV) (σ : St) : run 82 70 (ls) (st) σ = run 82 72 (ls) (vI 65537 :: st) σ := (run_eq 82 70 _ _ σ).trans rfl
theorem e82_72 (ls st : List AV) (σ : St) (y x : Int) (h : ¬ y = 0) : run 82 72 (ls) (vI y :: vI x :: st) σ = run 82 73 (ls) (vI (wr (x.tmod y)) :: st) σ := (run_eq 82 72 _ _ σ).trans (if_neg h)
theorem e82_73 (a0 a1 a2 a3 : AV) (l st : List AV) (σ : St) (q : AV) (x : Int) : run 82 73 (a0 :: a1 :: a2 :: a3 :: q :: l) (vI x :: st) σ = run 82 75 (a0 :: a1 :: a2 :: a3 :: vI x :: l) (st) σ := (run_eq 82 73 _ _ σ).trans rfl
theorem e82_75 (l st : List AV) (σ : St) (x : Nat) : run 82 75 (vR x :: l) (st) σ = run 82 76 (vR x :: l) (vR x :: st) σ := (run_eq 82 75 _ _ σ).trans rfl
theorem e82_76 (ls st : List AV) (σ : St) (x : Nat) (h : fok σ x 2) : run 82 76 (ls) (vR x :: st) σ = run 82 79 (ls) (vR (gr σ x 1) :: st) σ := (run_eq 82 76 _ _ σ).trans (if_pos h)
theorem e82_79 (a0 a1 a2 a3 : AV) (l st : List AV) (σ : St) (x : Int) : run 82 79 (a0 :: a1 :: a2 :: a3 :: vI x :: l) (st) σ = run 82 81 (a0 :: a1 :: a2 :: a3 :: vI x :: l) (vI x :: st) σ := (run_eq 82 79 _ _ σ).trans rfl
theorem e82_81 (ls st : List AV) (σ : St) : run 82 81 (ls) (st) σ = run 82 83 (ls) (vI 8 :: st) σ := (run_eq 82 81 _ _ σ).trans rfl
theorem e82_83 (ls st : List AV) (σ : St) (y x : Int) (h : ¬ y = 0) : run 82 83 (ls) (vI y :: vI x :: st) σ = run 82 84 (ls) (vI (wr (x.tmod y)) :: st) σ := (run_eq 82 83 _ _ σ).trans (if_neg h)
theorem e82_84 (ls st : List AV) (σ : St) : run 82 84 (ls) (st) σ = run 82 85 (ls) (vI 5 :: st) σ := (run_eq 82 84 _ _ σ).trans rfl
theorem e82_85 (ls st : List AV) (σ : St) (y x : Int) (h4 : st.length ≤ 4) : run 82 85 (ls) (vI y :: vI x :: st) σ = run 82 88 (ls) (vI (if y < x then y else x) :: st) σ := (run_eq 82 85 _ _ σ).trans (if_pos h4)
theorem e82_88 (ls st : List AV) (σ : St) (x0 : Nat) (x1 : Int) (h4 : st.length ≤ 4) (h : fok σ x0 0) : run 82 88 ls (vI x1 :: vR x0 :: st) σ = bnd (run 30 0 [vR x0, vI x1, vU, vU] [] σ) (fun r σ => run 82 91 ls (psh r st) σ) := (run_eq 82 88 _ _ σ).trans (if_pos ⟨rfl, by simp, by simpa using h4, rfl, h⟩)
theorem e82_91 (a0 a1 a2 a3 a4 : AV) (l st : List AV) (σ : St) (x : Int) : run 82 91 (a0 :: a1 :: a2 :: a3 :: a4 :: vI x :: l) (st) σ = run 82 93 (a0 :: a1 :: a2 :: a3 :: a4 :: vI x :: l) (vI x :: st) σ := (run_eq 82 91 _ _ σ).trans rfl
theorem e82_93 (l st : List AV) (σ : St) (x : Nat) : run 82 93 (vR x :: l) (st) σ = run 82 94 (vR x :: l) (vR x :: st) σ := (run_eq 82 93 _ _ σ).trans rfl
theorem e82_94 (ls st : List AV) (σ : St) (x : Nat) (h : fok σ x 2) : run 82 94 (ls) (vR x :: st) σ = run 82 97 (ls) (vR (gr σ x 1) :: st) σ := (run_eq 82 94 _ _ σ).trans (if_pos h)
theorem e82_97 (ls st : List AV) (σ : St) (x0 : Nat) (h4 : st.length ≤ 4) (h : fok σ x0 0) : run 82 97 ls (vR x0 :: st) σ = bnd (run 83 0 [vR x0, vU, vU] [] σ) (fun r σ => run 82 100 ls (psh r st) σ) := (run_eq 82 97 _ _ σ).trans (if_pos ⟨rfl, by simp, by simpa using h4, rfl, h⟩)
theorem e82_100 (ls st : List AV) (σ : St) (x : Int) : run 82 100 (ls) (vI x :: st) σ = if x = 0 then run 82 107 (ls) (st) σ else run 82 103 (ls) (st) σ := (run_eq 82 100 _ _ σ).trans rfl
theorem e82_103 (ls st : List AV) (σ : St) : run 82 103 (ls) (st) σ = run 82 104 (ls) (vI 1 :: st) σ := (run_eq 82 103 _ _ σ).trans rfl
theorem e82_104 (ls st : List AV) (σ : St) : run 82 104 (ls) (st) σ = run 82 108 (ls) (st) σ := (run_eq 82 104 _ _ σ).trans rfl
theorem e82_107 (ls st : List AV) (σ : St) : run 82 107 (ls) (st) σ = run 82 108 (ls) (vI 0 :: st) σ := (run_eq 82 107 _ _ σ).trans rfl
theorem e82_108 (ls st : List AV) (σ : St) (y x : Int) : run 82 108 (ls) (vI y :: vI x :: st) σ = run 82 109 (ls) (vI (wr (x + y)) :: st) σ := (run_eq 82 108 _ _ σ).trans rfl
theorem e82_109 (a0 a1 a2 a3 a4 : AV) (l st : List AV) (σ : St) (q : AV) (x : Int) : run 82 109 (a0 :: a1 :: a2 :: a3 :: a4 :: q :: l) (vI x :: st) σ = run 82 111 (a0 :: a1 :: a2 :: a3 :: a4 :: vI x :: l) (st) σ := (run_eq 82 109 _ _ σ).trans rfl
theorem e82_111 (a0 a1 a2 a3 a4 a5 : AV) (l st : List AV) (σ : St) (x : Int) : run 82 111 (a0 :: a1 :: a2 :: a3 :: a4 :: a5 :: vI x :: l) (st) σ = run 82 113 (a0 :: a1 :: a2 :: a3 :: a4 :: a5 :: vI x :: l) (vI x :: st) σ := (run_eq 82 111 _ _ σ).trans rfl
theorem e82_113 (l st : List AV) (σ : St) (x : Nat) : run 82 113 (vR x :: l) (st) σ = run 82 114 (vR x :: l) (vR x :: st) σ := (run_eq 82 113 _ _ σ).trans rfl
theorem e82_114 (ls st : List AV) (σ : St) (x : Nat) (h : fok σ x 2) : run 82 114 (ls) (vR x :: st) σ = run 82 117 (ls) (vR (gr σ x 1) :: st) σ := (run_eq 82 114 _ _ σ).trans (if_pos h)
theorem e82_117 (ls st : List AV) (σ : St) (x0 : Nat) (h4 : st.length ≤ 4) (h : fok σ x0 0) : run 82 117 ls (vR x0 :: st) σ = bnd (run 84 0 [vR x0, vU, vU] [] σ) (fun r σ => run 82 120 ls (psh r st) σ) := (run_eq 82 117 _ _ σ).trans (if_pos ⟨rfl, by simp, by simpa using h4, rfl, h⟩)
theorem e82_120 (ls st : List AV) (σ : St) (y x : Int) (h4 : st.length ≤ 4) : run 82 120 (ls) (vI y :: vI x :: st) σ = run 82 123 (ls) (vI (if x < y then y else x) :: st) σ := (run_eq 82 120 _ _ σ).trans (if_pos h4)
theorem e82_123 (a0 a1 a2 a3 a4 a5 : AV) (l st : List AV) (σ : St) (q : AV) (x : Int) : run 82 123 (a0 :: a1 :: a2 :: a3 :: a4 :: a5 :: q :: l) (vI x :: st) σ = run 82 125 (a0 :: a1 :: a2 :: a3 :: a4 :: a5 :: vI x :: l) (st) σ := (run_eq 82 123 _ _ σ).trans rfl
theorem e82_125 (a0 a1 a2 a3 a4 a5 a6 : AV) (l st : List AV) (σ : St) (x : Int) : run 82 125 (a0 :: a1 :: a2 :: a3 :: a4 :: a5 :: a6 :: vI x :: l) (st) σ = run 82 128 (a0 :: a1 :: a2 :: a3 :: a4 :: a5 :: a6 :: vI (wr (x + 1)) :: l) (st) σ := (run_eq 82 125 _ _ σ).trans rfl
theorem e82_128 (ls st : List AV) (σ : St) : run 82 128 (ls) (st) σ = run 82 56 (ls) (st) σ := (run_eq 82 128 _ _ σ).trans rfl
theorem e82_131 (a0 a1 a2 : AV) (l st : List AV) (σ : St) (x : Int) : run 82 131 (a0 :: a1 :: a2 :: vI x :: l) (st) σ = run 82 132 (a0 :: a1 :: a2 :: vI x :: l) (vI x :: st) σ := (run_eq 82 131 _ _ σ).trans rfl
theorem e82_132 (ls st : List AV) (σ : St) (x : Int) : run 82 132 (ls) (vI x :: st) σ = if x = 0 then run 82 135 (ls) (st) σ else run 82 143 (ls) (st) σ := (run_eq 82 132 _ _ σ).trans rfl
theorem e82_135 (l st : List AV) (σ : St) (x : Nat) : run 82 135 (vR x :: l) (st) σ = run 82 136 (vR x :: l) (vR x :: st) σ := (run_eq 82 135 _ _ σ).trans rfl
theorem e82_136 (ls st : List AV) (σ : St) (x : Nat) (h : fok σ x 2) : run 82 136 (ls) (vR x :: st) σ = run 82 139 (ls) (vR (gr σ x 1) :: st) σ := (run_eq 82 136 _ _ σ).trans (if_pos h)
theorem e82_139 (ls st : List AV) (σ : St) (x0 : Nat) (h4 : st.length ≤ 4) (h : fok σ x0 0) : run 82 139 ls (vR x0 :: st) σ = bnd (run 85 0 [vR x0, vU, vU] [] σ) (fun r σ => run 82 142 ls (psh r st) σ) := (run_eq 82 139 _ _ σ).trans (if_pos ⟨rfl, by simp, by simpa using h4, rfl, h⟩)
theorem e82_142 (ls : List AV) (σ : St) (x : Int) : run 82 142 ls [vI x] σ = some (vI x, σ) := (run_eq 82 142 _ _ σ).trans rfl
theorem e82_143 (a0 a1 a2 : AV) (l st : List AV) (σ : St) (x : Int) : run 82 143 (a0 :: a1 :: a2 :: vI x :: l) (st) σ = run 82 144 (a0 :: a1 :: a2 :: vI x :: l) (vI x :: st) σ := (run_eq 82 143 _ _ σ).trans rfl
theorem e82_144 (ls st : List AV) (σ : St) : run 82 144 (ls) (st) σ = run 82 145 (ls) (vI 1 :: st) σ := (run_eq 82 144 _ _ σ).trans rfl
theorem e82_145 (ls st : List AV) (σ : St) (y x : Int) : run 82 145 (ls) (vI y :: vI x :: st) σ = if x = y then run 82 148 (ls) (st) σ else run 82 153 (ls) (st) σ := (run_eq 82 145 _ _ σ).trans rfl
theorem e82_148 (a0 a1 a2 a3 a4 : AV) (l st : List AV) (σ : St) (x : Int) : run 82 148 (a0 :: a1 :: a2 :: a3 :: a4 :: vI x :: l) (st) σ = run 82 150 (a0 :: a1 :: a2 :: a3 :: a4 :: vI x :: l) (vI x :: st) σ := (run_eq 82 148 _ _ σ).trans rfl
theorem e82_150 (ls st : List AV) (σ : St) : run 82 150 (ls) (st) σ = run 82 155 (ls) (st) σ := (run_eq 82 150 _ _ σ).trans rfl
theorem e82_153 (a0 a1 a2 a3 a4 a5 : AV) (l st : List AV) (σ : St) (x : Int) : run 82 153 (a0 :: a1 :: a2 :: a3 :: a4 :: a5 :: vI x :: l) (st) σ = run 82 155 (a0 :: a1 :: a2 :: a3 :: a4 :: a5 :: vI x :: l) (vI x :: st) σ := (run_eq 82 153 _ _ σ).trans rfl
theorem e82_155 (ls : List AV) (σ : St) (x : Int) : run 82 155 ls [vI x] σ = some (vI x, σ) := (run_eq 82 155 _ _ σ).trans rfl
/-! F_image -/
theorem e86_0 (a0 : AV) (l st : List AV) (σ : St) (x : Int) : run 86 0 (a0 :: vI x :: l) (st) σ = run 86 1 (a0 :: vI x :: l) (vI x :: st) σ := (run_eq 86 0 _ _ σ).trans rfl
theorem e86_1 (ls st : List AV) (σ : St) (x : Int) : run 86 1 (ls) (vI x :: st) σ = if x < 0 then run 86 13 (ls) (st) σ else run 86 4 (ls) (st) σ := (run_eq 86 1 _ _ σ).trans rfl
theorem e86_4 (a0 : AV) (l st : List AV) (σ : St) (x : Int) : run 86 4 (a0 :: vI x :: l) (st) σ = run 86 5 (a0 :: vI x :: l) (vI x :: st) σ := (run_eq 86 4 _ _ σ).trans rfl
theorem e86_5 (l st : List AV) (σ : St) (x : Nat) : run 86 5 (vR x :: l) (st) σ = run 86 6 (vR x :: l) (vR x :: st) σ := (run_eq 86 5 _ _ σ).trans rfl
theorem e86_6 (ls st : List AV) (σ : St) (x : Nat) (h : fok σ x 2) : run 86 6 (ls) (vR x :: st) σ = run 86 9 (ls) (vR (gr σ x 3) :: st) σ := (run_eq 86 6 _ _ σ).trans (if_pos h)
theorem e86_9 (ls st : List AV) (σ : St) (x : Nat) (h : fok σ x 4 ∨ fok σ x 6) : run 86 9 (ls) (vR x :: st) σ = run 86 10 (ls) (vI (sk σ x).2 :: st) σ := (run_eq 86 9 _ _ σ).trans (if_pos h)
theorem e86_10 (ls st : List AV) (σ : St) (y x : Int) : run 86 10 (ls) (vI y :: vI x :: st) σ = if x < y then run 86 16 (ls) (st) σ else run 86 13 (ls) (st) σ := (run_eq 86 10 _ _ σ).trans rfl
theorem e86_13 (ls st : List AV) (σ : St) : run 86 13 (ls) (st) σ = run 86 15 (ls) (vI (-2) :: st) σ := (run_eq 86 13 _ _ σ).trans rfl
theorem e86_15 (ls : List AV) (σ : St) (x : Int) : run 86 15 ls [vI x] σ = some (vI x, σ) := (run_eq 86 15 _ _ σ).trans rfl
theorem e86_16 (l st : List AV) (σ : St) (x : Nat) : run 86 16 (vR x :: l) (st) σ = run 86 17 (vR x :: l) (vR x :: st) σ := (run_eq 86 16 _ _ σ).trans rfl
theorem e86_17 (ls st : List AV) (σ : St) (x : Nat) (h : fok σ x 2) : run 86 17 (ls) (vR x :: st) σ = run 86 20 (ls) (vR (gr σ x 3) :: st) σ := (run_eq 86 17 _ _ σ).trans (if_pos h)
theorem e86_20 (a0 : AV) (l st : List AV) (σ : St) (x : Int) : run 86 20 (a0 :: vI x :: l) (st) σ = run 86 21 (a0 :: vI x :: l) (vI x :: st) σ := (run_eq 86 20 _ _ σ).trans rfl
theorem e86_21 (ls st : List AV) (σ : St) (j : Int) (x : Nat) (h : aok σ x 6 j) : run 86 21 (ls) (vI j :: vR x :: st) σ = run 86 22 (ls) (vR (gr σ x j.toNat) :: st) σ := (run_eq 86 21 _ _ σ).trans (if_pos h)
theorem e86_22 (a0 a1 : AV) (l st : List AV) (σ : St) (q : AV) (x : Nat) : run 86 22 (a0 :: a1 :: q :: l) (vR x :: st) σ = run 86 23 (a0 :: a1 :: vR x :: l) (st) σ := (run_eq 86 22 _ _ σ).trans rfl
theorem e86_23 (a0 a1 : AV) (l st : List AV) (σ : St) (x : Nat) : run 86 23 (a0 :: a1 :: vR x :: l) (st) σ = run 86 24 (a0 :: a1 :: vR x :: l) (vR x :: st) σ := (run_eq 86 23 _ _ σ).trans rfl
theorem e86_24 (ls st : List AV) (σ : St) (x : Nat) : run 86 24 (ls) (vR x :: st) σ = if x = 0 then run 86 27 (ls) (st) σ else run 86 42 (ls) (st) σ := (run_eq 86 24 _ _ σ).trans rfl
theorem e86_27 (ls st : List AV) (σ : St) : run 86 27 (ls) (st) σ = run 86 30 (ls) (vR (nn σ + 1) :: st) (al σ 0 13) := (run_eq 86 27 _ _ σ).trans rfl
theorem e86_30 (ls st : List AV) (σ : St) (x : Nat) : run 86 30 ls (vR x :: st) σ = run 86 31 ls (vR x :: vR x :: st) σ := (run_eq 86 30 _ _ σ).trans rfl
theorem e86_31 (ls st : List AV) (σ : St) (x0 : Nat) (h4 : st.length ≤ 4) (h : 1 ≤ x0) : run 86 31 ls (vR x0 :: st) σ = bnd (run 1 0 [vR x0] [] σ) (fun r σ => run 86 34 ls (psh r st) σ) := (run_eq 86 31 _ _ σ).trans (if_pos ⟨rfl, by simp, by simpa using h4, rfl, h⟩)
theorem e86_34 (a0 a1 : AV) (l st : List AV) (σ : St) (q : AV) (x : Nat) : run 86 34 (a0 :: a1 :: q :: l) (vR x :: st) σ = run 86 35 (a0 :: a1 :: vR x :: l) (st) σ := (run_eq 86 34 _ _ σ).trans rfl
theorem e86_35 (l st : List AV) (σ : St) (x : Nat) : run 86 35 (vR x :: l) (st) σ = run 86 36 (vR x :: l) (vR x :: st) σ := (run_eq 86 35 _ _ σ).trans rfl
theorem e86_36 (ls st : List AV) (σ : St) (x : Nat) (h : fok σ x 2) : run 86 36 (ls) (vR x :: st) σ = run 86 39 (ls) (vR (gr σ x 3) :: st) σ := (run_eq 86 36 _ _ σ).trans (if_pos h)
theorem e86_39 (a0 : AV) (l st : List AV) (σ : St) (x : Int) : run 86 39 (a0 :: vI x :: l) (st) σ = run 86 40 (a0 :: vI x :: l) (vI x :: st) σ := (run_eq 86 39 _ _ σ).trans rfl
theorem e86_40 (a0 a1 : AV) (l st : List AV) (σ : St) (x : Nat) : run 86 40 (a0 :: a1 :: vR x :: l) (st) σ = run 86 41 (a0 :: a1 :: vR x :: l) (vR x :: st) σ := (run_eq 86 40 _ _ σ).trans rfl
theorem e86_41 (ls st : List AV) (σ : St) (j : Int) (z x : Nat) (h : aok σ x 6 j) (h2 : fok σ z 0) : run 86 41 (ls) (vR z :: vI j :: vR x :: st) σ = run 86 42 (ls) (st) (rr σ x (ru (gr σ x) j.toNat z)) := (run_eq 86 41 _ _ σ).trans (if_pos ⟨h, h2⟩)
theorem e86_42 (a0 a1 : AV) (l st : List AV) (σ : St) (x : Nat) : run 86 42 (a0 :: a1 :: vR x :: l) (st) σ = run 86 43 (a0 :: a1 :: vR x :: l) (vR x :: st) σ := (run_eq 86 42 _ _ σ).trans rfl
theorem e86_43 (l st : List AV) (σ : St) (x : Nat) : run 86 43 (vR x :: l) (st) σ = run 86 44 (vR x :: l) (vR x :: st) σ := (run_eq 86 43 _ _ σ).trans rfl
theorem e86_44 (ls st : List AV) (σ : St) (x : Nat) (h : fok σ x 2) : run 86 44 (ls) (vR x :: st) σ = run 86 47 (ls) (vR (gr σ x 0) :: st) σ := (run_eq 86 44 _ _ σ).trans (if_pos h)
theorem e86_47 (ls st : List AV) (σ : St) (x0 : Nat) (x1 : Nat) (h4 : st.length ≤ 4) (h : fok σ x0 0) : run 86 47 ls (vR x1 :: vR x0 :: st) σ = bnd (run 27 0 [vR x0, vR x1] [] σ) (fun r σ => run 86 50 ls (psh r st) σ) := (run_eq 86 47 _ _ σ).trans (if_pos ⟨rfl, by simp, by simpa using h4, rfl, h⟩)
theorem e86_50 (ls st : List AV) (σ : St) : run 86 50 (ls) (st) σ = run 86 51 (ls) (vI 1 :: st) σ := (run_eq 86 50 _ _ σ).trans rfl
theorem e86_51 (ls : List AV) (σ : St) (x : Int) : run 86 51 ls [vI x] σ = some (vI x, σ) := (run_eq 86 51 _ _ σ).trans rfl
/-! F_restore -/
theorem e87_0 (a0 : AV) (l st : List AV) (σ : St) (x : Int) : run 87 0 (a0 :: vI x :: l) (st) σ = run 87 1 (a0 :: vI x :: l) (vI x :: st) σ := (run_eq 87 0 _ _ σ).trans rfl
theorem e87_1 (ls st : List AV) (σ : St) (x : Int) : run 87 1 (ls) (vI x :: st) σ = if x < 0 then run 87 13 (ls) (st) σ else run 87 4 (ls) (st) σ := (run_eq 87 1 _ _ σ).trans rfl
theorem e87_4 (a0 : AV) (l st : List AV) (σ : St) (x : Int) : run 87 4 (a0 :: vI x :: l) (st) σ = run 87 5 (a0 :: vI x :: l) (vI x :: st) σ := (run_eq 87 4 _ _ σ).trans rfl
theorem e87_5 (l st : List AV) (σ : St) (x : Nat) : run 87 5 (vR x :: l) (st) σ = run 87 6 (vR x :: l) (vR x :: st) σ := (run_eq 87 5 _ _ σ).trans rfl
theorem e87_6 (ls st : List AV) (σ : St) (x : Nat) (h : fok σ x 2) : run 87 6 (ls) (vR x :: st) σ = run 87 9 (ls) (vR (gr σ x 3) :: st) σ := (run_eq 87 6 _ _ σ).trans (if_pos h)
theorem e87_9 (ls st : List AV) (σ : St) (x : Nat) (h : fok σ x 4 ∨ fok σ x 6) : run 87 9 (ls) (vR x :: st) σ = run 87 10 (ls) (vI (sk σ x).2 :: st) σ := (run_eq 87 9 _ _ σ).trans (if_pos h)
theorem e87_10 (ls st : List AV) (σ : St) (y x : Int) : run 87 10 (ls) (vI y :: vI x :: st) σ = if x < y then run 87 16 (ls) (st) σ else run 87 13 (ls) (st) σ := (run_eq 87 10 _ _ σ).trans rfl
theorem e87_13 (ls st : List AV) (σ : St) : run 87 13 (ls) (st) σ = run 87 15 (ls) (vI (-2) :: st) σ := (run_eq 87 13 _ _ σ).trans rfl
theorem e87_15 (ls : List AV) (σ : St) (x : Int) : run 87 15 ls [vI x] σ = some (vI x, σ) := (run_eq 87 15 _ _ σ).trans rfl
theorem e87_16 (l st : List AV) (σ : St) (x : Nat) : run 87 16 (vR x :: l) (st) σ = run 87 17 (vR x :: l) (vR x :: st) σ := (run_eq 87 16 _ _ σ).trans rfl
theorem e87_17 (ls st : List AV) (σ : St) (x : Nat) (h : fok σ x 2) : run 87 17 (ls) (vR x :: st) σ = run 87 20 (ls) (vR (gr σ x 3) :: st) σ := (run_eq 87 17 _ _ σ).trans (if_pos h)
theorem e87_20 (a0 : AV) (l st : List AV) (σ : St) (x : Int) : run 87 20 (a0 :: vI x :: l) (st) σ = run 87 21 (a0 :: vI x :: l) (vI x :: st) σ := (run_eq 87 20 _ _ σ).trans rfl
theorem e87_21 (ls st : List AV) (σ : St) (j : Int) (x : Nat) (h : aok σ x 6 j) : run 87 21 (ls) (vI j :: vR x :: st) σ = run 87 22 (ls) (vR (gr σ x j.toNat) :: st) σ := (run_eq 87 21 _ _ σ).trans (if_pos h)
theorem e87_22 (a0 a1 : AV) (l st : List AV) (σ : St) (q : AV) (x : Nat) : run 87 22 (a0 :: a1 :: q :: l) (vR x :: st) σ = run 87 23 (a0 :: a1 :: vR x :: l) (st) σ := (run_eq 87 22 _ _ σ).trans rfl
theorem e87_23 (a0 a1 : AV) (l st : List AV) (σ : St) (x : Nat) : run 87 23 (a0 :: a1 :: vR x :: l) (st) σ = run 87 24 (a0 :: a1 :: vR x :: l) (vR x :: st) σ := (run_eq 87 23 _ _ σ).trans rfl
theorem e87_24 (ls st : List AV) (σ : St) (x : Nat) : run 87 24 (ls) (vR x :: st) σ = if x = 0 then run 87 27 (ls) (st) σ else run 87 30 (ls) (st) σ := (run_eq 87 24 _ _ σ).trans rfl
theorem e87_27 (ls st : List AV) (σ : St) : run 87 27 (ls) (st) σ = run 87 29 (ls) (vI (-3) :: st) σ := (run_eq 87 27 _ _ σ).trans rfl
theorem e87_29 (ls : List AV) (σ : St) (x : Int) : run 87 29 ls [vI x] σ = some (vI x, σ) := (run_eq 87 29 _ _ σ).trans rfl
theorem e87_30 (l st : List AV) (σ : St) (x : Nat) : run 87 30 (vR x :: l) (st) σ = run 87 31 (vR x :: l) (vR x :: st) σ := (run_eq 87 30 _ _ σ).trans rfl
theorem e87_31 (ls st : List AV) (σ : St) (x : Nat) (h : fok σ x 2) : run 87 31 (ls) (vR x :: st) σ = run 87 34 (ls) (vR (gr σ x 0) :: st) σ := (run_eq 87 31 _ _ σ).trans (if_pos h)
theorem e87_34 (a0 a1 : AV) (l st : List AV) (σ : St) (x : Nat) : run 87 34 (a0 :: a1 :: vR x :: l) (st) σ = run 87 35 (a0 :: a1 :: vR x :: l) (vR x :: st) σ := (run_eq 87 34 _ _ σ).trans rfl
theorem e87_35 (ls st : List AV) (σ : St) (x0 : Nat) (x1 : Nat) (h4 : st.length ≤ 4) (h : fok σ x0 0) : run 87 35 ls (vR x1 :: vR x0 :: st) σ = bnd (run 27 0 [vR x0, vR x1] [] σ) (fun r σ => run 87 38 ls (psh r st) σ) := (run_eq 87 35 _ _ σ).trans (if_pos ⟨rfl, by simp, by simpa using h4, rfl, h⟩)
theorem e87_38 (ls st : List AV) (σ : St) : run 87 38 (ls) (st) σ = run 87 39 (ls) (vI 1 :: st) σ := (run_eq 87 38 _ _ σ).trans rfl
theorem e87_39 (ls : List AV) (σ : St) (x : Int) : run 87 39 ls [vI x] σ = some (vI x, σ) := (run_eq 87 39 _ _ σ).trans rfl
/-! F_told -/
theorem e88_0 (a0 : AV) (l st : List AV) (σ : St) (x : Int) : run 88 0 (a0 :: vI x :: l) (st) σ = run 88 1 (a0 :: vI x :: l) (vI x :: st) σ := (run_eq 88 0 _ _ σ).trans rfl
theorem e88_1 (ls st : List AV) (σ : St) (x : Int) : run 88 1 (ls) (vI x :: st) σ = run 88 (sw [(0, 48), (1, 56), (2, 64), (3, 72), (4, 80), (5, 88), (6, 96), (7, 104)] 112 x) ls st σ := (run_eq 88 1 _ _ σ).trans rfl
theorem e88_48 (l st : List AV) (σ : St) (x : Nat) : run 88 48 (vR x :: l) (st) σ = run 88 49 (vR x :: l) (vR x :: st) σ := (run_eq 88 48 _ _ σ).trans rfl
theorem e88_49 (ls st : List AV) (σ : St) (x : Nat) (h : fok σ x 2) : run 88 49 (ls) (vR x :: st) σ = run 88 52 (ls) (vR (gr σ x 2) :: st) σ := (run_eq 88 49 _ _ σ).trans (if_pos h)
theorem e88_52 (ls st : List AV) (σ : St) (x : Nat) (h : fok σ x 1) : run 88 52 (ls) (vR x :: st) σ = run 88 55 (ls) (vI (gt σ x 1) :: st) σ := (run_eq 88 52 _ _ σ).trans (if_pos h)
theorem e88_55 (ls : List AV) (σ : St) (x : Int) : run 88 55 ls [vI x] σ = some (vI x, σ) := (run_eq 88 55 _ _ σ).trans rfl
theorem e88_56 (l st : List AV) (σ : St) (x : Nat) : run 88 56 (vR x :: l) (st) σ = run 88 57 (vR x :: l) (vR x :: st) σ := (run_eq 88 56 _ _ σ).trans rfl
theorem e88_57 (ls st : List AV) (σ : St) (x : Nat) (h : fok σ x 2) : run 88 57 (ls) (vR x :: st) σ = run 88 60 (ls) (vR (gr σ x 0) :: st) σ := (run_eq 88 57 _ _ σ).trans (if_pos h)
theorem e88_60 (ls st : List AV) (σ : St) (x : Nat) (h : fok σ x 0) : run 88 60 (ls) (vR x :: st) σ = run 88 63 (ls) (vI (gt σ x 0) :: st) σ := (run_eq 88 60 _ _ σ).trans (if_pos h)
theorem e88_63 (ls : List AV) (σ : St) (x : Int) : run 88 63 ls [vI x] σ = some (vI x, σ) := (run_eq 88 63 _ _ σ).trans rfl
theorem e88_64 (l st : List AV) (σ : St) (x : Nat) : run 88 64 (vR x :: l) (st) σ = run 88 65 (vR x :: l) (vR x :: st) σ := (run_eq 88 64 _ _ σ).trans rfl
theorem e88_65 (ls st : List AV) (σ : St) (x : Nat) (h : fok σ x 2) : run 88 65 (ls) (vR x :: st) σ = run 88 68 (ls) (vR (gr σ x 0) :: st) σ := (run_eq 88 65 _ _ σ).trans (if_pos h)
theorem e88_68 (ls st : List AV) (σ : St) (x : Nat) (h : fok σ x 0) : run 88 68 (ls) (vR x :: st) σ = run 88 71 (ls) (vI (gt σ x 1) :: st) σ := (run_eq 88 68 _ _ σ).trans (if_pos h)
theorem e88_71 (ls : List AV) (σ : St) (x : Int) : run 88 71 ls [vI x] σ = some (vI x, σ) := (run_eq 88 71 _ _ σ).trans rfl
theorem e88_72 (l st : List AV) (σ : St) (x : Nat) : run 88 72 (vR x :: l) (st) σ = run 88 73 (vR x :: l) (vR x :: st) σ := (run_eq 88 72 _ _ σ).trans rfl
theorem e88_73 (ls st : List AV) (σ : St) (x : Nat) (h : fok σ x 2) : run 88 73 (ls) (vR x :: st) σ = run 88 76 (ls) (vR (gr σ x 0) :: st) σ := (run_eq 88 73 _ _ σ).trans (if_pos h)
theorem e88_76 (ls st : List AV) (σ : St) (x : Nat) (h : fok σ x 0) : run 88 76 (ls) (vR x :: st) σ = run 88 79 (ls) (vI (gt σ x 3) :: st) σ := (run_eq 88 76 _ _ σ).trans (if_pos h)
theorem e88_79 (ls : List AV) (σ : St) (x : Int) : run 88 79 ls [vI x] σ = some (vI x, σ) := (run_eq 88 79 _ _ σ).trans rfl
theorem e88_80 (l st : List AV) (σ : St) (x : Nat) : run 88 80 (vR x :: l) (st) σ = run 88 81 (vR x :: l) (vR x :: st) σ := (run_eq 88 80 _ _ σ).trans rfl
theorem e88_81 (ls st : List AV) (σ : St) (x : Nat) (h : fok σ x 2) : run 88 81 (ls) (vR x :: st) σ = run 88 84 (ls) (vR (gr σ x 0) :: st) σ := (run_eq 88 81 _ _ σ).trans (if_pos h)
theorem e88_84 (ls st : List AV) (σ : St) (x : Nat) (h : fok σ x 0) : run 88 84 (ls) (vR x :: st) σ = run 88 87 (ls) (vI (gt σ x 4) :: st) σ := (run_eq 88 84 _ _ σ).trans (if_pos h)
theorem e88_87 (ls : List AV) (σ : St) (x : Int) : run 88 87 ls [vI x] σ = some (vI x, σ) := (run_eq 88 87 _ _ σ).trans rfl
theorem e88_88 (l st : List AV) (σ : St) (x : Nat) : run 88 88 (vR x :: l) (st) σ = run 88 89 (vR x :: l) (vR x :: st) σ := (run_eq 88 88 _ _ σ).trans rfl
theorem e88_89 (ls st : List AV) (σ : St) (x : Nat) (h : fok σ x 2) : run 88 89 (ls) (vR x :: st) σ = run 88 92 (ls) (vR (gr σ x 0) :: st) σ := (run_eq 88 89 _ _ σ).trans (if_pos h)
theorem e88_92 (ls st : List AV) (σ : St) (x0 : Nat) (h4 : st.length ≤ 4) (h : fok σ x0 0) : run 88 92 ls (vR x0 :: st) σ = bnd (run 56 0 [vR x0, vU, vU] [] σ) (fun r σ => run 88 95 ls (psh r st) σ) := (run_eq 88 92 _ _ σ).trans (if_pos ⟨rfl, by simp, by simpa using h4, rfl, h⟩)
theorem e88_95 (ls : List AV) (σ : St) (x : Int) : run 88 95 ls [vI x] σ = some (vI x, σ) := (run_eq 88 95 _ _ σ).trans rfl
theorem e88_96 (l st : List AV) (σ : St) (x : Nat) : run 88 96 (vR x :: l) (st) σ = run 88 97 (vR x :: l) (vR x :: st) σ := (run_eq 88 96 _ _ σ).trans rfl
theorem e88_97 (ls st : List AV) (σ : St) (x : Nat) (h : fok σ x 2) : run 88 97 (ls) (vR x :: st) σ = run 88 100 (ls) (vR (gr σ x 0) :: st) σ := (run_eq 88 97 _ _ σ).trans (if_pos h)
theorem e88_100 (ls st : List AV) (σ : St) (x : Nat) (h : fok σ x 0) : run 88 100 (ls) (vR x :: st) σ = run 88 103 (ls) (vI (gt σ x 5) :: st) σ := (run_eq 88 100 _ _ σ).trans (if_pos h)
theorem e88_103 (ls : List AV) (σ : St) (x : Int) : run 88 103 ls [vI x] σ = some (vI x, σ) := (run_eq 88 103 _ _ σ).trans rfl
theorem e88_104 (l st : List AV) (σ : St) (x : Nat) : run 88 104 (vR x :: l) (st) σ = run 88 105 (vR x :: l) (vR x :: st) σ := (run_eq 88 104 _ _ σ).trans rfl
theorem e88_105 (ls st : List AV) (σ : St) (x : Nat) (h : fok σ x 2) : run 88 105 (ls) (vR x :: st) σ = run 88 108 (ls) (vR (gr σ x 0) :: st) σ := (run_eq 88 105 _ _ σ).trans (if_pos h)
theorem e88_108 (ls st : List AV) (σ : St) (x0 : Nat) (h4 : st.length ≤ 4) (h : fok σ x0 0) : run 88 108 ls (vR x0 :: st) σ = bnd (run 85 0 [vR x0, vU, vU] [] σ) (fun r σ => run 88 111 ls (psh r st) σ) := (run_eq 88 108 _ _ σ).trans (if_pos ⟨rfl, by simp, by simpa using h4, rfl, h⟩)
theorem e88_111 (ls : List AV) (σ : St) (x : Int) : run 88 111 ls [vI x] σ = some (vI x, σ) := (run_eq 88 111 _ _ σ).trans rfl
theorem e88_112 (a0 : AV) (l st : List AV) (σ : St) (x : Int) : run 88 112 (a0 :: vI x :: l) (st) σ = run 88 113 (a0 :: vI x :: l) (vI x :: st) σ := (run_eq 88 112 _ _ σ).trans rfl
theorem e88_113 (ls st : List AV) (σ : St) : run 88 113 (ls) (st) σ = run 88 115 (ls) (vI 100 :: st) σ := (run_eq 88 113 _ _ σ).trans rfl
theorem e88_115 (ls st : List AV) (σ : St) (y x : Int) (h : ¬ y = 0) : run 88 115 (ls) (vI y :: vI x :: st) σ = run 88 116 (ls) (vI (wr (x.tdiv y)) :: st) σ := (run_eq 88 115 _ _ σ).trans (if_neg h)
theorem e88_116 (ls st : List AV) (σ : St) : run 88 116 (ls) (st) σ = run 88 117 (ls) (vI 1 :: st) σ := (run_eq 88 116 _ _ σ).trans rfl
theorem e88_117 (ls st : List AV) (σ : St) (y x : Int) : run 88 117 (ls) (vI y :: vI x :: st) σ = run 88 118 (ls) (vI (wr (x - y)) :: st) σ := (run_eq 88 117 _ _ σ).trans rfl
theorem e88_118 (a0 a1 : AV) (l st : List AV) (σ : St) (q : AV) (x : Int) : run 88 118 (a0 :: a1 :: q :: l) (vI x :: st) σ = run 88 119 (a0 :: a1 :: vI x :: l) (st) σ := (run_eq 88 118 _ _ σ).trans rfl
theorem e88_119 (a0 : AV) (l st : List AV) (σ : St) (x : Int) : run 88 119 (a0 :: vI x :: l) (st) σ = run 88 120 (a0 :: vI x :: l) (vI x :: st) σ := (run_eq 88 119 _ _ σ).trans rfl
theorem e88_120 (ls st : List AV) (σ : St) : run 88 120 (ls) (st) σ = run 88 122 (ls) (vI 100 :: st) σ := (run_eq 88 120 _ _ σ).trans rfl
theorem e88_122 (ls st : List AV) (σ : St) (y x : Int) (h : ¬ y = 0) : run 88 122 (ls) (vI y :: vI x :: st) σ = run 88 123 (ls) (vI (wr (x.tmod y)) :: st) σ := (run_eq 88 122 _ _ σ).trans (if_neg h)
theorem e88_123 (a0 a1 a2 : AV) (l st : List AV) (σ : St) (q : AV) (x : Int) : run 88 123 (a0 :: a1 :: a2 :: q :: l) (vI x :: st) σ = run 88 124 (a0 :: a1 :: a2 :: vI x :: l) (st) σ := (run_eq 88 123 _ _ σ).trans rfl
theorem e88_124 (a0 a1 : AV) (l st : List AV) (σ : St) (x : Int) : run 88 124 (a0 :: a1 :: vI x :: l) (st) σ = run 88 125 (a0 :: a1 :: vI x :: l) (vI x :: st) σ := (run_eq 88 124 _ _ σ).trans rfl
theorem e88_125 (ls st : List AV) (σ : St) : run 88 125 (ls) (st) σ = run 88 126 (ls) (vI 0 :: st) σ := (run_eq 88 125 _ _ σ).trans rfl
theorem e88_126 (ls st : List AV) (σ : St) : run 88 126 (ls) (st) σ = run 88 127 (ls) (vI 3 :: st) σ := (run_eq 88 126 _ _ σ).trans rfl
theorem e88_127 (ls st : List AV) (σ : St) (x0 : Int) (x1 : Int) (x2 : Int) (h4 : st.length ≤ 4) : run 88 127 ls (vI x2 :: vI x1 :: vI x0 :: st) σ = bnd (run 6 0 [vI x0, vI x1, vI x2] [] σ) (fun r σ => run 88 130 ls (psh r st) σ) := (run_eq 88 127 _ _ σ).trans (if_pos ⟨rfl, by simp, by simpa using h4⟩)
theorem e88_130 (ls st : List AV) (σ : St) (x : Int) : run 88 130 (ls) (vI x :: st) σ = if x = 0 then run 88 156 (ls) (st) σ else run 88 133 (ls) (st) σ := (run_eq 88 130 _ _ σ).trans rfl
theorem e88_133 (l st : List AV) (σ : St) (x : Nat) : run 88 133 (vR x :: l) (st) σ = run 88 134 (vR x :: l) (vR x :: st) σ := (run_eq 88 133 _ _ σ).trans rfl
theorem e88_134 (ls st : List AV) (σ : St) (x : Nat) (h : fok σ x 2) : run 88 134 (ls) (vR x :: st) σ = run 88 137 (ls) (vR (gr σ x 0) :: st) σ := (run_eq 88 134 _ _ σ).trans (if_pos h)
theorem e88_137 (a0 a1 a2 : AV) (l st : List AV) (σ : St) (x : Int) : run 88 137 (a0 :: a1 :: a2 :: vI x :: l) (st) σ = run 88 138 (a0 :: a1 :: a2 :: vI x :: l) (vI x :: st) σ := (run_eq 88 137 _ _ σ).trans rfl
theorem e88_138 (ls st : List AV) (σ : St) (x0 : Nat) (x1 : Int) (h4 : st.length ≤ 4) (h : fok σ x0 0) : run 88 138 ls (vI x1 :: vR x0 :: st) σ = bnd (run 8 0 [vR x0, vI x1] [] σ) (fun r σ => run 88 141 ls (psh r st) σ) := (run_eq 88 138 _ _ σ).trans (if_pos ⟨rfl, by simp, by simpa using h4, rfl, h⟩)
theorem e88_141 (ls st : List AV) (σ : St) (x : Int) : run 88 141 (ls) (vI x :: st) σ = if x = 0 then run 88 156 (ls) (st) σ else run 88 144 (ls) (st) σ := (run_eq 88 141 _ _ σ).trans rfl
theorem e88_144 (l st : List AV) (σ : St) (x : Nat) : run 88 144 (vR x :: l) (st) σ = run 88 145 (vR x :: l) (vR x :: st) σ := (run_eq 88 144 _ _ σ).trans rfl
theorem e88_145 (ls st : List AV) (σ : St) (x : Nat) (h : fok σ x 2) : run 88 145 (ls) (vR x :: st) σ = run 88 148 (ls) (vR (gr σ x 0) :: st) σ := (run_eq 88 145 _ _ σ).trans (if_pos h)
theorem e88_148 (a0 a1 : AV) (l st : List AV) (σ : St) (x : Int) : run 88 148 (a0 :: a1 :: vI x :: l) (st) σ = run 88 149 (a0 :: a1 :: vI x :: l) (vI x :: st) σ := (run_eq 88 148 _ _ σ).trans rfl
theorem e88_149 (a0 a1 a2 : AV) (l st : List AV) (σ : St) (x : Int) : run 88 149 (a0 :: a1 :: a2 :: vI x :: l) (st) σ = run 88 150 (a0 :: a1 :: a2 :: vI x :: l) (vI x :: st) σ := (run_eq 88 149 _ _ σ).trans rfl
theorem e88_150 (ls st : List AV) (σ : St) (x0 : Nat) (x1 : Int) (x2 : Int) (h4 : st.length ≤ 4) (h : fok σ x0 0) : run 88 150 ls (vI x2 :: vI x1 :: vR x0 :: st) σ = bnd (run 18 0 [vR x0, vI x1, vI x2] [] σ) (fun r σ => run 88 153 ls (psh r st) σ) := (run_eq 88 150 _ _ σ).trans (if_pos ⟨rfl, by simp, by simpa using h4, rfl, h⟩)
theorem e88_153 (ls st : List AV) (σ : St) : run 88 153 (ls) (st) σ = run 88 158 (ls) (st) σ := (run_eq 88 153 _ _ σ).trans rfl
theorem e88_156 (ls st : List AV) (σ : St) : run 88 156 (ls) (st) σ = run 88 158 (ls) (vI (-2) :: st) σ := (run_eq 88 156 _ _ σ).trans rfl
theorem e88_158 (ls : List AV) (σ : St) (x : Int) : run 88 158 ls [vI x] σ = some (vI x, σ) := (run_eq 88 158 _ _ σ).trans rfl
