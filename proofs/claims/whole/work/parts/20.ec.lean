/-! M_init -/
theorem e89_0 (l st : List AV) (σ : St) (x : Nat) : run 89 0 (vR x :: l) (st) σ = run 89 1 (vR x :: l) (vR x :: st) σ := (run_eq 89 0 _ _ σ).trans rfl
theorem e89_1 (ls st : List AV) (σ : St) (x : Nat) (h : 1 ≤ x) (h4 : st.length ≤ 4) : run 89 1 (ls) (vR x :: st) σ = run 89 4 (ls) (st) σ := (run_eq 89 1 _ _ σ).trans (if_pos ⟨h, h4⟩)
theorem e89_4 (l st : List AV) (σ : St) (x : Nat) : run 89 4 (vR x :: l) (st) σ = run 89 5 (vR x :: l) (vR x :: st) σ := (run_eq 89 4 _ _ σ).trans rfl
theorem e89_5 (ls st : List AV) (σ : St) : run 89 5 (ls) (st) σ = run 89 6 (ls) (vI 3 :: st) σ := (run_eq 89 5 _ _ σ).trans rfl
theorem e89_6 (ls st : List AV) (σ : St) (z : Int) (x : Nat) (h : fok σ x 3) : run 89 6 (ls) (vI z :: vR x :: st) σ = run 89 9 (ls) (st) (sr σ x (ru (gt σ x) 0 z)) := (run_eq 89 6 _ _ σ).trans (if_pos h)
theorem e89_9 (l st : List AV) (σ : St) (x : Nat) : run 89 9 (vR x :: l) (st) σ = run 89 10 (vR x :: l) (vR x :: st) σ := (run_eq 89 9 _ _ σ).trans rfl
theorem e89_10 (ls st : List AV) (σ : St) : run 89 10 (ls) (st) σ = run 89 11 (ls) (vI 4 :: st) σ := (run_eq 89 10 _ _ σ).trans rfl
theorem e89_11 (ls st : List AV) (σ : St) (z : Int) (x : Nat) (h : fok σ x 3) : run 89 11 (ls) (vI z :: vR x :: st) σ = run 89 14 (ls) (st) (sr σ x (ru (gt σ x) 1 z)) := (run_eq 89 11 _ _ σ).trans (if_pos h)
theorem e89_14 (l st : List AV) (σ : St) (x : Nat) : run 89 14 (vR x :: l) (st) σ = run 89 15 (vR x :: l) (vR x :: st) σ := (run_eq 89 14 _ _ σ).trans rfl
theorem e89_15 (ls st : List AV) (σ : St) : run 89 15 (ls) (st) σ = run 89 17 (ls) (vI 24 :: st) σ := (run_eq 89 15 _ _ σ).trans rfl
theorem e89_17 (ls st : List AV) (σ : St) (z : Int) (h : 0 ≤ z ∧ z ≤ 1000) : run 89 17 (ls) (vI z :: st) σ = run 89 19 (ls) (vR (nn σ + 1) :: st) (al σ 4 z.toNat) := (run_eq 89 17 _ _ σ).trans (if_pos h)
theorem e89_19 (ls st : List AV) (σ : St) (z x : Nat) (h : fok σ x 3) (h2 : 1 ≤ z) : run 89 19 (ls) (vR z :: vR x :: st) σ = run 89 22 (ls) (st) (rr σ x (ru (gr σ x) 2 z)) := (run_eq 89 19 _ _ σ).trans (if_pos ⟨h, h2⟩)
theorem e89_22 (l st : List AV) (σ : St) (x : Nat) : run 89 22 (vR x :: l) (st) σ = run 89 23 (vR x :: l) (vR x :: st) σ := (run_eq 89 22 _ _ σ).trans rfl
theorem e89_23 (ls st : List AV) (σ : St) : run 89 23 (ls) (st) σ = run 89 24 (ls) (vI 2 :: st) σ := (run_eq 89 23 _ _ σ).trans rfl
theorem e89_24 (ls st : List AV) (σ : St) (z : Int) (x : Nat) (h : fok σ x 3) : run 89 24 (ls) (vI z :: vR x :: st) σ = run 89 27 (ls) (st) (sr σ x (ru (gt σ x) 4 z)) := (run_eq 89 24 _ _ σ).trans (if_pos h)
theorem e89_27 (l st : List AV) (σ : St) (x : Nat) : run 89 27 (vR x :: l) (st) σ = run 89 28 (vR x :: l) (vR x :: st) σ := (run_eq 89 27 _ _ σ).trans rfl
theorem e89_28 (ls st : List AV) (σ : St) : run 89 28 (ls) (st) σ = run 89 29 (ls) (vI 1 :: st) σ := (run_eq 89 28 _ _ σ).trans rfl
theorem e89_29 (ls st : List AV) (σ : St) (z : Int) (x : Nat) (h : fok σ x 3) : run 89 29 (ls) (vI z :: vR x :: st) σ = run 89 32 (ls) (st) (sr σ x (ru (gt σ x) 5 z)) := (run_eq 89 29 _ _ σ).trans (if_pos h)
theorem e89_32 (l st : List AV) (σ : St) (x : Nat) : run 89 32 (vR x :: l) (st) σ = run 89 33 (vR x :: l) (vR x :: st) σ := (run_eq 89 32 _ _ σ).trans rfl
theorem e89_33 (ls st : List AV) (σ : St) : run 89 33 (ls) (st) σ = run 89 35 (ls) (vI 96 :: st) σ := (run_eq 89 33 _ _ σ).trans rfl
theorem e89_35 (ls st : List AV) (σ : St) (z : Int) (h : 0 ≤ z ∧ z ≤ 1000) : run 89 35 (ls) (vI z :: st) σ = run 89 37 (ls) (vR (nn σ + 1) :: st) (al σ 4 z.toNat) := (run_eq 89 35 _ _ σ).trans (if_pos h)
theorem e89_37 (ls st : List AV) (σ : St) (z x : Nat) (h : fok σ x 3) (h2 : 1 ≤ z) : run 89 37 (ls) (vR z :: vR x :: st) σ = run 89 40 (ls) (st) (rr σ x (ru (gr σ x) 6 z)) := (run_eq 89 37 _ _ σ).trans (if_pos ⟨h, h2⟩)
theorem e89_40 (l st : List AV) (σ : St) (x : Nat) : run 89 40 (vR x :: l) (st) σ = run 89 41 (vR x :: l) (vR x :: st) σ := (run_eq 89 40 _ _ σ).trans rfl
theorem e89_41 (ls st : List AV) (σ : St) : run 89 41 (ls) (st) σ = run 89 43 (ls) (vI 16 :: st) σ := (run_eq 89 41 _ _ σ).trans rfl
theorem e89_43 (ls st : List AV) (σ : St) (z : Int) (h : 0 ≤ z ∧ z ≤ 1000) : run 89 43 (ls) (vI z :: st) σ = run 89 45 (ls) (vR (nn σ + 1) :: st) (al σ 4 z.toNat) := (run_eq 89 43 _ _ σ).trans (if_pos h)
theorem e89_45 (ls st : List AV) (σ : St) (z x : Nat) (h : fok σ x 3) (h2 : 1 ≤ z) : run 89 45 (ls) (vR z :: vR x :: st) σ = run 89 48 (ls) (st) (rr σ x (ru (gr σ x) 8 z)) := (run_eq 89 45 _ _ σ).trans (if_pos ⟨h, h2⟩)
theorem e89_48 (l st : List AV) (σ : St) (x : Nat) : run 89 48 (vR x :: l) (st) σ = run 89 49 (vR x :: l) (vR x :: st) σ := (run_eq 89 48 _ _ σ).trans rfl
theorem e89_49 (ls st : List AV) (σ : St) : run 89 49 (ls) (st) σ = run 89 51 (ls) (vI 60 :: st) σ := (run_eq 89 49 _ _ σ).trans rfl
theorem e89_51 (ls st : List AV) (σ : St) (z : Int) (h : 0 ≤ z ∧ z ≤ 1000) : run 89 51 (ls) (vI z :: st) σ = run 89 53 (ls) (vR (nn σ + 1) :: st) (al σ 4 z.toNat) := (run_eq 89 51 _ _ σ).trans (if_pos h)
theorem e89_53 (ls st : List AV) (σ : St) (z x : Nat) (h : fok σ x 3) (h2 : 1 ≤ z) : run 89 53 (ls) (vR z :: vR x :: st) σ = run 89 56 (ls) (st) (rr σ x (ru (gr σ x) 10 z)) := (run_eq 89 53 _ _ σ).trans (if_pos ⟨h, h2⟩)
theorem e89_56 (l st : List AV) (σ : St) (x : Nat) : run 89 56 (vR x :: l) (st) σ = run 89 57 (vR x :: l) (vR x :: st) σ := (run_eq 89 56 _ _ σ).trans rfl
theorem e89_57 (ls st : List AV) (σ : St) : run 89 57 (ls) (st) σ = run 89 59 (ls) (vI 24 :: st) σ := (run_eq 89 57 _ _ σ).trans rfl
theorem e89_59 (ls st : List AV) (σ : St) (z : Int) (h : 0 ≤ z ∧ z ≤ 1000) : run 89 59 (ls) (vI z :: st) σ = run 89 61 (ls) (vR (nn σ + 1) :: st) (al σ 4 z.toNat) := (run_eq 89 59 _ _ σ).trans (if_pos h)
theorem e89_61 (ls st : List AV) (σ : St) (z x : Nat) (h : fok σ x 3) (h2 : 1 ≤ z) : run 89 61 (ls) (vR z :: vR x :: st) σ = run 89 64 (ls) (st) (rr σ x (ru (gr σ x) 11 z)) := (run_eq 89 61 _ _ σ).trans (if_pos ⟨h, h2⟩)
theorem e89_64 (l st : List AV) (σ : St) (x : Nat) : run 89 64 (vR x :: l) (st) σ = run 89 65 (vR x :: l) (vR x :: st) σ := (run_eq 89 64 _ _ σ).trans rfl
theorem e89_65 (ls st : List AV) (σ : St) : run 89 65 (ls) (st) σ = run 89 67 (ls) (vI 24 :: st) σ := (run_eq 89 65 _ _ σ).trans rfl
theorem e89_67 (ls st : List AV) (σ : St) (z : Int) (h : 0 ≤ z ∧ z ≤ 1000) : run 89 67 (ls) (vI z :: st) σ = run 89 69 (ls) (vR (nn σ + 1) :: st) (al σ 4 z.toNat) := (run_eq 89 67 _ _ σ).trans (if_pos h)
theorem e89_69 (ls st : List AV) (σ : St) (z x : Nat) (h : fok σ x 3) (h2 : 1 ≤ z) : run 89 69 (ls) (vR z :: vR x :: st) σ = run 89 72 (ls) (st) (rr σ x (ru (gr σ x) 12 z)) := (run_eq 89 69 _ _ σ).trans (if_pos ⟨h, h2⟩)
theorem e89_72 (l st : List AV) (σ : St) (x : Nat) : run 89 72 (vR x :: l) (st) σ = run 89 73 (vR x :: l) (vR x :: st) σ := (run_eq 89 72 _ _ σ).trans rfl
theorem e89_73 (ls st : List AV) (σ : St) : run 89 73 (ls) (st) σ = run 89 75 (ls) (vI 24 :: st) σ := (run_eq 89 73 _ _ σ).trans rfl
theorem e89_75 (ls st : List AV) (σ : St) (z : Int) (h : 0 ≤ z ∧ z ≤ 1000) : run 89 75 (ls) (vI z :: st) σ = run 89 77 (ls) (vR (nn σ + 1) :: st) (al σ 4 z.toNat) := (run_eq 89 75 _ _ σ).trans (if_pos h)
theorem e89_77 (ls st : List AV) (σ : St) (z x : Nat) (h : fok σ x 3) (h2 : 1 ≤ z) : run 89 77 (ls) (vR z :: vR x :: st) σ = run 89 80 (ls) (st) (rr σ x (ru (gr σ x) 17 z)) := (run_eq 89 77 _ _ σ).trans (if_pos ⟨h, h2⟩)
theorem e89_80 (l st : List AV) (σ : St) (x : Nat) : run 89 80 (vR x :: l) (st) σ = run 89 81 (vR x :: l) (vR x :: st) σ := (run_eq 89 80 _ _ σ).trans rfl
theorem e89_81 (ls st : List AV) (σ : St) : run 89 81 (ls) (st) σ = run 89 84 (ls) (vI 320 :: st) σ := (run_eq 89 81 _ _ σ).trans rfl
theorem e89_84 (ls st : List AV) (σ : St) (z : Int) (h : 0 ≤ z ∧ z ≤ 1000) : run 89 84 (ls) (vI z :: st) σ = run 89 86 (ls) (vR (nn σ + 1) :: st) (al σ 4 z.toNat) := (run_eq 89 84 _ _ σ).trans (if_pos h)
theorem e89_86 (ls st : List AV) (σ : St) (z x : Nat) (h : fok σ x 3) (h2 : 1 ≤ z) : run 89 86 (ls) (vR z :: vR x :: st) σ = run 89 89 (ls) (st) (rr σ x (ru (gr σ x) 18 z)) := (run_eq 89 86 _ _ σ).trans (if_pos ⟨h, h2⟩)
theorem e89_89 (l st : List AV) (σ : St) (x : Nat) : run 89 89 (vR x :: l) (st) σ = run 89 90 (vR x :: l) (vR x :: st) σ := (run_eq 89 89 _ _ σ).trans rfl
theorem e89_90 (ls st : List AV) (σ : St) : run 89 90 (ls) (st) σ = run 89 91 (ls) (vI 2 :: st) σ := (run_eq 89 90 _ _ σ).trans rfl
theorem e89_91 (ls st : List AV) (σ : St) (z : Int) (h : 0 ≤ z ∧ z ≤ 1000) : run 89 91 (ls) (vI z :: st) σ = run 89 93 (ls) (vR (nn σ + 1) :: st) (al σ 5 z.toNat) := (run_eq 89 91 _ _ σ).trans (if_pos h)
theorem e89_93 (ls st : List AV) (σ : St) (z x : Nat) (h : fok σ x 3) (h2 : 1 ≤ z) : run 89 93 (ls) (vR z :: vR x :: st) σ = run 89 96 (ls) (st) (rr σ x (ru (gr σ x) 19 z)) := (run_eq 89 93 _ _ σ).trans (if_pos ⟨h, h2⟩)
theorem e89_96 (l st : List AV) (σ : St) (x : Nat) : run 89 96 (vR x :: l) (st) σ = run 89 97 (vR x :: l) (vR x :: st) σ := (run_eq 89 96 _ _ σ).trans rfl
theorem e89_97 (ls st : List AV) (σ : St) (x0 : Nat) (h4 : st.length ≤ 4) (h : fok σ x0 3) : run 89 97 ls (vR x0 :: st) σ = bnd (run 90 0 [vR x0, vU] [] σ) (fun r σ => run 89 100 ls (psh r st) σ) := (run_eq 89 97 _ _ σ).trans (if_pos ⟨rfl, by simp, by simpa using h4, rfl, h⟩)
theorem e89_100 (ls : List AV) (σ : St) : run 89 100 ls [] σ = some (vU, σ) := (run_eq 89 100 _ _ σ).trans rfl
/-! M_clear -/
theorem e90_0 (l st : List AV) (σ : St) (x : Nat) : run 90 0 (vR x :: l) (st) σ = run 90 1 (vR x :: l) (vR x :: st) σ := (run_eq 90 0 _ _ σ).trans rfl
theorem e90_1 (ls st : List AV) (σ : St) : run 90 1 (ls) (st) σ = run 90 2 (ls) (vI 0 :: st) σ := (run_eq 90 1 _ _ σ).trans rfl
theorem e90_2 (ls st : List AV) (σ : St) (z : Int) (x : Nat) (h : fok σ x 3) : run 90 2 (ls) (vI z :: vR x :: st) σ = run 90 5 (ls) (st) (sr σ x (ru (gt σ x) 3 z)) := (run_eq 90 2 _ _ σ).trans (if_pos h)
theorem e90_5 (l st : List AV) (σ : St) (x : Nat) : run 90 5 (vR x :: l) (st) σ = run 90 6 (vR x :: l) (vR x :: st) σ := (run_eq 90 5 _ _ σ).trans rfl
theorem e90_6 (ls st : List AV) (σ : St) : run 90 6 (ls) (st) σ = run 90 7 (ls) (vI 2 :: st) σ := (run_eq 90 6 _ _ σ).trans rfl
theorem e90_7 (ls st : List AV) (σ : St) (z : Int) (x : Nat) (h : fok σ x 3) : run 90 7 (ls) (vI z :: vR x :: st) σ = run 90 10 (ls) (st) (sr σ x (ru (gt σ x) 4 z)) := (run_eq 90 7 _ _ σ).trans (if_pos h)
theorem e90_10 (l st : List AV) (σ : St) (x : Nat) : run 90 10 (vR x :: l) (st) σ = run 90 11 (vR x :: l) (vR x :: st) σ := (run_eq 90 10 _ _ σ).trans rfl
theorem e90_11 (ls st : List AV) (σ : St) : run 90 11 (ls) (st) σ = run 90 12 (ls) (vI 1 :: st) σ := (run_eq 90 11 _ _ σ).trans rfl
theorem e90_12 (ls st : List AV) (σ : St) (z : Int) (x : Nat) (h : fok σ x 3) : run 90 12 (ls) (vI z :: vR x :: st) σ = run 90 15 (ls) (st) (sr σ x (ru (gt σ x) 5 z)) := (run_eq 90 12 _ _ σ).trans (if_pos h)
theorem e90_15 (l st : List AV) (σ : St) (x : Nat) : run 90 15 (vR x :: l) (st) σ = run 90 16 (vR x :: l) (vR x :: st) σ := (run_eq 90 15 _ _ σ).trans rfl
theorem e90_16 (ls st : List AV) (σ : St) : run 90 16 (ls) (st) σ = run 90 17 (ls) (vI 0 :: st) σ := (run_eq 90 16 _ _ σ).trans rfl
theorem e90_17 (ls st : List AV) (σ : St) (z : Int) (x : Nat) (h : fok σ x 3) : run 90 17 (ls) (vI z :: vR x :: st) σ = run 90 20 (ls) (st) (sr σ x (ru (gt σ x) 7 z)) := (run_eq 90 17 _ _ σ).trans (if_pos h)
theorem e90_20 (ls st : List AV) (σ : St) : run 90 20 (ls) (st) σ = run 90 21 (ls) (vI 0 :: st) σ := (run_eq 90 20 _ _ σ).trans rfl
theorem e90_21 (a0 : AV) (l st : List AV) (σ : St) (q : AV) (x : Int) : run 90 21 (a0 :: q :: l) (vI x :: st) σ = run 90 22 (a0 :: vI x :: l) (st) σ := (run_eq 90 21 _ _ σ).trans rfl
theorem e90_22 (a0 : AV) (l st : List AV) (σ : St) (x : Int) : run 90 22 (a0 :: vI x :: l) (st) σ = run 90 23 (a0 :: vI x :: l) (vI x :: st) σ := (run_eq 90 22 _ _ σ).trans rfl
theorem e90_23 (ls st : List AV) (σ : St) : run 90 23 (ls) (st) σ = run 90 25 (ls) (vI 24 :: st) σ := (run_eq 90 23 _ _ σ).trans rfl
theorem e90_25 (ls st : List AV) (σ : St) (y x : Int) : run 90 25 (ls) (vI y :: vI x :: st) σ = if x < y then run 90 28 (ls) (st) σ else run 90 41 (ls) (st) σ := (run_eq 90 25 _ _ σ).trans rfl
theorem e90_28 (l st : List AV) (σ : St) (x : Nat) : run 90 28 (vR x :: l) (st) σ = run 90 29 (vR x :: l) (vR x :: st) σ := (run_eq 90 28 _ _ σ).trans rfl
theorem e90_29 (ls st : List AV) (σ : St) (x : Nat) (h : fok σ x 3) : run 90 29 (ls) (vR x :: st) σ = run 90 32 (ls) (vR (gr σ x 2) :: st) σ := (run_eq 90 29 _ _ σ).trans (if_pos h)
theorem e90_32 (a0 : AV) (l st : List AV) (σ : St) (x : Int) : run 90 32 (a0 :: vI x :: l) (st) σ = run 90 33 (a0 :: vI x :: l) (vI x :: st) σ := (run_eq 90 32 _ _ σ).trans rfl
theorem e90_33 (ls st : List AV) (σ : St) : run 90 33 (ls) (st) σ = run 90 34 (ls) (vI 0 :: st) σ := (run_eq 90 33 _ _ σ).trans rfl
theorem e90_34 (ls st : List AV) (σ : St) (z j : Int) (x : Nat) (h : aok σ x 4 j) : run 90 34 (ls) (vI z :: vI j :: vR x :: st) σ = run 90 35 (ls) (st) (sr σ x (ru (gt σ x) j.toNat z)) := (run_eq 90 34 _ _ σ).trans (if_pos h)
theorem e90_35 (a0 : AV) (l st : List AV) (σ : St) (x : Int) : run 90 35 (a0 :: vI x :: l) (st) σ = run 90 38 (a0 :: vI (wr (x + 1)) :: l) (st) σ := (run_eq 90 35 _ _ σ).trans rfl
theorem e90_38 (ls st : List AV) (σ : St) : run 90 38 (ls) (st) σ = run 90 22 (ls) (st) σ := (run_eq 90 38 _ _ σ).trans rfl
theorem e90_41 (ls st : List AV) (σ : St) : run 90 41 (ls) (st) σ = run 90 42 (ls) (vI 0 :: st) σ := (run_eq 90 41 _ _ σ).trans rfl
theorem e90_42 (a0 : AV) (l st : List AV) (σ : St) (q : AV) (x : Int) : run 90 42 (a0 :: q :: l) (vI x :: st) σ = run 90 43 (a0 :: vI x :: l) (st) σ := (run_eq 90 42 _ _ σ).trans rfl
theorem e90_43 (a0 : AV) (l st : List AV) (σ : St) (x : Int) : run 90 43 (a0 :: vI x :: l) (st) σ = run 90 44 (a0 :: vI x :: l) (vI x :: st) σ := (run_eq 90 43 _ _ σ).trans rfl
theorem e90_44 (ls st : List AV) (σ : St) : run 90 44 (ls) (st) σ = run 90 46 (ls) (vI 96 :: st) σ := (run_eq 90 44 _ _ σ).trans rfl
theorem e90_46 (ls st : List AV) (σ : St) (y x : Int) : run 90 46 (ls) (vI y :: vI x :: st) σ = if x < y then run 90 49 (ls) (st) σ else run 90 62 (ls) (st) σ := (run_eq 90 46 _ _ σ).trans rfl
theorem e90_49 (l st : List AV) (σ : St) (x : Nat) : run 90 49 (vR x :: l) (st) σ = run 90 50 (vR x :: l) (vR x :: st) σ := (run_eq 90 49 _ _ σ).trans rfl
theorem e90_50 (ls st : List AV) (σ : St) (x : Nat) (h : fok σ x 3) : run 90 50 (ls) (vR x :: st) σ = run 90 53 (ls) (vR (gr σ x 6) :: st) σ := (run_eq 90 50 _ _ σ).trans (if_pos h)
theorem e90_53 (a0 : AV) (l st : List AV) (σ : St) (x : Int) : run 90 53 (a0 :: vI x :: l) (st) σ = run 90 54 (a0 :: vI x :: l) (vI x :: st) σ := (run_eq 90 53 _ _ σ).trans rfl
theorem e90_54 (ls st : List AV) (σ : St) : run 90 54 (ls) (st) σ = run 90 55 (ls) (vI (-1) :: st) σ := (run_eq 90 54 _ _ σ).trans rfl
theorem e90_55 (ls st : List AV) (σ : St) (z j : Int) (x : Nat) (h : aok σ x 4 j) : run 90 55 (ls) (vI z :: vI j :: vR x :: st) σ = run 90 56 (ls) (st) (sr σ x (ru (gt σ x) j.toNat z)) := (run_eq 90 55 _ _ σ).trans (if_pos h)
theorem e90_56 (a0 : AV) (l st : List AV) (σ : St) (x : Int) : run 90 56 (a0 :: vI x :: l) (st) σ = run 90 59 (a0 :: vI (wr (x + 1)) :: l) (st) σ := (run_eq 90 56 _ _ σ).trans rfl
theorem e90_59 (ls st : List AV) (σ : St) : run 90 59 (ls) (st) σ = run 90 43 (ls) (st) σ := (run_eq 90 59 _ _ σ).trans rfl
theorem e90_62 (ls : List AV) (σ : St) : run 90 62 ls [] σ = some (vU, σ) := (run_eq 90 62 _ _ σ).trans rfl
/-! M_bank -/
theorem e91_0 (a0 : AV) (l st : List AV) (σ : St) (x : Int) : run 91 0 (a0 :: vI x :: l) (st) σ = run 91 1 (a0 :: vI x :: l) (vI x :: st) σ := (run_eq 91 0 _ _ σ).trans rfl
theorem e91_1 (ls st : List AV) (σ : St) : run 91 1 (ls) (st) σ = run 91 2 (ls) (vI 1 :: st) σ := (run_eq 91 1 _ _ σ).trans rfl
theorem e91_2 (ls st : List AV) (σ : St) : run 91 2 (ls) (st) σ = run 91 3 (ls) (vI 4 :: st) σ := (run_eq 91 2 _ _ σ).trans rfl
theorem e91_3 (ls st : List AV) (σ : St) (x0 : Int) (x1 : Int) (x2 : Int) (h4 : st.length ≤ 4) : run 91 3 ls (vI x2 :: vI x1 :: vI x0 :: st) σ = bnd (run 92 0 [vI x0, vI x1, vI x2] [] σ) (fun r σ => run 91 6 ls (psh r st) σ) := (run_eq 91 3 _ _ σ).trans (if_pos ⟨rfl, by simp, by simpa using h4⟩)
theorem e91_6 (ls st : List AV) (σ : St) (x : Int) : run 91 6 (ls) (vI x :: st) σ = if x = 0 then run 91 19 (ls) (st) σ else run 91 9 (ls) (st) σ := (run_eq 91 6 _ _ σ).trans rfl
theorem e91_9 (a0 a1 : AV) (l st : List AV) (σ : St) (x : Int) : run 91 9 (a0 :: a1 :: vI x :: l) (st) σ = run 91 10 (a0 :: a1 :: vI x :: l) (vI x :: st) σ := (run_eq 91 9 _ _ σ).trans rfl
theorem e91_10 (ls st : List AV) (σ : St) : run 91 10 (ls) (st) σ = run 91 11 (ls) (vI 1 :: st) σ := (run_eq 91 10 _ _ σ).trans rfl
theorem e91_11 (ls st : List AV) (σ : St) : run 91 11 (ls) (st) σ = run 91 13 (ls) (vI 6 :: st) σ := (run_eq 91 11 _ _ σ).trans rfl
theorem e91_13 (ls st : List AV) (σ : St) (x0 : Int) (x1 : Int) (x2 : Int) (h4 : st.length ≤ 4) : run 91 13 ls (vI x2 :: vI x1 :: vI x0 :: st) σ = bnd (run 92 0 [vI x0, vI x1, vI x2] [] σ) (fun r σ => run 91 16 ls (psh r st) σ) := (run_eq 91 13 _ _ σ).trans (if_pos ⟨rfl, by simp, by simpa using h4⟩)
theorem e91_16 (ls st : List AV) (σ : St) (x : Int) : run 91 16 (ls) (vI x :: st) σ = if x = 0 then run 91 19 (ls) (st) σ else run 91 22 (ls) (st) σ := (run_eq 91 16 _ _ σ).trans rfl
theorem e91_19 (ls st : List AV) (σ : St) : run 91 19 (ls) (st) σ = run 91 21 (ls) (vI (-2) :: st) σ := (run_eq 91 19 _ _ σ).trans rfl
theorem e91_21 (ls : List AV) (σ : St) (x : Int) : run 91 21 ls [vI x] σ = some (vI x, σ) := (run_eq 91 21 _ _ σ).trans rfl
theorem e91_22 (l st : List AV) (σ : St) (x : Nat) : run 91 22 (vR x :: l) (st) σ = run 91 23 (vR x :: l) (vR x :: st) σ := (run_eq 91 22 _ _ σ).trans rfl
theorem e91_23 (a0 : AV) (l st : List AV) (σ : St) (x : Int) : run 91 23 (a0 :: vI x :: l) (st) σ = run 91 24 (a0 :: vI x :: l) (vI x :: st) σ := (run_eq 91 23 _ _ σ).trans rfl
theorem e91_24 (ls st : List AV) (σ : St) (z : Int) (x : Nat) (h : fok σ x 3) : run 91 24 (ls) (vI z :: vR x :: st) σ = run 91 27 (ls) (st) (sr σ x (ru (gt σ x) 0 z)) := (run_eq 91 24 _ _ σ).trans (if_pos h)
theorem e91_27 (l st : List AV) (σ : St) (x : Nat) : run 91 27 (vR x :: l) (st) σ = run 91 28 (vR x :: l) (vR x :: st) σ := (run_eq 91 27 _ _ σ).trans rfl
theorem e91_28 (a0 a1 : AV) (l st : List AV) (σ : St) (x : Int) : run 91 28 (a0 :: a1 :: vI x :: l) (st) σ = run 91 29 (a0 :: a1 :: vI x :: l) (vI x :: st) σ := (run_eq 91 28 _ _ σ).trans rfl
theorem e91_29 (ls st : List AV) (σ : St) (z : Int) (x : Nat) (h : fok σ x 3) : run 91 29 (ls) (vI z :: vR x :: st) σ = run 91 32 (ls) (st) (sr σ x (ru (gt σ x) 1 z)) := (run_eq 91 29 _ _ σ).trans (if_pos h)
theorem e91_32 (l st : List AV) (σ : St) (x : Nat) : run 91 32 (vR x :: l) (st) σ = run 91 33 (vR x :: l) (vR x :: st) σ := (run_eq 91 32 _ _ σ).trans rfl
theorem e91_33 (ls st : List AV) (σ : St) (x0 : Nat) (h4 : st.length ≤ 4) (h : fok σ x0 3) : run 91 33 ls (vR x0 :: st) σ = bnd (run 90 0 [vR x0, vU] [] σ) (fun r σ => run 91 36 ls (psh r st) σ) := (run_eq 91 33 _ _ σ).trans (if_pos ⟨rfl, by simp, by simpa using h4, rfl, h⟩)
theorem e91_36 (a0 : AV) (l st : List AV) (σ : St) (x : Int) : run 91 36 (a0 :: vI x :: l) (st) σ = run 91 37 (a0 :: vI x :: l) (vI x :: st) σ := (run_eq 91 36 _ _ σ).trans rfl
theorem e91_37 (a0 a1 : AV) (l st : List AV) (σ : St) (x : Int) : run 91 37 (a0 :: a1 :: vI x :: l) (st) σ = run 91 38 (a0 :: a1 :: vI x :: l) (vI x :: st) σ := (run_eq 91 37 _ _ σ).trans rfl
theorem e91_38 (ls st : List AV) (σ : St) (y x : Int) : run 91 38 (ls) (vI y :: vI x :: st) σ = run 91 39 (ls) (vI (wr (x * y)) :: st) σ := (run_eq 91 38 _ _ σ).trans rfl
theorem e91_39 (ls : List AV) (σ : St) (x : Int) : run 91 39 ls [vI x] σ = some (vI x, σ) := (run_eq 91 39 _ _ σ).trans rfl
/-! M_in -/
theorem e92_0 (l st : List AV) (σ : St) (x : Int) : run 92 0 (vI x :: l) (st) σ = run 92 1 (vI x :: l) (vI x :: st) σ := (run_eq 92 0 _ _ σ).trans rfl
theorem e92_1 (a0 : AV) (l st : List AV) (σ : St) (x : Int) : run 92 1 (a0 :: vI x :: l) (st) σ = run 92 2 (a0 :: vI x :: l) (vI x :: st) σ := (run_eq 92 1 _ _ σ).trans rfl
theorem e92_2 (ls st : List AV) (σ : St) (y x : Int) : run 92 2 (ls) (vI y :: vI x :: st) σ = if x < y then run 92 14 (ls) (st) σ else run 92 5 (ls) (st) σ := (run_eq 92 2 _ _ σ).trans rfl
theorem e92_5 (l st : List AV) (σ : St) (x : Int) : run 92 5 (vI x :: l) (st) σ = run 92 6 (vI x :: l) (vI x :: st) σ := (run_eq 92 5 _ _ σ).trans rfl
theorem e92_6 (a0 a1 : AV) (l st : List AV) (σ : St) (x : Int) : run 92 6 (a0 :: a1 :: vI x :: l) (st) σ = run 92 7 (a0 :: a1 :: vI x :: l) (vI x :: st) σ := (run_eq 92 6 _ _ σ).trans rfl
theorem e92_7 (ls st : List AV) (σ : St) (y x : Int) : run 92 7 (ls) (vI y :: vI x :: st) σ = if y < x then run 92 14 (ls) (st) σ else run 92 10 (ls) (st) σ := (run_eq 92 7 _ _ σ).trans rfl
theorem e92_10 (ls st : List AV) (σ : St) : run 92 10 (ls) (st) σ = run 92 11 (ls) (vI 1 :: st) σ := (run_eq 92 10 _ _ σ).trans rfl
theorem e92_11 (ls st : List AV) (σ : St) : run 92 11 (ls) (st) σ = run 92 15 (ls) (st) σ := (run_eq 92 11 _ _ σ).trans rfl
theorem e92_14 (ls st : List AV) (σ : St) : run 92 14 (ls) (st) σ = run 92 15 (ls) (vI 0 :: st) σ := (run_eq 92 14 _ _ σ).trans rfl
theorem e92_15 (ls : List AV) (σ : St) (x : Int) (h : x = 0 ∨ x = 1) : run 92 15 ls [vI x] σ = some (vI x, σ) := (run_eq 92 15 _ _ σ).trans (if_pos h)
/-! M_cell -/
theorem e93_0 (l st : List AV) (σ : St) (x : Nat) : run 93 0 (vR x :: l) (st) σ = run 93 1 (vR x :: l) (vR x :: st) σ := (run_eq 93 0 _ _ σ).trans rfl
theorem e93_1 (a0 : AV) (l st : List AV) (σ : St) (x : Int) : run 93 1 (a0 :: vI x :: l) (st) σ = run 93 2 (a0 :: vI x :: l) (vI x :: st) σ := (run_eq 93 1 _ _ σ).trans rfl
theorem e93_2 (ls st : List AV) (σ : St) (x0 : Nat) (x1 : Int) (h4 : st.length ≤ 4) (h : fok σ x0 3) : run 93 2 ls (vI x1 :: vR x0 :: st) σ = bnd (run 94 0 [vR x0, vI x1] [] σ) (fun r σ => run 93 5 ls (psh r st) σ) := (run_eq 93 2 _ _ σ).trans (if_pos ⟨rfl, by simp, by simpa using h4, rfl, h⟩)
theorem e93_5 (ls st : List AV) (σ : St) (x : Int) : run 93 5 (ls) (vI x :: st) σ = if x = 0 then run 93 8 (ls) (st) σ else run 93 10 (ls) (st) σ := (run_eq 93 5 _ _ σ).trans rfl
theorem e93_8 (ls st : List AV) (σ : St) : run 93 8 (ls) (st) σ = run 93 9 (ls) (vI (-1) :: st) σ := (run_eq 93 8 _ _ σ).trans rfl
theorem e93_9 (ls : List AV) (σ : St) (x : Int) : run 93 9 ls [vI x] σ = some (vI x, σ) := (run_eq 93 9 _ _ σ).trans rfl
theorem e93_10 (a0 a1 : AV) (l st : List AV) (σ : St) (x : Int) : run 93 10 (a0 :: a1 :: vI x :: l) (st) σ = run 93 11 (a0 :: a1 :: vI x :: l) (vI x :: st) σ := (run_eq 93 10 _ _ σ).trans rfl
theorem e93_11 (ls st : List AV) (σ : St) : run 93 11 (ls) (st) σ = run 93 12 (ls) (vI 0 :: st) σ := (run_eq 93 11 _ _ σ).trans rfl
theorem e93_12 (ls st : List AV) (σ : St) : run 93 12 (ls) (st) σ = run 93 13 (ls) (vI 1 :: st) σ := (run_eq 93 12 _ _ σ).trans rfl
theorem e93_13 (ls st : List AV) (σ : St) (x0 : Int) (x1 : Int) (x2 : Int) (h4 : st.length ≤ 4) : run 93 13 ls (vI x2 :: vI x1 :: vI x0 :: st) σ = bnd (run 92 0 [vI x0, vI x1, vI x2] [] σ) (fun r σ => run 93 16 ls (psh r st) σ) := (run_eq 93 13 _ _ σ).trans (if_pos ⟨rfl, by simp, by simpa using h4⟩)
theorem e93_16 (ls st : List AV) (σ : St) (x : Int) : run 93 16 (ls) (vI x :: st) σ = if x = 0 then run 93 37 (ls) (st) σ else run 93 19 (ls) (st) σ := (run_eq 93 16 _ _ σ).trans rfl
theorem e93_19 (a0 a1 a2 : AV) (l st : List AV) (σ : St) (x : Int) : run 93 19 (a0 :: a1 :: a2 :: vI x :: l) (st) σ = run 93 20 (a0 :: a1 :: a2 :: vI x :: l) (vI x :: st) σ := (run_eq 93 19 _ _ σ).trans rfl
theorem e93_20 (ls st : List AV) (σ : St) : run 93 20 (ls) (st) σ = run 93 21 (ls) (vI 0 :: st) σ := (run_eq 93 20 _ _ σ).trans rfl
theorem e93_21 (a0 a1 : AV) (l st : List AV) (σ : St) (x : Int) : run 93 21 (a0 :: a1 :: vI x :: l) (st) σ = run 93 22 (a0 :: a1 :: vI x :: l) (vI x :: st) σ := (run_eq 93 21 _ _ σ).trans rfl
theorem e93_22 (ls st : List AV) (σ : St) (x : Int) : run 93 22 (ls) (vI x :: st) σ = if x = 0 then run 93 25 (ls) (st) σ else run 93 30 (ls) (st) σ := (run_eq 93 22 _ _ σ).trans rfl
theorem e93_25 (ls st : List AV) (σ : St) : run 93 25 (ls) (st) σ = run 93 27 (ls) (vI 9 :: st) σ := (run_eq 93 25 _ _ σ).trans rfl
theorem e93_27 (ls st : List AV) (σ : St) : run 93 27 (ls) (st) σ = run 93 31 (ls) (st) σ := (run_eq 93 27 _ _ σ).trans rfl
theorem e93_30 (ls st : List AV) (σ : St) : run 93 30 (ls) (st) σ = run 93 31 (ls) (vI 1 :: st) σ := (run_eq 93 30 _ _ σ).trans rfl
theorem e93_31 (ls st : List AV) (σ : St) (x0 : Int) (x1 : Int) (x2 : Int) (h4 : st.length ≤ 4) : run 93 31 ls (vI x2 :: vI x1 :: vI x0 :: st) σ = bnd (run 92 0 [vI x0, vI x1, vI x2] [] σ) (fun r σ => run 93 34 ls (psh r st) σ) := (run_eq 93 31 _ _ σ).trans (if_pos ⟨rfl, by simp, by simpa using h4⟩)
theorem e93_34 (ls st : List AV) (σ : St) (x : Int) : run 93 34 (ls) (vI x :: st) σ = if x = 0 then run 93 37 (ls) (st) σ else run 93 40 (ls) (st) σ := (run_eq 93 34 _ _ σ).trans rfl
theorem e93_37 (ls st : List AV) (σ : St) : run 93 37 (ls) (st) σ = run 93 39 (ls) (vI (-2) :: st) σ := (run_eq 93 37 _ _ σ).trans rfl
theorem e93_39 (ls : List AV) (σ : St) (x : Int) : run 93 39 ls [vI x] σ = some (vI x, σ) := (run_eq 93 39 _ _ σ).trans rfl
theorem e93_40 (a0 a1 : AV) (l st : List AV) (σ : St) (x : Int) : run 93 40 (a0 :: a1 :: vI x :: l) (st) σ = run 93 41 (a0 :: a1 :: vI x :: l) (vI x :: st) σ := (run_eq 93 40 _ _ σ).trans rfl
theorem e93_41 (ls st : List AV) (σ : St) (x : Int) : run 93 41 (ls) (vI x :: st) σ = if x = 0 then run 93 44 (ls) (st) σ else run 93 53 (ls) (st) σ := (run_eq 93 41 _ _ σ).trans rfl
theorem e93_44 (l st : List AV) (σ : St) (x : Nat) : run 93 44 (vR x :: l) (st) σ = run 93 45 (vR x :: l) (vR x :: st) σ := (run_eq 93 44 _ _ σ).trans rfl
theorem e93_45 (ls st : List AV) (σ : St) (x : Nat) (h : fok σ x 3) : run 93 45 (ls) (vR x :: st) σ = run 93 48 (ls) (vR (gr σ x 2) :: st) σ := (run_eq 93 45 _ _ σ).trans (if_pos h)
theorem e93_48 (a0 : AV) (l st : List AV) (σ : St) (x : Int) : run 93 48 (a0 :: vI x :: l) (st) σ = run 93 49 (a0 :: vI x :: l) (vI x :: st) σ := (run_eq 93 48 _ _ σ).trans rfl
theorem e93_49 (ls st : List AV) (σ : St) (j : Int) (x : Nat) (h : aok σ x 4 j) : run 93 49 (ls) (vI j :: vR x :: st) σ = run 93 50 (ls) (vI (gt σ x j.toNat) :: st) σ := (run_eq 93 49 _ _ σ).trans (if_pos h)
theorem e93_50 (ls st : List AV) (σ : St) : run 93 50 (ls) (st) σ = run 93 61 (ls) (st) σ := (run_eq 93 50 _ _ σ).trans rfl
theorem e93_53 (l st : List AV) (σ : St) (x : Nat) : run 93 53 (vR x :: l) (st) σ = run 93 54 (vR x :: l) (vR x :: st) σ := (run_eq 93 53 _ _ σ).trans rfl
theorem e93_54 (ls st : List AV) (σ : St) (x : Nat) (h : fok σ x 3) : run 93 54 (ls) (vR x :: st) σ = run 93 57 (ls) (vI (gt σ x 3) :: st) σ := (run_eq 93 54 _ _ σ).trans (if_pos h)
theorem e93_57 (a0 : AV) (l st : List AV) (σ : St) (x : Int) : run 93 57 (a0 :: vI x :: l) (st) σ = run 93 58 (a0 :: vI x :: l) (vI x :: st) σ := (run_eq 93 57 _ _ σ).trans rfl
theorem e93_58 (ls st : List AV) (σ : St) (y x : Int) : run 93 58 (ls) (vI y :: vI x :: st) σ = run 93 59 (ls) (vI (bShr x y) :: st) σ := (run_eq 93 58 _ _ σ).trans rfl
theorem e93_59 (ls st : List AV) (σ : St) : run 93 59 (ls) (st) σ = run 93 60 (ls) (vI 1 :: st) σ := (run_eq 93 59 _ _ σ).trans rfl
theorem e93_60 (ls st : List AV) (σ : St) (y x : Int) : run 93 60 (ls) (vI y :: vI x :: st) σ = run 93 61 (ls) (vI (bAnd x y) :: st) σ := (run_eq 93 60 _ _ σ).trans rfl
theorem e93_61 (a0 a1 a2 a3 : AV) (l st : List AV) (σ : St) (q : AV) (x : Int) : run 93 61 (a0 :: a1 :: a2 :: a3 :: q :: l) (vI x :: st) σ = run 93 63 (a0 :: a1 :: a2 :: a3 :: vI x :: l) (st) σ := (run_eq 93 61 _ _ σ).trans rfl
theorem e93_63 (a0 a1 : AV) (l st : List AV) (σ : St) (x : Int) : run 93 63 (a0 :: a1 :: vI x :: l) (st) σ = run 93 64 (a0 :: a1 :: vI x :: l) (vI x :: st) σ := (run_eq 93 63 _ _ σ).trans rfl
theorem e93_64 (ls st : List AV) (σ : St) (x : Int) : run 93 64 (ls) (vI x :: st) σ = if x = 0 then run 93 67 (ls) (st) σ else run 93 77 (ls) (st) σ := (run_eq 93 64 _ _ σ).trans rfl
theorem e93_67 (l st : List AV) (σ : St) (x : Nat) : run 93 67 (vR x :: l) (st) σ = run 93 68 (vR x :: l) (vR x :: st) σ := (run_eq 93 67 _ _ σ).trans rfl
theorem e93_68 (ls st : List AV) (σ : St) (x : Nat) (h : fok σ x 3) : run 93 68 (ls) (vR x :: st) σ = run 93 71 (ls) (vR (gr σ x 2) :: st) σ := (run_eq 93 68 _ _ σ).trans (if_pos h)
theorem e93_71 (a0 : AV) (l st : List AV) (σ : St) (x : Int) : run 93 71 (a0 :: vI x :: l) (st) σ = run 93 72 (a0 :: vI x :: l) (vI x :: st) σ := (run_eq 93 71 _ _ σ).trans rfl
theorem e93_72 (a0 a1 a2 : AV) (l st : List AV) (σ : St) (x : Int) : run 93 72 (a0 :: a1 :: a2 :: vI x :: l) (st) σ = run 93 73 (a0 :: a1 :: a2 :: vI x :: l) (vI x :: st) σ := (run_eq 93 72 _ _ σ).trans rfl
theorem e93_73 (ls st : List AV) (σ : St) (z j : Int) (x : Nat) (h : aok σ x 4 j) : run 93 73 (ls) (vI z :: vI j :: vR x :: st) σ = run 93 74 (ls) (st) (sr σ x (ru (gt σ x) j.toNat z)) := (run_eq 93 73 _ _ σ).trans (if_pos h)
theorem e93_74 (ls st : List AV) (σ : St) : run 93 74 (ls) (st) σ = run 93 107 (ls) (st) σ := (run_eq 93 74 _ _ σ).trans rfl
theorem e93_77 (l st : List AV) (σ : St) (x : Nat) : run 93 77 (vR x :: l) (st) σ = run 93 78 (vR x :: l) (vR x :: st) σ := (run_eq 93 77 _ _ σ).trans rfl
theorem e93_78 (a0 a1 a2 : AV) (l st : List AV) (σ : St) (x : Int) : run 93 78 (a0 :: a1 :: a2 :: vI x :: l) (st) σ = run 93 79 (a0 :: a1 :: a2 :: vI x :: l) (vI x :: st) σ := (run_eq 93 78 _ _ σ).trans rfl
theorem e93_79 (ls st : List AV) (σ : St) : run 93 79 (ls) (st) σ = run 93 80 (ls) (vI 1 :: st) σ := (run_eq 93 79 _ _ σ).trans rfl
theorem e93_80 (ls st : List AV) (σ : St) (y x : Int) : run 93 80 (ls) (vI y :: vI x :: st) σ = if x = y then run 93 83 (ls) (st) σ else run 93 94 (ls) (st) σ := (run_eq 93 80 _ _ σ).trans rfl
theorem e93_83 (l st : List AV) (σ : St) (x : Nat) : run 93 83 (vR x :: l) (st) σ = run 93 84 (vR x :: l) (vR x :: st) σ := (run_eq 93 83 _ _ σ).trans rfl
theorem e93_84 (ls st : List AV) (σ : St) (x : Nat) (h : fok σ x 3) : run 93 84 (ls) (vR x :: st) σ = run 93 87 (ls) (vI (gt σ x 3) :: st) σ := (run_eq 93 84 _ _ σ).trans (if_pos h)
theorem e93_87 (ls st : List AV) (σ : St) : run 93 87 (ls) (st) σ = run 93 88 (ls) (vI 1 :: st) σ := (run_eq 93 87 _ _ σ).trans rfl
theorem e93_88 (a0 : AV) (l st : List AV) (σ : St) (x : Int) : run 93 88 (a0 :: vI x :: l) (st) σ = run 93 89 (a0 :: vI x :: l) (vI x :: st) σ := (run_eq 93 88 _ _ σ).trans rfl
theorem e93_89 (ls st : List AV) (σ : St) (y x : Int) : run 93 89 (ls) (vI y :: vI x :: st) σ = run 93 90 (ls) (vI (bShl x y) :: st) σ := (run_eq 93 89 _ _ σ).trans rfl
theorem e93_90 (ls st : List AV) (σ : St) (y x : Int) : run 93 90 (ls) (vI y :: vI x :: st) σ = run 93 91 (ls) (vI (bOr x y) :: st) σ := (run_eq 93 90 _ _ σ).trans rfl
theorem e93_91 (ls st : List AV) (σ : St) : run 93 91 (ls) (st) σ = run 93 104 (ls) (st) σ := (run_eq 93 91 _ _ σ).trans rfl
theorem e93_94 (l st : List AV) (σ : St) (x : Nat) : run 93 94 (vR x :: l) (st) σ = run 93 95 (vR x :: l) (vR x :: st) σ := (run_eq 93 94 _ _ σ).trans rfl
theorem e93_95 (ls st : List AV) (σ : St) (x : Nat) (h : fok σ x 3) : run 93 95 (ls) (vR x :: st) σ = run 93 98 (ls) (vI (gt σ x 3) :: st) σ := (run_eq 93 95 _ _ σ).trans (if_pos h)
theorem e93_98 (ls st : List AV) (σ : St) : run 93 98 (ls) (st) σ = run 93 99 (ls) (vI 1 :: st) σ := (run_eq 93 98 _ _ σ).trans rfl
theorem e93_99 (a0 : AV) (l st : List AV) (σ : St) (x : Int) : run 93 99 (a0 :: vI x :: l) (st) σ = run 93 100 (a0 :: vI x :: l) (vI x :: st) σ := (run_eq 93 99 _ _ σ).trans rfl
theorem e93_100 (ls st : List AV) (σ : St) (y x : Int) : run 93 100 (ls) (vI y :: vI x :: st) σ = run 93 101 (ls) (vI (bShl x y) :: st) σ := (run_eq 93 100 _ _ σ).trans rfl
theorem e93_101 (ls st : List AV) (σ : St) : run 93 101 (ls) (st) σ = run 93 102 (ls) (vI (-1) :: st) σ := (run_eq 93 101 _ _ σ).trans rfl
theorem e93_102 (ls st : List AV) (σ : St) (y x : Int) : run 93 102 (ls) (vI y :: vI x :: st) σ = run 93 103 (ls) (vI (bXor x y) :: st) σ := (run_eq 93 102 _ _ σ).trans rfl
theorem e93_103 (ls st : List AV) (σ : St) (y x : Int) : run 93 103 (ls) (vI y :: vI x :: st) σ = run 93 104 (ls) (vI (bAnd x y) :: st) σ := (run_eq 93 103 _ _ σ).trans rfl
theorem e93_104 (ls st : List AV) (σ : St) (z : Int) (x : Nat) (h : fok σ x 3) : run 93 104 (ls) (vI z :: vR x :: st) σ = run 93 107 (ls) (st) (sr σ x (ru (gt σ x) 3 z)) := (run_eq 93 104 _ _ σ).trans (if_pos h)
theorem e93_107 (a0 a1 a2 a3 : AV) (l st : List AV) (σ : St) (x : Int) : run 93 107 (a0 :: a1 :: a2 :: a3 :: vI x :: l) (st) σ = run 93 109 (a0 :: a1 :: a2 :: a3 :: vI x :: l) (vI x :: st) σ := (run_eq 93 107 _ _ σ).trans rfl
theorem e93_109 (ls : List AV) (σ : St) (x : Int) : run 93 109 ls [vI x] σ = some (vI x, σ) := (run_eq 93 109 _ _ σ).trans rfl
/-! M_isCell -/
theorem e94_0 (a0 : AV) (l st : List AV) (σ : St) (x : Int) : run 94 0 (a0 :: vI x :: l) (st) σ = run 94 1 (a0 :: vI x :: l) (vI x :: st) σ := (run_eq 94 0 _ _ σ).trans rfl
theorem e94_1 (ls st : List AV) (σ : St) : run 94 1 (ls) (st) σ = run 94 2 (ls) (vI 0 :: st) σ := (run_eq 94 1 _ _ σ).trans rfl
theorem e94_2 (l st : List AV) (σ : St) (x : Nat) : run 94 2 (vR x :: l) (st) σ = run 94 3 (vR x :: l) (vR x :: st) σ := (run_eq 94 2 _ _ σ).trans rfl
theorem e94_3 (ls st : List AV) (σ : St) (x0 : Nat) (h4 : st.length ≤ 4) (h : fok σ x0 3) : run 94 3 ls (vR x0 :: st) σ = bnd (run 95 0 [vR x0] [] σ) (fun r σ => run 94 6 ls (psh r st) σ) := (run_eq 94 3 _ _ σ).trans (if_pos ⟨rfl, by simp, by simpa using h4, rfl, h⟩)
theorem e94_6 (ls st : List AV) (σ : St) : run 94 6 (ls) (st) σ = run 94 7 (ls) (vI 1 :: st) σ := (run_eq 94 6 _ _ σ).trans rfl
theorem e94_7 (ls st : List AV) (σ : St) (y x : Int) : run 94 7 (ls) (vI y :: vI x :: st) σ = run 94 8 (ls) (vI (wr (x - y)) :: st) σ := (run_eq 94 7 _ _ σ).trans rfl
theorem e94_8 (ls st : List AV) (σ : St) (x0 : Int) (x1 : Int) (x2 : Int) (h4 : st.length ≤ 4) : run 94 8 ls (vI x2 :: vI x1 :: vI x0 :: st) σ = bnd (run 92 0 [vI x0, vI x1, vI x2] [] σ) (fun r σ => run 94 11 ls (psh r st) σ) := (run_eq 94 8 _ _ σ).trans (if_pos ⟨rfl, by simp, by simpa using h4⟩)
theorem e94_11 (ls : List AV) (σ : St) (x : Int) (h : x = 0 ∨ x = 1) : run 94 11 ls [vI x] σ = some (vI x, σ) := (run_eq 94 11 _ _ σ).trans (if_pos h)
/-! M_cells -/
theorem e95_0 (l st : List AV) (σ : St) (x : Nat) : run 95 0 (vR x :: l) (st) σ = run 95 1 (vR x :: l) (vR x :: st) σ := (run_eq 95 0 _ _ σ).trans rfl
theorem e95_1 (ls st : List AV) (σ : St) (x : Nat) (h : fok σ x 3) : run 95 1 (ls) (vR x :: st) σ = run 95 4 (ls) (vI (gt σ x 0) :: st) σ := (run_eq 95 1 _ _ σ).trans (if_pos h)
theorem e95_4 (l st : List AV) (σ : St) (x : Nat) : run 95 4 (vR x :: l) (st) σ = run 95 5 (vR x :: l) (vR x :: st) σ := (run_eq 95 4 _ _ σ).trans rfl
theorem e95_5 (ls st : List AV) (σ : St) (x : Nat) (h : fok σ x 3) : run 95 5 (ls) (vR x :: st) σ = run 95 8 (ls) (vI (gt σ x 1) :: st) σ := (run_eq 95 5 _ _ σ).trans (if_pos h)
theorem e95_8 (ls st : List AV) (σ : St) (y x : Int) : run 95 8 (ls) (vI y :: vI x :: st) σ = run 95 9 (ls) (vI (wr (x * y)) :: st) σ := (run_eq 95 8 _ _ σ).trans rfl
theorem e95_9 (ls : List AV) (σ : St) (x : Int) : run 95 9 ls [vI x] σ = some (vI x, σ) := (run_eq 95 9 _ _ σ).trans rfl
/-! M_set -/
theorem e96_0 (a0 : AV) (l st : List AV) (σ : St) (x : Int) : run 96 0 (a0 :: vI x :: l) (st) σ = run 96 1 (a0 :: vI x :: l) (vI x :: st) σ := (run_eq 96 0 _ _ σ).trans rfl
theorem e96_1 (ls st : List AV) (σ : St) (x : Int) : run 96 1 (ls) (vI x :: st) σ = if x = 0 then run 96 4 (ls) (st) σ else run 96 13 (ls) (st) σ := (run_eq 96 1 _ _ σ).trans rfl
theorem e96_4 (a0 a1 : AV) (l st : List AV) (σ : St) (x : Int) : run 96 4 (a0 :: a1 :: vI x :: l) (st) σ = run 96 5 (a0 :: a1 :: vI x :: l) (vI x :: st) σ := (run_eq 96 4 _ _ σ).trans rfl
theorem e96_5 (ls st : List AV) (σ : St) : run 96 5 (ls) (st) σ = run 96 6 (ls) (vI 1 :: st) σ := (run_eq 96 5 _ _ σ).trans rfl
theorem e96_6 (ls st : List AV) (σ : St) : run 96 6 (ls) (st) σ = run 96 7 (ls) (vI 5 :: st) σ := (run_eq 96 6 _ _ σ).trans rfl
theorem e96_7 (ls st : List AV) (σ : St) (x0 : Int) (x1 : Int) (x2 : Int) (h4 : st.length ≤ 4) : run 96 7 ls (vI x2 :: vI x1 :: vI x0 :: st) σ = bnd (run 92 0 [vI x0, vI x1, vI x2] [] σ) (fun r σ => run 96 10 ls (psh r st) σ) := (run_eq 96 7 _ _ σ).trans (if_pos ⟨rfl, by simp, by simpa using h4⟩)
theorem e96_10 (ls st : List AV) (σ : St) : run 96 10 (ls) (st) σ = run 96 32 (ls) (st) σ := (run_eq 96 10 _ _ σ).trans rfl
theorem e96_13 (a0 : AV) (l st : List AV) (σ : St) (x : Int) : run 96 13 (a0 :: vI x :: l) (st) σ = run 96 14 (a0 :: vI x :: l) (vI x :: st) σ := (run_eq 96 13 _ _ σ).trans rfl
theorem e96_14 (ls st : List AV) (σ : St) : run 96 14 (ls) (st) σ = run 96 15 (ls) (vI 1 :: st) σ := (run_eq 96 14 _ _ σ).trans rfl
theorem e96_15 (ls st : List AV) (σ : St) (y x : Int) : run 96 15 (ls) (vI y :: vI x :: st) σ = if x = y then run 96 18 (ls) (st) σ else run 96 31 (ls) (st) σ := (run_eq 96 15 _ _ σ).trans rfl
theorem e96_18 (a0 a1 : AV) (l st : List AV) (σ : St) (x : Int) : run 96 18 (a0 :: a1 :: vI x :: l) (st) σ = run 96 19 (a0 :: a1 :: vI x :: l) (vI x :: st) σ := (run_eq 96 18 _ _ σ).trans rfl
theorem e96_19 (ls st : List AV) (σ : St) : run 96 19 (ls) (st) σ = run 96 20 (ls) (vI 0 :: st) σ := (run_eq 96 19 _ _ σ).trans rfl
theorem e96_20 (ls st : List AV) (σ : St) : run 96 20 (ls) (st) σ = run 96 21 (ls) (vI 3 :: st) σ := (run_eq 96 20 _ _ σ).trans rfl
theorem e96_21 (ls st : List AV) (σ : St) (x0 : Int) (x1 : Int) (x2 : Int) (h4 : st.length ≤ 4) : run 96 21 ls (vI x2 :: vI x1 :: vI x0 :: st) σ = bnd (run 92 0 [vI x0, vI x1, vI x2] [] σ) (fun r σ => run 96 24 ls (psh r st) σ) := (run_eq 96 21 _ _ σ).trans (if_pos ⟨rfl, by simp, by simpa using h4⟩)
theorem e96_24 (ls st : List AV) (σ : St) (x : Int) : run 96 24 (ls) (vI x :: st) σ = if x = 0 then run 96 31 (ls) (st) σ else run 96 27 (ls) (st) σ := (run_eq 96 24 _ _ σ).trans rfl
theorem e96_27 (ls st : List AV) (σ : St) : run 96 27 (ls) (st) σ = run 96 28 (ls) (vI 1 :: st) σ := (run_eq 96 27 _ _ σ).trans rfl
theorem e96_28 (ls st : List AV) (σ : St) : run 96 28 (ls) (st) σ = run 96 32 (ls) (st) σ := (run_eq 96 28 _ _ σ).trans rfl
theorem e96_31 (ls st : List AV) (σ : St) : run 96 31 (ls) (st) σ = run 96 32 (ls) (vI 0 :: st) σ := (run_eq 96 31 _ _ σ).trans rfl
theorem e96_32 (a0 a1 a2 : AV) (l st : List AV) (σ : St) (q : AV) (x : Int) : run 96 32 (a0 :: a1 :: a2 :: q :: l) (vI x :: st) σ = run 96 33 (a0 :: a1 :: a2 :: vI x :: l) (st) σ := (run_eq 96 32 _ _ σ).trans rfl
theorem e96_33 (a0 a1 a2 : AV) (l st : List AV) (σ : St) (x : Int) : run 96 33 (a0 :: a1 :: a2 :: vI x :: l) (st) σ = run 96 34 (a0 :: a1 :: a2 :: vI x :: l) (vI x :: st) σ := (run_eq 96 33 _ _ σ).trans rfl
theorem e96_34 (ls st : List AV) (σ : St) (x : Int) : run 96 34 (ls) (vI x :: st) σ = if x = 0 then run 96 37 (ls) (st) σ else run 96 40 (ls) (st) σ := (run_eq 96 34 _ _ σ).trans rfl
theorem e96_37 (ls st : List AV) (σ : St) : run 96 37 (ls) (st) σ = run 96 39 (ls) (vI (-2) :: st) σ := (run_eq 96 37 _ _ σ).trans rfl
theorem e96_39 (ls : List AV) (σ : St) (x : Int) : run 96 39 ls [vI x] σ = some (vI x, σ) := (run_eq 96 39 _ _ σ).trans rfl
theorem e96_40 (a0 : AV) (l st : List AV) (σ : St) (x : Int) : run 96 40 (a0 :: vI x :: l) (st) σ = run 96 41 (a0 :: vI x :: l) (vI x :: st) σ := (run_eq 96 40 _ _ σ).trans rfl
theorem e96_41 (ls st : List AV) (σ : St) (x : Int) : run 96 41 (ls) (vI x :: st) σ = if x = 0 then run 96 44 (ls) (st) σ else run 96 51 (ls) (st) σ := (run_eq 96 41 _ _ σ).trans rfl
theorem e96_44 (l st : List AV) (σ : St) (x : Nat) : run 96 44 (vR x :: l) (st) σ = run 96 45 (vR x :: l) (vR x :: st) σ := (run_eq 96 44 _ _ σ).trans rfl
theorem e96_45 (ls st : List AV) (σ : St) (x : Nat) (h : fok σ x 3) : run 96 45 (ls) (vR x :: st) σ = run 96 48 (ls) (vI (gt σ x 4) :: st) σ := (run_eq 96 45 _ _ σ).trans (if_pos h)
theorem e96_48 (ls st : List AV) (σ : St) : run 96 48 (ls) (st) σ = run 96 55 (ls) (st) σ := (run_eq 96 48 _ _ σ).trans rfl
theorem e96_51 (l st : List AV) (σ : St) (x : Nat) : run 96 51 (vR x :: l) (st) σ = run 96 52 (vR x :: l) (vR x :: st) σ := (run_eq 96 51 _ _ σ).trans rfl
theorem e96_52 (ls st : List AV) (σ : St) (x : Nat) (h : fok σ x 3) : run 96 52 (ls) (vR x :: st) σ = run 96 55 (ls) (vI (gt σ x 5) :: st) σ := (run_eq 96 52 _ _ σ).trans (if_pos h)
theorem e96_55 (a0 a1 a2 a3 : AV) (l st : List AV) (σ : St) (q : AV) (x : Int) : run 96 55 (a0 :: a1 :: a2 :: a3 :: q :: l) (vI x :: st) σ = run 96 57 (a0 :: a1 :: a2 :: a3 :: vI x :: l) (st) σ := (run_eq 96 55 _ _ σ).trans rfl
theorem e96_57 (l st : List AV) (σ : St) (x : Nat) : run 96 57 (vR x :: l) (st) σ = run 96 58 (vR x :: l) (vR x :: st) σ := (run_eq 96 57 _ _ σ).trans rfl
theorem e96_58 (a0 : AV) (l st : List AV) (σ : St) (x : Int) : run 96 58 (a0 :: vI x :: l) (st) σ = run 96 59 (a0 :: vI x :: l) (vI x :: st) σ := (run_eq 96 58 _ _ σ).trans rfl
theorem e96_59 (ls st : List AV) (σ : St) (x : Int) : run 96 59 (ls) (vI x :: st) σ = if x = 0 then run 96 62 (ls) (st) σ else run 96 66 (ls) (st) σ := (run_eq 96 59 _ _ σ).trans rfl
theorem e96_62 (a0 a1 : AV) (l st : List AV) (σ : St) (x : Int) : run 96 62 (a0 :: a1 :: vI x :: l) (st) σ = run 96 63 (a0 :: a1 :: vI x :: l) (vI x :: st) σ := (run_eq 96 62 _ _ σ).trans rfl
theorem e96_63 (ls st : List AV) (σ : St) : run 96 63 (ls) (st) σ = run 96 70 (ls) (st) σ := (run_eq 96 63 _ _ σ).trans rfl
theorem e96_66 (l st : List AV) (σ : St) (x : Nat) : run 96 66 (vR x :: l) (st) σ = run 96 67 (vR x :: l) (vR x :: st) σ := (run_eq 96 66 _ _ σ).trans rfl
theorem e96_67 (ls st : List AV) (σ : St) (x : Nat) (h : fok σ x 3) : run 96 67 (ls) (vR x :: st) σ = run 96 70 (ls) (vI (gt σ x 4) :: st) σ := (run_eq 96 67 _ _ σ).trans (if_pos h)
theorem e96_70 (ls st : List AV) (σ : St) (z : Int) (x : Nat) (h : fok σ x 3) : run 96 70 (ls) (vI z :: vR x :: st) σ = run 96 73 (ls) (st) (sr σ x (ru (gt σ x) 4 z)) := (run_eq 96 70 _ _ σ).trans (if_pos h)
theorem e96_73 (l st : List AV) (σ : St) (x : Nat) : run 96 73 (vR x :: l) (st) σ = run 96 74 (vR x :: l) (vR x :: st) σ := (run_eq 96 73 _ _ σ).trans rfl
theorem e96_74 (a0 : AV) (l st : List AV) (σ : St) (x : Int) : run 96 74 (a0 :: vI x :: l) (st) σ = run 96 75 (a0 :: vI x :: l) (vI x :: st) σ := (run_eq 96 74 _ _ σ).trans rfl
theorem e96_75 (ls st : List AV) (σ : St) : run 96 75 (ls) (st) σ = run 96 76 (ls) (vI 1 :: st) σ := (run_eq 96 75 _ _ σ).trans rfl
theorem e96_76 (ls st : List AV) (σ : St) (y x : Int) : run 96 76 (ls) (vI y :: vI x :: st) σ = if x = y then run 96 79 (ls) (st) σ else run 96 83 (ls) (st) σ := (run_eq 96 76 _ _ σ).trans rfl
theorem e96_79 (a0 a1 : AV) (l st : List AV) (σ : St) (x : Int) : run 96 79 (a0 :: a1 :: vI x :: l) (st) σ = run 96 80 (a0 :: a1 :: vI x :: l) (vI x :: st) σ := (run_eq 96 79 _ _ σ).trans rfl
theorem e96_80 (ls st : List AV) (σ : St) : run 96 80 (ls) (st) σ = run 96 87 (ls) (st) σ := (run_eq 96 80 _ _ σ).trans rfl
theorem e96_83 (l st : List AV) (σ : St) (x : Nat) : run 96 83 (vR x :: l) (st) σ = run 96 84 (vR x :: l) (vR x :: st) σ := (run_eq 96 83 _ _ σ).trans rfl
theorem e96_84 (ls st : List AV) (σ : St) (x : Nat) (h : fok σ x 3) : run 96 84 (ls) (vR x :: st) σ = run 96 87 (ls) (vI (gt σ x 5) :: st) σ := (run_eq 96 84 _ _ σ).trans (if_pos h)
theorem e96_87 (ls st : List AV) (σ : St) (z : Int) (x : Nat) (h : fok σ x 3) : run 96 87 (ls) (vI z :: vR x :: st) σ = run 96 90 (ls) (st) (sr σ x (ru (gt σ x) 5 z)) := (run_eq 96 87 _ _ σ).trans (if_pos h)
theorem e96_90 (a0 a1 a2 a3 : AV) (l st : List AV) (σ : St) (x : Int) : run 96 90 (a0 :: a1 :: a2 :: a3 :: vI x :: l) (st) σ = run 96 92 (a0 :: a1 :: a2 :: a3 :: vI x :: l) (vI x :: st) σ := (run_eq 96 90 _ _ σ).trans rfl
theorem e96_92 (ls : List AV) (σ : St) (x : Int) : run 96 92 ls [vI x] σ = some (vI x, σ) := (run_eq 96 92 _ _ σ).trans rfl
/-! M_shape -/
theorem e97_0 (a0 : AV) (l st : List AV) (σ : St) (x : Int) : run 97 0 (a0 :: vI x :: l) (st) σ = run 97 1 (a0 :: vI x :: l) (vI x :: st) σ := (run_eq 97 0 _ _ σ).trans rfl
theorem e97_1 (ls st : List AV) (σ : St) : run 97 1 (ls) (st) σ = run 97 2 (ls) (vI 0 :: st) σ := (run_eq 97 1 _ _ σ).trans rfl
theorem e97_2 (ls st : List AV) (σ : St) : run 97 2 (ls) (st) σ = run 97 3 (ls) (vI 3 :: st) σ := (run_eq 97 2 _ _ σ).trans rfl
theorem e97_3 (ls st : List AV) (σ : St) (x0 : Int) (x1 : Int) (x2 : Int) (h4 : st.length ≤ 4) : run 97 3 ls (vI x2 :: vI x1 :: vI x0 :: st) σ = bnd (run 92 0 [vI x0, vI x1, vI x2] [] σ) (fun r σ => run 97 6 ls (psh r st) σ) := (run_eq 97 3 _ _ σ).trans (if_pos ⟨rfl, by simp, by simpa using h4⟩)
theorem e97_6 (ls st : List AV) (σ : St) (x : Int) : run 97 6 (ls) (vI x :: st) σ = if x = 0 then run 97 17 (ls) (st) σ else run 97 9 (ls) (st) σ := (run_eq 97 6 _ _ σ).trans rfl
theorem e97_9 (l st : List AV) (σ : St) (x : Nat) : run 97 9 (vR x :: l) (st) σ = run 97 10 (vR x :: l) (vR x :: st) σ := (run_eq 97 9 _ _ σ).trans rfl
theorem e97_10 (a0 a1 : AV) (l st : List AV) (σ : St) (x : Int) : run 97 10 (a0 :: a1 :: vI x :: l) (st) σ = run 97 11 (a0 :: a1 :: vI x :: l) (vI x :: st) σ := (run_eq 97 10 _ _ σ).trans rfl
theorem e97_11 (ls st : List AV) (σ : St) (x0 : Nat) (x1 : Int) (h4 : st.length ≤ 4) (h : fok σ x0 3) : run 97 11 ls (vI x1 :: vR x0 :: st) σ = bnd (run 94 0 [vR x0, vI x1] [] σ) (fun r σ => run 97 14 ls (psh r st) σ) := (run_eq 97 11 _ _ σ).trans (if_pos ⟨rfl, by simp, by simpa using h4, rfl, h⟩)
theorem e97_14 (ls st : List AV) (σ : St) (x : Int) : run 97 14 (ls) (vI x :: st) σ = if x = 0 then run 97 17 (ls) (st) σ else run 97 19 (ls) (st) σ := (run_eq 97 14 _ _ σ).trans rfl
theorem e97_17 (ls st : List AV) (σ : St) : run 97 17 (ls) (st) σ = run 97 18 (ls) (vI (-1) :: st) σ := (run_eq 97 17 _ _ σ).trans rfl
theorem e97_18 (ls : List AV) (σ : St) (x : Int) : run 97 18 ls [vI x] σ = some (vI x, σ) := (run_eq 97 18 _ _ σ).trans rfl
theorem e97_19 (a0 a1 a2 : AV) (l st : List AV) (σ : St) (x : Int) : run 97 19 (a0 :: a1 :: a2 :: vI x :: l) (st) σ = run 97 20 (a0 :: a1 :: a2 :: vI x :: l) (vI x :: st) σ := (run_eq 97 19 _ _ σ).trans rfl
theorem e97_20 (ls st : List AV) (σ : St) : run 97 20 (ls) (st) σ = run 97 21 (ls) (vI (-1) :: st) σ := (run_eq 97 20 _ _ σ).trans rfl
theorem e97_21 (ls st : List AV) (σ : St) : run 97 21 (ls) (st) σ = run 97 23 (ls) (vI 9 :: st) σ := (run_eq 97 21 _ _ σ).trans rfl
theorem e97_23 (ls st : List AV) (σ : St) (x0 : Int) (x1 : Int) (x2 : Int) (h4 : st.length ≤ 4) : run 97 23 ls (vI x2 :: vI x1 :: vI x0 :: st) σ = bnd (run 92 0 [vI x0, vI x1, vI x2] [] σ) (fun r σ => run 97 26 ls (psh r st) σ) := (run_eq 97 23 _ _ σ).trans (if_pos ⟨rfl, by simp, by simpa using h4⟩)
theorem e97_26 (ls st : List AV) (σ : St) (x : Int) : run 97 26 (ls) (vI x :: st) σ = if x = 0 then run 97 29 (ls) (st) σ else run 97 32 (ls) (st) σ := (run_eq 97 26 _ _ σ).trans rfl
theorem e97_29 (ls st : List AV) (σ : St) : run 97 29 (ls) (st) σ = run 97 31 (ls) (vI (-2) :: st) σ := (run_eq 97 29 _ _ σ).trans rfl
theorem e97_31 (ls : List AV) (σ : St) (x : Int) : run 97 31 ls [vI x] σ = some (vI x, σ) := (run_eq 97 31 _ _ σ).trans rfl
theorem e97_32 (l st : List AV) (σ : St) (x : Nat) : run 97 32 (vR x :: l) (st) σ = run 97 33 (vR x :: l) (vR x :: st) σ := (run_eq 97 32 _ _ σ).trans rfl
theorem e97_33 (ls st : List AV) (σ : St) (x : Nat) (h : fok σ x 3) : run 97 33 (ls) (vR x :: st) σ = run 97 36 (ls) (vR (gr σ x 6) :: st) σ := (run_eq 97 33 _ _ σ).trans (if_pos h)
theorem e97_36 (ls st : List AV) (σ : St) : run 97 36 (ls) (st) σ = run 97 38 (ls) (vI 24 :: st) σ := (run_eq 97 36 _ _ σ).trans rfl
theorem e97_38 (a0 : AV) (l st : List AV) (σ : St) (x : Int) : run 97 38 (a0 :: vI x :: l) (st) σ = run 97 39 (a0 :: vI x :: l) (vI x :: st) σ := (run_eq 97 38 _ _ σ).trans rfl
theorem e97_39 (ls st : List AV) (σ : St) (y x : Int) : run 97 39 (ls) (vI y :: vI x :: st) σ = run 97 40 (ls) (vI (wr (x * y)) :: st) σ := (run_eq 97 39 _ _ σ).trans rfl
theorem e97_40 (a0 a1 : AV) (l st : List AV) (σ : St) (x : Int) : run 97 40 (a0 :: a1 :: vI x :: l) (st) σ = run 97 41 (a0 :: a1 :: vI x :: l) (vI x :: st) σ := (run_eq 97 40 _ _ σ).trans rfl
theorem e97_41 (ls st : List AV) (σ : St) (y x : Int) : run 97 41 (ls) (vI y :: vI x :: st) σ = run 97 42 (ls) (vI (wr (x + y)) :: st) σ := (run_eq 97 41 _ _ σ).trans rfl
theorem e97_42 (a0 a1 a2 : AV) (l st : List AV) (σ : St) (x : Int) : run 97 42 (a0 :: a1 :: a2 :: vI x :: l) (st) σ = run 97 43 (a0 :: a1 :: a2 :: vI x :: l) (vI x :: st) σ := (run_eq 97 42 _ _ σ).trans rfl
theorem e97_43 (ls st : List AV) (σ : St) (z j : Int) (x : Nat) (h : aok σ x 4 j) : run 97 43 (ls) (vI z :: vI j :: vR x :: st) σ = run 97 44 (ls) (st) (sr σ x (ru (gt σ x) j.toNat z)) := (run_eq 97 43 _ _ σ).trans (if_pos h)
theorem e97_44 (l st : List AV) (σ : St) (x : Nat) : run 97 44 (vR x :: l) (st) σ = run 97 45 (vR x :: l) (vR x :: st) σ := (run_eq 97 44 _ _ σ).trans rfl
theorem e97_45 (a0 : AV) (l st : List AV) (σ : St) (x : Int) : run 97 45 (a0 :: vI x :: l) (st) σ = run 97 46 (a0 :: vI x :: l) (vI x :: st) σ := (run_eq 97 45 _ _ σ).trans rfl
theorem e97_46 (ls st : List AV) (σ : St) (x0 : Nat) (x1 : Int) (h4 : st.length ≤ 4) (h : fok σ x0 3) : run 97 46 ls (vI x1 :: vR x0 :: st) σ = bnd (run 98 0 [vR x0, vI x1, vU, vU] [] σ) (fun r σ => run 97 49 ls (psh r st) σ) := (run_eq 97 46 _ _ σ).trans (if_pos ⟨rfl, by simp, by simpa using h4, rfl, h⟩)
theorem e97_49 (ls st : List AV) (σ : St) (x0 : Int) (h4 : st.length ≤ 4) : run 97 49 ls (vI x0 :: st) σ = bnd (run 99 0 [vI x0, vU, vU] [] σ) (fun r σ => run 97 52 ls (psh r st) σ) := (run_eq 97 49 _ _ σ).trans (if_pos ⟨rfl, by simp, by simpa using h4⟩)
theorem e97_52 (ls : List AV) (σ : St) (x : Int) : run 97 52 ls [vI x] σ = some (vI x, σ) := (run_eq 97 52 _ _ σ).trans rfl
/-! M_wanted -/
theorem e98_0 (ls st : List AV) (σ : St) : run 98 0 (ls) (st) σ = run 98 1 (ls) (vI 0 :: st) σ := (run_eq 98 0 _ _ σ).trans rfl
theorem e98_1 (a0 a1 : AV) (l st : List AV) (σ : St) (q : AV) (x : Int) : run 98 1 (a0 :: a1 :: q :: l) (vI x :: st) σ = run 98 2 (a0 :: a1 :: vI x :: l) (st) σ := (run_eq 98 1 _ _ σ).trans rfl
theorem e98_2 (ls st : List AV) (σ : St) : run 98 2 (ls) (st) σ = run 98 3 (ls) (vI 0 :: st) σ := (run_eq 98 2 _ _ σ).trans rfl
theorem e98_3 (a0 a1 a2 : AV) (l st : List AV) (σ : St) (q : AV) (x : Int) : run 98 3 (a0 :: a1 :: a2 :: q :: l) (vI x :: st) σ = run 98 4 (a0 :: a1 :: a2 :: vI x :: l) (st) σ := (run_eq 98 3 _ _ σ).trans rfl
theorem e98_4 (a0 a1 a2 : AV) (l st : List AV) (σ : St) (x : Int) : run 98 4 (a0 :: a1 :: a2 :: vI x :: l) (st) σ = run 98 5 (a0 :: a1 :: a2 :: vI x :: l) (vI x :: st) σ := (run_eq 98 4 _ _ σ).trans rfl
theorem e98_5 (ls st : List AV) (σ : St) : run 98 5 (ls) (st) σ = run 98 7 (ls) (vI 24 :: st) σ := (run_eq 98 5 _ _ σ).trans rfl
theorem e98_7 (ls st : List AV) (σ : St) (y x : Int) : run 98 7 (ls) (vI y :: vI x :: st) σ = if x < y then run 98 10 (ls) (st) σ else run 98 40 (ls) (st) σ := (run_eq 98 7 _ _ σ).trans rfl
theorem e98_10 (a0 a1 : AV) (l st : List AV) (σ : St) (x : Int) : run 98 10 (a0 :: a1 :: vI x :: l) (st) σ = run 98 11 (a0 :: a1 :: vI x :: l) (vI x :: st) σ := (run_eq 98 10 _ _ σ).trans rfl
theorem e98_11 (l st : List AV) (σ : St) (x : Nat) : run 98 11 (vR x :: l) (st) σ = run 98 12 (vR x :: l) (vR x :: st) σ := (run_eq 98 11 _ _ σ).trans rfl
theorem e98_12 (ls st : List AV) (σ : St) (x : Nat) (h : fok σ x 3) : run 98 12 (ls) (vR x :: st) σ = run 98 15 (ls) (vR (gr σ x 6) :: st) σ := (run_eq 98 12 _ _ σ).trans (if_pos h)
theorem e98_15 (ls st : List AV) (σ : St) : run 98 15 (ls) (st) σ = run 98 17 (ls) (vI 24 :: st) σ := (run_eq 98 15 _ _ σ).trans rfl
theorem e98_17 (a0 : AV) (l st : List AV) (σ : St) (x : Int) : run 98 17 (a0 :: vI x :: l) (st) σ = run 98 18 (a0 :: vI x :: l) (vI x :: st) σ := (run_eq 98 17 _ _ σ).trans rfl
theorem e98_18 (ls st : List AV) (σ : St) (y x : Int) : run 98 18 (ls) (vI y :: vI x :: st) σ = run 98 19 (ls) (vI (wr (x * y)) :: st) σ := (run_eq 98 18 _ _ σ).trans rfl
theorem e98_19 (a0 a1 a2 : AV) (l st : List AV) (σ : St) (x : Int) : run 98 19 (a0 :: a1 :: a2 :: vI x :: l) (st) σ = run 98 20 (a0 :: a1 :: a2 :: vI x :: l) (vI x :: st) σ := (run_eq 98 19 _ _ σ).trans rfl
theorem e98_20 (ls st : List AV) (σ : St) (y x : Int) : run 98 20 (ls) (vI y :: vI x :: st) σ = run 98 21 (ls) (vI (wr (x + y)) :: st) σ := (run_eq 98 20 _ _ σ).trans rfl
theorem e98_21 (ls st : List AV) (σ : St) (j : Int) (x : Nat) (h : aok σ x 4 j) : run 98 21 (ls) (vI j :: vR x :: st) σ = run 98 22 (ls) (vI (gt σ x j.toNat) :: st) σ := (run_eq 98 21 _ _ σ).trans (if_pos h)
theorem e98_22 (ls st : List AV) (σ : St) (x : Int) : run 98 22 (ls) (vI x :: st) σ = if x < 0 then run 98 31 (ls) (st) σ else run 98 25 (ls) (st) σ := (run_eq 98 22 _ _ σ).trans rfl
theorem e98_25 (ls st : List AV) (σ : St) : run 98 25 (ls) (st) σ = run 98 26 (ls) (vI 1 :: st) σ := (run_eq 98 25 _ _ σ).trans rfl
theorem e98_26 (a0 a1 a2 : AV) (l st : List AV) (σ : St) (x : Int) : run 98 26 (a0 :: a1 :: a2 :: vI x :: l) (st) σ = run 98 27 (a0 :: a1 :: a2 :: vI x :: l) (vI x :: st) σ := (run_eq 98 26 _ _ σ).trans rfl
theorem e98_27 (ls st : List AV) (σ : St) (y x : Int) : run 98 27 (ls) (vI y :: vI x :: st) σ = run 98 28 (ls) (vI (bShl x y) :: st) σ := (run_eq 98 27 _ _ σ).trans rfl
theorem e98_28 (ls st : List AV) (σ : St) : run 98 28 (ls) (st) σ = run 98 32 (ls) (st) σ := (run_eq 98 28 _ _ σ).trans rfl
theorem e98_31 (ls st : List AV) (σ : St) : run 98 31 (ls) (st) σ = run 98 32 (ls) (vI 0 :: st) σ := (run_eq 98 31 _ _ σ).trans rfl
theorem e98_32 (ls st : List AV) (σ : St) (y x : Int) : run 98 32 (ls) (vI y :: vI x :: st) σ = run 98 33 (ls) (vI (bOr x y) :: st) σ := (run_eq 98 32 _ _ σ).trans rfl
theorem e98_33 (a0 a1 : AV) (l st : List AV) (σ : St) (q : AV) (x : Int) : run 98 33 (a0 :: a1 :: q :: l) (vI x :: st) σ = run 98 34 (a0 :: a1 :: vI x :: l) (st) σ := (run_eq 98 33 _ _ σ).trans rfl
theorem e98_34 (a0 a1 a2 : AV) (l st : List AV) (σ : St) (x : Int) : run 98 34 (a0 :: a1 :: a2 :: vI x :: l) (st) σ = run 98 37 (a0 :: a1 :: a2 :: vI (wr (x + 1)) :: l) (st) σ := (run_eq 98 34 _ _ σ).trans rfl
theorem e98_37 (ls st : List AV) (σ : St) : run 98 37 (ls) (st) σ = run 98 4 (ls) (st) σ := (run_eq 98 37 _ _ σ).trans rfl
theorem e98_40 (a0 a1 : AV) (l st : List AV) (σ : St) (x : Int) : run 98 40 (a0 :: a1 :: vI x :: l) (st) σ = run 98 41 (a0 :: a1 :: vI x :: l) (vI x :: st) σ := (run_eq 98 40 _ _ σ).trans rfl
theorem e98_41 (ls : List AV) (σ : St) (x : Int) : run 98 41 ls [vI x] σ = some (vI x, σ) := (run_eq 98 41 _ _ σ).trans rfl
/-! M_bits -/
theorem e99_0 (ls st : List AV) (σ : St) : run 99 0 (ls) (st) σ = run 99 1 (ls) (vI 0 :: st) σ := (run_eq 99 0 _ _ σ).trans rfl
theorem e99_1 (a0 : AV) (l st : List AV) (σ : St) (q : AV) (x : Int) : run 99 1 (a0 :: q :: l) (vI x :: st) σ = run 99 2 (a0 :: vI x :: l) (st) σ := (run_eq 99 1 _ _ σ).trans rfl
theorem e99_2 (ls st : List AV) (σ : St) : run 99 2 (ls) (st) σ = run 99 3 (ls) (vI 0 :: st) σ := (run_eq 99 2 _ _ σ).trans rfl
theorem e99_3 (a0 a1 : AV) (l st : List AV) (σ : St) (q : AV) (x : Int) : run 99 3 (a0 :: a1 :: q :: l) (vI x :: st) σ = run 99 4 (a0 :: a1 :: vI x :: l) (st) σ := (run_eq 99 3 _ _ σ).trans rfl
theorem e99_4 (a0 a1 : AV) (l st : List AV) (σ : St) (x : Int) : run 99 4 (a0 :: a1 :: vI x :: l) (st) σ = run 99 5 (a0 :: a1 :: vI x :: l) (vI x :: st) σ := (run_eq 99 4 _ _ σ).trans rfl
theorem e99_5 (ls st : List AV) (σ : St) : run 99 5 (ls) (st) σ = run 99 7 (ls) (vI 24 :: st) σ := (run_eq 99 5 _ _ σ).trans rfl
theorem e99_7 (ls st : List AV) (σ : St) (y x : Int) : run 99 7 (ls) (vI y :: vI x :: st) σ = if x < y then run 99 10 (ls) (st) σ else run 99 24 (ls) (st) σ := (run_eq 99 7 _ _ σ).trans rfl
theorem e99_10 (a0 : AV) (l st : List AV) (σ : St) (x : Int) : run 99 10 (a0 :: vI x :: l) (st) σ = run 99 11 (a0 :: vI x :: l) (vI x :: st) σ := (run_eq 99 10 _ _ σ).trans rfl
theorem e99_11 (l st : List AV) (σ : St) (x : Int) : run 99 11 (vI x :: l) (st) σ = run 99 12 (vI x :: l) (vI x :: st) σ := (run_eq 99 11 _ _ σ).trans rfl
theorem e99_12 (a0 a1 : AV) (l st : List AV) (σ : St) (x : Int) : run 99 12 (a0 :: a1 :: vI x :: l) (st) σ = run 99 13 (a0 :: a1 :: vI x :: l) (vI x :: st) σ := (run_eq 99 12 _ _ σ).trans rfl
theorem e99_13 (ls st : List AV) (σ : St) (y x : Int) : run 99 13 (ls) (vI y :: vI x :: st) σ = run 99 14 (ls) (vI (bShr x y) :: st) σ := (run_eq 99 13 _ _ σ).trans rfl
theorem e99_14 (ls st : List AV) (σ : St) : run 99 14 (ls) (st) σ = run 99 15 (ls) (vI 1 :: st) σ := (run_eq 99 14 _ _ σ).trans rfl
theorem e99_15 (ls st : List AV) (σ : St) (y x : Int) : run 99 15 (ls) (vI y :: vI x :: st) σ = run 99 16 (ls) (vI (bAnd x y) :: st) σ := (run_eq 99 15 _ _ σ).trans rfl
theorem e99_16 (ls st : List AV) (σ : St) (y x : Int) : run 99 16 (ls) (vI y :: vI x :: st) σ = run 99 17 (ls) (vI (wr (x + y)) :: st) σ := (run_eq 99 16 _ _ σ).trans rfl
theorem e99_17 (a0 : AV) (l st : List AV) (σ : St) (q : AV) (x : Int) : run 99 17 (a0 :: q :: l) (vI x :: st) σ = run 99 18 (a0 :: vI x :: l) (st) σ := (run_eq 99 17 _ _ σ).trans rfl
theorem e99_18 (a0 a1 : AV) (l st : List AV) (σ : St) (x : Int) : run 99 18 (a0 :: a1 :: vI x :: l) (st) σ = run 99 21 (a0 :: a1 :: vI (wr (x + 1)) :: l) (st) σ := (run_eq 99 18 _ _ σ).trans rfl
theorem e99_21 (ls st : List AV) (σ : St) : run 99 21 (ls) (st) σ = run 99 4 (ls) (st) σ := (run_eq 99 21 _ _ σ).trans rfl
theorem e99_24 (a0 : AV) (l st : List AV) (σ : St) (x : Int) : run 99 24 (a0 :: vI x :: l) (st) σ = run 99 25 (a0 :: vI x :: l) (vI x :: st) σ := (run_eq 99 24 _ _ σ).trans rfl
theorem e99_25 (ls : List AV) (σ : St) (x : Int) : run 99 25 ls [vI x] σ = some (vI x, σ) := (run_eq 99 25 _ _ σ).trans rfl
/-! M_say -/
theorem e100_0 (a0 : AV) (l st : List AV) (σ : St) (x : Int) : run 100 0 (a0 :: vI x :: l) (st) σ = run 100 1 (a0 :: vI x :: l) (vI x :: st) σ := (run_eq 100 0 _ _ σ).trans rfl
theorem e100_1 (ls st : List AV) (σ : St) : run 100 1 (ls) (st) σ = run 100 3 (ls) (vI 33 :: st) σ := (run_eq 100 1 _ _ σ).trans rfl
theorem e100_3 (ls st : List AV) (σ : St) : run 100 3 (ls) (st) σ = run 100 5 (ls) (vI 126 :: st) σ := (run_eq 100 3 _ _ σ).trans rfl
theorem e100_5 (ls st : List AV) (σ : St) (x0 : Int) (x1 : Int) (x2 : Int) (h4 : st.length ≤ 4) : run 100 5 ls (vI x2 :: vI x1 :: vI x0 :: st) σ = bnd (run 92 0 [vI x0, vI x1, vI x2] [] σ) (fun r σ => run 100 8 ls (psh r st) σ) := (run_eq 100 5 _ _ σ).trans (if_pos ⟨rfl, by simp, by simpa using h4⟩)
theorem e100_8 (ls st : List AV) (σ : St) (x : Int) : run 100 8 (ls) (vI x :: st) σ = if x = 0 then run 100 11 (ls) (st) σ else run 100 14 (ls) (st) σ := (run_eq 100 8 _ _ σ).trans rfl
theorem e100_11 (ls st : List AV) (σ : St) : run 100 11 (ls) (st) σ = run 100 13 (ls) (vI (-2) :: st) σ := (run_eq 100 11 _ _ σ).trans rfl
theorem e100_13 (ls : List AV) (σ : St) (x : Int) : run 100 13 ls [vI x] σ = some (vI x, σ) := (run_eq 100 13 _ _ σ).trans rfl
theorem e100_14 (l st : List AV) (σ : St) (x : Nat) : run 100 14 (vR x :: l) (st) σ = run 100 15 (vR x :: l) (vR x :: st) σ := (run_eq 100 14 _ _ σ).trans rfl
theorem e100_15 (ls st : List AV) (σ : St) (x : Nat) (h : fok σ x 3) : run 100 15 (ls) (vR x :: st) σ = run 100 18 (ls) (vI (gt σ x 9) :: st) σ := (run_eq 100 15 _ _ σ).trans (if_pos h)
theorem e100_18 (ls st : List AV) (σ : St) : run 100 18 (ls) (st) σ = run 100 20 (ls) (vI 60 :: st) σ := (run_eq 100 18 _ _ σ).trans rfl
theorem e100_20 (ls st : List AV) (σ : St) (y x : Int) : run 100 20 (ls) (vI y :: vI x :: st) σ = if x = y then run 100 23 (ls) (st) σ else run 100 26 (ls) (st) σ := (run_eq 100 20 _ _ σ).trans rfl
theorem e100_23 (ls st : List AV) (σ : St) : run 100 23 (ls) (st) σ = run 100 25 (ls) (vI (-4) :: st) σ := (run_eq 100 23 _ _ σ).trans rfl
theorem e100_25 (ls : List AV) (σ : St) (x : Int) : run 100 25 ls [vI x] σ = some (vI x, σ) := (run_eq 100 25 _ _ σ).trans rfl
theorem e100_26 (l st : List AV) (σ : St) (x : Nat) : run 100 26 (vR x :: l) (st) σ = run 100 27 (vR x :: l) (vR x :: st) σ := (run_eq 100 26 _ _ σ).trans rfl
theorem e100_27 (ls st : List AV) (σ : St) (x : Nat) (h : fok σ x 3) : run 100 27 (ls) (vR x :: st) σ = run 100 30 (ls) (vR (gr σ x 10) :: st) σ := (run_eq 100 27 _ _ σ).trans (if_pos h)
theorem e100_30 (l st : List AV) (σ : St) (x : Nat) : run 100 30 (vR x :: l) (st) σ = run 100 31 (vR x :: l) (vR x :: st) σ := (run_eq 100 30 _ _ σ).trans rfl
theorem e100_31 (ls st : List AV) (σ : St) (x : Nat) (h : fok σ x 3) : run 100 31 (ls) (vR x :: st) σ = run 100 34 (ls) (vI (gt σ x 9) :: st) σ := (run_eq 100 31 _ _ σ).trans (if_pos h)
theorem e100_34 (a0 : AV) (l st : List AV) (σ : St) (x : Int) : run 100 34 (a0 :: vI x :: l) (st) σ = run 100 35 (a0 :: vI x :: l) (vI x :: st) σ := (run_eq 100 34 _ _ σ).trans rfl
theorem e100_35 (ls st : List AV) (σ : St) (z j : Int) (x : Nat) (h : aok σ x 4 j) : run 100 35 (ls) (vI z :: vI j :: vR x :: st) σ = run 100 36 (ls) (st) (sr σ x (ru (gt σ x) j.toNat z)) := (run_eq 100 35 _ _ σ).trans (if_pos h)
theorem e100_36 (l st : List AV) (σ : St) (x : Nat) : run 100 36 (vR x :: l) (st) σ = run 100 37 (vR x :: l) (vR x :: st) σ := (run_eq 100 36 _ _ σ).trans rfl
theorem e100_37 (ls st : List AV) (σ : St) (x : Nat) : run 100 37 ls (vR x :: st) σ = run 100 38 ls (vR x :: vR x :: st) σ := (run_eq 100 37 _ _ σ).trans rfl
theorem e100_38 (ls st : List AV) (σ : St) (x : Nat) (h : fok σ x 3) : run 100 38 (ls) (vR x :: st) σ = run 100 41 (ls) (vI (gt σ x 9) :: st) σ := (run_eq 100 38 _ _ σ).trans (if_pos h)
theorem e100_41 (ls st : List AV) (σ : St) : run 100 41 (ls) (st) σ = run 100 42 (ls) (vI 1 :: st) σ := (run_eq 100 41 _ _ σ).trans rfl
theorem e100_42 (ls st : List AV) (σ : St) (y x : Int) : run 100 42 (ls) (vI y :: vI x :: st) σ = run 100 43 (ls) (vI (wr (x + y)) :: st) σ := (run_eq 100 42 _ _ σ).trans rfl
theorem e100_43 (ls st : List AV) (σ : St) (z : Int) (x : Nat) (h : fok σ x 3) : run 100 43 (ls) (vI z :: vR x :: st) σ = run 100 46 (ls) (st) (sr σ x (ru (gt σ x) 9 z)) := (run_eq 100 43 _ _ σ).trans (if_pos h)
theorem e100_46 (l st : List AV) (σ : St) (x : Nat) : run 100 46 (vR x :: l) (st) σ = run 100 47 (vR x :: l) (vR x :: st) σ := (run_eq 100 46 _ _ σ).trans rfl
theorem e100_47 (ls st : List AV) (σ : St) (x : Nat) (h : fok σ x 3) : run 100 47 (ls) (vR x :: st) σ = run 100 50 (ls) (vI (gt σ x 9) :: st) σ := (run_eq 100 47 _ _ σ).trans (if_pos h)
theorem e100_50 (ls : List AV) (σ : St) (x : Int) : run 100 50 ls [vI x] σ = some (vI x, σ) := (run_eq 100 50 _ _ σ).trans rfl
/-! M_wipe -/
theorem e101_0 (l st : List AV) (σ : St) (x : Nat) : run 101 0 (vR x :: l) (st) σ = run 101 1 (vR x :: l) (vR x :: st) σ := (run_eq 101 0 _ _ σ).trans rfl
theorem e101_1 (ls st : List AV) (σ : St) (x : Nat) (h : fok σ x 3) : run 101 1 (ls) (vR x :: st) σ = run 101 4 (ls) (vI (gt σ x 9) :: st) σ := (run_eq 101 1 _ _ σ).trans (if_pos h)
theorem e101_4 (a0 : AV) (l st : List AV) (σ : St) (q : AV) (x : Int) : run 101 4 (a0 :: q :: l) (vI x :: st) σ = run 101 5 (a0 :: vI x :: l) (st) σ := (run_eq 101 4 _ _ σ).trans rfl
theorem e101_5 (l st : List AV) (σ : St) (x : Nat) : run 101 5 (vR x :: l) (st) σ = run 101 6 (vR x :: l) (vR x :: st) σ := (run_eq 101 5 _ _ σ).trans rfl
theorem e101_6 (ls st : List AV) (σ : St) : run 101 6 (ls) (st) σ = run 101 7 (ls) (vI 0 :: st) σ := (run_eq 101 6 _ _ σ).trans rfl
theorem e101_7 (ls st : List AV) (σ : St) (z : Int) (x : Nat) (h : fok σ x 3) : run 101 7 (ls) (vI z :: vR x :: st) σ = run 101 10 (ls) (st) (sr σ x (ru (gt σ x) 9 z)) := (run_eq 101 7 _ _ σ).trans (if_pos h)
theorem e101_10 (a0 : AV) (l st : List AV) (σ : St) (x : Int) : run 101 10 (a0 :: vI x :: l) (st) σ = run 101 11 (a0 :: vI x :: l) (vI x :: st) σ := (run_eq 101 10 _ _ σ).trans rfl
theorem e101_11 (ls : List AV) (σ : St) (x : Int) : run 101 11 ls [vI x] σ = some (vI x, σ) := (run_eq 101 11 _ _ σ).trans rfl
/-! M_fault -/
theorem e102_0 (l st : List AV) (σ : St) (x : Nat) : run 102 0 (vR x :: l) (st) σ = run 102 1 (vR x :: l) (vR x :: st) σ := (run_eq 102 0 _ _ σ).trans rfl
theorem e102_1 (ls st : List AV) (σ : St) (x0 : Nat) (h4 : st.length ≤ 4) (h : fok σ x0 3) : run 102 1 ls (vR x0 :: st) σ = bnd (run 103 0 [vR x0, vU, vU, vU, vU] [] σ) (fun r σ => run 102 4 ls (psh r st) σ) := (run_eq 102 1 _ _ σ).trans (if_pos ⟨rfl, by simp, by simpa using h4, rfl, h⟩)
theorem e102_4 (ls : List AV) (σ : St) (x : Int) : run 102 4 ls [vI x] σ = some (vI x, σ) := (run_eq 102 4 _ _ σ).trans rfl
/-! M_faultOf -/
theorem e103_0 (ls st : List AV) (σ : St) : run 103 0 (ls) (st) σ = run 103 1 (ls) (vI 0 :: st) σ := (run_eq 103 0 _ _ σ).trans rfl
theorem e103_1 (a0 : AV) (l st : List AV) (σ : St) (q : AV) (x : Int) : run 103 1 (a0 :: q :: l) (vI x :: st) σ = run 103 2 (a0 :: vI x :: l) (st) σ := (run_eq 103 1 _ _ σ).trans rfl
theorem e103_2 (ls st : List AV) (σ : St) : run 103 2 (ls) (st) σ = run 103 3 (ls) (vI 0 :: st) σ := (run_eq 103 2 _ _ σ).trans rfl
theorem e103_3 (a0 a1 : AV) (l st : List AV) (σ : St) (q : AV) (x : Int) : run 103 3 (a0 :: a1 :: q :: l) (vI x :: st) σ = run 103 4 (a0 :: a1 :: vI x :: l) (st) σ := (run_eq 103 3 _ _ σ).trans rfl
theorem e103_4 (a0 a1 : AV) (l st : List AV) (σ : St) (x : Int) : run 103 4 (a0 :: a1 :: vI x :: l) (st) σ = run 103 5 (a0 :: a1 :: vI x :: l) (vI x :: st) σ := (run_eq 103 4 _ _ σ).trans rfl
theorem e103_5 (l st : List AV) (σ : St) (x : Nat) : run 103 5 (vR x :: l) (st) σ = run 103 6 (vR x :: l) (vR x :: st) σ := (run_eq 103 5 _ _ σ).trans rfl
theorem e103_6 (ls st : List AV) (σ : St) (x : Nat) (h : fok σ x 3) : run 103 6 (ls) (vR x :: st) σ = run 103 9 (ls) (vI (gt σ x 9) :: st) σ := (run_eq 103 6 _ _ σ).trans (if_pos h)
theorem e103_9 (ls st : List AV) (σ : St) (y x : Int) : run 103 9 (ls) (vI y :: vI x :: st) σ = if x < y then run 103 12 (ls) (st) σ else run 103 113 (ls) (st) σ := (run_eq 103 9 _ _ σ).trans rfl
theorem e103_12 (l st : List AV) (σ : St) (x : Nat) : run 103 12 (vR x :: l) (st) σ = run 103 13 (vR x :: l) (vR x :: st) σ := (run_eq 103 12 _ _ σ).trans rfl
theorem e103_13 (ls st : List AV) (σ : St) (x : Nat) (h : fok σ x 3) : run 103 13 (ls) (vR x :: st) σ = run 103 16 (ls) (vR (gr σ x 10) :: st) σ := (run_eq 103 13 _ _ σ).trans (if_pos h)
theorem e103_16 (a0 a1 : AV) (l st : List AV) (σ : St) (x : Int) : run 103 16 (a0 :: a1 :: vI x :: l) (st) σ = run 103 17 (a0 :: a1 :: vI x :: l) (vI x :: st) σ := (run_eq 103 16 _ _ σ).trans rfl
theorem e103_17 (ls st : List AV) (σ : St) (j : Int) (x : Nat) (h : aok σ x 4 j) : run 103 17 (ls) (vI j :: vR x :: st) σ = run 103 18 (ls) (vI (gt σ x j.toNat) :: st) σ := (run_eq 103 17 _ _ σ).trans (if_pos h)
theorem e103_18 (a0 a1 a2 : AV) (l st : List AV) (σ : St) (q : AV) (x : Int) : run 103 18 (a0 :: a1 :: a2 :: q :: l) (vI x :: st) σ = run 103 19 (a0 :: a1 :: a2 :: vI x :: l) (st) σ := (run_eq 103 18 _ _ σ).trans rfl
theorem e103_19 (a0 : AV) (l st : List AV) (σ : St) (x : Int) : run 103 19 (a0 :: vI x :: l) (st) σ = run 103 20 (a0 :: vI x :: l) (vI x :: st) σ := (run_eq 103 19 _ _ σ).trans rfl
theorem e103_20 (ls st : List AV) (σ : St) (x : Int) : run 103 20 (ls) (vI x :: st) σ = if x = 0 then run 103 54 (ls) (st) σ else run 103 23 (ls) (st) σ := (run_eq 103 20 _ _ σ).trans rfl
theorem e103_23 (a0 a1 a2 : AV) (l st : List AV) (σ : St) (x : Int) : run 103 23 (a0 :: a1 :: a2 :: vI x :: l) (st) σ = run 103 24 (a0 :: a1 :: a2 :: vI x :: l) (vI x :: st) σ := (run_eq 103 23 _ _ σ).trans rfl
theorem e103_24 (ls st : List AV) (σ : St) : run 103 24 (ls) (st) σ = run 103 26 (ls) (vI 48 :: st) σ := (run_eq 103 24 _ _ σ).trans rfl
theorem e103_26 (ls st : List AV) (σ : St) : run 103 26 (ls) (st) σ = run 103 28 (ls) (vI 57 :: st) σ := (run_eq 103 26 _ _ σ).trans rfl
theorem e103_28 (ls st : List AV) (σ : St) (x0 : Int) (x1 : Int) (x2 : Int) (h4 : st.length ≤ 4) : run 103 28 ls (vI x2 :: vI x1 :: vI x0 :: st) σ = bnd (run 92 0 [vI x0, vI x1, vI x2] [] σ) (fun r σ => run 103 31 ls (psh r st) σ) := (run_eq 103 28 _ _ σ).trans (if_pos ⟨rfl, by simp, by simpa using h4⟩)
theorem e103_31 (ls st : List AV) (σ : St) (x : Int) : run 103 31 (ls) (vI x :: st) σ = if x = 0 then run 103 34 (ls) (st) σ else run 103 46 (ls) (st) σ := (run_eq 103 31 _ _ σ).trans rfl
theorem e103_34 (a0 a1 a2 : AV) (l st : List AV) (σ : St) (x : Int) : run 103 34 (a0 :: a1 :: a2 :: vI x :: l) (st) σ = run 103 35 (a0 :: a1 :: a2 :: vI x :: l) (vI x :: st) σ := (run_eq 103 34 _ _ σ).trans rfl
theorem e103_35 (ls st : List AV) (σ : St) : run 103 35 (ls) (st) σ = run 103 37 (ls) (vI 43 :: st) σ := (run_eq 103 35 _ _ σ).trans rfl
theorem e103_37 (ls st : List AV) (σ : St) (y x : Int) : run 103 37 (ls) (vI y :: vI x :: st) σ = if x = y then run 103 46 (ls) (st) σ else run 103 40 (ls) (st) σ := (run_eq 103 37 _ _ σ).trans rfl
theorem e103_40 (a0 a1 a2 : AV) (l st : List AV) (σ : St) (x : Int) : run 103 40 (a0 :: a1 :: a2 :: vI x :: l) (st) σ = run 103 41 (a0 :: a1 :: a2 :: vI x :: l) (vI x :: st) σ := (run_eq 103 40 _ _ σ).trans rfl
theorem e103_41 (ls st : List AV) (σ : St) : run 103 41 (ls) (st) σ = run 103 43 (ls) (vI 42 :: st) σ := (run_eq 103 41 _ _ σ).trans rfl
theorem e103_43 (ls st : List AV) (σ : St) (y x : Int) : run 103 43 (ls) (vI y :: vI x :: st) σ = if x = y then run 103 46 (ls) (st) σ else run 103 50 (ls) (st) σ := (run_eq 103 43 _ _ σ).trans rfl
theorem e103_46 (ls st : List AV) (σ : St) : run 103 46 (ls) (st) σ = run 103 47 (ls) (vI 1 :: st) σ := (run_eq 103 46 _ _ σ).trans rfl
theorem e103_47 (ls st : List AV) (σ : St) : run 103 47 (ls) (st) σ = run 103 77 (ls) (st) σ := (run_eq 103 47 _ _ σ).trans rfl
theorem e103_50 (ls st : List AV) (σ : St) : run 103 50 (ls) (st) σ = run 103 51 (ls) (vI 0 :: st) σ := (run_eq 103 50 _ _ σ).trans rfl
theorem e103_51 (ls st : List AV) (σ : St) : run 103 51 (ls) (st) σ = run 103 77 (ls) (st) σ := (run_eq 103 51 _ _ σ).trans rfl
theorem e103_54 (l st : List AV) (σ : St) (x : Nat) : run 103 54 (vR x :: l) (st) σ = run 103 55 (vR x :: l) (vR x :: st) σ := (run_eq 103 54 _ _ σ).trans rfl
theorem e103_55 (a0 a1 a2 : AV) (l st : List AV) (σ : St) (x : Int) : run 103 55 (a0 :: a1 :: a2 :: vI x :: l) (st) σ = run 103 56 (a0 :: a1 :: a2 :: vI x :: l) (vI x :: st) σ := (run_eq 103 55 _ _ σ).trans rfl
theorem e103_56 (ls st : List AV) (σ : St) : run 103 56 (ls) (st) σ = run 103 58 (ls) (vI 97 :: st) σ := (run_eq 103 56 _ _ σ).trans rfl
theorem e103_58 (ls st : List AV) (σ : St) (y x : Int) : run 103 58 (ls) (vI y :: vI x :: st) σ = run 103 59 (ls) (vI (wr (x - y)) :: st) σ := (run_eq 103 58 _ _ σ).trans rfl
theorem e103_59 (ls st : List AV) (σ : St) (x0 : Nat) (x1 : Int) (h4 : st.length ≤ 4) (h : fok σ x0 3) : run 103 59 ls (vI x1 :: vR x0 :: st) σ = bnd (run 94 0 [vR x0, vI x1] [] σ) (fun r σ => run 103 62 ls (psh r st) σ) := (run_eq 103 59 _ _ σ).trans (if_pos ⟨rfl, by simp, by simpa using h4, rfl, h⟩)
theorem e103_62 (ls st : List AV) (σ : St) (x : Int) : run 103 62 (ls) (vI x :: st) σ = if x = 0 then run 103 65 (ls) (st) σ else run 103 72 (ls) (st) σ := (run_eq 103 62 _ _ σ).trans rfl
theorem e103_65 (a0 a1 a2 : AV) (l st : List AV) (σ : St) (x : Int) : run 103 65 (a0 :: a1 :: a2 :: vI x :: l) (st) σ = run 103 66 (a0 :: a1 :: a2 :: vI x :: l) (vI x :: st) σ := (run_eq 103 65 _ _ σ).trans rfl
theorem e103_66 (ls st : List AV) (σ : St) (x0 : Int) (h4 : st.length ≤ 4) : run 103 66 ls (vI x0 :: st) σ = bnd (run 104 0 [vI x0] [] σ) (fun r σ => run 103 69 ls (psh r st) σ) := (run_eq 103 66 _ _ σ).trans (if_pos ⟨rfl, by simp, by simpa using h4⟩)
theorem e103_69 (ls st : List AV) (σ : St) (x : Int) : run 103 69 (ls) (vI x :: st) σ = if x < 0 then run 103 76 (ls) (st) σ else run 103 72 (ls) (st) σ := (run_eq 103 69 _ _ σ).trans rfl
theorem e103_72 (ls st : List AV) (σ : St) : run 103 72 (ls) (st) σ = run 103 73 (ls) (vI 1 :: st) σ := (run_eq 103 72 _ _ σ).trans rfl
theorem e103_73 (ls st : List AV) (σ : St) : run 103 73 (ls) (st) σ = run 103 77 (ls) (st) σ := (run_eq 103 73 _ _ σ).trans rfl
theorem e103_76 (ls st : List AV) (σ : St) : run 103 76 (ls) (st) σ = run 103 77 (ls) (vI 0 :: st) σ := (run_eq 103 76 _ _ σ).trans rfl
theorem e103_77 (a0 a1 a2 a3 : AV) (l st : List AV) (σ : St) (q : AV) (x : Int) : run 103 77 (a0 :: a1 :: a2 :: a3 :: q :: l) (vI x :: st) σ = run 103 79 (a0 :: a1 :: a2 :: a3 :: vI x :: l) (st) σ := (run_eq 103 77 _ _ σ).trans rfl
theorem e103_79 (a0 a1 a2 a3 : AV) (l st : List AV) (σ : St) (x : Int) : run 103 79 (a0 :: a1 :: a2 :: a3 :: vI x :: l) (st) σ = run 103 81 (a0 :: a1 :: a2 :: a3 :: vI x :: l) (vI x :: st) σ := (run_eq 103 79 _ _ σ).trans rfl
theorem e103_81 (ls st : List AV) (σ : St) (x : Int) : run 103 81 (ls) (vI x :: st) σ = if x = 0 then run 103 84 (ls) (st) σ else run 103 86 (ls) (st) σ := (run_eq 103 81 _ _ σ).trans rfl
theorem e103_84 (a0 a1 : AV) (l st : List AV) (σ : St) (x : Int) : run 103 84 (a0 :: a1 :: vI x :: l) (st) σ = run 103 85 (a0 :: a1 :: vI x :: l) (vI x :: st) σ := (run_eq 103 84 _ _ σ).trans rfl
theorem e103_85 (ls : List AV) (σ : St) (x : Int) : run 103 85 ls [vI x] σ = some (vI x, σ) := (run_eq 103 85 _ _ σ).trans rfl
theorem e103_86 (a0 : AV) (l st : List AV) (σ : St) (x : Int) : run 103 86 (a0 :: vI x :: l) (st) σ = run 103 87 (a0 :: vI x :: l) (vI x :: st) σ := (run_eq 103 86 _ _ σ).trans rfl
theorem e103_87 (ls st : List AV) (σ : St) (x : Int) : run 103 87 (ls) (vI x :: st) σ = if x = 0 then run 103 90 (ls) (st) σ else run 103 105 (ls) (st) σ := (run_eq 103 87 _ _ σ).trans rfl
theorem e103_90 (l st : List AV) (σ : St) (x : Nat) : run 103 90 (vR x :: l) (st) σ = run 103 91 (vR x :: l) (vR x :: st) σ := (run_eq 103 90 _ _ σ).trans rfl
theorem e103_91 (a0 a1 a2 : AV) (l st : List AV) (σ : St) (x : Int) : run 103 91 (a0 :: a1 :: a2 :: vI x :: l) (st) σ = run 103 92 (a0 :: a1 :: a2 :: vI x :: l) (vI x :: st) σ := (run_eq 103 91 _ _ σ).trans rfl
theorem e103_92 (ls st : List AV) (σ : St) : run 103 92 (ls) (st) σ = run 103 94 (ls) (vI 97 :: st) σ := (run_eq 103 92 _ _ σ).trans rfl
theorem e103_94 (ls st : List AV) (σ : St) (y x : Int) : run 103 94 (ls) (vI y :: vI x :: st) σ = run 103 95 (ls) (vI (wr (x - y)) :: st) σ := (run_eq 103 94 _ _ σ).trans rfl
theorem e103_95 (ls st : List AV) (σ : St) (x0 : Nat) (x1 : Int) (h4 : st.length ≤ 4) (h : fok σ x0 3) : run 103 95 ls (vI x1 :: vR x0 :: st) σ = bnd (run 94 0 [vR x0, vI x1] [] σ) (fun r σ => run 103 98 ls (psh r st) σ) := (run_eq 103 95 _ _ σ).trans (if_pos ⟨rfl, by simp, by simpa using h4, rfl, h⟩)
theorem e103_98 (ls st : List AV) (σ : St) (x : Int) : run 103 98 (ls) (vI x :: st) σ = if x = 0 then run 103 105 (ls) (st) σ else run 103 101 (ls) (st) σ := (run_eq 103 98 _ _ σ).trans rfl
theorem e103_101 (ls st : List AV) (σ : St) : run 103 101 (ls) (st) σ = run 103 102 (ls) (vI 1 :: st) σ := (run_eq 103 101 _ _ σ).trans rfl
theorem e103_102 (ls st : List AV) (σ : St) : run 103 102 (ls) (st) σ = run 103 106 (ls) (st) σ := (run_eq 103 102 _ _ σ).trans rfl
theorem e103_105 (ls st : List AV) (σ : St) : run 103 105 (ls) (st) σ = run 103 106 (ls) (vI 0 :: st) σ := (run_eq 103 105 _ _ σ).trans rfl
theorem e103_106 (a0 : AV) (l st : List AV) (σ : St) (q : AV) (x : Int) : run 103 106 (a0 :: q :: l) (vI x :: st) σ = run 103 107 (a0 :: vI x :: l) (st) σ := (run_eq 103 106 _ _ σ).trans rfl
theorem e103_107 (a0 a1 : AV) (l st : List AV) (σ : St) (x : Int) : run 103 107 (a0 :: a1 :: vI x :: l) (st) σ = run 103 110 (a0 :: a1 :: vI (wr (x + 1)) :: l) (st) σ := (run_eq 103 107 _ _ σ).trans rfl
theorem e103_110 (ls st : List AV) (σ : St) : run 103 110 (ls) (st) σ = run 103 4 (ls) (st) σ := (run_eq 103 110 _ _ σ).trans rfl
theorem e103_113 (a0 : AV) (l st : List AV) (σ : St) (x : Int) : run 103 113 (a0 :: vI x :: l) (st) σ = run 103 114 (a0 :: vI x :: l) (vI x :: st) σ := (run_eq 103 113 _ _ σ).trans rfl
theorem e103_114 (ls st : List AV) (σ : St) (x : Int) : run 103 114 (ls) (vI x :: st) σ = if x = 0 then run 103 124 (ls) (st) σ else run 103 117 (ls) (st) σ := (run_eq 103 114 _ _ σ).trans rfl
theorem e103_117 (l st : List AV) (σ : St) (x : Nat) : run 103 117 (vR x :: l) (st) σ = run 103 118 (vR x :: l) (vR x :: st) σ := (run_eq 103 117 _ _ σ).trans rfl
theorem e103_118 (ls st : List AV) (σ : St) (x : Nat) (h : fok σ x 3) : run 103 118 (ls) (vR x :: st) σ = run 103 121 (ls) (vI (gt σ x 9) :: st) σ := (run_eq 103 118 _ _ σ).trans (if_pos h)
theorem e103_121 (ls st : List AV) (σ : St) : run 103 121 (ls) (st) σ = run 103 126 (ls) (st) σ := (run_eq 103 121 _ _ σ).trans rfl
theorem e103_124 (ls st : List AV) (σ : St) : run 103 124 (ls) (st) σ = run 103 126 (ls) (vI (-6) :: st) σ := (run_eq 103 124 _ _ σ).trans rfl
theorem e103_126 (ls : List AV) (σ : St) (x : Int) : run 103 126 ls [vI x] σ = some (vI x, σ) := (run_eq 103 126 _ _ σ).trans rfl
/-! M_kindOf -/
theorem e104_0 (l st : List AV) (σ : St) (x : Int) : run 104 0 (vI x :: l) (st) σ = run 104 1 (vI x :: l) (vI x :: st) σ := (run_eq 104 0 _ _ σ).trans rfl
theorem e104_1 (ls st : List AV) (σ : St) : run 104 1 (ls) (st) σ = run 104 3 (ls) (vI 46 :: st) σ := (run_eq 104 1 _ _ σ).trans rfl
theorem e104_3 (ls st : List AV) (σ : St) (y x : Int) : run 104 3 (ls) (vI y :: vI x :: st) σ = if x = y then run 104 6 (ls) (st) σ else run 104 10 (ls) (st) σ := (run_eq 104 3 _ _ σ).trans rfl
theorem e104_6 (ls st : List AV) (σ : St) : run 104 6 (ls) (st) σ = run 104 7 (ls) (vI 0 :: st) σ := (run_eq 104 6 _ _ σ).trans rfl
theorem e104_7 (ls st : List AV) (σ : St) : run 104 7 (ls) (st) σ = run 104 62 (ls) (st) σ := (run_eq 104 7 _ _ σ).trans rfl
theorem e104_10 (l st : List AV) (σ : St) (x : Int) : run 104 10 (vI x :: l) (st) σ = run 104 11 (vI x :: l) (vI x :: st) σ := (run_eq 104 10 _ _ σ).trans rfl
theorem e104_11 (ls st : List AV) (σ : St) : run 104 11 (ls) (st) σ = run 104 13 (ls) (vI 94 :: st) σ := (run_eq 104 11 _ _ σ).trans rfl
theorem e104_13 (ls st : List AV) (σ : St) (y x : Int) : run 104 13 (ls) (vI y :: vI x :: st) σ = if x = y then run 104 16 (ls) (st) σ else run 104 20 (ls) (st) σ := (run_eq 104 13 _ _ σ).trans rfl
theorem e104_16 (ls st : List AV) (σ : St) : run 104 16 (ls) (st) σ = run 104 17 (ls) (vI 1 :: st) σ := (run_eq 104 16 _ _ σ).trans rfl
theorem e104_17 (ls st : List AV) (σ : St) : run 104 17 (ls) (st) σ = run 104 62 (ls) (st) σ := (run_eq 104 17 _ _ σ).trans rfl
theorem e104_20 (l st : List AV) (σ : St) (x : Int) : run 104 20 (vI x :: l) (st) σ = run 104 21 (vI x :: l) (vI x :: st) σ := (run_eq 104 20 _ _ σ).trans rfl
theorem e104_21 (ls st : List AV) (σ : St) : run 104 21 (ls) (st) σ = run 104 23 (ls) (vI 62 :: st) σ := (run_eq 104 21 _ _ σ).trans rfl
theorem e104_23 (ls st : List AV) (σ : St) (y x : Int) : run 104 23 (ls) (vI y :: vI x :: st) σ = if x = y then run 104 26 (ls) (st) σ else run 104 30 (ls) (st) σ := (run_eq 104 23 _ _ σ).trans rfl
theorem e104_26 (ls st : List AV) (σ : St) : run 104 26 (ls) (st) σ = run 104 27 (ls) (vI 2 :: st) σ := (run_eq 104 26 _ _ σ).trans rfl
theorem e104_27 (ls st : List AV) (σ : St) : run 104 27 (ls) (st) σ = run 104 62 (ls) (st) σ := (run_eq 104 27 _ _ σ).trans rfl
theorem e104_30 (l st : List AV) (σ : St) (x : Int) : run 104 30 (vI x :: l) (st) σ = run 104 31 (vI x :: l) (vI x :: st) σ := (run_eq 104 30 _ _ σ).trans rfl
theorem e104_31 (ls st : List AV) (σ : St) : run 104 31 (ls) (st) σ = run 104 33 (ls) (vI 95 :: st) σ := (run_eq 104 31 _ _ σ).trans rfl
theorem e104_33 (ls st : List AV) (σ : St) (y x : Int) : run 104 33 (ls) (vI y :: vI x :: st) σ = if x = y then run 104 36 (ls) (st) σ else run 104 40 (ls) (st) σ := (run_eq 104 33 _ _ σ).trans rfl
theorem e104_36 (ls st : List AV) (σ : St) : run 104 36 (ls) (st) σ = run 104 37 (ls) (vI 3 :: st) σ := (run_eq 104 36 _ _ σ).trans rfl
theorem e104_37 (ls st : List AV) (σ : St) : run 104 37 (ls) (st) σ = run 104 62 (ls) (st) σ := (run_eq 104 37 _ _ σ).trans rfl
theorem e104_40 (l st : List AV) (σ : St) (x : Int) : run 104 40 (vI x :: l) (st) σ = run 104 41 (vI x :: l) (vI x :: st) σ := (run_eq 104 40 _ _ σ).trans rfl
theorem e104_41 (ls st : List AV) (σ : St) : run 104 41 (ls) (st) σ = run 104 43 (ls) (vI 60 :: st) σ := (run_eq 104 41 _ _ σ).trans rfl
theorem e104_43 (ls st : List AV) (σ : St) (y x : Int) : run 104 43 (ls) (vI y :: vI x :: st) σ = if x = y then run 104 46 (ls) (st) σ else run 104 50 (ls) (st) σ := (run_eq 104 43 _ _ σ).trans rfl
theorem e104_46 (ls st : List AV) (σ : St) : run 104 46 (ls) (st) σ = run 104 47 (ls) (vI 4 :: st) σ := (run_eq 104 46 _ _ σ).trans rfl
theorem e104_47 (ls st : List AV) (σ : St) : run 104 47 (ls) (st) σ = run 104 62 (ls) (st) σ := (run_eq 104 47 _ _ σ).trans rfl
theorem e104_50 (l st : List AV) (σ : St) (x : Int) : run 104 50 (vI x :: l) (st) σ = run 104 51 (vI x :: l) (vI x :: st) σ := (run_eq 104 50 _ _ σ).trans rfl
theorem e104_51 (ls st : List AV) (σ : St) : run 104 51 (ls) (st) σ = run 104 53 (ls) (vI 126 :: st) σ := (run_eq 104 51 _ _ σ).trans rfl
theorem e104_53 (ls st : List AV) (σ : St) (y x : Int) : run 104 53 (ls) (vI y :: vI x :: st) σ = if x = y then run 104 56 (ls) (st) σ else run 104 60 (ls) (st) σ := (run_eq 104 53 _ _ σ).trans rfl
theorem e104_56 (ls st : List AV) (σ : St) : run 104 56 (ls) (st) σ = run 104 57 (ls) (vI 5 :: st) σ := (run_eq 104 56 _ _ σ).trans rfl
theorem e104_57 (ls st : List AV) (σ : St) : run 104 57 (ls) (st) σ = run 104 62 (ls) (st) σ := (run_eq 104 57 _ _ σ).trans rfl
theorem e104_60 (ls st : List AV) (σ : St) : run 104 60 (ls) (st) σ = run 104 62 (ls) (vI (-6) :: st) σ := (run_eq 104 60 _ _ σ).trans rfl
theorem e104_62 (ls : List AV) (σ : St) (x : Int) : run 104 62 ls [vI x] σ = some (vI x, σ) := (run_eq 104 62 _ _ σ).trans rfl
/-! M_judge -/
theorem e105_0 (a0 : AV) (l st : List AV) (σ : St) (x : Int) : run 105 0 (a0 :: vI x :: l) (st) σ = run 105 1 (a0 :: vI x :: l) (vI x :: st) σ := (run_eq 105 0 _ _ σ).trans rfl
theorem e105_1 (ls st : List AV) (σ : St) : run 105 1 (ls) (st) σ = run 105 2 (ls) (vI 0 :: st) σ := (run_eq 105 1 _ _ σ).trans rfl
theorem e105_2 (ls st : List AV) (σ : St) : run 105 2 (ls) (st) σ = run 105 3 (ls) (vI 1 :: st) σ := (run_eq 105 2 _ _ σ).trans rfl
theorem e105_3 (ls st : List AV) (σ : St) (x0 : Int) (x1 : Int) (x2 : Int) (h4 : st.length ≤ 4) : run 105 3 ls (vI x2 :: vI x1 :: vI x0 :: st) σ = bnd (run 92 0 [vI x0, vI x1, vI x2] [] σ) (fun r σ => run 105 6 ls (psh r st) σ) := (run_eq 105 3 _ _ σ).trans (if_pos ⟨rfl, by simp, by simpa using h4⟩)
theorem e105_6 (ls st : List AV) (σ : St) (x : Int) : run 105 6 (ls) (vI x :: st) σ = if x = 0 then run 105 9 (ls) (st) σ else run 105 12 (ls) (st) σ := (run_eq 105 6 _ _ σ).trans rfl
theorem e105_9 (ls st : List AV) (σ : St) : run 105 9 (ls) (st) σ = run 105 11 (ls) (vI (-2) :: st) σ := (run_eq 105 9 _ _ σ).trans rfl
theorem e105_11 (ls : List AV) (σ : St) (x : Int) : run 105 11 ls [vI x] σ = some (vI x, σ) := (run_eq 105 11 _ _ σ).trans rfl
theorem e105_12 (l st : List AV) (σ : St) (x : Nat) : run 105 12 (vR x :: l) (st) σ = run 105 13 (vR x :: l) (vR x :: st) σ := (run_eq 105 12 _ _ σ).trans rfl
theorem e105_13 (ls st : List AV) (σ : St) (x0 : Nat) (h4 : st.length ≤ 4) (h : fok σ x0 3) : run 105 13 ls (vR x0 :: st) σ = bnd (run 103 0 [vR x0, vU, vU, vU, vU] [] σ) (fun r σ => run 105 16 ls (psh r st) σ) := (run_eq 105 13 _ _ σ).trans (if_pos ⟨rfl, by simp, by simpa using h4, rfl, h⟩)
theorem e105_16 (ls st : List AV) (σ : St) (x : Int) : run 105 16 (ls) (vI x :: st) σ = if x < 0 then run 105 22 (ls) (st) σ else run 105 19 (ls) (st) σ := (run_eq 105 16 _ _ σ).trans rfl
theorem e105_19 (ls st : List AV) (σ : St) : run 105 19 (ls) (st) σ = run 105 21 (ls) (vI (-5) :: st) σ := (run_eq 105 19 _ _ σ).trans rfl
theorem e105_21 (ls : List AV) (σ : St) (x : Int) : run 105 21 ls [vI x] σ = some (vI x, σ) := (run_eq 105 21 _ _ σ).trans rfl
theorem e105_22 (l st : List AV) (σ : St) (x : Nat) : run 105 22 (vR x :: l) (st) σ = run 105 23 (vR x :: l) (vR x :: st) σ := (run_eq 105 22 _ _ σ).trans rfl
theorem e105_23 (ls st : List AV) (σ : St) : run 105 23 (ls) (st) σ = run 105 25 (ls) (vI (-6) :: st) σ := (run_eq 105 23 _ _ σ).trans rfl
theorem e105_25 (ls st : List AV) (σ : St) (x0 : Nat) (x1 : Int) (h4 : st.length ≤ 4) (h : fok σ x0 3) : run 105 25 ls (vI x1 :: vR x0 :: st) σ = bnd (run 106 0 [vR x0, vI x1, vU, vU, vU, vU] [] σ) (fun r σ => run 105 28 ls (psh r st) σ) := (run_eq 105 25 _ _ σ).trans (if_pos ⟨rfl, by simp, by simpa using h4, rfl, h⟩)
theorem e105_28 (a0 a1 : AV) (l st : List AV) (σ : St) (q : AV) (x : Int) : run 105 28 (a0 :: a1 :: q :: l) (vI x :: st) σ = run 105 29 (a0 :: a1 :: vI x :: l) (st) σ := (run_eq 105 28 _ _ σ).trans rfl
theorem e105_29 (a0 a1 : AV) (l st : List AV) (σ : St) (x : Int) : run 105 29 (a0 :: a1 :: vI x :: l) (st) σ = run 105 30 (a0 :: a1 :: vI x :: l) (vI x :: st) σ := (run_eq 105 29 _ _ σ).trans rfl
theorem e105_30 (ls st : List AV) (σ : St) (x : Int) : run 105 30 (ls) (vI x :: st) σ = if x < 0 then run 105 37 (ls) (st) σ else run 105 33 (ls) (st) σ := (run_eq 105 30 _ _ σ).trans rfl
theorem e105_33 (a0 : AV) (l st : List AV) (σ : St) (x : Int) : run 105 33 (a0 :: vI x :: l) (st) σ = run 105 34 (a0 :: vI x :: l) (vI x :: st) σ := (run_eq 105 33 _ _ σ).trans rfl
theorem e105_34 (ls st : List AV) (σ : St) (x : Int) : run 105 34 (ls) (vI x :: st) σ = if x = 0 then run 105 37 (ls) (st) σ else run 105 41 (ls) (st) σ := (run_eq 105 34 _ _ σ).trans rfl
theorem e105_37 (a0 a1 : AV) (l st : List AV) (σ : St) (x : Int) : run 105 37 (a0 :: a1 :: vI x :: l) (st) σ = run 105 38 (a0 :: a1 :: vI x :: l) (vI x :: st) σ := (run_eq 105 37 _ _ σ).trans rfl
theorem e105_38 (ls st : List AV) (σ : St) : run 105 38 (ls) (st) σ = run 105 45 (ls) (st) σ := (run_eq 105 38 _ _ σ).trans rfl
theorem e105_41 (l st : List AV) (σ : St) (x : Nat) : run 105 41 (vR x :: l) (st) σ = run 105 42 (vR x :: l) (vR x :: st) σ := (run_eq 105 41 _ _ σ).trans rfl
theorem e105_42 (ls st : List AV) (σ : St) (x : Nat) (h : fok σ x 3) : run 105 42 (ls) (vR x :: st) σ = run 105 45 (ls) (vI (gt σ x 14) :: st) σ := (run_eq 105 42 _ _ σ).trans (if_pos h)
theorem e105_45 (ls : List AV) (σ : St) (x : Int) : run 105 45 ls [vI x] σ = some (vI x, σ) := (run_eq 105 45 _ _ σ).trans rfl
/-! M_goNight -/
theorem e106_0 (l st : List AV) (σ : St) (x : Nat) : run 106 0 (vR x :: l) (st) σ = run 106 1 (vR x :: l) (vR x :: st) σ := (run_eq 106 0 _ _ σ).trans rfl
theorem e106_1 (ls st : List AV) (σ : St) (x0 : Nat) (h4 : st.length ≤ 4) (h : fok σ x0 3) : run 106 1 ls (vR x0 :: st) σ = bnd (run 107 0 [vR x0, vU] [] σ) (fun r σ => run 106 4 ls (psh r st) σ) := (run_eq 106 1 _ _ σ).trans (if_pos ⟨rfl, by simp, by simpa using h4, rfl, h⟩)
theorem e106_4 (l st : List AV) (σ : St) (x : Nat) : run 106 4 (vR x :: l) (st) σ = run 106 5 (vR x :: l) (vR x :: st) σ := (run_eq 106 4 _ _ σ).trans rfl
theorem e106_5 (ls st : List AV) (σ : St) : run 106 5 (ls) (st) σ = run 106 6 (ls) (vI 0 :: st) σ := (run_eq 106 5 _ _ σ).trans rfl
theorem e106_6 (ls st : List AV) (σ : St) (z : Int) (x : Nat) (h : fok σ x 3) : run 106 6 (ls) (vI z :: vR x :: st) σ = run 106 9 (ls) (st) (sr σ x (ru (gt σ x) 15 z)) := (run_eq 106 6 _ _ σ).trans (if_pos h)
theorem e106_9 (l st : List AV) (σ : St) (x : Nat) : run 106 9 (vR x :: l) (st) σ = run 106 10 (vR x :: l) (vR x :: st) σ := (run_eq 106 9 _ _ σ).trans rfl
theorem e106_10 (ls st : List AV) (σ : St) : run 106 10 (ls) (st) σ = run 106 12 (ls) (vI (-6) :: st) σ := (run_eq 106 10 _ _ σ).trans rfl
theorem e106_12 (ls st : List AV) (σ : St) (z : Int) (x : Nat) (h : fok σ x 3) : run 106 12 (ls) (vI z :: vR x :: st) σ = run 106 15 (ls) (st) (sr σ x (ru (gt σ x) 16 z)) := (run_eq 106 12 _ _ σ).trans (if_pos h)
theorem e106_15 (ls st : List AV) (σ : St) : run 106 15 (ls) (st) σ = run 106 16 (ls) (vI 0 :: st) σ := (run_eq 106 15 _ _ σ).trans rfl
theorem e106_16 (a0 a1 : AV) (l st : List AV) (σ : St) (q : AV) (x : Int) : run 106 16 (a0 :: a1 :: q :: l) (vI x :: st) σ = run 106 17 (a0 :: a1 :: vI x :: l) (st) σ := (run_eq 106 16 _ _ σ).trans rfl
theorem e106_17 (a0 a1 : AV) (l st : List AV) (σ : St) (x : Int) : run 106 17 (a0 :: a1 :: vI x :: l) (st) σ = run 106 18 (a0 :: a1 :: vI x :: l) (vI x :: st) σ := (run_eq 106 17 _ _ σ).trans rfl
theorem e106_18 (l st : List AV) (σ : St) (x : Nat) : run 106 18 (vR x :: l) (st) σ = run 106 19 (vR x :: l) (vR x :: st) σ := (run_eq 106 18 _ _ σ).trans rfl
theorem e106_19 (ls st : List AV) (σ : St) (x : Nat) (h : fok σ x 3) : run 106 19 (ls) (vR x :: st) σ = run 106 22 (ls) (vI (gt σ x 9) :: st) σ := (run_eq 106 19 _ _ σ).trans (if_pos h)
theorem e106_22 (ls st : List AV) (σ : St) (y x : Int) : run 106 22 (ls) (vI y :: vI x :: st) σ = if x < y then run 106 25 (ls) (st) σ else run 106 272 (ls) (st) σ := (run_eq 106 22 _ _ σ).trans rfl
theorem e106_25 (l st : List AV) (σ : St) (x : Nat) : run 106 25 (vR x :: l) (st) σ = run 106 26 (vR x :: l) (vR x :: st) σ := (run_eq 106 25 _ _ σ).trans rfl
theorem e106_26 (ls st : List AV) (σ : St) (x : Nat) (h : fok σ x 3) : run 106 26 (ls) (vR x :: st) σ = run 106 29 (ls) (vR (gr σ x 10) :: st) σ := (run_eq 106 26 _ _ σ).trans (if_pos h)
theorem e106_29 (a0 a1 : AV) (l st : List AV) (σ : St) (x : Int) : run 106 29 (a0 :: a1 :: vI x :: l) (st) σ = run 106 30 (a0 :: a1 :: vI x :: l) (vI x :: st) σ := (run_eq 106 29 _ _ σ).trans rfl
theorem e106_30 (ls st : List AV) (σ : St) (j : Int) (x : Nat) (h : aok σ x 4 j) : run 106 30 (ls) (vI j :: vR x :: st) σ = run 106 31 (ls) (vI (gt σ x j.toNat) :: st) σ := (run_eq 106 30 _ _ σ).trans (if_pos h)
theorem e106_31 (ls st : List AV) (σ : St) (x0 : Int) (h4 : st.length ≤ 4) : run 106 31 ls (vI x0 :: st) σ = bnd (run 104 0 [vI x0] [] σ) (fun r σ => run 106 34 ls (psh r st) σ) := (run_eq 106 31 _ _ σ).trans (if_pos ⟨rfl, by simp, by simpa using h4⟩)
theorem e106_34 (a0 a1 a2 : AV) (l st : List AV) (σ : St) (q : AV) (x : Int) : run 106 34 (a0 :: a1 :: a2 :: q :: l) (vI x :: st) σ = run 106 35 (a0 :: a1 :: a2 :: vI x :: l) (st) σ := (run_eq 106 34 _ _ σ).trans rfl
theorem e106_35 (l st : List AV) (σ : St) (x : Nat) : run 106 35 (vR x :: l) (st) σ = run 106 36 (vR x :: l) (vR x :: st) σ := (run_eq 106 35 _ _ σ).trans rfl
theorem e106_36 (ls st : List AV) (σ : St) : run 106 36 (ls) (st) σ = run 106 37 (ls) (vI 0 :: st) σ := (run_eq 106 36 _ _ σ).trans rfl
theorem e106_37 (ls st : List AV) (σ : St) (z : Int) (x : Nat) (h : fok σ x 3) : run 106 37 (ls) (vI z :: vR x :: st) σ = run 106 40 (ls) (st) (sr σ x (ru (gt σ x) 14 z)) := (run_eq 106 37 _ _ σ).trans (if_pos h)
theorem e106_40 (a0 a1 a2 : AV) (l st : List AV) (σ : St) (x : Int) : run 106 40 (a0 :: a1 :: a2 :: vI x :: l) (st) σ = run 106 41 (a0 :: a1 :: a2 :: vI x :: l) (vI x :: st) σ := (run_eq 106 40 _ _ σ).trans rfl
theorem e106_41 (ls st : List AV) (σ : St) (x : Int) : run 106 41 (ls) (vI x :: st) σ = if x < 0 then run 106 55 (ls) (st) σ else run 106 44 (ls) (st) σ := (run_eq 106 41 _ _ σ).trans rfl
theorem e106_44 (l st : List AV) (σ : St) (x : Nat) : run 106 44 (vR x :: l) (st) σ = run 106 45 (vR x :: l) (vR x :: st) σ := (run_eq 106 44 _ _ σ).trans rfl
theorem e106_45 (a0 a1 a2 : AV) (l st : List AV) (σ : St) (x : Int) : run 106 45 (a0 :: a1 :: a2 :: vI x :: l) (st) σ = run 106 46 (a0 :: a1 :: a2 :: vI x :: l) (vI x :: st) σ := (run_eq 106 45 _ _ σ).trans rfl
theorem e106_46 (ls st : List AV) (σ : St) (x0 : Nat) (x1 : Int) (h4 : st.length ≤ 4) (h : fok σ x0 3) : run 106 46 ls (vI x1 :: vR x0 :: st) σ = bnd (run 108 0 [vR x0, vI x1, vU, vU, vU, vU] [] σ) (fun r σ => run 106 49 ls (psh r st) σ) := (run_eq 106 46 _ _ σ).trans (if_pos ⟨rfl, by simp, by simpa using h4, rfl, h⟩)
theorem e106_49 (a0 a1 : AV) (l st : List AV) (σ : St) (x : Int) : run 106 49 (a0 :: a1 :: vI x :: l) (st) σ = run 106 52 (a0 :: a1 :: vI (wr (x + 1)) :: l) (st) σ := (run_eq 106 49 _ _ σ).trans rfl
theorem e106_52 (ls st : List AV) (σ : St) : run 106 52 (ls) (st) σ = run 106 225 (ls) (st) σ := (run_eq 106 52 _ _ σ).trans rfl
theorem e106_55 (l st : List AV) (σ : St) (x : Nat) : run 106 55 (vR x :: l) (st) σ = run 106 56 (vR x :: l) (vR x :: st) σ := (run_eq 106 55 _ _ σ).trans rfl
theorem e106_56 (ls st : List AV) (σ : St) (x : Nat) (h : fok σ x 3) : run 106 56 (ls) (vR x :: st) σ = run 106 59 (ls) (vR (gr σ x 10) :: st) σ := (run_eq 106 56 _ _ σ).trans (if_pos h)
theorem e106_59 (a0 a1 : AV) (l st : List AV) (σ : St) (x : Int) : run 106 59 (a0 :: a1 :: vI x :: l) (st) σ = run 106 60 (a0 :: a1 :: vI x :: l) (vI x :: st) σ := (run_eq 106 59 _ _ σ).trans rfl
theorem e106_60 (ls st : List AV) (σ : St) (j : Int) (x : Nat) (h : aok σ x 4 j) : run 106 60 (ls) (vI j :: vR x :: st) σ = run 106 61 (ls) (vI (gt σ x j.toNat) :: st) σ := (run_eq 106 60 _ _ σ).trans (if_pos h)
theorem e106_61 (ls st : List AV) (σ : St) : run 106 61 (ls) (st) σ = run 106 63 (ls) (vI 97 :: st) σ := (run_eq 106 61 _ _ σ).trans rfl
theorem e106_63 (ls st : List AV) (σ : St) (y x : Int) : run 106 63 (ls) (vI y :: vI x :: st) σ = run 106 64 (ls) (vI (wr (x - y)) :: st) σ := (run_eq 106 63 _ _ σ).trans rfl
theorem e106_64 (a0 a1 a2 a3 : AV) (l st : List AV) (σ : St) (q : AV) (x : Int) : run 106 64 (a0 :: a1 :: a2 :: a3 :: q :: l) (vI x :: st) σ = run 106 66 (a0 :: a1 :: a2 :: a3 :: vI x :: l) (st) σ := (run_eq 106 64 _ _ σ).trans rfl
theorem e106_66 (l st : List AV) (σ : St) (x : Nat) : run 106 66 (vR x :: l) (st) σ = run 106 67 (vR x :: l) (vR x :: st) σ := (run_eq 106 66 _ _ σ).trans rfl
theorem e106_67 (ls st : List AV) (σ : St) (x : Nat) (h : fok σ x 3) : run 106 67 (ls) (vR x :: st) σ = run 106 70 (ls) (vR (gr σ x 10) :: st) σ := (run_eq 106 67 _ _ σ).trans (if_pos h)
theorem e106_70 (a0 a1 : AV) (l st : List AV) (σ : St) (x : Int) : run 106 70 (a0 :: a1 :: vI x :: l) (st) σ = run 106 71 (a0 :: a1 :: vI x :: l) (vI x :: st) σ := (run_eq 106 70 _ _ σ).trans rfl
theorem e106_71 (ls st : List AV) (σ : St) : run 106 71 (ls) (st) σ = run 106 72 (ls) (vI 1 :: st) σ := (run_eq 106 71 _ _ σ).trans rfl
theorem e106_72 (ls st : List AV) (σ : St) (y x : Int) : run 106 72 (ls) (vI y :: vI x :: st) σ = run 106 73 (ls) (vI (wr (x + y)) :: st) σ := (run_eq 106 72 _ _ σ).trans rfl
theorem e106_73 (ls st : List AV) (σ : St) (j : Int) (x : Nat) (h : aok σ x 4 j) : run 106 73 (ls) (vI j :: vR x :: st) σ = run 106 74 (ls) (vI (gt σ x j.toNat) :: st) σ := (run_eq 106 73 _ _ σ).trans (if_pos h)
theorem e106_74 (a0 a1 a2 a3 a4 : AV) (l st : List AV) (σ : St) (q : AV) (x : Int) : run 106 74 (a0 :: a1 :: a2 :: a3 :: a4 :: q :: l) (vI x :: st) σ = run 106 76 (a0 :: a1 :: a2 :: a3 :: a4 :: vI x :: l) (st) σ := (run_eq 106 74 _ _ σ).trans rfl
theorem e106_76 (l st : List AV) (σ : St) (x : Nat) : run 106 76 (vR x :: l) (st) σ = run 106 77 (vR x :: l) (vR x :: st) σ := (run_eq 106 76 _ _ σ).trans rfl
theorem e106_77 (a0 a1 a2 a3 a4 : AV) (l st : List AV) (σ : St) (x : Int) : run 106 77 (a0 :: a1 :: a2 :: a3 :: a4 :: vI x :: l) (st) σ = run 106 79 (a0 :: a1 :: a2 :: a3 :: a4 :: vI x :: l) (vI x :: st) σ := (run_eq 106 77 _ _ σ).trans rfl
theorem e106_79 (ls st : List AV) (σ : St) : run 106 79 (ls) (st) σ = run 106 81 (ls) (vI 48 :: st) σ := (run_eq 106 79 _ _ σ).trans rfl
theorem e106_81 (ls st : List AV) (σ : St) : run 106 81 (ls) (st) σ = run 106 83 (ls) (vI 57 :: st) σ := (run_eq 106 81 _ _ σ).trans rfl
theorem e106_83 (ls st : List AV) (σ : St) (x0 : Int) (x1 : Int) (x2 : Int) (h4 : st.length ≤ 4) : run 106 83 ls (vI x2 :: vI x1 :: vI x0 :: st) σ = bnd (run 92 0 [vI x0, vI x1, vI x2] [] σ) (fun r σ => run 106 86 ls (psh r st) σ) := (run_eq 106 83 _ _ σ).trans (if_pos ⟨rfl, by simp, by simpa using h4⟩)
theorem e106_86 (ls st : List AV) (σ : St) (x : Int) : run 106 86 (ls) (vI x :: st) σ = if x = 0 then run 106 108 (ls) (st) σ else run 106 89 (ls) (st) σ := (run_eq 106 86 _ _ σ).trans rfl
theorem e106_89 (l st : List AV) (σ : St) (x : Nat) : run 106 89 (vR x :: l) (st) σ = run 106 90 (vR x :: l) (vR x :: st) σ := (run_eq 106 89 _ _ σ).trans rfl
theorem e106_90 (ls st : List AV) (σ : St) (x : Nat) (h : fok σ x 3) : run 106 90 (ls) (vR x :: st) σ = run 106 93 (ls) (vR (gr σ x 11) :: st) σ := (run_eq 106 90 _ _ σ).trans (if_pos h)
theorem e106_93 (a0 a1 a2 a3 : AV) (l st : List AV) (σ : St) (x : Int) : run 106 93 (a0 :: a1 :: a2 :: a3 :: vI x :: l) (st) σ = run 106 95 (a0 :: a1 :: a2 :: a3 :: vI x :: l) (vI x :: st) σ := (run_eq 106 93 _ _ σ).trans rfl
theorem e106_95 (ls st : List AV) (σ : St) (j : Int) (x : Nat) (h : aok σ x 4 j) : run 106 95 (ls) (vI j :: vR x :: st) σ = run 106 96 (ls) (vI (gt σ x j.toNat) :: st) σ := (run_eq 106 95 _ _ σ).trans (if_pos h)
theorem e106_96 (a0 a1 a2 a3 a4 : AV) (l st : List AV) (σ : St) (x : Int) : run 106 96 (a0 :: a1 :: a2 :: a3 :: a4 :: vI x :: l) (st) σ = run 106 98 (a0 :: a1 :: a2 :: a3 :: a4 :: vI x :: l) (vI x :: st) σ := (run_eq 106 96 _ _ σ).trans rfl
theorem e106_98 (ls st : List AV) (σ : St) : run 106 98 (ls) (st) σ = run 106 100 (ls) (vI 48 :: st) σ := (run_eq 106 98 _ _ σ).trans rfl
theorem e106_100 (ls st : List AV) (σ : St) (y x : Int) : run 106 100 (ls) (vI y :: vI x :: st) σ = run 106 101 (ls) (vI (wr (x - y)) :: st) σ := (run_eq 106 100 _ _ σ).trans rfl
theorem e106_101 (ls st : List AV) (σ : St) (y x : Int) : run 106 101 (ls) (vI y :: vI x :: st) σ = if y < x then run 106 108 (ls) (st) σ else run 106 104 (ls) (st) σ := (run_eq 106 101 _ _ σ).trans rfl
theorem e106_104 (ls st : List AV) (σ : St) : run 106 104 (ls) (st) σ = run 106 105 (ls) (vI 1 :: st) σ := (run_eq 106 104 _ _ σ).trans rfl
theorem e106_105 (ls st : List AV) (σ : St) : run 106 105 (ls) (st) σ = run 106 132 (ls) (st) σ := (run_eq 106 105 _ _ σ).trans rfl
theorem e106_108 (a0 a1 a2 a3 a4 : AV) (l st : List AV) (σ : St) (x : Int) : run 106 108 (a0 :: a1 :: a2 :: a3 :: a4 :: vI x :: l) (st) σ = run 106 110 (a0 :: a1 :: a2 :: a3 :: a4 :: vI x :: l) (vI x :: st) σ := (run_eq 106 108 _ _ σ).trans rfl
theorem e106_110 (ls st : List AV) (σ : St) : run 106 110 (ls) (st) σ = run 106 112 (ls) (vI 43 :: st) σ := (run_eq 106 110 _ _ σ).trans rfl
theorem e106_112 (ls st : List AV) (σ : St) (y x : Int) : run 106 112 (ls) (vI y :: vI x :: st) σ = if x = y then run 106 115 (ls) (st) σ else run 106 131 (ls) (st) σ := (run_eq 106 112 _ _ σ).trans rfl
theorem e106_115 (l st : List AV) (σ : St) (x : Nat) : run 106 115 (vR x :: l) (st) σ = run 106 116 (vR x :: l) (vR x :: st) σ := (run_eq 106 115 _ _ σ).trans rfl
theorem e106_116 (ls st : List AV) (σ : St) (x : Nat) (h : fok σ x 3) : run 106 116 (ls) (vR x :: st) σ = run 106 119 (ls) (vR (gr σ x 11) :: st) σ := (run_eq 106 116 _ _ σ).trans (if_pos h)
theorem e106_119 (a0 a1 a2 a3 : AV) (l st : List AV) (σ : St) (x : Int) : run 106 119 (a0 :: a1 :: a2 :: a3 :: vI x :: l) (st) σ = run 106 121 (a0 :: a1 :: a2 :: a3 :: vI x :: l) (vI x :: st) σ := (run_eq 106 119 _ _ σ).trans rfl
theorem e106_121 (ls st : List AV) (σ : St) (j : Int) (x : Nat) (h : aok σ x 4 j) : run 106 121 (ls) (vI j :: vR x :: st) σ = run 106 122 (ls) (vI (gt σ x j.toNat) :: st) σ := (run_eq 106 121 _ _ σ).trans (if_pos h)
theorem e106_122 (ls st : List AV) (σ : St) : run 106 122 (ls) (st) σ = run 106 124 (ls) (vI 9 :: st) σ := (run_eq 106 122 _ _ σ).trans rfl
theorem e106_124 (ls st : List AV) (σ : St) (y x : Int) : run 106 124 (ls) (vI y :: vI x :: st) σ = if x = y then run 106 127 (ls) (st) σ else run 106 131 (ls) (st) σ := (run_eq 106 124 _ _ σ).trans rfl
theorem e106_127 (ls st : List AV) (σ : St) : run 106 127 (ls) (st) σ = run 106 128 (ls) (vI 2 :: st) σ := (run_eq 106 127 _ _ σ).trans rfl
theorem e106_128 (ls st : List AV) (σ : St) : run 106 128 (ls) (st) σ = run 106 132 (ls) (st) σ := (run_eq 106 128 _ _ σ).trans rfl
theorem e106_131 (ls st : List AV) (σ : St) : run 106 131 (ls) (st) σ = run 106 132 (ls) (vI 0 :: st) σ := (run_eq 106 131 _ _ σ).trans rfl
theorem e106_132 (ls st : List AV) (σ : St) (z : Int) (x : Nat) (h : fok σ x 3) : run 106 132 (ls) (vI z :: vR x :: st) σ = run 106 135 (ls) (st) (sr σ x (ru (gt σ x) 14 z)) := (run_eq 106 132 _ _ σ).trans (if_pos h)
theorem e106_135 (l st : List AV) (σ : St) (x : Nat) : run 106 135 (vR x :: l) (st) σ = run 106 136 (vR x :: l) (vR x :: st) σ := (run_eq 106 135 _ _ σ).trans rfl
theorem e106_136 (ls st : List AV) (σ : St) (x : Nat) (h : fok σ x 3) : run 106 136 (ls) (vR x :: st) σ = run 106 139 (ls) (vI (gt σ x 14) :: st) σ := (run_eq 106 136 _ _ σ).trans (if_pos h)
theorem e106_139 (ls st : List AV) (σ : St) (x : Int) : run 106 139 (ls) (vI x :: st) σ = if 0 < x then run 106 142 (ls) (st) σ else run 106 147 (ls) (st) σ := (run_eq 106 139 _ _ σ).trans rfl
theorem e106_142 (l st : List AV) (σ : St) (x : Nat) : run 106 142 (vR x :: l) (st) σ = run 106 143 (vR x :: l) (vR x :: st) σ := (run_eq 106 142 _ _ σ).trans rfl
theorem e106_143 (ls st : List AV) (σ : St) (x : Nat) (h : fok σ x 3) : run 106 143 (ls) (vR x :: st) σ = run 106 146 (ls) (vI (gt σ x 15) :: st) σ := (run_eq 106 143 _ _ σ).trans (if_pos h)
theorem e106_146 (ls : List AV) (σ : St) (x : Int) : run 106 146 ls [vI x] σ = some (vI x, σ) := (run_eq 106 146 _ _ σ).trans rfl
theorem e106_147 (l st : List AV) (σ : St) (x : Nat) : run 106 147 (vR x :: l) (st) σ = run 106 148 (vR x :: l) (vR x :: st) σ := (run_eq 106 147 _ _ σ).trans rfl
theorem e106_148 (ls st : List AV) (σ : St) (x : Nat) (h : fok σ x 3) : run 106 148 (ls) (vR x :: st) σ = run 106 151 (ls) (vR (gr σ x 11) :: st) σ := (run_eq 106 148 _ _ σ).trans (if_pos h)
theorem e106_151 (a0 a1 a2 a3 : AV) (l st : List AV) (σ : St) (x : Int) : run 106 151 (a0 :: a1 :: a2 :: a3 :: vI x :: l) (st) σ = run 106 153 (a0 :: a1 :: a2 :: a3 :: vI x :: l) (vI x :: st) σ := (run_eq 106 151 _ _ σ).trans rfl
theorem e106_153 (a0 a1 a2 a3 a4 : AV) (l st : List AV) (σ : St) (x : Int) : run 106 153 (a0 :: a1 :: a2 :: a3 :: a4 :: vI x :: l) (st) σ = run 106 155 (a0 :: a1 :: a2 :: a3 :: a4 :: vI x :: l) (vI x :: st) σ := (run_eq 106 153 _ _ σ).trans rfl
theorem e106_155 (ls st : List AV) (σ : St) : run 106 155 (ls) (st) σ = run 106 157 (ls) (vI 43 :: st) σ := (run_eq 106 155 _ _ σ).trans rfl
theorem e106_157 (ls st : List AV) (σ : St) (y x : Int) : run 106 157 (ls) (vI y :: vI x :: st) σ = if x = y then run 106 160 (ls) (st) σ else run 106 172 (ls) (st) σ := (run_eq 106 157 _ _ σ).trans rfl
theorem e106_160 (l st : List AV) (σ : St) (x : Nat) : run 106 160 (vR x :: l) (st) σ = run 106 161 (vR x :: l) (vR x :: st) σ := (run_eq 106 160 _ _ σ).trans rfl
theorem e106_161 (ls st : List AV) (σ : St) (x : Nat) (h : fok σ x 3) : run 106 161 (ls) (vR x :: st) σ = run 106 164 (ls) (vR (gr σ x 11) :: st) σ := (run_eq 106 161 _ _ σ).trans (if_pos h)
theorem e106_164 (a0 a1 a2 a3 : AV) (l st : List AV) (σ : St) (x : Int) : run 106 164 (a0 :: a1 :: a2 :: a3 :: vI x :: l) (st) σ = run 106 166 (a0 :: a1 :: a2 :: a3 :: vI x :: l) (vI x :: st) σ := (run_eq 106 164 _ _ σ).trans rfl
theorem e106_166 (ls st : List AV) (σ : St) (j : Int) (x : Nat) (h : aok σ x 4 j) : run 106 166 (ls) (vI j :: vR x :: st) σ = run 106 167 (ls) (vI (gt σ x j.toNat) :: st) σ := (run_eq 106 166 _ _ σ).trans (if_pos h)
theorem e106_167 (ls st : List AV) (σ : St) : run 106 167 (ls) (st) σ = run 106 168 (ls) (vI 1 :: st) σ := (run_eq 106 167 _ _ σ).trans rfl
theorem e106_168 (ls st : List AV) (σ : St) (y x : Int) : run 106 168 (ls) (vI y :: vI x :: st) σ = run 106 169 (ls) (vI (wr (x + y)) :: st) σ := (run_eq 106 168 _ _ σ).trans rfl
theorem e106_169 (ls st : List AV) (σ : St) : run 106 169 (ls) (st) σ = run 106 194 (ls) (st) σ := (run_eq 106 169 _ _ σ).trans rfl
theorem e106_172 (a0 a1 a2 a3 a4 : AV) (l st : List AV) (σ : St) (x : Int) : run 106 172 (a0 :: a1 :: a2 :: a3 :: a4 :: vI x :: l) (st) σ = run 106 174 (a0 :: a1 :: a2 :: a3 :: a4 :: vI x :: l) (vI x :: st) σ := (run_eq 106 172 _ _ σ).trans rfl
theorem e106_174 (ls st : List AV) (σ : St) : run 106 174 (ls) (st) σ = run 106 176 (ls) (vI 42 :: st) σ := (run_eq 106 174 _ _ σ).trans rfl
theorem e106_176 (ls st : List AV) (σ : St) (y x : Int) : run 106 176 (ls) (vI y :: vI x :: st) σ = if x = y then run 106 179 (ls) (st) σ else run 106 189 (ls) (st) σ := (run_eq 106 176 _ _ σ).trans rfl
theorem e106_179 (l st : List AV) (σ : St) (x : Nat) : run 106 179 (vR x :: l) (st) σ = run 106 180 (vR x :: l) (vR x :: st) σ := (run_eq 106 179 _ _ σ).trans rfl
theorem e106_180 (ls st : List AV) (σ : St) (x : Nat) (h : fok σ x 3) : run 106 180 (ls) (vR x :: st) σ = run 106 183 (ls) (vR (gr σ x 11) :: st) σ := (run_eq 106 180 _ _ σ).trans (if_pos h)
theorem e106_183 (a0 a1 a2 a3 : AV) (l st : List AV) (σ : St) (x : Int) : run 106 183 (a0 :: a1 :: a2 :: a3 :: vI x :: l) (st) σ = run 106 185 (a0 :: a1 :: a2 :: a3 :: vI x :: l) (vI x :: st) σ := (run_eq 106 183 _ _ σ).trans rfl
theorem e106_185 (ls st : List AV) (σ : St) (j : Int) (x : Nat) (h : aok σ x 4 j) : run 106 185 (ls) (vI j :: vR x :: st) σ = run 106 186 (ls) (vI (gt σ x j.toNat) :: st) σ := (run_eq 106 185 _ _ σ).trans (if_pos h)
theorem e106_186 (ls st : List AV) (σ : St) : run 106 186 (ls) (st) σ = run 106 194 (ls) (st) σ := (run_eq 106 186 _ _ σ).trans rfl
theorem e106_189 (a0 a1 a2 a3 a4 : AV) (l st : List AV) (σ : St) (x : Int) : run 106 189 (a0 :: a1 :: a2 :: a3 :: a4 :: vI x :: l) (st) σ = run 106 191 (a0 :: a1 :: a2 :: a3 :: a4 :: vI x :: l) (vI x :: st) σ := (run_eq 106 189 _ _ σ).trans rfl
theorem e106_191 (ls st : List AV) (σ : St) : run 106 191 (ls) (st) σ = run 106 193 (ls) (vI 48 :: st) σ := (run_eq 106 191 _ _ σ).trans rfl
theorem e106_193 (ls st : List AV) (σ : St) (y x : Int) : run 106 193 (ls) (vI y :: vI x :: st) σ = run 106 194 (ls) (vI (wr (x - y)) :: st) σ := (run_eq 106 193 _ _ σ).trans rfl
theorem e106_194 (ls st : List AV) (σ : St) (z j : Int) (x : Nat) (h : aok σ x 4 j) : run 106 194 (ls) (vI z :: vI j :: vR x :: st) σ = run 106 195 (ls) (st) (sr σ x (ru (gt σ x) j.toNat z)) := (run_eq 106 194 _ _ σ).trans (if_pos h)
theorem e106_195 (l st : List AV) (σ : St) (x : Nat) : run 106 195 (vR x :: l) (st) σ = run 106 196 (vR x :: l) (vR x :: st) σ := (run_eq 106 195 _ _ σ).trans rfl
theorem e106_196 (a0 a1 a2 a3 a4 : AV) (l st : List AV) (σ : St) (x : Int) : run 106 196 (a0 :: a1 :: a2 :: a3 :: a4 :: vI x :: l) (st) σ = run 106 198 (a0 :: a1 :: a2 :: a3 :: a4 :: vI x :: l) (vI x :: st) σ := (run_eq 106 196 _ _ σ).trans rfl
theorem e106_198 (ls st : List AV) (σ : St) : run 106 198 (ls) (st) σ = run 106 200 (ls) (vI 42 :: st) σ := (run_eq 106 198 _ _ σ).trans rfl
theorem e106_200 (ls st : List AV) (σ : St) (y x : Int) : run 106 200 (ls) (vI y :: vI x :: st) σ = if x = y then run 106 203 (ls) (st) σ else run 106 215 (ls) (st) σ := (run_eq 106 200 _ _ σ).trans rfl
theorem e106_203 (l st : List AV) (σ : St) (x : Nat) : run 106 203 (vR x :: l) (st) σ = run 106 204 (vR x :: l) (vR x :: st) σ := (run_eq 106 203 _ _ σ).trans rfl
theorem e106_204 (ls st : List AV) (σ : St) (x : Nat) (h : fok σ x 3) : run 106 204 (ls) (vR x :: st) σ = run 106 207 (ls) (vI (gt σ x 13) :: st) σ := (run_eq 106 204 _ _ σ).trans (if_pos h)
theorem e106_207 (ls st : List AV) (σ : St) : run 106 207 (ls) (st) σ = run 106 208 (ls) (vI 1 :: st) σ := (run_eq 106 207 _ _ σ).trans rfl
theorem e106_208 (a0 a1 a2 a3 : AV) (l st : List AV) (σ : St) (x : Int) : run 106 208 (a0 :: a1 :: a2 :: a3 :: vI x :: l) (st) σ = run 106 210 (a0 :: a1 :: a2 :: a3 :: vI x :: l) (vI x :: st) σ := (run_eq 106 208 _ _ σ).trans rfl
theorem e106_210 (ls st : List AV) (σ : St) (y x : Int) : run 106 210 (ls) (vI y :: vI x :: st) σ = run 106 211 (ls) (vI (bShl x y) :: st) σ := (run_eq 106 210 _ _ σ).trans rfl
theorem e106_211 (ls st : List AV) (σ : St) (y x : Int) : run 106 211 (ls) (vI y :: vI x :: st) σ = run 106 212 (ls) (vI (bXor x y) :: st) σ := (run_eq 106 211 _ _ σ).trans rfl
theorem e106_212 (ls st : List AV) (σ : St) : run 106 212 (ls) (st) σ = run 106 219 (ls) (st) σ := (run_eq 106 212 _ _ σ).trans rfl
theorem e106_215 (l st : List AV) (σ : St) (x : Nat) : run 106 215 (vR x :: l) (st) σ = run 106 216 (vR x :: l) (vR x :: st) σ := (run_eq 106 215 _ _ σ).trans rfl
theorem e106_216 (ls st : List AV) (σ : St) (x : Nat) (h : fok σ x 3) : run 106 216 (ls) (vR x :: st) σ = run 106 219 (ls) (vI (gt σ x 13) :: st) σ := (run_eq 106 216 _ _ σ).trans (if_pos h)
theorem e106_219 (ls st : List AV) (σ : St) (z : Int) (x : Nat) (h : fok σ x 3) : run 106 219 (ls) (vI z :: vR x :: st) σ = run 106 222 (ls) (st) (sr σ x (ru (gt σ x) 13 z)) := (run_eq 106 219 _ _ σ).trans (if_pos h)
theorem e106_222 (a0 a1 : AV) (l st : List AV) (σ : St) (x : Int) : run 106 222 (a0 :: a1 :: vI x :: l) (st) σ = run 106 225 (a0 :: a1 :: vI (wr (x + 2)) :: l) (st) σ := (run_eq 106 222 _ _ σ).trans rfl
theorem e106_225 (l st : List AV) (σ : St) (x : Nat) : run 106 225 (vR x :: l) (st) σ = run 106 226 (vR x :: l) (vR x :: st) σ := (run_eq 106 225 _ _ σ).trans rfl
theorem e106_226 (l st : List AV) (σ : St) (x : Nat) : run 106 226 (vR x :: l) (st) σ = run 106 227 (vR x :: l) (vR x :: st) σ := (run_eq 106 226 _ _ σ).trans rfl
theorem e106_227 (ls st : List AV) (σ : St) (x : Nat) (h : fok σ x 3) : run 106 227 (ls) (vR x :: st) σ = run 106 230 (ls) (vI (gt σ x 16) :: st) σ := (run_eq 106 227 _ _ σ).trans (if_pos h)
theorem e106_230 (ls st : List AV) (σ : St) (x : Int) : run 106 230 (ls) (vI x :: st) σ = if x < 0 then run 106 233 (ls) (st) σ else run 106 252 (ls) (st) σ := (run_eq 106 230 _ _ σ).trans rfl
theorem e106_233 (a0 : AV) (l st : List AV) (σ : St) (x : Int) : run 106 233 (a0 :: vI x :: l) (st) σ = run 106 234 (a0 :: vI x :: l) (vI x :: st) σ := (run_eq 106 233 _ _ σ).trans rfl
theorem e106_234 (ls st : List AV) (σ : St) (x : Int) : run 106 234 (ls) (vI x :: st) σ = if x < 0 then run 106 252 (ls) (st) σ else run 106 237 (ls) (st) σ := (run_eq 106 234 _ _ σ).trans rfl
theorem e106_237 (l st : List AV) (σ : St) (x : Nat) : run 106 237 (vR x :: l) (st) σ = run 106 238 (vR x :: l) (vR x :: st) σ := (run_eq 106 237 _ _ σ).trans rfl
theorem e106_238 (a0 : AV) (l st : List AV) (σ : St) (x : Int) : run 106 238 (a0 :: vI x :: l) (st) σ = run 106 239 (a0 :: vI x :: l) (vI x :: st) σ := (run_eq 106 238 _ _ σ).trans rfl
theorem e106_239 (ls st : List AV) (σ : St) (x0 : Nat) (x1 : Int) (h4 : st.length ≤ 4) (h : fok σ x0 3) : run 106 239 ls (vI x1 :: vR x0 :: st) σ = bnd (run 111 0 [vR x0, vI x1, vU, vU, vU] [] σ) (fun r σ => run 106 242 ls (psh r st) σ) := (run_eq 106 239 _ _ σ).trans (if_pos ⟨rfl, by simp, by simpa using h4, rfl, h⟩)
theorem e106_242 (ls st : List AV) (σ : St) (x : Int) : run 106 242 (ls) (vI x :: st) σ = if x = 0 then run 106 245 (ls) (st) σ else run 106 252 (ls) (st) σ := (run_eq 106 242 _ _ σ).trans rfl
theorem e106_245 (l st : List AV) (σ : St) (x : Nat) : run 106 245 (vR x :: l) (st) σ = run 106 246 (vR x :: l) (vR x :: st) σ := (run_eq 106 245 _ _ σ).trans rfl
theorem e106_246 (ls st : List AV) (σ : St) (x : Nat) (h : fok σ x 3) : run 106 246 (ls) (vR x :: st) σ = run 106 249 (ls) (vI (gt σ x 15) :: st) σ := (run_eq 106 246 _ _ σ).trans (if_pos h)
theorem e106_249 (ls st : List AV) (σ : St) : run 106 249 (ls) (st) σ = run 106 256 (ls) (st) σ := (run_eq 106 249 _ _ σ).trans rfl
theorem e106_252 (l st : List AV) (σ : St) (x : Nat) : run 106 252 (vR x :: l) (st) σ = run 106 253 (vR x :: l) (vR x :: st) σ := (run_eq 106 252 _ _ σ).trans rfl
theorem e106_253 (ls st : List AV) (σ : St) (x : Nat) (h : fok σ x 3) : run 106 253 (ls) (vR x :: st) σ = run 106 256 (ls) (vI (gt σ x 16) :: st) σ := (run_eq 106 253 _ _ σ).trans (if_pos h)
theorem e106_256 (ls st : List AV) (σ : St) (z : Int) (x : Nat) (h : fok σ x 3) : run 106 256 (ls) (vI z :: vR x :: st) σ = run 106 259 (ls) (st) (sr σ x (ru (gt σ x) 16 z)) := (run_eq 106 256 _ _ σ).trans (if_pos h)
theorem e106_259 (l st : List AV) (σ : St) (x : Nat) : run 106 259 (vR x :: l) (st) σ = run 106 260 (vR x :: l) (vR x :: st) σ := (run_eq 106 259 _ _ σ).trans rfl
theorem e106_260 (ls st : List AV) (σ : St) (x : Nat) : run 106 260 ls (vR x :: st) σ = run 106 261 ls (vR x :: vR x :: st) σ := (run_eq 106 260 _ _ σ).trans rfl
theorem e106_261 (ls st : List AV) (σ : St) (x : Nat) (h : fok σ x 3) : run 106 261 (ls) (vR x :: st) σ = run 106 264 (ls) (vI (gt σ x 15) :: st) σ := (run_eq 106 261 _ _ σ).trans (if_pos h)
theorem e106_264 (ls st : List AV) (σ : St) : run 106 264 (ls) (st) σ = run 106 265 (ls) (vI 1 :: st) σ := (run_eq 106 264 _ _ σ).trans rfl
theorem e106_265 (ls st : List AV) (σ : St) (y x : Int) : run 106 265 (ls) (vI y :: vI x :: st) σ = run 106 266 (ls) (vI (wr (x + y)) :: st) σ := (run_eq 106 265 _ _ σ).trans rfl
theorem e106_266 (ls st : List AV) (σ : St) (z : Int) (x : Nat) (h : fok σ x 3) : run 106 266 (ls) (vI z :: vR x :: st) σ = run 106 269 (ls) (st) (sr σ x (ru (gt σ x) 15 z)) := (run_eq 106 266 _ _ σ).trans (if_pos h)
theorem e106_269 (ls st : List AV) (σ : St) : run 106 269 (ls) (st) σ = run 106 17 (ls) (st) σ := (run_eq 106 269 _ _ σ).trans rfl
theorem e106_272 (ls st : List AV) (σ : St) : run 106 272 (ls) (st) σ = run 106 274 (ls) (vI (-6) :: st) σ := (run_eq 106 272 _ _ σ).trans rfl
theorem e106_274 (ls : List AV) (σ : St) (x : Int) : run 106 274 ls [vI x] σ = some (vI x, σ) := (run_eq 106 274 _ _ σ).trans rfl
/-! M_asNow -/
theorem e107_0 (ls st : List AV) (σ : St) : run 107 0 (ls) (st) σ = run 107 1 (ls) (vI 0 :: st) σ := (run_eq 107 0 _ _ σ).trans rfl
theorem e107_1 (a0 : AV) (l st : List AV) (σ : St) (q : AV) (x : Int) : run 107 1 (a0 :: q :: l) (vI x :: st) σ = run 107 2 (a0 :: vI x :: l) (st) σ := (run_eq 107 1 _ _ σ).trans rfl
theorem e107_2 (a0 : AV) (l st : List AV) (σ : St) (x : Int) : run 107 2 (a0 :: vI x :: l) (st) σ = run 107 3 (a0 :: vI x :: l) (vI x :: st) σ := (run_eq 107 2 _ _ σ).trans rfl
theorem e107_3 (ls st : List AV) (σ : St) : run 107 3 (ls) (st) σ = run 107 5 (ls) (vI 24 :: st) σ := (run_eq 107 3 _ _ σ).trans rfl
theorem e107_5 (ls st : List AV) (σ : St) (y x : Int) : run 107 5 (ls) (vI y :: vI x :: st) σ = if x < y then run 107 8 (ls) (st) σ else run 107 26 (ls) (st) σ := (run_eq 107 5 _ _ σ).trans rfl
theorem e107_8 (l st : List AV) (σ : St) (x : Nat) : run 107 8 (vR x :: l) (st) σ = run 107 9 (vR x :: l) (vR x :: st) σ := (run_eq 107 8 _ _ σ).trans rfl
theorem e107_9 (ls st : List AV) (σ : St) (x : Nat) (h : fok σ x 3) : run 107 9 (ls) (vR x :: st) σ = run 107 12 (ls) (vR (gr σ x 11) :: st) σ := (run_eq 107 9 _ _ σ).trans (if_pos h)
theorem e107_12 (a0 : AV) (l st : List AV) (σ : St) (x : Int) : run 107 12 (a0 :: vI x :: l) (st) σ = run 107 13 (a0 :: vI x :: l) (vI x :: st) σ := (run_eq 107 12 _ _ σ).trans rfl
theorem e107_13 (l st : List AV) (σ : St) (x : Nat) : run 107 13 (vR x :: l) (st) σ = run 107 14 (vR x :: l) (vR x :: st) σ := (run_eq 107 13 _ _ σ).trans rfl
theorem e107_14 (ls st : List AV) (σ : St) (x : Nat) (h : fok σ x 3) : run 107 14 (ls) (vR x :: st) σ = run 107 17 (ls) (vR (gr σ x 2) :: st) σ := (run_eq 107 14 _ _ σ).trans (if_pos h)
theorem e107_17 (a0 : AV) (l st : List AV) (σ : St) (x : Int) : run 107 17 (a0 :: vI x :: l) (st) σ = run 107 18 (a0 :: vI x :: l) (vI x :: st) σ := (run_eq 107 17 _ _ σ).trans rfl
theorem e107_18 (ls st : List AV) (σ : St) (j : Int) (x : Nat) (h : aok σ x 4 j) : run 107 18 (ls) (vI j :: vR x :: st) σ = run 107 19 (ls) (vI (gt σ x j.toNat) :: st) σ := (run_eq 107 18 _ _ σ).trans (if_pos h)
theorem e107_19 (ls st : List AV) (σ : St) (z j : Int) (x : Nat) (h : aok σ x 4 j) : run 107 19 (ls) (vI z :: vI j :: vR x :: st) σ = run 107 20 (ls) (st) (sr σ x (ru (gt σ x) j.toNat z)) := (run_eq 107 19 _ _ σ).trans (if_pos h)
theorem e107_20 (a0 : AV) (l st : List AV) (σ : St) (x : Int) : run 107 20 (a0 :: vI x :: l) (st) σ = run 107 23 (a0 :: vI (wr (x + 1)) :: l) (st) σ := (run_eq 107 20 _ _ σ).trans rfl
theorem e107_23 (ls st : List AV) (σ : St) : run 107 23 (ls) (st) σ = run 107 2 (ls) (st) σ := (run_eq 107 23 _ _ σ).trans rfl
theorem e107_26 (l st : List AV) (σ : St) (x : Nat) : run 107 26 (vR x :: l) (st) σ = run 107 27 (vR x :: l) (vR x :: st) σ := (run_eq 107 26 _ _ σ).trans rfl
theorem e107_27 (l st : List AV) (σ : St) (x : Nat) : run 107 27 (vR x :: l) (st) σ = run 107 28 (vR x :: l) (vR x :: st) σ := (run_eq 107 27 _ _ σ).trans rfl
theorem e107_28 (ls st : List AV) (σ : St) (x : Nat) (h : fok σ x 3) : run 107 28 (ls) (vR x :: st) σ = run 107 31 (ls) (vI (gt σ x 3) :: st) σ := (run_eq 107 28 _ _ σ).trans (if_pos h)
theorem e107_31 (ls st : List AV) (σ : St) (z : Int) (x : Nat) (h : fok σ x 3) : run 107 31 (ls) (vI z :: vR x :: st) σ = run 107 34 (ls) (st) (sr σ x (ru (gt σ x) 13 z)) := (run_eq 107 31 _ _ σ).trans (if_pos h)
theorem e107_34 (ls : List AV) (σ : St) : run 107 34 ls [] σ = some (vU, σ) := (run_eq 107 34 _ _ σ).trans rfl
/-! M_pass -/
theorem e108_0 (ls st : List AV) (σ : St) : run 108 0 (ls) (st) σ = run 108 1 (ls) (vI 0 :: st) σ := (run_eq 108 0 _ _ σ).trans rfl
theorem e108_1 (a0 a1 : AV) (l st : List AV) (σ : St) (q : AV) (x : Int) : run 108 1 (a0 :: a1 :: q :: l) (vI x :: st) σ = run 108 2 (a0 :: a1 :: vI x :: l) (st) σ := (run_eq 108 1 _ _ σ).trans rfl
theorem e108_2 (a0 a1 : AV) (l st : List AV) (σ : St) (x : Int) : run 108 2 (a0 :: a1 :: vI x :: l) (st) σ = run 108 3 (a0 :: a1 :: vI x :: l) (vI x :: st) σ := (run_eq 108 2 _ _ σ).trans rfl
theorem e108_3 (l st : List AV) (σ : St) (x : Nat) : run 108 3 (vR x :: l) (st) σ = run 108 4 (vR x :: l) (vR x :: st) σ := (run_eq 108 3 _ _ σ).trans rfl
theorem e108_4 (ls st : List AV) (σ : St) (x0 : Nat) (h4 : st.length ≤ 4) (h : fok σ x0 3) : run 108 4 ls (vR x0 :: st) σ = bnd (run 95 0 [vR x0] [] σ) (fun r σ => run 108 7 ls (psh r st) σ) := (run_eq 108 4 _ _ σ).trans (if_pos ⟨rfl, by simp, by simpa using h4, rfl, h⟩)
theorem e108_7 (ls st : List AV) (σ : St) (y x : Int) : run 108 7 (ls) (vI y :: vI x :: st) σ = if x < y then run 108 10 (ls) (st) σ else run 108 112 (ls) (st) σ := (run_eq 108 7 _ _ σ).trans rfl
theorem e108_10 (l st : List AV) (σ : St) (x : Nat) : run 108 10 (vR x :: l) (st) σ = run 108 11 (vR x :: l) (vR x :: st) σ := (run_eq 108 10 _ _ σ).trans rfl
theorem e108_11 (ls st : List AV) (σ : St) (x : Nat) (h : fok σ x 3) : run 108 11 (ls) (vR x :: st) σ = run 108 14 (ls) (vI (gt σ x 13) :: st) σ := (run_eq 108 11 _ _ σ).trans (if_pos h)
theorem e108_14 (a0 a1 : AV) (l st : List AV) (σ : St) (x : Int) : run 108 14 (a0 :: a1 :: vI x :: l) (st) σ = run 108 15 (a0 :: a1 :: vI x :: l) (vI x :: st) σ := (run_eq 108 14 _ _ σ).trans rfl
theorem e108_15 (ls st : List AV) (σ : St) (x0 : Int) (x1 : Int) (h4 : st.length ≤ 4) : run 108 15 ls (vI x1 :: vI x0 :: st) σ = bnd (run 109 0 [vI x0, vI x1] [] σ) (fun r σ => run 108 18 ls (psh r st) σ) := (run_eq 108 15 _ _ σ).trans (if_pos ⟨rfl, by simp, by simpa using h4⟩)
theorem e108_18 (ls st : List AV) (σ : St) (x : Int) : run 108 18 (ls) (vI x :: st) σ = if x = 0 then run 108 25 (ls) (st) σ else run 108 21 (ls) (st) σ := (run_eq 108 18 _ _ σ).trans rfl
theorem e108_21 (ls st : List AV) (σ : St) : run 108 21 (ls) (st) σ = run 108 22 (ls) (vI 2 :: st) σ := (run_eq 108 21 _ _ σ).trans rfl
theorem e108_22 (ls st : List AV) (σ : St) : run 108 22 (ls) (st) σ = run 108 26 (ls) (st) σ := (run_eq 108 22 _ _ σ).trans rfl
theorem e108_25 (ls st : List AV) (σ : St) : run 108 25 (ls) (st) σ = run 108 26 (ls) (vI 0 :: st) σ := (run_eq 108 25 _ _ σ).trans rfl
theorem e108_26 (a0 a1 a2 : AV) (l st : List AV) (σ : St) (q : AV) (x : Int) : run 108 26 (a0 :: a1 :: a2 :: q :: l) (vI x :: st) σ = run 108 27 (a0 :: a1 :: a2 :: vI x :: l) (st) σ := (run_eq 108 26 _ _ σ).trans rfl
theorem e108_27 (ls st : List AV) (σ : St) : run 108 27 (ls) (st) σ = run 108 28 (ls) (vI 0 :: st) σ := (run_eq 108 27 _ _ σ).trans rfl
theorem e108_28 (a0 a1 a2 a3 : AV) (l st : List AV) (σ : St) (q : AV) (x : Int) : run 108 28 (a0 :: a1 :: a2 :: a3 :: q :: l) (vI x :: st) σ = run 108 30 (a0 :: a1 :: a2 :: a3 :: vI x :: l) (st) σ := (run_eq 108 28 _ _ σ).trans rfl
theorem e108_30 (a0 a1 a2 a3 : AV) (l st : List AV) (σ : St) (x : Int) : run 108 30 (a0 :: a1 :: a2 :: a3 :: vI x :: l) (st) σ = run 108 32 (a0 :: a1 :: a2 :: a3 :: vI x :: l) (vI x :: st) σ := (run_eq 108 30 _ _ σ).trans rfl
theorem e108_32 (ls st : List AV) (σ : St) : run 108 32 (ls) (st) σ = run 108 33 (ls) (vI 4 :: st) σ := (run_eq 108 32 _ _ σ).trans rfl
theorem e108_33 (ls st : List AV) (σ : St) (y x : Int) : run 108 33 (ls) (vI y :: vI x :: st) σ = if x < y then run 108 36 (ls) (st) σ else run 108 78 (ls) (st) σ := (run_eq 108 33 _ _ σ).trans rfl
theorem e108_36 (l st : List AV) (σ : St) (x : Nat) : run 108 36 (vR x :: l) (st) σ = run 108 37 (vR x :: l) (vR x :: st) σ := (run_eq 108 36 _ _ σ).trans rfl
theorem e108_37 (a0 a1 : AV) (l st : List AV) (σ : St) (x : Int) : run 108 37 (a0 :: a1 :: vI x :: l) (st) σ = run 108 38 (a0 :: a1 :: vI x :: l) (vI x :: st) σ := (run_eq 108 37 _ _ σ).trans rfl
theorem e108_38 (a0 a1 a2 a3 : AV) (l st : List AV) (σ : St) (x : Int) : run 108 38 (a0 :: a1 :: a2 :: a3 :: vI x :: l) (st) σ = run 108 40 (a0 :: a1 :: a2 :: a3 :: vI x :: l) (vI x :: st) σ := (run_eq 108 38 _ _ σ).trans rfl
theorem e108_40 (ls st : List AV) (σ : St) (x0 : Nat) (x1 : Int) (x2 : Int) (h4 : st.length ≤ 4) (h : fok σ x0 3) : run 108 40 ls (vI x2 :: vI x1 :: vR x0 :: st) σ = bnd (run 110 0 [vR x0, vI x1, vI x2, vU, vU] [] σ) (fun r σ => run 108 43 ls (psh r st) σ) := (run_eq 108 40 _ _ σ).trans (if_pos ⟨rfl, by simp, by simpa using h4, rfl, h⟩)
theorem e108_43 (a0 a1 a2 a3 a4 : AV) (l st : List AV) (σ : St) (q : AV) (x : Int) : run 108 43 (a0 :: a1 :: a2 :: a3 :: a4 :: q :: l) (vI x :: st) σ = run 108 45 (a0 :: a1 :: a2 :: a3 :: a4 :: vI x :: l) (st) σ := (run_eq 108 43 _ _ σ).trans rfl
theorem e108_45 (a0 a1 a2 : AV) (l st : List AV) (σ : St) (x : Int) : run 108 45 (a0 :: a1 :: a2 :: vI x :: l) (st) σ = run 108 46 (a0 :: a1 :: a2 :: vI x :: l) (vI x :: st) σ := (run_eq 108 45 _ _ σ).trans rfl
theorem e108_46 (ls st : List AV) (σ : St) (x : Int) : run 108 46 (ls) (vI x :: st) σ = if x = 0 then run 108 49 (ls) (st) σ else run 108 70 (ls) (st) σ := (run_eq 108 46 _ _ σ).trans rfl
theorem e108_49 (a0 a1 a2 a3 a4 : AV) (l st : List AV) (σ : St) (x : Int) : run 108 49 (a0 :: a1 :: a2 :: a3 :: a4 :: vI x :: l) (st) σ = run 108 51 (a0 :: a1 :: a2 :: a3 :: a4 :: vI x :: l) (vI x :: st) σ := (run_eq 108 49 _ _ σ).trans rfl
theorem e108_51 (ls st : List AV) (σ : St) (x : Int) : run 108 51 (ls) (vI x :: st) σ = if x < 0 then run 108 70 (ls) (st) σ else run 108 54 (ls) (st) σ := (run_eq 108 51 _ _ σ).trans rfl
theorem e108_54 (l st : List AV) (σ : St) (x : Nat) : run 108 54 (vR x :: l) (st) σ = run 108 55 (vR x :: l) (vR x :: st) σ := (run_eq 108 54 _ _ σ).trans rfl
theorem e108_55 (ls st : List AV) (σ : St) (x : Nat) (h : fok σ x 3) : run 108 55 (ls) (vR x :: st) σ = run 108 58 (ls) (vI (gt σ x 13) :: st) σ := (run_eq 108 55 _ _ σ).trans (if_pos h)
theorem e108_58 (a0 a1 a2 a3 a4 : AV) (l st : List AV) (σ : St) (x : Int) : run 108 58 (a0 :: a1 :: a2 :: a3 :: a4 :: vI x :: l) (st) σ = run 108 60 (a0 :: a1 :: a2 :: a3 :: a4 :: vI x :: l) (vI x :: st) σ := (run_eq 108 58 _ _ σ).trans rfl
theorem e108_60 (ls st : List AV) (σ : St) (x0 : Int) (x1 : Int) (h4 : st.length ≤ 4) : run 108 60 ls (vI x1 :: vI x0 :: st) σ = bnd (run 109 0 [vI x0, vI x1] [] σ) (fun r σ => run 108 63 ls (psh r st) σ) := (run_eq 108 60 _ _ σ).trans (if_pos ⟨rfl, by simp, by simpa using h4⟩)
theorem e108_63 (ls st : List AV) (σ : St) (x : Int) : run 108 63 (ls) (vI x :: st) σ = if x = 0 then run 108 70 (ls) (st) σ else run 108 66 (ls) (st) σ := (run_eq 108 63 _ _ σ).trans rfl
theorem e108_66 (ls st : List AV) (σ : St) : run 108 66 (ls) (st) σ = run 108 67 (ls) (vI 1 :: st) σ := (run_eq 108 66 _ _ σ).trans rfl
theorem e108_67 (ls st : List AV) (σ : St) : run 108 67 (ls) (st) σ = run 108 71 (ls) (st) σ := (run_eq 108 67 _ _ σ).trans rfl
theorem e108_70 (a0 a1 a2 : AV) (l st : List AV) (σ : St) (x : Int) : run 108 70 (a0 :: a1 :: a2 :: vI x :: l) (st) σ = run 108 71 (a0 :: a1 :: a2 :: vI x :: l) (vI x :: st) σ := (run_eq 108 70 _ _ σ).trans rfl
theorem e108_71 (a0 a1 a2 : AV) (l st : List AV) (σ : St) (q : AV) (x : Int) : run 108 71 (a0 :: a1 :: a2 :: q :: l) (vI x :: st) σ = run 108 72 (a0 :: a1 :: a2 :: vI x :: l) (st) σ := (run_eq 108 71 _ _ σ).trans rfl
theorem e108_72 (a0 a1 a2 a3 : AV) (l st : List AV) (σ : St) (x : Int) : run 108 72 (a0 :: a1 :: a2 :: a3 :: vI x :: l) (st) σ = run 108 75 (a0 :: a1 :: a2 :: a3 :: vI (wr (x + 1)) :: l) (st) σ := (run_eq 108 72 _ _ σ).trans rfl
theorem e108_75 (ls st : List AV) (σ : St) : run 108 75 (ls) (st) σ = run 108 30 (ls) (st) σ := (run_eq 108 75 _ _ σ).trans rfl
theorem e108_78 (l st : List AV) (σ : St) (x : Nat) : run 108 78 (vR x :: l) (st) σ = run 108 79 (vR x :: l) (vR x :: st) σ := (run_eq 108 78 _ _ σ).trans rfl
theorem e108_79 (ls st : List AV) (σ : St) (x : Nat) (h : fok σ x 3) : run 108 79 (ls) (vR x :: st) σ = run 108 82 (ls) (vR (gr σ x 11) :: st) σ := (run_eq 108 79 _ _ σ).trans (if_pos h)
theorem e108_82 (a0 a1 : AV) (l st : List AV) (σ : St) (x : Int) : run 108 82 (a0 :: a1 :: vI x :: l) (st) σ = run 108 83 (a0 :: a1 :: vI x :: l) (vI x :: st) σ := (run_eq 108 82 _ _ σ).trans rfl
theorem e108_83 (l st : List AV) (σ : St) (x : Nat) : run 108 83 (vR x :: l) (st) σ = run 108 84 (vR x :: l) (vR x :: st) σ := (run_eq 108 83 _ _ σ).trans rfl
theorem e108_84 (ls st : List AV) (σ : St) (x : Nat) (h : fok σ x 3) : run 108 84 (ls) (vR x :: st) σ = run 108 87 (ls) (vR (gr σ x 11) :: st) σ := (run_eq 108 84 _ _ σ).trans (if_pos h)
theorem e108_87 (a0 a1 : AV) (l st : List AV) (σ : St) (x : Int) : run 108 87 (a0 :: a1 :: vI x :: l) (st) σ = run 108 88 (a0 :: a1 :: vI x :: l) (vI x :: st) σ := (run_eq 108 87 _ _ σ).trans rfl
theorem e108_88 (ls st : List AV) (σ : St) (j : Int) (x : Nat) (h : aok σ x 4 j) : run 108 88 (ls) (vI j :: vR x :: st) σ = run 108 89 (ls) (vI (gt σ x j.toNat) :: st) σ := (run_eq 108 88 _ _ σ).trans (if_pos h)
theorem e108_89 (a0 a1 a2 : AV) (l st : List AV) (σ : St) (x : Int) : run 108 89 (a0 :: a1 :: a2 :: vI x :: l) (st) σ = run 108 90 (a0 :: a1 :: a2 :: vI x :: l) (vI x :: st) σ := (run_eq 108 89 _ _ σ).trans rfl
theorem e108_90 (ls st : List AV) (σ : St) (y x : Int) : run 108 90 (ls) (vI y :: vI x :: st) σ = if y < x then run 108 93 (ls) (st) σ else run 108 104 (ls) (st) σ := (run_eq 108 90 _ _ σ).trans rfl
theorem e108_93 (l st : List AV) (σ : St) (x : Nat) : run 108 93 (vR x :: l) (st) σ = run 108 94 (vR x :: l) (vR x :: st) σ := (run_eq 108 93 _ _ σ).trans rfl
theorem e108_94 (ls st : List AV) (σ : St) (x : Nat) (h : fok σ x 3) : run 108 94 (ls) (vR x :: st) σ = run 108 97 (ls) (vR (gr σ x 11) :: st) σ := (run_eq 108 94 _ _ σ).trans (if_pos h)
theorem e108_97 (a0 a1 : AV) (l st : List AV) (σ : St) (x : Int) : run 108 97 (a0 :: a1 :: vI x :: l) (st) σ = run 108 98 (a0 :: a1 :: vI x :: l) (vI x :: st) σ := (run_eq 108 97 _ _ σ).trans rfl
theorem e108_98 (ls st : List AV) (σ : St) (j : Int) (x : Nat) (h : aok σ x 4 j) : run 108 98 (ls) (vI j :: vR x :: st) σ = run 108 99 (ls) (vI (gt σ x j.toNat) :: st) σ := (run_eq 108 98 _ _ σ).trans (if_pos h)
theorem e108_99 (a0 a1 a2 : AV) (l st : List AV) (σ : St) (x : Int) : run 108 99 (a0 :: a1 :: a2 :: vI x :: l) (st) σ = run 108 100 (a0 :: a1 :: a2 :: vI x :: l) (vI x :: st) σ := (run_eq 108 99 _ _ σ).trans rfl
theorem e108_100 (ls st : List AV) (σ : St) (y x : Int) : run 108 100 (ls) (vI y :: vI x :: st) σ = run 108 101 (ls) (vI (wr (x - y)) :: st) σ := (run_eq 108 100 _ _ σ).trans rfl
theorem e108_101 (ls st : List AV) (σ : St) : run 108 101 (ls) (st) σ = run 108 105 (ls) (st) σ := (run_eq 108 101 _ _ σ).trans rfl
theorem e108_104 (ls st : List AV) (σ : St) : run 108 104 (ls) (st) σ = run 108 105 (ls) (vI 0 :: st) σ := (run_eq 108 104 _ _ σ).trans rfl
theorem e108_105 (ls st : List AV) (σ : St) (z j : Int) (x : Nat) (h : aok σ x 4 j) : run 108 105 (ls) (vI z :: vI j :: vR x :: st) σ = run 108 106 (ls) (st) (sr σ x (ru (gt σ x) j.toNat z)) := (run_eq 108 105 _ _ σ).trans (if_pos h)
theorem e108_106 (a0 a1 : AV) (l st : List AV) (σ : St) (x : Int) : run 108 106 (a0 :: a1 :: vI x :: l) (st) σ = run 108 109 (a0 :: a1 :: vI (wr (x + 1)) :: l) (st) σ := (run_eq 108 106 _ _ σ).trans rfl
theorem e108_109 (ls st : List AV) (σ : St) : run 108 109 (ls) (st) σ = run 108 2 (ls) (st) σ := (run_eq 108 109 _ _ σ).trans rfl
theorem e108_112 (ls st : List AV) (σ : St) : run 108 112 (ls) (st) σ = run 108 113 (ls) (vI 0 :: st) σ := (run_eq 108 112 _ _ σ).trans rfl
theorem e108_113 (a0 a1 : AV) (l st : List AV) (σ : St) (q : AV) (x : Int) : run 108 113 (a0 :: a1 :: q :: l) (vI x :: st) σ = run 108 114 (a0 :: a1 :: vI x :: l) (st) σ := (run_eq 108 113 _ _ σ).trans rfl
theorem e108_114 (a0 a1 : AV) (l st : List AV) (σ : St) (x : Int) : run 108 114 (a0 :: a1 :: vI x :: l) (st) σ = run 108 115 (a0 :: a1 :: vI x :: l) (vI x :: st) σ := (run_eq 108 114 _ _ σ).trans rfl
theorem e108_115 (l st : List AV) (σ : St) (x : Nat) : run 108 115 (vR x :: l) (st) σ = run 108 116 (vR x :: l) (vR x :: st) σ := (run_eq 108 115 _ _ σ).trans rfl
theorem e108_116 (ls st : List AV) (σ : St) (x0 : Nat) (h4 : st.length ≤ 4) (h : fok σ x0 3) : run 108 116 ls (vR x0 :: st) σ = bnd (run 95 0 [vR x0] [] σ) (fun r σ => run 108 119 ls (psh r st) σ) := (run_eq 108 116 _ _ σ).trans (if_pos ⟨rfl, by simp, by simpa using h4, rfl, h⟩)
theorem e108_119 (ls st : List AV) (σ : St) (y x : Int) : run 108 119 (ls) (vI y :: vI x :: st) σ = if x < y then run 108 122 (ls) (st) σ else run 108 140 (ls) (st) σ := (run_eq 108 119 _ _ σ).trans rfl
theorem e108_122 (l st : List AV) (σ : St) (x : Nat) : run 108 122 (vR x :: l) (st) σ = run 108 123 (vR x :: l) (vR x :: st) σ := (run_eq 108 122 _ _ σ).trans rfl
theorem e108_123 (ls st : List AV) (σ : St) (x : Nat) (h : fok σ x 3) : run 108 123 (ls) (vR x :: st) σ = run 108 126 (ls) (vR (gr σ x 12) :: st) σ := (run_eq 108 123 _ _ σ).trans (if_pos h)
theorem e108_126 (a0 a1 : AV) (l st : List AV) (σ : St) (x : Int) : run 108 126 (a0 :: a1 :: vI x :: l) (st) σ = run 108 127 (a0 :: a1 :: vI x :: l) (vI x :: st) σ := (run_eq 108 126 _ _ σ).trans rfl
theorem e108_127 (l st : List AV) (σ : St) (x : Nat) : run 108 127 (vR x :: l) (st) σ = run 108 128 (vR x :: l) (vR x :: st) σ := (run_eq 108 127 _ _ σ).trans rfl
theorem e108_128 (ls st : List AV) (σ : St) (x : Nat) (h : fok σ x 3) : run 108 128 (ls) (vR x :: st) σ = run 108 131 (ls) (vR (gr σ x 11) :: st) σ := (run_eq 108 128 _ _ σ).trans (if_pos h)
theorem e108_131 (a0 a1 : AV) (l st : List AV) (σ : St) (x : Int) : run 108 131 (a0 :: a1 :: vI x :: l) (st) σ = run 108 132 (a0 :: a1 :: vI x :: l) (vI x :: st) σ := (run_eq 108 131 _ _ σ).trans rfl
theorem e108_132 (ls st : List AV) (σ : St) (j : Int) (x : Nat) (h : aok σ x 4 j) : run 108 132 (ls) (vI j :: vR x :: st) σ = run 108 133 (ls) (vI (gt σ x j.toNat) :: st) σ := (run_eq 108 132 _ _ σ).trans (if_pos h)
theorem e108_133 (ls st : List AV) (σ : St) (z j : Int) (x : Nat) (h : aok σ x 4 j) : run 108 133 (ls) (vI z :: vI j :: vR x :: st) σ = run 108 134 (ls) (st) (sr σ x (ru (gt σ x) j.toNat z)) := (run_eq 108 133 _ _ σ).trans (if_pos h)
theorem e108_134 (a0 a1 : AV) (l st : List AV) (σ : St) (x : Int) : run 108 134 (a0 :: a1 :: vI x :: l) (st) σ = run 108 137 (a0 :: a1 :: vI (wr (x + 1)) :: l) (st) σ := (run_eq 108 134 _ _ σ).trans rfl
theorem e108_137 (ls st : List AV) (σ : St) : run 108 137 (ls) (st) σ = run 108 114 (ls) (st) σ := (run_eq 108 137 _ _ σ).trans rfl
theorem e108_140 (ls st : List AV) (σ : St) : run 108 140 (ls) (st) σ = run 108 141 (ls) (vI 0 :: st) σ := (run_eq 108 140 _ _ σ).trans rfl
theorem e108_141 (a0 a1 : AV) (l st : List AV) (σ : St) (q : AV) (x : Int) : run 108 141 (a0 :: a1 :: q :: l) (vI x :: st) σ = run 108 142 (a0 :: a1 :: vI x :: l) (st) σ := (run_eq 108 141 _ _ σ).trans rfl
theorem e108_142 (a0 a1 : AV) (l st : List AV) (σ : St) (x : Int) : run 108 142 (a0 :: a1 :: vI x :: l) (st) σ = run 108 143 (a0 :: a1 :: vI x :: l) (vI x :: st) σ := (run_eq 108 142 _ _ σ).trans rfl
theorem e108_143 (l st : List AV) (σ : St) (x : Nat) : run 108 143 (vR x :: l) (st) σ = run 108 144 (vR x :: l) (vR x :: st) σ := (run_eq 108 143 _ _ σ).trans rfl
theorem e108_144 (ls st : List AV) (σ : St) (x0 : Nat) (h4 : st.length ≤ 4) (h : fok σ x0 3) : run 108 144 ls (vR x0 :: st) σ = bnd (run 95 0 [vR x0] [] σ) (fun r σ => run 108 147 ls (psh r st) σ) := (run_eq 108 144 _ _ σ).trans (if_pos ⟨rfl, by simp, by simpa using h4, rfl, h⟩)
theorem e108_147 (ls st : List AV) (σ : St) (y x : Int) : run 108 147 (ls) (vI y :: vI x :: st) σ = if x < y then run 108 150 (ls) (st) σ else run 108 307 (ls) (st) σ := (run_eq 108 147 _ _ σ).trans rfl
theorem e108_150 (a0 : AV) (l st : List AV) (σ : St) (x : Int) : run 108 150 (a0 :: vI x :: l) (st) σ = run 108 151 (a0 :: vI x :: l) (vI x :: st) σ := (run_eq 108 150 _ _ σ).trans rfl
theorem e108_151 (ls st : List AV) (σ : St) : run 108 151 (ls) (st) σ = run 108 152 (ls) (vI 1 :: st) σ := (run_eq 108 151 _ _ σ).trans rfl
theorem e108_152 (ls st : List AV) (σ : St) : run 108 152 (ls) (st) σ = run 108 153 (ls) (vI 4 :: st) σ := (run_eq 108 152 _ _ σ).trans rfl
theorem e108_153 (ls st : List AV) (σ : St) (x0 : Int) (x1 : Int) (x2 : Int) (h4 : st.length ≤ 4) : run 108 153 ls (vI x2 :: vI x1 :: vI x0 :: st) σ = bnd (run 92 0 [vI x0, vI x1, vI x2] [] σ) (fun r σ => run 108 156 ls (psh r st) σ) := (run_eq 108 153 _ _ σ).trans (if_pos ⟨rfl, by simp, by simpa using h4⟩)
theorem e108_156 (ls st : List AV) (σ : St) (x : Int) : run 108 156 (ls) (vI x :: st) σ = if x = 0 then run 108 249 (ls) (st) σ else run 108 159 (ls) (st) σ := (run_eq 108 156 _ _ σ).trans rfl
theorem e108_159 (l st : List AV) (σ : St) (x : Nat) : run 108 159 (vR x :: l) (st) σ = run 108 160 (vR x :: l) (vR x :: st) σ := (run_eq 108 159 _ _ σ).trans rfl
theorem e108_160 (a0 a1 : AV) (l st : List AV) (σ : St) (x : Int) : run 108 160 (a0 :: a1 :: vI x :: l) (st) σ = run 108 161 (a0 :: a1 :: vI x :: l) (vI x :: st) σ := (run_eq 108 160 _ _ σ).trans rfl
theorem e108_161 (a0 : AV) (l st : List AV) (σ : St) (x : Int) : run 108 161 (a0 :: vI x :: l) (st) σ = run 108 162 (a0 :: vI x :: l) (vI x :: st) σ := (run_eq 108 161 _ _ σ).trans rfl
theorem e108_162 (ls st : List AV) (σ : St) : run 108 162 (ls) (st) σ = run 108 163 (ls) (vI 1 :: st) σ := (run_eq 108 162 _ _ σ).trans rfl
theorem e108_163 (ls st : List AV) (σ : St) (y x : Int) : run 108 163 (ls) (vI y :: vI x :: st) σ = run 108 164 (ls) (vI (wr (x - y)) :: st) σ := (run_eq 108 163 _ _ σ).trans rfl
theorem e108_164 (ls st : List AV) (σ : St) (x0 : Nat) (x1 : Int) (x2 : Int) (h4 : st.length ≤ 4) (h : fok σ x0 3) : run 108 164 ls (vI x2 :: vI x1 :: vR x0 :: st) σ = bnd (run 110 0 [vR x0, vI x1, vI x2, vU, vU] [] σ) (fun r σ => run 108 167 ls (psh r st) σ) := (run_eq 108 164 _ _ σ).trans (if_pos ⟨rfl, by simp, by simpa using h4, rfl, h⟩)
theorem e108_167 (a0 a1 a2 : AV) (l st : List AV) (σ : St) (q : AV) (x : Int) : run 108 167 (a0 :: a1 :: a2 :: q :: l) (vI x :: st) σ = run 108 168 (a0 :: a1 :: a2 :: vI x :: l) (st) σ := (run_eq 108 167 _ _ σ).trans rfl
theorem e108_168 (a0 a1 a2 : AV) (l st : List AV) (σ : St) (x : Int) : run 108 168 (a0 :: a1 :: a2 :: vI x :: l) (st) σ = run 108 169 (a0 :: a1 :: a2 :: vI x :: l) (vI x :: st) σ := (run_eq 108 168 _ _ σ).trans rfl
theorem e108_169 (ls st : List AV) (σ : St) (x : Int) : run 108 169 (ls) (vI x :: st) σ = if x < 0 then run 108 172 (ls) (st) σ else run 108 189 (ls) (st) σ := (run_eq 108 169 _ _ σ).trans rfl
theorem e108_172 (l st : List AV) (σ : St) (x : Nat) : run 108 172 (vR x :: l) (st) σ = run 108 173 (vR x :: l) (vR x :: st) σ := (run_eq 108 172 _ _ σ).trans rfl
theorem e108_173 (ls st : List AV) (σ : St) (x : Nat) (h : fok σ x 3) : run 108 173 (ls) (vR x :: st) σ = run 108 176 (ls) (vR (gr σ x 11) :: st) σ := (run_eq 108 173 _ _ σ).trans (if_pos h)
theorem e108_176 (a0 a1 : AV) (l st : List AV) (σ : St) (x : Int) : run 108 176 (a0 :: a1 :: vI x :: l) (st) σ = run 108 177 (a0 :: a1 :: vI x :: l) (vI x :: st) σ := (run_eq 108 176 _ _ σ).trans rfl
theorem e108_177 (ls st : List AV) (σ : St) (j : Int) (x : Nat) (h : aok σ x 4 j) : run 108 177 (ls) (vI j :: vR x :: st) σ = run 108 178 (ls) (vI (gt σ x j.toNat) :: st) σ := (run_eq 108 177 _ _ σ).trans (if_pos h)
theorem e108_178 (ls st : List AV) (σ : St) (x : Int) : run 108 178 (ls) (vI x :: st) σ = if 0 < x then run 108 181 (ls) (st) σ else run 108 185 (ls) (st) σ := (run_eq 108 178 _ _ σ).trans rfl
theorem e108_181 (ls st : List AV) (σ : St) : run 108 181 (ls) (st) σ = run 108 182 (ls) (vI 1 :: st) σ := (run_eq 108 181 _ _ σ).trans rfl
theorem e108_182 (ls st : List AV) (σ : St) : run 108 182 (ls) (st) σ = run 108 209 (ls) (st) σ := (run_eq 108 182 _ _ σ).trans rfl
theorem e108_185 (ls st : List AV) (σ : St) : run 108 185 (ls) (st) σ = run 108 186 (ls) (vI 0 :: st) σ := (run_eq 108 185 _ _ σ).trans rfl
theorem e108_186 (ls st : List AV) (σ : St) : run 108 186 (ls) (st) σ = run 108 209 (ls) (st) σ := (run_eq 108 186 _ _ σ).trans rfl
theorem e108_189 (l st : List AV) (σ : St) (x : Nat) : run 108 189 (vR x :: l) (st) σ = run 108 190 (vR x :: l) (vR x :: st) σ := (run_eq 108 189 _ _ σ).trans rfl
theorem e108_190 (ls st : List AV) (σ : St) (x : Nat) (h : fok σ x 3) : run 108 190 (ls) (vR x :: st) σ = run 108 193 (ls) (vR (gr σ x 11) :: st) σ := (run_eq 108 190 _ _ σ).trans (if_pos h)
theorem e108_193 (a0 a1 a2 : AV) (l st : List AV) (σ : St) (x : Int) : run 108 193 (a0 :: a1 :: a2 :: vI x :: l) (st) σ = run 108 194 (a0 :: a1 :: a2 :: vI x :: l) (vI x :: st) σ := (run_eq 108 193 _ _ σ).trans rfl
theorem e108_194 (ls st : List AV) (σ : St) (j : Int) (x : Nat) (h : aok σ x 4 j) : run 108 194 (ls) (vI j :: vR x :: st) σ = run 108 195 (ls) (vI (gt σ x j.toNat) :: st) σ := (run_eq 108 194 _ _ σ).trans (if_pos h)
theorem e108_195 (l st : List AV) (σ : St) (x : Nat) : run 108 195 (vR x :: l) (st) σ = run 108 196 (vR x :: l) (vR x :: st) σ := (run_eq 108 195 _ _ σ).trans rfl
theorem e108_196 (ls st : List AV) (σ : St) (x : Nat) (h : fok σ x 3) : run 108 196 (ls) (vR x :: st) σ = run 108 199 (ls) (vR (gr σ x 11) :: st) σ := (run_eq 108 196 _ _ σ).trans (if_pos h)
theorem e108_199 (a0 a1 : AV) (l st : List AV) (σ : St) (x : Int) : run 108 199 (a0 :: a1 :: vI x :: l) (st) σ = run 108 200 (a0 :: a1 :: vI x :: l) (vI x :: st) σ := (run_eq 108 199 _ _ σ).trans rfl
theorem e108_200 (ls st : List AV) (σ : St) (j : Int) (x : Nat) (h : aok σ x 4 j) : run 108 200 (ls) (vI j :: vR x :: st) σ = run 108 201 (ls) (vI (gt σ x j.toNat) :: st) σ := (run_eq 108 200 _ _ σ).trans (if_pos h)
theorem e108_201 (ls st : List AV) (σ : St) (y x : Int) : run 108 201 (ls) (vI y :: vI x :: st) σ = if x < y then run 108 204 (ls) (st) σ else run 108 208 (ls) (st) σ := (run_eq 108 201 _ _ σ).trans rfl
theorem e108_204 (ls st : List AV) (σ : St) : run 108 204 (ls) (st) σ = run 108 205 (ls) (vI 1 :: st) σ := (run_eq 108 204 _ _ σ).trans rfl
theorem e108_205 (ls st : List AV) (σ : St) : run 108 205 (ls) (st) σ = run 108 209 (ls) (st) σ := (run_eq 108 205 _ _ σ).trans rfl
theorem e108_208 (ls st : List AV) (σ : St) : run 108 208 (ls) (st) σ = run 108 209 (ls) (vI 0 :: st) σ := (run_eq 108 208 _ _ σ).trans rfl
theorem e108_209 (a0 a1 a2 a3 : AV) (l st : List AV) (σ : St) (q : AV) (x : Int) : run 108 209 (a0 :: a1 :: a2 :: a3 :: q :: l) (vI x :: st) σ = run 108 211 (a0 :: a1 :: a2 :: a3 :: vI x :: l) (st) σ := (run_eq 108 209 _ _ σ).trans rfl
theorem e108_211 (l st : List AV) (σ : St) (x : Nat) : run 108 211 (vR x :: l) (st) σ = run 108 212 (vR x :: l) (vR x :: st) σ := (run_eq 108 211 _ _ σ).trans rfl
theorem e108_212 (ls st : List AV) (σ : St) (x : Nat) (h : fok σ x 3) : run 108 212 (ls) (vR x :: st) σ = run 108 215 (ls) (vR (gr σ x 12) :: st) σ := (run_eq 108 212 _ _ σ).trans (if_pos h)
theorem e108_215 (a0 a1 : AV) (l st : List AV) (σ : St) (x : Int) : run 108 215 (a0 :: a1 :: vI x :: l) (st) σ = run 108 216 (a0 :: a1 :: vI x :: l) (vI x :: st) σ := (run_eq 108 215 _ _ σ).trans rfl
theorem e108_216 (ls st : List AV) (σ : St) (y : Int) (x : Nat) : run 108 216 (ls) (vI y :: vR x :: st) σ = run 108 217 (ls) (vI y :: vR x :: vI y :: vR x :: st) σ := (run_eq 108 216 _ _ σ).trans rfl
theorem e108_217 (ls st : List AV) (σ : St) (j : Int) (x : Nat) (h : aok σ x 4 j) : run 108 217 (ls) (vI j :: vR x :: st) σ = run 108 218 (ls) (vI (gt σ x j.toNat) :: st) σ := (run_eq 108 217 _ _ σ).trans (if_pos h)
theorem e108_218 (a0 a1 a2 a3 : AV) (l st : List AV) (σ : St) (x : Int) : run 108 218 (a0 :: a1 :: a2 :: a3 :: vI x :: l) (st) σ = run 108 220 (a0 :: a1 :: a2 :: a3 :: vI x :: l) (vI x :: st) σ := (run_eq 108 218 _ _ σ).trans rfl
theorem e108_220 (ls st : List AV) (σ : St) (x : Int) : run 108 220 (ls) (vI x :: st) σ = if x = 0 then run 108 227 (ls) (st) σ else run 108 223 (ls) (st) σ := (run_eq 108 220 _ _ σ).trans rfl
theorem e108_223 (ls st : List AV) (σ : St) : run 108 223 (ls) (st) σ = run 108 224 (ls) (vI 1 :: st) σ := (run_eq 108 223 _ _ σ).trans rfl
theorem e108_224 (ls st : List AV) (σ : St) : run 108 224 (ls) (st) σ = run 108 228 (ls) (st) σ := (run_eq 108 224 _ _ σ).trans rfl
theorem e108_227 (ls st : List AV) (σ : St) : run 108 227 (ls) (st) σ = run 108 228 (ls) (vI 0 :: st) σ := (run_eq 108 227 _ _ σ).trans rfl
theorem e108_228 (ls st : List AV) (σ : St) (y x : Int) : run 108 228 (ls) (vI y :: vI x :: st) σ = run 108 229 (ls) (vI (wr (x - y)) :: st) σ := (run_eq 108 228 _ _ σ).trans rfl
theorem e108_229 (ls st : List AV) (σ : St) (z j : Int) (x : Nat) (h : aok σ x 4 j) : run 108 229 (ls) (vI z :: vI j :: vR x :: st) σ = run 108 230 (ls) (st) (sr σ x (ru (gt σ x) j.toNat z)) := (run_eq 108 229 _ _ σ).trans (if_pos h)
theorem e108_230 (a0 a1 a2 a3 : AV) (l st : List AV) (σ : St) (x : Int) : run 108 230 (a0 :: a1 :: a2 :: a3 :: vI x :: l) (st) σ = run 108 232 (a0 :: a1 :: a2 :: a3 :: vI x :: l) (vI x :: st) σ := (run_eq 108 230 _ _ σ).trans rfl
theorem e108_232 (ls st : List AV) (σ : St) (x : Int) : run 108 232 (ls) (vI x :: st) σ = if x = 0 then run 108 249 (ls) (st) σ else run 108 235 (ls) (st) σ := (run_eq 108 232 _ _ σ).trans rfl
theorem e108_235 (a0 a1 a2 : AV) (l st : List AV) (σ : St) (x : Int) : run 108 235 (a0 :: a1 :: a2 :: vI x :: l) (st) σ = run 108 236 (a0 :: a1 :: a2 :: vI x :: l) (vI x :: st) σ := (run_eq 108 235 _ _ σ).trans rfl
theorem e108_236 (ls st : List AV) (σ : St) (x : Int) : run 108 236 (ls) (vI x :: st) σ = if x < 0 then run 108 249 (ls) (st) σ else run 108 239 (ls) (st) σ := (run_eq 108 236 _ _ σ).trans rfl
theorem e108_239 (l st : List AV) (σ : St) (x : Nat) : run 108 239 (vR x :: l) (st) σ = run 108 240 (vR x :: l) (vR x :: st) σ := (run_eq 108 239 _ _ σ).trans rfl
theorem e108_240 (ls st : List AV) (σ : St) (x : Nat) (h : fok σ x 3) : run 108 240 (ls) (vR x :: st) σ = run 108 243 (ls) (vR (gr σ x 12) :: st) σ := (run_eq 108 240 _ _ σ).trans (if_pos h)
theorem e108_243 (a0 a1 a2 : AV) (l st : List AV) (σ : St) (x : Int) : run 108 243 (a0 :: a1 :: a2 :: vI x :: l) (st) σ = run 108 244 (a0 :: a1 :: a2 :: vI x :: l) (vI x :: st) σ := (run_eq 108 243 _ _ σ).trans rfl
theorem e108_244 (ls st : List AV) (σ : St) (y : Int) (x : Nat) : run 108 244 (ls) (vI y :: vR x :: st) σ = run 108 245 (ls) (vI y :: vR x :: vI y :: vR x :: st) σ := (run_eq 108 244 _ _ σ).trans rfl
theorem e108_245 (ls st : List AV) (σ : St) (j : Int) (x : Nat) (h : aok σ x 4 j) : run 108 245 (ls) (vI j :: vR x :: st) σ = run 108 246 (ls) (vI (gt σ x j.toNat) :: st) σ := (run_eq 108 245 _ _ σ).trans (if_pos h)
theorem e108_246 (ls st : List AV) (σ : St) : run 108 246 (ls) (st) σ = run 108 247 (ls) (vI 1 :: st) σ := (run_eq 108 246 _ _ σ).trans rfl
theorem e108_247 (ls st : List AV) (σ : St) (y x : Int) : run 108 247 (ls) (vI y :: vI x :: st) σ = run 108 248 (ls) (vI (wr (x + y)) :: st) σ := (run_eq 108 247 _ _ σ).trans rfl
theorem e108_248 (ls st : List AV) (σ : St) (z j : Int) (x : Nat) (h : aok σ x 4 j) : run 108 248 (ls) (vI z :: vI j :: vR x :: st) σ = run 108 249 (ls) (st) (sr σ x (ru (gt σ x) j.toNat z)) := (run_eq 108 248 _ _ σ).trans (if_pos h)
theorem e108_249 (a0 : AV) (l st : List AV) (σ : St) (x : Int) : run 108 249 (a0 :: vI x :: l) (st) σ = run 108 250 (a0 :: vI x :: l) (vI x :: st) σ := (run_eq 108 249 _ _ σ).trans rfl
theorem e108_250 (ls st : List AV) (σ : St) : run 108 250 (ls) (st) σ = run 108 251 (ls) (vI 5 :: st) σ := (run_eq 108 250 _ _ σ).trans rfl
theorem e108_251 (ls st : List AV) (σ : St) (y x : Int) : run 108 251 (ls) (vI y :: vI x :: st) σ = if x = y then run 108 254 (ls) (st) σ else run 108 301 (ls) (st) σ := (run_eq 108 251 _ _ σ).trans rfl
theorem e108_254 (a0 a1 : AV) (l st : List AV) (σ : St) (x : Int) : run 108 254 (a0 :: a1 :: vI x :: l) (st) σ = run 108 255 (a0 :: a1 :: vI x :: l) (vI x :: st) σ := (run_eq 108 254 _ _ σ).trans rfl
theorem e108_255 (l st : List AV) (σ : St) (x : Nat) : run 108 255 (vR x :: l) (st) σ = run 108 256 (vR x :: l) (vR x :: st) σ := (run_eq 108 255 _ _ σ).trans rfl
theorem e108_256 (ls st : List AV) (σ : St) (x : Nat) (h : fok σ x 3) : run 108 256 (ls) (vR x :: st) σ = run 108 259 (ls) (vI (gt σ x 1) :: st) σ := (run_eq 108 256 _ _ σ).trans (if_pos h)
theorem e108_259 (ls st : List AV) (σ : St) (y x : Int) (h : ¬ y = 0) : run 108 259 (ls) (vI y :: vI x :: st) σ = run 108 260 (ls) (vI (wr (x.tmod y)) :: st) σ := (run_eq 108 259 _ _ σ).trans (if_neg h)
theorem e108_260 (ls st : List AV) (σ : St) (x : Int) : run 108 260 (ls) (vI x :: st) σ = if x = 0 then run 108 263 (ls) (st) σ else run 108 301 (ls) (st) σ := (run_eq 108 260 _ _ σ).trans rfl
theorem e108_263 (l st : List AV) (σ : St) (x : Nat) : run 108 263 (vR x :: l) (st) σ = run 108 264 (vR x :: l) (vR x :: st) σ := (run_eq 108 263 _ _ σ).trans rfl
theorem e108_264 (ls st : List AV) (σ : St) (x : Nat) (h : fok σ x 3) : run 108 264 (ls) (vR x :: st) σ = run 108 267 (ls) (vR (gr σ x 12) :: st) σ := (run_eq 108 264 _ _ σ).trans (if_pos h)
theorem e108_267 (a0 a1 : AV) (l st : List AV) (σ : St) (x : Int) : run 108 267 (a0 :: a1 :: vI x :: l) (st) σ = run 108 268 (a0 :: a1 :: vI x :: l) (vI x :: st) σ := (run_eq 108 267 _ _ σ).trans rfl
theorem e108_268 (l st : List AV) (σ : St) (x : Nat) : run 108 268 (vR x :: l) (st) σ = run 108 269 (vR x :: l) (vR x :: st) σ := (run_eq 108 268 _ _ σ).trans rfl
theorem e108_269 (ls st : List AV) (σ : St) (x : Nat) (h : fok σ x 3) : run 108 269 (ls) (vR x :: st) σ = run 108 272 (ls) (vR (gr σ x 11) :: st) σ := (run_eq 108 269 _ _ σ).trans (if_pos h)
theorem e108_272 (a0 a1 : AV) (l st : List AV) (σ : St) (x : Int) : run 108 272 (a0 :: a1 :: vI x :: l) (st) σ = run 108 273 (a0 :: a1 :: vI x :: l) (vI x :: st) σ := (run_eq 108 272 _ _ σ).trans rfl
theorem e108_273 (ls st : List AV) (σ : St) (j : Int) (x : Nat) (h : aok σ x 4 j) : run 108 273 (ls) (vI j :: vR x :: st) σ = run 108 274 (ls) (vI (gt σ x j.toNat) :: st) σ := (run_eq 108 273 _ _ σ).trans (if_pos h)
theorem e108_274 (l st : List AV) (σ : St) (x : Nat) : run 108 274 (vR x :: l) (st) σ = run 108 275 (vR x :: l) (vR x :: st) σ := (run_eq 108 274 _ _ σ).trans rfl
theorem e108_275 (ls st : List AV) (σ : St) (x : Nat) (h : fok σ x 3) : run 108 275 (ls) (vR x :: st) σ = run 108 278 (ls) (vI (gt σ x 4) :: st) σ := (run_eq 108 275 _ _ σ).trans (if_pos h)
theorem e108_278 (ls st : List AV) (σ : St) (y x : Int) : run 108 278 (ls) (vI y :: vI x :: st) σ = run 108 279 (ls) (vI (wr (x + y)) :: st) σ := (run_eq 108 278 _ _ σ).trans rfl
theorem e108_279 (ls st : List AV) (σ : St) : run 108 279 (ls) (st) σ = run 108 281 (ls) (vI 9 :: st) σ := (run_eq 108 279 _ _ σ).trans rfl
theorem e108_281 (ls st : List AV) (σ : St) (y x : Int) : run 108 281 (ls) (vI y :: vI x :: st) σ = if y < x then run 108 284 (ls) (st) σ else run 108 289 (ls) (st) σ := (run_eq 108 281 _ _ σ).trans rfl
theorem e108_284 (ls st : List AV) (σ : St) : run 108 284 (ls) (st) σ = run 108 286 (ls) (vI 9 :: st) σ := (run_eq 108 284 _ _ σ).trans rfl
theorem e108_286 (ls st : List AV) (σ : St) : run 108 286 (ls) (st) σ = run 108 300 (ls) (st) σ := (run_eq 108 286 _ _ σ).trans rfl
theorem e108_289 (l st : List AV) (σ : St) (x : Nat) : run 108 289 (vR x :: l) (st) σ = run 108 290 (vR x :: l) (vR x :: st) σ := (run_eq 108 289 _ _ σ).trans rfl
theorem e108_290 (ls st : List AV) (σ : St) (x : Nat) (h : fok σ x 3) : run 108 290 (ls) (vR x :: st) σ = run 108 293 (ls) (vR (gr σ x 11) :: st) σ := (run_eq 108 290 _ _ σ).trans (if_pos h)
theorem e108_293 (a0 a1 : AV) (l st : List AV) (σ : St) (x : Int) : run 108 293 (a0 :: a1 :: vI x :: l) (st) σ = run 108 294 (a0 :: a1 :: vI x :: l) (vI x :: st) σ := (run_eq 108 293 _ _ σ).trans rfl
theorem e108_294 (ls st : List AV) (σ : St) (j : Int) (x : Nat) (h : aok σ x 4 j) : run 108 294 (ls) (vI j :: vR x :: st) σ = run 108 295 (ls) (vI (gt σ x j.toNat) :: st) σ := (run_eq 108 294 _ _ σ).trans (if_pos h)
theorem e108_295 (l st : List AV) (σ : St) (x : Nat) : run 108 295 (vR x :: l) (st) σ = run 108 296 (vR x :: l) (vR x :: st) σ := (run_eq 108 295 _ _ σ).trans rfl
theorem e108_296 (ls st : List AV) (σ : St) (x : Nat) (h : fok σ x 3) : run 108 296 (ls) (vR x :: st) σ = run 108 299 (ls) (vI (gt σ x 4) :: st) σ := (run_eq 108 296 _ _ σ).trans (if_pos h)
theorem e108_299 (ls st : List AV) (σ : St) (y x : Int) : run 108 299 (ls) (vI y :: vI x :: st) σ = run 108 300 (ls) (vI (wr (x + y)) :: st) σ := (run_eq 108 299 _ _ σ).trans rfl
theorem e108_300 (ls st : List AV) (σ : St) (z j : Int) (x : Nat) (h : aok σ x 4 j) : run 108 300 (ls) (vI z :: vI j :: vR x :: st) σ = run 108 301 (ls) (st) (sr σ x (ru (gt σ x) j.toNat z)) := (run_eq 108 300 _ _ σ).trans (if_pos h)
theorem e108_301 (a0 a1 : AV) (l st : List AV) (σ : St) (x : Int) : run 108 301 (a0 :: a1 :: vI x :: l) (st) σ = run 108 304 (a0 :: a1 :: vI (wr (x + 1)) :: l) (st) σ := (run_eq 108 301 _ _ σ).trans rfl
theorem e108_304 (ls st : List AV) (σ : St) : run 108 304 (ls) (st) σ = run 108 142 (ls) (st) σ := (run_eq 108 304 _ _ σ).trans rfl
theorem e108_307 (ls st : List AV) (σ : St) : run 108 307 (ls) (st) σ = run 108 308 (ls) (vI 0 :: st) σ := (run_eq 108 307 _ _ σ).trans rfl
theorem e108_308 (a0 a1 : AV) (l st : List AV) (σ : St) (q : AV) (x : Int) : run 108 308 (a0 :: a1 :: q :: l) (vI x :: st) σ = run 108 309 (a0 :: a1 :: vI x :: l) (st) σ := (run_eq 108 308 _ _ σ).trans rfl
theorem e108_309 (a0 a1 : AV) (l st : List AV) (σ : St) (x : Int) : run 108 309 (a0 :: a1 :: vI x :: l) (st) σ = run 108 310 (a0 :: a1 :: vI x :: l) (vI x :: st) σ := (run_eq 108 309 _ _ σ).trans rfl
theorem e108_310 (l st : List AV) (σ : St) (x : Nat) : run 108 310 (vR x :: l) (st) σ = run 108 311 (vR x :: l) (vR x :: st) σ := (run_eq 108 310 _ _ σ).trans rfl
theorem e108_311 (ls st : List AV) (σ : St) (x0 : Nat) (h4 : st.length ≤ 4) (h : fok σ x0 3) : run 108 311 ls (vR x0 :: st) σ = bnd (run 95 0 [vR x0] [] σ) (fun r σ => run 108 314 ls (psh r st) σ) := (run_eq 108 311 _ _ σ).trans (if_pos ⟨rfl, by simp, by simpa using h4, rfl, h⟩)
theorem e108_314 (ls st : List AV) (σ : St) (y x : Int) : run 108 314 (ls) (vI y :: vI x :: st) σ = if x < y then run 108 317 (ls) (st) σ else run 108 335 (ls) (st) σ := (run_eq 108 314 _ _ σ).trans rfl
theorem e108_317 (l st : List AV) (σ : St) (x : Nat) : run 108 317 (vR x :: l) (st) σ = run 108 318 (vR x :: l) (vR x :: st) σ := (run_eq 108 317 _ _ σ).trans rfl
theorem e108_318 (ls st : List AV) (σ : St) (x : Nat) (h : fok σ x 3) : run 108 318 (ls) (vR x :: st) σ = run 108 321 (ls) (vR (gr σ x 11) :: st) σ := (run_eq 108 318 _ _ σ).trans (if_pos h)
theorem e108_321 (a0 a1 : AV) (l st : List AV) (σ : St) (x : Int) : run 108 321 (a0 :: a1 :: vI x :: l) (st) σ = run 108 322 (a0 :: a1 :: vI x :: l) (vI x :: st) σ := (run_eq 108 321 _ _ σ).trans rfl
theorem e108_322 (l st : List AV) (σ : St) (x : Nat) : run 108 322 (vR x :: l) (st) σ = run 108 323 (vR x :: l) (vR x :: st) σ := (run_eq 108 322 _ _ σ).trans rfl
theorem e108_323 (ls st : List AV) (σ : St) (x : Nat) (h : fok σ x 3) : run 108 323 (ls) (vR x :: st) σ = run 108 326 (ls) (vR (gr σ x 12) :: st) σ := (run_eq 108 323 _ _ σ).trans (if_pos h)
theorem e108_326 (a0 a1 : AV) (l st : List AV) (σ : St) (x : Int) : run 108 326 (a0 :: a1 :: vI x :: l) (st) σ = run 108 327 (a0 :: a1 :: vI x :: l) (vI x :: st) σ := (run_eq 108 326 _ _ σ).trans rfl
theorem e108_327 (ls st : List AV) (σ : St) (j : Int) (x : Nat) (h : aok σ x 4 j) : run 108 327 (ls) (vI j :: vR x :: st) σ = run 108 328 (ls) (vI (gt σ x j.toNat) :: st) σ := (run_eq 108 327 _ _ σ).trans (if_pos h)
theorem e108_328 (ls st : List AV) (σ : St) (z j : Int) (x : Nat) (h : aok σ x 4 j) : run 108 328 (ls) (vI z :: vI j :: vR x :: st) σ = run 108 329 (ls) (st) (sr σ x (ru (gt σ x) j.toNat z)) := (run_eq 108 328 _ _ σ).trans (if_pos h)
theorem e108_329 (a0 a1 : AV) (l st : List AV) (σ : St) (x : Int) : run 108 329 (a0 :: a1 :: vI x :: l) (st) σ = run 108 332 (a0 :: a1 :: vI (wr (x + 1)) :: l) (st) σ := (run_eq 108 329 _ _ σ).trans rfl
theorem e108_332 (ls st : List AV) (σ : St) : run 108 332 (ls) (st) σ = run 108 309 (ls) (st) σ := (run_eq 108 332 _ _ σ).trans rfl
theorem e108_335 (ls : List AV) (σ : St) : run 108 335 ls [] σ = some (vU, σ) := (run_eq 108 335 _ _ σ).trans rfl
/-! M_has -/
theorem e109_0 (l st : List AV) (σ : St) (x : Int) : run 109 0 (vI x :: l) (st) σ = run 109 1 (vI x :: l) (vI x :: st) σ := (run_eq 109 0 _ _ σ).trans rfl
theorem e109_1 (a0 : AV) (l st : List AV) (σ : St) (x : Int) : run 109 1 (a0 :: vI x :: l) (st) σ = run 109 2 (a0 :: vI x :: l) (vI x :: st) σ := (run_eq 109 1 _ _ σ).trans rfl
theorem e109_2 (ls st : List AV) (σ : St) (y x : Int) : run 109 2 (ls) (vI y :: vI x :: st) σ = run 109 3 (ls) (vI (bShr x y) :: st) σ := (run_eq 109 2 _ _ σ).trans rfl
theorem e109_3 (ls st : List AV) (σ : St) : run 109 3 (ls) (st) σ = run 109 4 (ls) (vI 1 :: st) σ := (run_eq 109 3 _ _ σ).trans rfl
theorem e109_4 (ls st : List AV) (σ : St) (y x : Int) : run 109 4 (ls) (vI y :: vI x :: st) σ = run 109 5 (ls) (vI (bAnd x y) :: st) σ := (run_eq 109 4 _ _ σ).trans rfl
theorem e109_5 (ls st : List AV) (σ : St) : run 109 5 (ls) (st) σ = run 109 6 (ls) (vI 1 :: st) σ := (run_eq 109 5 _ _ σ).trans rfl
theorem e109_6 (ls st : List AV) (σ : St) (y x : Int) : run 109 6 (ls) (vI y :: vI x :: st) σ = if x = y then run 109 9 (ls) (st) σ else run 109 13 (ls) (st) σ := (run_eq 109 6 _ _ σ).trans rfl
theorem e109_9 (ls st : List AV) (σ : St) : run 109 9 (ls) (st) σ = run 109 10 (ls) (vI 1 :: st) σ := (run_eq 109 9 _ _ σ).trans rfl
theorem e109_10 (ls st : List AV) (σ : St) : run 109 10 (ls) (st) σ = run 109 14 (ls) (st) σ := (run_eq 109 10 _ _ σ).trans rfl
theorem e109_13 (ls st : List AV) (σ : St) : run 109 13 (ls) (st) σ = run 109 14 (ls) (vI 0 :: st) σ := (run_eq 109 13 _ _ σ).trans rfl
theorem e109_14 (ls : List AV) (σ : St) (x : Int) (h : x = 0 ∨ x = 1) : run 109 14 ls [vI x] σ = some (vI x, σ) := (run_eq 109 14 _ _ σ).trans (if_pos h)
/-! M_beside -/
theorem e110_0 (a0 : AV) (l st : List AV) (σ : St) (x : Int) : run 110 0 (a0 :: vI x :: l) (st) σ = run 110 1 (a0 :: vI x :: l) (vI x :: st) σ := (run_eq 110 0 _ _ σ).trans rfl
theorem e110_1 (l st : List AV) (σ : St) (x : Nat) : run 110 1 (vR x :: l) (st) σ = run 110 2 (vR x :: l) (vR x :: st) σ := (run_eq 110 1 _ _ σ).trans rfl
theorem e110_2 (ls st : List AV) (σ : St) (x : Nat) (h : fok σ x 3) : run 110 2 (ls) (vR x :: st) σ = run 110 5 (ls) (vI (gt σ x 1) :: st) σ := (run_eq 110 2 _ _ σ).trans (if_pos h)
theorem e110_5 (ls st : List AV) (σ : St) (y x : Int) (h : ¬ y = 0) : run 110 5 (ls) (vI y :: vI x :: st) σ = run 110 6 (ls) (vI (wr (x.tdiv y)) :: st) σ := (run_eq 110 5 _ _ σ).trans (if_neg h)
theorem e110_6 (a0 a1 : AV) (l st : List AV) (σ : St) (x : Int) : run 110 6 (a0 :: a1 :: vI x :: l) (st) σ = run 110 7 (a0 :: a1 :: vI x :: l) (vI x :: st) σ := (run_eq 110 6 _ _ σ).trans rfl
theorem e110_7 (ls st : List AV) (σ : St) (x : Int) : run 110 7 (ls) (vI x :: st) σ = if x = 0 then run 110 10 (ls) (st) σ else run 110 14 (ls) (st) σ := (run_eq 110 7 _ _ σ).trans rfl
theorem e110_10 (ls st : List AV) (σ : St) : run 110 10 (ls) (st) σ = run 110 11 (ls) (vI (-1) :: st) σ := (run_eq 110 10 _ _ σ).trans rfl
theorem e110_11 (ls st : List AV) (σ : St) : run 110 11 (ls) (st) σ = run 110 24 (ls) (st) σ := (run_eq 110 11 _ _ σ).trans rfl
theorem e110_14 (a0 a1 : AV) (l st : List AV) (σ : St) (x : Int) : run 110 14 (a0 :: a1 :: vI x :: l) (st) σ = run 110 15 (a0 :: a1 :: vI x :: l) (vI x :: st) σ := (run_eq 110 14 _ _ σ).trans rfl
theorem e110_15 (ls st : List AV) (σ : St) : run 110 15 (ls) (st) σ = run 110 16 (ls) (vI 2 :: st) σ := (run_eq 110 15 _ _ σ).trans rfl
theorem e110_16 (ls st : List AV) (σ : St) (y x : Int) : run 110 16 (ls) (vI y :: vI x :: st) σ = if x = y then run 110 19 (ls) (st) σ else run 110 23 (ls) (st) σ := (run_eq 110 16 _ _ σ).trans rfl
theorem e110_19 (ls st : List AV) (σ : St) : run 110 19 (ls) (st) σ = run 110 20 (ls) (vI 1 :: st) σ := (run_eq 110 19 _ _ σ).trans rfl
theorem e110_20 (ls st : List AV) (σ : St) : run 110 20 (ls) (st) σ = run 110 24 (ls) (st) σ := (run_eq 110 20 _ _ σ).trans rfl
theorem e110_23 (ls st : List AV) (σ : St) : run 110 23 (ls) (st) σ = run 110 24 (ls) (vI 0 :: st) σ := (run_eq 110 23 _ _ σ).trans rfl
theorem e110_24 (ls st : List AV) (σ : St) (y x : Int) : run 110 24 (ls) (vI y :: vI x :: st) σ = run 110 25 (ls) (vI (wr (x + y)) :: st) σ := (run_eq 110 24 _ _ σ).trans rfl
theorem e110_25 (a0 a1 a2 : AV) (l st : List AV) (σ : St) (q : AV) (x : Int) : run 110 25 (a0 :: a1 :: a2 :: q :: l) (vI x :: st) σ = run 110 26 (a0 :: a1 :: a2 :: vI x :: l) (st) σ := (run_eq 110 25 _ _ σ).trans rfl
theorem e110_26 (a0 : AV) (l st : List AV) (σ : St) (x : Int) : run 110 26 (a0 :: vI x :: l) (st) σ = run 110 27 (a0 :: vI x :: l) (vI x :: st) σ := (run_eq 110 26 _ _ σ).trans rfl
theorem e110_27 (l st : List AV) (σ : St) (x : Nat) : run 110 27 (vR x :: l) (st) σ = run 110 28 (vR x :: l) (vR x :: st) σ := (run_eq 110 27 _ _ σ).trans rfl
theorem e110_28 (ls st : List AV) (σ : St) (x : Nat) (h : fok σ x 3) : run 110 28 (ls) (vR x :: st) σ = run 110 31 (ls) (vI (gt σ x 1) :: st) σ := (run_eq 110 28 _ _ σ).trans (if_pos h)
theorem e110_31 (ls st : List AV) (σ : St) (y x : Int) (h : ¬ y = 0) : run 110 31 (ls) (vI y :: vI x :: st) σ = run 110 32 (ls) (vI (wr (x.tmod y)) :: st) σ := (run_eq 110 31 _ _ σ).trans (if_neg h)
theorem e110_32 (a0 a1 : AV) (l st : List AV) (σ : St) (x : Int) : run 110 32 (a0 :: a1 :: vI x :: l) (st) σ = run 110 33 (a0 :: a1 :: vI x :: l) (vI x :: st) σ := (run_eq 110 32 _ _ σ).trans rfl
theorem e110_33 (ls st : List AV) (σ : St) : run 110 33 (ls) (st) σ = run 110 34 (ls) (vI 1 :: st) σ := (run_eq 110 33 _ _ σ).trans rfl
theorem e110_34 (ls st : List AV) (σ : St) (y x : Int) : run 110 34 (ls) (vI y :: vI x :: st) σ = if x = y then run 110 37 (ls) (st) σ else run 110 41 (ls) (st) σ := (run_eq 110 34 _ _ σ).trans rfl
theorem e110_37 (ls st : List AV) (σ : St) : run 110 37 (ls) (st) σ = run 110 38 (ls) (vI 1 :: st) σ := (run_eq 110 37 _ _ σ).trans rfl
theorem e110_38 (ls st : List AV) (σ : St) : run 110 38 (ls) (st) σ = run 110 51 (ls) (st) σ := (run_eq 110 38 _ _ σ).trans rfl
theorem e110_41 (a0 a1 : AV) (l st : List AV) (σ : St) (x : Int) : run 110 41 (a0 :: a1 :: vI x :: l) (st) σ = run 110 42 (a0 :: a1 :: vI x :: l) (vI x :: st) σ := (run_eq 110 41 _ _ σ).trans rfl
theorem e110_42 (ls st : List AV) (σ : St) : run 110 42 (ls) (st) σ = run 110 43 (ls) (vI 3 :: st) σ := (run_eq 110 42 _ _ σ).trans rfl
theorem e110_43 (ls st : List AV) (σ : St) (y x : Int) : run 110 43 (ls) (vI y :: vI x :: st) σ = if x = y then run 110 46 (ls) (st) σ else run 110 50 (ls) (st) σ := (run_eq 110 43 _ _ σ).trans rfl
theorem e110_46 (ls st : List AV) (σ : St) : run 110 46 (ls) (st) σ = run 110 47 (ls) (vI (-1) :: st) σ := (run_eq 110 46 _ _ σ).trans rfl
theorem e110_47 (ls st : List AV) (σ : St) : run 110 47 (ls) (st) σ = run 110 51 (ls) (st) σ := (run_eq 110 47 _ _ σ).trans rfl
theorem e110_50 (ls st : List AV) (σ : St) : run 110 50 (ls) (st) σ = run 110 51 (ls) (vI 0 :: st) σ := (run_eq 110 50 _ _ σ).trans rfl
theorem e110_51 (ls st : List AV) (σ : St) (y x : Int) : run 110 51 (ls) (vI y :: vI x :: st) σ = run 110 52 (ls) (vI (wr (x + y)) :: st) σ := (run_eq 110 51 _ _ σ).trans rfl
theorem e110_52 (a0 a1 a2 a3 : AV) (l st : List AV) (σ : St) (q : AV) (x : Int) : run 110 52 (a0 :: a1 :: a2 :: a3 :: q :: l) (vI x :: st) σ = run 110 54 (a0 :: a1 :: a2 :: a3 :: vI x :: l) (st) σ := (run_eq 110 52 _ _ σ).trans rfl
theorem e110_54 (a0 a1 a2 : AV) (l st : List AV) (σ : St) (x : Int) : run 110 54 (a0 :: a1 :: a2 :: vI x :: l) (st) σ = run 110 55 (a0 :: a1 :: a2 :: vI x :: l) (vI x :: st) σ := (run_eq 110 54 _ _ σ).trans rfl
theorem e110_55 (ls st : List AV) (σ : St) : run 110 55 (ls) (st) σ = run 110 56 (ls) (vI 0 :: st) σ := (run_eq 110 55 _ _ σ).trans rfl
theorem e110_56 (l st : List AV) (σ : St) (x : Nat) : run 110 56 (vR x :: l) (st) σ = run 110 57 (vR x :: l) (vR x :: st) σ := (run_eq 110 56 _ _ σ).trans rfl
theorem e110_57 (ls st : List AV) (σ : St) (x : Nat) (h : fok σ x 3) : run 110 57 (ls) (vR x :: st) σ = run 110 60 (ls) (vI (gt σ x 0) :: st) σ := (run_eq 110 57 _ _ σ).trans (if_pos h)
theorem e110_60 (ls st : List AV) (σ : St) : run 110 60 (ls) (st) σ = run 110 61 (ls) (vI 1 :: st) σ := (run_eq 110 60 _ _ σ).trans rfl
theorem e110_61 (ls st : List AV) (σ : St) (y x : Int) : run 110 61 (ls) (vI y :: vI x :: st) σ = run 110 62 (ls) (vI (wr (x - y)) :: st) σ := (run_eq 110 61 _ _ σ).trans rfl
theorem e110_62 (ls st : List AV) (σ : St) (x0 : Int) (x1 : Int) (x2 : Int) (h4 : st.length ≤ 4) : run 110 62 ls (vI x2 :: vI x1 :: vI x0 :: st) σ = bnd (run 92 0 [vI x0, vI x1, vI x2] [] σ) (fun r σ => run 110 65 ls (psh r st) σ) := (run_eq 110 62 _ _ σ).trans (if_pos ⟨rfl, by simp, by simpa using h4⟩)
theorem e110_65 (ls st : List AV) (σ : St) (x : Int) : run 110 65 (ls) (vI x :: st) σ = if x = 0 then run 110 95 (ls) (st) σ else run 110 68 (ls) (st) σ := (run_eq 110 65 _ _ σ).trans rfl
theorem e110_68 (a0 a1 a2 a3 : AV) (l st : List AV) (σ : St) (x : Int) : run 110 68 (a0 :: a1 :: a2 :: a3 :: vI x :: l) (st) σ = run 110 70 (a0 :: a1 :: a2 :: a3 :: vI x :: l) (vI x :: st) σ := (run_eq 110 68 _ _ σ).trans rfl
theorem e110_70 (ls st : List AV) (σ : St) : run 110 70 (ls) (st) σ = run 110 71 (ls) (vI 0 :: st) σ := (run_eq 110 70 _ _ σ).trans rfl
theorem e110_71 (l st : List AV) (σ : St) (x : Nat) : run 110 71 (vR x :: l) (st) σ = run 110 72 (vR x :: l) (vR x :: st) σ := (run_eq 110 71 _ _ σ).trans rfl
theorem e110_72 (ls st : List AV) (σ : St) (x : Nat) (h : fok σ x 3) : run 110 72 (ls) (vR x :: st) σ = run 110 75 (ls) (vI (gt σ x 1) :: st) σ := (run_eq 110 72 _ _ σ).trans (if_pos h)
theorem e110_75 (ls st : List AV) (σ : St) : run 110 75 (ls) (st) σ = run 110 76 (ls) (vI 1 :: st) σ := (run_eq 110 75 _ _ σ).trans rfl
theorem e110_76 (ls st : List AV) (σ : St) (y x : Int) : run 110 76 (ls) (vI y :: vI x :: st) σ = run 110 77 (ls) (vI (wr (x - y)) :: st) σ := (run_eq 110 76 _ _ σ).trans rfl
theorem e110_77 (ls st : List AV) (σ : St) (x0 : Int) (x1 : Int) (x2 : Int) (h4 : st.length ≤ 4) : run 110 77 ls (vI x2 :: vI x1 :: vI x0 :: st) σ = bnd (run 92 0 [vI x0, vI x1, vI x2] [] σ) (fun r σ => run 110 80 ls (psh r st) σ) := (run_eq 110 77 _ _ σ).trans (if_pos ⟨rfl, by simp, by simpa using h4⟩)
theorem e110_80 (ls st : List AV) (σ : St) (x : Int) : run 110 80 (ls) (vI x :: st) σ = if x = 0 then run 110 95 (ls) (st) σ else run 110 83 (ls) (st) σ := (run_eq 110 80 _ _ σ).trans rfl
theorem e110_83 (a0 a1 a2 : AV) (l st : List AV) (σ : St) (x : Int) : run 110 83 (a0 :: a1 :: a2 :: vI x :: l) (st) σ = run 110 84 (a0 :: a1 :: a2 :: vI x :: l) (vI x :: st) σ := (run_eq 110 83 _ _ σ).trans rfl
theorem e110_84 (l st : List AV) (σ : St) (x : Nat) : run 110 84 (vR x :: l) (st) σ = run 110 85 (vR x :: l) (vR x :: st) σ := (run_eq 110 84 _ _ σ).trans rfl
theorem e110_85 (ls st : List AV) (σ : St) (x : Nat) (h : fok σ x 3) : run 110 85 (ls) (vR x :: st) σ = run 110 88 (ls) (vI (gt σ x 1) :: st) σ := (run_eq 110 85 _ _ σ).trans (if_pos h)
theorem e110_88 (ls st : List AV) (σ : St) (y x : Int) : run 110 88 (ls) (vI y :: vI x :: st) σ = run 110 89 (ls) (vI (wr (x * y)) :: st) σ := (run_eq 110 88 _ _ σ).trans rfl
theorem e110_89 (a0 a1 a2 a3 : AV) (l st : List AV) (σ : St) (x : Int) : run 110 89 (a0 :: a1 :: a2 :: a3 :: vI x :: l) (st) σ = run 110 91 (a0 :: a1 :: a2 :: a3 :: vI x :: l) (vI x :: st) σ := (run_eq 110 89 _ _ σ).trans rfl
theorem e110_91 (ls st : List AV) (σ : St) (y x : Int) : run 110 91 (ls) (vI y :: vI x :: st) σ = run 110 92 (ls) (vI (wr (x + y)) :: st) σ := (run_eq 110 91 _ _ σ).trans rfl
theorem e110_92 (ls st : List AV) (σ : St) : run 110 92 (ls) (st) σ = run 110 97 (ls) (st) σ := (run_eq 110 92 _ _ σ).trans rfl
theorem e110_95 (ls st : List AV) (σ : St) : run 110 95 (ls) (st) σ = run 110 97 (ls) (vI (-6) :: st) σ := (run_eq 110 95 _ _ σ).trans rfl
theorem e110_97 (ls : List AV) (σ : St) (x : Int) : run 110 97 ls [vI x] σ = some (vI x, σ) := (run_eq 110 97 _ _ σ).trans rfl
/-! M_standsNow -/
theorem e111_0 (ls st : List AV) (σ : St) : run 111 0 (ls) (st) σ = run 111 1 (ls) (vI 1 :: st) σ := (run_eq 111 0 _ _ σ).trans rfl
theorem e111_1 (a0 a1 : AV) (l st : List AV) (σ : St) (q : AV) (x : Int) : run 111 1 (a0 :: a1 :: q :: l) (vI x :: st) σ = run 111 2 (a0 :: a1 :: vI x :: l) (st) σ := (run_eq 111 1 _ _ σ).trans rfl
theorem e111_2 (ls st : List AV) (σ : St) : run 111 2 (ls) (st) σ = run 111 3 (ls) (vI 0 :: st) σ := (run_eq 111 2 _ _ σ).trans rfl
theorem e111_3 (a0 a1 a2 : AV) (l st : List AV) (σ : St) (q : AV) (x : Int) : run 111 3 (a0 :: a1 :: a2 :: q :: l) (vI x :: st) σ = run 111 4 (a0 :: a1 :: a2 :: vI x :: l) (st) σ := (run_eq 111 3 _ _ σ).trans rfl
theorem e111_4 (a0 a1 a2 : AV) (l st : List AV) (σ : St) (x : Int) : run 111 4 (a0 :: a1 :: a2 :: vI x :: l) (st) σ = run 111 5 (a0 :: a1 :: a2 :: vI x :: l) (vI x :: st) σ := (run_eq 111 4 _ _ σ).trans rfl
theorem e111_5 (ls st : List AV) (σ : St) : run 111 5 (ls) (st) σ = run 111 7 (ls) (vI 24 :: st) σ := (run_eq 111 5 _ _ σ).trans rfl
theorem e111_7 (ls st : List AV) (σ : St) (y x : Int) : run 111 7 (ls) (vI y :: vI x :: st) σ = if x < y then run 111 10 (ls) (st) σ else run 111 70 (ls) (st) σ := (run_eq 111 7 _ _ σ).trans rfl
theorem e111_10 (l st : List AV) (σ : St) (x : Nat) : run 111 10 (vR x :: l) (st) σ = run 111 11 (vR x :: l) (vR x :: st) σ := (run_eq 111 10 _ _ σ).trans rfl
theorem e111_11 (ls st : List AV) (σ : St) (x : Nat) (h : fok σ x 3) : run 111 11 (ls) (vR x :: st) σ = run 111 14 (ls) (vR (gr σ x 6) :: st) σ := (run_eq 111 11 _ _ σ).trans (if_pos h)
theorem e111_14 (ls st : List AV) (σ : St) : run 111 14 (ls) (st) σ = run 111 16 (ls) (vI 24 :: st) σ := (run_eq 111 14 _ _ σ).trans rfl
theorem e111_16 (a0 : AV) (l st : List AV) (σ : St) (x : Int) : run 111 16 (a0 :: vI x :: l) (st) σ = run 111 17 (a0 :: vI x :: l) (vI x :: st) σ := (run_eq 111 16 _ _ σ).trans rfl
theorem e111_17 (ls st : List AV) (σ : St) (y x : Int) : run 111 17 (ls) (vI y :: vI x :: st) σ = run 111 18 (ls) (vI (wr (x * y)) :: st) σ := (run_eq 111 17 _ _ σ).trans rfl
theorem e111_18 (a0 a1 a2 : AV) (l st : List AV) (σ : St) (x : Int) : run 111 18 (a0 :: a1 :: a2 :: vI x :: l) (st) σ = run 111 19 (a0 :: a1 :: a2 :: vI x :: l) (vI x :: st) σ := (run_eq 111 18 _ _ σ).trans rfl
theorem e111_19 (ls st : List AV) (σ : St) (y x : Int) : run 111 19 (ls) (vI y :: vI x :: st) σ = run 111 20 (ls) (vI (wr (x + y)) :: st) σ := (run_eq 111 19 _ _ σ).trans rfl
theorem e111_20 (ls st : List AV) (σ : St) (j : Int) (x : Nat) (h : aok σ x 4 j) : run 111 20 (ls) (vI j :: vR x :: st) σ = run 111 21 (ls) (vI (gt σ x j.toNat) :: st) σ := (run_eq 111 20 _ _ σ).trans (if_pos h)
theorem e111_21 (a0 a1 a2 a3 : AV) (l st : List AV) (σ : St) (q : AV) (x : Int) : run 111 21 (a0 :: a1 :: a2 :: a3 :: q :: l) (vI x :: st) σ = run 111 23 (a0 :: a1 :: a2 :: a3 :: vI x :: l) (st) σ := (run_eq 111 21 _ _ σ).trans rfl
theorem e111_23 (a0 a1 : AV) (l st : List AV) (σ : St) (x : Int) : run 111 23 (a0 :: a1 :: vI x :: l) (st) σ = run 111 24 (a0 :: a1 :: vI x :: l) (vI x :: st) σ := (run_eq 111 23 _ _ σ).trans rfl
theorem e111_24 (ls st : List AV) (σ : St) (x : Int) : run 111 24 (ls) (vI x :: st) σ = if x = 0 then run 111 62 (ls) (st) σ else run 111 27 (ls) (st) σ := (run_eq 111 24 _ _ σ).trans rfl
theorem e111_27 (a0 a1 a2 a3 : AV) (l st : List AV) (σ : St) (x : Int) : run 111 27 (a0 :: a1 :: a2 :: a3 :: vI x :: l) (st) σ = run 111 29 (a0 :: a1 :: a2 :: a3 :: vI x :: l) (vI x :: st) σ := (run_eq 111 27 _ _ σ).trans rfl
theorem e111_29 (ls st : List AV) (σ : St) (x : Int) : run 111 29 (ls) (vI x :: st) σ = if x < 0 then run 111 58 (ls) (st) σ else run 111 32 (ls) (st) σ := (run_eq 111 29 _ _ σ).trans rfl
theorem e111_32 (l st : List AV) (σ : St) (x : Nat) : run 111 32 (vR x :: l) (st) σ = run 111 33 (vR x :: l) (vR x :: st) σ := (run_eq 111 32 _ _ σ).trans rfl
theorem e111_33 (ls st : List AV) (σ : St) (x : Nat) (h : fok σ x 3) : run 111 33 (ls) (vR x :: st) σ = run 111 36 (ls) (vR (gr σ x 11) :: st) σ := (run_eq 111 33 _ _ σ).trans (if_pos h)
theorem e111_36 (a0 a1 a2 : AV) (l st : List AV) (σ : St) (x : Int) : run 111 36 (a0 :: a1 :: a2 :: vI x :: l) (st) σ = run 111 37 (a0 :: a1 :: a2 :: vI x :: l) (vI x :: st) σ := (run_eq 111 36 _ _ σ).trans rfl
theorem e111_37 (ls st : List AV) (σ : St) (j : Int) (x : Nat) (h : aok σ x 4 j) : run 111 37 (ls) (vI j :: vR x :: st) σ = run 111 38 (ls) (vI (gt σ x j.toNat) :: st) σ := (run_eq 111 37 _ _ σ).trans (if_pos h)
theorem e111_38 (a0 a1 a2 a3 : AV) (l st : List AV) (σ : St) (x : Int) : run 111 38 (a0 :: a1 :: a2 :: a3 :: vI x :: l) (st) σ = run 111 40 (a0 :: a1 :: a2 :: a3 :: vI x :: l) (vI x :: st) σ := (run_eq 111 38 _ _ σ).trans rfl
theorem e111_40 (l st : List AV) (σ : St) (x : Nat) : run 111 40 (vR x :: l) (st) σ = run 111 41 (vR x :: l) (vR x :: st) σ := (run_eq 111 40 _ _ σ).trans rfl
theorem e111_41 (ls st : List AV) (σ : St) (x : Nat) (h : fok σ x 3) : run 111 41 (ls) (vR x :: st) σ = run 111 44 (ls) (vI (gt σ x 5) :: st) σ := (run_eq 111 41 _ _ σ).trans (if_pos h)
theorem e111_44 (ls st : List AV) (σ : St) (y x : Int) : run 111 44 (ls) (vI y :: vI x :: st) σ = run 111 45 (ls) (vI (wr (x - y)) :: st) σ := (run_eq 111 44 _ _ σ).trans rfl
theorem e111_45 (a0 a1 a2 a3 : AV) (l st : List AV) (σ : St) (x : Int) : run 111 45 (a0 :: a1 :: a2 :: a3 :: vI x :: l) (st) σ = run 111 47 (a0 :: a1 :: a2 :: a3 :: vI x :: l) (vI x :: st) σ := (run_eq 111 45 _ _ σ).trans rfl
theorem e111_47 (l st : List AV) (σ : St) (x : Nat) : run 111 47 (vR x :: l) (st) σ = run 111 48 (vR x :: l) (vR x :: st) σ := (run_eq 111 47 _ _ σ).trans rfl
theorem e111_48 (ls st : List AV) (σ : St) (x : Nat) (h : fok σ x 3) : run 111 48 (ls) (vR x :: st) σ = run 111 51 (ls) (vI (gt σ x 5) :: st) σ := (run_eq 111 48 _ _ σ).trans (if_pos h)
theorem e111_51 (ls st : List AV) (σ : St) (y x : Int) : run 111 51 (ls) (vI y :: vI x :: st) σ = run 111 52 (ls) (vI (wr (x + y)) :: st) σ := (run_eq 111 51 _ _ σ).trans rfl
theorem e111_52 (ls st : List AV) (σ : St) (x0 : Int) (x1 : Int) (x2 : Int) (h4 : st.length ≤ 4) : run 111 52 ls (vI x2 :: vI x1 :: vI x0 :: st) σ = bnd (run 92 0 [vI x0, vI x1, vI x2] [] σ) (fun r σ => run 111 55 ls (psh r st) σ) := (run_eq 111 52 _ _ σ).trans (if_pos ⟨rfl, by simp, by simpa using h4⟩)
theorem e111_55 (ls st : List AV) (σ : St) (x : Int) : run 111 55 (ls) (vI x :: st) σ = if x = 0 then run 111 62 (ls) (st) σ else run 111 58 (ls) (st) σ := (run_eq 111 55 _ _ σ).trans rfl
theorem e111_58 (ls st : List AV) (σ : St) : run 111 58 (ls) (st) σ = run 111 59 (ls) (vI 1 :: st) σ := (run_eq 111 58 _ _ σ).trans rfl
theorem e111_59 (ls st : List AV) (σ : St) : run 111 59 (ls) (st) σ = run 111 63 (ls) (st) σ := (run_eq 111 59 _ _ σ).trans rfl
theorem e111_62 (ls st : List AV) (σ : St) : run 111 62 (ls) (st) σ = run 111 63 (ls) (vI 0 :: st) σ := (run_eq 111 62 _ _ σ).trans rfl
theorem e111_63 (a0 a1 : AV) (l st : List AV) (σ : St) (q : AV) (x : Int) : run 111 63 (a0 :: a1 :: q :: l) (vI x :: st) σ = run 111 64 (a0 :: a1 :: vI x :: l) (st) σ := (run_eq 111 63 _ _ σ).trans rfl
theorem e111_64 (a0 a1 a2 : AV) (l st : List AV) (σ : St) (x : Int) : run 111 64 (a0 :: a1 :: a2 :: vI x :: l) (st) σ = run 111 67 (a0 :: a1 :: a2 :: vI (wr (x + 1)) :: l) (st) σ := (run_eq 111 64 _ _ σ).trans rfl
theorem e111_67 (ls st : List AV) (σ : St) : run 111 67 (ls) (st) σ = run 111 4 (ls) (st) σ := (run_eq 111 67 _ _ σ).trans rfl
theorem e111_70 (a0 a1 : AV) (l st : List AV) (σ : St) (x : Int) : run 111 70 (a0 :: a1 :: vI x :: l) (st) σ = run 111 71 (a0 :: a1 :: vI x :: l) (vI x :: st) σ := (run_eq 111 70 _ _ σ).trans rfl
theorem e111_71 (ls : List AV) (σ : St) (x : Int) (h : x = 0 ∨ x = 1) : run 111 71 ls [vI x] σ = some (vI x, σ) := (run_eq 111 71 _ _ σ).trans (if_pos h)
/-! M_done -/
theorem e112_0 (l st : List AV) (σ : St) (x : Nat) : run 112 0 (vR x :: l) (st) σ = run 112 1 (vR x :: l) (vR x :: st) σ := (run_eq 112 0 _ _ σ).trans rfl
theorem e112_1 (ls st : List AV) (σ : St) : run 112 1 (ls) (st) σ = run 112 3 (ls) (vI (-6) :: st) σ := (run_eq 112 1 _ _ σ).trans rfl
theorem e112_3 (ls st : List AV) (σ : St) (x0 : Nat) (x1 : Int) (h4 : st.length ≤ 4) (h : fok σ x0 3) : run 112 3 ls (vI x1 :: vR x0 :: st) σ = bnd (run 113 0 [vR x0, vI x1] [] σ) (fun r σ => run 112 6 ls (psh r st) σ) := (run_eq 112 3 _ _ σ).trans (if_pos ⟨rfl, by simp, by simpa using h4, rfl, h⟩)
theorem e112_6 (ls st : List AV) (σ : St) (x : Int) : run 112 6 (ls) (vI x :: st) σ = if x < 0 then run 112 9 (ls) (st) σ else run 112 12 (ls) (st) σ := (run_eq 112 6 _ _ σ).trans rfl
theorem e112_9 (ls st : List AV) (σ : St) : run 112 9 (ls) (st) σ = run 112 11 (ls) (vI (-5) :: st) σ := (run_eq 112 9 _ _ σ).trans rfl
theorem e112_11 (ls : List AV) (σ : St) (x : Int) : run 112 11 ls [vI x] σ = some (vI x, σ) := (run_eq 112 11 _ _ σ).trans rfl
theorem e112_12 (ls st : List AV) (σ : St) : run 112 12 (ls) (st) σ = run 112 13 (ls) (vI 0 :: st) σ := (run_eq 112 12 _ _ σ).trans rfl
theorem e112_13 (a0 : AV) (l st : List AV) (σ : St) (q : AV) (x : Int) : run 112 13 (a0 :: q :: l) (vI x :: st) σ = run 112 14 (a0 :: vI x :: l) (st) σ := (run_eq 112 13 _ _ σ).trans rfl
theorem e112_14 (a0 : AV) (l st : List AV) (σ : St) (x : Int) : run 112 14 (a0 :: vI x :: l) (st) σ = run 112 15 (a0 :: vI x :: l) (vI x :: st) σ := (run_eq 112 14 _ _ σ).trans rfl
theorem e112_15 (ls st : List AV) (σ : St) : run 112 15 (ls) (st) σ = run 112 17 (ls) (vI 24 :: st) σ := (run_eq 112 15 _ _ σ).trans rfl
theorem e112_17 (ls st : List AV) (σ : St) (y x : Int) : run 112 17 (ls) (vI y :: vI x :: st) σ = if x < y then run 112 20 (ls) (st) σ else run 112 38 (ls) (st) σ := (run_eq 112 17 _ _ σ).trans rfl
theorem e112_20 (l st : List AV) (σ : St) (x : Nat) : run 112 20 (vR x :: l) (st) σ = run 112 21 (vR x :: l) (vR x :: st) σ := (run_eq 112 20 _ _ σ).trans rfl
theorem e112_21 (ls st : List AV) (σ : St) (x : Nat) (h : fok σ x 3) : run 112 21 (ls) (vR x :: st) σ = run 112 24 (ls) (vR (gr σ x 2) :: st) σ := (run_eq 112 21 _ _ σ).trans (if_pos h)
theorem e112_24 (a0 : AV) (l st : List AV) (σ : St) (x : Int) : run 112 24 (a0 :: vI x :: l) (st) σ = run 112 25 (a0 :: vI x :: l) (vI x :: st) σ := (run_eq 112 24 _ _ σ).trans rfl
theorem e112_25 (l st : List AV) (σ : St) (x : Nat) : run 112 25 (vR x :: l) (st) σ = run 112 26 (vR x :: l) (vR x :: st) σ := (run_eq 112 25 _ _ σ).trans rfl
theorem e112_26 (ls st : List AV) (σ : St) (x : Nat) (h : fok σ x 3) : run 112 26 (ls) (vR x :: st) σ = run 112 29 (ls) (vR (gr σ x 11) :: st) σ := (run_eq 112 26 _ _ σ).trans (if_pos h)
theorem e112_29 (a0 : AV) (l st : List AV) (σ : St) (x : Int) : run 112 29 (a0 :: vI x :: l) (st) σ = run 112 30 (a0 :: vI x :: l) (vI x :: st) σ := (run_eq 112 29 _ _ σ).trans rfl
theorem e112_30 (ls st : List AV) (σ : St) (j : Int) (x : Nat) (h : aok σ x 4 j) : run 112 30 (ls) (vI j :: vR x :: st) σ = run 112 31 (ls) (vI (gt σ x j.toNat) :: st) σ := (run_eq 112 30 _ _ σ).trans (if_pos h)
theorem e112_31 (ls st : List AV) (σ : St) (z j : Int) (x : Nat) (h : aok σ x 4 j) : run 112 31 (ls) (vI z :: vI j :: vR x :: st) σ = run 112 32 (ls) (st) (sr σ x (ru (gt σ x) j.toNat z)) := (run_eq 112 31 _ _ σ).trans (if_pos h)
theorem e112_32 (a0 : AV) (l st : List AV) (σ : St) (x : Int) : run 112 32 (a0 :: vI x :: l) (st) σ = run 112 35 (a0 :: vI (wr (x + 1)) :: l) (st) σ := (run_eq 112 32 _ _ σ).trans rfl
theorem e112_35 (ls st : List AV) (σ : St) : run 112 35 (ls) (st) σ = run 112 14 (ls) (st) σ := (run_eq 112 35 _ _ σ).trans rfl
theorem e112_38 (l st : List AV) (σ : St) (x : Nat) : run 112 38 (vR x :: l) (st) σ = run 112 39 (vR x :: l) (vR x :: st) σ := (run_eq 112 38 _ _ σ).trans rfl
theorem e112_39 (l st : List AV) (σ : St) (x : Nat) : run 112 39 (vR x :: l) (st) σ = run 112 40 (vR x :: l) (vR x :: st) σ := (run_eq 112 39 _ _ σ).trans rfl
theorem e112_40 (ls st : List AV) (σ : St) (x : Nat) (h : fok σ x 3) : run 112 40 (ls) (vR x :: st) σ = run 112 43 (ls) (vI (gt σ x 13) :: st) σ := (run_eq 112 40 _ _ σ).trans (if_pos h)
theorem e112_43 (ls st : List AV) (σ : St) (z : Int) (x : Nat) (h : fok σ x 3) : run 112 43 (ls) (vI z :: vR x :: st) σ = run 112 46 (ls) (st) (sr σ x (ru (gt σ x) 3 z)) := (run_eq 112 43 _ _ σ).trans (if_pos h)
theorem e112_46 (l st : List AV) (σ : St) (x : Nat) : run 112 46 (vR x :: l) (st) σ = run 112 47 (vR x :: l) (vR x :: st) σ := (run_eq 112 46 _ _ σ).trans rfl
theorem e112_47 (ls st : List AV) (σ : St) : run 112 47 (ls) (st) σ = run 112 48 (ls) (vI 0 :: st) σ := (run_eq 112 47 _ _ σ).trans rfl
theorem e112_48 (ls st : List AV) (σ : St) (z : Int) (x : Nat) (h : fok σ x 3) : run 112 48 (ls) (vI z :: vR x :: st) σ = run 112 51 (ls) (st) (sr σ x (ru (gt σ x) 9 z)) := (run_eq 112 48 _ _ σ).trans (if_pos h)
theorem e112_51 (l st : List AV) (σ : St) (x : Nat) : run 112 51 (vR x :: l) (st) σ = run 112 52 (vR x :: l) (vR x :: st) σ := (run_eq 112 51 _ _ σ).trans rfl
theorem e112_52 (ls st : List AV) (σ : St) (x : Nat) (h : fok σ x 3) : run 112 52 (ls) (vR x :: st) σ = run 112 55 (ls) (vI (gt σ x 15) :: st) σ := (run_eq 112 52 _ _ σ).trans (if_pos h)
theorem e112_55 (ls : List AV) (σ : St) (x : Int) : run 112 55 ls [vI x] σ = some (vI x, σ) := (run_eq 112 55 _ _ σ).trans rfl
/-! M_barOfNight -/
theorem e113_0 (l st : List AV) (σ : St) (x : Nat) : run 113 0 (vR x :: l) (st) σ = run 113 1 (vR x :: l) (vR x :: st) σ := (run_eq 113 0 _ _ σ).trans rfl
theorem e113_1 (ls st : List AV) (σ : St) (x0 : Nat) (h4 : st.length ≤ 4) (h : fok σ x0 3) : run 113 1 ls (vR x0 :: st) σ = bnd (run 103 0 [vR x0, vU, vU, vU, vU] [] σ) (fun r σ => run 113 4 ls (psh r st) σ) := (run_eq 113 1 _ _ σ).trans (if_pos ⟨rfl, by simp, by simpa using h4, rfl, h⟩)
theorem e113_4 (ls st : List AV) (σ : St) (x : Int) : run 113 4 (ls) (vI x :: st) σ = if x < 0 then run 113 7 (ls) (st) σ else run 113 15 (ls) (st) σ := (run_eq 113 4 _ _ σ).trans rfl
theorem e113_7 (l st : List AV) (σ : St) (x : Nat) : run 113 7 (vR x :: l) (st) σ = run 113 8 (vR x :: l) (vR x :: st) σ := (run_eq 113 7 _ _ σ).trans rfl
theorem e113_8 (a0 : AV) (l st : List AV) (σ : St) (x : Int) : run 113 8 (a0 :: vI x :: l) (st) σ = run 113 9 (a0 :: vI x :: l) (vI x :: st) σ := (run_eq 113 8 _ _ σ).trans rfl
theorem e113_9 (ls st : List AV) (σ : St) (x0 : Nat) (x1 : Int) (h4 : st.length ≤ 4) (h : fok σ x0 3) : run 113 9 ls (vI x1 :: vR x0 :: st) σ = bnd (run 106 0 [vR x0, vI x1, vU, vU, vU, vU] [] σ) (fun r σ => run 113 12 ls (psh r st) σ) := (run_eq 113 9 _ _ σ).trans (if_pos ⟨rfl, by simp, by simpa using h4, rfl, h⟩)
theorem e113_12 (ls st : List AV) (σ : St) (x : Int) : run 113 12 (ls) (vI x :: st) σ = if x < 0 then run 113 20 (ls) (st) σ else run 113 15 (ls) (st) σ := (run_eq 113 12 _ _ σ).trans rfl
theorem e113_15 (ls st : List AV) (σ : St) : run 113 15 (ls) (st) σ = run 113 17 (ls) (vI (-5) :: st) σ := (run_eq 113 15 _ _ σ).trans rfl
theorem e113_17 (ls st : List AV) (σ : St) : run 113 17 (ls) (st) σ = run 113 21 (ls) (st) σ := (run_eq 113 17 _ _ σ).trans rfl
theorem e113_20 (ls st : List AV) (σ : St) : run 113 20 (ls) (st) σ = run 113 21 (ls) (vI 0 :: st) σ := (run_eq 113 20 _ _ σ).trans rfl
theorem e113_21 (ls : List AV) (σ : St) (x : Int) : run 113 21 ls [vI x] σ = some (vI x, σ) := (run_eq 113 21 _ _ σ).trans rfl
/-! M_state -/
theorem e114_0 (l st : List AV) (σ : St) (x : Nat) : run 114 0 (vR x :: l) (st) σ = run 114 1 (vR x :: l) (vR x :: st) σ := (run_eq 114 0 _ _ σ).trans rfl
theorem e114_1 (a0 : AV) (l st : List AV) (σ : St) (x : Int) : run 114 1 (a0 :: vI x :: l) (st) σ = run 114 2 (a0 :: vI x :: l) (vI x :: st) σ := (run_eq 114 1 _ _ σ).trans rfl
theorem e114_2 (ls st : List AV) (σ : St) (x0 : Nat) (x1 : Int) (h4 : st.length ≤ 4) (h : fok σ x0 3) : run 114 2 ls (vI x1 :: vR x0 :: st) σ = bnd (run 94 0 [vR x0, vI x1] [] σ) (fun r σ => run 114 5 ls (psh r st) σ) := (run_eq 114 2 _ _ σ).trans (if_pos ⟨rfl, by simp, by simpa using h4, rfl, h⟩)
theorem e114_5 (ls st : List AV) (σ : St) (x : Int) : run 114 5 (ls) (vI x :: st) σ = if x = 0 then run 114 8 (ls) (st) σ else run 114 10 (ls) (st) σ := (run_eq 114 5 _ _ σ).trans rfl
theorem e114_8 (ls st : List AV) (σ : St) : run 114 8 (ls) (st) σ = run 114 9 (ls) (vI (-1) :: st) σ := (run_eq 114 8 _ _ σ).trans rfl
theorem e114_9 (ls : List AV) (σ : St) (x : Int) : run 114 9 ls [vI x] σ = some (vI x, σ) := (run_eq 114 9 _ _ σ).trans rfl
theorem e114_10 (a0 a1 : AV) (l st : List AV) (σ : St) (x : Int) : run 114 10 (a0 :: a1 :: vI x :: l) (st) σ = run 114 11 (a0 :: a1 :: vI x :: l) (vI x :: st) σ := (run_eq 114 10 _ _ σ).trans rfl
theorem e114_11 (ls st : List AV) (σ : St) (x : Int) : run 114 11 (ls) (vI x :: st) σ = if x = 0 then run 114 14 (ls) (st) σ else run 114 23 (ls) (st) σ := (run_eq 114 11 _ _ σ).trans rfl
theorem e114_14 (l st : List AV) (σ : St) (x : Nat) : run 114 14 (vR x :: l) (st) σ = run 114 15 (vR x :: l) (vR x :: st) σ := (run_eq 114 14 _ _ σ).trans rfl
theorem e114_15 (ls st : List AV) (σ : St) (x : Nat) (h : fok σ x 3) : run 114 15 (ls) (vR x :: st) σ = run 114 18 (ls) (vR (gr σ x 2) :: st) σ := (run_eq 114 15 _ _ σ).trans (if_pos h)
theorem e114_18 (a0 : AV) (l st : List AV) (σ : St) (x : Int) : run 114 18 (a0 :: vI x :: l) (st) σ = run 114 19 (a0 :: vI x :: l) (vI x :: st) σ := (run_eq 114 18 _ _ σ).trans rfl
theorem e114_19 (ls st : List AV) (σ : St) (j : Int) (x : Nat) (h : aok σ x 4 j) : run 114 19 (ls) (vI j :: vR x :: st) σ = run 114 20 (ls) (vI (gt σ x j.toNat) :: st) σ := (run_eq 114 19 _ _ σ).trans (if_pos h)
theorem e114_20 (ls st : List AV) (σ : St) : run 114 20 (ls) (st) σ = run 114 41 (ls) (st) σ := (run_eq 114 20 _ _ σ).trans rfl
theorem e114_23 (a0 a1 : AV) (l st : List AV) (σ : St) (x : Int) : run 114 23 (a0 :: a1 :: vI x :: l) (st) σ = run 114 24 (a0 :: a1 :: vI x :: l) (vI x :: st) σ := (run_eq 114 23 _ _ σ).trans rfl
theorem e114_24 (ls st : List AV) (σ : St) : run 114 24 (ls) (st) σ = run 114 25 (ls) (vI 1 :: st) σ := (run_eq 114 24 _ _ σ).trans rfl
theorem e114_25 (ls st : List AV) (σ : St) (y x : Int) : run 114 25 (ls) (vI y :: vI x :: st) σ = if x = y then run 114 28 (ls) (st) σ else run 114 39 (ls) (st) σ := (run_eq 114 25 _ _ σ).trans rfl
theorem e114_28 (l st : List AV) (σ : St) (x : Nat) : run 114 28 (vR x :: l) (st) σ = run 114 29 (vR x :: l) (vR x :: st) σ := (run_eq 114 28 _ _ σ).trans rfl
theorem e114_29 (ls st : List AV) (σ : St) (x : Nat) (h : fok σ x 3) : run 114 29 (ls) (vR x :: st) σ = run 114 32 (ls) (vI (gt σ x 3) :: st) σ := (run_eq 114 29 _ _ σ).trans (if_pos h)
theorem e114_32 (a0 : AV) (l st : List AV) (σ : St) (x : Int) : run 114 32 (a0 :: vI x :: l) (st) σ = run 114 33 (a0 :: vI x :: l) (vI x :: st) σ := (run_eq 114 32 _ _ σ).trans rfl
theorem e114_33 (ls st : List AV) (σ : St) (y x : Int) : run 114 33 (ls) (vI y :: vI x :: st) σ = run 114 34 (ls) (vI (bShr x y) :: st) σ := (run_eq 114 33 _ _ σ).trans rfl
theorem e114_34 (ls st : List AV) (σ : St) : run 114 34 (ls) (st) σ = run 114 35 (ls) (vI 1 :: st) σ := (run_eq 114 34 _ _ σ).trans rfl
theorem e114_35 (ls st : List AV) (σ : St) (y x : Int) : run 114 35 (ls) (vI y :: vI x :: st) σ = run 114 36 (ls) (vI (bAnd x y) :: st) σ := (run_eq 114 35 _ _ σ).trans rfl
theorem e114_36 (ls st : List AV) (σ : St) : run 114 36 (ls) (st) σ = run 114 41 (ls) (st) σ := (run_eq 114 36 _ _ σ).trans rfl
theorem e114_39 (ls st : List AV) (σ : St) : run 114 39 (ls) (st) σ = run 114 41 (ls) (vI (-2) :: st) σ := (run_eq 114 39 _ _ σ).trans rfl
theorem e114_41 (ls : List AV) (σ : St) (x : Int) : run 114 41 ls [vI x] σ = some (vI x, σ) := (run_eq 114 41 _ _ σ).trans rfl
/-! M_behind -/
theorem e115_0 (l st : List AV) (σ : St) (x : Nat) : run 115 0 (vR x :: l) (st) σ = run 115 1 (vR x :: l) (vR x :: st) σ := (run_eq 115 0 _ _ σ).trans rfl
theorem e115_1 (a0 : AV) (l st : List AV) (σ : St) (x : Int) : run 115 1 (a0 :: vI x :: l) (st) σ = run 115 2 (a0 :: vI x :: l) (vI x :: st) σ := (run_eq 115 1 _ _ σ).trans rfl
theorem e115_2 (ls st : List AV) (σ : St) (x0 : Nat) (x1 : Int) (h4 : st.length ≤ 4) (h : fok σ x0 3) : run 115 2 ls (vI x1 :: vR x0 :: st) σ = bnd (run 94 0 [vR x0, vI x1] [] σ) (fun r σ => run 115 5 ls (psh r st) σ) := (run_eq 115 2 _ _ σ).trans (if_pos ⟨rfl, by simp, by simpa using h4, rfl, h⟩)
theorem e115_5 (ls st : List AV) (σ : St) (x : Int) : run 115 5 (ls) (vI x :: st) σ = if x = 0 then run 115 8 (ls) (st) σ else run 115 10 (ls) (st) σ := (run_eq 115 5 _ _ σ).trans rfl
theorem e115_8 (ls st : List AV) (σ : St) : run 115 8 (ls) (st) σ = run 115 9 (ls) (vI (-1) :: st) σ := (run_eq 115 8 _ _ σ).trans rfl
theorem e115_9 (ls : List AV) (σ : St) (x : Int) : run 115 9 ls [vI x] σ = some (vI x, σ) := (run_eq 115 9 _ _ σ).trans rfl
theorem e115_10 (a0 a1 : AV) (l st : List AV) (σ : St) (x : Int) : run 115 10 (a0 :: a1 :: vI x :: l) (st) σ = run 115 11 (a0 :: a1 :: vI x :: l) (vI x :: st) σ := (run_eq 115 10 _ _ σ).trans rfl
theorem e115_11 (ls st : List AV) (σ : St) : run 115 11 (ls) (st) σ = run 115 12 (ls) (vI 0 :: st) σ := (run_eq 115 11 _ _ σ).trans rfl
theorem e115_12 (ls st : List AV) (σ : St) : run 115 12 (ls) (st) σ = run 115 13 (ls) (vI 1 :: st) σ := (run_eq 115 12 _ _ σ).trans rfl
theorem e115_13 (ls st : List AV) (σ : St) (x0 : Int) (x1 : Int) (x2 : Int) (h4 : st.length ≤ 4) : run 115 13 ls (vI x2 :: vI x1 :: vI x0 :: st) σ = bnd (run 92 0 [vI x0, vI x1, vI x2] [] σ) (fun r σ => run 115 16 ls (psh r st) σ) := (run_eq 115 13 _ _ σ).trans (if_pos ⟨rfl, by simp, by simpa using h4⟩)
theorem e115_16 (ls st : List AV) (σ : St) (x : Int) : run 115 16 (ls) (vI x :: st) σ = if x = 0 then run 115 19 (ls) (st) σ else run 115 22 (ls) (st) σ := (run_eq 115 16 _ _ σ).trans rfl
theorem e115_19 (ls st : List AV) (σ : St) : run 115 19 (ls) (st) σ = run 115 21 (ls) (vI (-2) :: st) σ := (run_eq 115 19 _ _ σ).trans rfl
theorem e115_21 (ls : List AV) (σ : St) (x : Int) : run 115 21 ls [vI x] σ = some (vI x, σ) := (run_eq 115 21 _ _ σ).trans rfl
theorem e115_22 (l st : List AV) (σ : St) (x : Nat) : run 115 22 (vR x :: l) (st) σ = run 115 23 (vR x :: l) (vR x :: st) σ := (run_eq 115 22 _ _ σ).trans rfl
theorem e115_23 (ls st : List AV) (σ : St) : run 115 23 (ls) (st) σ = run 115 25 (ls) (vI (-6) :: st) σ := (run_eq 115 23 _ _ σ).trans rfl
theorem e115_25 (ls st : List AV) (σ : St) (x0 : Nat) (x1 : Int) (h4 : st.length ≤ 4) (h : fok σ x0 3) : run 115 25 ls (vI x1 :: vR x0 :: st) σ = bnd (run 113 0 [vR x0, vI x1] [] σ) (fun r σ => run 115 28 ls (psh r st) σ) := (run_eq 115 25 _ _ σ).trans (if_pos ⟨rfl, by simp, by simpa using h4, rfl, h⟩)
theorem e115_28 (ls st : List AV) (σ : St) (x : Int) : run 115 28 (ls) (vI x :: st) σ = if x < 0 then run 115 31 (ls) (st) σ else run 115 34 (ls) (st) σ := (run_eq 115 28 _ _ σ).trans rfl
theorem e115_31 (ls st : List AV) (σ : St) : run 115 31 (ls) (st) σ = run 115 33 (ls) (vI (-5) :: st) σ := (run_eq 115 31 _ _ σ).trans rfl
theorem e115_33 (ls : List AV) (σ : St) (x : Int) : run 115 33 ls [vI x] σ = some (vI x, σ) := (run_eq 115 33 _ _ σ).trans rfl
theorem e115_34 (a0 a1 : AV) (l st : List AV) (σ : St) (x : Int) : run 115 34 (a0 :: a1 :: vI x :: l) (st) σ = run 115 35 (a0 :: a1 :: vI x :: l) (vI x :: st) σ := (run_eq 115 34 _ _ σ).trans rfl
theorem e115_35 (ls st : List AV) (σ : St) (x : Int) : run 115 35 (ls) (vI x :: st) σ = if x = 0 then run 115 38 (ls) (st) σ else run 115 47 (ls) (st) σ := (run_eq 115 35 _ _ σ).trans rfl
theorem e115_38 (l st : List AV) (σ : St) (x : Nat) : run 115 38 (vR x :: l) (st) σ = run 115 39 (vR x :: l) (vR x :: st) σ := (run_eq 115 38 _ _ σ).trans rfl
theorem e115_39 (ls st : List AV) (σ : St) (x : Nat) (h : fok σ x 3) : run 115 39 (ls) (vR x :: st) σ = run 115 42 (ls) (vR (gr σ x 11) :: st) σ := (run_eq 115 39 _ _ σ).trans (if_pos h)
theorem e115_42 (a0 : AV) (l st : List AV) (σ : St) (x : Int) : run 115 42 (a0 :: vI x :: l) (st) σ = run 115 43 (a0 :: vI x :: l) (vI x :: st) σ := (run_eq 115 42 _ _ σ).trans rfl
theorem e115_43 (ls st : List AV) (σ : St) (j : Int) (x : Nat) (h : aok σ x 4 j) : run 115 43 (ls) (vI j :: vR x :: st) σ = run 115 44 (ls) (vI (gt σ x j.toNat) :: st) σ := (run_eq 115 43 _ _ σ).trans (if_pos h)
theorem e115_44 (ls st : List AV) (σ : St) : run 115 44 (ls) (st) σ = run 115 55 (ls) (st) σ := (run_eq 115 44 _ _ σ).trans rfl
theorem e115_47 (l st : List AV) (σ : St) (x : Nat) : run 115 47 (vR x :: l) (st) σ = run 115 48 (vR x :: l) (vR x :: st) σ := (run_eq 115 47 _ _ σ).trans rfl
theorem e115_48 (ls st : List AV) (σ : St) (x : Nat) (h : fok σ x 3) : run 115 48 (ls) (vR x :: st) σ = run 115 51 (ls) (vI (gt σ x 13) :: st) σ := (run_eq 115 48 _ _ σ).trans (if_pos h)
theorem e115_51 (a0 : AV) (l st : List AV) (σ : St) (x : Int) : run 115 51 (a0 :: vI x :: l) (st) σ = run 115 52 (a0 :: vI x :: l) (vI x :: st) σ := (run_eq 115 51 _ _ σ).trans rfl
theorem e115_52 (ls st : List AV) (σ : St) (y x : Int) : run 115 52 (ls) (vI y :: vI x :: st) σ = run 115 53 (ls) (vI (bShr x y) :: st) σ := (run_eq 115 52 _ _ σ).trans rfl
theorem e115_53 (ls st : List AV) (σ : St) : run 115 53 (ls) (st) σ = run 115 54 (ls) (vI 1 :: st) σ := (run_eq 115 53 _ _ σ).trans rfl
theorem e115_54 (ls st : List AV) (σ : St) (y x : Int) : run 115 54 (ls) (vI y :: vI x :: st) σ = run 115 55 (ls) (vI (bAnd x y) :: st) σ := (run_eq 115 54 _ _ σ).trans rfl
theorem e115_55 (ls : List AV) (σ : St) (x : Int) : run 115 55 ls [vI x] σ = some (vI x, σ) := (run_eq 115 55 _ _ σ).trans rfl
/-! M_stands -/
theorem e116_0 (l st : List AV) (σ : St) (x : Nat) : run 116 0 (vR x :: l) (st) σ = run 116 1 (vR x :: l) (vR x :: st) σ := (run_eq 116 0 _ _ σ).trans rfl
theorem e116_1 (a0 : AV) (l st : List AV) (σ : St) (x : Int) : run 116 1 (a0 :: vI x :: l) (st) σ = run 116 2 (a0 :: vI x :: l) (vI x :: st) σ := (run_eq 116 1 _ _ σ).trans rfl
theorem e116_2 (ls st : List AV) (σ : St) (x0 : Nat) (x1 : Int) (h4 : st.length ≤ 4) (h : fok σ x0 3) : run 116 2 ls (vI x1 :: vR x0 :: st) σ = bnd (run 117 0 [vR x0, vI x1] [] σ) (fun r σ => run 116 5 ls (psh r st) σ) := (run_eq 116 2 _ _ σ).trans (if_pos ⟨rfl, by simp, by simpa using h4, rfl, h⟩)
theorem e116_5 (ls st : List AV) (σ : St) (x : Int) : run 116 5 (ls) (vI x :: st) σ = if x = 0 then run 116 8 (ls) (st) σ else run 116 10 (ls) (st) σ := (run_eq 116 5 _ _ σ).trans rfl
theorem e116_8 (ls st : List AV) (σ : St) : run 116 8 (ls) (st) σ = run 116 9 (ls) (vI (-1) :: st) σ := (run_eq 116 8 _ _ σ).trans rfl
theorem e116_9 (ls : List AV) (σ : St) (x : Int) : run 116 9 ls [vI x] σ = some (vI x, σ) := (run_eq 116 9 _ _ σ).trans rfl
theorem e116_10 (l st : List AV) (σ : St) (x : Nat) : run 116 10 (vR x :: l) (st) σ = run 116 11 (vR x :: l) (vR x :: st) σ := (run_eq 116 10 _ _ σ).trans rfl
theorem e116_11 (ls st : List AV) (σ : St) (x0 : Nat) (h4 : st.length ≤ 4) (h : fok σ x0 3) : run 116 11 ls (vR x0 :: st) σ = bnd (run 107 0 [vR x0, vU] [] σ) (fun r σ => run 116 14 ls (psh r st) σ) := (run_eq 116 11 _ _ σ).trans (if_pos ⟨rfl, by simp, by simpa using h4, rfl, h⟩)
theorem e116_14 (l st : List AV) (σ : St) (x : Nat) : run 116 14 (vR x :: l) (st) σ = run 116 15 (vR x :: l) (vR x :: st) σ := (run_eq 116 14 _ _ σ).trans rfl
theorem e116_15 (a0 : AV) (l st : List AV) (σ : St) (x : Int) : run 116 15 (a0 :: vI x :: l) (st) σ = run 116 16 (a0 :: vI x :: l) (vI x :: st) σ := (run_eq 116 15 _ _ σ).trans rfl
theorem e116_16 (ls st : List AV) (σ : St) (x0 : Nat) (x1 : Int) (h4 : st.length ≤ 4) (h : fok σ x0 3) : run 116 16 ls (vI x1 :: vR x0 :: st) σ = bnd (run 111 0 [vR x0, vI x1, vU, vU, vU] [] σ) (fun r σ => run 116 19 ls (psh r st) σ) := (run_eq 116 16 _ _ σ).trans (if_pos ⟨rfl, by simp, by simpa using h4, rfl, h⟩)
theorem e116_19 (ls st : List AV) (σ : St) (x : Int) : run 116 19 (ls) (vI x :: st) σ = if x = 0 then run 116 26 (ls) (st) σ else run 116 22 (ls) (st) σ := (run_eq 116 19 _ _ σ).trans rfl
theorem e116_22 (ls st : List AV) (σ : St) : run 116 22 (ls) (st) σ = run 116 23 (ls) (vI 1 :: st) σ := (run_eq 116 22 _ _ σ).trans rfl
theorem e116_23 (ls st : List AV) (σ : St) : run 116 23 (ls) (st) σ = run 116 27 (ls) (st) σ := (run_eq 116 23 _ _ σ).trans rfl
theorem e116_26 (ls st : List AV) (σ : St) : run 116 26 (ls) (st) σ = run 116 27 (ls) (vI 0 :: st) σ := (run_eq 116 26 _ _ σ).trans rfl
theorem e116_27 (ls : List AV) (σ : St) (x : Int) : run 116 27 ls [vI x] σ = some (vI x, σ) := (run_eq 116 27 _ _ σ).trans rfl
/-! M_isShape -/
theorem e117_0 (a0 : AV) (l st : List AV) (σ : St) (x : Int) : run 117 0 (a0 :: vI x :: l) (st) σ = run 117 1 (a0 :: vI x :: l) (vI x :: st) σ := (run_eq 117 0 _ _ σ).trans rfl
theorem e117_1 (ls st : List AV) (σ : St) : run 117 1 (ls) (st) σ = run 117 2 (ls) (vI 0 :: st) σ := (run_eq 117 1 _ _ σ).trans rfl
theorem e117_2 (ls st : List AV) (σ : St) : run 117 2 (ls) (st) σ = run 117 3 (ls) (vI 3 :: st) σ := (run_eq 117 2 _ _ σ).trans rfl
theorem e117_3 (ls st : List AV) (σ : St) (x0 : Int) (x1 : Int) (x2 : Int) (h4 : st.length ≤ 4) : run 117 3 ls (vI x2 :: vI x1 :: vI x0 :: st) σ = bnd (run 92 0 [vI x0, vI x1, vI x2] [] σ) (fun r σ => run 117 6 ls (psh r st) σ) := (run_eq 117 3 _ _ σ).trans (if_pos ⟨rfl, by simp, by simpa using h4⟩)
theorem e117_6 (ls st : List AV) (σ : St) (x : Int) : run 117 6 (ls) (vI x :: st) σ = if x = 0 then run 117 21 (ls) (st) σ else run 117 9 (ls) (st) σ := (run_eq 117 6 _ _ σ).trans rfl
theorem e117_9 (l st : List AV) (σ : St) (x : Nat) : run 117 9 (vR x :: l) (st) σ = run 117 10 (vR x :: l) (vR x :: st) σ := (run_eq 117 9 _ _ σ).trans rfl
theorem e117_10 (a0 : AV) (l st : List AV) (σ : St) (x : Int) : run 117 10 (a0 :: vI x :: l) (st) σ = run 117 11 (a0 :: vI x :: l) (vI x :: st) σ := (run_eq 117 10 _ _ σ).trans rfl
theorem e117_11 (ls st : List AV) (σ : St) (x0 : Nat) (x1 : Int) (h4 : st.length ≤ 4) (h : fok σ x0 3) : run 117 11 ls (vI x1 :: vR x0 :: st) σ = bnd (run 98 0 [vR x0, vI x1, vU, vU] [] σ) (fun r σ => run 117 14 ls (psh r st) σ) := (run_eq 117 11 _ _ σ).trans (if_pos ⟨rfl, by simp, by simpa using h4, rfl, h⟩)
theorem e117_14 (ls st : List AV) (σ : St) (x : Int) : run 117 14 (ls) (vI x :: st) σ = if x = 0 then run 117 21 (ls) (st) σ else run 117 17 (ls) (st) σ := (run_eq 117 14 _ _ σ).trans rfl
theorem e117_17 (ls st : List AV) (σ : St) : run 117 17 (ls) (st) σ = run 117 18 (ls) (vI 1 :: st) σ := (run_eq 117 17 _ _ σ).trans rfl
theorem e117_18 (ls st : List AV) (σ : St) : run 117 18 (ls) (st) σ = run 117 22 (ls) (st) σ := (run_eq 117 18 _ _ σ).trans rfl
theorem e117_21 (ls st : List AV) (σ : St) : run 117 21 (ls) (st) σ = run 117 22 (ls) (vI 0 :: st) σ := (run_eq 117 21 _ _ σ).trans rfl
theorem e117_22 (ls : List AV) (σ : St) (x : Int) (h : x = 0 ∨ x = 1) : run 117 22 ls [vI x] σ = some (vI x, σ) := (run_eq 117 22 _ _ σ).trans (if_pos h)
/-! M_lost -/
theorem e118_0 (l st : List AV) (σ : St) (x : Nat) : run 118 0 (vR x :: l) (st) σ = run 118 1 (vR x :: l) (vR x :: st) σ := (run_eq 118 0 _ _ σ).trans rfl
theorem e118_1 (a0 : AV) (l st : List AV) (σ : St) (x : Int) : run 118 1 (a0 :: vI x :: l) (st) σ = run 118 2 (a0 :: vI x :: l) (vI x :: st) σ := (run_eq 118 1 _ _ σ).trans rfl
theorem e118_2 (ls st : List AV) (σ : St) (x0 : Nat) (x1 : Int) (h4 : st.length ≤ 4) (h : fok σ x0 3) : run 118 2 ls (vI x1 :: vR x0 :: st) σ = bnd (run 117 0 [vR x0, vI x1] [] σ) (fun r σ => run 118 5 ls (psh r st) σ) := (run_eq 118 2 _ _ σ).trans (if_pos ⟨rfl, by simp, by simpa using h4, rfl, h⟩)
theorem e118_5 (ls st : List AV) (σ : St) (x : Int) : run 118 5 (ls) (vI x :: st) σ = if x = 0 then run 118 8 (ls) (st) σ else run 118 10 (ls) (st) σ := (run_eq 118 5 _ _ σ).trans rfl
theorem e118_8 (ls st : List AV) (σ : St) : run 118 8 (ls) (st) σ = run 118 9 (ls) (vI (-1) :: st) σ := (run_eq 118 8 _ _ σ).trans rfl
theorem e118_9 (ls : List AV) (σ : St) (x : Int) : run 118 9 ls [vI x] σ = some (vI x, σ) := (run_eq 118 9 _ _ σ).trans rfl
theorem e118_10 (l st : List AV) (σ : St) (x : Nat) : run 118 10 (vR x :: l) (st) σ = run 118 11 (vR x :: l) (vR x :: st) σ := (run_eq 118 10 _ _ σ).trans rfl
theorem e118_11 (a0 : AV) (l st : List AV) (σ : St) (x : Int) : run 118 11 (a0 :: vI x :: l) (st) σ = run 118 12 (a0 :: vI x :: l) (vI x :: st) σ := (run_eq 118 11 _ _ σ).trans rfl
theorem e118_12 (ls st : List AV) (σ : St) (x0 : Nat) (x1 : Int) (h4 : st.length ≤ 4) (h : fok σ x0 3) : run 118 12 ls (vI x1 :: vR x0 :: st) σ = bnd (run 113 0 [vR x0, vI x1] [] σ) (fun r σ => run 118 15 ls (psh r st) σ) := (run_eq 118 12 _ _ σ).trans (if_pos ⟨rfl, by simp, by simpa using h4, rfl, h⟩)
theorem e118_15 (ls st : List AV) (σ : St) (x : Int) : run 118 15 (ls) (vI x :: st) σ = if x < 0 then run 118 18 (ls) (st) σ else run 118 23 (ls) (st) σ := (run_eq 118 15 _ _ σ).trans rfl
theorem e118_18 (ls st : List AV) (σ : St) : run 118 18 (ls) (st) σ = run 118 20 (ls) (vI (-5) :: st) σ := (run_eq 118 18 _ _ σ).trans rfl
theorem e118_20 (ls st : List AV) (σ : St) : run 118 20 (ls) (st) σ = run 118 27 (ls) (st) σ := (run_eq 118 20 _ _ σ).trans rfl
theorem e118_23 (l st : List AV) (σ : St) (x : Nat) : run 118 23 (vR x :: l) (st) σ = run 118 24 (vR x :: l) (vR x :: st) σ := (run_eq 118 23 _ _ σ).trans rfl
theorem e118_24 (ls st : List AV) (σ : St) (x : Nat) (h : fok σ x 3) : run 118 24 (ls) (vR x :: st) σ = run 118 27 (ls) (vI (gt σ x 16) :: st) σ := (run_eq 118 24 _ _ σ).trans (if_pos h)
theorem e118_27 (ls : List AV) (σ : St) (x : Int) : run 118 27 ls [vI x] σ = some (vI x, σ) := (run_eq 118 27 _ _ σ).trans rfl
/-! M_through -/
theorem e119_0 (ls st : List AV) (σ : St) : run 119 0 (ls) (st) σ = run 119 1 (ls) (vI 0 :: st) σ := (run_eq 119 0 _ _ σ).trans rfl
theorem e119_1 (a0 : AV) (l st : List AV) (σ : St) (q : AV) (x : Int) : run 119 1 (a0 :: q :: l) (vI x :: st) σ = run 119 2 (a0 :: vI x :: l) (st) σ := (run_eq 119 1 _ _ σ).trans rfl
theorem e119_2 (ls st : List AV) (σ : St) : run 119 2 (ls) (st) σ = run 119 3 (ls) (vI 0 :: st) σ := (run_eq 119 2 _ _ σ).trans rfl
theorem e119_3 (a0 a1 : AV) (l st : List AV) (σ : St) (q : AV) (x : Int) : run 119 3 (a0 :: a1 :: q :: l) (vI x :: st) σ = run 119 4 (a0 :: a1 :: vI x :: l) (st) σ := (run_eq 119 3 _ _ σ).trans rfl
theorem e119_4 (a0 a1 : AV) (l st : List AV) (σ : St) (x : Int) : run 119 4 (a0 :: a1 :: vI x :: l) (st) σ = run 119 5 (a0 :: a1 :: vI x :: l) (vI x :: st) σ := (run_eq 119 4 _ _ σ).trans rfl
theorem e119_5 (l st : List AV) (σ : St) (x : Nat) : run 119 5 (vR x :: l) (st) σ = run 119 6 (vR x :: l) (vR x :: st) σ := (run_eq 119 5 _ _ σ).trans rfl
theorem e119_6 (ls st : List AV) (σ : St) (x : Nat) (h : fok σ x 3) : run 119 6 (ls) (vR x :: st) σ = run 119 9 (ls) (vI (gt σ x 0) :: st) σ := (run_eq 119 6 _ _ σ).trans (if_pos h)
theorem e119_9 (ls st : List AV) (σ : St) (y x : Int) : run 119 9 (ls) (vI y :: vI x :: st) σ = if x < y then run 119 12 (ls) (st) σ else run 119 79 (ls) (st) σ := (run_eq 119 9 _ _ σ).trans rfl
theorem e119_12 (ls st : List AV) (σ : St) : run 119 12 (ls) (st) σ = run 119 13 (ls) (vI 1 :: st) σ := (run_eq 119 12 _ _ σ).trans rfl
theorem e119_13 (a0 a1 a2 : AV) (l st : List AV) (σ : St) (q : AV) (x : Int) : run 119 13 (a0 :: a1 :: a2 :: q :: l) (vI x :: st) σ = run 119 14 (a0 :: a1 :: a2 :: vI x :: l) (st) σ := (run_eq 119 13 _ _ σ).trans rfl
theorem e119_14 (ls st : List AV) (σ : St) : run 119 14 (ls) (st) σ = run 119 15 (ls) (vI 0 :: st) σ := (run_eq 119 14 _ _ σ).trans rfl
theorem e119_15 (a0 a1 a2 a3 : AV) (l st : List AV) (σ : St) (q : AV) (x : Int) : run 119 15 (a0 :: a1 :: a2 :: a3 :: q :: l) (vI x :: st) σ = run 119 17 (a0 :: a1 :: a2 :: a3 :: vI x :: l) (st) σ := (run_eq 119 15 _ _ σ).trans rfl
theorem e119_17 (a0 a1 a2 a3 : AV) (l st : List AV) (σ : St) (x : Int) : run 119 17 (a0 :: a1 :: a2 :: a3 :: vI x :: l) (st) σ = run 119 19 (a0 :: a1 :: a2 :: a3 :: vI x :: l) (vI x :: st) σ := (run_eq 119 17 _ _ σ).trans rfl
theorem e119_19 (l st : List AV) (σ : St) (x : Nat) : run 119 19 (vR x :: l) (st) σ = run 119 20 (vR x :: l) (vR x :: st) σ := (run_eq 119 19 _ _ σ).trans rfl
theorem e119_20 (ls st : List AV) (σ : St) (x : Nat) (h : fok σ x 3) : run 119 20 (ls) (vR x :: st) σ = run 119 23 (ls) (vI (gt σ x 1) :: st) σ := (run_eq 119 20 _ _ σ).trans (if_pos h)
theorem e119_23 (ls st : List AV) (σ : St) (y x : Int) : run 119 23 (ls) (vI y :: vI x :: st) σ = if x < y then run 119 26 (ls) (st) σ else run 119 59 (ls) (st) σ := (run_eq 119 23 _ _ σ).trans rfl
theorem e119_26 (a0 a1 a2 : AV) (l st : List AV) (σ : St) (x : Int) : run 119 26 (a0 :: a1 :: a2 :: vI x :: l) (st) σ = run 119 27 (a0 :: a1 :: a2 :: vI x :: l) (vI x :: st) σ := (run_eq 119 26 _ _ σ).trans rfl
theorem e119_27 (ls st : List AV) (σ : St) (x : Int) : run 119 27 (ls) (vI x :: st) σ = if x = 0 then run 119 51 (ls) (st) σ else run 119 30 (ls) (st) σ := (run_eq 119 27 _ _ σ).trans rfl
theorem e119_30 (l st : List AV) (σ : St) (x : Nat) : run 119 30 (vR x :: l) (st) σ = run 119 31 (vR x :: l) (vR x :: st) σ := (run_eq 119 30 _ _ σ).trans rfl
theorem e119_31 (ls st : List AV) (σ : St) (x : Nat) (h : fok σ x 3) : run 119 31 (ls) (vR x :: st) σ = run 119 34 (ls) (vR (gr σ x 2) :: st) σ := (run_eq 119 31 _ _ σ).trans (if_pos h)
theorem e119_34 (a0 a1 : AV) (l st : List AV) (σ : St) (x : Int) : run 119 34 (a0 :: a1 :: vI x :: l) (st) σ = run 119 35 (a0 :: a1 :: vI x :: l) (vI x :: st) σ := (run_eq 119 34 _ _ σ).trans rfl
theorem e119_35 (l st : List AV) (σ : St) (x : Nat) : run 119 35 (vR x :: l) (st) σ = run 119 36 (vR x :: l) (vR x :: st) σ := (run_eq 119 35 _ _ σ).trans rfl
theorem e119_36 (ls st : List AV) (σ : St) (x : Nat) (h : fok σ x 3) : run 119 36 (ls) (vR x :: st) σ = run 119 39 (ls) (vI (gt σ x 1) :: st) σ := (run_eq 119 36 _ _ σ).trans (if_pos h)
theorem e119_39 (ls st : List AV) (σ : St) (y x : Int) : run 119 39 (ls) (vI y :: vI x :: st) σ = run 119 40 (ls) (vI (wr (x * y)) :: st) σ := (run_eq 119 39 _ _ σ).trans rfl
theorem e119_40 (a0 a1 a2 a3 : AV) (l st : List AV) (σ : St) (x : Int) : run 119 40 (a0 :: a1 :: a2 :: a3 :: vI x :: l) (st) σ = run 119 42 (a0 :: a1 :: a2 :: a3 :: vI x :: l) (vI x :: st) σ := (run_eq 119 40 _ _ σ).trans rfl
theorem e119_42 (ls st : List AV) (σ : St) (y x : Int) : run 119 42 (ls) (vI y :: vI x :: st) σ = run 119 43 (ls) (vI (wr (x + y)) :: st) σ := (run_eq 119 42 _ _ σ).trans rfl
theorem e119_43 (ls st : List AV) (σ : St) (j : Int) (x : Nat) (h : aok σ x 4 j) : run 119 43 (ls) (vI j :: vR x :: st) σ = run 119 44 (ls) (vI (gt σ x j.toNat) :: st) σ := (run_eq 119 43 _ _ σ).trans (if_pos h)
theorem e119_44 (ls st : List AV) (σ : St) (x : Int) : run 119 44 (ls) (vI x :: st) σ = if x = 0 then run 119 47 (ls) (st) σ else run 119 51 (ls) (st) σ := (run_eq 119 44 _ _ σ).trans rfl
theorem e119_47 (ls st : List AV) (σ : St) : run 119 47 (ls) (st) σ = run 119 48 (ls) (vI 1 :: st) σ := (run_eq 119 47 _ _ σ).trans rfl
theorem e119_48 (ls st : List AV) (σ : St) : run 119 48 (ls) (st) σ = run 119 52 (ls) (st) σ := (run_eq 119 48 _ _ σ).trans rfl
theorem e119_51 (ls st : List AV) (σ : St) : run 119 51 (ls) (st) σ = run 119 52 (ls) (vI 0 :: st) σ := (run_eq 119 51 _ _ σ).trans rfl
theorem e119_52 (a0 a1 a2 : AV) (l st : List AV) (σ : St) (q : AV) (x : Int) : run 119 52 (a0 :: a1 :: a2 :: q :: l) (vI x :: st) σ = run 119 53 (a0 :: a1 :: a2 :: vI x :: l) (st) σ := (run_eq 119 52 _ _ σ).trans rfl
theorem e119_53 (a0 a1 a2 a3 : AV) (l st : List AV) (σ : St) (x : Int) : run 119 53 (a0 :: a1 :: a2 :: a3 :: vI x :: l) (st) σ = run 119 56 (a0 :: a1 :: a2 :: a3 :: vI (wr (x + 1)) :: l) (st) σ := (run_eq 119 53 _ _ σ).trans rfl
theorem e119_56 (ls st : List AV) (σ : St) : run 119 56 (ls) (st) σ = run 119 17 (ls) (st) σ := (run_eq 119 56 _ _ σ).trans rfl
theorem e119_59 (a0 : AV) (l st : List AV) (σ : St) (x : Int) : run 119 59 (a0 :: vI x :: l) (st) σ = run 119 60 (a0 :: vI x :: l) (vI x :: st) σ := (run_eq 119 59 _ _ σ).trans rfl
theorem e119_60 (a0 a1 a2 : AV) (l st : List AV) (σ : St) (x : Int) : run 119 60 (a0 :: a1 :: a2 :: vI x :: l) (st) σ = run 119 61 (a0 :: a1 :: a2 :: vI x :: l) (vI x :: st) σ := (run_eq 119 60 _ _ σ).trans rfl
theorem e119_61 (ls st : List AV) (σ : St) (x : Int) : run 119 61 (ls) (vI x :: st) σ = if x = 0 then run 119 70 (ls) (st) σ else run 119 64 (ls) (st) σ := (run_eq 119 61 _ _ σ).trans rfl
theorem e119_64 (ls st : List AV) (σ : St) : run 119 64 (ls) (st) σ = run 119 65 (ls) (vI 1 :: st) σ := (run_eq 119 64 _ _ σ).trans rfl
theorem e119_65 (a0 a1 : AV) (l st : List AV) (σ : St) (x : Int) : run 119 65 (a0 :: a1 :: vI x :: l) (st) σ = run 119 66 (a0 :: a1 :: vI x :: l) (vI x :: st) σ := (run_eq 119 65 _ _ σ).trans rfl
theorem e119_66 (ls st : List AV) (σ : St) (y x : Int) : run 119 66 (ls) (vI y :: vI x :: st) σ = run 119 67 (ls) (vI (bShl x y) :: st) σ := (run_eq 119 66 _ _ σ).trans rfl
theorem e119_67 (ls st : List AV) (σ : St) : run 119 67 (ls) (st) σ = run 119 71 (ls) (st) σ := (run_eq 119 67 _ _ σ).trans rfl
theorem e119_70 (ls st : List AV) (σ : St) : run 119 70 (ls) (st) σ = run 119 71 (ls) (vI 0 :: st) σ := (run_eq 119 70 _ _ σ).trans rfl
theorem e119_71 (ls st : List AV) (σ : St) (y x : Int) : run 119 71 (ls) (vI y :: vI x :: st) σ = run 119 72 (ls) (vI (bOr x y) :: st) σ := (run_eq 119 71 _ _ σ).trans rfl
theorem e119_72 (a0 : AV) (l st : List AV) (σ : St) (q : AV) (x : Int) : run 119 72 (a0 :: q :: l) (vI x :: st) σ = run 119 73 (a0 :: vI x :: l) (st) σ := (run_eq 119 72 _ _ σ).trans rfl
theorem e119_73 (a0 a1 : AV) (l st : List AV) (σ : St) (x : Int) : run 119 73 (a0 :: a1 :: vI x :: l) (st) σ = run 119 76 (a0 :: a1 :: vI (wr (x + 1)) :: l) (st) σ := (run_eq 119 73 _ _ σ).trans rfl
theorem e119_76 (ls st : List AV) (σ : St) : run 119 76 (ls) (st) σ = run 119 4 (ls) (st) σ := (run_eq 119 76 _ _ σ).trans rfl
theorem e119_79 (a0 : AV) (l st : List AV) (σ : St) (x : Int) : run 119 79 (a0 :: vI x :: l) (st) σ = run 119 80 (a0 :: vI x :: l) (vI x :: st) σ := (run_eq 119 79 _ _ σ).trans rfl
theorem e119_80 (ls : List AV) (σ : St) (x : Int) : run 119 80 ls [vI x] σ = some (vI x, σ) := (run_eq 119 80 _ _ σ).trans rfl
/-! M_carved -/
theorem e120_0 (l st : List AV) (σ : St) (x : Nat) : run 120 0 (vR x :: l) (st) σ = run 120 1 (vR x :: l) (vR x :: st) σ := (run_eq 120 0 _ _ σ).trans rfl
theorem e120_1 (a0 : AV) (l st : List AV) (σ : St) (x : Int) : run 120 1 (a0 :: vI x :: l) (st) σ = run 120 2 (a0 :: vI x :: l) (vI x :: st) σ := (run_eq 120 1 _ _ σ).trans rfl
theorem e120_2 (ls st : List AV) (σ : St) (x0 : Nat) (x1 : Int) (h4 : st.length ≤ 4) (h : fok σ x0 3) : run 120 2 ls (vI x1 :: vR x0 :: st) σ = bnd (run 117 0 [vR x0, vI x1] [] σ) (fun r σ => run 120 5 ls (psh r st) σ) := (run_eq 120 2 _ _ σ).trans (if_pos ⟨rfl, by simp, by simpa using h4, rfl, h⟩)
theorem e120_5 (ls st : List AV) (σ : St) (x : Int) : run 120 5 (ls) (vI x :: st) σ = if x = 0 then run 120 18 (ls) (st) σ else run 120 8 (ls) (st) σ := (run_eq 120 5 _ _ σ).trans rfl
theorem e120_8 (l st : List AV) (σ : St) (x : Nat) : run 120 8 (vR x :: l) (st) σ = run 120 9 (vR x :: l) (vR x :: st) σ := (run_eq 120 8 _ _ σ).trans rfl
theorem e120_9 (a0 : AV) (l st : List AV) (σ : St) (x : Int) : run 120 9 (a0 :: vI x :: l) (st) σ = run 120 10 (a0 :: vI x :: l) (vI x :: st) σ := (run_eq 120 9 _ _ σ).trans rfl
theorem e120_10 (ls st : List AV) (σ : St) : run 120 10 (ls) (st) σ = run 120 11 (ls) (vI 0 :: st) σ := (run_eq 120 10 _ _ σ).trans rfl
theorem e120_11 (ls st : List AV) (σ : St) : run 120 11 (ls) (st) σ = run 120 12 (ls) (vI 0 :: st) σ := (run_eq 120 11 _ _ σ).trans rfl
theorem e120_12 (ls st : List AV) (σ : St) (x0 : Nat) (x1 : Int) (x2 : Int) (x3 : Int) (h4 : st.length ≤ 4) (h : fok σ x0 3) : run 120 12 ls (vI x3 :: vI x2 :: vI x1 :: vR x0 :: st) σ = bnd (run 121 0 [vR x0, vI x1, vI x2, vI x3, vU, vU, vU, vU, vU, vU] [] σ) (fun r σ => run 120 15 ls (psh r st) σ) := (run_eq 120 12 _ _ σ).trans (if_pos ⟨rfl, by simp, by simpa using h4, rfl, h⟩)
theorem e120_15 (ls st : List AV) (σ : St) : run 120 15 (ls) (st) σ = run 120 19 (ls) (st) σ := (run_eq 120 15 _ _ σ).trans rfl
theorem e120_18 (ls st : List AV) (σ : St) : run 120 18 (ls) (st) σ = run 120 19 (ls) (vI (-1) :: st) σ := (run_eq 120 18 _ _ σ).trans rfl
theorem e120_19 (ls : List AV) (σ : St) (x : Int) : run 120 19 ls [vI x] σ = some (vI x, σ) := (run_eq 120 19 _ _ σ).trans rfl
/-! M_actsFor -/
theorem e121_0 (ls st : List AV) (σ : St) : run 121 0 (ls) (st) σ = run 121 1 (ls) (vI 0 :: st) σ := (run_eq 121 0 _ _ σ).trans rfl
theorem e121_1 (a0 a1 a2 a3 : AV) (l st : List AV) (σ : St) (q : AV) (x : Int) : run 121 1 (a0 :: a1 :: a2 :: a3 :: q :: l) (vI x :: st) σ = run 121 3 (a0 :: a1 :: a2 :: a3 :: vI x :: l) (st) σ := (run_eq 121 1 _ _ σ).trans rfl
theorem e121_3 (ls st : List AV) (σ : St) : run 121 3 (ls) (st) σ = run 121 4 (ls) (vI 0 :: st) σ := (run_eq 121 3 _ _ σ).trans rfl
theorem e121_4 (a0 a1 a2 a3 a4 : AV) (l st : List AV) (σ : St) (q : AV) (x : Int) : run 121 4 (a0 :: a1 :: a2 :: a3 :: a4 :: q :: l) (vI x :: st) σ = run 121 6 (a0 :: a1 :: a2 :: a3 :: a4 :: vI x :: l) (st) σ := (run_eq 121 4 _ _ σ).trans rfl
theorem e121_6 (a0 a1 a2 a3 a4 : AV) (l st : List AV) (σ : St) (x : Int) : run 121 6 (a0 :: a1 :: a2 :: a3 :: a4 :: vI x :: l) (st) σ = run 121 8 (a0 :: a1 :: a2 :: a3 :: a4 :: vI x :: l) (vI x :: st) σ := (run_eq 121 6 _ _ σ).trans rfl
theorem e121_8 (l st : List AV) (σ : St) (x : Nat) : run 121 8 (vR x :: l) (st) σ = run 121 9 (vR x :: l) (vR x :: st) σ := (run_eq 121 8 _ _ σ).trans rfl
theorem e121_9 (ls st : List AV) (σ : St) (x0 : Nat) (h4 : st.length ≤ 4) (h : fok σ x0 3) : run 121 9 ls (vR x0 :: st) σ = bnd (run 95 0 [vR x0] [] σ) (fun r σ => run 121 12 ls (psh r st) σ) := (run_eq 121 9 _ _ σ).trans (if_pos ⟨rfl, by simp, by simpa using h4, rfl, h⟩)
theorem e121_12 (ls st : List AV) (σ : St) (y x : Int) : run 121 12 (ls) (vI y :: vI x :: st) σ = if x < y then run 121 15 (ls) (st) σ else run 121 159 (ls) (st) σ := (run_eq 121 12 _ _ σ).trans rfl
theorem e121_15 (l st : List AV) (σ : St) (x : Nat) : run 121 15 (vR x :: l) (st) σ = run 121 16 (vR x :: l) (vR x :: st) σ := (run_eq 121 15 _ _ σ).trans rfl
theorem e121_16 (ls st : List AV) (σ : St) (x : Nat) (h : fok σ x 3) : run 121 16 (ls) (vR x :: st) σ = run 121 19 (ls) (vR (gr σ x 6) :: st) σ := (run_eq 121 16 _ _ σ).trans (if_pos h)
theorem e121_19 (ls st : List AV) (σ : St) : run 121 19 (ls) (st) σ = run 121 21 (ls) (vI 24 :: st) σ := (run_eq 121 19 _ _ σ).trans rfl
theorem e121_21 (a0 : AV) (l st : List AV) (σ : St) (x : Int) : run 121 21 (a0 :: vI x :: l) (st) σ = run 121 22 (a0 :: vI x :: l) (vI x :: st) σ := (run_eq 121 21 _ _ σ).trans rfl
theorem e121_22 (ls st : List AV) (σ : St) (y x : Int) : run 121 22 (ls) (vI y :: vI x :: st) σ = run 121 23 (ls) (vI (wr (x * y)) :: st) σ := (run_eq 121 22 _ _ σ).trans rfl
theorem e121_23 (a0 a1 a2 a3 a4 : AV) (l st : List AV) (σ : St) (x : Int) : run 121 23 (a0 :: a1 :: a2 :: a3 :: a4 :: vI x :: l) (st) σ = run 121 25 (a0 :: a1 :: a2 :: a3 :: a4 :: vI x :: l) (vI x :: st) σ := (run_eq 121 23 _ _ σ).trans rfl
theorem e121_25 (ls st : List AV) (σ : St) (y x : Int) : run 121 25 (ls) (vI y :: vI x :: st) σ = run 121 26 (ls) (vI (wr (x + y)) :: st) σ := (run_eq 121 25 _ _ σ).trans rfl
theorem e121_26 (ls st : List AV) (σ : St) (j : Int) (x : Nat) (h : aok σ x 4 j) : run 121 26 (ls) (vI j :: vR x :: st) σ = run 121 27 (ls) (vI (gt σ x j.toNat) :: st) σ := (run_eq 121 26 _ _ σ).trans (if_pos h)
theorem e121_27 (a0 a1 a2 a3 a4 a5 : AV) (l st : List AV) (σ : St) (q : AV) (x : Int) : run 121 27 (a0 :: a1 :: a2 :: a3 :: a4 :: a5 :: q :: l) (vI x :: st) σ = run 121 29 (a0 :: a1 :: a2 :: a3 :: a4 :: a5 :: vI x :: l) (st) σ := (run_eq 121 27 _ _ σ).trans rfl
theorem e121_29 (a0 a1 a2 a3 a4 a5 : AV) (l st : List AV) (σ : St) (x : Int) : run 121 29 (a0 :: a1 :: a2 :: a3 :: a4 :: a5 :: vI x :: l) (st) σ = run 121 31 (a0 :: a1 :: a2 :: a3 :: a4 :: a5 :: vI x :: l) (vI x :: st) σ := (run_eq 121 29 _ _ σ).trans rfl
theorem e121_31 (ls st : List AV) (σ : St) (x : Int) : run 121 31 (ls) (vI x :: st) σ = if x < 0 then run 121 153 (ls) (st) σ else run 121 34 (ls) (st) σ := (run_eq 121 31 _ _ σ).trans rfl
theorem e121_34 (a0 a1 a2 a3 a4 : AV) (l st : List AV) (σ : St) (x : Int) : run 121 34 (a0 :: a1 :: a2 :: a3 :: a4 :: vI x :: l) (st) σ = run 121 36 (a0 :: a1 :: a2 :: a3 :: a4 :: vI x :: l) (vI x :: st) σ := (run_eq 121 34 _ _ σ).trans rfl
theorem e121_36 (l st : List AV) (σ : St) (x : Nat) : run 121 36 (vR x :: l) (st) σ = run 121 37 (vR x :: l) (vR x :: st) σ := (run_eq 121 36 _ _ σ).trans rfl
theorem e121_37 (ls st : List AV) (σ : St) (x : Nat) (h : fok σ x 3) : run 121 37 (ls) (vR x :: st) σ = run 121 40 (ls) (vI (gt σ x 1) :: st) σ := (run_eq 121 37 _ _ σ).trans (if_pos h)
theorem e121_40 (ls st : List AV) (σ : St) (y x : Int) (h : ¬ y = 0) : run 121 40 (ls) (vI y :: vI x :: st) σ = run 121 41 (ls) (vI (wr (x.tdiv y)) :: st) σ := (run_eq 121 40 _ _ σ).trans (if_neg h)
theorem e121_41 (a0 a1 : AV) (l st : List AV) (σ : St) (x : Int) : run 121 41 (a0 :: a1 :: vI x :: l) (st) σ = run 121 42 (a0 :: a1 :: vI x :: l) (vI x :: st) σ := (run_eq 121 41 _ _ σ).trans rfl
theorem e121_42 (ls st : List AV) (σ : St) (y x : Int) : run 121 42 (ls) (vI y :: vI x :: st) σ = run 121 43 (ls) (vI (wr (x + y)) :: st) σ := (run_eq 121 42 _ _ σ).trans rfl
theorem e121_43 (a0 a1 a2 a3 a4 a5 a6 : AV) (l st : List AV) (σ : St) (q : AV) (x : Int) : run 121 43 (a0 :: a1 :: a2 :: a3 :: a4 :: a5 :: a6 :: q :: l) (vI x :: st) σ = run 121 45 (a0 :: a1 :: a2 :: a3 :: a4 :: a5 :: a6 :: vI x :: l) (st) σ := (run_eq 121 43 _ _ σ).trans rfl
theorem e121_45 (a0 a1 a2 a3 a4 : AV) (l st : List AV) (σ : St) (x : Int) : run 121 45 (a0 :: a1 :: a2 :: a3 :: a4 :: vI x :: l) (st) σ = run 121 47 (a0 :: a1 :: a2 :: a3 :: a4 :: vI x :: l) (vI x :: st) σ := (run_eq 121 45 _ _ σ).trans rfl
theorem e121_47 (l st : List AV) (σ : St) (x : Nat) : run 121 47 (vR x :: l) (st) σ = run 121 48 (vR x :: l) (vR x :: st) σ := (run_eq 121 47 _ _ σ).trans rfl
theorem e121_48 (ls st : List AV) (σ : St) (x : Nat) (h : fok σ x 3) : run 121 48 (ls) (vR x :: st) σ = run 121 51 (ls) (vI (gt σ x 1) :: st) σ := (run_eq 121 48 _ _ σ).trans (if_pos h)
theorem e121_51 (ls st : List AV) (σ : St) (y x : Int) (h : ¬ y = 0) : run 121 51 (ls) (vI y :: vI x :: st) σ = run 121 52 (ls) (vI (wr (x.tmod y)) :: st) σ := (run_eq 121 51 _ _ σ).trans (if_neg h)
theorem e121_52 (a0 a1 a2 : AV) (l st : List AV) (σ : St) (x : Int) : run 121 52 (a0 :: a1 :: a2 :: vI x :: l) (st) σ = run 121 53 (a0 :: a1 :: a2 :: vI x :: l) (vI x :: st) σ := (run_eq 121 52 _ _ σ).trans rfl
theorem e121_53 (ls st : List AV) (σ : St) (y x : Int) : run 121 53 (ls) (vI y :: vI x :: st) σ = run 121 54 (ls) (vI (wr (x + y)) :: st) σ := (run_eq 121 53 _ _ σ).trans rfl
theorem e121_54 (a0 a1 a2 a3 a4 a5 a6 a7 : AV) (l st : List AV) (σ : St) (q : AV) (x : Int) : run 121 54 (a0 :: a1 :: a2 :: a3 :: a4 :: a5 :: a6 :: a7 :: q :: l) (vI x :: st) σ = run 121 56 (a0 :: a1 :: a2 :: a3 :: a4 :: a5 :: a6 :: a7 :: vI x :: l) (st) σ := (run_eq 121 54 _ _ σ).trans rfl
theorem e121_56 (a0 a1 a2 a3 a4 a5 a6 : AV) (l st : List AV) (σ : St) (x : Int) : run 121 56 (a0 :: a1 :: a2 :: a3 :: a4 :: a5 :: a6 :: vI x :: l) (st) σ = run 121 58 (a0 :: a1 :: a2 :: a3 :: a4 :: a5 :: a6 :: vI x :: l) (vI x :: st) σ := (run_eq 121 56 _ _ σ).trans rfl
theorem e121_58 (ls st : List AV) (σ : St) : run 121 58 (ls) (st) σ = run 121 59 (ls) (vI 0 :: st) σ := (run_eq 121 58 _ _ σ).trans rfl
theorem e121_59 (l st : List AV) (σ : St) (x : Nat) : run 121 59 (vR x :: l) (st) σ = run 121 60 (vR x :: l) (vR x :: st) σ := (run_eq 121 59 _ _ σ).trans rfl
theorem e121_60 (ls st : List AV) (σ : St) (x : Nat) (h : fok σ x 3) : run 121 60 (ls) (vR x :: st) σ = run 121 63 (ls) (vI (gt σ x 0) :: st) σ := (run_eq 121 60 _ _ σ).trans (if_pos h)
theorem e121_63 (ls st : List AV) (σ : St) : run 121 63 (ls) (st) σ = run 121 64 (ls) (vI 1 :: st) σ := (run_eq 121 63 _ _ σ).trans rfl
theorem e121_64 (ls st : List AV) (σ : St) (y x : Int) : run 121 64 (ls) (vI y :: vI x :: st) σ = run 121 65 (ls) (vI (wr (x - y)) :: st) σ := (run_eq 121 64 _ _ σ).trans rfl
theorem e121_65 (ls st : List AV) (σ : St) (x0 : Int) (x1 : Int) (x2 : Int) (h4 : st.length ≤ 4) : run 121 65 ls (vI x2 :: vI x1 :: vI x0 :: st) σ = bnd (run 92 0 [vI x0, vI x1, vI x2] [] σ) (fun r σ => run 121 68 ls (psh r st) σ) := (run_eq 121 65 _ _ σ).trans (if_pos ⟨rfl, by simp, by simpa using h4⟩)
theorem e121_68 (ls st : List AV) (σ : St) (x : Int) : run 121 68 (ls) (vI x :: st) σ = if x = 0 then run 121 86 (ls) (st) σ else run 121 71 (ls) (st) σ := (run_eq 121 68 _ _ σ).trans rfl
theorem e121_71 (a0 a1 a2 a3 a4 a5 a6 a7 : AV) (l st : List AV) (σ : St) (x : Int) : run 121 71 (a0 :: a1 :: a2 :: a3 :: a4 :: a5 :: a6 :: a7 :: vI x :: l) (st) σ = run 121 73 (a0 :: a1 :: a2 :: a3 :: a4 :: a5 :: a6 :: a7 :: vI x :: l) (vI x :: st) σ := (run_eq 121 71 _ _ σ).trans rfl
theorem e121_73 (ls st : List AV) (σ : St) : run 121 73 (ls) (st) σ = run 121 74 (ls) (vI 0 :: st) σ := (run_eq 121 73 _ _ σ).trans rfl
theorem e121_74 (l st : List AV) (σ : St) (x : Nat) : run 121 74 (vR x :: l) (st) σ = run 121 75 (vR x :: l) (vR x :: st) σ := (run_eq 121 74 _ _ σ).trans rfl
theorem e121_75 (ls st : List AV) (σ : St) (x : Nat) (h : fok σ x 3) : run 121 75 (ls) (vR x :: st) σ = run 121 78 (ls) (vI (gt σ x 1) :: st) σ := (run_eq 121 75 _ _ σ).trans (if_pos h)
theorem e121_78 (ls st : List AV) (σ : St) : run 121 78 (ls) (st) σ = run 121 79 (ls) (vI 1 :: st) σ := (run_eq 121 78 _ _ σ).trans rfl
theorem e121_79 (ls st : List AV) (σ : St) (y x : Int) : run 121 79 (ls) (vI y :: vI x :: st) σ = run 121 80 (ls) (vI (wr (x - y)) :: st) σ := (run_eq 121 79 _ _ σ).trans rfl
theorem e121_80 (ls st : List AV) (σ : St) (x0 : Int) (x1 : Int) (x2 : Int) (h4 : st.length ≤ 4) : run 121 80 ls (vI x2 :: vI x1 :: vI x0 :: st) σ = bnd (run 92 0 [vI x0, vI x1, vI x2] [] σ) (fun r σ => run 121 83 ls (psh r st) σ) := (run_eq 121 80 _ _ σ).trans (if_pos ⟨rfl, by simp, by simpa using h4⟩)
theorem e121_83 (ls st : List AV) (σ : St) (x : Int) : run 121 83 (ls) (vI x :: st) σ = if x = 0 then run 121 86 (ls) (st) σ else run 121 89 (ls) (st) σ := (run_eq 121 83 _ _ σ).trans rfl
theorem e121_86 (ls st : List AV) (σ : St) : run 121 86 (ls) (st) σ = run 121 88 (ls) (vI 1000000 :: st) σ := (run_eq 121 86 _ _ σ).trans rfl
theorem e121_88 (ls : List AV) (σ : St) (x : Int) : run 121 88 ls [vI x] σ = some (vI x, σ) := (run_eq 121 88 _ _ σ).trans rfl
theorem e121_89 (l st : List AV) (σ : St) (x : Nat) : run 121 89 (vR x :: l) (st) σ = run 121 90 (vR x :: l) (vR x :: st) σ := (run_eq 121 89 _ _ σ).trans rfl
theorem e121_90 (ls st : List AV) (σ : St) (x : Nat) (h : fok σ x 3) : run 121 90 (ls) (vR x :: st) σ = run 121 93 (ls) (vR (gr σ x 2) :: st) σ := (run_eq 121 90 _ _ σ).trans (if_pos h)
theorem e121_93 (a0 a1 a2 a3 a4 a5 a6 : AV) (l st : List AV) (σ : St) (x : Int) : run 121 93 (a0 :: a1 :: a2 :: a3 :: a4 :: a5 :: a6 :: vI x :: l) (st) σ = run 121 95 (a0 :: a1 :: a2 :: a3 :: a4 :: a5 :: a6 :: vI x :: l) (vI x :: st) σ := (run_eq 121 93 _ _ σ).trans rfl
theorem e121_95 (l st : List AV) (σ : St) (x : Nat) : run 121 95 (vR x :: l) (st) σ = run 121 96 (vR x :: l) (vR x :: st) σ := (run_eq 121 95 _ _ σ).trans rfl
theorem e121_96 (ls st : List AV) (σ : St) (x : Nat) (h : fok σ x 3) : run 121 96 (ls) (vR x :: st) σ = run 121 99 (ls) (vI (gt σ x 1) :: st) σ := (run_eq 121 96 _ _ σ).trans (if_pos h)
theorem e121_99 (ls st : List AV) (σ : St) (y x : Int) : run 121 99 (ls) (vI y :: vI x :: st) σ = run 121 100 (ls) (vI (wr (x * y)) :: st) σ := (run_eq 121 99 _ _ σ).trans rfl
theorem e121_100 (a0 a1 a2 a3 a4 a5 a6 a7 : AV) (l st : List AV) (σ : St) (x : Int) : run 121 100 (a0 :: a1 :: a2 :: a3 :: a4 :: a5 :: a6 :: a7 :: vI x :: l) (st) σ = run 121 102 (a0 :: a1 :: a2 :: a3 :: a4 :: a5 :: a6 :: a7 :: vI x :: l) (vI x :: st) σ := (run_eq 121 100 _ _ σ).trans rfl
theorem e121_102 (ls st : List AV) (σ : St) (y x : Int) : run 121 102 (ls) (vI y :: vI x :: st) σ = run 121 103 (ls) (vI (wr (x + y)) :: st) σ := (run_eq 121 102 _ _ σ).trans rfl
theorem e121_103 (ls st : List AV) (σ : St) (j : Int) (x : Nat) (h : aok σ x 4 j) : run 121 103 (ls) (vI j :: vR x :: st) σ = run 121 104 (ls) (vI (gt σ x j.toNat) :: st) σ := (run_eq 121 103 _ _ σ).trans (if_pos h)
theorem e121_104 (a0 a1 a2 a3 a4 a5 a6 a7 a8 : AV) (l st : List AV) (σ : St) (q : AV) (x : Int) : run 121 104 (a0 :: a1 :: a2 :: a3 :: a4 :: a5 :: a6 :: a7 :: a8 :: q :: l) (vI x :: st) σ = run 121 106 (a0 :: a1 :: a2 :: a3 :: a4 :: a5 :: a6 :: a7 :: a8 :: vI x :: l) (st) σ := (run_eq 121 104 _ _ σ).trans rfl
theorem e121_106 (a0 a1 a2 a3 : AV) (l st : List AV) (σ : St) (x : Int) : run 121 106 (a0 :: a1 :: a2 :: a3 :: vI x :: l) (st) σ = run 121 108 (a0 :: a1 :: a2 :: a3 :: vI x :: l) (vI x :: st) σ := (run_eq 121 106 _ _ σ).trans rfl
theorem e121_108 (a0 a1 a2 a3 a4 a5 a6 a7 a8 : AV) (l st : List AV) (σ : St) (x : Int) : run 121 108 (a0 :: a1 :: a2 :: a3 :: a4 :: a5 :: a6 :: a7 :: a8 :: vI x :: l) (st) σ = run 121 110 (a0 :: a1 :: a2 :: a3 :: a4 :: a5 :: a6 :: a7 :: a8 :: vI x :: l) (vI x :: st) σ := (run_eq 121 108 _ _ σ).trans rfl
theorem e121_110 (a0 a1 a2 a3 a4 a5 : AV) (l st : List AV) (σ : St) (x : Int) : run 121 110 (a0 :: a1 :: a2 :: a3 :: a4 :: a5 :: vI x :: l) (st) σ = run 121 112 (a0 :: a1 :: a2 :: a3 :: a4 :: a5 :: vI x :: l) (vI x :: st) σ := (run_eq 121 110 _ _ σ).trans rfl
theorem e121_112 (l st : List AV) (σ : St) (x : Nat) : run 121 112 (vR x :: l) (st) σ = run 121 113 (vR x :: l) (vR x :: st) σ := (run_eq 121 112 _ _ σ).trans rfl
theorem e121_113 (ls st : List AV) (σ : St) (x : Nat) (h : fok σ x 3) : run 121 113 (ls) (vR x :: st) σ = run 121 116 (ls) (vI (gt σ x 5) :: st) σ := (run_eq 121 113 _ _ σ).trans (if_pos h)
theorem e121_116 (ls st : List AV) (σ : St) (y x : Int) : run 121 116 (ls) (vI y :: vI x :: st) σ = run 121 117 (ls) (vI (wr (x + y)) :: st) σ := (run_eq 121 116 _ _ σ).trans rfl
theorem e121_117 (ls st : List AV) (σ : St) (y x : Int) : run 121 117 (ls) (vI y :: vI x :: st) σ = if y < x then run 121 120 (ls) (st) σ else run 121 124 (ls) (st) σ := (run_eq 121 117 _ _ σ).trans rfl
theorem e121_120 (ls st : List AV) (σ : St) : run 121 120 (ls) (st) σ = run 121 121 (ls) (vI 1 :: st) σ := (run_eq 121 120 _ _ σ).trans rfl
theorem e121_121 (ls st : List AV) (σ : St) : run 121 121 (ls) (st) σ = run 121 150 (ls) (st) σ := (run_eq 121 121 _ _ σ).trans rfl
theorem e121_124 (a0 a1 a2 a3 a4 a5 a6 a7 a8 : AV) (l st : List AV) (σ : St) (x : Int) : run 121 124 (a0 :: a1 :: a2 :: a3 :: a4 :: a5 :: a6 :: a7 :: a8 :: vI x :: l) (st) σ = run 121 126 (a0 :: a1 :: a2 :: a3 :: a4 :: a5 :: a6 :: a7 :: a8 :: vI x :: l) (vI x :: st) σ := (run_eq 121 124 _ _ σ).trans rfl
theorem e121_126 (a0 a1 a2 a3 a4 a5 : AV) (l st : List AV) (σ : St) (x : Int) : run 121 126 (a0 :: a1 :: a2 :: a3 :: a4 :: a5 :: vI x :: l) (st) σ = run 121 128 (a0 :: a1 :: a2 :: a3 :: a4 :: a5 :: vI x :: l) (vI x :: st) σ := (run_eq 121 126 _ _ σ).trans rfl
theorem e121_128 (l st : List AV) (σ : St) (x : Nat) : run 121 128 (vR x :: l) (st) σ = run 121 129 (vR x :: l) (vR x :: st) σ := (run_eq 121 128 _ _ σ).trans rfl
theorem e121_129 (ls st : List AV) (σ : St) (x : Nat) (h : fok σ x 3) : run 121 129 (ls) (vR x :: st) σ = run 121 132 (ls) (vI (gt σ x 5) :: st) σ := (run_eq 121 129 _ _ σ).trans (if_pos h)
theorem e121_132 (ls st : List AV) (σ : St) (y x : Int) : run 121 132 (ls) (vI y :: vI x :: st) σ = run 121 133 (ls) (vI (wr (x - y)) :: st) σ := (run_eq 121 132 _ _ σ).trans rfl
theorem e121_133 (ls st : List AV) (σ : St) (y x : Int) : run 121 133 (ls) (vI y :: vI x :: st) σ = if x < y then run 121 136 (ls) (st) σ else run 121 149 (ls) (st) σ := (run_eq 121 133 _ _ σ).trans rfl
theorem e121_136 (a0 a1 a2 a3 a4 a5 : AV) (l st : List AV) (σ : St) (x : Int) : run 121 136 (a0 :: a1 :: a2 :: a3 :: a4 :: a5 :: vI x :: l) (st) σ = run 121 138 (a0 :: a1 :: a2 :: a3 :: a4 :: a5 :: vI x :: l) (vI x :: st) σ := (run_eq 121 136 _ _ σ).trans rfl
theorem e121_138 (l st : List AV) (σ : St) (x : Nat) : run 121 138 (vR x :: l) (st) σ = run 121 139 (vR x :: l) (vR x :: st) σ := (run_eq 121 138 _ _ σ).trans rfl
theorem e121_139 (ls st : List AV) (σ : St) (x : Nat) (h : fok σ x 3) : run 121 139 (ls) (vR x :: st) σ = run 121 142 (ls) (vI (gt σ x 5) :: st) σ := (run_eq 121 139 _ _ σ).trans (if_pos h)
theorem e121_142 (ls st : List AV) (σ : St) (y x : Int) : run 121 142 (ls) (vI y :: vI x :: st) σ = run 121 143 (ls) (vI (wr (x - y)) :: st) σ := (run_eq 121 142 _ _ σ).trans rfl
theorem e121_143 (a0 a1 a2 a3 a4 a5 a6 a7 a8 : AV) (l st : List AV) (σ : St) (x : Int) : run 121 143 (a0 :: a1 :: a2 :: a3 :: a4 :: a5 :: a6 :: a7 :: a8 :: vI x :: l) (st) σ = run 121 145 (a0 :: a1 :: a2 :: a3 :: a4 :: a5 :: a6 :: a7 :: a8 :: vI x :: l) (vI x :: st) σ := (run_eq 121 143 _ _ σ).trans rfl
theorem e121_145 (ls st : List AV) (σ : St) (y x : Int) : run 121 145 (ls) (vI y :: vI x :: st) σ = run 121 146 (ls) (vI (wr (x - y)) :: st) σ := (run_eq 121 145 _ _ σ).trans rfl
theorem e121_146 (ls st : List AV) (σ : St) : run 121 146 (ls) (st) σ = run 121 150 (ls) (st) σ := (run_eq 121 146 _ _ σ).trans rfl
theorem e121_149 (ls st : List AV) (σ : St) : run 121 149 (ls) (st) σ = run 121 150 (ls) (vI 0 :: st) σ := (run_eq 121 149 _ _ σ).trans rfl
theorem e121_150 (ls st : List AV) (σ : St) (y x : Int) : run 121 150 (ls) (vI y :: vI x :: st) σ = run 121 151 (ls) (vI (wr (x + y)) :: st) σ := (run_eq 121 150 _ _ σ).trans rfl
theorem e121_151 (a0 a1 a2 a3 : AV) (l st : List AV) (σ : St) (q : AV) (x : Int) : run 121 151 (a0 :: a1 :: a2 :: a3 :: q :: l) (vI x :: st) σ = run 121 153 (a0 :: a1 :: a2 :: a3 :: vI x :: l) (st) σ := (run_eq 121 151 _ _ σ).trans rfl
theorem e121_153 (a0 a1 a2 a3 a4 : AV) (l st : List AV) (σ : St) (x : Int) : run 121 153 (a0 :: a1 :: a2 :: a3 :: a4 :: vI x :: l) (st) σ = run 121 156 (a0 :: a1 :: a2 :: a3 :: a4 :: vI (wr (x + 1)) :: l) (st) σ := (run_eq 121 153 _ _ σ).trans rfl
theorem e121_156 (ls st : List AV) (σ : St) : run 121 156 (ls) (st) σ = run 121 6 (ls) (st) σ := (run_eq 121 156 _ _ σ).trans rfl
theorem e121_159 (a0 a1 a2 a3 : AV) (l st : List AV) (σ : St) (x : Int) : run 121 159 (a0 :: a1 :: a2 :: a3 :: vI x :: l) (st) σ = run 121 161 (a0 :: a1 :: a2 :: a3 :: vI x :: l) (vI x :: st) σ := (run_eq 121 159 _ _ σ).trans rfl
theorem e121_161 (ls : List AV) (σ : St) (x : Int) : run 121 161 ls [vI x] σ = some (vI x, σ) := (run_eq 121 161 _ _ σ).trans rfl
/-! M_nowThen -/
theorem e122_0 (l st : List AV) (σ : St) (x : Nat) : run 122 0 (vR x :: l) (st) σ = run 122 1 (vR x :: l) (vR x :: st) σ := (run_eq 122 0 _ _ σ).trans rfl
theorem e122_1 (a0 : AV) (l st : List AV) (σ : St) (x : Int) : run 122 1 (a0 :: vI x :: l) (st) σ = run 122 2 (a0 :: vI x :: l) (vI x :: st) σ := (run_eq 122 1 _ _ σ).trans rfl
theorem e122_2 (ls st : List AV) (σ : St) (x0 : Nat) (x1 : Int) (h4 : st.length ≤ 4) (h : fok σ x0 3) : run 122 2 ls (vI x1 :: vR x0 :: st) σ = bnd (run 117 0 [vR x0, vI x1] [] σ) (fun r σ => run 122 5 ls (psh r st) σ) := (run_eq 122 2 _ _ σ).trans (if_pos ⟨rfl, by simp, by simpa using h4, rfl, h⟩)
theorem e122_5 (ls st : List AV) (σ : St) (x : Int) : run 122 5 (ls) (vI x :: st) σ = if x = 0 then run 122 8 (ls) (st) σ else run 122 10 (ls) (st) σ := (run_eq 122 5 _ _ σ).trans rfl
theorem e122_8 (ls st : List AV) (σ : St) : run 122 8 (ls) (st) σ = run 122 9 (ls) (vI (-1) :: st) σ := (run_eq 122 8 _ _ σ).trans rfl
theorem e122_9 (ls : List AV) (σ : St) (x : Int) : run 122 9 ls [vI x] σ = some (vI x, σ) := (run_eq 122 9 _ _ σ).trans rfl
theorem e122_10 (a0 a1 : AV) (l st : List AV) (σ : St) (x : Int) : run 122 10 (a0 :: a1 :: vI x :: l) (st) σ = run 122 11 (a0 :: a1 :: vI x :: l) (vI x :: st) σ := (run_eq 122 10 _ _ σ).trans rfl
theorem e122_11 (ls st : List AV) (σ : St) : run 122 11 (ls) (st) σ = run 122 12 (ls) (vI 0 :: st) σ := (run_eq 122 11 _ _ σ).trans rfl
theorem e122_12 (ls st : List AV) (σ : St) : run 122 12 (ls) (st) σ = run 122 13 (ls) (vI 1 :: st) σ := (run_eq 122 12 _ _ σ).trans rfl
theorem e122_13 (ls st : List AV) (σ : St) (x0 : Int) (x1 : Int) (x2 : Int) (h4 : st.length ≤ 4) : run 122 13 ls (vI x2 :: vI x1 :: vI x0 :: st) σ = bnd (run 92 0 [vI x0, vI x1, vI x2] [] σ) (fun r σ => run 122 16 ls (psh r st) σ) := (run_eq 122 13 _ _ σ).trans (if_pos ⟨rfl, by simp, by simpa using h4⟩)
theorem e122_16 (ls st : List AV) (σ : St) (x : Int) : run 122 16 (ls) (vI x :: st) σ = if x = 0 then run 122 19 (ls) (st) σ else run 122 22 (ls) (st) σ := (run_eq 122 16 _ _ σ).trans rfl
theorem e122_19 (ls st : List AV) (σ : St) : run 122 19 (ls) (st) σ = run 122 21 (ls) (vI (-2) :: st) σ := (run_eq 122 19 _ _ σ).trans rfl
theorem e122_21 (ls : List AV) (σ : St) (x : Int) : run 122 21 ls [vI x] σ = some (vI x, σ) := (run_eq 122 21 _ _ σ).trans rfl
theorem e122_22 (l st : List AV) (σ : St) (x : Nat) : run 122 22 (vR x :: l) (st) σ = run 122 23 (vR x :: l) (vR x :: st) σ := (run_eq 122 22 _ _ σ).trans rfl
theorem e122_23 (ls st : List AV) (σ : St) (x0 : Nat) (h4 : st.length ≤ 4) (h : fok σ x0 3) : run 122 23 ls (vR x0 :: st) σ = bnd (run 123 0 [vR x0, vU, vU] [] σ) (fun r σ => run 122 26 ls (psh r st) σ) := (run_eq 122 23 _ _ σ).trans (if_pos ⟨rfl, by simp, by simpa using h4, rfl, h⟩)
theorem e122_26 (ls st : List AV) (σ : St) (x : Int) : run 122 26 (ls) (vI x :: st) σ = if x = 0 then run 122 29 (ls) (st) σ else run 122 32 (ls) (st) σ := (run_eq 122 26 _ _ σ).trans rfl
theorem e122_29 (ls st : List AV) (σ : St) : run 122 29 (ls) (st) σ = run 122 31 (ls) (vI (-5) :: st) σ := (run_eq 122 29 _ _ σ).trans rfl
theorem e122_31 (ls : List AV) (σ : St) (x : Int) : run 122 31 ls [vI x] σ = some (vI x, σ) := (run_eq 122 31 _ _ σ).trans rfl
theorem e122_32 (l st : List AV) (σ : St) (x : Nat) : run 122 32 (vR x :: l) (st) σ = run 122 33 (vR x :: l) (vR x :: st) σ := (run_eq 122 32 _ _ σ).trans rfl
theorem e122_33 (a0 : AV) (l st : List AV) (σ : St) (x : Int) : run 122 33 (a0 :: vI x :: l) (st) σ = run 122 34 (a0 :: vI x :: l) (vI x :: st) σ := (run_eq 122 33 _ _ σ).trans rfl
theorem e122_34 (ls st : List AV) (σ : St) (x0 : Nat) (x1 : Int) (h4 : st.length ≤ 4) (h : fok σ x0 3) : run 122 34 ls (vI x1 :: vR x0 :: st) σ = bnd (run 98 0 [vR x0, vI x1, vU, vU] [] σ) (fun r σ => run 122 37 ls (psh r st) σ) := (run_eq 122 34 _ _ σ).trans (if_pos ⟨rfl, by simp, by simpa using h4, rfl, h⟩)
theorem e122_37 (a0 a1 a2 : AV) (l st : List AV) (σ : St) (q : AV) (x : Int) : run 122 37 (a0 :: a1 :: a2 :: q :: l) (vI x :: st) σ = run 122 38 (a0 :: a1 :: a2 :: vI x :: l) (st) σ := (run_eq 122 37 _ _ σ).trans rfl
theorem e122_38 (a0 a1 a2 : AV) (l st : List AV) (σ : St) (x : Int) : run 122 38 (a0 :: a1 :: a2 :: vI x :: l) (st) σ = run 122 39 (a0 :: a1 :: a2 :: vI x :: l) (vI x :: st) σ := (run_eq 122 38 _ _ σ).trans rfl
theorem e122_39 (ls st : List AV) (σ : St) (x0 : Int) (h4 : st.length ≤ 4) : run 122 39 ls (vI x0 :: st) σ = bnd (run 99 0 [vI x0, vU, vU] [] σ) (fun r σ => run 122 42 ls (psh r st) σ) := (run_eq 122 39 _ _ σ).trans (if_pos ⟨rfl, by simp, by simpa using h4⟩)
theorem e122_42 (ls st : List AV) (σ : St) : run 122 42 (ls) (st) σ = run 122 43 (ls) (vI 3 :: st) σ := (run_eq 122 42 _ _ σ).trans rfl
theorem e122_43 (ls st : List AV) (σ : St) (y x : Int) : run 122 43 (ls) (vI y :: vI x :: st) σ = if y < x then run 122 46 (ls) (st) σ else run 122 49 (ls) (st) σ := (run_eq 122 43 _ _ σ).trans rfl
theorem e122_46 (ls st : List AV) (σ : St) : run 122 46 (ls) (st) σ = run 122 48 (ls) (vI (-4) :: st) σ := (run_eq 122 46 _ _ σ).trans rfl
theorem e122_48 (ls : List AV) (σ : St) (x : Int) : run 122 48 ls [vI x] σ = some (vI x, σ) := (run_eq 122 48 _ _ σ).trans rfl
theorem e122_49 (ls st : List AV) (σ : St) : run 122 49 (ls) (st) σ = run 122 51 (ls) (vI (-6) :: st) σ := (run_eq 122 49 _ _ σ).trans rfl
theorem e122_51 (a0 a1 a2 a3 : AV) (l st : List AV) (σ : St) (q : AV) (x : Int) : run 122 51 (a0 :: a1 :: a2 :: a3 :: q :: l) (vI x :: st) σ = run 122 53 (a0 :: a1 :: a2 :: a3 :: vI x :: l) (st) σ := (run_eq 122 51 _ _ σ).trans rfl
theorem e122_53 (ls st : List AV) (σ : St) : run 122 53 (ls) (st) σ = run 122 54 (ls) (vI 0 :: st) σ := (run_eq 122 53 _ _ σ).trans rfl
theorem e122_54 (a0 a1 a2 a3 a4 : AV) (l st : List AV) (σ : St) (q : AV) (x : Int) : run 122 54 (a0 :: a1 :: a2 :: a3 :: a4 :: q :: l) (vI x :: st) σ = run 122 56 (a0 :: a1 :: a2 :: a3 :: a4 :: vI x :: l) (st) σ := (run_eq 122 54 _ _ σ).trans rfl
theorem e122_56 (a0 a1 a2 a3 a4 : AV) (l st : List AV) (σ : St) (x : Int) : run 122 56 (a0 :: a1 :: a2 :: a3 :: a4 :: vI x :: l) (st) σ = run 122 58 (a0 :: a1 :: a2 :: a3 :: a4 :: vI x :: l) (vI x :: st) σ := (run_eq 122 56 _ _ σ).trans rfl
theorem e122_58 (ls st : List AV) (σ : St) : run 122 58 (ls) (st) σ = run 122 61 (ls) (vI 1331 :: st) σ := (run_eq 122 58 _ _ σ).trans rfl
theorem e122_61 (ls st : List AV) (σ : St) (y x : Int) : run 122 61 (ls) (vI y :: vI x :: st) σ = if x < y then run 122 64 (ls) (st) σ else run 122 281 (ls) (st) σ := (run_eq 122 61 _ _ σ).trans rfl
theorem e122_64 (l st : List AV) (σ : St) (x : Nat) : run 122 64 (vR x :: l) (st) σ = run 122 65 (vR x :: l) (vR x :: st) σ := (run_eq 122 64 _ _ σ).trans rfl
theorem e122_65 (ls st : List AV) (σ : St) (x0 : Nat) (h4 : st.length ≤ 4) (h : fok σ x0 3) : run 122 65 ls (vR x0 :: st) σ = bnd (run 107 0 [vR x0, vU] [] σ) (fun r σ => run 122 68 ls (psh r st) σ) := (run_eq 122 65 _ _ σ).trans (if_pos ⟨rfl, by simp, by simpa using h4, rfl, h⟩)
theorem e122_68 (a0 a1 a2 a3 a4 : AV) (l st : List AV) (σ : St) (x : Int) : run 122 68 (a0 :: a1 :: a2 :: a3 :: a4 :: vI x :: l) (st) σ = run 122 70 (a0 :: a1 :: a2 :: a3 :: a4 :: vI x :: l) (vI x :: st) σ := (run_eq 122 68 _ _ σ).trans rfl
theorem e122_70 (a0 a1 a2 a3 a4 a5 : AV) (l st : List AV) (σ : St) (q : AV) (x : Int) : run 122 70 (a0 :: a1 :: a2 :: a3 :: a4 :: a5 :: q :: l) (vI x :: st) σ = run 122 72 (a0 :: a1 :: a2 :: a3 :: a4 :: a5 :: vI x :: l) (st) σ := (run_eq 122 70 _ _ σ).trans rfl
theorem e122_72 (ls st : List AV) (σ : St) : run 122 72 (ls) (st) σ = run 122 73 (ls) (vI 0 :: st) σ := (run_eq 122 72 _ _ σ).trans rfl
theorem e122_73 (a0 a1 a2 a3 a4 a5 a6 : AV) (l st : List AV) (σ : St) (q : AV) (x : Int) : run 122 73 (a0 :: a1 :: a2 :: a3 :: a4 :: a5 :: a6 :: q :: l) (vI x :: st) σ = run 122 75 (a0 :: a1 :: a2 :: a3 :: a4 :: a5 :: a6 :: vI x :: l) (st) σ := (run_eq 122 73 _ _ σ).trans rfl
theorem e122_75 (ls st : List AV) (σ : St) : run 122 75 (ls) (st) σ = run 122 76 (ls) (vI 1 :: st) σ := (run_eq 122 75 _ _ σ).trans rfl
theorem e122_76 (a0 a1 a2 a3 a4 a5 a6 a7 : AV) (l st : List AV) (σ : St) (q : AV) (x : Int) : run 122 76 (a0 :: a1 :: a2 :: a3 :: a4 :: a5 :: a6 :: a7 :: q :: l) (vI x :: st) σ = run 122 78 (a0 :: a1 :: a2 :: a3 :: a4 :: a5 :: a6 :: a7 :: vI x :: l) (st) σ := (run_eq 122 76 _ _ σ).trans rfl
theorem e122_78 (ls st : List AV) (σ : St) : run 122 78 (ls) (st) σ = run 122 79 (ls) (vI 0 :: st) σ := (run_eq 122 78 _ _ σ).trans rfl
theorem e122_79 (a0 a1 a2 a3 a4 a5 a6 a7 a8 : AV) (l st : List AV) (σ : St) (q : AV) (x : Int) : run 122 79 (a0 :: a1 :: a2 :: a3 :: a4 :: a5 :: a6 :: a7 :: a8 :: q :: l) (vI x :: st) σ = run 122 81 (a0 :: a1 :: a2 :: a3 :: a4 :: a5 :: a6 :: a7 :: a8 :: vI x :: l) (st) σ := (run_eq 122 79 _ _ σ).trans rfl
theorem e122_81 (a0 a1 a2 a3 a4 a5 a6 a7 a8 : AV) (l st : List AV) (σ : St) (x : Int) : run 122 81 (a0 :: a1 :: a2 :: a3 :: a4 :: a5 :: a6 :: a7 :: a8 :: vI x :: l) (st) σ = run 122 83 (a0 :: a1 :: a2 :: a3 :: a4 :: a5 :: a6 :: a7 :: a8 :: vI x :: l) (vI x :: st) σ := (run_eq 122 81 _ _ σ).trans rfl
theorem e122_83 (ls st : List AV) (σ : St) : run 122 83 (ls) (st) σ = run 122 85 (ls) (vI 24 :: st) σ := (run_eq 122 83 _ _ σ).trans rfl
theorem e122_85 (ls st : List AV) (σ : St) (y x : Int) : run 122 85 (ls) (vI y :: vI x :: st) σ = if x < y then run 122 88 (ls) (st) σ else run 122 194 (ls) (st) σ := (run_eq 122 85 _ _ σ).trans rfl
theorem e122_88 (a0 a1 a2 : AV) (l st : List AV) (σ : St) (x : Int) : run 122 88 (a0 :: a1 :: a2 :: vI x :: l) (st) σ = run 122 89 (a0 :: a1 :: a2 :: vI x :: l) (vI x :: st) σ := (run_eq 122 88 _ _ σ).trans rfl
theorem e122_89 (a0 a1 a2 a3 a4 a5 a6 a7 a8 : AV) (l st : List AV) (σ : St) (x : Int) : run 122 89 (a0 :: a1 :: a2 :: a3 :: a4 :: a5 :: a6 :: a7 :: a8 :: vI x :: l) (st) σ = run 122 91 (a0 :: a1 :: a2 :: a3 :: a4 :: a5 :: a6 :: a7 :: a8 :: vI x :: l) (vI x :: st) σ := (run_eq 122 89 _ _ σ).trans rfl
theorem e122_91 (ls st : List AV) (σ : St) (x0 : Int) (x1 : Int) (h4 : st.length ≤ 4) : run 122 91 ls (vI x1 :: vI x0 :: st) σ = bnd (run 109 0 [vI x0, vI x1] [] σ) (fun r σ => run 122 94 ls (psh r st) σ) := (run_eq 122 91 _ _ σ).trans (if_pos ⟨rfl, by simp, by simpa using h4⟩)
theorem e122_94 (ls st : List AV) (σ : St) (x : Int) : run 122 94 (ls) (vI x :: st) σ = if x = 0 then run 122 188 (ls) (st) σ else run 122 97 (ls) (st) σ := (run_eq 122 94 _ _ σ).trans rfl
theorem e122_97 (a0 a1 a2 a3 a4 a5 : AV) (l st : List AV) (σ : St) (x : Int) : run 122 97 (a0 :: a1 :: a2 :: a3 :: a4 :: a5 :: vI x :: l) (st) σ = run 122 99 (a0 :: a1 :: a2 :: a3 :: a4 :: a5 :: vI x :: l) (vI x :: st) σ := (run_eq 122 97 _ _ σ).trans rfl
theorem e122_99 (ls st : List AV) (σ : St) : run 122 99 (ls) (st) σ = run 122 101 (ls) (vI 11 :: st) σ := (run_eq 122 99 _ _ σ).trans rfl
theorem e122_101 (ls st : List AV) (σ : St) (y x : Int) (h : ¬ y = 0) : run 122 101 (ls) (vI y :: vI x :: st) σ = run 122 102 (ls) (vI (wr (x.tmod y)) :: st) σ := (run_eq 122 101 _ _ σ).trans (if_neg h)
theorem e122_102 (a0 a1 a2 a3 a4 a5 a6 a7 a8 a9 : AV) (l st : List AV) (σ : St) (q : AV) (x : Int) : run 122 102 (a0 :: a1 :: a2 :: a3 :: a4 :: a5 :: a6 :: a7 :: a8 :: a9 :: q :: l) (vI x :: st) σ = run 122 104 (a0 :: a1 :: a2 :: a3 :: a4 :: a5 :: a6 :: a7 :: a8 :: a9 :: vI x :: l) (st) σ := (run_eq 122 102 _ _ σ).trans rfl
theorem e122_104 (a0 a1 a2 a3 a4 a5 : AV) (l st : List AV) (σ : St) (x : Int) : run 122 104 (a0 :: a1 :: a2 :: a3 :: a4 :: a5 :: vI x :: l) (st) σ = run 122 106 (a0 :: a1 :: a2 :: a3 :: a4 :: a5 :: vI x :: l) (vI x :: st) σ := (run_eq 122 104 _ _ σ).trans rfl
theorem e122_106 (ls st : List AV) (σ : St) : run 122 106 (ls) (st) σ = run 122 108 (ls) (vI 11 :: st) σ := (run_eq 122 106 _ _ σ).trans rfl
theorem e122_108 (ls st : List AV) (σ : St) (y x : Int) (h : ¬ y = 0) : run 122 108 (ls) (vI y :: vI x :: st) σ = run 122 109 (ls) (vI (wr (x.tdiv y)) :: st) σ := (run_eq 122 108 _ _ σ).trans (if_neg h)
theorem e122_109 (a0 a1 a2 a3 a4 a5 : AV) (l st : List AV) (σ : St) (q : AV) (x : Int) : run 122 109 (a0 :: a1 :: a2 :: a3 :: a4 :: a5 :: q :: l) (vI x :: st) σ = run 122 111 (a0 :: a1 :: a2 :: a3 :: a4 :: a5 :: vI x :: l) (st) σ := (run_eq 122 109 _ _ σ).trans rfl
theorem e122_111 (a0 a1 a2 a3 a4 a5 a6 a7 : AV) (l st : List AV) (σ : St) (x : Int) : run 122 111 (a0 :: a1 :: a2 :: a3 :: a4 :: a5 :: a6 :: a7 :: vI x :: l) (st) σ = run 122 113 (a0 :: a1 :: a2 :: a3 :: a4 :: a5 :: a6 :: a7 :: vI x :: l) (vI x :: st) σ := (run_eq 122 111 _ _ σ).trans rfl
theorem e122_113 (ls st : List AV) (σ : St) (x : Int) : run 122 113 (ls) (vI x :: st) σ = if x = 0 then run 122 139 (ls) (st) σ else run 122 116 (ls) (st) σ := (run_eq 122 113 _ _ σ).trans rfl
theorem e122_116 (a0 a1 a2 a3 a4 a5 a6 a7 a8 a9 : AV) (l st : List AV) (σ : St) (x : Int) : run 122 116 (a0 :: a1 :: a2 :: a3 :: a4 :: a5 :: a6 :: a7 :: a8 :: a9 :: vI x :: l) (st) σ = run 122 118 (a0 :: a1 :: a2 :: a3 :: a4 :: a5 :: a6 :: a7 :: a8 :: a9 :: vI x :: l) (vI x :: st) σ := (run_eq 122 116 _ _ σ).trans rfl
theorem e122_118 (ls st : List AV) (σ : St) : run 122 118 (ls) (st) σ = run 122 120 (ls) (vI 10 :: st) σ := (run_eq 122 118 _ _ σ).trans rfl
theorem e122_120 (ls st : List AV) (σ : St) (y x : Int) : run 122 120 (ls) (vI y :: vI x :: st) σ = if x = y then run 122 135 (ls) (st) σ else run 122 123 (ls) (st) σ := (run_eq 122 120 _ _ σ).trans rfl
theorem e122_123 (a0 a1 a2 a3 a4 a5 a6 a7 a8 a9 : AV) (l st : List AV) (σ : St) (x : Int) : run 122 123 (a0 :: a1 :: a2 :: a3 :: a4 :: a5 :: a6 :: a7 :: a8 :: a9 :: vI x :: l) (st) σ = run 122 125 (a0 :: a1 :: a2 :: a3 :: a4 :: a5 :: a6 :: a7 :: a8 :: a9 :: vI x :: l) (vI x :: st) σ := (run_eq 122 123 _ _ σ).trans rfl
theorem e122_125 (l st : List AV) (σ : St) (x : Nat) : run 122 125 (vR x :: l) (st) σ = run 122 126 (vR x :: l) (vR x :: st) σ := (run_eq 122 125 _ _ σ).trans rfl
theorem e122_126 (ls st : List AV) (σ : St) (x : Nat) (h : fok σ x 3) : run 122 126 (ls) (vR x :: st) σ = run 122 129 (ls) (vR (gr σ x 11) :: st) σ := (run_eq 122 126 _ _ σ).trans (if_pos h)
theorem e122_129 (a0 a1 a2 a3 a4 a5 a6 a7 a8 : AV) (l st : List AV) (σ : St) (x : Int) : run 122 129 (a0 :: a1 :: a2 :: a3 :: a4 :: a5 :: a6 :: a7 :: a8 :: vI x :: l) (st) σ = run 122 131 (a0 :: a1 :: a2 :: a3 :: a4 :: a5 :: a6 :: a7 :: a8 :: vI x :: l) (vI x :: st) σ := (run_eq 122 129 _ _ σ).trans rfl
theorem e122_131 (ls st : List AV) (σ : St) (j : Int) (x : Nat) (h : aok σ x 4 j) : run 122 131 (ls) (vI j :: vR x :: st) σ = run 122 132 (ls) (vI (gt σ x j.toNat) :: st) σ := (run_eq 122 131 _ _ σ).trans (if_pos h)
theorem e122_132 (ls st : List AV) (σ : St) (y x : Int) : run 122 132 (ls) (vI y :: vI x :: st) σ = if x < y then run 122 135 (ls) (st) σ else run 122 139 (ls) (st) σ := (run_eq 122 132 _ _ σ).trans rfl
theorem e122_135 (ls st : List AV) (σ : St) : run 122 135 (ls) (st) σ = run 122 136 (ls) (vI 1 :: st) σ := (run_eq 122 135 _ _ σ).trans rfl
theorem e122_136 (ls st : List AV) (σ : St) : run 122 136 (ls) (st) σ = run 122 140 (ls) (st) σ := (run_eq 122 136 _ _ σ).trans rfl
theorem e122_139 (ls st : List AV) (σ : St) : run 122 139 (ls) (st) σ = run 122 140 (ls) (vI 0 :: st) σ := (run_eq 122 139 _ _ σ).trans rfl
theorem e122_140 (a0 a1 a2 a3 a4 a5 a6 a7 : AV) (l st : List AV) (σ : St) (q : AV) (x : Int) : run 122 140 (a0 :: a1 :: a2 :: a3 :: a4 :: a5 :: a6 :: a7 :: q :: l) (vI x :: st) σ = run 122 142 (a0 :: a1 :: a2 :: a3 :: a4 :: a5 :: a6 :: a7 :: vI x :: l) (st) σ := (run_eq 122 140 _ _ σ).trans rfl
theorem e122_142 (a0 a1 a2 a3 a4 a5 a6 : AV) (l st : List AV) (σ : St) (x : Int) : run 122 142 (a0 :: a1 :: a2 :: a3 :: a4 :: a5 :: a6 :: vI x :: l) (st) σ = run 122 144 (a0 :: a1 :: a2 :: a3 :: a4 :: a5 :: a6 :: vI x :: l) (vI x :: st) σ := (run_eq 122 142 _ _ σ).trans rfl
theorem e122_144 (a0 a1 a2 a3 a4 a5 a6 a7 a8 a9 : AV) (l st : List AV) (σ : St) (x : Int) : run 122 144 (a0 :: a1 :: a2 :: a3 :: a4 :: a5 :: a6 :: a7 :: a8 :: a9 :: vI x :: l) (st) σ = run 122 146 (a0 :: a1 :: a2 :: a3 :: a4 :: a5 :: a6 :: a7 :: a8 :: a9 :: vI x :: l) (vI x :: st) σ := (run_eq 122 144 _ _ σ).trans rfl
theorem e122_146 (ls st : List AV) (σ : St) : run 122 146 (ls) (st) σ = run 122 148 (ls) (vI 10 :: st) σ := (run_eq 122 146 _ _ σ).trans rfl
theorem e122_148 (ls st : List AV) (σ : St) (y x : Int) : run 122 148 (ls) (vI y :: vI x :: st) σ = if x < y then run 122 151 (ls) (st) σ else run 122 158 (ls) (st) σ := (run_eq 122 148 _ _ σ).trans rfl
theorem e122_151 (ls st : List AV) (σ : St) : run 122 151 (ls) (st) σ = run 122 152 (ls) (vI 1 :: st) σ := (run_eq 122 151 _ _ σ).trans rfl
theorem e122_152 (a0 a1 a2 a3 a4 a5 a6 a7 a8 : AV) (l st : List AV) (σ : St) (x : Int) : run 122 152 (a0 :: a1 :: a2 :: a3 :: a4 :: a5 :: a6 :: a7 :: a8 :: vI x :: l) (st) σ = run 122 154 (a0 :: a1 :: a2 :: a3 :: a4 :: a5 :: a6 :: a7 :: a8 :: vI x :: l) (vI x :: st) σ := (run_eq 122 152 _ _ σ).trans rfl
theorem e122_154 (ls st : List AV) (σ : St) (y x : Int) : run 122 154 (ls) (vI y :: vI x :: st) σ = run 122 155 (ls) (vI (bShl x y) :: st) σ := (run_eq 122 154 _ _ σ).trans rfl
theorem e122_155 (ls st : List AV) (σ : St) : run 122 155 (ls) (st) σ = run 122 159 (ls) (st) σ := (run_eq 122 155 _ _ σ).trans rfl
theorem e122_158 (ls st : List AV) (σ : St) : run 122 158 (ls) (st) σ = run 122 159 (ls) (vI 0 :: st) σ := (run_eq 122 158 _ _ σ).trans rfl
theorem e122_159 (ls st : List AV) (σ : St) (y x : Int) : run 122 159 (ls) (vI y :: vI x :: st) σ = run 122 160 (ls) (vI (bOr x y) :: st) σ := (run_eq 122 159 _ _ σ).trans rfl
theorem e122_160 (a0 a1 a2 a3 a4 a5 a6 : AV) (l st : List AV) (σ : St) (q : AV) (x : Int) : run 122 160 (a0 :: a1 :: a2 :: a3 :: a4 :: a5 :: a6 :: q :: l) (vI x :: st) σ = run 122 162 (a0 :: a1 :: a2 :: a3 :: a4 :: a5 :: a6 :: vI x :: l) (st) σ := (run_eq 122 160 _ _ σ).trans rfl
theorem e122_162 (l st : List AV) (σ : St) (x : Nat) : run 122 162 (vR x :: l) (st) σ = run 122 163 (vR x :: l) (vR x :: st) σ := (run_eq 122 162 _ _ σ).trans rfl
theorem e122_163 (ls st : List AV) (σ : St) (x : Nat) (h : fok σ x 3) : run 122 163 (ls) (vR x :: st) σ = run 122 166 (ls) (vR (gr σ x 11) :: st) σ := (run_eq 122 163 _ _ σ).trans (if_pos h)
theorem e122_166 (a0 a1 a2 a3 a4 a5 a6 a7 a8 : AV) (l st : List AV) (σ : St) (x : Int) : run 122 166 (a0 :: a1 :: a2 :: a3 :: a4 :: a5 :: a6 :: a7 :: a8 :: vI x :: l) (st) σ = run 122 168 (a0 :: a1 :: a2 :: a3 :: a4 :: a5 :: a6 :: a7 :: a8 :: vI x :: l) (vI x :: st) σ := (run_eq 122 166 _ _ σ).trans rfl
theorem e122_168 (a0 a1 a2 a3 a4 a5 a6 a7 a8 a9 : AV) (l st : List AV) (σ : St) (x : Int) : run 122 168 (a0 :: a1 :: a2 :: a3 :: a4 :: a5 :: a6 :: a7 :: a8 :: a9 :: vI x :: l) (st) σ = run 122 170 (a0 :: a1 :: a2 :: a3 :: a4 :: a5 :: a6 :: a7 :: a8 :: a9 :: vI x :: l) (vI x :: st) σ := (run_eq 122 168 _ _ σ).trans rfl
theorem e122_170 (ls st : List AV) (σ : St) : run 122 170 (ls) (st) σ = run 122 172 (ls) (vI 10 :: st) σ := (run_eq 122 170 _ _ σ).trans rfl
theorem e122_172 (ls st : List AV) (σ : St) (y x : Int) : run 122 172 (ls) (vI y :: vI x :: st) σ = if x < y then run 122 175 (ls) (st) σ else run 122 180 (ls) (st) σ := (run_eq 122 172 _ _ σ).trans rfl
theorem e122_175 (a0 a1 a2 a3 a4 a5 a6 a7 a8 a9 : AV) (l st : List AV) (σ : St) (x : Int) : run 122 175 (a0 :: a1 :: a2 :: a3 :: a4 :: a5 :: a6 :: a7 :: a8 :: a9 :: vI x :: l) (st) σ = run 122 177 (a0 :: a1 :: a2 :: a3 :: a4 :: a5 :: a6 :: a7 :: a8 :: a9 :: vI x :: l) (vI x :: st) σ := (run_eq 122 175 _ _ σ).trans rfl
theorem e122_177 (ls st : List AV) (σ : St) : run 122 177 (ls) (st) σ = run 122 187 (ls) (st) σ := (run_eq 122 177 _ _ σ).trans rfl
theorem e122_180 (l st : List AV) (σ : St) (x : Nat) : run 122 180 (vR x :: l) (st) σ = run 122 181 (vR x :: l) (vR x :: st) σ := (run_eq 122 180 _ _ σ).trans rfl
theorem e122_181 (ls st : List AV) (σ : St) (x : Nat) (h : fok σ x 3) : run 122 181 (ls) (vR x :: st) σ = run 122 184 (ls) (vR (gr σ x 11) :: st) σ := (run_eq 122 181 _ _ σ).trans (if_pos h)
theorem e122_184 (a0 a1 a2 a3 a4 a5 a6 a7 a8 : AV) (l st : List AV) (σ : St) (x : Int) : run 122 184 (a0 :: a1 :: a2 :: a3 :: a4 :: a5 :: a6 :: a7 :: a8 :: vI x :: l) (st) σ = run 122 186 (a0 :: a1 :: a2 :: a3 :: a4 :: a5 :: a6 :: a7 :: a8 :: vI x :: l) (vI x :: st) σ := (run_eq 122 184 _ _ σ).trans rfl
theorem e122_186 (ls st : List AV) (σ : St) (j : Int) (x : Nat) (h : aok σ x 4 j) : run 122 186 (ls) (vI j :: vR x :: st) σ = run 122 187 (ls) (vI (gt σ x j.toNat) :: st) σ := (run_eq 122 186 _ _ σ).trans (if_pos h)
theorem e122_187 (ls st : List AV) (σ : St) (z j : Int) (x : Nat) (h : aok σ x 4 j) : run 122 187 (ls) (vI z :: vI j :: vR x :: st) σ = run 122 188 (ls) (st) (sr σ x (ru (gt σ x) j.toNat z)) := (run_eq 122 187 _ _ σ).trans (if_pos h)
theorem e122_188 (a0 a1 a2 a3 a4 a5 a6 a7 a8 : AV) (l st : List AV) (σ : St) (x : Int) : run 122 188 (a0 :: a1 :: a2 :: a3 :: a4 :: a5 :: a6 :: a7 :: a8 :: vI x :: l) (st) σ = run 122 191 (a0 :: a1 :: a2 :: a3 :: a4 :: a5 :: a6 :: a7 :: a8 :: vI (wr (x + 1)) :: l) (st) σ := (run_eq 122 188 _ _ σ).trans rfl
theorem e122_191 (ls st : List AV) (σ : St) : run 122 191 (ls) (st) σ = run 122 81 (ls) (st) σ := (run_eq 122 191 _ _ σ).trans rfl
theorem e122_194 (a0 a1 a2 a3 a4 a5 a6 a7 : AV) (l st : List AV) (σ : St) (x : Int) : run 122 194 (a0 :: a1 :: a2 :: a3 :: a4 :: a5 :: a6 :: a7 :: vI x :: l) (st) σ = run 122 196 (a0 :: a1 :: a2 :: a3 :: a4 :: a5 :: a6 :: a7 :: vI x :: l) (vI x :: st) σ := (run_eq 122 194 _ _ σ).trans rfl
theorem e122_196 (ls st : List AV) (σ : St) (x : Int) : run 122 196 (ls) (vI x :: st) σ = if x = 0 then run 122 275 (ls) (st) σ else run 122 199 (ls) (st) σ := (run_eq 122 196 _ _ σ).trans rfl
theorem e122_199 (a0 a1 a2 a3 a4 a5 : AV) (l st : List AV) (σ : St) (x : Int) : run 122 199 (a0 :: a1 :: a2 :: a3 :: a4 :: a5 :: vI x :: l) (st) σ = run 122 201 (a0 :: a1 :: a2 :: a3 :: a4 :: a5 :: vI x :: l) (vI x :: st) σ := (run_eq 122 199 _ _ σ).trans rfl
theorem e122_201 (ls st : List AV) (σ : St) (x : Int) : run 122 201 (ls) (vI x :: st) σ = if x = 0 then run 122 204 (ls) (st) σ else run 122 275 (ls) (st) σ := (run_eq 122 201 _ _ σ).trans rfl
theorem e122_204 (l st : List AV) (σ : St) (x : Nat) : run 122 204 (vR x :: l) (st) σ = run 122 205 (vR x :: l) (vR x :: st) σ := (run_eq 122 204 _ _ σ).trans rfl
theorem e122_205 (ls st : List AV) (σ : St) (x0 : Nat) (h4 : st.length ≤ 4) (h : fok σ x0 3) : run 122 205 ls (vR x0 :: st) σ = bnd (run 124 0 [vR x0, vU] [] σ) (fun r σ => run 122 208 ls (psh r st) σ) := (run_eq 122 205 _ _ σ).trans (if_pos ⟨rfl, by simp, by simpa using h4, rfl, h⟩)
theorem e122_208 (a0 a1 a2 a3 : AV) (l st : List AV) (σ : St) (x : Int) : run 122 208 (a0 :: a1 :: a2 :: a3 :: vI x :: l) (st) σ = run 122 210 (a0 :: a1 :: a2 :: a3 :: vI x :: l) (vI x :: st) σ := (run_eq 122 208 _ _ σ).trans rfl
theorem e122_210 (ls st : List AV) (σ : St) (x : Int) : run 122 210 (ls) (vI x :: st) σ = if x < 0 then run 122 246 (ls) (st) σ else run 122 213 (ls) (st) σ := (run_eq 122 210 _ _ σ).trans rfl
theorem e122_213 (a0 a1 a2 a3 a4 a5 a6 : AV) (l st : List AV) (σ : St) (x : Int) : run 122 213 (a0 :: a1 :: a2 :: a3 :: a4 :: a5 :: a6 :: vI x :: l) (st) σ = run 122 215 (a0 :: a1 :: a2 :: a3 :: a4 :: a5 :: a6 :: vI x :: l) (vI x :: st) σ := (run_eq 122 213 _ _ σ).trans rfl
theorem e122_215 (ls st : List AV) (σ : St) (x0 : Int) (h4 : st.length ≤ 4) : run 122 215 ls (vI x0 :: st) σ = bnd (run 99 0 [vI x0, vU, vU] [] σ) (fun r σ => run 122 218 ls (psh r st) σ) := (run_eq 122 215 _ _ σ).trans (if_pos ⟨rfl, by simp, by simpa using h4⟩)
theorem e122_218 (a0 a1 a2 a3 : AV) (l st : List AV) (σ : St) (x : Int) : run 122 218 (a0 :: a1 :: a2 :: a3 :: vI x :: l) (st) σ = run 122 220 (a0 :: a1 :: a2 :: a3 :: vI x :: l) (vI x :: st) σ := (run_eq 122 218 _ _ σ).trans rfl
theorem e122_220 (ls st : List AV) (σ : St) (x0 : Int) (h4 : st.length ≤ 4) : run 122 220 ls (vI x0 :: st) σ = bnd (run 99 0 [vI x0, vU, vU] [] σ) (fun r σ => run 122 223 ls (psh r st) σ) := (run_eq 122 220 _ _ σ).trans (if_pos ⟨rfl, by simp, by simpa using h4⟩)
theorem e122_223 (ls st : List AV) (σ : St) (y x : Int) : run 122 223 (ls) (vI y :: vI x :: st) σ = if x < y then run 122 246 (ls) (st) σ else run 122 226 (ls) (st) σ := (run_eq 122 223 _ _ σ).trans rfl
theorem e122_226 (a0 a1 a2 a3 a4 a5 a6 : AV) (l st : List AV) (σ : St) (x : Int) : run 122 226 (a0 :: a1 :: a2 :: a3 :: a4 :: a5 :: a6 :: vI x :: l) (st) σ = run 122 228 (a0 :: a1 :: a2 :: a3 :: a4 :: a5 :: a6 :: vI x :: l) (vI x :: st) σ := (run_eq 122 226 _ _ σ).trans rfl
theorem e122_228 (ls st : List AV) (σ : St) (x0 : Int) (h4 : st.length ≤ 4) : run 122 228 ls (vI x0 :: st) σ = bnd (run 99 0 [vI x0, vU, vU] [] σ) (fun r σ => run 122 231 ls (psh r st) σ) := (run_eq 122 228 _ _ σ).trans (if_pos ⟨rfl, by simp, by simpa using h4⟩)
theorem e122_231 (a0 a1 a2 a3 : AV) (l st : List AV) (σ : St) (x : Int) : run 122 231 (a0 :: a1 :: a2 :: a3 :: vI x :: l) (st) σ = run 122 233 (a0 :: a1 :: a2 :: a3 :: vI x :: l) (vI x :: st) σ := (run_eq 122 231 _ _ σ).trans rfl
theorem e122_233 (ls st : List AV) (σ : St) (x0 : Int) (h4 : st.length ≤ 4) : run 122 233 ls (vI x0 :: st) σ = bnd (run 99 0 [vI x0, vU, vU] [] σ) (fun r σ => run 122 236 ls (psh r st) σ) := (run_eq 122 233 _ _ σ).trans (if_pos ⟨rfl, by simp, by simpa using h4⟩)
theorem e122_236 (ls st : List AV) (σ : St) (y x : Int) : run 122 236 (ls) (vI y :: vI x :: st) σ = if x = y then run 122 239 (ls) (st) σ else run 122 250 (ls) (st) σ := (run_eq 122 236 _ _ σ).trans rfl
theorem e122_239 (a0 a1 a2 a3 a4 a5 a6 : AV) (l st : List AV) (σ : St) (x : Int) : run 122 239 (a0 :: a1 :: a2 :: a3 :: a4 :: a5 :: a6 :: vI x :: l) (st) σ = run 122 241 (a0 :: a1 :: a2 :: a3 :: a4 :: a5 :: a6 :: vI x :: l) (vI x :: st) σ := (run_eq 122 239 _ _ σ).trans rfl
theorem e122_241 (a0 a1 a2 a3 : AV) (l st : List AV) (σ : St) (x : Int) : run 122 241 (a0 :: a1 :: a2 :: a3 :: vI x :: l) (st) σ = run 122 243 (a0 :: a1 :: a2 :: a3 :: vI x :: l) (vI x :: st) σ := (run_eq 122 241 _ _ σ).trans rfl
theorem e122_243 (ls st : List AV) (σ : St) (y x : Int) : run 122 243 (ls) (vI y :: vI x :: st) σ = if x < y then run 122 246 (ls) (st) σ else run 122 250 (ls) (st) σ := (run_eq 122 243 _ _ σ).trans rfl
theorem e122_246 (ls st : List AV) (σ : St) : run 122 246 (ls) (st) σ = run 122 247 (ls) (vI 1 :: st) σ := (run_eq 122 246 _ _ σ).trans rfl
theorem e122_247 (ls st : List AV) (σ : St) : run 122 247 (ls) (st) σ = run 122 251 (ls) (st) σ := (run_eq 122 247 _ _ σ).trans rfl
theorem e122_250 (ls st : List AV) (σ : St) : run 122 250 (ls) (st) σ = run 122 251 (ls) (vI 0 :: st) σ := (run_eq 122 250 _ _ σ).trans rfl
theorem e122_251 (a0 a1 a2 a3 a4 a5 a6 a7 a8 : AV) (l st : List AV) (σ : St) (q : AV) (x : Int) : run 122 251 (a0 :: a1 :: a2 :: a3 :: a4 :: a5 :: a6 :: a7 :: a8 :: q :: l) (vI x :: st) σ = run 122 253 (a0 :: a1 :: a2 :: a3 :: a4 :: a5 :: a6 :: a7 :: a8 :: vI x :: l) (st) σ := (run_eq 122 251 _ _ σ).trans rfl
theorem e122_253 (a0 a1 a2 a3 a4 a5 a6 a7 a8 : AV) (l st : List AV) (σ : St) (x : Int) : run 122 253 (a0 :: a1 :: a2 :: a3 :: a4 :: a5 :: a6 :: a7 :: a8 :: vI x :: l) (st) σ = run 122 255 (a0 :: a1 :: a2 :: a3 :: a4 :: a5 :: a6 :: a7 :: a8 :: vI x :: l) (vI x :: st) σ := (run_eq 122 253 _ _ σ).trans rfl
theorem e122_255 (ls st : List AV) (σ : St) (x : Int) : run 122 255 (ls) (vI x :: st) σ = if x = 0 then run 122 271 (ls) (st) σ else run 122 258 (ls) (st) σ := (run_eq 122 255 _ _ σ).trans rfl
theorem e122_258 (l st : List AV) (σ : St) (x : Nat) : run 122 258 (vR x :: l) (st) σ = run 122 259 (vR x :: l) (vR x :: st) σ := (run_eq 122 258 _ _ σ).trans rfl
theorem e122_259 (a0 : AV) (l st : List AV) (σ : St) (x : Int) : run 122 259 (a0 :: vI x :: l) (st) σ = run 122 260 (a0 :: vI x :: l) (vI x :: st) σ := (run_eq 122 259 _ _ σ).trans rfl
theorem e122_260 (ls st : List AV) (σ : St) (x0 : Nat) (x1 : Int) (h4 : st.length ≤ 4) (h : fok σ x0 3) : run 122 260 ls (vI x1 :: vR x0 :: st) σ = bnd (run 111 0 [vR x0, vI x1, vU, vU, vU] [] σ) (fun r σ => run 122 263 ls (psh r st) σ) := (run_eq 122 260 _ _ σ).trans (if_pos ⟨rfl, by simp, by simpa using h4, rfl, h⟩)
theorem e122_263 (ls st : List AV) (σ : St) (x : Int) : run 122 263 (ls) (vI x :: st) σ = if x = 0 then run 122 271 (ls) (st) σ else run 122 266 (ls) (st) σ := (run_eq 122 263 _ _ σ).trans rfl
theorem e122_266 (a0 a1 a2 a3 a4 a5 a6 : AV) (l st : List AV) (σ : St) (x : Int) : run 122 266 (a0 :: a1 :: a2 :: a3 :: a4 :: a5 :: a6 :: vI x :: l) (st) σ = run 122 268 (a0 :: a1 :: a2 :: a3 :: a4 :: a5 :: a6 :: vI x :: l) (vI x :: st) σ := (run_eq 122 266 _ _ σ).trans rfl
theorem e122_268 (ls st : List AV) (σ : St) : run 122 268 (ls) (st) σ = run 122 273 (ls) (st) σ := (run_eq 122 268 _ _ σ).trans rfl
theorem e122_271 (a0 a1 a2 a3 : AV) (l st : List AV) (σ : St) (x : Int) : run 122 271 (a0 :: a1 :: a2 :: a3 :: vI x :: l) (st) σ = run 122 273 (a0 :: a1 :: a2 :: a3 :: vI x :: l) (vI x :: st) σ := (run_eq 122 271 _ _ σ).trans rfl
theorem e122_273 (a0 a1 a2 a3 : AV) (l st : List AV) (σ : St) (q : AV) (x : Int) : run 122 273 (a0 :: a1 :: a2 :: a3 :: q :: l) (vI x :: st) σ = run 122 275 (a0 :: a1 :: a2 :: a3 :: vI x :: l) (st) σ := (run_eq 122 273 _ _ σ).trans rfl
theorem e122_275 (a0 a1 a2 a3 a4 : AV) (l st : List AV) (σ : St) (x : Int) : run 122 275 (a0 :: a1 :: a2 :: a3 :: a4 :: vI x :: l) (st) σ = run 122 278 (a0 :: a1 :: a2 :: a3 :: a4 :: vI (wr (x + 1)) :: l) (st) σ := (run_eq 122 275 _ _ σ).trans rfl
theorem e122_278 (ls st : List AV) (σ : St) : run 122 278 (ls) (st) σ = run 122 56 (ls) (st) σ := (run_eq 122 278 _ _ σ).trans rfl
theorem e122_281 (a0 a1 a2 a3 : AV) (l st : List AV) (σ : St) (x : Int) : run 122 281 (a0 :: a1 :: a2 :: a3 :: vI x :: l) (st) σ = run 122 283 (a0 :: a1 :: a2 :: a3 :: vI x :: l) (vI x :: st) σ := (run_eq 122 281 _ _ σ).trans rfl
theorem e122_283 (ls st : List AV) (σ : St) (x : Int) : run 122 283 (ls) (vI x :: st) σ = if x < 0 then run 122 291 (ls) (st) σ else run 122 286 (ls) (st) σ := (run_eq 122 283 _ _ σ).trans rfl
theorem e122_286 (a0 a1 : AV) (l st : List AV) (σ : St) (x : Int) : run 122 286 (a0 :: a1 :: vI x :: l) (st) σ = run 122 287 (a0 :: a1 :: vI x :: l) (vI x :: st) σ := (run_eq 122 286 _ _ σ).trans rfl
theorem e122_287 (ls st : List AV) (σ : St) : run 122 287 (ls) (st) σ = run 122 288 (ls) (vI 1 :: st) σ := (run_eq 122 287 _ _ σ).trans rfl
theorem e122_288 (ls st : List AV) (σ : St) (y x : Int) : run 122 288 (ls) (vI y :: vI x :: st) σ = if x = y then run 122 291 (ls) (st) σ else run 122 296 (ls) (st) σ := (run_eq 122 288 _ _ σ).trans rfl
theorem e122_291 (a0 a1 a2 a3 : AV) (l st : List AV) (σ : St) (x : Int) : run 122 291 (a0 :: a1 :: a2 :: a3 :: vI x :: l) (st) σ = run 122 293 (a0 :: a1 :: a2 :: a3 :: vI x :: l) (vI x :: st) σ := (run_eq 122 291 _ _ σ).trans rfl
theorem e122_293 (ls st : List AV) (σ : St) : run 122 293 (ls) (st) σ = run 122 301 (ls) (st) σ := (run_eq 122 293 _ _ σ).trans rfl
theorem e122_296 (a0 a1 a2 a3 : AV) (l st : List AV) (σ : St) (x : Int) : run 122 296 (a0 :: a1 :: a2 :: a3 :: vI x :: l) (st) σ = run 122 298 (a0 :: a1 :: a2 :: a3 :: vI x :: l) (vI x :: st) σ := (run_eq 122 296 _ _ σ).trans rfl
theorem e122_298 (ls st : List AV) (σ : St) (x0 : Int) (h4 : st.length ≤ 4) : run 122 298 ls (vI x0 :: st) σ = bnd (run 99 0 [vI x0, vU, vU] [] σ) (fun r σ => run 122 301 ls (psh r st) σ) := (run_eq 122 298 _ _ σ).trans (if_pos ⟨rfl, by simp, by simpa using h4⟩)
theorem e122_301 (ls : List AV) (σ : St) (x : Int) : run 122 301 ls [vI x] σ = some (vI x, σ) := (run_eq 122 301 _ _ σ).trans rfl
/-! M_areHours -/
theorem e123_0 (l st : List AV) (σ : St) (x : Nat) : run 123 0 (vR x :: l) (st) σ = run 123 1 (vR x :: l) (vR x :: st) σ := (run_eq 123 0 _ _ σ).trans rfl
theorem e123_1 (ls st : List AV) (σ : St) (x0 : Nat) (h4 : st.length ≤ 4) (h : fok σ x0 3) : run 123 1 ls (vR x0 :: st) σ = bnd (run 103 0 [vR x0, vU, vU, vU, vU] [] σ) (fun r σ => run 123 4 ls (psh r st) σ) := (run_eq 123 1 _ _ σ).trans (if_pos ⟨rfl, by simp, by simpa using h4, rfl, h⟩)
theorem e123_4 (ls st : List AV) (σ : St) (x : Int) : run 123 4 (ls) (vI x :: st) σ = if x < 0 then run 123 7 (ls) (st) σ else run 123 11 (ls) (st) σ := (run_eq 123 4 _ _ σ).trans rfl
theorem e123_7 (ls st : List AV) (σ : St) : run 123 7 (ls) (st) σ = run 123 8 (ls) (vI 1 :: st) σ := (run_eq 123 7 _ _ σ).trans rfl
theorem e123_8 (ls st : List AV) (σ : St) : run 123 8 (ls) (st) σ = run 123 12 (ls) (st) σ := (run_eq 123 8 _ _ σ).trans rfl
theorem e123_11 (ls st : List AV) (σ : St) : run 123 11 (ls) (st) σ = run 123 12 (ls) (vI 0 :: st) σ := (run_eq 123 11 _ _ σ).trans rfl
theorem e123_12 (a0 : AV) (l st : List AV) (σ : St) (q : AV) (x : Int) : run 123 12 (a0 :: q :: l) (vI x :: st) σ = run 123 13 (a0 :: vI x :: l) (st) σ := (run_eq 123 12 _ _ σ).trans rfl
theorem e123_13 (ls st : List AV) (σ : St) : run 123 13 (ls) (st) σ = run 123 14 (ls) (vI 0 :: st) σ := (run_eq 123 13 _ _ σ).trans rfl
theorem e123_14 (a0 a1 : AV) (l st : List AV) (σ : St) (q : AV) (x : Int) : run 123 14 (a0 :: a1 :: q :: l) (vI x :: st) σ = run 123 15 (a0 :: a1 :: vI x :: l) (st) σ := (run_eq 123 14 _ _ σ).trans rfl
theorem e123_15 (a0 a1 : AV) (l st : List AV) (σ : St) (x : Int) : run 123 15 (a0 :: a1 :: vI x :: l) (st) σ = run 123 16 (a0 :: a1 :: vI x :: l) (vI x :: st) σ := (run_eq 123 15 _ _ σ).trans rfl
theorem e123_16 (l st : List AV) (σ : St) (x : Nat) : run 123 16 (vR x :: l) (st) σ = run 123 17 (vR x :: l) (vR x :: st) σ := (run_eq 123 16 _ _ σ).trans rfl
theorem e123_17 (ls st : List AV) (σ : St) (x : Nat) (h : fok σ x 3) : run 123 17 (ls) (vR x :: st) σ = run 123 20 (ls) (vI (gt σ x 9) :: st) σ := (run_eq 123 17 _ _ σ).trans (if_pos h)
theorem e123_20 (ls st : List AV) (σ : St) (y x : Int) : run 123 20 (ls) (vI y :: vI x :: st) σ = if x < y then run 123 23 (ls) (st) σ else run 123 51 (ls) (st) σ := (run_eq 123 20 _ _ σ).trans rfl
theorem e123_23 (a0 : AV) (l st : List AV) (σ : St) (x : Int) : run 123 23 (a0 :: vI x :: l) (st) σ = run 123 24 (a0 :: vI x :: l) (vI x :: st) σ := (run_eq 123 23 _ _ σ).trans rfl
theorem e123_24 (ls st : List AV) (σ : St) (x : Int) : run 123 24 (ls) (vI x :: st) σ = if x = 0 then run 123 51 (ls) (st) σ else run 123 27 (ls) (st) σ := (run_eq 123 24 _ _ σ).trans rfl
theorem e123_27 (l st : List AV) (σ : St) (x : Nat) : run 123 27 (vR x :: l) (st) σ = run 123 28 (vR x :: l) (vR x :: st) σ := (run_eq 123 27 _ _ σ).trans rfl
theorem e123_28 (ls st : List AV) (σ : St) (x : Nat) (h : fok σ x 3) : run 123 28 (ls) (vR x :: st) σ = run 123 31 (ls) (vR (gr σ x 10) :: st) σ := (run_eq 123 28 _ _ σ).trans (if_pos h)
theorem e123_31 (a0 a1 : AV) (l st : List AV) (σ : St) (x : Int) : run 123 31 (a0 :: a1 :: vI x :: l) (st) σ = run 123 32 (a0 :: a1 :: vI x :: l) (vI x :: st) σ := (run_eq 123 31 _ _ σ).trans rfl
theorem e123_32 (ls st : List AV) (σ : St) (j : Int) (x : Nat) (h : aok σ x 4 j) : run 123 32 (ls) (vI j :: vR x :: st) σ = run 123 33 (ls) (vI (gt σ x j.toNat) :: st) σ := (run_eq 123 32 _ _ σ).trans (if_pos h)
theorem e123_33 (ls st : List AV) (σ : St) (x0 : Int) (h4 : st.length ≤ 4) : run 123 33 ls (vI x0 :: st) σ = bnd (run 104 0 [vI x0] [] σ) (fun r σ => run 123 36 ls (psh r st) σ) := (run_eq 123 33 _ _ σ).trans (if_pos ⟨rfl, by simp, by simpa using h4⟩)
theorem e123_36 (ls st : List AV) (σ : St) (x : Int) : run 123 36 (ls) (vI x :: st) σ = if x < 0 then run 123 43 (ls) (st) σ else run 123 39 (ls) (st) σ := (run_eq 123 36 _ _ σ).trans rfl
theorem e123_39 (ls st : List AV) (σ : St) : run 123 39 (ls) (st) σ = run 123 40 (ls) (vI 1 :: st) σ := (run_eq 123 39 _ _ σ).trans rfl
theorem e123_40 (ls st : List AV) (σ : St) : run 123 40 (ls) (st) σ = run 123 44 (ls) (st) σ := (run_eq 123 40 _ _ σ).trans rfl
theorem e123_43 (ls st : List AV) (σ : St) : run 123 43 (ls) (st) σ = run 123 44 (ls) (vI 0 :: st) σ := (run_eq 123 43 _ _ σ).trans rfl
theorem e123_44 (a0 : AV) (l st : List AV) (σ : St) (q : AV) (x : Int) : run 123 44 (a0 :: q :: l) (vI x :: st) σ = run 123 45 (a0 :: vI x :: l) (st) σ := (run_eq 123 44 _ _ σ).trans rfl
theorem e123_45 (a0 a1 : AV) (l st : List AV) (σ : St) (x : Int) : run 123 45 (a0 :: a1 :: vI x :: l) (st) σ = run 123 48 (a0 :: a1 :: vI (wr (x + 1)) :: l) (st) σ := (run_eq 123 45 _ _ σ).trans rfl
theorem e123_48 (ls st : List AV) (σ : St) : run 123 48 (ls) (st) σ = run 123 15 (ls) (st) σ := (run_eq 123 48 _ _ σ).trans rfl
theorem e123_51 (a0 : AV) (l st : List AV) (σ : St) (x : Int) : run 123 51 (a0 :: vI x :: l) (st) σ = run 123 52 (a0 :: vI x :: l) (vI x :: st) σ := (run_eq 123 51 _ _ σ).trans rfl
theorem e123_52 (ls : List AV) (σ : St) (x : Int) (h : x = 0 ∨ x = 1) : run 123 52 ls [vI x] σ = some (vI x, σ) := (run_eq 123 52 _ _ σ).trans (if_pos h)
/-! M_goHours -/
theorem e124_0 (ls st : List AV) (σ : St) : run 124 0 (ls) (st) σ = run 124 1 (ls) (vI 0 :: st) σ := (run_eq 124 0 _ _ σ).trans rfl
theorem e124_1 (a0 : AV) (l st : List AV) (σ : St) (q : AV) (x : Int) : run 124 1 (a0 :: q :: l) (vI x :: st) σ = run 124 2 (a0 :: vI x :: l) (st) σ := (run_eq 124 1 _ _ σ).trans rfl
theorem e124_2 (a0 : AV) (l st : List AV) (σ : St) (x : Int) : run 124 2 (a0 :: vI x :: l) (st) σ = run 124 3 (a0 :: vI x :: l) (vI x :: st) σ := (run_eq 124 2 _ _ σ).trans rfl
theorem e124_3 (l st : List AV) (σ : St) (x : Nat) : run 124 3 (vR x :: l) (st) σ = run 124 4 (vR x :: l) (vR x :: st) σ := (run_eq 124 3 _ _ σ).trans rfl
theorem e124_4 (ls st : List AV) (σ : St) (x : Nat) (h : fok σ x 3) : run 124 4 (ls) (vR x :: st) σ = run 124 7 (ls) (vI (gt σ x 9) :: st) σ := (run_eq 124 4 _ _ σ).trans (if_pos h)
theorem e124_7 (ls st : List AV) (σ : St) (y x : Int) : run 124 7 (ls) (vI y :: vI x :: st) σ = if x < y then run 124 10 (ls) (st) σ else run 124 29 (ls) (st) σ := (run_eq 124 7 _ _ σ).trans rfl
theorem e124_10 (l st : List AV) (σ : St) (x : Nat) : run 124 10 (vR x :: l) (st) σ = run 124 11 (vR x :: l) (vR x :: st) σ := (run_eq 124 10 _ _ σ).trans rfl
theorem e124_11 (l st : List AV) (σ : St) (x : Nat) : run 124 11 (vR x :: l) (st) σ = run 124 12 (vR x :: l) (vR x :: st) σ := (run_eq 124 11 _ _ σ).trans rfl
theorem e124_12 (ls st : List AV) (σ : St) (x : Nat) (h : fok σ x 3) : run 124 12 (ls) (vR x :: st) σ = run 124 15 (ls) (vR (gr σ x 10) :: st) σ := (run_eq 124 12 _ _ σ).trans (if_pos h)
theorem e124_15 (a0 : AV) (l st : List AV) (σ : St) (x : Int) : run 124 15 (a0 :: vI x :: l) (st) σ = run 124 16 (a0 :: vI x :: l) (vI x :: st) σ := (run_eq 124 15 _ _ σ).trans rfl
theorem e124_16 (ls st : List AV) (σ : St) (j : Int) (x : Nat) (h : aok σ x 4 j) : run 124 16 (ls) (vI j :: vR x :: st) σ = run 124 17 (ls) (vI (gt σ x j.toNat) :: st) σ := (run_eq 124 16 _ _ σ).trans (if_pos h)
theorem e124_17 (ls st : List AV) (σ : St) (x0 : Int) (h4 : st.length ≤ 4) : run 124 17 ls (vI x0 :: st) σ = bnd (run 104 0 [vI x0] [] σ) (fun r σ => run 124 20 ls (psh r st) σ) := (run_eq 124 17 _ _ σ).trans (if_pos ⟨rfl, by simp, by simpa using h4⟩)
theorem e124_20 (ls st : List AV) (σ : St) (x0 : Nat) (x1 : Int) (h4 : st.length ≤ 4) (h : fok σ x0 3) : run 124 20 ls (vI x1 :: vR x0 :: st) σ = bnd (run 108 0 [vR x0, vI x1, vU, vU, vU, vU] [] σ) (fun r σ => run 124 23 ls (psh r st) σ) := (run_eq 124 20 _ _ σ).trans (if_pos ⟨rfl, by simp, by simpa using h4, rfl, h⟩)
theorem e124_23 (a0 : AV) (l st : List AV) (σ : St) (x : Int) : run 124 23 (a0 :: vI x :: l) (st) σ = run 124 26 (a0 :: vI (wr (x + 1)) :: l) (st) σ := (run_eq 124 23 _ _ σ).trans rfl
theorem e124_26 (ls st : List AV) (σ : St) : run 124 26 (ls) (st) σ = run 124 2 (ls) (st) σ := (run_eq 124 26 _ _ σ).trans rfl
theorem e124_29 (ls : List AV) (σ : St) : run 124 29 ls [] σ = some (vU, σ) := (run_eq 124 29 _ _ σ).trans rfl
/-! M_dark -/
theorem e125_0 (l st : List AV) (σ : St) (x : Nat) : run 125 0 (vR x :: l) (st) σ = run 125 1 (vR x :: l) (vR x :: st) σ := (run_eq 125 0 _ _ σ).trans rfl
theorem e125_1 (a0 : AV) (l st : List AV) (σ : St) (x : Int) : run 125 1 (a0 :: vI x :: l) (st) σ = run 125 2 (a0 :: vI x :: l) (vI x :: st) σ := (run_eq 125 1 _ _ σ).trans rfl
theorem e125_2 (ls st : List AV) (σ : St) (x0 : Nat) (x1 : Int) (h4 : st.length ≤ 4) (h : fok σ x0 3) : run 125 2 ls (vI x1 :: vR x0 :: st) σ = bnd (run 117 0 [vR x0, vI x1] [] σ) (fun r σ => run 125 5 ls (psh r st) σ) := (run_eq 125 2 _ _ σ).trans (if_pos ⟨rfl, by simp, by simpa using h4, rfl, h⟩)
theorem e125_5 (ls st : List AV) (σ : St) (x : Int) : run 125 5 (ls) (vI x :: st) σ = if x = 0 then run 125 8 (ls) (st) σ else run 125 10 (ls) (st) σ := (run_eq 125 5 _ _ σ).trans rfl
theorem e125_8 (ls st : List AV) (σ : St) : run 125 8 (ls) (st) σ = run 125 9 (ls) (vI (-1) :: st) σ := (run_eq 125 8 _ _ σ).trans rfl
theorem e125_9 (ls : List AV) (σ : St) (x : Int) : run 125 9 ls [vI x] σ = some (vI x, σ) := (run_eq 125 9 _ _ σ).trans rfl
theorem e125_10 (a0 a1 : AV) (l st : List AV) (σ : St) (x : Int) : run 125 10 (a0 :: a1 :: vI x :: l) (st) σ = run 125 11 (a0 :: a1 :: vI x :: l) (vI x :: st) σ := (run_eq 125 10 _ _ σ).trans rfl
theorem e125_11 (ls st : List AV) (σ : St) : run 125 11 (ls) (st) σ = run 125 12 (ls) (vI 0 :: st) σ := (run_eq 125 11 _ _ σ).trans rfl
theorem e125_12 (ls st : List AV) (σ : St) : run 125 12 (ls) (st) σ = run 125 13 (ls) (vI 1 :: st) σ := (run_eq 125 12 _ _ σ).trans rfl
theorem e125_13 (ls st : List AV) (σ : St) (x0 : Int) (x1 : Int) (x2 : Int) (h4 : st.length ≤ 4) : run 125 13 ls (vI x2 :: vI x1 :: vI x0 :: st) σ = bnd (run 92 0 [vI x0, vI x1, vI x2] [] σ) (fun r σ => run 125 16 ls (psh r st) σ) := (run_eq 125 13 _ _ σ).trans (if_pos ⟨rfl, by simp, by simpa using h4⟩)
theorem e125_16 (ls st : List AV) (σ : St) (x : Int) : run 125 16 (ls) (vI x :: st) σ = if x = 0 then run 125 19 (ls) (st) σ else run 125 22 (ls) (st) σ := (run_eq 125 16 _ _ σ).trans rfl
theorem e125_19 (ls st : List AV) (σ : St) : run 125 19 (ls) (st) σ = run 125 21 (ls) (vI (-2) :: st) σ := (run_eq 125 19 _ _ σ).trans rfl
theorem e125_21 (ls : List AV) (σ : St) (x : Int) : run 125 21 ls [vI x] σ = some (vI x, σ) := (run_eq 125 21 _ _ σ).trans rfl
theorem e125_22 (l st : List AV) (σ : St) (x : Nat) : run 125 22 (vR x :: l) (st) σ = run 125 23 (vR x :: l) (vR x :: st) σ := (run_eq 125 22 _ _ σ).trans rfl
theorem e125_23 (ls st : List AV) (σ : St) (x0 : Nat) (h4 : st.length ≤ 4) (h : fok σ x0 3) : run 125 23 ls (vR x0 :: st) σ = bnd (run 123 0 [vR x0, vU, vU] [] σ) (fun r σ => run 125 26 ls (psh r st) σ) := (run_eq 125 23 _ _ σ).trans (if_pos ⟨rfl, by simp, by simpa using h4, rfl, h⟩)
theorem e125_26 (ls st : List AV) (σ : St) (x : Int) : run 125 26 (ls) (vI x :: st) σ = if x = 0 then run 125 29 (ls) (st) σ else run 125 32 (ls) (st) σ := (run_eq 125 26 _ _ σ).trans rfl
theorem e125_29 (ls st : List AV) (σ : St) : run 125 29 (ls) (st) σ = run 125 31 (ls) (vI (-5) :: st) σ := (run_eq 125 29 _ _ σ).trans rfl
theorem e125_31 (ls : List AV) (σ : St) (x : Int) : run 125 31 ls [vI x] σ = some (vI x, σ) := (run_eq 125 31 _ _ σ).trans rfl
theorem e125_32 (l st : List AV) (σ : St) (x : Nat) : run 125 32 (vR x :: l) (st) σ = run 125 33 (vR x :: l) (vR x :: st) σ := (run_eq 125 32 _ _ σ).trans rfl
theorem e125_33 (ls st : List AV) (σ : St) (x : Nat) (h : fok σ x 3) : run 125 33 (ls) (vR x :: st) σ = run 125 36 (ls) (vI (gt σ x 3) :: st) σ := (run_eq 125 33 _ _ σ).trans (if_pos h)
theorem e125_36 (ls st : List AV) (σ : St) (x0 : Int) (h4 : st.length ≤ 4) : run 125 36 ls (vI x0 :: st) σ = bnd (run 99 0 [vI x0, vU, vU] [] σ) (fun r σ => run 125 39 ls (psh r st) σ) := (run_eq 125 36 _ _ σ).trans (if_pos ⟨rfl, by simp, by simpa using h4⟩)
theorem e125_39 (a0 a1 a2 : AV) (l st : List AV) (σ : St) (q : AV) (x : Int) : run 125 39 (a0 :: a1 :: a2 :: q :: l) (vI x :: st) σ = run 125 40 (a0 :: a1 :: a2 :: vI x :: l) (st) σ := (run_eq 125 39 _ _ σ).trans rfl
theorem e125_40 (a0 a1 a2 : AV) (l st : List AV) (σ : St) (x : Int) : run 125 40 (a0 :: a1 :: a2 :: vI x :: l) (st) σ = run 125 41 (a0 :: a1 :: a2 :: vI x :: l) (vI x :: st) σ := (run_eq 125 40 _ _ σ).trans rfl
theorem e125_41 (ls st : List AV) (σ : St) : run 125 41 (ls) (st) σ = run 125 43 (ls) (vI 8 :: st) σ := (run_eq 125 41 _ _ σ).trans rfl
theorem e125_43 (ls st : List AV) (σ : St) (y x : Int) : run 125 43 (ls) (vI y :: vI x :: st) σ = if y < x then run 125 46 (ls) (st) σ else run 125 49 (ls) (st) σ := (run_eq 125 43 _ _ σ).trans rfl
theorem e125_46 (ls st : List AV) (σ : St) : run 125 46 (ls) (st) σ = run 125 48 (ls) (vI (-4) :: st) σ := (run_eq 125 46 _ _ σ).trans rfl
theorem e125_48 (ls : List AV) (σ : St) (x : Int) : run 125 48 ls [vI x] σ = some (vI x, σ) := (run_eq 125 48 _ _ σ).trans rfl
theorem e125_49 (ls st : List AV) (σ : St) : run 125 49 (ls) (st) σ = run 125 51 (ls) (vI (-6) :: st) σ := (run_eq 125 49 _ _ σ).trans rfl
theorem e125_51 (a0 a1 a2 a3 : AV) (l st : List AV) (σ : St) (q : AV) (x : Int) : run 125 51 (a0 :: a1 :: a2 :: a3 :: q :: l) (vI x :: st) σ = run 125 53 (a0 :: a1 :: a2 :: a3 :: vI x :: l) (st) σ := (run_eq 125 51 _ _ σ).trans rfl
theorem e125_53 (ls st : List AV) (σ : St) : run 125 53 (ls) (st) σ = run 125 54 (ls) (vI 0 :: st) σ := (run_eq 125 53 _ _ σ).trans rfl
theorem e125_54 (a0 a1 a2 a3 a4 : AV) (l st : List AV) (σ : St) (q : AV) (x : Int) : run 125 54 (a0 :: a1 :: a2 :: a3 :: a4 :: q :: l) (vI x :: st) σ = run 125 56 (a0 :: a1 :: a2 :: a3 :: a4 :: vI x :: l) (st) σ := (run_eq 125 54 _ _ σ).trans rfl
theorem e125_56 (a0 a1 a2 a3 a4 : AV) (l st : List AV) (σ : St) (x : Int) : run 125 56 (a0 :: a1 :: a2 :: a3 :: a4 :: vI x :: l) (st) σ = run 125 58 (a0 :: a1 :: a2 :: a3 :: a4 :: vI x :: l) (vI x :: st) σ := (run_eq 125 56 _ _ σ).trans rfl
theorem e125_58 (ls st : List AV) (σ : St) : run 125 58 (ls) (st) σ = run 125 59 (ls) (vI 1 :: st) σ := (run_eq 125 58 _ _ σ).trans rfl
theorem e125_59 (a0 a1 a2 : AV) (l st : List AV) (σ : St) (x : Int) : run 125 59 (a0 :: a1 :: a2 :: vI x :: l) (st) σ = run 125 60 (a0 :: a1 :: a2 :: vI x :: l) (vI x :: st) σ := (run_eq 125 59 _ _ σ).trans rfl
theorem e125_60 (ls st : List AV) (σ : St) (y x : Int) : run 125 60 (ls) (vI y :: vI x :: st) σ = run 125 61 (ls) (vI (bShl x y) :: st) σ := (run_eq 125 60 _ _ σ).trans rfl
theorem e125_61 (ls st : List AV) (σ : St) (y x : Int) : run 125 61 (ls) (vI y :: vI x :: st) σ = if x < y then run 125 64 (ls) (st) σ else run 125 186 (ls) (st) σ := (run_eq 125 61 _ _ σ).trans rfl
theorem e125_64 (ls st : List AV) (σ : St) : run 125 64 (ls) (st) σ = run 125 65 (ls) (vI 0 :: st) σ := (run_eq 125 64 _ _ σ).trans rfl
theorem e125_65 (a0 a1 a2 a3 a4 a5 : AV) (l st : List AV) (σ : St) (q : AV) (x : Int) : run 125 65 (a0 :: a1 :: a2 :: a3 :: a4 :: a5 :: q :: l) (vI x :: st) σ = run 125 67 (a0 :: a1 :: a2 :: a3 :: a4 :: a5 :: vI x :: l) (st) σ := (run_eq 125 65 _ _ σ).trans rfl
theorem e125_67 (ls st : List AV) (σ : St) : run 125 67 (ls) (st) σ = run 125 68 (ls) (vI 0 :: st) σ := (run_eq 125 67 _ _ σ).trans rfl
theorem e125_68 (a0 a1 a2 a3 a4 a5 a6 : AV) (l st : List AV) (σ : St) (q : AV) (x : Int) : run 125 68 (a0 :: a1 :: a2 :: a3 :: a4 :: a5 :: a6 :: q :: l) (vI x :: st) σ = run 125 70 (a0 :: a1 :: a2 :: a3 :: a4 :: a5 :: a6 :: vI x :: l) (st) σ := (run_eq 125 68 _ _ σ).trans rfl
theorem e125_70 (ls st : List AV) (σ : St) : run 125 70 (ls) (st) σ = run 125 71 (ls) (vI 0 :: st) σ := (run_eq 125 70 _ _ σ).trans rfl
theorem e125_71 (a0 a1 a2 a3 a4 a5 a6 a7 : AV) (l st : List AV) (σ : St) (q : AV) (x : Int) : run 125 71 (a0 :: a1 :: a2 :: a3 :: a4 :: a5 :: a6 :: a7 :: q :: l) (vI x :: st) σ = run 125 73 (a0 :: a1 :: a2 :: a3 :: a4 :: a5 :: a6 :: a7 :: vI x :: l) (st) σ := (run_eq 125 71 _ _ σ).trans rfl
theorem e125_73 (a0 a1 a2 a3 a4 a5 a6 a7 : AV) (l st : List AV) (σ : St) (x : Int) : run 125 73 (a0 :: a1 :: a2 :: a3 :: a4 :: a5 :: a6 :: a7 :: vI x :: l) (st) σ = run 125 75 (a0 :: a1 :: a2 :: a3 :: a4 :: a5 :: a6 :: a7 :: vI x :: l) (vI x :: st) σ := (run_eq 125 73 _ _ σ).trans rfl
theorem e125_75 (ls st : List AV) (σ : St) : run 125 75 (ls) (st) σ = run 125 77 (ls) (vI 24 :: st) σ := (run_eq 125 75 _ _ σ).trans rfl
theorem e125_77 (ls st : List AV) (σ : St) (y x : Int) : run 125 77 (ls) (vI y :: vI x :: st) σ = if x < y then run 125 80 (ls) (st) σ else run 125 124 (ls) (st) σ := (run_eq 125 77 _ _ σ).trans rfl
theorem e125_80 (l st : List AV) (σ : St) (x : Nat) : run 125 80 (vR x :: l) (st) σ = run 125 81 (vR x :: l) (vR x :: st) σ := (run_eq 125 80 _ _ σ).trans rfl
theorem e125_81 (ls st : List AV) (σ : St) (x : Nat) (h : fok σ x 3) : run 125 81 (ls) (vR x :: st) σ = run 125 84 (ls) (vI (gt σ x 3) :: st) σ := (run_eq 125 81 _ _ σ).trans (if_pos h)
theorem e125_84 (a0 a1 a2 a3 a4 a5 a6 a7 : AV) (l st : List AV) (σ : St) (x : Int) : run 125 84 (a0 :: a1 :: a2 :: a3 :: a4 :: a5 :: a6 :: a7 :: vI x :: l) (st) σ = run 125 86 (a0 :: a1 :: a2 :: a3 :: a4 :: a5 :: a6 :: a7 :: vI x :: l) (vI x :: st) σ := (run_eq 125 84 _ _ σ).trans rfl
theorem e125_86 (ls st : List AV) (σ : St) (x0 : Int) (x1 : Int) (h4 : st.length ≤ 4) : run 125 86 ls (vI x1 :: vI x0 :: st) σ = bnd (run 109 0 [vI x0, vI x1] [] σ) (fun r σ => run 125 89 ls (psh r st) σ) := (run_eq 125 86 _ _ σ).trans (if_pos ⟨rfl, by simp, by simpa using h4⟩)
theorem e125_89 (ls st : List AV) (σ : St) (x : Int) : run 125 89 (ls) (vI x :: st) σ = if x = 0 then run 125 118 (ls) (st) σ else run 125 92 (ls) (st) σ := (run_eq 125 89 _ _ σ).trans rfl
theorem e125_92 (a0 a1 a2 a3 a4 a5 : AV) (l st : List AV) (σ : St) (x : Int) : run 125 92 (a0 :: a1 :: a2 :: a3 :: a4 :: a5 :: vI x :: l) (st) σ = run 125 94 (a0 :: a1 :: a2 :: a3 :: a4 :: a5 :: vI x :: l) (vI x :: st) σ := (run_eq 125 92 _ _ σ).trans rfl
theorem e125_94 (a0 a1 a2 a3 a4 : AV) (l st : List AV) (σ : St) (x : Int) : run 125 94 (a0 :: a1 :: a2 :: a3 :: a4 :: vI x :: l) (st) σ = run 125 96 (a0 :: a1 :: a2 :: a3 :: a4 :: vI x :: l) (vI x :: st) σ := (run_eq 125 94 _ _ σ).trans rfl
theorem e125_96 (a0 a1 a2 a3 a4 a5 a6 : AV) (l st : List AV) (σ : St) (x : Int) : run 125 96 (a0 :: a1 :: a2 :: a3 :: a4 :: a5 :: a6 :: vI x :: l) (st) σ = run 125 98 (a0 :: a1 :: a2 :: a3 :: a4 :: a5 :: a6 :: vI x :: l) (vI x :: st) σ := (run_eq 125 96 _ _ σ).trans rfl
theorem e125_98 (ls st : List AV) (σ : St) (x0 : Int) (x1 : Int) (h4 : st.length ≤ 4) : run 125 98 ls (vI x1 :: vI x0 :: st) σ = bnd (run 109 0 [vI x0, vI x1] [] σ) (fun r σ => run 125 101 ls (psh r st) σ) := (run_eq 125 98 _ _ σ).trans (if_pos ⟨rfl, by simp, by simpa using h4⟩)
theorem e125_101 (ls st : List AV) (σ : St) (x : Int) : run 125 101 (ls) (vI x :: st) σ = if x = 0 then run 125 111 (ls) (st) σ else run 125 104 (ls) (st) σ := (run_eq 125 101 _ _ σ).trans rfl
theorem e125_104 (ls st : List AV) (σ : St) : run 125 104 (ls) (st) σ = run 125 105 (ls) (vI 1 :: st) σ := (run_eq 125 104 _ _ σ).trans rfl
theorem e125_105 (a0 a1 a2 a3 a4 a5 a6 a7 : AV) (l st : List AV) (σ : St) (x : Int) : run 125 105 (a0 :: a1 :: a2 :: a3 :: a4 :: a5 :: a6 :: a7 :: vI x :: l) (st) σ = run 125 107 (a0 :: a1 :: a2 :: a3 :: a4 :: a5 :: a6 :: a7 :: vI x :: l) (vI x :: st) σ := (run_eq 125 105 _ _ σ).trans rfl
theorem e125_107 (ls st : List AV) (σ : St) (y x : Int) : run 125 107 (ls) (vI y :: vI x :: st) σ = run 125 108 (ls) (vI (bShl x y) :: st) σ := (run_eq 125 107 _ _ σ).trans rfl
theorem e125_108 (ls st : List AV) (σ : St) : run 125 108 (ls) (st) σ = run 125 112 (ls) (st) σ := (run_eq 125 108 _ _ σ).trans rfl
theorem e125_111 (ls st : List AV) (σ : St) : run 125 111 (ls) (st) σ = run 125 112 (ls) (vI 0 :: st) σ := (run_eq 125 111 _ _ σ).trans rfl
theorem e125_112 (ls st : List AV) (σ : St) (y x : Int) : run 125 112 (ls) (vI y :: vI x :: st) σ = run 125 113 (ls) (vI (bOr x y) :: st) σ := (run_eq 125 112 _ _ σ).trans rfl
theorem e125_113 (a0 a1 a2 a3 a4 a5 : AV) (l st : List AV) (σ : St) (q : AV) (x : Int) : run 125 113 (a0 :: a1 :: a2 :: a3 :: a4 :: a5 :: q :: l) (vI x :: st) σ = run 125 115 (a0 :: a1 :: a2 :: a3 :: a4 :: a5 :: vI x :: l) (st) σ := (run_eq 125 113 _ _ σ).trans rfl
theorem e125_115 (a0 a1 a2 a3 a4 a5 a6 : AV) (l st : List AV) (σ : St) (x : Int) : run 125 115 (a0 :: a1 :: a2 :: a3 :: a4 :: a5 :: a6 :: vI x :: l) (st) σ = run 125 118 (a0 :: a1 :: a2 :: a3 :: a4 :: a5 :: a6 :: vI (wr (x + 1)) :: l) (st) σ := (run_eq 125 115 _ _ σ).trans rfl
theorem e125_118 (a0 a1 a2 a3 a4 a5 a6 a7 : AV) (l st : List AV) (σ : St) (x : Int) : run 125 118 (a0 :: a1 :: a2 :: a3 :: a4 :: a5 :: a6 :: a7 :: vI x :: l) (st) σ = run 125 121 (a0 :: a1 :: a2 :: a3 :: a4 :: a5 :: a6 :: a7 :: vI (wr (x + 1)) :: l) (st) σ := (run_eq 125 118 _ _ σ).trans rfl
theorem e125_121 (ls st : List AV) (σ : St) : run 125 121 (ls) (st) σ = run 125 73 (ls) (st) σ := (run_eq 125 121 _ _ σ).trans rfl
theorem e125_124 (a0 a1 a2 a3 : AV) (l st : List AV) (σ : St) (x : Int) : run 125 124 (a0 :: a1 :: a2 :: a3 :: vI x :: l) (st) σ = run 125 126 (a0 :: a1 :: a2 :: a3 :: vI x :: l) (vI x :: st) σ := (run_eq 125 124 _ _ σ).trans rfl
theorem e125_126 (ls st : List AV) (σ : St) (x : Int) : run 125 126 (ls) (vI x :: st) σ = if x < 0 then run 125 142 (ls) (st) σ else run 125 129 (ls) (st) σ := (run_eq 125 126 _ _ σ).trans rfl
theorem e125_129 (a0 a1 a2 a3 a4 a5 : AV) (l st : List AV) (σ : St) (x : Int) : run 125 129 (a0 :: a1 :: a2 :: a3 :: a4 :: a5 :: vI x :: l) (st) σ = run 125 131 (a0 :: a1 :: a2 :: a3 :: a4 :: a5 :: vI x :: l) (vI x :: st) σ := (run_eq 125 129 _ _ σ).trans rfl
theorem e125_131 (ls st : List AV) (σ : St) (x0 : Int) (h4 : st.length ≤ 4) : run 125 131 ls (vI x0 :: st) σ = bnd (run 99 0 [vI x0, vU, vU] [] σ) (fun r σ => run 125 134 ls (psh r st) σ) := (run_eq 125 131 _ _ σ).trans (if_pos ⟨rfl, by simp, by simpa using h4⟩)
theorem e125_134 (a0 a1 a2 a3 : AV) (l st : List AV) (σ : St) (x : Int) : run 125 134 (a0 :: a1 :: a2 :: a3 :: vI x :: l) (st) σ = run 125 136 (a0 :: a1 :: a2 :: a3 :: vI x :: l) (vI x :: st) σ := (run_eq 125 134 _ _ σ).trans rfl
theorem e125_136 (ls st : List AV) (σ : St) (x0 : Int) (h4 : st.length ≤ 4) : run 125 136 ls (vI x0 :: st) σ = bnd (run 99 0 [vI x0, vU, vU] [] σ) (fun r σ => run 125 139 ls (psh r st) σ) := (run_eq 125 136 _ _ σ).trans (if_pos ⟨rfl, by simp, by simpa using h4⟩)
theorem e125_139 (ls st : List AV) (σ : St) (y x : Int) : run 125 139 (ls) (vI y :: vI x :: st) σ = if x < y then run 125 142 (ls) (st) σ else run 125 180 (ls) (st) σ := (run_eq 125 139 _ _ σ).trans rfl
theorem e125_142 (l st : List AV) (σ : St) (x : Nat) : run 125 142 (vR x :: l) (st) σ = run 125 143 (vR x :: l) (vR x :: st) σ := (run_eq 125 142 _ _ σ).trans rfl
theorem e125_143 (ls st : List AV) (σ : St) (x0 : Nat) (h4 : st.length ≤ 4) (h : fok σ x0 3) : run 125 143 ls (vR x0 :: st) σ = bnd (run 107 0 [vR x0, vU] [] σ) (fun r σ => run 125 146 ls (psh r st) σ) := (run_eq 125 143 _ _ σ).trans (if_pos ⟨rfl, by simp, by simpa using h4, rfl, h⟩)
theorem e125_146 (l st : List AV) (σ : St) (x : Nat) : run 125 146 (vR x :: l) (st) σ = run 125 147 (vR x :: l) (vR x :: st) σ := (run_eq 125 146 _ _ σ).trans rfl
theorem e125_147 (l st : List AV) (σ : St) (x : Nat) : run 125 147 (vR x :: l) (st) σ = run 125 148 (vR x :: l) (vR x :: st) σ := (run_eq 125 147 _ _ σ).trans rfl
theorem e125_148 (ls st : List AV) (σ : St) (x : Nat) (h : fok σ x 3) : run 125 148 (ls) (vR x :: st) σ = run 125 151 (ls) (vI (gt σ x 3) :: st) σ := (run_eq 125 148 _ _ σ).trans (if_pos h)
theorem e125_151 (a0 a1 a2 a3 a4 a5 : AV) (l st : List AV) (σ : St) (x : Int) : run 125 151 (a0 :: a1 :: a2 :: a3 :: a4 :: a5 :: vI x :: l) (st) σ = run 125 153 (a0 :: a1 :: a2 :: a3 :: a4 :: a5 :: vI x :: l) (vI x :: st) σ := (run_eq 125 151 _ _ σ).trans rfl
theorem e125_153 (ls st : List AV) (σ : St) : run 125 153 (ls) (st) σ = run 125 154 (ls) (vI (-1) :: st) σ := (run_eq 125 153 _ _ σ).trans rfl
theorem e125_154 (ls st : List AV) (σ : St) (y x : Int) : run 125 154 (ls) (vI y :: vI x :: st) σ = run 125 155 (ls) (vI (bXor x y) :: st) σ := (run_eq 125 154 _ _ σ).trans rfl
theorem e125_155 (ls st : List AV) (σ : St) (y x : Int) : run 125 155 (ls) (vI y :: vI x :: st) σ = run 125 156 (ls) (vI (bAnd x y) :: st) σ := (run_eq 125 155 _ _ σ).trans rfl
theorem e125_156 (ls st : List AV) (σ : St) (z : Int) (x : Nat) (h : fok σ x 3) : run 125 156 (ls) (vI z :: vR x :: st) σ = run 125 159 (ls) (st) (sr σ x (ru (gt σ x) 13 z)) := (run_eq 125 156 _ _ σ).trans (if_pos h)
theorem e125_159 (l st : List AV) (σ : St) (x : Nat) : run 125 159 (vR x :: l) (st) σ = run 125 160 (vR x :: l) (vR x :: st) σ := (run_eq 125 159 _ _ σ).trans rfl
theorem e125_160 (ls st : List AV) (σ : St) (x0 : Nat) (h4 : st.length ≤ 4) (h : fok σ x0 3) : run 125 160 ls (vR x0 :: st) σ = bnd (run 124 0 [vR x0, vU] [] σ) (fun r σ => run 125 163 ls (psh r st) σ) := (run_eq 125 160 _ _ σ).trans (if_pos ⟨rfl, by simp, by simpa using h4, rfl, h⟩)
theorem e125_163 (l st : List AV) (σ : St) (x : Nat) : run 125 163 (vR x :: l) (st) σ = run 125 164 (vR x :: l) (vR x :: st) σ := (run_eq 125 163 _ _ σ).trans rfl
theorem e125_164 (a0 : AV) (l st : List AV) (σ : St) (x : Int) : run 125 164 (a0 :: vI x :: l) (st) σ = run 125 165 (a0 :: vI x :: l) (vI x :: st) σ := (run_eq 125 164 _ _ σ).trans rfl
theorem e125_165 (ls st : List AV) (σ : St) (x0 : Nat) (x1 : Int) (h4 : st.length ≤ 4) (h : fok σ x0 3) : run 125 165 ls (vI x1 :: vR x0 :: st) σ = bnd (run 111 0 [vR x0, vI x1, vU, vU, vU] [] σ) (fun r σ => run 125 168 ls (psh r st) σ) := (run_eq 125 165 _ _ σ).trans (if_pos ⟨rfl, by simp, by simpa using h4, rfl, h⟩)
theorem e125_168 (ls st : List AV) (σ : St) (x : Int) : run 125 168 (ls) (vI x :: st) σ = if x = 0 then run 125 176 (ls) (st) σ else run 125 171 (ls) (st) σ := (run_eq 125 168 _ _ σ).trans rfl
theorem e125_171 (a0 a1 a2 a3 a4 a5 : AV) (l st : List AV) (σ : St) (x : Int) : run 125 171 (a0 :: a1 :: a2 :: a3 :: a4 :: a5 :: vI x :: l) (st) σ = run 125 173 (a0 :: a1 :: a2 :: a3 :: a4 :: a5 :: vI x :: l) (vI x :: st) σ := (run_eq 125 171 _ _ σ).trans rfl
theorem e125_173 (ls st : List AV) (σ : St) : run 125 173 (ls) (st) σ = run 125 178 (ls) (st) σ := (run_eq 125 173 _ _ σ).trans rfl
theorem e125_176 (a0 a1 a2 a3 : AV) (l st : List AV) (σ : St) (x : Int) : run 125 176 (a0 :: a1 :: a2 :: a3 :: vI x :: l) (st) σ = run 125 178 (a0 :: a1 :: a2 :: a3 :: vI x :: l) (vI x :: st) σ := (run_eq 125 176 _ _ σ).trans rfl
theorem e125_178 (a0 a1 a2 a3 : AV) (l st : List AV) (σ : St) (q : AV) (x : Int) : run 125 178 (a0 :: a1 :: a2 :: a3 :: q :: l) (vI x :: st) σ = run 125 180 (a0 :: a1 :: a2 :: a3 :: vI x :: l) (st) σ := (run_eq 125 178 _ _ σ).trans rfl
theorem e125_180 (a0 a1 a2 a3 a4 : AV) (l st : List AV) (σ : St) (x : Int) : run 125 180 (a0 :: a1 :: a2 :: a3 :: a4 :: vI x :: l) (st) σ = run 125 183 (a0 :: a1 :: a2 :: a3 :: a4 :: vI (wr (x + 1)) :: l) (st) σ := (run_eq 125 180 _ _ σ).trans rfl
theorem e125_183 (ls st : List AV) (σ : St) : run 125 183 (ls) (st) σ = run 125 56 (ls) (st) σ := (run_eq 125 183 _ _ σ).trans rfl
theorem e125_186 (a0 a1 a2 a3 : AV) (l st : List AV) (σ : St) (x : Int) : run 125 186 (a0 :: a1 :: a2 :: a3 :: vI x :: l) (st) σ = run 125 188 (a0 :: a1 :: a2 :: a3 :: vI x :: l) (vI x :: st) σ := (run_eq 125 186 _ _ σ).trans rfl
theorem e125_188 (ls st : List AV) (σ : St) (x : Int) : run 125 188 (ls) (vI x :: st) σ = if x < 0 then run 125 196 (ls) (st) σ else run 125 191 (ls) (st) σ := (run_eq 125 188 _ _ σ).trans rfl
theorem e125_191 (a0 a1 : AV) (l st : List AV) (σ : St) (x : Int) : run 125 191 (a0 :: a1 :: vI x :: l) (st) σ = run 125 192 (a0 :: a1 :: vI x :: l) (vI x :: st) σ := (run_eq 125 191 _ _ σ).trans rfl
theorem e125_192 (ls st : List AV) (σ : St) : run 125 192 (ls) (st) σ = run 125 193 (ls) (vI 1 :: st) σ := (run_eq 125 192 _ _ σ).trans rfl
theorem e125_193 (ls st : List AV) (σ : St) (y x : Int) : run 125 193 (ls) (vI y :: vI x :: st) σ = if x = y then run 125 196 (ls) (st) σ else run 125 201 (ls) (st) σ := (run_eq 125 193 _ _ σ).trans rfl
theorem e125_196 (a0 a1 a2 a3 : AV) (l st : List AV) (σ : St) (x : Int) : run 125 196 (a0 :: a1 :: a2 :: a3 :: vI x :: l) (st) σ = run 125 198 (a0 :: a1 :: a2 :: a3 :: vI x :: l) (vI x :: st) σ := (run_eq 125 196 _ _ σ).trans rfl
theorem e125_198 (ls st : List AV) (σ : St) : run 125 198 (ls) (st) σ = run 125 206 (ls) (st) σ := (run_eq 125 198 _ _ σ).trans rfl
theorem e125_201 (a0 a1 a2 a3 : AV) (l st : List AV) (σ : St) (x : Int) : run 125 201 (a0 :: a1 :: a2 :: a3 :: vI x :: l) (st) σ = run 125 203 (a0 :: a1 :: a2 :: a3 :: vI x :: l) (vI x :: st) σ := (run_eq 125 201 _ _ σ).trans rfl
theorem e125_203 (ls st : List AV) (σ : St) (x0 : Int) (h4 : st.length ≤ 4) : run 125 203 ls (vI x0 :: st) σ = bnd (run 99 0 [vI x0, vU, vU] [] σ) (fun r σ => run 125 206 ls (psh r st) σ) := (run_eq 125 203 _ _ σ).trans (if_pos ⟨rfl, by simp, by simpa using h4⟩)
theorem e125_206 (ls : List AV) (σ : St) (x : Int) : run 125 206 ls [vI x] σ = some (vI x, σ) := (run_eq 125 206 _ _ σ).trans rfl
/-! M_moved -/
theorem e126_0 (l st : List AV) (σ : St) (x : Nat) : run 126 0 (vR x :: l) (st) σ = run 126 1 (vR x :: l) (vR x :: st) σ := (run_eq 126 0 _ _ σ).trans rfl
theorem e126_1 (a0 : AV) (l st : List AV) (σ : St) (x : Int) : run 126 1 (a0 :: vI x :: l) (st) σ = run 126 2 (a0 :: vI x :: l) (vI x :: st) σ := (run_eq 126 1 _ _ σ).trans rfl
theorem e126_2 (ls st : List AV) (σ : St) (x0 : Nat) (x1 : Int) (h4 : st.length ≤ 4) (h : fok σ x0 3) : run 126 2 ls (vI x1 :: vR x0 :: st) σ = bnd (run 117 0 [vR x0, vI x1] [] σ) (fun r σ => run 126 5 ls (psh r st) σ) := (run_eq 126 2 _ _ σ).trans (if_pos ⟨rfl, by simp, by simpa using h4, rfl, h⟩)
theorem e126_5 (ls st : List AV) (σ : St) (x : Int) : run 126 5 (ls) (vI x :: st) σ = if x = 0 then run 126 8 (ls) (st) σ else run 126 10 (ls) (st) σ := (run_eq 126 5 _ _ σ).trans rfl
theorem e126_8 (ls st : List AV) (σ : St) : run 126 8 (ls) (st) σ = run 126 9 (ls) (vI (-1) :: st) σ := (run_eq 126 8 _ _ σ).trans rfl
theorem e126_9 (ls : List AV) (σ : St) (x : Int) : run 126 9 ls [vI x] σ = some (vI x, σ) := (run_eq 126 9 _ _ σ).trans rfl
theorem e126_10 (a0 a1 : AV) (l st : List AV) (σ : St) (x : Int) : run 126 10 (a0 :: a1 :: vI x :: l) (st) σ = run 126 11 (a0 :: a1 :: vI x :: l) (vI x :: st) σ := (run_eq 126 10 _ _ σ).trans rfl
theorem e126_11 (ls st : List AV) (σ : St) : run 126 11 (ls) (st) σ = run 126 12 (ls) (vI 0 :: st) σ := (run_eq 126 11 _ _ σ).trans rfl
theorem e126_12 (ls st : List AV) (σ : St) : run 126 12 (ls) (st) σ = run 126 13 (ls) (vI 1 :: st) σ := (run_eq 126 12 _ _ σ).trans rfl
theorem e126_13 (ls st : List AV) (σ : St) (x0 : Int) (x1 : Int) (x2 : Int) (h4 : st.length ≤ 4) : run 126 13 ls (vI x2 :: vI x1 :: vI x0 :: st) σ = bnd (run 92 0 [vI x0, vI x1, vI x2] [] σ) (fun r σ => run 126 16 ls (psh r st) σ) := (run_eq 126 13 _ _ σ).trans (if_pos ⟨rfl, by simp, by simpa using h4⟩)
theorem e126_16 (ls st : List AV) (σ : St) (x : Int) : run 126 16 (ls) (vI x :: st) σ = if x = 0 then run 126 19 (ls) (st) σ else run 126 22 (ls) (st) σ := (run_eq 126 16 _ _ σ).trans rfl
theorem e126_19 (ls st : List AV) (σ : St) : run 126 19 (ls) (st) σ = run 126 21 (ls) (vI (-2) :: st) σ := (run_eq 126 19 _ _ σ).trans rfl
theorem e126_21 (ls : List AV) (σ : St) (x : Int) : run 126 21 ls [vI x] σ = some (vI x, σ) := (run_eq 126 21 _ _ σ).trans rfl
theorem e126_22 (ls st : List AV) (σ : St) : run 126 22 (ls) (st) σ = run 126 24 (ls) (vI 1000000 :: st) σ := (run_eq 126 22 _ _ σ).trans rfl
theorem e126_24 (a0 a1 a2 : AV) (l st : List AV) (σ : St) (q : AV) (x : Int) : run 126 24 (a0 :: a1 :: a2 :: q :: l) (vI x :: st) σ = run 126 25 (a0 :: a1 :: a2 :: vI x :: l) (st) σ := (run_eq 126 24 _ _ σ).trans rfl
theorem e126_25 (ls st : List AV) (σ : St) : run 126 25 (ls) (st) σ = run 126 27 (ls) (vI (-6) :: st) σ := (run_eq 126 25 _ _ σ).trans rfl
theorem e126_27 (a0 a1 a2 a3 : AV) (l st : List AV) (σ : St) (q : AV) (x : Int) : run 126 27 (a0 :: a1 :: a2 :: a3 :: q :: l) (vI x :: st) σ = run 126 29 (a0 :: a1 :: a2 :: a3 :: vI x :: l) (st) σ := (run_eq 126 27 _ _ σ).trans rfl
theorem e126_29 (ls st : List AV) (σ : St) : run 126 29 (ls) (st) σ = run 126 31 (ls) (vI (-3) :: st) σ := (run_eq 126 29 _ _ σ).trans rfl
theorem e126_31 (a0 a1 a2 a3 a4 : AV) (l st : List AV) (σ : St) (q : AV) (x : Int) : run 126 31 (a0 :: a1 :: a2 :: a3 :: a4 :: q :: l) (vI x :: st) σ = run 126 33 (a0 :: a1 :: a2 :: a3 :: a4 :: vI x :: l) (st) σ := (run_eq 126 31 _ _ σ).trans rfl
theorem e126_33 (a0 a1 a2 a3 a4 : AV) (l st : List AV) (σ : St) (x : Int) : run 126 33 (a0 :: a1 :: a2 :: a3 :: a4 :: vI x :: l) (st) σ = run 126 35 (a0 :: a1 :: a2 :: a3 :: a4 :: vI x :: l) (vI x :: st) σ := (run_eq 126 33 _ _ σ).trans rfl
theorem e126_35 (ls st : List AV) (σ : St) : run 126 35 (ls) (st) σ = run 126 36 (ls) (vI 4 :: st) σ := (run_eq 126 35 _ _ σ).trans rfl
theorem e126_36 (ls st : List AV) (σ : St) (y x : Int) : run 126 36 (ls) (vI y :: vI x :: st) σ = if x < y then run 126 39 (ls) (st) σ else run 126 111 (ls) (st) σ := (run_eq 126 36 _ _ σ).trans rfl
theorem e126_39 (ls st : List AV) (σ : St) : run 126 39 (ls) (st) σ = run 126 41 (ls) (vI (-5) :: st) σ := (run_eq 126 39 _ _ σ).trans rfl
theorem e126_41 (a0 a1 a2 a3 a4 a5 : AV) (l st : List AV) (σ : St) (q : AV) (x : Int) : run 126 41 (a0 :: a1 :: a2 :: a3 :: a4 :: a5 :: q :: l) (vI x :: st) σ = run 126 43 (a0 :: a1 :: a2 :: a3 :: a4 :: a5 :: vI x :: l) (st) σ := (run_eq 126 41 _ _ σ).trans rfl
theorem e126_43 (a0 a1 a2 a3 a4 a5 : AV) (l st : List AV) (σ : St) (x : Int) : run 126 43 (a0 :: a1 :: a2 :: a3 :: a4 :: a5 :: vI x :: l) (st) σ = run 126 45 (a0 :: a1 :: a2 :: a3 :: a4 :: a5 :: vI x :: l) (vI x :: st) σ := (run_eq 126 43 _ _ σ).trans rfl
theorem e126_45 (ls st : List AV) (σ : St) : run 126 45 (ls) (st) σ = run 126 47 (ls) (vI 6 :: st) σ := (run_eq 126 45 _ _ σ).trans rfl
theorem e126_47 (ls st : List AV) (σ : St) (y x : Int) : run 126 47 (ls) (vI y :: vI x :: st) σ = if x < y then run 126 50 (ls) (st) σ else run 126 105 (ls) (st) σ := (run_eq 126 47 _ _ σ).trans rfl
theorem e126_50 (l st : List AV) (σ : St) (x : Nat) : run 126 50 (vR x :: l) (st) σ = run 126 51 (vR x :: l) (vR x :: st) σ := (run_eq 126 50 _ _ σ).trans rfl
theorem e126_51 (a0 : AV) (l st : List AV) (σ : St) (x : Int) : run 126 51 (a0 :: vI x :: l) (st) σ = run 126 52 (a0 :: vI x :: l) (vI x :: st) σ := (run_eq 126 51 _ _ σ).trans rfl
theorem e126_52 (a0 a1 a2 a3 a4 : AV) (l st : List AV) (σ : St) (x : Int) : run 126 52 (a0 :: a1 :: a2 :: a3 :: a4 :: vI x :: l) (st) σ = run 126 54 (a0 :: a1 :: a2 :: a3 :: a4 :: vI x :: l) (vI x :: st) σ := (run_eq 126 52 _ _ σ).trans rfl
theorem e126_54 (a0 a1 a2 a3 a4 a5 : AV) (l st : List AV) (σ : St) (x : Int) : run 126 54 (a0 :: a1 :: a2 :: a3 :: a4 :: a5 :: vI x :: l) (st) σ = run 126 56 (a0 :: a1 :: a2 :: a3 :: a4 :: a5 :: vI x :: l) (vI x :: st) σ := (run_eq 126 54 _ _ σ).trans rfl
theorem e126_56 (ls st : List AV) (σ : St) (x0 : Nat) (x1 : Int) (x2 : Int) (x3 : Int) (h4 : st.length ≤ 4) (h : fok σ x0 3) : run 126 56 ls (vI x3 :: vI x2 :: vI x1 :: vR x0 :: st) σ = bnd (run 121 0 [vR x0, vI x1, vI x2, vI x3, vU, vU, vU, vU, vU, vU] [] σ) (fun r σ => run 126 59 ls (psh r st) σ) := (run_eq 126 56 _ _ σ).trans (if_pos ⟨rfl, by simp, by simpa using h4, rfl, h⟩)
theorem e126_59 (a0 a1 a2 a3 a4 a5 a6 : AV) (l st : List AV) (σ : St) (q : AV) (x : Int) : run 126 59 (a0 :: a1 :: a2 :: a3 :: a4 :: a5 :: a6 :: q :: l) (vI x :: st) σ = run 126 61 (a0 :: a1 :: a2 :: a3 :: a4 :: a5 :: a6 :: vI x :: l) (st) σ := (run_eq 126 59 _ _ σ).trans rfl
theorem e126_61 (a0 a1 a2 a3 a4 a5 a6 : AV) (l st : List AV) (σ : St) (x : Int) : run 126 61 (a0 :: a1 :: a2 :: a3 :: a4 :: a5 :: a6 :: vI x :: l) (st) σ = run 126 63 (a0 :: a1 :: a2 :: a3 :: a4 :: a5 :: a6 :: vI x :: l) (vI x :: st) σ := (run_eq 126 61 _ _ σ).trans rfl
theorem e126_63 (a0 a1 a2 : AV) (l st : List AV) (σ : St) (x : Int) : run 126 63 (a0 :: a1 :: a2 :: vI x :: l) (st) σ = run 126 64 (a0 :: a1 :: a2 :: vI x :: l) (vI x :: st) σ := (run_eq 126 63 _ _ σ).trans rfl
theorem e126_64 (ls st : List AV) (σ : St) (y x : Int) : run 126 64 (ls) (vI y :: vI x :: st) σ = if x < y then run 126 67 (ls) (st) σ else run 126 82 (ls) (st) σ := (run_eq 126 64 _ _ σ).trans rfl
theorem e126_67 (ls st : List AV) (σ : St) : run 126 67 (ls) (st) σ = run 126 69 (ls) (vI 100 :: st) σ := (run_eq 126 67 _ _ σ).trans rfl
theorem e126_69 (a0 a1 a2 a3 a4 : AV) (l st : List AV) (σ : St) (x : Int) : run 126 69 (a0 :: a1 :: a2 :: a3 :: a4 :: vI x :: l) (st) σ = run 126 71 (a0 :: a1 :: a2 :: a3 :: a4 :: vI x :: l) (vI x :: st) σ := (run_eq 126 69 _ _ σ).trans rfl
theorem e126_71 (ls st : List AV) (σ : St) : run 126 71 (ls) (st) σ = run 126 72 (ls) (vI 3 :: st) σ := (run_eq 126 71 _ _ σ).trans rfl
theorem e126_72 (ls st : List AV) (σ : St) (y x : Int) : run 126 72 (ls) (vI y :: vI x :: st) σ = run 126 73 (ls) (vI (wr (x + y)) :: st) σ := (run_eq 126 72 _ _ σ).trans rfl
theorem e126_73 (ls st : List AV) (σ : St) (y x : Int) : run 126 73 (ls) (vI y :: vI x :: st) σ = run 126 74 (ls) (vI (wr (x * y)) :: st) σ := (run_eq 126 73 _ _ σ).trans rfl
theorem e126_74 (a0 a1 a2 a3 a4 a5 : AV) (l st : List AV) (σ : St) (x : Int) : run 126 74 (a0 :: a1 :: a2 :: a3 :: a4 :: a5 :: vI x :: l) (st) σ = run 126 76 (a0 :: a1 :: a2 :: a3 :: a4 :: a5 :: vI x :: l) (vI x :: st) σ := (run_eq 126 74 _ _ σ).trans rfl
theorem e126_76 (ls st : List AV) (σ : St) (y x : Int) : run 126 76 (ls) (vI y :: vI x :: st) σ = run 126 77 (ls) (vI (wr (x + y)) :: st) σ := (run_eq 126 76 _ _ σ).trans rfl
theorem e126_77 (ls st : List AV) (σ : St) : run 126 77 (ls) (st) σ = run 126 78 (ls) (vI 5 :: st) σ := (run_eq 126 77 _ _ σ).trans rfl
theorem e126_78 (ls st : List AV) (σ : St) (y x : Int) : run 126 78 (ls) (vI y :: vI x :: st) σ = run 126 79 (ls) (vI (wr (x + y)) :: st) σ := (run_eq 126 78 _ _ σ).trans rfl
theorem e126_79 (ls st : List AV) (σ : St) : run 126 79 (ls) (st) σ = run 126 84 (ls) (st) σ := (run_eq 126 79 _ _ σ).trans rfl
theorem e126_82 (a0 a1 a2 a3 : AV) (l st : List AV) (σ : St) (x : Int) : run 126 82 (a0 :: a1 :: a2 :: a3 :: vI x :: l) (st) σ = run 126 84 (a0 :: a1 :: a2 :: a3 :: vI x :: l) (vI x :: st) σ := (run_eq 126 82 _ _ σ).trans rfl
theorem e126_84 (a0 a1 a2 a3 : AV) (l st : List AV) (σ : St) (q : AV) (x : Int) : run 126 84 (a0 :: a1 :: a2 :: a3 :: q :: l) (vI x :: st) σ = run 126 86 (a0 :: a1 :: a2 :: a3 :: vI x :: l) (st) σ := (run_eq 126 84 _ _ σ).trans rfl
theorem e126_86 (a0 a1 a2 a3 a4 a5 a6 : AV) (l st : List AV) (σ : St) (x : Int) : run 126 86 (a0 :: a1 :: a2 :: a3 :: a4 :: a5 :: a6 :: vI x :: l) (st) σ = run 126 88 (a0 :: a1 :: a2 :: a3 :: a4 :: a5 :: a6 :: vI x :: l) (vI x :: st) σ := (run_eq 126 86 _ _ σ).trans rfl
theorem e126_88 (a0 a1 a2 : AV) (l st : List AV) (σ : St) (x : Int) : run 126 88 (a0 :: a1 :: a2 :: vI x :: l) (st) σ = run 126 89 (a0 :: a1 :: a2 :: vI x :: l) (vI x :: st) σ := (run_eq 126 88 _ _ σ).trans rfl
theorem e126_89 (ls st : List AV) (σ : St) (y x : Int) : run 126 89 (ls) (vI y :: vI x :: st) σ = if x < y then run 126 92 (ls) (st) σ else run 126 97 (ls) (st) σ := (run_eq 126 89 _ _ σ).trans rfl
theorem e126_92 (a0 a1 a2 a3 a4 a5 a6 : AV) (l st : List AV) (σ : St) (x : Int) : run 126 92 (a0 :: a1 :: a2 :: a3 :: a4 :: a5 :: a6 :: vI x :: l) (st) σ = run 126 94 (a0 :: a1 :: a2 :: a3 :: a4 :: a5 :: a6 :: vI x :: l) (vI x :: st) σ := (run_eq 126 92 _ _ σ).trans rfl
theorem e126_94 (ls st : List AV) (σ : St) : run 126 94 (ls) (st) σ = run 126 98 (ls) (st) σ := (run_eq 126 94 _ _ σ).trans rfl
theorem e126_97 (a0 a1 a2 : AV) (l st : List AV) (σ : St) (x : Int) : run 126 97 (a0 :: a1 :: a2 :: vI x :: l) (st) σ = run 126 98 (a0 :: a1 :: a2 :: vI x :: l) (vI x :: st) σ := (run_eq 126 97 _ _ σ).trans rfl
theorem e126_98 (a0 a1 a2 : AV) (l st : List AV) (σ : St) (q : AV) (x : Int) : run 126 98 (a0 :: a1 :: a2 :: q :: l) (vI x :: st) σ = run 126 99 (a0 :: a1 :: a2 :: vI x :: l) (st) σ := (run_eq 126 98 _ _ σ).trans rfl
theorem e126_99 (a0 a1 a2 a3 a4 a5 : AV) (l st : List AV) (σ : St) (x : Int) : run 126 99 (a0 :: a1 :: a2 :: a3 :: a4 :: a5 :: vI x :: l) (st) σ = run 126 102 (a0 :: a1 :: a2 :: a3 :: a4 :: a5 :: vI (wr (x + 1)) :: l) (st) σ := (run_eq 126 99 _ _ σ).trans rfl
theorem e126_102 (ls st : List AV) (σ : St) : run 126 102 (ls) (st) σ = run 126 43 (ls) (st) σ := (run_eq 126 102 _ _ σ).trans rfl
theorem e126_105 (a0 a1 a2 a3 a4 : AV) (l st : List AV) (σ : St) (x : Int) : run 126 105 (a0 :: a1 :: a2 :: a3 :: a4 :: vI x :: l) (st) σ = run 126 108 (a0 :: a1 :: a2 :: a3 :: a4 :: vI (wr (x + 1)) :: l) (st) σ := (run_eq 126 105 _ _ σ).trans rfl
theorem e126_108 (ls st : List AV) (σ : St) : run 126 108 (ls) (st) σ = run 126 33 (ls) (st) σ := (run_eq 126 108 _ _ σ).trans rfl
theorem e126_111 (a0 a1 : AV) (l st : List AV) (σ : St) (x : Int) : run 126 111 (a0 :: a1 :: vI x :: l) (st) σ = run 126 112 (a0 :: a1 :: vI x :: l) (vI x :: st) σ := (run_eq 126 111 _ _ σ).trans rfl
theorem e126_112 (ls st : List AV) (σ : St) (x : Int) : run 126 112 (ls) (vI x :: st) σ = if x = 0 then run 126 115 (ls) (st) σ else run 126 119 (ls) (st) σ := (run_eq 126 112 _ _ σ).trans rfl
theorem e126_115 (a0 a1 a2 : AV) (l st : List AV) (σ : St) (x : Int) : run 126 115 (a0 :: a1 :: a2 :: vI x :: l) (st) σ = run 126 116 (a0 :: a1 :: a2 :: vI x :: l) (vI x :: st) σ := (run_eq 126 115 _ _ σ).trans rfl
theorem e126_116 (ls st : List AV) (σ : St) : run 126 116 (ls) (st) σ = run 126 121 (ls) (st) σ := (run_eq 126 116 _ _ σ).trans rfl
theorem e126_119 (a0 a1 a2 a3 : AV) (l st : List AV) (σ : St) (x : Int) : run 126 119 (a0 :: a1 :: a2 :: a3 :: vI x :: l) (st) σ = run 126 121 (a0 :: a1 :: a2 :: a3 :: vI x :: l) (vI x :: st) σ := (run_eq 126 119 _ _ σ).trans rfl
theorem e126_121 (ls : List AV) (σ : St) (x : Int) : run 126 121 ls [vI x] σ = some (vI x, σ) := (run_eq 126 121 _ _ σ).trans rfl
/-! M_apart -/
theorem e127_0 (ls st : List AV) (σ : St) : run 127 0 (ls) (st) σ = run 127 1 (ls) (vI 0 :: st) σ := (run_eq 127 0 _ _ σ).trans rfl
theorem e127_1 (a0 a1 : AV) (l st : List AV) (σ : St) (q : AV) (x : Int) : run 127 1 (a0 :: a1 :: q :: l) (vI x :: st) σ = run 127 2 (a0 :: a1 :: vI x :: l) (st) σ := (run_eq 127 1 _ _ σ).trans rfl
theorem e127_2 (ls st : List AV) (σ : St) : run 127 2 (ls) (st) σ = run 127 3 (ls) (vI 0 :: st) σ := (run_eq 127 2 _ _ σ).trans rfl
theorem e127_3 (a0 a1 a2 : AV) (l st : List AV) (σ : St) (q : AV) (x : Int) : run 127 3 (a0 :: a1 :: a2 :: q :: l) (vI x :: st) σ = run 127 4 (a0 :: a1 :: a2 :: vI x :: l) (st) σ := (run_eq 127 3 _ _ σ).trans rfl
theorem e127_4 (a0 a1 a2 : AV) (l st : List AV) (σ : St) (x : Int) : run 127 4 (a0 :: a1 :: a2 :: vI x :: l) (st) σ = run 127 5 (a0 :: a1 :: a2 :: vI x :: l) (vI x :: st) σ := (run_eq 127 4 _ _ σ).trans rfl
theorem e127_5 (ls st : List AV) (σ : St) : run 127 5 (ls) (st) σ = run 127 6 (ls) (vI 4 :: st) σ := (run_eq 127 5 _ _ σ).trans rfl
theorem e127_6 (ls st : List AV) (σ : St) (y x : Int) : run 127 6 (ls) (vI y :: vI x :: st) σ = if x < y then run 127 9 (ls) (st) σ else run 127 58 (ls) (st) σ := (run_eq 127 6 _ _ σ).trans rfl
theorem e127_9 (a0 a1 a2 : AV) (l st : List AV) (σ : St) (x : Int) : run 127 9 (a0 :: a1 :: a2 :: vI x :: l) (st) σ = run 127 10 (a0 :: a1 :: a2 :: vI x :: l) (vI x :: st) σ := (run_eq 127 9 _ _ σ).trans rfl
theorem e127_10 (ls st : List AV) (σ : St) : run 127 10 (ls) (st) σ = run 127 11 (ls) (vI 1 :: st) σ := (run_eq 127 10 _ _ σ).trans rfl
theorem e127_11 (ls st : List AV) (σ : St) (y x : Int) : run 127 11 (ls) (vI y :: vI x :: st) σ = run 127 12 (ls) (vI (wr (x + y)) :: st) σ := (run_eq 127 11 _ _ σ).trans rfl
theorem e127_12 (a0 a1 a2 a3 : AV) (l st : List AV) (σ : St) (q : AV) (x : Int) : run 127 12 (a0 :: a1 :: a2 :: a3 :: q :: l) (vI x :: st) σ = run 127 14 (a0 :: a1 :: a2 :: a3 :: vI x :: l) (st) σ := (run_eq 127 12 _ _ σ).trans rfl
theorem e127_14 (a0 a1 a2 a3 : AV) (l st : List AV) (σ : St) (x : Int) : run 127 14 (a0 :: a1 :: a2 :: a3 :: vI x :: l) (st) σ = run 127 16 (a0 :: a1 :: a2 :: a3 :: vI x :: l) (vI x :: st) σ := (run_eq 127 14 _ _ σ).trans rfl
theorem e127_16 (ls st : List AV) (σ : St) : run 127 16 (ls) (st) σ = run 127 17 (ls) (vI 4 :: st) σ := (run_eq 127 16 _ _ σ).trans rfl
theorem e127_17 (ls st : List AV) (σ : St) (y x : Int) : run 127 17 (ls) (vI y :: vI x :: st) σ = if x < y then run 127 20 (ls) (st) σ else run 127 52 (ls) (st) σ := (run_eq 127 17 _ _ σ).trans rfl
theorem e127_20 (l st : List AV) (σ : St) (x : Nat) : run 127 20 (vR x :: l) (st) σ = run 127 21 (vR x :: l) (vR x :: st) σ := (run_eq 127 20 _ _ σ).trans rfl
theorem e127_21 (a0 a1 a2 : AV) (l st : List AV) (σ : St) (x : Int) : run 127 21 (a0 :: a1 :: a2 :: vI x :: l) (st) σ = run 127 22 (a0 :: a1 :: a2 :: vI x :: l) (vI x :: st) σ := (run_eq 127 21 _ _ σ).trans rfl
theorem e127_22 (a0 a1 a2 a3 : AV) (l st : List AV) (σ : St) (x : Int) : run 127 22 (a0 :: a1 :: a2 :: a3 :: vI x :: l) (st) σ = run 127 24 (a0 :: a1 :: a2 :: a3 :: vI x :: l) (vI x :: st) σ := (run_eq 127 22 _ _ σ).trans rfl
theorem e127_24 (ls st : List AV) (σ : St) (x0 : Nat) (x1 : Int) (x2 : Int) (h4 : st.length ≤ 4) (h : fok σ x0 3) : run 127 24 ls (vI x2 :: vI x1 :: vR x0 :: st) σ = bnd (run 128 0 [vR x0, vI x1, vI x2, vU, vU, vU, vU] [] σ) (fun r σ => run 127 27 ls (psh r st) σ) := (run_eq 127 24 _ _ σ).trans (if_pos ⟨rfl, by simp, by simpa using h4, rfl, h⟩)
theorem e127_27 (ls st : List AV) (σ : St) (x : Int) : run 127 27 (ls) (vI x :: st) σ = if x = 0 then run 127 46 (ls) (st) σ else run 127 30 (ls) (st) σ := (run_eq 127 27 _ _ σ).trans rfl
theorem e127_30 (a0 a1 : AV) (l st : List AV) (σ : St) (x : Int) : run 127 30 (a0 :: a1 :: vI x :: l) (st) σ = run 127 31 (a0 :: a1 :: vI x :: l) (vI x :: st) σ := (run_eq 127 30 _ _ σ).trans rfl
theorem e127_31 (a0 : AV) (l st : List AV) (σ : St) (x : Int) : run 127 31 (a0 :: vI x :: l) (st) σ = run 127 32 (a0 :: vI x :: l) (vI x :: st) σ := (run_eq 127 31 _ _ σ).trans rfl
theorem e127_32 (ls st : List AV) (σ : St) (y x : Int) : run 127 32 (ls) (vI y :: vI x :: st) σ = if x = y then run 127 35 (ls) (st) σ else run 127 43 (ls) (st) σ := (run_eq 127 32 _ _ σ).trans rfl
theorem e127_35 (ls st : List AV) (σ : St) : run 127 35 (ls) (st) σ = run 127 37 (ls) (vI 10 :: st) σ := (run_eq 127 35 _ _ σ).trans rfl
theorem e127_37 (a0 a1 a2 : AV) (l st : List AV) (σ : St) (x : Int) : run 127 37 (a0 :: a1 :: a2 :: vI x :: l) (st) σ = run 127 38 (a0 :: a1 :: a2 :: vI x :: l) (vI x :: st) σ := (run_eq 127 37 _ _ σ).trans rfl
theorem e127_38 (ls st : List AV) (σ : St) (y x : Int) : run 127 38 (ls) (vI y :: vI x :: st) σ = run 127 39 (ls) (vI (wr (x * y)) :: st) σ := (run_eq 127 38 _ _ σ).trans rfl
theorem e127_39 (a0 a1 a2 a3 : AV) (l st : List AV) (σ : St) (x : Int) : run 127 39 (a0 :: a1 :: a2 :: a3 :: vI x :: l) (st) σ = run 127 41 (a0 :: a1 :: a2 :: a3 :: vI x :: l) (vI x :: st) σ := (run_eq 127 39 _ _ σ).trans rfl
theorem e127_41 (ls st : List AV) (σ : St) (y x : Int) : run 127 41 (ls) (vI y :: vI x :: st) σ = run 127 42 (ls) (vI (wr (x + y)) :: st) σ := (run_eq 127 41 _ _ σ).trans rfl
theorem e127_42 (ls : List AV) (σ : St) (x : Int) : run 127 42 ls [vI x] σ = some (vI x, σ) := (run_eq 127 42 _ _ σ).trans rfl
theorem e127_43 (a0 a1 : AV) (l st : List AV) (σ : St) (x : Int) : run 127 43 (a0 :: a1 :: vI x :: l) (st) σ = run 127 46 (a0 :: a1 :: vI (wr (x + 1)) :: l) (st) σ := (run_eq 127 43 _ _ σ).trans rfl
theorem e127_46 (a0 a1 a2 a3 : AV) (l st : List AV) (σ : St) (x : Int) : run 127 46 (a0 :: a1 :: a2 :: a3 :: vI x :: l) (st) σ = run 127 49 (a0 :: a1 :: a2 :: a3 :: vI (wr (x + 1)) :: l) (st) σ := (run_eq 127 46 _ _ σ).trans rfl
theorem e127_49 (ls st : List AV) (σ : St) : run 127 49 (ls) (st) σ = run 127 14 (ls) (st) σ := (run_eq 127 49 _ _ σ).trans rfl
theorem e127_52 (a0 a1 a2 : AV) (l st : List AV) (σ : St) (x : Int) : run 127 52 (a0 :: a1 :: a2 :: vI x :: l) (st) σ = run 127 55 (a0 :: a1 :: a2 :: vI (wr (x + 1)) :: l) (st) σ := (run_eq 127 52 _ _ σ).trans rfl
theorem e127_55 (ls st : List AV) (σ : St) : run 127 55 (ls) (st) σ = run 127 4 (ls) (st) σ := (run_eq 127 55 _ _ σ).trans rfl
theorem e127_58 (a0 : AV) (l st : List AV) (σ : St) (x : Int) : run 127 58 (a0 :: vI x :: l) (st) σ = run 127 59 (a0 :: vI x :: l) (vI x :: st) σ := (run_eq 127 58 _ _ σ).trans rfl
theorem e127_59 (ls st : List AV) (σ : St) : run 127 59 (ls) (st) σ = run 127 60 (ls) (vI (-1) :: st) σ := (run_eq 127 59 _ _ σ).trans rfl
theorem e127_60 (ls st : List AV) (σ : St) (y x : Int) : run 127 60 (ls) (vI y :: vI x :: st) σ = if x = y then run 127 63 (ls) (st) σ else run 127 67 (ls) (st) σ := (run_eq 127 60 _ _ σ).trans rfl
theorem e127_63 (a0 a1 : AV) (l st : List AV) (σ : St) (x : Int) : run 127 63 (a0 :: a1 :: vI x :: l) (st) σ = run 127 64 (a0 :: a1 :: vI x :: l) (vI x :: st) σ := (run_eq 127 63 _ _ σ).trans rfl
theorem e127_64 (ls st : List AV) (σ : St) : run 127 64 (ls) (st) σ = run 127 69 (ls) (st) σ := (run_eq 127 64 _ _ σ).trans rfl
theorem e127_67 (ls st : List AV) (σ : St) : run 127 67 (ls) (st) σ = run 127 69 (ls) (vI (-6) :: st) σ := (run_eq 127 67 _ _ σ).trans rfl
theorem e127_69 (ls : List AV) (σ : St) (x : Int) : run 127 69 ls [vI x] σ = some (vI x, σ) := (run_eq 127 69 _ _ σ).trans rfl
/-! M_areApart -/
theorem e128_0 (ls st : List AV) (σ : St) : run 128 0 (ls) (st) σ = run 128 1 (ls) (vI 0 :: st) σ := (run_eq 128 0 _ _ σ).trans rfl
theorem e128_1 (a0 a1 a2 : AV) (l st : List AV) (σ : St) (q : AV) (x : Int) : run 128 1 (a0 :: a1 :: a2 :: q :: l) (vI x :: st) σ = run 128 2 (a0 :: a1 :: a2 :: vI x :: l) (st) σ := (run_eq 128 1 _ _ σ).trans rfl
theorem e128_2 (ls st : List AV) (σ : St) : run 128 2 (ls) (st) σ = run 128 3 (ls) (vI 0 :: st) σ := (run_eq 128 2 _ _ σ).trans rfl
theorem e128_3 (a0 a1 a2 a3 : AV) (l st : List AV) (σ : St) (q : AV) (x : Int) : run 128 3 (a0 :: a1 :: a2 :: a3 :: q :: l) (vI x :: st) σ = run 128 5 (a0 :: a1 :: a2 :: a3 :: vI x :: l) (st) σ := (run_eq 128 3 _ _ σ).trans rfl
theorem e128_5 (a0 a1 a2 a3 : AV) (l st : List AV) (σ : St) (x : Int) : run 128 5 (a0 :: a1 :: a2 :: a3 :: vI x :: l) (st) σ = run 128 7 (a0 :: a1 :: a2 :: a3 :: vI x :: l) (vI x :: st) σ := (run_eq 128 5 _ _ σ).trans rfl
theorem e128_7 (ls st : List AV) (σ : St) : run 128 7 (ls) (st) σ = run 128 9 (ls) (vI 24 :: st) σ := (run_eq 128 7 _ _ σ).trans rfl
theorem e128_9 (ls st : List AV) (σ : St) (y x : Int) : run 128 9 (ls) (vI y :: vI x :: st) σ = if x < y then run 128 12 (ls) (st) σ else run 128 94 (ls) (st) σ := (run_eq 128 9 _ _ σ).trans rfl
theorem e128_12 (l st : List AV) (σ : St) (x : Nat) : run 128 12 (vR x :: l) (st) σ = run 128 13 (vR x :: l) (vR x :: st) σ := (run_eq 128 12 _ _ σ).trans rfl
theorem e128_13 (ls st : List AV) (σ : St) (x : Nat) (h : fok σ x 3) : run 128 13 (ls) (vR x :: st) σ = run 128 16 (ls) (vR (gr σ x 6) :: st) σ := (run_eq 128 13 _ _ σ).trans (if_pos h)
theorem e128_16 (ls st : List AV) (σ : St) : run 128 16 (ls) (st) σ = run 128 18 (ls) (vI 24 :: st) σ := (run_eq 128 16 _ _ σ).trans rfl
theorem e128_18 (a0 : AV) (l st : List AV) (σ : St) (x : Int) : run 128 18 (a0 :: vI x :: l) (st) σ = run 128 19 (a0 :: vI x :: l) (vI x :: st) σ := (run_eq 128 18 _ _ σ).trans rfl
theorem e128_19 (ls st : List AV) (σ : St) (y x : Int) : run 128 19 (ls) (vI y :: vI x :: st) σ = run 128 20 (ls) (vI (wr (x * y)) :: st) σ := (run_eq 128 19 _ _ σ).trans rfl
theorem e128_20 (a0 a1 a2 a3 : AV) (l st : List AV) (σ : St) (x : Int) : run 128 20 (a0 :: a1 :: a2 :: a3 :: vI x :: l) (st) σ = run 128 22 (a0 :: a1 :: a2 :: a3 :: vI x :: l) (vI x :: st) σ := (run_eq 128 20 _ _ σ).trans rfl
theorem e128_22 (ls st : List AV) (σ : St) (y x : Int) : run 128 22 (ls) (vI y :: vI x :: st) σ = run 128 23 (ls) (vI (wr (x + y)) :: st) σ := (run_eq 128 22 _ _ σ).trans rfl
theorem e128_23 (ls st : List AV) (σ : St) (j : Int) (x : Nat) (h : aok σ x 4 j) : run 128 23 (ls) (vI j :: vR x :: st) σ = run 128 24 (ls) (vI (gt σ x j.toNat) :: st) σ := (run_eq 128 23 _ _ σ).trans (if_pos h)
theorem e128_24 (a0 a1 a2 a3 a4 : AV) (l st : List AV) (σ : St) (q : AV) (x : Int) : run 128 24 (a0 :: a1 :: a2 :: a3 :: a4 :: q :: l) (vI x :: st) σ = run 128 26 (a0 :: a1 :: a2 :: a3 :: a4 :: vI x :: l) (st) σ := (run_eq 128 24 _ _ σ).trans rfl
theorem e128_26 (l st : List AV) (σ : St) (x : Nat) : run 128 26 (vR x :: l) (st) σ = run 128 27 (vR x :: l) (vR x :: st) σ := (run_eq 128 26 _ _ σ).trans rfl
theorem e128_27 (ls st : List AV) (σ : St) (x : Nat) (h : fok σ x 3) : run 128 27 (ls) (vR x :: st) σ = run 128 30 (ls) (vR (gr σ x 6) :: st) σ := (run_eq 128 27 _ _ σ).trans (if_pos h)
theorem e128_30 (ls st : List AV) (σ : St) : run 128 30 (ls) (st) σ = run 128 32 (ls) (vI 24 :: st) σ := (run_eq 128 30 _ _ σ).trans rfl
theorem e128_32 (a0 a1 : AV) (l st : List AV) (σ : St) (x : Int) : run 128 32 (a0 :: a1 :: vI x :: l) (st) σ = run 128 33 (a0 :: a1 :: vI x :: l) (vI x :: st) σ := (run_eq 128 32 _ _ σ).trans rfl
theorem e128_33 (ls st : List AV) (σ : St) (y x : Int) : run 128 33 (ls) (vI y :: vI x :: st) σ = run 128 34 (ls) (vI (wr (x * y)) :: st) σ := (run_eq 128 33 _ _ σ).trans rfl
theorem e128_34 (a0 a1 a2 a3 : AV) (l st : List AV) (σ : St) (x : Int) : run 128 34 (a0 :: a1 :: a2 :: a3 :: vI x :: l) (st) σ = run 128 36 (a0 :: a1 :: a2 :: a3 :: vI x :: l) (vI x :: st) σ := (run_eq 128 34 _ _ σ).trans rfl
theorem e128_36 (ls st : List AV) (σ : St) (y x : Int) : run 128 36 (ls) (vI y :: vI x :: st) σ = run 128 37 (ls) (vI (wr (x + y)) :: st) σ := (run_eq 128 36 _ _ σ).trans rfl
theorem e128_37 (ls st : List AV) (σ : St) (j : Int) (x : Nat) (h : aok σ x 4 j) : run 128 37 (ls) (vI j :: vR x :: st) σ = run 128 38 (ls) (vI (gt σ x j.toNat) :: st) σ := (run_eq 128 37 _ _ σ).trans (if_pos h)
theorem e128_38 (a0 a1 a2 a3 a4 a5 : AV) (l st : List AV) (σ : St) (q : AV) (x : Int) : run 128 38 (a0 :: a1 :: a2 :: a3 :: a4 :: a5 :: q :: l) (vI x :: st) σ = run 128 40 (a0 :: a1 :: a2 :: a3 :: a4 :: a5 :: vI x :: l) (st) σ := (run_eq 128 38 _ _ σ).trans rfl
theorem e128_40 (a0 a1 a2 : AV) (l st : List AV) (σ : St) (x : Int) : run 128 40 (a0 :: a1 :: a2 :: vI x :: l) (st) σ = run 128 41 (a0 :: a1 :: a2 :: vI x :: l) (vI x :: st) σ := (run_eq 128 40 _ _ σ).trans rfl
theorem e128_41 (ls st : List AV) (σ : St) (x : Int) : run 128 41 (ls) (vI x :: st) σ = if x = 0 then run 128 44 (ls) (st) σ else run 128 82 (ls) (st) σ := (run_eq 128 41 _ _ σ).trans rfl
theorem e128_44 (a0 a1 a2 a3 a4 : AV) (l st : List AV) (σ : St) (x : Int) : run 128 44 (a0 :: a1 :: a2 :: a3 :: a4 :: vI x :: l) (st) σ = run 128 46 (a0 :: a1 :: a2 :: a3 :: a4 :: vI x :: l) (vI x :: st) σ := (run_eq 128 44 _ _ σ).trans rfl
theorem e128_46 (ls st : List AV) (σ : St) (x : Int) : run 128 46 (ls) (vI x :: st) σ = if x < 0 then run 128 86 (ls) (st) σ else run 128 49 (ls) (st) σ := (run_eq 128 46 _ _ σ).trans rfl
theorem e128_49 (a0 a1 a2 a3 a4 a5 : AV) (l st : List AV) (σ : St) (x : Int) : run 128 49 (a0 :: a1 :: a2 :: a3 :: a4 :: a5 :: vI x :: l) (st) σ = run 128 51 (a0 :: a1 :: a2 :: a3 :: a4 :: a5 :: vI x :: l) (vI x :: st) σ := (run_eq 128 49 _ _ σ).trans rfl
theorem e128_51 (ls st : List AV) (σ : St) (x : Int) : run 128 51 (ls) (vI x :: st) σ = if x < 0 then run 128 86 (ls) (st) σ else run 128 54 (ls) (st) σ := (run_eq 128 51 _ _ σ).trans rfl
theorem e128_54 (a0 a1 a2 a3 a4 : AV) (l st : List AV) (σ : St) (x : Int) : run 128 54 (a0 :: a1 :: a2 :: a3 :: a4 :: vI x :: l) (st) σ = run 128 56 (a0 :: a1 :: a2 :: a3 :: a4 :: vI x :: l) (vI x :: st) σ := (run_eq 128 54 _ _ σ).trans rfl
theorem e128_56 (a0 a1 a2 a3 a4 a5 : AV) (l st : List AV) (σ : St) (x : Int) : run 128 56 (a0 :: a1 :: a2 :: a3 :: a4 :: a5 :: vI x :: l) (st) σ = run 128 58 (a0 :: a1 :: a2 :: a3 :: a4 :: a5 :: vI x :: l) (vI x :: st) σ := (run_eq 128 56 _ _ σ).trans rfl
theorem e128_58 (ls st : List AV) (σ : St) (y x : Int) : run 128 58 (ls) (vI y :: vI x :: st) σ = run 128 59 (ls) (vI (wr (x - y)) :: st) σ := (run_eq 128 58 _ _ σ).trans rfl
theorem e128_59 (ls st : List AV) (σ : St) : run 128 59 (ls) (st) σ = run 128 60 (ls) (vI 2 :: st) σ := (run_eq 128 59 _ _ σ).trans rfl
theorem e128_60 (l st : List AV) (σ : St) (x : Nat) : run 128 60 (vR x :: l) (st) σ = run 128 61 (vR x :: l) (vR x :: st) σ := (run_eq 128 60 _ _ σ).trans rfl
theorem e128_61 (ls st : List AV) (σ : St) (x : Nat) (h : fok σ x 3) : run 128 61 (ls) (vR x :: st) σ = run 128 64 (ls) (vI (gt σ x 5) :: st) σ := (run_eq 128 61 _ _ σ).trans (if_pos h)
theorem e128_64 (ls st : List AV) (σ : St) (y x : Int) : run 128 64 (ls) (vI y :: vI x :: st) σ = run 128 65 (ls) (vI (wr (x * y)) :: st) σ := (run_eq 128 64 _ _ σ).trans rfl
theorem e128_65 (ls st : List AV) (σ : St) (y x : Int) : run 128 65 (ls) (vI y :: vI x :: st) σ = if y < x then run 128 82 (ls) (st) σ else run 128 68 (ls) (st) σ := (run_eq 128 65 _ _ σ).trans rfl
theorem e128_68 (a0 a1 a2 a3 a4 a5 : AV) (l st : List AV) (σ : St) (x : Int) : run 128 68 (a0 :: a1 :: a2 :: a3 :: a4 :: a5 :: vI x :: l) (st) σ = run 128 70 (a0 :: a1 :: a2 :: a3 :: a4 :: a5 :: vI x :: l) (vI x :: st) σ := (run_eq 128 68 _ _ σ).trans rfl
theorem e128_70 (a0 a1 a2 a3 a4 : AV) (l st : List AV) (σ : St) (x : Int) : run 128 70 (a0 :: a1 :: a2 :: a3 :: a4 :: vI x :: l) (st) σ = run 128 72 (a0 :: a1 :: a2 :: a3 :: a4 :: vI x :: l) (vI x :: st) σ := (run_eq 128 70 _ _ σ).trans rfl
theorem e128_72 (ls st : List AV) (σ : St) (y x : Int) : run 128 72 (ls) (vI y :: vI x :: st) σ = run 128 73 (ls) (vI (wr (x - y)) :: st) σ := (run_eq 128 72 _ _ σ).trans rfl
theorem e128_73 (ls st : List AV) (σ : St) : run 128 73 (ls) (st) σ = run 128 74 (ls) (vI 2 :: st) σ := (run_eq 128 73 _ _ σ).trans rfl
theorem e128_74 (l st : List AV) (σ : St) (x : Nat) : run 128 74 (vR x :: l) (st) σ = run 128 75 (vR x :: l) (vR x :: st) σ := (run_eq 128 74 _ _ σ).trans rfl
theorem e128_75 (ls st : List AV) (σ : St) (x : Nat) (h : fok σ x 3) : run 128 75 (ls) (vR x :: st) σ = run 128 78 (ls) (vI (gt σ x 5) :: st) σ := (run_eq 128 75 _ _ σ).trans (if_pos h)
theorem e128_78 (ls st : List AV) (σ : St) (y x : Int) : run 128 78 (ls) (vI y :: vI x :: st) σ = run 128 79 (ls) (vI (wr (x * y)) :: st) σ := (run_eq 128 78 _ _ σ).trans rfl
theorem e128_79 (ls st : List AV) (σ : St) (y x : Int) : run 128 79 (ls) (vI y :: vI x :: st) σ = if y < x then run 128 82 (ls) (st) σ else run 128 86 (ls) (st) σ := (run_eq 128 79 _ _ σ).trans rfl
theorem e128_82 (ls st : List AV) (σ : St) : run 128 82 (ls) (st) σ = run 128 83 (ls) (vI 1 :: st) σ := (run_eq 128 82 _ _ σ).trans rfl
theorem e128_83 (ls st : List AV) (σ : St) : run 128 83 (ls) (st) σ = run 128 87 (ls) (st) σ := (run_eq 128 83 _ _ σ).trans rfl
theorem e128_86 (ls st : List AV) (σ : St) : run 128 86 (ls) (st) σ = run 128 87 (ls) (vI 0 :: st) σ := (run_eq 128 86 _ _ σ).trans rfl
theorem e128_87 (a0 a1 a2 : AV) (l st : List AV) (σ : St) (q : AV) (x : Int) : run 128 87 (a0 :: a1 :: a2 :: q :: l) (vI x :: st) σ = run 128 88 (a0 :: a1 :: a2 :: vI x :: l) (st) σ := (run_eq 128 87 _ _ σ).trans rfl
theorem e128_88 (a0 a1 a2 a3 : AV) (l st : List AV) (σ : St) (x : Int) : run 128 88 (a0 :: a1 :: a2 :: a3 :: vI x :: l) (st) σ = run 128 91 (a0 :: a1 :: a2 :: a3 :: vI (wr (x + 1)) :: l) (st) σ := (run_eq 128 88 _ _ σ).trans rfl
theorem e128_91 (ls st : List AV) (σ : St) : run 128 91 (ls) (st) σ = run 128 5 (ls) (st) σ := (run_eq 128 91 _ _ σ).trans rfl
theorem e128_94 (a0 a1 a2 : AV) (l st : List AV) (σ : St) (x : Int) : run 128 94 (a0 :: a1 :: a2 :: vI x :: l) (st) σ = run 128 95 (a0 :: a1 :: a2 :: vI x :: l) (vI x :: st) σ := (run_eq 128 94 _ _ σ).trans rfl
theorem e128_95 (ls : List AV) (σ : St) (x : Int) (h : x = 0 ∨ x = 1) : run 128 95 ls [vI x] σ = some (vI x, σ) := (run_eq 128 95 _ _ σ).trans (if_pos h)
/-! M_walk -/
theorem e129_0 (l st : List AV) (σ : St) (x : Nat) : run 129 0 (vR x :: l) (st) σ = run 129 1 (vR x :: l) (vR x :: st) σ := (run_eq 129 0 _ _ σ).trans rfl
theorem e129_1 (a0 : AV) (l st : List AV) (σ : St) (x : Int) : run 129 1 (a0 :: vI x :: l) (st) σ = run 129 2 (a0 :: vI x :: l) (vI x :: st) σ := (run_eq 129 1 _ _ σ).trans rfl
theorem e129_2 (ls st : List AV) (σ : St) (x0 : Nat) (x1 : Int) (h4 : st.length ≤ 4) (h : fok σ x0 3) : run 129 2 ls (vI x1 :: vR x0 :: st) σ = bnd (run 94 0 [vR x0, vI x1] [] σ) (fun r σ => run 129 5 ls (psh r st) σ) := (run_eq 129 2 _ _ σ).trans (if_pos ⟨rfl, by simp, by simpa using h4, rfl, h⟩)
theorem e129_5 (ls st : List AV) (σ : St) (x : Int) : run 129 5 (ls) (vI x :: st) σ = if x = 0 then run 129 16 (ls) (st) σ else run 129 8 (ls) (st) σ := (run_eq 129 5 _ _ σ).trans rfl
theorem e129_8 (l st : List AV) (σ : St) (x : Nat) : run 129 8 (vR x :: l) (st) σ = run 129 9 (vR x :: l) (vR x :: st) σ := (run_eq 129 8 _ _ σ).trans rfl
theorem e129_9 (a0 a1 : AV) (l st : List AV) (σ : St) (x : Int) : run 129 9 (a0 :: a1 :: vI x :: l) (st) σ = run 129 10 (a0 :: a1 :: vI x :: l) (vI x :: st) σ := (run_eq 129 9 _ _ σ).trans rfl
theorem e129_10 (ls st : List AV) (σ : St) (x0 : Nat) (x1 : Int) (h4 : st.length ≤ 4) (h : fok σ x0 3) : run 129 10 ls (vI x1 :: vR x0 :: st) σ = bnd (run 94 0 [vR x0, vI x1] [] σ) (fun r σ => run 129 13 ls (psh r st) σ) := (run_eq 129 10 _ _ σ).trans (if_pos ⟨rfl, by simp, by simpa using h4, rfl, h⟩)
theorem e129_13 (ls st : List AV) (σ : St) (x : Int) : run 129 13 (ls) (vI x :: st) σ = if x = 0 then run 129 16 (ls) (st) σ else run 129 18 (ls) (st) σ := (run_eq 129 13 _ _ σ).trans rfl
theorem e129_16 (ls st : List AV) (σ : St) : run 129 16 (ls) (st) σ = run 129 17 (ls) (vI (-1) :: st) σ := (run_eq 129 16 _ _ σ).trans rfl
theorem e129_17 (ls : List AV) (σ : St) (x : Int) : run 129 17 ls [vI x] σ = some (vI x, σ) := (run_eq 129 17 _ _ σ).trans rfl
theorem e129_18 (a0 a1 a2 : AV) (l st : List AV) (σ : St) (x : Int) : run 129 18 (a0 :: a1 :: a2 :: vI x :: l) (st) σ = run 129 19 (a0 :: a1 :: a2 :: vI x :: l) (vI x :: st) σ := (run_eq 129 18 _ _ σ).trans rfl
theorem e129_19 (ls st : List AV) (σ : St) : run 129 19 (ls) (st) σ = run 129 20 (ls) (vI 0 :: st) σ := (run_eq 129 19 _ _ σ).trans rfl
theorem e129_20 (ls st : List AV) (σ : St) : run 129 20 (ls) (st) σ = run 129 21 (ls) (vI 2 :: st) σ := (run_eq 129 20 _ _ σ).trans rfl
theorem e129_21 (ls st : List AV) (σ : St) (x0 : Int) (x1 : Int) (x2 : Int) (h4 : st.length ≤ 4) : run 129 21 ls (vI x2 :: vI x1 :: vI x0 :: st) σ = bnd (run 92 0 [vI x0, vI x1, vI x2] [] σ) (fun r σ => run 129 24 ls (psh r st) σ) := (run_eq 129 21 _ _ σ).trans (if_pos ⟨rfl, by simp, by simpa using h4⟩)
theorem e129_24 (ls st : List AV) (σ : St) (x : Int) : run 129 24 (ls) (vI x :: st) σ = if x = 0 then run 129 27 (ls) (st) σ else run 129 30 (ls) (st) σ := (run_eq 129 24 _ _ σ).trans rfl
theorem e129_27 (ls st : List AV) (σ : St) : run 129 27 (ls) (st) σ = run 129 29 (ls) (vI (-2) :: st) σ := (run_eq 129 27 _ _ σ).trans rfl
theorem e129_29 (ls : List AV) (σ : St) (x : Int) : run 129 29 ls [vI x] σ = some (vI x, σ) := (run_eq 129 29 _ _ σ).trans rfl
theorem e129_30 (l st : List AV) (σ : St) (x : Nat) : run 129 30 (vR x :: l) (st) σ = run 129 31 (vR x :: l) (vR x :: st) σ := (run_eq 129 30 _ _ σ).trans rfl
theorem e129_31 (a0 a1 : AV) (l st : List AV) (σ : St) (x : Int) : run 129 31 (a0 :: a1 :: vI x :: l) (st) σ = run 129 32 (a0 :: a1 :: vI x :: l) (vI x :: st) σ := (run_eq 129 31 _ _ σ).trans rfl
theorem e129_32 (ls st : List AV) (σ : St) (x0 : Nat) (x1 : Int) (h4 : st.length ≤ 4) (h : fok σ x0 3) : run 129 32 ls (vI x1 :: vR x0 :: st) σ = bnd (run 130 0 [vR x0, vI x1, vU, vU, vU, vU, vU] [] σ) (fun r σ => run 129 35 ls (psh r st) σ) := (run_eq 129 32 _ _ σ).trans (if_pos ⟨rfl, by simp, by simpa using h4, rfl, h⟩)
theorem e129_35 (a0 a1 a2 : AV) (l st : List AV) (σ : St) (x : Int) : run 129 35 (a0 :: a1 :: a2 :: vI x :: l) (st) σ = run 129 36 (a0 :: a1 :: a2 :: vI x :: l) (vI x :: st) σ := (run_eq 129 35 _ _ σ).trans rfl
theorem e129_36 (ls st : List AV) (σ : St) : run 129 36 (ls) (st) σ = run 129 37 (ls) (vI 2 :: st) σ := (run_eq 129 36 _ _ σ).trans rfl
theorem e129_37 (ls st : List AV) (σ : St) (y x : Int) : run 129 37 (ls) (vI y :: vI x :: st) σ = if x < y then run 129 40 (ls) (st) σ else run 129 72 (ls) (st) σ := (run_eq 129 37 _ _ σ).trans rfl
theorem e129_40 (a0 a1 a2 : AV) (l st : List AV) (σ : St) (x : Int) : run 129 40 (a0 :: a1 :: a2 :: vI x :: l) (st) σ = run 129 41 (a0 :: a1 :: a2 :: vI x :: l) (vI x :: st) σ := (run_eq 129 40 _ _ σ).trans rfl
theorem e129_41 (ls st : List AV) (σ : St) (x : Int) : run 129 41 (ls) (vI x :: st) σ = if x = 0 then run 129 44 (ls) (st) σ else run 129 62 (ls) (st) σ := (run_eq 129 41 _ _ σ).trans rfl
theorem e129_44 (l st : List AV) (σ : St) (x : Nat) : run 129 44 (vR x :: l) (st) σ = run 129 45 (vR x :: l) (vR x :: st) σ := (run_eq 129 44 _ _ σ).trans rfl
theorem e129_45 (ls st : List AV) (σ : St) (x : Nat) (h : fok σ x 3) : run 129 45 (ls) (vR x :: st) σ = run 129 48 (ls) (vR (gr σ x 17) :: st) σ := (run_eq 129 45 _ _ σ).trans (if_pos h)
theorem e129_48 (a0 : AV) (l st : List AV) (σ : St) (x : Int) : run 129 48 (a0 :: vI x :: l) (st) σ = run 129 49 (a0 :: vI x :: l) (vI x :: st) σ := (run_eq 129 48 _ _ σ).trans rfl
theorem e129_49 (ls st : List AV) (σ : St) (j : Int) (x : Nat) (h : aok σ x 4 j) : run 129 49 (ls) (vI j :: vR x :: st) σ = run 129 50 (ls) (vI (gt σ x j.toNat) :: st) σ := (run_eq 129 49 _ _ σ).trans (if_pos h)
theorem e129_50 (ls st : List AV) (σ : St) : run 129 50 (ls) (st) σ = run 129 52 (ls) (vI 100 :: st) σ := (run_eq 129 50 _ _ σ).trans rfl
theorem e129_52 (ls st : List AV) (σ : St) (y x : Int) (h : ¬ y = 0) : run 129 52 (ls) (vI y :: vI x :: st) σ = run 129 53 (ls) (vI (wr (x.tdiv y)) :: st) σ := (run_eq 129 52 _ _ σ).trans (if_neg h)
theorem e129_53 (l st : List AV) (σ : St) (x : Nat) : run 129 53 (vR x :: l) (st) σ = run 129 54 (vR x :: l) (vR x :: st) σ := (run_eq 129 53 _ _ σ).trans rfl
theorem e129_54 (a0 : AV) (l st : List AV) (σ : St) (x : Int) : run 129 54 (a0 :: vI x :: l) (st) σ = run 129 55 (a0 :: vI x :: l) (vI x :: st) σ := (run_eq 129 54 _ _ σ).trans rfl
theorem e129_55 (ls st : List AV) (σ : St) (x0 : Nat) (x1 : Int) (h4 : st.length ≤ 4) (h : fok σ x0 3) : run 129 55 ls (vI x1 :: vR x0 :: st) σ = bnd (run 131 0 [vR x0, vI x1, vU, vU] [] σ) (fun r σ => run 129 58 ls (psh r st) σ) := (run_eq 129 55 _ _ σ).trans (if_pos ⟨rfl, by simp, by simpa using h4, rfl, h⟩)
theorem e129_58 (ls st : List AV) (σ : St) (y x : Int) : run 129 58 (ls) (vI y :: vI x :: st) σ = run 129 59 (ls) (vI (wr (x + y)) :: st) σ := (run_eq 129 58 _ _ σ).trans rfl
theorem e129_59 (ls st : List AV) (σ : St) : run 129 59 (ls) (st) σ = run 129 71 (ls) (st) σ := (run_eq 129 59 _ _ σ).trans rfl
theorem e129_62 (l st : List AV) (σ : St) (x : Nat) : run 129 62 (vR x :: l) (st) σ = run 129 63 (vR x :: l) (vR x :: st) σ := (run_eq 129 62 _ _ σ).trans rfl
theorem e129_63 (ls st : List AV) (σ : St) (x : Nat) (h : fok σ x 3) : run 129 63 (ls) (vR x :: st) σ = run 129 66 (ls) (vR (gr σ x 17) :: st) σ := (run_eq 129 63 _ _ σ).trans (if_pos h)
theorem e129_66 (a0 : AV) (l st : List AV) (σ : St) (x : Int) : run 129 66 (a0 :: vI x :: l) (st) σ = run 129 67 (a0 :: vI x :: l) (vI x :: st) σ := (run_eq 129 66 _ _ σ).trans rfl
theorem e129_67 (ls st : List AV) (σ : St) (j : Int) (x : Nat) (h : aok σ x 4 j) : run 129 67 (ls) (vI j :: vR x :: st) σ = run 129 68 (ls) (vI (gt σ x j.toNat) :: st) σ := (run_eq 129 67 _ _ σ).trans (if_pos h)
theorem e129_68 (ls st : List AV) (σ : St) : run 129 68 (ls) (st) σ = run 129 70 (ls) (vI 100 :: st) σ := (run_eq 129 68 _ _ σ).trans rfl
theorem e129_70 (ls st : List AV) (σ : St) (y x : Int) (h : ¬ y = 0) : run 129 70 (ls) (vI y :: vI x :: st) σ = run 129 71 (ls) (vI (wr (x.tmod y)) :: st) σ := (run_eq 129 70 _ _ σ).trans (if_neg h)
theorem e129_71 (ls : List AV) (σ : St) (x : Int) : run 129 71 ls [vI x] σ = some (vI x, σ) := (run_eq 129 71 _ _ σ).trans rfl
theorem e129_72 (ls st : List AV) (σ : St) : run 129 72 (ls) (st) σ = run 129 74 (ls) (vI (-6) :: st) σ := (run_eq 129 72 _ _ σ).trans rfl
theorem e129_74 (a0 a1 a2 a3 : AV) (l st : List AV) (σ : St) (q : AV) (x : Int) : run 129 74 (a0 :: a1 :: a2 :: a3 :: q :: l) (vI x :: st) σ = run 129 76 (a0 :: a1 :: a2 :: a3 :: vI x :: l) (st) σ := (run_eq 129 74 _ _ σ).trans rfl
theorem e129_76 (ls st : List AV) (σ : St) : run 129 76 (ls) (st) σ = run 129 77 (ls) (vI 0 :: st) σ := (run_eq 129 76 _ _ σ).trans rfl
theorem e129_77 (a0 a1 a2 a3 a4 : AV) (l st : List AV) (σ : St) (q : AV) (x : Int) : run 129 77 (a0 :: a1 :: a2 :: a3 :: a4 :: q :: l) (vI x :: st) σ = run 129 79 (a0 :: a1 :: a2 :: a3 :: a4 :: vI x :: l) (st) σ := (run_eq 129 77 _ _ σ).trans rfl
theorem e129_79 (a0 a1 a2 a3 a4 : AV) (l st : List AV) (σ : St) (x : Int) : run 129 79 (a0 :: a1 :: a2 :: a3 :: a4 :: vI x :: l) (st) σ = run 129 81 (a0 :: a1 :: a2 :: a3 :: a4 :: vI x :: l) (vI x :: st) σ := (run_eq 129 79 _ _ σ).trans rfl
theorem e129_81 (ls st : List AV) (σ : St) : run 129 81 (ls) (st) σ = run 129 82 (ls) (vI 4 :: st) σ := (run_eq 129 81 _ _ σ).trans rfl
theorem e129_82 (ls st : List AV) (σ : St) (y x : Int) : run 129 82 (ls) (vI y :: vI x :: st) σ = if x < y then run 129 85 (ls) (st) σ else run 129 171 (ls) (st) σ := (run_eq 129 82 _ _ σ).trans rfl
theorem e129_85 (a0 : AV) (l st : List AV) (σ : St) (x : Int) : run 129 85 (a0 :: vI x :: l) (st) σ = run 129 86 (a0 :: vI x :: l) (vI x :: st) σ := (run_eq 129 85 _ _ σ).trans rfl
theorem e129_86 (a0 a1 : AV) (l st : List AV) (σ : St) (x : Int) : run 129 86 (a0 :: a1 :: vI x :: l) (st) σ = run 129 87 (a0 :: a1 :: vI x :: l) (vI x :: st) σ := (run_eq 129 86 _ _ σ).trans rfl
theorem e129_87 (ls st : List AV) (σ : St) (y x : Int) : run 129 87 (ls) (vI y :: vI x :: st) σ = if x = y then run 129 171 (ls) (st) σ else run 129 90 (ls) (st) σ := (run_eq 129 87 _ _ σ).trans rfl
theorem e129_90 (l st : List AV) (σ : St) (x : Nat) : run 129 90 (vR x :: l) (st) σ = run 129 91 (vR x :: l) (vR x :: st) σ := (run_eq 129 90 _ _ σ).trans rfl
theorem e129_91 (a0 : AV) (l st : List AV) (σ : St) (x : Int) : run 129 91 (a0 :: vI x :: l) (st) σ = run 129 92 (a0 :: vI x :: l) (vI x :: st) σ := (run_eq 129 91 _ _ σ).trans rfl
theorem e129_92 (a0 a1 a2 a3 a4 : AV) (l st : List AV) (σ : St) (x : Int) : run 129 92 (a0 :: a1 :: a2 :: a3 :: a4 :: vI x :: l) (st) σ = run 129 94 (a0 :: a1 :: a2 :: a3 :: a4 :: vI x :: l) (vI x :: st) σ := (run_eq 129 92 _ _ σ).trans rfl
theorem e129_94 (ls st : List AV) (σ : St) (x0 : Nat) (x1 : Int) (x2 : Int) (h4 : st.length ≤ 4) (h : fok σ x0 3) : run 129 94 ls (vI x2 :: vI x1 :: vR x0 :: st) σ = bnd (run 110 0 [vR x0, vI x1, vI x2, vU, vU] [] σ) (fun r σ => run 129 97 ls (psh r st) σ) := (run_eq 129 94 _ _ σ).trans (if_pos ⟨rfl, by simp, by simpa using h4, rfl, h⟩)
theorem e129_97 (a0 a1 a2 a3 a4 a5 : AV) (l st : List AV) (σ : St) (q : AV) (x : Int) : run 129 97 (a0 :: a1 :: a2 :: a3 :: a4 :: a5 :: q :: l) (vI x :: st) σ = run 129 99 (a0 :: a1 :: a2 :: a3 :: a4 :: a5 :: vI x :: l) (st) σ := (run_eq 129 97 _ _ σ).trans rfl
theorem e129_99 (a0 a1 a2 a3 a4 a5 : AV) (l st : List AV) (σ : St) (x : Int) : run 129 99 (a0 :: a1 :: a2 :: a3 :: a4 :: a5 :: vI x :: l) (st) σ = run 129 101 (a0 :: a1 :: a2 :: a3 :: a4 :: a5 :: vI x :: l) (vI x :: st) σ := (run_eq 129 99 _ _ σ).trans rfl
theorem e129_101 (ls st : List AV) (σ : St) (x : Int) : run 129 101 (ls) (vI x :: st) σ = if x < 0 then run 129 136 (ls) (st) σ else run 129 104 (ls) (st) σ := (run_eq 129 101 _ _ σ).trans rfl
theorem e129_104 (l st : List AV) (σ : St) (x : Nat) : run 129 104 (vR x :: l) (st) σ = run 129 105 (vR x :: l) (vR x :: st) σ := (run_eq 129 104 _ _ σ).trans rfl
theorem e129_105 (ls st : List AV) (σ : St) (x : Nat) (h : fok σ x 3) : run 129 105 (ls) (vR x :: st) σ = run 129 108 (ls) (vR (gr σ x 17) :: st) σ := (run_eq 129 105 _ _ σ).trans (if_pos h)
theorem e129_108 (a0 a1 a2 a3 a4 a5 : AV) (l st : List AV) (σ : St) (x : Int) : run 129 108 (a0 :: a1 :: a2 :: a3 :: a4 :: a5 :: vI x :: l) (st) σ = run 129 110 (a0 :: a1 :: a2 :: a3 :: a4 :: a5 :: vI x :: l) (vI x :: st) σ := (run_eq 129 108 _ _ σ).trans rfl
theorem e129_110 (ls st : List AV) (σ : St) (j : Int) (x : Nat) (h : aok σ x 4 j) : run 129 110 (ls) (vI j :: vR x :: st) σ = run 129 111 (ls) (vI (gt σ x j.toNat) :: st) σ := (run_eq 129 110 _ _ σ).trans (if_pos h)
theorem e129_111 (ls st : List AV) (σ : St) : run 129 111 (ls) (st) σ = run 129 113 (ls) (vI 100 :: st) σ := (run_eq 129 111 _ _ σ).trans rfl
theorem e129_113 (l st : List AV) (σ : St) (x : Nat) : run 129 113 (vR x :: l) (st) σ = run 129 114 (vR x :: l) (vR x :: st) σ := (run_eq 129 113 _ _ σ).trans rfl
theorem e129_114 (a0 a1 a2 a3 a4 a5 : AV) (l st : List AV) (σ : St) (x : Int) : run 129 114 (a0 :: a1 :: a2 :: a3 :: a4 :: a5 :: vI x :: l) (st) σ = run 129 116 (a0 :: a1 :: a2 :: a3 :: a4 :: a5 :: vI x :: l) (vI x :: st) σ := (run_eq 129 114 _ _ σ).trans rfl
theorem e129_116 (ls st : List AV) (σ : St) (x0 : Nat) (x1 : Int) (h4 : st.length ≤ 4) (h : fok σ x0 3) : run 129 116 ls (vI x1 :: vR x0 :: st) σ = bnd (run 131 0 [vR x0, vI x1, vU, vU] [] σ) (fun r σ => run 129 119 ls (psh r st) σ) := (run_eq 129 116 _ _ σ).trans (if_pos ⟨rfl, by simp, by simpa using h4, rfl, h⟩)
theorem e129_119 (ls st : List AV) (σ : St) (y x : Int) : run 129 119 (ls) (vI y :: vI x :: st) σ = run 129 120 (ls) (vI (wr (x * y)) :: st) σ := (run_eq 129 119 _ _ σ).trans rfl
theorem e129_120 (ls st : List AV) (σ : St) (y x : Int) : run 129 120 (ls) (vI y :: vI x :: st) σ = run 129 121 (ls) (vI (wr (x + y)) :: st) σ := (run_eq 129 120 _ _ σ).trans rfl
theorem e129_121 (ls st : List AV) (σ : St) : run 129 121 (ls) (st) σ = run 129 122 (ls) (vI 1 :: st) σ := (run_eq 129 121 _ _ σ).trans rfl
theorem e129_122 (ls st : List AV) (σ : St) (y x : Int) : run 129 122 (ls) (vI y :: vI x :: st) σ = run 129 123 (ls) (vI (wr (x + y)) :: st) σ := (run_eq 129 122 _ _ σ).trans rfl
theorem e129_123 (l st : List AV) (σ : St) (x : Nat) : run 129 123 (vR x :: l) (st) σ = run 129 124 (vR x :: l) (vR x :: st) σ := (run_eq 129 123 _ _ σ).trans rfl
theorem e129_124 (ls st : List AV) (σ : St) (x : Nat) (h : fok σ x 3) : run 129 124 (ls) (vR x :: st) σ = run 129 127 (ls) (vR (gr σ x 17) :: st) σ := (run_eq 129 124 _ _ σ).trans (if_pos h)
theorem e129_127 (a0 : AV) (l st : List AV) (σ : St) (x : Int) : run 129 127 (a0 :: vI x :: l) (st) σ = run 129 128 (a0 :: vI x :: l) (vI x :: st) σ := (run_eq 129 127 _ _ σ).trans rfl
theorem e129_128 (ls st : List AV) (σ : St) (j : Int) (x : Nat) (h : aok σ x 4 j) : run 129 128 (ls) (vI j :: vR x :: st) σ = run 129 129 (ls) (vI (gt σ x j.toNat) :: st) σ := (run_eq 129 128 _ _ σ).trans (if_pos h)
theorem e129_129 (ls st : List AV) (σ : St) (y x : Int) : run 129 129 (ls) (vI y :: vI x :: st) σ = if x = y then run 129 132 (ls) (st) σ else run 129 136 (ls) (st) σ := (run_eq 129 129 _ _ σ).trans rfl
theorem e129_132 (ls st : List AV) (σ : St) : run 129 132 (ls) (st) σ = run 129 133 (ls) (vI 1 :: st) σ := (run_eq 129 132 _ _ σ).trans rfl
theorem e129_133 (ls st : List AV) (σ : St) : run 129 133 (ls) (st) σ = run 129 137 (ls) (st) σ := (run_eq 129 133 _ _ σ).trans rfl
theorem e129_136 (ls st : List AV) (σ : St) : run 129 136 (ls) (st) σ = run 129 137 (ls) (vI 0 :: st) σ := (run_eq 129 136 _ _ σ).trans rfl
theorem e129_137 (a0 a1 a2 a3 a4 a5 a6 : AV) (l st : List AV) (σ : St) (q : AV) (x : Int) : run 129 137 (a0 :: a1 :: a2 :: a3 :: a4 :: a5 :: a6 :: q :: l) (vI x :: st) σ = run 129 139 (a0 :: a1 :: a2 :: a3 :: a4 :: a5 :: a6 :: vI x :: l) (st) σ := (run_eq 129 137 _ _ σ).trans rfl
theorem e129_139 (a0 a1 a2 a3 a4 a5 a6 : AV) (l st : List AV) (σ : St) (x : Int) : run 129 139 (a0 :: a1 :: a2 :: a3 :: a4 :: a5 :: a6 :: vI x :: l) (st) σ = run 129 141 (a0 :: a1 :: a2 :: a3 :: a4 :: a5 :: a6 :: vI x :: l) (vI x :: st) σ := (run_eq 129 139 _ _ σ).trans rfl
theorem e129_141 (ls st : List AV) (σ : St) (x : Int) : run 129 141 (ls) (vI x :: st) σ = if x = 0 then run 129 161 (ls) (st) σ else run 129 144 (ls) (st) σ := (run_eq 129 141 _ _ σ).trans rfl
theorem e129_144 (a0 a1 a2 a3 : AV) (l st : List AV) (σ : St) (x : Int) : run 129 144 (a0 :: a1 :: a2 :: a3 :: vI x :: l) (st) σ = run 129 146 (a0 :: a1 :: a2 :: a3 :: vI x :: l) (vI x :: st) σ := (run_eq 129 144 _ _ σ).trans rfl
theorem e129_146 (ls st : List AV) (σ : St) (x : Int) : run 129 146 (ls) (vI x :: st) σ = if x < 0 then run 129 156 (ls) (st) σ else run 129 149 (ls) (st) σ := (run_eq 129 146 _ _ σ).trans rfl
theorem e129_149 (a0 a1 a2 a3 a4 a5 : AV) (l st : List AV) (σ : St) (x : Int) : run 129 149 (a0 :: a1 :: a2 :: a3 :: a4 :: a5 :: vI x :: l) (st) σ = run 129 151 (a0 :: a1 :: a2 :: a3 :: a4 :: a5 :: vI x :: l) (vI x :: st) σ := (run_eq 129 149 _ _ σ).trans rfl
theorem e129_151 (a0 a1 a2 a3 : AV) (l st : List AV) (σ : St) (x : Int) : run 129 151 (a0 :: a1 :: a2 :: a3 :: vI x :: l) (st) σ = run 129 153 (a0 :: a1 :: a2 :: a3 :: vI x :: l) (vI x :: st) σ := (run_eq 129 151 _ _ σ).trans rfl
theorem e129_153 (ls st : List AV) (σ : St) (y x : Int) : run 129 153 (ls) (vI y :: vI x :: st) σ = if x < y then run 129 156 (ls) (st) σ else run 129 161 (ls) (st) σ := (run_eq 129 153 _ _ σ).trans rfl
theorem e129_156 (a0 a1 a2 a3 a4 a5 : AV) (l st : List AV) (σ : St) (x : Int) : run 129 156 (a0 :: a1 :: a2 :: a3 :: a4 :: a5 :: vI x :: l) (st) σ = run 129 158 (a0 :: a1 :: a2 :: a3 :: a4 :: a5 :: vI x :: l) (vI x :: st) σ := (run_eq 129 156 _ _ σ).trans rfl
theorem e129_158 (ls st : List AV) (σ : St) : run 129 158 (ls) (st) σ = run 129 163 (ls) (st) σ := (run_eq 129 158 _ _ σ).trans rfl
theorem e129_161 (a0 a1 a2 a3 : AV) (l st : List AV) (σ : St) (x : Int) : run 129 161 (a0 :: a1 :: a2 :: a3 :: vI x :: l) (st) σ = run 129 163 (a0 :: a1 :: a2 :: a3 :: vI x :: l) (vI x :: st) σ := (run_eq 129 161 _ _ σ).trans rfl
theorem e129_163 (a0 a1 a2 a3 : AV) (l st : List AV) (σ : St) (q : AV) (x : Int) : run 129 163 (a0 :: a1 :: a2 :: a3 :: q :: l) (vI x :: st) σ = run 129 165 (a0 :: a1 :: a2 :: a3 :: vI x :: l) (st) σ := (run_eq 129 163 _ _ σ).trans rfl
theorem e129_165 (a0 a1 a2 a3 a4 : AV) (l st : List AV) (σ : St) (x : Int) : run 129 165 (a0 :: a1 :: a2 :: a3 :: a4 :: vI x :: l) (st) σ = run 129 168 (a0 :: a1 :: a2 :: a3 :: a4 :: vI (wr (x + 1)) :: l) (st) σ := (run_eq 129 165 _ _ σ).trans rfl
theorem e129_168 (ls st : List AV) (σ : St) : run 129 168 (ls) (st) σ = run 129 79 (ls) (st) σ := (run_eq 129 168 _ _ σ).trans rfl
theorem e129_171 (a0 a1 a2 a3 : AV) (l st : List AV) (σ : St) (x : Int) : run 129 171 (a0 :: a1 :: a2 :: a3 :: vI x :: l) (st) σ = run 129 173 (a0 :: a1 :: a2 :: a3 :: vI x :: l) (vI x :: st) σ := (run_eq 129 171 _ _ σ).trans rfl
theorem e129_173 (ls : List AV) (σ : St) (x : Int) : run 129 173 ls [vI x] σ = some (vI x, σ) := (run_eq 129 173 _ _ σ).trans rfl
/-! M_layWalk -/
theorem e130_0 (ls st : List AV) (σ : St) : run 130 0 (ls) (st) σ = run 130 1 (ls) (vI 0 :: st) σ := (run_eq 130 0 _ _ σ).trans rfl
theorem e130_1 (a0 a1 : AV) (l st : List AV) (σ : St) (q : AV) (x : Int) : run 130 1 (a0 :: a1 :: q :: l) (vI x :: st) σ = run 130 2 (a0 :: a1 :: vI x :: l) (st) σ := (run_eq 130 1 _ _ σ).trans rfl
theorem e130_2 (a0 a1 : AV) (l st : List AV) (σ : St) (x : Int) : run 130 2 (a0 :: a1 :: vI x :: l) (st) σ = run 130 3 (a0 :: a1 :: vI x :: l) (vI x :: st) σ := (run_eq 130 2 _ _ σ).trans rfl
theorem e130_3 (ls st : List AV) (σ : St) : run 130 3 (ls) (st) σ = run 130 5 (ls) (vI 24 :: st) σ := (run_eq 130 3 _ _ σ).trans rfl
theorem e130_5 (ls st : List AV) (σ : St) (y x : Int) : run 130 5 (ls) (vI y :: vI x :: st) σ = if x < y then run 130 8 (ls) (st) σ else run 130 31 (ls) (st) σ := (run_eq 130 5 _ _ σ).trans rfl
theorem e130_8 (l st : List AV) (σ : St) (x : Nat) : run 130 8 (vR x :: l) (st) σ = run 130 9 (vR x :: l) (vR x :: st) σ := (run_eq 130 8 _ _ σ).trans rfl
theorem e130_9 (ls st : List AV) (σ : St) (x : Nat) (h : fok σ x 3) : run 130 9 (ls) (vR x :: st) σ = run 130 12 (ls) (vR (gr σ x 17) :: st) σ := (run_eq 130 9 _ _ σ).trans (if_pos h)
theorem e130_12 (a0 a1 : AV) (l st : List AV) (σ : St) (x : Int) : run 130 12 (a0 :: a1 :: vI x :: l) (st) σ = run 130 13 (a0 :: a1 :: vI x :: l) (vI x :: st) σ := (run_eq 130 12 _ _ σ).trans rfl
theorem e130_13 (a0 a1 : AV) (l st : List AV) (σ : St) (x : Int) : run 130 13 (a0 :: a1 :: vI x :: l) (st) σ = run 130 14 (a0 :: a1 :: vI x :: l) (vI x :: st) σ := (run_eq 130 13 _ _ σ).trans rfl
theorem e130_14 (a0 : AV) (l st : List AV) (σ : St) (x : Int) : run 130 14 (a0 :: vI x :: l) (st) σ = run 130 15 (a0 :: vI x :: l) (vI x :: st) σ := (run_eq 130 14 _ _ σ).trans rfl
theorem e130_15 (ls st : List AV) (σ : St) (y x : Int) : run 130 15 (ls) (vI y :: vI x :: st) σ = if x = y then run 130 18 (ls) (st) σ else run 130 22 (ls) (st) σ := (run_eq 130 15 _ _ σ).trans rfl
theorem e130_18 (ls st : List AV) (σ : St) : run 130 18 (ls) (st) σ = run 130 19 (ls) (vI 0 :: st) σ := (run_eq 130 18 _ _ σ).trans rfl
theorem e130_19 (ls st : List AV) (σ : St) : run 130 19 (ls) (st) σ = run 130 24 (ls) (st) σ := (run_eq 130 19 _ _ σ).trans rfl
theorem e130_22 (ls st : List AV) (σ : St) : run 130 22 (ls) (st) σ = run 130 24 (ls) (vI 1000000 :: st) σ := (run_eq 130 22 _ _ σ).trans rfl
theorem e130_24 (ls st : List AV) (σ : St) (z j : Int) (x : Nat) (h : aok σ x 4 j) : run 130 24 (ls) (vI z :: vI j :: vR x :: st) σ = run 130 25 (ls) (st) (sr σ x (ru (gt σ x) j.toNat z)) := (run_eq 130 24 _ _ σ).trans (if_pos h)
theorem e130_25 (a0 a1 : AV) (l st : List AV) (σ : St) (x : Int) : run 130 25 (a0 :: a1 :: vI x :: l) (st) σ = run 130 28 (a0 :: a1 :: vI (wr (x + 1)) :: l) (st) σ := (run_eq 130 25 _ _ σ).trans rfl
theorem e130_28 (ls st : List AV) (σ : St) : run 130 28 (ls) (st) σ = run 130 2 (ls) (st) σ := (run_eq 130 28 _ _ σ).trans rfl
theorem e130_31 (ls st : List AV) (σ : St) : run 130 31 (ls) (st) σ = run 130 32 (ls) (vI 1 :: st) σ := (run_eq 130 31 _ _ σ).trans rfl
theorem e130_32 (a0 a1 : AV) (l st : List AV) (σ : St) (q : AV) (x : Int) : run 130 32 (a0 :: a1 :: q :: l) (vI x :: st) σ = run 130 33 (a0 :: a1 :: vI x :: l) (st) σ := (run_eq 130 32 _ _ σ).trans rfl
theorem e130_33 (a0 a1 : AV) (l st : List AV) (σ : St) (x : Int) : run 130 33 (a0 :: a1 :: vI x :: l) (st) σ = run 130 34 (a0 :: a1 :: vI x :: l) (vI x :: st) σ := (run_eq 130 33 _ _ σ).trans rfl
theorem e130_34 (ls st : List AV) (σ : St) (x : Int) : run 130 34 (ls) (vI x :: st) σ = if x = 0 then run 130 162 (ls) (st) σ else run 130 37 (ls) (st) σ := (run_eq 130 34 _ _ σ).trans rfl
theorem e130_37 (ls st : List AV) (σ : St) : run 130 37 (ls) (st) σ = run 130 38 (ls) (vI 0 :: st) σ := (run_eq 130 37 _ _ σ).trans rfl
theorem e130_38 (a0 a1 : AV) (l st : List AV) (σ : St) (q : AV) (x : Int) : run 130 38 (a0 :: a1 :: q :: l) (vI x :: st) σ = run 130 39 (a0 :: a1 :: vI x :: l) (st) σ := (run_eq 130 38 _ _ σ).trans rfl
theorem e130_39 (ls st : List AV) (σ : St) : run 130 39 (ls) (st) σ = run 130 40 (ls) (vI 0 :: st) σ := (run_eq 130 39 _ _ σ).trans rfl
theorem e130_40 (a0 a1 a2 : AV) (l st : List AV) (σ : St) (q : AV) (x : Int) : run 130 40 (a0 :: a1 :: a2 :: q :: l) (vI x :: st) σ = run 130 41 (a0 :: a1 :: a2 :: vI x :: l) (st) σ := (run_eq 130 40 _ _ σ).trans rfl
theorem e130_41 (a0 a1 a2 : AV) (l st : List AV) (σ : St) (x : Int) : run 130 41 (a0 :: a1 :: a2 :: vI x :: l) (st) σ = run 130 42 (a0 :: a1 :: a2 :: vI x :: l) (vI x :: st) σ := (run_eq 130 41 _ _ σ).trans rfl
theorem e130_42 (l st : List AV) (σ : St) (x : Nat) : run 130 42 (vR x :: l) (st) σ = run 130 43 (vR x :: l) (vR x :: st) σ := (run_eq 130 42 _ _ σ).trans rfl
theorem e130_43 (ls st : List AV) (σ : St) (x0 : Nat) (h4 : st.length ≤ 4) (h : fok σ x0 3) : run 130 43 ls (vR x0 :: st) σ = bnd (run 95 0 [vR x0] [] σ) (fun r σ => run 130 46 ls (psh r st) σ) := (run_eq 130 43 _ _ σ).trans (if_pos ⟨rfl, by simp, by simpa using h4, rfl, h⟩)
theorem e130_46 (ls st : List AV) (σ : St) (y x : Int) : run 130 46 (ls) (vI y :: vI x :: st) σ = if x < y then run 130 49 (ls) (st) σ else run 130 159 (ls) (st) σ := (run_eq 130 46 _ _ σ).trans rfl
theorem e130_49 (ls st : List AV) (σ : St) : run 130 49 (ls) (st) σ = run 130 50 (ls) (vI 0 :: st) σ := (run_eq 130 49 _ _ σ).trans rfl
theorem e130_50 (a0 a1 a2 a3 : AV) (l st : List AV) (σ : St) (q : AV) (x : Int) : run 130 50 (a0 :: a1 :: a2 :: a3 :: q :: l) (vI x :: st) σ = run 130 52 (a0 :: a1 :: a2 :: a3 :: vI x :: l) (st) σ := (run_eq 130 50 _ _ σ).trans rfl
theorem e130_52 (a0 a1 a2 a3 : AV) (l st : List AV) (σ : St) (x : Int) : run 130 52 (a0 :: a1 :: a2 :: a3 :: vI x :: l) (st) σ = run 130 54 (a0 :: a1 :: a2 :: a3 :: vI x :: l) (vI x :: st) σ := (run_eq 130 52 _ _ σ).trans rfl
theorem e130_54 (ls st : List AV) (σ : St) : run 130 54 (ls) (st) σ = run 130 55 (ls) (vI 4 :: st) σ := (run_eq 130 54 _ _ σ).trans rfl
theorem e130_55 (ls st : List AV) (σ : St) (y x : Int) : run 130 55 (ls) (vI y :: vI x :: st) σ = if x < y then run 130 58 (ls) (st) σ else run 130 153 (ls) (st) σ := (run_eq 130 55 _ _ σ).trans rfl
theorem e130_58 (l st : List AV) (σ : St) (x : Nat) : run 130 58 (vR x :: l) (st) σ = run 130 59 (vR x :: l) (vR x :: st) σ := (run_eq 130 58 _ _ σ).trans rfl
theorem e130_59 (a0 a1 a2 : AV) (l st : List AV) (σ : St) (x : Int) : run 130 59 (a0 :: a1 :: a2 :: vI x :: l) (st) σ = run 130 60 (a0 :: a1 :: a2 :: vI x :: l) (vI x :: st) σ := (run_eq 130 59 _ _ σ).trans rfl
theorem e130_60 (a0 a1 a2 a3 : AV) (l st : List AV) (σ : St) (x : Int) : run 130 60 (a0 :: a1 :: a2 :: a3 :: vI x :: l) (st) σ = run 130 62 (a0 :: a1 :: a2 :: a3 :: vI x :: l) (vI x :: st) σ := (run_eq 130 60 _ _ σ).trans rfl
theorem e130_62 (ls st : List AV) (σ : St) (x0 : Nat) (x1 : Int) (x2 : Int) (h4 : st.length ≤ 4) (h : fok σ x0 3) : run 130 62 ls (vI x2 :: vI x1 :: vR x0 :: st) σ = bnd (run 110 0 [vR x0, vI x1, vI x2, vU, vU] [] σ) (fun r σ => run 130 65 ls (psh r st) σ) := (run_eq 130 62 _ _ σ).trans (if_pos ⟨rfl, by simp, by simpa using h4, rfl, h⟩)
theorem e130_65 (a0 a1 a2 a3 a4 : AV) (l st : List AV) (σ : St) (q : AV) (x : Int) : run 130 65 (a0 :: a1 :: a2 :: a3 :: a4 :: q :: l) (vI x :: st) σ = run 130 67 (a0 :: a1 :: a2 :: a3 :: a4 :: vI x :: l) (st) σ := (run_eq 130 65 _ _ σ).trans rfl
theorem e130_67 (a0 a1 a2 a3 a4 : AV) (l st : List AV) (σ : St) (x : Int) : run 130 67 (a0 :: a1 :: a2 :: a3 :: a4 :: vI x :: l) (st) σ = run 130 69 (a0 :: a1 :: a2 :: a3 :: a4 :: vI x :: l) (vI x :: st) σ := (run_eq 130 67 _ _ σ).trans rfl
theorem e130_69 (ls st : List AV) (σ : St) (x : Int) : run 130 69 (ls) (vI x :: st) σ = if x < 0 then run 130 72 (ls) (st) σ else run 130 77 (ls) (st) σ := (run_eq 130 69 _ _ σ).trans rfl
theorem e130_72 (ls st : List AV) (σ : St) : run 130 72 (ls) (st) σ = run 130 74 (ls) (vI 1000000 :: st) σ := (run_eq 130 72 _ _ σ).trans rfl
theorem e130_74 (ls st : List AV) (σ : St) : run 130 74 (ls) (st) σ = run 130 96 (ls) (st) σ := (run_eq 130 74 _ _ σ).trans rfl
theorem e130_77 (l st : List AV) (σ : St) (x : Nat) : run 130 77 (vR x :: l) (st) σ = run 130 78 (vR x :: l) (vR x :: st) σ := (run_eq 130 77 _ _ σ).trans rfl
theorem e130_78 (ls st : List AV) (σ : St) (x : Nat) (h : fok σ x 3) : run 130 78 (ls) (vR x :: st) σ = run 130 81 (ls) (vR (gr σ x 17) :: st) σ := (run_eq 130 78 _ _ σ).trans (if_pos h)
theorem e130_81 (a0 a1 a2 a3 a4 : AV) (l st : List AV) (σ : St) (x : Int) : run 130 81 (a0 :: a1 :: a2 :: a3 :: a4 :: vI x :: l) (st) σ = run 130 83 (a0 :: a1 :: a2 :: a3 :: a4 :: vI x :: l) (vI x :: st) σ := (run_eq 130 81 _ _ σ).trans rfl
theorem e130_83 (ls st : List AV) (σ : St) (j : Int) (x : Nat) (h : aok σ x 4 j) : run 130 83 (ls) (vI j :: vR x :: st) σ = run 130 84 (ls) (vI (gt σ x j.toNat) :: st) σ := (run_eq 130 83 _ _ σ).trans (if_pos h)
theorem e130_84 (ls st : List AV) (σ : St) : run 130 84 (ls) (st) σ = run 130 86 (ls) (vI 100 :: st) σ := (run_eq 130 84 _ _ σ).trans rfl
theorem e130_86 (l st : List AV) (σ : St) (x : Nat) : run 130 86 (vR x :: l) (st) σ = run 130 87 (vR x :: l) (vR x :: st) σ := (run_eq 130 86 _ _ σ).trans rfl
theorem e130_87 (a0 a1 a2 a3 a4 : AV) (l st : List AV) (σ : St) (x : Int) : run 130 87 (a0 :: a1 :: a2 :: a3 :: a4 :: vI x :: l) (st) σ = run 130 89 (a0 :: a1 :: a2 :: a3 :: a4 :: vI x :: l) (vI x :: st) σ := (run_eq 130 87 _ _ σ).trans rfl
theorem e130_89 (ls st : List AV) (σ : St) (x0 : Nat) (x1 : Int) (h4 : st.length ≤ 4) (h : fok σ x0 3) : run 130 89 ls (vI x1 :: vR x0 :: st) σ = bnd (run 131 0 [vR x0, vI x1, vU, vU] [] σ) (fun r σ => run 130 92 ls (psh r st) σ) := (run_eq 130 89 _ _ σ).trans (if_pos ⟨rfl, by simp, by simpa using h4, rfl, h⟩)
theorem e130_92 (ls st : List AV) (σ : St) (y x : Int) : run 130 92 (ls) (vI y :: vI x :: st) σ = run 130 93 (ls) (vI (wr (x * y)) :: st) σ := (run_eq 130 92 _ _ σ).trans rfl
theorem e130_93 (ls st : List AV) (σ : St) (y x : Int) : run 130 93 (ls) (vI y :: vI x :: st) σ = run 130 94 (ls) (vI (wr (x + y)) :: st) σ := (run_eq 130 93 _ _ σ).trans rfl
theorem e130_94 (ls st : List AV) (σ : St) : run 130 94 (ls) (st) σ = run 130 95 (ls) (vI 1 :: st) σ := (run_eq 130 94 _ _ σ).trans rfl
theorem e130_95 (ls st : List AV) (σ : St) (y x : Int) : run 130 95 (ls) (vI y :: vI x :: st) σ = run 130 96 (ls) (vI (wr (x + y)) :: st) σ := (run_eq 130 95 _ _ σ).trans rfl
theorem e130_96 (a0 a1 a2 a3 a4 a5 : AV) (l st : List AV) (σ : St) (q : AV) (x : Int) : run 130 96 (a0 :: a1 :: a2 :: a3 :: a4 :: a5 :: q :: l) (vI x :: st) σ = run 130 98 (a0 :: a1 :: a2 :: a3 :: a4 :: a5 :: vI x :: l) (st) σ := (run_eq 130 96 _ _ σ).trans rfl
theorem e130_98 (a0 a1 : AV) (l st : List AV) (σ : St) (x : Int) : run 130 98 (a0 :: a1 :: vI x :: l) (st) σ = run 130 99 (a0 :: a1 :: vI x :: l) (vI x :: st) σ := (run_eq 130 98 _ _ σ).trans rfl
theorem e130_99 (ls st : List AV) (σ : St) (x : Int) : run 130 99 (ls) (vI x :: st) σ = if x = 0 then run 130 102 (ls) (st) σ else run 130 113 (ls) (st) σ := (run_eq 130 99 _ _ σ).trans rfl
theorem e130_102 (a0 a1 a2 a3 a4 a5 : AV) (l st : List AV) (σ : St) (x : Int) : run 130 102 (a0 :: a1 :: a2 :: a3 :: a4 :: a5 :: vI x :: l) (st) σ = run 130 104 (a0 :: a1 :: a2 :: a3 :: a4 :: a5 :: vI x :: l) (vI x :: st) σ := (run_eq 130 102 _ _ σ).trans rfl
theorem e130_104 (l st : List AV) (σ : St) (x : Nat) : run 130 104 (vR x :: l) (st) σ = run 130 105 (vR x :: l) (vR x :: st) σ := (run_eq 130 104 _ _ σ).trans rfl
theorem e130_105 (ls st : List AV) (σ : St) (x : Nat) (h : fok σ x 3) : run 130 105 (ls) (vR x :: st) σ = run 130 108 (ls) (vR (gr σ x 17) :: st) σ := (run_eq 130 105 _ _ σ).trans (if_pos h)
theorem e130_108 (a0 a1 a2 : AV) (l st : List AV) (σ : St) (x : Int) : run 130 108 (a0 :: a1 :: a2 :: vI x :: l) (st) σ = run 130 109 (a0 :: a1 :: a2 :: vI x :: l) (vI x :: st) σ := (run_eq 130 108 _ _ σ).trans rfl
theorem e130_109 (ls st : List AV) (σ : St) (j : Int) (x : Nat) (h : aok σ x 4 j) : run 130 109 (ls) (vI j :: vR x :: st) σ = run 130 110 (ls) (vI (gt σ x j.toNat) :: st) σ := (run_eq 130 109 _ _ σ).trans (if_pos h)
theorem e130_110 (ls st : List AV) (σ : St) (y x : Int) : run 130 110 (ls) (vI y :: vI x :: st) σ = if x < y then run 130 113 (ls) (st) σ else run 130 117 (ls) (st) σ := (run_eq 130 110 _ _ σ).trans rfl
theorem e130_113 (ls st : List AV) (σ : St) : run 130 113 (ls) (st) σ = run 130 114 (ls) (vI 1 :: st) σ := (run_eq 130 113 _ _ σ).trans rfl
theorem e130_114 (ls st : List AV) (σ : St) : run 130 114 (ls) (st) σ = run 130 118 (ls) (st) σ := (run_eq 130 114 _ _ σ).trans rfl
theorem e130_117 (ls st : List AV) (σ : St) : run 130 117 (ls) (st) σ = run 130 118 (ls) (vI 0 :: st) σ := (run_eq 130 117 _ _ σ).trans rfl
theorem e130_118 (a0 a1 : AV) (l st : List AV) (σ : St) (q : AV) (x : Int) : run 130 118 (a0 :: a1 :: q :: l) (vI x :: st) σ = run 130 119 (a0 :: a1 :: vI x :: l) (st) σ := (run_eq 130 118 _ _ σ).trans rfl
theorem e130_119 (l st : List AV) (σ : St) (x : Nat) : run 130 119 (vR x :: l) (st) σ = run 130 120 (vR x :: l) (vR x :: st) σ := (run_eq 130 119 _ _ σ).trans rfl
theorem e130_120 (ls st : List AV) (σ : St) (x : Nat) (h : fok σ x 3) : run 130 120 (ls) (vR x :: st) σ = run 130 123 (ls) (vR (gr σ x 17) :: st) σ := (run_eq 130 120 _ _ σ).trans (if_pos h)
theorem e130_123 (a0 a1 a2 : AV) (l st : List AV) (σ : St) (x : Int) : run 130 123 (a0 :: a1 :: a2 :: vI x :: l) (st) σ = run 130 124 (a0 :: a1 :: a2 :: vI x :: l) (vI x :: st) σ := (run_eq 130 123 _ _ σ).trans rfl
theorem e130_124 (a0 a1 a2 a3 a4 a5 : AV) (l st : List AV) (σ : St) (x : Int) : run 130 124 (a0 :: a1 :: a2 :: a3 :: a4 :: a5 :: vI x :: l) (st) σ = run 130 126 (a0 :: a1 :: a2 :: a3 :: a4 :: a5 :: vI x :: l) (vI x :: st) σ := (run_eq 130 124 _ _ σ).trans rfl
theorem e130_126 (l st : List AV) (σ : St) (x : Nat) : run 130 126 (vR x :: l) (st) σ = run 130 127 (vR x :: l) (vR x :: st) σ := (run_eq 130 126 _ _ σ).trans rfl
theorem e130_127 (ls st : List AV) (σ : St) (x : Nat) (h : fok σ x 3) : run 130 127 (ls) (vR x :: st) σ = run 130 130 (ls) (vR (gr σ x 17) :: st) σ := (run_eq 130 127 _ _ σ).trans (if_pos h)
theorem e130_130 (a0 a1 a2 : AV) (l st : List AV) (σ : St) (x : Int) : run 130 130 (a0 :: a1 :: a2 :: vI x :: l) (st) σ = run 130 131 (a0 :: a1 :: a2 :: vI x :: l) (vI x :: st) σ := (run_eq 130 130 _ _ σ).trans rfl
theorem e130_131 (ls st : List AV) (σ : St) (j : Int) (x : Nat) (h : aok σ x 4 j) : run 130 131 (ls) (vI j :: vR x :: st) σ = run 130 132 (ls) (vI (gt σ x j.toNat) :: st) σ := (run_eq 130 131 _ _ σ).trans (if_pos h)
theorem e130_132 (ls st : List AV) (σ : St) (y x : Int) : run 130 132 (ls) (vI y :: vI x :: st) σ = if x < y then run 130 135 (ls) (st) σ else run 130 140 (ls) (st) σ := (run_eq 130 132 _ _ σ).trans rfl
theorem e130_135 (a0 a1 a2 a3 a4 a5 : AV) (l st : List AV) (σ : St) (x : Int) : run 130 135 (a0 :: a1 :: a2 :: a3 :: a4 :: a5 :: vI x :: l) (st) σ = run 130 137 (a0 :: a1 :: a2 :: a3 :: a4 :: a5 :: vI x :: l) (vI x :: st) σ := (run_eq 130 135 _ _ σ).trans rfl
theorem e130_137 (ls st : List AV) (σ : St) : run 130 137 (ls) (st) σ = run 130 146 (ls) (st) σ := (run_eq 130 137 _ _ σ).trans rfl
theorem e130_140 (l st : List AV) (σ : St) (x : Nat) : run 130 140 (vR x :: l) (st) σ = run 130 141 (vR x :: l) (vR x :: st) σ := (run_eq 130 140 _ _ σ).trans rfl
theorem e130_141 (ls st : List AV) (σ : St) (x : Nat) (h : fok σ x 3) : run 130 141 (ls) (vR x :: st) σ = run 130 144 (ls) (vR (gr σ x 17) :: st) σ := (run_eq 130 141 _ _ σ).trans (if_pos h)
theorem e130_144 (a0 a1 a2 : AV) (l st : List AV) (σ : St) (x : Int) : run 130 144 (a0 :: a1 :: a2 :: vI x :: l) (st) σ = run 130 145 (a0 :: a1 :: a2 :: vI x :: l) (vI x :: st) σ := (run_eq 130 144 _ _ σ).trans rfl
theorem e130_145 (ls st : List AV) (σ : St) (j : Int) (x : Nat) (h : aok σ x 4 j) : run 130 145 (ls) (vI j :: vR x :: st) σ = run 130 146 (ls) (vI (gt σ x j.toNat) :: st) σ := (run_eq 130 145 _ _ σ).trans (if_pos h)
theorem e130_146 (ls st : List AV) (σ : St) (z j : Int) (x : Nat) (h : aok σ x 4 j) : run 130 146 (ls) (vI z :: vI j :: vR x :: st) σ = run 130 147 (ls) (st) (sr σ x (ru (gt σ x) j.toNat z)) := (run_eq 130 146 _ _ σ).trans (if_pos h)
theorem e130_147 (a0 a1 a2 a3 : AV) (l st : List AV) (σ : St) (x : Int) : run 130 147 (a0 :: a1 :: a2 :: a3 :: vI x :: l) (st) σ = run 130 150 (a0 :: a1 :: a2 :: a3 :: vI (wr (x + 1)) :: l) (st) σ := (run_eq 130 147 _ _ σ).trans rfl
theorem e130_150 (ls st : List AV) (σ : St) : run 130 150 (ls) (st) σ = run 130 52 (ls) (st) σ := (run_eq 130 150 _ _ σ).trans rfl
theorem e130_153 (a0 a1 a2 : AV) (l st : List AV) (σ : St) (x : Int) : run 130 153 (a0 :: a1 :: a2 :: vI x :: l) (st) σ = run 130 156 (a0 :: a1 :: a2 :: vI (wr (x + 1)) :: l) (st) σ := (run_eq 130 153 _ _ σ).trans rfl
theorem e130_156 (ls st : List AV) (σ : St) : run 130 156 (ls) (st) σ = run 130 41 (ls) (st) σ := (run_eq 130 156 _ _ σ).trans rfl
theorem e130_159 (ls st : List AV) (σ : St) : run 130 159 (ls) (st) σ = run 130 33 (ls) (st) σ := (run_eq 130 159 _ _ σ).trans rfl
theorem e130_162 (ls : List AV) (σ : St) : run 130 162 ls [] σ = some (vU, σ) := (run_eq 130 162 _ _ σ).trans rfl
/-! M_anyWants -/
theorem e131_0 (ls st : List AV) (σ : St) : run 131 0 (ls) (st) σ = run 131 1 (ls) (vI 0 :: st) σ := (run_eq 131 0 _ _ σ).trans rfl
theorem e131_1 (a0 a1 : AV) (l st : List AV) (σ : St) (q : AV) (x : Int) : run 131 1 (a0 :: a1 :: q :: l) (vI x :: st) σ = run 131 2 (a0 :: a1 :: vI x :: l) (st) σ := (run_eq 131 1 _ _ σ).trans rfl
theorem e131_2 (ls st : List AV) (σ : St) : run 131 2 (ls) (st) σ = run 131 3 (ls) (vI 0 :: st) σ := (run_eq 131 2 _ _ σ).trans rfl
theorem e131_3 (a0 a1 a2 : AV) (l st : List AV) (σ : St) (q : AV) (x : Int) : run 131 3 (a0 :: a1 :: a2 :: q :: l) (vI x :: st) σ = run 131 4 (a0 :: a1 :: a2 :: vI x :: l) (st) σ := (run_eq 131 3 _ _ σ).trans rfl
theorem e131_4 (a0 a1 a2 : AV) (l st : List AV) (σ : St) (x : Int) : run 131 4 (a0 :: a1 :: a2 :: vI x :: l) (st) σ = run 131 5 (a0 :: a1 :: a2 :: vI x :: l) (vI x :: st) σ := (run_eq 131 4 _ _ σ).trans rfl
theorem e131_5 (ls st : List AV) (σ : St) : run 131 5 (ls) (st) σ = run 131 6 (ls) (vI 4 :: st) σ := (run_eq 131 5 _ _ σ).trans rfl
theorem e131_6 (ls st : List AV) (σ : St) (y x : Int) : run 131 6 (ls) (vI y :: vI x :: st) σ = if x < y then run 131 9 (ls) (st) σ else run 131 35 (ls) (st) σ := (run_eq 131 6 _ _ σ).trans rfl
theorem e131_9 (l st : List AV) (σ : St) (x : Nat) : run 131 9 (vR x :: l) (st) σ = run 131 10 (vR x :: l) (vR x :: st) σ := (run_eq 131 9 _ _ σ).trans rfl
theorem e131_10 (ls st : List AV) (σ : St) (x : Nat) (h : fok σ x 3) : run 131 10 (ls) (vR x :: st) σ = run 131 13 (ls) (vR (gr σ x 6) :: st) σ := (run_eq 131 10 _ _ σ).trans (if_pos h)
theorem e131_13 (ls st : List AV) (σ : St) : run 131 13 (ls) (st) σ = run 131 15 (ls) (vI 24 :: st) σ := (run_eq 131 13 _ _ σ).trans rfl
theorem e131_15 (a0 a1 a2 : AV) (l st : List AV) (σ : St) (x : Int) : run 131 15 (a0 :: a1 :: a2 :: vI x :: l) (st) σ = run 131 16 (a0 :: a1 :: a2 :: vI x :: l) (vI x :: st) σ := (run_eq 131 15 _ _ σ).trans rfl
theorem e131_16 (ls st : List AV) (σ : St) (y x : Int) : run 131 16 (ls) (vI y :: vI x :: st) σ = run 131 17 (ls) (vI (wr (x * y)) :: st) σ := (run_eq 131 16 _ _ σ).trans rfl
theorem e131_17 (a0 : AV) (l st : List AV) (σ : St) (x : Int) : run 131 17 (a0 :: vI x :: l) (st) σ = run 131 18 (a0 :: vI x :: l) (vI x :: st) σ := (run_eq 131 17 _ _ σ).trans rfl
theorem e131_18 (ls st : List AV) (σ : St) (y x : Int) : run 131 18 (ls) (vI y :: vI x :: st) σ = run 131 19 (ls) (vI (wr (x + y)) :: st) σ := (run_eq 131 18 _ _ σ).trans rfl
theorem e131_19 (ls st : List AV) (σ : St) (j : Int) (x : Nat) (h : aok σ x 4 j) : run 131 19 (ls) (vI j :: vR x :: st) σ = run 131 20 (ls) (vI (gt σ x j.toNat) :: st) σ := (run_eq 131 19 _ _ σ).trans (if_pos h)
theorem e131_20 (ls st : List AV) (σ : St) (x : Int) : run 131 20 (ls) (vI x :: st) σ = if x < 0 then run 131 27 (ls) (st) σ else run 131 23 (ls) (st) σ := (run_eq 131 20 _ _ σ).trans rfl
theorem e131_23 (ls st : List AV) (σ : St) : run 131 23 (ls) (st) σ = run 131 24 (ls) (vI 1 :: st) σ := (run_eq 131 23 _ _ σ).trans rfl
theorem e131_24 (ls st : List AV) (σ : St) : run 131 24 (ls) (st) σ = run 131 28 (ls) (st) σ := (run_eq 131 24 _ _ σ).trans rfl
theorem e131_27 (a0 a1 : AV) (l st : List AV) (σ : St) (x : Int) : run 131 27 (a0 :: a1 :: vI x :: l) (st) σ = run 131 28 (a0 :: a1 :: vI x :: l) (vI x :: st) σ := (run_eq 131 27 _ _ σ).trans rfl
theorem e131_28 (a0 a1 : AV) (l st : List AV) (σ : St) (q : AV) (x : Int) : run 131 28 (a0 :: a1 :: q :: l) (vI x :: st) σ = run 131 29 (a0 :: a1 :: vI x :: l) (st) σ := (run_eq 131 28 _ _ σ).trans rfl
theorem e131_29 (a0 a1 a2 : AV) (l st : List AV) (σ : St) (x : Int) : run 131 29 (a0 :: a1 :: a2 :: vI x :: l) (st) σ = run 131 32 (a0 :: a1 :: a2 :: vI (wr (x + 1)) :: l) (st) σ := (run_eq 131 29 _ _ σ).trans rfl
theorem e131_32 (ls st : List AV) (σ : St) : run 131 32 (ls) (st) σ = run 131 4 (ls) (st) σ := (run_eq 131 32 _ _ σ).trans rfl
theorem e131_35 (a0 a1 : AV) (l st : List AV) (σ : St) (x : Int) : run 131 35 (a0 :: a1 :: vI x :: l) (st) σ = run 131 36 (a0 :: a1 :: vI x :: l) (vI x :: st) σ := (run_eq 131 35 _ _ σ).trans rfl
theorem e131_36 (ls : List AV) (σ : St) (x : Int) : run 131 36 ls [vI x] σ = some (vI x, σ) := (run_eq 131 36 _ _ σ).trans rfl
/-! M_wins -/
theorem e132_0 (l st : List AV) (σ : St) (x : Nat) : run 132 0 (vR x :: l) (st) σ = run 132 1 (vR x :: l) (vR x :: st) σ := (run_eq 132 0 _ _ σ).trans rfl
theorem e132_1 (a0 : AV) (l st : List AV) (σ : St) (x : Int) : run 132 1 (a0 :: vI x :: l) (st) σ = run 132 2 (a0 :: vI x :: l) (vI x :: st) σ := (run_eq 132 1 _ _ σ).trans rfl
theorem e132_2 (ls st : List AV) (σ : St) (x0 : Nat) (x1 : Int) (h4 : st.length ≤ 4) (h : fok σ x0 3) : run 132 2 ls (vI x1 :: vR x0 :: st) σ = bnd (run 133 0 [vR x0, vI x1] [] σ) (fun r σ => run 132 5 ls (psh r st) σ) := (run_eq 132 2 _ _ σ).trans (if_pos ⟨rfl, by simp, by simpa using h4, rfl, h⟩)
theorem e132_5 (ls st : List AV) (σ : St) (x : Int) : run 132 5 (ls) (vI x :: st) σ = if x = 0 then run 132 8 (ls) (st) σ else run 132 13 (ls) (st) σ := (run_eq 132 5 _ _ σ).trans rfl
theorem e132_8 (ls st : List AV) (σ : St) : run 132 8 (ls) (st) σ = run 132 10 (ls) (vI (-2) :: st) σ := (run_eq 132 8 _ _ σ).trans rfl
theorem e132_10 (ls st : List AV) (σ : St) : run 132 10 (ls) (st) σ = run 132 26 (ls) (st) σ := (run_eq 132 10 _ _ σ).trans rfl
theorem e132_13 (l st : List AV) (σ : St) (x : Nat) : run 132 13 (vR x :: l) (st) σ = run 132 14 (vR x :: l) (vR x :: st) σ := (run_eq 132 13 _ _ σ).trans rfl
theorem e132_14 (a0 : AV) (l st : List AV) (σ : St) (x : Int) : run 132 14 (a0 :: vI x :: l) (st) σ = run 132 15 (a0 :: vI x :: l) (vI x :: st) σ := (run_eq 132 14 _ _ σ).trans rfl
theorem e132_15 (ls st : List AV) (σ : St) (x0 : Nat) (x1 : Int) (h4 : st.length ≤ 4) (h : fok σ x0 3) : run 132 15 ls (vI x1 :: vR x0 :: st) σ = bnd (run 134 0 [vR x0, vI x1, vU, vU] [] σ) (fun r σ => run 132 18 ls (psh r st) σ) := (run_eq 132 15 _ _ σ).trans (if_pos ⟨rfl, by simp, by simpa using h4, rfl, h⟩)
theorem e132_18 (ls st : List AV) (σ : St) (x : Int) : run 132 18 (ls) (vI x :: st) σ = if x = 0 then run 132 25 (ls) (st) σ else run 132 21 (ls) (st) σ := (run_eq 132 18 _ _ σ).trans rfl
theorem e132_21 (ls st : List AV) (σ : St) : run 132 21 (ls) (st) σ = run 132 22 (ls) (vI 0 :: st) σ := (run_eq 132 21 _ _ σ).trans rfl
theorem e132_22 (ls st : List AV) (σ : St) : run 132 22 (ls) (st) σ = run 132 26 (ls) (st) σ := (run_eq 132 22 _ _ σ).trans rfl
theorem e132_25 (ls st : List AV) (σ : St) : run 132 25 (ls) (st) σ = run 132 26 (ls) (vI 1 :: st) σ := (run_eq 132 25 _ _ σ).trans rfl
theorem e132_26 (ls : List AV) (σ : St) (x : Int) : run 132 26 ls [vI x] σ = some (vI x, σ) := (run_eq 132 26 _ _ σ).trans rfl
/-! M_areCells -/
theorem e133_0 (a0 : AV) (l st : List AV) (σ : St) (x : Int) : run 133 0 (a0 :: vI x :: l) (st) σ = run 133 1 (a0 :: vI x :: l) (vI x :: st) σ := (run_eq 133 0 _ _ σ).trans rfl
theorem e133_1 (ls st : List AV) (σ : St) : run 133 1 (ls) (st) σ = run 133 2 (ls) (vI 0 :: st) σ := (run_eq 133 1 _ _ σ).trans rfl
theorem e133_2 (ls st : List AV) (σ : St) : run 133 2 (ls) (st) σ = run 133 3 (ls) (vI 1 :: st) σ := (run_eq 133 2 _ _ σ).trans rfl
theorem e133_3 (l st : List AV) (σ : St) (x : Nat) : run 133 3 (vR x :: l) (st) σ = run 133 4 (vR x :: l) (vR x :: st) σ := (run_eq 133 3 _ _ σ).trans rfl
theorem e133_4 (ls st : List AV) (σ : St) (x0 : Nat) (h4 : st.length ≤ 4) (h : fok σ x0 3) : run 133 4 ls (vR x0 :: st) σ = bnd (run 95 0 [vR x0] [] σ) (fun r σ => run 133 7 ls (psh r st) σ) := (run_eq 133 4 _ _ σ).trans (if_pos ⟨rfl, by simp, by simpa using h4, rfl, h⟩)
theorem e133_7 (ls st : List AV) (σ : St) (y x : Int) : run 133 7 (ls) (vI y :: vI x :: st) σ = run 133 8 (ls) (vI (bShl x y) :: st) σ := (run_eq 133 7 _ _ σ).trans rfl
theorem e133_8 (ls st : List AV) (σ : St) : run 133 8 (ls) (st) σ = run 133 9 (ls) (vI 1 :: st) σ := (run_eq 133 8 _ _ σ).trans rfl
theorem e133_9 (ls st : List AV) (σ : St) (y x : Int) : run 133 9 (ls) (vI y :: vI x :: st) σ = run 133 10 (ls) (vI (wr (x - y)) :: st) σ := (run_eq 133 9 _ _ σ).trans rfl
theorem e133_10 (ls st : List AV) (σ : St) (x0 : Int) (x1 : Int) (x2 : Int) (h4 : st.length ≤ 4) : run 133 10 ls (vI x2 :: vI x1 :: vI x0 :: st) σ = bnd (run 92 0 [vI x0, vI x1, vI x2] [] σ) (fun r σ => run 133 13 ls (psh r st) σ) := (run_eq 133 10 _ _ σ).trans (if_pos ⟨rfl, by simp, by simpa using h4⟩)
theorem e133_13 (ls : List AV) (σ : St) (x : Int) (h : x = 0 ∨ x = 1) : run 133 13 ls [vI x] σ = some (vI x, σ) := (run_eq 133 13 _ _ σ).trans (if_pos h)
/-! M_over -/
theorem e134_0 (ls st : List AV) (σ : St) : run 134 0 (ls) (st) σ = run 134 1 (ls) (vI 0 :: st) σ := (run_eq 134 0 _ _ σ).trans rfl
theorem e134_1 (a0 a1 : AV) (l st : List AV) (σ : St) (q : AV) (x : Int) : run 134 1 (a0 :: a1 :: q :: l) (vI x :: st) σ = run 134 2 (a0 :: a1 :: vI x :: l) (st) σ := (run_eq 134 1 _ _ σ).trans rfl
theorem e134_2 (ls st : List AV) (σ : St) : run 134 2 (ls) (st) σ = run 134 3 (ls) (vI 0 :: st) σ := (run_eq 134 2 _ _ σ).trans rfl
theorem e134_3 (a0 a1 a2 : AV) (l st : List AV) (σ : St) (q : AV) (x : Int) : run 134 3 (a0 :: a1 :: a2 :: q :: l) (vI x :: st) σ = run 134 4 (a0 :: a1 :: a2 :: vI x :: l) (st) σ := (run_eq 134 3 _ _ σ).trans rfl
theorem e134_4 (a0 a1 a2 : AV) (l st : List AV) (σ : St) (x : Int) : run 134 4 (a0 :: a1 :: a2 :: vI x :: l) (st) σ = run 134 5 (a0 :: a1 :: a2 :: vI x :: l) (vI x :: st) σ := (run_eq 134 4 _ _ σ).trans rfl
theorem e134_5 (ls st : List AV) (σ : St) : run 134 5 (ls) (st) σ = run 134 7 (ls) (vI 24 :: st) σ := (run_eq 134 5 _ _ σ).trans rfl
theorem e134_7 (ls st : List AV) (σ : St) (y x : Int) : run 134 7 (ls) (vI y :: vI x :: st) σ = if x < y then run 134 10 (ls) (st) σ else run 134 37 (ls) (st) σ := (run_eq 134 7 _ _ σ).trans rfl
theorem e134_10 (a0 a1 : AV) (l st : List AV) (σ : St) (x : Int) : run 134 10 (a0 :: a1 :: vI x :: l) (st) σ = run 134 11 (a0 :: a1 :: vI x :: l) (vI x :: st) σ := (run_eq 134 10 _ _ σ).trans rfl
theorem e134_11 (a0 : AV) (l st : List AV) (σ : St) (x : Int) : run 134 11 (a0 :: vI x :: l) (st) σ = run 134 12 (a0 :: vI x :: l) (vI x :: st) σ := (run_eq 134 11 _ _ σ).trans rfl
theorem e134_12 (a0 a1 a2 : AV) (l st : List AV) (σ : St) (x : Int) : run 134 12 (a0 :: a1 :: a2 :: vI x :: l) (st) σ = run 134 13 (a0 :: a1 :: a2 :: vI x :: l) (vI x :: st) σ := (run_eq 134 12 _ _ σ).trans rfl
theorem e134_13 (ls st : List AV) (σ : St) (x0 : Int) (x1 : Int) (h4 : st.length ≤ 4) : run 134 13 ls (vI x1 :: vI x0 :: st) σ = bnd (run 109 0 [vI x0, vI x1] [] σ) (fun r σ => run 134 16 ls (psh r st) σ) := (run_eq 134 13 _ _ σ).trans (if_pos ⟨rfl, by simp, by simpa using h4⟩)
theorem e134_16 (ls st : List AV) (σ : St) (x : Int) : run 134 16 (ls) (vI x :: st) σ = if x = 0 then run 134 28 (ls) (st) σ else run 134 19 (ls) (st) σ := (run_eq 134 16 _ _ σ).trans rfl
theorem e134_19 (l st : List AV) (σ : St) (x : Nat) : run 134 19 (vR x :: l) (st) σ = run 134 20 (vR x :: l) (vR x :: st) σ := (run_eq 134 19 _ _ σ).trans rfl
theorem e134_20 (ls st : List AV) (σ : St) (x : Nat) (h : fok σ x 3) : run 134 20 (ls) (vR x :: st) σ = run 134 23 (ls) (vR (gr σ x 2) :: st) σ := (run_eq 134 20 _ _ σ).trans (if_pos h)
theorem e134_23 (a0 a1 a2 : AV) (l st : List AV) (σ : St) (x : Int) : run 134 23 (a0 :: a1 :: a2 :: vI x :: l) (st) σ = run 134 24 (a0 :: a1 :: a2 :: vI x :: l) (vI x :: st) σ := (run_eq 134 23 _ _ σ).trans rfl
theorem e134_24 (ls st : List AV) (σ : St) (j : Int) (x : Nat) (h : aok σ x 4 j) : run 134 24 (ls) (vI j :: vR x :: st) σ = run 134 25 (ls) (vI (gt σ x j.toNat) :: st) σ := (run_eq 134 24 _ _ σ).trans (if_pos h)
theorem e134_25 (ls st : List AV) (σ : St) : run 134 25 (ls) (st) σ = run 134 29 (ls) (st) σ := (run_eq 134 25 _ _ σ).trans rfl
theorem e134_28 (ls st : List AV) (σ : St) : run 134 28 (ls) (st) σ = run 134 29 (ls) (vI 0 :: st) σ := (run_eq 134 28 _ _ σ).trans rfl
theorem e134_29 (ls st : List AV) (σ : St) (y x : Int) : run 134 29 (ls) (vI y :: vI x :: st) σ = run 134 30 (ls) (vI (bXor x y) :: st) σ := (run_eq 134 29 _ _ σ).trans rfl
theorem e134_30 (a0 a1 : AV) (l st : List AV) (σ : St) (q : AV) (x : Int) : run 134 30 (a0 :: a1 :: q :: l) (vI x :: st) σ = run 134 31 (a0 :: a1 :: vI x :: l) (st) σ := (run_eq 134 30 _ _ σ).trans rfl
theorem e134_31 (a0 a1 a2 : AV) (l st : List AV) (σ : St) (x : Int) : run 134 31 (a0 :: a1 :: a2 :: vI x :: l) (st) σ = run 134 34 (a0 :: a1 :: a2 :: vI (wr (x + 1)) :: l) (st) σ := (run_eq 134 31 _ _ σ).trans rfl
theorem e134_34 (ls st : List AV) (σ : St) : run 134 34 (ls) (st) σ = run 134 4 (ls) (st) σ := (run_eq 134 34 _ _ σ).trans rfl
theorem e134_37 (a0 a1 : AV) (l st : List AV) (σ : St) (x : Int) : run 134 37 (a0 :: a1 :: vI x :: l) (st) σ = run 134 38 (a0 :: a1 :: vI x :: l) (vI x :: st) σ := (run_eq 134 37 _ _ σ).trans rfl
theorem e134_38 (ls : List AV) (σ : St) (x : Int) : run 134 38 ls [vI x] σ = some (vI x, σ) := (run_eq 134 38 _ _ σ).trans rfl
/-! M_cut -/
theorem e135_0 (l st : List AV) (σ : St) (x : Nat) : run 135 0 (vR x :: l) (st) σ = run 135 1 (vR x :: l) (vR x :: st) σ := (run_eq 135 0 _ _ σ).trans rfl
theorem e135_1 (a0 : AV) (l st : List AV) (σ : St) (x : Int) : run 135 1 (a0 :: vI x :: l) (st) σ = run 135 2 (a0 :: vI x :: l) (vI x :: st) σ := (run_eq 135 1 _ _ σ).trans rfl
theorem e135_2 (ls st : List AV) (σ : St) (x0 : Nat) (x1 : Int) (h4 : st.length ≤ 4) (h : fok σ x0 3) : run 135 2 ls (vI x1 :: vR x0 :: st) σ = bnd (run 133 0 [vR x0, vI x1] [] σ) (fun r σ => run 135 5 ls (psh r st) σ) := (run_eq 135 2 _ _ σ).trans (if_pos ⟨rfl, by simp, by simpa using h4, rfl, h⟩)
theorem e135_5 (ls st : List AV) (σ : St) (x : Int) : run 135 5 (ls) (vI x :: st) σ = if x = 0 then run 135 8 (ls) (st) σ else run 135 11 (ls) (st) σ := (run_eq 135 5 _ _ σ).trans rfl
theorem e135_8 (ls st : List AV) (σ : St) : run 135 8 (ls) (st) σ = run 135 10 (ls) (vI (-2) :: st) σ := (run_eq 135 8 _ _ σ).trans rfl
theorem e135_10 (ls : List AV) (σ : St) (x : Int) : run 135 10 ls [vI x] σ = some (vI x, σ) := (run_eq 135 10 _ _ σ).trans rfl
theorem e135_11 (l st : List AV) (σ : St) (x : Nat) : run 135 11 (vR x :: l) (st) σ = run 135 12 (vR x :: l) (vR x :: st) σ := (run_eq 135 11 _ _ σ).trans rfl
theorem e135_12 (a0 : AV) (l st : List AV) (σ : St) (x : Int) : run 135 12 (a0 :: vI x :: l) (st) σ = run 135 13 (a0 :: vI x :: l) (vI x :: st) σ := (run_eq 135 12 _ _ σ).trans rfl
theorem e135_13 (ls st : List AV) (σ : St) (x0 : Nat) (x1 : Int) (h4 : st.length ≤ 4) (h : fok σ x0 3) : run 135 13 ls (vI x1 :: vR x0 :: st) σ = bnd (run 134 0 [vR x0, vI x1, vU, vU] [] σ) (fun r σ => run 135 16 ls (psh r st) σ) := (run_eq 135 13 _ _ σ).trans (if_pos ⟨rfl, by simp, by simpa using h4, rfl, h⟩)
theorem e135_16 (a0 a1 : AV) (l st : List AV) (σ : St) (q : AV) (x : Int) : run 135 16 (a0 :: a1 :: q :: l) (vI x :: st) σ = run 135 17 (a0 :: a1 :: vI x :: l) (st) σ := (run_eq 135 16 _ _ σ).trans rfl
theorem e135_17 (ls st : List AV) (σ : St) : run 135 17 (ls) (st) σ = run 135 18 (ls) (vI 0 :: st) σ := (run_eq 135 17 _ _ σ).trans rfl
theorem e135_18 (a0 a1 a2 : AV) (l st : List AV) (σ : St) (q : AV) (x : Int) : run 135 18 (a0 :: a1 :: a2 :: q :: l) (vI x :: st) σ = run 135 19 (a0 :: a1 :: a2 :: vI x :: l) (st) σ := (run_eq 135 18 _ _ σ).trans rfl
theorem e135_19 (a0 a1 a2 : AV) (l st : List AV) (σ : St) (x : Int) : run 135 19 (a0 :: a1 :: a2 :: vI x :: l) (st) σ = run 135 20 (a0 :: a1 :: a2 :: vI x :: l) (vI x :: st) σ := (run_eq 135 19 _ _ σ).trans rfl
theorem e135_20 (ls st : List AV) (σ : St) : run 135 20 (ls) (st) σ = run 135 22 (ls) (vI 24 :: st) σ := (run_eq 135 20 _ _ σ).trans rfl
theorem e135_22 (ls st : List AV) (σ : St) (y x : Int) : run 135 22 (ls) (vI y :: vI x :: st) σ = if x < y then run 135 25 (ls) (st) σ else run 135 74 (ls) (st) σ := (run_eq 135 22 _ _ σ).trans rfl
theorem e135_25 (a0 : AV) (l st : List AV) (σ : St) (x : Int) : run 135 25 (a0 :: vI x :: l) (st) σ = run 135 26 (a0 :: vI x :: l) (vI x :: st) σ := (run_eq 135 25 _ _ σ).trans rfl
theorem e135_26 (a0 a1 a2 : AV) (l st : List AV) (σ : St) (x : Int) : run 135 26 (a0 :: a1 :: a2 :: vI x :: l) (st) σ = run 135 27 (a0 :: a1 :: a2 :: vI x :: l) (vI x :: st) σ := (run_eq 135 26 _ _ σ).trans rfl
theorem e135_27 (ls st : List AV) (σ : St) (x0 : Int) (x1 : Int) (h4 : st.length ≤ 4) : run 135 27 ls (vI x1 :: vI x0 :: st) σ = bnd (run 109 0 [vI x0, vI x1] [] σ) (fun r σ => run 135 30 ls (psh r st) σ) := (run_eq 135 27 _ _ σ).trans (if_pos ⟨rfl, by simp, by simpa using h4⟩)
theorem e135_30 (ls st : List AV) (σ : St) (x : Int) : run 135 30 (ls) (vI x :: st) σ = if x = 0 then run 135 68 (ls) (st) σ else run 135 33 (ls) (st) σ := (run_eq 135 30 _ _ σ).trans rfl
theorem e135_33 (a0 a1 : AV) (l st : List AV) (σ : St) (x : Int) : run 135 33 (a0 :: a1 :: vI x :: l) (st) σ = run 135 34 (a0 :: a1 :: vI x :: l) (vI x :: st) σ := (run_eq 135 33 _ _ σ).trans rfl
theorem e135_34 (ls st : List AV) (σ : St) (x : Int) : run 135 34 (ls) (vI x :: st) σ = if x = 0 then run 135 68 (ls) (st) σ else run 135 37 (ls) (st) σ := (run_eq 135 34 _ _ σ).trans rfl
theorem e135_37 (l st : List AV) (σ : St) (x : Nat) : run 135 37 (vR x :: l) (st) σ = run 135 38 (vR x :: l) (vR x :: st) σ := (run_eq 135 37 _ _ σ).trans rfl
theorem e135_38 (ls st : List AV) (σ : St) (x : Nat) (h : fok σ x 3) : run 135 38 (ls) (vR x :: st) σ = run 135 41 (ls) (vR (gr σ x 2) :: st) σ := (run_eq 135 38 _ _ σ).trans (if_pos h)
theorem e135_41 (a0 a1 a2 : AV) (l st : List AV) (σ : St) (x : Int) : run 135 41 (a0 :: a1 :: a2 :: vI x :: l) (st) σ = run 135 42 (a0 :: a1 :: a2 :: vI x :: l) (vI x :: st) σ := (run_eq 135 41 _ _ σ).trans rfl
theorem e135_42 (ls st : List AV) (σ : St) (j : Int) (x : Nat) (h : aok σ x 4 j) : run 135 42 (ls) (vI j :: vR x :: st) σ = run 135 43 (ls) (vI (gt σ x j.toNat) :: st) σ := (run_eq 135 42 _ _ σ).trans (if_pos h)
theorem e135_43 (a0 a1 : AV) (l st : List AV) (σ : St) (x : Int) : run 135 43 (a0 :: a1 :: vI x :: l) (st) σ = run 135 44 (a0 :: a1 :: vI x :: l) (vI x :: st) σ := (run_eq 135 43 _ _ σ).trans rfl
theorem e135_44 (ls st : List AV) (σ : St) (y x : Int) : run 135 44 (ls) (vI y :: vI x :: st) σ = run 135 45 (ls) (vI (bXor x y) :: st) σ := (run_eq 135 44 _ _ σ).trans rfl
theorem e135_45 (l st : List AV) (σ : St) (x : Nat) : run 135 45 (vR x :: l) (st) σ = run 135 46 (vR x :: l) (vR x :: st) σ := (run_eq 135 45 _ _ σ).trans rfl
theorem e135_46 (ls st : List AV) (σ : St) (x : Nat) (h : fok σ x 3) : run 135 46 (ls) (vR x :: st) σ = run 135 49 (ls) (vR (gr σ x 2) :: st) σ := (run_eq 135 46 _ _ σ).trans (if_pos h)
theorem e135_49 (a0 a1 a2 : AV) (l st : List AV) (σ : St) (x : Int) : run 135 49 (a0 :: a1 :: a2 :: vI x :: l) (st) σ = run 135 50 (a0 :: a1 :: a2 :: vI x :: l) (vI x :: st) σ := (run_eq 135 49 _ _ σ).trans rfl
theorem e135_50 (ls st : List AV) (σ : St) (j : Int) (x : Nat) (h : aok σ x 4 j) : run 135 50 (ls) (vI j :: vR x :: st) σ = run 135 51 (ls) (vI (gt σ x j.toNat) :: st) σ := (run_eq 135 50 _ _ σ).trans (if_pos h)
theorem e135_51 (ls st : List AV) (σ : St) (y x : Int) : run 135 51 (ls) (vI y :: vI x :: st) σ = if x < y then run 135 54 (ls) (st) σ else run 135 68 (ls) (st) σ := (run_eq 135 51 _ _ σ).trans rfl
theorem e135_54 (ls st : List AV) (σ : St) : run 135 54 (ls) (st) σ = run 135 56 (ls) (vI 10 :: st) σ := (run_eq 135 54 _ _ σ).trans rfl
theorem e135_56 (a0 a1 a2 : AV) (l st : List AV) (σ : St) (x : Int) : run 135 56 (a0 :: a1 :: a2 :: vI x :: l) (st) σ = run 135 57 (a0 :: a1 :: a2 :: vI x :: l) (vI x :: st) σ := (run_eq 135 56 _ _ σ).trans rfl
theorem e135_57 (ls st : List AV) (σ : St) (y x : Int) : run 135 57 (ls) (vI y :: vI x :: st) σ = run 135 58 (ls) (vI (wr (x * y)) :: st) σ := (run_eq 135 57 _ _ σ).trans rfl
theorem e135_58 (l st : List AV) (σ : St) (x : Nat) : run 135 58 (vR x :: l) (st) σ = run 135 59 (vR x :: l) (vR x :: st) σ := (run_eq 135 58 _ _ σ).trans rfl
theorem e135_59 (ls st : List AV) (σ : St) (x : Nat) (h : fok σ x 3) : run 135 59 (ls) (vR x :: st) σ = run 135 62 (ls) (vR (gr σ x 2) :: st) σ := (run_eq 135 59 _ _ σ).trans (if_pos h)
theorem e135_62 (a0 a1 a2 : AV) (l st : List AV) (σ : St) (x : Int) : run 135 62 (a0 :: a1 :: a2 :: vI x :: l) (st) σ = run 135 63 (a0 :: a1 :: a2 :: vI x :: l) (vI x :: st) σ := (run_eq 135 62 _ _ σ).trans rfl
theorem e135_63 (ls st : List AV) (σ : St) (j : Int) (x : Nat) (h : aok σ x 4 j) : run 135 63 (ls) (vI j :: vR x :: st) σ = run 135 64 (ls) (vI (gt σ x j.toNat) :: st) σ := (run_eq 135 63 _ _ σ).trans (if_pos h)
theorem e135_64 (a0 a1 : AV) (l st : List AV) (σ : St) (x : Int) : run 135 64 (a0 :: a1 :: vI x :: l) (st) σ = run 135 65 (a0 :: a1 :: vI x :: l) (vI x :: st) σ := (run_eq 135 64 _ _ σ).trans rfl
theorem e135_65 (ls st : List AV) (σ : St) (y x : Int) : run 135 65 (ls) (vI y :: vI x :: st) σ = run 135 66 (ls) (vI (bXor x y) :: st) σ := (run_eq 135 65 _ _ σ).trans rfl
theorem e135_66 (ls st : List AV) (σ : St) (y x : Int) : run 135 66 (ls) (vI y :: vI x :: st) σ = run 135 67 (ls) (vI (wr (x + y)) :: st) σ := (run_eq 135 66 _ _ σ).trans rfl
theorem e135_67 (ls : List AV) (σ : St) (x : Int) : run 135 67 ls [vI x] σ = some (vI x, σ) := (run_eq 135 67 _ _ σ).trans rfl
theorem e135_68 (a0 a1 a2 : AV) (l st : List AV) (σ : St) (x : Int) : run 135 68 (a0 :: a1 :: a2 :: vI x :: l) (st) σ = run 135 71 (a0 :: a1 :: a2 :: vI (wr (x + 1)) :: l) (st) σ := (run_eq 135 68 _ _ σ).trans rfl
theorem e135_71 (ls st : List AV) (σ : St) : run 135 71 (ls) (st) σ = run 135 19 (ls) (st) σ := (run_eq 135 71 _ _ σ).trans rfl
theorem e135_74 (ls st : List AV) (σ : St) : run 135 74 (ls) (st) σ = run 135 76 (ls) (vI (-6) :: st) σ := (run_eq 135 74 _ _ σ).trans rfl
theorem e135_76 (ls : List AV) (σ : St) (x : Int) : run 135 76 ls [vI x] σ = some (vI x, σ) := (run_eq 135 76 _ _ σ).trans rfl
/-! M_seen -/
theorem e136_0 (l st : List AV) (σ : St) (x : Nat) : run 136 0 (vR x :: l) (st) σ = run 136 1 (vR x :: l) (vR x :: st) σ := (run_eq 136 0 _ _ σ).trans rfl
theorem e136_1 (a0 : AV) (l st : List AV) (σ : St) (x : Int) : run 136 1 (a0 :: vI x :: l) (st) σ = run 136 2 (a0 :: vI x :: l) (vI x :: st) σ := (run_eq 136 1 _ _ σ).trans rfl
theorem e136_2 (ls st : List AV) (σ : St) (x0 : Nat) (x1 : Int) (h4 : st.length ≤ 4) (h : fok σ x0 3) : run 136 2 ls (vI x1 :: vR x0 :: st) σ = bnd (run 94 0 [vR x0, vI x1] [] σ) (fun r σ => run 136 5 ls (psh r st) σ) := (run_eq 136 2 _ _ σ).trans (if_pos ⟨rfl, by simp, by simpa using h4, rfl, h⟩)
theorem e136_5 (ls st : List AV) (σ : St) (x : Int) : run 136 5 (ls) (vI x :: st) σ = if x = 0 then run 136 8 (ls) (st) σ else run 136 10 (ls) (st) σ := (run_eq 136 5 _ _ σ).trans rfl
theorem e136_8 (ls st : List AV) (σ : St) : run 136 8 (ls) (st) σ = run 136 9 (ls) (vI (-1) :: st) σ := (run_eq 136 8 _ _ σ).trans rfl
theorem e136_9 (ls : List AV) (σ : St) (x : Int) : run 136 9 ls [vI x] σ = some (vI x, σ) := (run_eq 136 9 _ _ σ).trans rfl
theorem e136_10 (a0 a1 : AV) (l st : List AV) (σ : St) (x : Int) : run 136 10 (a0 :: a1 :: vI x :: l) (st) σ = run 136 11 (a0 :: a1 :: vI x :: l) (vI x :: st) σ := (run_eq 136 10 _ _ σ).trans rfl
theorem e136_11 (ls st : List AV) (σ : St) : run 136 11 (ls) (st) σ = run 136 12 (ls) (vI 0 :: st) σ := (run_eq 136 11 _ _ σ).trans rfl
theorem e136_12 (ls st : List AV) (σ : St) : run 136 12 (ls) (st) σ = run 136 14 (ls) (vI 9 :: st) σ := (run_eq 136 12 _ _ σ).trans rfl
theorem e136_14 (ls st : List AV) (σ : St) (x0 : Int) (x1 : Int) (x2 : Int) (h4 : st.length ≤ 4) : run 136 14 ls (vI x2 :: vI x1 :: vI x0 :: st) σ = bnd (run 92 0 [vI x0, vI x1, vI x2] [] σ) (fun r σ => run 136 17 ls (psh r st) σ) := (run_eq 136 14 _ _ σ).trans (if_pos ⟨rfl, by simp, by simpa using h4⟩)
theorem e136_17 (ls st : List AV) (σ : St) (x : Int) : run 136 17 (ls) (vI x :: st) σ = if x = 0 then run 136 20 (ls) (st) σ else run 136 23 (ls) (st) σ := (run_eq 136 17 _ _ σ).trans rfl
theorem e136_20 (ls st : List AV) (σ : St) : run 136 20 (ls) (st) σ = run 136 22 (ls) (vI (-2) :: st) σ := (run_eq 136 20 _ _ σ).trans rfl
theorem e136_22 (ls : List AV) (σ : St) (x : Int) : run 136 22 ls [vI x] σ = some (vI x, σ) := (run_eq 136 22 _ _ σ).trans rfl
theorem e136_23 (l st : List AV) (σ : St) (x : Nat) : run 136 23 (vR x :: l) (st) σ = run 136 24 (vR x :: l) (vR x :: st) σ := (run_eq 136 23 _ _ σ).trans rfl
theorem e136_24 (ls st : List AV) (σ : St) (x : Nat) (h : fok σ x 3) : run 136 24 (ls) (vR x :: st) σ = run 136 27 (ls) (vI (gt σ x 7) :: st) σ := (run_eq 136 24 _ _ σ).trans (if_pos h)
theorem e136_27 (ls st : List AV) (σ : St) : run 136 27 (ls) (st) σ = run 136 29 (ls) (vI 8 :: st) σ := (run_eq 136 27 _ _ σ).trans rfl
theorem e136_29 (ls st : List AV) (σ : St) (y x : Int) : run 136 29 (ls) (vI y :: vI x :: st) σ = if x = y then run 136 32 (ls) (st) σ else run 136 35 (ls) (st) σ := (run_eq 136 29 _ _ σ).trans rfl
theorem e136_32 (ls st : List AV) (σ : St) : run 136 32 (ls) (st) σ = run 136 34 (ls) (vI (-4) :: st) σ := (run_eq 136 32 _ _ σ).trans rfl
theorem e136_34 (ls : List AV) (σ : St) (x : Int) : run 136 34 ls [vI x] σ = some (vI x, σ) := (run_eq 136 34 _ _ σ).trans rfl
theorem e136_35 (l st : List AV) (σ : St) (x : Nat) : run 136 35 (vR x :: l) (st) σ = run 136 36 (vR x :: l) (vR x :: st) σ := (run_eq 136 35 _ _ σ).trans rfl
theorem e136_36 (ls st : List AV) (σ : St) (x : Nat) (h : fok σ x 3) : run 136 36 (ls) (vR x :: st) σ = run 136 39 (ls) (vR (gr σ x 8) :: st) σ := (run_eq 136 36 _ _ σ).trans (if_pos h)
theorem e136_39 (ls st : List AV) (σ : St) : run 136 39 (ls) (st) σ = run 136 40 (ls) (vI 2 :: st) σ := (run_eq 136 39 _ _ σ).trans rfl
theorem e136_40 (l st : List AV) (σ : St) (x : Nat) : run 136 40 (vR x :: l) (st) σ = run 136 41 (vR x :: l) (vR x :: st) σ := (run_eq 136 40 _ _ σ).trans rfl
theorem e136_41 (ls st : List AV) (σ : St) (x : Nat) (h : fok σ x 3) : run 136 41 (ls) (vR x :: st) σ = run 136 44 (ls) (vI (gt σ x 7) :: st) σ := (run_eq 136 41 _ _ σ).trans (if_pos h)
theorem e136_44 (ls st : List AV) (σ : St) (y x : Int) : run 136 44 (ls) (vI y :: vI x :: st) σ = run 136 45 (ls) (vI (wr (x * y)) :: st) σ := (run_eq 136 44 _ _ σ).trans rfl
theorem e136_45 (a0 : AV) (l st : List AV) (σ : St) (x : Int) : run 136 45 (a0 :: vI x :: l) (st) σ = run 136 46 (a0 :: vI x :: l) (vI x :: st) σ := (run_eq 136 45 _ _ σ).trans rfl
theorem e136_46 (ls st : List AV) (σ : St) (z j : Int) (x : Nat) (h : aok σ x 4 j) : run 136 46 (ls) (vI z :: vI j :: vR x :: st) σ = run 136 47 (ls) (st) (sr σ x (ru (gt σ x) j.toNat z)) := (run_eq 136 46 _ _ σ).trans (if_pos h)
theorem e136_47 (l st : List AV) (σ : St) (x : Nat) : run 136 47 (vR x :: l) (st) σ = run 136 48 (vR x :: l) (vR x :: st) σ := (run_eq 136 47 _ _ σ).trans rfl
theorem e136_48 (ls st : List AV) (σ : St) (x : Nat) (h : fok σ x 3) : run 136 48 (ls) (vR x :: st) σ = run 136 51 (ls) (vR (gr σ x 8) :: st) σ := (run_eq 136 48 _ _ σ).trans (if_pos h)
theorem e136_51 (ls st : List AV) (σ : St) : run 136 51 (ls) (st) σ = run 136 52 (ls) (vI 2 :: st) σ := (run_eq 136 51 _ _ σ).trans rfl
theorem e136_52 (l st : List AV) (σ : St) (x : Nat) : run 136 52 (vR x :: l) (st) σ = run 136 53 (vR x :: l) (vR x :: st) σ := (run_eq 136 52 _ _ σ).trans rfl
theorem e136_53 (ls st : List AV) (σ : St) (x : Nat) (h : fok σ x 3) : run 136 53 (ls) (vR x :: st) σ = run 136 56 (ls) (vI (gt σ x 7) :: st) σ := (run_eq 136 53 _ _ σ).trans (if_pos h)
theorem e136_56 (ls st : List AV) (σ : St) (y x : Int) : run 136 56 (ls) (vI y :: vI x :: st) σ = run 136 57 (ls) (vI (wr (x * y)) :: st) σ := (run_eq 136 56 _ _ σ).trans rfl
theorem e136_57 (ls st : List AV) (σ : St) : run 136 57 (ls) (st) σ = run 136 58 (ls) (vI 1 :: st) σ := (run_eq 136 57 _ _ σ).trans rfl
theorem e136_58 (ls st : List AV) (σ : St) (y x : Int) : run 136 58 (ls) (vI y :: vI x :: st) σ = run 136 59 (ls) (vI (wr (x + y)) :: st) σ := (run_eq 136 58 _ _ σ).trans rfl
theorem e136_59 (a0 a1 : AV) (l st : List AV) (σ : St) (x : Int) : run 136 59 (a0 :: a1 :: vI x :: l) (st) σ = run 136 60 (a0 :: a1 :: vI x :: l) (vI x :: st) σ := (run_eq 136 59 _ _ σ).trans rfl
theorem e136_60 (ls st : List AV) (σ : St) (z j : Int) (x : Nat) (h : aok σ x 4 j) : run 136 60 (ls) (vI z :: vI j :: vR x :: st) σ = run 136 61 (ls) (st) (sr σ x (ru (gt σ x) j.toNat z)) := (run_eq 136 60 _ _ σ).trans (if_pos h)
theorem e136_61 (l st : List AV) (σ : St) (x : Nat) : run 136 61 (vR x :: l) (st) σ = run 136 62 (vR x :: l) (vR x :: st) σ := (run_eq 136 61 _ _ σ).trans rfl
theorem e136_62 (ls st : List AV) (σ : St) (x : Nat) : run 136 62 ls (vR x :: st) σ = run 136 63 ls (vR x :: vR x :: st) σ := (run_eq 136 62 _ _ σ).trans rfl
theorem e136_63 (ls st : List AV) (σ : St) (x : Nat) (h : fok σ x 3) : run 136 63 (ls) (vR x :: st) σ = run 136 66 (ls) (vI (gt σ x 7) :: st) σ := (run_eq 136 63 _ _ σ).trans (if_pos h)
theorem e136_66 (ls st : List AV) (σ : St) : run 136 66 (ls) (st) σ = run 136 67 (ls) (vI 1 :: st) σ := (run_eq 136 66 _ _ σ).trans rfl
theorem e136_67 (ls st : List AV) (σ : St) (y x : Int) : run 136 67 (ls) (vI y :: vI x :: st) σ = run 136 68 (ls) (vI (wr (x + y)) :: st) σ := (run_eq 136 67 _ _ σ).trans rfl
theorem e136_68 (ls st : List AV) (σ : St) (z : Int) (x : Nat) (h : fok σ x 3) : run 136 68 (ls) (vI z :: vR x :: st) σ = run 136 71 (ls) (st) (sr σ x (ru (gt σ x) 7 z)) := (run_eq 136 68 _ _ σ).trans (if_pos h)
theorem e136_71 (l st : List AV) (σ : St) (x : Nat) : run 136 71 (vR x :: l) (st) σ = run 136 72 (vR x :: l) (vR x :: st) σ := (run_eq 136 71 _ _ σ).trans rfl
theorem e136_72 (ls st : List AV) (σ : St) (x : Nat) (h : fok σ x 3) : run 136 72 (ls) (vR x :: st) σ = run 136 75 (ls) (vI (gt σ x 7) :: st) σ := (run_eq 136 72 _ _ σ).trans (if_pos h)
theorem e136_75 (ls : List AV) (σ : St) (x : Int) : run 136 75 ls [vI x] σ = some (vI x, σ) := (run_eq 136 75 _ _ σ).trans rfl
/-! M_forget -/
theorem e137_0 (l st : List AV) (σ : St) (x : Nat) : run 137 0 (vR x :: l) (st) σ = run 137 1 (vR x :: l) (vR x :: st) σ := (run_eq 137 0 _ _ σ).trans rfl
theorem e137_1 (ls st : List AV) (σ : St) (x : Nat) (h : fok σ x 3) : run 137 1 (ls) (vR x :: st) σ = run 137 4 (ls) (vI (gt σ x 7) :: st) σ := (run_eq 137 1 _ _ σ).trans (if_pos h)
theorem e137_4 (a0 : AV) (l st : List AV) (σ : St) (q : AV) (x : Int) : run 137 4 (a0 :: q :: l) (vI x :: st) σ = run 137 5 (a0 :: vI x :: l) (st) σ := (run_eq 137 4 _ _ σ).trans rfl
theorem e137_5 (l st : List AV) (σ : St) (x : Nat) : run 137 5 (vR x :: l) (st) σ = run 137 6 (vR x :: l) (vR x :: st) σ := (run_eq 137 5 _ _ σ).trans rfl
theorem e137_6 (ls st : List AV) (σ : St) : run 137 6 (ls) (st) σ = run 137 7 (ls) (vI 0 :: st) σ := (run_eq 137 6 _ _ σ).trans rfl
theorem e137_7 (ls st : List AV) (σ : St) (z : Int) (x : Nat) (h : fok σ x 3) : run 137 7 (ls) (vI z :: vR x :: st) σ = run 137 10 (ls) (st) (sr σ x (ru (gt σ x) 7 z)) := (run_eq 137 7 _ _ σ).trans (if_pos h)
theorem e137_10 (a0 : AV) (l st : List AV) (σ : St) (x : Int) : run 137 10 (a0 :: vI x :: l) (st) σ = run 137 11 (a0 :: vI x :: l) (vI x :: st) σ := (run_eq 137 10 _ _ σ).trans rfl
theorem e137_11 (ls : List AV) (σ : St) (x : Int) : run 137 11 ls [vI x] σ = some (vI x, σ) := (run_eq 137 11 _ _ σ).trans rfl
/-! M_what -/
theorem e138_0 (l st : List AV) (σ : St) (x : Nat) : run 138 0 (vR x :: l) (st) σ = run 138 1 (vR x :: l) (vR x :: st) σ := (run_eq 138 0 _ _ σ).trans rfl
theorem e138_1 (ls st : List AV) (σ : St) (x0 : Nat) (h4 : st.length ≤ 4) (h : fok σ x0 3) : run 138 1 ls (vR x0 :: st) σ = bnd (run 123 0 [vR x0, vU, vU] [] σ) (fun r σ => run 138 4 ls (psh r st) σ) := (run_eq 138 1 _ _ σ).trans (if_pos ⟨rfl, by simp, by simpa using h4, rfl, h⟩)
theorem e138_4 (ls st : List AV) (σ : St) (x : Int) : run 138 4 (ls) (vI x :: st) σ = if x = 0 then run 138 7 (ls) (st) σ else run 138 10 (ls) (st) σ := (run_eq 138 4 _ _ σ).trans rfl
theorem e138_7 (ls st : List AV) (σ : St) : run 138 7 (ls) (st) σ = run 138 9 (ls) (vI (-5) :: st) σ := (run_eq 138 7 _ _ σ).trans rfl
theorem e138_9 (ls : List AV) (σ : St) (x : Int) : run 138 9 ls [vI x] σ = some (vI x, σ) := (run_eq 138 9 _ _ σ).trans rfl
theorem e138_10 (ls st : List AV) (σ : St) : run 138 10 (ls) (st) σ = run 138 11 (ls) (vI 0 :: st) σ := (run_eq 138 10 _ _ σ).trans rfl
theorem e138_11 (a0 a1 : AV) (l st : List AV) (σ : St) (q : AV) (x : Int) : run 138 11 (a0 :: a1 :: q :: l) (vI x :: st) σ = run 138 12 (a0 :: a1 :: vI x :: l) (st) σ := (run_eq 138 11 _ _ σ).trans rfl
theorem e138_12 (ls st : List AV) (σ : St) : run 138 12 (ls) (st) σ = run 138 13 (ls) (vI 0 :: st) σ := (run_eq 138 12 _ _ σ).trans rfl
theorem e138_13 (a0 a1 a2 : AV) (l st : List AV) (σ : St) (q : AV) (x : Int) : run 138 13 (a0 :: a1 :: a2 :: q :: l) (vI x :: st) σ = run 138 14 (a0 :: a1 :: a2 :: vI x :: l) (st) σ := (run_eq 138 13 _ _ σ).trans rfl
theorem e138_14 (a0 a1 a2 : AV) (l st : List AV) (σ : St) (x : Int) : run 138 14 (a0 :: a1 :: a2 :: vI x :: l) (st) σ = run 138 15 (a0 :: a1 :: a2 :: vI x :: l) (vI x :: st) σ := (run_eq 138 14 _ _ σ).trans rfl
theorem e138_15 (ls st : List AV) (σ : St) : run 138 15 (ls) (st) σ = run 138 17 (ls) (vI 10 :: st) σ := (run_eq 138 15 _ _ σ).trans rfl
theorem e138_17 (l st : List AV) (σ : St) (x : Nat) : run 138 17 (vR x :: l) (st) σ = run 138 18 (vR x :: l) (vR x :: st) σ := (run_eq 138 17 _ _ σ).trans rfl
theorem e138_18 (ls st : List AV) (σ : St) (x0 : Nat) (h4 : st.length ≤ 4) (h : fok σ x0 3) : run 138 18 ls (vR x0 :: st) σ = bnd (run 95 0 [vR x0] [] σ) (fun r σ => run 138 21 ls (psh r st) σ) := (run_eq 138 18 _ _ σ).trans (if_pos ⟨rfl, by simp, by simpa using h4, rfl, h⟩)
theorem e138_21 (ls st : List AV) (σ : St) (y x : Int) : run 138 21 (ls) (vI y :: vI x :: st) σ = run 138 22 (ls) (vI (wr (x * y)) :: st) σ := (run_eq 138 21 _ _ σ).trans rfl
theorem e138_22 (ls st : List AV) (σ : St) (y x : Int) : run 138 22 (ls) (vI y :: vI x :: st) σ = if x < y then run 138 25 (ls) (st) σ else run 138 56 (ls) (st) σ := (run_eq 138 22 _ _ σ).trans rfl
theorem e138_25 (l st : List AV) (σ : St) (x : Nat) : run 138 25 (vR x :: l) (st) σ = run 138 26 (vR x :: l) (vR x :: st) σ := (run_eq 138 25 _ _ σ).trans rfl
theorem e138_26 (a0 a1 a2 : AV) (l st : List AV) (σ : St) (x : Int) : run 138 26 (a0 :: a1 :: a2 :: vI x :: l) (st) σ = run 138 27 (a0 :: a1 :: a2 :: vI x :: l) (vI x :: st) σ := (run_eq 138 26 _ _ σ).trans rfl
theorem e138_27 (ls st : List AV) (σ : St) : run 138 27 (ls) (st) σ = run 138 29 (ls) (vI 10 :: st) σ := (run_eq 138 27 _ _ σ).trans rfl
theorem e138_29 (ls st : List AV) (σ : St) (y x : Int) (h : ¬ y = 0) : run 138 29 (ls) (vI y :: vI x :: st) σ = run 138 30 (ls) (vI (wr (x.tdiv y)) :: st) σ := (run_eq 138 29 _ _ σ).trans (if_neg h)
theorem e138_30 (a0 a1 a2 : AV) (l st : List AV) (σ : St) (x : Int) : run 138 30 (a0 :: a1 :: a2 :: vI x :: l) (st) σ = run 138 31 (a0 :: a1 :: a2 :: vI x :: l) (vI x :: st) σ := (run_eq 138 30 _ _ σ).trans rfl
theorem e138_31 (ls st : List AV) (σ : St) : run 138 31 (ls) (st) σ = run 138 33 (ls) (vI 10 :: st) σ := (run_eq 138 31 _ _ σ).trans rfl
theorem e138_33 (ls st : List AV) (σ : St) (y x : Int) (h : ¬ y = 0) : run 138 33 (ls) (vI y :: vI x :: st) σ = run 138 34 (ls) (vI (wr (x.tmod y)) :: st) σ := (run_eq 138 33 _ _ σ).trans (if_neg h)
theorem e138_34 (ls st : List AV) (σ : St) (x0 : Nat) (x1 : Int) (x2 : Int) (h4 : st.length ≤ 4) (h : fok σ x0 3) : run 138 34 ls (vI x2 :: vI x1 :: vR x0 :: st) σ = bnd (run 139 0 [vR x0, vI x1, vI x2, vU, vU] [] σ) (fun r σ => run 138 37 ls (psh r st) σ) := (run_eq 138 34 _ _ σ).trans (if_pos ⟨rfl, by simp, by simpa using h4, rfl, h⟩)
theorem e138_37 (ls st : List AV) (σ : St) (x : Int) : run 138 37 (ls) (vI x :: st) σ = if x = 0 then run 138 50 (ls) (st) σ else run 138 40 (ls) (st) σ := (run_eq 138 37 _ _ σ).trans rfl
theorem e138_40 (a0 a1 : AV) (l st : List AV) (σ : St) (x : Int) : run 138 40 (a0 :: a1 :: vI x :: l) (st) σ = run 138 41 (a0 :: a1 :: vI x :: l) (vI x :: st) σ := (run_eq 138 40 _ _ σ).trans rfl
theorem e138_41 (a0 : AV) (l st : List AV) (σ : St) (x : Int) : run 138 41 (a0 :: vI x :: l) (st) σ = run 138 42 (a0 :: vI x :: l) (vI x :: st) σ := (run_eq 138 41 _ _ σ).trans rfl
theorem e138_42 (ls st : List AV) (σ : St) (y x : Int) : run 138 42 (ls) (vI y :: vI x :: st) σ = if x = y then run 138 45 (ls) (st) σ else run 138 47 (ls) (st) σ := (run_eq 138 42 _ _ σ).trans rfl
theorem e138_45 (a0 a1 a2 : AV) (l st : List AV) (σ : St) (x : Int) : run 138 45 (a0 :: a1 :: a2 :: vI x :: l) (st) σ = run 138 46 (a0 :: a1 :: a2 :: vI x :: l) (vI x :: st) σ := (run_eq 138 45 _ _ σ).trans rfl
theorem e138_46 (ls : List AV) (σ : St) (x : Int) : run 138 46 ls [vI x] σ = some (vI x, σ) := (run_eq 138 46 _ _ σ).trans rfl
theorem e138_47 (a0 a1 : AV) (l st : List AV) (σ : St) (x : Int) : run 138 47 (a0 :: a1 :: vI x :: l) (st) σ = run 138 50 (a0 :: a1 :: vI (wr (x + 1)) :: l) (st) σ := (run_eq 138 47 _ _ σ).trans rfl
theorem e138_50 (a0 a1 a2 : AV) (l st : List AV) (σ : St) (x : Int) : run 138 50 (a0 :: a1 :: a2 :: vI x :: l) (st) σ = run 138 53 (a0 :: a1 :: a2 :: vI (wr (x + 1)) :: l) (st) σ := (run_eq 138 50 _ _ σ).trans rfl
theorem e138_53 (ls st : List AV) (σ : St) : run 138 53 (ls) (st) σ = run 138 14 (ls) (st) σ := (run_eq 138 53 _ _ σ).trans rfl
theorem e138_56 (a0 : AV) (l st : List AV) (σ : St) (x : Int) : run 138 56 (a0 :: vI x :: l) (st) σ = run 138 57 (a0 :: vI x :: l) (vI x :: st) σ := (run_eq 138 56 _ _ σ).trans rfl
theorem e138_57 (ls st : List AV) (σ : St) : run 138 57 (ls) (st) σ = run 138 58 (ls) (vI (-1) :: st) σ := (run_eq 138 57 _ _ σ).trans rfl
theorem e138_58 (ls st : List AV) (σ : St) (y x : Int) : run 138 58 (ls) (vI y :: vI x :: st) σ = if x = y then run 138 61 (ls) (st) σ else run 138 65 (ls) (st) σ := (run_eq 138 58 _ _ σ).trans rfl
theorem e138_61 (a0 a1 : AV) (l st : List AV) (σ : St) (x : Int) : run 138 61 (a0 :: a1 :: vI x :: l) (st) σ = run 138 62 (a0 :: a1 :: vI x :: l) (vI x :: st) σ := (run_eq 138 61 _ _ σ).trans rfl
theorem e138_62 (ls st : List AV) (σ : St) : run 138 62 (ls) (st) σ = run 138 67 (ls) (st) σ := (run_eq 138 62 _ _ σ).trans rfl
theorem e138_65 (ls st : List AV) (σ : St) : run 138 65 (ls) (st) σ = run 138 67 (ls) (vI (-6) :: st) σ := (run_eq 138 65 _ _ σ).trans rfl
theorem e138_67 (ls : List AV) (σ : St) (x : Int) : run 138 67 ls [vI x] σ = some (vI x, σ) := (run_eq 138 67 _ _ σ).trans rfl
/-! M_wasCut -/
theorem e139_0 (a0 a1 : AV) (l st : List AV) (σ : St) (x : Int) : run 139 0 (a0 :: a1 :: vI x :: l) (st) σ = run 139 1 (a0 :: a1 :: vI x :: l) (vI x :: st) σ := (run_eq 139 0 _ _ σ).trans rfl
theorem e139_1 (l st : List AV) (σ : St) (x : Nat) : run 139 1 (vR x :: l) (st) σ = run 139 2 (vR x :: l) (vR x :: st) σ := (run_eq 139 1 _ _ σ).trans rfl
theorem e139_2 (ls st : List AV) (σ : St) (x : Nat) (h : fok σ x 3) : run 139 2 (ls) (vR x :: st) σ = run 139 5 (ls) (vR (gr σ x 2) :: st) σ := (run_eq 139 2 _ _ σ).trans (if_pos h)
theorem e139_5 (a0 : AV) (l st : List AV) (σ : St) (x : Int) : run 139 5 (a0 :: vI x :: l) (st) σ = run 139 6 (a0 :: vI x :: l) (vI x :: st) σ := (run_eq 139 5 _ _ σ).trans rfl
theorem e139_6 (ls st : List AV) (σ : St) (j : Int) (x : Nat) (h : aok σ x 4 j) : run 139 6 (ls) (vI j :: vR x :: st) σ = run 139 7 (ls) (vI (gt σ x j.toNat) :: st) σ := (run_eq 139 6 _ _ σ).trans (if_pos h)
theorem e139_7 (ls st : List AV) (σ : St) (y x : Int) : run 139 7 (ls) (vI y :: vI x :: st) σ = if x < y then run 139 12 (ls) (st) σ else run 139 10 (ls) (st) σ := (run_eq 139 7 _ _ σ).trans rfl
theorem e139_10 (ls st : List AV) (σ : St) : run 139 10 (ls) (st) σ = run 139 11 (ls) (vI 0 :: st) σ := (run_eq 139 10 _ _ σ).trans rfl
theorem e139_11 (ls : List AV) (σ : St) (x : Int) (h : x = 0 ∨ x = 1) : run 139 11 ls [vI x] σ = some (vI x, σ) := (run_eq 139 11 _ _ σ).trans (if_pos h)
theorem e139_12 (l st : List AV) (σ : St) (x : Nat) : run 139 12 (vR x :: l) (st) σ = run 139 13 (vR x :: l) (vR x :: st) σ := (run_eq 139 12 _ _ σ).trans rfl
theorem e139_13 (ls st : List AV) (σ : St) (x0 : Nat) (h4 : st.length ≤ 4) (h : fok σ x0 3) : run 139 13 ls (vR x0 :: st) σ = bnd (run 107 0 [vR x0, vU] [] σ) (fun r σ => run 139 16 ls (psh r st) σ) := (run_eq 139 13 _ _ σ).trans (if_pos ⟨rfl, by simp, by simpa using h4, rfl, h⟩)
theorem e139_16 (l st : List AV) (σ : St) (x : Nat) : run 139 16 (vR x :: l) (st) σ = run 139 17 (vR x :: l) (vR x :: st) σ := (run_eq 139 16 _ _ σ).trans rfl
theorem e139_17 (ls st : List AV) (σ : St) (x : Nat) (h : fok σ x 3) : run 139 17 (ls) (vR x :: st) σ = run 139 20 (ls) (vR (gr σ x 11) :: st) σ := (run_eq 139 17 _ _ σ).trans (if_pos h)
theorem e139_20 (a0 : AV) (l st : List AV) (σ : St) (x : Int) : run 139 20 (a0 :: vI x :: l) (st) σ = run 139 21 (a0 :: vI x :: l) (vI x :: st) σ := (run_eq 139 20 _ _ σ).trans rfl
theorem e139_21 (a0 a1 : AV) (l st : List AV) (σ : St) (x : Int) : run 139 21 (a0 :: a1 :: vI x :: l) (st) σ = run 139 22 (a0 :: a1 :: vI x :: l) (vI x :: st) σ := (run_eq 139 21 _ _ σ).trans rfl
theorem e139_22 (ls st : List AV) (σ : St) (z j : Int) (x : Nat) (h : aok σ x 4 j) : run 139 22 (ls) (vI z :: vI j :: vR x :: st) σ = run 139 23 (ls) (st) (sr σ x (ru (gt σ x) j.toNat z)) := (run_eq 139 22 _ _ σ).trans (if_pos h)
theorem e139_23 (l st : List AV) (σ : St) (x : Nat) : run 139 23 (vR x :: l) (st) σ = run 139 24 (vR x :: l) (vR x :: st) σ := (run_eq 139 23 _ _ σ).trans rfl
theorem e139_24 (ls st : List AV) (σ : St) (x0 : Nat) (h4 : st.length ≤ 4) (h : fok σ x0 3) : run 139 24 ls (vR x0 :: st) σ = bnd (run 124 0 [vR x0, vU] [] σ) (fun r σ => run 139 27 ls (psh r st) σ) := (run_eq 139 24 _ _ σ).trans (if_pos ⟨rfl, by simp, by simpa using h4, rfl, h⟩)
theorem e139_27 (ls st : List AV) (σ : St) : run 139 27 (ls) (st) σ = run 139 28 (ls) (vI 1 :: st) σ := (run_eq 139 27 _ _ σ).trans rfl
theorem e139_28 (a0 a1 a2 : AV) (l st : List AV) (σ : St) (q : AV) (x : Int) : run 139 28 (a0 :: a1 :: a2 :: q :: l) (vI x :: st) σ = run 139 29 (a0 :: a1 :: a2 :: vI x :: l) (st) σ := (run_eq 139 28 _ _ σ).trans rfl
theorem e139_29 (ls st : List AV) (σ : St) : run 139 29 (ls) (st) σ = run 139 30 (ls) (vI 0 :: st) σ := (run_eq 139 29 _ _ σ).trans rfl
theorem e139_30 (a0 a1 a2 a3 : AV) (l st : List AV) (σ : St) (q : AV) (x : Int) : run 139 30 (a0 :: a1 :: a2 :: a3 :: q :: l) (vI x :: st) σ = run 139 32 (a0 :: a1 :: a2 :: a3 :: vI x :: l) (st) σ := (run_eq 139 30 _ _ σ).trans rfl
theorem e139_32 (a0 a1 a2 a3 : AV) (l st : List AV) (σ : St) (x : Int) : run 139 32 (a0 :: a1 :: a2 :: a3 :: vI x :: l) (st) σ = run 139 34 (a0 :: a1 :: a2 :: a3 :: vI x :: l) (vI x :: st) σ := (run_eq 139 32 _ _ σ).trans rfl
theorem e139_34 (l st : List AV) (σ : St) (x : Nat) : run 139 34 (vR x :: l) (st) σ = run 139 35 (vR x :: l) (vR x :: st) σ := (run_eq 139 34 _ _ σ).trans rfl
theorem e139_35 (ls st : List AV) (σ : St) (x : Nat) (h : fok σ x 3) : run 139 35 (ls) (vR x :: st) σ = run 139 38 (ls) (vI (gt σ x 7) :: st) σ := (run_eq 139 35 _ _ σ).trans (if_pos h)
theorem e139_38 (ls st : List AV) (σ : St) (y x : Int) : run 139 38 (ls) (vI y :: vI x :: st) σ = if x < y then run 139 41 (ls) (st) σ else run 139 85 (ls) (st) σ := (run_eq 139 38 _ _ σ).trans rfl
theorem e139_41 (a0 a1 a2 : AV) (l st : List AV) (σ : St) (x : Int) : run 139 41 (a0 :: a1 :: a2 :: vI x :: l) (st) σ = run 139 42 (a0 :: a1 :: a2 :: vI x :: l) (vI x :: st) σ := (run_eq 139 41 _ _ σ).trans rfl
theorem e139_42 (ls st : List AV) (σ : St) (x : Int) : run 139 42 (ls) (vI x :: st) σ = if x = 0 then run 139 77 (ls) (st) σ else run 139 45 (ls) (st) σ := (run_eq 139 42 _ _ σ).trans rfl
theorem e139_45 (l st : List AV) (σ : St) (x : Nat) : run 139 45 (vR x :: l) (st) σ = run 139 46 (vR x :: l) (vR x :: st) σ := (run_eq 139 45 _ _ σ).trans rfl
theorem e139_46 (ls st : List AV) (σ : St) (x : Nat) (h : fok σ x 3) : run 139 46 (ls) (vR x :: st) σ = run 139 49 (ls) (vR (gr σ x 11) :: st) σ := (run_eq 139 46 _ _ σ).trans (if_pos h)
theorem e139_49 (l st : List AV) (σ : St) (x : Nat) : run 139 49 (vR x :: l) (st) σ = run 139 50 (vR x :: l) (vR x :: st) σ := (run_eq 139 49 _ _ σ).trans rfl
theorem e139_50 (ls st : List AV) (σ : St) (x : Nat) (h : fok σ x 3) : run 139 50 (ls) (vR x :: st) σ = run 139 53 (ls) (vR (gr σ x 8) :: st) σ := (run_eq 139 50 _ _ σ).trans (if_pos h)
theorem e139_53 (ls st : List AV) (σ : St) : run 139 53 (ls) (st) σ = run 139 54 (ls) (vI 2 :: st) σ := (run_eq 139 53 _ _ σ).trans rfl
theorem e139_54 (a0 a1 a2 a3 : AV) (l st : List AV) (σ : St) (x : Int) : run 139 54 (a0 :: a1 :: a2 :: a3 :: vI x :: l) (st) σ = run 139 56 (a0 :: a1 :: a2 :: a3 :: vI x :: l) (vI x :: st) σ := (run_eq 139 54 _ _ σ).trans rfl
theorem e139_56 (ls st : List AV) (σ : St) (y x : Int) : run 139 56 (ls) (vI y :: vI x :: st) σ = run 139 57 (ls) (vI (wr (x * y)) :: st) σ := (run_eq 139 56 _ _ σ).trans rfl
theorem e139_57 (ls st : List AV) (σ : St) (j : Int) (x : Nat) (h : aok σ x 4 j) : run 139 57 (ls) (vI j :: vR x :: st) σ = run 139 58 (ls) (vI (gt σ x j.toNat) :: st) σ := (run_eq 139 57 _ _ σ).trans (if_pos h)
theorem e139_58 (ls st : List AV) (σ : St) (j : Int) (x : Nat) (h : aok σ x 4 j) : run 139 58 (ls) (vI j :: vR x :: st) σ = run 139 59 (ls) (vI (gt σ x j.toNat) :: st) σ := (run_eq 139 58 _ _ σ).trans (if_pos h)
theorem e139_59 (l st : List AV) (σ : St) (x : Nat) : run 139 59 (vR x :: l) (st) σ = run 139 60 (vR x :: l) (vR x :: st) σ := (run_eq 139 59 _ _ σ).trans rfl
theorem e139_60 (ls st : List AV) (σ : St) (x : Nat) (h : fok σ x 3) : run 139 60 (ls) (vR x :: st) σ = run 139 63 (ls) (vR (gr σ x 8) :: st) σ := (run_eq 139 60 _ _ σ).trans (if_pos h)
theorem e139_63 (ls st : List AV) (σ : St) : run 139 63 (ls) (st) σ = run 139 64 (ls) (vI 2 :: st) σ := (run_eq 139 63 _ _ σ).trans rfl
theorem e139_64 (a0 a1 a2 a3 : AV) (l st : List AV) (σ : St) (x : Int) : run 139 64 (a0 :: a1 :: a2 :: a3 :: vI x :: l) (st) σ = run 139 66 (a0 :: a1 :: a2 :: a3 :: vI x :: l) (vI x :: st) σ := (run_eq 139 64 _ _ σ).trans rfl
theorem e139_66 (ls st : List AV) (σ : St) (y x : Int) : run 139 66 (ls) (vI y :: vI x :: st) σ = run 139 67 (ls) (vI (wr (x * y)) :: st) σ := (run_eq 139 66 _ _ σ).trans rfl
theorem e139_67 (ls st : List AV) (σ : St) : run 139 67 (ls) (st) σ = run 139 68 (ls) (vI 1 :: st) σ := (run_eq 139 67 _ _ σ).trans rfl
theorem e139_68 (ls st : List AV) (σ : St) (y x : Int) : run 139 68 (ls) (vI y :: vI x :: st) σ = run 139 69 (ls) (vI (wr (x + y)) :: st) σ := (run_eq 139 68 _ _ σ).trans rfl
theorem e139_69 (ls st : List AV) (σ : St) (j : Int) (x : Nat) (h : aok σ x 4 j) : run 139 69 (ls) (vI j :: vR x :: st) σ = run 139 70 (ls) (vI (gt σ x j.toNat) :: st) σ := (run_eq 139 69 _ _ σ).trans (if_pos h)
theorem e139_70 (ls st : List AV) (σ : St) (y x : Int) : run 139 70 (ls) (vI y :: vI x :: st) σ = if x = y then run 139 73 (ls) (st) σ else run 139 77 (ls) (st) σ := (run_eq 139 70 _ _ σ).trans rfl
theorem e139_73 (ls st : List AV) (σ : St) : run 139 73 (ls) (st) σ = run 139 74 (ls) (vI 1 :: st) σ := (run_eq 139 73 _ _ σ).trans rfl
theorem e139_74 (ls st : List AV) (σ : St) : run 139 74 (ls) (st) σ = run 139 78 (ls) (st) σ := (run_eq 139 74 _ _ σ).trans rfl
theorem e139_77 (ls st : List AV) (σ : St) : run 139 77 (ls) (st) σ = run 139 78 (ls) (vI 0 :: st) σ := (run_eq 139 77 _ _ σ).trans rfl
theorem e139_78 (a0 a1 a2 : AV) (l st : List AV) (σ : St) (q : AV) (x : Int) : run 139 78 (a0 :: a1 :: a2 :: q :: l) (vI x :: st) σ = run 139 79 (a0 :: a1 :: a2 :: vI x :: l) (st) σ := (run_eq 139 78 _ _ σ).trans rfl
theorem e139_79 (a0 a1 a2 a3 : AV) (l st : List AV) (σ : St) (x : Int) : run 139 79 (a0 :: a1 :: a2 :: a3 :: vI x :: l) (st) σ = run 139 82 (a0 :: a1 :: a2 :: a3 :: vI (wr (x + 1)) :: l) (st) σ := (run_eq 139 79 _ _ σ).trans rfl
theorem e139_82 (ls st : List AV) (σ : St) : run 139 82 (ls) (st) σ = run 139 32 (ls) (st) σ := (run_eq 139 82 _ _ σ).trans rfl
theorem e139_85 (a0 a1 a2 : AV) (l st : List AV) (σ : St) (x : Int) : run 139 85 (a0 :: a1 :: a2 :: vI x :: l) (st) σ = run 139 86 (a0 :: a1 :: a2 :: vI x :: l) (vI x :: st) σ := (run_eq 139 85 _ _ σ).trans rfl
theorem e139_86 (ls : List AV) (σ : St) (x : Int) (h : x = 0 ∨ x = 1) : run 139 86 ls [vI x] σ = some (vI x, σ) := (run_eq 139 86 _ _ σ).trans (if_pos h)
/-! M_where -/
theorem e140_0 (l st : List AV) (σ : St) (x : Nat) : run 140 0 (vR x :: l) (st) σ = run 140 1 (vR x :: l) (vR x :: st) σ := (run_eq 140 0 _ _ σ).trans rfl
theorem e140_1 (ls st : List AV) (σ : St) (x0 : Nat) (h4 : st.length ≤ 4) (h : fok σ x0 3) : run 140 1 ls (vR x0 :: st) σ = bnd (run 123 0 [vR x0, vU, vU] [] σ) (fun r σ => run 140 4 ls (psh r st) σ) := (run_eq 140 1 _ _ σ).trans (if_pos ⟨rfl, by simp, by simpa using h4, rfl, h⟩)
theorem e140_4 (ls st : List AV) (σ : St) (x : Int) : run 140 4 (ls) (vI x :: st) σ = if x = 0 then run 140 7 (ls) (st) σ else run 140 10 (ls) (st) σ := (run_eq 140 4 _ _ σ).trans rfl
theorem e140_7 (ls st : List AV) (σ : St) : run 140 7 (ls) (st) σ = run 140 9 (ls) (vI (-5) :: st) σ := (run_eq 140 7 _ _ σ).trans rfl
theorem e140_9 (ls : List AV) (σ : St) (x : Int) : run 140 9 ls [vI x] σ = some (vI x, σ) := (run_eq 140 9 _ _ σ).trans rfl
theorem e140_10 (ls st : List AV) (σ : St) : run 140 10 (ls) (st) σ = run 140 11 (ls) (vI 0 :: st) σ := (run_eq 140 10 _ _ σ).trans rfl
theorem e140_11 (a0 : AV) (l st : List AV) (σ : St) (q : AV) (x : Int) : run 140 11 (a0 :: q :: l) (vI x :: st) σ = run 140 12 (a0 :: vI x :: l) (st) σ := (run_eq 140 11 _ _ σ).trans rfl
theorem e140_12 (ls st : List AV) (σ : St) : run 140 12 (ls) (st) σ = run 140 13 (ls) (vI 0 :: st) σ := (run_eq 140 12 _ _ σ).trans rfl
theorem e140_13 (a0 a1 : AV) (l st : List AV) (σ : St) (q : AV) (x : Int) : run 140 13 (a0 :: a1 :: q :: l) (vI x :: st) σ = run 140 14 (a0 :: a1 :: vI x :: l) (st) σ := (run_eq 140 13 _ _ σ).trans rfl
theorem e140_14 (a0 a1 : AV) (l st : List AV) (σ : St) (x : Int) : run 140 14 (a0 :: a1 :: vI x :: l) (st) σ = run 140 15 (a0 :: a1 :: vI x :: l) (vI x :: st) σ := (run_eq 140 14 _ _ σ).trans rfl
theorem e140_15 (ls st : List AV) (σ : St) : run 140 15 (ls) (st) σ = run 140 17 (ls) (vI 10 :: st) σ := (run_eq 140 15 _ _ σ).trans rfl
theorem e140_17 (l st : List AV) (σ : St) (x : Nat) : run 140 17 (vR x :: l) (st) σ = run 140 18 (vR x :: l) (vR x :: st) σ := (run_eq 140 17 _ _ σ).trans rfl
theorem e140_18 (ls st : List AV) (σ : St) (x0 : Nat) (h4 : st.length ≤ 4) (h : fok σ x0 3) : run 140 18 ls (vR x0 :: st) σ = bnd (run 95 0 [vR x0] [] σ) (fun r σ => run 140 21 ls (psh r st) σ) := (run_eq 140 18 _ _ σ).trans (if_pos ⟨rfl, by simp, by simpa using h4, rfl, h⟩)
theorem e140_21 (ls st : List AV) (σ : St) (y x : Int) : run 140 21 (ls) (vI y :: vI x :: st) σ = run 140 22 (ls) (vI (wr (x * y)) :: st) σ := (run_eq 140 21 _ _ σ).trans rfl
theorem e140_22 (ls st : List AV) (σ : St) (y x : Int) : run 140 22 (ls) (vI y :: vI x :: st) σ = if x < y then run 140 25 (ls) (st) σ else run 140 59 (ls) (st) σ := (run_eq 140 22 _ _ σ).trans rfl
theorem e140_25 (a0 : AV) (l st : List AV) (σ : St) (x : Int) : run 140 25 (a0 :: vI x :: l) (st) σ = run 140 26 (a0 :: vI x :: l) (vI x :: st) σ := (run_eq 140 25 _ _ σ).trans rfl
theorem e140_26 (l st : List AV) (σ : St) (x : Nat) : run 140 26 (vR x :: l) (st) σ = run 140 27 (vR x :: l) (vR x :: st) σ := (run_eq 140 26 _ _ σ).trans rfl
theorem e140_27 (a0 a1 : AV) (l st : List AV) (σ : St) (x : Int) : run 140 27 (a0 :: a1 :: vI x :: l) (st) σ = run 140 28 (a0 :: a1 :: vI x :: l) (vI x :: st) σ := (run_eq 140 27 _ _ σ).trans rfl
theorem e140_28 (ls st : List AV) (σ : St) : run 140 28 (ls) (st) σ = run 140 30 (ls) (vI 10 :: st) σ := (run_eq 140 28 _ _ σ).trans rfl
theorem e140_30 (ls st : List AV) (σ : St) (y x : Int) (h : ¬ y = 0) : run 140 30 (ls) (vI y :: vI x :: st) σ = run 140 31 (ls) (vI (wr (x.tdiv y)) :: st) σ := (run_eq 140 30 _ _ σ).trans (if_neg h)
theorem e140_31 (a0 a1 : AV) (l st : List AV) (σ : St) (x : Int) : run 140 31 (a0 :: a1 :: vI x :: l) (st) σ = run 140 32 (a0 :: a1 :: vI x :: l) (vI x :: st) σ := (run_eq 140 31 _ _ σ).trans rfl
theorem e140_32 (ls st : List AV) (σ : St) : run 140 32 (ls) (st) σ = run 140 34 (ls) (vI 10 :: st) σ := (run_eq 140 32 _ _ σ).trans rfl
theorem e140_34 (ls st : List AV) (σ : St) (y x : Int) (h : ¬ y = 0) : run 140 34 (ls) (vI y :: vI x :: st) σ = run 140 35 (ls) (vI (wr (x.tmod y)) :: st) σ := (run_eq 140 34 _ _ σ).trans (if_neg h)
theorem e140_35 (ls st : List AV) (σ : St) (x0 : Nat) (x1 : Int) (x2 : Int) (h4 : st.length ≤ 4) (h : fok σ x0 3) : run 140 35 ls (vI x2 :: vI x1 :: vR x0 :: st) σ = bnd (run 139 0 [vR x0, vI x1, vI x2, vU, vU] [] σ) (fun r σ => run 140 38 ls (psh r st) σ) := (run_eq 140 35 _ _ σ).trans (if_pos ⟨rfl, by simp, by simpa using h4, rfl, h⟩)
theorem e140_38 (ls st : List AV) (σ : St) (x : Int) : run 140 38 (ls) (vI x :: st) σ = if x = 0 then run 140 50 (ls) (st) σ else run 140 41 (ls) (st) σ := (run_eq 140 38 _ _ σ).trans rfl
theorem e140_41 (ls st : List AV) (σ : St) : run 140 41 (ls) (st) σ = run 140 42 (ls) (vI 1 :: st) σ := (run_eq 140 41 _ _ σ).trans rfl
theorem e140_42 (a0 a1 : AV) (l st : List AV) (σ : St) (x : Int) : run 140 42 (a0 :: a1 :: vI x :: l) (st) σ = run 140 43 (a0 :: a1 :: vI x :: l) (vI x :: st) σ := (run_eq 140 42 _ _ σ).trans rfl
theorem e140_43 (ls st : List AV) (σ : St) : run 140 43 (ls) (st) σ = run 140 45 (ls) (vI 10 :: st) σ := (run_eq 140 43 _ _ σ).trans rfl
theorem e140_45 (ls st : List AV) (σ : St) (y x : Int) (h : ¬ y = 0) : run 140 45 (ls) (vI y :: vI x :: st) σ = run 140 46 (ls) (vI (wr (x.tdiv y)) :: st) σ := (run_eq 140 45 _ _ σ).trans (if_neg h)
theorem e140_46 (ls st : List AV) (σ : St) (y x : Int) : run 140 46 (ls) (vI y :: vI x :: st) σ = run 140 47 (ls) (vI (bShl x y) :: st) σ := (run_eq 140 46 _ _ σ).trans rfl
theorem e140_47 (ls st : List AV) (σ : St) : run 140 47 (ls) (st) σ = run 140 51 (ls) (st) σ := (run_eq 140 47 _ _ σ).trans rfl
theorem e140_50 (ls st : List AV) (σ : St) : run 140 50 (ls) (st) σ = run 140 51 (ls) (vI 0 :: st) σ := (run_eq 140 50 _ _ σ).trans rfl
theorem e140_51 (ls st : List AV) (σ : St) (y x : Int) : run 140 51 (ls) (vI y :: vI x :: st) σ = run 140 52 (ls) (vI (bOr x y) :: st) σ := (run_eq 140 51 _ _ σ).trans rfl
theorem e140_52 (a0 : AV) (l st : List AV) (σ : St) (q : AV) (x : Int) : run 140 52 (a0 :: q :: l) (vI x :: st) σ = run 140 53 (a0 :: vI x :: l) (st) σ := (run_eq 140 52 _ _ σ).trans rfl
theorem e140_53 (a0 a1 : AV) (l st : List AV) (σ : St) (x : Int) : run 140 53 (a0 :: a1 :: vI x :: l) (st) σ = run 140 56 (a0 :: a1 :: vI (wr (x + 1)) :: l) (st) σ := (run_eq 140 53 _ _ σ).trans rfl
theorem e140_56 (ls st : List AV) (σ : St) : run 140 56 (ls) (st) σ = run 140 14 (ls) (st) σ := (run_eq 140 56 _ _ σ).trans rfl
theorem e140_59 (a0 : AV) (l st : List AV) (σ : St) (x : Int) : run 140 59 (a0 :: vI x :: l) (st) σ = run 140 60 (a0 :: vI x :: l) (vI x :: st) σ := (run_eq 140 59 _ _ σ).trans rfl
theorem e140_60 (ls : List AV) (σ : St) (x : Int) : run 140 60 ls [vI x] σ = some (vI x, σ) := (run_eq 140 60 _ _ σ).trans rfl
/-! M_chance -/
theorem e141_0 (l st : List AV) (σ : St) (x : Nat) : run 141 0 (vR x :: l) (st) σ = run 141 1 (vR x :: l) (vR x :: st) σ := (run_eq 141 0 _ _ σ).trans rfl
theorem e141_1 (a0 : AV) (l st : List AV) (σ : St) (x : Int) : run 141 1 (a0 :: vI x :: l) (st) σ = run 141 2 (a0 :: vI x :: l) (vI x :: st) σ := (run_eq 141 1 _ _ σ).trans rfl
theorem e141_2 (ls st : List AV) (σ : St) (x0 : Nat) (x1 : Int) (h4 : st.length ≤ 4) (h : fok σ x0 3) : run 141 2 ls (vI x1 :: vR x0 :: st) σ = bnd (run 117 0 [vR x0, vI x1] [] σ) (fun r σ => run 141 5 ls (psh r st) σ) := (run_eq 141 2 _ _ σ).trans (if_pos ⟨rfl, by simp, by simpa using h4, rfl, h⟩)
theorem e141_5 (ls st : List AV) (σ : St) (x : Int) : run 141 5 (ls) (vI x :: st) σ = if x = 0 then run 141 8 (ls) (st) σ else run 141 12 (ls) (st) σ := (run_eq 141 5 _ _ σ).trans rfl
theorem e141_8 (ls st : List AV) (σ : St) : run 141 8 (ls) (st) σ = run 141 11 (ls) (vL (-1000000000000000001) :: st) σ := (run_eq 141 8 _ _ σ).trans rfl
theorem e141_11 (ls : List AV) (σ : St) (x : Int) : run 141 11 ls [vL x] σ = some (vL x, σ) := (run_eq 141 11 _ _ σ).trans rfl
theorem e141_12 (a0 a1 : AV) (l st : List AV) (σ : St) (x : Int) : run 141 12 (a0 :: a1 :: vI x :: l) (st) σ = run 141 13 (a0 :: a1 :: vI x :: l) (vI x :: st) σ := (run_eq 141 12 _ _ σ).trans rfl
theorem e141_13 (ls st : List AV) (σ : St) : run 141 13 (ls) (st) σ = run 141 14 (ls) (vI 0 :: st) σ := (run_eq 141 13 _ _ σ).trans rfl
theorem e141_14 (ls st : List AV) (σ : St) : run 141 14 (ls) (st) σ = run 141 16 (ls) (vI 10 :: st) σ := (run_eq 141 14 _ _ σ).trans rfl
theorem e141_16 (ls st : List AV) (σ : St) (x0 : Int) (x1 : Int) (x2 : Int) (h4 : st.length ≤ 4) : run 141 16 ls (vI x2 :: vI x1 :: vI x0 :: st) σ = bnd (run 92 0 [vI x0, vI x1, vI x2] [] σ) (fun r σ => run 141 19 ls (psh r st) σ) := (run_eq 141 16 _ _ σ).trans (if_pos ⟨rfl, by simp, by simpa using h4⟩)
theorem e141_19 (ls st : List AV) (σ : St) (x : Int) : run 141 19 (ls) (vI x :: st) σ = if x = 0 then run 141 42 (ls) (st) σ else run 141 22 (ls) (st) σ := (run_eq 141 19 _ _ σ).trans rfl
theorem e141_22 (a0 a1 a2 : AV) (l st : List AV) (σ : St) (x : Int) : run 141 22 (a0 :: a1 :: a2 :: vI x :: l) (st) σ = run 141 23 (a0 :: a1 :: a2 :: vI x :: l) (vI x :: st) σ := (run_eq 141 22 _ _ σ).trans rfl
theorem e141_23 (ls st : List AV) (σ : St) : run 141 23 (ls) (st) σ = run 141 24 (ls) (vI 0 :: st) σ := (run_eq 141 23 _ _ σ).trans rfl
theorem e141_24 (ls st : List AV) (σ : St) : run 141 24 (ls) (st) σ = run 141 26 (ls) (vI 8 :: st) σ := (run_eq 141 24 _ _ σ).trans rfl
theorem e141_26 (ls st : List AV) (σ : St) (x0 : Int) (x1 : Int) (x2 : Int) (h4 : st.length ≤ 4) : run 141 26 ls (vI x2 :: vI x1 :: vI x0 :: st) σ = bnd (run 92 0 [vI x0, vI x1, vI x2] [] σ) (fun r σ => run 141 29 ls (psh r st) σ) := (run_eq 141 26 _ _ σ).trans (if_pos ⟨rfl, by simp, by simpa using h4⟩)
theorem e141_29 (ls st : List AV) (σ : St) (x : Int) : run 141 29 (ls) (vI x :: st) σ = if x = 0 then run 141 42 (ls) (st) σ else run 141 32 (ls) (st) σ := (run_eq 141 29 _ _ σ).trans rfl
theorem e141_32 (a0 a1 a2 a3 : AV) (l st : List AV) (σ : St) (x : Int) : run 141 32 (a0 :: a1 :: a2 :: a3 :: vI x :: l) (st) σ = run 141 34 (a0 :: a1 :: a2 :: a3 :: vI x :: l) (vI x :: st) σ := (run_eq 141 32 _ _ σ).trans rfl
theorem e141_34 (ls st : List AV) (σ : St) : run 141 34 (ls) (st) σ = run 141 35 (ls) (vI 0 :: st) σ := (run_eq 141 34 _ _ σ).trans rfl
theorem e141_35 (ls st : List AV) (σ : St) : run 141 35 (ls) (st) σ = run 141 36 (ls) (vI 1 :: st) σ := (run_eq 141 35 _ _ σ).trans rfl
theorem e141_36 (ls st : List AV) (σ : St) (x0 : Int) (x1 : Int) (x2 : Int) (h4 : st.length ≤ 4) : run 141 36 ls (vI x2 :: vI x1 :: vI x0 :: st) σ = bnd (run 92 0 [vI x0, vI x1, vI x2] [] σ) (fun r σ => run 141 39 ls (psh r st) σ) := (run_eq 141 36 _ _ σ).trans (if_pos ⟨rfl, by simp, by simpa using h4⟩)
theorem e141_39 (ls st : List AV) (σ : St) (x : Int) : run 141 39 (ls) (vI x :: st) σ = if x = 0 then run 141 42 (ls) (st) σ else run 141 46 (ls) (st) σ := (run_eq 141 39 _ _ σ).trans rfl
theorem e141_42 (ls st : List AV) (σ : St) : run 141 42 (ls) (st) σ = run 141 45 (ls) (vL (-1000000000000000002) :: st) σ := (run_eq 141 42 _ _ σ).trans rfl
theorem e141_45 (ls : List AV) (σ : St) (x : Int) : run 141 45 ls [vL x] σ = some (vL x, σ) := (run_eq 141 45 _ _ σ).trans rfl
theorem e141_46 (ls st : List AV) (σ : St) : run 141 46 (ls) (st) σ = run 141 47 (ls) (vL 0 :: st) σ := (run_eq 141 46 _ _ σ).trans rfl
theorem e141_47 (a0 a1 a2 a3 a4 : AV) (l st : List AV) (σ : St) (q q2 : AV) (x : Int) : run 141 47 (a0 :: a1 :: a2 :: a3 :: a4 :: q :: q2 :: l) (vL x :: st) σ = run 141 49 (a0 :: a1 :: a2 :: a3 :: a4 :: vL x :: vH :: l) (st) σ := (run_eq 141 47 _ _ σ).trans rfl
theorem e141_49 (ls st : List AV) (σ : St) : run 141 49 (ls) (st) σ = run 141 50 (ls) (vL 1 :: st) σ := (run_eq 141 49 _ _ σ).trans rfl
theorem e141_50 (a0 a1 a2 a3 a4 a5 a6 : AV) (l st : List AV) (σ : St) (q q2 : AV) (x : Int) : run 141 50 (a0 :: a1 :: a2 :: a3 :: a4 :: a5 :: a6 :: q :: q2 :: l) (vL x :: st) σ = run 141 52 (a0 :: a1 :: a2 :: a3 :: a4 :: a5 :: a6 :: vL x :: vH :: l) (st) σ := (run_eq 141 50 _ _ σ).trans rfl
theorem e141_52 (ls st : List AV) (σ : St) : run 141 52 (ls) (st) σ = run 141 53 (ls) (vI 0 :: st) σ := (run_eq 141 52 _ _ σ).trans rfl
theorem e141_53 (a0 a1 a2 a3 a4 a5 a6 a7 a8 : AV) (l st : List AV) (σ : St) (q : AV) (x : Int) : run 141 53 (a0 :: a1 :: a2 :: a3 :: a4 :: a5 :: a6 :: a7 :: a8 :: q :: l) (vI x :: st) σ = run 141 55 (a0 :: a1 :: a2 :: a3 :: a4 :: a5 :: a6 :: a7 :: a8 :: vI x :: l) (st) σ := (run_eq 141 53 _ _ σ).trans rfl
theorem e141_55 (a0 a1 a2 a3 a4 a5 a6 a7 a8 : AV) (l st : List AV) (σ : St) (x : Int) : run 141 55 (a0 :: a1 :: a2 :: a3 :: a4 :: a5 :: a6 :: a7 :: a8 :: vI x :: l) (st) σ = run 141 57 (a0 :: a1 :: a2 :: a3 :: a4 :: a5 :: a6 :: a7 :: a8 :: vI x :: l) (vI x :: st) σ := (run_eq 141 55 _ _ σ).trans rfl
theorem e141_57 (a0 a1 a2 : AV) (l st : List AV) (σ : St) (x : Int) : run 141 57 (a0 :: a1 :: a2 :: vI x :: l) (st) σ = run 141 58 (a0 :: a1 :: a2 :: vI x :: l) (vI x :: st) σ := (run_eq 141 57 _ _ σ).trans rfl
theorem e141_58 (ls st : List AV) (σ : St) (y x : Int) : run 141 58 (ls) (vI y :: vI x :: st) σ = if x < y then run 141 61 (ls) (st) σ else run 141 75 (ls) (st) σ := (run_eq 141 58 _ _ σ).trans rfl
theorem e141_61 (a0 a1 a2 a3 a4 a5 a6 : AV) (l st : List AV) (σ : St) (x : Int) : run 141 61 (a0 :: a1 :: a2 :: a3 :: a4 :: a5 :: a6 :: vL x :: vH :: l) (st) σ = run 141 63 (a0 :: a1 :: a2 :: a3 :: a4 :: a5 :: a6 :: vL x :: vH :: l) (vL x :: st) σ := (run_eq 141 61 _ _ σ).trans rfl
theorem e141_63 (ls st : List AV) (σ : St) : run 141 63 (ls) (st) σ = run 141 66 (ls) (vL 10 :: st) σ := (run_eq 141 63 _ _ σ).trans rfl
theorem e141_66 (ls st : List AV) (σ : St) (y x : Int) : run 141 66 (ls) (vL y :: vL x :: st) σ = run 141 67 (ls) (vL (wl (x * y)) :: st) σ := (run_eq 141 66 _ _ σ).trans rfl
theorem e141_67 (a0 a1 a2 a3 a4 a5 a6 : AV) (l st : List AV) (σ : St) (q q2 : AV) (x : Int) : run 141 67 (a0 :: a1 :: a2 :: a3 :: a4 :: a5 :: a6 :: q :: q2 :: l) (vL x :: st) σ = run 141 69 (a0 :: a1 :: a2 :: a3 :: a4 :: a5 :: a6 :: vL x :: vH :: l) (st) σ := (run_eq 141 67 _ _ σ).trans rfl
theorem e141_69 (a0 a1 a2 a3 a4 a5 a6 a7 a8 : AV) (l st : List AV) (σ : St) (x : Int) : run 141 69 (a0 :: a1 :: a2 :: a3 :: a4 :: a5 :: a6 :: a7 :: a8 :: vI x :: l) (st) σ = run 141 72 (a0 :: a1 :: a2 :: a3 :: a4 :: a5 :: a6 :: a7 :: a8 :: vI (wr (x + 1)) :: l) (st) σ := (run_eq 141 69 _ _ σ).trans rfl
theorem e141_72 (ls st : List AV) (σ : St) : run 141 72 (ls) (st) σ = run 141 55 (ls) (st) σ := (run_eq 141 72 _ _ σ).trans rfl
theorem e141_75 (ls st : List AV) (σ : St) : run 141 75 (ls) (st) σ = run 141 76 (ls) (vI 0 :: st) σ := (run_eq 141 75 _ _ σ).trans rfl
theorem e141_76 (a0 a1 a2 a3 a4 a5 a6 a7 a8 : AV) (l st : List AV) (σ : St) (q : AV) (x : Int) : run 141 76 (a0 :: a1 :: a2 :: a3 :: a4 :: a5 :: a6 :: a7 :: a8 :: q :: l) (vI x :: st) σ = run 141 78 (a0 :: a1 :: a2 :: a3 :: a4 :: a5 :: a6 :: a7 :: a8 :: vI x :: l) (st) σ := (run_eq 141 76 _ _ σ).trans rfl
theorem e141_78 (a0 a1 a2 a3 a4 a5 a6 a7 a8 : AV) (l st : List AV) (σ : St) (x : Int) : run 141 78 (a0 :: a1 :: a2 :: a3 :: a4 :: a5 :: a6 :: a7 :: a8 :: vI x :: l) (st) σ = run 141 80 (a0 :: a1 :: a2 :: a3 :: a4 :: a5 :: a6 :: a7 :: a8 :: vI x :: l) (vI x :: st) σ := (run_eq 141 78 _ _ σ).trans rfl
theorem e141_80 (ls st : List AV) (σ : St) : run 141 80 (ls) (st) σ = run 141 81 (ls) (vI 1 :: st) σ := (run_eq 141 80 _ _ σ).trans rfl
theorem e141_81 (a0 a1 a2 : AV) (l st : List AV) (σ : St) (x : Int) : run 141 81 (a0 :: a1 :: a2 :: vI x :: l) (st) σ = run 141 82 (a0 :: a1 :: a2 :: vI x :: l) (vI x :: st) σ := (run_eq 141 81 _ _ σ).trans rfl
theorem e141_82 (ls st : List AV) (σ : St) (y x : Int) : run 141 82 (ls) (vI y :: vI x :: st) σ = run 141 83 (ls) (vI (bShl x y) :: st) σ := (run_eq 141 82 _ _ σ).trans rfl
theorem e141_83 (ls st : List AV) (σ : St) (y x : Int) : run 141 83 (ls) (vI y :: vI x :: st) σ = if x < y then run 141 86 (ls) (st) σ else run 141 177 (ls) (st) σ := (run_eq 141 83 _ _ σ).trans rfl
theorem e141_86 (ls st : List AV) (σ : St) : run 141 86 (ls) (st) σ = run 141 87 (ls) (vL 1 :: st) σ := (run_eq 141 86 _ _ σ).trans rfl
theorem e141_87 (a0 a1 a2 a3 a4 a5 a6 a7 a8 a9 : AV) (l st : List AV) (σ : St) (q q2 : AV) (x : Int) : run 141 87 (a0 :: a1 :: a2 :: a3 :: a4 :: a5 :: a6 :: a7 :: a8 :: a9 :: q :: q2 :: l) (vL x :: st) σ = run 141 89 (a0 :: a1 :: a2 :: a3 :: a4 :: a5 :: a6 :: a7 :: a8 :: a9 :: vL x :: vH :: l) (st) σ := (run_eq 141 87 _ _ σ).trans rfl
theorem e141_89 (l st : List AV) (σ : St) (x : Nat) : run 141 89 (vR x :: l) (st) σ = run 141 90 (vR x :: l) (vR x :: st) σ := (run_eq 141 89 _ _ σ).trans rfl
theorem e141_90 (ls st : List AV) (σ : St) (x0 : Nat) (h4 : st.length ≤ 4) (h : fok σ x0 3) : run 141 90 ls (vR x0 :: st) σ = bnd (run 107 0 [vR x0, vU] [] σ) (fun r σ => run 141 93 ls (psh r st) σ) := (run_eq 141 90 _ _ σ).trans (if_pos ⟨rfl, by simp, by simpa using h4, rfl, h⟩)
theorem e141_93 (ls st : List AV) (σ : St) : run 141 93 (ls) (st) σ = run 141 94 (ls) (vI 0 :: st) σ := (run_eq 141 93 _ _ σ).trans rfl
theorem e141_94 (a0 a1 a2 a3 a4 a5 a6 a7 a8 a9 a10 a11 : AV) (l st : List AV) (σ : St) (q : AV) (x : Int) : run 141 94 (a0 :: a1 :: a2 :: a3 :: a4 :: a5 :: a6 :: a7 :: a8 :: a9 :: a10 :: a11 :: q :: l) (vI x :: st) σ = run 141 96 (a0 :: a1 :: a2 :: a3 :: a4 :: a5 :: a6 :: a7 :: a8 :: a9 :: a10 :: a11 :: vI x :: l) (st) σ := (run_eq 141 94 _ _ σ).trans rfl
theorem e141_96 (a0 a1 a2 a3 a4 a5 a6 a7 a8 a9 a10 a11 : AV) (l st : List AV) (σ : St) (x : Int) : run 141 96 (a0 :: a1 :: a2 :: a3 :: a4 :: a5 :: a6 :: a7 :: a8 :: a9 :: a10 :: a11 :: vI x :: l) (st) σ = run 141 98 (a0 :: a1 :: a2 :: a3 :: a4 :: a5 :: a6 :: a7 :: a8 :: a9 :: a10 :: a11 :: vI x :: l) (vI x :: st) σ := (run_eq 141 96 _ _ σ).trans rfl
theorem e141_98 (a0 a1 a2 : AV) (l st : List AV) (σ : St) (x : Int) : run 141 98 (a0 :: a1 :: a2 :: vI x :: l) (st) σ = run 141 99 (a0 :: a1 :: a2 :: vI x :: l) (vI x :: st) σ := (run_eq 141 98 _ _ σ).trans rfl
theorem e141_99 (ls st : List AV) (σ : St) (y x : Int) : run 141 99 (ls) (vI y :: vI x :: st) σ = if x < y then run 141 102 (ls) (st) σ else run 141 152 (ls) (st) σ := (run_eq 141 99 _ _ σ).trans rfl
theorem e141_102 (a0 a1 a2 a3 a4 a5 a6 a7 a8 a9 : AV) (l st : List AV) (σ : St) (x : Int) : run 141 102 (a0 :: a1 :: a2 :: a3 :: a4 :: a5 :: a6 :: a7 :: a8 :: a9 :: vL x :: vH :: l) (st) σ = run 141 104 (a0 :: a1 :: a2 :: a3 :: a4 :: a5 :: a6 :: a7 :: a8 :: a9 :: vL x :: vH :: l) (vL x :: st) σ := (run_eq 141 102 _ _ σ).trans rfl
theorem e141_104 (a0 a1 a2 a3 a4 a5 a6 a7 a8 : AV) (l st : List AV) (σ : St) (x : Int) : run 141 104 (a0 :: a1 :: a2 :: a3 :: a4 :: a5 :: a6 :: a7 :: a8 :: vI x :: l) (st) σ = run 141 106 (a0 :: a1 :: a2 :: a3 :: a4 :: a5 :: a6 :: a7 :: a8 :: vI x :: l) (vI x :: st) σ := (run_eq 141 104 _ _ σ).trans rfl
theorem e141_106 (a0 a1 a2 a3 a4 a5 a6 a7 a8 a9 a10 a11 : AV) (l st : List AV) (σ : St) (x : Int) : run 141 106 (a0 :: a1 :: a2 :: a3 :: a4 :: a5 :: a6 :: a7 :: a8 :: a9 :: a10 :: a11 :: vI x :: l) (st) σ = run 141 108 (a0 :: a1 :: a2 :: a3 :: a4 :: a5 :: a6 :: a7 :: a8 :: a9 :: a10 :: a11 :: vI x :: l) (vI x :: st) σ := (run_eq 141 106 _ _ σ).trans rfl
theorem e141_108 (ls st : List AV) (σ : St) (x0 : Int) (x1 : Int) (h4 : st.length ≤ 4) : run 141 108 ls (vI x1 :: vI x0 :: st) σ = bnd (run 109 0 [vI x0, vI x1] [] σ) (fun r σ => run 141 111 ls (psh r st) σ) := (run_eq 141 108 _ _ σ).trans (if_pos ⟨rfl, by simp, by simpa using h4⟩)
theorem e141_111 (ls st : List AV) (σ : St) (x : Int) : run 141 111 (ls) (vI x :: st) σ = if x = 0 then run 141 119 (ls) (st) σ else run 141 114 (ls) (st) σ := (run_eq 141 111 _ _ σ).trans rfl
theorem e141_114 (a0 a1 : AV) (l st : List AV) (σ : St) (x : Int) : run 141 114 (a0 :: a1 :: vI x :: l) (st) σ = run 141 115 (a0 :: a1 :: vI x :: l) (vI x :: st) σ := (run_eq 141 114 _ _ σ).trans rfl
theorem e141_115 (ls st : List AV) (σ : St) (x : Int) : run 141 115 (ls) (vI x :: st) σ = run 141 116 (ls) (vL x :: st) σ := (run_eq 141 115 _ _ σ).trans rfl
theorem e141_116 (ls st : List AV) (σ : St) : run 141 116 (ls) (st) σ = run 141 124 (ls) (st) σ := (run_eq 141 116 _ _ σ).trans rfl
theorem e141_119 (ls st : List AV) (σ : St) : run 141 119 (ls) (st) σ = run 141 121 (ls) (vI 10 :: st) σ := (run_eq 141 119 _ _ σ).trans rfl
theorem e141_121 (a0 a1 : AV) (l st : List AV) (σ : St) (x : Int) : run 141 121 (a0 :: a1 :: vI x :: l) (st) σ = run 141 122 (a0 :: a1 :: vI x :: l) (vI x :: st) σ := (run_eq 141 121 _ _ σ).trans rfl
theorem e141_122 (ls st : List AV) (σ : St) (y x : Int) : run 141 122 (ls) (vI y :: vI x :: st) σ = run 141 123 (ls) (vI (wr (x - y)) :: st) σ := (run_eq 141 122 _ _ σ).trans rfl
theorem e141_123 (ls st : List AV) (σ : St) (x : Int) : run 141 123 (ls) (vI x :: st) σ = run 141 124 (ls) (vL x :: st) σ := (run_eq 141 123 _ _ σ).trans rfl
theorem e141_124 (ls st : List AV) (σ : St) (y x : Int) : run 141 124 (ls) (vL y :: vL x :: st) σ = run 141 125 (ls) (vL (wl (x * y)) :: st) σ := (run_eq 141 124 _ _ σ).trans rfl
theorem e141_125 (a0 a1 a2 a3 a4 a5 a6 a7 a8 a9 : AV) (l st : List AV) (σ : St) (q q2 : AV) (x : Int) : run 141 125 (a0 :: a1 :: a2 :: a3 :: a4 :: a5 :: a6 :: a7 :: a8 :: a9 :: q :: q2 :: l) (vL x :: st) σ = run 141 127 (a0 :: a1 :: a2 :: a3 :: a4 :: a5 :: a6 :: a7 :: a8 :: a9 :: vL x :: vH :: l) (st) σ := (run_eq 141 125 _ _ σ).trans rfl
theorem e141_127 (l st : List AV) (σ : St) (x : Nat) : run 141 127 (vR x :: l) (st) σ = run 141 128 (vR x :: l) (vR x :: st) σ := (run_eq 141 127 _ _ σ).trans rfl
theorem e141_128 (a0 a1 a2 a3 a4 a5 a6 a7 a8 : AV) (l st : List AV) (σ : St) (x : Int) : run 141 128 (a0 :: a1 :: a2 :: a3 :: a4 :: a5 :: a6 :: a7 :: a8 :: vI x :: l) (st) σ = run 141 130 (a0 :: a1 :: a2 :: a3 :: a4 :: a5 :: a6 :: a7 :: a8 :: vI x :: l) (vI x :: st) σ := (run_eq 141 128 _ _ σ).trans rfl
theorem e141_130 (a0 a1 a2 a3 a4 a5 a6 a7 a8 a9 a10 a11 : AV) (l st : List AV) (σ : St) (x : Int) : run 141 130 (a0 :: a1 :: a2 :: a3 :: a4 :: a5 :: a6 :: a7 :: a8 :: a9 :: a10 :: a11 :: vI x :: l) (st) σ = run 141 132 (a0 :: a1 :: a2 :: a3 :: a4 :: a5 :: a6 :: a7 :: a8 :: a9 :: a10 :: a11 :: vI x :: l) (vI x :: st) σ := (run_eq 141 130 _ _ σ).trans rfl
theorem e141_132 (ls st : List AV) (σ : St) (x0 : Int) (x1 : Int) (h4 : st.length ≤ 4) : run 141 132 ls (vI x1 :: vI x0 :: st) σ = bnd (run 109 0 [vI x0, vI x1] [] σ) (fun r σ => run 141 135 ls (psh r st) σ) := (run_eq 141 132 _ _ σ).trans (if_pos ⟨rfl, by simp, by simpa using h4⟩)
theorem e141_135 (ls st : List AV) (σ : St) (x : Int) : run 141 135 (ls) (vI x :: st) σ = if x = 0 then run 141 142 (ls) (st) σ else run 141 138 (ls) (st) σ := (run_eq 141 135 _ _ σ).trans rfl
theorem e141_138 (ls st : List AV) (σ : St) : run 141 138 (ls) (st) σ = run 141 139 (ls) (vI 2 :: st) σ := (run_eq 141 138 _ _ σ).trans rfl
theorem e141_139 (ls st : List AV) (σ : St) : run 141 139 (ls) (st) σ = run 141 143 (ls) (st) σ := (run_eq 141 139 _ _ σ).trans rfl
theorem e141_142 (ls st : List AV) (σ : St) : run 141 142 (ls) (st) σ = run 141 143 (ls) (vI 0 :: st) σ := (run_eq 141 142 _ _ σ).trans rfl
theorem e141_143 (ls st : List AV) (σ : St) (x0 : Nat) (x1 : Int) (h4 : st.length ≤ 4) (h : fok σ x0 3) : run 141 143 ls (vI x1 :: vR x0 :: st) σ = bnd (run 108 0 [vR x0, vI x1, vU, vU, vU, vU] [] σ) (fun r σ => run 141 146 ls (psh r st) σ) := (run_eq 141 143 _ _ σ).trans (if_pos ⟨rfl, by simp, by simpa using h4, rfl, h⟩)
theorem e141_146 (a0 a1 a2 a3 a4 a5 a6 a7 a8 a9 a10 a11 : AV) (l st : List AV) (σ : St) (x : Int) : run 141 146 (a0 :: a1 :: a2 :: a3 :: a4 :: a5 :: a6 :: a7 :: a8 :: a9 :: a10 :: a11 :: vI x :: l) (st) σ = run 141 149 (a0 :: a1 :: a2 :: a3 :: a4 :: a5 :: a6 :: a7 :: a8 :: a9 :: a10 :: a11 :: vI (wr (x + 1)) :: l) (st) σ := (run_eq 141 146 _ _ σ).trans rfl
theorem e141_149 (ls st : List AV) (σ : St) : run 141 149 (ls) (st) σ = run 141 96 (ls) (st) σ := (run_eq 141 149 _ _ σ).trans rfl
theorem e141_152 (a0 a1 a2 a3 a4 : AV) (l st : List AV) (σ : St) (x : Int) : run 141 152 (a0 :: a1 :: a2 :: a3 :: a4 :: vL x :: vH :: l) (st) σ = run 141 154 (a0 :: a1 :: a2 :: a3 :: a4 :: vL x :: vH :: l) (vL x :: st) σ := (run_eq 141 152 _ _ σ).trans rfl
theorem e141_154 (l st : List AV) (σ : St) (x : Nat) : run 141 154 (vR x :: l) (st) σ = run 141 155 (vR x :: l) (vR x :: st) σ := (run_eq 141 154 _ _ σ).trans rfl
theorem e141_155 (a0 : AV) (l st : List AV) (σ : St) (x : Int) : run 141 155 (a0 :: vI x :: l) (st) σ = run 141 156 (a0 :: vI x :: l) (vI x :: st) σ := (run_eq 141 155 _ _ σ).trans rfl
theorem e141_156 (ls st : List AV) (σ : St) (x0 : Nat) (x1 : Int) (h4 : st.length ≤ 4) (h : fok σ x0 3) : run 141 156 ls (vI x1 :: vR x0 :: st) σ = bnd (run 111 0 [vR x0, vI x1, vU, vU, vU] [] σ) (fun r σ => run 141 159 ls (psh r st) σ) := (run_eq 141 156 _ _ σ).trans (if_pos ⟨rfl, by simp, by simpa using h4, rfl, h⟩)
theorem e141_159 (ls st : List AV) (σ : St) (x : Int) : run 141 159 (ls) (vI x :: st) σ = if x = 0 then run 141 167 (ls) (st) σ else run 141 162 (ls) (st) σ := (run_eq 141 159 _ _ σ).trans rfl
theorem e141_162 (a0 a1 a2 a3 a4 a5 a6 a7 a8 a9 : AV) (l st : List AV) (σ : St) (x : Int) : run 141 162 (a0 :: a1 :: a2 :: a3 :: a4 :: a5 :: a6 :: a7 :: a8 :: a9 :: vL x :: vH :: l) (st) σ = run 141 164 (a0 :: a1 :: a2 :: a3 :: a4 :: a5 :: a6 :: a7 :: a8 :: a9 :: vL x :: vH :: l) (vL x :: st) σ := (run_eq 141 162 _ _ σ).trans rfl
theorem e141_164 (ls st : List AV) (σ : St) : run 141 164 (ls) (st) σ = run 141 168 (ls) (st) σ := (run_eq 141 164 _ _ σ).trans rfl
theorem e141_167 (ls st : List AV) (σ : St) : run 141 167 (ls) (st) σ = run 141 168 (ls) (vL 0 :: st) σ := (run_eq 141 167 _ _ σ).trans rfl
theorem e141_168 (ls st : List AV) (σ : St) (y x : Int) : run 141 168 (ls) (vL y :: vL x :: st) σ = run 141 169 (ls) (vL (wl (x + y)) :: st) σ := (run_eq 141 168 _ _ σ).trans rfl
theorem e141_169 (a0 a1 a2 a3 a4 : AV) (l st : List AV) (σ : St) (q q2 : AV) (x : Int) : run 141 169 (a0 :: a1 :: a2 :: a3 :: a4 :: q :: q2 :: l) (vL x :: st) σ = run 141 171 (a0 :: a1 :: a2 :: a3 :: a4 :: vL x :: vH :: l) (st) σ := (run_eq 141 169 _ _ σ).trans rfl
theorem e141_171 (a0 a1 a2 a3 a4 a5 a6 a7 a8 : AV) (l st : List AV) (σ : St) (x : Int) : run 141 171 (a0 :: a1 :: a2 :: a3 :: a4 :: a5 :: a6 :: a7 :: a8 :: vI x :: l) (st) σ = run 141 174 (a0 :: a1 :: a2 :: a3 :: a4 :: a5 :: a6 :: a7 :: a8 :: vI (wr (x + 1)) :: l) (st) σ := (run_eq 141 171 _ _ σ).trans rfl
theorem e141_174 (ls st : List AV) (σ : St) : run 141 174 (ls) (st) σ = run 141 78 (ls) (st) σ := (run_eq 141 174 _ _ σ).trans rfl
theorem e141_177 (a0 a1 a2 a3 a4 : AV) (l st : List AV) (σ : St) (x : Int) : run 141 177 (a0 :: a1 :: a2 :: a3 :: a4 :: vL x :: vH :: l) (st) σ = run 141 179 (a0 :: a1 :: a2 :: a3 :: a4 :: vL x :: vH :: l) (vL x :: st) σ := (run_eq 141 177 _ _ σ).trans rfl
theorem e141_179 (a0 a1 a2 a3 a4 a5 a6 a7 a8 : AV) (l st : List AV) (σ : St) (q q2 : AV) (x : Int) : run 141 179 (a0 :: a1 :: a2 :: a3 :: a4 :: a5 :: a6 :: a7 :: a8 :: q :: q2 :: l) (vL x :: st) σ = run 141 181 (a0 :: a1 :: a2 :: a3 :: a4 :: a5 :: a6 :: a7 :: a8 :: vL x :: vH :: l) (st) σ := (run_eq 141 179 _ _ σ).trans rfl
theorem e141_181 (a0 a1 a2 a3 a4 a5 a6 : AV) (l st : List AV) (σ : St) (x : Int) : run 141 181 (a0 :: a1 :: a2 :: a3 :: a4 :: a5 :: a6 :: vL x :: vH :: l) (st) σ = run 141 183 (a0 :: a1 :: a2 :: a3 :: a4 :: a5 :: a6 :: vL x :: vH :: l) (vL x :: st) σ := (run_eq 141 181 _ _ σ).trans rfl
theorem e141_183 (a0 a1 a2 a3 a4 a5 a6 a7 a8 a9 a10 : AV) (l st : List AV) (σ : St) (q q2 : AV) (x : Int) : run 141 183 (a0 :: a1 :: a2 :: a3 :: a4 :: a5 :: a6 :: a7 :: a8 :: a9 :: a10 :: q :: q2 :: l) (vL x :: st) σ = run 141 185 (a0 :: a1 :: a2 :: a3 :: a4 :: a5 :: a6 :: a7 :: a8 :: a9 :: a10 :: vL x :: vH :: l) (st) σ := (run_eq 141 183 _ _ σ).trans rfl
theorem e141_185 (a0 a1 a2 a3 a4 a5 a6 a7 a8 a9 a10 : AV) (l st : List AV) (σ : St) (x : Int) : run 141 185 (a0 :: a1 :: a2 :: a3 :: a4 :: a5 :: a6 :: a7 :: a8 :: a9 :: a10 :: vL x :: vH :: l) (st) σ = run 141 187 (a0 :: a1 :: a2 :: a3 :: a4 :: a5 :: a6 :: a7 :: a8 :: a9 :: a10 :: vL x :: vH :: l) (vL x :: st) σ := (run_eq 141 185 _ _ σ).trans rfl
theorem e141_187 (ls st : List AV) (σ : St) : run 141 187 (ls) (st) σ = run 141 188 (ls) (vL 0 :: st) σ := (run_eq 141 187 _ _ σ).trans rfl
theorem e141_188 (ls st : List AV) (σ : St) (y x : Int) : run 141 188 (ls) (vL y :: vL x :: st) σ = run 141 189 (ls) (vI (lCmp x y) :: st) σ := (run_eq 141 188 _ _ σ).trans rfl
theorem e141_189 (ls st : List AV) (σ : St) (x : Int) : run 141 189 (ls) (vI x :: st) σ = if x = 0 then run 141 210 (ls) (st) σ else run 141 192 (ls) (st) σ := (run_eq 141 189 _ _ σ).trans rfl
theorem e141_192 (a0 a1 a2 a3 a4 a5 a6 a7 a8 : AV) (l st : List AV) (σ : St) (x : Int) : run 141 192 (a0 :: a1 :: a2 :: a3 :: a4 :: a5 :: a6 :: a7 :: a8 :: vL x :: vH :: l) (st) σ = run 141 194 (a0 :: a1 :: a2 :: a3 :: a4 :: a5 :: a6 :: a7 :: a8 :: vL x :: vH :: l) (vL x :: st) σ := (run_eq 141 192 _ _ σ).trans rfl
theorem e141_194 (a0 a1 a2 a3 a4 a5 a6 a7 a8 a9 a10 : AV) (l st : List AV) (σ : St) (x : Int) : run 141 194 (a0 :: a1 :: a2 :: a3 :: a4 :: a5 :: a6 :: a7 :: a8 :: a9 :: a10 :: vL x :: vH :: l) (st) σ = run 141 196 (a0 :: a1 :: a2 :: a3 :: a4 :: a5 :: a6 :: a7 :: a8 :: a9 :: a10 :: vL x :: vH :: l) (vL x :: st) σ := (run_eq 141 194 _ _ σ).trans rfl
theorem e141_196 (ls st : List AV) (σ : St) (y x : Int) (h : ¬ y = 0) : run 141 196 (ls) (vL y :: vL x :: st) σ = run 141 197 (ls) (vL (wl (x.tmod y)) :: st) σ := (run_eq 141 196 _ _ σ).trans (if_neg h)
theorem e141_197 (a0 a1 a2 a3 a4 a5 a6 a7 a8 a9 a10 a11 a12 : AV) (l st : List AV) (σ : St) (q q2 : AV) (x : Int) : run 141 197 (a0 :: a1 :: a2 :: a3 :: a4 :: a5 :: a6 :: a7 :: a8 :: a9 :: a10 :: a11 :: a12 :: q :: q2 :: l) (vL x :: st) σ = run 141 199 (a0 :: a1 :: a2 :: a3 :: a4 :: a5 :: a6 :: a7 :: a8 :: a9 :: a10 :: a11 :: a12 :: vL x :: vH :: l) (st) σ := (run_eq 141 197 _ _ σ).trans rfl
theorem e141_199 (a0 a1 a2 a3 a4 a5 a6 a7 a8 a9 a10 : AV) (l st : List AV) (σ : St) (x : Int) : run 141 199 (a0 :: a1 :: a2 :: a3 :: a4 :: a5 :: a6 :: a7 :: a8 :: a9 :: a10 :: vL x :: vH :: l) (st) σ = run 141 201 (a0 :: a1 :: a2 :: a3 :: a4 :: a5 :: a6 :: a7 :: a8 :: a9 :: a10 :: vL x :: vH :: l) (vL x :: st) σ := (run_eq 141 199 _ _ σ).trans rfl
theorem e141_201 (a0 a1 a2 a3 a4 a5 a6 a7 a8 : AV) (l st : List AV) (σ : St) (q q2 : AV) (x : Int) : run 141 201 (a0 :: a1 :: a2 :: a3 :: a4 :: a5 :: a6 :: a7 :: a8 :: q :: q2 :: l) (vL x :: st) σ = run 141 203 (a0 :: a1 :: a2 :: a3 :: a4 :: a5 :: a6 :: a7 :: a8 :: vL x :: vH :: l) (st) σ := (run_eq 141 201 _ _ σ).trans rfl
theorem e141_203 (a0 a1 a2 a3 a4 a5 a6 a7 a8 a9 a10 a11 a12 : AV) (l st : List AV) (σ : St) (x : Int) : run 141 203 (a0 :: a1 :: a2 :: a3 :: a4 :: a5 :: a6 :: a7 :: a8 :: a9 :: a10 :: a11 :: a12 :: vL x :: vH :: l) (st) σ = run 141 205 (a0 :: a1 :: a2 :: a3 :: a4 :: a5 :: a6 :: a7 :: a8 :: a9 :: a10 :: a11 :: a12 :: vL x :: vH :: l) (vL x :: st) σ := (run_eq 141 203 _ _ σ).trans rfl
theorem e141_205 (a0 a1 a2 a3 a4 a5 a6 a7 a8 a9 a10 : AV) (l st : List AV) (σ : St) (q q2 : AV) (x : Int) : run 141 205 (a0 :: a1 :: a2 :: a3 :: a4 :: a5 :: a6 :: a7 :: a8 :: a9 :: a10 :: q :: q2 :: l) (vL x :: st) σ = run 141 207 (a0 :: a1 :: a2 :: a3 :: a4 :: a5 :: a6 :: a7 :: a8 :: a9 :: a10 :: vL x :: vH :: l) (st) σ := (run_eq 141 205 _ _ σ).trans rfl
theorem e141_207 (ls st : List AV) (σ : St) : run 141 207 (ls) (st) σ = run 141 185 (ls) (st) σ := (run_eq 141 207 _ _ σ).trans rfl
theorem e141_210 (a0 a1 a2 a3 : AV) (l st : List AV) (σ : St) (x : Int) : run 141 210 (a0 :: a1 :: a2 :: a3 :: vI x :: l) (st) σ = run 141 212 (a0 :: a1 :: a2 :: a3 :: vI x :: l) (vI x :: st) σ := (run_eq 141 210 _ _ σ).trans rfl
theorem e141_212 (ls st : List AV) (σ : St) (x : Int) : run 141 212 (ls) (vI x :: st) σ = if x = 0 then run 141 215 (ls) (st) σ else run 141 223 (ls) (st) σ := (run_eq 141 212 _ _ σ).trans rfl
theorem e141_215 (a0 a1 a2 a3 a4 : AV) (l st : List AV) (σ : St) (x : Int) : run 141 215 (a0 :: a1 :: a2 :: a3 :: a4 :: vL x :: vH :: l) (st) σ = run 141 217 (a0 :: a1 :: a2 :: a3 :: a4 :: vL x :: vH :: l) (vL x :: st) σ := (run_eq 141 215 _ _ σ).trans rfl
theorem e141_217 (a0 a1 a2 a3 a4 a5 a6 a7 a8 : AV) (l st : List AV) (σ : St) (x : Int) : run 141 217 (a0 :: a1 :: a2 :: a3 :: a4 :: a5 :: a6 :: a7 :: a8 :: vL x :: vH :: l) (st) σ = run 141 219 (a0 :: a1 :: a2 :: a3 :: a4 :: a5 :: a6 :: a7 :: a8 :: vL x :: vH :: l) (vL x :: st) σ := (run_eq 141 217 _ _ σ).trans rfl
theorem e141_219 (ls st : List AV) (σ : St) (y x : Int) (h : ¬ y = 0) : run 141 219 (ls) (vL y :: vL x :: st) σ = run 141 220 (ls) (vL (wl (x.tdiv y)) :: st) σ := (run_eq 141 219 _ _ σ).trans (if_neg h)
theorem e141_220 (ls st : List AV) (σ : St) : run 141 220 (ls) (st) σ = run 141 228 (ls) (st) σ := (run_eq 141 220 _ _ σ).trans rfl
theorem e141_223 (a0 a1 a2 a3 a4 a5 a6 : AV) (l st : List AV) (σ : St) (x : Int) : run 141 223 (a0 :: a1 :: a2 :: a3 :: a4 :: a5 :: a6 :: vL x :: vH :: l) (st) σ = run 141 225 (a0 :: a1 :: a2 :: a3 :: a4 :: a5 :: a6 :: vL x :: vH :: l) (vL x :: st) σ := (run_eq 141 223 _ _ σ).trans rfl
theorem e141_225 (a0 a1 a2 a3 a4 a5 a6 a7 a8 : AV) (l st : List AV) (σ : St) (x : Int) : run 141 225 (a0 :: a1 :: a2 :: a3 :: a4 :: a5 :: a6 :: a7 :: a8 :: vL x :: vH :: l) (st) σ = run 141 227 (a0 :: a1 :: a2 :: a3 :: a4 :: a5 :: a6 :: a7 :: a8 :: vL x :: vH :: l) (vL x :: st) σ := (run_eq 141 225 _ _ σ).trans rfl
theorem e141_227 (ls st : List AV) (σ : St) (y x : Int) (h : ¬ y = 0) : run 141 227 (ls) (vL y :: vL x :: st) σ = run 141 228 (ls) (vL (wl (x.tdiv y)) :: st) σ := (run_eq 141 227 _ _ σ).trans (if_neg h)
theorem e141_228 (ls : List AV) (σ : St) (x : Int) : run 141 228 ls [vL x] σ = some (vL x, σ) := (run_eq 141 228 _ _ σ).trans rfl
/-! M_year -/
theorem e142_0 (a0 : AV) (l st : List AV) (σ : St) (x : Int) : run 142 0 (a0 :: vI x :: l) (st) σ = run 142 1 (a0 :: vI x :: l) (vI x :: st) σ := (run_eq 142 0 _ _ σ).trans rfl
theorem e142_1 (ls st : List AV) (σ : St) : run 142 1 (ls) (st) σ = run 142 2 (ls) (vI 0 :: st) σ := (run_eq 142 1 _ _ σ).trans rfl
theorem e142_2 (ls st : List AV) (σ : St) : run 142 2 (ls) (st) σ = run 142 5 (ls) (vI 9999 :: st) σ := (run_eq 142 2 _ _ σ).trans rfl
theorem e142_5 (ls st : List AV) (σ : St) (x0 : Int) (x1 : Int) (x2 : Int) (h4 : st.length ≤ 4) : run 142 5 ls (vI x2 :: vI x1 :: vI x0 :: st) σ = bnd (run 92 0 [vI x0, vI x1, vI x2] [] σ) (fun r σ => run 142 8 ls (psh r st) σ) := (run_eq 142 5 _ _ σ).trans (if_pos ⟨rfl, by simp, by simpa using h4⟩)
theorem e142_8 (ls st : List AV) (σ : St) (x : Int) : run 142 8 (ls) (vI x :: st) σ = if x = 0 then run 142 30 (ls) (st) σ else run 142 11 (ls) (st) σ := (run_eq 142 8 _ _ σ).trans rfl
theorem e142_11 (a0 a1 : AV) (l st : List AV) (σ : St) (x : Int) : run 142 11 (a0 :: a1 :: vI x :: l) (st) σ = run 142 12 (a0 :: a1 :: vI x :: l) (vI x :: st) σ := (run_eq 142 11 _ _ σ).trans rfl
theorem e142_12 (ls st : List AV) (σ : St) : run 142 12 (ls) (st) σ = run 142 13 (ls) (vI 1 :: st) σ := (run_eq 142 12 _ _ σ).trans rfl
theorem e142_13 (ls st : List AV) (σ : St) : run 142 13 (ls) (st) σ = run 142 15 (ls) (vI 99 :: st) σ := (run_eq 142 13 _ _ σ).trans rfl
theorem e142_15 (ls st : List AV) (σ : St) (x0 : Int) (x1 : Int) (x2 : Int) (h4 : st.length ≤ 4) : run 142 15 ls (vI x2 :: vI x1 :: vI x0 :: st) σ = bnd (run 92 0 [vI x0, vI x1, vI x2] [] σ) (fun r σ => run 142 18 ls (psh r st) σ) := (run_eq 142 15 _ _ σ).trans (if_pos ⟨rfl, by simp, by simpa using h4⟩)
theorem e142_18 (ls st : List AV) (σ : St) (x : Int) : run 142 18 (ls) (vI x :: st) σ = if x = 0 then run 142 30 (ls) (st) σ else run 142 21 (ls) (st) σ := (run_eq 142 18 _ _ σ).trans rfl
theorem e142_21 (a0 a1 a2 : AV) (l st : List AV) (σ : St) (x : Int) : run 142 21 (a0 :: a1 :: a2 :: vI x :: l) (st) σ = run 142 22 (a0 :: a1 :: a2 :: vI x :: l) (vI x :: st) σ := (run_eq 142 21 _ _ σ).trans rfl
theorem e142_22 (ls st : List AV) (σ : St) : run 142 22 (ls) (st) σ = run 142 23 (ls) (vI 0 :: st) σ := (run_eq 142 22 _ _ σ).trans rfl
theorem e142_23 (ls st : List AV) (σ : St) : run 142 23 (ls) (st) σ = run 142 24 (ls) (vI 2 :: st) σ := (run_eq 142 23 _ _ σ).trans rfl
theorem e142_24 (ls st : List AV) (σ : St) (x0 : Int) (x1 : Int) (x2 : Int) (h4 : st.length ≤ 4) : run 142 24 ls (vI x2 :: vI x1 :: vI x0 :: st) σ = bnd (run 92 0 [vI x0, vI x1, vI x2] [] σ) (fun r σ => run 142 27 ls (psh r st) σ) := (run_eq 142 24 _ _ σ).trans (if_pos ⟨rfl, by simp, by simpa using h4⟩)
theorem e142_27 (ls st : List AV) (σ : St) (x : Int) : run 142 27 (ls) (vI x :: st) σ = if x = 0 then run 142 30 (ls) (st) σ else run 142 33 (ls) (st) σ := (run_eq 142 27 _ _ σ).trans rfl
theorem e142_30 (ls st : List AV) (σ : St) : run 142 30 (ls) (st) σ = run 142 32 (ls) (vI (-2) :: st) σ := (run_eq 142 30 _ _ σ).trans rfl
theorem e142_32 (ls : List AV) (σ : St) (x : Int) : run 142 32 ls [vI x] σ = some (vI x, σ) := (run_eq 142 32 _ _ σ).trans rfl
theorem e142_33 (l st : List AV) (σ : St) (x : Nat) : run 142 33 (vR x :: l) (st) σ = run 142 34 (vR x :: l) (vR x :: st) σ := (run_eq 142 33 _ _ σ).trans rfl
theorem e142_34 (ls st : List AV) (σ : St) (x0 : Nat) (h4 : st.length ≤ 4) (h : fok σ x0 3) : run 142 34 ls (vR x0 :: st) σ = bnd (run 107 0 [vR x0, vU] [] σ) (fun r σ => run 142 37 ls (psh r st) σ) := (run_eq 142 34 _ _ σ).trans (if_pos ⟨rfl, by simp, by simpa using h4, rfl, h⟩)
theorem e142_37 (a0 : AV) (l st : List AV) (σ : St) (x : Int) : run 142 37 (a0 :: vI x :: l) (st) σ = run 142 38 (a0 :: vI x :: l) (vI x :: st) σ := (run_eq 142 37 _ _ σ).trans rfl
theorem e142_38 (a0 a1 a2 a3 : AV) (l st : List AV) (σ : St) (q : AV) (x : Int) : run 142 38 (a0 :: a1 :: a2 :: a3 :: q :: l) (vI x :: st) σ = run 142 40 (a0 :: a1 :: a2 :: a3 :: vI x :: l) (st) σ := (run_eq 142 38 _ _ σ).trans rfl
theorem e142_40 (ls st : List AV) (σ : St) : run 142 40 (ls) (st) σ = run 142 41 (ls) (vI 0 :: st) σ := (run_eq 142 40 _ _ σ).trans rfl
theorem e142_41 (a0 a1 a2 a3 a4 : AV) (l st : List AV) (σ : St) (q : AV) (x : Int) : run 142 41 (a0 :: a1 :: a2 :: a3 :: a4 :: q :: l) (vI x :: st) σ = run 142 43 (a0 :: a1 :: a2 :: a3 :: a4 :: vI x :: l) (st) σ := (run_eq 142 41 _ _ σ).trans rfl
theorem e142_43 (ls st : List AV) (σ : St) : run 142 43 (ls) (st) σ = run 142 44 (ls) (vI 0 :: st) σ := (run_eq 142 43 _ _ σ).trans rfl
theorem e142_44 (a0 a1 a2 a3 a4 a5 : AV) (l st : List AV) (σ : St) (q : AV) (x : Int) : run 142 44 (a0 :: a1 :: a2 :: a3 :: a4 :: a5 :: q :: l) (vI x :: st) σ = run 142 46 (a0 :: a1 :: a2 :: a3 :: a4 :: a5 :: vI x :: l) (st) σ := (run_eq 142 44 _ _ σ).trans rfl
theorem e142_46 (ls st : List AV) (σ : St) : run 142 46 (ls) (st) σ = run 142 47 (ls) (vI 0 :: st) σ := (run_eq 142 46 _ _ σ).trans rfl
theorem e142_47 (a0 a1 a2 a3 a4 a5 a6 : AV) (l st : List AV) (σ : St) (q : AV) (x : Int) : run 142 47 (a0 :: a1 :: a2 :: a3 :: a4 :: a5 :: a6 :: q :: l) (vI x :: st) σ = run 142 49 (a0 :: a1 :: a2 :: a3 :: a4 :: a5 :: a6 :: vI x :: l) (st) σ := (run_eq 142 47 _ _ σ).trans rfl
theorem e142_49 (a0 a1 a2 a3 a4 a5 a6 : AV) (l st : List AV) (σ : St) (x : Int) : run 142 49 (a0 :: a1 :: a2 :: a3 :: a4 :: a5 :: a6 :: vI x :: l) (st) σ = run 142 51 (a0 :: a1 :: a2 :: a3 :: a4 :: a5 :: a6 :: vI x :: l) (vI x :: st) σ := (run_eq 142 49 _ _ σ).trans rfl
theorem e142_51 (a0 a1 : AV) (l st : List AV) (σ : St) (x : Int) : run 142 51 (a0 :: a1 :: vI x :: l) (st) σ = run 142 52 (a0 :: a1 :: vI x :: l) (vI x :: st) σ := (run_eq 142 51 _ _ σ).trans rfl
theorem e142_52 (ls st : List AV) (σ : St) (y x : Int) : run 142 52 (ls) (vI y :: vI x :: st) σ = if x < y then run 142 55 (ls) (st) σ else run 142 160 (ls) (st) σ := (run_eq 142 52 _ _ σ).trans rfl
theorem e142_55 (ls st : List AV) (σ : St) : run 142 55 (ls) (st) σ = run 142 57 (ls) (vI 75 :: st) σ := (run_eq 142 55 _ _ σ).trans rfl
theorem e142_57 (a0 a1 a2 a3 : AV) (l st : List AV) (σ : St) (x : Int) : run 142 57 (a0 :: a1 :: a2 :: a3 :: vI x :: l) (st) σ = run 142 59 (a0 :: a1 :: a2 :: a3 :: vI x :: l) (vI x :: st) σ := (run_eq 142 57 _ _ σ).trans rfl
theorem e142_59 (ls st : List AV) (σ : St) (y x : Int) : run 142 59 (ls) (vI y :: vI x :: st) σ = run 142 60 (ls) (vI (wr (x * y)) :: st) σ := (run_eq 142 59 _ _ σ).trans rfl
theorem e142_60 (ls st : List AV) (σ : St) : run 142 60 (ls) (st) σ = run 142 62 (ls) (vI 74 :: st) σ := (run_eq 142 60 _ _ σ).trans rfl
theorem e142_62 (ls st : List AV) (σ : St) (y x : Int) : run 142 62 (ls) (vI y :: vI x :: st) σ = run 142 63 (ls) (vI (wr (x + y)) :: st) σ := (run_eq 142 62 _ _ σ).trans rfl
theorem e142_63 (ls st : List AV) (σ : St) : run 142 63 (ls) (st) σ = run 142 65 (ls) (vI 65537 :: st) σ := (run_eq 142 63 _ _ σ).trans rfl
theorem e142_65 (ls st : List AV) (σ : St) (y x : Int) (h : ¬ y = 0) : run 142 65 (ls) (vI y :: vI x :: st) σ = run 142 66 (ls) (vI (wr (x.tmod y)) :: st) σ := (run_eq 142 65 _ _ σ).trans (if_neg h)
theorem e142_66 (a0 a1 a2 a3 : AV) (l st : List AV) (σ : St) (q : AV) (x : Int) : run 142 66 (a0 :: a1 :: a2 :: a3 :: q :: l) (vI x :: st) σ = run 142 68 (a0 :: a1 :: a2 :: a3 :: vI x :: l) (st) σ := (run_eq 142 66 _ _ σ).trans rfl
theorem e142_68 (a0 a1 a2 a3 : AV) (l st : List AV) (σ : St) (x : Int) : run 142 68 (a0 :: a1 :: a2 :: a3 :: vI x :: l) (st) σ = run 142 70 (a0 :: a1 :: a2 :: a3 :: vI x :: l) (vI x :: st) σ := (run_eq 142 68 _ _ σ).trans rfl
theorem e142_70 (ls st : List AV) (σ : St) : run 142 70 (ls) (st) σ = run 142 72 (ls) (vI 8 :: st) σ := (run_eq 142 70 _ _ σ).trans rfl
theorem e142_72 (ls st : List AV) (σ : St) (y x : Int) (h : ¬ y = 0) : run 142 72 (ls) (vI y :: vI x :: st) σ = run 142 73 (ls) (vI (wr (x.tmod y)) :: st) σ := (run_eq 142 72 _ _ σ).trans (if_neg h)
theorem e142_73 (a0 a1 a2 a3 a4 a5 a6 a7 : AV) (l st : List AV) (σ : St) (q : AV) (x : Int) : run 142 73 (a0 :: a1 :: a2 :: a3 :: a4 :: a5 :: a6 :: a7 :: q :: l) (vI x :: st) σ = run 142 75 (a0 :: a1 :: a2 :: a3 :: a4 :: a5 :: a6 :: a7 :: vI x :: l) (st) σ := (run_eq 142 73 _ _ σ).trans rfl
theorem e142_75 (l st : List AV) (σ : St) (x : Nat) : run 142 75 (vR x :: l) (st) σ = run 142 76 (vR x :: l) (vR x :: st) σ := (run_eq 142 75 _ _ σ).trans rfl
theorem e142_76 (a0 a1 a2 a3 a4 a5 a6 a7 : AV) (l st : List AV) (σ : St) (x : Int) : run 142 76 (a0 :: a1 :: a2 :: a3 :: a4 :: a5 :: a6 :: a7 :: vI x :: l) (st) σ = run 142 78 (a0 :: a1 :: a2 :: a3 :: a4 :: a5 :: a6 :: a7 :: vI x :: l) (vI x :: st) σ := (run_eq 142 76 _ _ σ).trans rfl
theorem e142_78 (ls st : List AV) (σ : St) : run 142 78 (ls) (st) σ = run 142 79 (ls) (vI 5 :: st) σ := (run_eq 142 78 _ _ σ).trans rfl
theorem e142_79 (ls st : List AV) (σ : St) (y x : Int) : run 142 79 (ls) (vI y :: vI x :: st) σ = if x < y then run 142 82 (ls) (st) σ else run 142 89 (ls) (st) σ := (run_eq 142 79 _ _ σ).trans rfl
theorem e142_82 (a0 a1 a2 a3 a4 a5 a6 a7 : AV) (l st : List AV) (σ : St) (x : Int) : run 142 82 (a0 :: a1 :: a2 :: a3 :: a4 :: a5 :: a6 :: a7 :: vI x :: l) (st) σ = run 142 84 (a0 :: a1 :: a2 :: a3 :: a4 :: a5 :: a6 :: a7 :: vI x :: l) (vI x :: st) σ := (run_eq 142 82 _ _ σ).trans rfl
theorem e142_84 (ls st : List AV) (σ : St) : run 142 84 (ls) (st) σ = run 142 85 (ls) (vI 1 :: st) σ := (run_eq 142 84 _ _ σ).trans rfl
theorem e142_85 (ls st : List AV) (σ : St) (y x : Int) : run 142 85 (ls) (vI y :: vI x :: st) σ = run 142 86 (ls) (vI (wr (x + y)) :: st) σ := (run_eq 142 85 _ _ σ).trans rfl
theorem e142_86 (ls st : List AV) (σ : St) : run 142 86 (ls) (st) σ = run 142 90 (ls) (st) σ := (run_eq 142 86 _ _ σ).trans rfl
theorem e142_89 (ls st : List AV) (σ : St) : run 142 89 (ls) (st) σ = run 142 90 (ls) (vI 0 :: st) σ := (run_eq 142 89 _ _ σ).trans rfl
theorem e142_90 (ls st : List AV) (σ : St) (x0 : Nat) (x1 : Int) (h4 : st.length ≤ 4) (h : fok σ x0 3) : run 142 90 ls (vI x1 :: vR x0 :: st) σ = bnd (run 108 0 [vR x0, vI x1, vU, vU, vU, vU] [] σ) (fun r σ => run 142 93 ls (psh r st) σ) := (run_eq 142 90 _ _ σ).trans (if_pos ⟨rfl, by simp, by simpa using h4, rfl, h⟩)
theorem e142_93 (a0 a1 a2 a3 a4 : AV) (l st : List AV) (σ : St) (x : Int) : run 142 93 (a0 :: a1 :: a2 :: a3 :: a4 :: vI x :: l) (st) σ = run 142 95 (a0 :: a1 :: a2 :: a3 :: a4 :: vI x :: l) (vI x :: st) σ := (run_eq 142 93 _ _ σ).trans rfl
theorem e142_95 (l st : List AV) (σ : St) (x : Nat) : run 142 95 (vR x :: l) (st) σ = run 142 96 (vR x :: l) (vR x :: st) σ := (run_eq 142 95 _ _ σ).trans rfl
theorem e142_96 (ls st : List AV) (σ : St) (x0 : Nat) (h4 : st.length ≤ 4) (h : fok σ x0 3) : run 142 96 ls (vR x0 :: st) σ = bnd (run 143 0 [vR x0, vU, vU] [] σ) (fun r σ => run 142 99 ls (psh r st) σ) := (run_eq 142 96 _ _ σ).trans (if_pos ⟨rfl, by simp, by simpa using h4, rfl, h⟩)
theorem e142_99 (ls st : List AV) (σ : St) (x : Int) : run 142 99 (ls) (vI x :: st) σ = if x = 0 then run 142 106 (ls) (st) σ else run 142 102 (ls) (st) σ := (run_eq 142 99 _ _ σ).trans rfl
theorem e142_102 (ls st : List AV) (σ : St) : run 142 102 (ls) (st) σ = run 142 103 (ls) (vI 0 :: st) σ := (run_eq 142 102 _ _ σ).trans rfl
theorem e142_103 (ls st : List AV) (σ : St) : run 142 103 (ls) (st) σ = run 142 107 (ls) (st) σ := (run_eq 142 103 _ _ σ).trans rfl
theorem e142_106 (ls st : List AV) (σ : St) : run 142 106 (ls) (st) σ = run 142 107 (ls) (vI 1 :: st) σ := (run_eq 142 106 _ _ σ).trans rfl
theorem e142_107 (ls st : List AV) (σ : St) (y x : Int) : run 142 107 (ls) (vI y :: vI x :: st) σ = run 142 108 (ls) (vI (wr (x + y)) :: st) σ := (run_eq 142 107 _ _ σ).trans rfl
theorem e142_108 (a0 a1 a2 a3 a4 : AV) (l st : List AV) (σ : St) (q : AV) (x : Int) : run 142 108 (a0 :: a1 :: a2 :: a3 :: a4 :: q :: l) (vI x :: st) σ = run 142 110 (a0 :: a1 :: a2 :: a3 :: a4 :: vI x :: l) (st) σ := (run_eq 142 108 _ _ σ).trans rfl
theorem e142_110 (ls st : List AV) (σ : St) : run 142 110 (ls) (st) σ = run 142 111 (ls) (vI 0 :: st) σ := (run_eq 142 110 _ _ σ).trans rfl
theorem e142_111 (a0 a1 a2 a3 a4 a5 a6 a7 a8 : AV) (l st : List AV) (σ : St) (q : AV) (x : Int) : run 142 111 (a0 :: a1 :: a2 :: a3 :: a4 :: a5 :: a6 :: a7 :: a8 :: q :: l) (vI x :: st) σ = run 142 113 (a0 :: a1 :: a2 :: a3 :: a4 :: a5 :: a6 :: a7 :: a8 :: vI x :: l) (st) σ := (run_eq 142 111 _ _ σ).trans rfl
theorem e142_113 (a0 a1 a2 a3 a4 a5 a6 a7 a8 : AV) (l st : List AV) (σ : St) (x : Int) : run 142 113 (a0 :: a1 :: a2 :: a3 :: a4 :: a5 :: a6 :: a7 :: a8 :: vI x :: l) (st) σ = run 142 115 (a0 :: a1 :: a2 :: a3 :: a4 :: a5 :: a6 :: a7 :: a8 :: vI x :: l) (vI x :: st) σ := (run_eq 142 113 _ _ σ).trans rfl
theorem e142_115 (l st : List AV) (σ : St) (x : Nat) : run 142 115 (vR x :: l) (st) σ = run 142 116 (vR x :: l) (vR x :: st) σ := (run_eq 142 115 _ _ σ).trans rfl
theorem e142_116 (ls st : List AV) (σ : St) (x0 : Nat) (h4 : st.length ≤ 4) (h : fok σ x0 3) : run 142 116 ls (vR x0 :: st) σ = bnd (run 95 0 [vR x0] [] σ) (fun r σ => run 142 119 ls (psh r st) σ) := (run_eq 142 116 _ _ σ).trans (if_pos ⟨rfl, by simp, by simpa using h4, rfl, h⟩)
theorem e142_119 (ls st : List AV) (σ : St) (y x : Int) : run 142 119 (ls) (vI y :: vI x :: st) σ = if x < y then run 142 122 (ls) (st) σ else run 142 154 (ls) (st) σ := (run_eq 142 119 _ _ σ).trans rfl
theorem e142_122 (l st : List AV) (σ : St) (x : Nat) : run 142 122 (vR x :: l) (st) σ = run 142 123 (vR x :: l) (vR x :: st) σ := (run_eq 142 122 _ _ σ).trans rfl
theorem e142_123 (ls st : List AV) (σ : St) (x : Nat) (h : fok σ x 3) : run 142 123 (ls) (vR x :: st) σ = run 142 126 (ls) (vR (gr σ x 11) :: st) σ := (run_eq 142 123 _ _ σ).trans (if_pos h)
theorem e142_126 (a0 a1 a2 a3 a4 a5 a6 a7 a8 : AV) (l st : List AV) (σ : St) (x : Int) : run 142 126 (a0 :: a1 :: a2 :: a3 :: a4 :: a5 :: a6 :: a7 :: a8 :: vI x :: l) (st) σ = run 142 128 (a0 :: a1 :: a2 :: a3 :: a4 :: a5 :: a6 :: a7 :: a8 :: vI x :: l) (vI x :: st) σ := (run_eq 142 126 _ _ σ).trans rfl
theorem e142_128 (ls st : List AV) (σ : St) (j : Int) (x : Nat) (h : aok σ x 4 j) : run 142 128 (ls) (vI j :: vR x :: st) σ = run 142 129 (ls) (vI (gt σ x j.toNat) :: st) σ := (run_eq 142 128 _ _ σ).trans (if_pos h)
theorem e142_129 (a0 a1 a2 a3 a4 a5 : AV) (l st : List AV) (σ : St) (x : Int) : run 142 129 (a0 :: a1 :: a2 :: a3 :: a4 :: a5 :: vI x :: l) (st) σ = run 142 131 (a0 :: a1 :: a2 :: a3 :: a4 :: a5 :: vI x :: l) (vI x :: st) σ := (run_eq 142 129 _ _ σ).trans rfl
theorem e142_131 (ls st : List AV) (σ : St) (y x : Int) : run 142 131 (ls) (vI y :: vI x :: st) σ = if y < x then run 142 134 (ls) (st) σ else run 142 144 (ls) (st) σ := (run_eq 142 131 _ _ σ).trans rfl
theorem e142_134 (l st : List AV) (σ : St) (x : Nat) : run 142 134 (vR x :: l) (st) σ = run 142 135 (vR x :: l) (vR x :: st) σ := (run_eq 142 134 _ _ σ).trans rfl
theorem e142_135 (ls st : List AV) (σ : St) (x : Nat) (h : fok σ x 3) : run 142 135 (ls) (vR x :: st) σ = run 142 138 (ls) (vR (gr σ x 11) :: st) σ := (run_eq 142 135 _ _ σ).trans (if_pos h)
theorem e142_138 (a0 a1 a2 a3 a4 a5 a6 a7 a8 : AV) (l st : List AV) (σ : St) (x : Int) : run 142 138 (a0 :: a1 :: a2 :: a3 :: a4 :: a5 :: a6 :: a7 :: a8 :: vI x :: l) (st) σ = run 142 140 (a0 :: a1 :: a2 :: a3 :: a4 :: a5 :: a6 :: a7 :: a8 :: vI x :: l) (vI x :: st) σ := (run_eq 142 138 _ _ σ).trans rfl
theorem e142_140 (ls st : List AV) (σ : St) (j : Int) (x : Nat) (h : aok σ x 4 j) : run 142 140 (ls) (vI j :: vR x :: st) σ = run 142 141 (ls) (vI (gt σ x j.toNat) :: st) σ := (run_eq 142 140 _ _ σ).trans (if_pos h)
theorem e142_141 (ls st : List AV) (σ : St) : run 142 141 (ls) (st) σ = run 142 146 (ls) (st) σ := (run_eq 142 141 _ _ σ).trans rfl
theorem e142_144 (a0 a1 a2 a3 a4 a5 : AV) (l st : List AV) (σ : St) (x : Int) : run 142 144 (a0 :: a1 :: a2 :: a3 :: a4 :: a5 :: vI x :: l) (st) σ = run 142 146 (a0 :: a1 :: a2 :: a3 :: a4 :: a5 :: vI x :: l) (vI x :: st) σ := (run_eq 142 144 _ _ σ).trans rfl
theorem e142_146 (a0 a1 a2 a3 a4 a5 : AV) (l st : List AV) (σ : St) (q : AV) (x : Int) : run 142 146 (a0 :: a1 :: a2 :: a3 :: a4 :: a5 :: q :: l) (vI x :: st) σ = run 142 148 (a0 :: a1 :: a2 :: a3 :: a4 :: a5 :: vI x :: l) (st) σ := (run_eq 142 146 _ _ σ).trans rfl
theorem e142_148 (a0 a1 a2 a3 a4 a5 a6 a7 a8 : AV) (l st : List AV) (σ : St) (x : Int) : run 142 148 (a0 :: a1 :: a2 :: a3 :: a4 :: a5 :: a6 :: a7 :: a8 :: vI x :: l) (st) σ = run 142 151 (a0 :: a1 :: a2 :: a3 :: a4 :: a5 :: a6 :: a7 :: a8 :: vI (wr (x + 1)) :: l) (st) σ := (run_eq 142 148 _ _ σ).trans rfl
theorem e142_151 (ls st : List AV) (σ : St) : run 142 151 (ls) (st) σ = run 142 113 (ls) (st) σ := (run_eq 142 151 _ _ σ).trans rfl
theorem e142_154 (a0 a1 a2 a3 a4 a5 a6 : AV) (l st : List AV) (σ : St) (x : Int) : run 142 154 (a0 :: a1 :: a2 :: a3 :: a4 :: a5 :: a6 :: vI x :: l) (st) σ = run 142 157 (a0 :: a1 :: a2 :: a3 :: a4 :: a5 :: a6 :: vI (wr (x + 1)) :: l) (st) σ := (run_eq 142 154 _ _ σ).trans rfl
theorem e142_157 (ls st : List AV) (σ : St) : run 142 157 (ls) (st) σ = run 142 49 (ls) (st) σ := (run_eq 142 157 _ _ σ).trans rfl
theorem e142_160 (a0 a1 a2 : AV) (l st : List AV) (σ : St) (x : Int) : run 142 160 (a0 :: a1 :: a2 :: vI x :: l) (st) σ = run 142 161 (a0 :: a1 :: a2 :: vI x :: l) (vI x :: st) σ := (run_eq 142 160 _ _ σ).trans rfl
theorem e142_161 (ls st : List AV) (σ : St) (x : Int) : run 142 161 (ls) (vI x :: st) σ = if x = 0 then run 142 164 (ls) (st) σ else run 142 171 (ls) (st) σ := (run_eq 142 161 _ _ σ).trans rfl
theorem e142_164 (l st : List AV) (σ : St) (x : Nat) : run 142 164 (vR x :: l) (st) σ = run 142 165 (vR x :: l) (vR x :: st) σ := (run_eq 142 164 _ _ σ).trans rfl
theorem e142_165 (ls st : List AV) (σ : St) (x0 : Nat) (h4 : st.length ≤ 4) (h : fok σ x0 3) : run 142 165 ls (vR x0 :: st) σ = bnd (run 144 0 [vR x0, vU, vU] [] σ) (fun r σ => run 142 168 ls (psh r st) σ) := (run_eq 142 165 _ _ σ).trans (if_pos ⟨rfl, by simp, by simpa using h4, rfl, h⟩)
theorem e142_168 (ls st : List AV) (σ : St) : run 142 168 (ls) (st) σ = run 142 183 (ls) (st) σ := (run_eq 142 168 _ _ σ).trans rfl
theorem e142_171 (a0 a1 a2 : AV) (l st : List AV) (σ : St) (x : Int) : run 142 171 (a0 :: a1 :: a2 :: vI x :: l) (st) σ = run 142 172 (a0 :: a1 :: a2 :: vI x :: l) (vI x :: st) σ := (run_eq 142 171 _ _ σ).trans rfl
theorem e142_172 (ls st : List AV) (σ : St) : run 142 172 (ls) (st) σ = run 142 173 (ls) (vI 1 :: st) σ := (run_eq 142 172 _ _ σ).trans rfl
theorem e142_173 (ls st : List AV) (σ : St) (y x : Int) : run 142 173 (ls) (vI y :: vI x :: st) σ = if x = y then run 142 176 (ls) (st) σ else run 142 181 (ls) (st) σ := (run_eq 142 173 _ _ σ).trans rfl
theorem e142_176 (a0 a1 a2 a3 a4 : AV) (l st : List AV) (σ : St) (x : Int) : run 142 176 (a0 :: a1 :: a2 :: a3 :: a4 :: vI x :: l) (st) σ = run 142 178 (a0 :: a1 :: a2 :: a3 :: a4 :: vI x :: l) (vI x :: st) σ := (run_eq 142 176 _ _ σ).trans rfl
theorem e142_178 (ls st : List AV) (σ : St) : run 142 178 (ls) (st) σ = run 142 183 (ls) (st) σ := (run_eq 142 178 _ _ σ).trans rfl
theorem e142_181 (a0 a1 a2 a3 a4 a5 : AV) (l st : List AV) (σ : St) (x : Int) : run 142 181 (a0 :: a1 :: a2 :: a3 :: a4 :: a5 :: vI x :: l) (st) σ = run 142 183 (a0 :: a1 :: a2 :: a3 :: a4 :: a5 :: vI x :: l) (vI x :: st) σ := (run_eq 142 181 _ _ σ).trans rfl
theorem e142_183 (ls : List AV) (σ : St) (x : Int) : run 142 183 ls [vI x] σ = some (vI x, σ) := (run_eq 142 183 _ _ σ).trans rfl
/-! M_allStand -/
theorem e143_0 (ls st : List AV) (σ : St) : run 143 0 (ls) (st) σ = run 143 1 (ls) (vI 1 :: st) σ := (run_eq 143 0 _ _ σ).trans rfl
theorem e143_1 (a0 : AV) (l st : List AV) (σ : St) (q : AV) (x : Int) : run 143 1 (a0 :: q :: l) (vI x :: st) σ = run 143 2 (a0 :: vI x :: l) (st) σ := (run_eq 143 1 _ _ σ).trans rfl
theorem e143_2 (ls st : List AV) (σ : St) : run 143 2 (ls) (st) σ = run 143 3 (ls) (vI 0 :: st) σ := (run_eq 143 2 _ _ σ).trans rfl
theorem e143_3 (a0 a1 : AV) (l st : List AV) (σ : St) (q : AV) (x : Int) : run 143 3 (a0 :: a1 :: q :: l) (vI x :: st) σ = run 143 4 (a0 :: a1 :: vI x :: l) (st) σ := (run_eq 143 3 _ _ σ).trans rfl
theorem e143_4 (a0 a1 : AV) (l st : List AV) (σ : St) (x : Int) : run 143 4 (a0 :: a1 :: vI x :: l) (st) σ = run 143 5 (a0 :: a1 :: vI x :: l) (vI x :: st) σ := (run_eq 143 4 _ _ σ).trans rfl
theorem e143_5 (ls st : List AV) (σ : St) : run 143 5 (ls) (st) σ = run 143 6 (ls) (vI 4 :: st) σ := (run_eq 143 5 _ _ σ).trans rfl
theorem e143_6 (ls st : List AV) (σ : St) (y x : Int) : run 143 6 (ls) (vI y :: vI x :: st) σ = if x < y then run 143 9 (ls) (st) σ else run 143 33 (ls) (st) σ := (run_eq 143 6 _ _ σ).trans rfl
theorem e143_9 (a0 : AV) (l st : List AV) (σ : St) (x : Int) : run 143 9 (a0 :: vI x :: l) (st) σ = run 143 10 (a0 :: vI x :: l) (vI x :: st) σ := (run_eq 143 9 _ _ σ).trans rfl
theorem e143_10 (ls st : List AV) (σ : St) (x : Int) : run 143 10 (ls) (vI x :: st) σ = if x = 0 then run 143 25 (ls) (st) σ else run 143 13 (ls) (st) σ := (run_eq 143 10 _ _ σ).trans rfl
theorem e143_13 (l st : List AV) (σ : St) (x : Nat) : run 143 13 (vR x :: l) (st) σ = run 143 14 (vR x :: l) (vR x :: st) σ := (run_eq 143 13 _ _ σ).trans rfl
theorem e143_14 (a0 a1 : AV) (l st : List AV) (σ : St) (x : Int) : run 143 14 (a0 :: a1 :: vI x :: l) (st) σ = run 143 15 (a0 :: a1 :: vI x :: l) (vI x :: st) σ := (run_eq 143 14 _ _ σ).trans rfl
theorem e143_15 (ls st : List AV) (σ : St) (x0 : Nat) (x1 : Int) (h4 : st.length ≤ 4) (h : fok σ x0 3) : run 143 15 ls (vI x1 :: vR x0 :: st) σ = bnd (run 111 0 [vR x0, vI x1, vU, vU, vU] [] σ) (fun r σ => run 143 18 ls (psh r st) σ) := (run_eq 143 15 _ _ σ).trans (if_pos ⟨rfl, by simp, by simpa using h4, rfl, h⟩)
theorem e143_18 (ls st : List AV) (σ : St) (x : Int) : run 143 18 (ls) (vI x :: st) σ = if x = 0 then run 143 25 (ls) (st) σ else run 143 21 (ls) (st) σ := (run_eq 143 18 _ _ σ).trans rfl
theorem e143_21 (ls st : List AV) (σ : St) : run 143 21 (ls) (st) σ = run 143 22 (ls) (vI 1 :: st) σ := (run_eq 143 21 _ _ σ).trans rfl
theorem e143_22 (ls st : List AV) (σ : St) : run 143 22 (ls) (st) σ = run 143 26 (ls) (st) σ := (run_eq 143 22 _ _ σ).trans rfl
theorem e143_25 (ls st : List AV) (σ : St) : run 143 25 (ls) (st) σ = run 143 26 (ls) (vI 0 :: st) σ := (run_eq 143 25 _ _ σ).trans rfl
theorem e143_26 (a0 : AV) (l st : List AV) (σ : St) (q : AV) (x : Int) : run 143 26 (a0 :: q :: l) (vI x :: st) σ = run 143 27 (a0 :: vI x :: l) (st) σ := (run_eq 143 26 _ _ σ).trans rfl
theorem e143_27 (a0 a1 : AV) (l st : List AV) (σ : St) (x : Int) : run 143 27 (a0 :: a1 :: vI x :: l) (st) σ = run 143 30 (a0 :: a1 :: vI (wr (x + 1)) :: l) (st) σ := (run_eq 143 27 _ _ σ).trans rfl
theorem e143_30 (ls st : List AV) (σ : St) : run 143 30 (ls) (st) σ = run 143 4 (ls) (st) σ := (run_eq 143 30 _ _ σ).trans rfl
theorem e143_33 (a0 : AV) (l st : List AV) (σ : St) (x : Int) : run 143 33 (a0 :: vI x :: l) (st) σ = run 143 34 (a0 :: vI x :: l) (vI x :: st) σ := (run_eq 143 33 _ _ σ).trans rfl
theorem e143_34 (ls : List AV) (σ : St) (x : Int) (h : x = 0 ∨ x = 1) : run 143 34 ls [vI x] σ = some (vI x, σ) := (run_eq 143 34 _ _ σ).trans (if_pos h)
/-! M_sumNow -/
theorem e144_0 (ls st : List AV) (σ : St) : run 144 0 (ls) (st) σ = run 144 1 (ls) (vI 0 :: st) σ := (run_eq 144 0 _ _ σ).trans rfl
theorem e144_1 (a0 : AV) (l st : List AV) (σ : St) (q : AV) (x : Int) : run 144 1 (a0 :: q :: l) (vI x :: st) σ = run 144 2 (a0 :: vI x :: l) (st) σ := (run_eq 144 1 _ _ σ).trans rfl
theorem e144_2 (ls st : List AV) (σ : St) : run 144 2 (ls) (st) σ = run 144 3 (ls) (vI 0 :: st) σ := (run_eq 144 2 _ _ σ).trans rfl
theorem e144_3 (a0 a1 : AV) (l st : List AV) (σ : St) (q : AV) (x : Int) : run 144 3 (a0 :: a1 :: q :: l) (vI x :: st) σ = run 144 4 (a0 :: a1 :: vI x :: l) (st) σ := (run_eq 144 3 _ _ σ).trans rfl
theorem e144_4 (a0 a1 : AV) (l st : List AV) (σ : St) (x : Int) : run 144 4 (a0 :: a1 :: vI x :: l) (st) σ = run 144 5 (a0 :: a1 :: vI x :: l) (vI x :: st) σ := (run_eq 144 4 _ _ σ).trans rfl
theorem e144_5 (l st : List AV) (σ : St) (x : Nat) : run 144 5 (vR x :: l) (st) σ = run 144 6 (vR x :: l) (vR x :: st) σ := (run_eq 144 5 _ _ σ).trans rfl
theorem e144_6 (ls st : List AV) (σ : St) (x0 : Nat) (h4 : st.length ≤ 4) (h : fok σ x0 3) : run 144 6 ls (vR x0 :: st) σ = bnd (run 95 0 [vR x0] [] σ) (fun r σ => run 144 9 ls (psh r st) σ) := (run_eq 144 6 _ _ σ).trans (if_pos ⟨rfl, by simp, by simpa using h4, rfl, h⟩)
theorem e144_9 (ls st : List AV) (σ : St) (y x : Int) : run 144 9 (ls) (vI y :: vI x :: st) σ = if x < y then run 144 12 (ls) (st) σ else run 144 27 (ls) (st) σ := (run_eq 144 9 _ _ σ).trans rfl
theorem e144_12 (a0 : AV) (l st : List AV) (σ : St) (x : Int) : run 144 12 (a0 :: vI x :: l) (st) σ = run 144 13 (a0 :: vI x :: l) (vI x :: st) σ := (run_eq 144 12 _ _ σ).trans rfl
theorem e144_13 (l st : List AV) (σ : St) (x : Nat) : run 144 13 (vR x :: l) (st) σ = run 144 14 (vR x :: l) (vR x :: st) σ := (run_eq 144 13 _ _ σ).trans rfl
theorem e144_14 (ls st : List AV) (σ : St) (x : Nat) (h : fok σ x 3) : run 144 14 (ls) (vR x :: st) σ = run 144 17 (ls) (vR (gr σ x 11) :: st) σ := (run_eq 144 14 _ _ σ).trans (if_pos h)
theorem e144_17 (a0 a1 : AV) (l st : List AV) (σ : St) (x : Int) : run 144 17 (a0 :: a1 :: vI x :: l) (st) σ = run 144 18 (a0 :: a1 :: vI x :: l) (vI x :: st) σ := (run_eq 144 17 _ _ σ).trans rfl
theorem e144_18 (ls st : List AV) (σ : St) (j : Int) (x : Nat) (h : aok σ x 4 j) : run 144 18 (ls) (vI j :: vR x :: st) σ = run 144 19 (ls) (vI (gt σ x j.toNat) :: st) σ := (run_eq 144 18 _ _ σ).trans (if_pos h)
theorem e144_19 (ls st : List AV) (σ : St) (y x : Int) : run 144 19 (ls) (vI y :: vI x :: st) σ = run 144 20 (ls) (vI (wr (x + y)) :: st) σ := (run_eq 144 19 _ _ σ).trans rfl
theorem e144_20 (a0 : AV) (l st : List AV) (σ : St) (q : AV) (x : Int) : run 144 20 (a0 :: q :: l) (vI x :: st) σ = run 144 21 (a0 :: vI x :: l) (st) σ := (run_eq 144 20 _ _ σ).trans rfl
theorem e144_21 (a0 a1 : AV) (l st : List AV) (σ : St) (x : Int) : run 144 21 (a0 :: a1 :: vI x :: l) (st) σ = run 144 24 (a0 :: a1 :: vI (wr (x + 1)) :: l) (st) σ := (run_eq 144 21 _ _ σ).trans rfl
theorem e144_24 (ls st : List AV) (σ : St) : run 144 24 (ls) (st) σ = run 144 4 (ls) (st) σ := (run_eq 144 24 _ _ σ).trans rfl
theorem e144_27 (a0 : AV) (l st : List AV) (σ : St) (x : Int) : run 144 27 (a0 :: vI x :: l) (st) σ = run 144 28 (a0 :: vI x :: l) (vI x :: st) σ := (run_eq 144 27 _ _ σ).trans rfl
theorem e144_28 (ls : List AV) (σ : St) (x : Int) : run 144 28 ls [vI x] σ = some (vI x, σ) := (run_eq 144 28 _ _ σ).trans rfl
/-! M_image -/
theorem e145_0 (a0 : AV) (l st : List AV) (σ : St) (x : Int) : run 145 0 (a0 :: vI x :: l) (st) σ = run 145 1 (a0 :: vI x :: l) (vI x :: st) σ := (run_eq 145 0 _ _ σ).trans rfl
theorem e145_1 (ls st : List AV) (σ : St) : run 145 1 (ls) (st) σ = run 145 2 (ls) (vI 0 :: st) σ := (run_eq 145 1 _ _ σ).trans rfl
theorem e145_2 (ls st : List AV) (σ : St) : run 145 2 (ls) (st) σ = run 145 3 (ls) (vI 1 :: st) σ := (run_eq 145 2 _ _ σ).trans rfl
theorem e145_3 (ls st : List AV) (σ : St) (x0 : Int) (x1 : Int) (x2 : Int) (h4 : st.length ≤ 4) : run 145 3 ls (vI x2 :: vI x1 :: vI x0 :: st) σ = bnd (run 92 0 [vI x0, vI x1, vI x2] [] σ) (fun r σ => run 145 6 ls (psh r st) σ) := (run_eq 145 3 _ _ σ).trans (if_pos ⟨rfl, by simp, by simpa using h4⟩)
theorem e145_6 (ls st : List AV) (σ : St) (x : Int) : run 145 6 (ls) (vI x :: st) σ = if x = 0 then run 145 9 (ls) (st) σ else run 145 12 (ls) (st) σ := (run_eq 145 6 _ _ σ).trans rfl
theorem e145_9 (ls st : List AV) (σ : St) : run 145 9 (ls) (st) σ = run 145 11 (ls) (vI (-2) :: st) σ := (run_eq 145 9 _ _ σ).trans rfl
theorem e145_11 (ls : List AV) (σ : St) (x : Int) : run 145 11 ls [vI x] σ = some (vI x, σ) := (run_eq 145 11 _ _ σ).trans rfl
theorem e145_12 (ls st : List AV) (σ : St) : run 145 12 (ls) (st) σ = run 145 15 (ls) (vI 160 :: st) σ := (run_eq 145 12 _ _ σ).trans rfl
theorem e145_15 (a0 : AV) (l st : List AV) (σ : St) (x : Int) : run 145 15 (a0 :: vI x :: l) (st) σ = run 145 16 (a0 :: vI x :: l) (vI x :: st) σ := (run_eq 145 15 _ _ σ).trans rfl
theorem e145_16 (ls st : List AV) (σ : St) (y x : Int) : run 145 16 (ls) (vI y :: vI x :: st) σ = run 145 17 (ls) (vI (wr (x * y)) :: st) σ := (run_eq 145 16 _ _ σ).trans rfl
theorem e145_17 (a0 a1 : AV) (l st : List AV) (σ : St) (q : AV) (x : Int) : run 145 17 (a0 :: a1 :: q :: l) (vI x :: st) σ = run 145 18 (a0 :: a1 :: vI x :: l) (st) σ := (run_eq 145 17 _ _ σ).trans rfl
theorem e145_18 (ls st : List AV) (σ : St) : run 145 18 (ls) (st) σ = run 145 19 (ls) (vI 0 :: st) σ := (run_eq 145 18 _ _ σ).trans rfl
theorem e145_19 (a0 a1 a2 : AV) (l st : List AV) (σ : St) (q : AV) (x : Int) : run 145 19 (a0 :: a1 :: a2 :: q :: l) (vI x :: st) σ = run 145 20 (a0 :: a1 :: a2 :: vI x :: l) (st) σ := (run_eq 145 19 _ _ σ).trans rfl
theorem e145_20 (a0 a1 a2 : AV) (l st : List AV) (σ : St) (x : Int) : run 145 20 (a0 :: a1 :: a2 :: vI x :: l) (st) σ = run 145 21 (a0 :: a1 :: a2 :: vI x :: l) (vI x :: st) σ := (run_eq 145 20 _ _ σ).trans rfl
theorem e145_21 (ls st : List AV) (σ : St) : run 145 21 (ls) (st) σ = run 145 23 (ls) (vI 24 :: st) σ := (run_eq 145 21 _ _ σ).trans rfl
theorem e145_23 (ls st : List AV) (σ : St) (y x : Int) : run 145 23 (ls) (vI y :: vI x :: st) σ = if x < y then run 145 26 (ls) (st) σ else run 145 46 (ls) (st) σ := (run_eq 145 23 _ _ σ).trans rfl
theorem e145_26 (l st : List AV) (σ : St) (x : Nat) : run 145 26 (vR x :: l) (st) σ = run 145 27 (vR x :: l) (vR x :: st) σ := (run_eq 145 26 _ _ σ).trans rfl
theorem e145_27 (ls st : List AV) (σ : St) (x : Nat) (h : fok σ x 3) : run 145 27 (ls) (vR x :: st) σ = run 145 30 (ls) (vR (gr σ x 18) :: st) σ := (run_eq 145 27 _ _ σ).trans (if_pos h)
theorem e145_30 (a0 a1 : AV) (l st : List AV) (σ : St) (x : Int) : run 145 30 (a0 :: a1 :: vI x :: l) (st) σ = run 145 31 (a0 :: a1 :: vI x :: l) (vI x :: st) σ := (run_eq 145 30 _ _ σ).trans rfl
theorem e145_31 (a0 a1 a2 : AV) (l st : List AV) (σ : St) (x : Int) : run 145 31 (a0 :: a1 :: a2 :: vI x :: l) (st) σ = run 145 32 (a0 :: a1 :: a2 :: vI x :: l) (vI x :: st) σ := (run_eq 145 31 _ _ σ).trans rfl
theorem e145_32 (ls st : List AV) (σ : St) (y x : Int) : run 145 32 (ls) (vI y :: vI x :: st) σ = run 145 33 (ls) (vI (wr (x + y)) :: st) σ := (run_eq 145 32 _ _ σ).trans rfl
theorem e145_33 (l st : List AV) (σ : St) (x : Nat) : run 145 33 (vR x :: l) (st) σ = run 145 34 (vR x :: l) (vR x :: st) σ := (run_eq 145 33 _ _ σ).trans rfl
theorem e145_34 (ls st : List AV) (σ : St) (x : Nat) (h : fok σ x 3) : run 145 34 (ls) (vR x :: st) σ = run 145 37 (ls) (vR (gr σ x 2) :: st) σ := (run_eq 145 34 _ _ σ).trans (if_pos h)
theorem e145_37 (a0 a1 a2 : AV) (l st : List AV) (σ : St) (x : Int) : run 145 37 (a0 :: a1 :: a2 :: vI x :: l) (st) σ = run 145 38 (a0 :: a1 :: a2 :: vI x :: l) (vI x :: st) σ := (run_eq 145 37 _ _ σ).trans rfl
theorem e145_38 (ls st : List AV) (σ : St) (j : Int) (x : Nat) (h : aok σ x 4 j) : run 145 38 (ls) (vI j :: vR x :: st) σ = run 145 39 (ls) (vI (gt σ x j.toNat) :: st) σ := (run_eq 145 38 _ _ σ).trans (if_pos h)
theorem e145_39 (ls st : List AV) (σ : St) (z j : Int) (x : Nat) (h : aok σ x 4 j) : run 145 39 (ls) (vI z :: vI j :: vR x :: st) σ = run 145 40 (ls) (st) (sr σ x (ru (gt σ x) j.toNat z)) := (run_eq 145 39 _ _ σ).trans (if_pos h)
theorem e145_40 (a0 a1 a2 : AV) (l st : List AV) (σ : St) (x : Int) : run 145 40 (a0 :: a1 :: a2 :: vI x :: l) (st) σ = run 145 43 (a0 :: a1 :: a2 :: vI (wr (x + 1)) :: l) (st) σ := (run_eq 145 40 _ _ σ).trans rfl
theorem e145_43 (ls st : List AV) (σ : St) : run 145 43 (ls) (st) σ = run 145 20 (ls) (st) σ := (run_eq 145 43 _ _ σ).trans rfl
theorem e145_46 (ls st : List AV) (σ : St) : run 145 46 (ls) (st) σ = run 145 47 (ls) (vI 0 :: st) σ := (run_eq 145 46 _ _ σ).trans rfl
theorem e145_47 (a0 a1 a2 : AV) (l st : List AV) (σ : St) (q : AV) (x : Int) : run 145 47 (a0 :: a1 :: a2 :: q :: l) (vI x :: st) σ = run 145 48 (a0 :: a1 :: a2 :: vI x :: l) (st) σ := (run_eq 145 47 _ _ σ).trans rfl
theorem e145_48 (a0 a1 a2 : AV) (l st : List AV) (σ : St) (x : Int) : run 145 48 (a0 :: a1 :: a2 :: vI x :: l) (st) σ = run 145 49 (a0 :: a1 :: a2 :: vI x :: l) (vI x :: st) σ := (run_eq 145 48 _ _ σ).trans rfl
theorem e145_49 (ls st : List AV) (σ : St) : run 145 49 (ls) (st) σ = run 145 51 (ls) (vI 96 :: st) σ := (run_eq 145 49 _ _ σ).trans rfl
theorem e145_51 (ls st : List AV) (σ : St) (y x : Int) : run 145 51 (ls) (vI y :: vI x :: st) σ = if x < y then run 145 54 (ls) (st) σ else run 145 77 (ls) (st) σ := (run_eq 145 51 _ _ σ).trans rfl
theorem e145_54 (l st : List AV) (σ : St) (x : Nat) : run 145 54 (vR x :: l) (st) σ = run 145 55 (vR x :: l) (vR x :: st) σ := (run_eq 145 54 _ _ σ).trans rfl
theorem e145_55 (ls st : List AV) (σ : St) (x : Nat) (h : fok σ x 3) : run 145 55 (ls) (vR x :: st) σ = run 145 58 (ls) (vR (gr σ x 18) :: st) σ := (run_eq 145 55 _ _ σ).trans (if_pos h)
theorem e145_58 (a0 a1 : AV) (l st : List AV) (σ : St) (x : Int) : run 145 58 (a0 :: a1 :: vI x :: l) (st) σ = run 145 59 (a0 :: a1 :: vI x :: l) (vI x :: st) σ := (run_eq 145 58 _ _ σ).trans rfl
theorem e145_59 (ls st : List AV) (σ : St) : run 145 59 (ls) (st) σ = run 145 61 (ls) (vI 24 :: st) σ := (run_eq 145 59 _ _ σ).trans rfl
theorem e145_61 (ls st : List AV) (σ : St) (y x : Int) : run 145 61 (ls) (vI y :: vI x :: st) σ = run 145 62 (ls) (vI (wr (x + y)) :: st) σ := (run_eq 145 61 _ _ σ).trans rfl
theorem e145_62 (a0 a1 a2 : AV) (l st : List AV) (σ : St) (x : Int) : run 145 62 (a0 :: a1 :: a2 :: vI x :: l) (st) σ = run 145 63 (a0 :: a1 :: a2 :: vI x :: l) (vI x :: st) σ := (run_eq 145 62 _ _ σ).trans rfl
theorem e145_63 (ls st : List AV) (σ : St) (y x : Int) : run 145 63 (ls) (vI y :: vI x :: st) σ = run 145 64 (ls) (vI (wr (x + y)) :: st) σ := (run_eq 145 63 _ _ σ).trans rfl
theorem e145_64 (l st : List AV) (σ : St) (x : Nat) : run 145 64 (vR x :: l) (st) σ = run 145 65 (vR x :: l) (vR x :: st) σ := (run_eq 145 64 _ _ σ).trans rfl
theorem e145_65 (ls st : List AV) (σ : St) (x : Nat) (h : fok σ x 3) : run 145 65 (ls) (vR x :: st) σ = run 145 68 (ls) (vR (gr σ x 6) :: st) σ := (run_eq 145 65 _ _ σ).trans (if_pos h)
theorem e145_68 (a0 a1 a2 : AV) (l st : List AV) (σ : St) (x : Int) : run 145 68 (a0 :: a1 :: a2 :: vI x :: l) (st) σ = run 145 69 (a0 :: a1 :: a2 :: vI x :: l) (vI x :: st) σ := (run_eq 145 68 _ _ σ).trans rfl
theorem e145_69 (ls st : List AV) (σ : St) (j : Int) (x : Nat) (h : aok σ x 4 j) : run 145 69 (ls) (vI j :: vR x :: st) σ = run 145 70 (ls) (vI (gt σ x j.toNat) :: st) σ := (run_eq 145 69 _ _ σ).trans (if_pos h)
theorem e145_70 (ls st : List AV) (σ : St) (z j : Int) (x : Nat) (h : aok σ x 4 j) : run 145 70 (ls) (vI z :: vI j :: vR x :: st) σ = run 145 71 (ls) (st) (sr σ x (ru (gt σ x) j.toNat z)) := (run_eq 145 70 _ _ σ).trans (if_pos h)
theorem e145_71 (a0 a1 a2 : AV) (l st : List AV) (σ : St) (x : Int) : run 145 71 (a0 :: a1 :: a2 :: vI x :: l) (st) σ = run 145 74 (a0 :: a1 :: a2 :: vI (wr (x + 1)) :: l) (st) σ := (run_eq 145 71 _ _ σ).trans rfl
theorem e145_74 (ls st : List AV) (σ : St) : run 145 74 (ls) (st) σ = run 145 48 (ls) (st) σ := (run_eq 145 74 _ _ σ).trans rfl
theorem e145_77 (ls st : List AV) (σ : St) : run 145 77 (ls) (st) σ = run 145 78 (ls) (vI 0 :: st) σ := (run_eq 145 77 _ _ σ).trans rfl
theorem e145_78 (a0 a1 a2 : AV) (l st : List AV) (σ : St) (q : AV) (x : Int) : run 145 78 (a0 :: a1 :: a2 :: q :: l) (vI x :: st) σ = run 145 79 (a0 :: a1 :: a2 :: vI x :: l) (st) σ := (run_eq 145 78 _ _ σ).trans rfl
theorem e145_79 (a0 a1 a2 : AV) (l st : List AV) (σ : St) (x : Int) : run 145 79 (a0 :: a1 :: a2 :: vI x :: l) (st) σ = run 145 80 (a0 :: a1 :: a2 :: vI x :: l) (vI x :: st) σ := (run_eq 145 79 _ _ σ).trans rfl
theorem e145_80 (ls st : List AV) (σ : St) : run 145 80 (ls) (st) σ = run 145 82 (ls) (vI 16 :: st) σ := (run_eq 145 80 _ _ σ).trans rfl
theorem e145_82 (ls st : List AV) (σ : St) (y x : Int) : run 145 82 (ls) (vI y :: vI x :: st) σ = if x < y then run 145 85 (ls) (st) σ else run 145 108 (ls) (st) σ := (run_eq 145 82 _ _ σ).trans rfl
theorem e145_85 (l st : List AV) (σ : St) (x : Nat) : run 145 85 (vR x :: l) (st) σ = run 145 86 (vR x :: l) (vR x :: st) σ := (run_eq 145 85 _ _ σ).trans rfl
theorem e145_86 (ls st : List AV) (σ : St) (x : Nat) (h : fok σ x 3) : run 145 86 (ls) (vR x :: st) σ = run 145 89 (ls) (vR (gr σ x 18) :: st) σ := (run_eq 145 86 _ _ σ).trans (if_pos h)
theorem e145_89 (a0 a1 : AV) (l st : List AV) (σ : St) (x : Int) : run 145 89 (a0 :: a1 :: vI x :: l) (st) σ = run 145 90 (a0 :: a1 :: vI x :: l) (vI x :: st) σ := (run_eq 145 89 _ _ σ).trans rfl
theorem e145_90 (ls st : List AV) (σ : St) : run 145 90 (ls) (st) σ = run 145 92 (ls) (vI 120 :: st) σ := (run_eq 145 90 _ _ σ).trans rfl
theorem e145_92 (ls st : List AV) (σ : St) (y x : Int) : run 145 92 (ls) (vI y :: vI x :: st) σ = run 145 93 (ls) (vI (wr (x + y)) :: st) σ := (run_eq 145 92 _ _ σ).trans rfl
theorem e145_93 (a0 a1 a2 : AV) (l st : List AV) (σ : St) (x : Int) : run 145 93 (a0 :: a1 :: a2 :: vI x :: l) (st) σ = run 145 94 (a0 :: a1 :: a2 :: vI x :: l) (vI x :: st) σ := (run_eq 145 93 _ _ σ).trans rfl
theorem e145_94 (ls st : List AV) (σ : St) (y x : Int) : run 145 94 (ls) (vI y :: vI x :: st) σ = run 145 95 (ls) (vI (wr (x + y)) :: st) σ := (run_eq 145 94 _ _ σ).trans rfl
theorem e145_95 (l st : List AV) (σ : St) (x : Nat) : run 145 95 (vR x :: l) (st) σ = run 145 96 (vR x :: l) (vR x :: st) σ := (run_eq 145 95 _ _ σ).trans rfl
theorem e145_96 (ls st : List AV) (σ : St) (x : Nat) (h : fok σ x 3) : run 145 96 (ls) (vR x :: st) σ = run 145 99 (ls) (vR (gr σ x 8) :: st) σ := (run_eq 145 96 _ _ σ).trans (if_pos h)
theorem e145_99 (a0 a1 a2 : AV) (l st : List AV) (σ : St) (x : Int) : run 145 99 (a0 :: a1 :: a2 :: vI x :: l) (st) σ = run 145 100 (a0 :: a1 :: a2 :: vI x :: l) (vI x :: st) σ := (run_eq 145 99 _ _ σ).trans rfl
theorem e145_100 (ls st : List AV) (σ : St) (j : Int) (x : Nat) (h : aok σ x 4 j) : run 145 100 (ls) (vI j :: vR x :: st) σ = run 145 101 (ls) (vI (gt σ x j.toNat) :: st) σ := (run_eq 145 100 _ _ σ).trans (if_pos h)
theorem e145_101 (ls st : List AV) (σ : St) (z j : Int) (x : Nat) (h : aok σ x 4 j) : run 145 101 (ls) (vI z :: vI j :: vR x :: st) σ = run 145 102 (ls) (st) (sr σ x (ru (gt σ x) j.toNat z)) := (run_eq 145 101 _ _ σ).trans (if_pos h)
theorem e145_102 (a0 a1 a2 : AV) (l st : List AV) (σ : St) (x : Int) : run 145 102 (a0 :: a1 :: a2 :: vI x :: l) (st) σ = run 145 105 (a0 :: a1 :: a2 :: vI (wr (x + 1)) :: l) (st) σ := (run_eq 145 102 _ _ σ).trans rfl
theorem e145_105 (ls st : List AV) (σ : St) : run 145 105 (ls) (st) σ = run 145 79 (ls) (st) σ := (run_eq 145 105 _ _ σ).trans rfl
theorem e145_108 (l st : List AV) (σ : St) (x : Nat) : run 145 108 (vR x :: l) (st) σ = run 145 109 (vR x :: l) (vR x :: st) σ := (run_eq 145 108 _ _ σ).trans rfl
theorem e145_109 (ls st : List AV) (σ : St) (x : Nat) (h : fok σ x 3) : run 145 109 (ls) (vR x :: st) σ = run 145 112 (ls) (vR (gr σ x 18) :: st) σ := (run_eq 145 109 _ _ σ).trans (if_pos h)
theorem e145_112 (a0 a1 : AV) (l st : List AV) (σ : St) (x : Int) : run 145 112 (a0 :: a1 :: vI x :: l) (st) σ = run 145 113 (a0 :: a1 :: vI x :: l) (vI x :: st) σ := (run_eq 145 112 _ _ σ).trans rfl
theorem e145_113 (ls st : List AV) (σ : St) : run 145 113 (ls) (st) σ = run 145 116 (ls) (vI 136 :: st) σ := (run_eq 145 113 _ _ σ).trans rfl
theorem e145_116 (ls st : List AV) (σ : St) (y x : Int) : run 145 116 (ls) (vI y :: vI x :: st) σ = run 145 117 (ls) (vI (wr (x + y)) :: st) σ := (run_eq 145 116 _ _ σ).trans rfl
theorem e145_117 (l st : List AV) (σ : St) (x : Nat) : run 145 117 (vR x :: l) (st) σ = run 145 118 (vR x :: l) (vR x :: st) σ := (run_eq 145 117 _ _ σ).trans rfl
theorem e145_118 (ls st : List AV) (σ : St) (x : Nat) (h : fok σ x 3) : run 145 118 (ls) (vR x :: st) σ = run 145 121 (ls) (vI (gt σ x 0) :: st) σ := (run_eq 145 118 _ _ σ).trans (if_pos h)
theorem e145_121 (ls st : List AV) (σ : St) (z j : Int) (x : Nat) (h : aok σ x 4 j) : run 145 121 (ls) (vI z :: vI j :: vR x :: st) σ = run 145 122 (ls) (st) (sr σ x (ru (gt σ x) j.toNat z)) := (run_eq 145 121 _ _ σ).trans (if_pos h)
theorem e145_122 (l st : List AV) (σ : St) (x : Nat) : run 145 122 (vR x :: l) (st) σ = run 145 123 (vR x :: l) (vR x :: st) σ := (run_eq 145 122 _ _ σ).trans rfl
theorem e145_123 (ls st : List AV) (σ : St) (x : Nat) (h : fok σ x 3) : run 145 123 (ls) (vR x :: st) σ = run 145 126 (ls) (vR (gr σ x 18) :: st) σ := (run_eq 145 123 _ _ σ).trans (if_pos h)
theorem e145_126 (a0 a1 : AV) (l st : List AV) (σ : St) (x : Int) : run 145 126 (a0 :: a1 :: vI x :: l) (st) σ = run 145 127 (a0 :: a1 :: vI x :: l) (vI x :: st) σ := (run_eq 145 126 _ _ σ).trans rfl
theorem e145_127 (ls st : List AV) (σ : St) : run 145 127 (ls) (st) σ = run 145 130 (ls) (vI 137 :: st) σ := (run_eq 145 127 _ _ σ).trans rfl
theorem e145_130 (ls st : List AV) (σ : St) (y x : Int) : run 145 130 (ls) (vI y :: vI x :: st) σ = run 145 131 (ls) (vI (wr (x + y)) :: st) σ := (run_eq 145 130 _ _ σ).trans rfl
theorem e145_131 (l st : List AV) (σ : St) (x : Nat) : run 145 131 (vR x :: l) (st) σ = run 145 132 (vR x :: l) (vR x :: st) σ := (run_eq 145 131 _ _ σ).trans rfl
theorem e145_132 (ls st : List AV) (σ : St) (x : Nat) (h : fok σ x 3) : run 145 132 (ls) (vR x :: st) σ = run 145 135 (ls) (vI (gt σ x 1) :: st) σ := (run_eq 145 132 _ _ σ).trans (if_pos h)
theorem e145_135 (ls st : List AV) (σ : St) (z j : Int) (x : Nat) (h : aok σ x 4 j) : run 145 135 (ls) (vI z :: vI j :: vR x :: st) σ = run 145 136 (ls) (st) (sr σ x (ru (gt σ x) j.toNat z)) := (run_eq 145 135 _ _ σ).trans (if_pos h)
theorem e145_136 (l st : List AV) (σ : St) (x : Nat) : run 145 136 (vR x :: l) (st) σ = run 145 137 (vR x :: l) (vR x :: st) σ := (run_eq 145 136 _ _ σ).trans rfl
theorem e145_137 (ls st : List AV) (σ : St) (x : Nat) (h : fok σ x 3) : run 145 137 (ls) (vR x :: st) σ = run 145 140 (ls) (vR (gr σ x 18) :: st) σ := (run_eq 145 137 _ _ σ).trans (if_pos h)
theorem e145_140 (a0 a1 : AV) (l st : List AV) (σ : St) (x : Int) : run 145 140 (a0 :: a1 :: vI x :: l) (st) σ = run 145 141 (a0 :: a1 :: vI x :: l) (vI x :: st) σ := (run_eq 145 140 _ _ σ).trans rfl
theorem e145_141 (ls st : List AV) (σ : St) : run 145 141 (ls) (st) σ = run 145 144 (ls) (vI 138 :: st) σ := (run_eq 145 141 _ _ σ).trans rfl
theorem e145_144 (ls st : List AV) (σ : St) (y x : Int) : run 145 144 (ls) (vI y :: vI x :: st) σ = run 145 145 (ls) (vI (wr (x + y)) :: st) σ := (run_eq 145 144 _ _ σ).trans rfl
theorem e145_145 (l st : List AV) (σ : St) (x : Nat) : run 145 145 (vR x :: l) (st) σ = run 145 146 (vR x :: l) (vR x :: st) σ := (run_eq 145 145 _ _ σ).trans rfl
theorem e145_146 (ls st : List AV) (σ : St) (x : Nat) (h : fok σ x 3) : run 145 146 (ls) (vR x :: st) σ = run 145 149 (ls) (vI (gt σ x 3) :: st) σ := (run_eq 145 146 _ _ σ).trans (if_pos h)
theorem e145_149 (ls st : List AV) (σ : St) (z j : Int) (x : Nat) (h : aok σ x 4 j) : run 145 149 (ls) (vI z :: vI j :: vR x :: st) σ = run 145 150 (ls) (st) (sr σ x (ru (gt σ x) j.toNat z)) := (run_eq 145 149 _ _ σ).trans (if_pos h)
theorem e145_150 (l st : List AV) (σ : St) (x : Nat) : run 145 150 (vR x :: l) (st) σ = run 145 151 (vR x :: l) (vR x :: st) σ := (run_eq 145 150 _ _ σ).trans rfl
theorem e145_151 (ls st : List AV) (σ : St) (x : Nat) (h : fok σ x 3) : run 145 151 (ls) (vR x :: st) σ = run 145 154 (ls) (vR (gr σ x 18) :: st) σ := (run_eq 145 151 _ _ σ).trans (if_pos h)
theorem e145_154 (a0 a1 : AV) (l st : List AV) (σ : St) (x : Int) : run 145 154 (a0 :: a1 :: vI x :: l) (st) σ = run 145 155 (a0 :: a1 :: vI x :: l) (vI x :: st) σ := (run_eq 145 154 _ _ σ).trans rfl
theorem e145_155 (ls st : List AV) (σ : St) : run 145 155 (ls) (st) σ = run 145 158 (ls) (vI 139 :: st) σ := (run_eq 145 155 _ _ σ).trans rfl
theorem e145_158 (ls st : List AV) (σ : St) (y x : Int) : run 145 158 (ls) (vI y :: vI x :: st) σ = run 145 159 (ls) (vI (wr (x + y)) :: st) σ := (run_eq 145 158 _ _ σ).trans rfl
theorem e145_159 (l st : List AV) (σ : St) (x : Nat) : run 145 159 (vR x :: l) (st) σ = run 145 160 (vR x :: l) (vR x :: st) σ := (run_eq 145 159 _ _ σ).trans rfl
theorem e145_160 (ls st : List AV) (σ : St) (x : Nat) (h : fok σ x 3) : run 145 160 (ls) (vR x :: st) σ = run 145 163 (ls) (vI (gt σ x 4) :: st) σ := (run_eq 145 160 _ _ σ).trans (if_pos h)
theorem e145_163 (ls st : List AV) (σ : St) (z j : Int) (x : Nat) (h : aok σ x 4 j) : run 145 163 (ls) (vI z :: vI j :: vR x :: st) σ = run 145 164 (ls) (st) (sr σ x (ru (gt σ x) j.toNat z)) := (run_eq 145 163 _ _ σ).trans (if_pos h)
theorem e145_164 (l st : List AV) (σ : St) (x : Nat) : run 145 164 (vR x :: l) (st) σ = run 145 165 (vR x :: l) (vR x :: st) σ := (run_eq 145 164 _ _ σ).trans rfl
theorem e145_165 (ls st : List AV) (σ : St) (x : Nat) (h : fok σ x 3) : run 145 165 (ls) (vR x :: st) σ = run 145 168 (ls) (vR (gr σ x 18) :: st) σ := (run_eq 145 165 _ _ σ).trans (if_pos h)
theorem e145_168 (a0 a1 : AV) (l st : List AV) (σ : St) (x : Int) : run 145 168 (a0 :: a1 :: vI x :: l) (st) σ = run 145 169 (a0 :: a1 :: vI x :: l) (vI x :: st) σ := (run_eq 145 168 _ _ σ).trans rfl
theorem e145_169 (ls st : List AV) (σ : St) : run 145 169 (ls) (st) σ = run 145 172 (ls) (vI 140 :: st) σ := (run_eq 145 169 _ _ σ).trans rfl
theorem e145_172 (ls st : List AV) (σ : St) (y x : Int) : run 145 172 (ls) (vI y :: vI x :: st) σ = run 145 173 (ls) (vI (wr (x + y)) :: st) σ := (run_eq 145 172 _ _ σ).trans rfl
theorem e145_173 (l st : List AV) (σ : St) (x : Nat) : run 145 173 (vR x :: l) (st) σ = run 145 174 (vR x :: l) (vR x :: st) σ := (run_eq 145 173 _ _ σ).trans rfl
theorem e145_174 (ls st : List AV) (σ : St) (x : Nat) (h : fok σ x 3) : run 145 174 (ls) (vR x :: st) σ = run 145 177 (ls) (vI (gt σ x 5) :: st) σ := (run_eq 145 174 _ _ σ).trans (if_pos h)
theorem e145_177 (ls st : List AV) (σ : St) (z j : Int) (x : Nat) (h : aok σ x 4 j) : run 145 177 (ls) (vI z :: vI j :: vR x :: st) σ = run 145 178 (ls) (st) (sr σ x (ru (gt σ x) j.toNat z)) := (run_eq 145 177 _ _ σ).trans (if_pos h)
theorem e145_178 (l st : List AV) (σ : St) (x : Nat) : run 145 178 (vR x :: l) (st) σ = run 145 179 (vR x :: l) (vR x :: st) σ := (run_eq 145 178 _ _ σ).trans rfl
theorem e145_179 (ls st : List AV) (σ : St) (x : Nat) (h : fok σ x 3) : run 145 179 (ls) (vR x :: st) σ = run 145 182 (ls) (vR (gr σ x 18) :: st) σ := (run_eq 145 179 _ _ σ).trans (if_pos h)
theorem e145_182 (a0 a1 : AV) (l st : List AV) (σ : St) (x : Int) : run 145 182 (a0 :: a1 :: vI x :: l) (st) σ = run 145 183 (a0 :: a1 :: vI x :: l) (vI x :: st) σ := (run_eq 145 182 _ _ σ).trans rfl
theorem e145_183 (ls st : List AV) (σ : St) : run 145 183 (ls) (st) σ = run 145 186 (ls) (vI 141 :: st) σ := (run_eq 145 183 _ _ σ).trans rfl
theorem e145_186 (ls st : List AV) (σ : St) (y x : Int) : run 145 186 (ls) (vI y :: vI x :: st) σ = run 145 187 (ls) (vI (wr (x + y)) :: st) σ := (run_eq 145 186 _ _ σ).trans rfl
theorem e145_187 (l st : List AV) (σ : St) (x : Nat) : run 145 187 (vR x :: l) (st) σ = run 145 188 (vR x :: l) (vR x :: st) σ := (run_eq 145 187 _ _ σ).trans rfl
theorem e145_188 (ls st : List AV) (σ : St) (x : Nat) (h : fok σ x 3) : run 145 188 (ls) (vR x :: st) σ = run 145 191 (ls) (vI (gt σ x 7) :: st) σ := (run_eq 145 188 _ _ σ).trans (if_pos h)
theorem e145_191 (ls st : List AV) (σ : St) (z j : Int) (x : Nat) (h : aok σ x 4 j) : run 145 191 (ls) (vI z :: vI j :: vR x :: st) σ = run 145 192 (ls) (st) (sr σ x (ru (gt σ x) j.toNat z)) := (run_eq 145 191 _ _ σ).trans (if_pos h)
theorem e145_192 (l st : List AV) (σ : St) (x : Nat) : run 145 192 (vR x :: l) (st) σ = run 145 193 (vR x :: l) (vR x :: st) σ := (run_eq 145 192 _ _ σ).trans rfl
theorem e145_193 (ls st : List AV) (σ : St) (x : Nat) (h : fok σ x 3) : run 145 193 (ls) (vR x :: st) σ = run 145 196 (ls) (vR (gr σ x 19) :: st) σ := (run_eq 145 193 _ _ σ).trans (if_pos h)
theorem e145_196 (a0 : AV) (l st : List AV) (σ : St) (x : Int) : run 145 196 (a0 :: vI x :: l) (st) σ = run 145 197 (a0 :: vI x :: l) (vI x :: st) σ := (run_eq 145 196 _ _ σ).trans rfl
theorem e145_197 (ls st : List AV) (σ : St) : run 145 197 (ls) (st) σ = run 145 198 (ls) (vI 1 :: st) σ := (run_eq 145 197 _ _ σ).trans rfl
theorem e145_198 (ls st : List AV) (σ : St) (z j : Int) (x : Nat) (h : aok σ x 5 j) (h2 : z = 0 ∨ z = 1) : run 145 198 (ls) (vI z :: vI j :: vR x :: st) σ = run 145 199 (ls) (st) (sr σ x (ru (gt σ x) j.toNat z)) := (run_eq 145 198 _ _ σ).trans (if_pos ⟨h, h2⟩)
theorem e145_199 (ls st : List AV) (σ : St) : run 145 199 (ls) (st) σ = run 145 200 (ls) (vI 1 :: st) σ := (run_eq 145 199 _ _ σ).trans rfl
theorem e145_200 (ls : List AV) (σ : St) (x : Int) : run 145 200 ls [vI x] σ = some (vI x, σ) := (run_eq 145 200 _ _ σ).trans rfl
/-! M_restore -/
theorem e146_0 (a0 : AV) (l st : List AV) (σ : St) (x : Int) : run 146 0 (a0 :: vI x :: l) (st) σ = run 146 1 (a0 :: vI x :: l) (vI x :: st) σ := (run_eq 146 0 _ _ σ).trans rfl
theorem e146_1 (ls st : List AV) (σ : St) : run 146 1 (ls) (st) σ = run 146 2 (ls) (vI 0 :: st) σ := (run_eq 146 1 _ _ σ).trans rfl
theorem e146_2 (ls st : List AV) (σ : St) : run 146 2 (ls) (st) σ = run 146 3 (ls) (vI 1 :: st) σ := (run_eq 146 2 _ _ σ).trans rfl
theorem e146_3 (ls st : List AV) (σ : St) (x0 : Int) (x1 : Int) (x2 : Int) (h4 : st.length ≤ 4) : run 146 3 ls (vI x2 :: vI x1 :: vI x0 :: st) σ = bnd (run 92 0 [vI x0, vI x1, vI x2] [] σ) (fun r σ => run 146 6 ls (psh r st) σ) := (run_eq 146 3 _ _ σ).trans (if_pos ⟨rfl, by simp, by simpa using h4⟩)
theorem e146_6 (ls st : List AV) (σ : St) (x : Int) : run 146 6 (ls) (vI x :: st) σ = if x = 0 then run 146 9 (ls) (st) σ else run 146 12 (ls) (st) σ := (run_eq 146 6 _ _ σ).trans rfl
theorem e146_9 (ls st : List AV) (σ : St) : run 146 9 (ls) (st) σ = run 146 11 (ls) (vI (-2) :: st) σ := (run_eq 146 9 _ _ σ).trans rfl
theorem e146_11 (ls : List AV) (σ : St) (x : Int) : run 146 11 ls [vI x] σ = some (vI x, σ) := (run_eq 146 11 _ _ σ).trans rfl
theorem e146_12 (l st : List AV) (σ : St) (x : Nat) : run 146 12 (vR x :: l) (st) σ = run 146 13 (vR x :: l) (vR x :: st) σ := (run_eq 146 12 _ _ σ).trans rfl
theorem e146_13 (ls st : List AV) (σ : St) (x : Nat) (h : fok σ x 3) : run 146 13 (ls) (vR x :: st) σ = run 146 16 (ls) (vR (gr σ x 19) :: st) σ := (run_eq 146 13 _ _ σ).trans (if_pos h)
theorem e146_16 (a0 : AV) (l st : List AV) (σ : St) (x : Int) : run 146 16 (a0 :: vI x :: l) (st) σ = run 146 17 (a0 :: vI x :: l) (vI x :: st) σ := (run_eq 146 16 _ _ σ).trans rfl
theorem e146_17 (ls st : List AV) (σ : St) (j : Int) (x : Nat) (h : aok σ x 5 j) : run 146 17 (ls) (vI j :: vR x :: st) σ = run 146 18 (ls) (vI (gt σ x j.toNat) :: st) σ := (run_eq 146 17 _ _ σ).trans (if_pos h)
theorem e146_18 (ls st : List AV) (σ : St) (x : Int) : run 146 18 (ls) (vI x :: st) σ = if x = 0 then run 146 21 (ls) (st) σ else run 146 24 (ls) (st) σ := (run_eq 146 18 _ _ σ).trans rfl
theorem e146_21 (ls st : List AV) (σ : St) : run 146 21 (ls) (st) σ = run 146 23 (ls) (vI (-3) :: st) σ := (run_eq 146 21 _ _ σ).trans rfl
theorem e146_23 (ls : List AV) (σ : St) (x : Int) : run 146 23 ls [vI x] σ = some (vI x, σ) := (run_eq 146 23 _ _ σ).trans rfl
theorem e146_24 (ls st : List AV) (σ : St) : run 146 24 (ls) (st) σ = run 146 27 (ls) (vI 160 :: st) σ := (run_eq 146 24 _ _ σ).trans rfl
theorem e146_27 (a0 : AV) (l st : List AV) (σ : St) (x : Int) : run 146 27 (a0 :: vI x :: l) (st) σ = run 146 28 (a0 :: vI x :: l) (vI x :: st) σ := (run_eq 146 27 _ _ σ).trans rfl
theorem e146_28 (ls st : List AV) (σ : St) (y x : Int) : run 146 28 (ls) (vI y :: vI x :: st) σ = run 146 29 (ls) (vI (wr (x * y)) :: st) σ := (run_eq 146 28 _ _ σ).trans rfl
theorem e146_29 (a0 a1 : AV) (l st : List AV) (σ : St) (q : AV) (x : Int) : run 146 29 (a0 :: a1 :: q :: l) (vI x :: st) σ = run 146 30 (a0 :: a1 :: vI x :: l) (st) σ := (run_eq 146 29 _ _ σ).trans rfl
theorem e146_30 (ls st : List AV) (σ : St) : run 146 30 (ls) (st) σ = run 146 31 (ls) (vI 0 :: st) σ := (run_eq 146 30 _ _ σ).trans rfl
theorem e146_31 (a0 a1 a2 : AV) (l st : List AV) (σ : St) (q : AV) (x : Int) : run 146 31 (a0 :: a1 :: a2 :: q :: l) (vI x :: st) σ = run 146 32 (a0 :: a1 :: a2 :: vI x :: l) (st) σ := (run_eq 146 31 _ _ σ).trans rfl
theorem e146_32 (a0 a1 a2 : AV) (l st : List AV) (σ : St) (x : Int) : run 146 32 (a0 :: a1 :: a2 :: vI x :: l) (st) σ = run 146 33 (a0 :: a1 :: a2 :: vI x :: l) (vI x :: st) σ := (run_eq 146 32 _ _ σ).trans rfl
theorem e146_33 (ls st : List AV) (σ : St) : run 146 33 (ls) (st) σ = run 146 35 (ls) (vI 24 :: st) σ := (run_eq 146 33 _ _ σ).trans rfl
theorem e146_35 (ls st : List AV) (σ : St) (y x : Int) : run 146 35 (ls) (vI y :: vI x :: st) σ = if x < y then run 146 38 (ls) (st) σ else run 146 58 (ls) (st) σ := (run_eq 146 35 _ _ σ).trans rfl
theorem e146_38 (l st : List AV) (σ : St) (x : Nat) : run 146 38 (vR x :: l) (st) σ = run 146 39 (vR x :: l) (vR x :: st) σ := (run_eq 146 38 _ _ σ).trans rfl
theorem e146_39 (ls st : List AV) (σ : St) (x : Nat) (h : fok σ x 3) : run 146 39 (ls) (vR x :: st) σ = run 146 42 (ls) (vR (gr σ x 2) :: st) σ := (run_eq 146 39 _ _ σ).trans (if_pos h)
theorem e146_42 (a0 a1 a2 : AV) (l st : List AV) (σ : St) (x : Int) : run 146 42 (a0 :: a1 :: a2 :: vI x :: l) (st) σ = run 146 43 (a0 :: a1 :: a2 :: vI x :: l) (vI x :: st) σ := (run_eq 146 42 _ _ σ).trans rfl
theorem e146_43 (l st : List AV) (σ : St) (x : Nat) : run 146 43 (vR x :: l) (st) σ = run 146 44 (vR x :: l) (vR x :: st) σ := (run_eq 146 43 _ _ σ).trans rfl
theorem e146_44 (ls st : List AV) (σ : St) (x : Nat) (h : fok σ x 3) : run 146 44 (ls) (vR x :: st) σ = run 146 47 (ls) (vR (gr σ x 18) :: st) σ := (run_eq 146 44 _ _ σ).trans (if_pos h)
theorem e146_47 (a0 a1 : AV) (l st : List AV) (σ : St) (x : Int) : run 146 47 (a0 :: a1 :: vI x :: l) (st) σ = run 146 48 (a0 :: a1 :: vI x :: l) (vI x :: st) σ := (run_eq 146 47 _ _ σ).trans rfl
theorem e146_48 (a0 a1 a2 : AV) (l st : List AV) (σ : St) (x : Int) : run 146 48 (a0 :: a1 :: a2 :: vI x :: l) (st) σ = run 146 49 (a0 :: a1 :: a2 :: vI x :: l) (vI x :: st) σ := (run_eq 146 48 _ _ σ).trans rfl
theorem e146_49 (ls st : List AV) (σ : St) (y x : Int) : run 146 49 (ls) (vI y :: vI x :: st) σ = run 146 50 (ls) (vI (wr (x + y)) :: st) σ := (run_eq 146 49 _ _ σ).trans rfl
theorem e146_50 (ls st : List AV) (σ : St) (j : Int) (x : Nat) (h : aok σ x 4 j) : run 146 50 (ls) (vI j :: vR x :: st) σ = run 146 51 (ls) (vI (gt σ x j.toNat) :: st) σ := (run_eq 146 50 _ _ σ).trans (if_pos h)
theorem e146_51 (ls st : List AV) (σ : St) (z j : Int) (x : Nat) (h : aok σ x 4 j) : run 146 51 (ls) (vI z :: vI j :: vR x :: st) σ = run 146 52 (ls) (st) (sr σ x (ru (gt σ x) j.toNat z)) := (run_eq 146 51 _ _ σ).trans (if_pos h)
theorem e146_52 (a0 a1 a2 : AV) (l st : List AV) (σ : St) (x : Int) : run 146 52 (a0 :: a1 :: a2 :: vI x :: l) (st) σ = run 146 55 (a0 :: a1 :: a2 :: vI (wr (x + 1)) :: l) (st) σ := (run_eq 146 52 _ _ σ).trans rfl
theorem e146_55 (ls st : List AV) (σ : St) : run 146 55 (ls) (st) σ = run 146 32 (ls) (st) σ := (run_eq 146 55 _ _ σ).trans rfl
theorem e146_58 (ls st : List AV) (σ : St) : run 146 58 (ls) (st) σ = run 146 59 (ls) (vI 0 :: st) σ := (run_eq 146 58 _ _ σ).trans rfl
theorem e146_59 (a0 a1 a2 : AV) (l st : List AV) (σ : St) (q : AV) (x : Int) : run 146 59 (a0 :: a1 :: a2 :: q :: l) (vI x :: st) σ = run 146 60 (a0 :: a1 :: a2 :: vI x :: l) (st) σ := (run_eq 146 59 _ _ σ).trans rfl
theorem e146_60 (a0 a1 a2 : AV) (l st : List AV) (σ : St) (x : Int) : run 146 60 (a0 :: a1 :: a2 :: vI x :: l) (st) σ = run 146 61 (a0 :: a1 :: a2 :: vI x :: l) (vI x :: st) σ := (run_eq 146 60 _ _ σ).trans rfl
theorem e146_61 (ls st : List AV) (σ : St) : run 146 61 (ls) (st) σ = run 146 63 (ls) (vI 96 :: st) σ := (run_eq 146 61 _ _ σ).trans rfl
theorem e146_63 (ls st : List AV) (σ : St) (y x : Int) : run 146 63 (ls) (vI y :: vI x :: st) σ = if x < y then run 146 66 (ls) (st) σ else run 146 89 (ls) (st) σ := (run_eq 146 63 _ _ σ).trans rfl
theorem e146_66 (l st : List AV) (σ : St) (x : Nat) : run 146 66 (vR x :: l) (st) σ = run 146 67 (vR x :: l) (vR x :: st) σ := (run_eq 146 66 _ _ σ).trans rfl
theorem e146_67 (ls st : List AV) (σ : St) (x : Nat) (h : fok σ x 3) : run 146 67 (ls) (vR x :: st) σ = run 146 70 (ls) (vR (gr σ x 6) :: st) σ := (run_eq 146 67 _ _ σ).trans (if_pos h)
theorem e146_70 (a0 a1 a2 : AV) (l st : List AV) (σ : St) (x : Int) : run 146 70 (a0 :: a1 :: a2 :: vI x :: l) (st) σ = run 146 71 (a0 :: a1 :: a2 :: vI x :: l) (vI x :: st) σ := (run_eq 146 70 _ _ σ).trans rfl
theorem e146_71 (l st : List AV) (σ : St) (x : Nat) : run 146 71 (vR x :: l) (st) σ = run 146 72 (vR x :: l) (vR x :: st) σ := (run_eq 146 71 _ _ σ).trans rfl
theorem e146_72 (ls st : List AV) (σ : St) (x : Nat) (h : fok σ x 3) : run 146 72 (ls) (vR x :: st) σ = run 146 75 (ls) (vR (gr σ x 18) :: st) σ := (run_eq 146 72 _ _ σ).trans (if_pos h)
theorem e146_75 (a0 a1 : AV) (l st : List AV) (σ : St) (x : Int) : run 146 75 (a0 :: a1 :: vI x :: l) (st) σ = run 146 76 (a0 :: a1 :: vI x :: l) (vI x :: st) σ := (run_eq 146 75 _ _ σ).trans rfl
theorem e146_76 (ls st : List AV) (σ : St) : run 146 76 (ls) (st) σ = run 146 78 (ls) (vI 24 :: st) σ := (run_eq 146 76 _ _ σ).trans rfl
theorem e146_78 (ls st : List AV) (σ : St) (y x : Int) : run 146 78 (ls) (vI y :: vI x :: st) σ = run 146 79 (ls) (vI (wr (x + y)) :: st) σ := (run_eq 146 78 _ _ σ).trans rfl
theorem e146_79 (a0 a1 a2 : AV) (l st : List AV) (σ : St) (x : Int) : run 146 79 (a0 :: a1 :: a2 :: vI x :: l) (st) σ = run 146 80 (a0 :: a1 :: a2 :: vI x :: l) (vI x :: st) σ := (run_eq 146 79 _ _ σ).trans rfl
theorem e146_80 (ls st : List AV) (σ : St) (y x : Int) : run 146 80 (ls) (vI y :: vI x :: st) σ = run 146 81 (ls) (vI (wr (x + y)) :: st) σ := (run_eq 146 80 _ _ σ).trans rfl
theorem e146_81 (ls st : List AV) (σ : St) (j : Int) (x : Nat) (h : aok σ x 4 j) : run 146 81 (ls) (vI j :: vR x :: st) σ = run 146 82 (ls) (vI (gt σ x j.toNat) :: st) σ := (run_eq 146 81 _ _ σ).trans (if_pos h)
theorem e146_82 (ls st : List AV) (σ : St) (z j : Int) (x : Nat) (h : aok σ x 4 j) : run 146 82 (ls) (vI z :: vI j :: vR x :: st) σ = run 146 83 (ls) (st) (sr σ x (ru (gt σ x) j.toNat z)) := (run_eq 146 82 _ _ σ).trans (if_pos h)
theorem e146_83 (a0 a1 a2 : AV) (l st : List AV) (σ : St) (x : Int) : run 146 83 (a0 :: a1 :: a2 :: vI x :: l) (st) σ = run 146 86 (a0 :: a1 :: a2 :: vI (wr (x + 1)) :: l) (st) σ := (run_eq 146 83 _ _ σ).trans rfl
theorem e146_86 (ls st : List AV) (σ : St) : run 146 86 (ls) (st) σ = run 146 60 (ls) (st) σ := (run_eq 146 86 _ _ σ).trans rfl
theorem e146_89 (ls st : List AV) (σ : St) : run 146 89 (ls) (st) σ = run 146 90 (ls) (vI 0 :: st) σ := (run_eq 146 89 _ _ σ).trans rfl
theorem e146_90 (a0 a1 a2 : AV) (l st : List AV) (σ : St) (q : AV) (x : Int) : run 146 90 (a0 :: a1 :: a2 :: q :: l) (vI x :: st) σ = run 146 91 (a0 :: a1 :: a2 :: vI x :: l) (st) σ := (run_eq 146 90 _ _ σ).trans rfl
theorem e146_91 (a0 a1 a2 : AV) (l st : List AV) (σ : St) (x : Int) : run 146 91 (a0 :: a1 :: a2 :: vI x :: l) (st) σ = run 146 92 (a0 :: a1 :: a2 :: vI x :: l) (vI x :: st) σ := (run_eq 146 91 _ _ σ).trans rfl
theorem e146_92 (ls st : List AV) (σ : St) : run 146 92 (ls) (st) σ = run 146 94 (ls) (vI 16 :: st) σ := (run_eq 146 92 _ _ σ).trans rfl
theorem e146_94 (ls st : List AV) (σ : St) (y x : Int) : run 146 94 (ls) (vI y :: vI x :: st) σ = if x < y then run 146 97 (ls) (st) σ else run 146 120 (ls) (st) σ := (run_eq 146 94 _ _ σ).trans rfl
theorem e146_97 (l st : List AV) (σ : St) (x : Nat) : run 146 97 (vR x :: l) (st) σ = run 146 98 (vR x :: l) (vR x :: st) σ := (run_eq 146 97 _ _ σ).trans rfl
theorem e146_98 (ls st : List AV) (σ : St) (x : Nat) (h : fok σ x 3) : run 146 98 (ls) (vR x :: st) σ = run 146 101 (ls) (vR (gr σ x 8) :: st) σ := (run_eq 146 98 _ _ σ).trans (if_pos h)
theorem e146_101 (a0 a1 a2 : AV) (l st : List AV) (σ : St) (x : Int) : run 146 101 (a0 :: a1 :: a2 :: vI x :: l) (st) σ = run 146 102 (a0 :: a1 :: a2 :: vI x :: l) (vI x :: st) σ := (run_eq 146 101 _ _ σ).trans rfl
theorem e146_102 (l st : List AV) (σ : St) (x : Nat) : run 146 102 (vR x :: l) (st) σ = run 146 103 (vR x :: l) (vR x :: st) σ := (run_eq 146 102 _ _ σ).trans rfl
theorem e146_103 (ls st : List AV) (σ : St) (x : Nat) (h : fok σ x 3) : run 146 103 (ls) (vR x :: st) σ = run 146 106 (ls) (vR (gr σ x 18) :: st) σ := (run_eq 146 103 _ _ σ).trans (if_pos h)
theorem e146_106 (a0 a1 : AV) (l st : List AV) (σ : St) (x : Int) : run 146 106 (a0 :: a1 :: vI x :: l) (st) σ = run 146 107 (a0 :: a1 :: vI x :: l) (vI x :: st) σ := (run_eq 146 106 _ _ σ).trans rfl
theorem e146_107 (ls st : List AV) (σ : St) : run 146 107 (ls) (st) σ = run 146 109 (ls) (vI 120 :: st) σ := (run_eq 146 107 _ _ σ).trans rfl
theorem e146_109 (ls st : List AV) (σ : St) (y x : Int) : run 146 109 (ls) (vI y :: vI x :: st) σ = run 146 110 (ls) (vI (wr (x + y)) :: st) σ := (run_eq 146 109 _ _ σ).trans rfl
theorem e146_110 (a0 a1 a2 : AV) (l st : List AV) (σ : St) (x : Int) : run 146 110 (a0 :: a1 :: a2 :: vI x :: l) (st) σ = run 146 111 (a0 :: a1 :: a2 :: vI x :: l) (vI x :: st) σ := (run_eq 146 110 _ _ σ).trans rfl
theorem e146_111 (ls st : List AV) (σ : St) (y x : Int) : run 146 111 (ls) (vI y :: vI x :: st) σ = run 146 112 (ls) (vI (wr (x + y)) :: st) σ := (run_eq 146 111 _ _ σ).trans rfl
theorem e146_112 (ls st : List AV) (σ : St) (j : Int) (x : Nat) (h : aok σ x 4 j) : run 146 112 (ls) (vI j :: vR x :: st) σ = run 146 113 (ls) (vI (gt σ x j.toNat) :: st) σ := (run_eq 146 112 _ _ σ).trans (if_pos h)
theorem e146_113 (ls st : List AV) (σ : St) (z j : Int) (x : Nat) (h : aok σ x 4 j) : run 146 113 (ls) (vI z :: vI j :: vR x :: st) σ = run 146 114 (ls) (st) (sr σ x (ru (gt σ x) j.toNat z)) := (run_eq 146 113 _ _ σ).trans (if_pos h)
theorem e146_114 (a0 a1 a2 : AV) (l st : List AV) (σ : St) (x : Int) : run 146 114 (a0 :: a1 :: a2 :: vI x :: l) (st) σ = run 146 117 (a0 :: a1 :: a2 :: vI (wr (x + 1)) :: l) (st) σ := (run_eq 146 114 _ _ σ).trans rfl
theorem e146_117 (ls st : List AV) (σ : St) : run 146 117 (ls) (st) σ = run 146 91 (ls) (st) σ := (run_eq 146 117 _ _ σ).trans rfl
theorem e146_120 (l st : List AV) (σ : St) (x : Nat) : run 146 120 (vR x :: l) (st) σ = run 146 121 (vR x :: l) (vR x :: st) σ := (run_eq 146 120 _ _ σ).trans rfl
theorem e146_121 (l st : List AV) (σ : St) (x : Nat) : run 146 121 (vR x :: l) (st) σ = run 146 122 (vR x :: l) (vR x :: st) σ := (run_eq 146 121 _ _ σ).trans rfl
theorem e146_122 (ls st : List AV) (σ : St) (x : Nat) (h : fok σ x 3) : run 146 122 (ls) (vR x :: st) σ = run 146 125 (ls) (vR (gr σ x 18) :: st) σ := (run_eq 146 122 _ _ σ).trans (if_pos h)
theorem e146_125 (a0 a1 : AV) (l st : List AV) (σ : St) (x : Int) : run 146 125 (a0 :: a1 :: vI x :: l) (st) σ = run 146 126 (a0 :: a1 :: vI x :: l) (vI x :: st) σ := (run_eq 146 125 _ _ σ).trans rfl
theorem e146_126 (ls st : List AV) (σ : St) : run 146 126 (ls) (st) σ = run 146 129 (ls) (vI 136 :: st) σ := (run_eq 146 126 _ _ σ).trans rfl
theorem e146_129 (ls st : List AV) (σ : St) (y x : Int) : run 146 129 (ls) (vI y :: vI x :: st) σ = run 146 130 (ls) (vI (wr (x + y)) :: st) σ := (run_eq 146 129 _ _ σ).trans rfl
theorem e146_130 (ls st : List AV) (σ : St) (j : Int) (x : Nat) (h : aok σ x 4 j) : run 146 130 (ls) (vI j :: vR x :: st) σ = run 146 131 (ls) (vI (gt σ x j.toNat) :: st) σ := (run_eq 146 130 _ _ σ).trans (if_pos h)
theorem e146_131 (ls st : List AV) (σ : St) (z : Int) (x : Nat) (h : fok σ x 3) : run 146 131 (ls) (vI z :: vR x :: st) σ = run 146 134 (ls) (st) (sr σ x (ru (gt σ x) 0 z)) := (run_eq 146 131 _ _ σ).trans (if_pos h)
theorem e146_134 (l st : List AV) (σ : St) (x : Nat) : run 146 134 (vR x :: l) (st) σ = run 146 135 (vR x :: l) (vR x :: st) σ := (run_eq 146 134 _ _ σ).trans rfl
theorem e146_135 (l st : List AV) (σ : St) (x : Nat) : run 146 135 (vR x :: l) (st) σ = run 146 136 (vR x :: l) (vR x :: st) σ := (run_eq 146 135 _ _ σ).trans rfl
theorem e146_136 (ls st : List AV) (σ : St) (x : Nat) (h : fok σ x 3) : run 146 136 (ls) (vR x :: st) σ = run 146 139 (ls) (vR (gr σ x 18) :: st) σ := (run_eq 146 136 _ _ σ).trans (if_pos h)
theorem e146_139 (a0 a1 : AV) (l st : List AV) (σ : St) (x : Int) : run 146 139 (a0 :: a1 :: vI x :: l) (st) σ = run 146 140 (a0 :: a1 :: vI x :: l) (vI x :: st) σ := (run_eq 146 139 _ _ σ).trans rfl
theorem e146_140 (ls st : List AV) (σ : St) : run 146 140 (ls) (st) σ = run 146 143 (ls) (vI 137 :: st) σ := (run_eq 146 140 _ _ σ).trans rfl
theorem e146_143 (ls st : List AV) (σ : St) (y x : Int) : run 146 143 (ls) (vI y :: vI x :: st) σ = run 146 144 (ls) (vI (wr (x + y)) :: st) σ := (run_eq 146 143 _ _ σ).trans rfl
theorem e146_144 (ls st : List AV) (σ : St) (j : Int) (x : Nat) (h : aok σ x 4 j) : run 146 144 (ls) (vI j :: vR x :: st) σ = run 146 145 (ls) (vI (gt σ x j.toNat) :: st) σ := (run_eq 146 144 _ _ σ).trans (if_pos h)
theorem e146_145 (ls st : List AV) (σ : St) (z : Int) (x : Nat) (h : fok σ x 3) : run 146 145 (ls) (vI z :: vR x :: st) σ = run 146 148 (ls) (st) (sr σ x (ru (gt σ x) 1 z)) := (run_eq 146 145 _ _ σ).trans (if_pos h)
theorem e146_148 (l st : List AV) (σ : St) (x : Nat) : run 146 148 (vR x :: l) (st) σ = run 146 149 (vR x :: l) (vR x :: st) σ := (run_eq 146 148 _ _ σ).trans rfl
theorem e146_149 (l st : List AV) (σ : St) (x : Nat) : run 146 149 (vR x :: l) (st) σ = run 146 150 (vR x :: l) (vR x :: st) σ := (run_eq 146 149 _ _ σ).trans rfl
theorem e146_150 (ls st : List AV) (σ : St) (x : Nat) (h : fok σ x 3) : run 146 150 (ls) (vR x :: st) σ = run 146 153 (ls) (vR (gr σ x 18) :: st) σ := (run_eq 146 150 _ _ σ).trans (if_pos h)
theorem e146_153 (a0 a1 : AV) (l st : List AV) (σ : St) (x : Int) : run 146 153 (a0 :: a1 :: vI x :: l) (st) σ = run 146 154 (a0 :: a1 :: vI x :: l) (vI x :: st) σ := (run_eq 146 153 _ _ σ).trans rfl
theorem e146_154 (ls st : List AV) (σ : St) : run 146 154 (ls) (st) σ = run 146 157 (ls) (vI 138 :: st) σ := (run_eq 146 154 _ _ σ).trans rfl
theorem e146_157 (ls st : List AV) (σ : St) (y x : Int) : run 146 157 (ls) (vI y :: vI x :: st) σ = run 146 158 (ls) (vI (wr (x + y)) :: st) σ := (run_eq 146 157 _ _ σ).trans rfl
theorem e146_158 (ls st : List AV) (σ : St) (j : Int) (x : Nat) (h : aok σ x 4 j) : run 146 158 (ls) (vI j :: vR x :: st) σ = run 146 159 (ls) (vI (gt σ x j.toNat) :: st) σ := (run_eq 146 158 _ _ σ).trans (if_pos h)
theorem e146_159 (ls st : List AV) (σ : St) (z : Int) (x : Nat) (h : fok σ x 3) : run 146 159 (ls) (vI z :: vR x :: st) σ = run 146 162 (ls) (st) (sr σ x (ru (gt σ x) 3 z)) := (run_eq 146 159 _ _ σ).trans (if_pos h)
theorem e146_162 (l st : List AV) (σ : St) (x : Nat) : run 146 162 (vR x :: l) (st) σ = run 146 163 (vR x :: l) (vR x :: st) σ := (run_eq 146 162 _ _ σ).trans rfl
theorem e146_163 (l st : List AV) (σ : St) (x : Nat) : run 146 163 (vR x :: l) (st) σ = run 146 164 (vR x :: l) (vR x :: st) σ := (run_eq 146 163 _ _ σ).trans rfl
theorem e146_164 (ls st : List AV) (σ : St) (x : Nat) (h : fok σ x 3) : run 146 164 (ls) (vR x :: st) σ = run 146 167 (ls) (vR (gr σ x 18) :: st) σ := (run_eq 146 164 _ _ σ).trans (if_pos h)
theorem e146_167 (a0 a1 : AV) (l st : List AV) (σ : St) (x : Int) : run 146 167 (a0 :: a1 :: vI x :: l) (st) σ = run 146 168 (a0 :: a1 :: vI x :: l) (vI x :: st) σ := (run_eq 146 167 _ _ σ).trans rfl
theorem e146_168 (ls st : List AV) (σ : St) : run 146 168 (ls) (st) σ = run 146 171 (ls) (vI 139 :: st) σ := (run_eq 146 168 _ _ σ).trans rfl
theorem e146_171 (ls st : List AV) (σ : St) (y x : Int) : run 146 171 (ls) (vI y :: vI x :: st) σ = run 146 172 (ls) (vI (wr (x + y)) :: st) σ := (run_eq 146 171 _ _ σ).trans rfl
theorem e146_172 (ls st : List AV) (σ : St) (j : Int) (x : Nat) (h : aok σ x 4 j) : run 146 172 (ls) (vI j :: vR x :: st) σ = run 146 173 (ls) (vI (gt σ x j.toNat) :: st) σ := (run_eq 146 172 _ _ σ).trans (if_pos h)
theorem e146_173 (ls st : List AV) (σ : St) (z : Int) (x : Nat) (h : fok σ x 3) : run 146 173 (ls) (vI z :: vR x :: st) σ = run 146 176 (ls) (st) (sr σ x (ru (gt σ x) 4 z)) := (run_eq 146 173 _ _ σ).trans (if_pos h)
theorem e146_176 (l st : List AV) (σ : St) (x : Nat) : run 146 176 (vR x :: l) (st) σ = run 146 177 (vR x :: l) (vR x :: st) σ := (run_eq 146 176 _ _ σ).trans rfl
theorem e146_177 (l st : List AV) (σ : St) (x : Nat) : run 146 177 (vR x :: l) (st) σ = run 146 178 (vR x :: l) (vR x :: st) σ := (run_eq 146 177 _ _ σ).trans rfl
theorem e146_178 (ls st : List AV) (σ : St) (x : Nat) (h : fok σ x 3) : run 146 178 (ls) (vR x :: st) σ = run 146 181 (ls) (vR (gr σ x 18) :: st) σ := (run_eq 146 178 _ _ σ).trans (if_pos h)
theorem e146_181 (a0 a1 : AV) (l st : List AV) (σ : St) (x : Int) : run 146 181 (a0 :: a1 :: vI x :: l) (st) σ = run 146 182 (a0 :: a1 :: vI x :: l) (vI x :: st) σ := (run_eq 146 181 _ _ σ).trans rfl
theorem e146_182 (ls st : List AV) (σ : St) : run 146 182 (ls) (st) σ = run 146 185 (ls) (vI 140 :: st) σ := (run_eq 146 182 _ _ σ).trans rfl
theorem e146_185 (ls st : List AV) (σ : St) (y x : Int) : run 146 185 (ls) (vI y :: vI x :: st) σ = run 146 186 (ls) (vI (wr (x + y)) :: st) σ := (run_eq 146 185 _ _ σ).trans rfl
theorem e146_186 (ls st : List AV) (σ : St) (j : Int) (x : Nat) (h : aok σ x 4 j) : run 146 186 (ls) (vI j :: vR x :: st) σ = run 146 187 (ls) (vI (gt σ x j.toNat) :: st) σ := (run_eq 146 186 _ _ σ).trans (if_pos h)
theorem e146_187 (ls st : List AV) (σ : St) (z : Int) (x : Nat) (h : fok σ x 3) : run 146 187 (ls) (vI z :: vR x :: st) σ = run 146 190 (ls) (st) (sr σ x (ru (gt σ x) 5 z)) := (run_eq 146 187 _ _ σ).trans (if_pos h)
theorem e146_190 (l st : List AV) (σ : St) (x : Nat) : run 146 190 (vR x :: l) (st) σ = run 146 191 (vR x :: l) (vR x :: st) σ := (run_eq 146 190 _ _ σ).trans rfl
theorem e146_191 (l st : List AV) (σ : St) (x : Nat) : run 146 191 (vR x :: l) (st) σ = run 146 192 (vR x :: l) (vR x :: st) σ := (run_eq 146 191 _ _ σ).trans rfl
theorem e146_192 (ls st : List AV) (σ : St) (x : Nat) (h : fok σ x 3) : run 146 192 (ls) (vR x :: st) σ = run 146 195 (ls) (vR (gr σ x 18) :: st) σ := (run_eq 146 192 _ _ σ).trans (if_pos h)
theorem e146_195 (a0 a1 : AV) (l st : List AV) (σ : St) (x : Int) : run 146 195 (a0 :: a1 :: vI x :: l) (st) σ = run 146 196 (a0 :: a1 :: vI x :: l) (vI x :: st) σ := (run_eq 146 195 _ _ σ).trans rfl
theorem e146_196 (ls st : List AV) (σ : St) : run 146 196 (ls) (st) σ = run 146 199 (ls) (vI 141 :: st) σ := (run_eq 146 196 _ _ σ).trans rfl
theorem e146_199 (ls st : List AV) (σ : St) (y x : Int) : run 146 199 (ls) (vI y :: vI x :: st) σ = run 146 200 (ls) (vI (wr (x + y)) :: st) σ := (run_eq 146 199 _ _ σ).trans rfl
theorem e146_200 (ls st : List AV) (σ : St) (j : Int) (x : Nat) (h : aok σ x 4 j) : run 146 200 (ls) (vI j :: vR x :: st) σ = run 146 201 (ls) (vI (gt σ x j.toNat) :: st) σ := (run_eq 146 200 _ _ σ).trans (if_pos h)
theorem e146_201 (ls st : List AV) (σ : St) (z : Int) (x : Nat) (h : fok σ x 3) : run 146 201 (ls) (vI z :: vR x :: st) σ = run 146 204 (ls) (st) (sr σ x (ru (gt σ x) 7 z)) := (run_eq 146 201 _ _ σ).trans (if_pos h)
theorem e146_204 (ls st : List AV) (σ : St) : run 146 204 (ls) (st) σ = run 146 205 (ls) (vI 1 :: st) σ := (run_eq 146 204 _ _ σ).trans rfl
theorem e146_205 (ls : List AV) (σ : St) (x : Int) : run 146 205 ls [vI x] σ = some (vI x, σ) := (run_eq 146 205 _ _ σ).trans rfl
/-! M_told -/
theorem e147_0 (a0 : AV) (l st : List AV) (σ : St) (x : Int) : run 147 0 (a0 :: vI x :: l) (st) σ = run 147 1 (a0 :: vI x :: l) (vI x :: st) σ := (run_eq 147 0 _ _ σ).trans rfl
theorem e147_1 (ls st : List AV) (σ : St) : run 147 1 (ls) (st) σ = run 147 3 (ls) (vI 100 :: st) σ := (run_eq 147 1 _ _ σ).trans rfl
theorem e147_3 (ls st : List AV) (σ : St) (y x : Int) : run 147 3 (ls) (vI y :: vI x :: st) σ = if x < y then run 147 53 (ls) (st) σ else run 147 6 (ls) (st) σ := (run_eq 147 3 _ _ σ).trans rfl
theorem e147_6 (a0 : AV) (l st : List AV) (σ : St) (x : Int) : run 147 6 (a0 :: vI x :: l) (st) σ = run 147 7 (a0 :: vI x :: l) (vI x :: st) σ := (run_eq 147 6 _ _ σ).trans rfl
theorem e147_7 (ls st : List AV) (σ : St) : run 147 7 (ls) (st) σ = run 147 9 (ls) (vI 100 :: st) σ := (run_eq 147 7 _ _ σ).trans rfl
theorem e147_9 (ls st : List AV) (σ : St) (y x : Int) (h : ¬ y = 0) : run 147 9 (ls) (vI y :: vI x :: st) σ = run 147 10 (ls) (vI (wr (x.tdiv y)) :: st) σ := (run_eq 147 9 _ _ σ).trans (if_neg h)
theorem e147_10 (ls st : List AV) (σ : St) : run 147 10 (ls) (st) σ = run 147 11 (ls) (vI 1 :: st) σ := (run_eq 147 10 _ _ σ).trans rfl
theorem e147_11 (ls st : List AV) (σ : St) (y x : Int) : run 147 11 (ls) (vI y :: vI x :: st) σ = run 147 12 (ls) (vI (wr (x - y)) :: st) σ := (run_eq 147 11 _ _ σ).trans rfl
theorem e147_12 (a0 a1 : AV) (l st : List AV) (σ : St) (q : AV) (x : Int) : run 147 12 (a0 :: a1 :: q :: l) (vI x :: st) σ = run 147 13 (a0 :: a1 :: vI x :: l) (st) σ := (run_eq 147 12 _ _ σ).trans rfl
theorem e147_13 (a0 a1 : AV) (l st : List AV) (σ : St) (x : Int) : run 147 13 (a0 :: a1 :: vI x :: l) (st) σ = run 147 14 (a0 :: a1 :: vI x :: l) (vI x :: st) σ := (run_eq 147 13 _ _ σ).trans rfl
theorem e147_14 (ls st : List AV) (σ : St) : run 147 14 (ls) (st) σ = run 147 15 (ls) (vI 0 :: st) σ := (run_eq 147 14 _ _ σ).trans rfl
theorem e147_15 (ls st : List AV) (σ : St) : run 147 15 (ls) (st) σ = run 147 16 (ls) (vI 3 :: st) σ := (run_eq 147 15 _ _ σ).trans rfl
theorem e147_16 (ls st : List AV) (σ : St) (x0 : Int) (x1 : Int) (x2 : Int) (h4 : st.length ≤ 4) : run 147 16 ls (vI x2 :: vI x1 :: vI x0 :: st) σ = bnd (run 92 0 [vI x0, vI x1, vI x2] [] σ) (fun r σ => run 147 19 ls (psh r st) σ) := (run_eq 147 16 _ _ σ).trans (if_pos ⟨rfl, by simp, by simpa using h4⟩)
theorem e147_19 (ls st : List AV) (σ : St) (x : Int) : run 147 19 (ls) (vI x :: st) σ = if x = 0 then run 147 50 (ls) (st) σ else run 147 22 (ls) (st) σ := (run_eq 147 19 _ _ σ).trans rfl
theorem e147_22 (l st : List AV) (σ : St) (x : Nat) : run 147 22 (vR x :: l) (st) σ = run 147 23 (vR x :: l) (vR x :: st) σ := (run_eq 147 22 _ _ σ).trans rfl
theorem e147_23 (a0 : AV) (l st : List AV) (σ : St) (x : Int) : run 147 23 (a0 :: vI x :: l) (st) σ = run 147 24 (a0 :: vI x :: l) (vI x :: st) σ := (run_eq 147 23 _ _ σ).trans rfl
theorem e147_24 (ls st : List AV) (σ : St) : run 147 24 (ls) (st) σ = run 147 26 (ls) (vI 100 :: st) σ := (run_eq 147 24 _ _ σ).trans rfl
theorem e147_26 (ls st : List AV) (σ : St) (y x : Int) (h : ¬ y = 0) : run 147 26 (ls) (vI y :: vI x :: st) σ = run 147 27 (ls) (vI (wr (x.tmod y)) :: st) σ := (run_eq 147 26 _ _ σ).trans (if_neg h)
theorem e147_27 (ls st : List AV) (σ : St) (x0 : Nat) (x1 : Int) (h4 : st.length ≤ 4) (h : fok σ x0 3) : run 147 27 ls (vI x1 :: vR x0 :: st) σ = bnd (run 94 0 [vR x0, vI x1] [] σ) (fun r σ => run 147 30 ls (psh r st) σ) := (run_eq 147 27 _ _ σ).trans (if_pos ⟨rfl, by simp, by simpa using h4, rfl, h⟩)
theorem e147_30 (ls st : List AV) (σ : St) (x : Int) : run 147 30 (ls) (vI x :: st) σ = if x = 0 then run 147 50 (ls) (st) σ else run 147 33 (ls) (st) σ := (run_eq 147 30 _ _ σ).trans rfl
theorem e147_33 (l st : List AV) (σ : St) (x : Nat) : run 147 33 (vR x :: l) (st) σ = run 147 34 (vR x :: l) (vR x :: st) σ := (run_eq 147 33 _ _ σ).trans rfl
theorem e147_34 (ls st : List AV) (σ : St) (x : Nat) (h : fok σ x 3) : run 147 34 (ls) (vR x :: st) σ = run 147 37 (ls) (vR (gr σ x 6) :: st) σ := (run_eq 147 34 _ _ σ).trans (if_pos h)
theorem e147_37 (ls st : List AV) (σ : St) : run 147 37 (ls) (st) σ = run 147 39 (ls) (vI 24 :: st) σ := (run_eq 147 37 _ _ σ).trans rfl
theorem e147_39 (a0 a1 : AV) (l st : List AV) (σ : St) (x : Int) : run 147 39 (a0 :: a1 :: vI x :: l) (st) σ = run 147 40 (a0 :: a1 :: vI x :: l) (vI x :: st) σ := (run_eq 147 39 _ _ σ).trans rfl
theorem e147_40 (ls st : List AV) (σ : St) (y x : Int) : run 147 40 (ls) (vI y :: vI x :: st) σ = run 147 41 (ls) (vI (wr (x * y)) :: st) σ := (run_eq 147 40 _ _ σ).trans rfl
theorem e147_41 (a0 : AV) (l st : List AV) (σ : St) (x : Int) : run 147 41 (a0 :: vI x :: l) (st) σ = run 147 42 (a0 :: vI x :: l) (vI x :: st) σ := (run_eq 147 41 _ _ σ).trans rfl
theorem e147_42 (ls st : List AV) (σ : St) : run 147 42 (ls) (st) σ = run 147 44 (ls) (vI 100 :: st) σ := (run_eq 147 42 _ _ σ).trans rfl
theorem e147_44 (ls st : List AV) (σ : St) (y x : Int) (h : ¬ y = 0) : run 147 44 (ls) (vI y :: vI x :: st) σ = run 147 45 (ls) (vI (wr (x.tmod y)) :: st) σ := (run_eq 147 44 _ _ σ).trans (if_neg h)
theorem e147_45 (ls st : List AV) (σ : St) (y x : Int) : run 147 45 (ls) (vI y :: vI x :: st) σ = run 147 46 (ls) (vI (wr (x + y)) :: st) σ := (run_eq 147 45 _ _ σ).trans rfl
theorem e147_46 (ls st : List AV) (σ : St) (j : Int) (x : Nat) (h : aok σ x 4 j) : run 147 46 (ls) (vI j :: vR x :: st) σ = run 147 47 (ls) (vI (gt σ x j.toNat) :: st) σ := (run_eq 147 46 _ _ σ).trans (if_pos h)
theorem e147_47 (ls st : List AV) (σ : St) : run 147 47 (ls) (st) σ = run 147 52 (ls) (st) σ := (run_eq 147 47 _ _ σ).trans rfl
theorem e147_50 (ls st : List AV) (σ : St) : run 147 50 (ls) (st) σ = run 147 52 (ls) (vI (-2) :: st) σ := (run_eq 147 50 _ _ σ).trans rfl
theorem e147_52 (ls : List AV) (σ : St) (x : Int) : run 147 52 ls [vI x] σ = some (vI x, σ) := (run_eq 147 52 _ _ σ).trans rfl
theorem e147_53 (a0 : AV) (l st : List AV) (σ : St) (x : Int) : run 147 53 (a0 :: vI x :: l) (st) σ = run 147 54 (a0 :: vI x :: l) (vI x :: st) σ := (run_eq 147 53 _ _ σ).trans rfl
theorem e147_54 (ls st : List AV) (σ : St) (x : Int) : run 147 54 (ls) (vI x :: st) σ = run 147 (sw [(0, 96), (1, 101), (2, 106), (3, 111), (4, 116), (5, 121), (6, 126)] 131 x) ls st σ := (run_eq 147 54 _ _ σ).trans rfl
theorem e147_96 (l st : List AV) (σ : St) (x : Nat) : run 147 96 (vR x :: l) (st) σ = run 147 97 (vR x :: l) (vR x :: st) σ := (run_eq 147 96 _ _ σ).trans rfl
theorem e147_97 (ls st : List AV) (σ : St) (x : Nat) (h : fok σ x 3) : run 147 97 (ls) (vR x :: st) σ = run 147 100 (ls) (vI (gt σ x 9) :: st) σ := (run_eq 147 97 _ _ σ).trans (if_pos h)
theorem e147_100 (ls : List AV) (σ : St) (x : Int) : run 147 100 ls [vI x] σ = some (vI x, σ) := (run_eq 147 100 _ _ σ).trans rfl
theorem e147_101 (l st : List AV) (σ : St) (x : Nat) : run 147 101 (vR x :: l) (st) σ = run 147 102 (vR x :: l) (vR x :: st) σ := (run_eq 147 101 _ _ σ).trans rfl
theorem e147_102 (ls st : List AV) (σ : St) (x : Nat) (h : fok σ x 3) : run 147 102 (ls) (vR x :: st) σ = run 147 105 (ls) (vI (gt σ x 0) :: st) σ := (run_eq 147 102 _ _ σ).trans (if_pos h)
theorem e147_105 (ls : List AV) (σ : St) (x : Int) : run 147 105 ls [vI x] σ = some (vI x, σ) := (run_eq 147 105 _ _ σ).trans rfl
theorem e147_106 (l st : List AV) (σ : St) (x : Nat) : run 147 106 (vR x :: l) (st) σ = run 147 107 (vR x :: l) (vR x :: st) σ := (run_eq 147 106 _ _ σ).trans rfl
theorem e147_107 (ls st : List AV) (σ : St) (x : Nat) (h : fok σ x 3) : run 147 107 (ls) (vR x :: st) σ = run 147 110 (ls) (vI (gt σ x 1) :: st) σ := (run_eq 147 107 _ _ σ).trans (if_pos h)
theorem e147_110 (ls : List AV) (σ : St) (x : Int) : run 147 110 ls [vI x] σ = some (vI x, σ) := (run_eq 147 110 _ _ σ).trans rfl
theorem e147_111 (l st : List AV) (σ : St) (x : Nat) : run 147 111 (vR x :: l) (st) σ = run 147 112 (vR x :: l) (vR x :: st) σ := (run_eq 147 111 _ _ σ).trans rfl
theorem e147_112 (ls st : List AV) (σ : St) (x : Nat) (h : fok σ x 3) : run 147 112 (ls) (vR x :: st) σ = run 147 115 (ls) (vI (gt σ x 4) :: st) σ := (run_eq 147 112 _ _ σ).trans (if_pos h)
theorem e147_115 (ls : List AV) (σ : St) (x : Int) : run 147 115 ls [vI x] σ = some (vI x, σ) := (run_eq 147 115 _ _ σ).trans rfl
theorem e147_116 (l st : List AV) (σ : St) (x : Nat) : run 147 116 (vR x :: l) (st) σ = run 147 117 (vR x :: l) (vR x :: st) σ := (run_eq 147 116 _ _ σ).trans rfl
theorem e147_117 (ls st : List AV) (σ : St) (x : Nat) (h : fok σ x 3) : run 147 117 (ls) (vR x :: st) σ = run 147 120 (ls) (vI (gt σ x 5) :: st) σ := (run_eq 147 117 _ _ σ).trans (if_pos h)
theorem e147_120 (ls : List AV) (σ : St) (x : Int) : run 147 120 ls [vI x] σ = some (vI x, σ) := (run_eq 147 120 _ _ σ).trans rfl
theorem e147_121 (l st : List AV) (σ : St) (x : Nat) : run 147 121 (vR x :: l) (st) σ = run 147 122 (vR x :: l) (vR x :: st) σ := (run_eq 147 121 _ _ σ).trans rfl
theorem e147_122 (ls st : List AV) (σ : St) (x : Nat) (h : fok σ x 3) : run 147 122 (ls) (vR x :: st) σ = run 147 125 (ls) (vI (gt σ x 3) :: st) σ := (run_eq 147 122 _ _ σ).trans (if_pos h)
theorem e147_125 (ls : List AV) (σ : St) (x : Int) : run 147 125 ls [vI x] σ = some (vI x, σ) := (run_eq 147 125 _ _ σ).trans rfl
theorem e147_126 (l st : List AV) (σ : St) (x : Nat) : run 147 126 (vR x :: l) (st) σ = run 147 127 (vR x :: l) (vR x :: st) σ := (run_eq 147 126 _ _ σ).trans rfl
theorem e147_127 (ls st : List AV) (σ : St) (x : Nat) (h : fok σ x 3) : run 147 127 (ls) (vR x :: st) σ = run 147 130 (ls) (vI (gt σ x 7) :: st) σ := (run_eq 147 127 _ _ σ).trans (if_pos h)
theorem e147_130 (ls : List AV) (σ : St) (x : Int) : run 147 130 ls [vI x] σ = some (vI x, σ) := (run_eq 147 130 _ _ σ).trans rfl
theorem e147_131 (l st : List AV) (σ : St) (x : Nat) : run 147 131 (vR x :: l) (st) σ = run 147 132 (vR x :: l) (vR x :: st) σ := (run_eq 147 131 _ _ σ).trans rfl
theorem e147_132 (ls st : List AV) (σ : St) (x0 : Nat) (h4 : st.length ≤ 4) (h : fok σ x0 3) : run 147 132 ls (vR x0 :: st) σ = bnd (run 107 0 [vR x0, vU] [] σ) (fun r σ => run 147 135 ls (psh r st) σ) := (run_eq 147 132 _ _ σ).trans (if_pos ⟨rfl, by simp, by simpa using h4, rfl, h⟩)
theorem e147_135 (a0 : AV) (l st : List AV) (σ : St) (x : Int) : run 147 135 (a0 :: vI x :: l) (st) σ = run 147 136 (a0 :: vI x :: l) (vI x :: st) σ := (run_eq 147 135 _ _ σ).trans rfl
theorem e147_136 (ls st : List AV) (σ : St) : run 147 136 (ls) (st) σ = run 147 138 (ls) (vI 7 :: st) σ := (run_eq 147 136 _ _ σ).trans rfl
theorem e147_138 (ls st : List AV) (σ : St) (y x : Int) : run 147 138 (ls) (vI y :: vI x :: st) σ = if x = y then run 147 141 (ls) (st) σ else run 147 148 (ls) (st) σ := (run_eq 147 138 _ _ σ).trans rfl
theorem e147_141 (l st : List AV) (σ : St) (x : Nat) : run 147 141 (vR x :: l) (st) σ = run 147 142 (vR x :: l) (vR x :: st) σ := (run_eq 147 141 _ _ σ).trans rfl
theorem e147_142 (ls st : List AV) (σ : St) (x0 : Nat) (h4 : st.length ≤ 4) (h : fok σ x0 3) : run 147 142 ls (vR x0 :: st) σ = bnd (run 144 0 [vR x0, vU, vU] [] σ) (fun r σ => run 147 145 ls (psh r st) σ) := (run_eq 147 142 _ _ σ).trans (if_pos ⟨rfl, by simp, by simpa using h4, rfl, h⟩)
theorem e147_145 (ls st : List AV) (σ : St) : run 147 145 (ls) (st) σ = run 147 150 (ls) (st) σ := (run_eq 147 145 _ _ σ).trans rfl
theorem e147_148 (ls st : List AV) (σ : St) : run 147 148 (ls) (st) σ = run 147 150 (ls) (vI (-2) :: st) σ := (run_eq 147 148 _ _ σ).trans rfl
theorem e147_150 (ls : List AV) (σ : St) (x : Int) : run 147 150 ls [vI x] σ = some (vI x, σ) := (run_eq 147 150 _ _ σ).trans rfl
