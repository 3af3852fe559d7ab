/-! one instruction, by its number -/
section SP
variable (k : Nat → Nat → List AV → List AV → St → Res) (a : Nat) (b : Int) (nx : Nat) (ts : List (Int × Nat)) (M : Nat) (ls st : List AV) (σ : St)
theorem stp_0 : stp k (0, a, b, nx, ts) M ls st σ = k M nx ls (vI b :: st) σ := rfl
theorem stp_1 : stp k (1, a, b, nx, ts) M ls st σ = (match lg ls a with
      | (0, _, _) => k M nx ls (lg ls a :: st) σ
      | _ => none) := rfl
theorem stp_2 : stp k (2, a, b, nx, ts) M ls st σ = (match st with
      | (0, z, q) :: st => k M nx (ls.set a (0, z, q)) st σ
      | _ => none) := rfl
theorem stp_3 : stp k (3, a, b, nx, ts) M ls st σ = (match lg ls a with
      | (1, _, _) => k M nx ls (lg ls a :: st) σ
      | (5, _, _) => k M nx ls (lg ls a :: st) σ
      | _ => none) := rfl
theorem stp_4 : stp k (4, a, b, nx, ts) M ls st σ = (match st with
      | (1, z, q) :: st => k M nx (ls.set a (1, z, q)) st σ
      | _ => none) := rfl
theorem stp_5 : stp k (5, a, b, nx, ts) M ls st σ = (match lg ls a, lg ls (a + 1) with
      | (2, _, _), (3, 0, 0) => k M nx ls (lg ls a :: st) σ
      | _, _ => none) := rfl
theorem stp_6 : stp k (6, a, b, nx, ts) M ls st σ = (match st with
      | (2, z, q) :: st => k M nx ((ls.set a (2, z, q)).set (a + 1) vH) st σ
      | _ => none) := rfl
theorem stp_7 : stp k (7, a, b, nx, ts) M ls st σ = k M nx ls (vL b :: st) σ := rfl
theorem stp_8 : stp k (8, a, b, nx, ts) M ls st σ = (match lg ls a with
      | (0, z, _) => k M nx (ls.set a (vI (wr (z + b)))) st σ
      | _ => none) := rfl
theorem stp_9 : stp k (9, a, b, nx, ts) M ls st σ = (match st with
      | (0, z, q) :: st => k M nx ls ((0, z, q) :: (0, z, q) :: st) σ
      | (1, z, q) :: st => k M nx ls ((1, z, q) :: (1, z, q) :: st) σ
      | _ => none) := rfl
theorem stp_10 : stp k (10, a, b, nx, ts) M ls st σ = (match st with
      | (0, y, q) :: (1, x, p) :: st => k M nx ls ((0, y, q) :: (1, x, p) :: (0, y, q) :: (1, x, p) :: st) σ
      | _ => none) := rfl
theorem stp_11 : stp k (11, a, b, nx, ts) M ls st σ = (match st with
      | (0, y, _) :: (0, x, _) :: st => k M nx ls (vI (wr (x + y)) :: st) σ
      | _ => none) := rfl
theorem stp_12 : stp k (12, a, b, nx, ts) M ls st σ = (match st with
      | (0, y, _) :: (0, x, _) :: st => k M nx ls (vI (wr (x - y)) :: st) σ
      | _ => none) := rfl
theorem stp_13 : stp k (13, a, b, nx, ts) M ls st σ = (match st with
      | (0, y, _) :: (0, x, _) :: st => k M nx ls (vI (wr (x * y)) :: st) σ
      | _ => none) := rfl
theorem stp_14 : stp k (14, a, b, nx, ts) M ls st σ = (match st with
      | (0, y, _) :: (0, x, _) :: st => if y = 0 then none else k M nx ls (vI (wr (x.tdiv y)) :: st) σ
      | _ => none) := rfl
theorem stp_15 : stp k (15, a, b, nx, ts) M ls st σ = (match st with
      | (0, y, _) :: (0, x, _) :: st => if y = 0 then none else k M nx ls (vI (wr (x.tmod y)) :: st) σ
      | _ => none) := rfl
theorem stp_16 : stp k (16, a, b, nx, ts) M ls st σ = (match st with
      | (0, x, _) :: st => k M nx ls (vI (wr (-x)) :: st) σ
      | _ => none) := rfl
theorem stp_17 : stp k (17, a, b, nx, ts) M ls st σ = (match st with
      | (0, y, _) :: (0, x, _) :: st => k M nx ls (vI (bShl x y) :: st) σ
      | _ => none) := rfl
theorem stp_18 : stp k (18, a, b, nx, ts) M ls st σ = (match st with
      | (0, y, _) :: (0, x, _) :: st => k M nx ls (vI (bShr x y) :: st) σ
      | _ => none) := rfl
theorem stp_19 : stp k (19, a, b, nx, ts) M ls st σ = (match st with
      | (0, y, _) :: (0, x, _) :: st => k M nx ls (vI (bUsh x y) :: st) σ
      | _ => none) := rfl
theorem stp_20 : stp k (20, a, b, nx, ts) M ls st σ = (match st with
      | (0, y, _) :: (0, x, _) :: st => k M nx ls (vI (bAnd x y) :: st) σ
      | _ => none) := rfl
theorem stp_21 : stp k (21, a, b, nx, ts) M ls st σ = (match st with
      | (0, y, _) :: (0, x, _) :: st => k M nx ls (vI (bOr x y) :: st) σ
      | _ => none) := rfl
theorem stp_22 : stp k (22, a, b, nx, ts) M ls st σ = (match st with
      | (0, y, _) :: (0, x, _) :: st => k M nx ls (vI (bXor x y) :: st) σ
      | _ => none) := rfl
theorem stp_23 : stp k (23, a, b, nx, ts) M ls st σ = (match st with
      | (2, y, _) :: (2, x, _) :: st => k M nx ls (vL (wl (x + y)) :: st) σ
      | _ => none) := rfl
theorem stp_24 : stp k (24, a, b, nx, ts) M ls st σ = (match st with
      | (2, y, _) :: (2, x, _) :: st => k M nx ls (vL (wl (x * y)) :: st) σ
      | _ => none) := rfl
theorem stp_25 : stp k (25, a, b, nx, ts) M ls st σ = (match st with
      | (2, y, _) :: (2, x, _) :: st => if y = 0 then none else k M nx ls (vL (wl (x.tdiv y)) :: st) σ
      | _ => none) := rfl
theorem stp_26 : stp k (26, a, b, nx, ts) M ls st σ = (match st with
      | (2, y, _) :: (2, x, _) :: st => if y = 0 then none else k M nx ls (vL (wl (x.tmod y)) :: st) σ
      | _ => none) := rfl
theorem stp_27 : stp k (27, a, b, nx, ts) M ls st σ = (match st with
      | (2, y, _) :: (2, x, _) :: st => k M nx ls (vI (lCmp x y) :: st) σ
      | _ => none) := rfl
theorem stp_28 : stp k (28, a, b, nx, ts) M ls st σ = (match st with
      | (0, x, _) :: st => k M nx ls (vL x :: st) σ
      | _ => none) := rfl
theorem stp_30 : stp k (30, a, b, nx, ts) M ls st σ = (match st with
      | (0, x, _) :: st => if x = 0 then k M a ls st σ else k M nx ls st σ
      | _ => none) := rfl
theorem stp_31 : stp k (31, a, b, nx, ts) M ls st σ = (match st with
      | (0, x, _) :: st => if x = 0 then k M nx ls st σ else k M a ls st σ
      | _ => none) := rfl
theorem stp_32 : stp k (32, a, b, nx, ts) M ls st σ = (match st with
      | (0, x, _) :: st => if x < 0 then k M a ls st σ else k M nx ls st σ
      | _ => none) := rfl
theorem stp_33 : stp k (33, a, b, nx, ts) M ls st σ = (match st with
      | (0, x, _) :: st => if x < 0 then k M nx ls st σ else k M a ls st σ
      | _ => none) := rfl
theorem stp_34 : stp k (34, a, b, nx, ts) M ls st σ = (match st with
      | (0, x, _) :: st => if 0 < x then k M a ls st σ else k M nx ls st σ
      | _ => none) := rfl
theorem stp_35 : stp k (35, a, b, nx, ts) M ls st σ = (match st with
      | (0, x, _) :: st => if 0 < x then k M nx ls st σ else k M a ls st σ
      | _ => none) := rfl
theorem stp_36 : stp k (36, a, b, nx, ts) M ls st σ = (match st with
      | (0, y, _) :: (0, x, _) :: st => if x = y then k M a ls st σ else k M nx ls st σ
      | _ => none) := rfl
theorem stp_37 : stp k (37, a, b, nx, ts) M ls st σ = (match st with
      | (0, y, _) :: (0, x, _) :: st => if x = y then k M nx ls st σ else k M a ls st σ
      | _ => none) := rfl
theorem stp_38 : stp k (38, a, b, nx, ts) M ls st σ = (match st with
      | (0, y, _) :: (0, x, _) :: st => if x < y then k M a ls st σ else k M nx ls st σ
      | _ => none) := rfl
theorem stp_39 : stp k (39, a, b, nx, ts) M ls st σ = (match st with
      | (0, y, _) :: (0, x, _) :: st => if x < y then k M nx ls st σ else k M a ls st σ
      | _ => none) := rfl
theorem stp_40 : stp k (40, a, b, nx, ts) M ls st σ = (match st with
      | (0, y, _) :: (0, x, _) :: st => if y < x then k M a ls st σ else k M nx ls st σ
      | _ => none) := rfl
theorem stp_41 : stp k (41, a, b, nx, ts) M ls st σ = (match st with
      | (0, y, _) :: (0, x, _) :: st => if y < x then k M nx ls st σ else k M a ls st σ
      | _ => none) := rfl
theorem stp_42 : stp k (42, a, b, nx, ts) M ls st σ = (match st with
      | (1, _, q) :: st => if q = 0 then k M a ls st σ else k M nx ls st σ
      | _ => none) := rfl
theorem stp_43 : stp k (43, a, b, nx, ts) M ls st σ = (match st with
      | (1, _, q) :: st => if q = 0 then k M nx ls st σ else k M a ls st σ
      | _ => none) := rfl
theorem stp_44 : stp k (44, a, b, nx, ts) M ls st σ = k M a ls st σ := rfl
theorem stp_45 : stp k (45, a, b, nx, ts) M ls st σ = (match st with
      | (0, x, _) :: st => k M (sw ts a x) ls st σ
      | _ => none) := rfl
theorem stp_50 : stp k (50, a, b, nx, ts) M ls st σ = (match st with
      | (1, _, q) :: st => ck (fok σ q b.toNat) (k M nx ls (vI (gt σ q a) :: st) σ)
      | _ => none) := rfl
theorem stp_51 : stp k (51, a, b, nx, ts) M ls st σ = (match st with
      | (1, _, q) :: st => ck (fok σ q b.toNat) (k M nx ls (vR (gr σ q a) :: st) σ)
      | _ => none) := rfl
theorem stp_52 : stp k (52, a, b, nx, ts) M ls st σ = (match st with
      | (0, z, _) :: (1, _, q) :: st => ck (fok σ q b.toNat) (k M nx ls st (sr σ q (ru (gt σ q) a z)))
      | _ => none) := rfl
theorem stp_53 : stp k (53, a, b, nx, ts) M ls st σ = (match st with
      | (1, _, z) :: (1, _, q) :: st => ck (fok σ q b.toNat ∧ 1 ≤ z) (k M nx ls st (rr σ q (ru (gr σ q) a z)))
      | _ => none) := rfl
theorem stp_54 : stp k (54, a, b, nx, ts) M ls st σ = (match st with
      | (1, _, q) :: st => ck (fok σ q 4 ∨ fok σ q 6) (k M nx ls (vI (sk σ q).2 :: st) σ)
      | _ => none) := rfl
theorem stp_55 : stp k (55, a, b, nx, ts) M ls st σ = (match st with
      | (0, j, _) :: (1, _, q) :: st => ck (aok σ q 4 j) (k M nx ls (vI (gt σ q j.toNat) :: st) σ)
      | _ => none) := rfl
theorem stp_56 : stp k (56, a, b, nx, ts) M ls st σ = (match st with
      | (0, z, _) :: (0, j, _) :: (1, _, q) :: st => ck (aok σ q 4 j) (k M nx ls st (sr σ q (ru (gt σ q) j.toNat z)))
      | _ => none) := rfl
theorem stp_57 : stp k (57, a, b, nx, ts) M ls st σ = (match st with
      | (0, j, _) :: (1, _, q) :: st => ck (aok σ q 5 j) (k M nx ls (vI (gt σ q j.toNat) :: st) σ)
      | _ => none) := rfl
theorem stp_58 : stp k (58, a, b, nx, ts) M ls st σ = (match st with
      | (0, z, _) :: (0, j, _) :: (1, _, q) :: st => ck (aok σ q 5 j ∧ (z = 0 ∨ z = 1)) (k M nx ls st (sr σ q (ru (gt σ q) j.toNat z)))
      | _ => none) := rfl
theorem stp_59 : stp k (59, a, b, nx, ts) M ls st σ = (match st with
      | (0, j, _) :: (1, _, q) :: st => ck (aok σ q 6 j) (k M nx ls (vR (gr σ q j.toNat) :: st) σ)
      | _ => none) := rfl
theorem stp_60 : stp k (60, a, b, nx, ts) M ls st σ = (match st with
      | (1, _, z) :: (0, j, _) :: (1, _, q) :: st => ck (aok σ q 6 j ∧ fok σ z 0) (k M nx ls st (rr σ q (ru (gr σ q) j.toNat z)))
      | _ => none) := rfl
theorem stp_61 : stp k (61, a, b, nx, ts) M ls st σ = (match st with
      | (0, z, _) :: st => if 0 ≤ z ∧ z ≤ 1000 then k M nx ls (vR (nn σ + 1) :: st) (al σ 4 z.toNat) else none
      | _ => none) := rfl
theorem stp_62 : stp k (62, a, b, nx, ts) M ls st σ = (match st with
      | (0, z, _) :: st => if 0 ≤ z ∧ z ≤ 1000 then k M nx ls (vR (nn σ + 1) :: st) (al σ 5 z.toNat) else none
      | _ => none) := rfl
theorem stp_63 : stp k (63, a, b, nx, ts) M ls st σ = (match st with
      | (0, z, _) :: st => if 0 ≤ z ∧ z ≤ 1000 then k M nx ls (vR (nn σ + 1) :: st) (al σ 6 z.toNat) else none
      | _ => none) := rfl
theorem stp_64 : stp k (64, a, b, nx, ts) M ls st σ = k M nx ls (vR (nn σ + 1) :: st) (al σ a (cN a)) := rfl
theorem stp_65 : stp k (65, a, b, nx, ts) M ls st σ = (match st with
      | (0, j, _) :: (5, _, _) :: st => if 0 ≤ j ∧ j < (sl σ : Int) then k M nx ls (vI (sx σ j.toNat) :: st) σ else none
      | _ => none) := rfl
theorem stp_66 : stp k (66, a, b, nx, ts) M ls st σ = (match st with
      | (5, _, _) :: st => k M nx ls (vI (sl σ) :: st) σ
      | _ => none) := rfl
theorem stp_70 : stp k (70, a, b, nx, ts) M ls st σ = (match st with
      | [(0, z, _)] => some (vI z, σ)
      | _ => none) := rfl
theorem stp_71 : stp k (71, a, b, nx, ts) M ls st σ = (match st with
      | [(0, z, _)] => if z = 0 ∨ z = 1 then some (vI z, σ) else none
      | _ => none) := rfl
theorem stp_72 : stp k (72, a, b, nx, ts) M ls st σ = (match st with
      | [(2, z, _)] => some (vL z, σ)
      | _ => none) := rfl
theorem stp_73 : stp k (73, a, b, nx, ts) M ls st σ = (match st with
      | [] => some (vU, σ)
      | _ => none) := rfl
theorem stp_80 : stp k (80, a, b, nx, ts) M ls st σ = ck ((st.take b.toNat).all (fun t => decide (t.1 ≤ 1)) = true ∧ b.toNat ≤ st.length ∧ st.length - b.toNat ≤ 4) (bnd (k a 0 (pad (st.take b.toNat).reverse (ml a)) [] σ) (fun r σ => k M nx ls (psh r (st.drop b.toNat)) σ)) := rfl
theorem stp_82 : stp k (82, a, b, nx, ts) M ls st σ = ck ((st.take (b.toNat + 1)).all (fun t => decide (t.1 ≤ 1)) = true ∧ b.toNat + 1 ≤ st.length ∧ st.length - (b.toNat + 1) ≤ 4 ∧ (lg st b.toNat).1 = 1 ∧ fok σ (lg st b.toNat).2.2 (mo a)) (bnd (k a 0 (pad (st.take (b.toNat + 1)).reverse (ml a)) [] σ) (fun r σ => k M nx ls (psh r (st.drop (b.toNat + 1))) σ)) := rfl
theorem stp_83 : stp k (83, a, b, nx, ts) M ls st σ = ck ((st.take (b.toNat + 1)).all (fun t => decide (t.1 ≤ 1)) = true ∧ b.toNat + 1 ≤ st.length ∧ st.length - (b.toNat + 1) ≤ 4 ∧ (lg st b.toNat).1 = 1 ∧ 1 ≤ (lg st b.toNat).2.2) (bnd (k a 0 (pad (st.take (b.toNat + 1)).reverse (ml a)) [] σ) (fun r σ => k M nx ls (psh r (st.drop (b.toNat + 1))) σ)) := rfl
theorem stp_85 : stp k (85, a, b, nx, ts) M ls st σ = (match st with
      | (1, _, q) :: st => ck (1 ≤ q ∧ st.length ≤ 4) (k M nx ls st σ)
      | _ => none) := rfl
theorem stp_86 : stp k (86, a, b, nx, ts) M ls st σ = (match st with
      | (0, y, _) :: (0, x, _) :: st => ck (st.length ≤ 4) (k M nx ls (vI (if x < y then y else x) :: st) σ)
      | _ => none) := rfl
theorem stp_87 : stp k (87, a, b, nx, ts) M ls st σ = (match st with
      | (0, y, _) :: (0, x, _) :: st => ck (st.length ≤ 4) (k M nx ls (vI (if y < x then y else x) :: st) σ)
      | _ => none) := rfl
theorem stp_88 : stp k (88, a, b, nx, ts) M ls st σ = (match st with
      | (0, x, _) :: st => ck (st.length ≤ 4) (k M nx ls (vI (if 0 ≤ x then x else wr (-x)) :: st) σ)
      | _ => none) := rfl
end SP
