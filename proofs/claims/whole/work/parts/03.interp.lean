/-! THE INTERPRETER: the methods' code, read as data (cd), run over a plain store; ints are Int, a reference is a number (0: null; k + 1: the k-th cell) -/
/-- a value: (0, z, _) an int, (1, _, k) a reference, (2, z, _) a long, (3, ..) a long's second half, (5, _, b) the script, (9, ..) none -/
abbrev AV : Type := Nat × Int × Nat
def vI (z : Int) : AV := (0, z, 0)
def vR (k : Nat) : AV := (1, 0, k)
def vL (z : Int) : AV := (2, z, 0)
def vH : AV := (3, 0, 0)
def vS (b : Nat) : AV := (5, 0, b)
def vU : AV := (9, 0, 0)
/-- a store: how many cells; slots in all; of each cell its kind (0 to 3 a class, 4 ints, 5 booleans, 6 references) and size; ints; references; the script's length and ints -/
abbrev St : Type := Nat × Nat × (Nat → Nat × Nat) × (Nat → Nat → Int) × (Nat → Nat → Nat) × Nat × (Nat → Int)
def nn (σ : St) : Nat := σ.1
def nt (σ : St) : Nat := σ.2.1
def sk (σ : St) : Nat → Nat × Nat := σ.2.2.1
def gt (σ : St) : Nat → Nat → Int := σ.2.2.2.1
def gr (σ : St) : Nat → Nat → Nat := σ.2.2.2.2.1
def sl (σ : St) : Nat := σ.2.2.2.2.2.1
def sx (σ : St) : Nat → Int := σ.2.2.2.2.2.2
def ru {α : Type} (f : Nat → α) (k : Nat) (v : α) : Nat → α := fun i => if i = k then v else f i
/-- a row of ints, a row of references, set anew; a cell more -/
def sr (σ : St) (k : Nat) (f : Nat → Int) : St := (σ.1, σ.2.1, σ.2.2.1, ru σ.2.2.2.1 k f, σ.2.2.2.2)
def rr (σ : St) (k : Nat) (f : Nat → Nat) : St := (σ.1, σ.2.1, σ.2.2.1, σ.2.2.2.1, ru σ.2.2.2.2.1 k f, σ.2.2.2.2.2)
def al (σ : St) (kd sz : Nat) : St := (σ.1 + 1, σ.2.1 + sz, ru σ.2.2.1 (σ.1 + 1) (kd, sz), ru σ.2.2.2.1 (σ.1 + 1) (fun _ => 0), ru σ.2.2.2.2.1 (σ.1 + 1) (fun _ => 0), σ.2.2.2.2.2)
/-! arithmetic as the machine has it; the words don't unfold (their laws: wr_def ..), so that no later text computes with them -/
theorem wr_ex : ∃ f : Int → Int, ∀ z, f z = Int.bmod z (2 ^ 32) := ⟨_, fun _ => rfl⟩
noncomputable def wr : Int → Int := Classical.choose wr_ex
theorem wr_def (z : Int) : wr z = Int.bmod z (2 ^ 32) := Classical.choose_spec wr_ex z
theorem wl_ex : ∃ f : Int → Int, ∀ z, f z = Int.bmod z (2 ^ 64) := ⟨_, fun _ => rfl⟩
noncomputable def wl : Int → Int := Classical.choose wl_ex
theorem wl_def (z : Int) : wl z = Int.bmod z (2 ^ 64) := Classical.choose_spec wl_ex z
theorem bAnd_ex : ∃ f : Int → Int → Int, ∀ x y, f x y = (Int32.ofInt x &&& Int32.ofInt y).toInt := ⟨_, fun _ _ => rfl⟩
noncomputable def bAnd : Int → Int → Int := Classical.choose bAnd_ex
theorem bAnd_def (x y : Int) : bAnd x y = (Int32.ofInt x &&& Int32.ofInt y).toInt := Classical.choose_spec bAnd_ex x y
theorem bOr_ex : ∃ f : Int → Int → Int, ∀ x y, f x y = (Int32.ofInt x ||| Int32.ofInt y).toInt := ⟨_, fun _ _ => rfl⟩
noncomputable def bOr : Int → Int → Int := Classical.choose bOr_ex
theorem bOr_def (x y : Int) : bOr x y = (Int32.ofInt x ||| Int32.ofInt y).toInt := Classical.choose_spec bOr_ex x y
theorem bXor_ex : ∃ f : Int → Int → Int, ∀ x y, f x y = (Int32.ofInt x ^^^ Int32.ofInt y).toInt := ⟨_, fun _ _ => rfl⟩
noncomputable def bXor : Int → Int → Int := Classical.choose bXor_ex
theorem bXor_def (x y : Int) : bXor x y = (Int32.ofInt x ^^^ Int32.ofInt y).toInt := Classical.choose_spec bXor_ex x y
theorem bShl_ex : ∃ f : Int → Int → Int, ∀ x y, f x y = (Int32.ofInt x <<< (Int32.ofInt y &&& 31)).toInt := ⟨_, fun _ _ => rfl⟩
noncomputable def bShl : Int → Int → Int := Classical.choose bShl_ex
theorem bShl_def (x y : Int) : bShl x y = (Int32.ofInt x <<< (Int32.ofInt y &&& 31)).toInt := Classical.choose_spec bShl_ex x y
theorem bShr_ex : ∃ f : Int → Int → Int, ∀ x y, f x y = (Int32.ofInt x >>> (Int32.ofInt y &&& 31)).toInt := ⟨_, fun _ _ => rfl⟩
noncomputable def bShr : Int → Int → Int := Classical.choose bShr_ex
theorem bShr_def (x y : Int) : bShr x y = (Int32.ofInt x >>> (Int32.ofInt y &&& 31)).toInt := Classical.choose_spec bShr_ex x y
theorem bUsh_ex : ∃ f : Int → Int → Int, ∀ x y, f x y = ((Int32.ofInt x).toUInt32 >>> ((Int32.ofInt y).toUInt32 &&& Int32.toUInt32 31)).toInt32.toInt := ⟨_, fun _ _ => rfl⟩
noncomputable def bUsh : Int → Int → Int := Classical.choose bUsh_ex
theorem bUsh_def (x y : Int) : bUsh x y = ((Int32.ofInt x).toUInt32 >>> ((Int32.ofInt y).toUInt32 &&& Int32.toUInt32 31)).toInt32.toInt := Classical.choose_spec bUsh_ex x y
def lCmp (x y : Int) : Int := if x < y then -1 else if x = y then 0 else 1
def lg (ls : List AV) (i : Nat) : AV := (ls[i]?).getD vU
def fok (σ : St) (k kd : Nat) : Prop := 1 ≤ k ∧ k ≤ nn σ ∧ (sk σ k).1 = kd
def aok (σ : St) (k kd : Nat) (j : Int) : Prop := fok σ k kd ∧ 0 ≤ j ∧ j < ((sk σ k).2 : Int)
def sw (ts : List (Int × Nat)) (d : Nat) (z : Int) : Nat := (ts.lookup z).getD d
/-- a call's answer on the stack -/
def psh (r : AV) (st : List AV) : List AV := if r.1 = 9 then st else r :: st
abbrev Res : Type := Option (AV × St)
def pad (as : List AV) (n : Nat) : List AV := as ++ List.replicate (n - as.length) vU
def bnd (o : Res) (f : AV → St → Res) : Res := match o with
  | none => none
  | some q => f q.1 q.2
/-- a test of the store -/
noncomputable def ck (c : Prop) (x : Res) : Res := @ite _ c (Classical.propDecidable c) x none
/-- one instruction; k: how it goes on -/
noncomputable def stp (k : Nat → Nat → List AV → List AV → St → Res) (e : Ent) (M : Nat) (ls st : List AV) (σ : St) : Res := match e with
  | (op, a, b, nx, ts) => match op with
    | 0 => k M nx ls (vI b :: st) σ
    | 1 => (match lg ls a with
      | (0, _, _) => k M nx ls (lg ls a :: st) σ
      | _ => none)
    | 2 => (match st with
      | (0, z, q) :: st => k M nx (ls.set a (0, z, q)) st σ
      | _ => none)
    | 3 => (match lg ls a with
      | (1, _, _) => k M nx ls (lg ls a :: st) σ
      | (5, _, _) => k M nx ls (lg ls a :: st) σ
      | _ => none)
    | 4 => (match st with
      | (1, z, q) :: st => k M nx (ls.set a (1, z, q)) st σ
      | _ => none)
    | 5 => (match lg ls a, lg ls (a + 1) with
      | (2, _, _), (3, 0, 0) => k M nx ls (lg ls a :: st) σ
      | _, _ => none)
    | 6 => (match st with
      | (2, z, q) :: st => k M nx ((ls.set a (2, z, q)).set (a + 1) vH) st σ
      | _ => none)
    | 7 => k M nx ls (vL b :: st) σ
    | 8 => (match lg ls a with
      | (0, z, _) => k M nx (ls.set a (vI (wr (z + b)))) st σ
      | _ => none)
    | 9 => (match st with
      | (0, z, q) :: st => k M nx ls ((0, z, q) :: (0, z, q) :: st) σ
      | (1, z, q) :: st => k M nx ls ((1, z, q) :: (1, z, q) :: st) σ
      | _ => none)
    | 10 => (match st with
      | (0, y, q) :: (1, x, p) :: st => k M nx ls ((0, y, q) :: (1, x, p) :: (0, y, q) :: (1, x, p) :: st) σ
      | _ => none)
    | 11 => (match st with
      | (0, y, _) :: (0, x, _) :: st => k M nx ls (vI (wr (x + y)) :: st) σ
      | _ => none)
    | 12 => (match st with
      | (0, y, _) :: (0, x, _) :: st => k M nx ls (vI (wr (x - y)) :: st) σ
      | _ => none)
    | 13 => (match st with
      | (0, y, _) :: (0, x, _) :: st => k M nx ls (vI (wr (x * y)) :: st) σ
      | _ => none)
    | 14 => (match st with
      | (0, y, _) :: (0, x, _) :: st => if y = 0 then none else k M nx ls (vI (wr (x.tdiv y)) :: st) σ
      | _ => none)
    | 15 => (match st with
      | (0, y, _) :: (0, x, _) :: st => if y = 0 then none else k M nx ls (vI (wr (x.tmod y)) :: st) σ
      | _ => none)
    | 16 => (match st with
      | (0, x, _) :: st => k M nx ls (vI (wr (-x)) :: st) σ
      | _ => none)
    | 17 => (match st with
      | (0, y, _) :: (0, x, _) :: st => k M nx ls (vI (bShl x y) :: st) σ
      | _ => none)
    | 18 => (match st with
      | (0, y, _) :: (0, x, _) :: st => k M nx ls (vI (bShr x y) :: st) σ
      | _ => none)
    | 19 => (match st with
      | (0, y, _) :: (0, x, _) :: st => k M nx ls (vI (bUsh x y) :: st) σ
      | _ => none)
    | 20 => (match st with
      | (0, y, _) :: (0, x, _) :: st => k M nx ls (vI (bAnd x y) :: st) σ
      | _ => none)
    | 21 => (match st with
      | (0, y, _) :: (0, x, _) :: st => k M nx ls (vI (bOr x y) :: st) σ
      | _ => none)
    | 22 => (match st with
      | (0, y, _) :: (0, x, _) :: st => k M nx ls (vI (bXor x y) :: st) σ
      | _ => none)
    | 23 => (match st with
      | (2, y, _) :: (2, x, _) :: st => k M nx ls (vL (wl (x + y)) :: st) σ
      | _ => none)
    | 24 => (match st with
      | (2, y, _) :: (2, x, _) :: st => k M nx ls (vL (wl (x * y)) :: st) σ
      | _ => none)
    | 25 => (match st with
      | (2, y, _) :: (2, x, _) :: st => if y = 0 then none else k M nx ls (vL (wl (x.tdiv y)) :: st) σ
      | _ => none)
    | 26 => (match st with
      | (2, y, _) :: (2, x, _) :: st => if y = 0 then none else k M nx ls (vL (wl (x.tmod y)) :: st) σ
      | _ => none)
    | 27 => (match st with
      | (2, y, _) :: (2, x, _) :: st => k M nx ls (vI (lCmp x y) :: st) σ
      | _ => none)
    | 28 => (match st with
      | (0, x, _) :: st => k M nx ls (vL x :: st) σ
      | _ => none)
    | 30 => (match st with
      | (0, x, _) :: st => if x = 0 then k M a ls st σ else k M nx ls st σ
      | _ => none)
    | 31 => (match st with
      | (0, x, _) :: st => if x = 0 then k M nx ls st σ else k M a ls st σ
      | _ => none)
    | 32 => (match st with
      | (0, x, _) :: st => if x < 0 then k M a ls st σ else k M nx ls st σ
      | _ => none)
    | 33 => (match st with
      | (0, x, _) :: st => if x < 0 then k M nx ls st σ else k M a ls st σ
      | _ => none)
    | 34 => (match st with
      | (0, x, _) :: st => if 0 < x then k M a ls st σ else k M nx ls st σ
      | _ => none)
    | 35 => (match st with
      | (0, x, _) :: st => if 0 < x then k M nx ls st σ else k M a ls st σ
      | _ => none)
    | 36 => (match st with
      | (0, y, _) :: (0, x, _) :: st => if x = y then k M a ls st σ else k M nx ls st σ
      | _ => none)
    | 37 => (match st with
      | (0, y, _) :: (0, x, _) :: st => if x = y then k M nx ls st σ else k M a ls st σ
      | _ => none)
    | 38 => (match st with
      | (0, y, _) :: (0, x, _) :: st => if x < y then k M a ls st σ else k M nx ls st σ
      | _ => none)
    | 39 => (match st with
      | (0, y, _) :: (0, x, _) :: st => if x < y then k M nx ls st σ else k M a ls st σ
      | _ => none)
    | 40 => (match st with
      | (0, y, _) :: (0, x, _) :: st => if y < x then k M a ls st σ else k M nx ls st σ
      | _ => none)
    | 41 => (match st with
      | (0, y, _) :: (0, x, _) :: st => if y < x then k M nx ls st σ else k M a ls st σ
      | _ => none)
    | 42 => (match st with
      | (1, _, q) :: st => if q = 0 then k M a ls st σ else k M nx ls st σ
      | _ => none)
    | 43 => (match st with
      | (1, _, q) :: st => if q = 0 then k M nx ls st σ else k M a ls st σ
      | _ => none)
    | 44 => k M a ls st σ
    | 45 => (match st with
      | (0, x, _) :: st => k M (sw ts a x) ls st σ
      | _ => none)
    | 50 => (match st with
      | (1, _, q) :: st => ck (fok σ q b.toNat) (k M nx ls (vI (gt σ q a) :: st) σ)
      | _ => none)
    | 51 => (match st with
      | (1, _, q) :: st => ck (fok σ q b.toNat) (k M nx ls (vR (gr σ q a) :: st) σ)
      | _ => none)
    | 52 => (match st with
      | (0, z, _) :: (1, _, q) :: st => ck (fok σ q b.toNat) (k M nx ls st (sr σ q (ru (gt σ q) a z)))
      | _ => none)
    | 53 => (match st with
      | (1, _, z) :: (1, _, q) :: st => ck (fok σ q b.toNat ∧ 1 ≤ z) (k M nx ls st (rr σ q (ru (gr σ q) a z)))
      | _ => none)
    | 54 => (match st with
      | (1, _, q) :: st => ck (fok σ q 4 ∨ fok σ q 6) (k M nx ls (vI (sk σ q).2 :: st) σ)
      | _ => none)
    | 55 => (match st with
      | (0, j, _) :: (1, _, q) :: st => ck (aok σ q 4 j) (k M nx ls (vI (gt σ q j.toNat) :: st) σ)
      | _ => none)
    | 56 => (match st with
      | (0, z, _) :: (0, j, _) :: (1, _, q) :: st => ck (aok σ q 4 j) (k M nx ls st (sr σ q (ru (gt σ q) j.toNat z)))
      | _ => none)
    | 57 => (match st with
      | (0, j, _) :: (1, _, q) :: st => ck (aok σ q 5 j) (k M nx ls (vI (gt σ q j.toNat) :: st) σ)
      | _ => none)
    | 58 => (match st with
      | (0, z, _) :: (0, j, _) :: (1, _, q) :: st => ck (aok σ q 5 j ∧ (z = 0 ∨ z = 1)) (k M nx ls st (sr σ q (ru (gt σ q) j.toNat z)))
      | _ => none)
    | 59 => (match st with
      | (0, j, _) :: (1, _, q) :: st => ck (aok σ q 6 j) (k M nx ls (vR (gr σ q j.toNat) :: st) σ)
      | _ => none)
    | 60 => (match st with
      | (1, _, z) :: (0, j, _) :: (1, _, q) :: st => ck (aok σ q 6 j ∧ fok σ z 0) (k M nx ls st (rr σ q (ru (gr σ q) j.toNat z)))
      | _ => none)
    | 61 => (match st with
      | (0, z, _) :: st => if 0 ≤ z ∧ z ≤ 1000 then k M nx ls (vR (nn σ + 1) :: st) (al σ 4 z.toNat) else none
      | _ => none)
    | 62 => (match st with
      | (0, z, _) :: st => if 0 ≤ z ∧ z ≤ 1000 then k M nx ls (vR (nn σ + 1) :: st) (al σ 5 z.toNat) else none
      | _ => none)
    | 63 => (match st with
      | (0, z, _) :: st => if 0 ≤ z ∧ z ≤ 1000 then k M nx ls (vR (nn σ + 1) :: st) (al σ 6 z.toNat) else none
      | _ => none)
    | 64 => k M nx ls (vR (nn σ + 1) :: st) (al σ a (cN a))
    | 65 => (match st with
      | (0, j, _) :: (5, _, _) :: st => if 0 ≤ j ∧ j < (sl σ : Int) then k M nx ls (vI (sx σ j.toNat) :: st) σ else none
      | _ => none)
    | 66 => (match st with
      | (5, _, _) :: st => k M nx ls (vI (sl σ) :: st) σ
      | _ => none)
    | 70 => (match st with
      | [(0, z, _)] => some (vI z, σ)
      | _ => none)
    | 71 => (match st with
      | [(0, z, _)] => if z = 0 ∨ z = 1 then some (vI z, σ) else none
      | _ => none)
    | 72 => (match st with
      | [(2, z, _)] => some (vL z, σ)
      | _ => none)
    | 73 => (match st with
      | [] => some (vU, σ)
      | _ => none)
    | 80 => ck ((st.take b.toNat).all (fun t => decide (t.1 ≤ 1)) = true ∧ b.toNat ≤ st.length ∧ st.length - b.toNat ≤ 4) (bnd (k a 0 (pad (st.take b.toNat).reverse (ml a)) [] σ) (fun r σ => k M nx ls (psh r (st.drop b.toNat)) σ))
    | 82 => ck ((st.take (b.toNat + 1)).all (fun t => decide (t.1 ≤ 1)) = true ∧ b.toNat + 1 ≤ st.length ∧ st.length - (b.toNat + 1) ≤ 4 ∧ (lg st b.toNat).1 = 1 ∧ fok σ (lg st b.toNat).2.2 (mo a)) (bnd (k a 0 (pad (st.take (b.toNat + 1)).reverse (ml a)) [] σ) (fun r σ => k M nx ls (psh r (st.drop (b.toNat + 1))) σ))
    | 83 => ck ((st.take (b.toNat + 1)).all (fun t => decide (t.1 ≤ 1)) = true ∧ b.toNat + 1 ≤ st.length ∧ st.length - (b.toNat + 1) ≤ 4 ∧ (lg st b.toNat).1 = 1 ∧ 1 ≤ (lg st b.toNat).2.2) (bnd (k a 0 (pad (st.take (b.toNat + 1)).reverse (ml a)) [] σ) (fun r σ => k M nx ls (psh r (st.drop (b.toNat + 1))) σ))
    | 85 => (match st with
      | (1, _, q) :: st => ck (1 ≤ q ∧ st.length ≤ 4) (k M nx ls st σ)
      | _ => none)
    | 86 => (match st with
      | (0, y, _) :: (0, x, _) :: st => ck (st.length ≤ 4) (k M nx ls (vI (if x < y then y else x) :: st) σ)
      | _ => none)
    | 87 => (match st with
      | (0, y, _) :: (0, x, _) :: st => ck (st.length ≤ 4) (k M nx ls (vI (if y < x then y else x) :: st) σ)
      | _ => none)
    | 88 => (match st with
      | (0, x, _) :: st => ck (st.length ≤ 4) (k M nx ls (vI (if 0 ≤ x then x else wr (-x)) :: st) σ)
      | _ => none)
    | _ => none
/-- with so much fuel -/
noncomputable def ex : Nat → Nat → Nat → List AV → List AV → St → Res
  | 0 => fun _ _ _ _ _ => none
  | n + 1 => fun M pc ls st σ => stp (ex n) (cd M pc) M ls st σ
