/-! THE WORDS OF ALL THAT FOLLOWS -/
theorem bnd_ok (r : AV) (σ : St) (f : AV → St → Res) : bnd (some (r, σ)) f = f r σ := rfl
theorem psh_I (x : Int) (st : List AV) : psh (vI x) st = vI x :: st := rfl
theorem psh_L (x : Int) (st : List AV) : psh (vL x) st = vL x :: st := rfl
theorem psh_R (x : Nat) (st : List AV) : psh (vR x) st = vR x :: st := rfl
theorem psh_U (st : List AV) : psh vU st = st := rfl
theorem gr_sr (σ : St) (q : Nat) (F : Nat → Int) : gr (sr σ q F) = gr σ := rfl
theorem sk_sr (σ : St) (q : Nat) (F : Nat → Int) : sk (sr σ q F) = sk σ := rfl
theorem nn_sr (σ : St) (q : Nat) (F : Nat → Int) : nn (sr σ q F) = nn σ := rfl
theorem fok_sr (σ : St) (q k kd : Nat) (F : Nat → Int) : fok (sr σ q F) k kd ↔ fok σ k kd := Iff.rfl
theorem aok_sr (σ : St) (q k kd : Nat) (j : Int) (F : Nat → Int) : aok (sr σ q F) k kd j ↔ aok σ k kd j := Iff.rfl
theorem aok_mk {σ : St} {k kd : Nat} {j : Int} (h : fok σ k kd) (h0 : 0 ≤ j) (h1 : j < ((sk σ k).2 : Int)) : aok σ k kd j := ⟨h, h0, h1⟩
theorem wr_id {z : Int} (h1 : -2147483648 ≤ z) (h2 : z < 2147483648) : wr z = z := by
  rw [wr_def]
  exact Int.bmod_eq_of_le (by omega) (by omega)
theorem wr_s {c : Nat} (h : c + 1 < 2147483648) : wr ((c : Int) + 1) = ((c + 1 : Nat) : Int) := wr_id (by omega) (by omega)
/-- an int array of n elements -/
def ia (σ : St) (k n : Nat) : Prop := fok σ k 4 ∧ (sk σ k).2 = n
theorem ia_sr (σ : St) (q k n : Nat) (F : Nat → Int) : ia (sr σ q F) k n ↔ ia σ k n := Iff.rfl
theorem ne_a (b n : Nat) : (b = b + (n + 1)) = False := eq_false (by omega)
theorem ne_b (b n : Nat) : (b + (n + 1) = b) = False := eq_false (by omega)
theorem ne_c (b n m : Nat) : (b + n = b + m) = (n = m) := propext ⟨fun h => by omega, fun h => by omega⟩
theorem lt0 (c : Nat) : ¬ ((c : Int) < 0) := by omega
theorem wr_p {k : Nat} (h : k ≤ 100000) : wr ((k : Int) + 1) = ((k + 1 : Nat) : Int) := wr_id (by omega) (by omega)
theorem wr_q {k : Nat} (h : k ≤ 100000) : wr ((k : Int) + 1) = (k : Int) + 1 := wr_id (by omega) (by omega)
theorem wr_m {k : Nat} (h : k ≤ 100000) : wr ((k : Int) - 1) = (k : Int) - 1 := wr_id (by omega) (by omega)
theorem wr_r {z : Int} (h1 : -1000 ≤ z) (h2 : z ≤ 1000) : wr z = z := wr_id (by omega) (by omega)
