/-! cells picked, by codes -/
/-- the picked cells below N whose number's bit a code has, as bits -/
def exB (p : Nat → Bool) (x : Nat) : Nat → Nat
  | 0 => 0
  | c + 1 => exB p x c ||| (if (p c && x.testBit (ctN p c)) = true then 2 ^ c else 0)
theorem exB_bsN (p : Nat → Bool) (x : Nat) : ∀ N, exB p x N = bsN (fun c => p c && x.testBit (ctN p c)) N
  | 0 => rfl
  | N + 1 => by unfold exB bsN; rw [exB_bsN p x N]
theorem exB_lt (p : Nat → Bool) (x N : Nat) : exB p x N < 2 ^ N := by rw [exB_bsN]; exact bsN_lt _ _
theorem exB_tb (p : Nat → Bool) (x N c : Nat) : (exB p x N).testBit c = (decide (c < N) && (p c && x.testBit (ctN p c))) := by rw [exB_bsN, bsN_tb]
theorem ct_lt {p : Nat → Bool} {c N : Nat} (hc : c < N) (hp : p c = true) : ctN p c < ctN p N := by
  have h1 : ctN p (c + 1) = ctN p c + (if p c = true then 1 else 0) := rfl
  rw [hp, if_pos rfl] at h1
  have h2 := (ct_mono p (c + 1) (N - (c + 1))).1
  rw [show c + 1 + (N - (c + 1)) = N by omega] at h2
  omega
/-- a code's high bits don't count -/
theorem exB_mod (p : Nat → Bool) (x : Nat) {N m : Nat} (hm : ctN p N ≤ m) : exB p (x % 2 ^ m) N = exB p x N := by
  refine Nat.eq_of_testBit_eq fun c => ?_
  rw [exB_tb, exB_tb, Nat.testBit_mod_two_pow]
  by_cases hc : c < N
  · cases hp : p c with
    | false => simp
    | true =>
      have := ct_lt hc hp
      rw [decide_eq_true (show ctN p c < m by omega), Bool.true_and]
  · simp [hc]
theorem or_add {a N : Nat} (ha : a < 2 ^ N) : a ||| 2 ^ N = 2 ^ N + a := by
  refine Nat.eq_of_testBit_eq fun i => ?_
  have h := Nat.testBit_two_pow_mul_add 1 ha i
  rw [Nat.mul_one] at h
  rw [h, Nat.testBit_or, Nat.testBit_two_pow]
  by_cases h1 : i < N
  · rw [if_pos h1, decide_eq_false (by omega), Bool.or_false]
  · rw [if_neg h1, Nat.testBit_lt_two_pow (Nat.lt_of_lt_of_le ha (Nat.pow_le_pow_right (by omega) (by omega))), Bool.false_or]
    by_cases h2 : N = i
    · subst h2
      rw [Nat.sub_self]
      simp
    · rw [decide_eq_false h2]
      exact (Nat.testBit_lt_two_pow (show 1 < 2 ^ (i - N) from Nat.one_lt_two_pow (by omega))).symm
/-- greater codes, greater bits -/
theorem exB_mono (p : Nat → Bool) : ∀ (N a b : Nat), a < b → b < 2 ^ ctN p N → exB p a N < exB p b N
  | 0, a, b, h1, h2 => by
    have : ctN p 0 = 0 := rfl
    rw [this] at h2
    omega
  | N + 1, a, b, h1, h2 => by
    have e : ctN p (N + 1) = ctN p N + (if p N = true then 1 else 0) := rfl
    cases hp : p N with
    | false =>
      rw [hp, if_neg Bool.false_ne_true] at e
      have e' : ctN p (N + 1) = ctN p N := by omega
      have e2 : ∀ x, exB p x (N + 1) = exB p x N := fun x => by
        show exB p x N ||| _ = _
        rw [hp, Bool.false_and, if_neg Bool.false_ne_true, Nat.or_zero]
      rw [e2, e2]
      exact exB_mono p N a b h1 (by rw [← e']; exact h2)
    | true =>
      rw [hp, if_pos rfl] at e
      rw [e, Nat.pow_succ] at h2
      have e2 : ∀ x, exB p x (N + 1) = exB p x N ||| (if x.testBit (ctN p N) = true then 2 ^ N else 0) := fun x => by
        show exB p x N ||| _ = _
        rw [hp, Bool.true_and]
      have hbit : ∀ x, x < 2 ^ ctN p N * 2 → x.testBit (ctN p N) = decide (2 ^ ctN p N ≤ x) := fun x hx => by
        by_cases h : 2 ^ ctN p N ≤ x
        · rw [decide_eq_true h]
          have h9 : x = 2 ^ ctN p N * 1 + (x - 2 ^ ctN p N) := by omega
          rw [h9, Nat.testBit_two_pow_mul_add 1 (show x - 2 ^ ctN p N < 2 ^ ctN p N by omega), if_neg (Nat.lt_irrefl _), Nat.sub_self]
          rfl
        · rw [decide_eq_false h]
          exact Nat.testBit_lt_two_pow (by omega)
      have hmod : ∀ x, exB p x N = exB p (x % 2 ^ ctN p N) N := fun x => (exB_mod p x (Nat.le_refl _)).symm
      rw [e2, e2, hbit a (by omega), hbit b h2]
      have la := exB_lt p a N
      have lb := exB_lt p b N
      by_cases ha : 2 ^ ctN p N ≤ a
      · have hb : 2 ^ ctN p N ≤ b := by omega
        rw [decide_eq_true ha, decide_eq_true hb, if_pos rfl, or_add la, or_add lb]
        have ih := exB_mono p N (a - 2 ^ ctN p N) (b - 2 ^ ctN p N) (by omega) (by omega)
        have ma : a % 2 ^ ctN p N = a - 2 ^ ctN p N := by rw [Nat.mod_eq_sub_mod ha, Nat.mod_eq_of_lt (by omega)]
        have mb : b % 2 ^ ctN p N = b - 2 ^ ctN p N := by rw [Nat.mod_eq_sub_mod hb, Nat.mod_eq_of_lt (by omega)]
        rw [hmod a, hmod b, ma, mb]
        omega
      · by_cases hb : 2 ^ ctN p N ≤ b
        · rw [decide_eq_false ha, decide_eq_true hb, if_neg Bool.false_ne_true, if_pos rfl, or_add lb, Nat.or_zero]
          omega
        · rw [decide_eq_false ha, decide_eq_false hb, if_neg Bool.false_ne_true, Nat.or_zero, Nat.or_zero]
          exact exB_mono p N a b h1 (by omega)
/-- as many bits -/
theorem pc_low {x m : Nat} (hx : x < 2 ^ m) (hm : m ≤ 24) : pcN x = smN (bt x) m := by
  unfold pcN
  refine smN_24 hm fun i h1 h2 => ?_
  unfold bt
  rw [Nat.testBit_lt_two_pow (Nat.lt_of_lt_of_le hx (Nat.pow_le_pow_right (by omega) h1))]
  rfl
theorem ex_sum (p : Nat → Bool) (x : Nat) : ∀ N, smN (fun c => if (p c && x.testBit (ctN p c)) = true then 1 else 0) N = smN (bt x) (ctN p N)
  | 0 => rfl
  | N + 1 => by
    have e : ctN p (N + 1) = ctN p N + (if p N = true then 1 else 0) := rfl
    show smN (fun c => if (p c && x.testBit (ctN p c)) = true then 1 else 0) N + (if (p N && x.testBit (ctN p N)) = true then 1 else 0) = _
    rw [ex_sum p x N, e]
    cases hp : p N with
    | false =>
      rw [Bool.false_and, if_neg Bool.false_ne_true, if_neg Bool.false_ne_true, Nat.add_zero, Int.add_zero]
    | true =>
      rw [Bool.true_and, if_pos rfl]
      rfl
theorem pc_ex {p : Nat → Bool} {x N : Nat} (hN : N ≤ 24) (hx : x < 2 ^ ctN p N) (hc : ctN p N ≤ 24) : pcN (exB p x N) = pcN x := by
  rw [pc_low (exB_lt p x N) hN, pc_low hx hc, ← ex_sum]
  refine smN_congr fun i hi => ?_
  unfold bt
  rw [exB_tb, decide_eq_true hi, Bool.true_and]
theorem pc_le {x m : Nat} (hx : x < 2 ^ m) (hm : m ≤ 24) : 0 ≤ pcN x ∧ pcN x ≤ m := by
  rw [pc_low hx hm]
  exact pc_bd x m
/-- the least of sets: by how many, then by bits -/
def lexL (a b : Nat) : Prop := pcN a < pcN b ∨ (pcN a = pcN b ∧ a ≤ b)
def isB (G : Nat → Prop) (R : Int) : Prop := (R = -6 ∧ ∀ B, ¬ G B) ∨ ∃ B : Nat, G B ∧ R = (B : Int) ∧ ∀ B', G B' → lexL B B'
theorem isB_un {G : Nat → Prop} {R S : Int} (h : isB G R) (h2 : isB G S) : R = S := by
  rcases h with ⟨h, hn⟩ | ⟨B, g, e, m⟩
  · rcases h2 with ⟨h2, -⟩ | ⟨B', g', -, -⟩
    · rw [h, h2]
    · exact absurd g' (hn B')
  · rcases h2 with ⟨-, hn⟩ | ⟨B', g', e', m'⟩
    · exact absurd g (hn B)
    · have h1 := m B' g'
      have h2 := m' B g
      unfold lexL at h1 h2
      rw [e, e']
      omega
noncomputable def lsB (G : Nat → Prop) : Int := @dite _ (∃ R, isB G R) (Classical.propDecidable _) (fun h => Classical.choose h) (fun _ => 0)
theorem lsB_eq {G : Nat → Prop} {R : Int} (h : isB G R) : R = lsB G := by
  unfold lsB
  rw [dif_pos ⟨R, h⟩]
  exact isB_un h (Classical.choose_spec (⟨R, h⟩ : ∃ R, isB G R))
/-! numbers of mixed places -/
def prH (h : Nat → Nat) : Nat → Nat
  | 0 => 1
  | i + 1 => prH h i * h i
def enH (h v : Nat → Nat) : Nat → Nat
  | 0 => 0
  | i + 1 => enH h v i + v i * prH h i
theorem prH_dvd (h : Nat → Nat) (i : Nat) : ∀ j, prH h i ∣ prH h (i + j)
  | 0 => Nat.dvd_refl _
  | j + 1 => Nat.dvd_trans (prH_dvd h i j) ⟨h (i + j), rfl⟩
theorem enH_lt {h v : Nat → Nat} : ∀ k, (∀ j, j < k → v j < h j) → enH h v k < prH h k
  | 0, _ => by unfold enH prH; omega
  | k + 1, hv => by
    have ih := enH_lt k (fun j hj => hv j (by omega))
    have h1 := hv k (by omega)
    show enH h v k + v k * prH h k < prH h k * h k
    have h2 : (v k + 1) * prH h k ≤ h k * prH h k := Nat.mul_le_mul_right _ h1
    rw [Nat.add_mul, Nat.one_mul, Nat.mul_comm (h k)] at h2
    omega
theorem enH_mod {h v : Nat → Nat} (i : Nat) (hv : ∀ j, j < i → v j < h j) : ∀ j, enH h v (i + j) % prH h i = enH h v i
  | 0 => Nat.mod_eq_of_lt (enH_lt i hv)
  | j + 1 => by
    have ih := enH_mod i hv j
    obtain ⟨q, hq⟩ := prH_dvd h i j
    show (enH h v (i + j) + v (i + j) * prH h (i + j)) % prH h i = _
    rw [hq, Nat.mul_left_comm, Nat.add_mul_mod_self_left]
    exact ih
theorem enH_dig {h v : Nat → Nat} {k i : Nat} (hi : i < k) (hv : ∀ j, j < k → v j < h j) : enH h v k / prH h i % h i = v i := by
  have h1 := enH_mod (h := h) (v := v) (i + 1) (fun j hj => hv j (by omega)) (k - (i + 1))
  rw [show i + 1 + (k - (i + 1)) = k by omega] at h1
  have h2 : prH h (i + 1) = prH h i * h i := rfl
  rw [h2] at h1
  rw [← Nat.mod_mul_right_div_self, h1]
  have h3 := enH_lt (h := h) (v := v) i (fun j hj => hv j (by omega))
  show (enH h v i + v i * prH h i) / prH h i = v i
  rw [Nat.add_mul_div_right _ _ (by omega), Nat.div_eq_of_lt h3, Nat.zero_add]
