/-! how many bits, by the JDK -/
theorem ush_am : ∀ k : Nat, k < 32 → ((Int32.ofInt (k : Int)).toUInt32 &&& Int32.toUInt32 31).toNat % 32 = k := by decide +kernel
theorem bUsh_N {a k : Nat} (ha : a < 2147483648) (hk : k < 32) : bUsh a k = ((a >>> k : Nat) : Int) := by
  rw [bUsh_def]
  have e : (((Int32.ofInt (a : Int)).toUInt32 >>> ((Int32.ofInt (k : Int)).toUInt32 &&& Int32.toUInt32 31)).toInt32).toBitVec.toNat = a >>> k := by
    show ((Int32.ofInt (a : Int)).toUInt32 >>> ((Int32.ofInt (k : Int)).toUInt32 &&& Int32.toUInt32 31)).toNat = _
    rw [UInt32.toNat_shiftRight, ush_am k hk]
    have h : (Int32.ofInt (a : Int)).toUInt32.toNat = a := bv_N ha
    rw [h]
  rw [bv_I (by rw [e]; exact Nat.lt_of_le_of_lt (Nat.shiftRight_le a k) ha), e]
theorem and_byte (q M : Nat) {r m : Nat} (hr : r < 2 ^ 8) (hm : m < 2 ^ 8) : (2 ^ 8 * q + r) &&& (2 ^ 8 * M + m) = 2 ^ 8 * (q &&& M) + (r &&& m) := by
  refine Nat.eq_of_testBit_eq fun i => ?_
  rw [Nat.testBit_and, Nat.testBit_two_pow_mul_add q hr, Nat.testBit_two_pow_mul_add M hm, Nat.testBit_two_pow_mul_add (q &&& M) (Nat.and_lt_two_pow r hm)]
  split
  · rw [Nat.testBit_and]
  · rw [Nat.testBit_and]
def h1B (r : Nat) : Nat := r - ((r >>> 1) &&& 85)
def h2B (r : Nat) : Nat := (r &&& 51) + ((r >>> 2) &&& 51)
def h3B (r : Nat) : Nat := (r + (r >>> 4)) &&& 15
theorem d1B : ∀ r, r < 256 → ∀ b, b < 2 → (128 * b + r >>> 1) &&& 85 = (r >>> 1) &&& 85 ∧ (r >>> 1) &&& 85 ≤ r := by decide +kernel
theorem d2B : ∀ r, r < 256 → ∀ b, b < 4 → (64 * b + r >>> 2) &&& 51 = (r >>> 2) &&& 51 := by decide +kernel
theorem d3B : ∀ r, r < 69 → ∀ b, b < 5 → (r + (16 * b + r >>> 4)) &&& 15 = (r + (r >>> 4)) &&& 15 := by decide +kernel
theorem d4B : ∀ r, r < 256 → h1B r < 256 ∧ h2B (h1B r) < 69 ∧ h2B (h1B r) % 16 < 5 ∧ h3B (h2B (h1B r)) ≤ 8 ∧ smN (bt r) 8 = ((h3B (h2B (h1B r)) : Nat) : Int) := by decide +kernel
theorem sh_split (q r k : Nat) (hk : k ≤ 8) (hr : r < 2 ^ 8) : (2 ^ 8 * q + r) >>> k = 2 ^ 8 * (q >>> k) + (2 ^ (8 - k) * (q % 2 ^ k) + r >>> k) := by
  rw [Nat.shiftRight_eq_div_pow, Nat.shiftRight_eq_div_pow, Nat.shiftRight_eq_div_pow]
  have h1 : (2 : Nat) ^ 8 = 2 ^ k * 2 ^ (8 - k) := by rw [← Nat.pow_add]; congr 1; omega
  have h2 : 2 ^ 8 * q + r = r + 2 ^ k * (2 ^ (8 - k) * q) := by rw [← Nat.mul_assoc, ← h1]; omega
  have h3 : q = 2 ^ k * (q / 2 ^ k) + q % 2 ^ k := (Nat.div_add_mod q (2 ^ k)).symm
  rw [h2, Nat.add_mul_div_left _ _ (Nat.two_pow_pos k)]
  have h4 : 2 ^ (8 - k) * q = 2 ^ 8 * (q / 2 ^ k) + 2 ^ (8 - k) * (q % 2 ^ k) := by
    conv => lhs; rw [h3]
    rw [Nat.mul_add, ← Nat.mul_assoc, Nat.mul_comm (2 ^ (8 - k)) (2 ^ k), ← h1]
  rw [h4]
  omega
/-- the three steps, a byte off -/
theorem s1B (q M : Nat) {r : Nat} (hr : r < 256) : (256 * q + r) - (((256 * q + r) >>> 1) &&& (256 * M + 85)) = 256 * (q - ((q >>> 1) &&& M)) + h1B r := by
  have hb : q % 2 < 2 := Nat.mod_lt _ (by omega)
  obtain ⟨d1, d2⟩ := d1B r hr (q % 2) hb
  have e1 : (256 * q + r) >>> 1 = 256 * (q >>> 1) + (128 * (q % 2) + r >>> 1) := sh_split q r 1 (by omega) hr
  have hlt : 128 * (q % 2) + r >>> 1 < 2 ^ 8 := by rw [Nat.shiftRight_eq_div_pow]; omega
  have e2 : (256 * (q >>> 1) + (128 * (q % 2) + r >>> 1)) &&& (256 * M + 85) = 256 * ((q >>> 1) &&& M) + ((128 * (q % 2) + r >>> 1) &&& 85) := and_byte (q >>> 1) M hlt (by omega)
  rw [e1, e2, d1]
  have h9 : (q >>> 1) &&& M ≤ q := Nat.le_trans Nat.and_le_left (Nat.shiftRight_le q 1)
  unfold h1B
  omega
theorem s2B (q M : Nat) {r : Nat} (hr : r < 256) : ((256 * q + r) &&& (256 * M + 51)) + (((256 * q + r) >>> 2) &&& (256 * M + 51)) = 256 * ((q &&& M) + ((q >>> 2) &&& M)) + h2B r := by
  have hb : q % 4 < 4 := Nat.mod_lt _ (by omega)
  have d1 := d2B r hr (q % 4) hb
  have e1 : (256 * q + r) >>> 2 = 256 * (q >>> 2) + (64 * (q % 4) + r >>> 2) := sh_split q r 2 (by omega) hr
  have hlt : 64 * (q % 4) + r >>> 2 < 2 ^ 8 := by rw [Nat.shiftRight_eq_div_pow]; omega
  have e2 : (256 * (q >>> 2) + (64 * (q % 4) + r >>> 2)) &&& (256 * M + 51) = 256 * ((q >>> 2) &&& M) + ((64 * (q % 4) + r >>> 2) &&& 51) := and_byte (q >>> 2) M hlt (by omega)
  have e3 : (256 * q + r) &&& (256 * M + 51) = 256 * (q &&& M) + (r &&& 51) := and_byte q M hr (by omega)
  rw [e1, e2, e3, d1]
  unfold h2B
  omega
theorem s3B (q M : Nat) {r : Nat} (hr : r < 69) (hq : q % 16 < 5) : ((256 * q + r) + ((256 * q + r) >>> 4)) &&& (256 * M + 15) = 256 * ((q + q >>> 4) &&& M) + h3B r := by
  have d1 := d3B r hr (q % 16) hq
  have e1 : (256 * q + r) >>> 4 = 256 * (q >>> 4) + (16 * (q % 16) + r >>> 4) := sh_split q r 4 (by omega) (by omega)
  have hlt : r + (16 * (q % 16) + r >>> 4) < 2 ^ 8 := by rw [Nat.shiftRight_eq_div_pow]; omega
  have e0 : 256 * q + r + (256 * (q >>> 4) + (16 * (q % 16) + r >>> 4)) = 256 * (q + q >>> 4) + (r + (16 * (q % 16) + r >>> 4)) := by omega
  have e2 : (256 * (q + q >>> 4) + (r + (16 * (q % 16) + r >>> 4))) &&& (256 * M + 15) = 256 * ((q + q >>> 4) &&& M) + ((r + (16 * (q % 16) + r >>> 4)) &&& 15) := and_byte (q + q >>> 4) M hlt (by omega)
  rw [e1, e0, e2, d1]
  rfl
theorem smN_add (f : Nat → Int) (m : Nat) : ∀ n, smN f (m + n) = smN f m + smN (fun i => f (m + i)) n
  | 0 => by show _ = _ + 0; rw [Int.add_zero]; rfl
  | n + 1 => by
    show smN f (m + n) + f (m + n) = smN f m + (smN (fun i => f (m + i)) n + f (m + n))
    rw [smN_add f m n]
    omega
theorem bt_byte (q : Nat) {r : Nat} (hr : r < 256) (n : Nat) : smN (bt (256 * q + r)) (8 + n) = smN (bt r) 8 + smN (bt q) n := by
  have ht : ∀ j, (256 * q + r).testBit j = if j < 8 then r.testBit j else q.testBit (j - 8) := fun j => Nat.testBit_two_pow_mul_add (i := 8) q hr j
  rw [smN_add]
  congr 1
  · refine smN_congr fun i hi => ?_
    unfold bt
    rw [ht]
    simp only [if_pos hi]
  · refine smN_congr fun i hi => ?_
    unfold bt
    rw [ht]
    simp only [if_neg (show ¬ 8 + i < 8 by omega), show 8 + i - 8 = i by omega]
/-- the whole, for numbers of three bytes -/
theorem bc_whole {x y z : Nat} (hx : x < 256) (hy : y < 256) (hz : z < 256) :
    ∃ i1 i2 i3, (256 * (256 * z + y) + x) - (((256 * (256 * z + y) + x) >>> 1) &&& 1431655765) = i1 ∧ i1 < 16777216 ∧ (i1 &&& 858993459) + ((i1 >>> 2) &&& 858993459) = i2 ∧ i2 < 16777216 ∧ (i2 + i2 >>> 4) &&& 252645135 = i3 ∧ i3 < 16777216 ∧
      (i3 + i3 >>> 8) + (i3 + i3 >>> 8) >>> 16 < 33554432 ∧ ((((i3 + i3 >>> 8) + (i3 + i3 >>> 8) >>> 16) &&& 63 : Nat) : Int) = pcN (256 * (256 * z + y) + x) := by
  obtain ⟨x1, x2, x3, x4, x5⟩ := d4B x hx
  obtain ⟨y1, y2, y3, y4, y5⟩ := d4B y hy
  obtain ⟨z1, z2, z3, z4, z5⟩ := d4B z hz
  have a1 := s1B (256 * z + y) 5592405 hx
  have a2 := s1B z 21845 hy
  have a3 := s1B 0 85 hz
  simp only [Nat.mul_zero, Nat.zero_add, Nat.zero_sub] at a3
  have a3' : z - (z >>> 1 &&& 21845) = h1B z := a3
  rw [a3'] at a2
  have a2' : (256 * z + y) - (((256 * z + y) >>> 1) &&& 5592405) = 256 * h1B z + h1B y := a2
  rw [a2'] at a1
  refine ⟨256 * (256 * h1B z + h1B y) + h1B x, 256 * (256 * h2B (h1B z) + h2B (h1B y)) + h2B (h1B x), 256 * (256 * h3B (h2B (h1B z)) + h3B (h2B (h1B y))) + h3B (h2B (h1B x)), a1, by omega, ?_⟩
  generalize h1B x = u at *
  generalize h1B y = v at *
  generalize h1B z = w at *
  have b1 := s2B (256 * w + v) 3355443 x1
  have b2 := s2B w 13107 y1
  have b3 := s2B 0 51 z1
  simp only [Nat.mul_zero, Nat.zero_add, Nat.zero_and, Nat.zero_shiftRight] at b3
  have b3' : (w &&& 13107) + ((w >>> 2) &&& 13107) = h2B w := b3
  rw [b3'] at b2
  have b2' : ((256 * w + v) &&& 3355443) + (((256 * w + v) >>> 2) &&& 3355443) = 256 * h2B w + h2B v := b2
  rw [b2'] at b1
  refine ⟨b1, by omega, ?_⟩
  generalize h2B u = u2 at *
  generalize h2B v = v2 at *
  generalize h2B w = w2 at *
  have c1 := s3B (256 * w2 + v2) 986895 x2 (by omega)
  have c2 := s3B w2 3855 y2 (by omega)
  have c3 := s3B 0 15 z2 (by omega)
  simp only [Nat.mul_zero, Nat.zero_add, Nat.zero_and, Nat.zero_shiftRight, Nat.add_zero] at c3
  have c3' : (w2 + w2 >>> 4) &&& 3855 = h3B w2 := c3
  rw [c3'] at c2
  have c2' : ((256 * w2 + v2) + (256 * w2 + v2) >>> 4) &&& 986895 = 256 * h3B w2 + h3B v2 := c2
  rw [c2'] at c1
  refine ⟨c1, by omega, ?_⟩
  have hp : pcN (256 * (256 * z + y) + x) = ((h3B u2 : Nat) : Int) + (((h3B v2 : Nat) : Int) + ((h3B w2 : Nat) : Int)) := by
    unfold pcN
    rw [show 24 = 8 + (8 + 8) from rfl, bt_byte _ hx, bt_byte _ hy, x5, y5, z5]
  rw [hp]
  generalize h3B u2 = p at *
  generalize h3B v2 = q at *
  generalize h3B w2 = r at *
  have e1 : (256 * (256 * r + q) + p) >>> 8 = 256 * r + q := by rw [Nat.shiftRight_eq_div_pow]; omega
  rw [e1]
  have e2 : (256 * (256 * r + q) + p + (256 * r + q)) >>> 16 = r := by rw [Nat.shiftRight_eq_div_pow]; omega
  rw [e2]
  refine ⟨by omega, ?_⟩
  rw [show (63 : Nat) = 2 ^ 6 - 1 from rfl, Nat.and_two_pow_sub_one_eq_mod]
  omega
set_option maxRecDepth 100000 in
set_option maxHeartbeats 4000000 in
theorem c_bitCount {a : Nat} (ha : a < 16777216) (σ : St) : run 50 0 [vI (a : Int)] [] σ = some (vI (pcN a), σ) := by
  obtain ⟨i1, i2, i3, e1, l1, e2, l2, e3, l3, l4, e4⟩ := bc_whole (x := a % 256) (y := a / 256 % 256) (z := a / 65536) (by omega) (by omega) (by omega)
  rw [show 256 * (256 * (a / 65536) + a / 256 % 256) + a % 256 = a by omega] at e1 e4
  have b1 : bUsh (a : Int) 1 = ((a >>> 1 : Nat) : Int) := bUsh_N (k := 1) (by omega) (by omega)
  have c1 : a >>> 1 ≤ a := Nat.shiftRight_le a 1
  have b2 : bAnd ((a >>> 1 : Nat) : Int) 1431655765 = ((a >>> 1 &&& 1431655765 : Nat) : Int) := bAnd_N (b := 1431655765) (by omega) (by omega)
  have c2 : a >>> 1 &&& 1431655765 ≤ a := Nat.le_trans Nat.and_le_left c1
  have w1 : wr ((a : Int) - ((a >>> 1 &&& 1431655765 : Nat) : Int)) = (i1 : Int) := by rw [wr_id (by omega) (by omega)]; omega
  have b3 : bAnd (i1 : Int) 858993459 = ((i1 &&& 858993459 : Nat) : Int) := bAnd_N (b := 858993459) (by omega) (by omega)
  have b4 : bUsh (i1 : Int) 2 = ((i1 >>> 2 : Nat) : Int) := bUsh_N (k := 2) (by omega) (by omega)
  have c3 : i1 >>> 2 ≤ i1 := Nat.shiftRight_le i1 2
  have b5 : bAnd ((i1 >>> 2 : Nat) : Int) 858993459 = ((i1 >>> 2 &&& 858993459 : Nat) : Int) := bAnd_N (b := 858993459) (by omega) (by omega)
  have w2 : wr (((i1 &&& 858993459 : Nat) : Int) + ((i1 >>> 2 &&& 858993459 : Nat) : Int)) = (i2 : Int) := by rw [wr_id (by omega) (by omega)]; omega
  have b6 : bUsh (i2 : Int) 4 = ((i2 >>> 4 : Nat) : Int) := bUsh_N (k := 4) (by omega) (by omega)
  have c4 : i2 >>> 4 ≤ i2 := Nat.shiftRight_le i2 4
  have w3 : wr ((i2 : Int) + ((i2 >>> 4 : Nat) : Int)) = ((i2 + i2 >>> 4 : Nat) : Int) := by rw [wr_id (by omega) (by omega)]; omega
  have b7 : bAnd ((i2 + i2 >>> 4 : Nat) : Int) 252645135 = (i3 : Int) := by rw [← e3]; exact bAnd_N (b := 252645135) (by omega) (by omega)
  have b8 : bUsh (i3 : Int) 8 = ((i3 >>> 8 : Nat) : Int) := bUsh_N (k := 8) (by omega) (by omega)
  have c5 : i3 >>> 8 ≤ i3 := Nat.shiftRight_le i3 8
  have w4 : wr ((i3 : Int) + ((i3 >>> 8 : Nat) : Int)) = ((i3 + i3 >>> 8 : Nat) : Int) := by rw [wr_id (by omega) (by omega)]; omega
  have b9 : bUsh ((i3 + i3 >>> 8 : Nat) : Int) 16 = (((i3 + i3 >>> 8) >>> 16 : Nat) : Int) := bUsh_N (k := 16) (by omega) (by omega)
  have w5 : wr (((i3 + i3 >>> 8 : Nat) : Int) + (((i3 + i3 >>> 8) >>> 16 : Nat) : Int)) = (((i3 + i3 >>> 8) + (i3 + i3 >>> 8) >>> 16 : Nat) : Int) := by rw [wr_id (by omega) (by omega)]; omega
  have b10 : bAnd (((i3 + i3 >>> 8) + (i3 + i3 >>> 8) >>> 16 : Nat) : Int) 63 = pcN a := by rw [← e4]; exact bAnd_N (b := 63) (by omega) (by omega)
  simp (disch := first | assumption | omega | (exact shp_fok (by first | assumption | exact shp_sr _ _ (by assumption) | exact shp_sr _ _ (shp_sr _ _ (by assumption)) | exact shp_sr _ _ (shp_sr _ _ (shp_sr _ _ (by assumption)))) (by decide)) | (simp only [fok_sr, aok_sr]; first | assumption | (exact shp_fok (by first | assumption | exact shp_sr _ _ (by assumption) | exact shp_sr _ _ (shp_sr _ _ (by assumption)) | exact shp_sr _ _ (shp_sr _ _ (shp_sr _ _ (by assumption)))) (by decide))) | (refine shp_aok (by first | assumption | exact shp_sr _ _ (by assumption) | exact shp_sr _ _ (shp_sr _ _ (by assumption)) | exact shp_sr _ _ (shp_sr _ _ (shp_sr _ _ (by assumption)))) rfl rfl ?_ ?_ <;> omega) | (exact shp_sr _ _ (by assumption)) | (exact shp_sr _ _ (shp_sr _ _ (by assumption))) | (exact shp_sr _ _ (shp_sr _ _ (shp_sr _ _ (by assumption)))) | (left; assumption) | (exact b2i_or _) | (simp; done)) only [e50_0, e50_1, e50_2, e50_3, e50_4, e50_7, e50_8, e50_9, e50_10, e50_11, e50_14, e50_15, e50_16, e50_17, e50_18, e50_21, e50_22, e50_23, e50_24, e50_25, e50_26, e50_27, e50_28, e50_29, e50_32, e50_33, e50_34, e50_35, e50_36, e50_38, e50_39, e50_40, e50_41, e50_42, e50_43, e50_45, e50_46, e50_47, e50_48, e50_49, e50_51, e50_52, eq_self, ne_a, ne_b, ne_c, Nat.reduceEqDiff, lt0, bnd_ok, psh_I, psh_L, psh_R, psh_U, gt_sr, gr_sr, sk_sr, nn_sr, ↓reduceIte, Int.toNat_natCast, Int.reduceToNat, b1, b2, w1, b3, b4, b5, w2, b6, w3, b7, b8, w4, b9, w5, b10]
