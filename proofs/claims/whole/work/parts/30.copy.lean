/-! copies -/
theorem gt_e (σ : St) (q : Nat) (F : Nat → Int) : gt (sr σ q F) q = F := by rw [gt_sr, if_pos rfl]
theorem gt_n (σ : St) {q i : Nat} (F : Nat → Int) (h : i ≠ q) : gt (sr σ q F) i = gt σ i := by rw [gt_sr, if_neg h]
theorem upto_z {n : Nat} {f g : Nat → Int} (hf : zr n f) (hg : zr n g) : upto n f g = f := by
  funext i
  unfold upto
  by_cases h : i < n
  · rw [if_pos h]
  · rw [if_neg h, hf i (by omega), hg i (by omega)]
/-- a bank of whatever contents, its rows empty behind their ends -/
def jb (σ : St) (b : Nat) : Prop := bsh σ b ∧ zr 24 (gt σ (b + 1)) ∧ zr 24 (gt σ (b + 2)) ∧ zr 24 (gt σ (b + 3)) ∧ zr 96 (gt σ (b + 5)) ∧ zr 8 (gt σ (b + 6)) ∧ zr 8 (gt σ (b + 7))
theorem zr_mo {n m : Nat} {f : Nat → Int} (h : zr n f) (hm : n ≤ m) : zr m f := fun i hi => h i (by omega)
theorem dn24 {d : Dat} (h : okd d) : dn_ d ≤ 24 := Nat.le_trans (Nat.mul_le_mul h.1.2.1 h.1.2.2.2) (by decide)
theorem zr_dme {d : Dat} (h : okd d) : zr 24 (dme d) := by
  intro i hi
  have := dn24 h
  unfold dme upto
  rw [if_neg (by unfold dn_ at this; omega)]
theorem rep_jb {σ : St} {b : Nat} {d : Dat} (h : rep σ b d) (ho : okd d) : jb σ b := by
  have h24 := dn24 ho
  obtain ⟨hb, hd, e3, e4, e5, et, el, em, ew, es, en⟩ := h
  unfold jb
  rw [et, el, em, ew, es, en]
  obtain ⟨-, -, -, -, -, -, -, z1, z2, z3, z4, z5, -⟩ := id ho
  exact ⟨hb, zr_mo z1 h24, zr_mo z2 h24, zr_dme ho, z3, z4, z5⟩
set_option maxRecDepth 100000 in
set_option maxHeartbeats 4000000 in
theorem c_copyFog {σ : St} {b q : Nat} (hb : bsh σ b) (hq : bsh σ q) (hap : b + 7 < q ∨ q + 7 < b) : run 29 0 [vR b, vR q] [] σ = some (vU, sr (sr (sr σ (b + 1) (upto 24 (gt σ (q + 1)) (gt σ (b + 1)))) (b + 2) (upto 24 (gt σ (q + 2)) (gt σ (b + 2)))) (b + 3) (upto 24 (gt σ (q + 3)) (gt σ (b + 3)))) := by
  obtain ⟨hf, ⟨r6, r7, r8, r9, r10, r11, r12⟩, i1, i2, i3, i4, i5, i6, i7⟩ := hb
  obtain ⟨hf', ⟨r6', r7', r8', -⟩, j1, j2, j3, -⟩ := hq
  have hq0 : ¬ q = 0 := by have := hf'.1; omega
  have e1 := c_copyRow (σ := σ) (k := q + 1) (q := b + 1) j1 i1 (by omega) (by omega)
  have e2 := fun F => c_copyRow (σ := sr σ (b + 1) F) (k := q + 2) (q := b + 2) j2 i2 (by omega) (by omega)
  have e3 := fun F G => c_copyRow (σ := sr (sr σ (b + 1) F) (b + 2) G) (k := q + 3) (q := b + 3) j3 i3 (by omega) (by omega)
  have n1 : ∀ F, gt (sr σ (b + 1) F) (q + 2) = gt σ (q + 2) := fun F => gt_n _ _ (by omega)
  have n2 : ∀ F, gt (sr σ (b + 1) F) (b + 2) = gt σ (b + 2) := fun F => gt_n _ _ (by omega)
  have n3 : ∀ F G, gt (sr (sr σ (b + 1) F) (b + 2) G) (q + 3) = gt σ (q + 3) := fun F G => by rw [gt_n _ _ (by omega), gt_n _ _ (by omega)]
  have n4 : ∀ F G, gt (sr (sr σ (b + 1) F) (b + 2) G) (b + 3) = gt σ (b + 3) := fun F G => by rw [gt_n _ _ (by omega), gt_n _ _ (by omega)]
  simp only [n1, n2] at e2
  simp only [n3, n4] at e3
  simp (disch := first | assumption | omega | (left; assumption) | (refine aok_mk ?_ ?_ ?_ <;> first | assumption | omega) | (simp only [fok_sr, aok_sr]; first | assumption | omega | (left; assumption) | (refine aok_mk ?_ ?_ ?_ <;> first | assumption | omega)) | (simp; done)) only [e29_0, e29_1, e29_4, e29_5, e29_6, e29_9, e29_10, e29_13, e29_16, e29_17, e29_20, e29_21, e29_24, e29_27, e29_28, e29_31, e29_32, e29_35, e29_38, eq_self, bnd_ok, psh_U, gr_sr, ↓reduceIte, hq0, r6, r7, r8, r6', r7', r8', e1, e2, e3]
  rfl
