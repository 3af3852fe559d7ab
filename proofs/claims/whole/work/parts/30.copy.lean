/-! copies -/
/-- a loop, from its end -/
theorem bk {P : Nat → Int → Prop} {n : Nat} (hn : P n (n : Int)) (hs : ∀ k : Nat, k < n → (k : Int) < (n : Int) → P (k + 1) ((k : Int) + 1) → P k (k : Int)) : P 0 0 := by
  have key : ∀ m k : Nat, k + m = n → P k (k : Int) := by
    intro m
    induction m with
    | zero => intro k hk; rw [show k = n by omega]; exact hn
    | succ m ih =>
      intro k hk
      have h1 := ih (k + 1) (by omega)
      have e : ((k + 1 : Nat) : Int) = (k : Int) + 1 := by omega
      rw [e] at h1
      exact hs k (by omega) (by omega) h1
  exact key n 0 (by omega)
theorem gt_e (σ : St) (q : Nat) (F : Nat → Int) : gt (sr σ q F) q = F := by rw [gt_sr, if_pos rfl]
theorem gt_n (σ : St) {q i : Nat} (F : Nat → Int) (h : i ≠ q) : gt (sr σ q F) i = gt σ i := by rw [gt_sr, if_neg h]
theorem upto_z {n : Nat} {f g : Nat → Int} (hf : zr n f) (hg : zr n g) : upto n f g = f := by
  funext i
  unfold upto
  by_cases h : i < n
  · rw [if_pos h]
  · rw [if_neg h, hf i (by omega), hg i (by omega)]
/-- a bank of whatever contents, its rows empty behind their ends -/
def jb (σ : St) (b : Nat) : Prop := bsh σ b ∧ zr 24 (gt σ (b + 1)) ∧ zr 24 (gt σ (b + 2)) ∧ zr 24 (gt σ (b + 3)) ∧ zr 96 (gt σ (b + 5)) ∧ zr 8 (gt σ (b + 6)) ∧ zr 8 (gt σ (b + 7))
theorem zr_mo {n m : Nat} {f : Nat → Int} (h : zr n f) (hm : n ≤ m) : zr m f := fun i hi => h i (by omega)
theorem dn24 {d : Dat} (h : okd d) : dn_ d ≤ 24 := Nat.le_trans (Nat.mul_le_mul h.1.2.1 h.1.2.2.2) (by decide)
theorem zr_dme {d : Dat} (h : okd d) : zr 24 (dme d) := by
  intro i hi
  have := dn24 h
  unfold dme upto
  rw [if_neg (by unfold dn_ at this; omega)]
theorem rep_jb {σ : St} {b : Nat} {d : Dat} (h : rep σ b d) (ho : okd d) : jb σ b := by
  have h24 := dn24 ho
  obtain ⟨hb, hd, e3, e4, e5, et, el, em, ew, es, en⟩ := h
  unfold jb
  rw [et, el, em, ew, es, en]
  obtain ⟨-, -, -, -, -, -, -, z1, z2, z3, z4, z5, -⟩ := id ho
  exact ⟨hb, zr_mo z1 h24, zr_mo z2 h24, zr_dme ho, z3, z4, z5⟩
set_option maxRecDepth 100000 in
set_option maxHeartbeats 4000000 in
theorem c_copyRowZ {σ : St} {k q n : Nat} (h : ia σ k n) (h2 : ia σ q n) (hkq : k ≠ q) (hn : n ≤ 1000) (z1 : zr n (gt σ k)) (z2 : zr n (gt σ q)) : run 28 0 [vR k, vR q, vU] [] σ = some (vU, sr σ q (gt σ k)) := by
  have h1 := c_copyRow h h2 hkq hn
  have h3 : (fun i => if i < n then gt σ k i else gt σ q i) = gt σ k := upto_z z1 z2
  rw [h3] at h1
  exact h1
set_option maxRecDepth 100000 in
set_option maxHeartbeats 4000000 in
theorem c_copyFog {σ : St} {b q : Nat} (hb : jb σ b) (hq : jb σ q) (hap : b + 7 < q ∨ q + 7 < b) : run 29 0 [vR b, vR q] [] σ = some (vU, sr (sr (sr σ (b + 1) (gt σ (q + 1))) (b + 2) (gt σ (q + 2))) (b + 3) (gt σ (q + 3))) := by
  obtain ⟨hb, y1, y2, y3, -⟩ := hb
  obtain ⟨hq, z1, z2, z3, -⟩ := hq
  obtain ⟨hf, ⟨r6, r7, r8, r9, r10, r11, r12⟩, i1, i2, i3, i4, i5, i6, i7⟩ := hb
  obtain ⟨hf', ⟨r6', r7', r8', -⟩, j1, j2, j3, -⟩ := hq
  have hq0 : ¬ q = 0 := by have := hf'.1; omega
  have e1 := c_copyRowZ (σ := σ) (k := q + 1) (q := b + 1) j1 i1 (by omega) (by omega) z1 y1
  have e2 := fun F => c_copyRowZ (σ := sr σ (b + 1) F) (k := q + 2) (q := b + 2) j2 i2 (by omega) (by omega)
  have e3 := fun F G => c_copyRowZ (σ := sr (sr σ (b + 1) F) (b + 2) G) (k := q + 3) (q := b + 3) j3 i3 (by omega) (by omega)
  have n1 : ∀ F, gt (sr σ (b + 1) F) (q + 2) = gt σ (q + 2) := fun F => gt_n _ _ (by omega)
  have n2 : ∀ F, gt (sr σ (b + 1) F) (b + 2) = gt σ (b + 2) := fun F => gt_n _ _ (by omega)
  have n3 : ∀ F G, gt (sr (sr σ (b + 1) F) (b + 2) G) (q + 3) = gt σ (q + 3) := fun F G => by rw [gt_n _ _ (by omega), gt_n _ _ (by omega)]
  have n4 : ∀ F G, gt (sr (sr σ (b + 1) F) (b + 2) G) (b + 3) = gt σ (b + 3) := fun F G => by rw [gt_n _ _ (by omega), gt_n _ _ (by omega)]
  simp only [n1, n2] at e2
  simp only [n3, n4] at e3
  simp (disch := first | assumption | omega | (left; assumption) | (refine aok_mk ?_ ?_ ?_ <;> first | assumption | omega) | (simp only [fok_sr, aok_sr]; first | assumption | omega | (left; assumption) | (refine aok_mk ?_ ?_ ?_ <;> first | assumption | omega)) | (simp; done)) only [e29_0, e29_1, e29_4, e29_5, e29_6, e29_9, e29_10, e29_13, e29_16, e29_17, e29_20, e29_21, e29_24, e29_27, e29_28, e29_31, e29_32, e29_35, e29_38, eq_self, bnd_ok, psh_U, gr_sr, ↓reduceIte, hq0, r6, r7, r8, r6', r7', r8', e1, e2, e3]
/-- fog and lamps anew -/
def fog (d : Dat) (t la : Nat → Int) : Dat := (dR d, dC d, dfe d, dsl d, dsi d, t, la, dwa d, dsc d, dsn d)
theorem fog_fog (d : Dat) (t la t2 la2 : Nat → Int) : fog (fog d t la) t2 la2 = fog d t2 la2 := rfl
theorem fog_self (d : Dat) : fog d (dt d) (dla d) = d := rfl
set_option maxRecDepth 100000 in
set_option maxHeartbeats 4000000 in
theorem c_copyFogR {σ : St} {b q : Nat} {d : Dat} {t la : Nat → Int} (hb : rep σ b d) (ho : okd d) (hq : rep σ q (fog d t la)) (ho2 : okd (fog d t la)) (hap : b + 7 < q ∨ q + 7 < b) : ∃ σ', run 29 0 [vR b, vR q] [] σ = some (vU, σ') ∧ chg [b + 1, b + 2, b + 3] σ σ' ∧ rep σ' b (fog d t la) := by
  have e := c_copyFog (rep_jb hb ho) (rep_jb hq ho2) hap
  refine ⟨_, e, chg_sr (chg_sr (chg_sr (chg_rf _ _) (by simp)) (by simp)) (by simp), ?_⟩
  obtain ⟨hbb, hd, e3, e4, e5, et, el, em, ew, es, en⟩ := hb
  obtain ⟨-, -, -, -, -, et', el', em', -⟩ := hq
  refine ⟨hbb, dim_sr (dim_sr (dim_sr hd (by omega)) (by omega)) (by omega), ?_⟩
  simp only [gt_sr, ne_a, ne_b, ne_c, ↓reduceIte, Nat.reduceEqDiff]
  exact ⟨e3, e4, e5, et', el', em', ew, es, en⟩
set_option maxRecDepth 100000 in
set_option maxHeartbeats 8000000 in
set_option maxRecDepth 100000 in
set_option maxHeartbeats 4000000 in
theorem c_copyAll {σ : St} {b q : Nat} {d : Dat} (hb : jb σ b) (hr : rep σ q d) (ho : okd d) (hap : b + 7 < q ∨ q + 7 < b) : ∃ σ', run 27 0 [vR b, vR q] [] σ = some (vU, σ') ∧ chg [b, b + 1, b + 2, b + 3, b + 5, b + 6, b + 7] σ σ' ∧ rep σ' b d := by
  have hjq := rep_jb hr ho
  obtain ⟨hq, hd, t3, t4, t5, et, el, em, ew, es, en⟩ := hr
  obtain ⟨-, zt', zl', zm', zw', zs', zn'⟩ := id hjq
  obtain ⟨hb0, zt, zl, zm, zw, zs, zn⟩ := id hb
  obtain ⟨hf, ⟨r6, r7, r8, r9, r10, r11, r12⟩, i1, i2, i3, i4, i5, i6, i7⟩ := id hb0
  obtain ⟨hf', ⟨r6', r7', r8', r9', r10', r11', r12'⟩, j1, j2, j3, j4, j5, j6, j7⟩ := id hq
  have hq0 : ¬ q = 0 := by have := hf'.1; omega
  have hqb : ¬ q = b := by omega
  generalize hG : ru (ru (ru (ru (ru (ru (gt σ b) 0 (gt σ q 0)) 1 (gt σ q 1)) 2 (gt σ q 2)) 3 (gt σ q 3)) 4 (gt σ q 4)) 5 (gt σ q 5) = G
  generalize h1 : sr σ b G = σ1
  generalize h2 : sr σ1 (b + 5) (gt σ (q + 5)) = σ2
  generalize h3 : sr σ2 (b + 6) (gt σ (q + 6)) = σ3
  generalize h4 : sr σ3 (b + 7) (gt σ (q + 7)) = σ4
  have c1 : chg [b] σ σ1 := h1 ▸ chg_sr (chg_rf _ _) (by simp)
  have c2 : chg [b, b + 5] σ σ2 := h2 ▸ chg_sr (chg_mo c1 (by simp)) (by simp)
  have c3 : chg [b, b + 5, b + 6] σ σ3 := h3 ▸ chg_sr (chg_mo c2 (by simp)) (by simp)
  have c4 : chg [b, b + 5, b + 6, b + 7] σ σ4 := h4 ▸ chg_sr (chg_mo c3 (by simp)) (by simp)
  have g1 : ∀ k, k ≠ b → gt σ1 k = gt σ k := fun k hk => c1.2.2.2.2.2.2 k (by simpa using hk)
  have g2 : ∀ k, k ≠ b → k ≠ b + 5 → gt σ2 k = gt σ k := fun k hk hk2 => c2.2.2.2.2.2.2 k (by simp; omega)
  have g3 : ∀ k, k ≠ b → k ≠ b + 5 → k ≠ b + 6 → gt σ3 k = gt σ k := fun k hk hk2 hk3 => c3.2.2.2.2.2.2 k (by simp; omega)
  have g4 : ∀ k, k ≠ b → k ≠ b + 5 → k ≠ b + 6 → k ≠ b + 7 → gt σ4 k = gt σ k := fun k hk hk2 hk3 hk4 => c4.2.2.2.2.2.2 k (by simp; omega)
  have e1 : run 28 0 [vR (q + 5), vR (b + 5), vU] [] σ1 = some (vU, σ2) := by
    rw [c_copyRowZ (σ := σ1) (k := q + 5) (q := b + 5) (ia_chg c1 j5) (ia_chg c1 i5) (by omega) (by omega) (by rw [g1 _ (by omega)]; exact zw') (by rw [g1 _ (by omega)]; exact zw), g1 _ (by omega), h2]
  have e2 : run 28 0 [vR (q + 6), vR (b + 6), vU] [] σ2 = some (vU, σ3) := by
    rw [c_copyRowZ (σ := σ2) (k := q + 6) (q := b + 6) (ia_chg c2 j6) (ia_chg c2 i6) (by omega) (by omega) (by rw [g2 _ (by omega) (by omega)]; exact zs') (by rw [g2 _ (by omega) (by omega)]; exact zs), g2 _ (by omega) (by omega), h3]
  have e3 : run 28 0 [vR (q + 7), vR (b + 7), vU] [] σ3 = some (vU, σ4) := by
    rw [c_copyRowZ (σ := σ3) (k := q + 7) (q := b + 7) (ia_chg c3 j7) (ia_chg c3 i7) (by omega) (by omega) (by rw [g3 _ (by omega) (by omega) (by omega)]; exact zn') (by rw [g3 _ (by omega) (by omega) (by omega)]; exact zn), g3 _ (by omega) (by omega) (by omega), h4]
  have e4 := c_copyFog (σ := σ4) (b := b) (q := q) ⟨bsh_chg c4 hb0, by rw [g4 _ (by omega) (by omega) (by omega) (by omega)]; exact zt, by rw [g4 _ (by omega) (by omega) (by omega) (by omega)]; exact zl, by rw [g4 _ (by omega) (by omega) (by omega) (by omega)]; exact zm, by rw [← h4, gt_n _ _ (by omega), ← h3, gt_n _ _ (by omega), ← h2, gt_e]; exact zw', by rw [← h4, gt_n _ _ (by omega), ← h3, gt_e]; exact zs', by rw [← h4, gt_e]; exact zn'⟩
    ⟨bsh_chg c4 hq, by rw [g4 _ (by omega) (by omega) (by omega) (by omega)]; exact zt', by rw [g4 _ (by omega) (by omega) (by omega) (by omega)]; exact zl', by rw [g4 _ (by omega) (by omega) (by omega) (by omega)]; exact zm', by rw [g4 _ (by omega) (by omega) (by omega) (by omega)]; exact zw', by rw [g4 _ (by omega) (by omega) (by omega) (by omega)]; exact zs', by rw [g4 _ (by omega) (by omega) (by omega) (by omega)]; exact zn'⟩ hap
  rw [g4 (q + 1) (by omega) (by omega) (by omega) (by omega), g4 (q + 2) (by omega) (by omega) (by omega) (by omega), g4 (q + 3) (by omega) (by omega) (by omega) (by omega)] at e4
  have hgr : gr σ1 = gr σ := c1.2.2.2.1
  have ka1 := fok_chg c1 hf
  have ka2 := fok_chg c2 hf
  have ka3 := fok_chg c3 hf
  have ka4 := fok_chg c4 hf
  have kq1 := fok_chg c1 hf'
  have kq2 := fok_chg c2 hf'
  have kq3 := fok_chg c3 hf'
  have kq4 := fok_chg c4 hf'
  have hgr2 : gr σ2 = gr σ := c2.2.2.2.1
  have hgr3 : gr σ3 = gr σ := c3.2.2.2.1
  refine ⟨sr (sr (sr σ4 (b + 1) (gt σ (q + 1))) (b + 2) (gt σ (q + 2))) (b + 3) (gt σ (q + 3)), ?_, chg_sr (chg_sr (chg_sr (chg_mo c4 (by simp)) (by simp)) (by simp)) (by simp), ?_⟩
  · simp (disch := first | assumption | omega | (left; assumption) | (refine aok_mk ?_ ?_ ?_ <;> first | assumption | omega) | (simp only [fok_sr, aok_sr]; first | assumption | omega | (left; assumption) | (refine aok_mk ?_ ?_ ?_ <;> first | assumption | omega)) | (simp; done)) only [e27_0, e27_1, e27_4, e27_5, e27_6, e27_7, e27_10, e27_13, e27_14, e27_15, e27_18, e27_21, e27_22, e27_23, e27_26, e27_29, e27_30, e27_31, e27_34, e27_37, e27_38, e27_39, e27_42, e27_45, e27_46, e27_47, e27_50, e27_53, e27_54, e27_57, e27_58, e27_61, e27_64, e27_65, e27_68, e27_69, e27_72, e27_75, e27_76, e27_79, e27_80, e27_83, e27_86, e27_87, e27_88, e27_91, eq_self, bnd_ok, psh_U, gr_sr, gt_sr, sr_sr, ru_ru, ↓reduceIte, hq0, hqb, r10, r11, r12, r10', r11', r12', hG, h1, hgr, hgr2, hgr3, e1, e2, e3, e4]
  · have hbG : gt σ4 b = G := by rw [← h4, gt_n _ _ (by omega), ← h3, gt_n _ _ (by omega), ← h2, gt_n _ _ (by omega), ← h1, gt_e]
    have G0 : G 0 = gt σ q 0 := by rw [← hG]; simp [ru]
    have G1 : G 1 = gt σ q 1 := by rw [← hG]; simp [ru]
    have G2 : G 2 = gt σ q 2 := by rw [← hG]; simp [ru]
    have G3 : G 3 = gt σ q 3 := by rw [← hG]; simp [ru]
    have G4 : G 4 = gt σ q 4 := by rw [← hG]; simp [ru]
    have G5 : G 5 = gt σ q 5 := by rw [← hG]; simp [ru]
    have w5 : gt σ4 (b + 5) = gt σ (q + 5) := by rw [← h4, gt_n _ _ (by omega), ← h3, gt_n _ _ (by omega), ← h2, gt_e]
    have w6 : gt σ4 (b + 6) = gt σ (q + 6) := by rw [← h4, gt_n _ _ (by omega), ← h3, gt_e]
    have w7 : gt σ4 (b + 7) = gt σ (q + 7) := by rw [← h4, gt_e]
    obtain ⟨d0, d1, d2, d3⟩ := hd
    refine ⟨(show bsh σ4 b from bsh_chg c4 hb0), dim_sr (dim_sr (dim_sr ⟨?_, ?_, ?_, d3⟩ (by omega)) (by omega)) (by omega), ?_⟩
    · rw [hbG, G0, d0]
    · rw [hbG, G1, d1]
    · rw [hbG, G2, d2]
    · simp only [gt_sr, ne_a, ne_b, ne_c, ↓reduceIte, Nat.reduceEqDiff, hbG, w5, w6, w7, G3, G4, G5]
      exact ⟨t3, t4, t5, et, el, em, ew, es, en⟩
