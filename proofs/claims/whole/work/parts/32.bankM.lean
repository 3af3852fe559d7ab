/-! a bank made, cleared, changed -/
theorem gt_al (σ : St) (kd sz i : Nat) : gt (al σ kd sz) i = if i = nn σ + 1 then (fun _ => 0) else gt σ i := rfl
theorem gr_al (σ : St) (kd sz i : Nat) : gr (al σ kd sz) i = if i = nn σ + 1 then (fun _ => 0) else gr σ i := rfl
theorem sk_al (σ : St) (kd sz i : Nat) : sk (al σ kd sz) i = if i = nn σ + 1 then (kd, sz) else sk σ i := rfl
theorem nn_al (σ : St) (kd sz : Nat) : nn (al σ kd sz) = nn σ + 1 := rfl
theorem nt_al (σ : St) (kd sz : Nat) : nt (al σ kd sz) = nt σ + sz := rfl
theorem gt_rr (σ : St) (k : Nat) (f : Nat → Nat) : gt (rr σ k f) = gt σ := rfl
theorem sk_rr (σ : St) (k : Nat) (f : Nat → Nat) : sk (rr σ k f) = sk σ := rfl
theorem nn_rr (σ : St) (k : Nat) (f : Nat → Nat) : nn (rr σ k f) = nn σ := rfl
theorem nt_rr (σ : St) (k : Nat) (f : Nat → Nat) : nt (rr σ k f) = nt σ := rfl
theorem nt_sr (σ : St) (k : Nat) (f : Nat → Int) : nt (sr σ k f) = nt σ := rfl
theorem ru_e {α : Type} (f : Nat → α) (k : Nat) (v : α) : ru f k v k = v := by unfold ru; rw [if_pos rfl]
theorem ru_n {α : Type} (f : Nat → α) {k i : Nat} (v : α) (h : i ≠ k) : ru f k v i = f i := by unfold ru; rw [if_neg h]
theorem fok_al {σ : St} {kd sz k c : Nat} (h : fok σ k c) : fok (al σ kd sz) k c := by
  obtain ⟨h1, h2, h3⟩ := h
  refine ⟨h1, by rw [nn_al]; omega, ?_⟩
  rw [sk_al, if_neg (by omega)]
  exact h3
theorem fok_rr (σ : St) (q k kd : Nat) (F : Nat → Nat) : fok (rr σ q F) k kd ↔ fok σ k kd := Iff.rfl
def z0 : Nat → Int := fun _ => 0
def wm1 : Nat → Int := upto 96 (fun _ => -1) z0
theorem zr_z0 (n : Nat) : zr n z0 := fun _ _ => rfl
/-- an empty bank -/
def nw (R C : Nat) (sc sn : Nat → Int) : Dat := (R, C, 2, 1, 0, z0, z0, wm1, sc, sn)
theorem lv_z0 (j : Int) : lv z0 j = 0 := by unfold lv z0; split <;> rfl
theorem mlt_z0 (R C c : Nat) : mlt R C z0 c = 0 := by
  unfold mlt mrk nea
  simp only [lv_z0]
  unfold z0
  rfl
theorem dme_nw (R C : Nat) (sc sn : Nat → Int) : dme (nw R C sc sn) = z0 := by
  funext i
  show upto (R * C) (mlt R C z0) (fun _ => 0) i = 0
  unfold upto
  rw [mlt_z0]
  split <;> rfl
theorem ok_nw {R C : Nat} (h : 1 ≤ R ∧ R ≤ 4 ∧ 1 ≤ C ∧ C ≤ 6) {sc sn : Nat → Int} (z1 : zr 8 sc) (z2 : zr 8 sn) : okd (nw R C sc sn) := by
  refine ⟨h, (show (1 : Int) ≤ 2 ∧ (2 : Int) ≤ 5 by decide), (show (0 : Int) ≤ 1 ∧ (1 : Int) ≤ 3 by decide), Nat.zero_le _, fun c _ => (show (0 : Int) ≤ 0 ∧ (0 : Int) ≤ 9 by decide), fun c _ => Or.inl rfl, ?_, zr_z0 _, zr_z0 _, ?_, z1, z2, ?_, fun i hi => absurd hi (Nat.not_lt_zero i)⟩
  · intro i hi
    show -1 ≤ wm1 i ∧ wm1 i ≤ 9
    unfold wm1 upto
    rw [if_pos hi]
    exact (show (-1 : Int) ≤ -1 ∧ (-1 : Int) ≤ 9 by decide)
  · intro i hi
    show wm1 i = 0
    unfold wm1 upto
    rw [if_neg (by omega)]
    rfl
  · intro s c hs _ hc
    show wm1 (s * 24 + c) = -1
    unfold wm1 upto
    rw [if_pos (by omega)]
set_option maxRecDepth 100000 in
set_option maxHeartbeats 4000000 in
theorem c_fillZ {σ : St} {k n : Nat} (h : ia σ k n) (hn : n ≤ 1000) (v : Int) (z1 : zr n (gt σ k)) : run 3 0 [vR k, vI v, vU] [] σ = some (vU, sr σ k (upto n (fun _ => v) z0)) := by
  have h1 := c_fill h hn v
  have h3 : (fun i => if i < n then v else gt σ k i) = upto n (fun _ => v) z0 := by
    funext i
    unfold upto
    by_cases h : i < n
    · rw [if_pos h, if_pos h]
    · rw [if_neg h, if_neg h, z1 i (by omega)]
      rfl
  rw [h3] at h1
  exact h1
theorem upto_z0 (n : Nat) : upto n (fun _ => 0) z0 = z0 := upto_z (zr_z0 n) (zr_z0 n)
set_option maxRecDepth 100000 in
set_option maxHeartbeats 4000000 in
theorem c_clear {σ : St} {b R C : Nat} (hb : jb σ b) (hd : 1 ≤ R ∧ R ≤ 4 ∧ 1 ≤ C ∧ C ≤ 6) : ∃ σ', run 2 0 [vR b, vI (R : Int), vI (C : Int)] [] σ = some (vU, σ') ∧ chg [b, b + 1, b + 2, b + 3, b + 5] σ σ' ∧ rep σ' b (nw R C (gt σ (b + 6)) (gt σ (b + 7))) := by
  obtain ⟨hbb, y1, y2, y3, y5, y6, y7⟩ := hb
  obtain ⟨hf, ⟨r6, r7, r8, r9, r10, r11, r12⟩, i1, i2, i3, i4, i5, i6, i7⟩ := id hbb
  have hRC : R * C ≤ 24 := Nat.le_trans (Nat.mul_le_mul hd.2.1 hd.2.2.2) (by decide)
  have w1 : wr ((R : Int) * (C : Int)) = ((R * C : Nat) : Int) := by rw [← Int.natCast_mul]; exact wr_id (by omega) (by omega)
  generalize hG : ru (ru (ru (ru (ru (ru (gt σ b) 0 (R : Int)) 1 (C : Int)) 2 ((R * C : Nat) : Int)) 3 2) 4 1) 5 0 = G
  have f1 := c_fillZ (σ := sr σ b G) (k := b + 1) i1 (by omega) 0 (by rw [gt_n _ _ (by omega)]; exact y1)
  have f2 := fun F => c_fillZ (σ := sr (sr σ b G) (b + 1) F) (k := b + 2) i2 (by omega) 0 (by rw [gt_n _ _ (by omega), gt_n _ _ (by omega)]; exact y2)
  have f3 := fun F F2 => c_fillZ (σ := sr (sr (sr σ b G) (b + 1) F) (b + 2) F2) (k := b + 3) i3 (by omega) 0 (by rw [gt_n _ _ (by omega), gt_n _ _ (by omega), gt_n _ _ (by omega)]; exact y3)
  have f4 := fun F F2 F3 => c_fillZ (σ := sr (sr (sr (sr σ b G) (b + 1) F) (b + 2) F2) (b + 3) F3) (k := b + 5) i5 (by omega) (-1) (by rw [gt_n _ _ (by omega), gt_n _ _ (by omega), gt_n _ _ (by omega), gt_n _ _ (by omega)]; exact y5)
  simp only [upto_z0] at f1 f2 f3
  refine ⟨sr (sr (sr (sr (sr σ b G) (b + 1) z0) (b + 2) z0) (b + 3) z0) (b + 5) wm1, ?_, chg_sr (chg_sr (chg_sr (chg_sr (chg_sr (chg_rf _ _) (by simp)) (by simp)) (by simp)) (by simp)) (by simp), hbb, ?_, ?_⟩
  · simp (disch := first | assumption | omega | (left; assumption) | (refine aok_mk ?_ ?_ ?_ <;> first | assumption | omega) | (simp only [fok_sr, aok_sr]; first | assumption | omega | (left; assumption) | (refine aok_mk ?_ ?_ ?_ <;> first | assumption | omega)) | (simp; done)) only [e2_0, e2_1, e2_2, e2_5, e2_6, e2_7, e2_10, e2_11, e2_12, e2_13, e2_14, e2_17, e2_18, e2_19, e2_22, e2_23, e2_24, e2_27, e2_28, e2_29, e2_32, e2_33, e2_36, e2_37, e2_40, e2_41, e2_44, e2_45, e2_48, e2_49, e2_52, e2_53, e2_56, e2_57, e2_60, e2_61, e2_64, eq_self, bnd_ok, psh_U, gr_sr, gt_sr, sr_sr, ↓reduceIte, r6, r7, r8, r10, w1, hG, f1, f2, f3, f4]
    rfl
  · refine dim_sr (dim_sr (dim_sr (dim_sr ?_ (by omega)) (by omega)) (by omega)) (by omega)
    unfold dim
    rw [gt_e, ← hG]
    exact ⟨by simp [ru]; rfl, by simp [ru]; rfl, by simp [ru]; rfl, hd⟩
  · have G3 : G 3 = 2 := by rw [← hG]; simp [ru]
    have G4 : G 4 = 1 := by rw [← hG]; simp [ru]
    have G5 : G 5 = 0 := by rw [← hG]; simp [ru]
    simp only [gt_sr, ne_a, ne_b, ne_c, ↓reduceIte, Nat.reduceEqDiff, G3, G4, G5, dme_nw]
    refine ⟨?_, ?_, ?_, ?_, ?_, ?_, ?_, ?_, ?_⟩ <;> first | trivial | rfl
/-- what a part does to a bank -/
def acT (d : Dat) (c : Nat) (g : Int) : Nat → Int := if g = 42 then dt d else if g = 43 then ru (dt d) c (mi9 (dt d c + 1)) else ru (dt d) c (if dt d c < g - 48 then dt d c else g - 48)
def acL (d : Dat) (c : Nat) (g : Int) : Nat → Int := if g = 42 then ru (dla d) c (1 - dla d c) else dla d
def acR (d : Dat) (c : Nat) (g : Int) : Int := if g = 42 then 0 else if g = 43 then (if 9 ≤ dt d c then 2 else 0) else (if dt d c ≤ g - 48 then 1 else 0)
def actD (d : Dat) (c : Nat) (g : Int) : Dat := fog d (acT d c g) (acL d c g)
theorem upto_upto (n : Nat) (f g h : Nat → Int) : upto n f (upto n g h) = upto n f h := by
  funext i
  unfold upto
  split <;> rfl
theorem ok_fog {d : Dat} (h : okd d) {t la : Nat → Int} (ht : tk t) (hl : lam la) (zt : zr (dn_ d) t) (zl : zr (dn_ d) la) : okd (fog d t la) :=
  ⟨h.1, h.2.1, h.2.2.1, h.2.2.2.1, ht, hl, h.2.2.2.2.2.2.1, zt, zl, h.2.2.2.2.2.2.2.2.2⟩
theorem zr_ru {n c : Nat} {f : Nat → Int} (h : zr n f) (hc : c < n) (v : Int) : zr n (ru f c v) := by
  intro i hi
  rw [ru_n _ _ (by omega)]
  exact h i hi
theorem tk_ru {c : Nat} {f : Nat → Int} (h : tk f) {v : Int} (hv : 0 ≤ v ∧ v ≤ 9) : tk (ru f c v) := by
  intro i hi
  unfold ru
  split
  · exact hv
  · exact h i hi
theorem lam_ru {c : Nat} {f : Nat → Int} (h : lam f) {v : Int} (hv : v = 0 ∨ v = 1) : lam (ru f c v) := by
  intro i hi
  unfold ru
  split
  · exact hv
  · exact h i hi
theorem ok_zt {d : Dat} (h : okd d) : zr (dn_ d) (dt d) := h.2.2.2.2.2.2.2.1
theorem ok_zl {d : Dat} (h : okd d) : zr (dn_ d) (dla d) := h.2.2.2.2.2.2.2.2.1
theorem rep_t {σ : St} {b : Nat} {d : Dat} (hr : rep σ b d) (t : Nat → Int) : rep (sr σ (b + 1) t) b (fog d t (dla d)) := by
  obtain ⟨hb, hd, e3, e4, e5, et, el, em, ew, es, en⟩ := hr
  refine ⟨hb, dim_sr hd (by omega), ?_⟩
  simp only [gt_sr, ne_a, ne_b, ne_c, ↓reduceIte, Nat.reduceEqDiff]
  exact ⟨e3, e4, e5, rfl, el, em, ew, es, en⟩
set_option maxRecDepth 100000 in
set_option maxHeartbeats 4000000 in
theorem c_lightR {σ : St} {b c : Nat} {d : Dat} (hr : rep σ b d) (ho : okd d) (hc : c < 24) {v : Int} (hv : v = 0 ∨ v = 1) : ∃ σ', run 12 0 [vR b, vI (c : Int), vI v] [] σ = some (vU, σ') ∧ chg [b + 2, b + 3] σ σ' ∧ rep σ' b (fog d (dt d) (ru (dla d) c v)) := by
  obtain ⟨hb, hd, e3, e4, e5, et, el, em, ew, es, en⟩ := hr
  have e := c_light hb hd (by rw [el]; exact ok_l ho) hc hv
  rw [el, em] at e
  refine ⟨_, e, chg_sr (chg_sr (chg_rf _ _) (by simp)) (by simp), hb, dim_sr (dim_sr hd (by omega)) (by omega), ?_⟩
  simp only [gt_sr, ne_a, ne_b, ne_c, ↓reduceIte, Nat.reduceEqDiff]
  refine ⟨e3, e4, e5, et, rfl, ?_, ew, es, en⟩
  unfold dme
  rw [upto_upto]
  rfl
theorem ok_act {d : Dat} (h : okd d) {c : Nat} (hc : c < dn_ d) {g : Int} (hg : g = 42 ∨ g = 43 ∨ (48 ≤ g ∧ g ≤ 57)) : okd (actD d c g) := by
  have hn := dn24 h
  have ht := ok_t h c (by omega)
  have hl := ok_l h c (by omega)
  refine ok_fog h ?_ ?_ ?_ ?_
  · unfold acT
    split
    · exact ok_t h
    · split
      · refine tk_ru (ok_t h) ?_
        unfold mi9; split <;> omega
      · refine tk_ru (ok_t h) ?_
        split <;> omega
  · unfold acL
    split
    · exact lam_ru (ok_l h) (by omega)
    · exact ok_l h
  · unfold acT
    split
    · exact ok_zt h
    · split
      · exact zr_ru (ok_zt h) hc _
      · exact zr_ru (ok_zt h) hc _
  · unfold acL
    split
    · exact zr_ru (ok_zl h) hc _
    · exact ok_zl h
set_option maxRecDepth 100000 in
set_option maxHeartbeats 4000000 in
theorem c_actR {σ : St} {b c : Nat} {d : Dat} (hr : rep σ b d) (ho : okd d) (hc : c < dn_ d) {g : Int} (hg : g = 42 ∨ g = 43 ∨ (48 ≤ g ∧ g ≤ 57)) : ∃ σ', run 34 0 [vR b, vI (c : Int), vI g, vU, vU] [] σ = some (vI (acR d c g), σ') ∧ chg [b + 1, b + 2, b + 3] σ σ' ∧ rep σ' b (actD d c g) := by
  have hn := dn24 ho
  have htc := ok_t ho c (by omega)
  have hlc := ok_l ho c (by omega)
  have hr0 := hr
  obtain ⟨hf, ⟨r6, r7, r8, r9, r10, r11, r12⟩, i1, i2, i3, i4, i5, i6, i7⟩ := hr.1
  obtain ⟨-, -, -, -, -, et, el, -⟩ := hr
  have a1 := c_atN i1 (show c < 24 by omega)
  have a2 := c_atN i2 (show c < 24 by omega)
  have a3 := fun v => c_putN i1 (show c < 24 by omega) v
  rw [et] at a1
  rw [el] at a2
  simp only [et] at a3
  unfold actD acT acL acR
  by_cases h1 : g = 42
  · subst h1
    simp only [↓reduceIte]
    obtain ⟨σ', e, hc1, hr1⟩ := c_lightR hr0 ho (show c < 24 by omega) (v := 1 - dla d c) (by omega)
    have w1 : wr (1 - dla d c) = 1 - dla d c := wr_id (by omega) (by omega)
    refine ⟨σ', ?_, chg_mo hc1 (by simp), hr1⟩
    simp (disch := first | assumption | omega | (left; assumption) | (refine aok_mk ?_ ?_ ?_ <;> first | assumption | omega) | (simp only [fok_sr, aok_sr]; first | assumption | omega | (left; assumption) | (refine aok_mk ?_ ?_ ?_ <;> first | assumption | omega)) | (simp; done)) only [e34_0, e34_1, e34_4, e34_5, e34_8, e34_9, e34_10, e34_12, e34_15, e34_16, e34_17, e34_18, e34_19, e34_22, e34_23, e34_26, e34_27, e34_30, e34_31, e34_32, e34_33, e34_35, e34_38, e34_39, e34_42, e34_43, e34_45, e34_46, e34_47, e34_48, e34_51, e34_54, e34_55, e34_57, e34_60, e34_61, e34_64, e34_65, e34_66, e34_67, e34_69, e34_70, e34_72, e34_73, e34_76, e34_77, e34_79, e34_80, e34_83, e34_86, e34_87, e34_89, e34_92, e34_93, e34_96, e34_97, eq_self, ne_a, ne_b, ne_c, Nat.reduceEqDiff, lt0, bnd_ok, psh_I, psh_L, psh_R, psh_U, gt_sr, gr_sr, sk_sr, nn_sr, ↓reduceIte, Int.toNat_natCast, Int.reduceToNat, r6, r7, a1, a2, w1, e]
  · by_cases h2 : g = 43
    · subst h2
      simp only [Int.reduceEq, ↓reduceIte]
      refine ⟨_, ?_, chg_sr (chg_rf _ _) (by simp), rep_t hr0 _⟩
      have w1 : wr (dt d c + 1) = dt d c + 1 := wr_id (by omega) (by omega)
      have w2 : (if dt d c + 1 < 9 then dt d c + 1 else 9) = mi9 (dt d c + 1) := rfl
      by_cases h3 : dt d c < 9
      · have h4 : ¬ 9 ≤ dt d c := by omega
        simp (disch := first | assumption | omega | (left; assumption) | (refine aok_mk ?_ ?_ ?_ <;> first | assumption | omega) | (simp only [fok_sr, aok_sr]; first | assumption | omega | (left; assumption) | (refine aok_mk ?_ ?_ ?_ <;> first | assumption | omega)) | (simp; done)) only [e34_0, e34_1, e34_4, e34_5, e34_8, e34_9, e34_10, e34_12, e34_15, e34_16, e34_17, e34_18, e34_19, e34_22, e34_23, e34_26, e34_27, e34_30, e34_31, e34_32, e34_33, e34_35, e34_38, e34_39, e34_42, e34_43, e34_45, e34_46, e34_47, e34_48, e34_51, e34_54, e34_55, e34_57, e34_60, e34_61, e34_64, e34_65, e34_66, e34_67, e34_69, e34_70, e34_72, e34_73, e34_76, e34_77, e34_79, e34_80, e34_83, e34_86, e34_87, e34_89, e34_92, e34_93, e34_96, e34_97, eq_self, ne_a, ne_b, ne_c, Nat.reduceEqDiff, lt0, bnd_ok, psh_I, psh_L, psh_R, psh_U, gt_sr, gr_sr, sk_sr, nn_sr, ↓reduceIte, Int.toNat_natCast, Int.reduceToNat, r6, r7, a1, a3, w1, w2, h3, h4, Int.reduceEq]
      · have h4 : 9 ≤ dt d c := by omega
        simp (disch := first | assumption | omega | (left; assumption) | (refine aok_mk ?_ ?_ ?_ <;> first | assumption | omega) | (simp only [fok_sr, aok_sr]; first | assumption | omega | (left; assumption) | (refine aok_mk ?_ ?_ ?_ <;> first | assumption | omega)) | (simp; done)) only [e34_0, e34_1, e34_4, e34_5, e34_8, e34_9, e34_10, e34_12, e34_15, e34_16, e34_17, e34_18, e34_19, e34_22, e34_23, e34_26, e34_27, e34_30, e34_31, e34_32, e34_33, e34_35, e34_38, e34_39, e34_42, e34_43, e34_45, e34_46, e34_47, e34_48, e34_51, e34_54, e34_55, e34_57, e34_60, e34_61, e34_64, e34_65, e34_66, e34_67, e34_69, e34_70, e34_72, e34_73, e34_76, e34_77, e34_79, e34_80, e34_83, e34_86, e34_87, e34_89, e34_92, e34_93, e34_96, e34_97, eq_self, ne_a, ne_b, ne_c, Nat.reduceEqDiff, lt0, bnd_ok, psh_I, psh_L, psh_R, psh_U, gt_sr, gr_sr, sk_sr, nn_sr, ↓reduceIte, Int.toNat_natCast, Int.reduceToNat, r6, r7, a1, a3, w1, w2, h3, h4, Int.reduceEq]
    · have w1 : wr (g - 48) = g - 48 := wr_id (by omega) (by omega)
      simp only [h1, h2, ↓reduceIte]
      refine ⟨_, ?_, chg_sr (chg_rf _ _) (by simp), rep_t hr0 _⟩
      by_cases h3 : g - 48 < dt d c
      · have h4 : ¬ dt d c ≤ g - 48 := by omega
        have h5 : ¬ dt d c < g - 48 := by omega
        simp (disch := first | assumption | omega | (left; assumption) | (refine aok_mk ?_ ?_ ?_ <;> first | assumption | omega) | (simp only [fok_sr, aok_sr]; first | assumption | omega | (left; assumption) | (refine aok_mk ?_ ?_ ?_ <;> first | assumption | omega)) | (simp; done)) only [e34_0, e34_1, e34_4, e34_5, e34_8, e34_9, e34_10, e34_12, e34_15, e34_16, e34_17, e34_18, e34_19, e34_22, e34_23, e34_26, e34_27, e34_30, e34_31, e34_32, e34_33, e34_35, e34_38, e34_39, e34_42, e34_43, e34_45, e34_46, e34_47, e34_48, e34_51, e34_54, e34_55, e34_57, e34_60, e34_61, e34_64, e34_65, e34_66, e34_67, e34_69, e34_70, e34_72, e34_73, e34_76, e34_77, e34_79, e34_80, e34_83, e34_86, e34_87, e34_89, e34_92, e34_93, e34_96, e34_97, eq_self, ne_a, ne_b, ne_c, Nat.reduceEqDiff, lt0, bnd_ok, psh_I, psh_L, psh_R, psh_U, gt_sr, gr_sr, sk_sr, nn_sr, ↓reduceIte, Int.toNat_natCast, Int.reduceToNat, r6, r7, a1, a3, w1, h1, h2, h3, h4, h5]
      · have h4 : dt d c ≤ g - 48 := by omega
        have h5 : (if g - 48 < dt d c then g - 48 else dt d c) = (if dt d c < g - 48 then dt d c else g - 48) := by
          split <;> split <;> omega
        simp (disch := first | assumption | omega | (left; assumption) | (refine aok_mk ?_ ?_ ?_ <;> first | assumption | omega) | (simp only [fok_sr, aok_sr]; first | assumption | omega | (left; assumption) | (refine aok_mk ?_ ?_ ?_ <;> first | assumption | omega)) | (simp; done)) only [e34_0, e34_1, e34_4, e34_5, e34_8, e34_9, e34_10, e34_12, e34_15, e34_16, e34_17, e34_18, e34_19, e34_22, e34_23, e34_26, e34_27, e34_30, e34_31, e34_32, e34_33, e34_35, e34_38, e34_39, e34_42, e34_43, e34_45, e34_46, e34_47, e34_48, e34_51, e34_54, e34_55, e34_57, e34_60, e34_61, e34_64, e34_65, e34_66, e34_67, e34_69, e34_70, e34_72, e34_73, e34_76, e34_77, e34_79, e34_80, e34_83, e34_86, e34_87, e34_89, e34_92, e34_93, e34_96, e34_97, r6, r7, a1, a3, w1, h1, h2, eq_self, bnd_ok, psh_I, psh_U, ↓reduceIte, h5, h4]
        rw [if_neg h3]
/-- lamps put out -/
def puo (la : Nat → Int) (x : Nat) : Nat → Int := fun c => if x.testBit c = true then 0 else la c
set_option maxRecDepth 100000 in
set_option maxHeartbeats 4000000 in
theorem c_putOutR {σ : St} {b x : Nat} {d : Dat} (hr : rep σ b d) (ho : okd d) (hx : x < 2147483648) : ∃ σ', run 59 0 [vR b, vI (x : Int), vU] [] σ = some (vU, σ') ∧ chg [b + 2, b + 3] σ σ' ∧ rep σ' b (fog d (dt d) (upto (dn_ d) (puo (dla d) x) (dla d))) := by
  have hn := dn24 ho
  obtain ⟨hb, hd, e3, e4, e5, et, el, em, ew, es, en⟩ := hr
  have hlu : lam (upto (dn_ d) (puo (dla d) x) (dla d)) := by
    intro c hc
    have := ok_l ho c hc
    unfold upto puo
    split
    · split
      · exact Or.inl rfl
      · exact this
    · exact this
  have ew9 := c_warm (σ := sr σ (b + 2) (upto (dn_ d) (puo (dla d) x) (dla d))) hb (dim_sr hd (by omega)) (by rw [gt_e]; exact hlu)
  rw [gt_e, gt_n _ _ (by omega), em] at ew9
  have hbb := hb
  obtain ⟨hf, ⟨r6, r7, r8, r9, r10, r11, r12⟩, i1, i2, i3, i4, i5, i6, i7⟩ := hb
  have d2 := hd.2.2.1
  have L : run 59 2 [vR b, vI (x : Int), vI 0] [] (sr σ (b + 2) (upto 0 (puo (dla d) x) (dla d))) = some (vU, sr (sr σ (b + 2) (upto (dn_ d) (puo (dla d) x) (dla d))) (b + 3) (upto (dR d * dC d) (mlt (dR d) (dC d) (upto (dn_ d) (puo (dla d) x) (dla d))) (dme d))) := by
    refine bk (P := fun k z => run 59 2 [vR b, vI (x : Int), vI z] [] (sr σ (b + 2) (upto k (puo (dla d) x) (dla d))) = some (vU, sr (sr σ (b + 2) (upto (dn_ d) (puo (dla d) x) (dla d))) (b + 3) (upto (dR d * dC d) (mlt (dR d) (dC d) (upto (dn_ d) (puo (dla d) x) (dla d))) (dme d)))) (n := dn_ d) ?_ ?_
    · have h4 : ¬ ((dn_ d : Nat) : Int) < ((dR d * dC d : Nat) : Int) := by unfold dn_; omega
      rw [e59_2]
      simp (disch := first | assumption | omega | (left; assumption) | (refine aok_mk ?_ ?_ ?_ <;> first | assumption | omega) | (simp only [fok_sr, aok_sr]; first | assumption | omega | (left; assumption) | (refine aok_mk ?_ ?_ ?_ <;> first | assumption | omega)) | (simp; done)) only [e59_0, e59_1, e59_3, e59_4, e59_7, e59_10, e59_11, e59_12, e59_13, e59_14, e59_15, e59_16, e59_19, e59_20, e59_23, e59_24, e59_25, e59_28, e59_31, e59_34, e59_35, e59_38, eq_self, ne_a, ne_b, ne_c, Nat.reduceEqDiff, lt0, bnd_ok, psh_I, psh_L, psh_R, psh_U, gt_sr, gr_sr, sk_sr, nn_sr, ↓reduceIte, Int.toNat_natCast, Int.reduceToNat, d2, h4, ew9]
    · intro k hk hk' ih
      have h4 : (k : Int) < ((dR d * dC d : Nat) : Int) := hk'
      have w5 : wr ((k : Int) + 1) = (k : Int) + 1 := wr_id (by omega) (by omega)
      have w6 := bit_N (a := x) (k := k) hx (by omega)
      have a1 := fun F v => c_putN (σ := sr σ (b + 2) F) (k := b + 2) i2 (show k < 24 by omega) v
      simp only [gt_e, sr_sr] at a1
      have hp : puo (dla d) x k = if x.testBit k = true then 0 else dla d k := rfl
      rw [e59_2]
      cases hbt : x.testBit k with
      | true =>
        rw [hbt, if_pos rfl] at hp
        have e9 : bt x k = 1 := by unfold bt; rw [hbt, if_pos rfl]
        have u := upto_s k (puo (dla d) x) (dla d) 0 hp.symm
        simp (disch := first | assumption | omega | (left; assumption) | (refine aok_mk ?_ ?_ ?_ <;> first | assumption | omega) | (simp only [fok_sr, aok_sr]; first | assumption | omega | (left; assumption) | (refine aok_mk ?_ ?_ ?_ <;> first | assumption | omega)) | (simp; done)) only [e59_0, e59_1, e59_3, e59_4, e59_7, e59_10, e59_11, e59_12, e59_13, e59_14, e59_15, e59_16, e59_19, e59_20, e59_23, e59_24, e59_25, e59_28, e59_31, e59_34, e59_35, e59_38, eq_self, ne_a, ne_b, ne_c, Nat.reduceEqDiff, lt0, bnd_ok, psh_I, psh_L, psh_R, psh_U, gt_sr, gr_sr, sk_sr, nn_sr, ↓reduceIte, Int.toNat_natCast, Int.reduceToNat, d2, h4, w6, e9, r7, a1, u, w5]
        exact ih
      | false =>
        rw [hbt, if_neg Bool.false_ne_true] at hp
        have e9 : bt x k = 0 := by unfold bt; rw [hbt]; rfl
        have u := upto_s k (puo (dla d) x) (dla d) (dla d k) hp.symm
        have u2 : upto (k + 1) (puo (dla d) x) (dla d) = upto k (puo (dla d) x) (dla d) := by
          rw [← u]
          funext i
          unfold ru
          split
          · next h => subst h; unfold upto; rw [if_neg (Nat.lt_irrefl _)]
          · rfl
        rw [u2] at ih
        simp (disch := first | assumption | omega | (left; assumption) | (refine aok_mk ?_ ?_ ?_ <;> first | assumption | omega) | (simp only [fok_sr, aok_sr]; first | assumption | omega | (left; assumption) | (refine aok_mk ?_ ?_ ?_ <;> first | assumption | omega)) | (simp; done)) only [e59_0, e59_1, e59_3, e59_4, e59_7, e59_10, e59_11, e59_12, e59_13, e59_14, e59_15, e59_16, e59_19, e59_20, e59_23, e59_24, e59_25, e59_28, e59_31, e59_34, e59_35, e59_38, eq_self, ne_a, ne_b, ne_c, Nat.reduceEqDiff, lt0, bnd_ok, psh_I, psh_L, psh_R, psh_U, gt_sr, gr_sr, sk_sr, nn_sr, ↓reduceIte, Int.toNat_natCast, Int.reduceToNat, d2, h4, w6, e9, w5, Int.reduceEq]
        exact ih
  rw [upto_0, sr_self σ (b + 2) _ el.symm] at L
  refine ⟨sr (sr σ (b + 2) (upto (dn_ d) (puo (dla d) x) (dla d))) (b + 3) (upto (dR d * dC d) (mlt (dR d) (dC d) (upto (dn_ d) (puo (dla d) x) (dla d))) (dme d)), ?_, ?_, ?_⟩
  · simp (disch := first | assumption | omega | (left; assumption) | (refine aok_mk ?_ ?_ ?_ <;> first | assumption | omega) | (simp only [fok_sr, aok_sr]; first | assumption | omega | (left; assumption) | (refine aok_mk ?_ ?_ ?_ <;> first | assumption | omega)) | (simp; done)) only [e59_0, e59_1, e59_3, e59_4, e59_7, e59_10, e59_11, e59_12, e59_13, e59_14, e59_15, e59_16, e59_19, e59_20, e59_23, e59_24, e59_25, e59_28, e59_31, e59_34, e59_35, e59_38, eq_self, ne_a, ne_b, ne_c, Nat.reduceEqDiff, lt0, bnd_ok, psh_I, psh_L, psh_R, psh_U, gt_sr, gr_sr, sk_sr, nn_sr, ↓reduceIte, Int.toNat_natCast, Int.reduceToNat]
    exact L
  · exact chg_sr (chg_sr (chg_rf _ _) (by simp)) (by simp)
  · refine ⟨hbb, dim_sr (dim_sr hd (by omega)) (by omega), ?_⟩
    simp only [gt_sr, ne_a, ne_b, ne_c, ↓reduceIte, Nat.reduceEqDiff]
    refine ⟨e3, e4, e5, et, rfl, ?_, ew, es, en⟩
    unfold dme
    rw [upto_upto]
    rfl
/-- an array made, its reference kept in a field -/
def mk1 (σ : St) (b f kd sz : Nat) : St := rr (al σ kd sz) b (ru (gr (al σ kd sz) b) f (nn σ + 1))
theorem mk1_nn (σ : St) (b f kd sz : Nat) : nn (mk1 σ b f kd sz) = nn σ + 1 := rfl
theorem mk1_nt (σ : St) (b f kd sz : Nat) : nt (mk1 σ b f kd sz) = nt σ + sz := rfl
theorem mk1_sl (σ : St) (b f kd sz : Nat) : sl (mk1 σ b f kd sz) = sl σ := rfl
theorem mk1_sx (σ : St) (b f kd sz : Nat) : sx (mk1 σ b f kd sz) = sx σ := rfl
theorem mk1_sk (σ : St) (b f kd sz : Nat) : sk (mk1 σ b f kd sz) = ru (sk σ) (nn σ + 1) (kd, sz) := rfl
theorem mk1_gt (σ : St) (b f kd sz : Nat) : gt (mk1 σ b f kd sz) = ru (gt σ) (nn σ + 1) z0 := rfl
theorem mk1_gr {σ : St} {b : Nat} (f kd sz : Nat) (h : b ≤ nn σ) : gr (mk1 σ b f kd sz) = ru (ru (gr σ) (nn σ + 1) (fun _ => 0)) b (ru (gr σ b) f (nn σ + 1)) := by
  funext i
  unfold mk1
  rw [gr_rr, gr_al, if_neg (show ¬ b = nn σ + 1 by omega)]
  show _ = if i = b then _ else if i = nn σ + 1 then _ else _
  split
  · rfl
  · rw [gr_al]
theorem mk1_fok {σ : St} {k c : Nat} (b f kd sz : Nat) (h : fok σ k c) : fok (mk1 σ b f kd sz) k c := fok_al h
theorem i32 : Int.toNat 24 = 24 := rfl
set_option maxRecDepth 100000 in
set_option maxHeartbeats 4000000 in
theorem c_Binit {σ : St} {b : Nat} (hf : fok σ b 0) (hb : nn σ = b) : ∃ σ', run 1 0 [vR b] [] σ = some (vU, σ') ∧ nn σ' = b + 7 ∧ nt σ' = nt σ + 208 ∧ sl σ' = sl σ ∧ sx σ' = sx σ ∧ (∀ k, k ≤ b → sk σ' k = sk σ k) ∧ (∀ k, k < b → gr σ' k = gr σ k ∧ gt σ' k = gt σ k) ∧ rep σ' b (nw 3 4 z0 z0) := by
  have hb1 := hf.1
  have st1 : ∀ σ, fok σ b 0 → run 1 4 [vR b] [] σ = run 1 12 [vR b] [] (mk1 σ b 6 4 24) := fun σ h => by
    have h2 := fok_al (kd := 4) (sz := 24) h
    simp (disch := first | assumption | omega | (left; assumption) | (refine aok_mk ?_ ?_ ?_ <;> first | assumption | omega) | (simp only [fok_sr, aok_sr]; first | assumption | omega | (left; assumption) | (refine aok_mk ?_ ?_ ?_ <;> first | assumption | omega)) | (simp; done)) only [e1_4, e1_5, e1_7, e1_9, eq_self, ne_a, ne_b, ne_c, Nat.reduceEqDiff, lt0, bnd_ok, psh_I, psh_L, psh_R, psh_U, gt_sr, gr_sr, sk_sr, nn_sr, ↓reduceIte, Int.toNat_natCast, Int.reduceToNat]
    rfl
  have st2 : ∀ σ, fok σ b 0 → run 1 12 [vR b] [] σ = run 1 20 [vR b] [] (mk1 σ b 7 4 24) := fun σ h => by
    have h2 := fok_al (kd := 4) (sz := 24) h
    simp (disch := first | assumption | omega | (left; assumption) | (refine aok_mk ?_ ?_ ?_ <;> first | assumption | omega) | (simp only [fok_sr, aok_sr]; first | assumption | omega | (left; assumption) | (refine aok_mk ?_ ?_ ?_ <;> first | assumption | omega)) | (simp; done)) only [e1_12, e1_13, e1_15, e1_17, eq_self, ne_a, ne_b, ne_c, Nat.reduceEqDiff, lt0, bnd_ok, psh_I, psh_L, psh_R, psh_U, gt_sr, gr_sr, sk_sr, nn_sr, ↓reduceIte, Int.toNat_natCast, Int.reduceToNat]
    rfl
  have st3 : ∀ σ, fok σ b 0 → run 1 20 [vR b] [] σ = run 1 28 [vR b] [] (mk1 σ b 8 4 24) := fun σ h => by
    have h2 := fok_al (kd := 4) (sz := 24) h
    simp (disch := first | assumption | omega | (left; assumption) | (refine aok_mk ?_ ?_ ?_ <;> first | assumption | omega) | (simp only [fok_sr, aok_sr]; first | assumption | omega | (left; assumption) | (refine aok_mk ?_ ?_ ?_ <;> first | assumption | omega)) | (simp; done)) only [e1_20, e1_21, e1_23, e1_25, eq_self, ne_a, ne_b, ne_c, Nat.reduceEqDiff, lt0, bnd_ok, psh_I, psh_L, psh_R, psh_U, gt_sr, gr_sr, sk_sr, nn_sr, ↓reduceIte, Int.toNat_natCast, Int.reduceToNat]
    rfl
  have st4 : ∀ σ, fok σ b 0 → run 1 28 [vR b] [] σ = run 1 36 [vR b] [] (mk1 σ b 9 4 24) := fun σ h => by
    have h2 := fok_al (kd := 4) (sz := 24) h
    simp (disch := first | assumption | omega | (left; assumption) | (refine aok_mk ?_ ?_ ?_ <;> first | assumption | omega) | (simp only [fok_sr, aok_sr]; first | assumption | omega | (left; assumption) | (refine aok_mk ?_ ?_ ?_ <;> first | assumption | omega)) | (simp; done)) only [e1_28, e1_29, e1_31, e1_33, eq_self, ne_a, ne_b, ne_c, Nat.reduceEqDiff, lt0, bnd_ok, psh_I, psh_L, psh_R, psh_U, gt_sr, gr_sr, sk_sr, nn_sr, ↓reduceIte, Int.toNat_natCast, Int.reduceToNat]
    rfl
  have st5 : ∀ σ, fok σ b 0 → run 1 36 [vR b] [] σ = run 1 44 [vR b] [] (mk1 σ b 10 4 96) := fun σ h => by
    have h2 := fok_al (kd := 4) (sz := 96) h
    simp (disch := first | assumption | omega | (left; assumption) | (refine aok_mk ?_ ?_ ?_ <;> first | assumption | omega) | (simp only [fok_sr, aok_sr]; first | assumption | omega | (left; assumption) | (refine aok_mk ?_ ?_ ?_ <;> first | assumption | omega)) | (simp; done)) only [e1_36, e1_37, e1_39, e1_41, eq_self, ne_a, ne_b, ne_c, Nat.reduceEqDiff, lt0, bnd_ok, psh_I, psh_L, psh_R, psh_U, gt_sr, gr_sr, sk_sr, nn_sr, ↓reduceIte, Int.toNat_natCast, Int.reduceToNat]
    rfl
  have st6 : ∀ σ, fok σ b 0 → run 1 44 [vR b] [] σ = run 1 52 [vR b] [] (mk1 σ b 11 4 8) := fun σ h => by
    have h2 := fok_al (kd := 4) (sz := 8) h
    simp (disch := first | assumption | omega | (left; assumption) | (refine aok_mk ?_ ?_ ?_ <;> first | assumption | omega) | (simp only [fok_sr, aok_sr]; first | assumption | omega | (left; assumption) | (refine aok_mk ?_ ?_ ?_ <;> first | assumption | omega)) | (simp; done)) only [e1_44, e1_45, e1_47, e1_49, eq_self, ne_a, ne_b, ne_c, Nat.reduceEqDiff, lt0, bnd_ok, psh_I, psh_L, psh_R, psh_U, gt_sr, gr_sr, sk_sr, nn_sr, ↓reduceIte, Int.toNat_natCast, Int.reduceToNat]
    rfl
  have st7 : ∀ σ, fok σ b 0 → run 1 52 [vR b] [] σ = run 1 60 [vR b] [] (mk1 σ b 12 4 8) := fun σ h => by
    have h2 := fok_al (kd := 4) (sz := 8) h
    simp (disch := first | assumption | omega | (left; assumption) | (refine aok_mk ?_ ?_ ?_ <;> first | assumption | omega) | (simp only [fok_sr, aok_sr]; first | assumption | omega | (left; assumption) | (refine aok_mk ?_ ?_ ?_ <;> first | assumption | omega)) | (simp; done)) only [e1_52, e1_53, e1_55, e1_57, eq_self, ne_a, ne_b, ne_c, Nat.reduceEqDiff, lt0, bnd_ok, psh_I, psh_L, psh_R, psh_U, gt_sr, gr_sr, sk_sr, nn_sr, ↓reduceIte, Int.toNat_natCast, Int.reduceToNat]
    rfl
  have k1 := mk1_fok b 6 4 24 hf
  have k2 := mk1_fok b 7 4 24 k1
  have k3 := mk1_fok b 8 4 24 k2
  have k4 := mk1_fok b 9 4 24 k3
  have k5 := mk1_fok b 10 4 96 k4
  have k6 := mk1_fok b 11 4 8 k5
  have k7 := mk1_fok b 12 4 8 k6
  have hrun : run 1 0 [vR b] [] σ = run 1 60 [vR b] [] (mk1 (mk1 (mk1 (mk1 (mk1 (mk1 (mk1 σ b 6 4 24) b 7 4 24) b 8 4 24) b 9 4 24) b 10 4 96) b 11 4 8) b 12 4 8) := by
    rw [← st7 _ k6, ← st6 _ k5, ← st5 _ k4, ← st4 _ k3, ← st3 _ k2, ← st2 _ k1, ← st1 _ hf]
    simp (disch := first | assumption | omega | (left; assumption) | (refine aok_mk ?_ ?_ ?_ <;> first | assumption | omega) | (simp only [fok_sr, aok_sr]; first | assumption | omega | (left; assumption) | (refine aok_mk ?_ ?_ ?_ <;> first | assumption | omega)) | (simp; done)) only [e1_0, e1_1, eq_self, ne_a, ne_b, ne_c, Nat.reduceEqDiff, lt0, bnd_ok, psh_I, psh_L, psh_R, psh_U, gt_sr, gr_sr, sk_sr, nn_sr, ↓reduceIte, Int.toNat_natCast, Int.reduceToNat]
  have q1 := mk1_gr (σ := σ) (b := b) 6 4 24 (by omega)
  have n1 := mk1_nn σ b 6 4 24
  have s1 := mk1_sk σ b 6 4 24
  have t1 := mk1_gt σ b 6 4 24
  have v1 := mk1_nt σ b 6 4 24
  have l1 := mk1_sl σ b 6 4 24
  have x1 := mk1_sx σ b 6 4 24
  generalize mk1 σ b 6 4 24 = σ1 at *
  have q2 := mk1_gr (σ := σ1) (b := b) 7 4 24 (by omega)
  have n2 := mk1_nn σ1 b 7 4 24
  have s2 := mk1_sk σ1 b 7 4 24
  have t2 := mk1_gt σ1 b 7 4 24
  have v2 := mk1_nt σ1 b 7 4 24
  have l2 := mk1_sl σ1 b 7 4 24
  have x2 := mk1_sx σ1 b 7 4 24
  generalize mk1 σ1 b 7 4 24 = σ2 at *
  have q3 := mk1_gr (σ := σ2) (b := b) 8 4 24 (by omega)
  have n3 := mk1_nn σ2 b 8 4 24
  have s3 := mk1_sk σ2 b 8 4 24
  have t3 := mk1_gt σ2 b 8 4 24
  have v3 := mk1_nt σ2 b 8 4 24
  have l3 := mk1_sl σ2 b 8 4 24
  have x3 := mk1_sx σ2 b 8 4 24
  generalize mk1 σ2 b 8 4 24 = σ3 at *
  have q4 := mk1_gr (σ := σ3) (b := b) 9 4 24 (by omega)
  have n4 := mk1_nn σ3 b 9 4 24
  have s4 := mk1_sk σ3 b 9 4 24
  have t4 := mk1_gt σ3 b 9 4 24
  have v4 := mk1_nt σ3 b 9 4 24
  have l4 := mk1_sl σ3 b 9 4 24
  have x4 := mk1_sx σ3 b 9 4 24
  generalize mk1 σ3 b 9 4 24 = σ4 at *
  have q5 := mk1_gr (σ := σ4) (b := b) 10 4 96 (by omega)
  have n5 := mk1_nn σ4 b 10 4 96
  have s5 := mk1_sk σ4 b 10 4 96
  have t5 := mk1_gt σ4 b 10 4 96
  have v5 := mk1_nt σ4 b 10 4 96
  have l5 := mk1_sl σ4 b 10 4 96
  have x5 := mk1_sx σ4 b 10 4 96
  generalize mk1 σ4 b 10 4 96 = σ5 at *
  have q6 := mk1_gr (σ := σ5) (b := b) 11 4 8 (by omega)
  have n6 := mk1_nn σ5 b 11 4 8
  have s6 := mk1_sk σ5 b 11 4 8
  have t6 := mk1_gt σ5 b 11 4 8
  have v6 := mk1_nt σ5 b 11 4 8
  have l6 := mk1_sl σ5 b 11 4 8
  have x6 := mk1_sx σ5 b 11 4 8
  generalize mk1 σ5 b 11 4 8 = σ6 at *
  have q7 := mk1_gr (σ := σ6) (b := b) 12 4 8 (by omega)
  have n7 := mk1_nn σ6 b 12 4 8
  have s7 := mk1_sk σ6 b 12 4 8
  have t7 := mk1_gt σ6 b 12 4 8
  have v7 := mk1_nt σ6 b 12 4 8
  have l7 := mk1_sl σ6 b 12 4 8
  have x7 := mk1_sx σ6 b 12 4 8
  generalize mk1 σ6 b 12 4 8 = σ7 at *
  clear st1 st2 st3 st4 st5 st6 st7
  rw [hb] at n1
  rw [n1] at n2
  rw [n2] at n3
  rw [n3] at n4
  rw [n4] at n5
  rw [n5] at n6
  rw [n6] at n7
  rw [q1, n1] at q2
  rw [q2, n2] at q3
  rw [q3, n3] at q4
  rw [q4, n4] at q5
  rw [q5, n5] at q6
  rw [q6, n6] at q7
  rw [s1, n1] at s2
  rw [s2, n2] at s3
  rw [s3, n3] at s4
  rw [s4, n4] at s5
  rw [s5, n5] at s6
  rw [s6, n6] at s7
  rw [t1, n1] at t2
  rw [t2, n2] at t3
  rw [t3, n3] at t4
  rw [t4, n4] at t5
  rw [t5, n5] at t6
  rw [t6, n6] at t7
  rw [hb] at q7 s7 t7
  have hbs : bsh σ7 b := by
    refine ⟨k7, ?_, ?_⟩
    · rw [q7]
      simp only [ru, Nat.reduceEqDiff, ↓reduceIte, ne_a, ne_b, ne_c, Nat.add_assoc, Nat.reduceAdd]
      try (refine ⟨?_, ?_, ?_, ?_, ?_, ?_, ?_⟩ <;> first | trivial | rfl)
    · unfold ia fok
      rw [s7, n7]
      simp only [ru, Nat.reduceEqDiff, ↓reduceIte, ne_a, ne_b, ne_c, Nat.add_assoc, Nat.reduceAdd, and_true]
      omega
  have g : ∀ i, 1 ≤ i → i ≤ 7 → gt σ7 (b + i) = z0 := by
    intro i h1 h2
    rw [t7]
    obtain rfl | rfl | rfl | rfl | rfl | rfl | rfl : i = 1 ∨ i = 2 ∨ i = 3 ∨ i = 4 ∨ i = 5 ∨ i = 6 ∨ i = 7 := by omega
    all_goals simp only [ru, Nat.reduceEqDiff, ↓reduceIte, ne_a, ne_b, ne_c, Nat.add_assoc, Nat.reduceAdd]
  have hj : jb σ7 b := by
    unfold jb
    rw [g 1 (by omega) (by omega), g 2 (by omega) (by omega), g 3 (by omega) (by omega), g 5 (by omega) (by omega), g 6 (by omega) (by omega), g 7 (by omega) (by omega)]
    exact ⟨hbs, zr_z0 _, zr_z0 _, zr_z0 _, zr_z0 _, zr_z0 _, zr_z0 _⟩
  obtain ⟨σ', e, hc, hr⟩ := c_clear hj (R := 3) (C := 4) (by omega)
  rw [g 6 (by omega) (by omega), g 7 (by omega) (by omega)] at hr
  refine ⟨σ', ?_, by rw [hc.1, n7], by rw [hc.2.1, v7, v6, v5, v4, v3, v2, v1], by rw [hc.2.2.2.2.1, l7, l6, l5, l4, l3, l2, l1], by rw [hc.2.2.2.2.2.1, x7, x6, x5, x4, x3, x2, x1], ?_, ?_, hr⟩
  · rw [hrun]
    simp (disch := first | assumption | omega | (left; assumption) | (refine aok_mk ?_ ?_ ?_ <;> first | assumption | omega) | (simp only [fok_sr, aok_sr]; first | assumption | omega | (left; assumption) | (refine aok_mk ?_ ?_ ?_ <;> first | assumption | omega)) | (simp; done)) only [e1_60, e1_61, e1_62, e1_63, e1_66, eq_self, ne_a, ne_b, ne_c, Nat.reduceEqDiff, lt0, bnd_ok, psh_I, psh_L, psh_R, psh_U, gt_sr, gr_sr, sk_sr, nn_sr, ↓reduceIte, Int.toNat_natCast, Int.reduceToNat, show (3 : Int) = ((3 : Nat) : Int) from rfl, show (4 : Int) = ((4 : Nat) : Int) from rfl, e]
  · intro k hk
    rw [hc.2.2.1, s7]
    simp only [ru]
    rw [if_neg (by omega), if_neg (by omega), if_neg (by omega), if_neg (by omega), if_neg (by omega), if_neg (by omega), if_neg (by omega)]
  · intro k hk
    have e9 := hc.2.2.2.2.2.2 k (by simp; omega)
    rw [hc.2.2.2.1, e9, q7, t7]
    simp only [ru]
    constructor
    · simp only [show ∀ n, (k = b + n + 1) = False from fun n => eq_false (by omega), show (k = b + 1) = False from eq_false (by omega), show (k = b) = False from eq_false (by omega), ↓reduceIte]
    · simp only [show ∀ n, (k = b + n + 1) = False from fun n => eq_false (by omega), show (k = b + 1) = False from eq_false (by omega), ↓reduceIte]
